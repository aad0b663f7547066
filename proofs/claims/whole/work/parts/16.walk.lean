/-! Walks, by program. -/
def wp_X10_queued_82 (K22 : Nat → Int32 → Int32 → Int32 → Sg → Prop) (K30 : Nat → Int32 → Int32 → Int32 → Int32 → Sg → Prop) (this : Nat) (v1 : Int32) (v3 : Int32) (v4 : Int32) (v5 : Int32) (σ : Sg) (Post : Rs → Sg → Prop) : Prop := (K30 this v1 v3 v4 (v5 + 1) σ)
set_option maxRecDepth 100000 in
set_option maxHeartbeats 4000000 in
theorem wv_X10_queued_82 {L9 : Launch} {G : Cx} {Post : Rs → Sg → Prop} (hl : L9.stackTraces = false) (hG : CX L9 G yX10_queued cX10_queued 6 (some .int) [] { frames := 1, cells := 0, slots := 0, locals := 22 }) {K22 : Nat → Int32 → Int32 → Int32 → Sg → Prop} {K30 : Nat → Int32 → Int32 → Int32 → Int32 → Sg → Prop} (hK22 : ∀ (this : Nat) (v1 : Int32) (v3 : Int32) (v4 : Int32) (ζ : Sg), K22 this v1 v3 v4 ζ → V G (QM G 0 0 Post) 22 [some (.ref this), some (.int v1), none, some (.int v3), some (.int v4), none] [] ζ 0 0) (hK30 : ∀ (this : Nat) (v1 : Int32) (v3 : Int32) (v4 : Int32) (v5 : Int32) (ζ : Sg), K30 this v1 v3 v4 v5 ζ → V G (QM G 0 0 Post) 30 [some (.ref this), some (.int v1), none, some (.int v3), some (.int v4), some (.int v5)] [] ζ 0 0) : ∀ (this : Nat) (v1 : Int32) (v3 : Int32) (v4 : Int32) (v5 : Int32) (σ : Sg), wp_X10_queued_82 K22 K30 this v1 v3 v4 v5 σ Post → V G (QM G 0 0 Post) 82 [some (.ref this), some (.int v1), none, some (.int v3), some (.int v4), some (.int v5)] [] σ 0 0 := by
  intro this v1 v3 v4 v5 σ h
  unfold wp_X10_queued_82 at h
  refine V_iincv (c := 1) hG dX10_queued_82 rfl (by decide) (hpV rfl rfl) ?_
  refine V_goto (tgt := 30) hG dX10_queued_85 (by decide) ?_
  refine V_forget (lo' := [some (.ref this), some (.int v1), none, some (.int v3), some (.int v4), some (.int (v5 + 1))]) ⟨rfl, ⟨rfl, ⟨rfl, ⟨rfl, ⟨rfl, trivial⟩⟩⟩⟩⟩ ?_
  exact hK30 _ _ _ _ _ _ h
def wp_X10_queued_30 (K22 : Nat → Int32 → Int32 → Int32 → Sg → Prop) : Nat → Nat → Int32 → Int32 → Int32 → Int32 → Sg → (Rs → Sg → Prop) → Prop
  | 0, _, _, _, _, _, _, _ => False
  | f + 1, this, v1, v3, v4, v5, σ, Post => this % 32 = 10 ∧ (((sI σ this 14) ≤ v5 → (K22 this v1 v3 (v4 + (-1)) σ)) ∧ (¬ (sI σ this 14) ≤ v5 → this % 32 = 10 ∧ ∀ o1, o1 = sP σ this 18 → ∃ u2, o1 = some u2 ∧ aty (u2 % 32) = some .int ∧ ∃ j3, v5 = nI j3 ∧ j3 < aln u2 ∧ ((¬ (sI σ u2 j3) = (1 : Int32) → (wp_X10_queued_82 K22 (fun z0 z1 z2 z3 z4 ζ => wp_X10_queued_30 K22 f z0 z1 z2 z3 z4 ζ Post) this v1 v3 v4 v5 σ Post)) ∧ ((sI σ u2 j3) = (1 : Int32) → this % 32 = 10 ∧ wp_X10_workOf this v5 σ (KI (fun x5 σ4 => ((¬ x5 = v1 → (wp_X10_queued_82 K22 (fun z0 z1 z2 z3 z4 ζ => wp_X10_queued_30 K22 f z0 z1 z2 z3 z4 ζ Post) this v1 v3 v4 v5 σ4 Post)) ∧ (x5 = v1 → this % 32 = 10 ∧ ∀ o6, o6 = sP σ4 this 20 → ∃ u7, o6 = some u7 ∧ aty (u7 % 32) = some .int ∧ ∃ j8, v5 = nI j8 ∧ j8 < aln u7 ∧ ((¬ (sI σ4 u7 j8) = v4 → (wp_X10_queued_82 K22 (fun z0 z1 z2 z3 z4 ζ => wp_X10_queued_30 K22 f z0 z1 z2 z3 z4 ζ Post) this v1 v3 v4 v5 σ4 Post)) ∧ ((sI σ4 u7 j8) = v4 → ((¬ v3 = 0 → (wp_X10_queued_82 K22 (fun z0 z1 z2 z3 z4 ζ => wp_X10_queued_30 K22 f z0 z1 z2 z3 z4 ζ Post) this v1 (v3 + (-1)) v4 v5 σ4 Post)) ∧ (v3 = 0 → Post (.inl (some (.int v5))) σ4))))))) (fun E σ4 => Post (.inr E) σ4))))))
set_option maxRecDepth 100000 in
set_option maxHeartbeats 4000000 in
theorem wv_X10_queued_30 {L9 : Launch} {G : Cx} {Post : Rs → Sg → Prop} (hl : L9.stackTraces = false) (hG : CX L9 G yX10_queued cX10_queued 6 (some .int) [] { frames := 1, cells := 0, slots := 0, locals := 22 }) {K22 : Nat → Int32 → Int32 → Int32 → Sg → Prop} (hK22 : ∀ (this : Nat) (v1 : Int32) (v3 : Int32) (v4 : Int32) (ζ : Sg), K22 this v1 v3 v4 ζ → V G (QM G 0 0 Post) 22 [some (.ref this), some (.int v1), none, some (.int v3), some (.int v4), none] [] ζ 0 0) : ∀ (f : Nat) (this : Nat) (v1 : Int32) (v3 : Int32) (v4 : Int32) (v5 : Int32) (σ : Sg), wp_X10_queued_30 K22 f this v1 v3 v4 v5 σ Post → V G (QM G 0 0 Post) 30 [some (.ref this), some (.int v1), none, some (.int v3), some (.int v4), some (.int v5)] [] σ 0 0 := by
  intro f
  induction f with
  | zero => intro _ _ _ _ _ σ h; exact h.elim
  | succ f ih =>
    intro this v1 v3 v4 v5 σ h
    refine V_iload hG dX10_queued_30 rfl ?_
    refine V_aload_n (v := .ref this) hG dX10_queued_32 rfl rfl ?_
    obtain ⟨ht, h⟩ := h
    refine V_getI hG dX10_queued_33 fl_X10_176 rfl ht ?_
    refine V_icmp_ge (tgt := 88) hG dX10_queued_36 (by decide) (fun c => ?_) (fun c => ?_)
    · replace h := h.1 c
      refine V_iincv (c := (-1)) hG dX10_queued_88 rfl (by decide) (hpV rfl rfl) ?_
      refine V_goto (tgt := 22) hG dX10_queued_91 (by decide) ?_
      refine V_forget (lo' := [some (.ref this), some (.int v1), none, some (.int v3), some (.int (v4 + (-1))), none]) ⟨rfl, ⟨rfl, ⟨rfl, ⟨rfl, trivial⟩⟩⟩⟩ ?_
      exact hK22 _ _ _ _ _ h
    · replace h := h.2 c
      refine V_aload_n (v := .ref this) hG dX10_queued_39 rfl rfl ?_
      obtain ⟨ht, h⟩ := h
      refine V_getPv hG dX10_queued_40 fl_X10_62 rfl ht (fun o1 ho => ?_)
      replace h := h o1 ho
      refine V_iload hG dX10_queued_43 rfl ?_
      obtain ⟨u2, he, h⟩ := h
      subst he
      obtain ⟨ha, j3, hi, hj, h⟩ := h
      refine V_iald hG dX10_queued_45 ha hi hj ?_
      refine V_iconst (v := 1) hG (by decide) dX10_queued_46 ?_
      refine V_icmp_ne (tgt := 82) hG dX10_queued_47 (by decide) (fun c => ?_) (fun c => ?_)
      · replace h := h.1 c
        refine V_forget (lo' := [some (.ref this), some (.int v1), none, some (.int v3), some (.int v4), some (.int v5)]) ⟨rfl, ⟨rfl, ⟨rfl, ⟨rfl, ⟨rfl, trivial⟩⟩⟩⟩⟩ ?_
        refine V_widen (k' := 0) (n' := 0) (by first | exact Nat.le_of_ble_eq_true rfl | omega | (dsimp only; omega)) (by first | exact Nat.le_of_ble_eq_true rfl | omega | (dsimp only; omega)) ?_
        exact wv_X10_queued_82 hl hG hK22 (fun z0 z1 z2 z3 z4 ζ hz => ih z0 z1 z2 z3 z4 ζ hz) _ _ _ _ _ _ h
      · replace h := h.2 c
        refine V_aload_n (v := .ref this) hG dX10_queued_50 rfl rfl ?_
        refine V_iload hG dX10_queued_51 rfl ?_
        obtain ⟨ht, h⟩ := h
        refine V_cVI _ _ hG dX10_queued_53 (ct_X10_workOf hl h) mv_X10_workOf ml_X10_196 ht rfl rfl rfl rfl (by first | exact Nat.le_of_ble_eq_true rfl | (simp only [List.map_cons, List.map_nil, List.sum_cons, List.sum_nil, cat_rf]; exact Nat.le_of_ble_eq_true rfl)) (Nat.le_of_ble_eq_true rfl) (Nat.le_of_ble_eq_true rfl) (by first | exact Nat.le_of_ble_eq_true rfl | omega | (dsimp only; omega)) (by first | exact Nat.le_of_ble_eq_true rfl | omega | (dsimp only; omega)) ?_ (fun x5 σ4 h9 => ?_)
        · exact fun E σ4 hx => VX_out hG (by first | exact Nat.le_of_ble_eq_true rfl | omega | (dsimp only; omega)) (by first | exact Nat.le_of_ble_eq_true rfl | omega | (dsimp only; omega)) hx
        · replace h := h9
          clear h9
          refine V_iload_n hG dX10_queued_56 rfl ?_
          refine V_icmp_ne (tgt := 82) hG dX10_queued_57 (by decide) (fun c => ?_) (fun c => ?_)
          · replace h := h.1 c
            refine V_forget (lo' := [some (.ref this), some (.int v1), none, some (.int v3), some (.int v4), some (.int v5)]) ⟨rfl, ⟨rfl, ⟨rfl, ⟨rfl, ⟨rfl, trivial⟩⟩⟩⟩⟩ ?_
            refine V_widen (k' := 0) (n' := 0) (by first | exact Nat.le_of_ble_eq_true rfl | omega | (dsimp only; omega)) (by first | exact Nat.le_of_ble_eq_true rfl | omega | (dsimp only; omega)) ?_
            exact wv_X10_queued_82 hl hG hK22 (fun z0 z1 z2 z3 z4 ζ hz => ih z0 z1 z2 z3 z4 ζ hz) _ _ _ _ _ _ h
          · replace h := h.2 c
            refine V_aload_n (v := .ref this) hG dX10_queued_60 rfl rfl ?_
            obtain ⟨ht, h⟩ := h
            refine V_getPv hG dX10_queued_61 fl_X10_68 rfl ht (fun o6 ho => ?_)
            replace h := h o6 ho
            refine V_iload hG dX10_queued_64 rfl ?_
            obtain ⟨u7, he, h⟩ := h
            subst he
            obtain ⟨ha, j8, hi, hj, h⟩ := h
            refine V_iald hG dX10_queued_66 ha hi hj ?_
            refine V_iload hG dX10_queued_67 rfl ?_
            refine V_icmp_ne (tgt := 82) hG dX10_queued_69 (by decide) (fun c => ?_) (fun c => ?_)
            · replace h := h.1 c
              refine V_forget (lo' := [some (.ref this), some (.int v1), none, some (.int v3), some (.int v4), some (.int v5)]) ⟨rfl, ⟨rfl, ⟨rfl, ⟨rfl, ⟨rfl, trivial⟩⟩⟩⟩⟩ ?_
              refine V_widen (k' := 0) (n' := 0) (by first | exact Nat.le_of_ble_eq_true rfl | omega | (dsimp only; omega)) (by first | exact Nat.le_of_ble_eq_true rfl | omega | (dsimp only; omega)) ?_
              exact wv_X10_queued_82 hl hG hK22 (fun z0 z1 z2 z3 z4 ζ hz => ih z0 z1 z2 z3 z4 ζ hz) _ _ _ _ _ _ h
            · replace h := h.2 c
              refine V_iload_n hG dX10_queued_72 rfl ?_
              refine V_if_ne (tgt := 79) hG dX10_queued_73 (by decide) (fun c => ?_) (fun c => ?_)
              · replace h := h.1 c
                refine V_iincv (c := (-1)) hG dX10_queued_79 rfl (by decide) (hpN rfl) ?_
                refine V_forget (lo' := [some (.ref this), some (.int v1), none, some (.int (v3 + (-1))), some (.int v4), some (.int v5)]) ⟨rfl, ⟨rfl, ⟨rfl, ⟨rfl, ⟨rfl, trivial⟩⟩⟩⟩⟩ ?_
                refine V_widen (k' := 0) (n' := 0) (by first | exact Nat.le_of_ble_eq_true rfl | omega | (dsimp only; omega)) (by first | exact Nat.le_of_ble_eq_true rfl | omega | (dsimp only; omega)) ?_
                exact wv_X10_queued_82 hl hG hK22 (fun z0 z1 z2 z3 z4 ζ hz => ih z0 z1 z2 z3 z4 ζ hz) _ _ _ _ _ _ h
              · replace h := h.2 c
                refine V_iload hG dX10_queued_76 rfl ?_
                exact V_iret hG dX10_queued_78 (by first | exact Nat.le_of_ble_eq_true rfl | omega | (dsimp only; omega)) (by first | exact Nat.le_of_ble_eq_true rfl | omega | (dsimp only; omega)) h
def wp_X10_queued_22  : Nat → Nat → Int32 → Int32 → Int32 → Sg → (Rs → Sg → Prop) → Prop
  | 0, _, _, _, _, _, _ => False
  | f + 1, this, v1, v3, v4, σ, Post => ((v4 < 0 → Post (.inl (some (.int (-1 : Int32)))) σ) ∧ (¬ v4 < 0 → (∃ g, wp_X10_queued_30 (fun z0 z1 z2 z3 ζ => wp_X10_queued_22 f z0 z1 z2 z3 ζ Post) g this v1 v3 v4 (0 : Int32) σ Post)))
set_option maxRecDepth 100000 in
set_option maxHeartbeats 4000000 in
theorem wv_X10_queued_22 {L9 : Launch} {G : Cx} {Post : Rs → Sg → Prop} (hl : L9.stackTraces = false) (hG : CX L9 G yX10_queued cX10_queued 6 (some .int) [] { frames := 1, cells := 0, slots := 0, locals := 22 })   : ∀ (f : Nat) (this : Nat) (v1 : Int32) (v3 : Int32) (v4 : Int32) (σ : Sg), wp_X10_queued_22 f this v1 v3 v4 σ Post → V G (QM G 0 0 Post) 22 [some (.ref this), some (.int v1), none, some (.int v3), some (.int v4), none] [] σ 0 0 := by
  intro f
  induction f with
  | zero => intro _ _ _ _ σ h; exact h.elim
  | succ f ih =>
    intro this v1 v3 v4 σ h
    refine V_iload hG dX10_queued_22 rfl ?_
    refine V_if_lt (tgt := 94) hG dX10_queued_24 (by decide) (fun c => ?_) (fun c => ?_)
    · replace h := h.1 c
      refine V_iconst (v := (-1)) hG (by decide) dX10_queued_94 ?_
      exact V_iret hG dX10_queued_95 (by first | exact Nat.le_of_ble_eq_true rfl | omega | (dsimp only; omega)) (by first | exact Nat.le_of_ble_eq_true rfl | omega | (dsimp only; omega)) h
    · replace h := h.2 c
      refine V_iconst (v := 0) hG (by decide) dX10_queued_27 ?_
      refine V_istore hG dX10_queued_28 (Nat.le_of_ble_eq_true rfl) (hpV rfl rfl) ?_
      refine V_forget (lo' := [some (.ref this), some (.int v1), none, some (.int v3), some (.int v4), some (.int (0 : Int32))]) ⟨rfl, ⟨rfl, ⟨rfl, ⟨rfl, ⟨rfl, trivial⟩⟩⟩⟩⟩ ?_
      obtain ⟨g, h⟩ := h
      refine V_widen (k' := 0) (n' := 0) (by first | exact Nat.le_of_ble_eq_true rfl | omega | (dsimp only; omega)) (by first | exact Nat.le_of_ble_eq_true rfl | omega | (dsimp only; omega)) ?_
      exact wv_X10_queued_30 hl hG (fun z0 z1 z2 z3 ζ hz => ih z0 z1 z2 z3 ζ hz) g _ _ _ _ _ _ h
def wp_X10_queued (this : Nat) (a0 : Int32) (a1 : Int32) (σ : Sg) (Post : Rs → Sg → Prop) : Prop := wp_X10_in a0 (0 : Int32) (3 : Int32) σ (KI (fun x2 σ1 => this % 32 = 10 ∧ wp_X10_asksAt this x2 a1 σ1 (KI (fun x4 σ3 => ((¬ x4 = 0 → (∃ g, wp_X10_queued_22 g this a0 a1 (9 : Int32) σ3 Post)) ∧ (x4 = 0 → Post (.inl (some (.int (0 : Int32)))) σ3))) (fun E σ3 => Post (.inr E) σ3))) (fun E σ1 => Post (.inr E) σ1))
set_option maxRecDepth 100000 in
set_option maxHeartbeats 4000000 in
theorem ct_X10_queued {l : Launch} (hl : l.stackTraces = false) {this : Nat} {a0 : Int32} {a1 : Int32} {σ : Sg} {Post : Rs → Sg → Prop} (h : wp_X10_queued this a0 a1 σ Post) : Ct l yX10_queued (.code yX10_queued cX10_queued 6 (some .int)) 1 22 0 0 [.ref this, .int a0, .int a1] σ Post := by
  refine Ct_of [some (.ref this), some (.int a0), some (.int a1), none, none, none] hl (by decide +kernel) rfl (fun ad => by rfl) (fun ad => by exact Nat.le_of_ble_eq_true rfl) (fun v hv => mem_lo hv rfl) ?_
  intro G hG
  unfold wp_X10_queued at h
  refine V_aload_n (v := .ref this) hG dX10_queued_0 rfl rfl ?_
  refine V_iload_n hG dX10_queued_1 rfl ?_
  refine V_iconst (v := 0) hG (by decide) dX10_queued_2 ?_
  refine V_iconst (v := 3) hG (by decide) dX10_queued_3 ?_
  refine V_cSI _ _ hG dX10_queued_4 (ct_X10_in hl h) mv_X10_in ml_X10_172 rfl rfl (by first | exact Nat.le_of_ble_eq_true rfl | (simp only [List.map_cons, List.map_nil, List.sum_cons, List.sum_nil, cat_rf]; exact Nat.le_of_ble_eq_true rfl)) (Nat.le_of_ble_eq_true rfl) (Nat.le_of_ble_eq_true rfl) (by first | exact Nat.le_of_ble_eq_true rfl | omega | (dsimp only; omega)) (by first | exact Nat.le_of_ble_eq_true rfl | omega | (dsimp only; omega)) ?_ (fun x2 σ1 h9 => ?_)
  · exact fun E σ1 hx => VX_out hG (by first | exact Nat.le_of_ble_eq_true rfl | omega | (dsimp only; omega)) (by first | exact Nat.le_of_ble_eq_true rfl | omega | (dsimp only; omega)) hx
  · replace h := h9
    clear h9
    refine V_iload_n hG dX10_queued_7 rfl ?_
    obtain ⟨ht, h⟩ := h
    refine V_cVI _ _ hG dX10_queued_8 (ct_X10_asksAt hl h) mv_X10_asksAt ml_X10_318 ht rfl rfl rfl rfl (by first | exact Nat.le_of_ble_eq_true rfl | (simp only [List.map_cons, List.map_nil, List.sum_cons, List.sum_nil, cat_rf]; exact Nat.le_of_ble_eq_true rfl)) (Nat.le_of_ble_eq_true rfl) (Nat.le_of_ble_eq_true rfl) (by first | exact Nat.le_of_ble_eq_true rfl | omega | (dsimp only; omega)) (by first | exact Nat.le_of_ble_eq_true rfl | omega | (dsimp only; omega)) ?_ (fun x4 σ3 h9 => ?_)
    · exact fun E σ3 hx => VX_out hG (by first | exact Nat.le_of_ble_eq_true rfl | omega | (dsimp only; omega)) (by first | exact Nat.le_of_ble_eq_true rfl | omega | (dsimp only; omega)) hx
    · replace h := h9
      clear h9
      refine V_if_ne (tgt := 16) hG dX10_queued_11 (by decide) (fun c => ?_) (fun c => ?_)
      · replace h := h.1 c
        refine V_iload_n hG dX10_queued_16 rfl ?_
        refine V_istore_n hG dX10_queued_17 (Nat.le_of_ble_eq_true rfl) (hpV rfl rfl) ?_
        refine V_bipush (v := 9) hG (by decide) dX10_queued_18 ?_
        refine V_istore hG dX10_queued_20 (Nat.le_of_ble_eq_true rfl) (hpV rfl rfl) ?_
        refine V_forget (lo' := [some (.ref this), some (.int a0), none, some (.int a1), some (.int (9 : Int32)), none]) ⟨rfl, ⟨rfl, ⟨rfl, ⟨rfl, trivial⟩⟩⟩⟩ ?_
        obtain ⟨g, h⟩ := h
        refine V_widen (k' := 0) (n' := 0) (by first | exact Nat.le_of_ble_eq_true rfl | omega | (dsimp only; omega)) (by first | exact Nat.le_of_ble_eq_true rfl | omega | (dsimp only; omega)) ?_
        exact wv_X10_queued_22 hl hG  g _ _ _ _ _ h
      · replace h := h.2 c
        refine V_iconst (v := 0) hG (by decide) dX10_queued_14 ?_
        exact V_iret hG dX10_queued_15 (by first | exact Nat.le_of_ble_eq_true rfl | omega | (dsimp only; omega)) (by first | exact Nat.le_of_ble_eq_true rfl | omega | (dsimp only; omega)) h
def wp_X10_told_62  (this : Nat) (v1 : Int32) (v2 : Int32) (s0 : Int32) (σ : Sg) (Post : Rs → Sg → Prop) : Prop := this % 32 = 10 ∧ ∀ o1, o1 = sP σ this 50 → ∃ u2, o1 = some u2 ∧ aty (u2 % 32) = some .int ∧ ∃ j3, v1 = nI j3 ∧ j3 < aln u2 ∧ ((¬ v2 = 0 → ((¬ v2 = (1 : Int32) → ((¬ v2 = (2 : Int32) → ((¬ v2 = (3 : Int32) → ((¬ v2 = (4 : Int32) → ((0 ≤ (s0 - (sI σ u2 j3)) → Post (.inl (some (.int (s0 - (sI σ u2 j3))))) σ) ∧ (¬ 0 ≤ (s0 - (sI σ u2 j3)) → Post (.inl (some (.int (0 : Int32)))) σ))) ∧ (v2 = (4 : Int32) → this % 32 = 10 ∧ ∀ o4, o4 = sP σ this 52 → ∃ u5, o4 = some u5 ∧ aty (u5 % 32) = some .int ∧ ∃ j6, v1 = nI j6 ∧ j6 < aln u5 ∧ Post (.inl (some (.int (sI σ u5 j6)))) σ))) ∧ (v2 = (3 : Int32) → this % 32 = 10 ∧ ∀ o7, o7 = sP σ this 51 → ∃ u8, o7 = some u8 ∧ aty (u8 % 32) = some .int ∧ ∃ j9, v1 = nI j9 ∧ j9 < aln u8 ∧ Post (.inl (some (.int (sI σ u8 j9)))) σ))) ∧ (v2 = (2 : Int32) → this % 32 = 10 ∧ ∀ o10, o10 = sP σ this 50 → ∃ u11, o10 = some u11 ∧ aty (u11 % 32) = some .int ∧ ∃ j12, v1 = nI j12 ∧ j12 < aln u11 ∧ Post (.inl (some (.int (sI σ u11 j12)))) σ))) ∧ (v2 = (1 : Int32) → this % 32 = 10 ∧ ∀ o13, o13 = sP σ this 49 → ∃ u14, o13 = some u14 ∧ aty (u14 % 32) = some .int ∧ ∃ j15, v1 = nI j15 ∧ j15 < aln u14 ∧ Post (.inl (some (.int (sI σ u14 j15)))) σ))) ∧ (v2 = 0 → this % 32 = 10 ∧ ∀ o16, o16 = sP σ this 48 → ∃ u17, o16 = some u17 ∧ aty (u17 % 32) = some .int ∧ ∃ j18, v1 = nI j18 ∧ j18 < aln u17 ∧ Post (.inl (some (.int (sI σ u17 j18)))) σ))
set_option maxRecDepth 100000 in
set_option maxHeartbeats 4000000 in
theorem wv_X10_told_62 {L9 : Launch} {G : Cx} {Post : Rs → Sg → Prop} (hl : L9.stackTraces = false) (hG : CX L9 G yX10_told cX10_told 4 (some .int) [] { frames := 2, cells := 0, slots := 0, locals := 43 })   : ∀ (this : Nat) (v1 : Int32) (v2 : Int32) (s0 : Int32) (σ : Sg), wp_X10_told_62 this v1 v2 s0 σ Post → V G (QM G 0 0 Post) 62 [some (.ref this), some (.int v1), some (.int v2), none] [.int s0] σ 0 0 := by
  intro this v1 v2 s0 σ h
  unfold wp_X10_told_62 at h
  refine V_aload_n (v := .ref this) hG dX10_told_62 rfl rfl ?_
  obtain ⟨ht, h⟩ := h
  refine V_getPv hG dX10_told_63 fl_X10_150 rfl ht (fun o1 ho => ?_)
  replace h := h o1 ho
  refine V_iload_n hG dX10_told_66 rfl ?_
  obtain ⟨u2, he, h⟩ := h
  subst he
  obtain ⟨ha, j3, hi, hj, h⟩ := h
  refine V_iald hG dX10_told_67 ha hi hj ?_
  refine V_isub hG dX10_told_68 ?_
  refine V_istore_n hG dX10_told_69 (Nat.le_of_ble_eq_true rfl) (hpV rfl rfl) ?_
  refine V_iload_n hG dX10_told_70 rfl ?_
  refine V_if_ne (tgt := 83) hG dX10_told_71 (by decide) (fun c => ?_) (fun c => ?_)
  · replace h := h.1 c
    refine V_iload_n hG dX10_told_83 rfl ?_
    refine V_iconst (v := 1) hG (by decide) dX10_told_84 ?_
    refine V_icmp_ne (tgt := 97) hG dX10_told_85 (by decide) (fun c => ?_) (fun c => ?_)
    · replace h := h.1 c
      refine V_iload_n hG dX10_told_97 rfl ?_
      refine V_iconst (v := 2) hG (by decide) dX10_told_98 ?_
      refine V_icmp_ne (tgt := 111) hG dX10_told_99 (by decide) (fun c => ?_) (fun c => ?_)
      · replace h := h.1 c
        refine V_iload_n hG dX10_told_111 rfl ?_
        refine V_iconst (v := 3) hG (by decide) dX10_told_112 ?_
        refine V_icmp_ne (tgt := 125) hG dX10_told_113 (by decide) (fun c => ?_) (fun c => ?_)
        · replace h := h.1 c
          refine V_iload_n hG dX10_told_125 rfl ?_
          refine V_iconst (v := 4) hG (by decide) dX10_told_126 ?_
          refine V_icmp_ne (tgt := 139) hG dX10_told_127 (by decide) (fun c => ?_) (fun c => ?_)
          · replace h := h.1 c
            refine V_iload_n hG dX10_told_139 rfl ?_
            refine V_if_ge (tgt := 147) hG dX10_told_140 (by decide) (fun c => ?_) (fun c => ?_)
            · replace h := h.1 c
              refine V_iload_n hG dX10_told_147 rfl ?_
              exact V_iret hG dX10_told_148 (by first | exact Nat.le_of_ble_eq_true rfl | omega | (dsimp only; omega)) (by first | exact Nat.le_of_ble_eq_true rfl | omega | (dsimp only; omega)) h
            · replace h := h.2 c
              refine V_iconst (v := 0) hG (by decide) dX10_told_143 ?_
              refine V_goto (tgt := 148) hG dX10_told_144 (by decide) ?_
              exact V_iret hG dX10_told_148 (by first | exact Nat.le_of_ble_eq_true rfl | omega | (dsimp only; omega)) (by first | exact Nat.le_of_ble_eq_true rfl | omega | (dsimp only; omega)) h
          · replace h := h.2 c
            refine V_aload_n (v := .ref this) hG dX10_told_130 rfl rfl ?_
            obtain ⟨ht, h⟩ := h
            refine V_getPv hG dX10_told_131 fl_X10_156 rfl ht (fun o4 ho => ?_)
            replace h := h o4 ho
            refine V_iload_n hG dX10_told_134 rfl ?_
            obtain ⟨u5, he, h⟩ := h
            subst he
            obtain ⟨ha, j6, hi, hj, h⟩ := h
            refine V_iald hG dX10_told_135 ha hi hj ?_
            refine V_goto (tgt := 148) hG dX10_told_136 (by decide) ?_
            exact V_iret hG dX10_told_148 (by first | exact Nat.le_of_ble_eq_true rfl | omega | (dsimp only; omega)) (by first | exact Nat.le_of_ble_eq_true rfl | omega | (dsimp only; omega)) h
        · replace h := h.2 c
          refine V_aload_n (v := .ref this) hG dX10_told_116 rfl rfl ?_
          obtain ⟨ht, h⟩ := h
          refine V_getPv hG dX10_told_117 fl_X10_153 rfl ht (fun o7 ho => ?_)
          replace h := h o7 ho
          refine V_iload_n hG dX10_told_120 rfl ?_
          obtain ⟨u8, he, h⟩ := h
          subst he
          obtain ⟨ha, j9, hi, hj, h⟩ := h
          refine V_iald hG dX10_told_121 ha hi hj ?_
          refine V_goto (tgt := 148) hG dX10_told_122 (by decide) ?_
          exact V_iret hG dX10_told_148 (by first | exact Nat.le_of_ble_eq_true rfl | omega | (dsimp only; omega)) (by first | exact Nat.le_of_ble_eq_true rfl | omega | (dsimp only; omega)) h
      · replace h := h.2 c
        refine V_aload_n (v := .ref this) hG dX10_told_102 rfl rfl ?_
        obtain ⟨ht, h⟩ := h
        refine V_getPv hG dX10_told_103 fl_X10_150 rfl ht (fun o10 ho => ?_)
        replace h := h o10 ho
        refine V_iload_n hG dX10_told_106 rfl ?_
        obtain ⟨u11, he, h⟩ := h
        subst he
        obtain ⟨ha, j12, hi, hj, h⟩ := h
        refine V_iald hG dX10_told_107 ha hi hj ?_
        refine V_goto (tgt := 148) hG dX10_told_108 (by decide) ?_
        exact V_iret hG dX10_told_148 (by first | exact Nat.le_of_ble_eq_true rfl | omega | (dsimp only; omega)) (by first | exact Nat.le_of_ble_eq_true rfl | omega | (dsimp only; omega)) h
    · replace h := h.2 c
      refine V_aload_n (v := .ref this) hG dX10_told_88 rfl rfl ?_
      obtain ⟨ht, h⟩ := h
      refine V_getPv hG dX10_told_89 fl_X10_147 rfl ht (fun o13 ho => ?_)
      replace h := h o13 ho
      refine V_iload_n hG dX10_told_92 rfl ?_
      obtain ⟨u14, he, h⟩ := h
      subst he
      obtain ⟨ha, j15, hi, hj, h⟩ := h
      refine V_iald hG dX10_told_93 ha hi hj ?_
      refine V_goto (tgt := 148) hG dX10_told_94 (by decide) ?_
      exact V_iret hG dX10_told_148 (by first | exact Nat.le_of_ble_eq_true rfl | omega | (dsimp only; omega)) (by first | exact Nat.le_of_ble_eq_true rfl | omega | (dsimp only; omega)) h
  · replace h := h.2 c
    refine V_aload_n (v := .ref this) hG dX10_told_74 rfl rfl ?_
    obtain ⟨ht, h⟩ := h
    refine V_getPv hG dX10_told_75 fl_X10_144 rfl ht (fun o16 ho => ?_)
    replace h := h o16 ho
    refine V_iload_n hG dX10_told_78 rfl ?_
    obtain ⟨u17, he, h⟩ := h
    subst he
    obtain ⟨ha, j18, hi, hj, h⟩ := h
    refine V_iald hG dX10_told_79 ha hi hj ?_
    refine V_goto (tgt := 148) hG dX10_told_80 (by decide) ?_
    exact V_iret hG dX10_told_148 (by first | exact Nat.le_of_ble_eq_true rfl | omega | (dsimp only; omega)) (by first | exact Nat.le_of_ble_eq_true rfl | omega | (dsimp only; omega)) h
def wp_X10_told_27  (this : Nat) (v1 : Int32) (v2 : Int32) (s0 : Nat) (s1 : Int32) (σ : Sg) (Post : Rs → Sg → Prop) : Prop := s0 % 32 = 10 ∧ this % 32 = 10 ∧ (((sI (wI σ s0 59 s1) this 59) ≤ 0 → this % 32 = 10 ∧ ∀ o1, o1 = sP (wI σ s0 59 s1) this 52 → ∃ u2, o1 = some u2 ∧ aty (u2 % 32) = some .int ∧ ∃ j3, v1 = nI j3 ∧ j3 < aln u2 ∧ ((¬ (sI (wI σ s0 59 s1) u2 j3) = (-1 : Int32) → this % 32 = 10 ∧ ∀ o4, o4 = sP (wI σ s0 59 s1) this 53 → ∃ u5, o4 = some u5 ∧ aty (u5 % 32) = some .int ∧ ∃ j6, v1 = nI j6 ∧ j6 < aln u5 ∧ (wp_X10_told_62 this v1 v2 (sI (wI σ s0 59 s1) u5 j6) (wI σ s0 59 s1) Post)) ∧ ((sI (wI σ s0 59 s1) u2 j3) = (-1 : Int32) → this % 32 = 10 ∧ (wp_X10_told_62 this v1 v2 (sI (wI σ s0 59 s1) this 55) (wI σ s0 59 s1) Post)))) ∧ (¬ (sI (wI σ s0 59 s1) this 59) ≤ 0 → Post (.inl (some (.int (0 : Int32)))) (wI σ s0 59 s1)))
set_option maxRecDepth 100000 in
set_option maxHeartbeats 4000000 in
theorem wv_X10_told_27 {L9 : Launch} {G : Cx} {Post : Rs → Sg → Prop} (hl : L9.stackTraces = false) (hG : CX L9 G yX10_told cX10_told 4 (some .int) [] { frames := 2, cells := 0, slots := 0, locals := 43 })   : ∀ (this : Nat) (v1 : Int32) (v2 : Int32) (s0 : Nat) (s1 : Int32) (σ : Sg), wp_X10_told_27 this v1 v2 s0 s1 σ Post → V G (QM G 0 0 Post) 27 [some (.ref this), some (.int v1), some (.int v2), none] [.int s1, .ref s0] σ 0 0 := by
  intro this v1 v2 s0 s1 σ h
  unfold wp_X10_told_27 at h
  obtain ⟨ht, h⟩ := h
  refine V_putI hG dX10_told_27 fl_X10_168 rfl (fun e => absurd e (by decide)) rfl ht ?_
  refine V_aload_n (v := .ref this) hG dX10_told_30 rfl rfl ?_
  obtain ⟨ht, h⟩ := h
  refine V_getI hG dX10_told_31 fl_X10_168 rfl ht ?_
  refine V_if_le (tgt := 39) hG dX10_told_34 (by decide) (fun c => ?_) (fun c => ?_)
  · replace h := h.1 c
    refine V_aload_n (v := .ref this) hG dX10_told_39 rfl rfl ?_
    obtain ⟨ht, h⟩ := h
    refine V_getPv hG dX10_told_40 fl_X10_156 rfl ht (fun o1 ho => ?_)
    replace h := h o1 ho
    refine V_iload_n hG dX10_told_43 rfl ?_
    obtain ⟨u2, he, h⟩ := h
    subst he
    obtain ⟨ha, j3, hi, hj, h⟩ := h
    refine V_iald hG dX10_told_44 ha hi hj ?_
    refine V_iconst (v := (-1)) hG (by decide) dX10_told_45 ?_
    refine V_icmp_ne (tgt := 56) hG dX10_told_46 (by decide) (fun c => ?_) (fun c => ?_)
    · replace h := h.1 c
      refine V_aload_n (v := .ref this) hG dX10_told_56 rfl rfl ?_
      obtain ⟨ht, h⟩ := h
      refine V_getPv hG dX10_told_57 fl_X10_159 rfl ht (fun o4 ho => ?_)
      replace h := h o4 ho
      refine V_iload_n hG dX10_told_60 rfl ?_
      obtain ⟨u5, he, h⟩ := h
      subst he
      obtain ⟨ha, j6, hi, hj, h⟩ := h
      refine V_iald hG dX10_told_61 ha hi hj ?_
      refine V_forget (lo' := [some (.ref this), some (.int v1), some (.int v2), none]) ⟨rfl, ⟨rfl, ⟨rfl, trivial⟩⟩⟩ ?_
      refine V_widen (k' := 0) (n' := 0) (by first | exact Nat.le_of_ble_eq_true rfl | omega | (dsimp only; omega)) (by first | exact Nat.le_of_ble_eq_true rfl | omega | (dsimp only; omega)) ?_
      exact wv_X10_told_62 hl hG  _ _ _ _ _ h
    · replace h := h.2 c
      refine V_aload_n (v := .ref this) hG dX10_told_49 rfl rfl ?_
      obtain ⟨ht, h⟩ := h
      refine V_getI hG dX10_told_50 fl_X10_193 rfl ht ?_
      refine V_goto (tgt := 62) hG dX10_told_53 (by decide) ?_
      refine V_forget (lo' := [some (.ref this), some (.int v1), some (.int v2), none]) ⟨rfl, ⟨rfl, ⟨rfl, trivial⟩⟩⟩ ?_
      refine V_widen (k' := 0) (n' := 0) (by first | exact Nat.le_of_ble_eq_true rfl | omega | (dsimp only; omega)) (by first | exact Nat.le_of_ble_eq_true rfl | omega | (dsimp only; omega)) ?_
      exact wv_X10_told_62 hl hG  _ _ _ _ _ h
  · replace h := h.2 c
    refine V_iconst (v := 0) hG (by decide) dX10_told_37 ?_
    exact V_iret hG dX10_told_38 (by first | exact Nat.le_of_ble_eq_true rfl | omega | (dsimp only; omega)) (by first | exact Nat.le_of_ble_eq_true rfl | omega | (dsimp only; omega)) h
def wp_X10_told (this : Nat) (a0 : Int32) (a1 : Int32) (σ : Sg) (Post : Rs → Sg → Prop) : Prop := this % 32 = 10 ∧ wp_X10_isOrder this a0 σ (KI (fun x2 σ1 => ((¬ x2 = 0 → wp_X10_in a1 (0 : Int32) (5 : Int32) σ1 (KI (fun x4 σ3 => ((¬ x4 = 0 → (wp_X10_told_27 this a0 a1 this (0 : Int32) σ3 Post)) ∧ (x4 = 0 → (wp_X10_told_27 this a0 a1 this (2 : Int32) σ3 Post)))) (fun E σ3 => Post (.inr E) σ3))) ∧ (x2 = 0 → (wp_X10_told_27 this a0 a1 this (1 : Int32) σ1 Post)))) (fun E σ1 => Post (.inr E) σ1))
set_option maxRecDepth 100000 in
set_option maxHeartbeats 4000000 in
theorem ct_X10_told {l : Launch} (hl : l.stackTraces = false) {this : Nat} {a0 : Int32} {a1 : Int32} {σ : Sg} {Post : Rs → Sg → Prop} (h : wp_X10_told this a0 a1 σ Post) : Ct l yX10_told (.code yX10_told cX10_told 4 (some .int)) 2 43 0 0 [.ref this, .int a0, .int a1] σ Post := by
  refine Ct_of [some (.ref this), some (.int a0), some (.int a1), none] hl (by decide +kernel) rfl (fun ad => by rfl) (fun ad => by exact Nat.le_of_ble_eq_true rfl) (fun v hv => mem_lo hv rfl) ?_
  intro G hG
  unfold wp_X10_told at h
  refine V_aload_n (v := .ref this) hG dX10_told_0 rfl rfl ?_
  refine V_aload_n (v := .ref this) hG dX10_told_1 rfl rfl ?_
  refine V_iload_n hG dX10_told_2 rfl ?_
  obtain ⟨ht, h⟩ := h
  refine V_cVI _ _ hG dX10_told_3 (ct_X10_isOrder hl h) mv_X10_isOrder ml_X10_249 ht rfl rfl rfl rfl (by first | exact Nat.le_of_ble_eq_true rfl | (simp only [List.map_cons, List.map_nil, List.sum_cons, List.sum_nil, cat_rf]; exact Nat.le_of_ble_eq_true rfl)) (Nat.le_of_ble_eq_true rfl) (Nat.le_of_ble_eq_true rfl) (by first | exact Nat.le_of_ble_eq_true rfl | omega | (dsimp only; omega)) (by first | exact Nat.le_of_ble_eq_true rfl | omega | (dsimp only; omega)) ?_ (fun x2 σ1 h9 => ?_)
  · exact fun E σ1 hx => VX_out hG (by first | exact Nat.le_of_ble_eq_true rfl | omega | (dsimp only; omega)) (by first | exact Nat.le_of_ble_eq_true rfl | omega | (dsimp only; omega)) hx
  · replace h := h9
    clear h9
    refine V_if_ne (tgt := 13) hG dX10_told_6 (by decide) (fun c => ?_) (fun c => ?_)
    · replace h := h.1 c
      refine V_iload_n hG dX10_told_13 rfl ?_
      refine V_iconst (v := 0) hG (by decide) dX10_told_14 ?_
      refine V_iconst (v := 5) hG (by decide) dX10_told_15 ?_
      refine V_cSI _ _ hG dX10_told_16 (ct_X10_in hl h) mv_X10_in ml_X10_172 rfl rfl (by first | exact Nat.le_of_ble_eq_true rfl | (simp only [List.map_cons, List.map_nil, List.sum_cons, List.sum_nil, cat_rf]; exact Nat.le_of_ble_eq_true rfl)) (Nat.le_of_ble_eq_true rfl) (Nat.le_of_ble_eq_true rfl) (by first | exact Nat.le_of_ble_eq_true rfl | omega | (dsimp only; omega)) (by first | exact Nat.le_of_ble_eq_true rfl | omega | (dsimp only; omega)) ?_ (fun x4 σ3 h9 => ?_)
      · exact fun E σ3 hx => VX_out hG (by first | exact Nat.le_of_ble_eq_true rfl | omega | (dsimp only; omega)) (by first | exact Nat.le_of_ble_eq_true rfl | omega | (dsimp only; omega)) hx
      · replace h := h9
        clear h9
        refine V_if_ne (tgt := 26) hG dX10_told_19 (by decide) (fun c => ?_) (fun c => ?_)
        · replace h := h.1 c
          refine V_iconst (v := 0) hG (by decide) dX10_told_26 ?_
          refine V_forget (lo' := [some (.ref this), some (.int a0), some (.int a1), none]) ⟨rfl, ⟨rfl, ⟨rfl, trivial⟩⟩⟩ ?_
          refine V_widen (k' := 0) (n' := 0) (by first | exact Nat.le_of_ble_eq_true rfl | omega | (dsimp only; omega)) (by first | exact Nat.le_of_ble_eq_true rfl | omega | (dsimp only; omega)) ?_
          exact wv_X10_told_27 hl hG  _ _ _ _ _ _ h
        · replace h := h.2 c
          refine V_iconst (v := 2) hG (by decide) dX10_told_22 ?_
          refine V_goto (tgt := 27) hG dX10_told_23 (by decide) ?_
          refine V_forget (lo' := [some (.ref this), some (.int a0), some (.int a1), none]) ⟨rfl, ⟨rfl, ⟨rfl, trivial⟩⟩⟩ ?_
          refine V_widen (k' := 0) (n' := 0) (by first | exact Nat.le_of_ble_eq_true rfl | omega | (dsimp only; omega)) (by first | exact Nat.le_of_ble_eq_true rfl | omega | (dsimp only; omega)) ?_
          exact wv_X10_told_27 hl hG  _ _ _ _ _ _ h
    · replace h := h.2 c
      refine V_iconst (v := 1) hG (by decide) dX10_told_9 ?_
      refine V_goto (tgt := 27) hG dX10_told_10 (by decide) ?_
      refine V_forget (lo' := [some (.ref this), some (.int a0), some (.int a1), none]) ⟨rfl, ⟨rfl, ⟨rfl, trivial⟩⟩⟩ ?_
      refine V_widen (k' := 0) (n' := 0) (by first | exact Nat.le_of_ble_eq_true rfl | omega | (dsimp only; omega)) (by first | exact Nat.le_of_ble_eq_true rfl | omega | (dsimp only; omega)) ?_
      exact wv_X10_told_27 hl hG  _ _ _ _ _ _ h
def wp_X10_why_59  (this : Nat) (v1 : Int32) (σ : Sg) (Post : Rs → Sg → Prop) : Prop := this % 32 = 10 ∧ ∀ o1, o1 = sP σ this 18 → ∃ u2, o1 = some u2 ∧ aty (u2 % 32) = some .int ∧ ∃ j3, v1 = nI j3 ∧ j3 < aln u2 ∧ (((sI σ u2 j3) = (1 : Int32) → Post (.inl (some (.int (2 : Int32)))) σ) ∧ (¬ (sI σ u2 j3) = (1 : Int32) → Post (.inl (some (.int (1 : Int32)))) σ))
set_option maxRecDepth 100000 in
set_option maxHeartbeats 4000000 in
theorem wv_X10_why_59 {L9 : Launch} {G : Cx} {Post : Rs → Sg → Prop} (hl : L9.stackTraces = false) (hG : CX L9 G yX10_why cX10_why 3 (some .int) [] { frames := 4, cells := 0, slots := 0, locals := 95 })   : ∀ (this : Nat) (v1 : Int32) (σ : Sg), wp_X10_why_59 this v1 σ Post → V G (QM G 0 0 Post) 59 [some (.ref this), some (.int v1), none] [] σ 0 0 := by
  intro this v1 σ h
  unfold wp_X10_why_59 at h
  refine V_aload_n (v := .ref this) hG dX10_why_59 rfl rfl ?_
  obtain ⟨ht, h⟩ := h
  refine V_getPv hG dX10_why_60 fl_X10_62 rfl ht (fun o1 ho => ?_)
  replace h := h o1 ho
  refine V_iload_n hG dX10_why_63 rfl ?_
  obtain ⟨u2, he, h⟩ := h
  subst he
  obtain ⟨ha, j3, hi, hj, h⟩ := h
  refine V_iald hG dX10_why_64 ha hi hj ?_
  refine V_iconst (v := 1) hG (by decide) dX10_why_65 ?_
  refine V_icmp_eq (tgt := 73) hG dX10_why_66 (by decide) (fun c => ?_) (fun c => ?_)
  · replace h := h.1 c
    refine V_iconst (v := 2) hG (by decide) dX10_why_73 ?_
    exact V_iret hG dX10_why_74 (by first | exact Nat.le_of_ble_eq_true rfl | omega | (dsimp only; omega)) (by first | exact Nat.le_of_ble_eq_true rfl | omega | (dsimp only; omega)) h
  · replace h := h.2 c
    refine V_iconst (v := 1) hG (by decide) dX10_why_69 ?_
    refine V_goto (tgt := 74) hG dX10_why_70 (by decide) ?_
    exact V_iret hG dX10_why_74 (by first | exact Nat.le_of_ble_eq_true rfl | omega | (dsimp only; omega)) (by first | exact Nat.le_of_ble_eq_true rfl | omega | (dsimp only; omega)) h
def wp_X10_why_103  (this : Nat) (v1 : Int32) (v2 : Int32) (σ : Sg) (Post : Rs → Sg → Prop) : Prop := this % 32 = 10 ∧ wp_X10_canDo this v2 v1 σ (KI (fun x2 σ1 => ((¬ x2 = 0 → Post (.inl (some (.int (4 : Int32)))) σ1) ∧ (x2 = 0 → Post (.inl (some (.int (3 : Int32)))) σ1))) (fun E σ1 => Post (.inr E) σ1))
set_option maxRecDepth 100000 in
set_option maxHeartbeats 4000000 in
theorem wv_X10_why_103 {L9 : Launch} {G : Cx} {Post : Rs → Sg → Prop} (hl : L9.stackTraces = false) (hG : CX L9 G yX10_why cX10_why 3 (some .int) [] { frames := 4, cells := 0, slots := 0, locals := 95 })   : ∀ (this : Nat) (v1 : Int32) (v2 : Int32) (σ : Sg), wp_X10_why_103 this v1 v2 σ Post → V G (QM G 0 0 Post) 103 [some (.ref this), some (.int v1), some (.int v2)] [] σ 0 0 := by
  intro this v1 v2 σ h
  unfold wp_X10_why_103 at h
  refine V_aload_n (v := .ref this) hG dX10_why_103 rfl rfl ?_
  refine V_iload_n hG dX10_why_104 rfl ?_
  refine V_iload_n hG dX10_why_105 rfl ?_
  obtain ⟨ht, h⟩ := h
  refine V_cVI _ _ hG dX10_why_106 (ct_X10_canDo hl h) mv_X10_canDo ml_X10_288 ht rfl rfl rfl rfl (by first | exact Nat.le_of_ble_eq_true rfl | (simp only [List.map_cons, List.map_nil, List.sum_cons, List.sum_nil, cat_rf]; exact Nat.le_of_ble_eq_true rfl)) (Nat.le_of_ble_eq_true rfl) (Nat.le_of_ble_eq_true rfl) (by first | exact Nat.le_of_ble_eq_true rfl | omega | (dsimp only; omega)) (by first | exact Nat.le_of_ble_eq_true rfl | omega | (dsimp only; omega)) ?_ (fun x2 σ1 h9 => ?_)
  · exact fun E σ1 hx => VX_out hG (by first | exact Nat.le_of_ble_eq_true rfl | omega | (dsimp only; omega)) (by first | exact Nat.le_of_ble_eq_true rfl | omega | (dsimp only; omega)) hx
  · replace h := h9
    clear h9
    refine V_if_ne (tgt := 116) hG dX10_why_109 (by decide) (fun c => ?_) (fun c => ?_)
    · replace h := h.1 c
      refine V_iconst (v := 4) hG (by decide) dX10_why_116 ?_
      exact V_iret hG dX10_why_117 (by first | exact Nat.le_of_ble_eq_true rfl | omega | (dsimp only; omega)) (by first | exact Nat.le_of_ble_eq_true rfl | omega | (dsimp only; omega)) h
    · replace h := h.2 c
      refine V_iconst (v := 3) hG (by decide) dX10_why_112 ?_
      refine V_goto (tgt := 117) hG dX10_why_113 (by decide) ?_
      exact V_iret hG dX10_why_117 (by first | exact Nat.le_of_ble_eq_true rfl | omega | (dsimp only; omega)) (by first | exact Nat.le_of_ble_eq_true rfl | omega | (dsimp only; omega)) h
def wp_X10_why_28  (this : Nat) (v1 : Int32) (v2 : Int32) (s0 : Nat) (s1 : Int32) (σ : Sg) (Post : Rs → Sg → Prop) : Prop := s0 % 32 = 10 ∧ this % 32 = 10 ∧ (((sI (wI σ s0 59 s1) this 59) ≤ 0 → this % 32 = 10 ∧ ∀ o1, o1 = sP (wI σ s0 59 s1) this 18 → ∃ u2, o1 = some u2 ∧ aty (u2 % 32) = some .int ∧ ∃ j3, v1 = nI j3 ∧ j3 < aln u2 ∧ ((¬ (sI (wI σ s0 59 s1) u2 j3) = (1 : Int32) → (wp_X10_why_59 this v1 (wI σ s0 59 s1) Post)) ∧ ((sI (wI σ s0 59 s1) u2 j3) = (1 : Int32) → this % 32 = 10 ∧ ∀ o4, o4 = sP (wI σ s0 59 s1) this 21 → ∃ u5, o4 = some u5 ∧ aty (u5 % 32) = some .boolean ∧ ∃ j6, v1 = nI j6 ∧ j6 < aln u5 ∧ (((sI (wI σ s0 59 s1) u5 j6) = 0 → this % 32 = 10 ∧ wp_X10_canDo this v2 v1 (wI σ s0 59 s1) (KI (fun x8 σ7 => ((x8 = 0 → (wp_X10_why_103 this v1 v2 σ7 Post)) ∧ (¬ x8 = 0 → this % 32 = 10 ∧ ∀ o9, o9 = sP σ7 this 34 → ∃ u10, o9 = some u10 ∧ aty (u10 % 32) = some .int ∧ ∃ j11, v2 = nI j11 ∧ j11 < aln u10 ∧ ((¬ (sI σ7 u10 j11) = (-1 : Int32) → (wp_X10_why_103 this v1 v2 σ7 Post)) ∧ ((sI σ7 u10 j11) = (-1 : Int32) → this % 32 = 10 ∧ ∀ o12, o12 = sP σ7 this 39 → ∃ u13, o12 = some u13 ∧ aty (u13 % 32) = some .int ∧ ∃ j14, v2 = nI j14 ∧ j14 < aln u13 ∧ (((sI σ7 u13 j14) ≤ 0 → this % 32 = 10 ∧ wp_X10_personFor this v1 σ7 (KI (fun x16 σ15 => ((¬ x16 = (-1 : Int32) → this % 32 = 10 ∧ wp_X10_needsParts this v1 σ15 (KI (fun x18 σ17 => ((x18 = 0 → Post (.inl (some (.int (0 : Int32)))) σ17) ∧ (¬ x18 = 0 → this % 32 = 10 ∧ wp_X10_hasParts this v1 σ17 (KI (fun x20 σ19 => ((¬ x20 = 0 → Post (.inl (some (.int (0 : Int32)))) σ19) ∧ (x20 = 0 → Post (.inl (some (.int (6 : Int32)))) σ19))) (fun E σ19 => Post (.inr E) σ19))))) (fun E σ17 => Post (.inr E) σ17))) ∧ (x16 = (-1 : Int32) → Post (.inl (some (.int (5 : Int32)))) σ15))) (fun E σ15 => Post (.inr E) σ15))) ∧ (¬ (sI σ7 u13 j14) ≤ 0 → (wp_X10_why_103 this v1 v2 σ7 Post)))))))) (fun E σ7 => Post (.inr E) σ7))) ∧ (¬ (sI (wI σ s0 59 s1) u5 j6) = 0 → (wp_X10_why_59 this v1 (wI σ s0 59 s1) Post)))))) ∧ (¬ (sI (wI σ s0 59 s1) this 59) ≤ 0 → Post (.inl (some (.int (0 : Int32)))) (wI σ s0 59 s1)))
set_option maxRecDepth 100000 in
set_option maxHeartbeats 4000000 in
theorem wv_X10_why_28 {L9 : Launch} {G : Cx} {Post : Rs → Sg → Prop} (hl : L9.stackTraces = false) (hG : CX L9 G yX10_why cX10_why 3 (some .int) [] { frames := 4, cells := 0, slots := 0, locals := 95 })   : ∀ (this : Nat) (v1 : Int32) (v2 : Int32) (s0 : Nat) (s1 : Int32) (σ : Sg), wp_X10_why_28 this v1 v2 s0 s1 σ Post → V G (QM G 0 0 Post) 28 [some (.ref this), some (.int v1), some (.int v2)] [.int s1, .ref s0] σ 0 0 := by
  intro this v1 v2 s0 s1 σ h
  unfold wp_X10_why_28 at h
  obtain ⟨ht, h⟩ := h
  refine V_putI hG dX10_why_28 fl_X10_168 rfl (fun e => absurd e (by decide)) rfl ht ?_
  refine V_aload_n (v := .ref this) hG dX10_why_31 rfl rfl ?_
  obtain ⟨ht, h⟩ := h
  refine V_getI hG dX10_why_32 fl_X10_168 rfl ht ?_
  refine V_if_le (tgt := 40) hG dX10_why_35 (by decide) (fun c => ?_) (fun c => ?_)
  · replace h := h.1 c
    refine V_aload_n (v := .ref this) hG dX10_why_40 rfl rfl ?_
    obtain ⟨ht, h⟩ := h
    refine V_getPv hG dX10_why_41 fl_X10_62 rfl ht (fun o1 ho => ?_)
    replace h := h o1 ho
    refine V_iload_n hG dX10_why_44 rfl ?_
    obtain ⟨u2, he, h⟩ := h
    subst he
    obtain ⟨ha, j3, hi, hj, h⟩ := h
    refine V_iald hG dX10_why_45 ha hi hj ?_
    refine V_iconst (v := 1) hG (by decide) dX10_why_46 ?_
    refine V_icmp_ne (tgt := 59) hG dX10_why_47 (by decide) (fun c => ?_) (fun c => ?_)
    · replace h := h.1 c
      refine V_forget (lo' := [some (.ref this), some (.int v1), none]) ⟨rfl, ⟨rfl, trivial⟩⟩ ?_
      refine V_widen (k' := 0) (n' := 0) (by first | exact Nat.le_of_ble_eq_true rfl | omega | (dsimp only; omega)) (by first | exact Nat.le_of_ble_eq_true rfl | omega | (dsimp only; omega)) ?_
      exact wv_X10_why_59 hl hG  _ _ _ h
    · replace h := h.2 c
      refine V_aload_n (v := .ref this) hG dX10_why_50 rfl rfl ?_
      obtain ⟨ht, h⟩ := h
      refine V_getPv hG dX10_why_51 fl_X10_71 rfl ht (fun o4 ho => ?_)
      replace h := h o4 ho
      refine V_iload_n hG dX10_why_54 rfl ?_
      obtain ⟨u5, he, h⟩ := h
      subst he
      obtain ⟨ha, j6, hi, hj, h⟩ := h
      refine V_zald hG dX10_why_55 ha hi hj ?_
      refine V_if_eq (tgt := 75) hG dX10_why_56 (by decide) (fun c => ?_) (fun c => ?_)
      · replace h := h.1 c
        refine V_aload_n (v := .ref this) hG dX10_why_75 rfl rfl ?_
        refine V_iload_n hG dX10_why_76 rfl ?_
        refine V_iload_n hG dX10_why_77 rfl ?_
        obtain ⟨ht, h⟩ := h
        refine V_cVI _ _ hG dX10_why_78 (ct_X10_canDo hl h) mv_X10_canDo ml_X10_288 ht rfl rfl rfl rfl (by first | exact Nat.le_of_ble_eq_true rfl | (simp only [List.map_cons, List.map_nil, List.sum_cons, List.sum_nil, cat_rf]; exact Nat.le_of_ble_eq_true rfl)) (Nat.le_of_ble_eq_true rfl) (Nat.le_of_ble_eq_true rfl) (by first | exact Nat.le_of_ble_eq_true rfl | omega | (dsimp only; omega)) (by first | exact Nat.le_of_ble_eq_true rfl | omega | (dsimp only; omega)) ?_ (fun x8 σ7 h9 => ?_)
        · exact fun E σ7 hx => VX_out hG (by first | exact Nat.le_of_ble_eq_true rfl | omega | (dsimp only; omega)) (by first | exact Nat.le_of_ble_eq_true rfl | omega | (dsimp only; omega)) hx
        · replace h := h9
          clear h9
          refine V_if_eq (tgt := 103) hG dX10_why_81 (by decide) (fun c => ?_) (fun c => ?_)
          · replace h := h.1 c
            refine V_forget (lo' := [some (.ref this), some (.int v1), some (.int v2)]) ⟨rfl, ⟨rfl, ⟨rfl, trivial⟩⟩⟩ ?_
            refine V_widen (k' := 0) (n' := 0) (by first | exact Nat.le_of_ble_eq_true rfl | omega | (dsimp only; omega)) (by first | exact Nat.le_of_ble_eq_true rfl | omega | (dsimp only; omega)) ?_
            exact wv_X10_why_103 hl hG  _ _ _ _ h
          · replace h := h.2 c
            refine V_aload_n (v := .ref this) hG dX10_why_84 rfl rfl ?_
            obtain ⟨ht, h⟩ := h
            refine V_getPv hG dX10_why_85 fl_X10_108 rfl ht (fun o9 ho => ?_)
            replace h := h o9 ho
            refine V_iload_n hG dX10_why_88 rfl ?_
            obtain ⟨u10, he, h⟩ := h
            subst he
            obtain ⟨ha, j11, hi, hj, h⟩ := h
            refine V_iald hG dX10_why_89 ha hi hj ?_
            refine V_iconst (v := (-1)) hG (by decide) dX10_why_90 ?_
            refine V_icmp_ne (tgt := 103) hG dX10_why_91 (by decide) (fun c => ?_) (fun c => ?_)
            · replace h := h.1 c
              refine V_forget (lo' := [some (.ref this), some (.int v1), some (.int v2)]) ⟨rfl, ⟨rfl, ⟨rfl, trivial⟩⟩⟩ ?_
              refine V_widen (k' := 0) (n' := 0) (by first | exact Nat.le_of_ble_eq_true rfl | omega | (dsimp only; omega)) (by first | exact Nat.le_of_ble_eq_true rfl | omega | (dsimp only; omega)) ?_
              exact wv_X10_why_103 hl hG  _ _ _ _ h
            · replace h := h.2 c
              refine V_aload_n (v := .ref this) hG dX10_why_94 rfl rfl ?_
              obtain ⟨ht, h⟩ := h
              refine V_getPv hG dX10_why_95 fl_X10_123 rfl ht (fun o12 ho => ?_)
              replace h := h o12 ho
              refine V_iload_n hG dX10_why_98 rfl ?_
              obtain ⟨u13, he, h⟩ := h
              subst he
              obtain ⟨ha, j14, hi, hj, h⟩ := h
              refine V_iald hG dX10_why_99 ha hi hj ?_
              refine V_if_le (tgt := 118) hG dX10_why_100 (by decide) (fun c => ?_) (fun c => ?_)
              · replace h := h.1 c
                refine V_aload_n (v := .ref this) hG dX10_why_118 rfl rfl ?_
                refine V_iload_n hG dX10_why_119 rfl ?_
                obtain ⟨ht, h⟩ := h
                refine V_cVI _ _ hG dX10_why_120 (ct_X10_personFor hl h) mv_X10_personFor ml_X10_279 ht rfl rfl rfl rfl (by first | exact Nat.le_of_ble_eq_true rfl | (simp only [List.map_cons, List.map_nil, List.sum_cons, List.sum_nil, cat_rf]; exact Nat.le_of_ble_eq_true rfl)) (Nat.le_of_ble_eq_true rfl) (Nat.le_of_ble_eq_true rfl) (by first | exact Nat.le_of_ble_eq_true rfl | omega | (dsimp only; omega)) (by first | exact Nat.le_of_ble_eq_true rfl | omega | (dsimp only; omega)) ?_ (fun x16 σ15 h9 => ?_)
                · exact fun E σ15 hx => VX_out hG (by first | exact Nat.le_of_ble_eq_true rfl | omega | (dsimp only; omega)) (by first | exact Nat.le_of_ble_eq_true rfl | omega | (dsimp only; omega)) hx
                · replace h := h9
                  clear h9
                  refine V_iconst (v := (-1)) hG (by decide) dX10_why_123 ?_
                  refine V_icmp_ne (tgt := 131) hG dX10_why_124 (by decide) (fun c => ?_) (fun c => ?_)
                  · replace h := h.1 c
                    refine V_aload_n (v := .ref this) hG dX10_why_131 rfl rfl ?_
                    refine V_iload_n hG dX10_why_132 rfl ?_
                    obtain ⟨ht, h⟩ := h
                    refine V_cVI _ _ hG dX10_why_133 (ct_X10_needsParts hl h) mv_X10_needsParts ml_X10_282 ht rfl rfl rfl rfl (by first | exact Nat.le_of_ble_eq_true rfl | (simp only [List.map_cons, List.map_nil, List.sum_cons, List.sum_nil, cat_rf]; exact Nat.le_of_ble_eq_true rfl)) (Nat.le_of_ble_eq_true rfl) (Nat.le_of_ble_eq_true rfl) (by first | exact Nat.le_of_ble_eq_true rfl | omega | (dsimp only; omega)) (by first | exact Nat.le_of_ble_eq_true rfl | omega | (dsimp only; omega)) ?_ (fun x18 σ17 h9 => ?_)
                    · exact fun E σ17 hx => VX_out hG (by first | exact Nat.le_of_ble_eq_true rfl | omega | (dsimp only; omega)) (by first | exact Nat.le_of_ble_eq_true rfl | omega | (dsimp only; omega)) hx
                    · replace h := h9
                      clear h9
                      refine V_if_eq (tgt := 152) hG dX10_why_136 (by decide) (fun c => ?_) (fun c => ?_)
                      · replace h := h.1 c
                        refine V_iconst (v := 0) hG (by decide) dX10_why_152 ?_
                        exact V_iret hG dX10_why_153 (by first | exact Nat.le_of_ble_eq_true rfl | omega | (dsimp only; omega)) (by first | exact Nat.le_of_ble_eq_true rfl | omega | (dsimp only; omega)) h
                      · replace h := h.2 c
                        refine V_aload_n (v := .ref this) hG dX10_why_139 rfl rfl ?_
                        refine V_iload_n hG dX10_why_140 rfl ?_
                        obtain ⟨ht, h⟩ := h
                        refine V_cVI _ _ hG dX10_why_141 (ct_X10_hasParts hl h) mv_X10_hasParts ml_X10_285 ht rfl rfl rfl rfl (by first | exact Nat.le_of_ble_eq_true rfl | (simp only [List.map_cons, List.map_nil, List.sum_cons, List.sum_nil, cat_rf]; exact Nat.le_of_ble_eq_true rfl)) (Nat.le_of_ble_eq_true rfl) (Nat.le_of_ble_eq_true rfl) (by first | exact Nat.le_of_ble_eq_true rfl | omega | (dsimp only; omega)) (by first | exact Nat.le_of_ble_eq_true rfl | omega | (dsimp only; omega)) ?_ (fun x20 σ19 h9 => ?_)
                        · exact fun E σ19 hx => VX_out hG (by first | exact Nat.le_of_ble_eq_true rfl | omega | (dsimp only; omega)) (by first | exact Nat.le_of_ble_eq_true rfl | omega | (dsimp only; omega)) hx
                        · replace h := h9
                          clear h9
                          refine V_if_ne (tgt := 152) hG dX10_why_144 (by decide) (fun c => ?_) (fun c => ?_)
                          · replace h := h.1 c
                            refine V_iconst (v := 0) hG (by decide) dX10_why_152 ?_
                            exact V_iret hG dX10_why_153 (by first | exact Nat.le_of_ble_eq_true rfl | omega | (dsimp only; omega)) (by first | exact Nat.le_of_ble_eq_true rfl | omega | (dsimp only; omega)) h
                          · replace h := h.2 c
                            refine V_bipush (v := 6) hG (by decide) dX10_why_147 ?_
                            refine V_goto (tgt := 153) hG dX10_why_149 (by decide) ?_
                            exact V_iret hG dX10_why_153 (by first | exact Nat.le_of_ble_eq_true rfl | omega | (dsimp only; omega)) (by first | exact Nat.le_of_ble_eq_true rfl | omega | (dsimp only; omega)) h
                  · replace h := h.2 c
                    refine V_iconst (v := 5) hG (by decide) dX10_why_127 ?_
                    refine V_goto (tgt := 153) hG dX10_why_128 (by decide) ?_
                    exact V_iret hG dX10_why_153 (by first | exact Nat.le_of_ble_eq_true rfl | omega | (dsimp only; omega)) (by first | exact Nat.le_of_ble_eq_true rfl | omega | (dsimp only; omega)) h
              · replace h := h.2 c
                refine V_forget (lo' := [some (.ref this), some (.int v1), some (.int v2)]) ⟨rfl, ⟨rfl, ⟨rfl, trivial⟩⟩⟩ ?_
                refine V_widen (k' := 0) (n' := 0) (by first | exact Nat.le_of_ble_eq_true rfl | omega | (dsimp only; omega)) (by first | exact Nat.le_of_ble_eq_true rfl | omega | (dsimp only; omega)) ?_
                exact wv_X10_why_103 hl hG  _ _ _ _ h
      · replace h := h.2 c
        refine V_forget (lo' := [some (.ref this), some (.int v1), none]) ⟨rfl, ⟨rfl, trivial⟩⟩ ?_
        refine V_widen (k' := 0) (n' := 0) (by first | exact Nat.le_of_ble_eq_true rfl | omega | (dsimp only; omega)) (by first | exact Nat.le_of_ble_eq_true rfl | omega | (dsimp only; omega)) ?_
        exact wv_X10_why_59 hl hG  _ _ _ h
  · replace h := h.2 c
    refine V_iconst (v := 0) hG (by decide) dX10_why_38 ?_
    exact V_iret hG dX10_why_39 (by first | exact Nat.le_of_ble_eq_true rfl | omega | (dsimp only; omega)) (by first | exact Nat.le_of_ble_eq_true rfl | omega | (dsimp only; omega)) h
def wp_X10_why_27  (this : Nat) (v1 : Int32) (v2 : Int32) (s0 : Nat) (σ : Sg) (Post : Rs → Sg → Prop) : Prop := (wp_X10_why_28 this v1 v2 s0 (1 : Int32) σ Post)
set_option maxRecDepth 100000 in
set_option maxHeartbeats 4000000 in
theorem wv_X10_why_27 {L9 : Launch} {G : Cx} {Post : Rs → Sg → Prop} (hl : L9.stackTraces = false) (hG : CX L9 G yX10_why cX10_why 3 (some .int) [] { frames := 4, cells := 0, slots := 0, locals := 95 })   : ∀ (this : Nat) (v1 : Int32) (v2 : Int32) (s0 : Nat) (σ : Sg), wp_X10_why_27 this v1 v2 s0 σ Post → V G (QM G 0 0 Post) 27 [some (.ref this), some (.int v1), some (.int v2)] [.ref s0] σ 0 0 := by
  intro this v1 v2 s0 σ h
  unfold wp_X10_why_27 at h
  refine V_iconst (v := 1) hG (by decide) dX10_why_27 ?_
  refine V_forget (lo' := [some (.ref this), some (.int v1), some (.int v2)]) ⟨rfl, ⟨rfl, ⟨rfl, trivial⟩⟩⟩ ?_
  refine V_widen (k' := 0) (n' := 0) (by first | exact Nat.le_of_ble_eq_true rfl | omega | (dsimp only; omega)) (by first | exact Nat.le_of_ble_eq_true rfl | omega | (dsimp only; omega)) ?_
  exact wv_X10_why_28 hl hG  _ _ _ _ _ _ h
def wp_X10_why (this : Nat) (a0 : Int32) (a1 : Int32) (σ : Sg) (Post : Rs → Sg → Prop) : Prop := this % 32 = 10 ∧ wp_X10_isBatch this a0 σ (KI (fun x2 σ1 => ((x2 = 0 → (wp_X10_why_27 this a0 a1 this σ1 Post)) ∧ (¬ x2 = 0 → this % 32 = 10 ∧ wp_X10_in a1 (0 : Int32) ((sI σ1 this 27) - (1 : Int32)) σ1 (KI (fun x4 σ3 => ((x4 = 0 → (wp_X10_why_27 this a0 a1 this σ3 Post)) ∧ (¬ x4 = 0 → (wp_X10_why_28 this a0 a1 this (0 : Int32) σ3 Post)))) (fun E σ3 => Post (.inr E) σ3))))) (fun E σ1 => Post (.inr E) σ1))
set_option maxRecDepth 100000 in
set_option maxHeartbeats 4000000 in
theorem ct_X10_why {l : Launch} (hl : l.stackTraces = false) {this : Nat} {a0 : Int32} {a1 : Int32} {σ : Sg} {Post : Rs → Sg → Prop} (h : wp_X10_why this a0 a1 σ Post) : Ct l yX10_why (.code yX10_why cX10_why 3 (some .int)) 4 95 0 0 [.ref this, .int a0, .int a1] σ Post := by
  refine Ct_of [some (.ref this), some (.int a0), some (.int a1)] hl (by decide +kernel) rfl (fun ad => by rfl) (fun ad => by exact Nat.le_of_ble_eq_true rfl) (fun v hv => mem_lo hv rfl) ?_
  intro G hG
  unfold wp_X10_why at h
  refine V_aload_n (v := .ref this) hG dX10_why_0 rfl rfl ?_
  refine V_aload_n (v := .ref this) hG dX10_why_1 rfl rfl ?_
  refine V_iload_n hG dX10_why_2 rfl ?_
  obtain ⟨ht, h⟩ := h
  refine V_cVI _ _ hG dX10_why_3 (ct_X10_isBatch hl h) mv_X10_isBatch ml_X10_219 ht rfl rfl rfl rfl (by first | exact Nat.le_of_ble_eq_true rfl | (simp only [List.map_cons, List.map_nil, List.sum_cons, List.sum_nil, cat_rf]; exact Nat.le_of_ble_eq_true rfl)) (Nat.le_of_ble_eq_true rfl) (Nat.le_of_ble_eq_true rfl) (by first | exact Nat.le_of_ble_eq_true rfl | omega | (dsimp only; omega)) (by first | exact Nat.le_of_ble_eq_true rfl | omega | (dsimp only; omega)) ?_ (fun x2 σ1 h9 => ?_)
  · exact fun E σ1 hx => VX_out hG (by first | exact Nat.le_of_ble_eq_true rfl | omega | (dsimp only; omega)) (by first | exact Nat.le_of_ble_eq_true rfl | omega | (dsimp only; omega)) hx
  · replace h := h9
    clear h9
    refine V_if_eq (tgt := 27) hG dX10_why_6 (by decide) (fun c => ?_) (fun c => ?_)
    · replace h := h.1 c
      refine V_forget (lo' := [some (.ref this), some (.int a0), some (.int a1)]) ⟨rfl, ⟨rfl, ⟨rfl, trivial⟩⟩⟩ ?_
      refine V_widen (k' := 0) (n' := 0) (by first | exact Nat.le_of_ble_eq_true rfl | omega | (dsimp only; omega)) (by first | exact Nat.le_of_ble_eq_true rfl | omega | (dsimp only; omega)) ?_
      exact wv_X10_why_27 hl hG  _ _ _ _ _ h
    · replace h := h.2 c
      refine V_iload_n hG dX10_why_9 rfl ?_
      refine V_iconst (v := 0) hG (by decide) dX10_why_10 ?_
      refine V_aload_n (v := .ref this) hG dX10_why_11 rfl rfl ?_
      obtain ⟨ht, h⟩ := h
      refine V_getI hG dX10_why_12 fl_X10_183 rfl ht ?_
      refine V_iconst (v := 1) hG (by decide) dX10_why_15 ?_
      refine V_isub hG dX10_why_16 ?_
      refine V_cSI _ _ hG dX10_why_17 (ct_X10_in hl h) mv_X10_in ml_X10_172 rfl rfl (by first | exact Nat.le_of_ble_eq_true rfl | (simp only [List.map_cons, List.map_nil, List.sum_cons, List.sum_nil, cat_rf]; exact Nat.le_of_ble_eq_true rfl)) (Nat.le_of_ble_eq_true rfl) (Nat.le_of_ble_eq_true rfl) (by first | exact Nat.le_of_ble_eq_true rfl | omega | (dsimp only; omega)) (by first | exact Nat.le_of_ble_eq_true rfl | omega | (dsimp only; omega)) ?_ (fun x4 σ3 h9 => ?_)
      · exact fun E σ3 hx => VX_out hG (by first | exact Nat.le_of_ble_eq_true rfl | omega | (dsimp only; omega)) (by first | exact Nat.le_of_ble_eq_true rfl | omega | (dsimp only; omega)) hx
      · replace h := h9
        clear h9
        refine V_if_eq (tgt := 27) hG dX10_why_20 (by decide) (fun c => ?_) (fun c => ?_)
        · replace h := h.1 c
          refine V_forget (lo' := [some (.ref this), some (.int a0), some (.int a1)]) ⟨rfl, ⟨rfl, ⟨rfl, trivial⟩⟩⟩ ?_
          refine V_widen (k' := 0) (n' := 0) (by first | exact Nat.le_of_ble_eq_true rfl | omega | (dsimp only; omega)) (by first | exact Nat.le_of_ble_eq_true rfl | omega | (dsimp only; omega)) ?_
          exact wv_X10_why_27 hl hG  _ _ _ _ _ h
        · replace h := h.2 c
          refine V_iconst (v := 0) hG (by decide) dX10_why_23 ?_
          refine V_goto (tgt := 28) hG dX10_why_24 (by decide) ?_
          refine V_forget (lo' := [some (.ref this), some (.int a0), some (.int a1)]) ⟨rfl, ⟨rfl, ⟨rfl, trivial⟩⟩⟩ ?_
          refine V_widen (k' := 0) (n' := 0) (by first | exact Nat.le_of_ble_eq_true rfl | omega | (dsimp only; omega)) (by first | exact Nat.le_of_ble_eq_true rfl | omega | (dsimp only; omega)) ?_
          exact wv_X10_why_28 hl hG  _ _ _ _ _ _ h
def wp_X10_hoursOf_87 (K2 : Nat → Int32 → Int32 → Sg → Prop) (K28 : Nat → Int32 → Int32 → Int32 → Int32 → Int32 → Sg → Prop) (this : Nat) (v1 : Int32) (v2 : Int32) (v4 : Int32) (v5 : Int32) (s0 : Int32) (σ : Sg) (Post : Rs → Sg → Prop) : Prop := (K28 this v1 v2 s0 v4 (v5 + 1) σ)
set_option maxRecDepth 100000 in
set_option maxHeartbeats 4000000 in
theorem wv_X10_hoursOf_87 {L9 : Launch} {G : Cx} {Post : Rs → Sg → Prop} (hl : L9.stackTraces = false) (hG : CX L9 G yX10_hoursOf cX10_hoursOf 7 (some .int) [] { frames := 0, cells := 0, slots := 0, locals := 0 }) {K2 : Nat → Int32 → Int32 → Sg → Prop} {K28 : Nat → Int32 → Int32 → Int32 → Int32 → Int32 → Sg → Prop} (hK2 : ∀ (this : Nat) (v1 : Int32) (v2 : Int32) (ζ : Sg), K2 this v1 v2 ζ → V G (QM G 0 0 Post) 2 [some (.ref this), some (.int v1), some (.int v2), none, none, none, none] [] ζ 0 0) (hK28 : ∀ (this : Nat) (v1 : Int32) (v2 : Int32) (v3 : Int32) (v4 : Int32) (v5 : Int32) (ζ : Sg), K28 this v1 v2 v3 v4 v5 ζ → V G (QM G 0 0 Post) 28 [some (.ref this), some (.int v1), some (.int v2), some (.int v3), some (.int v4), some (.int v5), none] [] ζ 0 0) : ∀ (this : Nat) (v1 : Int32) (v2 : Int32) (v4 : Int32) (v5 : Int32) (s0 : Int32) (σ : Sg), wp_X10_hoursOf_87 K2 K28 this v1 v2 v4 v5 s0 σ Post → V G (QM G 0 0 Post) 87 [some (.ref this), some (.int v1), some (.int v2), none, some (.int v4), some (.int v5), none] [.int s0] σ 0 0 := by
  intro this v1 v2 v4 v5 s0 σ h
  unfold wp_X10_hoursOf_87 at h
  refine V_istore_n hG dX10_hoursOf_87 (Nat.le_of_ble_eq_true rfl) (hpV rfl rfl) ?_
  refine V_iincv (c := 1) hG dX10_hoursOf_88 rfl (by decide) (hpV rfl rfl) ?_
  refine V_goto (tgt := 28) hG dX10_hoursOf_91 (by decide) ?_
  refine V_forget (lo' := [some (.ref this), some (.int v1), some (.int v2), some (.int s0), some (.int v4), some (.int (v5 + 1)), none]) ⟨rfl, ⟨rfl, ⟨rfl, ⟨rfl, ⟨rfl, ⟨rfl, trivial⟩⟩⟩⟩⟩⟩ ?_
  exact hK28 _ _ _ _ _ _ _ h
def wp_X10_hoursOf_73 (K2 : Nat → Int32 → Int32 → Sg → Prop) (K28 : Nat → Int32 → Int32 → Int32 → Int32 → Int32 → Sg → Prop) (this : Nat) (v1 : Int32) (v2 : Int32) (v3 : Int32) (v5 : Int32) (v6 : Int32) (s0 : Int32) (σ : Sg) (Post : Rs → Sg → Prop) : Prop := ((v6 ≤ v3 → (wp_X10_hoursOf_87 K2 K28 this v1 v2 s0 v5 v3 σ Post)) ∧ (¬ v6 ≤ v3 → (wp_X10_hoursOf_87 K2 K28 this v1 v2 s0 v5 v6 σ Post)))
set_option maxRecDepth 100000 in
set_option maxHeartbeats 4000000 in
theorem wv_X10_hoursOf_73 {L9 : Launch} {G : Cx} {Post : Rs → Sg → Prop} (hl : L9.stackTraces = false) (hG : CX L9 G yX10_hoursOf cX10_hoursOf 7 (some .int) [] { frames := 0, cells := 0, slots := 0, locals := 0 }) {K2 : Nat → Int32 → Int32 → Sg → Prop} {K28 : Nat → Int32 → Int32 → Int32 → Int32 → Int32 → Sg → Prop} (hK2 : ∀ (this : Nat) (v1 : Int32) (v2 : Int32) (ζ : Sg), K2 this v1 v2 ζ → V G (QM G 0 0 Post) 2 [some (.ref this), some (.int v1), some (.int v2), none, none, none, none] [] ζ 0 0) (hK28 : ∀ (this : Nat) (v1 : Int32) (v2 : Int32) (v3 : Int32) (v4 : Int32) (v5 : Int32) (ζ : Sg), K28 this v1 v2 v3 v4 v5 ζ → V G (QM G 0 0 Post) 28 [some (.ref this), some (.int v1), some (.int v2), some (.int v3), some (.int v4), some (.int v5), none] [] ζ 0 0) : ∀ (this : Nat) (v1 : Int32) (v2 : Int32) (v3 : Int32) (v5 : Int32) (v6 : Int32) (s0 : Int32) (σ : Sg), wp_X10_hoursOf_73 K2 K28 this v1 v2 v3 v5 v6 s0 σ Post → V G (QM G 0 0 Post) 73 [some (.ref this), some (.int v1), some (.int v2), some (.int v3), none, some (.int v5), some (.int v6)] [.int s0] σ 0 0 := by
  intro this v1 v2 v3 v5 v6 s0 σ h
  unfold wp_X10_hoursOf_73 at h
  refine V_istore hG dX10_hoursOf_73 (Nat.le_of_ble_eq_true rfl) (hpV rfl rfl) ?_
  refine V_iload hG dX10_hoursOf_75 rfl ?_
  refine V_iload_n hG dX10_hoursOf_77 rfl ?_
  refine V_icmp_le (tgt := 86) hG dX10_hoursOf_78 (by decide) (fun c => ?_) (fun c => ?_)
  · replace h := h.1 c
    refine V_iload_n hG dX10_hoursOf_86 rfl ?_
    refine V_forget (lo' := [some (.ref this), some (.int v1), some (.int v2), none, some (.int s0), some (.int v5), none]) ⟨rfl, ⟨rfl, ⟨rfl, ⟨rfl, ⟨rfl, trivial⟩⟩⟩⟩⟩ ?_
    refine V_widen (k' := 0) (n' := 0) (by first | exact Nat.le_of_ble_eq_true rfl | omega | (dsimp only; omega)) (by first | exact Nat.le_of_ble_eq_true rfl | omega | (dsimp only; omega)) ?_
    exact wv_X10_hoursOf_87 hl hG hK2 hK28 _ _ _ _ _ _ _ h
  · replace h := h.2 c
    refine V_iload hG dX10_hoursOf_81 rfl ?_
    refine V_goto (tgt := 87) hG dX10_hoursOf_83 (by decide) ?_
    refine V_forget (lo' := [some (.ref this), some (.int v1), some (.int v2), none, some (.int s0), some (.int v5), none]) ⟨rfl, ⟨rfl, ⟨rfl, ⟨rfl, ⟨rfl, trivial⟩⟩⟩⟩⟩ ?_
    refine V_widen (k' := 0) (n' := 0) (by first | exact Nat.le_of_ble_eq_true rfl | omega | (dsimp only; omega)) (by first | exact Nat.le_of_ble_eq_true rfl | omega | (dsimp only; omega)) ?_
    exact wv_X10_hoursOf_87 hl hG hK2 hK28 _ _ _ _ _ _ _ h
def wp_X10_hoursOf_72 (K2 : Nat → Int32 → Int32 → Sg → Prop) (K28 : Nat → Int32 → Int32 → Int32 → Int32 → Int32 → Sg → Prop) (this : Nat) (v1 : Int32) (v2 : Int32) (v3 : Int32) (v5 : Int32) (v6 : Int32) (σ : Sg) (Post : Rs → Sg → Prop) : Prop := (wp_X10_hoursOf_73 K2 K28 this v1 v2 v3 v5 v6 (0 : Int32) σ Post)
set_option maxRecDepth 100000 in
set_option maxHeartbeats 4000000 in
theorem wv_X10_hoursOf_72 {L9 : Launch} {G : Cx} {Post : Rs → Sg → Prop} (hl : L9.stackTraces = false) (hG : CX L9 G yX10_hoursOf cX10_hoursOf 7 (some .int) [] { frames := 0, cells := 0, slots := 0, locals := 0 }) {K2 : Nat → Int32 → Int32 → Sg → Prop} {K28 : Nat → Int32 → Int32 → Int32 → Int32 → Int32 → Sg → Prop} (hK2 : ∀ (this : Nat) (v1 : Int32) (v2 : Int32) (ζ : Sg), K2 this v1 v2 ζ → V G (QM G 0 0 Post) 2 [some (.ref this), some (.int v1), some (.int v2), none, none, none, none] [] ζ 0 0) (hK28 : ∀ (this : Nat) (v1 : Int32) (v2 : Int32) (v3 : Int32) (v4 : Int32) (v5 : Int32) (ζ : Sg), K28 this v1 v2 v3 v4 v5 ζ → V G (QM G 0 0 Post) 28 [some (.ref this), some (.int v1), some (.int v2), some (.int v3), some (.int v4), some (.int v5), none] [] ζ 0 0) : ∀ (this : Nat) (v1 : Int32) (v2 : Int32) (v3 : Int32) (v5 : Int32) (v6 : Int32) (σ : Sg), wp_X10_hoursOf_72 K2 K28 this v1 v2 v3 v5 v6 σ Post → V G (QM G 0 0 Post) 72 [some (.ref this), some (.int v1), some (.int v2), some (.int v3), none, some (.int v5), some (.int v6)] [] σ 0 0 := by
  intro this v1 v2 v3 v5 v6 σ h
  unfold wp_X10_hoursOf_72 at h
  refine V_iconst (v := 0) hG (by decide) dX10_hoursOf_72 ?_
  refine V_forget (lo' := [some (.ref this), some (.int v1), some (.int v2), some (.int v3), none, some (.int v5), some (.int v6)]) ⟨rfl, ⟨rfl, ⟨rfl, ⟨rfl, ⟨rfl, ⟨rfl, trivial⟩⟩⟩⟩⟩⟩ ?_
  refine V_widen (k' := 0) (n' := 0) (by first | exact Nat.le_of_ble_eq_true rfl | omega | (dsimp only; omega)) (by first | exact Nat.le_of_ble_eq_true rfl | omega | (dsimp only; omega)) ?_
  exact wv_X10_hoursOf_73 hl hG hK2 hK28 _ _ _ _ _ _ _ _ h
def wp_X10_hoursOf_168 (K2 : Nat → Int32 → Int32 → Sg → Prop) (this : Nat) (v1 : Int32) (v2 : Int32) (s0 : Option Nat) (s1 : Int32) (s2 : Int32) (σ : Sg) (Post : Rs → Sg → Prop) : Prop := ∃ u1, s0 = some u1 ∧ aty (u1 % 32) = some .int ∧ ∃ j2, s1 = nI j2 ∧ j2 < aln u1 ∧ (K2 this v1 (v2 + 1) (wI σ u1 j2 s2))
set_option maxRecDepth 100000 in
set_option maxHeartbeats 4000000 in
theorem wv_X10_hoursOf_168 {L9 : Launch} {G : Cx} {Post : Rs → Sg → Prop} (hl : L9.stackTraces = false) (hG : CX L9 G yX10_hoursOf cX10_hoursOf 7 (some .int) [] { frames := 0, cells := 0, slots := 0, locals := 0 }) {K2 : Nat → Int32 → Int32 → Sg → Prop} (hK2 : ∀ (this : Nat) (v1 : Int32) (v2 : Int32) (ζ : Sg), K2 this v1 v2 ζ → V G (QM G 0 0 Post) 2 [some (.ref this), some (.int v1), some (.int v2), none, none, none, none] [] ζ 0 0) : ∀ (this : Nat) (v1 : Int32) (v2 : Int32) (s0 : Option Nat) (s1 : Int32) (s2 : Int32) (σ : Sg), wp_X10_hoursOf_168 K2 this v1 v2 s0 s1 s2 σ Post → V G (QM G 0 0 Post) 168 [some (.ref this), some (.int v1), some (.int v2), none, none, none, none] [.int s2, .int s1, va_rf s0] σ 0 0 := by
  intro this v1 v2 s0 s1 s2 σ h
  unfold wp_X10_hoursOf_168 at h
  obtain ⟨u1, he, h⟩ := h
  subst he
  obtain ⟨ha, j2, hi, hj, h⟩ := h
  refine V_iast hG dX10_hoursOf_168 ha hi hj ?_
  refine V_iincv (c := 1) hG dX10_hoursOf_169 rfl (by decide) (hpV rfl rfl) ?_
  refine V_goto (tgt := 2) hG dX10_hoursOf_172 (by decide) ?_
  refine V_forget (lo' := [some (.ref this), some (.int v1), some (.int (v2 + 1)), none, none, none, none]) ⟨rfl, ⟨rfl, ⟨rfl, trivial⟩⟩⟩ ?_
  exact hK2 _ _ _ _ h
def wp_X10_hoursOf_119 (K2 : Nat → Int32 → Int32 → Sg → Prop) : Nat → Nat → Int32 → Int32 → Int32 → Int32 → Int32 → Sg → (Rs → Sg → Prop) → Prop
  | 0, _, _, _, _, _, _, _, _ => False
  | f + 1, this, v1, v2, v4, v5, v6, σ, Post => this % 32 = 10 ∧ ∀ o1, o1 = sP σ this 7 → ∃ u2, o1 = some u2 ∧ aty (u2 % 32) = some .int ∧ ∃ j3, v2 = nI j3 ∧ j3 < aln u2 ∧ (((sI σ u2 j3) ≤ v6 → this % 32 = 10 ∧ ∀ o4, o4 = sP σ this 61 → ((v4 = 0 → (wp_X10_hoursOf_168 K2 this v1 v2 o4 v2 (-1 : Int32) σ Post)) ∧ (¬ v4 = 0 → (wp_X10_hoursOf_168 K2 this v1 v2 o4 v2 v5 σ Post)))) ∧ (¬ (sI σ u2 j3) ≤ v6 → this % 32 = 10 ∧ ∀ o5, o5 = sP σ this 10 → ∃ u6, o5 = some u6 ∧ aty (u6 % 32) = some .int ∧ ∃ j7, (((4 : Int32) * v2) + v6) = nI j7 ∧ j7 < aln u6 ∧ (wp_X10_hoursOf_119 K2 f this v1 v2 v4 (v5 + (sI σ u6 j7)) (v6 + 1) σ Post)))
set_option maxRecDepth 100000 in
set_option maxHeartbeats 4000000 in
theorem wv_X10_hoursOf_119 {L9 : Launch} {G : Cx} {Post : Rs → Sg → Prop} (hl : L9.stackTraces = false) (hG : CX L9 G yX10_hoursOf cX10_hoursOf 7 (some .int) [] { frames := 0, cells := 0, slots := 0, locals := 0 }) {K2 : Nat → Int32 → Int32 → Sg → Prop} (hK2 : ∀ (this : Nat) (v1 : Int32) (v2 : Int32) (ζ : Sg), K2 this v1 v2 ζ → V G (QM G 0 0 Post) 2 [some (.ref this), some (.int v1), some (.int v2), none, none, none, none] [] ζ 0 0) : ∀ (f : Nat) (this : Nat) (v1 : Int32) (v2 : Int32) (v4 : Int32) (v5 : Int32) (v6 : Int32) (σ : Sg), wp_X10_hoursOf_119 K2 f this v1 v2 v4 v5 v6 σ Post → V G (QM G 0 0 Post) 119 [some (.ref this), some (.int v1), some (.int v2), none, some (.int v4), some (.int v5), some (.int v6)] [] σ 0 0 := by
  intro f
  induction f with
  | zero => intro _ _ _ _ _ _ σ h; exact h.elim
  | succ f ih =>
    intro this v1 v2 v4 v5 v6 σ h
    refine V_iload hG dX10_hoursOf_119 rfl ?_
    refine V_aload_n (v := .ref this) hG dX10_hoursOf_121 rfl rfl ?_
    obtain ⟨ht, h⟩ := h
    refine V_getPv hG dX10_hoursOf_122 fl_X10_31 rfl ht (fun o1 ho => ?_)
    replace h := h o1 ho
    refine V_iload_n hG dX10_hoursOf_125 rfl ?_
    obtain ⟨u2, he, h⟩ := h
    subst he
    obtain ⟨ha, j3, hi, hj, h⟩ := h
    refine V_iald hG dX10_hoursOf_126 ha hi hj ?_
    refine V_icmp_ge (tgt := 152) hG dX10_hoursOf_127 (by decide) (fun c => ?_) (fun c => ?_)
    · replace h := h.1 c
      refine V_aload_n (v := .ref this) hG dX10_hoursOf_152 rfl rfl ?_
      obtain ⟨ht, h⟩ := h
      refine V_getPv hG dX10_hoursOf_153 fl_X10_165 rfl ht (fun o4 ho => ?_)
      replace h := h o4 ho
      refine V_iload_n hG dX10_hoursOf_156 rfl ?_
      refine V_iload hG dX10_hoursOf_157 rfl ?_
      refine V_if_eq (tgt := 167) hG dX10_hoursOf_159 (by decide) (fun c => ?_) (fun c => ?_)
      · replace h := h.1 c
        refine V_iconst (v := (-1)) hG (by decide) dX10_hoursOf_167 ?_
        refine V_forget (lo' := [some (.ref this), some (.int v1), some (.int v2), none, none, none, none]) ⟨rfl, ⟨rfl, ⟨rfl, trivial⟩⟩⟩ ?_
        refine V_widen (k' := 0) (n' := 0) (by first | exact Nat.le_of_ble_eq_true rfl | omega | (dsimp only; omega)) (by first | exact Nat.le_of_ble_eq_true rfl | omega | (dsimp only; omega)) ?_
        exact wv_X10_hoursOf_168 hl hG hK2 _ _ _ _ _ _ _ h
      · replace h := h.2 c
        refine V_iload hG dX10_hoursOf_162 rfl ?_
        refine V_goto (tgt := 168) hG dX10_hoursOf_164 (by decide) ?_
        refine V_forget (lo' := [some (.ref this), some (.int v1), some (.int v2), none, none, none, none]) ⟨rfl, ⟨rfl, ⟨rfl, trivial⟩⟩⟩ ?_
        refine V_widen (k' := 0) (n' := 0) (by first | exact Nat.le_of_ble_eq_true rfl | omega | (dsimp only; omega)) (by first | exact Nat.le_of_ble_eq_true rfl | omega | (dsimp only; omega)) ?_
        exact wv_X10_hoursOf_168 hl hG hK2 _ _ _ _ _ _ _ h
    · replace h := h.2 c
      refine V_iload hG dX10_hoursOf_130 rfl ?_
      refine V_aload_n (v := .ref this) hG dX10_hoursOf_132 rfl rfl ?_
      obtain ⟨ht, h⟩ := h
      refine V_getPv hG dX10_hoursOf_133 fl_X10_40 rfl ht (fun o5 ho => ?_)
      replace h := h o5 ho
      refine V_iconst (v := 4) hG (by decide) dX10_hoursOf_136 ?_
      refine V_iload_n hG dX10_hoursOf_137 rfl ?_
      refine V_imul hG dX10_hoursOf_138 ?_
      refine V_iload hG dX10_hoursOf_139 rfl ?_
      refine V_iadd hG dX10_hoursOf_141 ?_
      obtain ⟨u6, he, h⟩ := h
      subst he
      obtain ⟨ha, j7, hi, hj, h⟩ := h
      refine V_iald hG dX10_hoursOf_142 ha hi hj ?_
      refine V_iadd hG dX10_hoursOf_143 ?_
      refine V_istore hG dX10_hoursOf_144 (Nat.le_of_ble_eq_true rfl) (hpV rfl rfl) ?_
      refine V_iincv (c := 1) hG dX10_hoursOf_146 rfl (by decide) (hpV rfl rfl) ?_
      refine V_goto (tgt := 119) hG dX10_hoursOf_149 (by decide) ?_
      refine V_forget (lo' := [some (.ref this), some (.int v1), some (.int v2), none, some (.int v4), some (.int (v5 + (sI σ u6 j7))), some (.int (v6 + 1))]) ⟨rfl, ⟨rfl, ⟨rfl, ⟨rfl, ⟨rfl, ⟨rfl, trivial⟩⟩⟩⟩⟩⟩ ?_
      exact ih _ _ _ _ _ _ _ h
def wp_X10_hoursOf_114 (K2 : Nat → Int32 → Int32 → Sg → Prop) (this : Nat) (v1 : Int32) (v2 : Int32) (v4 : Int32) (s0 : Int32) (σ : Sg) (Post : Rs → Sg → Prop) : Prop := (∃ g, wp_X10_hoursOf_119 K2 g this v1 v2 v4 s0 (0 : Int32) σ Post)
set_option maxRecDepth 100000 in
set_option maxHeartbeats 4000000 in
theorem wv_X10_hoursOf_114 {L9 : Launch} {G : Cx} {Post : Rs → Sg → Prop} (hl : L9.stackTraces = false) (hG : CX L9 G yX10_hoursOf cX10_hoursOf 7 (some .int) [] { frames := 0, cells := 0, slots := 0, locals := 0 }) {K2 : Nat → Int32 → Int32 → Sg → Prop} (hK2 : ∀ (this : Nat) (v1 : Int32) (v2 : Int32) (ζ : Sg), K2 this v1 v2 ζ → V G (QM G 0 0 Post) 2 [some (.ref this), some (.int v1), some (.int v2), none, none, none, none] [] ζ 0 0) : ∀ (this : Nat) (v1 : Int32) (v2 : Int32) (v4 : Int32) (s0 : Int32) (σ : Sg), wp_X10_hoursOf_114 K2 this v1 v2 v4 s0 σ Post → V G (QM G 0 0 Post) 114 [some (.ref this), some (.int v1), some (.int v2), none, some (.int v4), none, none] [.int s0] σ 0 0 := by
  intro this v1 v2 v4 s0 σ h
  unfold wp_X10_hoursOf_114 at h
  refine V_istore hG dX10_hoursOf_114 (Nat.le_of_ble_eq_true rfl) (hpV rfl rfl) ?_
  refine V_iconst (v := 0) hG (by decide) dX10_hoursOf_116 ?_
  refine V_istore hG dX10_hoursOf_117 (Nat.le_of_ble_eq_true rfl) (hpV rfl rfl) ?_
  refine V_forget (lo' := [some (.ref this), some (.int v1), some (.int v2), none, some (.int v4), some (.int s0), some (.int (0 : Int32))]) ⟨rfl, ⟨rfl, ⟨rfl, ⟨rfl, ⟨rfl, ⟨rfl, trivial⟩⟩⟩⟩⟩⟩ ?_
  obtain ⟨g, h⟩ := h
  refine V_widen (k' := 0) (n' := 0) (by first | exact Nat.le_of_ble_eq_true rfl | omega | (dsimp only; omega)) (by first | exact Nat.le_of_ble_eq_true rfl | omega | (dsimp only; omega)) ?_
  exact wv_X10_hoursOf_119 hl hG hK2 g _ _ _ _ _ _ _ h
def wp_X10_hoursOf_28 (K2 : Nat → Int32 → Int32 → Sg → Prop) : Nat → Nat → Int32 → Int32 → Int32 → Int32 → Int32 → Sg → (Rs → Sg → Prop) → Prop
  | 0, _, _, _, _, _, _, _, _ => False
  | f + 1, this, v1, v2, v3, v4, v5, σ, Post => this % 32 = 10 ∧ ∀ o1, o1 = sP σ this 3 → ∃ u2, o1 = some u2 ∧ aty (u2 % 32) = some .int ∧ ∃ j3, v2 = nI j3 ∧ j3 < aln u2 ∧ (((sI σ u2 j3) ≤ v5 → this % 32 = 10 ∧ ∀ o4, o4 = sP σ this 0 → ∃ u5, o4 = some u5 ∧ aty (u5 % 32) = some .int ∧ ∃ j6, v2 = nI j6 ∧ j6 < aln u5 ∧ ((¬ (sI σ u5 j6) = (1 : Int32) → (wp_X10_hoursOf_114 K2 this v1 v2 v4 v3 σ Post)) ∧ ((sI σ u5 j6) = (1 : Int32) → this % 32 = 10 ∧ ∀ o7, o7 = sP σ this 2 → ∃ u8, o7 = some u8 ∧ aty (u8 % 32) = some .int ∧ ∃ j9, v2 = nI j9 ∧ j9 < aln u8 ∧ (wp_X10_hoursOf_114 K2 this v1 v2 v4 (sI σ u8 j9) σ Post)))) ∧ (¬ (sI σ u2 j3) ≤ v5 → this % 32 = 10 ∧ ∀ o10, o10 = sP σ this 61 → this % 32 = 10 ∧ ∀ o11, o11 = sP σ this 4 → ∃ u12, o11 = some u12 ∧ aty (u12 % 32) = some .int ∧ ∃ j13, (((3 : Int32) * v2) + v5) = nI j13 ∧ j13 < aln u12 ∧ ∃ u14, o10 = some u14 ∧ aty (u14 % 32) = some .int ∧ ∃ j15, (sI σ u12 j13) = nI j15 ∧ j15 < aln u14 ∧ ((v4 = 0 → (wp_X10_hoursOf_72 K2 (fun z0 z1 z2 z3 z4 z5 ζ => wp_X10_hoursOf_28 K2 f z0 z1 z2 z3 z4 z5 ζ Post) this v1 v2 v3 v5 (sI σ u14 j15) σ Post)) ∧ (¬ v4 = 0 → (((sI σ u14 j15) = (-1 : Int32) → (wp_X10_hoursOf_72 K2 (fun z0 z1 z2 z3 z4 z5 ζ => wp_X10_hoursOf_28 K2 f z0 z1 z2 z3 z4 z5 ζ Post) this v1 v2 v3 v5 (sI σ u14 j15) σ Post)) ∧ (¬ (sI σ u14 j15) = (-1 : Int32) → (wp_X10_hoursOf_73 K2 (fun z0 z1 z2 z3 z4 z5 ζ => wp_X10_hoursOf_28 K2 f z0 z1 z2 z3 z4 z5 ζ Post) this v1 v2 v3 v5 (sI σ u14 j15) (1 : Int32) σ Post)))))))
set_option maxRecDepth 100000 in
set_option maxHeartbeats 4000000 in
theorem wv_X10_hoursOf_28 {L9 : Launch} {G : Cx} {Post : Rs → Sg → Prop} (hl : L9.stackTraces = false) (hG : CX L9 G yX10_hoursOf cX10_hoursOf 7 (some .int) [] { frames := 0, cells := 0, slots := 0, locals := 0 }) {K2 : Nat → Int32 → Int32 → Sg → Prop} (hK2 : ∀ (this : Nat) (v1 : Int32) (v2 : Int32) (ζ : Sg), K2 this v1 v2 ζ → V G (QM G 0 0 Post) 2 [some (.ref this), some (.int v1), some (.int v2), none, none, none, none] [] ζ 0 0) : ∀ (f : Nat) (this : Nat) (v1 : Int32) (v2 : Int32) (v3 : Int32) (v4 : Int32) (v5 : Int32) (σ : Sg), wp_X10_hoursOf_28 K2 f this v1 v2 v3 v4 v5 σ Post → V G (QM G 0 0 Post) 28 [some (.ref this), some (.int v1), some (.int v2), some (.int v3), some (.int v4), some (.int v5), none] [] σ 0 0 := by
  intro f
  induction f with
  | zero => intro _ _ _ _ _ _ σ h; exact h.elim
  | succ f ih =>
    intro this v1 v2 v3 v4 v5 σ h
    refine V_iload hG dX10_hoursOf_28 rfl ?_
    refine V_aload_n (v := .ref this) hG dX10_hoursOf_30 rfl rfl ?_
    obtain ⟨ht, h⟩ := h
    refine V_getPv hG dX10_hoursOf_31 fl_X10_19 rfl ht (fun o1 ho => ?_)
    replace h := h o1 ho
    refine V_iload_n hG dX10_hoursOf_34 rfl ?_
    obtain ⟨u2, he, h⟩ := h
    subst he
    obtain ⟨ha, j3, hi, hj, h⟩ := h
    refine V_iald hG dX10_hoursOf_35 ha hi hj ?_
    refine V_icmp_ge (tgt := 94) hG dX10_hoursOf_36 (by decide) (fun c => ?_) (fun c => ?_)
    · replace h := h.1 c
      refine V_aload_n (v := .ref this) hG dX10_hoursOf_94 rfl rfl ?_
      obtain ⟨ht, h⟩ := h
      refine V_getPv hG dX10_hoursOf_95 fl_X10_7 rfl ht (fun o4 ho => ?_)
      replace h := h o4 ho
      refine V_iload_n hG dX10_hoursOf_98 rfl ?_
      obtain ⟨u5, he, h⟩ := h
      subst he
      obtain ⟨ha, j6, hi, hj, h⟩ := h
      refine V_iald hG dX10_hoursOf_99 ha hi hj ?_
      refine V_iconst (v := 1) hG (by decide) dX10_hoursOf_100 ?_
      refine V_icmp_ne (tgt := 113) hG dX10_hoursOf_101 (by decide) (fun c => ?_) (fun c => ?_)
      · replace h := h.1 c
        refine V_iload_n hG dX10_hoursOf_113 rfl ?_
        refine V_forget (lo' := [some (.ref this), some (.int v1), some (.int v2), none, some (.int v4), none, none]) ⟨rfl, ⟨rfl, ⟨rfl, ⟨rfl, trivial⟩⟩⟩⟩ ?_
        refine V_widen (k' := 0) (n' := 0) (by first | exact Nat.le_of_ble_eq_true rfl | omega | (dsimp only; omega)) (by first | exact Nat.le_of_ble_eq_true rfl | omega | (dsimp only; omega)) ?_
        exact wv_X10_hoursOf_114 hl hG hK2 _ _ _ _ _ _ h
      · replace h := h.2 c
        refine V_aload_n (v := .ref this) hG dX10_hoursOf_104 rfl rfl ?_
        obtain ⟨ht, h⟩ := h
        refine V_getPv hG dX10_hoursOf_105 fl_X10_16 rfl ht (fun o7 ho => ?_)
        replace h := h o7 ho
        refine V_iload_n hG dX10_hoursOf_108 rfl ?_
        obtain ⟨u8, he, h⟩ := h
        subst he
        obtain ⟨ha, j9, hi, hj, h⟩ := h
        refine V_iald hG dX10_hoursOf_109 ha hi hj ?_
        refine V_goto (tgt := 114) hG dX10_hoursOf_110 (by decide) ?_
        refine V_forget (lo' := [some (.ref this), some (.int v1), some (.int v2), none, some (.int v4), none, none]) ⟨rfl, ⟨rfl, ⟨rfl, ⟨rfl, trivial⟩⟩⟩⟩ ?_
        refine V_widen (k' := 0) (n' := 0) (by first | exact Nat.le_of_ble_eq_true rfl | omega | (dsimp only; omega)) (by first | exact Nat.le_of_ble_eq_true rfl | omega | (dsimp only; omega)) ?_
        exact wv_X10_hoursOf_114 hl hG hK2 _ _ _ _ _ _ h
    · replace h := h.2 c
      refine V_aload_n (v := .ref this) hG dX10_hoursOf_39 rfl rfl ?_
      obtain ⟨ht, h⟩ := h
      refine V_getPv hG dX10_hoursOf_40 fl_X10_165 rfl ht (fun o10 ho => ?_)
      replace h := h o10 ho
      refine V_aload_n (v := .ref this) hG dX10_hoursOf_43 rfl rfl ?_
      obtain ⟨ht, h⟩ := h
      refine V_getPv hG dX10_hoursOf_44 fl_X10_22 rfl ht (fun o11 ho => ?_)
      replace h := h o11 ho
      refine V_iconst (v := 3) hG (by decide) dX10_hoursOf_47 ?_
      refine V_iload_n hG dX10_hoursOf_48 rfl ?_
      refine V_imul hG dX10_hoursOf_49 ?_
      refine V_iload hG dX10_hoursOf_50 rfl ?_
      refine V_iadd hG dX10_hoursOf_52 ?_
      obtain ⟨u12, he, h⟩ := h
      subst he
      obtain ⟨ha, j13, hi, hj, h⟩ := h
      refine V_iald hG dX10_hoursOf_53 ha hi hj ?_
      obtain ⟨u14, he, h⟩ := h
      subst he
      obtain ⟨ha, j15, hi, hj, h⟩ := h
      refine V_iald hG dX10_hoursOf_54 ha hi hj ?_
      refine V_istore hG dX10_hoursOf_55 (Nat.le_of_ble_eq_true rfl) (hpV rfl rfl) ?_
      refine V_iload hG dX10_hoursOf_57 rfl ?_
      refine V_if_eq (tgt := 72) hG dX10_hoursOf_59 (by decide) (fun c => ?_) (fun c => ?_)
      · replace h := h.1 c
        refine V_forget (lo' := [some (.ref this), some (.int v1), some (.int v2), some (.int v3), none, some (.int v5), some (.int (sI σ u14 j15))]) ⟨rfl, ⟨rfl, ⟨rfl, ⟨rfl, ⟨rfl, ⟨rfl, trivial⟩⟩⟩⟩⟩⟩ ?_
        refine V_widen (k' := 0) (n' := 0) (by first | exact Nat.le_of_ble_eq_true rfl | omega | (dsimp only; omega)) (by first | exact Nat.le_of_ble_eq_true rfl | omega | (dsimp only; omega)) ?_
        exact wv_X10_hoursOf_72 hl hG hK2 (fun z0 z1 z2 z3 z4 z5 ζ hz => ih z0 z1 z2 z3 z4 z5 ζ hz) _ _ _ _ _ _ _ h
      · replace h := h.2 c
        refine V_iload hG dX10_hoursOf_62 rfl ?_
        refine V_iconst (v := (-1)) hG (by decide) dX10_hoursOf_64 ?_
        refine V_icmp_eq (tgt := 72) hG dX10_hoursOf_65 (by decide) (fun c => ?_) (fun c => ?_)
        · replace h := h.1 c
          refine V_forget (lo' := [some (.ref this), some (.int v1), some (.int v2), some (.int v3), none, some (.int v5), some (.int (sI σ u14 j15))]) ⟨rfl, ⟨rfl, ⟨rfl, ⟨rfl, ⟨rfl, ⟨rfl, trivial⟩⟩⟩⟩⟩⟩ ?_
          refine V_widen (k' := 0) (n' := 0) (by first | exact Nat.le_of_ble_eq_true rfl | omega | (dsimp only; omega)) (by first | exact Nat.le_of_ble_eq_true rfl | omega | (dsimp only; omega)) ?_
          exact wv_X10_hoursOf_72 hl hG hK2 (fun z0 z1 z2 z3 z4 z5 ζ hz => ih z0 z1 z2 z3 z4 z5 ζ hz) _ _ _ _ _ _ _ h
        · replace h := h.2 c
          refine V_iconst (v := 1) hG (by decide) dX10_hoursOf_68 ?_
          refine V_goto (tgt := 73) hG dX10_hoursOf_69 (by decide) ?_
          refine V_forget (lo' := [some (.ref this), some (.int v1), some (.int v2), some (.int v3), none, some (.int v5), some (.int (sI σ u14 j15))]) ⟨rfl, ⟨rfl, ⟨rfl, ⟨rfl, ⟨rfl, ⟨rfl, trivial⟩⟩⟩⟩⟩⟩ ?_
          refine V_widen (k' := 0) (n' := 0) (by first | exact Nat.le_of_ble_eq_true rfl | omega | (dsimp only; omega)) (by first | exact Nat.le_of_ble_eq_true rfl | omega | (dsimp only; omega)) ?_
          exact wv_X10_hoursOf_73 hl hG hK2 (fun z0 z1 z2 z3 z4 z5 ζ hz => ih z0 z1 z2 z3 z4 z5 ζ hz) _ _ _ _ _ _ _ _ h
def wp_X10_hoursOf_23 (K2 : Nat → Int32 → Int32 → Sg → Prop) (this : Nat) (v1 : Int32) (v2 : Int32) (v3 : Int32) (s0 : Int32) (σ : Sg) (Post : Rs → Sg → Prop) : Prop := (∃ g, wp_X10_hoursOf_28 K2 g this v1 v2 v3 s0 (0 : Int32) σ Post)
set_option maxRecDepth 100000 in
set_option maxHeartbeats 4000000 in
theorem wv_X10_hoursOf_23 {L9 : Launch} {G : Cx} {Post : Rs → Sg → Prop} (hl : L9.stackTraces = false) (hG : CX L9 G yX10_hoursOf cX10_hoursOf 7 (some .int) [] { frames := 0, cells := 0, slots := 0, locals := 0 }) {K2 : Nat → Int32 → Int32 → Sg → Prop} (hK2 : ∀ (this : Nat) (v1 : Int32) (v2 : Int32) (ζ : Sg), K2 this v1 v2 ζ → V G (QM G 0 0 Post) 2 [some (.ref this), some (.int v1), some (.int v2), none, none, none, none] [] ζ 0 0) : ∀ (this : Nat) (v1 : Int32) (v2 : Int32) (v3 : Int32) (s0 : Int32) (σ : Sg), wp_X10_hoursOf_23 K2 this v1 v2 v3 s0 σ Post → V G (QM G 0 0 Post) 23 [some (.ref this), some (.int v1), some (.int v2), some (.int v3), none, none, none] [.int s0] σ 0 0 := by
  intro this v1 v2 v3 s0 σ h
  unfold wp_X10_hoursOf_23 at h
  refine V_istore hG dX10_hoursOf_23 (Nat.le_of_ble_eq_true rfl) (hpV rfl rfl) ?_
  refine V_iconst (v := 0) hG (by decide) dX10_hoursOf_25 ?_
  refine V_istore hG dX10_hoursOf_26 (Nat.le_of_ble_eq_true rfl) (hpV rfl rfl) ?_
  refine V_forget (lo' := [some (.ref this), some (.int v1), some (.int v2), some (.int v3), some (.int s0), some (.int (0 : Int32)), none]) ⟨rfl, ⟨rfl, ⟨rfl, ⟨rfl, ⟨rfl, ⟨rfl, trivial⟩⟩⟩⟩⟩⟩ ?_
  obtain ⟨g, h⟩ := h
  refine V_widen (k' := 0) (n' := 0) (by first | exact Nat.le_of_ble_eq_true rfl | omega | (dsimp only; omega)) (by first | exact Nat.le_of_ble_eq_true rfl | omega | (dsimp only; omega)) ?_
  exact wv_X10_hoursOf_28 hl hG hK2 g _ _ _ _ _ _ _ h
def wp_X10_hoursOf_2  : Nat → Nat → Int32 → Int32 → Sg → (Rs → Sg → Prop) → Prop
  | 0, _, _, _, _, _ => False
  | f + 1, this, v1, v2, σ, Post => ((v1 < v2 → this % 32 = 10 ∧ ∀ o1, o1 = sP σ this 61 → ∃ u2, o1 = some u2 ∧ aty (u2 % 32) = some .int ∧ ∃ j3, v1 = nI j3 ∧ j3 < aln u2 ∧ Post (.inl (some (.int (sI σ u2 j3)))) σ) ∧ (¬ v1 < v2 → this % 32 = 10 ∧ ∀ o4, o4 = sP σ this 0 → ∃ u5, o4 = some u5 ∧ aty (u5 % 32) = some .int ∧ ∃ j6, v2 = nI j6 ∧ j6 < aln u5 ∧ (((sI σ u5 j6) ≤ 0 → (wp_X10_hoursOf_23 (fun z0 z1 z2 ζ => wp_X10_hoursOf_2 f z0 z1 z2 ζ Post) this v1 v2 (0 : Int32) (0 : Int32) σ Post)) ∧ (¬ (sI σ u5 j6) ≤ 0 → (wp_X10_hoursOf_23 (fun z0 z1 z2 ζ => wp_X10_hoursOf_2 f z0 z1 z2 ζ Post) this v1 v2 (0 : Int32) (1 : Int32) σ Post)))))
set_option maxRecDepth 100000 in
set_option maxHeartbeats 4000000 in
theorem wv_X10_hoursOf_2 {L9 : Launch} {G : Cx} {Post : Rs → Sg → Prop} (hl : L9.stackTraces = false) (hG : CX L9 G yX10_hoursOf cX10_hoursOf 7 (some .int) [] { frames := 0, cells := 0, slots := 0, locals := 0 })   : ∀ (f : Nat) (this : Nat) (v1 : Int32) (v2 : Int32) (σ : Sg), wp_X10_hoursOf_2 f this v1 v2 σ Post → V G (QM G 0 0 Post) 2 [some (.ref this), some (.int v1), some (.int v2), none, none, none, none] [] σ 0 0 := by
  intro f
  induction f with
  | zero => intro _ _ _ σ h; exact h.elim
  | succ f ih =>
    intro this v1 v2 σ h
    refine V_iload_n hG dX10_hoursOf_2 rfl ?_
    refine V_iload_n hG dX10_hoursOf_3 rfl ?_
    refine V_icmp_gt (tgt := 175) hG dX10_hoursOf_4 (by decide) (fun c => ?_) (fun c => ?_)
    · replace h := h.1 c
      refine V_aload_n (v := .ref this) hG dX10_hoursOf_175 rfl rfl ?_
      obtain ⟨ht, h⟩ := h
      refine V_getPv hG dX10_hoursOf_176 fl_X10_165 rfl ht (fun o1 ho => ?_)
      replace h := h o1 ho
      refine V_iload_n hG dX10_hoursOf_179 rfl ?_
      obtain ⟨u2, he, h⟩ := h
      subst he
      obtain ⟨ha, j3, hi, hj, h⟩ := h
      refine V_iald hG dX10_hoursOf_180 ha hi hj ?_
      exact V_iret hG dX10_hoursOf_181 (by first | exact Nat.le_of_ble_eq_true rfl | omega | (dsimp only; omega)) (by first | exact Nat.le_of_ble_eq_true rfl | omega | (dsimp only; omega)) h
    · replace h := h.2 c
      refine V_iconst (v := 0) hG (by decide) dX10_hoursOf_7 ?_
      refine V_istore_n hG dX10_hoursOf_8 (Nat.le_of_ble_eq_true rfl) (hpV rfl rfl) ?_
      refine V_aload_n (v := .ref this) hG dX10_hoursOf_9 rfl rfl ?_
      obtain ⟨ht, h⟩ := h
      refine V_getPv hG dX10_hoursOf_10 fl_X10_7 rfl ht (fun o4 ho => ?_)
      replace h := h o4 ho
      refine V_iload_n hG dX10_hoursOf_13 rfl ?_
      obtain ⟨u5, he, h⟩ := h
      subst he
      obtain ⟨ha, j6, hi, hj, h⟩ := h
      refine V_iald hG dX10_hoursOf_14 ha hi hj ?_
      refine V_if_le (tgt := 22) hG dX10_hoursOf_15 (by decide) (fun c => ?_) (fun c => ?_)
      · replace h := h.1 c
        refine V_iconst (v := 0) hG (by decide) dX10_hoursOf_22 ?_
        refine V_forget (lo' := [some (.ref this), some (.int v1), some (.int v2), some (.int (0 : Int32)), none, none, none]) ⟨rfl, ⟨rfl, ⟨rfl, ⟨rfl, trivial⟩⟩⟩⟩ ?_
        refine V_widen (k' := 0) (n' := 0) (by first | exact Nat.le_of_ble_eq_true rfl | omega | (dsimp only; omega)) (by first | exact Nat.le_of_ble_eq_true rfl | omega | (dsimp only; omega)) ?_
        exact wv_X10_hoursOf_23 hl hG (fun z0 z1 z2 ζ hz => ih z0 z1 z2 ζ hz) _ _ _ _ _ _ h
      · replace h := h.2 c
        refine V_iconst (v := 1) hG (by decide) dX10_hoursOf_18 ?_
        refine V_goto (tgt := 23) hG dX10_hoursOf_19 (by decide) ?_
        refine V_forget (lo' := [some (.ref this), some (.int v1), some (.int v2), some (.int (0 : Int32)), none, none, none]) ⟨rfl, ⟨rfl, ⟨rfl, ⟨rfl, trivial⟩⟩⟩⟩ ?_
        refine V_widen (k' := 0) (n' := 0) (by first | exact Nat.le_of_ble_eq_true rfl | omega | (dsimp only; omega)) (by first | exact Nat.le_of_ble_eq_true rfl | omega | (dsimp only; omega)) ?_
        exact wv_X10_hoursOf_23 hl hG (fun z0 z1 z2 ζ hz => ih z0 z1 z2 ζ hz) _ _ _ _ _ _ h
def wp_X10_hoursOf (this : Nat) (a0 : Int32) (σ : Sg) (Post : Rs → Sg → Prop) : Prop := (∃ g, wp_X10_hoursOf_2 g this a0 (0 : Int32) σ Post)
set_option maxRecDepth 100000 in
set_option maxHeartbeats 4000000 in
theorem ct_X10_hoursOf {l : Launch} (hl : l.stackTraces = false) {this : Nat} {a0 : Int32} {σ : Sg} {Post : Rs → Sg → Prop} (h : wp_X10_hoursOf this a0 σ Post) : Ct l yX10_hoursOf (.code yX10_hoursOf cX10_hoursOf 7 (some .int)) 0 0 0 0 [.ref this, .int a0] σ Post := by
  refine Ct_of [some (.ref this), some (.int a0), none, none, none, none, none] hl (by decide +kernel) rfl (fun ad => by rfl) (fun ad => by exact Nat.le_of_ble_eq_true rfl) (fun v hv => mem_lo hv rfl) ?_
  intro G hG
  unfold wp_X10_hoursOf at h
  refine V_iconst (v := 0) hG (by decide) dX10_hoursOf_0 ?_
  refine V_istore_n hG dX10_hoursOf_1 (Nat.le_of_ble_eq_true rfl) (hpV rfl rfl) ?_
  refine V_forget (lo' := [some (.ref this), some (.int a0), some (.int (0 : Int32)), none, none, none, none]) ⟨rfl, ⟨rfl, ⟨rfl, trivial⟩⟩⟩ ?_
  obtain ⟨g, h⟩ := h
  refine V_widen (k' := 0) (n' := 0) (by first | exact Nat.le_of_ble_eq_true rfl | omega | (dsimp only; omega)) (by first | exact Nat.le_of_ble_eq_true rfl | omega | (dsimp only; omega)) ?_
  exact wv_X10_hoursOf_2 hl hG  g _ _ _ _ h
def wp_X10_latest_41  (this : Nat) (v1 : Int32) (v2 : Int32) (s0 : Nat) (s1 : Int32) (σ : Sg) (Post : Rs → Sg → Prop) : Prop := s0 % 32 = 10 ∧ this % 32 = 10 ∧ ((¬ (sI (wI σ s0 59 s1) this 59) = 0 → Post (.inl (some (.int (0 : Int32)))) (wI σ s0 59 s1)) ∧ ((sI (wI σ s0 59 s1) this 59) = 0 → this % 32 = 10 ∧ wp_X10_hoursOf this v1 (wI σ s0 59 s1) (KI (fun x2 σ1 => Post (.inl (some (.int (v2 - x2)))) σ1) (fun E σ1 => Post (.inr E) σ1))))
set_option maxRecDepth 100000 in
set_option maxHeartbeats 4000000 in
theorem wv_X10_latest_41 {L9 : Launch} {G : Cx} {Post : Rs → Sg → Prop} (hl : L9.stackTraces = false) (hG : CX L9 G yX10_latest cX10_latest 3 (some .int) [] { frames := 2, cells := 0, slots := 0, locals := 42 })   : ∀ (this : Nat) (v1 : Int32) (v2 : Int32) (s0 : Nat) (s1 : Int32) (σ : Sg), wp_X10_latest_41 this v1 v2 s0 s1 σ Post → V G (QM G 0 0 Post) 41 [some (.ref this), some (.int v1), some (.int v2)] [.int s1, .ref s0] σ 0 0 := by
  intro this v1 v2 s0 s1 σ h
  unfold wp_X10_latest_41 at h
  obtain ⟨ht, h⟩ := h
  refine V_putI hG dX10_latest_41 fl_X10_168 rfl (fun e => absurd e (by decide)) rfl ht ?_
  refine V_aload_n (v := .ref this) hG dX10_latest_44 rfl rfl ?_
  obtain ⟨ht, h⟩ := h
  refine V_getI hG dX10_latest_45 fl_X10_168 rfl ht ?_
  refine V_if_ne (tgt := 61) hG dX10_latest_48 (by decide) (fun c => ?_) (fun c => ?_)
  · replace h := h.1 c
    refine V_iconst (v := 0) hG (by decide) dX10_latest_61 ?_
    exact V_iret hG dX10_latest_62 (by first | exact Nat.le_of_ble_eq_true rfl | omega | (dsimp only; omega)) (by first | exact Nat.le_of_ble_eq_true rfl | omega | (dsimp only; omega)) h
  · replace h := h.2 c
    refine V_iload_n hG dX10_latest_51 rfl ?_
    refine V_aload_n (v := .ref this) hG dX10_latest_52 rfl rfl ?_
    refine V_iload_n hG dX10_latest_53 rfl ?_
    obtain ⟨ht, h⟩ := h
    refine V_cVI _ _ hG dX10_latest_54 (ct_X10_hoursOf hl h) mv_X10_hoursOf ml_X10_326 ht rfl rfl rfl rfl (by first | exact Nat.le_of_ble_eq_true rfl | (simp only [List.map_cons, List.map_nil, List.sum_cons, List.sum_nil, cat_rf]; exact Nat.le_of_ble_eq_true rfl)) (Nat.le_of_ble_eq_true rfl) (Nat.le_of_ble_eq_true rfl) (by first | exact Nat.le_of_ble_eq_true rfl | omega | (dsimp only; omega)) (by first | exact Nat.le_of_ble_eq_true rfl | omega | (dsimp only; omega)) ?_ (fun x2 σ1 h9 => ?_)
    · exact fun E σ1 hx => VX_out hG (by first | exact Nat.le_of_ble_eq_true rfl | omega | (dsimp only; omega)) (by first | exact Nat.le_of_ble_eq_true rfl | omega | (dsimp only; omega)) hx
    · replace h := h9
      clear h9
      refine V_isub hG dX10_latest_57 ?_
      refine V_goto (tgt := 62) hG dX10_latest_58 (by decide) ?_
      exact V_iret hG dX10_latest_62 (by first | exact Nat.le_of_ble_eq_true rfl | omega | (dsimp only; omega)) (by first | exact Nat.le_of_ble_eq_true rfl | omega | (dsimp only; omega)) h
def wp_X10_latest (this : Nat) (a0 : Int32) (a1 : Int32) (σ : Sg) (Post : Rs → Sg → Prop) : Prop := wp_X10_isKind a0 σ (KI (fun x2 σ1 => ((¬ x2 = 0 → wp_X10_in a1 (0 : Int32) (999 : Int32) σ1 (KI (fun x4 σ3 => ((¬ x4 = 0 → this % 32 = 10 ∧ wp_X10_hoursOf this a0 σ3 (KI (fun x6 σ5 => ((¬ x6 = (-1 : Int32) → (wp_X10_latest_41 this a0 a1 this (0 : Int32) σ5 Post)) ∧ (x6 = (-1 : Int32) → (wp_X10_latest_41 this a0 a1 this (3 : Int32) σ5 Post)))) (fun E σ5 => Post (.inr E) σ5))) ∧ (x4 = 0 → (wp_X10_latest_41 this a0 a1 this (2 : Int32) σ3 Post)))) (fun E σ3 => Post (.inr E) σ3))) ∧ (x2 = 0 → (wp_X10_latest_41 this a0 a1 this (1 : Int32) σ1 Post)))) (fun E σ1 => Post (.inr E) σ1))
set_option maxRecDepth 100000 in
set_option maxHeartbeats 4000000 in
theorem ct_X10_latest {l : Launch} (hl : l.stackTraces = false) {this : Nat} {a0 : Int32} {a1 : Int32} {σ : Sg} {Post : Rs → Sg → Prop} (h : wp_X10_latest this a0 a1 σ Post) : Ct l yX10_latest (.code yX10_latest cX10_latest 3 (some .int)) 2 42 0 0 [.ref this, .int a0, .int a1] σ Post := by
  refine Ct_of [some (.ref this), some (.int a0), some (.int a1)] hl (by decide +kernel) rfl (fun ad => by rfl) (fun ad => by exact Nat.le_of_ble_eq_true rfl) (fun v hv => mem_lo hv rfl) ?_
  intro G hG
  unfold wp_X10_latest at h
  refine V_aload_n (v := .ref this) hG dX10_latest_0 rfl rfl ?_
  refine V_iload_n hG dX10_latest_1 rfl ?_
  refine V_cSI _ _ hG dX10_latest_2 (ct_X10_isKind hl h) mv_X10_isKind ml_X10_179 rfl rfl (by first | exact Nat.le_of_ble_eq_true rfl | (simp only [List.map_cons, List.map_nil, List.sum_cons, List.sum_nil, cat_rf]; exact Nat.le_of_ble_eq_true rfl)) (Nat.le_of_ble_eq_true rfl) (Nat.le_of_ble_eq_true rfl) (by first | exact Nat.le_of_ble_eq_true rfl | omega | (dsimp only; omega)) (by first | exact Nat.le_of_ble_eq_true rfl | omega | (dsimp only; omega)) ?_ (fun x2 σ1 h9 => ?_)
  · exact fun E σ1 hx => VX_out hG (by first | exact Nat.le_of_ble_eq_true rfl | omega | (dsimp only; omega)) (by first | exact Nat.le_of_ble_eq_true rfl | omega | (dsimp only; omega)) hx
  · replace h := h9
    clear h9
    refine V_if_ne (tgt := 12) hG dX10_latest_5 (by decide) (fun c => ?_) (fun c => ?_)
    · replace h := h.1 c
      refine V_iload_n hG dX10_latest_12 rfl ?_
      refine V_iconst (v := 0) hG (by decide) dX10_latest_13 ?_
      refine V_sipush (v := 999) hG (by decide) dX10_latest_14 ?_
      refine V_cSI _ _ hG dX10_latest_17 (ct_X10_in hl h) mv_X10_in ml_X10_172 rfl rfl (by first | exact Nat.le_of_ble_eq_true rfl | (simp only [List.map_cons, List.map_nil, List.sum_cons, List.sum_nil, cat_rf]; exact Nat.le_of_ble_eq_true rfl)) (Nat.le_of_ble_eq_true rfl) (Nat.le_of_ble_eq_true rfl) (by first | exact Nat.le_of_ble_eq_true rfl | omega | (dsimp only; omega)) (by first | exact Nat.le_of_ble_eq_true rfl | omega | (dsimp only; omega)) ?_ (fun x4 σ3 h9 => ?_)
      · exact fun E σ3 hx => VX_out hG (by first | exact Nat.le_of_ble_eq_true rfl | omega | (dsimp only; omega)) (by first | exact Nat.le_of_ble_eq_true rfl | omega | (dsimp only; omega)) hx
      · replace h := h9
        clear h9
        refine V_if_ne (tgt := 27) hG dX10_latest_20 (by decide) (fun c => ?_) (fun c => ?_)
        · replace h := h.1 c
          refine V_aload_n (v := .ref this) hG dX10_latest_27 rfl rfl ?_
          refine V_iload_n hG dX10_latest_28 rfl ?_
          obtain ⟨ht, h⟩ := h
          refine V_cVI _ _ hG dX10_latest_29 (ct_X10_hoursOf hl h) mv_X10_hoursOf ml_X10_326 ht rfl rfl rfl rfl (by first | exact Nat.le_of_ble_eq_true rfl | (simp only [List.map_cons, List.map_nil, List.sum_cons, List.sum_nil, cat_rf]; exact Nat.le_of_ble_eq_true rfl)) (Nat.le_of_ble_eq_true rfl) (Nat.le_of_ble_eq_true rfl) (by first | exact Nat.le_of_ble_eq_true rfl | omega | (dsimp only; omega)) (by first | exact Nat.le_of_ble_eq_true rfl | omega | (dsimp only; omega)) ?_ (fun x6 σ5 h9 => ?_)
          · exact fun E σ5 hx => VX_out hG (by first | exact Nat.le_of_ble_eq_true rfl | omega | (dsimp only; omega)) (by first | exact Nat.le_of_ble_eq_true rfl | omega | (dsimp only; omega)) hx
          · replace h := h9
            clear h9
            refine V_iconst (v := (-1)) hG (by decide) dX10_latest_32 ?_
            refine V_icmp_ne (tgt := 40) hG dX10_latest_33 (by decide) (fun c => ?_) (fun c => ?_)
            · replace h := h.1 c
              refine V_iconst (v := 0) hG (by decide) dX10_latest_40 ?_
              refine V_forget (lo' := [some (.ref this), some (.int a0), some (.int a1)]) ⟨rfl, ⟨rfl, ⟨rfl, trivial⟩⟩⟩ ?_
              refine V_widen (k' := 0) (n' := 0) (by first | exact Nat.le_of_ble_eq_true rfl | omega | (dsimp only; omega)) (by first | exact Nat.le_of_ble_eq_true rfl | omega | (dsimp only; omega)) ?_
              exact wv_X10_latest_41 hl hG  _ _ _ _ _ _ h
            · replace h := h.2 c
              refine V_iconst (v := 3) hG (by decide) dX10_latest_36 ?_
              refine V_goto (tgt := 41) hG dX10_latest_37 (by decide) ?_
              refine V_forget (lo' := [some (.ref this), some (.int a0), some (.int a1)]) ⟨rfl, ⟨rfl, ⟨rfl, trivial⟩⟩⟩ ?_
              refine V_widen (k' := 0) (n' := 0) (by first | exact Nat.le_of_ble_eq_true rfl | omega | (dsimp only; omega)) (by first | exact Nat.le_of_ble_eq_true rfl | omega | (dsimp only; omega)) ?_
              exact wv_X10_latest_41 hl hG  _ _ _ _ _ _ h
        · replace h := h.2 c
          refine V_iconst (v := 2) hG (by decide) dX10_latest_23 ?_
          refine V_goto (tgt := 41) hG dX10_latest_24 (by decide) ?_
          refine V_forget (lo' := [some (.ref this), some (.int a0), some (.int a1)]) ⟨rfl, ⟨rfl, ⟨rfl, trivial⟩⟩⟩ ?_
          refine V_widen (k' := 0) (n' := 0) (by first | exact Nat.le_of_ble_eq_true rfl | omega | (dsimp only; omega)) (by first | exact Nat.le_of_ble_eq_true rfl | omega | (dsimp only; omega)) ?_
          exact wv_X10_latest_41 hl hG  _ _ _ _ _ _ h
    · replace h := h.2 c
      refine V_iconst (v := 1) hG (by decide) dX10_latest_8 ?_
      refine V_goto (tgt := 41) hG dX10_latest_9 (by decide) ?_
      refine V_forget (lo' := [some (.ref this), some (.int a0), some (.int a1)]) ⟨rfl, ⟨rfl, ⟨rfl, trivial⟩⟩⟩ ?_
      refine V_widen (k' := 0) (n' := 0) (by first | exact Nat.le_of_ble_eq_true rfl | omega | (dsimp only; omega)) (by first | exact Nat.le_of_ble_eq_true rfl | omega | (dsimp only; omega)) ?_
      exact wv_X10_latest_41 hl hG  _ _ _ _ _ _ h
def wp_X10_earliest_26  (this : Nat) (v1 : Int32) (s0 : Nat) (s1 : Int32) (σ : Sg) (Post : Rs → Sg → Prop) : Prop := s0 % 32 = 10 ∧ this % 32 = 10 ∧ ((¬ (sI (wI σ s0 59 s1) this 59) = 0 → Post (.inl (some (.int (0 : Int32)))) (wI σ s0 59 s1)) ∧ ((sI (wI σ s0 59 s1) this 59) = 0 → this % 32 = 10 ∧ this % 32 = 10 ∧ wp_X10_hoursOf this v1 (wI σ s0 59 s1) (KI (fun x2 σ1 => Post (.inl (some (.int ((sI (wI σ s0 59 s1) this 55) + x2)))) σ1) (fun E σ1 => Post (.inr E) σ1))))
set_option maxRecDepth 100000 in
set_option maxHeartbeats 4000000 in
theorem wv_X10_earliest_26 {L9 : Launch} {G : Cx} {Post : Rs → Sg → Prop} (hl : L9.stackTraces = false) (hG : CX L9 G yX10_earliest cX10_earliest 2 (some .int) [] { frames := 2, cells := 0, slots := 0, locals := 42 })   : ∀ (this : Nat) (v1 : Int32) (s0 : Nat) (s1 : Int32) (σ : Sg), wp_X10_earliest_26 this v1 s0 s1 σ Post → V G (QM G 0 0 Post) 26 [some (.ref this), some (.int v1)] [.int s1, .ref s0] σ 0 0 := by
  intro this v1 s0 s1 σ h
  unfold wp_X10_earliest_26 at h
  obtain ⟨ht, h⟩ := h
  refine V_putI hG dX10_earliest_26 fl_X10_168 rfl (fun e => absurd e (by decide)) rfl ht ?_
  refine V_aload_n (v := .ref this) hG dX10_earliest_29 rfl rfl ?_
  obtain ⟨ht, h⟩ := h
  refine V_getI hG dX10_earliest_30 fl_X10_168 rfl ht ?_
  refine V_if_ne (tgt := 49) hG dX10_earliest_33 (by decide) (fun c => ?_) (fun c => ?_)
  · replace h := h.1 c
    refine V_iconst (v := 0) hG (by decide) dX10_earliest_49 ?_
    exact V_iret hG dX10_earliest_50 (by first | exact Nat.le_of_ble_eq_true rfl | omega | (dsimp only; omega)) (by first | exact Nat.le_of_ble_eq_true rfl | omega | (dsimp only; omega)) h
  · replace h := h.2 c
    refine V_aload_n (v := .ref this) hG dX10_earliest_36 rfl rfl ?_
    obtain ⟨ht, h⟩ := h
    refine V_getI hG dX10_earliest_37 fl_X10_193 rfl ht ?_
    refine V_aload_n (v := .ref this) hG dX10_earliest_40 rfl rfl ?_
    refine V_iload_n hG dX10_earliest_41 rfl ?_
    obtain ⟨ht, h⟩ := h
    refine V_cVI _ _ hG dX10_earliest_42 (ct_X10_hoursOf hl h) mv_X10_hoursOf ml_X10_326 ht rfl rfl rfl rfl (by first | exact Nat.le_of_ble_eq_true rfl | (simp only [List.map_cons, List.map_nil, List.sum_cons, List.sum_nil, cat_rf]; exact Nat.le_of_ble_eq_true rfl)) (Nat.le_of_ble_eq_true rfl) (Nat.le_of_ble_eq_true rfl) (by first | exact Nat.le_of_ble_eq_true rfl | omega | (dsimp only; omega)) (by first | exact Nat.le_of_ble_eq_true rfl | omega | (dsimp only; omega)) ?_ (fun x2 σ1 h9 => ?_)
    · exact fun E σ1 hx => VX_out hG (by first | exact Nat.le_of_ble_eq_true rfl | omega | (dsimp only; omega)) (by first | exact Nat.le_of_ble_eq_true rfl | omega | (dsimp only; omega)) hx
    · replace h := h9
      clear h9
      refine V_iadd hG dX10_earliest_45 ?_
      refine V_goto (tgt := 50) hG dX10_earliest_46 (by decide) ?_
      exact V_iret hG dX10_earliest_50 (by first | exact Nat.le_of_ble_eq_true rfl | omega | (dsimp only; omega)) (by first | exact Nat.le_of_ble_eq_true rfl | omega | (dsimp only; omega)) h
def wp_X10_earliest (this : Nat) (a0 : Int32) (σ : Sg) (Post : Rs → Sg → Prop) : Prop := wp_X10_isKind a0 σ (KI (fun x2 σ1 => ((¬ x2 = 0 → this % 32 = 10 ∧ wp_X10_hoursOf this a0 σ1 (KI (fun x4 σ3 => ((¬ x4 = (-1 : Int32) → (wp_X10_earliest_26 this a0 this (0 : Int32) σ3 Post)) ∧ (x4 = (-1 : Int32) → (wp_X10_earliest_26 this a0 this (2 : Int32) σ3 Post)))) (fun E σ3 => Post (.inr E) σ3))) ∧ (x2 = 0 → (wp_X10_earliest_26 this a0 this (1 : Int32) σ1 Post)))) (fun E σ1 => Post (.inr E) σ1))
set_option maxRecDepth 100000 in
set_option maxHeartbeats 4000000 in
theorem ct_X10_earliest {l : Launch} (hl : l.stackTraces = false) {this : Nat} {a0 : Int32} {σ : Sg} {Post : Rs → Sg → Prop} (h : wp_X10_earliest this a0 σ Post) : Ct l yX10_earliest (.code yX10_earliest cX10_earliest 2 (some .int)) 2 42 0 0 [.ref this, .int a0] σ Post := by
  refine Ct_of [some (.ref this), some (.int a0)] hl (by decide +kernel) rfl (fun ad => by rfl) (fun ad => by exact Nat.le_of_ble_eq_true rfl) (fun v hv => mem_lo hv rfl) ?_
  intro G hG
  unfold wp_X10_earliest at h
  refine V_aload_n (v := .ref this) hG dX10_earliest_0 rfl rfl ?_
  refine V_iload_n hG dX10_earliest_1 rfl ?_
  refine V_cSI _ _ hG dX10_earliest_2 (ct_X10_isKind hl h) mv_X10_isKind ml_X10_179 rfl rfl (by first | exact Nat.le_of_ble_eq_true rfl | (simp only [List.map_cons, List.map_nil, List.sum_cons, List.sum_nil, cat_rf]; exact Nat.le_of_ble_eq_true rfl)) (Nat.le_of_ble_eq_true rfl) (Nat.le_of_ble_eq_true rfl) (by first | exact Nat.le_of_ble_eq_true rfl | omega | (dsimp only; omega)) (by first | exact Nat.le_of_ble_eq_true rfl | omega | (dsimp only; omega)) ?_ (fun x2 σ1 h9 => ?_)
  · exact fun E σ1 hx => VX_out hG (by first | exact Nat.le_of_ble_eq_true rfl | omega | (dsimp only; omega)) (by first | exact Nat.le_of_ble_eq_true rfl | omega | (dsimp only; omega)) hx
  · replace h := h9
    clear h9
    refine V_if_ne (tgt := 12) hG dX10_earliest_5 (by decide) (fun c => ?_) (fun c => ?_)
    · replace h := h.1 c
      refine V_aload_n (v := .ref this) hG dX10_earliest_12 rfl rfl ?_
      refine V_iload_n hG dX10_earliest_13 rfl ?_
      obtain ⟨ht, h⟩ := h
      refine V_cVI _ _ hG dX10_earliest_14 (ct_X10_hoursOf hl h) mv_X10_hoursOf ml_X10_326 ht rfl rfl rfl rfl (by first | exact Nat.le_of_ble_eq_true rfl | (simp only [List.map_cons, List.map_nil, List.sum_cons, List.sum_nil, cat_rf]; exact Nat.le_of_ble_eq_true rfl)) (Nat.le_of_ble_eq_true rfl) (Nat.le_of_ble_eq_true rfl) (by first | exact Nat.le_of_ble_eq_true rfl | omega | (dsimp only; omega)) (by first | exact Nat.le_of_ble_eq_true rfl | omega | (dsimp only; omega)) ?_ (fun x4 σ3 h9 => ?_)
      · exact fun E σ3 hx => VX_out hG (by first | exact Nat.le_of_ble_eq_true rfl | omega | (dsimp only; omega)) (by first | exact Nat.le_of_ble_eq_true rfl | omega | (dsimp only; omega)) hx
      · replace h := h9
        clear h9
        refine V_iconst (v := (-1)) hG (by decide) dX10_earliest_17 ?_
        refine V_icmp_ne (tgt := 25) hG dX10_earliest_18 (by decide) (fun c => ?_) (fun c => ?_)
        · replace h := h.1 c
          refine V_iconst (v := 0) hG (by decide) dX10_earliest_25 ?_
          refine V_forget (lo' := [some (.ref this), some (.int a0)]) ⟨rfl, ⟨rfl, trivial⟩⟩ ?_
          refine V_widen (k' := 0) (n' := 0) (by first | exact Nat.le_of_ble_eq_true rfl | omega | (dsimp only; omega)) (by first | exact Nat.le_of_ble_eq_true rfl | omega | (dsimp only; omega)) ?_
          exact wv_X10_earliest_26 hl hG  _ _ _ _ _ h
        · replace h := h.2 c
          refine V_iconst (v := 2) hG (by decide) dX10_earliest_21 ?_
          refine V_goto (tgt := 26) hG dX10_earliest_22 (by decide) ?_
          refine V_forget (lo' := [some (.ref this), some (.int a0)]) ⟨rfl, ⟨rfl, trivial⟩⟩ ?_
          refine V_widen (k' := 0) (n' := 0) (by first | exact Nat.le_of_ble_eq_true rfl | omega | (dsimp only; omega)) (by first | exact Nat.le_of_ble_eq_true rfl | omega | (dsimp only; omega)) ?_
          exact wv_X10_earliest_26 hl hG  _ _ _ _ _ h
    · replace h := h.2 c
      refine V_iconst (v := 1) hG (by decide) dX10_earliest_8 ?_
      refine V_goto (tgt := 26) hG dX10_earliest_9 (by decide) ?_
      refine V_forget (lo' := [some (.ref this), some (.int a0)]) ⟨rfl, ⟨rfl, trivial⟩⟩ ?_
      refine V_widen (k' := 0) (n' := 0) (by first | exact Nat.le_of_ble_eq_true rfl | omega | (dsimp only; omega)) (by first | exact Nat.le_of_ble_eq_true rfl | omega | (dsimp only; omega)) ?_
      exact wv_X10_earliest_26 hl hG  _ _ _ _ _ h
def wp_X10_ledger_120 (K31 : Nat → Int32 → Int32 → Int32 → Sg → Prop) (this : Nat) (v1 : Int32) (v3 : Int32) (s0 : Int32) (s1 : Int32) (σ : Sg) (Post : Rs → Sg → Prop) : Prop := (K31 this v1 (s0 + s1) (v3 + 1) σ)
set_option maxRecDepth 100000 in
set_option maxHeartbeats 4000000 in
theorem wv_X10_ledger_120 {L9 : Launch} {G : Cx} {Post : Rs → Sg → Prop} (hl : L9.stackTraces = false) (hG : CX L9 G yX10_ledger cX10_ledger 6 (some .int) [] { frames := 1, cells := 0, slots := 0, locals := 22 }) {K31 : Nat → Int32 → Int32 → Int32 → Sg → Prop} (hK31 : ∀ (this : Nat) (v1 : Int32) (v2 : Int32) (v3 : Int32) (ζ : Sg), K31 this v1 v2 v3 ζ → V G (QM G 0 0 Post) 31 [some (.ref this), some (.int v1), some (.int v2), some (.int v3), none, none] [] ζ 0 0) : ∀ (this : Nat) (v1 : Int32) (v3 : Int32) (s0 : Int32) (s1 : Int32) (σ : Sg), wp_X10_ledger_120 K31 this v1 v3 s0 s1 σ Post → V G (QM G 0 0 Post) 120 [some (.ref this), some (.int v1), none, some (.int v3), none, none] [.int s1, .int s0] σ 0 0 := by
  intro this v1 v3 s0 s1 σ h
  unfold wp_X10_ledger_120 at h
  refine V_iadd hG dX10_ledger_120 ?_
  refine V_istore_n hG dX10_ledger_121 (Nat.le_of_ble_eq_true rfl) (hpV rfl rfl) ?_
  refine V_iincv (c := 1) hG dX10_ledger_122 rfl (by decide) (hpV rfl rfl) ?_
  refine V_goto (tgt := 31) hG dX10_ledger_125 (by decide) ?_
  refine V_forget (lo' := [some (.ref this), some (.int v1), some (.int (s0 + s1)), some (.int (v3 + 1)), none, none]) ⟨rfl, ⟨rfl, ⟨rfl, ⟨rfl, trivial⟩⟩⟩⟩ ?_
  exact hK31 _ _ _ _ _ h
def wp_X10_ledger_102 (K31 : Nat → Int32 → Int32 → Int32 → Sg → Prop) (this : Nat) (v1 : Int32) (v2 : Int32) (v3 : Int32) (s0 : Int32) (σ : Sg) (Post : Rs → Sg → Prop) : Prop := ((s0 = 0 → (wp_X10_ledger_120 K31 this v1 v3 v2 (0 : Int32) σ Post)) ∧ (¬ s0 = 0 → this % 32 = 10 ∧ ∀ o1, o1 = sP σ this 17 → ∃ u2, o1 = some u2 ∧ aty (u2 % 32) = some .int ∧ ∃ j3, v3 = nI j3 ∧ j3 < aln u2 ∧ (wp_X10_ledger_120 K31 this v1 v3 v2 (sI σ u2 j3) σ Post)))
set_option maxRecDepth 100000 in
set_option maxHeartbeats 4000000 in
theorem wv_X10_ledger_102 {L9 : Launch} {G : Cx} {Post : Rs → Sg → Prop} (hl : L9.stackTraces = false) (hG : CX L9 G yX10_ledger cX10_ledger 6 (some .int) [] { frames := 1, cells := 0, slots := 0, locals := 22 }) {K31 : Nat → Int32 → Int32 → Int32 → Sg → Prop} (hK31 : ∀ (this : Nat) (v1 : Int32) (v2 : Int32) (v3 : Int32) (ζ : Sg), K31 this v1 v2 v3 ζ → V G (QM G 0 0 Post) 31 [some (.ref this), some (.int v1), some (.int v2), some (.int v3), none, none] [] ζ 0 0) : ∀ (this : Nat) (v1 : Int32) (v2 : Int32) (v3 : Int32) (s0 : Int32) (σ : Sg), wp_X10_ledger_102 K31 this v1 v2 v3 s0 σ Post → V G (QM G 0 0 Post) 102 [some (.ref this), some (.int v1), some (.int v2), some (.int v3), none, none] [.int s0] σ 0 0 := by
  intro this v1 v2 v3 s0 σ h
  unfold wp_X10_ledger_102 at h
  refine V_istore hG dX10_ledger_102 (Nat.le_of_ble_eq_true rfl) (hpN rfl) ?_
  refine V_iload_n hG dX10_ledger_104 rfl ?_
  refine V_iload hG dX10_ledger_105 rfl ?_
  refine V_if_eq (tgt := 119) hG dX10_ledger_107 (by decide) (fun c => ?_) (fun c => ?_)
  · replace h := h.1 c
    refine V_iconst (v := 0) hG (by decide) dX10_ledger_119 ?_
    refine V_forget (lo' := [some (.ref this), some (.int v1), none, some (.int v3), none, none]) ⟨rfl, ⟨rfl, ⟨rfl, trivial⟩⟩⟩ ?_
    refine V_widen (k' := 0) (n' := 0) (by first | exact Nat.le_of_ble_eq_true rfl | omega | (dsimp only; omega)) (by first | exact Nat.le_of_ble_eq_true rfl | omega | (dsimp only; omega)) ?_
    exact wv_X10_ledger_120 hl hG hK31 _ _ _ _ _ _ h
  · replace h := h.2 c
    refine V_aload_n (v := .ref this) hG dX10_ledger_110 rfl rfl ?_
    obtain ⟨ht, h⟩ := h
    refine V_getPv hG dX10_ledger_111 fl_X10_59 rfl ht (fun o1 ho => ?_)
    replace h := h o1 ho
    refine V_iload_n hG dX10_ledger_114 rfl ?_
    obtain ⟨u2, he, h⟩ := h
    subst he
    obtain ⟨ha, j3, hi, hj, h⟩ := h
    refine V_iald hG dX10_ledger_115 ha hi hj ?_
    refine V_goto (tgt := 120) hG dX10_ledger_116 (by decide) ?_
    refine V_forget (lo' := [some (.ref this), some (.int v1), none, some (.int v3), none, none]) ⟨rfl, ⟨rfl, ⟨rfl, trivial⟩⟩⟩ ?_
    refine V_widen (k' := 0) (n' := 0) (by first | exact Nat.le_of_ble_eq_true rfl | omega | (dsimp only; omega)) (by first | exact Nat.le_of_ble_eq_true rfl | omega | (dsimp only; omega)) ?_
    exact wv_X10_ledger_120 hl hG hK31 _ _ _ _ _ _ h
def wp_X10_ledger_101 (K31 : Nat → Int32 → Int32 → Int32 → Sg → Prop) (this : Nat) (v1 : Int32) (v2 : Int32) (v3 : Int32) (σ : Sg) (Post : Rs → Sg → Prop) : Prop := (wp_X10_ledger_102 K31 this v1 v2 v3 (0 : Int32) σ Post)
set_option maxRecDepth 100000 in
set_option maxHeartbeats 4000000 in
theorem wv_X10_ledger_101 {L9 : Launch} {G : Cx} {Post : Rs → Sg → Prop} (hl : L9.stackTraces = false) (hG : CX L9 G yX10_ledger cX10_ledger 6 (some .int) [] { frames := 1, cells := 0, slots := 0, locals := 22 }) {K31 : Nat → Int32 → Int32 → Int32 → Sg → Prop} (hK31 : ∀ (this : Nat) (v1 : Int32) (v2 : Int32) (v3 : Int32) (ζ : Sg), K31 this v1 v2 v3 ζ → V G (QM G 0 0 Post) 31 [some (.ref this), some (.int v1), some (.int v2), some (.int v3), none, none] [] ζ 0 0) : ∀ (this : Nat) (v1 : Int32) (v2 : Int32) (v3 : Int32) (σ : Sg), wp_X10_ledger_101 K31 this v1 v2 v3 σ Post → V G (QM G 0 0 Post) 101 [some (.ref this), some (.int v1), some (.int v2), some (.int v3), none, none] [] σ 0 0 := by
  intro this v1 v2 v3 σ h
  unfold wp_X10_ledger_101 at h
  refine V_iconst (v := 0) hG (by decide) dX10_ledger_101 ?_
  refine V_forget (lo' := [some (.ref this), some (.int v1), some (.int v2), some (.int v3), none, none]) ⟨rfl, ⟨rfl, ⟨rfl, ⟨rfl, trivial⟩⟩⟩⟩ ?_
  refine V_widen (k' := 0) (n' := 0) (by first | exact Nat.le_of_ble_eq_true rfl | omega | (dsimp only; omega)) (by first | exact Nat.le_of_ble_eq_true rfl | omega | (dsimp only; omega)) ?_
  exact wv_X10_ledger_102 hl hG hK31 _ _ _ _ _ _ h
def wp_X10_ledger_31  : Nat → Nat → Int32 → Int32 → Int32 → Sg → (Rs → Sg → Prop) → Prop
  | 0, _, _, _, _, _, _ => False
  | f + 1, this, v1, v2, v3, σ, Post => this % 32 = 10 ∧ (((sI σ this 14) ≤ v3 → ((¬ v1 = 0 → ((¬ v1 = (1 : Int32) → ((¬ v1 = (5 : Int32) → Post (.inl (some (.int v2))) σ) ∧ (v1 = (5 : Int32) → this % 32 = 10 ∧ Post (.inl (some (.int (sI σ this 58)))) σ))) ∧ (v1 = (1 : Int32) → this % 32 = 10 ∧ Post (.inl (some (.int (sI σ this 57)))) σ))) ∧ (v1 = 0 → this % 32 = 10 ∧ Post (.inl (some (.int (sI σ this 56)))) σ))) ∧ (¬ (sI σ this 14) ≤ v3 → this % 32 = 10 ∧ ∀ o1, o1 = sP σ this 18 → ∃ u2, o1 = some u2 ∧ aty (u2 % 32) = some .int ∧ ∃ j3, v3 = nI j3 ∧ j3 < aln u2 ∧ ((¬ v1 = (2 : Int32) → ((¬ v1 = (3 : Int32) → ((¬ v1 = (4 : Int32) → (wp_X10_ledger_101 (fun z0 z1 z2 z3 ζ => wp_X10_ledger_31 f z0 z1 z2 z3 ζ Post) this v1 v2 v3 σ Post)) ∧ (v1 = (4 : Int32) → ((¬ (sI σ u2 j3) = (6 : Int32) → (wp_X10_ledger_101 (fun z0 z1 z2 z3 ζ => wp_X10_ledger_31 f z0 z1 z2 z3 ζ Post) this v1 v2 v3 σ Post)) ∧ ((sI σ u2 j3) = (6 : Int32) → (wp_X10_ledger_102 (fun z0 z1 z2 z3 ζ => wp_X10_ledger_31 f z0 z1 z2 z3 ζ Post) this v1 v2 v3 (1 : Int32) σ Post)))))) ∧ (v1 = (3 : Int32) → ((¬ (sI σ u2 j3) = (5 : Int32) → (wp_X10_ledger_102 (fun z0 z1 z2 z3 ζ => wp_X10_ledger_31 f z0 z1 z2 z3 ζ Post) this v1 v2 v3 (0 : Int32) σ Post)) ∧ ((sI σ u2 j3) = (5 : Int32) → (wp_X10_ledger_102 (fun z0 z1 z2 z3 ζ => wp_X10_ledger_31 f z0 z1 z2 z3 ζ Post) this v1 v2 v3 (1 : Int32) σ Post)))))) ∧ (v1 = (2 : Int32) → (((4 : Int32) ≤ (sI σ u2 j3) → (wp_X10_ledger_102 (fun z0 z1 z2 z3 ζ => wp_X10_ledger_31 f z0 z1 z2 z3 ζ Post) this v1 v2 v3 (0 : Int32) σ Post)) ∧ (¬ (4 : Int32) ≤ (sI σ u2 j3) → (wp_X10_ledger_102 (fun z0 z1 z2 z3 ζ => wp_X10_ledger_31 f z0 z1 z2 z3 ζ Post) this v1 v2 v3 (1 : Int32) σ Post)))))))
set_option maxRecDepth 100000 in
set_option maxHeartbeats 4000000 in
theorem wv_X10_ledger_31 {L9 : Launch} {G : Cx} {Post : Rs → Sg → Prop} (hl : L9.stackTraces = false) (hG : CX L9 G yX10_ledger cX10_ledger 6 (some .int) [] { frames := 1, cells := 0, slots := 0, locals := 22 })   : ∀ (f : Nat) (this : Nat) (v1 : Int32) (v2 : Int32) (v3 : Int32) (σ : Sg), wp_X10_ledger_31 f this v1 v2 v3 σ Post → V G (QM G 0 0 Post) 31 [some (.ref this), some (.int v1), some (.int v2), some (.int v3), none, none] [] σ 0 0 := by
  intro f
  induction f with
  | zero => intro _ _ _ _ σ h; exact h.elim
  | succ f ih =>
    intro this v1 v2 v3 σ h
    refine V_iload_n hG dX10_ledger_31 rfl ?_
    refine V_aload_n (v := .ref this) hG dX10_ledger_32 rfl rfl ?_
    obtain ⟨ht, h⟩ := h
    refine V_getI hG dX10_ledger_33 fl_X10_176 rfl ht ?_
    refine V_icmp_ge (tgt := 128) hG dX10_ledger_36 (by decide) (fun c => ?_) (fun c => ?_)
    · replace h := h.1 c
      refine V_iload_n hG dX10_ledger_128 rfl ?_
      refine V_if_ne (tgt := 139) hG dX10_ledger_129 (by decide) (fun c => ?_) (fun c => ?_)
      · replace h := h.1 c
        refine V_iload_n hG dX10_ledger_139 rfl ?_
        refine V_iconst (v := 1) hG (by decide) dX10_ledger_140 ?_
        refine V_icmp_ne (tgt := 151) hG dX10_ledger_141 (by decide) (fun c => ?_) (fun c => ?_)
        · replace h := h.1 c
          refine V_iload_n hG dX10_ledger_151 rfl ?_
          refine V_iconst (v := 5) hG (by decide) dX10_ledger_152 ?_
          refine V_icmp_ne (tgt := 163) hG dX10_ledger_153 (by decide) (fun c => ?_) (fun c => ?_)
          · replace h := h.1 c
            refine V_iload_n hG dX10_ledger_163 rfl ?_
            exact V_iret hG dX10_ledger_164 (by first | exact Nat.le_of_ble_eq_true rfl | omega | (dsimp only; omega)) (by first | exact Nat.le_of_ble_eq_true rfl | omega | (dsimp only; omega)) h
          · replace h := h.2 c
            refine V_aload_n (v := .ref this) hG dX10_ledger_156 rfl rfl ?_
            obtain ⟨ht, h⟩ := h
            refine V_getI hG dX10_ledger_157 fl_X10_229 rfl ht ?_
            refine V_goto (tgt := 164) hG dX10_ledger_160 (by decide) ?_
            exact V_iret hG dX10_ledger_164 (by first | exact Nat.le_of_ble_eq_true rfl | omega | (dsimp only; omega)) (by first | exact Nat.le_of_ble_eq_true rfl | omega | (dsimp only; omega)) h
        · replace h := h.2 c
          refine V_aload_n (v := .ref this) hG dX10_ledger_144 rfl rfl ?_
          obtain ⟨ht, h⟩ := h
          refine V_getI hG dX10_ledger_145 fl_X10_258 rfl ht ?_
          refine V_goto (tgt := 164) hG dX10_ledger_148 (by decide) ?_
          exact V_iret hG dX10_ledger_164 (by first | exact Nat.le_of_ble_eq_true rfl | omega | (dsimp only; omega)) (by first | exact Nat.le_of_ble_eq_true rfl | omega | (dsimp only; omega)) h
      · replace h := h.2 c
        refine V_aload_n (v := .ref this) hG dX10_ledger_132 rfl rfl ?_
        obtain ⟨ht, h⟩ := h
        refine V_getI hG dX10_ledger_133 fl_X10_216 rfl ht ?_
        refine V_goto (tgt := 164) hG dX10_ledger_136 (by decide) ?_
        exact V_iret hG dX10_ledger_164 (by first | exact Nat.le_of_ble_eq_true rfl | omega | (dsimp only; omega)) (by first | exact Nat.le_of_ble_eq_true rfl | omega | (dsimp only; omega)) h
    · replace h := h.2 c
      refine V_aload_n (v := .ref this) hG dX10_ledger_39 rfl rfl ?_
      obtain ⟨ht, h⟩ := h
      refine V_getPv hG dX10_ledger_40 fl_X10_62 rfl ht (fun o1 ho => ?_)
      replace h := h o1 ho
      refine V_iload_n hG dX10_ledger_43 rfl ?_
      obtain ⟨u2, he, h⟩ := h
      subst he
      obtain ⟨ha, j3, hi, hj, h⟩ := h
      refine V_iald hG dX10_ledger_44 ha hi hj ?_
      refine V_istore hG dX10_ledger_45 (Nat.le_of_ble_eq_true rfl) (hpV rfl rfl) ?_
      refine V_iload_n hG dX10_ledger_47 rfl ?_
      refine V_iconst (v := 2) hG (by decide) dX10_ledger_48 ?_
      refine V_icmp_ne (tgt := 66) hG dX10_ledger_49 (by decide) (fun c => ?_) (fun c => ?_)
      · replace h := h.1 c
        refine V_iload_n hG dX10_ledger_66 rfl ?_
        refine V_iconst (v := 3) hG (by decide) dX10_ledger_67 ?_
        refine V_icmp_ne (tgt := 85) hG dX10_ledger_68 (by decide) (fun c => ?_) (fun c => ?_)
        · replace h := h.1 c
          refine V_iload_n hG dX10_ledger_85 rfl ?_
          refine V_iconst (v := 4) hG (by decide) dX10_ledger_86 ?_
          refine V_icmp_ne (tgt := 101) hG dX10_ledger_87 (by decide) (fun c => ?_) (fun c => ?_)
          · replace h := h.1 c
            refine V_forget (lo' := [some (.ref this), some (.int v1), some (.int v2), some (.int v3), none, none]) ⟨rfl, ⟨rfl, ⟨rfl, ⟨rfl, trivial⟩⟩⟩⟩ ?_
            refine V_widen (k' := 0) (n' := 0) (by first | exact Nat.le_of_ble_eq_true rfl | omega | (dsimp only; omega)) (by first | exact Nat.le_of_ble_eq_true rfl | omega | (dsimp only; omega)) ?_
            exact wv_X10_ledger_101 hl hG (fun z0 z1 z2 z3 ζ hz => ih z0 z1 z2 z3 ζ hz) _ _ _ _ _ h
          · replace h := h.2 c
            refine V_iload hG dX10_ledger_90 rfl ?_
            refine V_bipush (v := 6) hG (by decide) dX10_ledger_92 ?_
            refine V_icmp_ne (tgt := 101) hG dX10_ledger_94 (by decide) (fun c => ?_) (fun c => ?_)
            · replace h := h.1 c
              refine V_forget (lo' := [some (.ref this), some (.int v1), some (.int v2), some (.int v3), none, none]) ⟨rfl, ⟨rfl, ⟨rfl, ⟨rfl, trivial⟩⟩⟩⟩ ?_
              refine V_widen (k' := 0) (n' := 0) (by first | exact Nat.le_of_ble_eq_true rfl | omega | (dsimp only; omega)) (by first | exact Nat.le_of_ble_eq_true rfl | omega | (dsimp only; omega)) ?_
              exact wv_X10_ledger_101 hl hG (fun z0 z1 z2 z3 ζ hz => ih z0 z1 z2 z3 ζ hz) _ _ _ _ _ h
            · replace h := h.2 c
              refine V_iconst (v := 1) hG (by decide) dX10_ledger_97 ?_
              refine V_goto (tgt := 102) hG dX10_ledger_98 (by decide) ?_
              refine V_forget (lo' := [some (.ref this), some (.int v1), some (.int v2), some (.int v3), none, none]) ⟨rfl, ⟨rfl, ⟨rfl, ⟨rfl, trivial⟩⟩⟩⟩ ?_
              refine V_widen (k' := 0) (n' := 0) (by first | exact Nat.le_of_ble_eq_true rfl | omega | (dsimp only; omega)) (by first | exact Nat.le_of_ble_eq_true rfl | omega | (dsimp only; omega)) ?_
              exact wv_X10_ledger_102 hl hG (fun z0 z1 z2 z3 ζ hz => ih z0 z1 z2 z3 ζ hz) _ _ _ _ _ _ h
        · replace h := h.2 c
          refine V_iload hG dX10_ledger_71 rfl ?_
          refine V_iconst (v := 5) hG (by decide) dX10_ledger_73 ?_
          refine V_icmp_ne (tgt := 81) hG dX10_ledger_74 (by decide) (fun c => ?_) (fun c => ?_)
          · replace h := h.1 c
            refine V_iconst (v := 0) hG (by decide) dX10_ledger_81 ?_
            refine V_goto (tgt := 102) hG dX10_ledger_82 (by decide) ?_
            refine V_forget (lo' := [some (.ref this), some (.int v1), some (.int v2), some (.int v3), none, none]) ⟨rfl, ⟨rfl, ⟨rfl, ⟨rfl, trivial⟩⟩⟩⟩ ?_
            refine V_widen (k' := 0) (n' := 0) (by first | exact Nat.le_of_ble_eq_true rfl | omega | (dsimp only; omega)) (by first | exact Nat.le_of_ble_eq_true rfl | omega | (dsimp only; omega)) ?_
            exact wv_X10_ledger_102 hl hG (fun z0 z1 z2 z3 ζ hz => ih z0 z1 z2 z3 ζ hz) _ _ _ _ _ _ h
          · replace h := h.2 c
            refine V_iconst (v := 1) hG (by decide) dX10_ledger_77 ?_
            refine V_goto (tgt := 102) hG dX10_ledger_78 (by decide) ?_
            refine V_forget (lo' := [some (.ref this), some (.int v1), some (.int v2), some (.int v3), none, none]) ⟨rfl, ⟨rfl, ⟨rfl, ⟨rfl, trivial⟩⟩⟩⟩ ?_
            refine V_widen (k' := 0) (n' := 0) (by first | exact Nat.le_of_ble_eq_true rfl | omega | (dsimp only; omega)) (by first | exact Nat.le_of_ble_eq_true rfl | omega | (dsimp only; omega)) ?_
            exact wv_X10_ledger_102 hl hG (fun z0 z1 z2 z3 ζ hz => ih z0 z1 z2 z3 ζ hz) _ _ _ _ _ _ h
      · replace h := h.2 c
        refine V_iload hG dX10_ledger_52 rfl ?_
        refine V_iconst (v := 4) hG (by decide) dX10_ledger_54 ?_
        refine V_icmp_ge (tgt := 62) hG dX10_ledger_55 (by decide) (fun c => ?_) (fun c => ?_)
        · replace h := h.1 c
          refine V_iconst (v := 0) hG (by decide) dX10_ledger_62 ?_
          refine V_goto (tgt := 102) hG dX10_ledger_63 (by decide) ?_
          refine V_forget (lo' := [some (.ref this), some (.int v1), some (.int v2), some (.int v3), none, none]) ⟨rfl, ⟨rfl, ⟨rfl, ⟨rfl, trivial⟩⟩⟩⟩ ?_
          refine V_widen (k' := 0) (n' := 0) (by first | exact Nat.le_of_ble_eq_true rfl | omega | (dsimp only; omega)) (by first | exact Nat.le_of_ble_eq_true rfl | omega | (dsimp only; omega)) ?_
          exact wv_X10_ledger_102 hl hG (fun z0 z1 z2 z3 ζ hz => ih z0 z1 z2 z3 ζ hz) _ _ _ _ _ _ h
        · replace h := h.2 c
          refine V_iconst (v := 1) hG (by decide) dX10_ledger_58 ?_
          refine V_goto (tgt := 102) hG dX10_ledger_59 (by decide) ?_
          refine V_forget (lo' := [some (.ref this), some (.int v1), some (.int v2), some (.int v3), none, none]) ⟨rfl, ⟨rfl, ⟨rfl, ⟨rfl, trivial⟩⟩⟩⟩ ?_
          refine V_widen (k' := 0) (n' := 0) (by first | exact Nat.le_of_ble_eq_true rfl | omega | (dsimp only; omega)) (by first | exact Nat.le_of_ble_eq_true rfl | omega | (dsimp only; omega)) ?_
          exact wv_X10_ledger_102 hl hG (fun z0 z1 z2 z3 ζ hz => ih z0 z1 z2 z3 ζ hz) _ _ _ _ _ _ h
def wp_X10_ledger_15  (this : Nat) (v1 : Int32) (s0 : Nat) (s1 : Int32) (σ : Sg) (Post : Rs → Sg → Prop) : Prop := s0 % 32 = 10 ∧ this % 32 = 10 ∧ (((sI (wI σ s0 59 s1) this 59) ≤ 0 → (∃ g, wp_X10_ledger_31 g this v1 (0 : Int32) (0 : Int32) (wI σ s0 59 s1) Post)) ∧ (¬ (sI (wI σ s0 59 s1) this 59) ≤ 0 → Post (.inl (some (.int (0 : Int32)))) (wI σ s0 59 s1)))
set_option maxRecDepth 100000 in
set_option maxHeartbeats 4000000 in
theorem wv_X10_ledger_15 {L9 : Launch} {G : Cx} {Post : Rs → Sg → Prop} (hl : L9.stackTraces = false) (hG : CX L9 G yX10_ledger cX10_ledger 6 (some .int) [] { frames := 1, cells := 0, slots := 0, locals := 22 })   : ∀ (this : Nat) (v1 : Int32) (s0 : Nat) (s1 : Int32) (σ : Sg), wp_X10_ledger_15 this v1 s0 s1 σ Post → V G (QM G 0 0 Post) 15 [some (.ref this), some (.int v1), none, none, none, none] [.int s1, .ref s0] σ 0 0 := by
  intro this v1 s0 s1 σ h
  unfold wp_X10_ledger_15 at h
  obtain ⟨ht, h⟩ := h
  refine V_putI hG dX10_ledger_15 fl_X10_168 rfl (fun e => absurd e (by decide)) rfl ht ?_
  refine V_aload_n (v := .ref this) hG dX10_ledger_18 rfl rfl ?_
  obtain ⟨ht, h⟩ := h
  refine V_getI hG dX10_ledger_19 fl_X10_168 rfl ht ?_
  refine V_if_le (tgt := 27) hG dX10_ledger_22 (by decide) (fun c => ?_) (fun c => ?_)
  · replace h := h.1 c
    refine V_iconst (v := 0) hG (by decide) dX10_ledger_27 ?_
    refine V_istore_n hG dX10_ledger_28 (Nat.le_of_ble_eq_true rfl) (hpV rfl rfl) ?_
    refine V_iconst (v := 0) hG (by decide) dX10_ledger_29 ?_
    refine V_istore_n hG dX10_ledger_30 (Nat.le_of_ble_eq_true rfl) (hpV rfl rfl) ?_
    refine V_forget (lo' := [some (.ref this), some (.int v1), some (.int (0 : Int32)), some (.int (0 : Int32)), none, none]) ⟨rfl, ⟨rfl, ⟨rfl, ⟨rfl, trivial⟩⟩⟩⟩ ?_
    obtain ⟨g, h⟩ := h
    refine V_widen (k' := 0) (n' := 0) (by first | exact Nat.le_of_ble_eq_true rfl | omega | (dsimp only; omega)) (by first | exact Nat.le_of_ble_eq_true rfl | omega | (dsimp only; omega)) ?_
    exact wv_X10_ledger_31 hl hG  g _ _ _ _ _ h
  · replace h := h.2 c
    refine V_iconst (v := 0) hG (by decide) dX10_ledger_25 ?_
    exact V_iret hG dX10_ledger_26 (by first | exact Nat.le_of_ble_eq_true rfl | omega | (dsimp only; omega)) (by first | exact Nat.le_of_ble_eq_true rfl | omega | (dsimp only; omega)) h
def wp_X10_ledger (this : Nat) (a0 : Int32) (σ : Sg) (Post : Rs → Sg → Prop) : Prop := wp_X10_in a0 (0 : Int32) (5 : Int32) σ (KI (fun x2 σ1 => ((x2 = 0 → (wp_X10_ledger_15 this a0 this (1 : Int32) σ1 Post)) ∧ (¬ x2 = 0 → (wp_X10_ledger_15 this a0 this (0 : Int32) σ1 Post)))) (fun E σ1 => Post (.inr E) σ1))
set_option maxRecDepth 100000 in
set_option maxHeartbeats 4000000 in
theorem ct_X10_ledger {l : Launch} (hl : l.stackTraces = false) {this : Nat} {a0 : Int32} {σ : Sg} {Post : Rs → Sg → Prop} (h : wp_X10_ledger this a0 σ Post) : Ct l yX10_ledger (.code yX10_ledger cX10_ledger 6 (some .int)) 1 22 0 0 [.ref this, .int a0] σ Post := by
  refine Ct_of [some (.ref this), some (.int a0), none, none, none, none] hl (by decide +kernel) rfl (fun ad => by rfl) (fun ad => by exact Nat.le_of_ble_eq_true rfl) (fun v hv => mem_lo hv rfl) ?_
  intro G hG
  unfold wp_X10_ledger at h
  refine V_aload_n (v := .ref this) hG dX10_ledger_0 rfl rfl ?_
  refine V_iload_n hG dX10_ledger_1 rfl ?_
  refine V_iconst (v := 0) hG (by decide) dX10_ledger_2 ?_
  refine V_iconst (v := 5) hG (by decide) dX10_ledger_3 ?_
  refine V_cSI _ _ hG dX10_ledger_4 (ct_X10_in hl h) mv_X10_in ml_X10_172 rfl rfl (by first | exact Nat.le_of_ble_eq_true rfl | (simp only [List.map_cons, List.map_nil, List.sum_cons, List.sum_nil, cat_rf]; exact Nat.le_of_ble_eq_true rfl)) (Nat.le_of_ble_eq_true rfl) (Nat.le_of_ble_eq_true rfl) (by first | exact Nat.le_of_ble_eq_true rfl | omega | (dsimp only; omega)) (by first | exact Nat.le_of_ble_eq_true rfl | omega | (dsimp only; omega)) ?_ (fun x2 σ1 h9 => ?_)
  · exact fun E σ1 hx => VX_out hG (by first | exact Nat.le_of_ble_eq_true rfl | omega | (dsimp only; omega)) (by first | exact Nat.le_of_ble_eq_true rfl | omega | (dsimp only; omega)) hx
  · replace h := h9
    clear h9
    refine V_if_eq (tgt := 14) hG dX10_ledger_7 (by decide) (fun c => ?_) (fun c => ?_)
    · replace h := h.1 c
      refine V_iconst (v := 1) hG (by decide) dX10_ledger_14 ?_
      refine V_forget (lo' := [some (.ref this), some (.int a0), none, none, none, none]) ⟨rfl, ⟨rfl, trivial⟩⟩ ?_
      refine V_widen (k' := 0) (n' := 0) (by first | exact Nat.le_of_ble_eq_true rfl | omega | (dsimp only; omega)) (by first | exact Nat.le_of_ble_eq_true rfl | omega | (dsimp only; omega)) ?_
      exact wv_X10_ledger_15 hl hG  _ _ _ _ _ h
    · replace h := h.2 c
      refine V_iconst (v := 0) hG (by decide) dX10_ledger_10 ?_
      refine V_goto (tgt := 15) hG dX10_ledger_11 (by decide) ?_
      refine V_forget (lo' := [some (.ref this), some (.int a0), none, none, none, none]) ⟨rfl, ⟨rfl, trivial⟩⟩ ?_
      refine V_widen (k' := 0) (n' := 0) (by first | exact Nat.le_of_ble_eq_true rfl | omega | (dsimp only; omega)) (by first | exact Nat.le_of_ble_eq_true rfl | omega | (dsimp only; omega)) ?_
      exact wv_X10_ledger_15 hl hG  _ _ _ _ _ h
def wp_J9_max_7cf53 (a0 : Int32) (a1 : Int32) (σ : Sg) (Post : Rs → Sg → Prop) : Prop := ((a0 < a1 → Post (.inl (some (.int a1))) σ) ∧ (¬ a0 < a1 → Post (.inl (some (.int a0))) σ))
set_option maxRecDepth 100000 in
set_option maxHeartbeats 4000000 in
theorem ct_J9_max_7cf53 {l : Launch} (hl : l.stackTraces = false) {a0 : Int32} {a1 : Int32} {σ : Sg} {Post : Rs → Sg → Prop} (h : wp_J9_max_7cf53 a0 a1 σ Post) : Ct l yJ9_max_7cf53 (.code yJ9_max_7cf53 cJ9_max_7cf53 2 (some .int)) 0 0 0 0 [.int a0, .int a1] σ Post := by
  refine Ct_ofF [some (.int a0), some (.int a1)] hl (by decide +kernel) rfl (fun ad => by rfl) (fun ad => by exact Nat.le_of_ble_eq_true rfl) (fun v hv => mem_lo hv rfl) ?_
  intro G hG
  unfold wp_J9_max_7cf53 at h
  refine V_iload_n hG dJ9_max_7cf53_0 rfl ?_
  refine V_iload_n hG dJ9_max_7cf53_1 rfl ?_
  refine V_icmp_lt (tgt := 9) hG dJ9_max_7cf53_2 (by decide) (fun c => ?_) (fun c => ?_)
  · replace h := h.1 c
    refine V_iload_n hG dJ9_max_7cf53_9 rfl ?_
    exact V_iret hG dJ9_max_7cf53_10 (by first | exact Nat.le_of_ble_eq_true rfl | omega | (dsimp only; omega)) (by first | exact Nat.le_of_ble_eq_true rfl | omega | (dsimp only; omega)) h
  · replace h := h.2 c
    refine V_iload_n hG dJ9_max_7cf53_5 rfl ?_
    refine V_goto (tgt := 10) hG dJ9_max_7cf53_6 (by decide) ?_
    exact V_iret hG dJ9_max_7cf53_10 (by first | exact Nat.le_of_ble_eq_true rfl | omega | (dsimp only; omega)) (by first | exact Nat.le_of_ble_eq_true rfl | omega | (dsimp only; omega)) h
def wp_J9_min_7cf53 (a0 : Int32) (a1 : Int32) (σ : Sg) (Post : Rs → Sg → Prop) : Prop := ((a1 < a0 → Post (.inl (some (.int a1))) σ) ∧ (¬ a1 < a0 → Post (.inl (some (.int a0))) σ))
set_option maxRecDepth 100000 in
set_option maxHeartbeats 4000000 in
theorem ct_J9_min_7cf53 {l : Launch} (hl : l.stackTraces = false) {a0 : Int32} {a1 : Int32} {σ : Sg} {Post : Rs → Sg → Prop} (h : wp_J9_min_7cf53 a0 a1 σ Post) : Ct l yJ9_min_7cf53 (.code yJ9_min_7cf53 cJ9_min_7cf53 2 (some .int)) 0 0 0 0 [.int a0, .int a1] σ Post := by
  refine Ct_ofF [some (.int a0), some (.int a1)] hl (by decide +kernel) rfl (fun ad => by rfl) (fun ad => by exact Nat.le_of_ble_eq_true rfl) (fun v hv => mem_lo hv rfl) ?_
  intro G hG
  unfold wp_J9_min_7cf53 at h
  refine V_iload_n hG dJ9_min_7cf53_0 rfl ?_
  refine V_iload_n hG dJ9_min_7cf53_1 rfl ?_
  refine V_icmp_gt (tgt := 9) hG dJ9_min_7cf53_2 (by decide) (fun c => ?_) (fun c => ?_)
  · replace h := h.1 c
    refine V_iload_n hG dJ9_min_7cf53_9 rfl ?_
    exact V_iret hG dJ9_min_7cf53_10 (by first | exact Nat.le_of_ble_eq_true rfl | omega | (dsimp only; omega)) (by first | exact Nat.le_of_ble_eq_true rfl | omega | (dsimp only; omega)) h
  · replace h := h.2 c
    refine V_iload_n hG dJ9_min_7cf53_5 rfl ?_
    refine V_goto (tgt := 10) hG dJ9_min_7cf53_6 (by decide) ?_
    exact V_iret hG dJ9_min_7cf53_10 (by first | exact Nat.le_of_ble_eq_true rfl | omega | (dsimp only; omega)) (by first | exact Nat.le_of_ble_eq_true rfl | omega | (dsimp only; omega)) h
def wp_L_setBought (a0 : Option Nat) (a1 : Int32) (a2 : Int32) (a3 : Int32) (σ : Sg) (Post : Rs → Sg → Prop) : Prop := ∃ u1, a0 = some u1 ∧ u1 % 32 = 9 ∧ wp_X9_setBought u1 a1 a2 a3 σ (KV (fun σ2 => Post (.inl (some (.int (0 : Int32)))) σ2) (fun E σ2 => (E = "java/lang/IndexOutOfBoundsException" ∧ Post (.inl (some (.int 1))) σ2) ∨ (E = "java/lang/IllegalArgumentException" ∧ Post (.inl (some (.int 2))) σ2) ∨ (E = "java/lang/IllegalStateException" ∧ Post (.inl (some (.int 3))) σ2)))
set_option maxRecDepth 100000 in
set_option maxHeartbeats 4000000 in
theorem ct_L_setBought {l : Launch} (hl : l.stackTraces = false) {a0 : Option Nat} {a1 : Int32} {a2 : Int32} {a3 : Int32} {σ : Sg} {Post : Rs → Sg → Prop} (h : wp_L_setBought a0 a1 a2 a3 σ Post) : Ct l yL_setBought (.codeWith yL_setBought cL_setBought 5 (some .int) [(0, 7, 10, 13), (0, 7, 14, 15), (0, 7, 18, 17)]) 9 148 4 24 [va_rf a0, .int a1, .int a2, .int a3] σ Post := by
  refine Ct_ofH [some (va_rf a0), some (.int a1), some (.int a2), some (.int a3), none] hl (by decide +kernel) rfl (fun ad => by cases a0 <;> rfl) (fun ad => by cases a0 <;> exact Nat.le_of_ble_eq_true rfl) (fun v hv => mem_lo hv rfl) ?_
  intro G hG
  unfold wp_L_setBought at h
  refine V_aload_n (v := va_rf a0) hG dL_setBought_0 (isRef_rf _) rfl ?_
  refine V_iload_n hG dL_setBought_1 rfl ?_
  refine V_iload_n hG dL_setBought_2 rfl ?_
  refine V_iload_n hG dL_setBought_3 rfl ?_
  obtain ⟨u1, he, h⟩ := h
  subst he
  obtain ⟨ht, h⟩ := h
  refine V_cVV _ _ hG dL_setBought_4 (ct_X9_setBought hl h) mv_X9_setBought ml_L_7 ht rfl rfl rfl rfl (by first | exact Nat.le_of_ble_eq_true rfl | (simp only [List.map_cons, List.map_nil, List.sum_cons, List.sum_nil, cat_rf]; exact Nat.le_of_ble_eq_true rfl)) (Nat.le_of_ble_eq_true rfl) (Nat.le_of_ble_eq_true rfl) (by first | exact Nat.le_of_ble_eq_true rfl | omega | (dsimp only; omega)) (by first | exact Nat.le_of_ble_eq_true rfl | omega | (dsimp only; omega)) ?_ (fun σ2 h9 => ?_)
  · intro E σ2 hx
    rcases hx with ⟨rfl, hx⟩ | ⟨rfl, hx⟩ | ⟨rfl, hx⟩
    · exact VX_catch (pre := []) (suf := [(0, 7, 14, 15), (0, 7, 18, 17)]) (a9 := 0) (b9 := 7) (hpc := 10) (ct := 13) (z := 1) (v := 1) hG rfl (by decide) (fun q => (fun hq => nomatch hq)) rfl (by decide) cl_L_13 (Or.inr ⟨4, dL_setBought_10, by decide, rfl⟩) dL_setBought_12 (by decide) dL_setBought_13 (Nat.le_of_ble_eq_true rfl) (Nat.le_of_ble_eq_true rfl) hx
    · exact VX_catch (pre := [(0, 7, 10, 13)]) (suf := [(0, 7, 18, 17)]) (a9 := 0) (b9 := 7) (hpc := 14) (ct := 15) (z := 2) (v := 2) hG rfl (by decide) (fun q => (fun hq => (List.mem_cons.mp hq).elim (fun e => e ▸ ⟨by decide, "java/lang/IndexOutOfBoundsException", by decide, by decide, cl_L_13⟩) (fun hq => nomatch hq))) rfl (by decide) cl_L_15 (Or.inr ⟨4, dL_setBought_14, by decide, rfl⟩) dL_setBought_16 (by decide) dL_setBought_17 (Nat.le_of_ble_eq_true rfl) (Nat.le_of_ble_eq_true rfl) hx
    · exact VX_catch (pre := [(0, 7, 10, 13), (0, 7, 14, 15)]) (suf := []) (a9 := 0) (b9 := 7) (hpc := 18) (ct := 17) (z := 3) (v := 3) hG rfl (by decide) (fun q => (fun hq => (List.mem_cons.mp hq).elim (fun e => e ▸ ⟨by decide, "java/lang/IndexOutOfBoundsException", by decide, by decide, cl_L_13⟩) (fun hq => (List.mem_cons.mp hq).elim (fun e => e ▸ ⟨by decide, "java/lang/IllegalArgumentException", by decide, by decide, cl_L_15⟩) (fun hq => nomatch hq)))) rfl (by decide) cl_L_17 (Or.inr ⟨4, dL_setBought_18, by decide, rfl⟩) dL_setBought_20 (by decide) dL_setBought_21 (Nat.le_of_ble_eq_true rfl) (Nat.le_of_ble_eq_true rfl) hx
  · replace h := h9
    clear h9
    refine V_goto (tgt := 22) hG dL_setBought_7 (by decide) ?_
    refine V_iconst (v := 0) hG (by decide) dL_setBought_22 ?_
    exact V_iret hG dL_setBought_23 (by first | exact Nat.le_of_ble_eq_true rfl | omega | (dsimp only; omega)) (by first | exact Nat.le_of_ble_eq_true rfl | omega | (dsimp only; omega)) h
def wp_L_addLine (a0 : Option Nat) (a1 : Int32) (a2 : Int32) (a3 : Int32) (a4 : Int32) (a5 : Option Nat) (σ : Sg) (Post : Rs → Sg → Prop) : Prop := ∃ u1, a0 = some u1 ∧ u1 % 32 = 9 ∧ wp_X9_addLine u1 a1 a2 a3 a4 σ (KI (fun x3 σ2 => ∃ u4, a5 = some u4 ∧ aty (u4 % 32) = some .long ∧ ∃ j5, (0 : Int32) = nI j5 ∧ j5 < aln u4 ∧ Post (.inl (some (.int (0 : Int32)))) (wL σ2 u4 j5 (Int32.toInt64 x3))) (fun E σ2 => (E = "java/lang/IndexOutOfBoundsException" ∧ Post (.inl (some (.int 1))) σ2) ∨ (E = "java/lang/IllegalArgumentException" ∧ Post (.inl (some (.int 2))) σ2) ∨ (E = "java/lang/IllegalStateException" ∧ Post (.inl (some (.int 3))) σ2)))
set_option maxRecDepth 100000 in
set_option maxHeartbeats 4000000 in
theorem ct_L_addLine {l : Launch} (hl : l.stackTraces = false) {a0 : Option Nat} {a1 : Int32} {a2 : Int32} {a3 : Int32} {a4 : Int32} {a5 : Option Nat} {σ : Sg} {Post : Rs → Sg → Prop} (h : wp_L_addLine a0 a1 a2 a3 a4 a5 σ Post) : Ct l yL_addLine (.codeWith yL_addLine cL_addLine 7 (some .int) [(0, 14, 17, 13), (0, 14, 21, 15), (0, 14, 25, 17)]) 10 172 8 45 [va_rf a0, .int a1, .int a2, .int a3, .int a4, va_rf a5] σ Post := by
  refine Ct_ofH [some (va_rf a0), some (.int a1), some (.int a2), some (.int a3), some (.int a4), some (va_rf a5), none] hl (by decide +kernel) rfl (fun ad => by cases a0 <;> cases a5 <;> rfl) (fun ad => by cases a0 <;> cases a5 <;> exact Nat.le_of_ble_eq_true rfl) (fun v hv => mem_lo hv rfl) ?_
  intro G hG
  unfold wp_L_addLine at h
  refine V_aload (v := va_rf a5) hG dL_addLine_0 (isRef_rf _) rfl ?_
  refine V_iconst (v := 0) hG (by decide) dL_addLine_2 ?_
  refine V_aload_n (v := va_rf a0) hG dL_addLine_3 (isRef_rf _) rfl ?_
  refine V_iload_n hG dL_addLine_4 rfl ?_
  refine V_iload_n hG dL_addLine_5 rfl ?_
  refine V_iload_n hG dL_addLine_6 rfl ?_
  refine V_iload hG dL_addLine_7 rfl ?_
  obtain ⟨u1, he, h⟩ := h
  subst he
  obtain ⟨ht, h⟩ := h
  refine V_cVI _ _ hG dL_addLine_9 (ct_X9_addLine hl h) mv_X9_addLine ml_L_19 ht rfl rfl rfl rfl (by first | exact Nat.le_of_ble_eq_true rfl | (simp only [List.map_cons, List.map_nil, List.sum_cons, List.sum_nil, cat_rf]; exact Nat.le_of_ble_eq_true rfl)) (Nat.le_of_ble_eq_true rfl) (Nat.le_of_ble_eq_true rfl) (by first | exact Nat.le_of_ble_eq_true rfl | omega | (dsimp only; omega)) (by first | exact Nat.le_of_ble_eq_true rfl | omega | (dsimp only; omega)) ?_ (fun x3 σ2 h9 => ?_)
  · intro E σ2 hx
    rcases hx with ⟨rfl, hx⟩ | ⟨rfl, hx⟩ | ⟨rfl, hx⟩
    · exact VX_catch (pre := []) (suf := [(0, 14, 21, 15), (0, 14, 25, 17)]) (a9 := 0) (b9 := 14) (hpc := 17) (ct := 13) (z := 1) (v := 1) hG rfl (by decide) (fun q => (fun hq => nomatch hq)) rfl (by decide) cl_L_13 (Or.inr ⟨6, dL_addLine_17, by decide, rfl⟩) dL_addLine_19 (by decide) dL_addLine_20 (Nat.le_of_ble_eq_true rfl) (Nat.le_of_ble_eq_true rfl) hx
    · exact VX_catch (pre := [(0, 14, 17, 13)]) (suf := [(0, 14, 25, 17)]) (a9 := 0) (b9 := 14) (hpc := 21) (ct := 15) (z := 2) (v := 2) hG rfl (by decide) (fun q => (fun hq => (List.mem_cons.mp hq).elim (fun e => e ▸ ⟨by decide, "java/lang/IndexOutOfBoundsException", by decide, by decide, cl_L_13⟩) (fun hq => nomatch hq))) rfl (by decide) cl_L_15 (Or.inr ⟨6, dL_addLine_21, by decide, rfl⟩) dL_addLine_23 (by decide) dL_addLine_24 (Nat.le_of_ble_eq_true rfl) (Nat.le_of_ble_eq_true rfl) hx
    · exact VX_catch (pre := [(0, 14, 17, 13), (0, 14, 21, 15)]) (suf := []) (a9 := 0) (b9 := 14) (hpc := 25) (ct := 17) (z := 3) (v := 3) hG rfl (by decide) (fun q => (fun hq => (List.mem_cons.mp hq).elim (fun e => e ▸ ⟨by decide, "java/lang/IndexOutOfBoundsException", by decide, by decide, cl_L_13⟩) (fun hq => (List.mem_cons.mp hq).elim (fun e => e ▸ ⟨by decide, "java/lang/IllegalArgumentException", by decide, by decide, cl_L_15⟩) (fun hq => nomatch hq)))) rfl (by decide) cl_L_17 (Or.inr ⟨6, dL_addLine_25, by decide, rfl⟩) dL_addLine_27 (by decide) dL_addLine_28 (Nat.le_of_ble_eq_true rfl) (Nat.le_of_ble_eq_true rfl) hx
  · replace h := h9
    clear h9
    refine V_i2l hG dL_addLine_12 ?_
    obtain ⟨u4, he, h⟩ := h
    subst he
    obtain ⟨ha, j5, hi, hj, h⟩ := h
    refine V_last hG dL_addLine_13 ha hi hj ?_
    refine V_goto (tgt := 29) hG dL_addLine_14 (by decide) ?_
    refine V_iconst (v := 0) hG (by decide) dL_addLine_29 ?_
    exact V_iret hG dL_addLine_30 (by first | exact Nat.le_of_ble_eq_true rfl | omega | (dsimp only; omega)) (by first | exact Nat.le_of_ble_eq_true rfl | omega | (dsimp only; omega)) h
def wp_L_addOperation (a0 : Option Nat) (a1 : Int32) (a2 : Int32) (a3 : Int32) (a4 : Int32) (a5 : Option Nat) (σ : Sg) (Post : Rs → Sg → Prop) : Prop := ∃ u1, a0 = some u1 ∧ u1 % 32 = 9 ∧ wp_X9_addOperation u1 a1 a2 a3 a4 σ (KI (fun x3 σ2 => ∃ u4, a5 = some u4 ∧ aty (u4 % 32) = some .long ∧ ∃ j5, (0 : Int32) = nI j5 ∧ j5 < aln u4 ∧ Post (.inl (some (.int (0 : Int32)))) (wL σ2 u4 j5 (Int32.toInt64 x3))) (fun E σ2 => (E = "java/lang/IndexOutOfBoundsException" ∧ Post (.inl (some (.int 1))) σ2) ∨ (E = "java/lang/IllegalArgumentException" ∧ Post (.inl (some (.int 2))) σ2) ∨ (E = "java/lang/IllegalStateException" ∧ Post (.inl (some (.int 3))) σ2)))
set_option maxRecDepth 100000 in
set_option maxHeartbeats 4000000 in
theorem ct_L_addOperation {l : Launch} (hl : l.stackTraces = false) {a0 : Option Nat} {a1 : Int32} {a2 : Int32} {a3 : Int32} {a4 : Int32} {a5 : Option Nat} {σ : Sg} {Post : Rs → Sg → Prop} (h : wp_L_addOperation a0 a1 a2 a3 a4 a5 σ Post) : Ct l yL_addOperation (.codeWith yL_addOperation cL_addOperation 7 (some .int) [(0, 14, 17, 13), (0, 14, 21, 15), (0, 14, 25, 17)]) 9 149 7 39 [va_rf a0, .int a1, .int a2, .int a3, .int a4, va_rf a5] σ Post := by
  refine Ct_ofH [some (va_rf a0), some (.int a1), some (.int a2), some (.int a3), some (.int a4), some (va_rf a5), none] hl (by decide +kernel) rfl (fun ad => by cases a0 <;> cases a5 <;> rfl) (fun ad => by cases a0 <;> cases a5 <;> exact Nat.le_of_ble_eq_true rfl) (fun v hv => mem_lo hv rfl) ?_
  intro G hG
  unfold wp_L_addOperation at h
  refine V_aload (v := va_rf a5) hG dL_addOperation_0 (isRef_rf _) rfl ?_
  refine V_iconst (v := 0) hG (by decide) dL_addOperation_2 ?_
  refine V_aload_n (v := va_rf a0) hG dL_addOperation_3 (isRef_rf _) rfl ?_
  refine V_iload_n hG dL_addOperation_4 rfl ?_
  refine V_iload_n hG dL_addOperation_5 rfl ?_
  refine V_iload_n hG dL_addOperation_6 rfl ?_
  refine V_iload hG dL_addOperation_7 rfl ?_
  obtain ⟨u1, he, h⟩ := h
  subst he
  obtain ⟨ht, h⟩ := h
  refine V_cVI _ _ hG dL_addOperation_9 (ct_X9_addOperation hl h) mv_X9_addOperation ml_L_23 ht rfl rfl rfl rfl (by first | exact Nat.le_of_ble_eq_true rfl | (simp only [List.map_cons, List.map_nil, List.sum_cons, List.sum_nil, cat_rf]; exact Nat.le_of_ble_eq_true rfl)) (Nat.le_of_ble_eq_true rfl) (Nat.le_of_ble_eq_true rfl) (by first | exact Nat.le_of_ble_eq_true rfl | omega | (dsimp only; omega)) (by first | exact Nat.le_of_ble_eq_true rfl | omega | (dsimp only; omega)) ?_ (fun x3 σ2 h9 => ?_)
  · intro E σ2 hx
    rcases hx with ⟨rfl, hx⟩ | ⟨rfl, hx⟩ | ⟨rfl, hx⟩
    · exact VX_catch (pre := []) (suf := [(0, 14, 21, 15), (0, 14, 25, 17)]) (a9 := 0) (b9 := 14) (hpc := 17) (ct := 13) (z := 1) (v := 1) hG rfl (by decide) (fun q => (fun hq => nomatch hq)) rfl (by decide) cl_L_13 (Or.inr ⟨6, dL_addOperation_17, by decide, rfl⟩) dL_addOperation_19 (by decide) dL_addOperation_20 (Nat.le_of_ble_eq_true rfl) (Nat.le_of_ble_eq_true rfl) hx
    · exact VX_catch (pre := [(0, 14, 17, 13)]) (suf := [(0, 14, 25, 17)]) (a9 := 0) (b9 := 14) (hpc := 21) (ct := 15) (z := 2) (v := 2) hG rfl (by decide) (fun q => (fun hq => (List.mem_cons.mp hq).elim (fun e => e ▸ ⟨by decide, "java/lang/IndexOutOfBoundsException", by decide, by decide, cl_L_13⟩) (fun hq => nomatch hq))) rfl (by decide) cl_L_15 (Or.inr ⟨6, dL_addOperation_21, by decide, rfl⟩) dL_addOperation_23 (by decide) dL_addOperation_24 (Nat.le_of_ble_eq_true rfl) (Nat.le_of_ble_eq_true rfl) hx
    · exact VX_catch (pre := [(0, 14, 17, 13), (0, 14, 21, 15)]) (suf := []) (a9 := 0) (b9 := 14) (hpc := 25) (ct := 17) (z := 3) (v := 3) hG rfl (by decide) (fun q => (fun hq => (List.mem_cons.mp hq).elim (fun e => e ▸ ⟨by decide, "java/lang/IndexOutOfBoundsException", by decide, by decide, cl_L_13⟩) (fun hq => (List.mem_cons.mp hq).elim (fun e => e ▸ ⟨by decide, "java/lang/IllegalArgumentException", by decide, by decide, cl_L_15⟩) (fun hq => nomatch hq)))) rfl (by decide) cl_L_17 (Or.inr ⟨6, dL_addOperation_25, by decide, rfl⟩) dL_addOperation_27 (by decide) dL_addOperation_28 (Nat.le_of_ble_eq_true rfl) (Nat.le_of_ble_eq_true rfl) hx
  · replace h := h9
    clear h9
    refine V_i2l hG dL_addOperation_12 ?_
    obtain ⟨u4, he, h⟩ := h
    subst he
    obtain ⟨ha, j5, hi, hj, h⟩ := h
    refine V_last hG dL_addOperation_13 ha hi hj ?_
    refine V_goto (tgt := 29) hG dL_addOperation_14 (by decide) ?_
    refine V_iconst (v := 0) hG (by decide) dL_addOperation_29 ?_
    exact V_iret hG dL_addOperation_30 (by first | exact Nat.le_of_ble_eq_true rfl | omega | (dsimp only; omega)) (by first | exact Nat.le_of_ble_eq_true rfl | omega | (dsimp only; omega)) h
def wp_L_setStore (a0 : Option Nat) (a1 : Int32) (a2 : Int32) (a3 : Option Nat) (σ : Sg) (Post : Rs → Sg → Prop) : Prop := ∃ u1, a0 = some u1 ∧ u1 % 32 = 9 ∧ wp_X9_setStore u1 a1 a2 σ (KI (fun x3 σ2 => ∃ u4, a3 = some u4 ∧ aty (u4 % 32) = some .long ∧ ∃ j5, (0 : Int32) = nI j5 ∧ j5 < aln u4 ∧ Post (.inl (some (.int (0 : Int32)))) (wL σ2 u4 j5 (Int32.toInt64 x3))) (fun E σ2 => (E = "java/lang/IndexOutOfBoundsException" ∧ Post (.inl (some (.int 1))) σ2) ∨ (E = "java/lang/IllegalArgumentException" ∧ Post (.inl (some (.int 2))) σ2)))
set_option maxRecDepth 100000 in
set_option maxHeartbeats 4000000 in
theorem ct_L_setStore {l : Launch} (hl : l.stackTraces = false) {a0 : Option Nat} {a1 : Int32} {a2 : Int32} {a3 : Option Nat} {σ : Sg} {Post : Rs → Sg → Prop} (h : wp_L_setStore a0 a1 a2 a3 σ Post) : Ct l yL_setStore (.codeWith yL_setStore cL_setStore 5 (some .int) [(0, 10, 13, 13), (0, 10, 17, 15)]) 9 148 2 12 [va_rf a0, .int a1, .int a2, va_rf a3] σ Post := by
  refine Ct_ofH [some (va_rf a0), some (.int a1), some (.int a2), some (va_rf a3), none] hl (by decide +kernel) rfl (fun ad => by cases a0 <;> cases a3 <;> rfl) (fun ad => by cases a0 <;> cases a3 <;> exact Nat.le_of_ble_eq_true rfl) (fun v hv => mem_lo hv rfl) ?_
  intro G hG
  unfold wp_L_setStore at h
  refine V_aload_n (v := va_rf a3) hG dL_setStore_0 (isRef_rf _) rfl ?_
  refine V_iconst (v := 0) hG (by decide) dL_setStore_1 ?_
  refine V_aload_n (v := va_rf a0) hG dL_setStore_2 (isRef_rf _) rfl ?_
  refine V_iload_n hG dL_setStore_3 rfl ?_
  refine V_iload_n hG dL_setStore_4 rfl ?_
  obtain ⟨u1, he, h⟩ := h
  subst he
  obtain ⟨ht, h⟩ := h
  refine V_cVI _ _ hG dL_setStore_5 (ct_X9_setStore hl h) mv_X9_setStore ml_L_26 ht rfl rfl rfl rfl (by first | exact Nat.le_of_ble_eq_true rfl | (simp only [List.map_cons, List.map_nil, List.sum_cons, List.sum_nil, cat_rf]; exact Nat.le_of_ble_eq_true rfl)) (Nat.le_of_ble_eq_true rfl) (Nat.le_of_ble_eq_true rfl) (by first | exact Nat.le_of_ble_eq_true rfl | omega | (dsimp only; omega)) (by first | exact Nat.le_of_ble_eq_true rfl | omega | (dsimp only; omega)) ?_ (fun x3 σ2 h9 => ?_)
  · intro E σ2 hx
    rcases hx with ⟨rfl, hx⟩ | ⟨rfl, hx⟩
    · exact VX_catch (pre := []) (suf := [(0, 10, 17, 15)]) (a9 := 0) (b9 := 10) (hpc := 13) (ct := 13) (z := 1) (v := 1) hG rfl (by decide) (fun q => (fun hq => nomatch hq)) rfl (by decide) cl_L_13 (Or.inr ⟨4, dL_setStore_13, by decide, rfl⟩) dL_setStore_15 (by decide) dL_setStore_16 (Nat.le_of_ble_eq_true rfl) (Nat.le_of_ble_eq_true rfl) hx
    · exact VX_catch (pre := [(0, 10, 13, 13)]) (suf := []) (a9 := 0) (b9 := 10) (hpc := 17) (ct := 15) (z := 2) (v := 2) hG rfl (by decide) (fun q => (fun hq => (List.mem_cons.mp hq).elim (fun e => e ▸ ⟨by decide, "java/lang/IndexOutOfBoundsException", by decide, by decide, cl_L_13⟩) (fun hq => nomatch hq))) rfl (by decide) cl_L_15 (Or.inr ⟨4, dL_setStore_17, by decide, rfl⟩) dL_setStore_19 (by decide) dL_setStore_20 (Nat.le_of_ble_eq_true rfl) (Nat.le_of_ble_eq_true rfl) hx
  · replace h := h9
    clear h9
    refine V_i2l hG dL_setStore_8 ?_
    obtain ⟨u4, he, h⟩ := h
    subst he
    obtain ⟨ha, j5, hi, hj, h⟩ := h
    refine V_last hG dL_setStore_9 ha hi hj ?_
    refine V_goto (tgt := 21) hG dL_setStore_10 (by decide) ?_
    refine V_iconst (v := 0) hG (by decide) dL_setStore_21 ?_
    exact V_iret hG dL_setStore_22 (by first | exact Nat.le_of_ble_eq_true rfl | omega | (dsimp only; omega)) (by first | exact Nat.le_of_ble_eq_true rfl | omega | (dsimp only; omega)) h
def wp_L_setQueue (a0 : Option Nat) (a1 : Int32) (a2 : Int32) (a3 : Option Nat) (σ : Sg) (Post : Rs → Sg → Prop) : Prop := ∃ u1, a0 = some u1 ∧ u1 % 32 = 9 ∧ wp_X9_setQueue u1 a1 a2 σ (KI (fun x3 σ2 => ∃ u4, a3 = some u4 ∧ aty (u4 % 32) = some .long ∧ ∃ j5, (0 : Int32) = nI j5 ∧ j5 < aln u4 ∧ Post (.inl (some (.int (0 : Int32)))) (wL σ2 u4 j5 (Int32.toInt64 x3))) (fun E σ2 => (E = "java/lang/IndexOutOfBoundsException" ∧ Post (.inl (some (.int 1))) σ2) ∨ (E = "java/lang/IllegalArgumentException" ∧ Post (.inl (some (.int 2))) σ2)))
set_option maxRecDepth 100000 in
set_option maxHeartbeats 4000000 in
theorem ct_L_setQueue {l : Launch} (hl : l.stackTraces = false) {a0 : Option Nat} {a1 : Int32} {a2 : Int32} {a3 : Option Nat} {σ : Sg} {Post : Rs → Sg → Prop} (h : wp_L_setQueue a0 a1 a2 a3 σ Post) : Ct l yL_setQueue (.codeWith yL_setQueue cL_setQueue 5 (some .int) [(0, 10, 13, 13), (0, 10, 17, 15)]) 9 147 2 12 [va_rf a0, .int a1, .int a2, va_rf a3] σ Post := by
  refine Ct_ofH [some (va_rf a0), some (.int a1), some (.int a2), some (va_rf a3), none] hl (by decide +kernel) rfl (fun ad => by cases a0 <;> cases a3 <;> rfl) (fun ad => by cases a0 <;> cases a3 <;> exact Nat.le_of_ble_eq_true rfl) (fun v hv => mem_lo hv rfl) ?_
  intro G hG
  unfold wp_L_setQueue at h
  refine V_aload_n (v := va_rf a3) hG dL_setQueue_0 (isRef_rf _) rfl ?_
  refine V_iconst (v := 0) hG (by decide) dL_setQueue_1 ?_
  refine V_aload_n (v := va_rf a0) hG dL_setQueue_2 (isRef_rf _) rfl ?_
  refine V_iload_n hG dL_setQueue_3 rfl ?_
  refine V_iload_n hG dL_setQueue_4 rfl ?_
  obtain ⟨u1, he, h⟩ := h
  subst he
  obtain ⟨ht, h⟩ := h
  refine V_cVI _ _ hG dL_setQueue_5 (ct_X9_setQueue hl h) mv_X9_setQueue ml_L_30 ht rfl rfl rfl rfl (by first | exact Nat.le_of_ble_eq_true rfl | (simp only [List.map_cons, List.map_nil, List.sum_cons, List.sum_nil, cat_rf]; exact Nat.le_of_ble_eq_true rfl)) (Nat.le_of_ble_eq_true rfl) (Nat.le_of_ble_eq_true rfl) (by first | exact Nat.le_of_ble_eq_true rfl | omega | (dsimp only; omega)) (by first | exact Nat.le_of_ble_eq_true rfl | omega | (dsimp only; omega)) ?_ (fun x3 σ2 h9 => ?_)
  · intro E σ2 hx
    rcases hx with ⟨rfl, hx⟩ | ⟨rfl, hx⟩
    · exact VX_catch (pre := []) (suf := [(0, 10, 17, 15)]) (a9 := 0) (b9 := 10) (hpc := 13) (ct := 13) (z := 1) (v := 1) hG rfl (by decide) (fun q => (fun hq => nomatch hq)) rfl (by decide) cl_L_13 (Or.inr ⟨4, dL_setQueue_13, by decide, rfl⟩) dL_setQueue_15 (by decide) dL_setQueue_16 (Nat.le_of_ble_eq_true rfl) (Nat.le_of_ble_eq_true rfl) hx
    · exact VX_catch (pre := [(0, 10, 13, 13)]) (suf := []) (a9 := 0) (b9 := 10) (hpc := 17) (ct := 15) (z := 2) (v := 2) hG rfl (by decide) (fun q => (fun hq => (List.mem_cons.mp hq).elim (fun e => e ▸ ⟨by decide, "java/lang/IndexOutOfBoundsException", by decide, by decide, cl_L_13⟩) (fun hq => nomatch hq))) rfl (by decide) cl_L_15 (Or.inr ⟨4, dL_setQueue_17, by decide, rfl⟩) dL_setQueue_19 (by decide) dL_setQueue_20 (Nat.le_of_ble_eq_true rfl) (Nat.le_of_ble_eq_true rfl) hx
  · replace h := h9
    clear h9
    refine V_i2l hG dL_setQueue_8 ?_
    obtain ⟨u4, he, h⟩ := h
    subst he
    obtain ⟨ha, j5, hi, hj, h⟩ := h
    refine V_last hG dL_setQueue_9 ha hi hj ?_
    refine V_goto (tgt := 21) hG dL_setQueue_10 (by decide) ?_
    refine V_iconst (v := 0) hG (by decide) dL_setQueue_21 ?_
    exact V_iret hG dL_setQueue_22 (by first | exact Nat.le_of_ble_eq_true rfl | omega | (dsimp only; omega)) (by first | exact Nat.le_of_ble_eq_true rfl | omega | (dsimp only; omega)) h
def wp_L_addMachine (a0 : Option Nat) (a1 : Int32) (a2 : Int32) (a3 : Int32) (a4 : Int32) (a5 : Int32) (a6 : Int32) (a7 : Option Nat) (σ : Sg) (Post : Rs → Sg → Prop) : Prop := ∃ u1, a0 = some u1 ∧ u1 % 32 = 9 ∧ wp_X9_addMachine u1 a1 a2 a3 a4 a5 a6 σ (KI (fun x3 σ2 => ∃ u4, a7 = some u4 ∧ aty (u4 % 32) = some .long ∧ ∃ j5, (0 : Int32) = nI j5 ∧ j5 < aln u4 ∧ Post (.inl (some (.int (0 : Int32)))) (wL σ2 u4 j5 (Int32.toInt64 x3))) (fun E σ2 => (E = "java/lang/IndexOutOfBoundsException" ∧ Post (.inl (some (.int 1))) σ2) ∨ (E = "java/lang/IllegalArgumentException" ∧ Post (.inl (some (.int 2))) σ2) ∨ (E = "java/lang/IllegalStateException" ∧ Post (.inl (some (.int 3))) σ2)))
set_option maxRecDepth 100000 in
set_option maxHeartbeats 4000000 in
theorem ct_L_addMachine {l : Launch} (hl : l.stackTraces = false) {a0 : Option Nat} {a1 : Int32} {a2 : Int32} {a3 : Int32} {a4 : Int32} {a5 : Int32} {a6 : Int32} {a7 : Option Nat} {σ : Sg} {Post : Rs → Sg → Prop} (h : wp_L_addMachine a0 a1 a2 a3 a4 a5 a6 a7 σ Post) : Ct l yL_addMachine (.codeWith yL_addMachine cL_addMachine 9 (some .int) [(0, 18, 21, 13), (0, 18, 25, 15), (0, 18, 29, 17)]) 10 173 8 57 [va_rf a0, .int a1, .int a2, .int a3, .int a4, .int a5, .int a6, va_rf a7] σ Post := by
  refine Ct_ofH [some (va_rf a0), some (.int a1), some (.int a2), some (.int a3), some (.int a4), some (.int a5), some (.int a6), some (va_rf a7), none] hl (by decide +kernel) rfl (fun ad => by cases a0 <;> cases a7 <;> rfl) (fun ad => by cases a0 <;> cases a7 <;> exact Nat.le_of_ble_eq_true rfl) (fun v hv => mem_lo hv rfl) ?_
  intro G hG
  unfold wp_L_addMachine at h
  refine V_aload (v := va_rf a7) hG dL_addMachine_0 (isRef_rf _) rfl ?_
  refine V_iconst (v := 0) hG (by decide) dL_addMachine_2 ?_
  refine V_aload_n (v := va_rf a0) hG dL_addMachine_3 (isRef_rf _) rfl ?_
  refine V_iload_n hG dL_addMachine_4 rfl ?_
  refine V_iload_n hG dL_addMachine_5 rfl ?_
  refine V_iload_n hG dL_addMachine_6 rfl ?_
  refine V_iload hG dL_addMachine_7 rfl ?_
  refine V_iload hG dL_addMachine_9 rfl ?_
  refine V_iload hG dL_addMachine_11 rfl ?_
  obtain ⟨u1, he, h⟩ := h
  subst he
  obtain ⟨ht, h⟩ := h
  refine V_cVI _ _ hG dL_addMachine_13 (ct_X9_addMachine hl h) mv_X9_addMachine ml_L_33 ht rfl rfl rfl rfl (by first | exact Nat.le_of_ble_eq_true rfl | (simp only [List.map_cons, List.map_nil, List.sum_cons, List.sum_nil, cat_rf]; exact Nat.le_of_ble_eq_true rfl)) (Nat.le_of_ble_eq_true rfl) (Nat.le_of_ble_eq_true rfl) (by first | exact Nat.le_of_ble_eq_true rfl | omega | (dsimp only; omega)) (by first | exact Nat.le_of_ble_eq_true rfl | omega | (dsimp only; omega)) ?_ (fun x3 σ2 h9 => ?_)
  · intro E σ2 hx
    rcases hx with ⟨rfl, hx⟩ | ⟨rfl, hx⟩ | ⟨rfl, hx⟩
    · exact VX_catch (pre := []) (suf := [(0, 18, 25, 15), (0, 18, 29, 17)]) (a9 := 0) (b9 := 18) (hpc := 21) (ct := 13) (z := 1) (v := 1) hG rfl (by decide) (fun q => (fun hq => nomatch hq)) rfl (by decide) cl_L_13 (Or.inr ⟨8, dL_addMachine_21, by decide, rfl⟩) dL_addMachine_23 (by decide) dL_addMachine_24 (Nat.le_of_ble_eq_true rfl) (Nat.le_of_ble_eq_true rfl) hx
    · exact VX_catch (pre := [(0, 18, 21, 13)]) (suf := [(0, 18, 29, 17)]) (a9 := 0) (b9 := 18) (hpc := 25) (ct := 15) (z := 2) (v := 2) hG rfl (by decide) (fun q => (fun hq => (List.mem_cons.mp hq).elim (fun e => e ▸ ⟨by decide, "java/lang/IndexOutOfBoundsException", by decide, by decide, cl_L_13⟩) (fun hq => nomatch hq))) rfl (by decide) cl_L_15 (Or.inr ⟨8, dL_addMachine_25, by decide, rfl⟩) dL_addMachine_27 (by decide) dL_addMachine_28 (Nat.le_of_ble_eq_true rfl) (Nat.le_of_ble_eq_true rfl) hx
    · exact VX_catch (pre := [(0, 18, 21, 13), (0, 18, 25, 15)]) (suf := []) (a9 := 0) (b9 := 18) (hpc := 29) (ct := 17) (z := 3) (v := 3) hG rfl (by decide) (fun q => (fun hq => (List.mem_cons.mp hq).elim (fun e => e ▸ ⟨by decide, "java/lang/IndexOutOfBoundsException", by decide, by decide, cl_L_13⟩) (fun hq => (List.mem_cons.mp hq).elim (fun e => e ▸ ⟨by decide, "java/lang/IllegalArgumentException", by decide, by decide, cl_L_15⟩) (fun hq => nomatch hq)))) rfl (by decide) cl_L_17 (Or.inr ⟨8, dL_addMachine_29, by decide, rfl⟩) dL_addMachine_31 (by decide) dL_addMachine_32 (Nat.le_of_ble_eq_true rfl) (Nat.le_of_ble_eq_true rfl) hx
  · replace h := h9
    clear h9
    refine V_i2l hG dL_addMachine_16 ?_
    obtain ⟨u4, he, h⟩ := h
    subst he
    obtain ⟨ha, j5, hi, hj, h⟩ := h
    refine V_last hG dL_addMachine_17 ha hi hj ?_
    refine V_goto (tgt := 33) hG dL_addMachine_18 (by decide) ?_
    refine V_iconst (v := 0) hG (by decide) dL_addMachine_33 ?_
    exact V_iret hG dL_addMachine_34 (by first | exact Nat.le_of_ble_eq_true rfl | omega | (dsimp only; omega)) (by first | exact Nat.le_of_ble_eq_true rfl | omega | (dsimp only; omega)) h
def wp_L_addPerson (a0 : Option Nat) (a1 : Int32) (a2 : Int32) (a3 : Int32) (a4 : Option Nat) (σ : Sg) (Post : Rs → Sg → Prop) : Prop := ∃ u1, a0 = some u1 ∧ u1 % 32 = 9 ∧ wp_X9_addPerson u1 a1 a2 a3 σ (KI (fun x3 σ2 => ∃ u4, a4 = some u4 ∧ aty (u4 % 32) = some .long ∧ ∃ j5, (0 : Int32) = nI j5 ∧ j5 < aln u4 ∧ Post (.inl (some (.int (0 : Int32)))) (wL σ2 u4 j5 (Int32.toInt64 x3))) (fun E σ2 => (E = "java/lang/IllegalArgumentException" ∧ Post (.inl (some (.int 1))) σ2) ∨ (E = "java/lang/IllegalStateException" ∧ Post (.inl (some (.int 2))) σ2)))
set_option maxRecDepth 100000 in
set_option maxHeartbeats 4000000 in
theorem ct_L_addPerson {l : Launch} (hl : l.stackTraces = false) {a0 : Option Nat} {a1 : Int32} {a2 : Int32} {a3 : Int32} {a4 : Option Nat} {σ : Sg} {Post : Rs → Sg → Prop} (h : wp_L_addPerson a0 a1 a2 a3 a4 σ Post) : Ct l yL_addPerson (.codeWith yL_addPerson cL_addPerson 6 (some .int) [(0, 12, 15, 15), (0, 12, 19, 17)]) 9 148 7 39 [va_rf a0, .int a1, .int a2, .int a3, va_rf a4] σ Post := by
  refine Ct_ofH [some (va_rf a0), some (.int a1), some (.int a2), some (.int a3), some (va_rf a4), none] hl (by decide +kernel) rfl (fun ad => by cases a0 <;> cases a4 <;> rfl) (fun ad => by cases a0 <;> cases a4 <;> exact Nat.le_of_ble_eq_true rfl) (fun v hv => mem_lo hv rfl) ?_
  intro G hG
  unfold wp_L_addPerson at h
  refine V_aload (v := va_rf a4) hG dL_addPerson_0 (isRef_rf _) rfl ?_
  refine V_iconst (v := 0) hG (by decide) dL_addPerson_2 ?_
  refine V_aload_n (v := va_rf a0) hG dL_addPerson_3 (isRef_rf _) rfl ?_
  refine V_iload_n hG dL_addPerson_4 rfl ?_
  refine V_iload_n hG dL_addPerson_5 rfl ?_
  refine V_iload_n hG dL_addPerson_6 rfl ?_
  obtain ⟨u1, he, h⟩ := h
  subst he
  obtain ⟨ht, h⟩ := h
  refine V_cVI _ _ hG dL_addPerson_7 (ct_X9_addPerson hl h) mv_X9_addPerson ml_L_37 ht rfl rfl rfl rfl (by first | exact Nat.le_of_ble_eq_true rfl | (simp only [List.map_cons, List.map_nil, List.sum_cons, List.sum_nil, cat_rf]; exact Nat.le_of_ble_eq_true rfl)) (Nat.le_of_ble_eq_true rfl) (Nat.le_of_ble_eq_true rfl) (by first | exact Nat.le_of_ble_eq_true rfl | omega | (dsimp only; omega)) (by first | exact Nat.le_of_ble_eq_true rfl | omega | (dsimp only; omega)) ?_ (fun x3 σ2 h9 => ?_)
  · intro E σ2 hx
    rcases hx with ⟨rfl, hx⟩ | ⟨rfl, hx⟩
    · exact VX_catch (pre := []) (suf := [(0, 12, 19, 17)]) (a9 := 0) (b9 := 12) (hpc := 15) (ct := 15) (z := 1) (v := 1) hG rfl (by decide) (fun q => (fun hq => nomatch hq)) rfl (by decide) cl_L_15 (Or.inr ⟨5, dL_addPerson_15, by decide, rfl⟩) dL_addPerson_17 (by decide) dL_addPerson_18 (Nat.le_of_ble_eq_true rfl) (Nat.le_of_ble_eq_true rfl) hx
    · exact VX_catch (pre := [(0, 12, 15, 15)]) (suf := []) (a9 := 0) (b9 := 12) (hpc := 19) (ct := 17) (z := 2) (v := 2) hG rfl (by decide) (fun q => (fun hq => (List.mem_cons.mp hq).elim (fun e => e ▸ ⟨by decide, "java/lang/IllegalArgumentException", by decide, by decide, cl_L_15⟩) (fun hq => nomatch hq))) rfl (by decide) cl_L_17 (Or.inr ⟨5, dL_addPerson_19, by decide, rfl⟩) dL_addPerson_21 (by decide) dL_addPerson_22 (Nat.le_of_ble_eq_true rfl) (Nat.le_of_ble_eq_true rfl) hx
  · replace h := h9
    clear h9
    refine V_i2l hG dL_addPerson_10 ?_
    obtain ⟨u4, he, h⟩ := h
    subst he
    obtain ⟨ha, j5, hi, hj, h⟩ := h
    refine V_last hG dL_addPerson_11 ha hi hj ?_
    refine V_goto (tgt := 23) hG dL_addPerson_12 (by decide) ?_
    refine V_iconst (v := 0) hG (by decide) dL_addPerson_23 ?_
    exact V_iret hG dL_addPerson_24 (by first | exact Nat.le_of_ble_eq_true rfl | omega | (dsimp only; omega)) (by first | exact Nat.le_of_ble_eq_true rfl | omega | (dsimp only; omega)) h
def wp_L_setLevel (a0 : Option Nat) (a1 : Int32) (a2 : Int32) (a3 : Int32) (a4 : Option Nat) (σ : Sg) (Post : Rs → Sg → Prop) : Prop := ∃ u1, a0 = some u1 ∧ u1 % 32 = 9 ∧ wp_X9_setLevel u1 a1 a2 a3 σ (KI (fun x3 σ2 => ∃ u4, a4 = some u4 ∧ aty (u4 % 32) = some .long ∧ ∃ j5, (0 : Int32) = nI j5 ∧ j5 < aln u4 ∧ Post (.inl (some (.int (0 : Int32)))) (wL σ2 u4 j5 (Int32.toInt64 x3))) (fun E σ2 => (E = "java/lang/IndexOutOfBoundsException" ∧ Post (.inl (some (.int 1))) σ2) ∨ (E = "java/lang/IllegalArgumentException" ∧ Post (.inl (some (.int 2))) σ2)))
set_option maxRecDepth 100000 in
set_option maxHeartbeats 4000000 in
theorem ct_L_setLevel {l : Launch} (hl : l.stackTraces = false) {a0 : Option Nat} {a1 : Int32} {a2 : Int32} {a3 : Int32} {a4 : Option Nat} {σ : Sg} {Post : Rs → Sg → Prop} (h : wp_L_setLevel a0 a1 a2 a3 a4 σ Post) : Ct l yL_setLevel (.codeWith yL_setLevel cL_setLevel 6 (some .int) [(0, 12, 15, 13), (0, 12, 19, 15)]) 9 149 3 18 [va_rf a0, .int a1, .int a2, .int a3, va_rf a4] σ Post := by
  refine Ct_ofH [some (va_rf a0), some (.int a1), some (.int a2), some (.int a3), some (va_rf a4), none] hl (by decide +kernel) rfl (fun ad => by cases a0 <;> cases a4 <;> rfl) (fun ad => by cases a0 <;> cases a4 <;> exact Nat.le_of_ble_eq_true rfl) (fun v hv => mem_lo hv rfl) ?_
  intro G hG
  unfold wp_L_setLevel at h
  refine V_aload (v := va_rf a4) hG dL_setLevel_0 (isRef_rf _) rfl ?_
  refine V_iconst (v := 0) hG (by decide) dL_setLevel_2 ?_
  refine V_aload_n (v := va_rf a0) hG dL_setLevel_3 (isRef_rf _) rfl ?_
  refine V_iload_n hG dL_setLevel_4 rfl ?_
  refine V_iload_n hG dL_setLevel_5 rfl ?_
  refine V_iload_n hG dL_setLevel_6 rfl ?_
  obtain ⟨u1, he, h⟩ := h
  subst he
  obtain ⟨ht, h⟩ := h
  refine V_cVI _ _ hG dL_setLevel_7 (ct_X9_setLevel hl h) mv_X9_setLevel ml_L_41 ht rfl rfl rfl rfl (by first | exact Nat.le_of_ble_eq_true rfl | (simp only [List.map_cons, List.map_nil, List.sum_cons, List.sum_nil, cat_rf]; exact Nat.le_of_ble_eq_true rfl)) (Nat.le_of_ble_eq_true rfl) (Nat.le_of_ble_eq_true rfl) (by first | exact Nat.le_of_ble_eq_true rfl | omega | (dsimp only; omega)) (by first | exact Nat.le_of_ble_eq_true rfl | omega | (dsimp only; omega)) ?_ (fun x3 σ2 h9 => ?_)
  · intro E σ2 hx
    rcases hx with ⟨rfl, hx⟩ | ⟨rfl, hx⟩
    · exact VX_catch (pre := []) (suf := [(0, 12, 19, 15)]) (a9 := 0) (b9 := 12) (hpc := 15) (ct := 13) (z := 1) (v := 1) hG rfl (by decide) (fun q => (fun hq => nomatch hq)) rfl (by decide) cl_L_13 (Or.inr ⟨5, dL_setLevel_15, by decide, rfl⟩) dL_setLevel_17 (by decide) dL_setLevel_18 (Nat.le_of_ble_eq_true rfl) (Nat.le_of_ble_eq_true rfl) hx
    · exact VX_catch (pre := [(0, 12, 15, 13)]) (suf := []) (a9 := 0) (b9 := 12) (hpc := 19) (ct := 15) (z := 2) (v := 2) hG rfl (by decide) (fun q => (fun hq => (List.mem_cons.mp hq).elim (fun e => e ▸ ⟨by decide, "java/lang/IndexOutOfBoundsException", by decide, by decide, cl_L_13⟩) (fun hq => nomatch hq))) rfl (by decide) cl_L_15 (Or.inr ⟨5, dL_setLevel_19, by decide, rfl⟩) dL_setLevel_21 (by decide) dL_setLevel_22 (Nat.le_of_ble_eq_true rfl) (Nat.le_of_ble_eq_true rfl) hx
  · replace h := h9
    clear h9
    refine V_i2l hG dL_setLevel_10 ?_
    obtain ⟨u4, he, h⟩ := h
    subst he
    obtain ⟨ha, j5, hi, hj, h⟩ := h
    refine V_last hG dL_setLevel_11 ha hi hj ?_
    refine V_goto (tgt := 23) hG dL_setLevel_12 (by decide) ?_
    refine V_iconst (v := 0) hG (by decide) dL_setLevel_23 ?_
    exact V_iret hG dL_setLevel_24 (by first | exact Nat.le_of_ble_eq_true rfl | omega | (dsimp only; omega)) (by first | exact Nat.le_of_ble_eq_true rfl | omega | (dsimp only; omega)) h
def wp_L_buy (a0 : Option Nat) (a1 : Int32) (a2 : Int32) (a3 : Option Nat) (σ : Sg) (Post : Rs → Sg → Prop) : Prop := ∃ u1, a0 = some u1 ∧ u1 % 32 = 9 ∧ wp_X9_buy u1 a1 a2 σ (KI (fun x3 σ2 => ∃ u4, a3 = some u4 ∧ aty (u4 % 32) = some .long ∧ ∃ j5, (0 : Int32) = nI j5 ∧ j5 < aln u4 ∧ Post (.inl (some (.int (0 : Int32)))) (wL σ2 u4 j5 (Int32.toInt64 x3))) (fun E σ2 => (E = "java/lang/IndexOutOfBoundsException" ∧ Post (.inl (some (.int 1))) σ2) ∨ (E = "java/lang/IllegalArgumentException" ∧ Post (.inl (some (.int 2))) σ2) ∨ (E = "java/lang/IllegalStateException" ∧ Post (.inl (some (.int 3))) σ2)))
set_option maxRecDepth 100000 in
set_option maxHeartbeats 4000000 in
theorem ct_L_buy {l : Launch} (hl : l.stackTraces = false) {a0 : Option Nat} {a1 : Int32} {a2 : Int32} {a3 : Option Nat} {σ : Sg} {Post : Rs → Sg → Prop} (h : wp_L_buy a0 a1 a2 a3 σ Post) : Ct l yL_buy (.codeWith yL_buy cL_buy 5 (some .int) [(0, 10, 13, 13), (0, 10, 17, 15), (0, 10, 21, 17)]) 9 148 4 30 [va_rf a0, .int a1, .int a2, va_rf a3] σ Post := by
  refine Ct_ofH [some (va_rf a0), some (.int a1), some (.int a2), some (va_rf a3), none] hl (by decide +kernel) rfl (fun ad => by cases a0 <;> cases a3 <;> rfl) (fun ad => by cases a0 <;> cases a3 <;> exact Nat.le_of_ble_eq_true rfl) (fun v hv => mem_lo hv rfl) ?_
  intro G hG
  unfold wp_L_buy at h
  refine V_aload_n (v := va_rf a3) hG dL_buy_0 (isRef_rf _) rfl ?_
  refine V_iconst (v := 0) hG (by decide) dL_buy_1 ?_
  refine V_aload_n (v := va_rf a0) hG dL_buy_2 (isRef_rf _) rfl ?_
  refine V_iload_n hG dL_buy_3 rfl ?_
  refine V_iload_n hG dL_buy_4 rfl ?_
  obtain ⟨u1, he, h⟩ := h
  subst he
  obtain ⟨ht, h⟩ := h
  refine V_cVI _ _ hG dL_buy_5 (ct_X9_buy hl h) mv_X9_buy ml_L_44 ht rfl rfl rfl rfl (by first | exact Nat.le_of_ble_eq_true rfl | (simp only [List.map_cons, List.map_nil, List.sum_cons, List.sum_nil, cat_rf]; exact Nat.le_of_ble_eq_true rfl)) (Nat.le_of_ble_eq_true rfl) (Nat.le_of_ble_eq_true rfl) (by first | exact Nat.le_of_ble_eq_true rfl | omega | (dsimp only; omega)) (by first | exact Nat.le_of_ble_eq_true rfl | omega | (dsimp only; omega)) ?_ (fun x3 σ2 h9 => ?_)
  · intro E σ2 hx
    rcases hx with ⟨rfl, hx⟩ | ⟨rfl, hx⟩ | ⟨rfl, hx⟩
    · exact VX_catch (pre := []) (suf := [(0, 10, 17, 15), (0, 10, 21, 17)]) (a9 := 0) (b9 := 10) (hpc := 13) (ct := 13) (z := 1) (v := 1) hG rfl (by decide) (fun q => (fun hq => nomatch hq)) rfl (by decide) cl_L_13 (Or.inr ⟨4, dL_buy_13, by decide, rfl⟩) dL_buy_15 (by decide) dL_buy_16 (Nat.le_of_ble_eq_true rfl) (Nat.le_of_ble_eq_true rfl) hx
    · exact VX_catch (pre := [(0, 10, 13, 13)]) (suf := [(0, 10, 21, 17)]) (a9 := 0) (b9 := 10) (hpc := 17) (ct := 15) (z := 2) (v := 2) hG rfl (by decide) (fun q => (fun hq => (List.mem_cons.mp hq).elim (fun e => e ▸ ⟨by decide, "java/lang/IndexOutOfBoundsException", by decide, by decide, cl_L_13⟩) (fun hq => nomatch hq))) rfl (by decide) cl_L_15 (Or.inr ⟨4, dL_buy_17, by decide, rfl⟩) dL_buy_19 (by decide) dL_buy_20 (Nat.le_of_ble_eq_true rfl) (Nat.le_of_ble_eq_true rfl) hx
    · exact VX_catch (pre := [(0, 10, 13, 13), (0, 10, 17, 15)]) (suf := []) (a9 := 0) (b9 := 10) (hpc := 21) (ct := 17) (z := 3) (v := 3) hG rfl (by decide) (fun q => (fun hq => (List.mem_cons.mp hq).elim (fun e => e ▸ ⟨by decide, "java/lang/IndexOutOfBoundsException", by decide, by decide, cl_L_13⟩) (fun hq => (List.mem_cons.mp hq).elim (fun e => e ▸ ⟨by decide, "java/lang/IllegalArgumentException", by decide, by decide, cl_L_15⟩) (fun hq => nomatch hq)))) rfl (by decide) cl_L_17 (Or.inr ⟨4, dL_buy_21, by decide, rfl⟩) dL_buy_23 (by decide) dL_buy_24 (Nat.le_of_ble_eq_true rfl) (Nat.le_of_ble_eq_true rfl) hx
  · replace h := h9
    clear h9
    refine V_i2l hG dL_buy_8 ?_
    obtain ⟨u4, he, h⟩ := h
    subst he
    obtain ⟨ha, j5, hi, hj, h⟩ := h
    refine V_last hG dL_buy_9 ha hi hj ?_
    refine V_goto (tgt := 25) hG dL_buy_10 (by decide) ?_
    refine V_iconst (v := 0) hG (by decide) dL_buy_25 ?_
    exact V_iret hG dL_buy_26 (by first | exact Nat.le_of_ble_eq_true rfl | omega | (dsimp only; omega)) (by first | exact Nat.le_of_ble_eq_true rfl | omega | (dsimp only; omega)) h
def wp_L_late (a0 : Option Nat) (a1 : Int32) (a2 : Int32) (a3 : Option Nat) (σ : Sg) (Post : Rs → Sg → Prop) : Prop := ∃ u1, a0 = some u1 ∧ u1 % 32 = 9 ∧ wp_X9_late u1 a1 a2 σ (KI (fun x3 σ2 => ∃ u4, a3 = some u4 ∧ aty (u4 % 32) = some .long ∧ ∃ j5, (0 : Int32) = nI j5 ∧ j5 < aln u4 ∧ Post (.inl (some (.int (0 : Int32)))) (wL σ2 u4 j5 (Int32.toInt64 x3))) (fun E σ2 => (E = "java/lang/IndexOutOfBoundsException" ∧ Post (.inl (some (.int 1))) σ2) ∨ (E = "java/lang/IllegalArgumentException" ∧ Post (.inl (some (.int 2))) σ2) ∨ (E = "java/lang/IllegalStateException" ∧ Post (.inl (some (.int 3))) σ2)))
set_option maxRecDepth 100000 in
set_option maxHeartbeats 4000000 in
theorem ct_L_late {l : Launch} (hl : l.stackTraces = false) {a0 : Option Nat} {a1 : Int32} {a2 : Int32} {a3 : Option Nat} {σ : Sg} {Post : Rs → Sg → Prop} (h : wp_L_late a0 a1 a2 a3 σ Post) : Ct l yL_late (.codeWith yL_late cL_late 5 (some .int) [(0, 10, 13, 13), (0, 10, 17, 15), (0, 10, 21, 17)]) 9 147 3 18 [va_rf a0, .int a1, .int a2, va_rf a3] σ Post := by
  refine Ct_ofH [some (va_rf a0), some (.int a1), some (.int a2), some (va_rf a3), none] hl (by decide +kernel) rfl (fun ad => by cases a0 <;> cases a3 <;> rfl) (fun ad => by cases a0 <;> cases a3 <;> exact Nat.le_of_ble_eq_true rfl) (fun v hv => mem_lo hv rfl) ?_
  intro G hG
  unfold wp_L_late at h
  refine V_aload_n (v := va_rf a3) hG dL_late_0 (isRef_rf _) rfl ?_
  refine V_iconst (v := 0) hG (by decide) dL_late_1 ?_
  refine V_aload_n (v := va_rf a0) hG dL_late_2 (isRef_rf _) rfl ?_
  refine V_iload_n hG dL_late_3 rfl ?_
  refine V_iload_n hG dL_late_4 rfl ?_
  obtain ⟨u1, he, h⟩ := h
  subst he
  obtain ⟨ht, h⟩ := h
  refine V_cVI _ _ hG dL_late_5 (ct_X9_late hl h) mv_X9_late ml_L_47 ht rfl rfl rfl rfl (by first | exact Nat.le_of_ble_eq_true rfl | (simp only [List.map_cons, List.map_nil, List.sum_cons, List.sum_nil, cat_rf]; exact Nat.le_of_ble_eq_true rfl)) (Nat.le_of_ble_eq_true rfl) (Nat.le_of_ble_eq_true rfl) (by first | exact Nat.le_of_ble_eq_true rfl | omega | (dsimp only; omega)) (by first | exact Nat.le_of_ble_eq_true rfl | omega | (dsimp only; omega)) ?_ (fun x3 σ2 h9 => ?_)
  · intro E σ2 hx
    rcases hx with ⟨rfl, hx⟩ | ⟨rfl, hx⟩ | ⟨rfl, hx⟩
    · exact VX_catch (pre := []) (suf := [(0, 10, 17, 15), (0, 10, 21, 17)]) (a9 := 0) (b9 := 10) (hpc := 13) (ct := 13) (z := 1) (v := 1) hG rfl (by decide) (fun q => (fun hq => nomatch hq)) rfl (by decide) cl_L_13 (Or.inr ⟨4, dL_late_13, by decide, rfl⟩) dL_late_15 (by decide) dL_late_16 (Nat.le_of_ble_eq_true rfl) (Nat.le_of_ble_eq_true rfl) hx
    · exact VX_catch (pre := [(0, 10, 13, 13)]) (suf := [(0, 10, 21, 17)]) (a9 := 0) (b9 := 10) (hpc := 17) (ct := 15) (z := 2) (v := 2) hG rfl (by decide) (fun q => (fun hq => (List.mem_cons.mp hq).elim (fun e => e ▸ ⟨by decide, "java/lang/IndexOutOfBoundsException", by decide, by decide, cl_L_13⟩) (fun hq => nomatch hq))) rfl (by decide) cl_L_15 (Or.inr ⟨4, dL_late_17, by decide, rfl⟩) dL_late_19 (by decide) dL_late_20 (Nat.le_of_ble_eq_true rfl) (Nat.le_of_ble_eq_true rfl) hx
    · exact VX_catch (pre := [(0, 10, 13, 13), (0, 10, 17, 15)]) (suf := []) (a9 := 0) (b9 := 10) (hpc := 21) (ct := 17) (z := 3) (v := 3) hG rfl (by decide) (fun q => (fun hq => (List.mem_cons.mp hq).elim (fun e => e ▸ ⟨by decide, "java/lang/IndexOutOfBoundsException", by decide, by decide, cl_L_13⟩) (fun hq => (List.mem_cons.mp hq).elim (fun e => e ▸ ⟨by decide, "java/lang/IllegalArgumentException", by decide, by decide, cl_L_15⟩) (fun hq => nomatch hq)))) rfl (by decide) cl_L_17 (Or.inr ⟨4, dL_late_21, by decide, rfl⟩) dL_late_23 (by decide) dL_late_24 (Nat.le_of_ble_eq_true rfl) (Nat.le_of_ble_eq_true rfl) hx
  · replace h := h9
    clear h9
    refine V_i2l hG dL_late_8 ?_
    obtain ⟨u4, he, h⟩ := h
    subst he
    obtain ⟨ha, j5, hi, hj, h⟩ := h
    refine V_last hG dL_late_9 ha hi hj ?_
    refine V_goto (tgt := 25) hG dL_late_10 (by decide) ?_
    refine V_iconst (v := 0) hG (by decide) dL_late_25 ?_
    exact V_iret hG dL_late_26 (by first | exact Nat.le_of_ble_eq_true rfl | omega | (dsimp only; omega)) (by first | exact Nat.le_of_ble_eq_true rfl | omega | (dsimp only; omega)) h
def wp_L_make (a0 : Option Nat) (a1 : Int32) (a2 : Int32) (a3 : Int32) (a4 : Option Nat) (σ : Sg) (Post : Rs → Sg → Prop) : Prop := ∃ u1, a0 = some u1 ∧ u1 % 32 = 9 ∧ wp_X9_make u1 a1 a2 a3 σ (KI (fun x3 σ2 => ∃ u4, a4 = some u4 ∧ aty (u4 % 32) = some .long ∧ ∃ j5, (0 : Int32) = nI j5 ∧ j5 < aln u4 ∧ Post (.inl (some (.int (0 : Int32)))) (wL σ2 u4 j5 (Int32.toInt64 x3))) (fun E σ2 => (E = "java/lang/IndexOutOfBoundsException" ∧ Post (.inl (some (.int 1))) σ2) ∨ (E = "java/lang/IllegalArgumentException" ∧ Post (.inl (some (.int 2))) σ2) ∨ (E = "java/lang/IllegalStateException" ∧ Post (.inl (some (.int 3))) σ2)))
set_option maxRecDepth 100000 in
set_option maxHeartbeats 4000000 in
theorem ct_L_make {l : Launch} (hl : l.stackTraces = false) {a0 : Option Nat} {a1 : Int32} {a2 : Int32} {a3 : Int32} {a4 : Option Nat} {σ : Sg} {Post : Rs → Sg → Prop} (h : wp_L_make a0 a1 a2 a3 a4 σ Post) : Ct l yL_make (.codeWith yL_make cL_make 6 (some .int) [(0, 12, 15, 13), (0, 12, 19, 15), (0, 12, 23, 17)]) 9 149 6 42 [va_rf a0, .int a1, .int a2, .int a3, va_rf a4] σ Post := by
  refine Ct_ofH [some (va_rf a0), some (.int a1), some (.int a2), some (.int a3), some (va_rf a4), none] hl (by decide +kernel) rfl (fun ad => by cases a0 <;> cases a4 <;> rfl) (fun ad => by cases a0 <;> cases a4 <;> exact Nat.le_of_ble_eq_true rfl) (fun v hv => mem_lo hv rfl) ?_
  intro G hG
  unfold wp_L_make at h
  refine V_aload (v := va_rf a4) hG dL_make_0 (isRef_rf _) rfl ?_
  refine V_iconst (v := 0) hG (by decide) dL_make_2 ?_
  refine V_aload_n (v := va_rf a0) hG dL_make_3 (isRef_rf _) rfl ?_
  refine V_iload_n hG dL_make_4 rfl ?_
  refine V_iload_n hG dL_make_5 rfl ?_
  refine V_iload_n hG dL_make_6 rfl ?_
  obtain ⟨u1, he, h⟩ := h
  subst he
  obtain ⟨ht, h⟩ := h
  refine V_cVI _ _ hG dL_make_7 (ct_X9_make hl h) mv_X9_make ml_L_50 ht rfl rfl rfl rfl (by first | exact Nat.le_of_ble_eq_true rfl | (simp only [List.map_cons, List.map_nil, List.sum_cons, List.sum_nil, cat_rf]; exact Nat.le_of_ble_eq_true rfl)) (Nat.le_of_ble_eq_true rfl) (Nat.le_of_ble_eq_true rfl) (by first | exact Nat.le_of_ble_eq_true rfl | omega | (dsimp only; omega)) (by first | exact Nat.le_of_ble_eq_true rfl | omega | (dsimp only; omega)) ?_ (fun x3 σ2 h9 => ?_)
  · intro E σ2 hx
    rcases hx with ⟨rfl, hx⟩ | ⟨rfl, hx⟩ | ⟨rfl, hx⟩
    · exact VX_catch (pre := []) (suf := [(0, 12, 19, 15), (0, 12, 23, 17)]) (a9 := 0) (b9 := 12) (hpc := 15) (ct := 13) (z := 1) (v := 1) hG rfl (by decide) (fun q => (fun hq => nomatch hq)) rfl (by decide) cl_L_13 (Or.inr ⟨5, dL_make_15, by decide, rfl⟩) dL_make_17 (by decide) dL_make_18 (Nat.le_of_ble_eq_true rfl) (Nat.le_of_ble_eq_true rfl) hx
    · exact VX_catch (pre := [(0, 12, 15, 13)]) (suf := [(0, 12, 23, 17)]) (a9 := 0) (b9 := 12) (hpc := 19) (ct := 15) (z := 2) (v := 2) hG rfl (by decide) (fun q => (fun hq => (List.mem_cons.mp hq).elim (fun e => e ▸ ⟨by decide, "java/lang/IndexOutOfBoundsException", by decide, by decide, cl_L_13⟩) (fun hq => nomatch hq))) rfl (by decide) cl_L_15 (Or.inr ⟨5, dL_make_19, by decide, rfl⟩) dL_make_21 (by decide) dL_make_22 (Nat.le_of_ble_eq_true rfl) (Nat.le_of_ble_eq_true rfl) hx
    · exact VX_catch (pre := [(0, 12, 15, 13), (0, 12, 19, 15)]) (suf := []) (a9 := 0) (b9 := 12) (hpc := 23) (ct := 17) (z := 3) (v := 3) hG rfl (by decide) (fun q => (fun hq => (List.mem_cons.mp hq).elim (fun e => e ▸ ⟨by decide, "java/lang/IndexOutOfBoundsException", by decide, by decide, cl_L_13⟩) (fun hq => (List.mem_cons.mp hq).elim (fun e => e ▸ ⟨by decide, "java/lang/IllegalArgumentException", by decide, by decide, cl_L_15⟩) (fun hq => nomatch hq)))) rfl (by decide) cl_L_17 (Or.inr ⟨5, dL_make_23, by decide, rfl⟩) dL_make_25 (by decide) dL_make_26 (Nat.le_of_ble_eq_true rfl) (Nat.le_of_ble_eq_true rfl) hx
  · replace h := h9
    clear h9
    refine V_i2l hG dL_make_10 ?_
    obtain ⟨u4, he, h⟩ := h
    subst he
    obtain ⟨ha, j5, hi, hj, h⟩ := h
    refine V_last hG dL_make_11 ha hi hj ?_
    refine V_goto (tgt := 27) hG dL_make_12 (by decide) ?_
    refine V_iconst (v := 0) hG (by decide) dL_make_27 ?_
    exact V_iret hG dL_make_28 (by first | exact Nat.le_of_ble_eq_true rfl | omega | (dsimp only; omega)) (by first | exact Nat.le_of_ble_eq_true rfl | omega | (dsimp only; omega)) h
def wp_L_rank_18  (s0 : Option Nat) (s1 : Int32) (s2 : Int64) (σ : Sg) (Post : Rs → Sg → Prop) : Prop := ∃ u1, s0 = some u1 ∧ aty (u1 % 32) = some .long ∧ ∃ j2, s1 = nI j2 ∧ j2 < aln u1 ∧ Post (.inl (some (.int (0 : Int32)))) (wL σ u1 j2 s2)
set_option maxRecDepth 100000 in
set_option maxHeartbeats 4000000 in
theorem wv_L_rank_18 {L9 : Launch} {G : Cx} {Post : Rs → Sg → Prop} (hl : L9.stackTraces = false) (hG : CX L9 G yL_rank cL_rank 6 (some .int) [(0, 19, 22, 13), (0, 19, 26, 15), (0, 19, 30, 17)] { frames := 9, cells := 3, slots := 18, locals := 149 })   : ∀ (s0 : Option Nat) (s1 : Int32) (s2 : Int64) (σ : Sg), wp_L_rank_18 s0 s1 s2 σ Post → V G (QM G 3 18 Post) 18 [none, none, none, none, none, none] [.long s2, .int s1, va_rf s0] σ 3 18 := by
  intro s0 s1 s2 σ h
  unfold wp_L_rank_18 at h
  obtain ⟨u1, he, h⟩ := h
  subst he
  obtain ⟨ha, j2, hi, hj, h⟩ := h
  refine V_last hG dL_rank_18 ha hi hj ?_
  refine V_goto (tgt := 34) hG dL_rank_19 (by decide) ?_
  refine V_iconst (v := 0) hG (by decide) dL_rank_34 ?_
  exact V_iret hG dL_rank_35 (by first | exact Nat.le_of_ble_eq_true rfl | omega | (dsimp only; omega)) (by first | exact Nat.le_of_ble_eq_true rfl | omega | (dsimp only; omega)) h
def wp_L_rank (a0 : Option Nat) (a1 : Int32) (a2 : Int32) (a3 : Int32) (a4 : Option Nat) (σ : Sg) (Post : Rs → Sg → Prop) : Prop := ∃ u1, a0 = some u1 ∧ u1 % 32 = 9 ∧ wp_X9_rank u1 a1 a2 a3 σ (KI (fun x3 σ2 => ((x3 = 0 → (wp_L_rank_18 a4 (0 : Int32) (0 : Int64) σ2 Post)) ∧ (¬ x3 = 0 → (wp_L_rank_18 a4 (0 : Int32) (1 : Int64) σ2 Post)))) (fun E σ2 => (E = "java/lang/IndexOutOfBoundsException" ∧ Post (.inl (some (.int 1))) σ2) ∨ (E = "java/lang/IllegalArgumentException" ∧ Post (.inl (some (.int 2))) σ2) ∨ (E = "java/lang/IllegalStateException" ∧ Post (.inl (some (.int 3))) σ2)))
set_option maxRecDepth 100000 in
set_option maxHeartbeats 4000000 in
theorem ct_L_rank {l : Launch} (hl : l.stackTraces = false) {a0 : Option Nat} {a1 : Int32} {a2 : Int32} {a3 : Int32} {a4 : Option Nat} {σ : Sg} {Post : Rs → Sg → Prop} (h : wp_L_rank a0 a1 a2 a3 a4 σ Post) : Ct l yL_rank (.codeWith yL_rank cL_rank 6 (some .int) [(0, 19, 22, 13), (0, 19, 26, 15), (0, 19, 30, 17)]) 9 149 3 18 [va_rf a0, .int a1, .int a2, .int a3, va_rf a4] σ Post := by
  refine Ct_ofH [some (va_rf a0), some (.int a1), some (.int a2), some (.int a3), some (va_rf a4), none] hl (by decide +kernel) rfl (fun ad => by cases a0 <;> cases a4 <;> rfl) (fun ad => by cases a0 <;> cases a4 <;> exact Nat.le_of_ble_eq_true rfl) (fun v hv => mem_lo hv rfl) ?_
  intro G hG
  unfold wp_L_rank at h
  refine V_aload (v := va_rf a4) hG dL_rank_0 (isRef_rf _) rfl ?_
  refine V_iconst (v := 0) hG (by decide) dL_rank_2 ?_
  refine V_aload_n (v := va_rf a0) hG dL_rank_3 (isRef_rf _) rfl ?_
  refine V_iload_n hG dL_rank_4 rfl ?_
  refine V_iload_n hG dL_rank_5 rfl ?_
  refine V_iload_n hG dL_rank_6 rfl ?_
  obtain ⟨u1, he, h⟩ := h
  subst he
  obtain ⟨ht, h⟩ := h
  refine V_cVI _ _ hG dL_rank_7 (ct_X9_rank hl h) mv_X9_rank ml_L_53 ht rfl rfl rfl rfl (by first | exact Nat.le_of_ble_eq_true rfl | (simp only [List.map_cons, List.map_nil, List.sum_cons, List.sum_nil, cat_rf]; exact Nat.le_of_ble_eq_true rfl)) (Nat.le_of_ble_eq_true rfl) (Nat.le_of_ble_eq_true rfl) (by first | exact Nat.le_of_ble_eq_true rfl | omega | (dsimp only; omega)) (by first | exact Nat.le_of_ble_eq_true rfl | omega | (dsimp only; omega)) ?_ (fun x3 σ2 h9 => ?_)
  · intro E σ2 hx
    rcases hx with ⟨rfl, hx⟩ | ⟨rfl, hx⟩ | ⟨rfl, hx⟩
    · exact VX_catch (pre := []) (suf := [(0, 19, 26, 15), (0, 19, 30, 17)]) (a9 := 0) (b9 := 19) (hpc := 22) (ct := 13) (z := 1) (v := 1) hG rfl (by decide) (fun q => (fun hq => nomatch hq)) rfl (by decide) cl_L_13 (Or.inr ⟨5, dL_rank_22, by decide, rfl⟩) dL_rank_24 (by decide) dL_rank_25 (Nat.le_of_ble_eq_true rfl) (Nat.le_of_ble_eq_true rfl) hx
    · exact VX_catch (pre := [(0, 19, 22, 13)]) (suf := [(0, 19, 30, 17)]) (a9 := 0) (b9 := 19) (hpc := 26) (ct := 15) (z := 2) (v := 2) hG rfl (by decide) (fun q => (fun hq => (List.mem_cons.mp hq).elim (fun e => e ▸ ⟨by decide, "java/lang/IndexOutOfBoundsException", by decide, by decide, cl_L_13⟩) (fun hq => nomatch hq))) rfl (by decide) cl_L_15 (Or.inr ⟨5, dL_rank_26, by decide, rfl⟩) dL_rank_28 (by decide) dL_rank_29 (Nat.le_of_ble_eq_true rfl) (Nat.le_of_ble_eq_true rfl) hx
    · exact VX_catch (pre := [(0, 19, 22, 13), (0, 19, 26, 15)]) (suf := []) (a9 := 0) (b9 := 19) (hpc := 30) (ct := 17) (z := 3) (v := 3) hG rfl (by decide) (fun q => (fun hq => (List.mem_cons.mp hq).elim (fun e => e ▸ ⟨by decide, "java/lang/IndexOutOfBoundsException", by decide, by decide, cl_L_13⟩) (fun hq => (List.mem_cons.mp hq).elim (fun e => e ▸ ⟨by decide, "java/lang/IllegalArgumentException", by decide, by decide, cl_L_15⟩) (fun hq => nomatch hq)))) rfl (by decide) cl_L_17 (Or.inr ⟨5, dL_rank_30, by decide, rfl⟩) dL_rank_32 (by decide) dL_rank_33 (Nat.le_of_ble_eq_true rfl) (Nat.le_of_ble_eq_true rfl) hx
  · replace h := h9
    clear h9
    refine V_if_eq (tgt := 17) hG dL_rank_10 (by decide) (fun c => ?_) (fun c => ?_)
    · replace h := h.1 c
      refine V_lconst (v := 0) hG (by decide) dL_rank_17 ?_
      refine V_forget (lo' := [none, none, none, none, none, none]) trivial ?_
      refine V_widen (k' := 3) (n' := 18) (by first | exact Nat.le_of_ble_eq_true rfl | omega | (dsimp only; omega)) (by first | exact Nat.le_of_ble_eq_true rfl | omega | (dsimp only; omega)) ?_
      exact wv_L_rank_18 hl hG  _ _ _ _ h
    · replace h := h.2 c
      refine V_lconst (v := 1) hG (by decide) dL_rank_13 ?_
      refine V_goto (tgt := 18) hG dL_rank_14 (by decide) ?_
      refine V_forget (lo' := [none, none, none, none, none, none]) trivial ?_
      refine V_widen (k' := 3) (n' := 18) (by first | exact Nat.le_of_ble_eq_true rfl | omega | (dsimp only; omega)) (by first | exact Nat.le_of_ble_eq_true rfl | omega | (dsimp only; omega)) ?_
      exact wv_L_rank_18 hl hG  _ _ _ _ h
def wp_L_split (a0 : Option Nat) (a1 : Int32) (a2 : Int32) (a3 : Option Nat) (σ : Sg) (Post : Rs → Sg → Prop) : Prop := ∃ u1, a0 = some u1 ∧ u1 % 32 = 9 ∧ wp_X9_split u1 a1 a2 σ (KI (fun x3 σ2 => ∃ u4, a3 = some u4 ∧ aty (u4 % 32) = some .long ∧ ∃ j5, (0 : Int32) = nI j5 ∧ j5 < aln u4 ∧ Post (.inl (some (.int (0 : Int32)))) (wL σ2 u4 j5 (Int32.toInt64 x3))) (fun E σ2 => (E = "java/lang/IndexOutOfBoundsException" ∧ Post (.inl (some (.int 1))) σ2) ∨ (E = "java/lang/IllegalArgumentException" ∧ Post (.inl (some (.int 2))) σ2) ∨ (E = "java/lang/IllegalStateException" ∧ Post (.inl (some (.int 3))) σ2)))
set_option maxRecDepth 100000 in
set_option maxHeartbeats 4000000 in
theorem ct_L_split {l : Launch} (hl : l.stackTraces = false) {a0 : Option Nat} {a1 : Int32} {a2 : Int32} {a3 : Option Nat} {σ : Sg} {Post : Rs → Sg → Prop} (h : wp_L_split a0 a1 a2 a3 σ Post) : Ct l yL_split (.codeWith yL_split cL_split 5 (some .int) [(0, 10, 13, 13), (0, 10, 17, 15), (0, 10, 21, 17)]) 9 148 5 36 [va_rf a0, .int a1, .int a2, va_rf a3] σ Post := by
  refine Ct_ofH [some (va_rf a0), some (.int a1), some (.int a2), some (va_rf a3), none] hl (by decide +kernel) rfl (fun ad => by cases a0 <;> cases a3 <;> rfl) (fun ad => by cases a0 <;> cases a3 <;> exact Nat.le_of_ble_eq_true rfl) (fun v hv => mem_lo hv rfl) ?_
  intro G hG
  unfold wp_L_split at h
  refine V_aload_n (v := va_rf a3) hG dL_split_0 (isRef_rf _) rfl ?_
  refine V_iconst (v := 0) hG (by decide) dL_split_1 ?_
  refine V_aload_n (v := va_rf a0) hG dL_split_2 (isRef_rf _) rfl ?_
  refine V_iload_n hG dL_split_3 rfl ?_
  refine V_iload_n hG dL_split_4 rfl ?_
  obtain ⟨u1, he, h⟩ := h
  subst he
  obtain ⟨ht, h⟩ := h
  refine V_cVI _ _ hG dL_split_5 (ct_X9_split hl h) mv_X9_split ml_L_57 ht rfl rfl rfl rfl (by first | exact Nat.le_of_ble_eq_true rfl | (simp only [List.map_cons, List.map_nil, List.sum_cons, List.sum_nil, cat_rf]; exact Nat.le_of_ble_eq_true rfl)) (Nat.le_of_ble_eq_true rfl) (Nat.le_of_ble_eq_true rfl) (by first | exact Nat.le_of_ble_eq_true rfl | omega | (dsimp only; omega)) (by first | exact Nat.le_of_ble_eq_true rfl | omega | (dsimp only; omega)) ?_ (fun x3 σ2 h9 => ?_)
  · intro E σ2 hx
    rcases hx with ⟨rfl, hx⟩ | ⟨rfl, hx⟩ | ⟨rfl, hx⟩
    · exact VX_catch (pre := []) (suf := [(0, 10, 17, 15), (0, 10, 21, 17)]) (a9 := 0) (b9 := 10) (hpc := 13) (ct := 13) (z := 1) (v := 1) hG rfl (by decide) (fun q => (fun hq => nomatch hq)) rfl (by decide) cl_L_13 (Or.inr ⟨4, dL_split_13, by decide, rfl⟩) dL_split_15 (by decide) dL_split_16 (Nat.le_of_ble_eq_true rfl) (Nat.le_of_ble_eq_true rfl) hx
    · exact VX_catch (pre := [(0, 10, 13, 13)]) (suf := [(0, 10, 21, 17)]) (a9 := 0) (b9 := 10) (hpc := 17) (ct := 15) (z := 2) (v := 2) hG rfl (by decide) (fun q => (fun hq => (List.mem_cons.mp hq).elim (fun e => e ▸ ⟨by decide, "java/lang/IndexOutOfBoundsException", by decide, by decide, cl_L_13⟩) (fun hq => nomatch hq))) rfl (by decide) cl_L_15 (Or.inr ⟨4, dL_split_17, by decide, rfl⟩) dL_split_19 (by decide) dL_split_20 (Nat.le_of_ble_eq_true rfl) (Nat.le_of_ble_eq_true rfl) hx
    · exact VX_catch (pre := [(0, 10, 13, 13), (0, 10, 17, 15)]) (suf := []) (a9 := 0) (b9 := 10) (hpc := 21) (ct := 17) (z := 3) (v := 3) hG rfl (by decide) (fun q => (fun hq => (List.mem_cons.mp hq).elim (fun e => e ▸ ⟨by decide, "java/lang/IndexOutOfBoundsException", by decide, by decide, cl_L_13⟩) (fun hq => (List.mem_cons.mp hq).elim (fun e => e ▸ ⟨by decide, "java/lang/IllegalArgumentException", by decide, by decide, cl_L_15⟩) (fun hq => nomatch hq)))) rfl (by decide) cl_L_17 (Or.inr ⟨4, dL_split_21, by decide, rfl⟩) dL_split_23 (by decide) dL_split_24 (Nat.le_of_ble_eq_true rfl) (Nat.le_of_ble_eq_true rfl) hx
  · replace h := h9
    clear h9
    refine V_i2l hG dL_split_8 ?_
    obtain ⟨u4, he, h⟩ := h
    subst he
    obtain ⟨ha, j5, hi, hj, h⟩ := h
    refine V_last hG dL_split_9 ha hi hj ?_
    refine V_goto (tgt := 25) hG dL_split_10 (by decide) ?_
    refine V_iconst (v := 0) hG (by decide) dL_split_25 ?_
    exact V_iret hG dL_split_26 (by first | exact Nat.le_of_ble_eq_true rfl | omega | (dsimp only; omega)) (by first | exact Nat.le_of_ble_eq_true rfl | omega | (dsimp only; omega)) h
def wp_L_join (a0 : Option Nat) (a1 : Int32) (a2 : Int32) (a3 : Option Nat) (σ : Sg) (Post : Rs → Sg → Prop) : Prop := ∃ u1, a0 = some u1 ∧ u1 % 32 = 9 ∧ wp_X9_join u1 a1 a2 σ (KI (fun x3 σ2 => ∃ u4, a3 = some u4 ∧ aty (u4 % 32) = some .long ∧ ∃ j5, (0 : Int32) = nI j5 ∧ j5 < aln u4 ∧ Post (.inl (some (.int (0 : Int32)))) (wL σ2 u4 j5 (Int32.toInt64 x3))) (fun E σ2 => (E = "java/lang/IndexOutOfBoundsException" ∧ Post (.inl (some (.int 1))) σ2) ∨ (E = "java/lang/IllegalArgumentException" ∧ Post (.inl (some (.int 2))) σ2) ∨ (E = "java/lang/IllegalStateException" ∧ Post (.inl (some (.int 3))) σ2)))
set_option maxRecDepth 100000 in
set_option maxHeartbeats 4000000 in
theorem ct_L_join {l : Launch} (hl : l.stackTraces = false) {a0 : Option Nat} {a1 : Int32} {a2 : Int32} {a3 : Option Nat} {σ : Sg} {Post : Rs → Sg → Prop} (h : wp_L_join a0 a1 a2 a3 σ Post) : Ct l yL_join (.codeWith yL_join cL_join 5 (some .int) [(0, 10, 13, 13), (0, 10, 17, 15), (0, 10, 21, 17)]) 9 149 5 36 [va_rf a0, .int a1, .int a2, va_rf a3] σ Post := by
  refine Ct_ofH [some (va_rf a0), some (.int a1), some (.int a2), some (va_rf a3), none] hl (by decide +kernel) rfl (fun ad => by cases a0 <;> cases a3 <;> rfl) (fun ad => by cases a0 <;> cases a3 <;> exact Nat.le_of_ble_eq_true rfl) (fun v hv => mem_lo hv rfl) ?_
  intro G hG
  unfold wp_L_join at h
  refine V_aload_n (v := va_rf a3) hG dL_join_0 (isRef_rf _) rfl ?_
  refine V_iconst (v := 0) hG (by decide) dL_join_1 ?_
  refine V_aload_n (v := va_rf a0) hG dL_join_2 (isRef_rf _) rfl ?_
  refine V_iload_n hG dL_join_3 rfl ?_
  refine V_iload_n hG dL_join_4 rfl ?_
  obtain ⟨u1, he, h⟩ := h
  subst he
  obtain ⟨ht, h⟩ := h
  refine V_cVI _ _ hG dL_join_5 (ct_X9_join hl h) mv_X9_join ml_L_60 ht rfl rfl rfl rfl (by first | exact Nat.le_of_ble_eq_true rfl | (simp only [List.map_cons, List.map_nil, List.sum_cons, List.sum_nil, cat_rf]; exact Nat.le_of_ble_eq_true rfl)) (Nat.le_of_ble_eq_true rfl) (Nat.le_of_ble_eq_true rfl) (by first | exact Nat.le_of_ble_eq_true rfl | omega | (dsimp only; omega)) (by first | exact Nat.le_of_ble_eq_true rfl | omega | (dsimp only; omega)) ?_ (fun x3 σ2 h9 => ?_)
  · intro E σ2 hx
    rcases hx with ⟨rfl, hx⟩ | ⟨rfl, hx⟩ | ⟨rfl, hx⟩
    · exact VX_catch (pre := []) (suf := [(0, 10, 17, 15), (0, 10, 21, 17)]) (a9 := 0) (b9 := 10) (hpc := 13) (ct := 13) (z := 1) (v := 1) hG rfl (by decide) (fun q => (fun hq => nomatch hq)) rfl (by decide) cl_L_13 (Or.inr ⟨4, dL_join_13, by decide, rfl⟩) dL_join_15 (by decide) dL_join_16 (Nat.le_of_ble_eq_true rfl) (Nat.le_of_ble_eq_true rfl) hx
    · exact VX_catch (pre := [(0, 10, 13, 13)]) (suf := [(0, 10, 21, 17)]) (a9 := 0) (b9 := 10) (hpc := 17) (ct := 15) (z := 2) (v := 2) hG rfl (by decide) (fun q => (fun hq => (List.mem_cons.mp hq).elim (fun e => e ▸ ⟨by decide, "java/lang/IndexOutOfBoundsException", by decide, by decide, cl_L_13⟩) (fun hq => nomatch hq))) rfl (by decide) cl_L_15 (Or.inr ⟨4, dL_join_17, by decide, rfl⟩) dL_join_19 (by decide) dL_join_20 (Nat.le_of_ble_eq_true rfl) (Nat.le_of_ble_eq_true rfl) hx
    · exact VX_catch (pre := [(0, 10, 13, 13), (0, 10, 17, 15)]) (suf := []) (a9 := 0) (b9 := 10) (hpc := 21) (ct := 17) (z := 3) (v := 3) hG rfl (by decide) (fun q => (fun hq => (List.mem_cons.mp hq).elim (fun e => e ▸ ⟨by decide, "java/lang/IndexOutOfBoundsException", by decide, by decide, cl_L_13⟩) (fun hq => (List.mem_cons.mp hq).elim (fun e => e ▸ ⟨by decide, "java/lang/IllegalArgumentException", by decide, by decide, cl_L_15⟩) (fun hq => nomatch hq)))) rfl (by decide) cl_L_17 (Or.inr ⟨4, dL_join_21, by decide, rfl⟩) dL_join_23 (by decide) dL_join_24 (Nat.le_of_ble_eq_true rfl) (Nat.le_of_ble_eq_true rfl) hx
  · replace h := h9
    clear h9
    refine V_i2l hG dL_join_8 ?_
    obtain ⟨u4, he, h⟩ := h
    subst he
    obtain ⟨ha, j5, hi, hj, h⟩ := h
    refine V_last hG dL_join_9 ha hi hj ?_
    refine V_goto (tgt := 25) hG dL_join_10 (by decide) ?_
    refine V_iconst (v := 0) hG (by decide) dL_join_25 ?_
    exact V_iret hG dL_join_26 (by first | exact Nat.le_of_ble_eq_true rfl | omega | (dsimp only; omega)) (by first | exact Nat.le_of_ble_eq_true rfl | omega | (dsimp only; omega)) h
def wp_L_recall (a0 : Option Nat) (a1 : Int32) (a2 : Option Nat) (σ : Sg) (Post : Rs → Sg → Prop) : Prop := ∃ u1, a0 = some u1 ∧ u1 % 32 = 9 ∧ wp_X9_recall u1 a1 σ (KI (fun x3 σ2 => ∃ u4, a2 = some u4 ∧ aty (u4 % 32) = some .long ∧ ∃ j5, (0 : Int32) = nI j5 ∧ j5 < aln u4 ∧ Post (.inl (some (.int (0 : Int32)))) (wL σ2 u4 j5 (Int32.toInt64 x3))) (fun E σ2 => (E = "java/lang/IndexOutOfBoundsException" ∧ Post (.inl (some (.int 1))) σ2)))
set_option maxRecDepth 100000 in
set_option maxHeartbeats 4000000 in
theorem ct_L_recall {l : Launch} (hl : l.stackTraces = false) {a0 : Option Nat} {a1 : Int32} {a2 : Option Nat} {σ : Sg} {Post : Rs → Sg → Prop} (h : wp_L_recall a0 a1 a2 σ Post) : Ct l yL_recall (.codeWith yL_recall cL_recall 4 (some .int) [(0, 9, 12, 13)]) 9 151 1 6 [va_rf a0, .int a1, va_rf a2] σ Post := by
  refine Ct_ofH [some (va_rf a0), some (.int a1), some (va_rf a2), none] hl (by decide +kernel) rfl (fun ad => by cases a0 <;> cases a2 <;> rfl) (fun ad => by cases a0 <;> cases a2 <;> exact Nat.le_of_ble_eq_true rfl) (fun v hv => mem_lo hv rfl) ?_
  intro G hG
  unfold wp_L_recall at h
  refine V_aload_n (v := va_rf a2) hG dL_recall_0 (isRef_rf _) rfl ?_
  refine V_iconst (v := 0) hG (by decide) dL_recall_1 ?_
  refine V_aload_n (v := va_rf a0) hG dL_recall_2 (isRef_rf _) rfl ?_
  refine V_iload_n hG dL_recall_3 rfl ?_
  obtain ⟨u1, he, h⟩ := h
  subst he
  obtain ⟨ht, h⟩ := h
  refine V_cVI _ _ hG dL_recall_4 (ct_X9_recall hl h) mv_X9_recall ml_L_63 ht rfl rfl rfl rfl (by first | exact Nat.le_of_ble_eq_true rfl | (simp only [List.map_cons, List.map_nil, List.sum_cons, List.sum_nil, cat_rf]; exact Nat.le_of_ble_eq_true rfl)) (Nat.le_of_ble_eq_true rfl) (Nat.le_of_ble_eq_true rfl) (by first | exact Nat.le_of_ble_eq_true rfl | omega | (dsimp only; omega)) (by first | exact Nat.le_of_ble_eq_true rfl | omega | (dsimp only; omega)) ?_ (fun x3 σ2 h9 => ?_)
  · intro E σ2 hx
    obtain ⟨rfl, hx⟩ := hx
    exact VX_catch (pre := []) (suf := []) (a9 := 0) (b9 := 9) (hpc := 12) (ct := 13) (z := 1) (v := 1) hG rfl (by decide) (fun q => (fun hq => nomatch hq)) rfl (by decide) cl_L_13 (Or.inl ⟨3, dL_recall_12, by decide, rfl⟩) dL_recall_13 (by decide) dL_recall_14 (Nat.le_of_ble_eq_true rfl) (Nat.le_of_ble_eq_true rfl) hx
  · replace h := h9
    clear h9
    refine V_i2l hG dL_recall_7 ?_
    obtain ⟨u4, he, h⟩ := h
    subst he
    obtain ⟨ha, j5, hi, hj, h⟩ := h
    refine V_last hG dL_recall_8 ha hi hj ?_
    refine V_goto (tgt := 15) hG dL_recall_9 (by decide) ?_
    refine V_iconst (v := 0) hG (by decide) dL_recall_15 ?_
    exact V_iret hG dL_recall_16 (by first | exact Nat.le_of_ble_eq_true rfl | omega | (dsimp only; omega)) (by first | exact Nat.le_of_ble_eq_true rfl | omega | (dsimp only; omega)) h
def wp_L_order (a0 : Option Nat) (a1 : Int32) (a2 : Int32) (a3 : Int32) (a4 : Option Nat) (σ : Sg) (Post : Rs → Sg → Prop) : Prop := ∃ u1, a0 = some u1 ∧ u1 % 32 = 9 ∧ wp_X9_order u1 a1 a2 a3 σ (KI (fun x3 σ2 => ∃ u4, a4 = some u4 ∧ aty (u4 % 32) = some .long ∧ ∃ j5, (0 : Int32) = nI j5 ∧ j5 < aln u4 ∧ Post (.inl (some (.int (0 : Int32)))) (wL σ2 u4 j5 (Int32.toInt64 x3))) (fun E σ2 => (E = "java/lang/IndexOutOfBoundsException" ∧ Post (.inl (some (.int 1))) σ2) ∨ (E = "java/lang/IllegalArgumentException" ∧ Post (.inl (some (.int 2))) σ2) ∨ (E = "java/lang/IllegalStateException" ∧ Post (.inl (some (.int 3))) σ2)))
set_option maxRecDepth 100000 in
set_option maxHeartbeats 4000000 in
theorem ct_L_order {l : Launch} (hl : l.stackTraces = false) {a0 : Option Nat} {a1 : Int32} {a2 : Int32} {a3 : Int32} {a4 : Option Nat} {σ : Sg} {Post : Rs → Sg → Prop} (h : wp_L_order a0 a1 a2 a3 a4 σ Post) : Ct l yL_order (.codeWith yL_order cL_order 6 (some .int) [(0, 12, 15, 13), (0, 12, 19, 15), (0, 12, 23, 17)]) 9 149 5 30 [va_rf a0, .int a1, .int a2, .int a3, va_rf a4] σ Post := by
  refine Ct_ofH [some (va_rf a0), some (.int a1), some (.int a2), some (.int a3), some (va_rf a4), none] hl (by decide +kernel) rfl (fun ad => by cases a0 <;> cases a4 <;> rfl) (fun ad => by cases a0 <;> cases a4 <;> exact Nat.le_of_ble_eq_true rfl) (fun v hv => mem_lo hv rfl) ?_
  intro G hG
  unfold wp_L_order at h
  refine V_aload (v := va_rf a4) hG dL_order_0 (isRef_rf _) rfl ?_
  refine V_iconst (v := 0) hG (by decide) dL_order_2 ?_
  refine V_aload_n (v := va_rf a0) hG dL_order_3 (isRef_rf _) rfl ?_
  refine V_iload_n hG dL_order_4 rfl ?_
  refine V_iload_n hG dL_order_5 rfl ?_
  refine V_iload_n hG dL_order_6 rfl ?_
  obtain ⟨u1, he, h⟩ := h
  subst he
  obtain ⟨ht, h⟩ := h
  refine V_cVI _ _ hG dL_order_7 (ct_X9_order hl h) mv_X9_order ml_L_67 ht rfl rfl rfl rfl (by first | exact Nat.le_of_ble_eq_true rfl | (simp only [List.map_cons, List.map_nil, List.sum_cons, List.sum_nil, cat_rf]; exact Nat.le_of_ble_eq_true rfl)) (Nat.le_of_ble_eq_true rfl) (Nat.le_of_ble_eq_true rfl) (by first | exact Nat.le_of_ble_eq_true rfl | omega | (dsimp only; omega)) (by first | exact Nat.le_of_ble_eq_true rfl | omega | (dsimp only; omega)) ?_ (fun x3 σ2 h9 => ?_)
  · intro E σ2 hx
    rcases hx with ⟨rfl, hx⟩ | ⟨rfl, hx⟩ | ⟨rfl, hx⟩
    · exact VX_catch (pre := []) (suf := [(0, 12, 19, 15), (0, 12, 23, 17)]) (a9 := 0) (b9 := 12) (hpc := 15) (ct := 13) (z := 1) (v := 1) hG rfl (by decide) (fun q => (fun hq => nomatch hq)) rfl (by decide) cl_L_13 (Or.inr ⟨5, dL_order_15, by decide, rfl⟩) dL_order_17 (by decide) dL_order_18 (Nat.le_of_ble_eq_true rfl) (Nat.le_of_ble_eq_true rfl) hx
    · exact VX_catch (pre := [(0, 12, 15, 13)]) (suf := [(0, 12, 23, 17)]) (a9 := 0) (b9 := 12) (hpc := 19) (ct := 15) (z := 2) (v := 2) hG rfl (by decide) (fun q => (fun hq => (List.mem_cons.mp hq).elim (fun e => e ▸ ⟨by decide, "java/lang/IndexOutOfBoundsException", by decide, by decide, cl_L_13⟩) (fun hq => nomatch hq))) rfl (by decide) cl_L_15 (Or.inr ⟨5, dL_order_19, by decide, rfl⟩) dL_order_21 (by decide) dL_order_22 (Nat.le_of_ble_eq_true rfl) (Nat.le_of_ble_eq_true rfl) hx
    · exact VX_catch (pre := [(0, 12, 15, 13), (0, 12, 19, 15)]) (suf := []) (a9 := 0) (b9 := 12) (hpc := 23) (ct := 17) (z := 3) (v := 3) hG rfl (by decide) (fun q => (fun hq => (List.mem_cons.mp hq).elim (fun e => e ▸ ⟨by decide, "java/lang/IndexOutOfBoundsException", by decide, by decide, cl_L_13⟩) (fun hq => (List.mem_cons.mp hq).elim (fun e => e ▸ ⟨by decide, "java/lang/IllegalArgumentException", by decide, by decide, cl_L_15⟩) (fun hq => nomatch hq)))) rfl (by decide) cl_L_17 (Or.inr ⟨5, dL_order_23, by decide, rfl⟩) dL_order_25 (by decide) dL_order_26 (Nat.le_of_ble_eq_true rfl) (Nat.le_of_ble_eq_true rfl) hx
  · replace h := h9
    clear h9
    refine V_i2l hG dL_order_10 ?_
    obtain ⟨u4, he, h⟩ := h
    subst he
    obtain ⟨ha, j5, hi, hj, h⟩ := h
    refine V_last hG dL_order_11 ha hi hj ?_
    refine V_goto (tgt := 27) hG dL_order_12 (by decide) ?_
    refine V_iconst (v := 0) hG (by decide) dL_order_27 ?_
    exact V_iret hG dL_order_28 (by first | exact Nat.le_of_ble_eq_true rfl | omega | (dsimp only; omega)) (by first | exact Nat.le_of_ble_eq_true rfl | omega | (dsimp only; omega)) h
def wp_L_promise (a0 : Option Nat) (a1 : Int32) (a2 : Option Nat) (σ : Sg) (Post : Rs → Sg → Prop) : Prop := ∃ u1, a0 = some u1 ∧ u1 % 32 = 9 ∧ wp_X9_promise u1 a1 σ (KI (fun x3 σ2 => ∃ u4, a2 = some u4 ∧ aty (u4 % 32) = some .long ∧ ∃ j5, (0 : Int32) = nI j5 ∧ j5 < aln u4 ∧ Post (.inl (some (.int (0 : Int32)))) (wL σ2 u4 j5 (Int32.toInt64 x3))) (fun E σ2 => (E = "java/lang/IndexOutOfBoundsException" ∧ Post (.inl (some (.int 1))) σ2) ∨ (E = "java/lang/IllegalStateException" ∧ Post (.inl (some (.int 2))) σ2)))
set_option maxRecDepth 100000 in
set_option maxHeartbeats 4000000 in
theorem ct_L_promise {l : Launch} (hl : l.stackTraces = false) {a0 : Option Nat} {a1 : Int32} {a2 : Option Nat} {σ : Sg} {Post : Rs → Sg → Prop} (h : wp_L_promise a0 a1 a2 σ Post) : Ct l yL_promise (.codeWith yL_promise cL_promise 4 (some .int) [(0, 9, 12, 13), (0, 9, 15, 17)]) 9 147 2 12 [va_rf a0, .int a1, va_rf a2] σ Post := by
  refine Ct_ofH [some (va_rf a0), some (.int a1), some (va_rf a2), none] hl (by decide +kernel) rfl (fun ad => by cases a0 <;> cases a2 <;> rfl) (fun ad => by cases a0 <;> cases a2 <;> exact Nat.le_of_ble_eq_true rfl) (fun v hv => mem_lo hv rfl) ?_
  intro G hG
  unfold wp_L_promise at h
  refine V_aload_n (v := va_rf a2) hG dL_promise_0 (isRef_rf _) rfl ?_
  refine V_iconst (v := 0) hG (by decide) dL_promise_1 ?_
  refine V_aload_n (v := va_rf a0) hG dL_promise_2 (isRef_rf _) rfl ?_
  refine V_iload_n hG dL_promise_3 rfl ?_
  obtain ⟨u1, he, h⟩ := h
  subst he
  obtain ⟨ht, h⟩ := h
  refine V_cVI _ _ hG dL_promise_4 (ct_X9_promise hl h) mv_X9_promise ml_L_70 ht rfl rfl rfl rfl (by first | exact Nat.le_of_ble_eq_true rfl | (simp only [List.map_cons, List.map_nil, List.sum_cons, List.sum_nil, cat_rf]; exact Nat.le_of_ble_eq_true rfl)) (Nat.le_of_ble_eq_true rfl) (Nat.le_of_ble_eq_true rfl) (by first | exact Nat.le_of_ble_eq_true rfl | omega | (dsimp only; omega)) (by first | exact Nat.le_of_ble_eq_true rfl | omega | (dsimp only; omega)) ?_ (fun x3 σ2 h9 => ?_)
  · intro E σ2 hx
    rcases hx with ⟨rfl, hx⟩ | ⟨rfl, hx⟩
    · exact VX_catch (pre := []) (suf := [(0, 9, 15, 17)]) (a9 := 0) (b9 := 9) (hpc := 12) (ct := 13) (z := 1) (v := 1) hG rfl (by decide) (fun q => (fun hq => nomatch hq)) rfl (by decide) cl_L_13 (Or.inl ⟨3, dL_promise_12, by decide, rfl⟩) dL_promise_13 (by decide) dL_promise_14 (Nat.le_of_ble_eq_true rfl) (Nat.le_of_ble_eq_true rfl) hx
    · exact VX_catch (pre := [(0, 9, 12, 13)]) (suf := []) (a9 := 0) (b9 := 9) (hpc := 15) (ct := 17) (z := 2) (v := 2) hG rfl (by decide) (fun q => (fun hq => (List.mem_cons.mp hq).elim (fun e => e ▸ ⟨by decide, "java/lang/IndexOutOfBoundsException", by decide, by decide, cl_L_13⟩) (fun hq => nomatch hq))) rfl (by decide) cl_L_17 (Or.inl ⟨3, dL_promise_15, by decide, rfl⟩) dL_promise_16 (by decide) dL_promise_17 (Nat.le_of_ble_eq_true rfl) (Nat.le_of_ble_eq_true rfl) hx
  · replace h := h9
    clear h9
    refine V_i2l hG dL_promise_7 ?_
    obtain ⟨u4, he, h⟩ := h
    subst he
    obtain ⟨ha, j5, hi, hj, h⟩ := h
    refine V_last hG dL_promise_8 ha hi hj ?_
    refine V_goto (tgt := 18) hG dL_promise_9 (by decide) ?_
    refine V_iconst (v := 0) hG (by decide) dL_promise_18 ?_
    exact V_iret hG dL_promise_19 (by first | exact Nat.le_of_ble_eq_true rfl | omega | (dsimp only; omega)) (by first | exact Nat.le_of_ble_eq_true rfl | omega | (dsimp only; omega)) h
def wp_L_ship (a0 : Option Nat) (a1 : Int32) (a2 : Option Nat) (σ : Sg) (Post : Rs → Sg → Prop) : Prop := ∃ u1, a0 = some u1 ∧ u1 % 32 = 9 ∧ wp_X9_ship u1 a1 σ (KI (fun x3 σ2 => ∃ u4, a2 = some u4 ∧ aty (u4 % 32) = some .long ∧ ∃ j5, (0 : Int32) = nI j5 ∧ j5 < aln u4 ∧ Post (.inl (some (.int (0 : Int32)))) (wL σ2 u4 j5 (Int32.toInt64 x3))) (fun E σ2 => (E = "java/lang/IndexOutOfBoundsException" ∧ Post (.inl (some (.int 1))) σ2) ∨ (E = "java/lang/IllegalStateException" ∧ Post (.inl (some (.int 2))) σ2)))
set_option maxRecDepth 100000 in
set_option maxHeartbeats 4000000 in
theorem ct_L_ship {l : Launch} (hl : l.stackTraces = false) {a0 : Option Nat} {a1 : Int32} {a2 : Option Nat} {σ : Sg} {Post : Rs → Sg → Prop} (h : wp_L_ship a0 a1 a2 σ Post) : Ct l yL_ship (.codeWith yL_ship cL_ship 4 (some .int) [(0, 9, 12, 13), (0, 9, 15, 17)]) 9 147 3 24 [va_rf a0, .int a1, va_rf a2] σ Post := by
  refine Ct_ofH [some (va_rf a0), some (.int a1), some (va_rf a2), none] hl (by decide +kernel) rfl (fun ad => by cases a0 <;> cases a2 <;> rfl) (fun ad => by cases a0 <;> cases a2 <;> exact Nat.le_of_ble_eq_true rfl) (fun v hv => mem_lo hv rfl) ?_
  intro G hG
  unfold wp_L_ship at h
  refine V_aload_n (v := va_rf a2) hG dL_ship_0 (isRef_rf _) rfl ?_
  refine V_iconst (v := 0) hG (by decide) dL_ship_1 ?_
  refine V_aload_n (v := va_rf a0) hG dL_ship_2 (isRef_rf _) rfl ?_
  refine V_iload_n hG dL_ship_3 rfl ?_
  obtain ⟨u1, he, h⟩ := h
  subst he
  obtain ⟨ht, h⟩ := h
  refine V_cVI _ _ hG dL_ship_4 (ct_X9_ship hl h) mv_X9_ship ml_L_73 ht rfl rfl rfl rfl (by first | exact Nat.le_of_ble_eq_true rfl | (simp only [List.map_cons, List.map_nil, List.sum_cons, List.sum_nil, cat_rf]; exact Nat.le_of_ble_eq_true rfl)) (Nat.le_of_ble_eq_true rfl) (Nat.le_of_ble_eq_true rfl) (by first | exact Nat.le_of_ble_eq_true rfl | omega | (dsimp only; omega)) (by first | exact Nat.le_of_ble_eq_true rfl | omega | (dsimp only; omega)) ?_ (fun x3 σ2 h9 => ?_)
  · intro E σ2 hx
    rcases hx with ⟨rfl, hx⟩ | ⟨rfl, hx⟩
    · exact VX_catch (pre := []) (suf := [(0, 9, 15, 17)]) (a9 := 0) (b9 := 9) (hpc := 12) (ct := 13) (z := 1) (v := 1) hG rfl (by decide) (fun q => (fun hq => nomatch hq)) rfl (by decide) cl_L_13 (Or.inl ⟨3, dL_ship_12, by decide, rfl⟩) dL_ship_13 (by decide) dL_ship_14 (Nat.le_of_ble_eq_true rfl) (Nat.le_of_ble_eq_true rfl) hx
    · exact VX_catch (pre := [(0, 9, 12, 13)]) (suf := []) (a9 := 0) (b9 := 9) (hpc := 15) (ct := 17) (z := 2) (v := 2) hG rfl (by decide) (fun q => (fun hq => (List.mem_cons.mp hq).elim (fun e => e ▸ ⟨by decide, "java/lang/IndexOutOfBoundsException", by decide, by decide, cl_L_13⟩) (fun hq => nomatch hq))) rfl (by decide) cl_L_17 (Or.inl ⟨3, dL_ship_15, by decide, rfl⟩) dL_ship_16 (by decide) dL_ship_17 (Nat.le_of_ble_eq_true rfl) (Nat.le_of_ble_eq_true rfl) hx
  · replace h := h9
    clear h9
    refine V_i2l hG dL_ship_7 ?_
    obtain ⟨u4, he, h⟩ := h
    subst he
    obtain ⟨ha, j5, hi, hj, h⟩ := h
    refine V_last hG dL_ship_8 ha hi hj ?_
    refine V_goto (tgt := 18) hG dL_ship_9 (by decide) ?_
    refine V_iconst (v := 0) hG (by decide) dL_ship_18 ?_
    exact V_iret hG dL_ship_19 (by first | exact Nat.le_of_ble_eq_true rfl | omega | (dsimp only; omega)) (by first | exact Nat.le_of_ble_eq_true rfl | omega | (dsimp only; omega)) h
def wp_L_run (a0 : Option Nat) (a1 : Int32) (a2 : Option Nat) (σ : Sg) (Post : Rs → Sg → Prop) : Prop := ∃ u1, a0 = some u1 ∧ u1 % 32 = 9 ∧ wp_X9_run u1 a1 σ (KI (fun x3 σ2 => ∃ u4, a2 = some u4 ∧ aty (u4 % 32) = some .long ∧ ∃ j5, (0 : Int32) = nI j5 ∧ j5 < aln u4 ∧ Post (.inl (some (.int (0 : Int32)))) (wL σ2 u4 j5 (Int32.toInt64 x3))) (fun E σ2 => (E = "java/lang/IllegalArgumentException" ∧ Post (.inl (some (.int 1))) σ2) ∨ (E = "java/lang/IllegalStateException" ∧ Post (.inl (some (.int 2))) σ2)))
set_option maxRecDepth 100000 in
set_option maxHeartbeats 4000000 in
theorem ct_L_run {l : Launch} (hl : l.stackTraces = false) {a0 : Option Nat} {a1 : Int32} {a2 : Option Nat} {σ : Sg} {Post : Rs → Sg → Prop} (h : wp_L_run a0 a1 a2 σ Post) : Ct l yL_run (.codeWith yL_run cL_run 4 (some .int) [(0, 9, 12, 15), (0, 9, 15, 17)]) 9 191 2 12 [va_rf a0, .int a1, va_rf a2] σ Post := by
  refine Ct_ofH [some (va_rf a0), some (.int a1), some (va_rf a2), none] hl (by decide +kernel) rfl (fun ad => by cases a0 <;> cases a2 <;> rfl) (fun ad => by cases a0 <;> cases a2 <;> exact Nat.le_of_ble_eq_true rfl) (fun v hv => mem_lo hv rfl) ?_
  intro G hG
  unfold wp_L_run at h
  refine V_aload_n (v := va_rf a2) hG dL_run_0 (isRef_rf _) rfl ?_
  refine V_iconst (v := 0) hG (by decide) dL_run_1 ?_
  refine V_aload_n (v := va_rf a0) hG dL_run_2 (isRef_rf _) rfl ?_
  refine V_iload_n hG dL_run_3 rfl ?_
  obtain ⟨u1, he, h⟩ := h
  subst he
  obtain ⟨ht, h⟩ := h
  refine V_cVI _ _ hG dL_run_4 (ct_X9_run hl h) mv_X9_run ml_L_76 ht rfl rfl rfl rfl (by first | exact Nat.le_of_ble_eq_true rfl | (simp only [List.map_cons, List.map_nil, List.sum_cons, List.sum_nil, cat_rf]; exact Nat.le_of_ble_eq_true rfl)) (Nat.le_of_ble_eq_true rfl) (Nat.le_of_ble_eq_true rfl) (by first | exact Nat.le_of_ble_eq_true rfl | omega | (dsimp only; omega)) (by first | exact Nat.le_of_ble_eq_true rfl | omega | (dsimp only; omega)) ?_ (fun x3 σ2 h9 => ?_)
  · intro E σ2 hx
    rcases hx with ⟨rfl, hx⟩ | ⟨rfl, hx⟩
    · exact VX_catch (pre := []) (suf := [(0, 9, 15, 17)]) (a9 := 0) (b9 := 9) (hpc := 12) (ct := 15) (z := 1) (v := 1) hG rfl (by decide) (fun q => (fun hq => nomatch hq)) rfl (by decide) cl_L_15 (Or.inl ⟨3, dL_run_12, by decide, rfl⟩) dL_run_13 (by decide) dL_run_14 (Nat.le_of_ble_eq_true rfl) (Nat.le_of_ble_eq_true rfl) hx
    · exact VX_catch (pre := [(0, 9, 12, 15)]) (suf := []) (a9 := 0) (b9 := 9) (hpc := 15) (ct := 17) (z := 2) (v := 2) hG rfl (by decide) (fun q => (fun hq => (List.mem_cons.mp hq).elim (fun e => e ▸ ⟨by decide, "java/lang/IllegalArgumentException", by decide, by decide, cl_L_15⟩) (fun hq => nomatch hq))) rfl (by decide) cl_L_17 (Or.inl ⟨3, dL_run_15, by decide, rfl⟩) dL_run_16 (by decide) dL_run_17 (Nat.le_of_ble_eq_true rfl) (Nat.le_of_ble_eq_true rfl) hx
  · replace h := h9
    clear h9
    refine V_i2l hG dL_run_7 ?_
    obtain ⟨u4, he, h⟩ := h
    subst he
    obtain ⟨ha, j5, hi, hj, h⟩ := h
    refine V_last hG dL_run_8 ha hi hj ?_
    refine V_goto (tgt := 18) hG dL_run_9 (by decide) ?_
    refine V_iconst (v := 0) hG (by decide) dL_run_18 ?_
    exact V_iret hG dL_run_19 (by first | exact Nat.le_of_ble_eq_true rfl | omega | (dsimp only; omega)) (by first | exact Nat.le_of_ble_eq_true rfl | omega | (dsimp only; omega)) h
def wp_L_batch (a0 : Option Nat) (a1 : Int32) (a2 : Int32) (a3 : Option Nat) (σ : Sg) (Post : Rs → Sg → Prop) : Prop := ∃ u1, a0 = some u1 ∧ u1 % 32 = 9 ∧ wp_X9_batch u1 a1 a2 σ (KI (fun x3 σ2 => ∃ u4, a3 = some u4 ∧ aty (u4 % 32) = some .long ∧ ∃ j5, (0 : Int32) = nI j5 ∧ j5 < aln u4 ∧ Post (.inl (some (.int (0 : Int32)))) (wL σ2 u4 j5 (Int32.toInt64 x3))) (fun E σ2 => (E = "java/lang/IndexOutOfBoundsException" ∧ Post (.inl (some (.int 1))) σ2) ∨ (E = "java/lang/IllegalArgumentException" ∧ Post (.inl (some (.int 2))) σ2)))
set_option maxRecDepth 100000 in
set_option maxHeartbeats 4000000 in
theorem ct_L_batch {l : Launch} (hl : l.stackTraces = false) {a0 : Option Nat} {a1 : Int32} {a2 : Int32} {a3 : Option Nat} {σ : Sg} {Post : Rs → Sg → Prop} (h : wp_L_batch a0 a1 a2 a3 σ Post) : Ct l yL_batch (.codeWith yL_batch cL_batch 5 (some .int) [(0, 10, 13, 13), (0, 10, 17, 15)]) 9 147 2 12 [va_rf a0, .int a1, .int a2, va_rf a3] σ Post := by
  refine Ct_ofH [some (va_rf a0), some (.int a1), some (.int a2), some (va_rf a3), none] hl (by decide +kernel) rfl (fun ad => by cases a0 <;> cases a3 <;> rfl) (fun ad => by cases a0 <;> cases a3 <;> exact Nat.le_of_ble_eq_true rfl) (fun v hv => mem_lo hv rfl) ?_
  intro G hG
  unfold wp_L_batch at h
  refine V_aload_n (v := va_rf a3) hG dL_batch_0 (isRef_rf _) rfl ?_
  refine V_iconst (v := 0) hG (by decide) dL_batch_1 ?_
  refine V_aload_n (v := va_rf a0) hG dL_batch_2 (isRef_rf _) rfl ?_
  refine V_iload_n hG dL_batch_3 rfl ?_
  refine V_iload_n hG dL_batch_4 rfl ?_
  obtain ⟨u1, he, h⟩ := h
  subst he
  obtain ⟨ht, h⟩ := h
  refine V_cVI _ _ hG dL_batch_5 (ct_X9_batch hl h) mv_X9_batch ml_L_79 ht rfl rfl rfl rfl (by first | exact Nat.le_of_ble_eq_true rfl | (simp only [List.map_cons, List.map_nil, List.sum_cons, List.sum_nil, cat_rf]; exact Nat.le_of_ble_eq_true rfl)) (Nat.le_of_ble_eq_true rfl) (Nat.le_of_ble_eq_true rfl) (by first | exact Nat.le_of_ble_eq_true rfl | omega | (dsimp only; omega)) (by first | exact Nat.le_of_ble_eq_true rfl | omega | (dsimp only; omega)) ?_ (fun x3 σ2 h9 => ?_)
  · intro E σ2 hx
    rcases hx with ⟨rfl, hx⟩ | ⟨rfl, hx⟩
    · exact VX_catch (pre := []) (suf := [(0, 10, 17, 15)]) (a9 := 0) (b9 := 10) (hpc := 13) (ct := 13) (z := 1) (v := 1) hG rfl (by decide) (fun q => (fun hq => nomatch hq)) rfl (by decide) cl_L_13 (Or.inr ⟨4, dL_batch_13, by decide, rfl⟩) dL_batch_15 (by decide) dL_batch_16 (Nat.le_of_ble_eq_true rfl) (Nat.le_of_ble_eq_true rfl) hx
    · exact VX_catch (pre := [(0, 10, 13, 13)]) (suf := []) (a9 := 0) (b9 := 10) (hpc := 17) (ct := 15) (z := 2) (v := 2) hG rfl (by decide) (fun q => (fun hq => (List.mem_cons.mp hq).elim (fun e => e ▸ ⟨by decide, "java/lang/IndexOutOfBoundsException", by decide, by decide, cl_L_13⟩) (fun hq => nomatch hq))) rfl (by decide) cl_L_15 (Or.inr ⟨4, dL_batch_17, by decide, rfl⟩) dL_batch_19 (by decide) dL_batch_20 (Nat.le_of_ble_eq_true rfl) (Nat.le_of_ble_eq_true rfl) hx
  · replace h := h9
    clear h9
    refine V_i2l hG dL_batch_8 ?_
    obtain ⟨u4, he, h⟩ := h
    subst he
    obtain ⟨ha, j5, hi, hj, h⟩ := h
    refine V_last hG dL_batch_9 ha hi hj ?_
    refine V_goto (tgt := 21) hG dL_batch_10 (by decide) ?_
    refine V_iconst (v := 0) hG (by decide) dL_batch_21 ?_
    exact V_iret hG dL_batch_22 (by first | exact Nat.le_of_ble_eq_true rfl | omega | (dsimp only; omega)) (by first | exact Nat.le_of_ble_eq_true rfl | omega | (dsimp only; omega)) h
def wp_L_parent (a0 : Option Nat) (a1 : Int32) (a2 : Int32) (a3 : Option Nat) (σ : Sg) (Post : Rs → Sg → Prop) : Prop := ∃ u1, a0 = some u1 ∧ u1 % 32 = 9 ∧ wp_X9_parent u1 a1 a2 σ (KI (fun x3 σ2 => ∃ u4, a3 = some u4 ∧ aty (u4 % 32) = some .long ∧ ∃ j5, (0 : Int32) = nI j5 ∧ j5 < aln u4 ∧ Post (.inl (some (.int (0 : Int32)))) (wL σ2 u4 j5 (Int32.toInt64 x3))) (fun E σ2 => (E = "java/lang/IndexOutOfBoundsException" ∧ Post (.inl (some (.int 1))) σ2) ∨ (E = "java/lang/IllegalArgumentException" ∧ Post (.inl (some (.int 2))) σ2)))
set_option maxRecDepth 100000 in
set_option maxHeartbeats 4000000 in
theorem ct_L_parent {l : Launch} (hl : l.stackTraces = false) {a0 : Option Nat} {a1 : Int32} {a2 : Int32} {a3 : Option Nat} {σ : Sg} {Post : Rs → Sg → Prop} (h : wp_L_parent a0 a1 a2 a3 σ Post) : Ct l yL_parent (.codeWith yL_parent cL_parent 5 (some .int) [(0, 10, 13, 13), (0, 10, 17, 15)]) 9 147 2 12 [va_rf a0, .int a1, .int a2, va_rf a3] σ Post := by
  refine Ct_ofH [some (va_rf a0), some (.int a1), some (.int a2), some (va_rf a3), none] hl (by decide +kernel) rfl (fun ad => by cases a0 <;> cases a3 <;> rfl) (fun ad => by cases a0 <;> cases a3 <;> exact Nat.le_of_ble_eq_true rfl) (fun v hv => mem_lo hv rfl) ?_
  intro G hG
  unfold wp_L_parent at h
  refine V_aload_n (v := va_rf a3) hG dL_parent_0 (isRef_rf _) rfl ?_
  refine V_iconst (v := 0) hG (by decide) dL_parent_1 ?_
  refine V_aload_n (v := va_rf a0) hG dL_parent_2 (isRef_rf _) rfl ?_
  refine V_iload_n hG dL_parent_3 rfl ?_
  refine V_iload_n hG dL_parent_4 rfl ?_
  obtain ⟨u1, he, h⟩ := h
  subst he
  obtain ⟨ht, h⟩ := h
  refine V_cVI _ _ hG dL_parent_5 (ct_X9_parent hl h) mv_X9_parent ml_L_82 ht rfl rfl rfl rfl (by first | exact Nat.le_of_ble_eq_true rfl | (simp only [List.map_cons, List.map_nil, List.sum_cons, List.sum_nil, cat_rf]; exact Nat.le_of_ble_eq_true rfl)) (Nat.le_of_ble_eq_true rfl) (Nat.le_of_ble_eq_true rfl) (by first | exact Nat.le_of_ble_eq_true rfl | omega | (dsimp only; omega)) (by first | exact Nat.le_of_ble_eq_true rfl | omega | (dsimp only; omega)) ?_ (fun x3 σ2 h9 => ?_)
  · intro E σ2 hx
    rcases hx with ⟨rfl, hx⟩ | ⟨rfl, hx⟩
    · exact VX_catch (pre := []) (suf := [(0, 10, 17, 15)]) (a9 := 0) (b9 := 10) (hpc := 13) (ct := 13) (z := 1) (v := 1) hG rfl (by decide) (fun q => (fun hq => nomatch hq)) rfl (by decide) cl_L_13 (Or.inr ⟨4, dL_parent_13, by decide, rfl⟩) dL_parent_15 (by decide) dL_parent_16 (Nat.le_of_ble_eq_true rfl) (Nat.le_of_ble_eq_true rfl) hx
    · exact VX_catch (pre := [(0, 10, 13, 13)]) (suf := []) (a9 := 0) (b9 := 10) (hpc := 17) (ct := 15) (z := 2) (v := 2) hG rfl (by decide) (fun q => (fun hq => (List.mem_cons.mp hq).elim (fun e => e ▸ ⟨by decide, "java/lang/IndexOutOfBoundsException", by decide, by decide, cl_L_13⟩) (fun hq => nomatch hq))) rfl (by decide) cl_L_15 (Or.inr ⟨4, dL_parent_17, by decide, rfl⟩) dL_parent_19 (by decide) dL_parent_20 (Nat.le_of_ble_eq_true rfl) (Nat.le_of_ble_eq_true rfl) hx
  · replace h := h9
    clear h9
    refine V_i2l hG dL_parent_8 ?_
    obtain ⟨u4, he, h⟩ := h
    subst he
    obtain ⟨ha, j5, hi, hj, h⟩ := h
    refine V_last hG dL_parent_9 ha hi hj ?_
    refine V_goto (tgt := 21) hG dL_parent_10 (by decide) ?_
    refine V_iconst (v := 0) hG (by decide) dL_parent_21 ?_
    exact V_iret hG dL_parent_22 (by first | exact Nat.le_of_ble_eq_true rfl | omega | (dsimp only; omega)) (by first | exact Nat.le_of_ble_eq_true rfl | omega | (dsimp only; omega)) h
def wp_L_origin (a0 : Option Nat) (a1 : Int32) (a2 : Int32) (a3 : Option Nat) (σ : Sg) (Post : Rs → Sg → Prop) : Prop := ∃ u1, a0 = some u1 ∧ u1 % 32 = 9 ∧ wp_X9_origin u1 a1 a2 σ (KI (fun x3 σ2 => ∃ u4, a3 = some u4 ∧ aty (u4 % 32) = some .long ∧ ∃ j5, (0 : Int32) = nI j5 ∧ j5 < aln u4 ∧ Post (.inl (some (.int (0 : Int32)))) (wL σ2 u4 j5 (Int32.toInt64 x3))) (fun E σ2 => (E = "java/lang/IndexOutOfBoundsException" ∧ Post (.inl (some (.int 1))) σ2) ∨ (E = "java/lang/IllegalArgumentException" ∧ Post (.inl (some (.int 2))) σ2)))
set_option maxRecDepth 100000 in
set_option maxHeartbeats 4000000 in
theorem ct_L_origin {l : Launch} (hl : l.stackTraces = false) {a0 : Option Nat} {a1 : Int32} {a2 : Int32} {a3 : Option Nat} {σ : Sg} {Post : Rs → Sg → Prop} (h : wp_L_origin a0 a1 a2 a3 σ Post) : Ct l yL_origin (.codeWith yL_origin cL_origin 5 (some .int) [(0, 10, 13, 13), (0, 10, 17, 15)]) 9 147 2 12 [va_rf a0, .int a1, .int a2, va_rf a3] σ Post := by
  refine Ct_ofH [some (va_rf a0), some (.int a1), some (.int a2), some (va_rf a3), none] hl (by decide +kernel) rfl (fun ad => by cases a0 <;> cases a3 <;> rfl) (fun ad => by cases a0 <;> cases a3 <;> exact Nat.le_of_ble_eq_true rfl) (fun v hv => mem_lo hv rfl) ?_
  intro G hG
  unfold wp_L_origin at h
  refine V_aload_n (v := va_rf a3) hG dL_origin_0 (isRef_rf _) rfl ?_
  refine V_iconst (v := 0) hG (by decide) dL_origin_1 ?_
  refine V_aload_n (v := va_rf a0) hG dL_origin_2 (isRef_rf _) rfl ?_
  refine V_iload_n hG dL_origin_3 rfl ?_
  refine V_iload_n hG dL_origin_4 rfl ?_
  obtain ⟨u1, he, h⟩ := h
  subst he
  obtain ⟨ht, h⟩ := h
  refine V_cVI _ _ hG dL_origin_5 (ct_X9_origin hl h) mv_X9_origin ml_L_85 ht rfl rfl rfl rfl (by first | exact Nat.le_of_ble_eq_true rfl | (simp only [List.map_cons, List.map_nil, List.sum_cons, List.sum_nil, cat_rf]; exact Nat.le_of_ble_eq_true rfl)) (Nat.le_of_ble_eq_true rfl) (Nat.le_of_ble_eq_true rfl) (by first | exact Nat.le_of_ble_eq_true rfl | omega | (dsimp only; omega)) (by first | exact Nat.le_of_ble_eq_true rfl | omega | (dsimp only; omega)) ?_ (fun x3 σ2 h9 => ?_)
  · intro E σ2 hx
    rcases hx with ⟨rfl, hx⟩ | ⟨rfl, hx⟩
    · exact VX_catch (pre := []) (suf := [(0, 10, 17, 15)]) (a9 := 0) (b9 := 10) (hpc := 13) (ct := 13) (z := 1) (v := 1) hG rfl (by decide) (fun q => (fun hq => nomatch hq)) rfl (by decide) cl_L_13 (Or.inr ⟨4, dL_origin_13, by decide, rfl⟩) dL_origin_15 (by decide) dL_origin_16 (Nat.le_of_ble_eq_true rfl) (Nat.le_of_ble_eq_true rfl) hx
    · exact VX_catch (pre := [(0, 10, 13, 13)]) (suf := []) (a9 := 0) (b9 := 10) (hpc := 17) (ct := 15) (z := 2) (v := 2) hG rfl (by decide) (fun q => (fun hq => (List.mem_cons.mp hq).elim (fun e => e ▸ ⟨by decide, "java/lang/IndexOutOfBoundsException", by decide, by decide, cl_L_13⟩) (fun hq => nomatch hq))) rfl (by decide) cl_L_15 (Or.inr ⟨4, dL_origin_17, by decide, rfl⟩) dL_origin_19 (by decide) dL_origin_20 (Nat.le_of_ble_eq_true rfl) (Nat.le_of_ble_eq_true rfl) hx
  · replace h := h9
    clear h9
    refine V_i2l hG dL_origin_8 ?_
    obtain ⟨u4, he, h⟩ := h
    subst he
    obtain ⟨ha, j5, hi, hj, h⟩ := h
    refine V_last hG dL_origin_9 ha hi hj ?_
    refine V_goto (tgt := 21) hG dL_origin_10 (by decide) ?_
    refine V_iconst (v := 0) hG (by decide) dL_origin_21 ?_
    exact V_iret hG dL_origin_22 (by first | exact Nat.le_of_ble_eq_true rfl | omega | (dsimp only; omega)) (by first | exact Nat.le_of_ble_eq_true rfl | omega | (dsimp only; omega)) h
def wp_L_machine (a0 : Option Nat) (a1 : Int32) (a2 : Int32) (a3 : Option Nat) (σ : Sg) (Post : Rs → Sg → Prop) : Prop := ∃ u1, a0 = some u1 ∧ u1 % 32 = 9 ∧ wp_X9_machine u1 a1 a2 σ (KI (fun x3 σ2 => ∃ u4, a3 = some u4 ∧ aty (u4 % 32) = some .long ∧ ∃ j5, (0 : Int32) = nI j5 ∧ j5 < aln u4 ∧ Post (.inl (some (.int (0 : Int32)))) (wL σ2 u4 j5 (Int32.toInt64 x3))) (fun E σ2 => (E = "java/lang/IndexOutOfBoundsException" ∧ Post (.inl (some (.int 1))) σ2) ∨ (E = "java/lang/IllegalArgumentException" ∧ Post (.inl (some (.int 2))) σ2)))
set_option maxRecDepth 100000 in
set_option maxHeartbeats 4000000 in
theorem ct_L_machine {l : Launch} (hl : l.stackTraces = false) {a0 : Option Nat} {a1 : Int32} {a2 : Int32} {a3 : Option Nat} {σ : Sg} {Post : Rs → Sg → Prop} (h : wp_L_machine a0 a1 a2 a3 σ Post) : Ct l yL_machine (.codeWith yL_machine cL_machine 5 (some .int) [(0, 10, 13, 13), (0, 10, 17, 15)]) 9 147 2 12 [va_rf a0, .int a1, .int a2, va_rf a3] σ Post := by
  refine Ct_ofH [some (va_rf a0), some (.int a1), some (.int a2), some (va_rf a3), none] hl (by decide +kernel) rfl (fun ad => by cases a0 <;> cases a3 <;> rfl) (fun ad => by cases a0 <;> cases a3 <;> exact Nat.le_of_ble_eq_true rfl) (fun v hv => mem_lo hv rfl) ?_
  intro G hG
  unfold wp_L_machine at h
  refine V_aload_n (v := va_rf a3) hG dL_machine_0 (isRef_rf _) rfl ?_
  refine V_iconst (v := 0) hG (by decide) dL_machine_1 ?_
  refine V_aload_n (v := va_rf a0) hG dL_machine_2 (isRef_rf _) rfl ?_
  refine V_iload_n hG dL_machine_3 rfl ?_
  refine V_iload_n hG dL_machine_4 rfl ?_
  obtain ⟨u1, he, h⟩ := h
  subst he
  obtain ⟨ht, h⟩ := h
  refine V_cVI _ _ hG dL_machine_5 (ct_X9_machine hl h) mv_X9_machine ml_L_88 ht rfl rfl rfl rfl (by first | exact Nat.le_of_ble_eq_true rfl | (simp only [List.map_cons, List.map_nil, List.sum_cons, List.sum_nil, cat_rf]; exact Nat.le_of_ble_eq_true rfl)) (Nat.le_of_ble_eq_true rfl) (Nat.le_of_ble_eq_true rfl) (by first | exact Nat.le_of_ble_eq_true rfl | omega | (dsimp only; omega)) (by first | exact Nat.le_of_ble_eq_true rfl | omega | (dsimp only; omega)) ?_ (fun x3 σ2 h9 => ?_)
  · intro E σ2 hx
    rcases hx with ⟨rfl, hx⟩ | ⟨rfl, hx⟩
    · exact VX_catch (pre := []) (suf := [(0, 10, 17, 15)]) (a9 := 0) (b9 := 10) (hpc := 13) (ct := 13) (z := 1) (v := 1) hG rfl (by decide) (fun q => (fun hq => nomatch hq)) rfl (by decide) cl_L_13 (Or.inr ⟨4, dL_machine_13, by decide, rfl⟩) dL_machine_15 (by decide) dL_machine_16 (Nat.le_of_ble_eq_true rfl) (Nat.le_of_ble_eq_true rfl) hx
    · exact VX_catch (pre := [(0, 10, 13, 13)]) (suf := []) (a9 := 0) (b9 := 10) (hpc := 17) (ct := 15) (z := 2) (v := 2) hG rfl (by decide) (fun q => (fun hq => (List.mem_cons.mp hq).elim (fun e => e ▸ ⟨by decide, "java/lang/IndexOutOfBoundsException", by decide, by decide, cl_L_13⟩) (fun hq => nomatch hq))) rfl (by decide) cl_L_15 (Or.inr ⟨4, dL_machine_17, by decide, rfl⟩) dL_machine_19 (by decide) dL_machine_20 (Nat.le_of_ble_eq_true rfl) (Nat.le_of_ble_eq_true rfl) hx
  · replace h := h9
    clear h9
    refine V_i2l hG dL_machine_8 ?_
    obtain ⟨u4, he, h⟩ := h
    subst he
    obtain ⟨ha, j5, hi, hj, h⟩ := h
    refine V_last hG dL_machine_9 ha hi hj ?_
    refine V_goto (tgt := 21) hG dL_machine_10 (by decide) ?_
    refine V_iconst (v := 0) hG (by decide) dL_machine_21 ?_
    exact V_iret hG dL_machine_22 (by first | exact Nat.le_of_ble_eq_true rfl | omega | (dsimp only; omega)) (by first | exact Nat.le_of_ble_eq_true rfl | omega | (dsimp only; omega)) h
def wp_L_level (a0 : Option Nat) (a1 : Int32) (a2 : Int32) (a3 : Option Nat) (σ : Sg) (Post : Rs → Sg → Prop) : Prop := ∃ u1, a0 = some u1 ∧ u1 % 32 = 9 ∧ wp_X9_level u1 a1 a2 σ (KI (fun x3 σ2 => ∃ u4, a3 = some u4 ∧ aty (u4 % 32) = some .long ∧ ∃ j5, (0 : Int32) = nI j5 ∧ j5 < aln u4 ∧ Post (.inl (some (.int (0 : Int32)))) (wL σ2 u4 j5 (Int32.toInt64 x3))) (fun E σ2 => (E = "java/lang/IndexOutOfBoundsException" ∧ Post (.inl (some (.int 1))) σ2)))
set_option maxRecDepth 100000 in
set_option maxHeartbeats 4000000 in
theorem ct_L_level {l : Launch} (hl : l.stackTraces = false) {a0 : Option Nat} {a1 : Int32} {a2 : Int32} {a3 : Option Nat} {σ : Sg} {Post : Rs → Sg → Prop} (h : wp_L_level a0 a1 a2 a3 σ Post) : Ct l yL_level (.codeWith yL_level cL_level 5 (some .int) [(0, 10, 13, 13)]) 9 147 2 12 [va_rf a0, .int a1, .int a2, va_rf a3] σ Post := by
  refine Ct_ofH [some (va_rf a0), some (.int a1), some (.int a2), some (va_rf a3), none] hl (by decide +kernel) rfl (fun ad => by cases a0 <;> cases a3 <;> rfl) (fun ad => by cases a0 <;> cases a3 <;> exact Nat.le_of_ble_eq_true rfl) (fun v hv => mem_lo hv rfl) ?_
  intro G hG
  unfold wp_L_level at h
  refine V_aload_n (v := va_rf a3) hG dL_level_0 (isRef_rf _) rfl ?_
  refine V_iconst (v := 0) hG (by decide) dL_level_1 ?_
  refine V_aload_n (v := va_rf a0) hG dL_level_2 (isRef_rf _) rfl ?_
  refine V_iload_n hG dL_level_3 rfl ?_
  refine V_iload_n hG dL_level_4 rfl ?_
  obtain ⟨u1, he, h⟩ := h
  subst he
  obtain ⟨ht, h⟩ := h
  refine V_cVI _ _ hG dL_level_5 (ct_X9_level hl h) mv_X9_level ml_L_91 ht rfl rfl rfl rfl (by first | exact Nat.le_of_ble_eq_true rfl | (simp only [List.map_cons, List.map_nil, List.sum_cons, List.sum_nil, cat_rf]; exact Nat.le_of_ble_eq_true rfl)) (Nat.le_of_ble_eq_true rfl) (Nat.le_of_ble_eq_true rfl) (by first | exact Nat.le_of_ble_eq_true rfl | omega | (dsimp only; omega)) (by first | exact Nat.le_of_ble_eq_true rfl | omega | (dsimp only; omega)) ?_ (fun x3 σ2 h9 => ?_)
  · intro E σ2 hx
    obtain ⟨rfl, hx⟩ := hx
    exact VX_catch (pre := []) (suf := []) (a9 := 0) (b9 := 10) (hpc := 13) (ct := 13) (z := 1) (v := 1) hG rfl (by decide) (fun q => (fun hq => nomatch hq)) rfl (by decide) cl_L_13 (Or.inr ⟨4, dL_level_13, by decide, rfl⟩) dL_level_15 (by decide) dL_level_16 (Nat.le_of_ble_eq_true rfl) (Nat.le_of_ble_eq_true rfl) hx
  · replace h := h9
    clear h9
    refine V_i2l hG dL_level_8 ?_
    obtain ⟨u4, he, h⟩ := h
    subst he
    obtain ⟨ha, j5, hi, hj, h⟩ := h
    refine V_last hG dL_level_9 ha hi hj ?_
    refine V_goto (tgt := 17) hG dL_level_10 (by decide) ?_
    refine V_iconst (v := 0) hG (by decide) dL_level_17 ?_
    exact V_iret hG dL_level_18 (by first | exact Nat.le_of_ble_eq_true rfl | omega | (dsimp only; omega)) (by first | exact Nat.le_of_ble_eq_true rfl | omega | (dsimp only; omega)) h
def wp_L_machineOf (a0 : Option Nat) (a1 : Int32) (a2 : Option Nat) (σ : Sg) (Post : Rs → Sg → Prop) : Prop := ∃ u1, a0 = some u1 ∧ u1 % 32 = 9 ∧ wp_X9_machineOf u1 a1 σ (KI (fun x3 σ2 => ∃ u4, a2 = some u4 ∧ aty (u4 % 32) = some .long ∧ ∃ j5, (0 : Int32) = nI j5 ∧ j5 < aln u4 ∧ Post (.inl (some (.int (0 : Int32)))) (wL σ2 u4 j5 (Int32.toInt64 x3))) (fun E σ2 => (E = "java/lang/IndexOutOfBoundsException" ∧ Post (.inl (some (.int 1))) σ2)))
set_option maxRecDepth 100000 in
set_option maxHeartbeats 4000000 in
theorem ct_L_machineOf {l : Launch} (hl : l.stackTraces = false) {a0 : Option Nat} {a1 : Int32} {a2 : Option Nat} {σ : Sg} {Post : Rs → Sg → Prop} (h : wp_L_machineOf a0 a1 a2 σ Post) : Ct l yL_machineOf (.codeWith yL_machineOf cL_machineOf 4 (some .int) [(0, 9, 12, 13)]) 9 145 1 6 [va_rf a0, .int a1, va_rf a2] σ Post := by
  refine Ct_ofH [some (va_rf a0), some (.int a1), some (va_rf a2), none] hl (by decide +kernel) rfl (fun ad => by cases a0 <;> cases a2 <;> rfl) (fun ad => by cases a0 <;> cases a2 <;> exact Nat.le_of_ble_eq_true rfl) (fun v hv => mem_lo hv rfl) ?_
  intro G hG
  unfold wp_L_machineOf at h
  refine V_aload_n (v := va_rf a2) hG dL_machineOf_0 (isRef_rf _) rfl ?_
  refine V_iconst (v := 0) hG (by decide) dL_machineOf_1 ?_
  refine V_aload_n (v := va_rf a0) hG dL_machineOf_2 (isRef_rf _) rfl ?_
  refine V_iload_n hG dL_machineOf_3 rfl ?_
  obtain ⟨u1, he, h⟩ := h
  subst he
  obtain ⟨ht, h⟩ := h
  refine V_cVI _ _ hG dL_machineOf_4 (ct_X9_machineOf hl h) mv_X9_machineOf ml_L_94 ht rfl rfl rfl rfl (by first | exact Nat.le_of_ble_eq_true rfl | (simp only [List.map_cons, List.map_nil, List.sum_cons, List.sum_nil, cat_rf]; exact Nat.le_of_ble_eq_true rfl)) (Nat.le_of_ble_eq_true rfl) (Nat.le_of_ble_eq_true rfl) (by first | exact Nat.le_of_ble_eq_true rfl | omega | (dsimp only; omega)) (by first | exact Nat.le_of_ble_eq_true rfl | omega | (dsimp only; omega)) ?_ (fun x3 σ2 h9 => ?_)
  · intro E σ2 hx
    obtain ⟨rfl, hx⟩ := hx
    exact VX_catch (pre := []) (suf := []) (a9 := 0) (b9 := 9) (hpc := 12) (ct := 13) (z := 1) (v := 1) hG rfl (by decide) (fun q => (fun hq => nomatch hq)) rfl (by decide) cl_L_13 (Or.inl ⟨3, dL_machineOf_12, by decide, rfl⟩) dL_machineOf_13 (by decide) dL_machineOf_14 (Nat.le_of_ble_eq_true rfl) (Nat.le_of_ble_eq_true rfl) hx
  · replace h := h9
    clear h9
    refine V_i2l hG dL_machineOf_7 ?_
    obtain ⟨u4, he, h⟩ := h
    subst he
    obtain ⟨ha, j5, hi, hj, h⟩ := h
    refine V_last hG dL_machineOf_8 ha hi hj ?_
    refine V_goto (tgt := 15) hG dL_machineOf_9 (by decide) ?_
    refine V_iconst (v := 0) hG (by decide) dL_machineOf_15 ?_
    exact V_iret hG dL_machineOf_16 (by first | exact Nat.le_of_ble_eq_true rfl | omega | (dsimp only; omega)) (by first | exact Nat.le_of_ble_eq_true rfl | omega | (dsimp only; omega)) h
def wp_L_store (a0 : Option Nat) (a1 : Int32) (a2 : Int32) (a3 : Option Nat) (σ : Sg) (Post : Rs → Sg → Prop) : Prop := ∃ u1, a0 = some u1 ∧ u1 % 32 = 9 ∧ wp_X9_store u1 a1 a2 σ (KI (fun x3 σ2 => ∃ u4, a3 = some u4 ∧ aty (u4 % 32) = some .long ∧ ∃ j5, (0 : Int32) = nI j5 ∧ j5 < aln u4 ∧ Post (.inl (some (.int (0 : Int32)))) (wL σ2 u4 j5 (Int32.toInt64 x3))) (fun E σ2 => (E = "java/lang/IndexOutOfBoundsException" ∧ Post (.inl (some (.int 1))) σ2) ∨ (E = "java/lang/IllegalArgumentException" ∧ Post (.inl (some (.int 2))) σ2)))
set_option maxRecDepth 100000 in
set_option maxHeartbeats 4000000 in
theorem ct_L_store {l : Launch} (hl : l.stackTraces = false) {a0 : Option Nat} {a1 : Int32} {a2 : Int32} {a3 : Option Nat} {σ : Sg} {Post : Rs → Sg → Prop} (h : wp_L_store a0 a1 a2 a3 σ Post) : Ct l yL_store (.codeWith yL_store cL_store 5 (some .int) [(0, 10, 13, 13), (0, 10, 17, 15)]) 9 147 2 12 [va_rf a0, .int a1, .int a2, va_rf a3] σ Post := by
  refine Ct_ofH [some (va_rf a0), some (.int a1), some (.int a2), some (va_rf a3), none] hl (by decide +kernel) rfl (fun ad => by cases a0 <;> cases a3 <;> rfl) (fun ad => by cases a0 <;> cases a3 <;> exact Nat.le_of_ble_eq_true rfl) (fun v hv => mem_lo hv rfl) ?_
  intro G hG
  unfold wp_L_store at h
  refine V_aload_n (v := va_rf a3) hG dL_store_0 (isRef_rf _) rfl ?_
  refine V_iconst (v := 0) hG (by decide) dL_store_1 ?_
  refine V_aload_n (v := va_rf a0) hG dL_store_2 (isRef_rf _) rfl ?_
  refine V_iload_n hG dL_store_3 rfl ?_
  refine V_iload_n hG dL_store_4 rfl ?_
  obtain ⟨u1, he, h⟩ := h
  subst he
  obtain ⟨ht, h⟩ := h
  refine V_cVI _ _ hG dL_store_5 (ct_X9_store hl h) mv_X9_store ml_L_97 ht rfl rfl rfl rfl (by first | exact Nat.le_of_ble_eq_true rfl | (simp only [List.map_cons, List.map_nil, List.sum_cons, List.sum_nil, cat_rf]; exact Nat.le_of_ble_eq_true rfl)) (Nat.le_of_ble_eq_true rfl) (Nat.le_of_ble_eq_true rfl) (by first | exact Nat.le_of_ble_eq_true rfl | omega | (dsimp only; omega)) (by first | exact Nat.le_of_ble_eq_true rfl | omega | (dsimp only; omega)) ?_ (fun x3 σ2 h9 => ?_)
  · intro E σ2 hx
    rcases hx with ⟨rfl, hx⟩ | ⟨rfl, hx⟩
    · exact VX_catch (pre := []) (suf := [(0, 10, 17, 15)]) (a9 := 0) (b9 := 10) (hpc := 13) (ct := 13) (z := 1) (v := 1) hG rfl (by decide) (fun q => (fun hq => nomatch hq)) rfl (by decide) cl_L_13 (Or.inr ⟨4, dL_store_13, by decide, rfl⟩) dL_store_15 (by decide) dL_store_16 (Nat.le_of_ble_eq_true rfl) (Nat.le_of_ble_eq_true rfl) hx
    · exact VX_catch (pre := [(0, 10, 13, 13)]) (suf := []) (a9 := 0) (b9 := 10) (hpc := 17) (ct := 15) (z := 2) (v := 2) hG rfl (by decide) (fun q => (fun hq => (List.mem_cons.mp hq).elim (fun e => e ▸ ⟨by decide, "java/lang/IndexOutOfBoundsException", by decide, by decide, cl_L_13⟩) (fun hq => nomatch hq))) rfl (by decide) cl_L_15 (Or.inr ⟨4, dL_store_17, by decide, rfl⟩) dL_store_19 (by decide) dL_store_20 (Nat.le_of_ble_eq_true rfl) (Nat.le_of_ble_eq_true rfl) hx
  · replace h := h9
    clear h9
    refine V_i2l hG dL_store_8 ?_
    obtain ⟨u4, he, h⟩ := h
    subst he
    obtain ⟨ha, j5, hi, hj, h⟩ := h
    refine V_last hG dL_store_9 ha hi hj ?_
    refine V_goto (tgt := 21) hG dL_store_10 (by decide) ?_
    refine V_iconst (v := 0) hG (by decide) dL_store_21 ?_
    exact V_iret hG dL_store_22 (by first | exact Nat.le_of_ble_eq_true rfl | omega | (dsimp only; omega)) (by first | exact Nat.le_of_ble_eq_true rfl | omega | (dsimp only; omega)) h
def wp_L_queue (a0 : Option Nat) (a1 : Int32) (a2 : Option Nat) (σ : Sg) (Post : Rs → Sg → Prop) : Prop := ∃ u1, a0 = some u1 ∧ u1 % 32 = 9 ∧ wp_X9_queue u1 a1 σ (KI (fun x3 σ2 => ∃ u4, a2 = some u4 ∧ aty (u4 % 32) = some .long ∧ ∃ j5, (0 : Int32) = nI j5 ∧ j5 < aln u4 ∧ Post (.inl (some (.int (0 : Int32)))) (wL σ2 u4 j5 (Int32.toInt64 x3))) (fun E σ2 => (E = "java/lang/IndexOutOfBoundsException" ∧ Post (.inl (some (.int 1))) σ2)))
set_option maxRecDepth 100000 in
set_option maxHeartbeats 4000000 in
theorem ct_L_queue {l : Launch} (hl : l.stackTraces = false) {a0 : Option Nat} {a1 : Int32} {a2 : Option Nat} {σ : Sg} {Post : Rs → Sg → Prop} (h : wp_L_queue a0 a1 a2 σ Post) : Ct l yL_queue (.codeWith yL_queue cL_queue 4 (some .int) [(0, 9, 12, 13)]) 8 124 1 6 [va_rf a0, .int a1, va_rf a2] σ Post := by
  refine Ct_ofH [some (va_rf a0), some (.int a1), some (va_rf a2), none] hl (by decide +kernel) rfl (fun ad => by cases a0 <;> cases a2 <;> rfl) (fun ad => by cases a0 <;> cases a2 <;> exact Nat.le_of_ble_eq_true rfl) (fun v hv => mem_lo hv rfl) ?_
  intro G hG
  unfold wp_L_queue at h
  refine V_aload_n (v := va_rf a2) hG dL_queue_0 (isRef_rf _) rfl ?_
  refine V_iconst (v := 0) hG (by decide) dL_queue_1 ?_
  refine V_aload_n (v := va_rf a0) hG dL_queue_2 (isRef_rf _) rfl ?_
  refine V_iload_n hG dL_queue_3 rfl ?_
  obtain ⟨u1, he, h⟩ := h
  subst he
  obtain ⟨ht, h⟩ := h
  refine V_cVI _ _ hG dL_queue_4 (ct_X9_queue hl h) mv_X9_queue ml_L_100 ht rfl rfl rfl rfl (by first | exact Nat.le_of_ble_eq_true rfl | (simp only [List.map_cons, List.map_nil, List.sum_cons, List.sum_nil, cat_rf]; exact Nat.le_of_ble_eq_true rfl)) (Nat.le_of_ble_eq_true rfl) (Nat.le_of_ble_eq_true rfl) (by first | exact Nat.le_of_ble_eq_true rfl | omega | (dsimp only; omega)) (by first | exact Nat.le_of_ble_eq_true rfl | omega | (dsimp only; omega)) ?_ (fun x3 σ2 h9 => ?_)
  · intro E σ2 hx
    obtain ⟨rfl, hx⟩ := hx
    exact VX_catch (pre := []) (suf := []) (a9 := 0) (b9 := 9) (hpc := 12) (ct := 13) (z := 1) (v := 1) hG rfl (by decide) (fun q => (fun hq => nomatch hq)) rfl (by decide) cl_L_13 (Or.inl ⟨3, dL_queue_12, by decide, rfl⟩) dL_queue_13 (by decide) dL_queue_14 (Nat.le_of_ble_eq_true rfl) (Nat.le_of_ble_eq_true rfl) hx
  · replace h := h9
    clear h9
    refine V_i2l hG dL_queue_7 ?_
    obtain ⟨u4, he, h⟩ := h
    subst he
    obtain ⟨ha, j5, hi, hj, h⟩ := h
    refine V_last hG dL_queue_8 ha hi hj ?_
    refine V_goto (tgt := 15) hG dL_queue_9 (by decide) ?_
    refine V_iconst (v := 0) hG (by decide) dL_queue_15 ?_
    exact V_iret hG dL_queue_16 (by first | exact Nat.le_of_ble_eq_true rfl | omega | (dsimp only; omega)) (by first | exact Nat.le_of_ble_eq_true rfl | omega | (dsimp only; omega)) h
def wp_L_queued (a0 : Option Nat) (a1 : Int32) (a2 : Int32) (a3 : Option Nat) (σ : Sg) (Post : Rs → Sg → Prop) : Prop := ∃ u1, a0 = some u1 ∧ u1 % 32 = 9 ∧ wp_X9_queued u1 a1 a2 σ (KI (fun x3 σ2 => ∃ u4, a3 = some u4 ∧ aty (u4 % 32) = some .long ∧ ∃ j5, (0 : Int32) = nI j5 ∧ j5 < aln u4 ∧ Post (.inl (some (.int (0 : Int32)))) (wL σ2 u4 j5 (Int32.toInt64 x3))) (fun E σ2 => (E = "java/lang/IndexOutOfBoundsException" ∧ Post (.inl (some (.int 1))) σ2) ∨ (E = "java/lang/IllegalArgumentException" ∧ Post (.inl (some (.int 2))) σ2)))
set_option maxRecDepth 100000 in
set_option maxHeartbeats 4000000 in
theorem ct_L_queued {l : Launch} (hl : l.stackTraces = false) {a0 : Option Nat} {a1 : Int32} {a2 : Int32} {a3 : Option Nat} {σ : Sg} {Post : Rs → Sg → Prop} (h : wp_L_queued a0 a1 a2 a3 σ Post) : Ct l yL_queued (.codeWith yL_queued cL_queued 5 (some .int) [(0, 10, 13, 13), (0, 10, 17, 15)]) 8 125 2 12 [va_rf a0, .int a1, .int a2, va_rf a3] σ Post := by
  refine Ct_ofH [some (va_rf a0), some (.int a1), some (.int a2), some (va_rf a3), none] hl (by decide +kernel) rfl (fun ad => by cases a0 <;> cases a3 <;> rfl) (fun ad => by cases a0 <;> cases a3 <;> exact Nat.le_of_ble_eq_true rfl) (fun v hv => mem_lo hv rfl) ?_
  intro G hG
  unfold wp_L_queued at h
  refine V_aload_n (v := va_rf a3) hG dL_queued_0 (isRef_rf _) rfl ?_
  refine V_iconst (v := 0) hG (by decide) dL_queued_1 ?_
  refine V_aload_n (v := va_rf a0) hG dL_queued_2 (isRef_rf _) rfl ?_
  refine V_iload_n hG dL_queued_3 rfl ?_
  refine V_iload_n hG dL_queued_4 rfl ?_
  obtain ⟨u1, he, h⟩ := h
  subst he
  obtain ⟨ht, h⟩ := h
  refine V_cVI _ _ hG dL_queued_5 (ct_X9_queued hl h) mv_X9_queued ml_L_103 ht rfl rfl rfl rfl (by first | exact Nat.le_of_ble_eq_true rfl | (simp only [List.map_cons, List.map_nil, List.sum_cons, List.sum_nil, cat_rf]; exact Nat.le_of_ble_eq_true rfl)) (Nat.le_of_ble_eq_true rfl) (Nat.le_of_ble_eq_true rfl) (by first | exact Nat.le_of_ble_eq_true rfl | omega | (dsimp only; omega)) (by first | exact Nat.le_of_ble_eq_true rfl | omega | (dsimp only; omega)) ?_ (fun x3 σ2 h9 => ?_)
  · intro E σ2 hx
    rcases hx with ⟨rfl, hx⟩ | ⟨rfl, hx⟩
    · exact VX_catch (pre := []) (suf := [(0, 10, 17, 15)]) (a9 := 0) (b9 := 10) (hpc := 13) (ct := 13) (z := 1) (v := 1) hG rfl (by decide) (fun q => (fun hq => nomatch hq)) rfl (by decide) cl_L_13 (Or.inr ⟨4, dL_queued_13, by decide, rfl⟩) dL_queued_15 (by decide) dL_queued_16 (Nat.le_of_ble_eq_true rfl) (Nat.le_of_ble_eq_true rfl) hx
    · exact VX_catch (pre := [(0, 10, 13, 13)]) (suf := []) (a9 := 0) (b9 := 10) (hpc := 17) (ct := 15) (z := 2) (v := 2) hG rfl (by decide) (fun q => (fun hq => (List.mem_cons.mp hq).elim (fun e => e ▸ ⟨by decide, "java/lang/IndexOutOfBoundsException", by decide, by decide, cl_L_13⟩) (fun hq => nomatch hq))) rfl (by decide) cl_L_15 (Or.inr ⟨4, dL_queued_17, by decide, rfl⟩) dL_queued_19 (by decide) dL_queued_20 (Nat.le_of_ble_eq_true rfl) (Nat.le_of_ble_eq_true rfl) hx
  · replace h := h9
    clear h9
    refine V_i2l hG dL_queued_8 ?_
    obtain ⟨u4, he, h⟩ := h
    subst he
    obtain ⟨ha, j5, hi, hj, h⟩ := h
    refine V_last hG dL_queued_9 ha hi hj ?_
    refine V_goto (tgt := 21) hG dL_queued_10 (by decide) ?_
    refine V_iconst (v := 0) hG (by decide) dL_queued_21 ?_
    exact V_iret hG dL_queued_22 (by first | exact Nat.le_of_ble_eq_true rfl | omega | (dsimp only; omega)) (by first | exact Nat.le_of_ble_eq_true rfl | omega | (dsimp only; omega)) h
def wp_L_told (a0 : Option Nat) (a1 : Int32) (a2 : Int32) (a3 : Option Nat) (σ : Sg) (Post : Rs → Sg → Prop) : Prop := ∃ u1, a0 = some u1 ∧ u1 % 32 = 9 ∧ wp_X9_told u1 a1 a2 σ (KI (fun x3 σ2 => ∃ u4, a3 = some u4 ∧ aty (u4 % 32) = some .long ∧ ∃ j5, (0 : Int32) = nI j5 ∧ j5 < aln u4 ∧ Post (.inl (some (.int (0 : Int32)))) (wL σ2 u4 j5 (Int32.toInt64 x3))) (fun E σ2 => (E = "java/lang/IndexOutOfBoundsException" ∧ Post (.inl (some (.int 1))) σ2) ∨ (E = "java/lang/IllegalArgumentException" ∧ Post (.inl (some (.int 2))) σ2)))
set_option maxRecDepth 100000 in
set_option maxHeartbeats 4000000 in
theorem ct_L_told {l : Launch} (hl : l.stackTraces = false) {a0 : Option Nat} {a1 : Int32} {a2 : Int32} {a3 : Option Nat} {σ : Sg} {Post : Rs → Sg → Prop} (h : wp_L_told a0 a1 a2 a3 σ Post) : Ct l yL_told (.codeWith yL_told cL_told 5 (some .int) [(0, 10, 13, 13), (0, 10, 17, 15)]) 9 147 2 12 [va_rf a0, .int a1, .int a2, va_rf a3] σ Post := by
  refine Ct_ofH [some (va_rf a0), some (.int a1), some (.int a2), some (va_rf a3), none] hl (by decide +kernel) rfl (fun ad => by cases a0 <;> cases a3 <;> rfl) (fun ad => by cases a0 <;> cases a3 <;> exact Nat.le_of_ble_eq_true rfl) (fun v hv => mem_lo hv rfl) ?_
  intro G hG
  unfold wp_L_told at h
  refine V_aload_n (v := va_rf a3) hG dL_told_0 (isRef_rf _) rfl ?_
  refine V_iconst (v := 0) hG (by decide) dL_told_1 ?_
  refine V_aload_n (v := va_rf a0) hG dL_told_2 (isRef_rf _) rfl ?_
  refine V_iload_n hG dL_told_3 rfl ?_
  refine V_iload_n hG dL_told_4 rfl ?_
  obtain ⟨u1, he, h⟩ := h
  subst he
  obtain ⟨ht, h⟩ := h
  refine V_cVI _ _ hG dL_told_5 (ct_X9_told hl h) mv_X9_told ml_L_106 ht rfl rfl rfl rfl (by first | exact Nat.le_of_ble_eq_true rfl | (simp only [List.map_cons, List.map_nil, List.sum_cons, List.sum_nil, cat_rf]; exact Nat.le_of_ble_eq_true rfl)) (Nat.le_of_ble_eq_true rfl) (Nat.le_of_ble_eq_true rfl) (by first | exact Nat.le_of_ble_eq_true rfl | omega | (dsimp only; omega)) (by first | exact Nat.le_of_ble_eq_true rfl | omega | (dsimp only; omega)) ?_ (fun x3 σ2 h9 => ?_)
  · intro E σ2 hx
    rcases hx with ⟨rfl, hx⟩ | ⟨rfl, hx⟩
    · exact VX_catch (pre := []) (suf := [(0, 10, 17, 15)]) (a9 := 0) (b9 := 10) (hpc := 13) (ct := 13) (z := 1) (v := 1) hG rfl (by decide) (fun q => (fun hq => nomatch hq)) rfl (by decide) cl_L_13 (Or.inr ⟨4, dL_told_13, by decide, rfl⟩) dL_told_15 (by decide) dL_told_16 (Nat.le_of_ble_eq_true rfl) (Nat.le_of_ble_eq_true rfl) hx
    · exact VX_catch (pre := [(0, 10, 13, 13)]) (suf := []) (a9 := 0) (b9 := 10) (hpc := 17) (ct := 15) (z := 2) (v := 2) hG rfl (by decide) (fun q => (fun hq => (List.mem_cons.mp hq).elim (fun e => e ▸ ⟨by decide, "java/lang/IndexOutOfBoundsException", by decide, by decide, cl_L_13⟩) (fun hq => nomatch hq))) rfl (by decide) cl_L_15 (Or.inr ⟨4, dL_told_17, by decide, rfl⟩) dL_told_19 (by decide) dL_told_20 (Nat.le_of_ble_eq_true rfl) (Nat.le_of_ble_eq_true rfl) hx
  · replace h := h9
    clear h9
    refine V_i2l hG dL_told_8 ?_
    obtain ⟨u4, he, h⟩ := h
    subst he
    obtain ⟨ha, j5, hi, hj, h⟩ := h
    refine V_last hG dL_told_9 ha hi hj ?_
    refine V_goto (tgt := 21) hG dL_told_10 (by decide) ?_
    refine V_iconst (v := 0) hG (by decide) dL_told_21 ?_
    exact V_iret hG dL_told_22 (by first | exact Nat.le_of_ble_eq_true rfl | omega | (dsimp only; omega)) (by first | exact Nat.le_of_ble_eq_true rfl | omega | (dsimp only; omega)) h
def wp_L_why (a0 : Option Nat) (a1 : Int32) (a2 : Int32) (a3 : Option Nat) (σ : Sg) (Post : Rs → Sg → Prop) : Prop := ∃ u1, a0 = some u1 ∧ u1 % 32 = 9 ∧ wp_X9_why u1 a1 a2 σ (KI (fun x3 σ2 => ∃ u4, a3 = some u4 ∧ aty (u4 % 32) = some .long ∧ ∃ j5, (0 : Int32) = nI j5 ∧ j5 < aln u4 ∧ Post (.inl (some (.int (0 : Int32)))) (wL σ2 u4 j5 (Int32.toInt64 x3))) (fun E σ2 => (E = "java/lang/IndexOutOfBoundsException" ∧ Post (.inl (some (.int 1))) σ2)))
set_option maxRecDepth 100000 in
set_option maxHeartbeats 4000000 in
theorem ct_L_why {l : Launch} (hl : l.stackTraces = false) {a0 : Option Nat} {a1 : Int32} {a2 : Int32} {a3 : Option Nat} {σ : Sg} {Post : Rs → Sg → Prop} (h : wp_L_why a0 a1 a2 a3 σ Post) : Ct l yL_why (.codeWith yL_why cL_why 5 (some .int) [(0, 10, 13, 13)]) 9 147 2 12 [va_rf a0, .int a1, .int a2, va_rf a3] σ Post := by
  refine Ct_ofH [some (va_rf a0), some (.int a1), some (.int a2), some (va_rf a3), none] hl (by decide +kernel) rfl (fun ad => by cases a0 <;> cases a3 <;> rfl) (fun ad => by cases a0 <;> cases a3 <;> exact Nat.le_of_ble_eq_true rfl) (fun v hv => mem_lo hv rfl) ?_
  intro G hG
  unfold wp_L_why at h
  refine V_aload_n (v := va_rf a3) hG dL_why_0 (isRef_rf _) rfl ?_
  refine V_iconst (v := 0) hG (by decide) dL_why_1 ?_
  refine V_aload_n (v := va_rf a0) hG dL_why_2 (isRef_rf _) rfl ?_
  refine V_iload_n hG dL_why_3 rfl ?_
  refine V_iload_n hG dL_why_4 rfl ?_
  obtain ⟨u1, he, h⟩ := h
  subst he
  obtain ⟨ht, h⟩ := h
  refine V_cVI _ _ hG dL_why_5 (ct_X9_why hl h) mv_X9_why ml_L_109 ht rfl rfl rfl rfl (by first | exact Nat.le_of_ble_eq_true rfl | (simp only [List.map_cons, List.map_nil, List.sum_cons, List.sum_nil, cat_rf]; exact Nat.le_of_ble_eq_true rfl)) (Nat.le_of_ble_eq_true rfl) (Nat.le_of_ble_eq_true rfl) (by first | exact Nat.le_of_ble_eq_true rfl | omega | (dsimp only; omega)) (by first | exact Nat.le_of_ble_eq_true rfl | omega | (dsimp only; omega)) ?_ (fun x3 σ2 h9 => ?_)
  · intro E σ2 hx
    obtain ⟨rfl, hx⟩ := hx
    exact VX_catch (pre := []) (suf := []) (a9 := 0) (b9 := 10) (hpc := 13) (ct := 13) (z := 1) (v := 1) hG rfl (by decide) (fun q => (fun hq => nomatch hq)) rfl (by decide) cl_L_13 (Or.inr ⟨4, dL_why_13, by decide, rfl⟩) dL_why_15 (by decide) dL_why_16 (Nat.le_of_ble_eq_true rfl) (Nat.le_of_ble_eq_true rfl) hx
  · replace h := h9
    clear h9
    refine V_i2l hG dL_why_8 ?_
    obtain ⟨u4, he, h⟩ := h
    subst he
    obtain ⟨ha, j5, hi, hj, h⟩ := h
    refine V_last hG dL_why_9 ha hi hj ?_
    refine V_goto (tgt := 17) hG dL_why_10 (by decide) ?_
    refine V_iconst (v := 0) hG (by decide) dL_why_17 ?_
    exact V_iret hG dL_why_18 (by first | exact Nat.le_of_ble_eq_true rfl | omega | (dsimp only; omega)) (by first | exact Nat.le_of_ble_eq_true rfl | omega | (dsimp only; omega)) h
def wp_L_latest (a0 : Option Nat) (a1 : Int32) (a2 : Int32) (a3 : Option Nat) (σ : Sg) (Post : Rs → Sg → Prop) : Prop := ∃ u1, a0 = some u1 ∧ u1 % 32 = 9 ∧ wp_X9_latest u1 a1 a2 σ (KI (fun x3 σ2 => ∃ u4, a3 = some u4 ∧ aty (u4 % 32) = some .long ∧ ∃ j5, (0 : Int32) = nI j5 ∧ j5 < aln u4 ∧ Post (.inl (some (.int (0 : Int32)))) (wL σ2 u4 j5 (Int32.toInt64 x3))) (fun E σ2 => (E = "java/lang/IndexOutOfBoundsException" ∧ Post (.inl (some (.int 1))) σ2) ∨ (E = "java/lang/IllegalArgumentException" ∧ Post (.inl (some (.int 2))) σ2) ∨ (E = "java/lang/IllegalStateException" ∧ Post (.inl (some (.int 3))) σ2)))
set_option maxRecDepth 100000 in
set_option maxHeartbeats 4000000 in
theorem ct_L_latest {l : Launch} (hl : l.stackTraces = false) {a0 : Option Nat} {a1 : Int32} {a2 : Int32} {a3 : Option Nat} {σ : Sg} {Post : Rs → Sg → Prop} (h : wp_L_latest a0 a1 a2 a3 σ Post) : Ct l yL_latest (.codeWith yL_latest cL_latest 5 (some .int) [(0, 10, 13, 13), (0, 10, 17, 15), (0, 10, 21, 17)]) 9 147 3 18 [va_rf a0, .int a1, .int a2, va_rf a3] σ Post := by
  refine Ct_ofH [some (va_rf a0), some (.int a1), some (.int a2), some (va_rf a3), none] hl (by decide +kernel) rfl (fun ad => by cases a0 <;> cases a3 <;> rfl) (fun ad => by cases a0 <;> cases a3 <;> exact Nat.le_of_ble_eq_true rfl) (fun v hv => mem_lo hv rfl) ?_
  intro G hG
  unfold wp_L_latest at h
  refine V_aload_n (v := va_rf a3) hG dL_latest_0 (isRef_rf _) rfl ?_
  refine V_iconst (v := 0) hG (by decide) dL_latest_1 ?_
  refine V_aload_n (v := va_rf a0) hG dL_latest_2 (isRef_rf _) rfl ?_
  refine V_iload_n hG dL_latest_3 rfl ?_
  refine V_iload_n hG dL_latest_4 rfl ?_
  obtain ⟨u1, he, h⟩ := h
  subst he
  obtain ⟨ht, h⟩ := h
  refine V_cVI _ _ hG dL_latest_5 (ct_X9_latest hl h) mv_X9_latest ml_L_112 ht rfl rfl rfl rfl (by first | exact Nat.le_of_ble_eq_true rfl | (simp only [List.map_cons, List.map_nil, List.sum_cons, List.sum_nil, cat_rf]; exact Nat.le_of_ble_eq_true rfl)) (Nat.le_of_ble_eq_true rfl) (Nat.le_of_ble_eq_true rfl) (by first | exact Nat.le_of_ble_eq_true rfl | omega | (dsimp only; omega)) (by first | exact Nat.le_of_ble_eq_true rfl | omega | (dsimp only; omega)) ?_ (fun x3 σ2 h9 => ?_)
  · intro E σ2 hx
    rcases hx with ⟨rfl, hx⟩ | ⟨rfl, hx⟩ | ⟨rfl, hx⟩
    · exact VX_catch (pre := []) (suf := [(0, 10, 17, 15), (0, 10, 21, 17)]) (a9 := 0) (b9 := 10) (hpc := 13) (ct := 13) (z := 1) (v := 1) hG rfl (by decide) (fun q => (fun hq => nomatch hq)) rfl (by decide) cl_L_13 (Or.inr ⟨4, dL_latest_13, by decide, rfl⟩) dL_latest_15 (by decide) dL_latest_16 (Nat.le_of_ble_eq_true rfl) (Nat.le_of_ble_eq_true rfl) hx
    · exact VX_catch (pre := [(0, 10, 13, 13)]) (suf := [(0, 10, 21, 17)]) (a9 := 0) (b9 := 10) (hpc := 17) (ct := 15) (z := 2) (v := 2) hG rfl (by decide) (fun q => (fun hq => (List.mem_cons.mp hq).elim (fun e => e ▸ ⟨by decide, "java/lang/IndexOutOfBoundsException", by decide, by decide, cl_L_13⟩) (fun hq => nomatch hq))) rfl (by decide) cl_L_15 (Or.inr ⟨4, dL_latest_17, by decide, rfl⟩) dL_latest_19 (by decide) dL_latest_20 (Nat.le_of_ble_eq_true rfl) (Nat.le_of_ble_eq_true rfl) hx
    · exact VX_catch (pre := [(0, 10, 13, 13), (0, 10, 17, 15)]) (suf := []) (a9 := 0) (b9 := 10) (hpc := 21) (ct := 17) (z := 3) (v := 3) hG rfl (by decide) (fun q => (fun hq => (List.mem_cons.mp hq).elim (fun e => e ▸ ⟨by decide, "java/lang/IndexOutOfBoundsException", by decide, by decide, cl_L_13⟩) (fun hq => (List.mem_cons.mp hq).elim (fun e => e ▸ ⟨by decide, "java/lang/IllegalArgumentException", by decide, by decide, cl_L_15⟩) (fun hq => nomatch hq)))) rfl (by decide) cl_L_17 (Or.inr ⟨4, dL_latest_21, by decide, rfl⟩) dL_latest_23 (by decide) dL_latest_24 (Nat.le_of_ble_eq_true rfl) (Nat.le_of_ble_eq_true rfl) hx
  · replace h := h9
    clear h9
    refine V_i2l hG dL_latest_8 ?_
    obtain ⟨u4, he, h⟩ := h
    subst he
    obtain ⟨ha, j5, hi, hj, h⟩ := h
    refine V_last hG dL_latest_9 ha hi hj ?_
    refine V_goto (tgt := 25) hG dL_latest_10 (by decide) ?_
    refine V_iconst (v := 0) hG (by decide) dL_latest_25 ?_
    exact V_iret hG dL_latest_26 (by first | exact Nat.le_of_ble_eq_true rfl | omega | (dsimp only; omega)) (by first | exact Nat.le_of_ble_eq_true rfl | omega | (dsimp only; omega)) h
def wp_L_earliest (a0 : Option Nat) (a1 : Int32) (a2 : Option Nat) (σ : Sg) (Post : Rs → Sg → Prop) : Prop := ∃ u1, a0 = some u1 ∧ u1 % 32 = 9 ∧ wp_X9_earliest u1 a1 σ (KI (fun x3 σ2 => ∃ u4, a2 = some u4 ∧ aty (u4 % 32) = some .long ∧ ∃ j5, (0 : Int32) = nI j5 ∧ j5 < aln u4 ∧ Post (.inl (some (.int (0 : Int32)))) (wL σ2 u4 j5 (Int32.toInt64 x3))) (fun E σ2 => (E = "java/lang/IndexOutOfBoundsException" ∧ Post (.inl (some (.int 1))) σ2) ∨ (E = "java/lang/IllegalStateException" ∧ Post (.inl (some (.int 2))) σ2)))
set_option maxRecDepth 100000 in
set_option maxHeartbeats 4000000 in
theorem ct_L_earliest {l : Launch} (hl : l.stackTraces = false) {a0 : Option Nat} {a1 : Int32} {a2 : Option Nat} {σ : Sg} {Post : Rs → Sg → Prop} (h : wp_L_earliest a0 a1 a2 σ Post) : Ct l yL_earliest (.codeWith yL_earliest cL_earliest 4 (some .int) [(0, 9, 12, 13), (0, 9, 15, 17)]) 9 145 2 12 [va_rf a0, .int a1, va_rf a2] σ Post := by
  refine Ct_ofH [some (va_rf a0), some (.int a1), some (va_rf a2), none] hl (by decide +kernel) rfl (fun ad => by cases a0 <;> cases a2 <;> rfl) (fun ad => by cases a0 <;> cases a2 <;> exact Nat.le_of_ble_eq_true rfl) (fun v hv => mem_lo hv rfl) ?_
  intro G hG
  unfold wp_L_earliest at h
  refine V_aload_n (v := va_rf a2) hG dL_earliest_0 (isRef_rf _) rfl ?_
  refine V_iconst (v := 0) hG (by decide) dL_earliest_1 ?_
  refine V_aload_n (v := va_rf a0) hG dL_earliest_2 (isRef_rf _) rfl ?_
  refine V_iload_n hG dL_earliest_3 rfl ?_
  obtain ⟨u1, he, h⟩ := h
  subst he
  obtain ⟨ht, h⟩ := h
  refine V_cVI _ _ hG dL_earliest_4 (ct_X9_earliest hl h) mv_X9_earliest ml_L_115 ht rfl rfl rfl rfl (by first | exact Nat.le_of_ble_eq_true rfl | (simp only [List.map_cons, List.map_nil, List.sum_cons, List.sum_nil, cat_rf]; exact Nat.le_of_ble_eq_true rfl)) (Nat.le_of_ble_eq_true rfl) (Nat.le_of_ble_eq_true rfl) (by first | exact Nat.le_of_ble_eq_true rfl | omega | (dsimp only; omega)) (by first | exact Nat.le_of_ble_eq_true rfl | omega | (dsimp only; omega)) ?_ (fun x3 σ2 h9 => ?_)
  · intro E σ2 hx
    rcases hx with ⟨rfl, hx⟩ | ⟨rfl, hx⟩
    · exact VX_catch (pre := []) (suf := [(0, 9, 15, 17)]) (a9 := 0) (b9 := 9) (hpc := 12) (ct := 13) (z := 1) (v := 1) hG rfl (by decide) (fun q => (fun hq => nomatch hq)) rfl (by decide) cl_L_13 (Or.inl ⟨3, dL_earliest_12, by decide, rfl⟩) dL_earliest_13 (by decide) dL_earliest_14 (Nat.le_of_ble_eq_true rfl) (Nat.le_of_ble_eq_true rfl) hx
    · exact VX_catch (pre := [(0, 9, 12, 13)]) (suf := []) (a9 := 0) (b9 := 9) (hpc := 15) (ct := 17) (z := 2) (v := 2) hG rfl (by decide) (fun q => (fun hq => (List.mem_cons.mp hq).elim (fun e => e ▸ ⟨by decide, "java/lang/IndexOutOfBoundsException", by decide, by decide, cl_L_13⟩) (fun hq => nomatch hq))) rfl (by decide) cl_L_17 (Or.inl ⟨3, dL_earliest_15, by decide, rfl⟩) dL_earliest_16 (by decide) dL_earliest_17 (Nat.le_of_ble_eq_true rfl) (Nat.le_of_ble_eq_true rfl) hx
  · replace h := h9
    clear h9
    refine V_i2l hG dL_earliest_7 ?_
    obtain ⟨u4, he, h⟩ := h
    subst he
    obtain ⟨ha, j5, hi, hj, h⟩ := h
    refine V_last hG dL_earliest_8 ha hi hj ?_
    refine V_goto (tgt := 18) hG dL_earliest_9 (by decide) ?_
    refine V_iconst (v := 0) hG (by decide) dL_earliest_18 ?_
    exact V_iret hG dL_earliest_19 (by first | exact Nat.le_of_ble_eq_true rfl | omega | (dsimp only; omega)) (by first | exact Nat.le_of_ble_eq_true rfl | omega | (dsimp only; omega)) h
def wp_L_ledger (a0 : Option Nat) (a1 : Int32) (a2 : Option Nat) (σ : Sg) (Post : Rs → Sg → Prop) : Prop := ∃ u1, a0 = some u1 ∧ u1 % 32 = 9 ∧ wp_X9_ledger u1 a1 σ (KI (fun x3 σ2 => ∃ u4, a2 = some u4 ∧ aty (u4 % 32) = some .long ∧ ∃ j5, (0 : Int32) = nI j5 ∧ j5 < aln u4 ∧ Post (.inl (some (.int (0 : Int32)))) (wL σ2 u4 j5 (Int32.toInt64 x3))) (fun E σ2 => (E = "java/lang/IllegalArgumentException" ∧ Post (.inl (some (.int 1))) σ2)))
set_option maxRecDepth 100000 in
set_option maxHeartbeats 4000000 in
theorem ct_L_ledger {l : Launch} (hl : l.stackTraces = false) {a0 : Option Nat} {a1 : Int32} {a2 : Option Nat} {σ : Sg} {Post : Rs → Sg → Prop} (h : wp_L_ledger a0 a1 a2 σ Post) : Ct l yL_ledger (.codeWith yL_ledger cL_ledger 4 (some .int) [(0, 9, 12, 15)]) 9 145 1 6 [va_rf a0, .int a1, va_rf a2] σ Post := by
  refine Ct_ofH [some (va_rf a0), some (.int a1), some (va_rf a2), none] hl (by decide +kernel) rfl (fun ad => by cases a0 <;> cases a2 <;> rfl) (fun ad => by cases a0 <;> cases a2 <;> exact Nat.le_of_ble_eq_true rfl) (fun v hv => mem_lo hv rfl) ?_
  intro G hG
  unfold wp_L_ledger at h
  refine V_aload_n (v := va_rf a2) hG dL_ledger_0 (isRef_rf _) rfl ?_
  refine V_iconst (v := 0) hG (by decide) dL_ledger_1 ?_
  refine V_aload_n (v := va_rf a0) hG dL_ledger_2 (isRef_rf _) rfl ?_
  refine V_iload_n hG dL_ledger_3 rfl ?_
  obtain ⟨u1, he, h⟩ := h
  subst he
  obtain ⟨ht, h⟩ := h
  refine V_cVI _ _ hG dL_ledger_4 (ct_X9_ledger hl h) mv_X9_ledger ml_L_118 ht rfl rfl rfl rfl (by first | exact Nat.le_of_ble_eq_true rfl | (simp only [List.map_cons, List.map_nil, List.sum_cons, List.sum_nil, cat_rf]; exact Nat.le_of_ble_eq_true rfl)) (Nat.le_of_ble_eq_true rfl) (Nat.le_of_ble_eq_true rfl) (by first | exact Nat.le_of_ble_eq_true rfl | omega | (dsimp only; omega)) (by first | exact Nat.le_of_ble_eq_true rfl | omega | (dsimp only; omega)) ?_ (fun x3 σ2 h9 => ?_)
  · intro E σ2 hx
    obtain ⟨rfl, hx⟩ := hx
    exact VX_catch (pre := []) (suf := []) (a9 := 0) (b9 := 9) (hpc := 12) (ct := 15) (z := 1) (v := 1) hG rfl (by decide) (fun q => (fun hq => nomatch hq)) rfl (by decide) cl_L_15 (Or.inl ⟨3, dL_ledger_12, by decide, rfl⟩) dL_ledger_13 (by decide) dL_ledger_14 (Nat.le_of_ble_eq_true rfl) (Nat.le_of_ble_eq_true rfl) hx
  · replace h := h9
    clear h9
    refine V_i2l hG dL_ledger_7 ?_
    obtain ⟨u4, he, h⟩ := h
    subst he
    obtain ⟨ha, j5, hi, hj, h⟩ := h
    refine V_last hG dL_ledger_8 ha hi hj ?_
    refine V_goto (tgt := 15) hG dL_ledger_9 (by decide) ?_
    refine V_iconst (v := 0) hG (by decide) dL_ledger_15 ?_
    exact V_iret hG dL_ledger_16 (by first | exact Nat.le_of_ble_eq_true rfl | omega | (dsimp only; omega)) (by first | exact Nat.le_of_ble_eq_true rfl | omega | (dsimp only; omega)) h
