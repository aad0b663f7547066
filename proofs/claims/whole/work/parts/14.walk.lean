/-! Walks, by program. -/
def wp_X10_takeKind_109 (K6 : Nat → Int32 → Int32 → Int32 → Int32 → Sg → Prop) (this : Nat) (v1 : Int32) (v3 : Int32) (v4 : Int32) (v5 : Int32) (σ : Sg) (Post : Rs → Sg → Prop) : Prop := (K6 this v1 v3 v4 (v5 + 1) σ)
set_option maxRecDepth 100000 in
set_option maxHeartbeats 4000000 in
theorem wv_X10_takeKind_109 {L9 : Launch} {G : Cx} {Post : Rs → Sg → Prop} (hl : L9.stackTraces = false) (hG : CX L9 G yX10_takeKind cX10_takeKind 7 none [] { frames := 2, cells := 0, slots := 0, locals := 47 }) {K6 : Nat → Int32 → Int32 → Int32 → Int32 → Sg → Prop} (hK6 : ∀ (this : Nat) (v1 : Int32) (v3 : Int32) (v4 : Int32) (v5 : Int32) (ζ : Sg), K6 this v1 v3 v4 v5 ζ → V G (QM G 0 0 Post) 6 [some (.ref this), some (.int v1), none, some (.int v3), some (.int v4), some (.int v5), none] [] ζ 0 0) : ∀ (this : Nat) (v1 : Int32) (v3 : Int32) (v4 : Int32) (v5 : Int32) (σ : Sg), wp_X10_takeKind_109 K6 this v1 v3 v4 v5 σ Post → V G (QM G 0 0 Post) 109 [some (.ref this), some (.int v1), none, some (.int v3), some (.int v4), some (.int v5), none] [] σ 0 0 := by
  intro this v1 v3 v4 v5 σ h
  unfold wp_X10_takeKind_109 at h
  refine V_iincv (c := 1) hG dX10_takeKind_109 rfl (by decide) (hpV rfl rfl) ?_
  refine V_goto (tgt := 6) hG dX10_takeKind_112 (by decide) ?_
  refine V_forget (lo' := [some (.ref this), some (.int v1), none, some (.int v3), some (.int v4), some (.int (v5 + 1)), none]) ⟨rfl, ⟨rfl, ⟨rfl, ⟨rfl, ⟨rfl, trivial⟩⟩⟩⟩⟩ ?_
  exact hK6 _ _ _ _ _ _ h
def wp_X10_takeKind_66 (K6 : Nat → Int32 → Int32 → Int32 → Int32 → Sg → Prop) (this : Nat) (v1 : Int32) (v3 : Int32) (v4 : Int32) (v5 : Int32) (s0 : Int32) (σ : Sg) (Post : Rs → Sg → Prop) : Prop := ((¬ v3 = (-1 : Int32) → this % 32 = 10 ∧ wp_X10_takeFrom this v5 s0 v3 σ (KV (fun σ1 => (wp_X10_takeKind_109 K6 this v1 v3 (v4 - s0) v5 σ1 Post)) (fun E σ1 => Post (.inr E) σ1))) ∧ (v3 = (-1 : Int32) → this % 32 = 10 ∧ this % 32 = 10 ∧ wp_X10_costOf this v5 s0 σ (KI (fun x3 σ2 => this % 32 = 10 ∧ (wp_X10_takeKind_109 K6 this v1 v3 (v4 - s0) v5 (wI σ2 this 58 ((sI σ this 58) + x3)) Post)) (fun E σ2 => Post (.inr E) σ2))))
set_option maxRecDepth 100000 in
set_option maxHeartbeats 4000000 in
theorem wv_X10_takeKind_66 {L9 : Launch} {G : Cx} {Post : Rs → Sg → Prop} (hl : L9.stackTraces = false) (hG : CX L9 G yX10_takeKind cX10_takeKind 7 none [] { frames := 2, cells := 0, slots := 0, locals := 47 }) {K6 : Nat → Int32 → Int32 → Int32 → Int32 → Sg → Prop} (hK6 : ∀ (this : Nat) (v1 : Int32) (v3 : Int32) (v4 : Int32) (v5 : Int32) (ζ : Sg), K6 this v1 v3 v4 v5 ζ → V G (QM G 0 0 Post) 6 [some (.ref this), some (.int v1), none, some (.int v3), some (.int v4), some (.int v5), none] [] ζ 0 0) : ∀ (this : Nat) (v1 : Int32) (v3 : Int32) (v4 : Int32) (v5 : Int32) (s0 : Int32) (σ : Sg), wp_X10_takeKind_66 K6 this v1 v3 v4 v5 s0 σ Post → V G (QM G 0 0 Post) 66 [some (.ref this), some (.int v1), none, some (.int v3), some (.int v4), some (.int v5), none] [.int s0] σ 0 0 := by
  intro this v1 v3 v4 v5 s0 σ h
  unfold wp_X10_takeKind_66 at h
  refine V_istore hG dX10_takeKind_66 (Nat.le_of_ble_eq_true rfl) (hpV rfl rfl) ?_
  refine V_iload hG dX10_takeKind_68 rfl ?_
  refine V_iload hG dX10_takeKind_70 rfl ?_
  refine V_isub hG dX10_takeKind_72 ?_
  refine V_istore hG dX10_takeKind_73 (Nat.le_of_ble_eq_true rfl) (hpV rfl rfl) ?_
  refine V_iload_n hG dX10_takeKind_75 rfl ?_
  refine V_iconst (v := (-1)) hG (by decide) dX10_takeKind_76 ?_
  refine V_icmp_ne (tgt := 100) hG dX10_takeKind_77 (by decide) (fun c => ?_) (fun c => ?_)
  · replace h := h.1 c
    refine V_aload_n (v := .ref this) hG dX10_takeKind_100 rfl rfl ?_
    refine V_iload hG dX10_takeKind_101 rfl ?_
    refine V_iload hG dX10_takeKind_103 rfl ?_
    refine V_iload_n hG dX10_takeKind_105 rfl ?_
    obtain ⟨ht, h⟩ := h
    refine V_cVV _ _ hG dX10_takeKind_106 (ct_X10_takeFrom hl h) mv_X10_takeFrom ml_X10_232 ht rfl rfl rfl rfl (by first | exact Nat.le_of_ble_eq_true rfl | (simp only [List.map_cons, List.map_nil, List.sum_cons, List.sum_nil, cat_rf]; exact Nat.le_of_ble_eq_true rfl)) (Nat.le_of_ble_eq_true rfl) (Nat.le_of_ble_eq_true rfl) (by first | exact Nat.le_of_ble_eq_true rfl | omega | (dsimp only; omega)) (by first | exact Nat.le_of_ble_eq_true rfl | omega | (dsimp only; omega)) ?_ (fun σ1 h9 => ?_)
    · exact fun E σ1 hx => VX_out hG (by first | exact Nat.le_of_ble_eq_true rfl | omega | (dsimp only; omega)) (by first | exact Nat.le_of_ble_eq_true rfl | omega | (dsimp only; omega)) hx
    · replace h := h9
      clear h9
      refine V_forget (lo' := [some (.ref this), some (.int v1), none, some (.int v3), some (.int (v4 - s0)), some (.int v5), none]) ⟨rfl, ⟨rfl, ⟨rfl, ⟨rfl, ⟨rfl, trivial⟩⟩⟩⟩⟩ ?_
      refine V_widen (k' := 0) (n' := 0) (by first | exact Nat.le_of_ble_eq_true rfl | omega | (dsimp only; omega)) (by first | exact Nat.le_of_ble_eq_true rfl | omega | (dsimp only; omega)) ?_
      exact wv_X10_takeKind_109 hl hG hK6 _ _ _ _ _ _ h
  · replace h := h.2 c
    refine V_aload_n (v := .ref this) hG dX10_takeKind_80 rfl rfl ?_
    refine V_dup (v := .ref this) hG rfl dX10_takeKind_81 ?_
    obtain ⟨ht, h⟩ := h
    refine V_getI hG dX10_takeKind_82 fl_X10_229 rfl ht ?_
    refine V_aload_n (v := .ref this) hG dX10_takeKind_85 rfl rfl ?_
    refine V_iload hG dX10_takeKind_86 rfl ?_
    refine V_iload hG dX10_takeKind_88 rfl ?_
    obtain ⟨ht, h⟩ := h
    refine V_cVI _ _ hG dX10_takeKind_90 (ct_X10_costOf hl h) mv_X10_costOf ml_X10_225 ht rfl rfl rfl rfl (by first | exact Nat.le_of_ble_eq_true rfl | (simp only [List.map_cons, List.map_nil, List.sum_cons, List.sum_nil, cat_rf]; exact Nat.le_of_ble_eq_true rfl)) (Nat.le_of_ble_eq_true rfl) (Nat.le_of_ble_eq_true rfl) (by first | exact Nat.le_of_ble_eq_true rfl | omega | (dsimp only; omega)) (by first | exact Nat.le_of_ble_eq_true rfl | omega | (dsimp only; omega)) ?_ (fun x3 σ2 h9 => ?_)
    · exact fun E σ2 hx => VX_out hG (by first | exact Nat.le_of_ble_eq_true rfl | omega | (dsimp only; omega)) (by first | exact Nat.le_of_ble_eq_true rfl | omega | (dsimp only; omega)) hx
    · replace h := h9
      clear h9
      refine V_iadd hG dX10_takeKind_93 ?_
      obtain ⟨ht, h⟩ := h
      refine V_putI hG dX10_takeKind_94 fl_X10_229 rfl (fun e => absurd e (by decide)) rfl ht ?_
      refine V_goto (tgt := 109) hG dX10_takeKind_97 (by decide) ?_
      refine V_forget (lo' := [some (.ref this), some (.int v1), none, some (.int v3), some (.int (v4 - s0)), some (.int v5), none]) ⟨rfl, ⟨rfl, ⟨rfl, ⟨rfl, ⟨rfl, trivial⟩⟩⟩⟩⟩ ?_
      refine V_widen (k' := 0) (n' := 0) (by first | exact Nat.le_of_ble_eq_true rfl | omega | (dsimp only; omega)) (by first | exact Nat.le_of_ble_eq_true rfl | omega | (dsimp only; omega)) ?_
      exact wv_X10_takeKind_109 hl hG hK6 _ _ _ _ _ _ h
def wp_X10_takeKind_6  : Nat → Nat → Int32 → Int32 → Int32 → Int32 → Sg → (Rs → Sg → Prop) → Prop
  | 0, _, _, _, _, _, _, _ => False
  | f + 1, this, v1, v3, v4, v5, σ, Post => this % 32 = 10 ∧ (((sI σ this 14) ≤ v5 → Post (.inl none) σ) ∧ (¬ (sI σ this 14) ≤ v5 → ((v4 ≤ 0 → Post (.inl none) σ) ∧ (¬ v4 ≤ 0 → this % 32 = 10 ∧ ∀ o1, o1 = sP σ this 18 → ∃ u2, o1 = some u2 ∧ aty (u2 % 32) = some .int ∧ ∃ j3, v5 = nI j3 ∧ j3 < aln u2 ∧ ((¬ (sI σ u2 j3) = (3 : Int32) → (wp_X10_takeKind_109 (fun z0 z1 z2 z3 z4 ζ => wp_X10_takeKind_6 f z0 z1 z2 z3 z4 ζ Post) this v1 v3 v4 v5 σ Post)) ∧ ((sI σ u2 j3) = (3 : Int32) → this % 32 = 10 ∧ ∀ o4, o4 = sP σ this 15 → ∃ u5, o4 = some u5 ∧ aty (u5 % 32) = some .int ∧ ∃ j6, v5 = nI j6 ∧ j6 < aln u5 ∧ ((¬ (sI σ u5 j6) = v1 → (wp_X10_takeKind_109 (fun z0 z1 z2 z3 z4 ζ => wp_X10_takeKind_6 f z0 z1 z2 z3 z4 ζ Post) this v1 v3 v4 v5 σ Post)) ∧ ((sI σ u5 j6) = v1 → this % 32 = 10 ∧ ∀ o7, o7 = sP σ this 16 → ∃ u8, o7 = some u8 ∧ aty (u8 % 32) = some .int ∧ ∃ j9, v5 = nI j9 ∧ j9 < aln u8 ∧ (((sI σ u8 j9) ≤ v4 → this % 32 = 10 ∧ ∀ o10, o10 = sP σ this 16 → ∃ u11, o10 = some u11 ∧ aty (u11 % 32) = some .int ∧ ∃ j12, v5 = nI j12 ∧ j12 < aln u11 ∧ (wp_X10_takeKind_66 (fun z0 z1 z2 z3 z4 ζ => wp_X10_takeKind_6 f z0 z1 z2 z3 z4 ζ Post) this v1 v3 v4 v5 (sI σ u11 j12) σ Post)) ∧ (¬ (sI σ u8 j9) ≤ v4 → (wp_X10_takeKind_66 (fun z0 z1 z2 z3 z4 ζ => wp_X10_takeKind_6 f z0 z1 z2 z3 z4 ζ Post) this v1 v3 v4 v5 v4 σ Post)))))))))))
set_option maxRecDepth 100000 in
set_option maxHeartbeats 4000000 in
theorem wv_X10_takeKind_6 {L9 : Launch} {G : Cx} {Post : Rs → Sg → Prop} (hl : L9.stackTraces = false) (hG : CX L9 G yX10_takeKind cX10_takeKind 7 none [] { frames := 2, cells := 0, slots := 0, locals := 47 })   : ∀ (f : Nat) (this : Nat) (v1 : Int32) (v3 : Int32) (v4 : Int32) (v5 : Int32) (σ : Sg), wp_X10_takeKind_6 f this v1 v3 v4 v5 σ Post → V G (QM G 0 0 Post) 6 [some (.ref this), some (.int v1), none, some (.int v3), some (.int v4), some (.int v5), none] [] σ 0 0 := by
  intro f
  induction f with
  | zero => intro _ _ _ _ _ σ h; exact h.elim
  | succ f ih =>
    intro this v1 v3 v4 v5 σ h
    refine V_iload hG dX10_takeKind_6 rfl ?_
    refine V_aload_n (v := .ref this) hG dX10_takeKind_8 rfl rfl ?_
    obtain ⟨ht, h⟩ := h
    refine V_getI hG dX10_takeKind_9 fl_X10_176 rfl ht ?_
    refine V_icmp_ge (tgt := 115) hG dX10_takeKind_12 (by decide) (fun c => ?_) (fun c => ?_)
    · replace h := h.1 c
      exact V_vret hG dX10_takeKind_115 (by first | exact Nat.le_of_ble_eq_true rfl | omega | (dsimp only; omega)) (by first | exact Nat.le_of_ble_eq_true rfl | omega | (dsimp only; omega)) h
    · replace h := h.2 c
      refine V_iload hG dX10_takeKind_15 rfl ?_
      refine V_if_le (tgt := 115) hG dX10_takeKind_17 (by decide) (fun c => ?_) (fun c => ?_)
      · replace h := h.1 c
        exact V_vret hG dX10_takeKind_115 (by first | exact Nat.le_of_ble_eq_true rfl | omega | (dsimp only; omega)) (by first | exact Nat.le_of_ble_eq_true rfl | omega | (dsimp only; omega)) h
      · replace h := h.2 c
        refine V_aload_n (v := .ref this) hG dX10_takeKind_20 rfl rfl ?_
        obtain ⟨ht, h⟩ := h
        refine V_getPv hG dX10_takeKind_21 fl_X10_62 rfl ht (fun o1 ho => ?_)
        replace h := h o1 ho
        refine V_iload hG dX10_takeKind_24 rfl ?_
        obtain ⟨u2, he, h⟩ := h
        subst he
        obtain ⟨ha, j3, hi, hj, h⟩ := h
        refine V_iald hG dX10_takeKind_26 ha hi hj ?_
        refine V_iconst (v := 3) hG (by decide) dX10_takeKind_27 ?_
        refine V_icmp_ne (tgt := 109) hG dX10_takeKind_28 (by decide) (fun c => ?_) (fun c => ?_)
        · replace h := h.1 c
          refine V_forget (lo' := [some (.ref this), some (.int v1), none, some (.int v3), some (.int v4), some (.int v5), none]) ⟨rfl, ⟨rfl, ⟨rfl, ⟨rfl, ⟨rfl, trivial⟩⟩⟩⟩⟩ ?_
          refine V_widen (k' := 0) (n' := 0) (by first | exact Nat.le_of_ble_eq_true rfl | omega | (dsimp only; omega)) (by first | exact Nat.le_of_ble_eq_true rfl | omega | (dsimp only; omega)) ?_
          exact wv_X10_takeKind_109 hl hG (fun z0 z1 z2 z3 z4 ζ hz => ih z0 z1 z2 z3 z4 ζ hz) _ _ _ _ _ _ h
        · replace h := h.2 c
          refine V_aload_n (v := .ref this) hG dX10_takeKind_31 rfl rfl ?_
          obtain ⟨ht, h⟩ := h
          refine V_getPv hG dX10_takeKind_32 fl_X10_53 rfl ht (fun o4 ho => ?_)
          replace h := h o4 ho
          refine V_iload hG dX10_takeKind_35 rfl ?_
          obtain ⟨u5, he, h⟩ := h
          subst he
          obtain ⟨ha, j6, hi, hj, h⟩ := h
          refine V_iald hG dX10_takeKind_37 ha hi hj ?_
          refine V_iload_n hG dX10_takeKind_38 rfl ?_
          refine V_icmp_ne (tgt := 109) hG dX10_takeKind_39 (by decide) (fun c => ?_) (fun c => ?_)
          · replace h := h.1 c
            refine V_forget (lo' := [some (.ref this), some (.int v1), none, some (.int v3), some (.int v4), some (.int v5), none]) ⟨rfl, ⟨rfl, ⟨rfl, ⟨rfl, ⟨rfl, trivial⟩⟩⟩⟩⟩ ?_
            refine V_widen (k' := 0) (n' := 0) (by first | exact Nat.le_of_ble_eq_true rfl | omega | (dsimp only; omega)) (by first | exact Nat.le_of_ble_eq_true rfl | omega | (dsimp only; omega)) ?_
            exact wv_X10_takeKind_109 hl hG (fun z0 z1 z2 z3 z4 ζ hz => ih z0 z1 z2 z3 z4 ζ hz) _ _ _ _ _ _ h
          · replace h := h.2 c
            refine V_iload hG dX10_takeKind_42 rfl ?_
            refine V_aload_n (v := .ref this) hG dX10_takeKind_44 rfl rfl ?_
            obtain ⟨ht, h⟩ := h
            refine V_getPv hG dX10_takeKind_45 fl_X10_56 rfl ht (fun o7 ho => ?_)
            replace h := h o7 ho
            refine V_iload hG dX10_takeKind_48 rfl ?_
            obtain ⟨u8, he, h⟩ := h
            subst he
            obtain ⟨ha, j9, hi, hj, h⟩ := h
            refine V_iald hG dX10_takeKind_50 ha hi hj ?_
            refine V_icmp_ge (tgt := 59) hG dX10_takeKind_51 (by decide) (fun c => ?_) (fun c => ?_)
            · replace h := h.1 c
              refine V_aload_n (v := .ref this) hG dX10_takeKind_59 rfl rfl ?_
              obtain ⟨ht, h⟩ := h
              refine V_getPv hG dX10_takeKind_60 fl_X10_56 rfl ht (fun o10 ho => ?_)
              replace h := h o10 ho
              refine V_iload hG dX10_takeKind_63 rfl ?_
              obtain ⟨u11, he, h⟩ := h
              subst he
              obtain ⟨ha, j12, hi, hj, h⟩ := h
              refine V_iald hG dX10_takeKind_65 ha hi hj ?_
              refine V_forget (lo' := [some (.ref this), some (.int v1), none, some (.int v3), some (.int v4), some (.int v5), none]) ⟨rfl, ⟨rfl, ⟨rfl, ⟨rfl, ⟨rfl, trivial⟩⟩⟩⟩⟩ ?_
              refine V_widen (k' := 0) (n' := 0) (by first | exact Nat.le_of_ble_eq_true rfl | omega | (dsimp only; omega)) (by first | exact Nat.le_of_ble_eq_true rfl | omega | (dsimp only; omega)) ?_
              exact wv_X10_takeKind_66 hl hG (fun z0 z1 z2 z3 z4 ζ hz => ih z0 z1 z2 z3 z4 ζ hz) _ _ _ _ _ _ _ h
            · replace h := h.2 c
              refine V_iload hG dX10_takeKind_54 rfl ?_
              refine V_goto (tgt := 66) hG dX10_takeKind_56 (by decide) ?_
              refine V_forget (lo' := [some (.ref this), some (.int v1), none, some (.int v3), some (.int v4), some (.int v5), none]) ⟨rfl, ⟨rfl, ⟨rfl, ⟨rfl, ⟨rfl, trivial⟩⟩⟩⟩⟩ ?_
              refine V_widen (k' := 0) (n' := 0) (by first | exact Nat.le_of_ble_eq_true rfl | omega | (dsimp only; omega)) (by first | exact Nat.le_of_ble_eq_true rfl | omega | (dsimp only; omega)) ?_
              exact wv_X10_takeKind_66 hl hG (fun z0 z1 z2 z3 z4 ζ hz => ih z0 z1 z2 z3 z4 ζ hz) _ _ _ _ _ _ _ h
def wp_X10_takeKind (this : Nat) (a0 : Int32) (a1 : Int32) (a2 : Int32) (σ : Sg) (Post : Rs → Sg → Prop) : Prop := (∃ g, wp_X10_takeKind_6 g this a0 a2 a1 (0 : Int32) σ Post)
set_option maxRecDepth 100000 in
set_option maxHeartbeats 4000000 in
theorem ct_X10_takeKind {l : Launch} (hl : l.stackTraces = false) {this : Nat} {a0 : Int32} {a1 : Int32} {a2 : Int32} {σ : Sg} {Post : Rs → Sg → Prop} (h : wp_X10_takeKind this a0 a1 a2 σ Post) : Ct l yX10_takeKind (.code yX10_takeKind cX10_takeKind 7 none) 2 47 0 0 [.ref this, .int a0, .int a1, .int a2] σ Post := by
  refine Ct_of [some (.ref this), some (.int a0), some (.int a1), some (.int a2), none, none, none] hl (by decide +kernel) rfl (fun ad => by rfl) (fun ad => by exact Nat.le_of_ble_eq_true rfl) (fun v hv => mem_lo hv rfl) ?_
  intro G hG
  unfold wp_X10_takeKind at h
  refine V_iload_n hG dX10_takeKind_0 rfl ?_
  refine V_istore hG dX10_takeKind_1 (Nat.le_of_ble_eq_true rfl) (hpV rfl rfl) ?_
  refine V_iconst (v := 0) hG (by decide) dX10_takeKind_3 ?_
  refine V_istore hG dX10_takeKind_4 (Nat.le_of_ble_eq_true rfl) (hpV rfl rfl) ?_
  refine V_forget (lo' := [some (.ref this), some (.int a0), none, some (.int a2), some (.int a1), some (.int (0 : Int32)), none]) ⟨rfl, ⟨rfl, ⟨rfl, ⟨rfl, ⟨rfl, trivial⟩⟩⟩⟩⟩ ?_
  obtain ⟨g, h⟩ := h
  refine V_widen (k' := 0) (n' := 0) (by first | exact Nat.le_of_ble_eq_true rfl | omega | (dsimp only; omega)) (by first | exact Nat.le_of_ble_eq_true rfl | omega | (dsimp only; omega)) ?_
  exact wv_X10_takeKind_6 hl hG  g _ _ _ _ _ _ h
def wp_X10_split_77  (this : Nat) (v1 : Int32) (v2 : Int32) (s0 : Nat) (s1 : Int32) (σ : Sg) (Post : Rs → Sg → Prop) : Prop := s0 % 32 = 10 ∧ this % 32 = 10 ∧ (((sI (wI σ s0 59 s1) this 59) ≤ 0 → this % 32 = 10 ∧ ∀ o1, o1 = sP (wI σ s0 59 s1) this 15 → ∃ u2, o1 = some u2 ∧ aty (u2 % 32) = some .int ∧ ∃ j3, v1 = nI j3 ∧ j3 < aln u2 ∧ this % 32 = 10 ∧ wp_X10_newBatch this (sI (wI σ s0 59 s1) u2 j3) v2 (1 : Int32) (wI σ s0 59 s1) (KI (fun x5 σ4 => this % 32 = 10 ∧ ∀ o6, o6 = sP σ4 this 19 → this % 32 = 10 ∧ ∀ o7, o7 = sP σ4 this 19 → ∃ u8, o7 = some u8 ∧ aty (u8 % 32) = some .int ∧ ∃ j9, v1 = nI j9 ∧ j9 < aln u8 ∧ ∃ u10, o6 = some u10 ∧ aty (u10 % 32) = some .int ∧ ∃ j11, x5 = nI j11 ∧ j11 < aln u10 ∧ this % 32 = 10 ∧ ∀ o12, o12 = sP (wI σ4 u10 j11 (sI σ4 u8 j9)) this 20 → this % 32 = 10 ∧ ∀ o13, o13 = sP (wI σ4 u10 j11 (sI σ4 u8 j9)) this 20 → ∃ u14, o13 = some u14 ∧ aty (u14 % 32) = some .int ∧ ∃ j15, v1 = nI j15 ∧ j15 < aln u14 ∧ ∃ u16, o12 = some u16 ∧ aty (u16 % 32) = some .int ∧ ∃ j17, x5 = nI j17 ∧ j17 < aln u16 ∧ this % 32 = 10 ∧ ∀ o18, o18 = sP (wI (wI σ4 u10 j11 (sI σ4 u8 j9)) u16 j17 (sI (wI σ4 u10 j11 (sI σ4 u8 j9)) u14 j15)) this 22 → this % 32 = 10 ∧ ∀ o19, o19 = sP (wI (wI σ4 u10 j11 (sI σ4 u8 j9)) u16 j17 (sI (wI σ4 u10 j11 (sI σ4 u8 j9)) u14 j15)) this 22 → ∃ u20, o19 = some u20 ∧ aty (u20 % 32) = some .boolean ∧ ∃ j21, v1 = nI j21 ∧ j21 < aln u20 ∧ ∃ u22, o18 = some u22 ∧ aty (u22 % 32) = some .boolean ∧ ∃ j23, x5 = nI j23 ∧ j23 < aln u22 ∧ b01 (sI (wI (wI σ4 u10 j11 (sI σ4 u8 j9)) u16 j17 (sI (wI σ4 u10 j11 (sI σ4 u8 j9)) u14 j15)) u20 j21) ∧ this % 32 = 10 ∧ ∀ o24, o24 = sP (wI (wI (wI σ4 u10 j11 (sI σ4 u8 j9)) u16 j17 (sI (wI σ4 u10 j11 (sI σ4 u8 j9)) u14 j15)) u22 j23 (sI (wI (wI σ4 u10 j11 (sI σ4 u8 j9)) u16 j17 (sI (wI σ4 u10 j11 (sI σ4 u8 j9)) u14 j15)) u20 j21)) this 23 → this % 32 = 10 ∧ ∀ o25, o25 = sP (wI (wI (wI σ4 u10 j11 (sI σ4 u8 j9)) u16 j17 (sI (wI σ4 u10 j11 (sI σ4 u8 j9)) u14 j15)) u22 j23 (sI (wI (wI σ4 u10 j11 (sI σ4 u8 j9)) u16 j17 (sI (wI σ4 u10 j11 (sI σ4 u8 j9)) u14 j15)) u20 j21)) this 23 → ∃ u26, o25 = some u26 ∧ aty (u26 % 32) = some .int ∧ ∃ j27, v1 = nI j27 ∧ j27 < aln u26 ∧ ∃ u28, o24 = some u28 ∧ aty (u28 % 32) = some .int ∧ ∃ j29, x5 = nI j29 ∧ j29 < aln u28 ∧ this % 32 = 10 ∧ wp_X10_takeFrom this v1 v2 x5 (wI (wI (wI (wI σ4 u10 j11 (sI σ4 u8 j9)) u16 j17 (sI (wI σ4 u10 j11 (sI σ4 u8 j9)) u14 j15)) u22 j23 (sI (wI (wI σ4 u10 j11 (sI σ4 u8 j9)) u16 j17 (sI (wI σ4 u10 j11 (sI σ4 u8 j9)) u14 j15)) u20 j21)) u28 j29 (sI (wI (wI (wI σ4 u10 j11 (sI σ4 u8 j9)) u16 j17 (sI (wI σ4 u10 j11 (sI σ4 u8 j9)) u14 j15)) u22 j23 (sI (wI (wI σ4 u10 j11 (sI σ4 u8 j9)) u16 j17 (sI (wI σ4 u10 j11 (sI σ4 u8 j9)) u14 j15)) u20 j21)) u26 j27)) (KV (fun σ30 => Post (.inl (some (.int x5))) σ30) (fun E σ30 => Post (.inr E) σ30))) (fun E σ4 => Post (.inr E) σ4))) ∧ (¬ (sI (wI σ s0 59 s1) this 59) ≤ 0 → Post (.inl (some (.int (0 : Int32)))) (wI σ s0 59 s1)))
set_option maxRecDepth 100000 in
set_option maxHeartbeats 4000000 in
theorem wv_X10_split_77 {L9 : Launch} {G : Cx} {Post : Rs → Sg → Prop} (hl : L9.stackTraces = false) (hG : CX L9 G yX10_split cX10_split 4 (some .int) [] { frames := 3, cells := 0, slots := 0, locals := 65 })   : ∀ (this : Nat) (v1 : Int32) (v2 : Int32) (s0 : Nat) (s1 : Int32) (σ : Sg), wp_X10_split_77 this v1 v2 s0 s1 σ Post → V G (QM G 0 0 Post) 77 [some (.ref this), some (.int v1), some (.int v2), none] [.int s1, .ref s0] σ 0 0 := by
  intro this v1 v2 s0 s1 σ h
  unfold wp_X10_split_77 at h
  obtain ⟨ht, h⟩ := h
  refine V_putI hG dX10_split_77 fl_X10_168 rfl (fun e => absurd e (by decide)) rfl ht ?_
  refine V_aload_n (v := .ref this) hG dX10_split_80 rfl rfl ?_
  obtain ⟨ht, h⟩ := h
  refine V_getI hG dX10_split_81 fl_X10_168 rfl ht ?_
  refine V_if_le (tgt := 89) hG dX10_split_84 (by decide) (fun c => ?_) (fun c => ?_)
  · replace h := h.1 c
    refine V_aload_n (v := .ref this) hG dX10_split_89 rfl rfl ?_
    refine V_aload_n (v := .ref this) hG dX10_split_90 rfl rfl ?_
    obtain ⟨ht, h⟩ := h
    refine V_getPv hG dX10_split_91 fl_X10_53 rfl ht (fun o1 ho => ?_)
    replace h := h o1 ho
    refine V_iload_n hG dX10_split_94 rfl ?_
    obtain ⟨u2, he, h⟩ := h
    subst he
    obtain ⟨ha, j3, hi, hj, h⟩ := h
    refine V_iald hG dX10_split_95 ha hi hj ?_
    refine V_iload_n hG dX10_split_96 rfl ?_
    refine V_iconst (v := 1) hG (by decide) dX10_split_97 ?_
    obtain ⟨ht, h⟩ := h
    refine V_cVI _ _ hG dX10_split_98 (ct_X10_newBatch hl h) mv_X10_newBatch ml_X10_212 ht rfl rfl rfl rfl (by first | exact Nat.le_of_ble_eq_true rfl | (simp only [List.map_cons, List.map_nil, List.sum_cons, List.sum_nil, cat_rf]; exact Nat.le_of_ble_eq_true rfl)) (Nat.le_of_ble_eq_true rfl) (Nat.le_of_ble_eq_true rfl) (by first | exact Nat.le_of_ble_eq_true rfl | omega | (dsimp only; omega)) (by first | exact Nat.le_of_ble_eq_true rfl | omega | (dsimp only; omega)) ?_ (fun x5 σ4 h9 => ?_)
    · exact fun E σ4 hx => VX_out hG (by first | exact Nat.le_of_ble_eq_true rfl | omega | (dsimp only; omega)) (by first | exact Nat.le_of_ble_eq_true rfl | omega | (dsimp only; omega)) hx
    · replace h := h9
      clear h9
      refine V_istore_n hG dX10_split_101 (Nat.le_of_ble_eq_true rfl) (hpV rfl rfl) ?_
      refine V_aload_n (v := .ref this) hG dX10_split_102 rfl rfl ?_
      obtain ⟨ht, h⟩ := h
      refine V_getPv hG dX10_split_103 fl_X10_65 rfl ht (fun o6 ho => ?_)
      replace h := h o6 ho
      refine V_iload_n hG dX10_split_106 rfl ?_
      refine V_aload_n (v := .ref this) hG dX10_split_107 rfl rfl ?_
      obtain ⟨ht, h⟩ := h
      refine V_getPv hG dX10_split_108 fl_X10_65 rfl ht (fun o7 ho => ?_)
      replace h := h o7 ho
      refine V_iload_n hG dX10_split_111 rfl ?_
      obtain ⟨u8, he, h⟩ := h
      subst he
      obtain ⟨ha, j9, hi, hj, h⟩ := h
      refine V_iald hG dX10_split_112 ha hi hj ?_
      obtain ⟨u10, he, h⟩ := h
      subst he
      obtain ⟨ha, j11, hi, hj, h⟩ := h
      refine V_iast hG dX10_split_113 ha hi hj ?_
      refine V_aload_n (v := .ref this) hG dX10_split_114 rfl rfl ?_
      obtain ⟨ht, h⟩ := h
      refine V_getPv hG dX10_split_115 fl_X10_68 rfl ht (fun o12 ho => ?_)
      replace h := h o12 ho
      refine V_iload_n hG dX10_split_118 rfl ?_
      refine V_aload_n (v := .ref this) hG dX10_split_119 rfl rfl ?_
      obtain ⟨ht, h⟩ := h
      refine V_getPv hG dX10_split_120 fl_X10_68 rfl ht (fun o13 ho => ?_)
      replace h := h o13 ho
      refine V_iload_n hG dX10_split_123 rfl ?_
      obtain ⟨u14, he, h⟩ := h
      subst he
      obtain ⟨ha, j15, hi, hj, h⟩ := h
      refine V_iald hG dX10_split_124 ha hi hj ?_
      obtain ⟨u16, he, h⟩ := h
      subst he
      obtain ⟨ha, j17, hi, hj, h⟩ := h
      refine V_iast hG dX10_split_125 ha hi hj ?_
      refine V_aload_n (v := .ref this) hG dX10_split_126 rfl rfl ?_
      obtain ⟨ht, h⟩ := h
      refine V_getPv hG dX10_split_127 fl_X10_74 rfl ht (fun o18 ho => ?_)
      replace h := h o18 ho
      refine V_iload_n hG dX10_split_130 rfl ?_
      refine V_aload_n (v := .ref this) hG dX10_split_131 rfl rfl ?_
      obtain ⟨ht, h⟩ := h
      refine V_getPv hG dX10_split_132 fl_X10_74 rfl ht (fun o19 ho => ?_)
      replace h := h o19 ho
      refine V_iload_n hG dX10_split_135 rfl ?_
      obtain ⟨u20, he, h⟩ := h
      subst he
      obtain ⟨ha, j21, hi, hj, h⟩ := h
      refine V_zald hG dX10_split_136 ha hi hj ?_
      obtain ⟨u22, he, h⟩ := h
      subst he
      obtain ⟨ha, j23, hi, hj, h⟩ := h
      obtain ⟨hb, h⟩ := h
      refine V_zast hG dX10_split_137 ha hb hi hj ?_
      refine V_aload_n (v := .ref this) hG dX10_split_138 rfl rfl ?_
      obtain ⟨ht, h⟩ := h
      refine V_getPv hG dX10_split_139 fl_X10_77 rfl ht (fun o24 ho => ?_)
      replace h := h o24 ho
      refine V_iload_n hG dX10_split_142 rfl ?_
      refine V_aload_n (v := .ref this) hG dX10_split_143 rfl rfl ?_
      obtain ⟨ht, h⟩ := h
      refine V_getPv hG dX10_split_144 fl_X10_77 rfl ht (fun o25 ho => ?_)
      replace h := h o25 ho
      refine V_iload_n hG dX10_split_147 rfl ?_
      obtain ⟨u26, he, h⟩ := h
      subst he
      obtain ⟨ha, j27, hi, hj, h⟩ := h
      refine V_iald hG dX10_split_148 ha hi hj ?_
      obtain ⟨u28, he, h⟩ := h
      subst he
      obtain ⟨ha, j29, hi, hj, h⟩ := h
      refine V_iast hG dX10_split_149 ha hi hj ?_
      refine V_aload_n (v := .ref this) hG dX10_split_150 rfl rfl ?_
      refine V_iload_n hG dX10_split_151 rfl ?_
      refine V_iload_n hG dX10_split_152 rfl ?_
      refine V_iload_n hG dX10_split_153 rfl ?_
      obtain ⟨ht, h⟩ := h
      refine V_cVV _ _ hG dX10_split_154 (ct_X10_takeFrom hl h) mv_X10_takeFrom ml_X10_232 ht rfl rfl rfl rfl (by first | exact Nat.le_of_ble_eq_true rfl | (simp only [List.map_cons, List.map_nil, List.sum_cons, List.sum_nil, cat_rf]; exact Nat.le_of_ble_eq_true rfl)) (Nat.le_of_ble_eq_true rfl) (Nat.le_of_ble_eq_true rfl) (by first | exact Nat.le_of_ble_eq_true rfl | omega | (dsimp only; omega)) (by first | exact Nat.le_of_ble_eq_true rfl | omega | (dsimp only; omega)) ?_ (fun σ30 h9 => ?_)
      · exact fun E σ30 hx => VX_out hG (by first | exact Nat.le_of_ble_eq_true rfl | omega | (dsimp only; omega)) (by first | exact Nat.le_of_ble_eq_true rfl | omega | (dsimp only; omega)) hx
      · replace h := h9
        clear h9
        refine V_iload_n hG dX10_split_157 rfl ?_
        exact V_iret hG dX10_split_158 (by first | exact Nat.le_of_ble_eq_true rfl | omega | (dsimp only; omega)) (by first | exact Nat.le_of_ble_eq_true rfl | omega | (dsimp only; omega)) h
  · replace h := h.2 c
    refine V_iconst (v := 0) hG (by decide) dX10_split_87 ?_
    exact V_iret hG dX10_split_88 (by first | exact Nat.le_of_ble_eq_true rfl | omega | (dsimp only; omega)) (by first | exact Nat.le_of_ble_eq_true rfl | omega | (dsimp only; omega)) h
def wp_X10_split_28  (this : Nat) (v1 : Int32) (v2 : Int32) (s0 : Nat) (σ : Sg) (Post : Rs → Sg → Prop) : Prop := (wp_X10_split_77 this v1 v2 s0 (2 : Int32) σ Post)
set_option maxRecDepth 100000 in
set_option maxHeartbeats 4000000 in
theorem wv_X10_split_28 {L9 : Launch} {G : Cx} {Post : Rs → Sg → Prop} (hl : L9.stackTraces = false) (hG : CX L9 G yX10_split cX10_split 4 (some .int) [] { frames := 3, cells := 0, slots := 0, locals := 65 })   : ∀ (this : Nat) (v1 : Int32) (v2 : Int32) (s0 : Nat) (σ : Sg), wp_X10_split_28 this v1 v2 s0 σ Post → V G (QM G 0 0 Post) 28 [some (.ref this), some (.int v1), some (.int v2), none] [.ref s0] σ 0 0 := by
  intro this v1 v2 s0 σ h
  unfold wp_X10_split_28 at h
  refine V_iconst (v := 2) hG (by decide) dX10_split_28 ?_
  refine V_goto (tgt := 77) hG dX10_split_29 (by decide) ?_
  refine V_forget (lo' := [some (.ref this), some (.int v1), some (.int v2), none]) ⟨rfl, ⟨rfl, ⟨rfl, trivial⟩⟩⟩ ?_
  refine V_widen (k' := 0) (n' := 0) (by first | exact Nat.le_of_ble_eq_true rfl | omega | (dsimp only; omega)) (by first | exact Nat.le_of_ble_eq_true rfl | omega | (dsimp only; omega)) ?_
  exact wv_X10_split_77 hl hG  _ _ _ _ _ _ h
def wp_X10_split_72  (this : Nat) (v1 : Int32) (v2 : Int32) (s0 : Nat) (σ : Sg) (Post : Rs → Sg → Prop) : Prop := (wp_X10_split_77 this v1 v2 s0 (3 : Int32) σ Post)
set_option maxRecDepth 100000 in
set_option maxHeartbeats 4000000 in
theorem wv_X10_split_72 {L9 : Launch} {G : Cx} {Post : Rs → Sg → Prop} (hl : L9.stackTraces = false) (hG : CX L9 G yX10_split cX10_split 4 (some .int) [] { frames := 3, cells := 0, slots := 0, locals := 65 })   : ∀ (this : Nat) (v1 : Int32) (v2 : Int32) (s0 : Nat) (σ : Sg), wp_X10_split_72 this v1 v2 s0 σ Post → V G (QM G 0 0 Post) 72 [some (.ref this), some (.int v1), some (.int v2), none] [.ref s0] σ 0 0 := by
  intro this v1 v2 s0 σ h
  unfold wp_X10_split_72 at h
  refine V_iconst (v := 3) hG (by decide) dX10_split_72 ?_
  refine V_goto (tgt := 77) hG dX10_split_73 (by decide) ?_
  refine V_forget (lo' := [some (.ref this), some (.int v1), some (.int v2), none]) ⟨rfl, ⟨rfl, ⟨rfl, trivial⟩⟩⟩ ?_
  refine V_widen (k' := 0) (n' := 0) (by first | exact Nat.le_of_ble_eq_true rfl | omega | (dsimp only; omega)) (by first | exact Nat.le_of_ble_eq_true rfl | omega | (dsimp only; omega)) ?_
  exact wv_X10_split_77 hl hG  _ _ _ _ _ _ h
def wp_X10_split (this : Nat) (a0 : Int32) (a1 : Int32) (σ : Sg) (Post : Rs → Sg → Prop) : Prop := this % 32 = 10 ∧ wp_X10_isBatch this a0 σ (KI (fun x2 σ1 => ((¬ x2 = 0 → ((a1 < (1 : Int32) → (wp_X10_split_28 this a0 a1 this σ1 Post)) ∧ (¬ a1 < (1 : Int32) → this % 32 = 10 ∧ ∀ o3, o3 = sP σ1 this 16 → ∃ u4, o3 = some u4 ∧ aty (u4 % 32) = some .int ∧ ∃ j5, a0 = nI j5 ∧ j5 < aln u4 ∧ ((a1 < (sI σ1 u4 j5) → this % 32 = 10 ∧ ∀ o6, o6 = sP σ1 this 18 → ∃ u7, o6 = some u7 ∧ aty (u7 % 32) = some .int ∧ ∃ j8, a0 = nI j8 ∧ j8 < aln u7 ∧ ((¬ (sI σ1 u7 j8) = (1 : Int32) → (wp_X10_split_72 this a0 a1 this σ1 Post)) ∧ ((sI σ1 u7 j8) = (1 : Int32) → this % 32 = 10 ∧ ∀ o9, o9 = sP σ1 this 21 → ∃ u10, o9 = some u10 ∧ aty (u10 % 32) = some .boolean ∧ ∃ j11, a0 = nI j11 ∧ j11 < aln u10 ∧ ((¬ (sI σ1 u10 j11) = 0 → (wp_X10_split_72 this a0 a1 this σ1 Post)) ∧ ((sI σ1 u10 j11) = 0 → this % 32 = 10 ∧ wp_X10_workOf this a0 σ1 (KI (fun x13 σ12 => this % 32 = 10 ∧ wp_X10_hasRoom this x13 σ12 (KI (fun x15 σ14 => ((x15 = 0 → (wp_X10_split_72 this a0 a1 this σ14 Post)) ∧ (¬ x15 = 0 → this % 32 = 10 ∧ ((¬ (sI σ14 this 14) = (60 : Int32) → (wp_X10_split_77 this a0 a1 this (0 : Int32) σ14 Post)) ∧ ((sI σ14 this 14) = (60 : Int32) → (wp_X10_split_72 this a0 a1 this σ14 Post)))))) (fun E σ14 => Post (.inr E) σ14))) (fun E σ12 => Post (.inr E) σ12))))))) ∧ (¬ a1 < (sI σ1 u4 j5) → (wp_X10_split_28 this a0 a1 this σ1 Post)))))) ∧ (x2 = 0 → (wp_X10_split_77 this a0 a1 this (1 : Int32) σ1 Post)))) (fun E σ1 => Post (.inr E) σ1))
set_option maxRecDepth 100000 in
set_option maxHeartbeats 4000000 in
theorem ct_X10_split {l : Launch} (hl : l.stackTraces = false) {this : Nat} {a0 : Int32} {a1 : Int32} {σ : Sg} {Post : Rs → Sg → Prop} (h : wp_X10_split this a0 a1 σ Post) : Ct l yX10_split (.code yX10_split cX10_split 4 (some .int)) 3 65 0 0 [.ref this, .int a0, .int a1] σ Post := by
  refine Ct_of [some (.ref this), some (.int a0), some (.int a1), none] hl (by decide +kernel) rfl (fun ad => by rfl) (fun ad => by exact Nat.le_of_ble_eq_true rfl) (fun v hv => mem_lo hv rfl) ?_
  intro G hG
  unfold wp_X10_split at h
  refine V_aload_n (v := .ref this) hG dX10_split_0 rfl rfl ?_
  refine V_aload_n (v := .ref this) hG dX10_split_1 rfl rfl ?_
  refine V_iload_n hG dX10_split_2 rfl ?_
  obtain ⟨ht, h⟩ := h
  refine V_cVI _ _ hG dX10_split_3 (ct_X10_isBatch hl h) mv_X10_isBatch ml_X10_219 ht rfl rfl rfl rfl (by first | exact Nat.le_of_ble_eq_true rfl | (simp only [List.map_cons, List.map_nil, List.sum_cons, List.sum_nil, cat_rf]; exact Nat.le_of_ble_eq_true rfl)) (Nat.le_of_ble_eq_true rfl) (Nat.le_of_ble_eq_true rfl) (by first | exact Nat.le_of_ble_eq_true rfl | omega | (dsimp only; omega)) (by first | exact Nat.le_of_ble_eq_true rfl | omega | (dsimp only; omega)) ?_ (fun x2 σ1 h9 => ?_)
  · exact fun E σ1 hx => VX_out hG (by first | exact Nat.le_of_ble_eq_true rfl | omega | (dsimp only; omega)) (by first | exact Nat.le_of_ble_eq_true rfl | omega | (dsimp only; omega)) hx
  · replace h := h9
    clear h9
    refine V_if_ne (tgt := 13) hG dX10_split_6 (by decide) (fun c => ?_) (fun c => ?_)
    · replace h := h.1 c
      refine V_iload_n hG dX10_split_13 rfl ?_
      refine V_iconst (v := 1) hG (by decide) dX10_split_14 ?_
      refine V_icmp_lt (tgt := 28) hG dX10_split_15 (by decide) (fun c => ?_) (fun c => ?_)
      · replace h := h.1 c
        refine V_forget (lo' := [some (.ref this), some (.int a0), some (.int a1), none]) ⟨rfl, ⟨rfl, ⟨rfl, trivial⟩⟩⟩ ?_
        refine V_widen (k' := 0) (n' := 0) (by first | exact Nat.le_of_ble_eq_true rfl | omega | (dsimp only; omega)) (by first | exact Nat.le_of_ble_eq_true rfl | omega | (dsimp only; omega)) ?_
        exact wv_X10_split_28 hl hG  _ _ _ _ _ h
      · replace h := h.2 c
        refine V_iload_n hG dX10_split_18 rfl ?_
        refine V_aload_n (v := .ref this) hG dX10_split_19 rfl rfl ?_
        obtain ⟨ht, h⟩ := h
        refine V_getPv hG dX10_split_20 fl_X10_56 rfl ht (fun o3 ho => ?_)
        replace h := h o3 ho
        refine V_iload_n hG dX10_split_23 rfl ?_
        obtain ⟨u4, he, h⟩ := h
        subst he
        obtain ⟨ha, j5, hi, hj, h⟩ := h
        refine V_iald hG dX10_split_24 ha hi hj ?_
        refine V_icmp_lt (tgt := 32) hG dX10_split_25 (by decide) (fun c => ?_) (fun c => ?_)
        · replace h := h.1 c
          refine V_aload_n (v := .ref this) hG dX10_split_32 rfl rfl ?_
          obtain ⟨ht, h⟩ := h
          refine V_getPv hG dX10_split_33 fl_X10_62 rfl ht (fun o6 ho => ?_)
          replace h := h o6 ho
          refine V_iload_n hG dX10_split_36 rfl ?_
          obtain ⟨u7, he, h⟩ := h
          subst he
          obtain ⟨ha, j8, hi, hj, h⟩ := h
          refine V_iald hG dX10_split_37 ha hi hj ?_
          refine V_iconst (v := 1) hG (by decide) dX10_split_38 ?_
          refine V_icmp_ne (tgt := 72) hG dX10_split_39 (by decide) (fun c => ?_) (fun c => ?_)
          · replace h := h.1 c
            refine V_forget (lo' := [some (.ref this), some (.int a0), some (.int a1), none]) ⟨rfl, ⟨rfl, ⟨rfl, trivial⟩⟩⟩ ?_
            refine V_widen (k' := 0) (n' := 0) (by first | exact Nat.le_of_ble_eq_true rfl | omega | (dsimp only; omega)) (by first | exact Nat.le_of_ble_eq_true rfl | omega | (dsimp only; omega)) ?_
            exact wv_X10_split_72 hl hG  _ _ _ _ _ h
          · replace h := h.2 c
            refine V_aload_n (v := .ref this) hG dX10_split_42 rfl rfl ?_
            obtain ⟨ht, h⟩ := h
            refine V_getPv hG dX10_split_43 fl_X10_71 rfl ht (fun o9 ho => ?_)
            replace h := h o9 ho
            refine V_iload_n hG dX10_split_46 rfl ?_
            obtain ⟨u10, he, h⟩ := h
            subst he
            obtain ⟨ha, j11, hi, hj, h⟩ := h
            refine V_zald hG dX10_split_47 ha hi hj ?_
            refine V_if_ne (tgt := 72) hG dX10_split_48 (by decide) (fun c => ?_) (fun c => ?_)
            · replace h := h.1 c
              refine V_forget (lo' := [some (.ref this), some (.int a0), some (.int a1), none]) ⟨rfl, ⟨rfl, ⟨rfl, trivial⟩⟩⟩ ?_
              refine V_widen (k' := 0) (n' := 0) (by first | exact Nat.le_of_ble_eq_true rfl | omega | (dsimp only; omega)) (by first | exact Nat.le_of_ble_eq_true rfl | omega | (dsimp only; omega)) ?_
              exact wv_X10_split_72 hl hG  _ _ _ _ _ h
            · replace h := h.2 c
              refine V_aload_n (v := .ref this) hG dX10_split_51 rfl rfl ?_
              refine V_aload_n (v := .ref this) hG dX10_split_52 rfl rfl ?_
              refine V_iload_n hG dX10_split_53 rfl ?_
              obtain ⟨ht, h⟩ := h
              refine V_cVI _ _ hG dX10_split_54 (ct_X10_workOf hl h) mv_X10_workOf ml_X10_196 ht rfl rfl rfl rfl (by first | exact Nat.le_of_ble_eq_true rfl | (simp only [List.map_cons, List.map_nil, List.sum_cons, List.sum_nil, cat_rf]; exact Nat.le_of_ble_eq_true rfl)) (Nat.le_of_ble_eq_true rfl) (Nat.le_of_ble_eq_true rfl) (by first | exact Nat.le_of_ble_eq_true rfl | omega | (dsimp only; omega)) (by first | exact Nat.le_of_ble_eq_true rfl | omega | (dsimp only; omega)) ?_ (fun x13 σ12 h9 => ?_)
              · exact fun E σ12 hx => VX_out hG (by first | exact Nat.le_of_ble_eq_true rfl | omega | (dsimp only; omega)) (by first | exact Nat.le_of_ble_eq_true rfl | omega | (dsimp only; omega)) hx
              · replace h := h9
                clear h9
                obtain ⟨ht, h⟩ := h
                refine V_cVI _ _ hG dX10_split_57 (ct_X10_hasRoom hl h) mv_X10_hasRoom ml_X10_222 ht rfl rfl rfl rfl (by first | exact Nat.le_of_ble_eq_true rfl | (simp only [List.map_cons, List.map_nil, List.sum_cons, List.sum_nil, cat_rf]; exact Nat.le_of_ble_eq_true rfl)) (Nat.le_of_ble_eq_true rfl) (Nat.le_of_ble_eq_true rfl) (by first | exact Nat.le_of_ble_eq_true rfl | omega | (dsimp only; omega)) (by first | exact Nat.le_of_ble_eq_true rfl | omega | (dsimp only; omega)) ?_ (fun x15 σ14 h9 => ?_)
                · exact fun E σ14 hx => VX_out hG (by first | exact Nat.le_of_ble_eq_true rfl | omega | (dsimp only; omega)) (by first | exact Nat.le_of_ble_eq_true rfl | omega | (dsimp only; omega)) hx
                · replace h := h9
                  clear h9
                  refine V_if_eq (tgt := 72) hG dX10_split_60 (by decide) (fun c => ?_) (fun c => ?_)
                  · replace h := h.1 c
                    refine V_forget (lo' := [some (.ref this), some (.int a0), some (.int a1), none]) ⟨rfl, ⟨rfl, ⟨rfl, trivial⟩⟩⟩ ?_
                    refine V_widen (k' := 0) (n' := 0) (by first | exact Nat.le_of_ble_eq_true rfl | omega | (dsimp only; omega)) (by first | exact Nat.le_of_ble_eq_true rfl | omega | (dsimp only; omega)) ?_
                    exact wv_X10_split_72 hl hG  _ _ _ _ _ h
                  · replace h := h.2 c
                    refine V_aload_n (v := .ref this) hG dX10_split_63 rfl rfl ?_
                    obtain ⟨ht, h⟩ := h
                    refine V_getI hG dX10_split_64 fl_X10_176 rfl ht ?_
                    refine V_bipush (v := 60) hG (by decide) dX10_split_67 ?_
                    refine V_icmp_ne (tgt := 76) hG dX10_split_69 (by decide) (fun c => ?_) (fun c => ?_)
                    · replace h := h.1 c
                      refine V_iconst (v := 0) hG (by decide) dX10_split_76 ?_
                      refine V_forget (lo' := [some (.ref this), some (.int a0), some (.int a1), none]) ⟨rfl, ⟨rfl, ⟨rfl, trivial⟩⟩⟩ ?_
                      refine V_widen (k' := 0) (n' := 0) (by first | exact Nat.le_of_ble_eq_true rfl | omega | (dsimp only; omega)) (by first | exact Nat.le_of_ble_eq_true rfl | omega | (dsimp only; omega)) ?_
                      exact wv_X10_split_77 hl hG  _ _ _ _ _ _ h
                    · replace h := h.2 c
                      refine V_forget (lo' := [some (.ref this), some (.int a0), some (.int a1), none]) ⟨rfl, ⟨rfl, ⟨rfl, trivial⟩⟩⟩ ?_
                      refine V_widen (k' := 0) (n' := 0) (by first | exact Nat.le_of_ble_eq_true rfl | omega | (dsimp only; omega)) (by first | exact Nat.le_of_ble_eq_true rfl | omega | (dsimp only; omega)) ?_
                      exact wv_X10_split_72 hl hG  _ _ _ _ _ h
        · replace h := h.2 c
          refine V_forget (lo' := [some (.ref this), some (.int a0), some (.int a1), none]) ⟨rfl, ⟨rfl, ⟨rfl, trivial⟩⟩⟩ ?_
          refine V_widen (k' := 0) (n' := 0) (by first | exact Nat.le_of_ble_eq_true rfl | omega | (dsimp only; omega)) (by first | exact Nat.le_of_ble_eq_true rfl | omega | (dsimp only; omega)) ?_
          exact wv_X10_split_28 hl hG  _ _ _ _ _ h
    · replace h := h.2 c
      refine V_iconst (v := 1) hG (by decide) dX10_split_9 ?_
      refine V_goto (tgt := 77) hG dX10_split_10 (by decide) ?_
      refine V_forget (lo' := [some (.ref this), some (.int a0), some (.int a1), none]) ⟨rfl, ⟨rfl, ⟨rfl, trivial⟩⟩⟩ ?_
      refine V_widen (k' := 0) (n' := 0) (by first | exact Nat.le_of_ble_eq_true rfl | omega | (dsimp only; omega)) (by first | exact Nat.le_of_ble_eq_true rfl | omega | (dsimp only; omega)) ?_
      exact wv_X10_split_77 hl hG  _ _ _ _ _ _ h
def wp_X10_canJoin_55  (this : Nat) (v1 : Int32) (v2 : Int32) (s0 : Int32) (σ : Sg) (Post : Rs → Sg → Prop) : Prop := ((s0 = 0 → (b01 (0 : Int32) ∧ Post (.inl (some (.int (0 : Int32)))) σ)) ∧ (¬ s0 = 0 → this % 32 = 10 ∧ ∀ o1, o1 = sP σ this 21 → ∃ u2, o1 = some u2 ∧ aty (u2 % 32) = some .boolean ∧ ∃ j3, v1 = nI j3 ∧ j3 < aln u2 ∧ ((¬ (sI σ u2 j3) = 0 → (b01 (0 : Int32) ∧ Post (.inl (some (.int (0 : Int32)))) σ)) ∧ ((sI σ u2 j3) = 0 → this % 32 = 10 ∧ ∀ o4, o4 = sP σ this 21 → ∃ u5, o4 = some u5 ∧ aty (u5 % 32) = some .boolean ∧ ∃ j6, v2 = nI j6 ∧ j6 < aln u5 ∧ ((¬ (sI σ u5 j6) = 0 → (b01 (0 : Int32) ∧ Post (.inl (some (.int (0 : Int32)))) σ)) ∧ ((sI σ u5 j6) = 0 → this % 32 = 10 ∧ (((60 : Int32) ≤ (sI σ this 14) → (b01 (0 : Int32) ∧ Post (.inl (some (.int (0 : Int32)))) σ)) ∧ (¬ (60 : Int32) ≤ (sI σ this 14) → (b01 (1 : Int32) ∧ Post (.inl (some (.int (1 : Int32)))) σ)))))))))
set_option maxRecDepth 100000 in
set_option maxHeartbeats 4000000 in
theorem wv_X10_canJoin_55 {L9 : Launch} {G : Cx} {Post : Rs → Sg → Prop} (hl : L9.stackTraces = false) (hG : CX L9 G yX10_canJoin cX10_canJoin 4 (some .boolean) [] { frames := 0, cells := 0, slots := 0, locals := 0 })   : ∀ (this : Nat) (v1 : Int32) (v2 : Int32) (s0 : Int32) (σ : Sg), wp_X10_canJoin_55 this v1 v2 s0 σ Post → V G (QM G 0 0 Post) 55 [some (.ref this), some (.int v1), some (.int v2), none] [.int s0] σ 0 0 := by
  intro this v1 v2 s0 σ h
  unfold wp_X10_canJoin_55 at h
  refine V_istore_n hG dX10_canJoin_55 (Nat.le_of_ble_eq_true rfl) (hpV rfl rfl) ?_
  refine V_iload_n hG dX10_canJoin_56 rfl ?_
  refine V_if_eq (tgt := 91) hG dX10_canJoin_57 (by decide) (fun c => ?_) (fun c => ?_)
  · replace h := h.1 c
    refine V_iconst (v := 0) hG (by decide) dX10_canJoin_91 ?_
    exact V_zret hG dX10_canJoin_92 h.1 (by first | exact Nat.le_of_ble_eq_true rfl | omega | (dsimp only; omega)) (by first | exact Nat.le_of_ble_eq_true rfl | omega | (dsimp only; omega)) h.2
  · replace h := h.2 c
    refine V_aload_n (v := .ref this) hG dX10_canJoin_60 rfl rfl ?_
    obtain ⟨ht, h⟩ := h
    refine V_getPv hG dX10_canJoin_61 fl_X10_71 rfl ht (fun o1 ho => ?_)
    replace h := h o1 ho
    refine V_iload_n hG dX10_canJoin_64 rfl ?_
    obtain ⟨u2, he, h⟩ := h
    subst he
    obtain ⟨ha, j3, hi, hj, h⟩ := h
    refine V_zald hG dX10_canJoin_65 ha hi hj ?_
    refine V_if_ne (tgt := 91) hG dX10_canJoin_66 (by decide) (fun c => ?_) (fun c => ?_)
    · replace h := h.1 c
      refine V_iconst (v := 0) hG (by decide) dX10_canJoin_91 ?_
      exact V_zret hG dX10_canJoin_92 h.1 (by first | exact Nat.le_of_ble_eq_true rfl | omega | (dsimp only; omega)) (by first | exact Nat.le_of_ble_eq_true rfl | omega | (dsimp only; omega)) h.2
    · replace h := h.2 c
      refine V_aload_n (v := .ref this) hG dX10_canJoin_69 rfl rfl ?_
      obtain ⟨ht, h⟩ := h
      refine V_getPv hG dX10_canJoin_70 fl_X10_71 rfl ht (fun o4 ho => ?_)
      replace h := h o4 ho
      refine V_iload_n hG dX10_canJoin_73 rfl ?_
      obtain ⟨u5, he, h⟩ := h
      subst he
      obtain ⟨ha, j6, hi, hj, h⟩ := h
      refine V_zald hG dX10_canJoin_74 ha hi hj ?_
      refine V_if_ne (tgt := 91) hG dX10_canJoin_75 (by decide) (fun c => ?_) (fun c => ?_)
      · replace h := h.1 c
        refine V_iconst (v := 0) hG (by decide) dX10_canJoin_91 ?_
        exact V_zret hG dX10_canJoin_92 h.1 (by first | exact Nat.le_of_ble_eq_true rfl | omega | (dsimp only; omega)) (by first | exact Nat.le_of_ble_eq_true rfl | omega | (dsimp only; omega)) h.2
      · replace h := h.2 c
        refine V_aload_n (v := .ref this) hG dX10_canJoin_78 rfl rfl ?_
        obtain ⟨ht, h⟩ := h
        refine V_getI hG dX10_canJoin_79 fl_X10_176 rfl ht ?_
        refine V_bipush (v := 60) hG (by decide) dX10_canJoin_82 ?_
        refine V_icmp_ge (tgt := 91) hG dX10_canJoin_84 (by decide) (fun c => ?_) (fun c => ?_)
        · replace h := h.1 c
          refine V_iconst (v := 0) hG (by decide) dX10_canJoin_91 ?_
          exact V_zret hG dX10_canJoin_92 h.1 (by first | exact Nat.le_of_ble_eq_true rfl | omega | (dsimp only; omega)) (by first | exact Nat.le_of_ble_eq_true rfl | omega | (dsimp only; omega)) h.2
        · replace h := h.2 c
          refine V_iconst (v := 1) hG (by decide) dX10_canJoin_87 ?_
          refine V_goto (tgt := 92) hG dX10_canJoin_88 (by decide) ?_
          exact V_zret hG dX10_canJoin_92 h.1 (by first | exact Nat.le_of_ble_eq_true rfl | omega | (dsimp only; omega)) (by first | exact Nat.le_of_ble_eq_true rfl | omega | (dsimp only; omega)) h.2
def wp_X10_canJoin_54  (this : Nat) (v1 : Int32) (v2 : Int32) (σ : Sg) (Post : Rs → Sg → Prop) : Prop := (wp_X10_canJoin_55 this v1 v2 (0 : Int32) σ Post)
set_option maxRecDepth 100000 in
set_option maxHeartbeats 4000000 in
theorem wv_X10_canJoin_54 {L9 : Launch} {G : Cx} {Post : Rs → Sg → Prop} (hl : L9.stackTraces = false) (hG : CX L9 G yX10_canJoin cX10_canJoin 4 (some .boolean) [] { frames := 0, cells := 0, slots := 0, locals := 0 })   : ∀ (this : Nat) (v1 : Int32) (v2 : Int32) (σ : Sg), wp_X10_canJoin_54 this v1 v2 σ Post → V G (QM G 0 0 Post) 54 [some (.ref this), some (.int v1), some (.int v2), none] [] σ 0 0 := by
  intro this v1 v2 σ h
  unfold wp_X10_canJoin_54 at h
  refine V_iconst (v := 0) hG (by decide) dX10_canJoin_54 ?_
  refine V_forget (lo' := [some (.ref this), some (.int v1), some (.int v2), none]) ⟨rfl, ⟨rfl, ⟨rfl, trivial⟩⟩⟩ ?_
  refine V_widen (k' := 0) (n' := 0) (by first | exact Nat.le_of_ble_eq_true rfl | omega | (dsimp only; omega)) (by first | exact Nat.le_of_ble_eq_true rfl | omega | (dsimp only; omega)) ?_
  exact wv_X10_canJoin_55 hl hG  _ _ _ _ _ h
def wp_X10_canJoin (this : Nat) (a0 : Int32) (a1 : Int32) (σ : Sg) (Post : Rs → Sg → Prop) : Prop := this % 32 = 10 ∧ ∀ o1, o1 = sP σ this 18 → ∃ u2, o1 = some u2 ∧ aty (u2 % 32) = some .int ∧ ∃ j3, a0 = nI j3 ∧ j3 < aln u2 ∧ ((¬ (sI σ u2 j3) = (1 : Int32) → (wp_X10_canJoin_54 this a0 a1 σ Post)) ∧ ((sI σ u2 j3) = (1 : Int32) → this % 32 = 10 ∧ ∀ o4, o4 = sP σ this 18 → ∃ u5, o4 = some u5 ∧ aty (u5 % 32) = some .int ∧ ∃ j6, a1 = nI j6 ∧ j6 < aln u5 ∧ ((¬ (sI σ u5 j6) = (1 : Int32) → (wp_X10_canJoin_54 this a0 a1 σ Post)) ∧ ((sI σ u5 j6) = (1 : Int32) → this % 32 = 10 ∧ ∀ o7, o7 = sP σ this 15 → ∃ u8, o7 = some u8 ∧ aty (u8 % 32) = some .int ∧ ∃ j9, a0 = nI j9 ∧ j9 < aln u8 ∧ this % 32 = 10 ∧ ∀ o10, o10 = sP σ this 15 → ∃ u11, o10 = some u11 ∧ aty (u11 % 32) = some .int ∧ ∃ j12, a1 = nI j12 ∧ j12 < aln u11 ∧ ((¬ (sI σ u8 j9) = (sI σ u11 j12) → (wp_X10_canJoin_54 this a0 a1 σ Post)) ∧ ((sI σ u8 j9) = (sI σ u11 j12) → this % 32 = 10 ∧ ∀ o13, o13 = sP σ this 19 → ∃ u14, o13 = some u14 ∧ aty (u14 % 32) = some .int ∧ ∃ j15, a0 = nI j15 ∧ j15 < aln u14 ∧ this % 32 = 10 ∧ ∀ o16, o16 = sP σ this 19 → ∃ u17, o16 = some u17 ∧ aty (u17 % 32) = some .int ∧ ∃ j18, a1 = nI j18 ∧ j18 < aln u17 ∧ ((¬ (sI σ u14 j15) = (sI σ u17 j18) → (wp_X10_canJoin_54 this a0 a1 σ Post)) ∧ ((sI σ u14 j15) = (sI σ u17 j18) → (wp_X10_canJoin_55 this a0 a1 (1 : Int32) σ Post)))))))))
set_option maxRecDepth 100000 in
set_option maxHeartbeats 4000000 in
theorem ct_X10_canJoin {l : Launch} (hl : l.stackTraces = false) {this : Nat} {a0 : Int32} {a1 : Int32} {σ : Sg} {Post : Rs → Sg → Prop} (h : wp_X10_canJoin this a0 a1 σ Post) : Ct l yX10_canJoin (.code yX10_canJoin cX10_canJoin 4 (some .boolean)) 0 0 0 0 [.ref this, .int a0, .int a1] σ Post := by
  refine Ct_of [some (.ref this), some (.int a0), some (.int a1), none] hl (by decide +kernel) rfl (fun ad => by rfl) (fun ad => by exact Nat.le_of_ble_eq_true rfl) (fun v hv => mem_lo hv rfl) ?_
  intro G hG
  unfold wp_X10_canJoin at h
  refine V_aload_n (v := .ref this) hG dX10_canJoin_0 rfl rfl ?_
  obtain ⟨ht, h⟩ := h
  refine V_getPv hG dX10_canJoin_1 fl_X10_62 rfl ht (fun o1 ho => ?_)
  replace h := h o1 ho
  refine V_iload_n hG dX10_canJoin_4 rfl ?_
  obtain ⟨u2, he, h⟩ := h
  subst he
  obtain ⟨ha, j3, hi, hj, h⟩ := h
  refine V_iald hG dX10_canJoin_5 ha hi hj ?_
  refine V_iconst (v := 1) hG (by decide) dX10_canJoin_6 ?_
  refine V_icmp_ne (tgt := 54) hG dX10_canJoin_7 (by decide) (fun c => ?_) (fun c => ?_)
  · replace h := h.1 c
    refine V_forget (lo' := [some (.ref this), some (.int a0), some (.int a1), none]) ⟨rfl, ⟨rfl, ⟨rfl, trivial⟩⟩⟩ ?_
    refine V_widen (k' := 0) (n' := 0) (by first | exact Nat.le_of_ble_eq_true rfl | omega | (dsimp only; omega)) (by first | exact Nat.le_of_ble_eq_true rfl | omega | (dsimp only; omega)) ?_
    exact wv_X10_canJoin_54 hl hG  _ _ _ _ h
  · replace h := h.2 c
    refine V_aload_n (v := .ref this) hG dX10_canJoin_10 rfl rfl ?_
    obtain ⟨ht, h⟩ := h
    refine V_getPv hG dX10_canJoin_11 fl_X10_62 rfl ht (fun o4 ho => ?_)
    replace h := h o4 ho
    refine V_iload_n hG dX10_canJoin_14 rfl ?_
    obtain ⟨u5, he, h⟩ := h
    subst he
    obtain ⟨ha, j6, hi, hj, h⟩ := h
    refine V_iald hG dX10_canJoin_15 ha hi hj ?_
    refine V_iconst (v := 1) hG (by decide) dX10_canJoin_16 ?_
    refine V_icmp_ne (tgt := 54) hG dX10_canJoin_17 (by decide) (fun c => ?_) (fun c => ?_)
    · replace h := h.1 c
      refine V_forget (lo' := [some (.ref this), some (.int a0), some (.int a1), none]) ⟨rfl, ⟨rfl, ⟨rfl, trivial⟩⟩⟩ ?_
      refine V_widen (k' := 0) (n' := 0) (by first | exact Nat.le_of_ble_eq_true rfl | omega | (dsimp only; omega)) (by first | exact Nat.le_of_ble_eq_true rfl | omega | (dsimp only; omega)) ?_
      exact wv_X10_canJoin_54 hl hG  _ _ _ _ h
    · replace h := h.2 c
      refine V_aload_n (v := .ref this) hG dX10_canJoin_20 rfl rfl ?_
      obtain ⟨ht, h⟩ := h
      refine V_getPv hG dX10_canJoin_21 fl_X10_53 rfl ht (fun o7 ho => ?_)
      replace h := h o7 ho
      refine V_iload_n hG dX10_canJoin_24 rfl ?_
      obtain ⟨u8, he, h⟩ := h
      subst he
      obtain ⟨ha, j9, hi, hj, h⟩ := h
      refine V_iald hG dX10_canJoin_25 ha hi hj ?_
      refine V_aload_n (v := .ref this) hG dX10_canJoin_26 rfl rfl ?_
      obtain ⟨ht, h⟩ := h
      refine V_getPv hG dX10_canJoin_27 fl_X10_53 rfl ht (fun o10 ho => ?_)
      replace h := h o10 ho
      refine V_iload_n hG dX10_canJoin_30 rfl ?_
      obtain ⟨u11, he, h⟩ := h
      subst he
      obtain ⟨ha, j12, hi, hj, h⟩ := h
      refine V_iald hG dX10_canJoin_31 ha hi hj ?_
      refine V_icmp_ne (tgt := 54) hG dX10_canJoin_32 (by decide) (fun c => ?_) (fun c => ?_)
      · replace h := h.1 c
        refine V_forget (lo' := [some (.ref this), some (.int a0), some (.int a1), none]) ⟨rfl, ⟨rfl, ⟨rfl, trivial⟩⟩⟩ ?_
        refine V_widen (k' := 0) (n' := 0) (by first | exact Nat.le_of_ble_eq_true rfl | omega | (dsimp only; omega)) (by first | exact Nat.le_of_ble_eq_true rfl | omega | (dsimp only; omega)) ?_
        exact wv_X10_canJoin_54 hl hG  _ _ _ _ h
      · replace h := h.2 c
        refine V_aload_n (v := .ref this) hG dX10_canJoin_35 rfl rfl ?_
        obtain ⟨ht, h⟩ := h
        refine V_getPv hG dX10_canJoin_36 fl_X10_65 rfl ht (fun o13 ho => ?_)
        replace h := h o13 ho
        refine V_iload_n hG dX10_canJoin_39 rfl ?_
        obtain ⟨u14, he, h⟩ := h
        subst he
        obtain ⟨ha, j15, hi, hj, h⟩ := h
        refine V_iald hG dX10_canJoin_40 ha hi hj ?_
        refine V_aload_n (v := .ref this) hG dX10_canJoin_41 rfl rfl ?_
        obtain ⟨ht, h⟩ := h
        refine V_getPv hG dX10_canJoin_42 fl_X10_65 rfl ht (fun o16 ho => ?_)
        replace h := h o16 ho
        refine V_iload_n hG dX10_canJoin_45 rfl ?_
        obtain ⟨u17, he, h⟩ := h
        subst he
        obtain ⟨ha, j18, hi, hj, h⟩ := h
        refine V_iald hG dX10_canJoin_46 ha hi hj ?_
        refine V_icmp_ne (tgt := 54) hG dX10_canJoin_47 (by decide) (fun c => ?_) (fun c => ?_)
        · replace h := h.1 c
          refine V_forget (lo' := [some (.ref this), some (.int a0), some (.int a1), none]) ⟨rfl, ⟨rfl, ⟨rfl, trivial⟩⟩⟩ ?_
          refine V_widen (k' := 0) (n' := 0) (by first | exact Nat.le_of_ble_eq_true rfl | omega | (dsimp only; omega)) (by first | exact Nat.le_of_ble_eq_true rfl | omega | (dsimp only; omega)) ?_
          exact wv_X10_canJoin_54 hl hG  _ _ _ _ h
        · replace h := h.2 c
          refine V_iconst (v := 1) hG (by decide) dX10_canJoin_50 ?_
          refine V_goto (tgt := 55) hG dX10_canJoin_51 (by decide) ?_
          refine V_forget (lo' := [some (.ref this), some (.int a0), some (.int a1), none]) ⟨rfl, ⟨rfl, ⟨rfl, trivial⟩⟩⟩ ?_
          refine V_widen (k' := 0) (n' := 0) (by first | exact Nat.le_of_ble_eq_true rfl | omega | (dsimp only; omega)) (by first | exact Nat.le_of_ble_eq_true rfl | omega | (dsimp only; omega)) ?_
          exact wv_X10_canJoin_55 hl hG  _ _ _ _ _ h
def wp_X10_join_157  (this : Nat) (v1 : Int32) (v2 : Int32) (v3 : Int32) (s0 : Option Nat) (s1 : Int32) (s2 : Int32) (σ : Sg) (Post : Rs → Sg → Prop) : Prop := ∃ u1, s0 = some u1 ∧ aty (u1 % 32) = some .boolean ∧ ∃ j2, s1 = nI j2 ∧ j2 < aln u1 ∧ b01 s2 ∧ this % 32 = 10 ∧ ∀ o3, o3 = sP (wI σ u1 j2 s2) this 23 → this % 32 = 10 ∧ ∀ o4, o4 = sP (wI σ u1 j2 s2) this 23 → ∃ u5, o4 = some u5 ∧ aty (u5 % 32) = some .int ∧ ∃ j6, v1 = nI j6 ∧ j6 < aln u5 ∧ this % 32 = 10 ∧ ∀ o7, o7 = sP (wI σ u1 j2 s2) this 23 → ∃ u8, o7 = some u8 ∧ aty (u8 % 32) = some .int ∧ ∃ j9, v2 = nI j9 ∧ j9 < aln u8 ∧ ∃ u10, o3 = some u10 ∧ aty (u10 % 32) = some .int ∧ ∃ j11, v3 = nI j11 ∧ j11 < aln u10 ∧ this % 32 = 10 ∧ ∀ o12, o12 = sP (wI (wI σ u1 j2 s2) u10 j11 ((sI (wI σ u1 j2 s2) u5 j6) ||| (sI (wI σ u1 j2 s2) u8 j9))) this 16 → ∃ u13, o12 = some u13 ∧ aty (u13 % 32) = some .int ∧ ∃ j14, v1 = nI j14 ∧ j14 < aln u13 ∧ this % 32 = 10 ∧ wp_X10_takeFrom this v1 (sI (wI (wI σ u1 j2 s2) u10 j11 ((sI (wI σ u1 j2 s2) u5 j6) ||| (sI (wI σ u1 j2 s2) u8 j9))) u13 j14) v3 (wI (wI σ u1 j2 s2) u10 j11 ((sI (wI σ u1 j2 s2) u5 j6) ||| (sI (wI σ u1 j2 s2) u8 j9))) (KV (fun σ15 => this % 32 = 10 ∧ ∀ o16, o16 = sP σ15 this 16 → ∃ u17, o16 = some u17 ∧ aty (u17 % 32) = some .int ∧ ∃ j18, v2 = nI j18 ∧ j18 < aln u17 ∧ this % 32 = 10 ∧ wp_X10_takeFrom this v2 (sI σ15 u17 j18) v3 σ15 (KV (fun σ19 => Post (.inl (some (.int v3))) σ19) (fun E σ19 => Post (.inr E) σ19))) (fun E σ15 => Post (.inr E) σ15))
set_option maxRecDepth 100000 in
set_option maxHeartbeats 4000000 in
theorem wv_X10_join_157 {L9 : Launch} {G : Cx} {Post : Rs → Sg → Prop} (hl : L9.stackTraces = false) (hG : CX L9 G yX10_join cX10_join 4 (some .int) [] { frames := 2, cells := 0, slots := 0, locals := 47 })   : ∀ (this : Nat) (v1 : Int32) (v2 : Int32) (v3 : Int32) (s0 : Option Nat) (s1 : Int32) (s2 : Int32) (σ : Sg), wp_X10_join_157 this v1 v2 v3 s0 s1 s2 σ Post → V G (QM G 0 0 Post) 157 [some (.ref this), some (.int v1), some (.int v2), some (.int v3)] [.int s2, .int s1, va_rf s0] σ 0 0 := by
  intro this v1 v2 v3 s0 s1 s2 σ h
  unfold wp_X10_join_157 at h
  obtain ⟨u1, he, h⟩ := h
  subst he
  obtain ⟨ha, j2, hi, hj, h⟩ := h
  obtain ⟨hb, h⟩ := h
  refine V_zast hG dX10_join_157 ha hb hi hj ?_
  refine V_aload_n (v := .ref this) hG dX10_join_158 rfl rfl ?_
  obtain ⟨ht, h⟩ := h
  refine V_getPv hG dX10_join_159 fl_X10_77 rfl ht (fun o3 ho => ?_)
  replace h := h o3 ho
  refine V_iload_n hG dX10_join_162 rfl ?_
  refine V_aload_n (v := .ref this) hG dX10_join_163 rfl rfl ?_
  obtain ⟨ht, h⟩ := h
  refine V_getPv hG dX10_join_164 fl_X10_77 rfl ht (fun o4 ho => ?_)
  replace h := h o4 ho
  refine V_iload_n hG dX10_join_167 rfl ?_
  obtain ⟨u5, he, h⟩ := h
  subst he
  obtain ⟨ha, j6, hi, hj, h⟩ := h
  refine V_iald hG dX10_join_168 ha hi hj ?_
  refine V_aload_n (v := .ref this) hG dX10_join_169 rfl rfl ?_
  obtain ⟨ht, h⟩ := h
  refine V_getPv hG dX10_join_170 fl_X10_77 rfl ht (fun o7 ho => ?_)
  replace h := h o7 ho
  refine V_iload_n hG dX10_join_173 rfl ?_
  obtain ⟨u8, he, h⟩ := h
  subst he
  obtain ⟨ha, j9, hi, hj, h⟩ := h
  refine V_iald hG dX10_join_174 ha hi hj ?_
  refine V_ior hG dX10_join_175 ?_
  obtain ⟨u10, he, h⟩ := h
  subst he
  obtain ⟨ha, j11, hi, hj, h⟩ := h
  refine V_iast hG dX10_join_176 ha hi hj ?_
  refine V_aload_n (v := .ref this) hG dX10_join_177 rfl rfl ?_
  refine V_iload_n hG dX10_join_178 rfl ?_
  refine V_aload_n (v := .ref this) hG dX10_join_179 rfl rfl ?_
  obtain ⟨ht, h⟩ := h
  refine V_getPv hG dX10_join_180 fl_X10_56 rfl ht (fun o12 ho => ?_)
  replace h := h o12 ho
  refine V_iload_n hG dX10_join_183 rfl ?_
  obtain ⟨u13, he, h⟩ := h
  subst he
  obtain ⟨ha, j14, hi, hj, h⟩ := h
  refine V_iald hG dX10_join_184 ha hi hj ?_
  refine V_iload_n hG dX10_join_185 rfl ?_
  obtain ⟨ht, h⟩ := h
  refine V_cVV _ _ hG dX10_join_186 (ct_X10_takeFrom hl h) mv_X10_takeFrom ml_X10_232 ht rfl rfl rfl rfl (by first | exact Nat.le_of_ble_eq_true rfl | (simp only [List.map_cons, List.map_nil, List.sum_cons, List.sum_nil, cat_rf]; exact Nat.le_of_ble_eq_true rfl)) (Nat.le_of_ble_eq_true rfl) (Nat.le_of_ble_eq_true rfl) (by first | exact Nat.le_of_ble_eq_true rfl | omega | (dsimp only; omega)) (by first | exact Nat.le_of_ble_eq_true rfl | omega | (dsimp only; omega)) ?_ (fun σ15 h9 => ?_)
  · exact fun E σ15 hx => VX_out hG (by first | exact Nat.le_of_ble_eq_true rfl | omega | (dsimp only; omega)) (by first | exact Nat.le_of_ble_eq_true rfl | omega | (dsimp only; omega)) hx
  · replace h := h9
    clear h9
    refine V_aload_n (v := .ref this) hG dX10_join_189 rfl rfl ?_
    refine V_iload_n hG dX10_join_190 rfl ?_
    refine V_aload_n (v := .ref this) hG dX10_join_191 rfl rfl ?_
    obtain ⟨ht, h⟩ := h
    refine V_getPv hG dX10_join_192 fl_X10_56 rfl ht (fun o16 ho => ?_)
    replace h := h o16 ho
    refine V_iload_n hG dX10_join_195 rfl ?_
    obtain ⟨u17, he, h⟩ := h
    subst he
    obtain ⟨ha, j18, hi, hj, h⟩ := h
    refine V_iald hG dX10_join_196 ha hi hj ?_
    refine V_iload_n hG dX10_join_197 rfl ?_
    obtain ⟨ht, h⟩ := h
    refine V_cVV _ _ hG dX10_join_198 (ct_X10_takeFrom hl h) mv_X10_takeFrom ml_X10_232 ht rfl rfl rfl rfl (by first | exact Nat.le_of_ble_eq_true rfl | (simp only [List.map_cons, List.map_nil, List.sum_cons, List.sum_nil, cat_rf]; exact Nat.le_of_ble_eq_true rfl)) (Nat.le_of_ble_eq_true rfl) (Nat.le_of_ble_eq_true rfl) (by first | exact Nat.le_of_ble_eq_true rfl | omega | (dsimp only; omega)) (by first | exact Nat.le_of_ble_eq_true rfl | omega | (dsimp only; omega)) ?_ (fun σ19 h9 => ?_)
    · exact fun E σ19 hx => VX_out hG (by first | exact Nat.le_of_ble_eq_true rfl | omega | (dsimp only; omega)) (by first | exact Nat.le_of_ble_eq_true rfl | omega | (dsimp only; omega)) hx
    · replace h := h9
      clear h9
      refine V_iload_n hG dX10_join_201 rfl ?_
      exact V_iret hG dX10_join_202 (by first | exact Nat.le_of_ble_eq_true rfl | omega | (dsimp only; omega)) (by first | exact Nat.le_of_ble_eq_true rfl | omega | (dsimp only; omega)) h
def wp_X10_join_152  (this : Nat) (v1 : Int32) (v2 : Int32) (v3 : Int32) (s0 : Option Nat) (s1 : Int32) (σ : Sg) (Post : Rs → Sg → Prop) : Prop := (wp_X10_join_157 this v1 v2 v3 s0 s1 (1 : Int32) σ Post)
set_option maxRecDepth 100000 in
set_option maxHeartbeats 4000000 in
theorem wv_X10_join_152 {L9 : Launch} {G : Cx} {Post : Rs → Sg → Prop} (hl : L9.stackTraces = false) (hG : CX L9 G yX10_join cX10_join 4 (some .int) [] { frames := 2, cells := 0, slots := 0, locals := 47 })   : ∀ (this : Nat) (v1 : Int32) (v2 : Int32) (v3 : Int32) (s0 : Option Nat) (s1 : Int32) (σ : Sg), wp_X10_join_152 this v1 v2 v3 s0 s1 σ Post → V G (QM G 0 0 Post) 152 [some (.ref this), some (.int v1), some (.int v2), some (.int v3)] [.int s1, va_rf s0] σ 0 0 := by
  intro this v1 v2 v3 s0 s1 σ h
  unfold wp_X10_join_152 at h
  refine V_iconst (v := 1) hG (by decide) dX10_join_152 ?_
  refine V_goto (tgt := 157) hG dX10_join_153 (by decide) ?_
  refine V_forget (lo' := [some (.ref this), some (.int v1), some (.int v2), some (.int v3)]) ⟨rfl, ⟨rfl, ⟨rfl, ⟨rfl, trivial⟩⟩⟩⟩ ?_
  refine V_widen (k' := 0) (n' := 0) (by first | exact Nat.le_of_ble_eq_true rfl | omega | (dsimp only; omega)) (by first | exact Nat.le_of_ble_eq_true rfl | omega | (dsimp only; omega)) ?_
  exact wv_X10_join_157 hl hG  _ _ _ _ _ _ _ _ h
def wp_X10_join_128  (this : Nat) (v1 : Int32) (v2 : Int32) (v3 : Int32) (s0 : Option Nat) (s1 : Int32) (s2 : Int32) (σ : Sg) (Post : Rs → Sg → Prop) : Prop := ∃ u1, s0 = some u1 ∧ aty (u1 % 32) = some .int ∧ ∃ j2, s1 = nI j2 ∧ j2 < aln u1 ∧ this % 32 = 10 ∧ ∀ o3, o3 = sP (wI σ u1 j2 s2) this 22 → this % 32 = 10 ∧ ∀ o4, o4 = sP (wI σ u1 j2 s2) this 22 → ∃ u5, o4 = some u5 ∧ aty (u5 % 32) = some .boolean ∧ ∃ j6, v1 = nI j6 ∧ j6 < aln u5 ∧ ((¬ (sI (wI σ u1 j2 s2) u5 j6) = 0 → (wp_X10_join_152 this v1 v2 v3 o3 v3 (wI σ u1 j2 s2) Post)) ∧ ((sI (wI σ u1 j2 s2) u5 j6) = 0 → this % 32 = 10 ∧ ∀ o7, o7 = sP (wI σ u1 j2 s2) this 22 → ∃ u8, o7 = some u8 ∧ aty (u8 % 32) = some .boolean ∧ ∃ j9, v2 = nI j9 ∧ j9 < aln u8 ∧ (((sI (wI σ u1 j2 s2) u8 j9) = 0 → (wp_X10_join_157 this v1 v2 v3 o3 v3 (0 : Int32) (wI σ u1 j2 s2) Post)) ∧ (¬ (sI (wI σ u1 j2 s2) u8 j9) = 0 → (wp_X10_join_152 this v1 v2 v3 o3 v3 (wI σ u1 j2 s2) Post)))))
set_option maxRecDepth 100000 in
set_option maxHeartbeats 4000000 in
theorem wv_X10_join_128 {L9 : Launch} {G : Cx} {Post : Rs → Sg → Prop} (hl : L9.stackTraces = false) (hG : CX L9 G yX10_join cX10_join 4 (some .int) [] { frames := 2, cells := 0, slots := 0, locals := 47 })   : ∀ (this : Nat) (v1 : Int32) (v2 : Int32) (v3 : Int32) (s0 : Option Nat) (s1 : Int32) (s2 : Int32) (σ : Sg), wp_X10_join_128 this v1 v2 v3 s0 s1 s2 σ Post → V G (QM G 0 0 Post) 128 [some (.ref this), some (.int v1), some (.int v2), some (.int v3)] [.int s2, .int s1, va_rf s0] σ 0 0 := by
  intro this v1 v2 v3 s0 s1 s2 σ h
  unfold wp_X10_join_128 at h
  obtain ⟨u1, he, h⟩ := h
  subst he
  obtain ⟨ha, j2, hi, hj, h⟩ := h
  refine V_iast hG dX10_join_128 ha hi hj ?_
  refine V_aload_n (v := .ref this) hG dX10_join_129 rfl rfl ?_
  obtain ⟨ht, h⟩ := h
  refine V_getPv hG dX10_join_130 fl_X10_74 rfl ht (fun o3 ho => ?_)
  replace h := h o3 ho
  refine V_iload_n hG dX10_join_133 rfl ?_
  refine V_aload_n (v := .ref this) hG dX10_join_134 rfl rfl ?_
  obtain ⟨ht, h⟩ := h
  refine V_getPv hG dX10_join_135 fl_X10_74 rfl ht (fun o4 ho => ?_)
  replace h := h o4 ho
  refine V_iload_n hG dX10_join_138 rfl ?_
  obtain ⟨u5, he, h⟩ := h
  subst he
  obtain ⟨ha, j6, hi, hj, h⟩ := h
  refine V_zald hG dX10_join_139 ha hi hj ?_
  refine V_if_ne (tgt := 152) hG dX10_join_140 (by decide) (fun c => ?_) (fun c => ?_)
  · replace h := h.1 c
    refine V_forget (lo' := [some (.ref this), some (.int v1), some (.int v2), some (.int v3)]) ⟨rfl, ⟨rfl, ⟨rfl, ⟨rfl, trivial⟩⟩⟩⟩ ?_
    refine V_widen (k' := 0) (n' := 0) (by first | exact Nat.le_of_ble_eq_true rfl | omega | (dsimp only; omega)) (by first | exact Nat.le_of_ble_eq_true rfl | omega | (dsimp only; omega)) ?_
    exact wv_X10_join_152 hl hG  _ _ _ _ _ _ _ h
  · replace h := h.2 c
    refine V_aload_n (v := .ref this) hG dX10_join_143 rfl rfl ?_
    obtain ⟨ht, h⟩ := h
    refine V_getPv hG dX10_join_144 fl_X10_74 rfl ht (fun o7 ho => ?_)
    replace h := h o7 ho
    refine V_iload_n hG dX10_join_147 rfl ?_
    obtain ⟨u8, he, h⟩ := h
    subst he
    obtain ⟨ha, j9, hi, hj, h⟩ := h
    refine V_zald hG dX10_join_148 ha hi hj ?_
    refine V_if_eq (tgt := 156) hG dX10_join_149 (by decide) (fun c => ?_) (fun c => ?_)
    · replace h := h.1 c
      refine V_iconst (v := 0) hG (by decide) dX10_join_156 ?_
      refine V_forget (lo' := [some (.ref this), some (.int v1), some (.int v2), some (.int v3)]) ⟨rfl, ⟨rfl, ⟨rfl, ⟨rfl, trivial⟩⟩⟩⟩ ?_
      refine V_widen (k' := 0) (n' := 0) (by first | exact Nat.le_of_ble_eq_true rfl | omega | (dsimp only; omega)) (by first | exact Nat.le_of_ble_eq_true rfl | omega | (dsimp only; omega)) ?_
      exact wv_X10_join_157 hl hG  _ _ _ _ _ _ _ _ h
    · replace h := h.2 c
      refine V_forget (lo' := [some (.ref this), some (.int v1), some (.int v2), some (.int v3)]) ⟨rfl, ⟨rfl, ⟨rfl, ⟨rfl, trivial⟩⟩⟩⟩ ?_
      refine V_widen (k' := 0) (n' := 0) (by first | exact Nat.le_of_ble_eq_true rfl | omega | (dsimp only; omega)) (by first | exact Nat.le_of_ble_eq_true rfl | omega | (dsimp only; omega)) ?_
      exact wv_X10_join_152 hl hG  _ _ _ _ _ _ _ h
def wp_X10_join_44  (this : Nat) (v1 : Int32) (v2 : Int32) (s0 : Nat) (s1 : Int32) (σ : Sg) (Post : Rs → Sg → Prop) : Prop := s0 % 32 = 10 ∧ this % 32 = 10 ∧ (((sI (wI σ s0 59 s1) this 59) ≤ 0 → this % 32 = 10 ∧ ∀ o1, o1 = sP (wI σ s0 59 s1) this 15 → ∃ u2, o1 = some u2 ∧ aty (u2 % 32) = some .int ∧ ∃ j3, v1 = nI j3 ∧ j3 < aln u2 ∧ this % 32 = 10 ∧ ∀ o4, o4 = sP (wI σ s0 59 s1) this 16 → ∃ u5, o4 = some u5 ∧ aty (u5 % 32) = some .int ∧ ∃ j6, v1 = nI j6 ∧ j6 < aln u5 ∧ this % 32 = 10 ∧ ∀ o7, o7 = sP (wI σ s0 59 s1) this 16 → ∃ u8, o7 = some u8 ∧ aty (u8 % 32) = some .int ∧ ∃ j9, v2 = nI j9 ∧ j9 < aln u8 ∧ this % 32 = 10 ∧ wp_X10_newBatch this (sI (wI σ s0 59 s1) u2 j3) ((sI (wI σ s0 59 s1) u5 j6) + (sI (wI σ s0 59 s1) u8 j9)) (1 : Int32) (wI σ s0 59 s1) (KI (fun x11 σ10 => this % 32 = 10 ∧ ∀ o12, o12 = sP σ10 this 19 → this % 32 = 10 ∧ ∀ o13, o13 = sP σ10 this 19 → ∃ u14, o13 = some u14 ∧ aty (u14 % 32) = some .int ∧ ∃ j15, v1 = nI j15 ∧ j15 < aln u14 ∧ ∃ u16, o12 = some u16 ∧ aty (u16 % 32) = some .int ∧ ∃ j17, x11 = nI j17 ∧ j17 < aln u16 ∧ this % 32 = 10 ∧ ∀ o18, o18 = sP (wI σ10 u16 j17 (sI σ10 u14 j15)) this 20 → this % 32 = 10 ∧ ∀ o19, o19 = sP (wI σ10 u16 j17 (sI σ10 u14 j15)) this 20 → ∃ u20, o19 = some u20 ∧ aty (u20 % 32) = some .int ∧ ∃ j21, v1 = nI j21 ∧ j21 < aln u20 ∧ this % 32 = 10 ∧ ∀ o22, o22 = sP (wI σ10 u16 j17 (sI σ10 u14 j15)) this 20 → ∃ u23, o22 = some u23 ∧ aty (u23 % 32) = some .int ∧ ∃ j24, v2 = nI j24 ∧ j24 < aln u23 ∧ (((sI (wI σ10 u16 j17 (sI σ10 u14 j15)) u20 j21) ≤ (sI (wI σ10 u16 j17 (sI σ10 u14 j15)) u23 j24) → this % 32 = 10 ∧ ∀ o25, o25 = sP (wI σ10 u16 j17 (sI σ10 u14 j15)) this 20 → ∃ u26, o25 = some u26 ∧ aty (u26 % 32) = some .int ∧ ∃ j27, v2 = nI j27 ∧ j27 < aln u26 ∧ (wp_X10_join_128 this v1 v2 x11 o18 x11 (sI (wI σ10 u16 j17 (sI σ10 u14 j15)) u26 j27) (wI σ10 u16 j17 (sI σ10 u14 j15)) Post)) ∧ (¬ (sI (wI σ10 u16 j17 (sI σ10 u14 j15)) u20 j21) ≤ (sI (wI σ10 u16 j17 (sI σ10 u14 j15)) u23 j24) → this % 32 = 10 ∧ ∀ o28, o28 = sP (wI σ10 u16 j17 (sI σ10 u14 j15)) this 20 → ∃ u29, o28 = some u29 ∧ aty (u29 % 32) = some .int ∧ ∃ j30, v1 = nI j30 ∧ j30 < aln u29 ∧ (wp_X10_join_128 this v1 v2 x11 o18 x11 (sI (wI σ10 u16 j17 (sI σ10 u14 j15)) u29 j30) (wI σ10 u16 j17 (sI σ10 u14 j15)) Post)))) (fun E σ10 => Post (.inr E) σ10))) ∧ (¬ (sI (wI σ s0 59 s1) this 59) ≤ 0 → Post (.inl (some (.int (0 : Int32)))) (wI σ s0 59 s1)))
set_option maxRecDepth 100000 in
set_option maxHeartbeats 4000000 in
theorem wv_X10_join_44 {L9 : Launch} {G : Cx} {Post : Rs → Sg → Prop} (hl : L9.stackTraces = false) (hG : CX L9 G yX10_join cX10_join 4 (some .int) [] { frames := 2, cells := 0, slots := 0, locals := 47 })   : ∀ (this : Nat) (v1 : Int32) (v2 : Int32) (s0 : Nat) (s1 : Int32) (σ : Sg), wp_X10_join_44 this v1 v2 s0 s1 σ Post → V G (QM G 0 0 Post) 44 [some (.ref this), some (.int v1), some (.int v2), none] [.int s1, .ref s0] σ 0 0 := by
  intro this v1 v2 s0 s1 σ h
  unfold wp_X10_join_44 at h
  obtain ⟨ht, h⟩ := h
  refine V_putI hG dX10_join_44 fl_X10_168 rfl (fun e => absurd e (by decide)) rfl ht ?_
  refine V_aload_n (v := .ref this) hG dX10_join_47 rfl rfl ?_
  obtain ⟨ht, h⟩ := h
  refine V_getI hG dX10_join_48 fl_X10_168 rfl ht ?_
  refine V_if_le (tgt := 56) hG dX10_join_51 (by decide) (fun c => ?_) (fun c => ?_)
  · replace h := h.1 c
    refine V_aload_n (v := .ref this) hG dX10_join_56 rfl rfl ?_
    refine V_aload_n (v := .ref this) hG dX10_join_57 rfl rfl ?_
    obtain ⟨ht, h⟩ := h
    refine V_getPv hG dX10_join_58 fl_X10_53 rfl ht (fun o1 ho => ?_)
    replace h := h o1 ho
    refine V_iload_n hG dX10_join_61 rfl ?_
    obtain ⟨u2, he, h⟩ := h
    subst he
    obtain ⟨ha, j3, hi, hj, h⟩ := h
    refine V_iald hG dX10_join_62 ha hi hj ?_
    refine V_aload_n (v := .ref this) hG dX10_join_63 rfl rfl ?_
    obtain ⟨ht, h⟩ := h
    refine V_getPv hG dX10_join_64 fl_X10_56 rfl ht (fun o4 ho => ?_)
    replace h := h o4 ho
    refine V_iload_n hG dX10_join_67 rfl ?_
    obtain ⟨u5, he, h⟩ := h
    subst he
    obtain ⟨ha, j6, hi, hj, h⟩ := h
    refine V_iald hG dX10_join_68 ha hi hj ?_
    refine V_aload_n (v := .ref this) hG dX10_join_69 rfl rfl ?_
    obtain ⟨ht, h⟩ := h
    refine V_getPv hG dX10_join_70 fl_X10_56 rfl ht (fun o7 ho => ?_)
    replace h := h o7 ho
    refine V_iload_n hG dX10_join_73 rfl ?_
    obtain ⟨u8, he, h⟩ := h
    subst he
    obtain ⟨ha, j9, hi, hj, h⟩ := h
    refine V_iald hG dX10_join_74 ha hi hj ?_
    refine V_iadd hG dX10_join_75 ?_
    refine V_iconst (v := 1) hG (by decide) dX10_join_76 ?_
    obtain ⟨ht, h⟩ := h
    refine V_cVI _ _ hG dX10_join_77 (ct_X10_newBatch hl h) mv_X10_newBatch ml_X10_212 ht rfl rfl rfl rfl (by first | exact Nat.le_of_ble_eq_true rfl | (simp only [List.map_cons, List.map_nil, List.sum_cons, List.sum_nil, cat_rf]; exact Nat.le_of_ble_eq_true rfl)) (Nat.le_of_ble_eq_true rfl) (Nat.le_of_ble_eq_true rfl) (by first | exact Nat.le_of_ble_eq_true rfl | omega | (dsimp only; omega)) (by first | exact Nat.le_of_ble_eq_true rfl | omega | (dsimp only; omega)) ?_ (fun x11 σ10 h9 => ?_)
    · exact fun E σ10 hx => VX_out hG (by first | exact Nat.le_of_ble_eq_true rfl | omega | (dsimp only; omega)) (by first | exact Nat.le_of_ble_eq_true rfl | omega | (dsimp only; omega)) hx
    · replace h := h9
      clear h9
      refine V_istore_n hG dX10_join_80 (Nat.le_of_ble_eq_true rfl) (hpV rfl rfl) ?_
      refine V_aload_n (v := .ref this) hG dX10_join_81 rfl rfl ?_
      obtain ⟨ht, h⟩ := h
      refine V_getPv hG dX10_join_82 fl_X10_65 rfl ht (fun o12 ho => ?_)
      replace h := h o12 ho
      refine V_iload_n hG dX10_join_85 rfl ?_
      refine V_aload_n (v := .ref this) hG dX10_join_86 rfl rfl ?_
      obtain ⟨ht, h⟩ := h
      refine V_getPv hG dX10_join_87 fl_X10_65 rfl ht (fun o13 ho => ?_)
      replace h := h o13 ho
      refine V_iload_n hG dX10_join_90 rfl ?_
      obtain ⟨u14, he, h⟩ := h
      subst he
      obtain ⟨ha, j15, hi, hj, h⟩ := h
      refine V_iald hG dX10_join_91 ha hi hj ?_
      obtain ⟨u16, he, h⟩ := h
      subst he
      obtain ⟨ha, j17, hi, hj, h⟩ := h
      refine V_iast hG dX10_join_92 ha hi hj ?_
      refine V_aload_n (v := .ref this) hG dX10_join_93 rfl rfl ?_
      obtain ⟨ht, h⟩ := h
      refine V_getPv hG dX10_join_94 fl_X10_68 rfl ht (fun o18 ho => ?_)
      replace h := h o18 ho
      refine V_iload_n hG dX10_join_97 rfl ?_
      refine V_aload_n (v := .ref this) hG dX10_join_98 rfl rfl ?_
      obtain ⟨ht, h⟩ := h
      refine V_getPv hG dX10_join_99 fl_X10_68 rfl ht (fun o19 ho => ?_)
      replace h := h o19 ho
      refine V_iload_n hG dX10_join_102 rfl ?_
      obtain ⟨u20, he, h⟩ := h
      subst he
      obtain ⟨ha, j21, hi, hj, h⟩ := h
      refine V_iald hG dX10_join_103 ha hi hj ?_
      refine V_aload_n (v := .ref this) hG dX10_join_104 rfl rfl ?_
      obtain ⟨ht, h⟩ := h
      refine V_getPv hG dX10_join_105 fl_X10_68 rfl ht (fun o22 ho => ?_)
      replace h := h o22 ho
      refine V_iload_n hG dX10_join_108 rfl ?_
      obtain ⟨u23, he, h⟩ := h
      subst he
      obtain ⟨ha, j24, hi, hj, h⟩ := h
      refine V_iald hG dX10_join_109 ha hi hj ?_
      refine V_icmp_le (tgt := 122) hG dX10_join_110 (by decide) (fun c => ?_) (fun c => ?_)
      · replace h := h.1 c
        refine V_aload_n (v := .ref this) hG dX10_join_122 rfl rfl ?_
        obtain ⟨ht, h⟩ := h
        refine V_getPv hG dX10_join_123 fl_X10_68 rfl ht (fun o25 ho => ?_)
        replace h := h o25 ho
        refine V_iload_n hG dX10_join_126 rfl ?_
        obtain ⟨u26, he, h⟩ := h
        subst he
        obtain ⟨ha, j27, hi, hj, h⟩ := h
        refine V_iald hG dX10_join_127 ha hi hj ?_
        refine V_forget (lo' := [some (.ref this), some (.int v1), some (.int v2), some (.int x11)]) ⟨rfl, ⟨rfl, ⟨rfl, ⟨rfl, trivial⟩⟩⟩⟩ ?_
        refine V_widen (k' := 0) (n' := 0) (by first | exact Nat.le_of_ble_eq_true rfl | omega | (dsimp only; omega)) (by first | exact Nat.le_of_ble_eq_true rfl | omega | (dsimp only; omega)) ?_
        exact wv_X10_join_128 hl hG  _ _ _ _ _ _ _ _ h
      · replace h := h.2 c
        refine V_aload_n (v := .ref this) hG dX10_join_113 rfl rfl ?_
        obtain ⟨ht, h⟩ := h
        refine V_getPv hG dX10_join_114 fl_X10_68 rfl ht (fun o28 ho => ?_)
        replace h := h o28 ho
        refine V_iload_n hG dX10_join_117 rfl ?_
        obtain ⟨u29, he, h⟩ := h
        subst he
        obtain ⟨ha, j30, hi, hj, h⟩ := h
        refine V_iald hG dX10_join_118 ha hi hj ?_
        refine V_goto (tgt := 128) hG dX10_join_119 (by decide) ?_
        refine V_forget (lo' := [some (.ref this), some (.int v1), some (.int v2), some (.int x11)]) ⟨rfl, ⟨rfl, ⟨rfl, ⟨rfl, trivial⟩⟩⟩⟩ ?_
        refine V_widen (k' := 0) (n' := 0) (by first | exact Nat.le_of_ble_eq_true rfl | omega | (dsimp only; omega)) (by first | exact Nat.le_of_ble_eq_true rfl | omega | (dsimp only; omega)) ?_
        exact wv_X10_join_128 hl hG  _ _ _ _ _ _ _ _ h
  · replace h := h.2 c
    refine V_iconst (v := 0) hG (by decide) dX10_join_54 ?_
    exact V_iret hG dX10_join_55 (by first | exact Nat.le_of_ble_eq_true rfl | omega | (dsimp only; omega)) (by first | exact Nat.le_of_ble_eq_true rfl | omega | (dsimp only; omega)) h
def wp_X10_join_17  (this : Nat) (v1 : Int32) (v2 : Int32) (s0 : Nat) (σ : Sg) (Post : Rs → Sg → Prop) : Prop := (wp_X10_join_44 this v1 v2 s0 (1 : Int32) σ Post)
set_option maxRecDepth 100000 in
set_option maxHeartbeats 4000000 in
theorem wv_X10_join_17 {L9 : Launch} {G : Cx} {Post : Rs → Sg → Prop} (hl : L9.stackTraces = false) (hG : CX L9 G yX10_join cX10_join 4 (some .int) [] { frames := 2, cells := 0, slots := 0, locals := 47 })   : ∀ (this : Nat) (v1 : Int32) (v2 : Int32) (s0 : Nat) (σ : Sg), wp_X10_join_17 this v1 v2 s0 σ Post → V G (QM G 0 0 Post) 17 [some (.ref this), some (.int v1), some (.int v2), none] [.ref s0] σ 0 0 := by
  intro this v1 v2 s0 σ h
  unfold wp_X10_join_17 at h
  refine V_iconst (v := 1) hG (by decide) dX10_join_17 ?_
  refine V_goto (tgt := 44) hG dX10_join_18 (by decide) ?_
  refine V_forget (lo' := [some (.ref this), some (.int v1), some (.int v2), none]) ⟨rfl, ⟨rfl, ⟨rfl, trivial⟩⟩⟩ ?_
  refine V_widen (k' := 0) (n' := 0) (by first | exact Nat.le_of_ble_eq_true rfl | omega | (dsimp only; omega)) (by first | exact Nat.le_of_ble_eq_true rfl | omega | (dsimp only; omega)) ?_
  exact wv_X10_join_44 hl hG  _ _ _ _ _ _ h
def wp_X10_join (this : Nat) (a0 : Int32) (a1 : Int32) (σ : Sg) (Post : Rs → Sg → Prop) : Prop := this % 32 = 10 ∧ wp_X10_isBatch this a0 σ (KI (fun x2 σ1 => ((x2 = 0 → (wp_X10_join_17 this a0 a1 this σ1 Post)) ∧ (¬ x2 = 0 → this % 32 = 10 ∧ wp_X10_isBatch this a1 σ1 (KI (fun x4 σ3 => ((¬ x4 = 0 → ((¬ a0 = a1 → this % 32 = 10 ∧ wp_X10_canJoin this a0 a1 σ3 (KI (fun x6 σ5 => ((¬ x6 = 0 → (wp_X10_join_44 this a0 a1 this (0 : Int32) σ5 Post)) ∧ (x6 = 0 → (wp_X10_join_44 this a0 a1 this (3 : Int32) σ5 Post)))) (fun E σ5 => Post (.inr E) σ5))) ∧ (a0 = a1 → (wp_X10_join_44 this a0 a1 this (2 : Int32) σ3 Post)))) ∧ (x4 = 0 → (wp_X10_join_17 this a0 a1 this σ3 Post)))) (fun E σ3 => Post (.inr E) σ3))))) (fun E σ1 => Post (.inr E) σ1))
set_option maxRecDepth 100000 in
set_option maxHeartbeats 4000000 in
theorem ct_X10_join {l : Launch} (hl : l.stackTraces = false) {this : Nat} {a0 : Int32} {a1 : Int32} {σ : Sg} {Post : Rs → Sg → Prop} (h : wp_X10_join this a0 a1 σ Post) : Ct l yX10_join (.code yX10_join cX10_join 4 (some .int)) 2 47 0 0 [.ref this, .int a0, .int a1] σ Post := by
  refine Ct_of [some (.ref this), some (.int a0), some (.int a1), none] hl (by decide +kernel) rfl (fun ad => by rfl) (fun ad => by exact Nat.le_of_ble_eq_true rfl) (fun v hv => mem_lo hv rfl) ?_
  intro G hG
  unfold wp_X10_join at h
  refine V_aload_n (v := .ref this) hG dX10_join_0 rfl rfl ?_
  refine V_aload_n (v := .ref this) hG dX10_join_1 rfl rfl ?_
  refine V_iload_n hG dX10_join_2 rfl ?_
  obtain ⟨ht, h⟩ := h
  refine V_cVI _ _ hG dX10_join_3 (ct_X10_isBatch hl h) mv_X10_isBatch ml_X10_219 ht rfl rfl rfl rfl (by first | exact Nat.le_of_ble_eq_true rfl | (simp only [List.map_cons, List.map_nil, List.sum_cons, List.sum_nil, cat_rf]; exact Nat.le_of_ble_eq_true rfl)) (Nat.le_of_ble_eq_true rfl) (Nat.le_of_ble_eq_true rfl) (by first | exact Nat.le_of_ble_eq_true rfl | omega | (dsimp only; omega)) (by first | exact Nat.le_of_ble_eq_true rfl | omega | (dsimp only; omega)) ?_ (fun x2 σ1 h9 => ?_)
  · exact fun E σ1 hx => VX_out hG (by first | exact Nat.le_of_ble_eq_true rfl | omega | (dsimp only; omega)) (by first | exact Nat.le_of_ble_eq_true rfl | omega | (dsimp only; omega)) hx
  · replace h := h9
    clear h9
    refine V_if_eq (tgt := 17) hG dX10_join_6 (by decide) (fun c => ?_) (fun c => ?_)
    · replace h := h.1 c
      refine V_forget (lo' := [some (.ref this), some (.int a0), some (.int a1), none]) ⟨rfl, ⟨rfl, ⟨rfl, trivial⟩⟩⟩ ?_
      refine V_widen (k' := 0) (n' := 0) (by first | exact Nat.le_of_ble_eq_true rfl | omega | (dsimp only; omega)) (by first | exact Nat.le_of_ble_eq_true rfl | omega | (dsimp only; omega)) ?_
      exact wv_X10_join_17 hl hG  _ _ _ _ _ h
    · replace h := h.2 c
      refine V_aload_n (v := .ref this) hG dX10_join_9 rfl rfl ?_
      refine V_iload_n hG dX10_join_10 rfl ?_
      obtain ⟨ht, h⟩ := h
      refine V_cVI _ _ hG dX10_join_11 (ct_X10_isBatch hl h) mv_X10_isBatch ml_X10_219 ht rfl rfl rfl rfl (by first | exact Nat.le_of_ble_eq_true rfl | (simp only [List.map_cons, List.map_nil, List.sum_cons, List.sum_nil, cat_rf]; exact Nat.le_of_ble_eq_true rfl)) (Nat.le_of_ble_eq_true rfl) (Nat.le_of_ble_eq_true rfl) (by first | exact Nat.le_of_ble_eq_true rfl | omega | (dsimp only; omega)) (by first | exact Nat.le_of_ble_eq_true rfl | omega | (dsimp only; omega)) ?_ (fun x4 σ3 h9 => ?_)
      · exact fun E σ3 hx => VX_out hG (by first | exact Nat.le_of_ble_eq_true rfl | omega | (dsimp only; omega)) (by first | exact Nat.le_of_ble_eq_true rfl | omega | (dsimp only; omega)) hx
      · replace h := h9
        clear h9
        refine V_if_ne (tgt := 21) hG dX10_join_14 (by decide) (fun c => ?_) (fun c => ?_)
        · replace h := h.1 c
          refine V_iload_n hG dX10_join_21 rfl ?_
          refine V_iload_n hG dX10_join_22 rfl ?_
          refine V_icmp_ne (tgt := 30) hG dX10_join_23 (by decide) (fun c => ?_) (fun c => ?_)
          · replace h := h.1 c
            refine V_aload_n (v := .ref this) hG dX10_join_30 rfl rfl ?_
            refine V_iload_n hG dX10_join_31 rfl ?_
            refine V_iload_n hG dX10_join_32 rfl ?_
            obtain ⟨ht, h⟩ := h
            refine V_cVI _ _ hG dX10_join_33 (ct_X10_canJoin hl h) mv_X10_canJoin ml_X10_236 ht rfl rfl rfl rfl (by first | exact Nat.le_of_ble_eq_true rfl | (simp only [List.map_cons, List.map_nil, List.sum_cons, List.sum_nil, cat_rf]; exact Nat.le_of_ble_eq_true rfl)) (Nat.le_of_ble_eq_true rfl) (Nat.le_of_ble_eq_true rfl) (by first | exact Nat.le_of_ble_eq_true rfl | omega | (dsimp only; omega)) (by first | exact Nat.le_of_ble_eq_true rfl | omega | (dsimp only; omega)) ?_ (fun x6 σ5 h9 => ?_)
            · exact fun E σ5 hx => VX_out hG (by first | exact Nat.le_of_ble_eq_true rfl | omega | (dsimp only; omega)) (by first | exact Nat.le_of_ble_eq_true rfl | omega | (dsimp only; omega)) hx
            · replace h := h9
              clear h9
              refine V_if_ne (tgt := 43) hG dX10_join_36 (by decide) (fun c => ?_) (fun c => ?_)
              · replace h := h.1 c
                refine V_iconst (v := 0) hG (by decide) dX10_join_43 ?_
                refine V_forget (lo' := [some (.ref this), some (.int a0), some (.int a1), none]) ⟨rfl, ⟨rfl, ⟨rfl, trivial⟩⟩⟩ ?_
                refine V_widen (k' := 0) (n' := 0) (by first | exact Nat.le_of_ble_eq_true rfl | omega | (dsimp only; omega)) (by first | exact Nat.le_of_ble_eq_true rfl | omega | (dsimp only; omega)) ?_
                exact wv_X10_join_44 hl hG  _ _ _ _ _ _ h
              · replace h := h.2 c
                refine V_iconst (v := 3) hG (by decide) dX10_join_39 ?_
                refine V_goto (tgt := 44) hG dX10_join_40 (by decide) ?_
                refine V_forget (lo' := [some (.ref this), some (.int a0), some (.int a1), none]) ⟨rfl, ⟨rfl, ⟨rfl, trivial⟩⟩⟩ ?_
                refine V_widen (k' := 0) (n' := 0) (by first | exact Nat.le_of_ble_eq_true rfl | omega | (dsimp only; omega)) (by first | exact Nat.le_of_ble_eq_true rfl | omega | (dsimp only; omega)) ?_
                exact wv_X10_join_44 hl hG  _ _ _ _ _ _ h
          · replace h := h.2 c
            refine V_iconst (v := 2) hG (by decide) dX10_join_26 ?_
            refine V_goto (tgt := 44) hG dX10_join_27 (by decide) ?_
            refine V_forget (lo' := [some (.ref this), some (.int a0), some (.int a1), none]) ⟨rfl, ⟨rfl, ⟨rfl, trivial⟩⟩⟩ ?_
            refine V_widen (k' := 0) (n' := 0) (by first | exact Nat.le_of_ble_eq_true rfl | omega | (dsimp only; omega)) (by first | exact Nat.le_of_ble_eq_true rfl | omega | (dsimp only; omega)) ?_
            exact wv_X10_join_44 hl hG  _ _ _ _ _ _ h
        · replace h := h.2 c
          refine V_forget (lo' := [some (.ref this), some (.int a0), some (.int a1), none]) ⟨rfl, ⟨rfl, ⟨rfl, trivial⟩⟩⟩ ?_
          refine V_widen (k' := 0) (n' := 0) (by first | exact Nat.le_of_ble_eq_true rfl | omega | (dsimp only; omega)) (by first | exact Nat.le_of_ble_eq_true rfl | omega | (dsimp only; omega)) ?_
          exact wv_X10_join_17 hl hG  _ _ _ _ _ h
def wp_X10_leave_51  (s0 : Option Nat) (s1 : Int32) (s2 : Int32) (σ : Sg) (Post : Rs → Sg → Prop) : Prop := ∃ u1, s0 = some u1 ∧ aty (u1 % 32) = some .int ∧ ∃ j2, s1 = nI j2 ∧ j2 < aln u1 ∧ Post (.inl none) (wI σ u1 j2 s2)
set_option maxRecDepth 100000 in
set_option maxHeartbeats 4000000 in
theorem wv_X10_leave_51 {L9 : Launch} {G : Cx} {Post : Rs → Sg → Prop} (hl : L9.stackTraces = false) (hG : CX L9 G yX10_leave cX10_leave 2 none [] { frames := 0, cells := 0, slots := 0, locals := 0 })   : ∀ (s0 : Option Nat) (s1 : Int32) (s2 : Int32) (σ : Sg), wp_X10_leave_51 s0 s1 s2 σ Post → V G (QM G 0 0 Post) 51 [none, none] [.int s2, .int s1, va_rf s0] σ 0 0 := by
  intro s0 s1 s2 σ h
  unfold wp_X10_leave_51 at h
  obtain ⟨u1, he, h⟩ := h
  subst he
  obtain ⟨ha, j2, hi, hj, h⟩ := h
  refine V_iast hG dX10_leave_51 ha hi hj ?_
  exact V_vret hG dX10_leave_52 (by first | exact Nat.le_of_ble_eq_true rfl | omega | (dsimp only; omega)) (by first | exact Nat.le_of_ble_eq_true rfl | omega | (dsimp only; omega)) h
def wp_X10_leave (this : Nat) (a0 : Int32) (σ : Sg) (Post : Rs → Sg → Prop) : Prop := this % 32 = 10 ∧ ∀ o1, o1 = sP σ this 34 → ∃ u2, o1 = some u2 ∧ aty (u2 % 32) = some .int ∧ ∃ j3, a0 = nI j3 ∧ j3 < aln u2 ∧ this % 32 = 10 ∧ ∀ o4, o4 = sP (wI σ u2 j3 (-1 : Int32)) this 36 → ∃ u5, o4 = some u5 ∧ aty (u5 % 32) = some .int ∧ ∃ j6, a0 = nI j6 ∧ j6 < aln u5 ∧ this % 32 = 10 ∧ ∀ o7, o7 = sP (wI (wI σ u2 j3 (-1 : Int32)) u5 j6 (-1 : Int32)) this 35 → ∃ u8, o7 = some u8 ∧ aty (u8 % 32) = some .int ∧ ∃ j9, a0 = nI j9 ∧ j9 < aln u8 ∧ this % 32 = 10 ∧ ∀ o10, o10 = sP (wI (wI (wI σ u2 j3 (-1 : Int32)) u5 j6 (-1 : Int32)) u8 j9 (0 : Int32)) this 39 → this % 32 = 10 ∧ ∀ o11, o11 = sP (wI (wI (wI σ u2 j3 (-1 : Int32)) u5 j6 (-1 : Int32)) u8 j9 (0 : Int32)) this 37 → ∃ u12, o11 = some u12 ∧ aty (u12 % 32) = some .int ∧ ∃ j13, a0 = nI j13 ∧ j13 < aln u12 ∧ this % 32 = 10 ∧ ∀ o14, o14 = sP (wI (wI (wI σ u2 j3 (-1 : Int32)) u5 j6 (-1 : Int32)) u8 j9 (0 : Int32)) this 31 → ∃ u15, o14 = some u15 ∧ aty (u15 % 32) = some .int ∧ ∃ j16, a0 = nI j16 ∧ j16 < aln u15 ∧ (((sI (wI (wI (wI σ u2 j3 (-1 : Int32)) u5 j6 (-1 : Int32)) u8 j9 (0 : Int32)) u12 j13) < (sI (wI (wI (wI σ u2 j3 (-1 : Int32)) u5 j6 (-1 : Int32)) u8 j9 (0 : Int32)) u15 j16) → this % 32 = 10 ∧ ∀ o17, o17 = sP (wI (wI (wI σ u2 j3 (-1 : Int32)) u5 j6 (-1 : Int32)) u8 j9 (0 : Int32)) this 39 → ∃ u18, o17 = some u18 ∧ aty (u18 % 32) = some .int ∧ ∃ j19, a0 = nI j19 ∧ j19 < aln u18 ∧ (wp_X10_leave_51 o10 a0 (sI (wI (wI (wI σ u2 j3 (-1 : Int32)) u5 j6 (-1 : Int32)) u8 j9 (0 : Int32)) u18 j19) (wI (wI (wI σ u2 j3 (-1 : Int32)) u5 j6 (-1 : Int32)) u8 j9 (0 : Int32)) Post)) ∧ (¬ (sI (wI (wI (wI σ u2 j3 (-1 : Int32)) u5 j6 (-1 : Int32)) u8 j9 (0 : Int32)) u12 j13) < (sI (wI (wI (wI σ u2 j3 (-1 : Int32)) u5 j6 (-1 : Int32)) u8 j9 (0 : Int32)) u15 j16) → (wp_X10_leave_51 o10 a0 (1 : Int32) (wI (wI (wI σ u2 j3 (-1 : Int32)) u5 j6 (-1 : Int32)) u8 j9 (0 : Int32)) Post)))
set_option maxRecDepth 100000 in
set_option maxHeartbeats 4000000 in
theorem ct_X10_leave {l : Launch} (hl : l.stackTraces = false) {this : Nat} {a0 : Int32} {σ : Sg} {Post : Rs → Sg → Prop} (h : wp_X10_leave this a0 σ Post) : Ct l yX10_leave (.code yX10_leave cX10_leave 2 none) 0 0 0 0 [.ref this, .int a0] σ Post := by
  refine Ct_of [some (.ref this), some (.int a0)] hl (by decide +kernel) rfl (fun ad => by rfl) (fun ad => by exact Nat.le_of_ble_eq_true rfl) (fun v hv => mem_lo hv rfl) ?_
  intro G hG
  unfold wp_X10_leave at h
  refine V_aload_n (v := .ref this) hG dX10_leave_0 rfl rfl ?_
  obtain ⟨ht, h⟩ := h
  refine V_getPv hG dX10_leave_1 fl_X10_108 rfl ht (fun o1 ho => ?_)
  replace h := h o1 ho
  refine V_iload_n hG dX10_leave_4 rfl ?_
  refine V_iconst (v := (-1)) hG (by decide) dX10_leave_5 ?_
  obtain ⟨u2, he, h⟩ := h
  subst he
  obtain ⟨ha, j3, hi, hj, h⟩ := h
  refine V_iast hG dX10_leave_6 ha hi hj ?_
  refine V_aload_n (v := .ref this) hG dX10_leave_7 rfl rfl ?_
  obtain ⟨ht, h⟩ := h
  refine V_getPv hG dX10_leave_8 fl_X10_114 rfl ht (fun o4 ho => ?_)
  replace h := h o4 ho
  refine V_iload_n hG dX10_leave_11 rfl ?_
  refine V_iconst (v := (-1)) hG (by decide) dX10_leave_12 ?_
  obtain ⟨u5, he, h⟩ := h
  subst he
  obtain ⟨ha, j6, hi, hj, h⟩ := h
  refine V_iast hG dX10_leave_13 ha hi hj ?_
  refine V_aload_n (v := .ref this) hG dX10_leave_14 rfl rfl ?_
  obtain ⟨ht, h⟩ := h
  refine V_getPv hG dX10_leave_15 fl_X10_111 rfl ht (fun o7 ho => ?_)
  replace h := h o7 ho
  refine V_iload_n hG dX10_leave_18 rfl ?_
  refine V_iconst (v := 0) hG (by decide) dX10_leave_19 ?_
  obtain ⟨u8, he, h⟩ := h
  subst he
  obtain ⟨ha, j9, hi, hj, h⟩ := h
  refine V_iast hG dX10_leave_20 ha hi hj ?_
  refine V_aload_n (v := .ref this) hG dX10_leave_21 rfl rfl ?_
  obtain ⟨ht, h⟩ := h
  refine V_getPv hG dX10_leave_22 fl_X10_123 rfl ht (fun o10 ho => ?_)
  replace h := h o10 ho
  refine V_iload_n hG dX10_leave_25 rfl ?_
  refine V_aload_n (v := .ref this) hG dX10_leave_26 rfl rfl ?_
  obtain ⟨ht, h⟩ := h
  refine V_getPv hG dX10_leave_27 fl_X10_117 rfl ht (fun o11 ho => ?_)
  replace h := h o11 ho
  refine V_iload_n hG dX10_leave_30 rfl ?_
  obtain ⟨u12, he, h⟩ := h
  subst he
  obtain ⟨ha, j13, hi, hj, h⟩ := h
  refine V_iald hG dX10_leave_31 ha hi hj ?_
  refine V_aload_n (v := .ref this) hG dX10_leave_32 rfl rfl ?_
  obtain ⟨ht, h⟩ := h
  refine V_getPv hG dX10_leave_33 fl_X10_99 rfl ht (fun o14 ho => ?_)
  replace h := h o14 ho
  refine V_iload_n hG dX10_leave_36 rfl ?_
  obtain ⟨u15, he, h⟩ := h
  subst he
  obtain ⟨ha, j16, hi, hj, h⟩ := h
  refine V_iald hG dX10_leave_37 ha hi hj ?_
  refine V_icmp_lt (tgt := 45) hG dX10_leave_38 (by decide) (fun c => ?_) (fun c => ?_)
  · replace h := h.1 c
    refine V_aload_n (v := .ref this) hG dX10_leave_45 rfl rfl ?_
    obtain ⟨ht, h⟩ := h
    refine V_getPv hG dX10_leave_46 fl_X10_123 rfl ht (fun o17 ho => ?_)
    replace h := h o17 ho
    refine V_iload_n hG dX10_leave_49 rfl ?_
    obtain ⟨u18, he, h⟩ := h
    subst he
    obtain ⟨ha, j19, hi, hj, h⟩ := h
    refine V_iald hG dX10_leave_50 ha hi hj ?_
    refine V_forget (lo' := [none, none]) trivial ?_
    refine V_widen (k' := 0) (n' := 0) (by first | exact Nat.le_of_ble_eq_true rfl | omega | (dsimp only; omega)) (by first | exact Nat.le_of_ble_eq_true rfl | omega | (dsimp only; omega)) ?_
    exact wv_X10_leave_51 hl hG  _ _ _ _ h
  · replace h := h.2 c
    refine V_iconst (v := 1) hG (by decide) dX10_leave_41 ?_
    refine V_goto (tgt := 51) hG dX10_leave_42 (by decide) ?_
    refine V_forget (lo' := [none, none]) trivial ?_
    refine V_widen (k' := 0) (n' := 0) (by first | exact Nat.le_of_ble_eq_true rfl | omega | (dsimp only; omega)) (by first | exact Nat.le_of_ble_eq_true rfl | omega | (dsimp only; omega)) ?_
    exact wv_X10_leave_51 hl hG  _ _ _ _ h
def wp_X10_scrap_25 (K2 : Nat → Int32 → Int32 → Sg → Prop) (this : Nat) (v1 : Int32) (v2 : Int32) (σ : Sg) (Post : Rs → Sg → Prop) : Prop := (K2 this v1 (v2 + 1) σ)
set_option maxRecDepth 100000 in
set_option maxHeartbeats 4000000 in
theorem wv_X10_scrap_25 {L9 : Launch} {G : Cx} {Post : Rs → Sg → Prop} (hl : L9.stackTraces = false) (hG : CX L9 G yX10_scrap cX10_scrap 3 none [] { frames := 1, cells := 0, slots := 0, locals := 21 }) {K2 : Nat → Int32 → Int32 → Sg → Prop} (hK2 : ∀ (this : Nat) (v1 : Int32) (v2 : Int32) (ζ : Sg), K2 this v1 v2 ζ → V G (QM G 0 0 Post) 2 [some (.ref this), some (.int v1), some (.int v2)] [] ζ 0 0) : ∀ (this : Nat) (v1 : Int32) (v2 : Int32) (σ : Sg), wp_X10_scrap_25 K2 this v1 v2 σ Post → V G (QM G 0 0 Post) 25 [some (.ref this), some (.int v1), some (.int v2)] [] σ 0 0 := by
  intro this v1 v2 σ h
  unfold wp_X10_scrap_25 at h
  refine V_iincv (c := 1) hG dX10_scrap_25 rfl (by decide) (hpV rfl rfl) ?_
  refine V_goto (tgt := 2) hG dX10_scrap_28 (by decide) ?_
  refine V_forget (lo' := [some (.ref this), some (.int v1), some (.int (v2 + 1))]) ⟨rfl, ⟨rfl, ⟨rfl, trivial⟩⟩⟩ ?_
  exact hK2 _ _ _ _ h
def wp_X10_scrap_2  : Nat → Nat → Int32 → Int32 → Sg → (Rs → Sg → Prop) → Prop
  | 0, _, _, _, _, _ => False
  | f + 1, this, v1, v2, σ, Post => this % 32 = 10 ∧ (((sI σ this 27) ≤ v2 → this % 32 = 10 ∧ ∀ o1, o1 = sP σ this 18 → ∃ u2, o1 = some u2 ∧ aty (u2 % 32) = some .int ∧ ∃ j3, v1 = nI j3 ∧ j3 < aln u2 ∧ Post (.inl none) (wI σ u2 j3 (5 : Int32))) ∧ (¬ (sI σ this 27) ≤ v2 → this % 32 = 10 ∧ ∀ o4, o4 = sP σ this 34 → ∃ u5, o4 = some u5 ∧ aty (u5 % 32) = some .int ∧ ∃ j6, v2 = nI j6 ∧ j6 < aln u5 ∧ ((¬ (sI σ u5 j6) = v1 → (wp_X10_scrap_25 (fun z0 z1 z2 ζ => wp_X10_scrap_2 f z0 z1 z2 ζ Post) this v1 v2 σ Post)) ∧ ((sI σ u5 j6) = v1 → this % 32 = 10 ∧ wp_X10_leave this v2 σ (KV (fun σ7 => (wp_X10_scrap_25 (fun z0 z1 z2 ζ => wp_X10_scrap_2 f z0 z1 z2 ζ Post) this v1 v2 σ7 Post)) (fun E σ7 => Post (.inr E) σ7))))))
set_option maxRecDepth 100000 in
set_option maxHeartbeats 4000000 in
theorem wv_X10_scrap_2 {L9 : Launch} {G : Cx} {Post : Rs → Sg → Prop} (hl : L9.stackTraces = false) (hG : CX L9 G yX10_scrap cX10_scrap 3 none [] { frames := 1, cells := 0, slots := 0, locals := 21 })   : ∀ (f : Nat) (this : Nat) (v1 : Int32) (v2 : Int32) (σ : Sg), wp_X10_scrap_2 f this v1 v2 σ Post → V G (QM G 0 0 Post) 2 [some (.ref this), some (.int v1), some (.int v2)] [] σ 0 0 := by
  intro f
  induction f with
  | zero => intro _ _ _ σ h; exact h.elim
  | succ f ih =>
    intro this v1 v2 σ h
    refine V_iload_n hG dX10_scrap_2 rfl ?_
    refine V_aload_n (v := .ref this) hG dX10_scrap_3 rfl rfl ?_
    obtain ⟨ht, h⟩ := h
    refine V_getI hG dX10_scrap_4 fl_X10_183 rfl ht ?_
    refine V_icmp_ge (tgt := 31) hG dX10_scrap_7 (by decide) (fun c => ?_) (fun c => ?_)
    · replace h := h.1 c
      refine V_aload_n (v := .ref this) hG dX10_scrap_31 rfl rfl ?_
      obtain ⟨ht, h⟩ := h
      refine V_getPv hG dX10_scrap_32 fl_X10_62 rfl ht (fun o1 ho => ?_)
      replace h := h o1 ho
      refine V_iload_n hG dX10_scrap_35 rfl ?_
      refine V_iconst (v := 5) hG (by decide) dX10_scrap_36 ?_
      obtain ⟨u2, he, h⟩ := h
      subst he
      obtain ⟨ha, j3, hi, hj, h⟩ := h
      refine V_iast hG dX10_scrap_37 ha hi hj ?_
      exact V_vret hG dX10_scrap_38 (by first | exact Nat.le_of_ble_eq_true rfl | omega | (dsimp only; omega)) (by first | exact Nat.le_of_ble_eq_true rfl | omega | (dsimp only; omega)) h
    · replace h := h.2 c
      refine V_aload_n (v := .ref this) hG dX10_scrap_10 rfl rfl ?_
      obtain ⟨ht, h⟩ := h
      refine V_getPv hG dX10_scrap_11 fl_X10_108 rfl ht (fun o4 ho => ?_)
      replace h := h o4 ho
      refine V_iload_n hG dX10_scrap_14 rfl ?_
      obtain ⟨u5, he, h⟩ := h
      subst he
      obtain ⟨ha, j6, hi, hj, h⟩ := h
      refine V_iald hG dX10_scrap_15 ha hi hj ?_
      refine V_iload_n hG dX10_scrap_16 rfl ?_
      refine V_icmp_ne (tgt := 25) hG dX10_scrap_17 (by decide) (fun c => ?_) (fun c => ?_)
      · replace h := h.1 c
        refine V_forget (lo' := [some (.ref this), some (.int v1), some (.int v2)]) ⟨rfl, ⟨rfl, ⟨rfl, trivial⟩⟩⟩ ?_
        refine V_widen (k' := 0) (n' := 0) (by first | exact Nat.le_of_ble_eq_true rfl | omega | (dsimp only; omega)) (by first | exact Nat.le_of_ble_eq_true rfl | omega | (dsimp only; omega)) ?_
        exact wv_X10_scrap_25 hl hG (fun z0 z1 z2 ζ hz => ih z0 z1 z2 ζ hz) _ _ _ _ h
      · replace h := h.2 c
        refine V_aload_n (v := .ref this) hG dX10_scrap_20 rfl rfl ?_
        refine V_iload_n hG dX10_scrap_21 rfl ?_
        obtain ⟨ht, h⟩ := h
        refine V_cVV _ _ hG dX10_scrap_22 (ct_X10_leave hl h) mv_X10_leave ml_X10_239 ht rfl rfl rfl rfl (by first | exact Nat.le_of_ble_eq_true rfl | (simp only [List.map_cons, List.map_nil, List.sum_cons, List.sum_nil, cat_rf]; exact Nat.le_of_ble_eq_true rfl)) (Nat.le_of_ble_eq_true rfl) (Nat.le_of_ble_eq_true rfl) (by first | exact Nat.le_of_ble_eq_true rfl | omega | (dsimp only; omega)) (by first | exact Nat.le_of_ble_eq_true rfl | omega | (dsimp only; omega)) ?_ (fun σ7 h9 => ?_)
        · exact fun E σ7 hx => VX_out hG (by first | exact Nat.le_of_ble_eq_true rfl | omega | (dsimp only; omega)) (by first | exact Nat.le_of_ble_eq_true rfl | omega | (dsimp only; omega)) hx
        · replace h := h9
          clear h9
          refine V_forget (lo' := [some (.ref this), some (.int v1), some (.int v2)]) ⟨rfl, ⟨rfl, ⟨rfl, trivial⟩⟩⟩ ?_
          refine V_widen (k' := 0) (n' := 0) (by first | exact Nat.le_of_ble_eq_true rfl | omega | (dsimp only; omega)) (by first | exact Nat.le_of_ble_eq_true rfl | omega | (dsimp only; omega)) ?_
          exact wv_X10_scrap_25 hl hG (fun z0 z1 z2 ζ hz => ih z0 z1 z2 ζ hz) _ _ _ _ h
def wp_X10_scrap (this : Nat) (a0 : Int32) (σ : Sg) (Post : Rs → Sg → Prop) : Prop := (∃ g, wp_X10_scrap_2 g this a0 (0 : Int32) σ Post)
set_option maxRecDepth 100000 in
set_option maxHeartbeats 4000000 in
theorem ct_X10_scrap {l : Launch} (hl : l.stackTraces = false) {this : Nat} {a0 : Int32} {σ : Sg} {Post : Rs → Sg → Prop} (h : wp_X10_scrap this a0 σ Post) : Ct l yX10_scrap (.code yX10_scrap cX10_scrap 3 none) 1 21 0 0 [.ref this, .int a0] σ Post := by
  refine Ct_of [some (.ref this), some (.int a0), none] hl (by decide +kernel) rfl (fun ad => by rfl) (fun ad => by exact Nat.le_of_ble_eq_true rfl) (fun v hv => mem_lo hv rfl) ?_
  intro G hG
  unfold wp_X10_scrap at h
  refine V_iconst (v := 0) hG (by decide) dX10_scrap_0 ?_
  refine V_istore_n hG dX10_scrap_1 (Nat.le_of_ble_eq_true rfl) (hpV rfl rfl) ?_
  refine V_forget (lo' := [some (.ref this), some (.int a0), some (.int (0 : Int32))]) ⟨rfl, ⟨rfl, ⟨rfl, trivial⟩⟩⟩ ?_
  obtain ⟨g, h⟩ := h
  refine V_widen (k' := 0) (n' := 0) (by first | exact Nat.le_of_ble_eq_true rfl | omega | (dsimp only; omega)) (by first | exact Nat.le_of_ble_eq_true rfl | omega | (dsimp only; omega)) ?_
  exact wv_X10_scrap_2 hl hG  g _ _ _ _ h
def wp_X10_settlePromises_93 (K2 : Nat → Int32 → Sg → Prop) (K27 : Nat → Int32 → Int32 → Int32 → Sg → Prop) (this : Nat) (v1 : Int32) (v2 : Int32) (v3 : Int32) (σ : Sg) (Post : Rs → Sg → Prop) : Prop := (K27 this v1 v2 (v3 + (-1)) σ)
set_option maxRecDepth 100000 in
set_option maxHeartbeats 4000000 in
theorem wv_X10_settlePromises_93 {L9 : Launch} {G : Cx} {Post : Rs → Sg → Prop} (hl : L9.stackTraces = false) (hG : CX L9 G yX10_settlePromises cX10_settlePromises 5 none [] { frames := 1, cells := 0, slots := 0, locals := 23 }) {K2 : Nat → Int32 → Sg → Prop} {K27 : Nat → Int32 → Int32 → Int32 → Sg → Prop} (hK2 : ∀ (this : Nat) (v1 : Int32) (ζ : Sg), K2 this v1 ζ → V G (QM G 0 0 Post) 2 [some (.ref this), some (.int v1), none, none, none] [] ζ 0 0) (hK27 : ∀ (this : Nat) (v1 : Int32) (v2 : Int32) (v3 : Int32) (ζ : Sg), K27 this v1 v2 v3 ζ → V G (QM G 0 0 Post) 27 [some (.ref this), some (.int v1), some (.int v2), some (.int v3), none] [] ζ 0 0) : ∀ (this : Nat) (v1 : Int32) (v2 : Int32) (v3 : Int32) (σ : Sg), wp_X10_settlePromises_93 K2 K27 this v1 v2 v3 σ Post → V G (QM G 0 0 Post) 93 [some (.ref this), some (.int v1), some (.int v2), some (.int v3), none] [] σ 0 0 := by
  intro this v1 v2 v3 σ h
  unfold wp_X10_settlePromises_93 at h
  refine V_iincv (c := (-1)) hG dX10_settlePromises_93 rfl (by decide) (hpV rfl rfl) ?_
  refine V_goto (tgt := 27) hG dX10_settlePromises_96 (by decide) ?_
  refine V_forget (lo' := [some (.ref this), some (.int v1), some (.int v2), some (.int (v3 + (-1))), none]) ⟨rfl, ⟨rfl, ⟨rfl, ⟨rfl, trivial⟩⟩⟩⟩ ?_
  exact hK27 _ _ _ _ _ h
def wp_X10_settlePromises_75 (K2 : Nat → Int32 → Sg → Prop) (K27 : Nat → Int32 → Int32 → Int32 → Sg → Prop) (this : Nat) (v1 : Int32) (v2 : Int32) (v3 : Int32) (s0 : Int32) (σ : Sg) (Post : Rs → Sg → Prop) : Prop := this % 32 = 10 ∧ ∀ o1, o1 = sP σ this 51 → ∃ u2, o1 = some u2 ∧ aty (u2 % 32) = some .int ∧ ∃ j3, v3 = nI j3 ∧ j3 < aln u2 ∧ aty (u2 % 32) = some .int ∧ ∃ j4, v3 = nI j4 ∧ j4 < aln u2 ∧ (wp_X10_settlePromises_93 K2 K27 this v1 (v2 - s0) v3 (wI σ u2 j4 ((sI σ u2 j3) - s0)) Post)
set_option maxRecDepth 100000 in
set_option maxHeartbeats 4000000 in
theorem wv_X10_settlePromises_75 {L9 : Launch} {G : Cx} {Post : Rs → Sg → Prop} (hl : L9.stackTraces = false) (hG : CX L9 G yX10_settlePromises cX10_settlePromises 5 none [] { frames := 1, cells := 0, slots := 0, locals := 23 }) {K2 : Nat → Int32 → Sg → Prop} {K27 : Nat → Int32 → Int32 → Int32 → Sg → Prop} (hK2 : ∀ (this : Nat) (v1 : Int32) (ζ : Sg), K2 this v1 ζ → V G (QM G 0 0 Post) 2 [some (.ref this), some (.int v1), none, none, none] [] ζ 0 0) (hK27 : ∀ (this : Nat) (v1 : Int32) (v2 : Int32) (v3 : Int32) (ζ : Sg), K27 this v1 v2 v3 ζ → V G (QM G 0 0 Post) 27 [some (.ref this), some (.int v1), some (.int v2), some (.int v3), none] [] ζ 0 0) : ∀ (this : Nat) (v1 : Int32) (v2 : Int32) (v3 : Int32) (s0 : Int32) (σ : Sg), wp_X10_settlePromises_75 K2 K27 this v1 v2 v3 s0 σ Post → V G (QM G 0 0 Post) 75 [some (.ref this), some (.int v1), some (.int v2), some (.int v3), none] [.int s0] σ 0 0 := by
  intro this v1 v2 v3 s0 σ h
  unfold wp_X10_settlePromises_75 at h
  refine V_istore hG dX10_settlePromises_75 (Nat.le_of_ble_eq_true rfl) (hpV rfl rfl) ?_
  refine V_aload_n (v := .ref this) hG dX10_settlePromises_77 rfl rfl ?_
  obtain ⟨ht, h⟩ := h
  refine V_getPv hG dX10_settlePromises_78 fl_X10_153 rfl ht (fun o1 ho => ?_)
  replace h := h o1 ho
  refine V_iload_n hG dX10_settlePromises_81 rfl ?_
  refine V_dup2 hG rfl (cat_rf _) dX10_settlePromises_82 ?_
  obtain ⟨u2, he, h⟩ := h
  subst he
  obtain ⟨ha, j3, hi, hj, h⟩ := h
  refine V_iald hG dX10_settlePromises_83 ha hi hj ?_
  refine V_iload hG dX10_settlePromises_84 rfl ?_
  refine V_isub hG dX10_settlePromises_86 ?_
  obtain ⟨ha, j4, hi, hj, h⟩ := h
  refine V_iast hG dX10_settlePromises_87 ha hi hj ?_
  refine V_iload_n hG dX10_settlePromises_88 rfl ?_
  refine V_iload hG dX10_settlePromises_89 rfl ?_
  refine V_isub hG dX10_settlePromises_91 ?_
  refine V_istore_n hG dX10_settlePromises_92 (Nat.le_of_ble_eq_true rfl) (hpV rfl rfl) ?_
  refine V_forget (lo' := [some (.ref this), some (.int v1), some (.int (v2 - s0)), some (.int v3), none]) ⟨rfl, ⟨rfl, ⟨rfl, ⟨rfl, trivial⟩⟩⟩⟩ ?_
  refine V_widen (k' := 0) (n' := 0) (by first | exact Nat.le_of_ble_eq_true rfl | omega | (dsimp only; omega)) (by first | exact Nat.le_of_ble_eq_true rfl | omega | (dsimp only; omega)) ?_
  exact wv_X10_settlePromises_93 hl hG hK2 hK27 _ _ _ _ _ h
def wp_X10_settlePromises_99 (K2 : Nat → Int32 → Sg → Prop) (this : Nat) (v1 : Int32) (σ : Sg) (Post : Rs → Sg → Prop) : Prop := (K2 this (v1 + 1) σ)
set_option maxRecDepth 100000 in
set_option maxHeartbeats 4000000 in
theorem wv_X10_settlePromises_99 {L9 : Launch} {G : Cx} {Post : Rs → Sg → Prop} (hl : L9.stackTraces = false) (hG : CX L9 G yX10_settlePromises cX10_settlePromises 5 none [] { frames := 1, cells := 0, slots := 0, locals := 23 }) {K2 : Nat → Int32 → Sg → Prop} (hK2 : ∀ (this : Nat) (v1 : Int32) (ζ : Sg), K2 this v1 ζ → V G (QM G 0 0 Post) 2 [some (.ref this), some (.int v1), none, none, none] [] ζ 0 0) : ∀ (this : Nat) (v1 : Int32) (σ : Sg), wp_X10_settlePromises_99 K2 this v1 σ Post → V G (QM G 0 0 Post) 99 [some (.ref this), some (.int v1), none, none, none] [] σ 0 0 := by
  intro this v1 σ h
  unfold wp_X10_settlePromises_99 at h
  refine V_iincv (c := 1) hG dX10_settlePromises_99 rfl (by decide) (hpV rfl rfl) ?_
  refine V_goto (tgt := 2) hG dX10_settlePromises_102 (by decide) ?_
  refine V_forget (lo' := [some (.ref this), some (.int (v1 + 1)), none, none, none]) ⟨rfl, ⟨rfl, trivial⟩⟩ ?_
  exact hK2 _ _ _ h
def wp_X10_settlePromises_27 (K2 : Nat → Int32 → Sg → Prop) : Nat → Nat → Int32 → Int32 → Int32 → Sg → (Rs → Sg → Prop) → Prop
  | 0, _, _, _, _, _, _ => False
  | f + 1, this, v1, v2, v3, σ, Post => ((v3 < 0 → (wp_X10_settlePromises_99 K2 this v1 σ Post)) ∧ (¬ v3 < 0 → ((v2 ≤ 0 → (wp_X10_settlePromises_99 K2 this v1 σ Post)) ∧ (¬ v2 ≤ 0 → this % 32 = 10 ∧ ∀ o1, o1 = sP σ this 48 → ∃ u2, o1 = some u2 ∧ aty (u2 % 32) = some .int ∧ ∃ j3, v3 = nI j3 ∧ j3 < aln u2 ∧ ((¬ (sI σ u2 j3) = v1 → (wp_X10_settlePromises_93 K2 (fun z0 z1 z2 z3 ζ => wp_X10_settlePromises_27 K2 f z0 z1 z2 z3 ζ Post) this v1 v2 v3 σ Post)) ∧ ((sI σ u2 j3) = v1 → this % 32 = 10 ∧ ∀ o4, o4 = sP σ this 52 → ∃ u5, o4 = some u5 ∧ aty (u5 % 32) = some .int ∧ ∃ j6, v3 = nI j6 ∧ j6 < aln u5 ∧ ((¬ (sI σ u5 j6) = (-1 : Int32) → (wp_X10_settlePromises_93 K2 (fun z0 z1 z2 z3 ζ => wp_X10_settlePromises_27 K2 f z0 z1 z2 z3 ζ Post) this v1 v2 v3 σ Post)) ∧ ((sI σ u5 j6) = (-1 : Int32) → this % 32 = 10 ∧ ∀ o7, o7 = sP σ this 51 → ∃ u8, o7 = some u8 ∧ aty (u8 % 32) = some .int ∧ ∃ j9, v3 = nI j9 ∧ j9 < aln u8 ∧ (((sI σ u8 j9) ≤ v2 → this % 32 = 10 ∧ ∀ o10, o10 = sP σ this 51 → ∃ u11, o10 = some u11 ∧ aty (u11 % 32) = some .int ∧ ∃ j12, v3 = nI j12 ∧ j12 < aln u11 ∧ (wp_X10_settlePromises_75 K2 (fun z0 z1 z2 z3 ζ => wp_X10_settlePromises_27 K2 f z0 z1 z2 z3 ζ Post) this v1 v2 v3 (sI σ u11 j12) σ Post)) ∧ (¬ (sI σ u8 j9) ≤ v2 → (wp_X10_settlePromises_75 K2 (fun z0 z1 z2 z3 ζ => wp_X10_settlePromises_27 K2 f z0 z1 z2 z3 ζ Post) this v1 v2 v3 v2 σ Post)))))))))))
set_option maxRecDepth 100000 in
set_option maxHeartbeats 4000000 in
theorem wv_X10_settlePromises_27 {L9 : Launch} {G : Cx} {Post : Rs → Sg → Prop} (hl : L9.stackTraces = false) (hG : CX L9 G yX10_settlePromises cX10_settlePromises 5 none [] { frames := 1, cells := 0, slots := 0, locals := 23 }) {K2 : Nat → Int32 → Sg → Prop} (hK2 : ∀ (this : Nat) (v1 : Int32) (ζ : Sg), K2 this v1 ζ → V G (QM G 0 0 Post) 2 [some (.ref this), some (.int v1), none, none, none] [] ζ 0 0) : ∀ (f : Nat) (this : Nat) (v1 : Int32) (v2 : Int32) (v3 : Int32) (σ : Sg), wp_X10_settlePromises_27 K2 f this v1 v2 v3 σ Post → V G (QM G 0 0 Post) 27 [some (.ref this), some (.int v1), some (.int v2), some (.int v3), none] [] σ 0 0 := by
  intro f
  induction f with
  | zero => intro _ _ _ _ σ h; exact h.elim
  | succ f ih =>
    intro this v1 v2 v3 σ h
    refine V_iload_n hG dX10_settlePromises_27 rfl ?_
    refine V_if_lt (tgt := 99) hG dX10_settlePromises_28 (by decide) (fun c => ?_) (fun c => ?_)
    · replace h := h.1 c
      refine V_forget (lo' := [some (.ref this), some (.int v1), none, none, none]) ⟨rfl, ⟨rfl, trivial⟩⟩ ?_
      refine V_widen (k' := 0) (n' := 0) (by first | exact Nat.le_of_ble_eq_true rfl | omega | (dsimp only; omega)) (by first | exact Nat.le_of_ble_eq_true rfl | omega | (dsimp only; omega)) ?_
      exact wv_X10_settlePromises_99 hl hG hK2 _ _ _ h
    · replace h := h.2 c
      refine V_iload_n hG dX10_settlePromises_31 rfl ?_
      refine V_if_le (tgt := 99) hG dX10_settlePromises_32 (by decide) (fun c => ?_) (fun c => ?_)
      · replace h := h.1 c
        refine V_forget (lo' := [some (.ref this), some (.int v1), none, none, none]) ⟨rfl, ⟨rfl, trivial⟩⟩ ?_
        refine V_widen (k' := 0) (n' := 0) (by first | exact Nat.le_of_ble_eq_true rfl | omega | (dsimp only; omega)) (by first | exact Nat.le_of_ble_eq_true rfl | omega | (dsimp only; omega)) ?_
        exact wv_X10_settlePromises_99 hl hG hK2 _ _ _ h
      · replace h := h.2 c
        refine V_aload_n (v := .ref this) hG dX10_settlePromises_35 rfl rfl ?_
        obtain ⟨ht, h⟩ := h
        refine V_getPv hG dX10_settlePromises_36 fl_X10_144 rfl ht (fun o1 ho => ?_)
        replace h := h o1 ho
        refine V_iload_n hG dX10_settlePromises_39 rfl ?_
        obtain ⟨u2, he, h⟩ := h
        subst he
        obtain ⟨ha, j3, hi, hj, h⟩ := h
        refine V_iald hG dX10_settlePromises_40 ha hi hj ?_
        refine V_iload_n hG dX10_settlePromises_41 rfl ?_
        refine V_icmp_ne (tgt := 93) hG dX10_settlePromises_42 (by decide) (fun c => ?_) (fun c => ?_)
        · replace h := h.1 c
          refine V_forget (lo' := [some (.ref this), some (.int v1), some (.int v2), some (.int v3), none]) ⟨rfl, ⟨rfl, ⟨rfl, ⟨rfl, trivial⟩⟩⟩⟩ ?_
          refine V_widen (k' := 0) (n' := 0) (by first | exact Nat.le_of_ble_eq_true rfl | omega | (dsimp only; omega)) (by first | exact Nat.le_of_ble_eq_true rfl | omega | (dsimp only; omega)) ?_
          exact wv_X10_settlePromises_93 hl hG hK2 (fun z0 z1 z2 z3 ζ hz => ih z0 z1 z2 z3 ζ hz) _ _ _ _ _ h
        · replace h := h.2 c
          refine V_aload_n (v := .ref this) hG dX10_settlePromises_45 rfl rfl ?_
          obtain ⟨ht, h⟩ := h
          refine V_getPv hG dX10_settlePromises_46 fl_X10_156 rfl ht (fun o4 ho => ?_)
          replace h := h o4 ho
          refine V_iload_n hG dX10_settlePromises_49 rfl ?_
          obtain ⟨u5, he, h⟩ := h
          subst he
          obtain ⟨ha, j6, hi, hj, h⟩ := h
          refine V_iald hG dX10_settlePromises_50 ha hi hj ?_
          refine V_iconst (v := (-1)) hG (by decide) dX10_settlePromises_51 ?_
          refine V_icmp_ne (tgt := 93) hG dX10_settlePromises_52 (by decide) (fun c => ?_) (fun c => ?_)
          · replace h := h.1 c
            refine V_forget (lo' := [some (.ref this), some (.int v1), some (.int v2), some (.int v3), none]) ⟨rfl, ⟨rfl, ⟨rfl, ⟨rfl, trivial⟩⟩⟩⟩ ?_
            refine V_widen (k' := 0) (n' := 0) (by first | exact Nat.le_of_ble_eq_true rfl | omega | (dsimp only; omega)) (by first | exact Nat.le_of_ble_eq_true rfl | omega | (dsimp only; omega)) ?_
            exact wv_X10_settlePromises_93 hl hG hK2 (fun z0 z1 z2 z3 ζ hz => ih z0 z1 z2 z3 ζ hz) _ _ _ _ _ h
          · replace h := h.2 c
            refine V_iload_n hG dX10_settlePromises_55 rfl ?_
            refine V_aload_n (v := .ref this) hG dX10_settlePromises_56 rfl rfl ?_
            obtain ⟨ht, h⟩ := h
            refine V_getPv hG dX10_settlePromises_57 fl_X10_153 rfl ht (fun o7 ho => ?_)
            replace h := h o7 ho
            refine V_iload_n hG dX10_settlePromises_60 rfl ?_
            obtain ⟨u8, he, h⟩ := h
            subst he
            obtain ⟨ha, j9, hi, hj, h⟩ := h
            refine V_iald hG dX10_settlePromises_61 ha hi hj ?_
            refine V_icmp_ge (tgt := 69) hG dX10_settlePromises_62 (by decide) (fun c => ?_) (fun c => ?_)
            · replace h := h.1 c
              refine V_aload_n (v := .ref this) hG dX10_settlePromises_69 rfl rfl ?_
              obtain ⟨ht, h⟩ := h
              refine V_getPv hG dX10_settlePromises_70 fl_X10_153 rfl ht (fun o10 ho => ?_)
              replace h := h o10 ho
              refine V_iload_n hG dX10_settlePromises_73 rfl ?_
              obtain ⟨u11, he, h⟩ := h
              subst he
              obtain ⟨ha, j12, hi, hj, h⟩ := h
              refine V_iald hG dX10_settlePromises_74 ha hi hj ?_
              refine V_forget (lo' := [some (.ref this), some (.int v1), some (.int v2), some (.int v3), none]) ⟨rfl, ⟨rfl, ⟨rfl, ⟨rfl, trivial⟩⟩⟩⟩ ?_
              refine V_widen (k' := 0) (n' := 0) (by first | exact Nat.le_of_ble_eq_true rfl | omega | (dsimp only; omega)) (by first | exact Nat.le_of_ble_eq_true rfl | omega | (dsimp only; omega)) ?_
              exact wv_X10_settlePromises_75 hl hG hK2 (fun z0 z1 z2 z3 ζ hz => ih z0 z1 z2 z3 ζ hz) _ _ _ _ _ _ h
            · replace h := h.2 c
              refine V_iload_n hG dX10_settlePromises_65 rfl ?_
              refine V_goto (tgt := 75) hG dX10_settlePromises_66 (by decide) ?_
              refine V_forget (lo' := [some (.ref this), some (.int v1), some (.int v2), some (.int v3), none]) ⟨rfl, ⟨rfl, ⟨rfl, ⟨rfl, trivial⟩⟩⟩⟩ ?_
              refine V_widen (k' := 0) (n' := 0) (by first | exact Nat.le_of_ble_eq_true rfl | omega | (dsimp only; omega)) (by first | exact Nat.le_of_ble_eq_true rfl | omega | (dsimp only; omega)) ?_
              exact wv_X10_settlePromises_75 hl hG hK2 (fun z0 z1 z2 z3 ζ hz => ih z0 z1 z2 z3 ζ hz) _ _ _ _ _ _ h
def wp_X10_settlePromises_2  : Nat → Nat → Int32 → Sg → (Rs → Sg → Prop) → Prop
  | 0, _, _, _, _ => False
  | f + 1, this, v1, σ, Post => (((12 : Int32) ≤ v1 → Post (.inl none) σ) ∧ (¬ (12 : Int32) ≤ v1 → this % 32 = 10 ∧ wp_X10_promisedOf this v1 σ (KI (fun x2 σ1 => this % 32 = 10 ∧ wp_X10_inStore this v1 σ1 (KI (fun x4 σ3 => this % 32 = 10 ∧ (∃ g, wp_X10_settlePromises_27 (fun z0 z1 ζ => wp_X10_settlePromises_2 f z0 z1 ζ Post) g this v1 (x2 - x4) ((sI σ3 this 47) - (1 : Int32)) σ3 Post)) (fun E σ3 => Post (.inr E) σ3))) (fun E σ1 => Post (.inr E) σ1))))
set_option maxRecDepth 100000 in
set_option maxHeartbeats 4000000 in
theorem wv_X10_settlePromises_2 {L9 : Launch} {G : Cx} {Post : Rs → Sg → Prop} (hl : L9.stackTraces = false) (hG : CX L9 G yX10_settlePromises cX10_settlePromises 5 none [] { frames := 1, cells := 0, slots := 0, locals := 23 })   : ∀ (f : Nat) (this : Nat) (v1 : Int32) (σ : Sg), wp_X10_settlePromises_2 f this v1 σ Post → V G (QM G 0 0 Post) 2 [some (.ref this), some (.int v1), none, none, none] [] σ 0 0 := by
  intro f
  induction f with
  | zero => intro _ _ σ h; exact h.elim
  | succ f ih =>
    intro this v1 σ h
    refine V_iload_n hG dX10_settlePromises_2 rfl ?_
    refine V_bipush (v := 12) hG (by decide) dX10_settlePromises_3 ?_
    refine V_icmp_ge (tgt := 105) hG dX10_settlePromises_5 (by decide) (fun c => ?_) (fun c => ?_)
    · replace h := h.1 c
      exact V_vret hG dX10_settlePromises_105 (by first | exact Nat.le_of_ble_eq_true rfl | omega | (dsimp only; omega)) (by first | exact Nat.le_of_ble_eq_true rfl | omega | (dsimp only; omega)) h
    · replace h := h.2 c
      refine V_aload_n (v := .ref this) hG dX10_settlePromises_8 rfl rfl ?_
      refine V_iload_n hG dX10_settlePromises_9 rfl ?_
      obtain ⟨ht, h⟩ := h
      refine V_cVI _ _ hG dX10_settlePromises_10 (ct_X10_promisedOf hl h) mv_X10_promisedOf ml_X10_209 ht rfl rfl rfl rfl (by first | exact Nat.le_of_ble_eq_true rfl | (simp only [List.map_cons, List.map_nil, List.sum_cons, List.sum_nil, cat_rf]; exact Nat.le_of_ble_eq_true rfl)) (Nat.le_of_ble_eq_true rfl) (Nat.le_of_ble_eq_true rfl) (by first | exact Nat.le_of_ble_eq_true rfl | omega | (dsimp only; omega)) (by first | exact Nat.le_of_ble_eq_true rfl | omega | (dsimp only; omega)) ?_ (fun x2 σ1 h9 => ?_)
      · exact fun E σ1 hx => VX_out hG (by first | exact Nat.le_of_ble_eq_true rfl | omega | (dsimp only; omega)) (by first | exact Nat.le_of_ble_eq_true rfl | omega | (dsimp only; omega)) hx
      · replace h := h9
        clear h9
        refine V_aload_n (v := .ref this) hG dX10_settlePromises_13 rfl rfl ?_
        refine V_iload_n hG dX10_settlePromises_14 rfl ?_
        obtain ⟨ht, h⟩ := h
        refine V_cVI _ _ hG dX10_settlePromises_15 (ct_X10_inStore hl h) mv_X10_inStore ml_X10_206 ht rfl rfl rfl rfl (by first | exact Nat.le_of_ble_eq_true rfl | (simp only [List.map_cons, List.map_nil, List.sum_cons, List.sum_nil, cat_rf]; exact Nat.le_of_ble_eq_true rfl)) (Nat.le_of_ble_eq_true rfl) (Nat.le_of_ble_eq_true rfl) (by first | exact Nat.le_of_ble_eq_true rfl | omega | (dsimp only; omega)) (by first | exact Nat.le_of_ble_eq_true rfl | omega | (dsimp only; omega)) ?_ (fun x4 σ3 h9 => ?_)
        · exact fun E σ3 hx => VX_out hG (by first | exact Nat.le_of_ble_eq_true rfl | omega | (dsimp only; omega)) (by first | exact Nat.le_of_ble_eq_true rfl | omega | (dsimp only; omega)) hx
        · replace h := h9
          clear h9
          refine V_isub hG dX10_settlePromises_18 ?_
          refine V_istore_n hG dX10_settlePromises_19 (Nat.le_of_ble_eq_true rfl) (hpV rfl rfl) ?_
          refine V_aload_n (v := .ref this) hG dX10_settlePromises_20 rfl rfl ?_
          obtain ⟨ht, h⟩ := h
          refine V_getI hG dX10_settlePromises_21 fl_X10_203 rfl ht ?_
          refine V_iconst (v := 1) hG (by decide) dX10_settlePromises_24 ?_
          refine V_isub hG dX10_settlePromises_25 ?_
          refine V_istore_n hG dX10_settlePromises_26 (Nat.le_of_ble_eq_true rfl) (hpV rfl rfl) ?_
          refine V_forget (lo' := [some (.ref this), some (.int v1), some (.int (x2 - x4)), some (.int ((sI σ3 this 47) - (1 : Int32))), none]) ⟨rfl, ⟨rfl, ⟨rfl, ⟨rfl, trivial⟩⟩⟩⟩ ?_
          obtain ⟨g, h⟩ := h
          refine V_widen (k' := 0) (n' := 0) (by first | exact Nat.le_of_ble_eq_true rfl | omega | (dsimp only; omega)) (by first | exact Nat.le_of_ble_eq_true rfl | omega | (dsimp only; omega)) ?_
          exact wv_X10_settlePromises_27 hl hG (fun z0 z1 ζ hz => ih z0 z1 ζ hz) g _ _ _ _ _ h
def wp_X10_settlePromises (this : Nat) (σ : Sg) (Post : Rs → Sg → Prop) : Prop := (∃ g, wp_X10_settlePromises_2 g this (0 : Int32) σ Post)
set_option maxRecDepth 100000 in
set_option maxHeartbeats 4000000 in
theorem ct_X10_settlePromises {l : Launch} (hl : l.stackTraces = false) {this : Nat} {σ : Sg} {Post : Rs → Sg → Prop} (h : wp_X10_settlePromises this σ Post) : Ct l yX10_settlePromises (.code yX10_settlePromises cX10_settlePromises 5 none) 1 23 0 0 [.ref this] σ Post := by
  refine Ct_of [some (.ref this), none, none, none, none] hl (by decide +kernel) rfl (fun ad => by rfl) (fun ad => by exact Nat.le_of_ble_eq_true rfl) (fun v hv => mem_lo hv rfl) ?_
  intro G hG
  unfold wp_X10_settlePromises at h
  refine V_iconst (v := 0) hG (by decide) dX10_settlePromises_0 ?_
  refine V_istore_n hG dX10_settlePromises_1 (Nat.le_of_ble_eq_true rfl) (hpV rfl rfl) ?_
  refine V_forget (lo' := [some (.ref this), some (.int (0 : Int32)), none, none, none]) ⟨rfl, ⟨rfl, trivial⟩⟩ ?_
  obtain ⟨g, h⟩ := h
  refine V_widen (k' := 0) (n' := 0) (by first | exact Nat.le_of_ble_eq_true rfl | omega | (dsimp only; omega)) (by first | exact Nat.le_of_ble_eq_true rfl | omega | (dsimp only; omega)) ?_
  exact wv_X10_settlePromises_2 hl hG  g _ _ _ h
def wp_X10_recall_79 (K33 : Nat → Int64 → Int64 → Sg → Prop) (K46 : Nat → Int64 → Int64 → Int32 → Sg → Prop) (this : Nat) (v4 : Int64) (v6 : Int32) (s0 : Int64) (s1 : Int64) (σ : Sg) (Post : Rs → Sg → Prop) : Prop := (K46 this (s0 ||| s1) v4 (v6 + 1) σ)
set_option maxRecDepth 100000 in
set_option maxHeartbeats 4000000 in
theorem wv_X10_recall_79 {L9 : Launch} {G : Cx} {Post : Rs → Sg → Prop} (hl : L9.stackTraces = false) (hG : CX L9 G yX10_recall cX10_recall 10 (some .int) [] { frames := 2, cells := 0, slots := 0, locals := 47 }) {K33 : Nat → Int64 → Int64 → Sg → Prop} {K46 : Nat → Int64 → Int64 → Int32 → Sg → Prop} (hK33 : ∀ (this : Nat) (v2 : Int64) (v4 : Int64) (ζ : Sg), K33 this v2 v4 ζ → V G (QM G 0 0 Post) 33 [some (.ref this), none, some (.long v2), none, some (.long v4), none, none, none, none, none] [] ζ 0 0) (hK46 : ∀ (this : Nat) (v2 : Int64) (v4 : Int64) (v6 : Int32) (ζ : Sg), K46 this v2 v4 v6 ζ → V G (QM G 0 0 Post) 46 [some (.ref this), none, some (.long v2), none, some (.long v4), none, some (.int v6), none, none, none] [] ζ 0 0) : ∀ (this : Nat) (v4 : Int64) (v6 : Int32) (s0 : Int64) (s1 : Int64) (σ : Sg), wp_X10_recall_79 K33 K46 this v4 v6 s0 s1 σ Post → V G (QM G 0 0 Post) 79 [some (.ref this), none, none, none, some (.long v4), none, some (.int v6), none, none, none] [.long s1, .long s0] σ 0 0 := by
  intro this v4 v6 s0 s1 σ h
  unfold wp_X10_recall_79 at h
  refine V_lor hG dX10_recall_79 ?_
  refine V_lstore_n hG dX10_recall_80 (Nat.le_of_ble_eq_true rfl) (hpN rfl) ?_
  refine V_iincv (c := 1) hG dX10_recall_81 rfl (by decide) (hpN rfl) ?_
  refine V_goto (tgt := 46) hG dX10_recall_84 (by decide) ?_
  refine V_forget (lo' := [some (.ref this), none, some (.long (s0 ||| s1)), none, some (.long v4), none, some (.int (v6 + 1)), none, none, none]) ⟨rfl, ⟨rfl, ⟨rfl, ⟨rfl, trivial⟩⟩⟩⟩ ?_
  exact hK46 _ _ _ _ _ h
def wp_X10_recall_46 (K33 : Nat → Int64 → Int64 → Sg → Prop) : Nat → Nat → Int64 → Int64 → Int32 → Sg → (Rs → Sg → Prop) → Prop
  | 0, _, _, _, _, _, _ => False
  | f + 1, this, v2, v4, v6, σ, Post => this % 32 = 10 ∧ (((sI σ this 14) ≤ v6 → (K33 this v2 v4 σ)) ∧ (¬ (sI σ this 14) ≤ v6 → this % 32 = 10 ∧ ∀ o1, o1 = sP σ this 26 → ∃ u2, o1 = some u2 ∧ aty (u2 % 32) = some .long ∧ ∃ j3, v6 = nI j3 ∧ j3 < aln u2 ∧ (((lg_cmp ((sL σ u2 j3) &&& v4) (0 : Int64)) = 0 → (wp_X10_recall_79 K33 (fun z0 z1 z2 z3 ζ => wp_X10_recall_46 K33 f z0 z1 z2 z3 ζ Post) this v4 v6 v2 (0 : Int64) σ Post)) ∧ (¬ (lg_cmp ((sL σ u2 j3) &&& v4) (0 : Int64)) = 0 → (wp_X10_recall_79 K33 (fun z0 z1 z2 z3 ζ => wp_X10_recall_46 K33 f z0 z1 z2 z3 ζ Post) this v4 v6 v2 ((1 : Int64) <<< (Int32.toInt64 v6 &&& 63)) σ Post)))))
set_option maxRecDepth 100000 in
set_option maxHeartbeats 4000000 in
theorem wv_X10_recall_46 {L9 : Launch} {G : Cx} {Post : Rs → Sg → Prop} (hl : L9.stackTraces = false) (hG : CX L9 G yX10_recall cX10_recall 10 (some .int) [] { frames := 2, cells := 0, slots := 0, locals := 47 }) {K33 : Nat → Int64 → Int64 → Sg → Prop} (hK33 : ∀ (this : Nat) (v2 : Int64) (v4 : Int64) (ζ : Sg), K33 this v2 v4 ζ → V G (QM G 0 0 Post) 33 [some (.ref this), none, some (.long v2), none, some (.long v4), none, none, none, none, none] [] ζ 0 0) : ∀ (f : Nat) (this : Nat) (v2 : Int64) (v4 : Int64) (v6 : Int32) (σ : Sg), wp_X10_recall_46 K33 f this v2 v4 v6 σ Post → V G (QM G 0 0 Post) 46 [some (.ref this), none, some (.long v2), none, some (.long v4), none, some (.int v6), none, none, none] [] σ 0 0 := by
  intro f
  induction f with
  | zero => intro _ _ _ _ σ h; exact h.elim
  | succ f ih =>
    intro this v2 v4 v6 σ h
    refine V_iload hG dX10_recall_46 rfl ?_
    refine V_aload_n (v := .ref this) hG dX10_recall_48 rfl rfl ?_
    obtain ⟨ht, h⟩ := h
    refine V_getI hG dX10_recall_49 fl_X10_176 rfl ht ?_
    refine V_icmp_ge (tgt := 87) hG dX10_recall_52 (by decide) (fun c => ?_) (fun c => ?_)
    · replace h := h.1 c
      refine V_goto (tgt := 33) hG dX10_recall_87 (by decide) ?_
      refine V_forget (lo' := [some (.ref this), none, some (.long v2), none, some (.long v4), none, none, none, none, none]) ⟨rfl, ⟨rfl, ⟨rfl, trivial⟩⟩⟩ ?_
      exact hK33 _ _ _ _ h
    · replace h := h.2 c
      refine V_lload_n hG dX10_recall_55 rfl ?_
      refine V_aload_n (v := .ref this) hG dX10_recall_56 rfl rfl ?_
      obtain ⟨ht, h⟩ := h
      refine V_getPv hG dX10_recall_57 fl_X10_86 rfl ht (fun o1 ho => ?_)
      replace h := h o1 ho
      refine V_iload hG dX10_recall_60 rfl ?_
      obtain ⟨u2, he, h⟩ := h
      subst he
      obtain ⟨ha, j3, hi, hj, h⟩ := h
      refine V_lald hG dX10_recall_62 ha hi hj ?_
      refine V_lload hG dX10_recall_63 rfl ?_
      refine V_land hG dX10_recall_65 ?_
      refine V_lconst (v := 0) hG (by decide) dX10_recall_66 ?_
      refine V_lcmp hG dX10_recall_67 ?_
      refine V_if_eq (tgt := 78) hG dX10_recall_68 (by decide) (fun c => ?_) (fun c => ?_)
      · replace h := h.1 c
        refine V_lconst (v := 0) hG (by decide) dX10_recall_78 ?_
        refine V_forget (lo' := [some (.ref this), none, none, none, some (.long v4), none, some (.int v6), none, none, none]) ⟨rfl, ⟨rfl, ⟨rfl, trivial⟩⟩⟩ ?_
        refine V_widen (k' := 0) (n' := 0) (by first | exact Nat.le_of_ble_eq_true rfl | omega | (dsimp only; omega)) (by first | exact Nat.le_of_ble_eq_true rfl | omega | (dsimp only; omega)) ?_
        exact wv_X10_recall_79 hl hG hK33 (fun z0 z1 z2 z3 ζ hz => ih z0 z1 z2 z3 ζ hz) _ _ _ _ _ _ h
      · replace h := h.2 c
        refine V_lconst (v := 1) hG (by decide) dX10_recall_71 ?_
        refine V_iload hG dX10_recall_72 rfl ?_
        refine V_lshl hG dX10_recall_74 ?_
        refine V_goto (tgt := 79) hG dX10_recall_75 (by decide) ?_
        refine V_forget (lo' := [some (.ref this), none, none, none, some (.long v4), none, some (.int v6), none, none, none]) ⟨rfl, ⟨rfl, ⟨rfl, trivial⟩⟩⟩ ?_
        refine V_widen (k' := 0) (n' := 0) (by first | exact Nat.le_of_ble_eq_true rfl | omega | (dsimp only; omega)) (by first | exact Nat.le_of_ble_eq_true rfl | omega | (dsimp only; omega)) ?_
        exact wv_X10_recall_79 hl hG hK33 (fun z0 z1 z2 z3 ζ hz => ih z0 z1 z2 z3 ζ hz) _ _ _ _ _ _ h
def wp_X10_recall_178 (K99 : Nat → Int64 → Int32 → Int32 → Int32 → Sg → Prop) (this : Nat) (v2 : Int64) (v6 : Int32) (v7 : Int32) (v8 : Int32) (σ : Sg) (Post : Rs → Sg → Prop) : Prop := (K99 this v2 v6 v7 (v8 + 1) σ)
set_option maxRecDepth 100000 in
set_option maxHeartbeats 4000000 in
theorem wv_X10_recall_178 {L9 : Launch} {G : Cx} {Post : Rs → Sg → Prop} (hl : L9.stackTraces = false) (hG : CX L9 G yX10_recall cX10_recall 10 (some .int) [] { frames := 2, cells := 0, slots := 0, locals := 47 }) {K99 : Nat → Int64 → Int32 → Int32 → Int32 → Sg → Prop} (hK99 : ∀ (this : Nat) (v2 : Int64) (v6 : Int32) (v7 : Int32) (v8 : Int32) (ζ : Sg), K99 this v2 v6 v7 v8 ζ → V G (QM G 0 0 Post) 99 [some (.ref this), none, some (.long v2), none, none, none, some (.int v6), some (.int v7), some (.int v8), none] [] ζ 0 0) : ∀ (this : Nat) (v2 : Int64) (v6 : Int32) (v7 : Int32) (v8 : Int32) (σ : Sg), wp_X10_recall_178 K99 this v2 v6 v7 v8 σ Post → V G (QM G 0 0 Post) 178 [some (.ref this), none, some (.long v2), none, none, none, some (.int v6), some (.int v7), some (.int v8), none] [] σ 0 0 := by
  intro this v2 v6 v7 v8 σ h
  unfold wp_X10_recall_178 at h
  refine V_iincv (c := 1) hG dX10_recall_178 rfl (by decide) (hpV rfl rfl) ?_
  refine V_goto (tgt := 99) hG dX10_recall_181 (by decide) ?_
  refine V_forget (lo' := [some (.ref this), none, some (.long v2), none, none, none, some (.int v6), some (.int v7), some (.int (v8 + 1)), none]) ⟨rfl, ⟨rfl, ⟨rfl, ⟨rfl, ⟨rfl, trivial⟩⟩⟩⟩⟩ ?_
  exact hK99 _ _ _ _ _ _ h
def wp_X10_recall_150 (K99 : Nat → Int64 → Int32 → Int32 → Int32 → Sg → Prop) (this : Nat) (v2 : Int64) (v6 : Int32) (v8 : Int32) (v9 : Int32) (s0 : Int32) (s1 : Int32) (σ : Sg) (Post : Rs → Sg → Prop) : Prop := ((v9 = 0 → (wp_X10_recall_178 K99 this v2 v6 (s0 + s1) v8 σ Post)) ∧ (¬ v9 = 0 → this % 32 = 10 ∧ ∀ o1, o1 = sP σ this 18 → ∃ u2, o1 = some u2 ∧ aty (u2 % 32) = some .int ∧ ∃ j3, v8 = nI j3 ∧ j3 < aln u2 ∧ (((4 : Int32) ≤ (sI σ u2 j3) → (wp_X10_recall_178 K99 this v2 v6 (s0 + s1) v8 σ Post)) ∧ (¬ (4 : Int32) ≤ (sI σ u2 j3) → this % 32 = 10 ∧ wp_X10_scrap this v8 σ (KV (fun σ4 => (wp_X10_recall_178 K99 this v2 (v6 + 1) (s0 + s1) v8 σ4 Post)) (fun E σ4 => Post (.inr E) σ4))))))
set_option maxRecDepth 100000 in
set_option maxHeartbeats 4000000 in
theorem wv_X10_recall_150 {L9 : Launch} {G : Cx} {Post : Rs → Sg → Prop} (hl : L9.stackTraces = false) (hG : CX L9 G yX10_recall cX10_recall 10 (some .int) [] { frames := 2, cells := 0, slots := 0, locals := 47 }) {K99 : Nat → Int64 → Int32 → Int32 → Int32 → Sg → Prop} (hK99 : ∀ (this : Nat) (v2 : Int64) (v6 : Int32) (v7 : Int32) (v8 : Int32) (ζ : Sg), K99 this v2 v6 v7 v8 ζ → V G (QM G 0 0 Post) 99 [some (.ref this), none, some (.long v2), none, none, none, some (.int v6), some (.int v7), some (.int v8), none] [] ζ 0 0) : ∀ (this : Nat) (v2 : Int64) (v6 : Int32) (v8 : Int32) (v9 : Int32) (s0 : Int32) (s1 : Int32) (σ : Sg), wp_X10_recall_150 K99 this v2 v6 v8 v9 s0 s1 σ Post → V G (QM G 0 0 Post) 150 [some (.ref this), none, some (.long v2), none, none, none, some (.int v6), none, some (.int v8), some (.int v9)] [.int s1, .int s0] σ 0 0 := by
  intro this v2 v6 v8 v9 s0 s1 σ h
  unfold wp_X10_recall_150 at h
  refine V_iadd hG dX10_recall_150 ?_
  refine V_istore hG dX10_recall_151 (Nat.le_of_ble_eq_true rfl) (hpV rfl rfl) ?_
  refine V_iload hG dX10_recall_153 rfl ?_
  refine V_if_eq (tgt := 178) hG dX10_recall_155 (by decide) (fun c => ?_) (fun c => ?_)
  · replace h := h.1 c
    refine V_forget (lo' := [some (.ref this), none, some (.long v2), none, none, none, some (.int v6), some (.int (s0 + s1)), some (.int v8), none]) ⟨rfl, ⟨rfl, ⟨rfl, ⟨rfl, ⟨rfl, trivial⟩⟩⟩⟩⟩ ?_
    refine V_widen (k' := 0) (n' := 0) (by first | exact Nat.le_of_ble_eq_true rfl | omega | (dsimp only; omega)) (by first | exact Nat.le_of_ble_eq_true rfl | omega | (dsimp only; omega)) ?_
    exact wv_X10_recall_178 hl hG hK99 _ _ _ _ _ _ h
  · replace h := h.2 c
    refine V_aload_n (v := .ref this) hG dX10_recall_158 rfl rfl ?_
    obtain ⟨ht, h⟩ := h
    refine V_getPv hG dX10_recall_159 fl_X10_62 rfl ht (fun o1 ho => ?_)
    replace h := h o1 ho
    refine V_iload hG dX10_recall_162 rfl ?_
    obtain ⟨u2, he, h⟩ := h
    subst he
    obtain ⟨ha, j3, hi, hj, h⟩ := h
    refine V_iald hG dX10_recall_164 ha hi hj ?_
    refine V_iconst (v := 4) hG (by decide) dX10_recall_165 ?_
    refine V_icmp_ge (tgt := 178) hG dX10_recall_166 (by decide) (fun c => ?_) (fun c => ?_)
    · replace h := h.1 c
      refine V_forget (lo' := [some (.ref this), none, some (.long v2), none, none, none, some (.int v6), some (.int (s0 + s1)), some (.int v8), none]) ⟨rfl, ⟨rfl, ⟨rfl, ⟨rfl, ⟨rfl, trivial⟩⟩⟩⟩⟩ ?_
      refine V_widen (k' := 0) (n' := 0) (by first | exact Nat.le_of_ble_eq_true rfl | omega | (dsimp only; omega)) (by first | exact Nat.le_of_ble_eq_true rfl | omega | (dsimp only; omega)) ?_
      exact wv_X10_recall_178 hl hG hK99 _ _ _ _ _ _ h
    · replace h := h.2 c
      refine V_aload_n (v := .ref this) hG dX10_recall_169 rfl rfl ?_
      refine V_iload hG dX10_recall_170 rfl ?_
      obtain ⟨ht, h⟩ := h
      refine V_cVV _ _ hG dX10_recall_172 (ct_X10_scrap hl h) mv_X10_scrap ml_X10_243 ht rfl rfl rfl rfl (by first | exact Nat.le_of_ble_eq_true rfl | (simp only [List.map_cons, List.map_nil, List.sum_cons, List.sum_nil, cat_rf]; exact Nat.le_of_ble_eq_true rfl)) (Nat.le_of_ble_eq_true rfl) (Nat.le_of_ble_eq_true rfl) (by first | exact Nat.le_of_ble_eq_true rfl | omega | (dsimp only; omega)) (by first | exact Nat.le_of_ble_eq_true rfl | omega | (dsimp only; omega)) ?_ (fun σ4 h9 => ?_)
      · exact fun E σ4 hx => VX_out hG (by first | exact Nat.le_of_ble_eq_true rfl | omega | (dsimp only; omega)) (by first | exact Nat.le_of_ble_eq_true rfl | omega | (dsimp only; omega)) hx
      · replace h := h9
        clear h9
        refine V_iincv (c := 1) hG dX10_recall_175 rfl (by decide) (hpN rfl) ?_
        refine V_forget (lo' := [some (.ref this), none, some (.long v2), none, none, none, some (.int (v6 + 1)), some (.int (s0 + s1)), some (.int v8), none]) ⟨rfl, ⟨rfl, ⟨rfl, ⟨rfl, ⟨rfl, trivial⟩⟩⟩⟩⟩ ?_
        refine V_widen (k' := 0) (n' := 0) (by first | exact Nat.le_of_ble_eq_true rfl | omega | (dsimp only; omega)) (by first | exact Nat.le_of_ble_eq_true rfl | omega | (dsimp only; omega)) ?_
        exact wv_X10_recall_178 hl hG hK99 _ _ _ _ _ _ h
def wp_X10_recall_149 (K99 : Nat → Int64 → Int32 → Int32 → Int32 → Sg → Prop) (this : Nat) (v2 : Int64) (v6 : Int32) (v8 : Int32) (v9 : Int32) (s0 : Int32) (σ : Sg) (Post : Rs → Sg → Prop) : Prop := (wp_X10_recall_150 K99 this v2 v6 v8 v9 s0 (0 : Int32) σ Post)
set_option maxRecDepth 100000 in
set_option maxHeartbeats 4000000 in
theorem wv_X10_recall_149 {L9 : Launch} {G : Cx} {Post : Rs → Sg → Prop} (hl : L9.stackTraces = false) (hG : CX L9 G yX10_recall cX10_recall 10 (some .int) [] { frames := 2, cells := 0, slots := 0, locals := 47 }) {K99 : Nat → Int64 → Int32 → Int32 → Int32 → Sg → Prop} (hK99 : ∀ (this : Nat) (v2 : Int64) (v6 : Int32) (v7 : Int32) (v8 : Int32) (ζ : Sg), K99 this v2 v6 v7 v8 ζ → V G (QM G 0 0 Post) 99 [some (.ref this), none, some (.long v2), none, none, none, some (.int v6), some (.int v7), some (.int v8), none] [] ζ 0 0) : ∀ (this : Nat) (v2 : Int64) (v6 : Int32) (v8 : Int32) (v9 : Int32) (s0 : Int32) (σ : Sg), wp_X10_recall_149 K99 this v2 v6 v8 v9 s0 σ Post → V G (QM G 0 0 Post) 149 [some (.ref this), none, some (.long v2), none, none, none, some (.int v6), none, some (.int v8), some (.int v9)] [.int s0] σ 0 0 := by
  intro this v2 v6 v8 v9 s0 σ h
  unfold wp_X10_recall_149 at h
  refine V_iconst (v := 0) hG (by decide) dX10_recall_149 ?_
  refine V_forget (lo' := [some (.ref this), none, some (.long v2), none, none, none, some (.int v6), none, some (.int v8), some (.int v9)]) ⟨rfl, ⟨rfl, ⟨rfl, ⟨rfl, ⟨rfl, trivial⟩⟩⟩⟩⟩ ?_
  refine V_widen (k' := 0) (n' := 0) (by first | exact Nat.le_of_ble_eq_true rfl | omega | (dsimp only; omega)) (by first | exact Nat.le_of_ble_eq_true rfl | omega | (dsimp only; omega)) ?_
  exact wv_X10_recall_150 hl hG hK99 _ _ _ _ _ _ _ _ h
def wp_X10_recall_124 (K99 : Nat → Int64 → Int32 → Int32 → Int32 → Sg → Prop) (this : Nat) (v2 : Int64) (v6 : Int32) (v7 : Int32) (v8 : Int32) (s0 : Int32) (σ : Sg) (Post : Rs → Sg → Prop) : Prop := ((s0 = 0 → (wp_X10_recall_149 K99 this v2 v6 v8 s0 v7 σ Post)) ∧ (¬ s0 = 0 → this % 32 = 10 ∧ ∀ o1, o1 = sP σ this 18 → ∃ u2, o1 = some u2 ∧ aty (u2 % 32) = some .int ∧ ∃ j3, v8 = nI j3 ∧ j3 < aln u2 ∧ ((¬ (sI σ u2 j3) = (6 : Int32) → (wp_X10_recall_149 K99 this v2 v6 v8 s0 v7 σ Post)) ∧ ((sI σ u2 j3) = (6 : Int32) → (wp_X10_recall_150 K99 this v2 v6 v8 s0 v7 (1 : Int32) σ Post)))))
set_option maxRecDepth 100000 in
set_option maxHeartbeats 4000000 in
theorem wv_X10_recall_124 {L9 : Launch} {G : Cx} {Post : Rs → Sg → Prop} (hl : L9.stackTraces = false) (hG : CX L9 G yX10_recall cX10_recall 10 (some .int) [] { frames := 2, cells := 0, slots := 0, locals := 47 }) {K99 : Nat → Int64 → Int32 → Int32 → Int32 → Sg → Prop} (hK99 : ∀ (this : Nat) (v2 : Int64) (v6 : Int32) (v7 : Int32) (v8 : Int32) (ζ : Sg), K99 this v2 v6 v7 v8 ζ → V G (QM G 0 0 Post) 99 [some (.ref this), none, some (.long v2), none, none, none, some (.int v6), some (.int v7), some (.int v8), none] [] ζ 0 0) : ∀ (this : Nat) (v2 : Int64) (v6 : Int32) (v7 : Int32) (v8 : Int32) (s0 : Int32) (σ : Sg), wp_X10_recall_124 K99 this v2 v6 v7 v8 s0 σ Post → V G (QM G 0 0 Post) 124 [some (.ref this), none, some (.long v2), none, none, none, some (.int v6), some (.int v7), some (.int v8), none] [.int s0] σ 0 0 := by
  intro this v2 v6 v7 v8 s0 σ h
  unfold wp_X10_recall_124 at h
  refine V_istore hG dX10_recall_124 (Nat.le_of_ble_eq_true rfl) (hpV rfl rfl) ?_
  refine V_iload hG dX10_recall_126 rfl ?_
  refine V_iload hG dX10_recall_128 rfl ?_
  refine V_if_eq (tgt := 149) hG dX10_recall_130 (by decide) (fun c => ?_) (fun c => ?_)
  · replace h := h.1 c
    refine V_forget (lo' := [some (.ref this), none, some (.long v2), none, none, none, some (.int v6), none, some (.int v8), some (.int s0)]) ⟨rfl, ⟨rfl, ⟨rfl, ⟨rfl, ⟨rfl, trivial⟩⟩⟩⟩⟩ ?_
    refine V_widen (k' := 0) (n' := 0) (by first | exact Nat.le_of_ble_eq_true rfl | omega | (dsimp only; omega)) (by first | exact Nat.le_of_ble_eq_true rfl | omega | (dsimp only; omega)) ?_
    exact wv_X10_recall_149 hl hG hK99 _ _ _ _ _ _ _ h
  · replace h := h.2 c
    refine V_aload_n (v := .ref this) hG dX10_recall_133 rfl rfl ?_
    obtain ⟨ht, h⟩ := h
    refine V_getPv hG dX10_recall_134 fl_X10_62 rfl ht (fun o1 ho => ?_)
    replace h := h o1 ho
    refine V_iload hG dX10_recall_137 rfl ?_
    obtain ⟨u2, he, h⟩ := h
    subst he
    obtain ⟨ha, j3, hi, hj, h⟩ := h
    refine V_iald hG dX10_recall_139 ha hi hj ?_
    refine V_bipush (v := 6) hG (by decide) dX10_recall_140 ?_
    refine V_icmp_ne (tgt := 149) hG dX10_recall_142 (by decide) (fun c => ?_) (fun c => ?_)
    · replace h := h.1 c
      refine V_forget (lo' := [some (.ref this), none, some (.long v2), none, none, none, some (.int v6), none, some (.int v8), some (.int s0)]) ⟨rfl, ⟨rfl, ⟨rfl, ⟨rfl, ⟨rfl, trivial⟩⟩⟩⟩⟩ ?_
      refine V_widen (k' := 0) (n' := 0) (by first | exact Nat.le_of_ble_eq_true rfl | omega | (dsimp only; omega)) (by first | exact Nat.le_of_ble_eq_true rfl | omega | (dsimp only; omega)) ?_
      exact wv_X10_recall_149 hl hG hK99 _ _ _ _ _ _ _ h
    · replace h := h.2 c
      refine V_iconst (v := 1) hG (by decide) dX10_recall_145 ?_
      refine V_goto (tgt := 150) hG dX10_recall_146 (by decide) ?_
      refine V_forget (lo' := [some (.ref this), none, some (.long v2), none, none, none, some (.int v6), none, some (.int v8), some (.int s0)]) ⟨rfl, ⟨rfl, ⟨rfl, ⟨rfl, ⟨rfl, trivial⟩⟩⟩⟩⟩ ?_
      refine V_widen (k' := 0) (n' := 0) (by first | exact Nat.le_of_ble_eq_true rfl | omega | (dsimp only; omega)) (by first | exact Nat.le_of_ble_eq_true rfl | omega | (dsimp only; omega)) ?_
      exact wv_X10_recall_150 hl hG hK99 _ _ _ _ _ _ _ _ h
def wp_X10_recall_99  : Nat → Nat → Int64 → Int32 → Int32 → Int32 → Sg → (Rs → Sg → Prop) → Prop
  | 0, _, _, _, _, _, _, _ => False
  | f + 1, this, v2, v6, v7, v8, σ, Post => this % 32 = 10 ∧ (((sI σ this 14) ≤ v8 → this % 32 = 10 ∧ wp_X10_settlePromises this σ (KV (fun σ1 => Post (.inl (some (.int (v6 + ((100 : Int32) * v7))))) σ1) (fun E σ1 => Post (.inr E) σ1))) ∧ (¬ (sI σ this 14) ≤ v8 → ((¬ (lg_cmp ((v2 >>> (Int32.toInt64 v8 &&& 63)) &&& (1 : Int64)) (1 : Int64)) = 0 → (wp_X10_recall_124 (fun z0 z1 z2 z3 z4 ζ => wp_X10_recall_99 f z0 z1 z2 z3 z4 ζ Post) this v2 v6 v7 v8 (0 : Int32) σ Post)) ∧ ((lg_cmp ((v2 >>> (Int32.toInt64 v8 &&& 63)) &&& (1 : Int64)) (1 : Int64)) = 0 → (wp_X10_recall_124 (fun z0 z1 z2 z3 z4 ζ => wp_X10_recall_99 f z0 z1 z2 z3 z4 ζ Post) this v2 v6 v7 v8 (1 : Int32) σ Post)))))
set_option maxRecDepth 100000 in
set_option maxHeartbeats 4000000 in
theorem wv_X10_recall_99 {L9 : Launch} {G : Cx} {Post : Rs → Sg → Prop} (hl : L9.stackTraces = false) (hG : CX L9 G yX10_recall cX10_recall 10 (some .int) [] { frames := 2, cells := 0, slots := 0, locals := 47 })   : ∀ (f : Nat) (this : Nat) (v2 : Int64) (v6 : Int32) (v7 : Int32) (v8 : Int32) (σ : Sg), wp_X10_recall_99 f this v2 v6 v7 v8 σ Post → V G (QM G 0 0 Post) 99 [some (.ref this), none, some (.long v2), none, none, none, some (.int v6), some (.int v7), some (.int v8), none] [] σ 0 0 := by
  intro f
  induction f with
  | zero => intro _ _ _ _ _ σ h; exact h.elim
  | succ f ih =>
    intro this v2 v6 v7 v8 σ h
    refine V_iload hG dX10_recall_99 rfl ?_
    refine V_aload_n (v := .ref this) hG dX10_recall_101 rfl rfl ?_
    obtain ⟨ht, h⟩ := h
    refine V_getI hG dX10_recall_102 fl_X10_176 rfl ht ?_
    refine V_icmp_ge (tgt := 184) hG dX10_recall_105 (by decide) (fun c => ?_) (fun c => ?_)
    · replace h := h.1 c
      refine V_aload_n (v := .ref this) hG dX10_recall_184 rfl rfl ?_
      obtain ⟨ht, h⟩ := h
      refine V_cVV _ _ hG dX10_recall_185 (ct_X10_settlePromises hl h) mv_X10_settlePromises ml_X10_246 ht rfl rfl rfl rfl (by first | exact Nat.le_of_ble_eq_true rfl | (simp only [List.map_cons, List.map_nil, List.sum_cons, List.sum_nil, cat_rf]; exact Nat.le_of_ble_eq_true rfl)) (Nat.le_of_ble_eq_true rfl) (Nat.le_of_ble_eq_true rfl) (by first | exact Nat.le_of_ble_eq_true rfl | omega | (dsimp only; omega)) (by first | exact Nat.le_of_ble_eq_true rfl | omega | (dsimp only; omega)) ?_ (fun σ1 h9 => ?_)
      · exact fun E σ1 hx => VX_out hG (by first | exact Nat.le_of_ble_eq_true rfl | omega | (dsimp only; omega)) (by first | exact Nat.le_of_ble_eq_true rfl | omega | (dsimp only; omega)) hx
      · replace h := h9
        clear h9
        refine V_iload hG dX10_recall_188 rfl ?_
        refine V_bipush (v := 100) hG (by decide) dX10_recall_190 ?_
        refine V_iload hG dX10_recall_192 rfl ?_
        refine V_imul hG dX10_recall_194 ?_
        refine V_iadd hG dX10_recall_195 ?_
        exact V_iret hG dX10_recall_196 (by first | exact Nat.le_of_ble_eq_true rfl | omega | (dsimp only; omega)) (by first | exact Nat.le_of_ble_eq_true rfl | omega | (dsimp only; omega)) h
    · replace h := h.2 c
      refine V_lload_n hG dX10_recall_108 rfl ?_
      refine V_iload hG dX10_recall_109 rfl ?_
      refine V_lshr hG dX10_recall_111 ?_
      refine V_lconst (v := 1) hG (by decide) dX10_recall_112 ?_
      refine V_land hG dX10_recall_113 ?_
      refine V_lconst (v := 1) hG (by decide) dX10_recall_114 ?_
      refine V_lcmp hG dX10_recall_115 ?_
      refine V_if_ne (tgt := 123) hG dX10_recall_116 (by decide) (fun c => ?_) (fun c => ?_)
      · replace h := h.1 c
        refine V_iconst (v := 0) hG (by decide) dX10_recall_123 ?_
        refine V_forget (lo' := [some (.ref this), none, some (.long v2), none, none, none, some (.int v6), some (.int v7), some (.int v8), none]) ⟨rfl, ⟨rfl, ⟨rfl, ⟨rfl, ⟨rfl, trivial⟩⟩⟩⟩⟩ ?_
        refine V_widen (k' := 0) (n' := 0) (by first | exact Nat.le_of_ble_eq_true rfl | omega | (dsimp only; omega)) (by first | exact Nat.le_of_ble_eq_true rfl | omega | (dsimp only; omega)) ?_
        exact wv_X10_recall_124 hl hG (fun z0 z1 z2 z3 z4 ζ hz => ih z0 z1 z2 z3 z4 ζ hz) _ _ _ _ _ _ _ h
      · replace h := h.2 c
        refine V_iconst (v := 1) hG (by decide) dX10_recall_119 ?_
        refine V_goto (tgt := 124) hG dX10_recall_120 (by decide) ?_
        refine V_forget (lo' := [some (.ref this), none, some (.long v2), none, none, none, some (.int v6), some (.int v7), some (.int v8), none]) ⟨rfl, ⟨rfl, ⟨rfl, ⟨rfl, ⟨rfl, trivial⟩⟩⟩⟩⟩ ?_
        refine V_widen (k' := 0) (n' := 0) (by first | exact Nat.le_of_ble_eq_true rfl | omega | (dsimp only; omega)) (by first | exact Nat.le_of_ble_eq_true rfl | omega | (dsimp only; omega)) ?_
        exact wv_X10_recall_124 hl hG (fun z0 z1 z2 z3 z4 ζ hz => ih z0 z1 z2 z3 z4 ζ hz) _ _ _ _ _ _ _ h
def wp_X10_recall_33  : Nat → Nat → Int64 → Int64 → Sg → (Rs → Sg → Prop) → Prop
  | 0, _, _, _, _, _ => False
  | f + 1, this, v2, v4, σ, Post => (((lg_cmp v2 v4) = 0 → (∃ g, wp_X10_recall_99 g this v2 (0 : Int32) (0 : Int32) (0 : Int32) σ Post)) ∧ (¬ (lg_cmp v2 v4) = 0 → (∃ g, wp_X10_recall_46 (fun z0 z1 z2 ζ => wp_X10_recall_33 f z0 z1 z2 ζ Post) g this v2 v2 (0 : Int32) σ Post)))
set_option maxRecDepth 100000 in
set_option maxHeartbeats 4000000 in
theorem wv_X10_recall_33 {L9 : Launch} {G : Cx} {Post : Rs → Sg → Prop} (hl : L9.stackTraces = false) (hG : CX L9 G yX10_recall cX10_recall 10 (some .int) [] { frames := 2, cells := 0, slots := 0, locals := 47 })   : ∀ (f : Nat) (this : Nat) (v2 : Int64) (v4 : Int64) (σ : Sg), wp_X10_recall_33 f this v2 v4 σ Post → V G (QM G 0 0 Post) 33 [some (.ref this), none, some (.long v2), none, some (.long v4), none, none, none, none, none] [] σ 0 0 := by
  intro f
  induction f with
  | zero => intro _ _ _ σ h; exact h.elim
  | succ f ih =>
    intro this v2 v4 σ h
    refine V_lload_n hG dX10_recall_33 rfl ?_
    refine V_lload hG dX10_recall_34 rfl ?_
    refine V_lcmp hG dX10_recall_36 ?_
    refine V_if_eq (tgt := 90) hG dX10_recall_37 (by decide) (fun c => ?_) (fun c => ?_)
    · replace h := h.1 c
      refine V_iconst (v := 0) hG (by decide) dX10_recall_90 ?_
      refine V_istore hG dX10_recall_91 (Nat.le_of_ble_eq_true rfl) (hpN rfl) ?_
      refine V_iconst (v := 0) hG (by decide) dX10_recall_93 ?_
      refine V_istore hG dX10_recall_94 (Nat.le_of_ble_eq_true rfl) (hpV rfl rfl) ?_
      refine V_iconst (v := 0) hG (by decide) dX10_recall_96 ?_
      refine V_istore hG dX10_recall_97 (Nat.le_of_ble_eq_true rfl) (hpV rfl rfl) ?_
      refine V_forget (lo' := [some (.ref this), none, some (.long v2), none, none, none, some (.int (0 : Int32)), some (.int (0 : Int32)), some (.int (0 : Int32)), none]) ⟨rfl, ⟨rfl, ⟨rfl, ⟨rfl, ⟨rfl, trivial⟩⟩⟩⟩⟩ ?_
      obtain ⟨g, h⟩ := h
      refine V_widen (k' := 0) (n' := 0) (by first | exact Nat.le_of_ble_eq_true rfl | omega | (dsimp only; omega)) (by first | exact Nat.le_of_ble_eq_true rfl | omega | (dsimp only; omega)) ?_
      exact wv_X10_recall_99 hl hG  g _ _ _ _ _ _ h
    · replace h := h.2 c
      refine V_lload_n hG dX10_recall_40 rfl ?_
      refine V_lstore hG dX10_recall_41 (Nat.le_of_ble_eq_true rfl) (hpN rfl) ?_
      refine V_iconst (v := 0) hG (by decide) dX10_recall_43 ?_
      refine V_istore hG dX10_recall_44 (Nat.le_of_ble_eq_true rfl) (hpN rfl) ?_
      refine V_forget (lo' := [some (.ref this), none, some (.long v2), none, some (.long v2), none, some (.int (0 : Int32)), none, none, none]) ⟨rfl, ⟨rfl, ⟨rfl, ⟨rfl, trivial⟩⟩⟩⟩ ?_
      obtain ⟨g, h⟩ := h
      refine V_widen (k' := 0) (n' := 0) (by first | exact Nat.le_of_ble_eq_true rfl | omega | (dsimp only; omega)) (by first | exact Nat.le_of_ble_eq_true rfl | omega | (dsimp only; omega)) ?_
      exact wv_X10_recall_46 hl hG (fun z0 z1 z2 ζ hz => ih z0 z1 z2 ζ hz) g _ _ _ _ _ h
def wp_X10_recall_14  (this : Nat) (v1 : Int32) (s0 : Nat) (s1 : Int32) (σ : Sg) (Post : Rs → Sg → Prop) : Prop := s0 % 32 = 10 ∧ this % 32 = 10 ∧ (((sI (wI σ s0 59 s1) this 59) ≤ 0 → (∃ g, wp_X10_recall_33 g this ((1 : Int64) <<< (Int32.toInt64 v1 &&& 63)) (0 : Int64) (wI σ s0 59 s1) Post)) ∧ (¬ (sI (wI σ s0 59 s1) this 59) ≤ 0 → Post (.inl (some (.int (0 : Int32)))) (wI σ s0 59 s1)))
set_option maxRecDepth 100000 in
set_option maxHeartbeats 4000000 in
theorem wv_X10_recall_14 {L9 : Launch} {G : Cx} {Post : Rs → Sg → Prop} (hl : L9.stackTraces = false) (hG : CX L9 G yX10_recall cX10_recall 10 (some .int) [] { frames := 2, cells := 0, slots := 0, locals := 47 })   : ∀ (this : Nat) (v1 : Int32) (s0 : Nat) (s1 : Int32) (σ : Sg), wp_X10_recall_14 this v1 s0 s1 σ Post → V G (QM G 0 0 Post) 14 [some (.ref this), some (.int v1), none, none, none, none, none, none, none, none] [.int s1, .ref s0] σ 0 0 := by
  intro this v1 s0 s1 σ h
  unfold wp_X10_recall_14 at h
  obtain ⟨ht, h⟩ := h
  refine V_putI hG dX10_recall_14 fl_X10_168 rfl (fun e => absurd e (by decide)) rfl ht ?_
  refine V_aload_n (v := .ref this) hG dX10_recall_17 rfl rfl ?_
  obtain ⟨ht, h⟩ := h
  refine V_getI hG dX10_recall_18 fl_X10_168 rfl ht ?_
  refine V_if_le (tgt := 26) hG dX10_recall_21 (by decide) (fun c => ?_) (fun c => ?_)
  · replace h := h.1 c
    refine V_lconst (v := 1) hG (by decide) dX10_recall_26 ?_
    refine V_iload_n hG dX10_recall_27 rfl ?_
    refine V_lshl hG dX10_recall_28 ?_
    refine V_lstore_n hG dX10_recall_29 (Nat.le_of_ble_eq_true rfl) (hpV rfl rfl) ?_
    refine V_lconst (v := 0) hG (by decide) dX10_recall_30 ?_
    refine V_lstore hG dX10_recall_31 (Nat.le_of_ble_eq_true rfl) (hpN rfl) ?_
    refine V_forget (lo' := [some (.ref this), none, some (.long ((1 : Int64) <<< (Int32.toInt64 v1 &&& 63))), none, some (.long (0 : Int64)), none, none, none, none, none]) ⟨rfl, ⟨rfl, ⟨rfl, trivial⟩⟩⟩ ?_
    obtain ⟨g, h⟩ := h
    refine V_widen (k' := 0) (n' := 0) (by first | exact Nat.le_of_ble_eq_true rfl | omega | (dsimp only; omega)) (by first | exact Nat.le_of_ble_eq_true rfl | omega | (dsimp only; omega)) ?_
    exact wv_X10_recall_33 hl hG  g _ _ _ _ h
  · replace h := h.2 c
    refine V_iconst (v := 0) hG (by decide) dX10_recall_24 ?_
    exact V_iret hG dX10_recall_25 (by first | exact Nat.le_of_ble_eq_true rfl | omega | (dsimp only; omega)) (by first | exact Nat.le_of_ble_eq_true rfl | omega | (dsimp only; omega)) h
def wp_X10_recall (this : Nat) (a0 : Int32) (σ : Sg) (Post : Rs → Sg → Prop) : Prop := this % 32 = 10 ∧ wp_X10_isBatch this a0 σ (KI (fun x2 σ1 => ((x2 = 0 → (wp_X10_recall_14 this a0 this (1 : Int32) σ1 Post)) ∧ (¬ x2 = 0 → (wp_X10_recall_14 this a0 this (0 : Int32) σ1 Post)))) (fun E σ1 => Post (.inr E) σ1))
set_option maxRecDepth 100000 in
set_option maxHeartbeats 4000000 in
theorem ct_X10_recall {l : Launch} (hl : l.stackTraces = false) {this : Nat} {a0 : Int32} {σ : Sg} {Post : Rs → Sg → Prop} (h : wp_X10_recall this a0 σ Post) : Ct l yX10_recall (.code yX10_recall cX10_recall 10 (some .int)) 2 47 0 0 [.ref this, .int a0] σ Post := by
  refine Ct_of [some (.ref this), some (.int a0), none, none, none, none, none, none, none, none] hl (by decide +kernel) rfl (fun ad => by rfl) (fun ad => by exact Nat.le_of_ble_eq_true rfl) (fun v hv => mem_lo hv rfl) ?_
  intro G hG
  unfold wp_X10_recall at h
  refine V_aload_n (v := .ref this) hG dX10_recall_0 rfl rfl ?_
  refine V_aload_n (v := .ref this) hG dX10_recall_1 rfl rfl ?_
  refine V_iload_n hG dX10_recall_2 rfl ?_
  obtain ⟨ht, h⟩ := h
  refine V_cVI _ _ hG dX10_recall_3 (ct_X10_isBatch hl h) mv_X10_isBatch ml_X10_219 ht rfl rfl rfl rfl (by first | exact Nat.le_of_ble_eq_true rfl | (simp only [List.map_cons, List.map_nil, List.sum_cons, List.sum_nil, cat_rf]; exact Nat.le_of_ble_eq_true rfl)) (Nat.le_of_ble_eq_true rfl) (Nat.le_of_ble_eq_true rfl) (by first | exact Nat.le_of_ble_eq_true rfl | omega | (dsimp only; omega)) (by first | exact Nat.le_of_ble_eq_true rfl | omega | (dsimp only; omega)) ?_ (fun x2 σ1 h9 => ?_)
  · exact fun E σ1 hx => VX_out hG (by first | exact Nat.le_of_ble_eq_true rfl | omega | (dsimp only; omega)) (by first | exact Nat.le_of_ble_eq_true rfl | omega | (dsimp only; omega)) hx
  · replace h := h9
    clear h9
    refine V_if_eq (tgt := 13) hG dX10_recall_6 (by decide) (fun c => ?_) (fun c => ?_)
    · replace h := h.1 c
      refine V_iconst (v := 1) hG (by decide) dX10_recall_13 ?_
      refine V_forget (lo' := [some (.ref this), some (.int a0), none, none, none, none, none, none, none, none]) ⟨rfl, ⟨rfl, trivial⟩⟩ ?_
      refine V_widen (k' := 0) (n' := 0) (by first | exact Nat.le_of_ble_eq_true rfl | omega | (dsimp only; omega)) (by first | exact Nat.le_of_ble_eq_true rfl | omega | (dsimp only; omega)) ?_
      exact wv_X10_recall_14 hl hG  _ _ _ _ _ h
    · replace h := h.2 c
      refine V_iconst (v := 0) hG (by decide) dX10_recall_9 ?_
      refine V_goto (tgt := 14) hG dX10_recall_10 (by decide) ?_
      refine V_forget (lo' := [some (.ref this), some (.int a0), none, none, none, none, none, none, none, none]) ⟨rfl, ⟨rfl, trivial⟩⟩ ?_
      refine V_widen (k' := 0) (n' := 0) (by first | exact Nat.le_of_ble_eq_true rfl | omega | (dsimp only; omega)) (by first | exact Nat.le_of_ble_eq_true rfl | omega | (dsimp only; omega)) ?_
      exact wv_X10_recall_14 hl hG  _ _ _ _ _ h
def wp_X10_isOrder (this : Nat) (a0 : Int32) (σ : Sg) (Post : Rs → Sg → Prop) : Prop := this % 32 = 10 ∧ wp_X10_in a0 (0 : Int32) ((sI σ this 47) - (1 : Int32)) σ (KI (fun x2 σ1 => (b01 x2 ∧ Post (.inl (some (.int x2))) σ1)) (fun E σ1 => Post (.inr E) σ1))
set_option maxRecDepth 100000 in
set_option maxHeartbeats 4000000 in
theorem ct_X10_isOrder {l : Launch} (hl : l.stackTraces = false) {this : Nat} {a0 : Int32} {σ : Sg} {Post : Rs → Sg → Prop} (h : wp_X10_isOrder this a0 σ Post) : Ct l yX10_isOrder (.code yX10_isOrder cX10_isOrder 2 (some .boolean)) 1 22 0 0 [.ref this, .int a0] σ Post := by
  refine Ct_of [some (.ref this), some (.int a0)] hl (by decide +kernel) rfl (fun ad => by rfl) (fun ad => by exact Nat.le_of_ble_eq_true rfl) (fun v hv => mem_lo hv rfl) ?_
  intro G hG
  unfold wp_X10_isOrder at h
  refine V_iload_n hG dX10_isOrder_0 rfl ?_
  refine V_iconst (v := 0) hG (by decide) dX10_isOrder_1 ?_
  refine V_aload_n (v := .ref this) hG dX10_isOrder_2 rfl rfl ?_
  obtain ⟨ht, h⟩ := h
  refine V_getI hG dX10_isOrder_3 fl_X10_203 rfl ht ?_
  refine V_iconst (v := 1) hG (by decide) dX10_isOrder_6 ?_
  refine V_isub hG dX10_isOrder_7 ?_
  refine V_cSI _ _ hG dX10_isOrder_8 (ct_X10_in hl h) mv_X10_in ml_X10_172 rfl rfl (by first | exact Nat.le_of_ble_eq_true rfl | (simp only [List.map_cons, List.map_nil, List.sum_cons, List.sum_nil, cat_rf]; exact Nat.le_of_ble_eq_true rfl)) (Nat.le_of_ble_eq_true rfl) (Nat.le_of_ble_eq_true rfl) (by first | exact Nat.le_of_ble_eq_true rfl | omega | (dsimp only; omega)) (by first | exact Nat.le_of_ble_eq_true rfl | omega | (dsimp only; omega)) ?_ (fun x2 σ1 h9 => ?_)
  · exact fun E σ1 hx => VX_out hG (by first | exact Nat.le_of_ble_eq_true rfl | omega | (dsimp only; omega)) (by first | exact Nat.le_of_ble_eq_true rfl | omega | (dsimp only; omega)) hx
  · replace h := h9
    clear h9
    exact V_zret hG dX10_isOrder_11 h.1 (by first | exact Nat.le_of_ble_eq_true rfl | omega | (dsimp only; omega)) (by first | exact Nat.le_of_ble_eq_true rfl | omega | (dsimp only; omega)) h.2
def wp_X10_order_51  (this : Nat) (v1 : Int32) (v2 : Int32) (v3 : Int32) (s0 : Nat) (s1 : Int32) (σ : Sg) (Post : Rs → Sg → Prop) : Prop := s0 % 32 = 10 ∧ this % 32 = 10 ∧ (((sI (wI σ s0 59 s1) this 59) ≤ 0 → this % 32 = 10 ∧ ∀ o1, o1 = sP (wI σ s0 59 s1) this 48 → this % 32 = 10 ∧ ∃ u2, o1 = some u2 ∧ aty (u2 % 32) = some .int ∧ ∃ j3, (sI (wI σ s0 59 s1) this 47) = nI j3 ∧ j3 < aln u2 ∧ this % 32 = 10 ∧ ∀ o4, o4 = sP (wI (wI σ s0 59 s1) u2 j3 v1) this 49 → this % 32 = 10 ∧ ∃ u5, o4 = some u5 ∧ aty (u5 % 32) = some .int ∧ ∃ j6, (sI (wI (wI σ s0 59 s1) u2 j3 v1) this 47) = nI j6 ∧ j6 < aln u5 ∧ this % 32 = 10 ∧ ∀ o7, o7 = sP (wI (wI (wI σ s0 59 s1) u2 j3 v1) u5 j6 v2) this 50 → this % 32 = 10 ∧ ∃ u8, o7 = some u8 ∧ aty (u8 % 32) = some .int ∧ ∃ j9, (sI (wI (wI (wI σ s0 59 s1) u2 j3 v1) u5 j6 v2) this 47) = nI j9 ∧ j9 < aln u8 ∧ this % 32 = 10 ∧ ∀ o10, o10 = sP (wI (wI (wI (wI σ s0 59 s1) u2 j3 v1) u5 j6 v2) u8 j9 v3) this 52 → this % 32 = 10 ∧ ∃ u11, o10 = some u11 ∧ aty (u11 % 32) = some .int ∧ ∃ j12, (sI (wI (wI (wI (wI σ s0 59 s1) u2 j3 v1) u5 j6 v2) u8 j9 v3) this 47) = nI j12 ∧ j12 < aln u11 ∧ this % 32 = 10 ∧ this % 32 = 10 ∧ this % 32 = 10 ∧ Post (.inl (some (.int ((sI (wI (wI (wI (wI (wI (wI σ s0 59 s1) u2 j3 v1) u5 j6 v2) u8 j9 v3) u11 j12 (-1 : Int32)) this 47 ((sI (wI (wI (wI (wI (wI σ s0 59 s1) u2 j3 v1) u5 j6 v2) u8 j9 v3) u11 j12 (-1 : Int32)) this 47) + (1 : Int32))) this 47) - (1 : Int32))))) (wI (wI (wI (wI (wI (wI σ s0 59 s1) u2 j3 v1) u5 j6 v2) u8 j9 v3) u11 j12 (-1 : Int32)) this 47 ((sI (wI (wI (wI (wI (wI σ s0 59 s1) u2 j3 v1) u5 j6 v2) u8 j9 v3) u11 j12 (-1 : Int32)) this 47) + (1 : Int32)))) ∧ (¬ (sI (wI σ s0 59 s1) this 59) ≤ 0 → Post (.inl (some (.int (0 : Int32)))) (wI σ s0 59 s1)))
set_option maxRecDepth 100000 in
set_option maxHeartbeats 4000000 in
theorem wv_X10_order_51 {L9 : Launch} {G : Cx} {Post : Rs → Sg → Prop} (hl : L9.stackTraces = false) (hG : CX L9 G yX10_order cX10_order 4 (some .int) [] { frames := 2, cells := 0, slots := 0, locals := 42 })   : ∀ (this : Nat) (v1 : Int32) (v2 : Int32) (v3 : Int32) (s0 : Nat) (s1 : Int32) (σ : Sg), wp_X10_order_51 this v1 v2 v3 s0 s1 σ Post → V G (QM G 0 0 Post) 51 [some (.ref this), some (.int v1), some (.int v2), some (.int v3)] [.int s1, .ref s0] σ 0 0 := by
  intro this v1 v2 v3 s0 s1 σ h
  unfold wp_X10_order_51 at h
  obtain ⟨ht, h⟩ := h
  refine V_putI hG dX10_order_51 fl_X10_168 rfl (fun e => absurd e (by decide)) rfl ht ?_
  refine V_aload_n (v := .ref this) hG dX10_order_54 rfl rfl ?_
  obtain ⟨ht, h⟩ := h
  refine V_getI hG dX10_order_55 fl_X10_168 rfl ht ?_
  refine V_if_le (tgt := 63) hG dX10_order_58 (by decide) (fun c => ?_) (fun c => ?_)
  · replace h := h.1 c
    refine V_aload_n (v := .ref this) hG dX10_order_63 rfl rfl ?_
    obtain ⟨ht, h⟩ := h
    refine V_getPv hG dX10_order_64 fl_X10_144 rfl ht (fun o1 ho => ?_)
    replace h := h o1 ho
    refine V_aload_n (v := .ref this) hG dX10_order_67 rfl rfl ?_
    obtain ⟨ht, h⟩ := h
    refine V_getI hG dX10_order_68 fl_X10_203 rfl ht ?_
    refine V_iload_n hG dX10_order_71 rfl ?_
    obtain ⟨u2, he, h⟩ := h
    subst he
    obtain ⟨ha, j3, hi, hj, h⟩ := h
    refine V_iast hG dX10_order_72 ha hi hj ?_
    refine V_aload_n (v := .ref this) hG dX10_order_73 rfl rfl ?_
    obtain ⟨ht, h⟩ := h
    refine V_getPv hG dX10_order_74 fl_X10_147 rfl ht (fun o4 ho => ?_)
    replace h := h o4 ho
    refine V_aload_n (v := .ref this) hG dX10_order_77 rfl rfl ?_
    obtain ⟨ht, h⟩ := h
    refine V_getI hG dX10_order_78 fl_X10_203 rfl ht ?_
    refine V_iload_n hG dX10_order_81 rfl ?_
    obtain ⟨u5, he, h⟩ := h
    subst he
    obtain ⟨ha, j6, hi, hj, h⟩ := h
    refine V_iast hG dX10_order_82 ha hi hj ?_
    refine V_aload_n (v := .ref this) hG dX10_order_83 rfl rfl ?_
    obtain ⟨ht, h⟩ := h
    refine V_getPv hG dX10_order_84 fl_X10_150 rfl ht (fun o7 ho => ?_)
    replace h := h o7 ho
    refine V_aload_n (v := .ref this) hG dX10_order_87 rfl rfl ?_
    obtain ⟨ht, h⟩ := h
    refine V_getI hG dX10_order_88 fl_X10_203 rfl ht ?_
    refine V_iload_n hG dX10_order_91 rfl ?_
    obtain ⟨u8, he, h⟩ := h
    subst he
    obtain ⟨ha, j9, hi, hj, h⟩ := h
    refine V_iast hG dX10_order_92 ha hi hj ?_
    refine V_aload_n (v := .ref this) hG dX10_order_93 rfl rfl ?_
    obtain ⟨ht, h⟩ := h
    refine V_getPv hG dX10_order_94 fl_X10_156 rfl ht (fun o10 ho => ?_)
    replace h := h o10 ho
    refine V_aload_n (v := .ref this) hG dX10_order_97 rfl rfl ?_
    obtain ⟨ht, h⟩ := h
    refine V_getI hG dX10_order_98 fl_X10_203 rfl ht ?_
    refine V_iconst (v := (-1)) hG (by decide) dX10_order_101 ?_
    obtain ⟨u11, he, h⟩ := h
    subst he
    obtain ⟨ha, j12, hi, hj, h⟩ := h
    refine V_iast hG dX10_order_102 ha hi hj ?_
    refine V_aload_n (v := .ref this) hG dX10_order_103 rfl rfl ?_
    refine V_dup (v := .ref this) hG rfl dX10_order_104 ?_
    obtain ⟨ht, h⟩ := h
    refine V_getI hG dX10_order_105 fl_X10_203 rfl ht ?_
    refine V_iconst (v := 1) hG (by decide) dX10_order_108 ?_
    refine V_iadd hG dX10_order_109 ?_
    obtain ⟨ht, h⟩ := h
    refine V_putI hG dX10_order_110 fl_X10_203 rfl (fun e => absurd e (by decide)) rfl ht ?_
    refine V_aload_n (v := .ref this) hG dX10_order_113 rfl rfl ?_
    obtain ⟨ht, h⟩ := h
    refine V_getI hG dX10_order_114 fl_X10_203 rfl ht ?_
    refine V_iconst (v := 1) hG (by decide) dX10_order_117 ?_
    refine V_isub hG dX10_order_118 ?_
    exact V_iret hG dX10_order_119 (by first | exact Nat.le_of_ble_eq_true rfl | omega | (dsimp only; omega)) (by first | exact Nat.le_of_ble_eq_true rfl | omega | (dsimp only; omega)) h
  · replace h := h.2 c
    refine V_iconst (v := 0) hG (by decide) dX10_order_61 ?_
    exact V_iret hG dX10_order_62 (by first | exact Nat.le_of_ble_eq_true rfl | omega | (dsimp only; omega)) (by first | exact Nat.le_of_ble_eq_true rfl | omega | (dsimp only; omega)) h
def wp_X10_order_33  (this : Nat) (v1 : Int32) (v2 : Int32) (v3 : Int32) (s0 : Nat) (σ : Sg) (Post : Rs → Sg → Prop) : Prop := (wp_X10_order_51 this v1 v2 v3 s0 (2 : Int32) σ Post)
set_option maxRecDepth 100000 in
set_option maxHeartbeats 4000000 in
theorem wv_X10_order_33 {L9 : Launch} {G : Cx} {Post : Rs → Sg → Prop} (hl : L9.stackTraces = false) (hG : CX L9 G yX10_order cX10_order 4 (some .int) [] { frames := 2, cells := 0, slots := 0, locals := 42 })   : ∀ (this : Nat) (v1 : Int32) (v2 : Int32) (v3 : Int32) (s0 : Nat) (σ : Sg), wp_X10_order_33 this v1 v2 v3 s0 σ Post → V G (QM G 0 0 Post) 33 [some (.ref this), some (.int v1), some (.int v2), some (.int v3)] [.ref s0] σ 0 0 := by
  intro this v1 v2 v3 s0 σ h
  unfold wp_X10_order_33 at h
  refine V_iconst (v := 2) hG (by decide) dX10_order_33 ?_
  refine V_goto (tgt := 51) hG dX10_order_34 (by decide) ?_
  refine V_forget (lo' := [some (.ref this), some (.int v1), some (.int v2), some (.int v3)]) ⟨rfl, ⟨rfl, ⟨rfl, ⟨rfl, trivial⟩⟩⟩⟩ ?_
  refine V_widen (k' := 0) (n' := 0) (by first | exact Nat.le_of_ble_eq_true rfl | omega | (dsimp only; omega)) (by first | exact Nat.le_of_ble_eq_true rfl | omega | (dsimp only; omega)) ?_
  exact wv_X10_order_51 hl hG  _ _ _ _ _ _ _ h
def wp_X10_order (this : Nat) (a0 : Int32) (a1 : Int32) (a2 : Int32) (σ : Sg) (Post : Rs → Sg → Prop) : Prop := wp_X10_isKind a0 σ (KI (fun x2 σ1 => ((¬ x2 = 0 → wp_X10_in a1 (1 : Int32) (20 : Int32) σ1 (KI (fun x4 σ3 => ((x4 = 0 → (wp_X10_order_33 this a0 a1 a2 this σ3 Post)) ∧ (¬ x4 = 0 → wp_X10_in a2 (0 : Int32) (999 : Int32) σ3 (KI (fun x6 σ5 => ((¬ x6 = 0 → this % 32 = 10 ∧ ((¬ (sI σ5 this 47) = (10 : Int32) → (wp_X10_order_51 this a0 a1 a2 this (0 : Int32) σ5 Post)) ∧ ((sI σ5 this 47) = (10 : Int32) → (wp_X10_order_51 this a0 a1 a2 this (3 : Int32) σ5 Post)))) ∧ (x6 = 0 → (wp_X10_order_33 this a0 a1 a2 this σ5 Post)))) (fun E σ5 => Post (.inr E) σ5))))) (fun E σ3 => Post (.inr E) σ3))) ∧ (x2 = 0 → (wp_X10_order_51 this a0 a1 a2 this (1 : Int32) σ1 Post)))) (fun E σ1 => Post (.inr E) σ1))
set_option maxRecDepth 100000 in
set_option maxHeartbeats 4000000 in
theorem ct_X10_order {l : Launch} (hl : l.stackTraces = false) {this : Nat} {a0 : Int32} {a1 : Int32} {a2 : Int32} {σ : Sg} {Post : Rs → Sg → Prop} (h : wp_X10_order this a0 a1 a2 σ Post) : Ct l yX10_order (.code yX10_order cX10_order 4 (some .int)) 2 42 0 0 [.ref this, .int a0, .int a1, .int a2] σ Post := by
  refine Ct_of [some (.ref this), some (.int a0), some (.int a1), some (.int a2)] hl (by decide +kernel) rfl (fun ad => by rfl) (fun ad => by exact Nat.le_of_ble_eq_true rfl) (fun v hv => mem_lo hv rfl) ?_
  intro G hG
  unfold wp_X10_order at h
  refine V_aload_n (v := .ref this) hG dX10_order_0 rfl rfl ?_
  refine V_iload_n hG dX10_order_1 rfl ?_
  refine V_cSI _ _ hG dX10_order_2 (ct_X10_isKind hl h) mv_X10_isKind ml_X10_179 rfl rfl (by first | exact Nat.le_of_ble_eq_true rfl | (simp only [List.map_cons, List.map_nil, List.sum_cons, List.sum_nil, cat_rf]; exact Nat.le_of_ble_eq_true rfl)) (Nat.le_of_ble_eq_true rfl) (Nat.le_of_ble_eq_true rfl) (by first | exact Nat.le_of_ble_eq_true rfl | omega | (dsimp only; omega)) (by first | exact Nat.le_of_ble_eq_true rfl | omega | (dsimp only; omega)) ?_ (fun x2 σ1 h9 => ?_)
  · exact fun E σ1 hx => VX_out hG (by first | exact Nat.le_of_ble_eq_true rfl | omega | (dsimp only; omega)) (by first | exact Nat.le_of_ble_eq_true rfl | omega | (dsimp only; omega)) hx
  · replace h := h9
    clear h9
    refine V_if_ne (tgt := 12) hG dX10_order_5 (by decide) (fun c => ?_) (fun c => ?_)
    · replace h := h.1 c
      refine V_iload_n hG dX10_order_12 rfl ?_
      refine V_iconst (v := 1) hG (by decide) dX10_order_13 ?_
      refine V_bipush (v := 20) hG (by decide) dX10_order_14 ?_
      refine V_cSI _ _ hG dX10_order_16 (ct_X10_in hl h) mv_X10_in ml_X10_172 rfl rfl (by first | exact Nat.le_of_ble_eq_true rfl | (simp only [List.map_cons, List.map_nil, List.sum_cons, List.sum_nil, cat_rf]; exact Nat.le_of_ble_eq_true rfl)) (Nat.le_of_ble_eq_true rfl) (Nat.le_of_ble_eq_true rfl) (by first | exact Nat.le_of_ble_eq_true rfl | omega | (dsimp only; omega)) (by first | exact Nat.le_of_ble_eq_true rfl | omega | (dsimp only; omega)) ?_ (fun x4 σ3 h9 => ?_)
      · exact fun E σ3 hx => VX_out hG (by first | exact Nat.le_of_ble_eq_true rfl | omega | (dsimp only; omega)) (by first | exact Nat.le_of_ble_eq_true rfl | omega | (dsimp only; omega)) hx
      · replace h := h9
        clear h9
        refine V_if_eq (tgt := 33) hG dX10_order_19 (by decide) (fun c => ?_) (fun c => ?_)
        · replace h := h.1 c
          refine V_forget (lo' := [some (.ref this), some (.int a0), some (.int a1), some (.int a2)]) ⟨rfl, ⟨rfl, ⟨rfl, ⟨rfl, trivial⟩⟩⟩⟩ ?_
          refine V_widen (k' := 0) (n' := 0) (by first | exact Nat.le_of_ble_eq_true rfl | omega | (dsimp only; omega)) (by first | exact Nat.le_of_ble_eq_true rfl | omega | (dsimp only; omega)) ?_
          exact wv_X10_order_33 hl hG  _ _ _ _ _ _ h
        · replace h := h.2 c
          refine V_iload_n hG dX10_order_22 rfl ?_
          refine V_iconst (v := 0) hG (by decide) dX10_order_23 ?_
          refine V_sipush (v := 999) hG (by decide) dX10_order_24 ?_
          refine V_cSI _ _ hG dX10_order_27 (ct_X10_in hl h) mv_X10_in ml_X10_172 rfl rfl (by first | exact Nat.le_of_ble_eq_true rfl | (simp only [List.map_cons, List.map_nil, List.sum_cons, List.sum_nil, cat_rf]; exact Nat.le_of_ble_eq_true rfl)) (Nat.le_of_ble_eq_true rfl) (Nat.le_of_ble_eq_true rfl) (by first | exact Nat.le_of_ble_eq_true rfl | omega | (dsimp only; omega)) (by first | exact Nat.le_of_ble_eq_true rfl | omega | (dsimp only; omega)) ?_ (fun x6 σ5 h9 => ?_)
          · exact fun E σ5 hx => VX_out hG (by first | exact Nat.le_of_ble_eq_true rfl | omega | (dsimp only; omega)) (by first | exact Nat.le_of_ble_eq_true rfl | omega | (dsimp only; omega)) hx
          · replace h := h9
            clear h9
            refine V_if_ne (tgt := 37) hG dX10_order_30 (by decide) (fun c => ?_) (fun c => ?_)
            · replace h := h.1 c
              refine V_aload_n (v := .ref this) hG dX10_order_37 rfl rfl ?_
              obtain ⟨ht, h⟩ := h
              refine V_getI hG dX10_order_38 fl_X10_203 rfl ht ?_
              refine V_bipush (v := 10) hG (by decide) dX10_order_41 ?_
              refine V_icmp_ne (tgt := 50) hG dX10_order_43 (by decide) (fun c => ?_) (fun c => ?_)
              · replace h := h.1 c
                refine V_iconst (v := 0) hG (by decide) dX10_order_50 ?_
                refine V_forget (lo' := [some (.ref this), some (.int a0), some (.int a1), some (.int a2)]) ⟨rfl, ⟨rfl, ⟨rfl, ⟨rfl, trivial⟩⟩⟩⟩ ?_
                refine V_widen (k' := 0) (n' := 0) (by first | exact Nat.le_of_ble_eq_true rfl | omega | (dsimp only; omega)) (by first | exact Nat.le_of_ble_eq_true rfl | omega | (dsimp only; omega)) ?_
                exact wv_X10_order_51 hl hG  _ _ _ _ _ _ _ h
              · replace h := h.2 c
                refine V_iconst (v := 3) hG (by decide) dX10_order_46 ?_
                refine V_goto (tgt := 51) hG dX10_order_47 (by decide) ?_
                refine V_forget (lo' := [some (.ref this), some (.int a0), some (.int a1), some (.int a2)]) ⟨rfl, ⟨rfl, ⟨rfl, ⟨rfl, trivial⟩⟩⟩⟩ ?_
                refine V_widen (k' := 0) (n' := 0) (by first | exact Nat.le_of_ble_eq_true rfl | omega | (dsimp only; omega)) (by first | exact Nat.le_of_ble_eq_true rfl | omega | (dsimp only; omega)) ?_
                exact wv_X10_order_51 hl hG  _ _ _ _ _ _ _ h
            · replace h := h.2 c
              refine V_forget (lo' := [some (.ref this), some (.int a0), some (.int a1), some (.int a2)]) ⟨rfl, ⟨rfl, ⟨rfl, ⟨rfl, trivial⟩⟩⟩⟩ ?_
              refine V_widen (k' := 0) (n' := 0) (by first | exact Nat.le_of_ble_eq_true rfl | omega | (dsimp only; omega)) (by first | exact Nat.le_of_ble_eq_true rfl | omega | (dsimp only; omega)) ?_
              exact wv_X10_order_33 hl hG  _ _ _ _ _ _ h
    · replace h := h.2 c
      refine V_iconst (v := 1) hG (by decide) dX10_order_8 ?_
      refine V_goto (tgt := 51) hG dX10_order_9 (by decide) ?_
      refine V_forget (lo' := [some (.ref this), some (.int a0), some (.int a1), some (.int a2)]) ⟨rfl, ⟨rfl, ⟨rfl, ⟨rfl, trivial⟩⟩⟩⟩ ?_
      refine V_widen (k' := 0) (n' := 0) (by first | exact Nat.le_of_ble_eq_true rfl | omega | (dsimp only; omega)) (by first | exact Nat.le_of_ble_eq_true rfl | omega | (dsimp only; omega)) ?_
      exact wv_X10_order_51 hl hG  _ _ _ _ _ _ _ h
def wp_X10_promise_82  (this : Nat) (v1 : Int32) (s0 : Nat) (s1 : Int32) (s2 : Int32) (s3 : Int32) (σ : Sg) (Post : Rs → Sg → Prop) : Prop := aty (s0 % 32) = some .int ∧ ∃ j1, s1 = nI j1 ∧ j1 < aln s0 ∧ this % 32 = 10 ∧ ∀ o2, o2 = sP (wI σ s0 j1 (s2 + s3)) this 51 → ∃ u3, o2 = some u3 ∧ aty (u3 % 32) = some .int ∧ ∃ j4, v1 = nI j4 ∧ j4 < aln u3 ∧ Post (.inl (some (.int (sI (wI σ s0 j1 (s2 + s3)) u3 j4)))) (wI σ s0 j1 (s2 + s3))
set_option maxRecDepth 100000 in
set_option maxHeartbeats 4000000 in
theorem wv_X10_promise_82 {L9 : Launch} {G : Cx} {Post : Rs → Sg → Prop} (hl : L9.stackTraces = false) (hG : CX L9 G yX10_promise cX10_promise 4 (some .int) [] { frames := 2, cells := 0, slots := 0, locals := 44 })   : ∀ (this : Nat) (v1 : Int32) (s0 : Nat) (s1 : Int32) (s2 : Int32) (s3 : Int32) (σ : Sg), wp_X10_promise_82 this v1 s0 s1 s2 s3 σ Post → V G (QM G 0 0 Post) 82 [some (.ref this), some (.int v1), none, none] [.int s3, .int s2, .int s1, .ref s0] σ 0 0 := by
  intro this v1 s0 s1 s2 s3 σ h
  unfold wp_X10_promise_82 at h
  refine V_iadd hG dX10_promise_82 ?_
  obtain ⟨ha, j1, hi, hj, h⟩ := h
  refine V_iast hG dX10_promise_83 ha hi hj ?_
  refine V_aload_n (v := .ref this) hG dX10_promise_84 rfl rfl ?_
  obtain ⟨ht, h⟩ := h
  refine V_getPv hG dX10_promise_85 fl_X10_153 rfl ht (fun o2 ho => ?_)
  replace h := h o2 ho
  refine V_iload_n hG dX10_promise_88 rfl ?_
  obtain ⟨u3, he, h⟩ := h
  subst he
  obtain ⟨ha, j4, hi, hj, h⟩ := h
  refine V_iald hG dX10_promise_89 ha hi hj ?_
  exact V_iret hG dX10_promise_90 (by first | exact Nat.le_of_ble_eq_true rfl | omega | (dsimp only; omega)) (by first | exact Nat.le_of_ble_eq_true rfl | omega | (dsimp only; omega)) h
def wp_X10_promise_28  (this : Nat) (v1 : Int32) (s0 : Nat) (s1 : Int32) (σ : Sg) (Post : Rs → Sg → Prop) : Prop := s0 % 32 = 10 ∧ this % 32 = 10 ∧ (((sI (wI σ s0 59 s1) this 59) ≤ 0 → this % 32 = 10 ∧ ∀ o1, o1 = sP (wI σ s0 59 s1) this 49 → ∃ u2, o1 = some u2 ∧ aty (u2 % 32) = some .int ∧ ∃ j3, v1 = nI j3 ∧ j3 < aln u2 ∧ this % 32 = 10 ∧ ∀ o4, o4 = sP (wI σ s0 59 s1) this 51 → ∃ u5, o4 = some u5 ∧ aty (u5 % 32) = some .int ∧ ∃ j6, v1 = nI j6 ∧ j6 < aln u5 ∧ this % 32 = 10 ∧ ∀ o7, o7 = sP (wI σ s0 59 s1) this 48 → ∃ u8, o7 = some u8 ∧ aty (u8 % 32) = some .int ∧ ∃ j9, v1 = nI j9 ∧ j9 < aln u8 ∧ this % 32 = 10 ∧ wp_X10_free this (sI (wI σ s0 59 s1) u8 j9) (wI σ s0 59 s1) (KI (fun x11 σ10 => this % 32 = 10 ∧ ∀ o12, o12 = sP σ10 this 51 → ∃ u13, o12 = some u13 ∧ aty (u13 % 32) = some .int ∧ ∃ j14, v1 = nI j14 ∧ j14 < aln u13 ∧ ((x11 ≤ ((sI (wI σ s0 59 s1) u2 j3) - (sI (wI σ s0 59 s1) u5 j6)) → (wp_X10_promise_82 this v1 u13 v1 (sI σ10 u13 j14) x11 σ10 Post)) ∧ (¬ x11 ≤ ((sI (wI σ s0 59 s1) u2 j3) - (sI (wI σ s0 59 s1) u5 j6)) → (wp_X10_promise_82 this v1 u13 v1 (sI σ10 u13 j14) ((sI (wI σ s0 59 s1) u2 j3) - (sI (wI σ s0 59 s1) u5 j6)) σ10 Post)))) (fun E σ10 => Post (.inr E) σ10))) ∧ (¬ (sI (wI σ s0 59 s1) this 59) ≤ 0 → Post (.inl (some (.int (0 : Int32)))) (wI σ s0 59 s1)))
set_option maxRecDepth 100000 in
set_option maxHeartbeats 4000000 in
theorem wv_X10_promise_28 {L9 : Launch} {G : Cx} {Post : Rs → Sg → Prop} (hl : L9.stackTraces = false) (hG : CX L9 G yX10_promise cX10_promise 4 (some .int) [] { frames := 2, cells := 0, slots := 0, locals := 44 })   : ∀ (this : Nat) (v1 : Int32) (s0 : Nat) (s1 : Int32) (σ : Sg), wp_X10_promise_28 this v1 s0 s1 σ Post → V G (QM G 0 0 Post) 28 [some (.ref this), some (.int v1), none, none] [.int s1, .ref s0] σ 0 0 := by
  intro this v1 s0 s1 σ h
  unfold wp_X10_promise_28 at h
  obtain ⟨ht, h⟩ := h
  refine V_putI hG dX10_promise_28 fl_X10_168 rfl (fun e => absurd e (by decide)) rfl ht ?_
  refine V_aload_n (v := .ref this) hG dX10_promise_31 rfl rfl ?_
  obtain ⟨ht, h⟩ := h
  refine V_getI hG dX10_promise_32 fl_X10_168 rfl ht ?_
  refine V_if_le (tgt := 40) hG dX10_promise_35 (by decide) (fun c => ?_) (fun c => ?_)
  · replace h := h.1 c
    refine V_aload_n (v := .ref this) hG dX10_promise_40 rfl rfl ?_
    obtain ⟨ht, h⟩ := h
    refine V_getPv hG dX10_promise_41 fl_X10_147 rfl ht (fun o1 ho => ?_)
    replace h := h o1 ho
    refine V_iload_n hG dX10_promise_44 rfl ?_
    obtain ⟨u2, he, h⟩ := h
    subst he
    obtain ⟨ha, j3, hi, hj, h⟩ := h
    refine V_iald hG dX10_promise_45 ha hi hj ?_
    refine V_aload_n (v := .ref this) hG dX10_promise_46 rfl rfl ?_
    obtain ⟨ht, h⟩ := h
    refine V_getPv hG dX10_promise_47 fl_X10_153 rfl ht (fun o4 ho => ?_)
    replace h := h o4 ho
    refine V_iload_n hG dX10_promise_50 rfl ?_
    obtain ⟨u5, he, h⟩ := h
    subst he
    obtain ⟨ha, j6, hi, hj, h⟩ := h
    refine V_iald hG dX10_promise_51 ha hi hj ?_
    refine V_isub hG dX10_promise_52 ?_
    refine V_istore_n hG dX10_promise_53 (Nat.le_of_ble_eq_true rfl) (hpV rfl rfl) ?_
    refine V_aload_n (v := .ref this) hG dX10_promise_54 rfl rfl ?_
    refine V_aload_n (v := .ref this) hG dX10_promise_55 rfl rfl ?_
    obtain ⟨ht, h⟩ := h
    refine V_getPv hG dX10_promise_56 fl_X10_144 rfl ht (fun o7 ho => ?_)
    replace h := h o7 ho
    refine V_iload_n hG dX10_promise_59 rfl ?_
    obtain ⟨u8, he, h⟩ := h
    subst he
    obtain ⟨ha, j9, hi, hj, h⟩ := h
    refine V_iald hG dX10_promise_60 ha hi hj ?_
    obtain ⟨ht, h⟩ := h
    refine V_cVI _ _ hG dX10_promise_61 (ct_X10_free hl h) mv_X10_free ml_X10_252 ht rfl rfl rfl rfl (by first | exact Nat.le_of_ble_eq_true rfl | (simp only [List.map_cons, List.map_nil, List.sum_cons, List.sum_nil, cat_rf]; exact Nat.le_of_ble_eq_true rfl)) (Nat.le_of_ble_eq_true rfl) (Nat.le_of_ble_eq_true rfl) (by first | exact Nat.le_of_ble_eq_true rfl | omega | (dsimp only; omega)) (by first | exact Nat.le_of_ble_eq_true rfl | omega | (dsimp only; omega)) ?_ (fun x11 σ10 h9 => ?_)
    · exact fun E σ10 hx => VX_out hG (by first | exact Nat.le_of_ble_eq_true rfl | omega | (dsimp only; omega)) (by first | exact Nat.le_of_ble_eq_true rfl | omega | (dsimp only; omega)) hx
    · replace h := h9
      clear h9
      refine V_istore_n hG dX10_promise_64 (Nat.le_of_ble_eq_true rfl) (hpV rfl rfl) ?_
      refine V_aload_n (v := .ref this) hG dX10_promise_65 rfl rfl ?_
      obtain ⟨ht, h⟩ := h
      refine V_getPv hG dX10_promise_66 fl_X10_153 rfl ht (fun o12 ho => ?_)
      replace h := h o12 ho
      refine V_iload_n hG dX10_promise_69 rfl ?_
      refine V_dup2 hG rfl (cat_rf _) dX10_promise_70 ?_
      obtain ⟨u13, he, h⟩ := h
      subst he
      obtain ⟨ha, j14, hi, hj, h⟩ := h
      refine V_iald hG dX10_promise_71 ha hi hj ?_
      refine V_iload_n hG dX10_promise_72 rfl ?_
      refine V_iload_n hG dX10_promise_73 rfl ?_
      refine V_icmp_ge (tgt := 81) hG dX10_promise_74 (by decide) (fun c => ?_) (fun c => ?_)
      · replace h := h.1 c
        refine V_iload_n hG dX10_promise_81 rfl ?_
        refine V_forget (lo' := [some (.ref this), some (.int v1), none, none]) ⟨rfl, ⟨rfl, trivial⟩⟩ ?_
        refine V_widen (k' := 0) (n' := 0) (by first | exact Nat.le_of_ble_eq_true rfl | omega | (dsimp only; omega)) (by first | exact Nat.le_of_ble_eq_true rfl | omega | (dsimp only; omega)) ?_
        exact wv_X10_promise_82 hl hG  _ _ _ _ _ _ _ h
      · replace h := h.2 c
        refine V_iload_n hG dX10_promise_77 rfl ?_
        refine V_goto (tgt := 82) hG dX10_promise_78 (by decide) ?_
        refine V_forget (lo' := [some (.ref this), some (.int v1), none, none]) ⟨rfl, ⟨rfl, trivial⟩⟩ ?_
        refine V_widen (k' := 0) (n' := 0) (by first | exact Nat.le_of_ble_eq_true rfl | omega | (dsimp only; omega)) (by first | exact Nat.le_of_ble_eq_true rfl | omega | (dsimp only; omega)) ?_
        exact wv_X10_promise_82 hl hG  _ _ _ _ _ _ _ h
  · replace h := h.2 c
    refine V_iconst (v := 0) hG (by decide) dX10_promise_38 ?_
    exact V_iret hG dX10_promise_39 (by first | exact Nat.le_of_ble_eq_true rfl | omega | (dsimp only; omega)) (by first | exact Nat.le_of_ble_eq_true rfl | omega | (dsimp only; omega)) h
def wp_X10_promise (this : Nat) (a0 : Int32) (σ : Sg) (Post : Rs → Sg → Prop) : Prop := this % 32 = 10 ∧ wp_X10_isOrder this a0 σ (KI (fun x2 σ1 => ((¬ x2 = 0 → this % 32 = 10 ∧ ∀ o3, o3 = sP σ1 this 52 → ∃ u4, o3 = some u4 ∧ aty (u4 % 32) = some .int ∧ ∃ j5, a0 = nI j5 ∧ j5 < aln u4 ∧ (((sI σ1 u4 j5) = (-1 : Int32) → (wp_X10_promise_28 this a0 this (0 : Int32) σ1 Post)) ∧ (¬ (sI σ1 u4 j5) = (-1 : Int32) → (wp_X10_promise_28 this a0 this (2 : Int32) σ1 Post)))) ∧ (x2 = 0 → (wp_X10_promise_28 this a0 this (1 : Int32) σ1 Post)))) (fun E σ1 => Post (.inr E) σ1))
set_option maxRecDepth 100000 in
set_option maxHeartbeats 4000000 in
theorem ct_X10_promise {l : Launch} (hl : l.stackTraces = false) {this : Nat} {a0 : Int32} {σ : Sg} {Post : Rs → Sg → Prop} (h : wp_X10_promise this a0 σ Post) : Ct l yX10_promise (.code yX10_promise cX10_promise 4 (some .int)) 2 44 0 0 [.ref this, .int a0] σ Post := by
  refine Ct_of [some (.ref this), some (.int a0), none, none] hl (by decide +kernel) rfl (fun ad => by rfl) (fun ad => by exact Nat.le_of_ble_eq_true rfl) (fun v hv => mem_lo hv rfl) ?_
  intro G hG
  unfold wp_X10_promise at h
  refine V_aload_n (v := .ref this) hG dX10_promise_0 rfl rfl ?_
  refine V_aload_n (v := .ref this) hG dX10_promise_1 rfl rfl ?_
  refine V_iload_n hG dX10_promise_2 rfl ?_
  obtain ⟨ht, h⟩ := h
  refine V_cVI _ _ hG dX10_promise_3 (ct_X10_isOrder hl h) mv_X10_isOrder ml_X10_249 ht rfl rfl rfl rfl (by first | exact Nat.le_of_ble_eq_true rfl | (simp only [List.map_cons, List.map_nil, List.sum_cons, List.sum_nil, cat_rf]; exact Nat.le_of_ble_eq_true rfl)) (Nat.le_of_ble_eq_true rfl) (Nat.le_of_ble_eq_true rfl) (by first | exact Nat.le_of_ble_eq_true rfl | omega | (dsimp only; omega)) (by first | exact Nat.le_of_ble_eq_true rfl | omega | (dsimp only; omega)) ?_ (fun x2 σ1 h9 => ?_)
  · exact fun E σ1 hx => VX_out hG (by first | exact Nat.le_of_ble_eq_true rfl | omega | (dsimp only; omega)) (by first | exact Nat.le_of_ble_eq_true rfl | omega | (dsimp only; omega)) hx
  · replace h := h9
    clear h9
    refine V_if_ne (tgt := 13) hG dX10_promise_6 (by decide) (fun c => ?_) (fun c => ?_)
    · replace h := h.1 c
      refine V_aload_n (v := .ref this) hG dX10_promise_13 rfl rfl ?_
      obtain ⟨ht, h⟩ := h
      refine V_getPv hG dX10_promise_14 fl_X10_156 rfl ht (fun o3 ho => ?_)
      replace h := h o3 ho
      refine V_iload_n hG dX10_promise_17 rfl ?_
      obtain ⟨u4, he, h⟩ := h
      subst he
      obtain ⟨ha, j5, hi, hj, h⟩ := h
      refine V_iald hG dX10_promise_18 ha hi hj ?_
      refine V_iconst (v := (-1)) hG (by decide) dX10_promise_19 ?_
      refine V_icmp_eq (tgt := 27) hG dX10_promise_20 (by decide) (fun c => ?_) (fun c => ?_)
      · replace h := h.1 c
        refine V_iconst (v := 0) hG (by decide) dX10_promise_27 ?_
        refine V_forget (lo' := [some (.ref this), some (.int a0), none, none]) ⟨rfl, ⟨rfl, trivial⟩⟩ ?_
        refine V_widen (k' := 0) (n' := 0) (by first | exact Nat.le_of_ble_eq_true rfl | omega | (dsimp only; omega)) (by first | exact Nat.le_of_ble_eq_true rfl | omega | (dsimp only; omega)) ?_
        exact wv_X10_promise_28 hl hG  _ _ _ _ _ h
      · replace h := h.2 c
        refine V_iconst (v := 2) hG (by decide) dX10_promise_23 ?_
        refine V_goto (tgt := 28) hG dX10_promise_24 (by decide) ?_
        refine V_forget (lo' := [some (.ref this), some (.int a0), none, none]) ⟨rfl, ⟨rfl, trivial⟩⟩ ?_
        refine V_widen (k' := 0) (n' := 0) (by first | exact Nat.le_of_ble_eq_true rfl | omega | (dsimp only; omega)) (by first | exact Nat.le_of_ble_eq_true rfl | omega | (dsimp only; omega)) ?_
        exact wv_X10_promise_28 hl hG  _ _ _ _ _ h
    · replace h := h.2 c
      refine V_iconst (v := 1) hG (by decide) dX10_promise_9 ?_
      refine V_goto (tgt := 28) hG dX10_promise_10 (by decide) ?_
      refine V_forget (lo' := [some (.ref this), some (.int a0), none, none]) ⟨rfl, ⟨rfl, trivial⟩⟩ ?_
      refine V_widen (k' := 0) (n' := 0) (by first | exact Nat.le_of_ble_eq_true rfl | omega | (dsimp only; omega)) (by first | exact Nat.le_of_ble_eq_true rfl | omega | (dsimp only; omega)) ?_
      exact wv_X10_promise_28 hl hG  _ _ _ _ _ h
def wp_X10_ship_52  (this : Nat) (v1 : Int32) (s0 : Nat) (s1 : Int32) (σ : Sg) (Post : Rs → Sg → Prop) : Prop := s0 % 32 = 10 ∧ this % 32 = 10 ∧ (((sI (wI σ s0 59 s1) this 59) ≤ 0 → this % 32 = 10 ∧ ∀ o1, o1 = sP (wI σ s0 59 s1) this 48 → ∃ u2, o1 = some u2 ∧ aty (u2 % 32) = some .int ∧ ∃ j3, v1 = nI j3 ∧ j3 < aln u2 ∧ this % 32 = 10 ∧ ∀ o4, o4 = sP (wI σ s0 59 s1) this 49 → ∃ u5, o4 = some u5 ∧ aty (u5 % 32) = some .int ∧ ∃ j6, v1 = nI j6 ∧ j6 < aln u5 ∧ this % 32 = 10 ∧ wp_X10_newBatch this (sI (wI σ s0 59 s1) u2 j3) (sI (wI σ s0 59 s1) u5 j6) (6 : Int32) (wI σ s0 59 s1) (KI (fun x8 σ7 => this % 32 = 10 ∧ ∀ o9, o9 = sP σ7 this 19 → this % 32 = 10 ∧ ∀ o10, o10 = sP σ7 this 7 → ∃ u11, o10 = some u11 ∧ aty (u11 % 32) = some .int ∧ ∃ j12, (sI (wI σ s0 59 s1) u2 j3) = nI j12 ∧ j12 < aln u11 ∧ ∃ u13, o9 = some u13 ∧ aty (u13 % 32) = some .int ∧ ∃ j14, x8 = nI j14 ∧ j14 < aln u13 ∧ this % 32 = 10 ∧ ∀ o15, o15 = sP (wI σ7 u13 j14 (sI σ7 u11 j12)) this 52 → ∃ u16, o15 = some u16 ∧ aty (u16 % 32) = some .int ∧ ∃ j17, v1 = nI j17 ∧ j17 < aln u16 ∧ this % 32 = 10 ∧ ∀ o18, o18 = sP (wI (wI σ7 u13 j14 (sI σ7 u11 j12)) u16 j17 x8) this 53 → this % 32 = 10 ∧ ∃ u19, o18 = some u19 ∧ aty (u19 % 32) = some .int ∧ ∃ j20, v1 = nI j20 ∧ j20 < aln u19 ∧ this % 32 = 10 ∧ ∀ o21, o21 = sP (wI (wI (wI σ7 u13 j14 (sI σ7 u11 j12)) u16 j17 x8) u19 j20 (sI (wI (wI σ7 u13 j14 (sI σ7 u11 j12)) u16 j17 x8) this 55)) this 49 → ∃ u22, o21 = some u22 ∧ aty (u22 % 32) = some .int ∧ ∃ j23, v1 = nI j23 ∧ j23 < aln u22 ∧ this % 32 = 10 ∧ wp_X10_takeKind this (sI (wI σ s0 59 s1) u2 j3) (sI (wI (wI (wI σ7 u13 j14 (sI σ7 u11 j12)) u16 j17 x8) u19 j20 (sI (wI (wI σ7 u13 j14 (sI σ7 u11 j12)) u16 j17 x8) this 55)) u22 j23) x8 (wI (wI (wI σ7 u13 j14 (sI σ7 u11 j12)) u16 j17 x8) u19 j20 (sI (wI (wI σ7 u13 j14 (sI σ7 u11 j12)) u16 j17 x8) this 55)) (KV (fun σ24 => Post (.inl (some (.int x8))) σ24) (fun E σ24 => Post (.inr E) σ24))) (fun E σ7 => Post (.inr E) σ7))) ∧ (¬ (sI (wI σ s0 59 s1) this 59) ≤ 0 → Post (.inl (some (.int (0 : Int32)))) (wI σ s0 59 s1)))
set_option maxRecDepth 100000 in
set_option maxHeartbeats 4000000 in
theorem wv_X10_ship_52 {L9 : Launch} {G : Cx} {Post : Rs → Sg → Prop} (hl : L9.stackTraces = false) (hG : CX L9 G yX10_ship cX10_ship 4 (some .int) [] { frames := 3, cells := 0, slots := 0, locals := 73 })   : ∀ (this : Nat) (v1 : Int32) (s0 : Nat) (s1 : Int32) (σ : Sg), wp_X10_ship_52 this v1 s0 s1 σ Post → V G (QM G 0 0 Post) 52 [some (.ref this), some (.int v1), none, none] [.int s1, .ref s0] σ 0 0 := by
  intro this v1 s0 s1 σ h
  unfold wp_X10_ship_52 at h
  obtain ⟨ht, h⟩ := h
  refine V_putI hG dX10_ship_52 fl_X10_168 rfl (fun e => absurd e (by decide)) rfl ht ?_
  refine V_aload_n (v := .ref this) hG dX10_ship_55 rfl rfl ?_
  obtain ⟨ht, h⟩ := h
  refine V_getI hG dX10_ship_56 fl_X10_168 rfl ht ?_
  refine V_if_le (tgt := 64) hG dX10_ship_59 (by decide) (fun c => ?_) (fun c => ?_)
  · replace h := h.1 c
    refine V_aload_n (v := .ref this) hG dX10_ship_64 rfl rfl ?_
    obtain ⟨ht, h⟩ := h
    refine V_getPv hG dX10_ship_65 fl_X10_144 rfl ht (fun o1 ho => ?_)
    replace h := h o1 ho
    refine V_iload_n hG dX10_ship_68 rfl ?_
    obtain ⟨u2, he, h⟩ := h
    subst he
    obtain ⟨ha, j3, hi, hj, h⟩ := h
    refine V_iald hG dX10_ship_69 ha hi hj ?_
    refine V_istore_n hG dX10_ship_70 (Nat.le_of_ble_eq_true rfl) (hpV rfl rfl) ?_
    refine V_aload_n (v := .ref this) hG dX10_ship_71 rfl rfl ?_
    refine V_iload_n hG dX10_ship_72 rfl ?_
    refine V_aload_n (v := .ref this) hG dX10_ship_73 rfl rfl ?_
    obtain ⟨ht, h⟩ := h
    refine V_getPv hG dX10_ship_74 fl_X10_147 rfl ht (fun o4 ho => ?_)
    replace h := h o4 ho
    refine V_iload_n hG dX10_ship_77 rfl ?_
    obtain ⟨u5, he, h⟩ := h
    subst he
    obtain ⟨ha, j6, hi, hj, h⟩ := h
    refine V_iald hG dX10_ship_78 ha hi hj ?_
    refine V_bipush (v := 6) hG (by decide) dX10_ship_79 ?_
    obtain ⟨ht, h⟩ := h
    refine V_cVI _ _ hG dX10_ship_81 (ct_X10_newBatch hl h) mv_X10_newBatch ml_X10_212 ht rfl rfl rfl rfl (by first | exact Nat.le_of_ble_eq_true rfl | (simp only [List.map_cons, List.map_nil, List.sum_cons, List.sum_nil, cat_rf]; exact Nat.le_of_ble_eq_true rfl)) (Nat.le_of_ble_eq_true rfl) (Nat.le_of_ble_eq_true rfl) (by first | exact Nat.le_of_ble_eq_true rfl | omega | (dsimp only; omega)) (by first | exact Nat.le_of_ble_eq_true rfl | omega | (dsimp only; omega)) ?_ (fun x8 σ7 h9 => ?_)
    · exact fun E σ7 hx => VX_out hG (by first | exact Nat.le_of_ble_eq_true rfl | omega | (dsimp only; omega)) (by first | exact Nat.le_of_ble_eq_true rfl | omega | (dsimp only; omega)) hx
    · replace h := h9
      clear h9
      refine V_istore_n hG dX10_ship_84 (Nat.le_of_ble_eq_true rfl) (hpV rfl rfl) ?_
      refine V_aload_n (v := .ref this) hG dX10_ship_85 rfl rfl ?_
      obtain ⟨ht, h⟩ := h
      refine V_getPv hG dX10_ship_86 fl_X10_65 rfl ht (fun o9 ho => ?_)
      replace h := h o9 ho
      refine V_iload_n hG dX10_ship_89 rfl ?_
      refine V_aload_n (v := .ref this) hG dX10_ship_90 rfl rfl ?_
      obtain ⟨ht, h⟩ := h
      refine V_getPv hG dX10_ship_91 fl_X10_31 rfl ht (fun o10 ho => ?_)
      replace h := h o10 ho
      refine V_iload_n hG dX10_ship_94 rfl ?_
      obtain ⟨u11, he, h⟩ := h
      subst he
      obtain ⟨ha, j12, hi, hj, h⟩ := h
      refine V_iald hG dX10_ship_95 ha hi hj ?_
      obtain ⟨u13, he, h⟩ := h
      subst he
      obtain ⟨ha, j14, hi, hj, h⟩ := h
      refine V_iast hG dX10_ship_96 ha hi hj ?_
      refine V_aload_n (v := .ref this) hG dX10_ship_97 rfl rfl ?_
      obtain ⟨ht, h⟩ := h
      refine V_getPv hG dX10_ship_98 fl_X10_156 rfl ht (fun o15 ho => ?_)
      replace h := h o15 ho
      refine V_iload_n hG dX10_ship_101 rfl ?_
      refine V_iload_n hG dX10_ship_102 rfl ?_
      obtain ⟨u16, he, h⟩ := h
      subst he
      obtain ⟨ha, j17, hi, hj, h⟩ := h
      refine V_iast hG dX10_ship_103 ha hi hj ?_
      refine V_aload_n (v := .ref this) hG dX10_ship_104 rfl rfl ?_
      obtain ⟨ht, h⟩ := h
      refine V_getPv hG dX10_ship_105 fl_X10_159 rfl ht (fun o18 ho => ?_)
      replace h := h o18 ho
      refine V_iload_n hG dX10_ship_108 rfl ?_
      refine V_aload_n (v := .ref this) hG dX10_ship_109 rfl rfl ?_
      obtain ⟨ht, h⟩ := h
      refine V_getI hG dX10_ship_110 fl_X10_193 rfl ht ?_
      obtain ⟨u19, he, h⟩ := h
      subst he
      obtain ⟨ha, j20, hi, hj, h⟩ := h
      refine V_iast hG dX10_ship_113 ha hi hj ?_
      refine V_aload_n (v := .ref this) hG dX10_ship_114 rfl rfl ?_
      refine V_iload_n hG dX10_ship_115 rfl ?_
      refine V_aload_n (v := .ref this) hG dX10_ship_116 rfl rfl ?_
      obtain ⟨ht, h⟩ := h
      refine V_getPv hG dX10_ship_117 fl_X10_147 rfl ht (fun o21 ho => ?_)
      replace h := h o21 ho
      refine V_iload_n hG dX10_ship_120 rfl ?_
      obtain ⟨u22, he, h⟩ := h
      subst he
      obtain ⟨ha, j23, hi, hj, h⟩ := h
      refine V_iald hG dX10_ship_121 ha hi hj ?_
      refine V_iload_n hG dX10_ship_122 rfl ?_
      obtain ⟨ht, h⟩ := h
      refine V_cVV _ _ hG dX10_ship_123 (ct_X10_takeKind hl h) mv_X10_takeKind ml_X10_255 ht rfl rfl rfl rfl (by first | exact Nat.le_of_ble_eq_true rfl | (simp only [List.map_cons, List.map_nil, List.sum_cons, List.sum_nil, cat_rf]; exact Nat.le_of_ble_eq_true rfl)) (Nat.le_of_ble_eq_true rfl) (Nat.le_of_ble_eq_true rfl) (by first | exact Nat.le_of_ble_eq_true rfl | omega | (dsimp only; omega)) (by first | exact Nat.le_of_ble_eq_true rfl | omega | (dsimp only; omega)) ?_ (fun σ24 h9 => ?_)
      · exact fun E σ24 hx => VX_out hG (by first | exact Nat.le_of_ble_eq_true rfl | omega | (dsimp only; omega)) (by first | exact Nat.le_of_ble_eq_true rfl | omega | (dsimp only; omega)) hx
      · replace h := h9
        clear h9
        refine V_iload_n hG dX10_ship_126 rfl ?_
        exact V_iret hG dX10_ship_127 (by first | exact Nat.le_of_ble_eq_true rfl | omega | (dsimp only; omega)) (by first | exact Nat.le_of_ble_eq_true rfl | omega | (dsimp only; omega)) h
  · replace h := h.2 c
    refine V_iconst (v := 0) hG (by decide) dX10_ship_62 ?_
    exact V_iret hG dX10_ship_63 (by first | exact Nat.le_of_ble_eq_true rfl | omega | (dsimp only; omega)) (by first | exact Nat.le_of_ble_eq_true rfl | omega | (dsimp only; omega)) h
def wp_X10_ship_47  (this : Nat) (v1 : Int32) (s0 : Nat) (σ : Sg) (Post : Rs → Sg → Prop) : Prop := (wp_X10_ship_52 this v1 s0 (2 : Int32) σ Post)
set_option maxRecDepth 100000 in
set_option maxHeartbeats 4000000 in
theorem wv_X10_ship_47 {L9 : Launch} {G : Cx} {Post : Rs → Sg → Prop} (hl : L9.stackTraces = false) (hG : CX L9 G yX10_ship cX10_ship 4 (some .int) [] { frames := 3, cells := 0, slots := 0, locals := 73 })   : ∀ (this : Nat) (v1 : Int32) (s0 : Nat) (σ : Sg), wp_X10_ship_47 this v1 s0 σ Post → V G (QM G 0 0 Post) 47 [some (.ref this), some (.int v1), none, none] [.ref s0] σ 0 0 := by
  intro this v1 s0 σ h
  unfold wp_X10_ship_47 at h
  refine V_iconst (v := 2) hG (by decide) dX10_ship_47 ?_
  refine V_goto (tgt := 52) hG dX10_ship_48 (by decide) ?_
  refine V_forget (lo' := [some (.ref this), some (.int v1), none, none]) ⟨rfl, ⟨rfl, trivial⟩⟩ ?_
  refine V_widen (k' := 0) (n' := 0) (by first | exact Nat.le_of_ble_eq_true rfl | omega | (dsimp only; omega)) (by first | exact Nat.le_of_ble_eq_true rfl | omega | (dsimp only; omega)) ?_
  exact wv_X10_ship_52 hl hG  _ _ _ _ _ h
def wp_X10_ship (this : Nat) (a0 : Int32) (σ : Sg) (Post : Rs → Sg → Prop) : Prop := this % 32 = 10 ∧ wp_X10_isOrder this a0 σ (KI (fun x2 σ1 => ((¬ x2 = 0 → this % 32 = 10 ∧ ∀ o3, o3 = sP σ1 this 52 → ∃ u4, o3 = some u4 ∧ aty (u4 % 32) = some .int ∧ ∃ j5, a0 = nI j5 ∧ j5 < aln u4 ∧ ((¬ (sI σ1 u4 j5) = (-1 : Int32) → (wp_X10_ship_47 this a0 this σ1 Post)) ∧ ((sI σ1 u4 j5) = (-1 : Int32) → this % 32 = 10 ∧ ∀ o6, o6 = sP σ1 this 51 → ∃ u7, o6 = some u7 ∧ aty (u7 % 32) = some .int ∧ ∃ j8, a0 = nI j8 ∧ j8 < aln u7 ∧ this % 32 = 10 ∧ ∀ o9, o9 = sP σ1 this 49 → ∃ u10, o9 = some u10 ∧ aty (u10 % 32) = some .int ∧ ∃ j11, a0 = nI j11 ∧ j11 < aln u10 ∧ (((sI σ1 u7 j8) < (sI σ1 u10 j11) → (wp_X10_ship_47 this a0 this σ1 Post)) ∧ (¬ (sI σ1 u7 j8) < (sI σ1 u10 j11) → this % 32 = 10 ∧ ((¬ (sI σ1 this 14) = (60 : Int32) → (wp_X10_ship_52 this a0 this (0 : Int32) σ1 Post)) ∧ ((sI σ1 this 14) = (60 : Int32) → (wp_X10_ship_47 this a0 this σ1 Post)))))))) ∧ (x2 = 0 → (wp_X10_ship_52 this a0 this (1 : Int32) σ1 Post)))) (fun E σ1 => Post (.inr E) σ1))
set_option maxRecDepth 100000 in
set_option maxHeartbeats 4000000 in
theorem ct_X10_ship {l : Launch} (hl : l.stackTraces = false) {this : Nat} {a0 : Int32} {σ : Sg} {Post : Rs → Sg → Prop} (h : wp_X10_ship this a0 σ Post) : Ct l yX10_ship (.code yX10_ship cX10_ship 4 (some .int)) 3 73 0 0 [.ref this, .int a0] σ Post := by
  refine Ct_of [some (.ref this), some (.int a0), none, none] hl (by decide +kernel) rfl (fun ad => by rfl) (fun ad => by exact Nat.le_of_ble_eq_true rfl) (fun v hv => mem_lo hv rfl) ?_
  intro G hG
  unfold wp_X10_ship at h
  refine V_aload_n (v := .ref this) hG dX10_ship_0 rfl rfl ?_
  refine V_aload_n (v := .ref this) hG dX10_ship_1 rfl rfl ?_
  refine V_iload_n hG dX10_ship_2 rfl ?_
  obtain ⟨ht, h⟩ := h
  refine V_cVI _ _ hG dX10_ship_3 (ct_X10_isOrder hl h) mv_X10_isOrder ml_X10_249 ht rfl rfl rfl rfl (by first | exact Nat.le_of_ble_eq_true rfl | (simp only [List.map_cons, List.map_nil, List.sum_cons, List.sum_nil, cat_rf]; exact Nat.le_of_ble_eq_true rfl)) (Nat.le_of_ble_eq_true rfl) (Nat.le_of_ble_eq_true rfl) (by first | exact Nat.le_of_ble_eq_true rfl | omega | (dsimp only; omega)) (by first | exact Nat.le_of_ble_eq_true rfl | omega | (dsimp only; omega)) ?_ (fun x2 σ1 h9 => ?_)
  · exact fun E σ1 hx => VX_out hG (by first | exact Nat.le_of_ble_eq_true rfl | omega | (dsimp only; omega)) (by first | exact Nat.le_of_ble_eq_true rfl | omega | (dsimp only; omega)) hx
  · replace h := h9
    clear h9
    refine V_if_ne (tgt := 13) hG dX10_ship_6 (by decide) (fun c => ?_) (fun c => ?_)
    · replace h := h.1 c
      refine V_aload_n (v := .ref this) hG dX10_ship_13 rfl rfl ?_
      obtain ⟨ht, h⟩ := h
      refine V_getPv hG dX10_ship_14 fl_X10_156 rfl ht (fun o3 ho => ?_)
      replace h := h o3 ho
      refine V_iload_n hG dX10_ship_17 rfl ?_
      obtain ⟨u4, he, h⟩ := h
      subst he
      obtain ⟨ha, j5, hi, hj, h⟩ := h
      refine V_iald hG dX10_ship_18 ha hi hj ?_
      refine V_iconst (v := (-1)) hG (by decide) dX10_ship_19 ?_
      refine V_icmp_ne (tgt := 47) hG dX10_ship_20 (by decide) (fun c => ?_) (fun c => ?_)
      · replace h := h.1 c
        refine V_forget (lo' := [some (.ref this), some (.int a0), none, none]) ⟨rfl, ⟨rfl, trivial⟩⟩ ?_
        refine V_widen (k' := 0) (n' := 0) (by first | exact Nat.le_of_ble_eq_true rfl | omega | (dsimp only; omega)) (by first | exact Nat.le_of_ble_eq_true rfl | omega | (dsimp only; omega)) ?_
        exact wv_X10_ship_47 hl hG  _ _ _ _ h
      · replace h := h.2 c
        refine V_aload_n (v := .ref this) hG dX10_ship_23 rfl rfl ?_
        obtain ⟨ht, h⟩ := h
        refine V_getPv hG dX10_ship_24 fl_X10_153 rfl ht (fun o6 ho => ?_)
        replace h := h o6 ho
        refine V_iload_n hG dX10_ship_27 rfl ?_
        obtain ⟨u7, he, h⟩ := h
        subst he
        obtain ⟨ha, j8, hi, hj, h⟩ := h
        refine V_iald hG dX10_ship_28 ha hi hj ?_
        refine V_aload_n (v := .ref this) hG dX10_ship_29 rfl rfl ?_
        obtain ⟨ht, h⟩ := h
        refine V_getPv hG dX10_ship_30 fl_X10_147 rfl ht (fun o9 ho => ?_)
        replace h := h o9 ho
        refine V_iload_n hG dX10_ship_33 rfl ?_
        obtain ⟨u10, he, h⟩ := h
        subst he
        obtain ⟨ha, j11, hi, hj, h⟩ := h
        refine V_iald hG dX10_ship_34 ha hi hj ?_
        refine V_icmp_lt (tgt := 47) hG dX10_ship_35 (by decide) (fun c => ?_) (fun c => ?_)
        · replace h := h.1 c
          refine V_forget (lo' := [some (.ref this), some (.int a0), none, none]) ⟨rfl, ⟨rfl, trivial⟩⟩ ?_
          refine V_widen (k' := 0) (n' := 0) (by first | exact Nat.le_of_ble_eq_true rfl | omega | (dsimp only; omega)) (by first | exact Nat.le_of_ble_eq_true rfl | omega | (dsimp only; omega)) ?_
          exact wv_X10_ship_47 hl hG  _ _ _ _ h
        · replace h := h.2 c
          refine V_aload_n (v := .ref this) hG dX10_ship_38 rfl rfl ?_
          obtain ⟨ht, h⟩ := h
          refine V_getI hG dX10_ship_39 fl_X10_176 rfl ht ?_
          refine V_bipush (v := 60) hG (by decide) dX10_ship_42 ?_
          refine V_icmp_ne (tgt := 51) hG dX10_ship_44 (by decide) (fun c => ?_) (fun c => ?_)
          · replace h := h.1 c
            refine V_iconst (v := 0) hG (by decide) dX10_ship_51 ?_
            refine V_forget (lo' := [some (.ref this), some (.int a0), none, none]) ⟨rfl, ⟨rfl, trivial⟩⟩ ?_
            refine V_widen (k' := 0) (n' := 0) (by first | exact Nat.le_of_ble_eq_true rfl | omega | (dsimp only; omega)) (by first | exact Nat.le_of_ble_eq_true rfl | omega | (dsimp only; omega)) ?_
            exact wv_X10_ship_52 hl hG  _ _ _ _ _ h
          · replace h := h.2 c
            refine V_forget (lo' := [some (.ref this), some (.int a0), none, none]) ⟨rfl, ⟨rfl, trivial⟩⟩ ?_
            refine V_widen (k' := 0) (n' := 0) (by first | exact Nat.le_of_ble_eq_true rfl | omega | (dsimp only; omega)) (by first | exact Nat.le_of_ble_eq_true rfl | omega | (dsimp only; omega)) ?_
            exact wv_X10_ship_47 hl hG  _ _ _ _ h
    · replace h := h.2 c
      refine V_iconst (v := 1) hG (by decide) dX10_ship_9 ?_
      refine V_goto (tgt := 52) hG dX10_ship_10 (by decide) ?_
      refine V_forget (lo' := [some (.ref this), some (.int a0), none, none]) ⟨rfl, ⟨rfl, trivial⟩⟩ ?_
      refine V_widen (k' := 0) (n' := 0) (by first | exact Nat.le_of_ble_eq_true rfl | omega | (dsimp only; omega)) (by first | exact Nat.le_of_ble_eq_true rfl | omega | (dsimp only; omega)) ?_
      exact wv_X10_ship_52 hl hG  _ _ _ _ _ h
def wp_X10_arrive_90 (K2 : Nat → Int32 → Sg → Prop) (this : Nat) (v1 : Int32) (σ : Sg) (Post : Rs → Sg → Prop) : Prop := (K2 this (v1 + 1) σ)
set_option maxRecDepth 100000 in
set_option maxHeartbeats 4000000 in
theorem wv_X10_arrive_90 {L9 : Launch} {G : Cx} {Post : Rs → Sg → Prop} (hl : L9.stackTraces = false) (hG : CX L9 G yX10_arrive cX10_arrive 3 none [] { frames := 1, cells := 0, slots := 0, locals := 23 }) {K2 : Nat → Int32 → Sg → Prop} (hK2 : ∀ (this : Nat) (v1 : Int32) (ζ : Sg), K2 this v1 ζ → V G (QM G 0 0 Post) 2 [some (.ref this), some (.int v1), none] [] ζ 0 0) : ∀ (this : Nat) (v1 : Int32) (σ : Sg), wp_X10_arrive_90 K2 this v1 σ Post → V G (QM G 0 0 Post) 90 [some (.ref this), some (.int v1), none] [] σ 0 0 := by
  intro this v1 σ h
  unfold wp_X10_arrive_90 at h
  refine V_iincv (c := 1) hG dX10_arrive_90 rfl (by decide) (hpV rfl rfl) ?_
  refine V_goto (tgt := 2) hG dX10_arrive_93 (by decide) ?_
  refine V_forget (lo' := [some (.ref this), some (.int (v1 + 1)), none]) ⟨rfl, ⟨rfl, trivial⟩⟩ ?_
  exact hK2 _ _ _ h
def wp_X10_arrive_37 (K2 : Nat → Int32 → Sg → Prop) (this : Nat) (v1 : Int32) (s0 : Int32) (σ : Sg) (Post : Rs → Sg → Prop) : Prop := ((s0 = 0 → (wp_X10_arrive_90 K2 this v1 σ Post)) ∧ (¬ s0 = 0 → this % 32 = 10 ∧ ∀ o1, o1 = sP σ this 15 → ∃ u2, o1 = some u2 ∧ aty (u2 % 32) = some .int ∧ ∃ j3, v1 = nI j3 ∧ j3 < aln u2 ∧ this % 32 = 10 ∧ wp_X10_inStore this (sI σ u2 j3) σ (KI (fun x5 σ4 => this % 32 = 10 ∧ ∀ o6, o6 = sP σ4 this 16 → ∃ u7, o6 = some u7 ∧ aty (u7 % 32) = some .int ∧ ∃ j8, v1 = nI j8 ∧ j8 < aln u7 ∧ this % 32 = 10 ∧ ∀ o9, o9 = sP σ4 this 11 → this % 32 = 10 ∧ ∀ o10, o10 = sP σ4 this 15 → ∃ u11, o10 = some u11 ∧ aty (u11 % 32) = some .int ∧ ∃ j12, v1 = nI j12 ∧ j12 < aln u11 ∧ ∃ u13, o9 = some u13 ∧ aty (u13 % 32) = some .int ∧ ∃ j14, (sI σ4 u11 j12) = nI j14 ∧ j14 < aln u13 ∧ (((sI σ4 u13 j14) < (x5 + (sI σ4 u7 j8)) → (wp_X10_arrive_90 K2 this v1 σ4 Post)) ∧ (¬ (sI σ4 u13 j14) < (x5 + (sI σ4 u7 j8)) → this % 32 = 10 ∧ ∀ o15, o15 = sP σ4 this 18 → ∃ u16, o15 = some u16 ∧ aty (u16 % 32) = some .int ∧ ∃ j17, v1 = nI j17 ∧ j17 < aln u16 ∧ this % 32 = 10 ∧ ∀ o18, o18 = sP (wI σ4 u16 j17 (3 : Int32)) this 25 → this % 32 = 10 ∧ ∃ u19, o18 = some u19 ∧ aty (u19 % 32) = some .int ∧ ∃ j20, v1 = nI j20 ∧ j20 < aln u19 ∧ (wp_X10_arrive_90 K2 this v1 (wI (wI σ4 u16 j17 (3 : Int32)) u19 j20 (sI (wI σ4 u16 j17 (3 : Int32)) this 55)) Post)))) (fun E σ4 => Post (.inr E) σ4))))
set_option maxRecDepth 100000 in
set_option maxHeartbeats 4000000 in
theorem wv_X10_arrive_37 {L9 : Launch} {G : Cx} {Post : Rs → Sg → Prop} (hl : L9.stackTraces = false) (hG : CX L9 G yX10_arrive cX10_arrive 3 none [] { frames := 1, cells := 0, slots := 0, locals := 23 }) {K2 : Nat → Int32 → Sg → Prop} (hK2 : ∀ (this : Nat) (v1 : Int32) (ζ : Sg), K2 this v1 ζ → V G (QM G 0 0 Post) 2 [some (.ref this), some (.int v1), none] [] ζ 0 0) : ∀ (this : Nat) (v1 : Int32) (s0 : Int32) (σ : Sg), wp_X10_arrive_37 K2 this v1 s0 σ Post → V G (QM G 0 0 Post) 37 [some (.ref this), some (.int v1), none] [.int s0] σ 0 0 := by
  intro this v1 s0 σ h
  unfold wp_X10_arrive_37 at h
  refine V_istore_n hG dX10_arrive_37 (Nat.le_of_ble_eq_true rfl) (hpV rfl rfl) ?_
  refine V_iload_n hG dX10_arrive_38 rfl ?_
  refine V_if_eq (tgt := 90) hG dX10_arrive_39 (by decide) (fun c => ?_) (fun c => ?_)
  · replace h := h.1 c
    refine V_forget (lo' := [some (.ref this), some (.int v1), none]) ⟨rfl, ⟨rfl, trivial⟩⟩ ?_
    refine V_widen (k' := 0) (n' := 0) (by first | exact Nat.le_of_ble_eq_true rfl | omega | (dsimp only; omega)) (by first | exact Nat.le_of_ble_eq_true rfl | omega | (dsimp only; omega)) ?_
    exact wv_X10_arrive_90 hl hG hK2 _ _ _ h
  · replace h := h.2 c
    refine V_aload_n (v := .ref this) hG dX10_arrive_42 rfl rfl ?_
    refine V_aload_n (v := .ref this) hG dX10_arrive_43 rfl rfl ?_
    obtain ⟨ht, h⟩ := h
    refine V_getPv hG dX10_arrive_44 fl_X10_53 rfl ht (fun o1 ho => ?_)
    replace h := h o1 ho
    refine V_iload_n hG dX10_arrive_47 rfl ?_
    obtain ⟨u2, he, h⟩ := h
    subst he
    obtain ⟨ha, j3, hi, hj, h⟩ := h
    refine V_iald hG dX10_arrive_48 ha hi hj ?_
    obtain ⟨ht, h⟩ := h
    refine V_cVI _ _ hG dX10_arrive_49 (ct_X10_inStore hl h) mv_X10_inStore ml_X10_206 ht rfl rfl rfl rfl (by first | exact Nat.le_of_ble_eq_true rfl | (simp only [List.map_cons, List.map_nil, List.sum_cons, List.sum_nil, cat_rf]; exact Nat.le_of_ble_eq_true rfl)) (Nat.le_of_ble_eq_true rfl) (Nat.le_of_ble_eq_true rfl) (by first | exact Nat.le_of_ble_eq_true rfl | omega | (dsimp only; omega)) (by first | exact Nat.le_of_ble_eq_true rfl | omega | (dsimp only; omega)) ?_ (fun x5 σ4 h9 => ?_)
    · exact fun E σ4 hx => VX_out hG (by first | exact Nat.le_of_ble_eq_true rfl | omega | (dsimp only; omega)) (by first | exact Nat.le_of_ble_eq_true rfl | omega | (dsimp only; omega)) hx
    · replace h := h9
      clear h9
      refine V_aload_n (v := .ref this) hG dX10_arrive_52 rfl rfl ?_
      obtain ⟨ht, h⟩ := h
      refine V_getPv hG dX10_arrive_53 fl_X10_56 rfl ht (fun o6 ho => ?_)
      replace h := h o6 ho
      refine V_iload_n hG dX10_arrive_56 rfl ?_
      obtain ⟨u7, he, h⟩ := h
      subst he
      obtain ⟨ha, j8, hi, hj, h⟩ := h
      refine V_iald hG dX10_arrive_57 ha hi hj ?_
      refine V_iadd hG dX10_arrive_58 ?_
      refine V_aload_n (v := .ref this) hG dX10_arrive_59 rfl rfl ?_
      obtain ⟨ht, h⟩ := h
      refine V_getPv hG dX10_arrive_60 fl_X10_43 rfl ht (fun o9 ho => ?_)
      replace h := h o9 ho
      refine V_aload_n (v := .ref this) hG dX10_arrive_63 rfl rfl ?_
      obtain ⟨ht, h⟩ := h
      refine V_getPv hG dX10_arrive_64 fl_X10_53 rfl ht (fun o10 ho => ?_)
      replace h := h o10 ho
      refine V_iload_n hG dX10_arrive_67 rfl ?_
      obtain ⟨u11, he, h⟩ := h
      subst he
      obtain ⟨ha, j12, hi, hj, h⟩ := h
      refine V_iald hG dX10_arrive_68 ha hi hj ?_
      obtain ⟨u13, he, h⟩ := h
      subst he
      obtain ⟨ha, j14, hi, hj, h⟩ := h
      refine V_iald hG dX10_arrive_69 ha hi hj ?_
      refine V_icmp_gt (tgt := 90) hG dX10_arrive_70 (by decide) (fun c => ?_) (fun c => ?_)
      · replace h := h.1 c
        refine V_forget (lo' := [some (.ref this), some (.int v1), none]) ⟨rfl, ⟨rfl, trivial⟩⟩ ?_
        refine V_widen (k' := 0) (n' := 0) (by first | exact Nat.le_of_ble_eq_true rfl | omega | (dsimp only; omega)) (by first | exact Nat.le_of_ble_eq_true rfl | omega | (dsimp only; omega)) ?_
        exact wv_X10_arrive_90 hl hG hK2 _ _ _ h
      · replace h := h.2 c
        refine V_aload_n (v := .ref this) hG dX10_arrive_73 rfl rfl ?_
        obtain ⟨ht, h⟩ := h
        refine V_getPv hG dX10_arrive_74 fl_X10_62 rfl ht (fun o15 ho => ?_)
        replace h := h o15 ho
        refine V_iload_n hG dX10_arrive_77 rfl ?_
        refine V_iconst (v := 3) hG (by decide) dX10_arrive_78 ?_
        obtain ⟨u16, he, h⟩ := h
        subst he
        obtain ⟨ha, j17, hi, hj, h⟩ := h
        refine V_iast hG dX10_arrive_79 ha hi hj ?_
        refine V_aload_n (v := .ref this) hG dX10_arrive_80 rfl rfl ?_
        obtain ⟨ht, h⟩ := h
        refine V_getPv hG dX10_arrive_81 fl_X10_83 rfl ht (fun o18 ho => ?_)
        replace h := h o18 ho
        refine V_iload_n hG dX10_arrive_84 rfl ?_
        refine V_aload_n (v := .ref this) hG dX10_arrive_85 rfl rfl ?_
        obtain ⟨ht, h⟩ := h
        refine V_getI hG dX10_arrive_86 fl_X10_193 rfl ht ?_
        obtain ⟨u19, he, h⟩ := h
        subst he
        obtain ⟨ha, j20, hi, hj, h⟩ := h
        refine V_iast hG dX10_arrive_89 ha hi hj ?_
        refine V_forget (lo' := [some (.ref this), some (.int v1), none]) ⟨rfl, ⟨rfl, trivial⟩⟩ ?_
        refine V_widen (k' := 0) (n' := 0) (by first | exact Nat.le_of_ble_eq_true rfl | omega | (dsimp only; omega)) (by first | exact Nat.le_of_ble_eq_true rfl | omega | (dsimp only; omega)) ?_
        exact wv_X10_arrive_90 hl hG hK2 _ _ _ h
def wp_X10_arrive_36 (K2 : Nat → Int32 → Sg → Prop) (this : Nat) (v1 : Int32) (σ : Sg) (Post : Rs → Sg → Prop) : Prop := (wp_X10_arrive_37 K2 this v1 (0 : Int32) σ Post)
set_option maxRecDepth 100000 in
set_option maxHeartbeats 4000000 in
theorem wv_X10_arrive_36 {L9 : Launch} {G : Cx} {Post : Rs → Sg → Prop} (hl : L9.stackTraces = false) (hG : CX L9 G yX10_arrive cX10_arrive 3 none [] { frames := 1, cells := 0, slots := 0, locals := 23 }) {K2 : Nat → Int32 → Sg → Prop} (hK2 : ∀ (this : Nat) (v1 : Int32) (ζ : Sg), K2 this v1 ζ → V G (QM G 0 0 Post) 2 [some (.ref this), some (.int v1), none] [] ζ 0 0) : ∀ (this : Nat) (v1 : Int32) (σ : Sg), wp_X10_arrive_36 K2 this v1 σ Post → V G (QM G 0 0 Post) 36 [some (.ref this), some (.int v1), none] [] σ 0 0 := by
  intro this v1 σ h
  unfold wp_X10_arrive_36 at h
  refine V_iconst (v := 0) hG (by decide) dX10_arrive_36 ?_
  refine V_forget (lo' := [some (.ref this), some (.int v1), none]) ⟨rfl, ⟨rfl, trivial⟩⟩ ?_
  refine V_widen (k' := 0) (n' := 0) (by first | exact Nat.le_of_ble_eq_true rfl | omega | (dsimp only; omega)) (by first | exact Nat.le_of_ble_eq_true rfl | omega | (dsimp only; omega)) ?_
  exact wv_X10_arrive_37 hl hG hK2 _ _ _ _ h
def wp_X10_arrive_2  : Nat → Nat → Int32 → Sg → (Rs → Sg → Prop) → Prop
  | 0, _, _, _, _ => False
  | f + 1, this, v1, σ, Post => this % 32 = 10 ∧ (((sI σ this 14) ≤ v1 → Post (.inl none) σ) ∧ (¬ (sI σ this 14) ≤ v1 → this % 32 = 10 ∧ ∀ o1, o1 = sP σ this 18 → ∃ u2, o1 = some u2 ∧ aty (u2 % 32) = some .int ∧ ∃ j3, v1 = nI j3 ∧ j3 < aln u2 ∧ ((¬ (sI σ u2 j3) = 0 → (wp_X10_arrive_36 (fun z0 z1 ζ => wp_X10_arrive_2 f z0 z1 ζ Post) this v1 σ Post)) ∧ ((sI σ u2 j3) = 0 → this % 32 = 10 ∧ ∀ o4, o4 = sP σ this 25 → ∃ u5, o4 = some u5 ∧ aty (u5 % 32) = some .int ∧ ∃ j6, v1 = nI j6 ∧ j6 < aln u5 ∧ this % 32 = 10 ∧ (((sI σ this 55) < (sI σ u5 j6) → (wp_X10_arrive_36 (fun z0 z1 ζ => wp_X10_arrive_2 f z0 z1 ζ Post) this v1 σ Post)) ∧ (¬ (sI σ this 55) < (sI σ u5 j6) → (wp_X10_arrive_37 (fun z0 z1 ζ => wp_X10_arrive_2 f z0 z1 ζ Post) this v1 (1 : Int32) σ Post)))))))
set_option maxRecDepth 100000 in
set_option maxHeartbeats 4000000 in
theorem wv_X10_arrive_2 {L9 : Launch} {G : Cx} {Post : Rs → Sg → Prop} (hl : L9.stackTraces = false) (hG : CX L9 G yX10_arrive cX10_arrive 3 none [] { frames := 1, cells := 0, slots := 0, locals := 23 })   : ∀ (f : Nat) (this : Nat) (v1 : Int32) (σ : Sg), wp_X10_arrive_2 f this v1 σ Post → V G (QM G 0 0 Post) 2 [some (.ref this), some (.int v1), none] [] σ 0 0 := by
  intro f
  induction f with
  | zero => intro _ _ σ h; exact h.elim
  | succ f ih =>
    intro this v1 σ h
    refine V_iload_n hG dX10_arrive_2 rfl ?_
    refine V_aload_n (v := .ref this) hG dX10_arrive_3 rfl rfl ?_
    obtain ⟨ht, h⟩ := h
    refine V_getI hG dX10_arrive_4 fl_X10_176 rfl ht ?_
    refine V_icmp_ge (tgt := 96) hG dX10_arrive_7 (by decide) (fun c => ?_) (fun c => ?_)
    · replace h := h.1 c
      exact V_vret hG dX10_arrive_96 (by first | exact Nat.le_of_ble_eq_true rfl | omega | (dsimp only; omega)) (by first | exact Nat.le_of_ble_eq_true rfl | omega | (dsimp only; omega)) h
    · replace h := h.2 c
      refine V_aload_n (v := .ref this) hG dX10_arrive_10 rfl rfl ?_
      obtain ⟨ht, h⟩ := h
      refine V_getPv hG dX10_arrive_11 fl_X10_62 rfl ht (fun o1 ho => ?_)
      replace h := h o1 ho
      refine V_iload_n hG dX10_arrive_14 rfl ?_
      obtain ⟨u2, he, h⟩ := h
      subst he
      obtain ⟨ha, j3, hi, hj, h⟩ := h
      refine V_iald hG dX10_arrive_15 ha hi hj ?_
      refine V_if_ne (tgt := 36) hG dX10_arrive_16 (by decide) (fun c => ?_) (fun c => ?_)
      · replace h := h.1 c
        refine V_forget (lo' := [some (.ref this), some (.int v1), none]) ⟨rfl, ⟨rfl, trivial⟩⟩ ?_
        refine V_widen (k' := 0) (n' := 0) (by first | exact Nat.le_of_ble_eq_true rfl | omega | (dsimp only; omega)) (by first | exact Nat.le_of_ble_eq_true rfl | omega | (dsimp only; omega)) ?_
        exact wv_X10_arrive_36 hl hG (fun z0 z1 ζ hz => ih z0 z1 ζ hz) _ _ _ h
      · replace h := h.2 c
        refine V_aload_n (v := .ref this) hG dX10_arrive_19 rfl rfl ?_
        obtain ⟨ht, h⟩ := h
        refine V_getPv hG dX10_arrive_20 fl_X10_83 rfl ht (fun o4 ho => ?_)
        replace h := h o4 ho
        refine V_iload_n hG dX10_arrive_23 rfl ?_
        obtain ⟨u5, he, h⟩ := h
        subst he
        obtain ⟨ha, j6, hi, hj, h⟩ := h
        refine V_iald hG dX10_arrive_24 ha hi hj ?_
        refine V_aload_n (v := .ref this) hG dX10_arrive_25 rfl rfl ?_
        obtain ⟨ht, h⟩ := h
        refine V_getI hG dX10_arrive_26 fl_X10_193 rfl ht ?_
        refine V_icmp_gt (tgt := 36) hG dX10_arrive_29 (by decide) (fun c => ?_) (fun c => ?_)
        · replace h := h.1 c
          refine V_forget (lo' := [some (.ref this), some (.int v1), none]) ⟨rfl, ⟨rfl, trivial⟩⟩ ?_
          refine V_widen (k' := 0) (n' := 0) (by first | exact Nat.le_of_ble_eq_true rfl | omega | (dsimp only; omega)) (by first | exact Nat.le_of_ble_eq_true rfl | omega | (dsimp only; omega)) ?_
          exact wv_X10_arrive_36 hl hG (fun z0 z1 ζ hz => ih z0 z1 ζ hz) _ _ _ h
        · replace h := h.2 c
          refine V_iconst (v := 1) hG (by decide) dX10_arrive_32 ?_
          refine V_goto (tgt := 37) hG dX10_arrive_33 (by decide) ?_
          refine V_forget (lo' := [some (.ref this), some (.int v1), none]) ⟨rfl, ⟨rfl, trivial⟩⟩ ?_
          refine V_widen (k' := 0) (n' := 0) (by first | exact Nat.le_of_ble_eq_true rfl | omega | (dsimp only; omega)) (by first | exact Nat.le_of_ble_eq_true rfl | omega | (dsimp only; omega)) ?_
          exact wv_X10_arrive_37 hl hG (fun z0 z1 ζ hz => ih z0 z1 ζ hz) _ _ _ _ h
def wp_X10_arrive (this : Nat) (σ : Sg) (Post : Rs → Sg → Prop) : Prop := (∃ g, wp_X10_arrive_2 g this (0 : Int32) σ Post)
set_option maxRecDepth 100000 in
set_option maxHeartbeats 4000000 in
theorem ct_X10_arrive {l : Launch} (hl : l.stackTraces = false) {this : Nat} {σ : Sg} {Post : Rs → Sg → Prop} (h : wp_X10_arrive this σ Post) : Ct l yX10_arrive (.code yX10_arrive cX10_arrive 3 none) 1 23 0 0 [.ref this] σ Post := by
  refine Ct_of [some (.ref this), none, none] hl (by decide +kernel) rfl (fun ad => by rfl) (fun ad => by exact Nat.le_of_ble_eq_true rfl) (fun v hv => mem_lo hv rfl) ?_
  intro G hG
  unfold wp_X10_arrive at h
  refine V_iconst (v := 0) hG (by decide) dX10_arrive_0 ?_
  refine V_istore_n hG dX10_arrive_1 (Nat.le_of_ble_eq_true rfl) (hpV rfl rfl) ?_
  refine V_forget (lo' := [some (.ref this), some (.int (0 : Int32)), none]) ⟨rfl, ⟨rfl, trivial⟩⟩ ?_
  obtain ⟨g, h⟩ := h
  refine V_widen (k' := 0) (n' := 0) (by first | exact Nat.le_of_ble_eq_true rfl | omega | (dsimp only; omega)) (by first | exact Nat.le_of_ble_eq_true rfl | omega | (dsimp only; omega)) ?_
  exact wv_X10_arrive_2 hl hG  g _ _ _ h
def wp_X10_workOn_144  (this : Nat) (v5 : Int32) (s0 : Nat) (s1 : Int32) (s2 : Int32) (s3 : Int32) (σ : Sg) (Post : Rs → Sg → Prop) : Prop := aty (s0 % 32) = some .int ∧ ∃ j1, s1 = nI j1 ∧ j1 < aln s0 ∧ this % 32 = 10 ∧ ∀ o2, o2 = sP (wI σ s0 j1 (s2 + s3)) this 46 → ∃ u3, o2 = some u3 ∧ aty (u3 % 32) = some .int ∧ ∃ j4, v5 = nI j4 ∧ j4 < aln u3 ∧ Post (.inl none) (wI (wI σ s0 j1 (s2 + s3)) u3 j4 (0 : Int32))
set_option maxRecDepth 100000 in
set_option maxHeartbeats 4000000 in
theorem wv_X10_workOn_144 {L9 : Launch} {G : Cx} {Post : Rs → Sg → Prop} (hl : L9.stackTraces = false) (hG : CX L9 G yX10_workOn cX10_workOn 6 none [] { frames := 0, cells := 0, slots := 0, locals := 0 })   : ∀ (this : Nat) (v5 : Int32) (s0 : Nat) (s1 : Int32) (s2 : Int32) (s3 : Int32) (σ : Sg), wp_X10_workOn_144 this v5 s0 s1 s2 s3 σ Post → V G (QM G 0 0 Post) 144 [some (.ref this), none, none, none, none, some (.int v5)] [.int s3, .int s2, .int s1, .ref s0] σ 0 0 := by
  intro this v5 s0 s1 s2 s3 σ h
  unfold wp_X10_workOn_144 at h
  refine V_iadd hG dX10_workOn_144 ?_
  obtain ⟨ha, j1, hi, hj, h⟩ := h
  refine V_iast hG dX10_workOn_145 ha hi hj ?_
  refine V_aload_n (v := .ref this) hG dX10_workOn_146 rfl rfl ?_
  obtain ⟨ht, h⟩ := h
  refine V_getPv hG dX10_workOn_147 fl_X10_141 rfl ht (fun o2 ho => ?_)
  replace h := h o2 ho
  refine V_iload hG dX10_workOn_150 rfl ?_
  refine V_iconst (v := 0) hG (by decide) dX10_workOn_152 ?_
  obtain ⟨u3, he, h⟩ := h
  subst he
  obtain ⟨ha, j4, hi, hj, h⟩ := h
  refine V_iast hG dX10_workOn_153 ha hi hj ?_
  exact V_vret hG dX10_workOn_154 (by first | exact Nat.le_of_ble_eq_true rfl | omega | (dsimp only; omega)) (by first | exact Nat.le_of_ble_eq_true rfl | omega | (dsimp only; omega)) h
set_option maxRecDepth 100000 in
def wp_X10_workOn (this : Nat) (a0 : Int32) (σ : Sg) (Post : Rs → Sg → Prop) : Prop := this % 32 = 10 ∧ ∀ o1, o1 = sP σ this 34 → ∃ u2, o1 = some u2 ∧ aty (u2 % 32) = some .int ∧ ∃ j3, a0 = nI j3 ∧ j3 < aln u2 ∧ this % 32 = 10 ∧ ∀ o4, o4 = sP σ this 36 → ∃ u5, o4 = some u5 ∧ aty (u5 % 32) = some .int ∧ ∃ j6, a0 = nI j6 ∧ j6 < aln u5 ∧ this % 32 = 10 ∧ ∀ o7, o7 = sP σ this 30 → ∃ u8, o7 = some u8 ∧ aty (u8 % 32) = some .int ∧ ∃ j9, a0 = nI j9 ∧ j9 < aln u8 ∧ this % 32 = 10 ∧ ∀ o10, o10 = sP σ this 42 → ∃ u11, o10 = some u11 ∧ aty (u11 % 32) = some .int ∧ ∃ j12, (sI σ u5 j6) = nI j12 ∧ j12 < aln u11 ∧ this % 32 = 10 ∧ ∀ o13, o13 = sP σ this 35 → ∃ u14, o13 = some u14 ∧ aty (u14 % 32) = some .int ∧ ∃ j15, a0 = nI j15 ∧ j15 < aln u14 ∧ aty (u14 % 32) = some .int ∧ ∃ j16, a0 = nI j16 ∧ j16 < aln u14 ∧ this % 32 = 10 ∧ ∀ o17, o17 = sP (wI σ u14 j16 ((sI σ u14 j15) - (1 : Int32))) this 17 → ∃ u18, o17 = some u18 ∧ aty (u18 % 32) = some .int ∧ ∃ j19, (sI σ u2 j3) = nI j19 ∧ j19 < aln u18 ∧ aty (u18 % 32) = some .int ∧ ∃ j20, (sI σ u2 j3) = nI j20 ∧ j20 < aln u18 ∧ this % 32 = 10 ∧ this % 32 = 10 ∧ this % 32 = 10 ∧ ∀ o21, o21 = sP (wI (wI (wI σ u14 j16 ((sI σ u14 j15) - (1 : Int32))) u18 j20 ((sI (wI σ u14 j16 ((sI σ u14 j15) - (1 : Int32))) u18 j19) + ((sI σ u8 j9) + (sI σ u11 j12)))) this 57 ((sI (wI (wI σ u14 j16 ((sI σ u14 j15) - (1 : Int32))) u18 j20 ((sI (wI σ u14 j16 ((sI σ u14 j15) - (1 : Int32))) u18 j19) + ((sI σ u8 j9) + (sI σ u11 j12)))) this 57) + ((sI σ u8 j9) + (sI σ u11 j12)))) this 37 → ∃ u22, o21 = some u22 ∧ aty (u22 % 32) = some .int ∧ ∃ j23, a0 = nI j23 ∧ j23 < aln u22 ∧ aty (u22 % 32) = some .int ∧ ∃ j24, a0 = nI j24 ∧ j24 < aln u22 ∧ this % 32 = 10 ∧ ∀ o25, o25 = sP (wI (wI (wI (wI σ u14 j16 ((sI σ u14 j15) - (1 : Int32))) u18 j20 ((sI (wI σ u14 j16 ((sI σ u14 j15) - (1 : Int32))) u18 j19) + ((sI σ u8 j9) + (sI σ u11 j12)))) this 57 ((sI (wI (wI σ u14 j16 ((sI σ u14 j15) - (1 : Int32))) u18 j20 ((sI (wI σ u14 j16 ((sI σ u14 j15) - (1 : Int32))) u18 j19) + ((sI σ u8 j9) + (sI σ u11 j12)))) this 57) + ((sI σ u8 j9) + (sI σ u11 j12)))) u22 j24 ((sI (wI (wI (wI σ u14 j16 ((sI σ u14 j15) - (1 : Int32))) u18 j20 ((sI (wI σ u14 j16 ((sI σ u14 j15) - (1 : Int32))) u18 j19) + ((sI σ u8 j9) + (sI σ u11 j12)))) this 57 ((sI (wI (wI σ u14 j16 ((sI σ u14 j15) - (1 : Int32))) u18 j20 ((sI (wI σ u14 j16 ((sI σ u14 j15) - (1 : Int32))) u18 j19) + ((sI σ u8 j9) + (sI σ u11 j12)))) this 57) + ((sI σ u8 j9) + (sI σ u11 j12)))) u22 j23) + (1 : Int32))) this 9 → this % 32 = 10 ∧ ∀ o26, o26 = sP (wI (wI (wI (wI σ u14 j16 ((sI σ u14 j15) - (1 : Int32))) u18 j20 ((sI (wI σ u14 j16 ((sI σ u14 j15) - (1 : Int32))) u18 j19) + ((sI σ u8 j9) + (sI σ u11 j12)))) this 57 ((sI (wI (wI σ u14 j16 ((sI σ u14 j15) - (1 : Int32))) u18 j20 ((sI (wI σ u14 j16 ((sI σ u14 j15) - (1 : Int32))) u18 j19) + ((sI σ u8 j9) + (sI σ u11 j12)))) this 57) + ((sI σ u8 j9) + (sI σ u11 j12)))) u22 j24 ((sI (wI (wI (wI σ u14 j16 ((sI σ u14 j15) - (1 : Int32))) u18 j20 ((sI (wI σ u14 j16 ((sI σ u14 j15) - (1 : Int32))) u18 j19) + ((sI σ u8 j9) + (sI σ u11 j12)))) this 57 ((sI (wI (wI σ u14 j16 ((sI σ u14 j15) - (1 : Int32))) u18 j20 ((sI (wI σ u14 j16 ((sI σ u14 j15) - (1 : Int32))) u18 j19) + ((sI σ u8 j9) + (sI σ u11 j12)))) this 57) + ((sI σ u8 j9) + (sI σ u11 j12)))) u22 j23) + (1 : Int32))) this 15 → ∃ u27, o26 = some u27 ∧ aty (u27 % 32) = some .int ∧ ∃ j28, (sI σ u2 j3) = nI j28 ∧ j28 < aln u27 ∧ this % 32 = 10 ∧ ∀ o29, o29 = sP (wI (wI (wI (wI σ u14 j16 ((sI σ u14 j15) - (1 : Int32))) u18 j20 ((sI (wI σ u14 j16 ((sI σ u14 j15) - (1 : Int32))) u18 j19) + ((sI σ u8 j9) + (sI σ u11 j12)))) this 57 ((sI (wI (wI σ u14 j16 ((sI σ u14 j15) - (1 : Int32))) u18 j20 ((sI (wI σ u14 j16 ((sI σ u14 j15) - (1 : Int32))) u18 j19) + ((sI σ u8 j9) + (sI σ u11 j12)))) this 57) + ((sI σ u8 j9) + (sI σ u11 j12)))) u22 j24 ((sI (wI (wI (wI σ u14 j16 ((sI σ u14 j15) - (1 : Int32))) u18 j20 ((sI (wI σ u14 j16 ((sI σ u14 j15) - (1 : Int32))) u18 j19) + ((sI σ u8 j9) + (sI σ u11 j12)))) this 57 ((sI (wI (wI σ u14 j16 ((sI σ u14 j15) - (1 : Int32))) u18 j20 ((sI (wI σ u14 j16 ((sI σ u14 j15) - (1 : Int32))) u18 j19) + ((sI σ u8 j9) + (sI σ u11 j12)))) this 57) + ((sI σ u8 j9) + (sI σ u11 j12)))) u22 j23) + (1 : Int32))) this 19 → ∃ u30, o29 = some u30 ∧ aty (u30 % 32) = some .int ∧ ∃ j31, (sI σ u2 j3) = nI j31 ∧ j31 < aln u30 ∧ ∃ u32, o25 = some u32 ∧ aty (u32 % 32) = some .int ∧ ∃ j33, (((4 : Int32) * (sI (wI (wI (wI (wI σ u14 j16 ((sI σ u14 j15) - (1 : Int32))) u18 j20 ((sI (wI σ u14 j16 ((sI σ u14 j15) - (1 : Int32))) u18 j19) + ((sI σ u8 j9) + (sI σ u11 j12)))) this 57 ((sI (wI (wI σ u14 j16 ((sI σ u14 j15) - (1 : Int32))) u18 j20 ((sI (wI σ u14 j16 ((sI σ u14 j15) - (1 : Int32))) u18 j19) + ((sI σ u8 j9) + (sI σ u11 j12)))) this 57) + ((sI σ u8 j9) + (sI σ u11 j12)))) u22 j24 ((sI (wI (wI (wI σ u14 j16 ((sI σ u14 j15) - (1 : Int32))) u18 j20 ((sI (wI σ u14 j16 ((sI σ u14 j15) - (1 : Int32))) u18 j19) + ((sI σ u8 j9) + (sI σ u11 j12)))) this 57 ((sI (wI (wI σ u14 j16 ((sI σ u14 j15) - (1 : Int32))) u18 j20 ((sI (wI σ u14 j16 ((sI σ u14 j15) - (1 : Int32))) u18 j19) + ((sI σ u8 j9) + (sI σ u11 j12)))) this 57) + ((sI σ u8 j9) + (sI σ u11 j12)))) u22 j23) + (1 : Int32))) u27 j28)) + (sI (wI (wI (wI (wI σ u14 j16 ((sI σ u14 j15) - (1 : Int32))) u18 j20 ((sI (wI σ u14 j16 ((sI σ u14 j15) - (1 : Int32))) u18 j19) + ((sI σ u8 j9) + (sI σ u11 j12)))) this 57 ((sI (wI (wI σ u14 j16 ((sI σ u14 j15) - (1 : Int32))) u18 j20 ((sI (wI σ u14 j16 ((sI σ u14 j15) - (1 : Int32))) u18 j19) + ((sI σ u8 j9) + (sI σ u11 j12)))) this 57) + ((sI σ u8 j9) + (sI σ u11 j12)))) u22 j24 ((sI (wI (wI (wI σ u14 j16 ((sI σ u14 j15) - (1 : Int32))) u18 j20 ((sI (wI σ u14 j16 ((sI σ u14 j15) - (1 : Int32))) u18 j19) + ((sI σ u8 j9) + (sI σ u11 j12)))) this 57 ((sI (wI (wI σ u14 j16 ((sI σ u14 j15) - (1 : Int32))) u18 j20 ((sI (wI σ u14 j16 ((sI σ u14 j15) - (1 : Int32))) u18 j19) + ((sI σ u8 j9) + (sI σ u11 j12)))) this 57) + ((sI σ u8 j9) + (sI σ u11 j12)))) u22 j23) + (1 : Int32))) u30 j31)) = nI j33 ∧ j33 < aln u32 ∧ this % 32 = 10 ∧ ∀ o34, o34 = sP (wI (wI (wI (wI σ u14 j16 ((sI σ u14 j15) - (1 : Int32))) u18 j20 ((sI (wI σ u14 j16 ((sI σ u14 j15) - (1 : Int32))) u18 j19) + ((sI σ u8 j9) + (sI σ u11 j12)))) this 57 ((sI (wI (wI σ u14 j16 ((sI σ u14 j15) - (1 : Int32))) u18 j20 ((sI (wI σ u14 j16 ((sI σ u14 j15) - (1 : Int32))) u18 j19) + ((sI σ u8 j9) + (sI σ u11 j12)))) this 57) + ((sI σ u8 j9) + (sI σ u11 j12)))) u22 j24 ((sI (wI (wI (wI σ u14 j16 ((sI σ u14 j15) - (1 : Int32))) u18 j20 ((sI (wI σ u14 j16 ((sI σ u14 j15) - (1 : Int32))) u18 j19) + ((sI σ u8 j9) + (sI σ u11 j12)))) this 57 ((sI (wI (wI σ u14 j16 ((sI σ u14 j15) - (1 : Int32))) u18 j20 ((sI (wI σ u14 j16 ((sI σ u14 j15) - (1 : Int32))) u18 j19) + ((sI σ u8 j9) + (sI σ u11 j12)))) this 57) + ((sI σ u8 j9) + (sI σ u11 j12)))) u22 j23) + (1 : Int32))) this 46 → ∃ u35, o34 = some u35 ∧ aty (u35 % 32) = some .int ∧ ∃ j36, (((4 : Int32) * (sI σ u5 j6)) + (sI (wI (wI (wI (wI σ u14 j16 ((sI σ u14 j15) - (1 : Int32))) u18 j20 ((sI (wI σ u14 j16 ((sI σ u14 j15) - (1 : Int32))) u18 j19) + ((sI σ u8 j9) + (sI σ u11 j12)))) this 57 ((sI (wI (wI σ u14 j16 ((sI σ u14 j15) - (1 : Int32))) u18 j20 ((sI (wI σ u14 j16 ((sI σ u14 j15) - (1 : Int32))) u18 j19) + ((sI σ u8 j9) + (sI σ u11 j12)))) this 57) + ((sI σ u8 j9) + (sI σ u11 j12)))) u22 j24 ((sI (wI (wI (wI σ u14 j16 ((sI σ u14 j15) - (1 : Int32))) u18 j20 ((sI (wI σ u14 j16 ((sI σ u14 j15) - (1 : Int32))) u18 j19) + ((sI σ u8 j9) + (sI σ u11 j12)))) this 57 ((sI (wI (wI σ u14 j16 ((sI σ u14 j15) - (1 : Int32))) u18 j20 ((sI (wI σ u14 j16 ((sI σ u14 j15) - (1 : Int32))) u18 j19) + ((sI σ u8 j9) + (sI σ u11 j12)))) this 57) + ((sI σ u8 j9) + (sI σ u11 j12)))) u22 j23) + (1 : Int32))) u32 j33)) = nI j36 ∧ j36 < aln u35 ∧ aty (u35 % 32) = some .int ∧ ∃ j37, (((4 : Int32) * (sI σ u5 j6)) + (sI (wI (wI (wI (wI σ u14 j16 ((sI σ u14 j15) - (1 : Int32))) u18 j20 ((sI (wI σ u14 j16 ((sI σ u14 j15) - (1 : Int32))) u18 j19) + ((sI σ u8 j9) + (sI σ u11 j12)))) this 57 ((sI (wI (wI σ u14 j16 ((sI σ u14 j15) - (1 : Int32))) u18 j20 ((sI (wI σ u14 j16 ((sI σ u14 j15) - (1 : Int32))) u18 j19) + ((sI σ u8 j9) + (sI σ u11 j12)))) this 57) + ((sI σ u8 j9) + (sI σ u11 j12)))) u22 j24 ((sI (wI (wI (wI σ u14 j16 ((sI σ u14 j15) - (1 : Int32))) u18 j20 ((sI (wI σ u14 j16 ((sI σ u14 j15) - (1 : Int32))) u18 j19) + ((sI σ u8 j9) + (sI σ u11 j12)))) this 57 ((sI (wI (wI σ u14 j16 ((sI σ u14 j15) - (1 : Int32))) u18 j20 ((sI (wI σ u14 j16 ((sI σ u14 j15) - (1 : Int32))) u18 j19) + ((sI σ u8 j9) + (sI σ u11 j12)))) this 57) + ((sI σ u8 j9) + (sI σ u11 j12)))) u22 j23) + (1 : Int32))) u32 j33)) = nI j37 ∧ j37 < aln u35 ∧ this % 32 = 10 ∧ ∀ o38, o38 = sP (wI (wI (wI (wI (wI σ u14 j16 ((sI σ u14 j15) - (1 : Int32))) u18 j20 ((sI (wI σ u14 j16 ((sI σ u14 j15) - (1 : Int32))) u18 j19) + ((sI σ u8 j9) + (sI σ u11 j12)))) this 57 ((sI (wI (wI σ u14 j16 ((sI σ u14 j15) - (1 : Int32))) u18 j20 ((sI (wI σ u14 j16 ((sI σ u14 j15) - (1 : Int32))) u18 j19) + ((sI σ u8 j9) + (sI σ u11 j12)))) this 57) + ((sI σ u8 j9) + (sI σ u11 j12)))) u22 j24 ((sI (wI (wI (wI σ u14 j16 ((sI σ u14 j15) - (1 : Int32))) u18 j20 ((sI (wI σ u14 j16 ((sI σ u14 j15) - (1 : Int32))) u18 j19) + ((sI σ u8 j9) + (sI σ u11 j12)))) this 57 ((sI (wI (wI σ u14 j16 ((sI σ u14 j15) - (1 : Int32))) u18 j20 ((sI (wI σ u14 j16 ((sI σ u14 j15) - (1 : Int32))) u18 j19) + ((sI σ u8 j9) + (sI σ u11 j12)))) this 57) + ((sI σ u8 j9) + (sI σ u11 j12)))) u22 j23) + (1 : Int32))) u35 j37 ((sI (wI (wI (wI (wI σ u14 j16 ((sI σ u14 j15) - (1 : Int32))) u18 j20 ((sI (wI σ u14 j16 ((sI σ u14 j15) - (1 : Int32))) u18 j19) + ((sI σ u8 j9) + (sI σ u11 j12)))) this 57 ((sI (wI (wI σ u14 j16 ((sI σ u14 j15) - (1 : Int32))) u18 j20 ((sI (wI σ u14 j16 ((sI σ u14 j15) - (1 : Int32))) u18 j19) + ((sI σ u8 j9) + (sI σ u11 j12)))) this 57) + ((sI σ u8 j9) + (sI σ u11 j12)))) u22 j24 ((sI (wI (wI (wI σ u14 j16 ((sI σ u14 j15) - (1 : Int32))) u18 j20 ((sI (wI σ u14 j16 ((sI σ u14 j15) - (1 : Int32))) u18 j19) + ((sI σ u8 j9) + (sI σ u11 j12)))) this 57 ((sI (wI (wI σ u14 j16 ((sI σ u14 j15) - (1 : Int32))) u18 j20 ((sI (wI σ u14 j16 ((sI σ u14 j15) - (1 : Int32))) u18 j19) + ((sI σ u8 j9) + (sI σ u11 j12)))) this 57) + ((sI σ u8 j9) + (sI σ u11 j12)))) u22 j23) + (1 : Int32))) u35 j36) + (1 : Int32))) this 46 → ∃ u39, o38 = some u39 ∧ aty (u39 % 32) = some .int ∧ ∃ j40, (((4 : Int32) * (sI σ u5 j6)) + (sI (wI (wI (wI (wI σ u14 j16 ((sI σ u14 j15) - (1 : Int32))) u18 j20 ((sI (wI σ u14 j16 ((sI σ u14 j15) - (1 : Int32))) u18 j19) + ((sI σ u8 j9) + (sI σ u11 j12)))) this 57 ((sI (wI (wI σ u14 j16 ((sI σ u14 j15) - (1 : Int32))) u18 j20 ((sI (wI σ u14 j16 ((sI σ u14 j15) - (1 : Int32))) u18 j19) + ((sI σ u8 j9) + (sI σ u11 j12)))) this 57) + ((sI σ u8 j9) + (sI σ u11 j12)))) u22 j24 ((sI (wI (wI (wI σ u14 j16 ((sI σ u14 j15) - (1 : Int32))) u18 j20 ((sI (wI σ u14 j16 ((sI σ u14 j15) - (1 : Int32))) u18 j19) + ((sI σ u8 j9) + (sI σ u11 j12)))) this 57 ((sI (wI (wI σ u14 j16 ((sI σ u14 j15) - (1 : Int32))) u18 j20 ((sI (wI σ u14 j16 ((sI σ u14 j15) - (1 : Int32))) u18 j19) + ((sI σ u8 j9) + (sI σ u11 j12)))) this 57) + ((sI σ u8 j9) + (sI σ u11 j12)))) u22 j23) + (1 : Int32))) u32 j33)) = nI j40 ∧ j40 < aln u39 ∧ ((¬ (sI (wI (wI (wI (wI (wI σ u14 j16 ((sI σ u14 j15) - (1 : Int32))) u18 j20 ((sI (wI σ u14 j16 ((sI σ u14 j15) - (1 : Int32))) u18 j19) + ((sI σ u8 j9) + (sI σ u11 j12)))) this 57 ((sI (wI (wI σ u14 j16 ((sI σ u14 j15) - (1 : Int32))) u18 j20 ((sI (wI σ u14 j16 ((sI σ u14 j15) - (1 : Int32))) u18 j19) + ((sI σ u8 j9) + (sI σ u11 j12)))) this 57) + ((sI σ u8 j9) + (sI σ u11 j12)))) u22 j24 ((sI (wI (wI (wI σ u14 j16 ((sI σ u14 j15) - (1 : Int32))) u18 j20 ((sI (wI σ u14 j16 ((sI σ u14 j15) - (1 : Int32))) u18 j19) + ((sI σ u8 j9) + (sI σ u11 j12)))) this 57 ((sI (wI (wI σ u14 j16 ((sI σ u14 j15) - (1 : Int32))) u18 j20 ((sI (wI σ u14 j16 ((sI σ u14 j15) - (1 : Int32))) u18 j19) + ((sI σ u8 j9) + (sI σ u11 j12)))) this 57) + ((sI σ u8 j9) + (sI σ u11 j12)))) u22 j23) + (1 : Int32))) u35 j37 ((sI (wI (wI (wI (wI σ u14 j16 ((sI σ u14 j15) - (1 : Int32))) u18 j20 ((sI (wI σ u14 j16 ((sI σ u14 j15) - (1 : Int32))) u18 j19) + ((sI σ u8 j9) + (sI σ u11 j12)))) this 57 ((sI (wI (wI σ u14 j16 ((sI σ u14 j15) - (1 : Int32))) u18 j20 ((sI (wI σ u14 j16 ((sI σ u14 j15) - (1 : Int32))) u18 j19) + ((sI σ u8 j9) + (sI σ u11 j12)))) this 57) + ((sI σ u8 j9) + (sI σ u11 j12)))) u22 j24 ((sI (wI (wI (wI σ u14 j16 ((sI σ u14 j15) - (1 : Int32))) u18 j20 ((sI (wI σ u14 j16 ((sI σ u14 j15) - (1 : Int32))) u18 j19) + ((sI σ u8 j9) + (sI σ u11 j12)))) this 57 ((sI (wI (wI σ u14 j16 ((sI σ u14 j15) - (1 : Int32))) u18 j20 ((sI (wI σ u14 j16 ((sI σ u14 j15) - (1 : Int32))) u18 j19) + ((sI σ u8 j9) + (sI σ u11 j12)))) this 57) + ((sI σ u8 j9) + (sI σ u11 j12)))) u22 j23) + (1 : Int32))) u35 j36) + (1 : Int32))) u39 j40) = (8 : Int32) → Post (.inl none) (wI (wI (wI (wI (wI σ u14 j16 ((sI σ u14 j15) - (1 : Int32))) u18 j20 ((sI (wI σ u14 j16 ((sI σ u14 j15) - (1 : Int32))) u18 j19) + ((sI σ u8 j9) + (sI σ u11 j12)))) this 57 ((sI (wI (wI σ u14 j16 ((sI σ u14 j15) - (1 : Int32))) u18 j20 ((sI (wI σ u14 j16 ((sI σ u14 j15) - (1 : Int32))) u18 j19) + ((sI σ u8 j9) + (sI σ u11 j12)))) this 57) + ((sI σ u8 j9) + (sI σ u11 j12)))) u22 j24 ((sI (wI (wI (wI σ u14 j16 ((sI σ u14 j15) - (1 : Int32))) u18 j20 ((sI (wI σ u14 j16 ((sI σ u14 j15) - (1 : Int32))) u18 j19) + ((sI σ u8 j9) + (sI σ u11 j12)))) this 57 ((sI (wI (wI σ u14 j16 ((sI σ u14 j15) - (1 : Int32))) u18 j20 ((sI (wI σ u14 j16 ((sI σ u14 j15) - (1 : Int32))) u18 j19) + ((sI σ u8 j9) + (sI σ u11 j12)))) this 57) + ((sI σ u8 j9) + (sI σ u11 j12)))) u22 j23) + (1 : Int32))) u35 j37 ((sI (wI (wI (wI (wI σ u14 j16 ((sI σ u14 j15) - (1 : Int32))) u18 j20 ((sI (wI σ u14 j16 ((sI σ u14 j15) - (1 : Int32))) u18 j19) + ((sI σ u8 j9) + (sI σ u11 j12)))) this 57 ((sI (wI (wI σ u14 j16 ((sI σ u14 j15) - (1 : Int32))) u18 j20 ((sI (wI σ u14 j16 ((sI σ u14 j15) - (1 : Int32))) u18 j19) + ((sI σ u8 j9) + (sI σ u11 j12)))) this 57) + ((sI σ u8 j9) + (sI σ u11 j12)))) u22 j24 ((sI (wI (wI (wI σ u14 j16 ((sI σ u14 j15) - (1 : Int32))) u18 j20 ((sI (wI σ u14 j16 ((sI σ u14 j15) - (1 : Int32))) u18 j19) + ((sI σ u8 j9) + (sI σ u11 j12)))) this 57 ((sI (wI (wI σ u14 j16 ((sI σ u14 j15) - (1 : Int32))) u18 j20 ((sI (wI σ u14 j16 ((sI σ u14 j15) - (1 : Int32))) u18 j19) + ((sI σ u8 j9) + (sI σ u11 j12)))) this 57) + ((sI σ u8 j9) + (sI σ u11 j12)))) u22 j23) + (1 : Int32))) u35 j36) + (1 : Int32)))) ∧ ((sI (wI (wI (wI (wI (wI σ u14 j16 ((sI σ u14 j15) - (1 : Int32))) u18 j20 ((sI (wI σ u14 j16 ((sI σ u14 j15) - (1 : Int32))) u18 j19) + ((sI σ u8 j9) + (sI σ u11 j12)))) this 57 ((sI (wI (wI σ u14 j16 ((sI σ u14 j15) - (1 : Int32))) u18 j20 ((sI (wI σ u14 j16 ((sI σ u14 j15) - (1 : Int32))) u18 j19) + ((sI σ u8 j9) + (sI σ u11 j12)))) this 57) + ((sI σ u8 j9) + (sI σ u11 j12)))) u22 j24 ((sI (wI (wI (wI σ u14 j16 ((sI σ u14 j15) - (1 : Int32))) u18 j20 ((sI (wI σ u14 j16 ((sI σ u14 j15) - (1 : Int32))) u18 j19) + ((sI σ u8 j9) + (sI σ u11 j12)))) this 57 ((sI (wI (wI σ u14 j16 ((sI σ u14 j15) - (1 : Int32))) u18 j20 ((sI (wI σ u14 j16 ((sI σ u14 j15) - (1 : Int32))) u18 j19) + ((sI σ u8 j9) + (sI σ u11 j12)))) this 57) + ((sI σ u8 j9) + (sI σ u11 j12)))) u22 j23) + (1 : Int32))) u35 j37 ((sI (wI (wI (wI (wI σ u14 j16 ((sI σ u14 j15) - (1 : Int32))) u18 j20 ((sI (wI σ u14 j16 ((sI σ u14 j15) - (1 : Int32))) u18 j19) + ((sI σ u8 j9) + (sI σ u11 j12)))) this 57 ((sI (wI (wI σ u14 j16 ((sI σ u14 j15) - (1 : Int32))) u18 j20 ((sI (wI σ u14 j16 ((sI σ u14 j15) - (1 : Int32))) u18 j19) + ((sI σ u8 j9) + (sI σ u11 j12)))) this 57) + ((sI σ u8 j9) + (sI σ u11 j12)))) u22 j24 ((sI (wI (wI (wI σ u14 j16 ((sI σ u14 j15) - (1 : Int32))) u18 j20 ((sI (wI σ u14 j16 ((sI σ u14 j15) - (1 : Int32))) u18 j19) + ((sI σ u8 j9) + (sI σ u11 j12)))) this 57 ((sI (wI (wI σ u14 j16 ((sI σ u14 j15) - (1 : Int32))) u18 j20 ((sI (wI σ u14 j16 ((sI σ u14 j15) - (1 : Int32))) u18 j19) + ((sI σ u8 j9) + (sI σ u11 j12)))) this 57) + ((sI σ u8 j9) + (sI σ u11 j12)))) u22 j23) + (1 : Int32))) u35 j36) + (1 : Int32))) u39 j40) = (8 : Int32) → this % 32 = 10 ∧ ∀ o41, o41 = sP (wI (wI (wI (wI (wI σ u14 j16 ((sI σ u14 j15) - (1 : Int32))) u18 j20 ((sI (wI σ u14 j16 ((sI σ u14 j15) - (1 : Int32))) u18 j19) + ((sI σ u8 j9) + (sI σ u11 j12)))) this 57 ((sI (wI (wI σ u14 j16 ((sI σ u14 j15) - (1 : Int32))) u18 j20 ((sI (wI σ u14 j16 ((sI σ u14 j15) - (1 : Int32))) u18 j19) + ((sI σ u8 j9) + (sI σ u11 j12)))) this 57) + ((sI σ u8 j9) + (sI σ u11 j12)))) u22 j24 ((sI (wI (wI (wI σ u14 j16 ((sI σ u14 j15) - (1 : Int32))) u18 j20 ((sI (wI σ u14 j16 ((sI σ u14 j15) - (1 : Int32))) u18 j19) + ((sI σ u8 j9) + (sI σ u11 j12)))) this 57 ((sI (wI (wI σ u14 j16 ((sI σ u14 j15) - (1 : Int32))) u18 j20 ((sI (wI σ u14 j16 ((sI σ u14 j15) - (1 : Int32))) u18 j19) + ((sI σ u8 j9) + (sI σ u11 j12)))) this 57) + ((sI σ u8 j9) + (sI σ u11 j12)))) u22 j23) + (1 : Int32))) u35 j37 ((sI (wI (wI (wI (wI σ u14 j16 ((sI σ u14 j15) - (1 : Int32))) u18 j20 ((sI (wI σ u14 j16 ((sI σ u14 j15) - (1 : Int32))) u18 j19) + ((sI σ u8 j9) + (sI σ u11 j12)))) this 57 ((sI (wI (wI σ u14 j16 ((sI σ u14 j15) - (1 : Int32))) u18 j20 ((sI (wI σ u14 j16 ((sI σ u14 j15) - (1 : Int32))) u18 j19) + ((sI σ u8 j9) + (sI σ u11 j12)))) this 57) + ((sI σ u8 j9) + (sI σ u11 j12)))) u22 j24 ((sI (wI (wI (wI σ u14 j16 ((sI σ u14 j15) - (1 : Int32))) u18 j20 ((sI (wI σ u14 j16 ((sI σ u14 j15) - (1 : Int32))) u18 j19) + ((sI σ u8 j9) + (sI σ u11 j12)))) this 57 ((sI (wI (wI σ u14 j16 ((sI σ u14 j15) - (1 : Int32))) u18 j20 ((sI (wI σ u14 j16 ((sI σ u14 j15) - (1 : Int32))) u18 j19) + ((sI σ u8 j9) + (sI σ u11 j12)))) this 57) + ((sI σ u8 j9) + (sI σ u11 j12)))) u22 j23) + (1 : Int32))) u35 j36) + (1 : Int32))) this 45 → ∃ u42, o41 = some u42 ∧ aty (u42 % 32) = some .int ∧ ∃ j43, (((4 : Int32) * (sI σ u5 j6)) + (sI (wI (wI (wI (wI σ u14 j16 ((sI σ u14 j15) - (1 : Int32))) u18 j20 ((sI (wI σ u14 j16 ((sI σ u14 j15) - (1 : Int32))) u18 j19) + ((sI σ u8 j9) + (sI σ u11 j12)))) this 57 ((sI (wI (wI σ u14 j16 ((sI σ u14 j15) - (1 : Int32))) u18 j20 ((sI (wI σ u14 j16 ((sI σ u14 j15) - (1 : Int32))) u18 j19) + ((sI σ u8 j9) + (sI σ u11 j12)))) this 57) + ((sI σ u8 j9) + (sI σ u11 j12)))) u22 j24 ((sI (wI (wI (wI σ u14 j16 ((sI σ u14 j15) - (1 : Int32))) u18 j20 ((sI (wI σ u14 j16 ((sI σ u14 j15) - (1 : Int32))) u18 j19) + ((sI σ u8 j9) + (sI σ u11 j12)))) this 57 ((sI (wI (wI σ u14 j16 ((sI σ u14 j15) - (1 : Int32))) u18 j20 ((sI (wI σ u14 j16 ((sI σ u14 j15) - (1 : Int32))) u18 j19) + ((sI σ u8 j9) + (sI σ u11 j12)))) this 57) + ((sI σ u8 j9) + (sI σ u11 j12)))) u22 j23) + (1 : Int32))) u32 j33)) = nI j43 ∧ j43 < aln u42 ∧ this % 32 = 10 ∧ ∀ o44, o44 = sP (wI (wI (wI (wI (wI σ u14 j16 ((sI σ u14 j15) - (1 : Int32))) u18 j20 ((sI (wI σ u14 j16 ((sI σ u14 j15) - (1 : Int32))) u18 j19) + ((sI σ u8 j9) + (sI σ u11 j12)))) this 57 ((sI (wI (wI σ u14 j16 ((sI σ u14 j15) - (1 : Int32))) u18 j20 ((sI (wI σ u14 j16 ((sI σ u14 j15) - (1 : Int32))) u18 j19) + ((sI σ u8 j9) + (sI σ u11 j12)))) this 57) + ((sI σ u8 j9) + (sI σ u11 j12)))) u22 j24 ((sI (wI (wI (wI σ u14 j16 ((sI σ u14 j15) - (1 : Int32))) u18 j20 ((sI (wI σ u14 j16 ((sI σ u14 j15) - (1 : Int32))) u18 j19) + ((sI σ u8 j9) + (sI σ u11 j12)))) this 57 ((sI (wI (wI σ u14 j16 ((sI σ u14 j15) - (1 : Int32))) u18 j20 ((sI (wI σ u14 j16 ((sI σ u14 j15) - (1 : Int32))) u18 j19) + ((sI σ u8 j9) + (sI σ u11 j12)))) this 57) + ((sI σ u8 j9) + (sI σ u11 j12)))) u22 j23) + (1 : Int32))) u35 j37 ((sI (wI (wI (wI (wI σ u14 j16 ((sI σ u14 j15) - (1 : Int32))) u18 j20 ((sI (wI σ u14 j16 ((sI σ u14 j15) - (1 : Int32))) u18 j19) + ((sI σ u8 j9) + (sI σ u11 j12)))) this 57 ((sI (wI (wI σ u14 j16 ((sI σ u14 j15) - (1 : Int32))) u18 j20 ((sI (wI σ u14 j16 ((sI σ u14 j15) - (1 : Int32))) u18 j19) + ((sI σ u8 j9) + (sI σ u11 j12)))) this 57) + ((sI σ u8 j9) + (sI σ u11 j12)))) u22 j24 ((sI (wI (wI (wI σ u14 j16 ((sI σ u14 j15) - (1 : Int32))) u18 j20 ((sI (wI σ u14 j16 ((sI σ u14 j15) - (1 : Int32))) u18 j19) + ((sI σ u8 j9) + (sI σ u11 j12)))) this 57 ((sI (wI (wI σ u14 j16 ((sI σ u14 j15) - (1 : Int32))) u18 j20 ((sI (wI σ u14 j16 ((sI σ u14 j15) - (1 : Int32))) u18 j19) + ((sI σ u8 j9) + (sI σ u11 j12)))) this 57) + ((sI σ u8 j9) + (sI σ u11 j12)))) u22 j23) + (1 : Int32))) u35 j36) + (1 : Int32))) this 45 → ∃ u45, o44 = some u45 ∧ aty (u45 % 32) = some .int ∧ ∃ j46, (((4 : Int32) * (sI σ u5 j6)) + (sI (wI (wI (wI (wI σ u14 j16 ((sI σ u14 j15) - (1 : Int32))) u18 j20 ((sI (wI σ u14 j16 ((sI σ u14 j15) - (1 : Int32))) u18 j19) + ((sI σ u8 j9) + (sI σ u11 j12)))) this 57 ((sI (wI (wI σ u14 j16 ((sI σ u14 j15) - (1 : Int32))) u18 j20 ((sI (wI σ u14 j16 ((sI σ u14 j15) - (1 : Int32))) u18 j19) + ((sI σ u8 j9) + (sI σ u11 j12)))) this 57) + ((sI σ u8 j9) + (sI σ u11 j12)))) u22 j24 ((sI (wI (wI (wI σ u14 j16 ((sI σ u14 j15) - (1 : Int32))) u18 j20 ((sI (wI σ u14 j16 ((sI σ u14 j15) - (1 : Int32))) u18 j19) + ((sI σ u8 j9) + (sI σ u11 j12)))) this 57 ((sI (wI (wI σ u14 j16 ((sI σ u14 j15) - (1 : Int32))) u18 j20 ((sI (wI σ u14 j16 ((sI σ u14 j15) - (1 : Int32))) u18 j19) + ((sI σ u8 j9) + (sI σ u11 j12)))) this 57) + ((sI σ u8 j9) + (sI σ u11 j12)))) u22 j23) + (1 : Int32))) u32 j33)) = nI j46 ∧ j46 < aln u45 ∧ (((3 : Int32) ≤ (sI (wI (wI (wI (wI (wI σ u14 j16 ((sI σ u14 j15) - (1 : Int32))) u18 j20 ((sI (wI σ u14 j16 ((sI σ u14 j15) - (1 : Int32))) u18 j19) + ((sI σ u8 j9) + (sI σ u11 j12)))) this 57 ((sI (wI (wI σ u14 j16 ((sI σ u14 j15) - (1 : Int32))) u18 j20 ((sI (wI σ u14 j16 ((sI σ u14 j15) - (1 : Int32))) u18 j19) + ((sI σ u8 j9) + (sI σ u11 j12)))) this 57) + ((sI σ u8 j9) + (sI σ u11 j12)))) u22 j24 ((sI (wI (wI (wI σ u14 j16 ((sI σ u14 j15) - (1 : Int32))) u18 j20 ((sI (wI σ u14 j16 ((sI σ u14 j15) - (1 : Int32))) u18 j19) + ((sI σ u8 j9) + (sI σ u11 j12)))) this 57 ((sI (wI (wI σ u14 j16 ((sI σ u14 j15) - (1 : Int32))) u18 j20 ((sI (wI σ u14 j16 ((sI σ u14 j15) - (1 : Int32))) u18 j19) + ((sI σ u8 j9) + (sI σ u11 j12)))) this 57) + ((sI σ u8 j9) + (sI σ u11 j12)))) u22 j23) + (1 : Int32))) u35 j37 ((sI (wI (wI (wI (wI σ u14 j16 ((sI σ u14 j15) - (1 : Int32))) u18 j20 ((sI (wI σ u14 j16 ((sI σ u14 j15) - (1 : Int32))) u18 j19) + ((sI σ u8 j9) + (sI σ u11 j12)))) this 57 ((sI (wI (wI σ u14 j16 ((sI σ u14 j15) - (1 : Int32))) u18 j20 ((sI (wI σ u14 j16 ((sI σ u14 j15) - (1 : Int32))) u18 j19) + ((sI σ u8 j9) + (sI σ u11 j12)))) this 57) + ((sI σ u8 j9) + (sI σ u11 j12)))) u22 j24 ((sI (wI (wI (wI σ u14 j16 ((sI σ u14 j15) - (1 : Int32))) u18 j20 ((sI (wI σ u14 j16 ((sI σ u14 j15) - (1 : Int32))) u18 j19) + ((sI σ u8 j9) + (sI σ u11 j12)))) this 57 ((sI (wI (wI σ u14 j16 ((sI σ u14 j15) - (1 : Int32))) u18 j20 ((sI (wI σ u14 j16 ((sI σ u14 j15) - (1 : Int32))) u18 j19) + ((sI σ u8 j9) + (sI σ u11 j12)))) this 57) + ((sI σ u8 j9) + (sI σ u11 j12)))) u22 j23) + (1 : Int32))) u35 j36) + (1 : Int32))) u45 j46) → (wp_X10_workOn_144 this (((4 : Int32) * (sI σ u5 j6)) + (sI (wI (wI (wI (wI σ u14 j16 ((sI σ u14 j15) - (1 : Int32))) u18 j20 ((sI (wI σ u14 j16 ((sI σ u14 j15) - (1 : Int32))) u18 j19) + ((sI σ u8 j9) + (sI σ u11 j12)))) this 57 ((sI (wI (wI σ u14 j16 ((sI σ u14 j15) - (1 : Int32))) u18 j20 ((sI (wI σ u14 j16 ((sI σ u14 j15) - (1 : Int32))) u18 j19) + ((sI σ u8 j9) + (sI σ u11 j12)))) this 57) + ((sI σ u8 j9) + (sI σ u11 j12)))) u22 j24 ((sI (wI (wI (wI σ u14 j16 ((sI σ u14 j15) - (1 : Int32))) u18 j20 ((sI (wI σ u14 j16 ((sI σ u14 j15) - (1 : Int32))) u18 j19) + ((sI σ u8 j9) + (sI σ u11 j12)))) this 57 ((sI (wI (wI σ u14 j16 ((sI σ u14 j15) - (1 : Int32))) u18 j20 ((sI (wI σ u14 j16 ((sI σ u14 j15) - (1 : Int32))) u18 j19) + ((sI σ u8 j9) + (sI σ u11 j12)))) this 57) + ((sI σ u8 j9) + (sI σ u11 j12)))) u22 j23) + (1 : Int32))) u32 j33)) u42 (((4 : Int32) * (sI σ u5 j6)) + (sI (wI (wI (wI (wI σ u14 j16 ((sI σ u14 j15) - (1 : Int32))) u18 j20 ((sI (wI σ u14 j16 ((sI σ u14 j15) - (1 : Int32))) u18 j19) + ((sI σ u8 j9) + (sI σ u11 j12)))) this 57 ((sI (wI (wI σ u14 j16 ((sI σ u14 j15) - (1 : Int32))) u18 j20 ((sI (wI σ u14 j16 ((sI σ u14 j15) - (1 : Int32))) u18 j19) + ((sI σ u8 j9) + (sI σ u11 j12)))) this 57) + ((sI σ u8 j9) + (sI σ u11 j12)))) u22 j24 ((sI (wI (wI (wI σ u14 j16 ((sI σ u14 j15) - (1 : Int32))) u18 j20 ((sI (wI σ u14 j16 ((sI σ u14 j15) - (1 : Int32))) u18 j19) + ((sI σ u8 j9) + (sI σ u11 j12)))) this 57 ((sI (wI (wI σ u14 j16 ((sI σ u14 j15) - (1 : Int32))) u18 j20 ((sI (wI σ u14 j16 ((sI σ u14 j15) - (1 : Int32))) u18 j19) + ((sI σ u8 j9) + (sI σ u11 j12)))) this 57) + ((sI σ u8 j9) + (sI σ u11 j12)))) u22 j23) + (1 : Int32))) u32 j33)) (sI (wI (wI (wI (wI (wI σ u14 j16 ((sI σ u14 j15) - (1 : Int32))) u18 j20 ((sI (wI σ u14 j16 ((sI σ u14 j15) - (1 : Int32))) u18 j19) + ((sI σ u8 j9) + (sI σ u11 j12)))) this 57 ((sI (wI (wI σ u14 j16 ((sI σ u14 j15) - (1 : Int32))) u18 j20 ((sI (wI σ u14 j16 ((sI σ u14 j15) - (1 : Int32))) u18 j19) + ((sI σ u8 j9) + (sI σ u11 j12)))) this 57) + ((sI σ u8 j9) + (sI σ u11 j12)))) u22 j24 ((sI (wI (wI (wI σ u14 j16 ((sI σ u14 j15) - (1 : Int32))) u18 j20 ((sI (wI σ u14 j16 ((sI σ u14 j15) - (1 : Int32))) u18 j19) + ((sI σ u8 j9) + (sI σ u11 j12)))) this 57 ((sI (wI (wI σ u14 j16 ((sI σ u14 j15) - (1 : Int32))) u18 j20 ((sI (wI σ u14 j16 ((sI σ u14 j15) - (1 : Int32))) u18 j19) + ((sI σ u8 j9) + (sI σ u11 j12)))) this 57) + ((sI σ u8 j9) + (sI σ u11 j12)))) u22 j23) + (1 : Int32))) u35 j37 ((sI (wI (wI (wI (wI σ u14 j16 ((sI σ u14 j15) - (1 : Int32))) u18 j20 ((sI (wI σ u14 j16 ((sI σ u14 j15) - (1 : Int32))) u18 j19) + ((sI σ u8 j9) + (sI σ u11 j12)))) this 57 ((sI (wI (wI σ u14 j16 ((sI σ u14 j15) - (1 : Int32))) u18 j20 ((sI (wI σ u14 j16 ((sI σ u14 j15) - (1 : Int32))) u18 j19) + ((sI σ u8 j9) + (sI σ u11 j12)))) this 57) + ((sI σ u8 j9) + (sI σ u11 j12)))) u22 j24 ((sI (wI (wI (wI σ u14 j16 ((sI σ u14 j15) - (1 : Int32))) u18 j20 ((sI (wI σ u14 j16 ((sI σ u14 j15) - (1 : Int32))) u18 j19) + ((sI σ u8 j9) + (sI σ u11 j12)))) this 57 ((sI (wI (wI σ u14 j16 ((sI σ u14 j15) - (1 : Int32))) u18 j20 ((sI (wI σ u14 j16 ((sI σ u14 j15) - (1 : Int32))) u18 j19) + ((sI σ u8 j9) + (sI σ u11 j12)))) this 57) + ((sI σ u8 j9) + (sI σ u11 j12)))) u22 j23) + (1 : Int32))) u35 j36) + (1 : Int32))) u42 j43) (0 : Int32) (wI (wI (wI (wI (wI σ u14 j16 ((sI σ u14 j15) - (1 : Int32))) u18 j20 ((sI (wI σ u14 j16 ((sI σ u14 j15) - (1 : Int32))) u18 j19) + ((sI σ u8 j9) + (sI σ u11 j12)))) this 57 ((sI (wI (wI σ u14 j16 ((sI σ u14 j15) - (1 : Int32))) u18 j20 ((sI (wI σ u14 j16 ((sI σ u14 j15) - (1 : Int32))) u18 j19) + ((sI σ u8 j9) + (sI σ u11 j12)))) this 57) + ((sI σ u8 j9) + (sI σ u11 j12)))) u22 j24 ((sI (wI (wI (wI σ u14 j16 ((sI σ u14 j15) - (1 : Int32))) u18 j20 ((sI (wI σ u14 j16 ((sI σ u14 j15) - (1 : Int32))) u18 j19) + ((sI σ u8 j9) + (sI σ u11 j12)))) this 57 ((sI (wI (wI σ u14 j16 ((sI σ u14 j15) - (1 : Int32))) u18 j20 ((sI (wI σ u14 j16 ((sI σ u14 j15) - (1 : Int32))) u18 j19) + ((sI σ u8 j9) + (sI σ u11 j12)))) this 57) + ((sI σ u8 j9) + (sI σ u11 j12)))) u22 j23) + (1 : Int32))) u35 j37 ((sI (wI (wI (wI (wI σ u14 j16 ((sI σ u14 j15) - (1 : Int32))) u18 j20 ((sI (wI σ u14 j16 ((sI σ u14 j15) - (1 : Int32))) u18 j19) + ((sI σ u8 j9) + (sI σ u11 j12)))) this 57 ((sI (wI (wI σ u14 j16 ((sI σ u14 j15) - (1 : Int32))) u18 j20 ((sI (wI σ u14 j16 ((sI σ u14 j15) - (1 : Int32))) u18 j19) + ((sI σ u8 j9) + (sI σ u11 j12)))) this 57) + ((sI σ u8 j9) + (sI σ u11 j12)))) u22 j24 ((sI (wI (wI (wI σ u14 j16 ((sI σ u14 j15) - (1 : Int32))) u18 j20 ((sI (wI σ u14 j16 ((sI σ u14 j15) - (1 : Int32))) u18 j19) + ((sI σ u8 j9) + (sI σ u11 j12)))) this 57 ((sI (wI (wI σ u14 j16 ((sI σ u14 j15) - (1 : Int32))) u18 j20 ((sI (wI σ u14 j16 ((sI σ u14 j15) - (1 : Int32))) u18 j19) + ((sI σ u8 j9) + (sI σ u11 j12)))) this 57) + ((sI σ u8 j9) + (sI σ u11 j12)))) u22 j23) + (1 : Int32))) u35 j36) + (1 : Int32))) Post)) ∧ (¬ (3 : Int32) ≤ (sI (wI (wI (wI (wI (wI σ u14 j16 ((sI σ u14 j15) - (1 : Int32))) u18 j20 ((sI (wI σ u14 j16 ((sI σ u14 j15) - (1 : Int32))) u18 j19) + ((sI σ u8 j9) + (sI σ u11 j12)))) this 57 ((sI (wI (wI σ u14 j16 ((sI σ u14 j15) - (1 : Int32))) u18 j20 ((sI (wI σ u14 j16 ((sI σ u14 j15) - (1 : Int32))) u18 j19) + ((sI σ u8 j9) + (sI σ u11 j12)))) this 57) + ((sI σ u8 j9) + (sI σ u11 j12)))) u22 j24 ((sI (wI (wI (wI σ u14 j16 ((sI σ u14 j15) - (1 : Int32))) u18 j20 ((sI (wI σ u14 j16 ((sI σ u14 j15) - (1 : Int32))) u18 j19) + ((sI σ u8 j9) + (sI σ u11 j12)))) this 57 ((sI (wI (wI σ u14 j16 ((sI σ u14 j15) - (1 : Int32))) u18 j20 ((sI (wI σ u14 j16 ((sI σ u14 j15) - (1 : Int32))) u18 j19) + ((sI σ u8 j9) + (sI σ u11 j12)))) this 57) + ((sI σ u8 j9) + (sI σ u11 j12)))) u22 j23) + (1 : Int32))) u35 j37 ((sI (wI (wI (wI (wI σ u14 j16 ((sI σ u14 j15) - (1 : Int32))) u18 j20 ((sI (wI σ u14 j16 ((sI σ u14 j15) - (1 : Int32))) u18 j19) + ((sI σ u8 j9) + (sI σ u11 j12)))) this 57 ((sI (wI (wI σ u14 j16 ((sI σ u14 j15) - (1 : Int32))) u18 j20 ((sI (wI σ u14 j16 ((sI σ u14 j15) - (1 : Int32))) u18 j19) + ((sI σ u8 j9) + (sI σ u11 j12)))) this 57) + ((sI σ u8 j9) + (sI σ u11 j12)))) u22 j24 ((sI (wI (wI (wI σ u14 j16 ((sI σ u14 j15) - (1 : Int32))) u18 j20 ((sI (wI σ u14 j16 ((sI σ u14 j15) - (1 : Int32))) u18 j19) + ((sI σ u8 j9) + (sI σ u11 j12)))) this 57 ((sI (wI (wI σ u14 j16 ((sI σ u14 j15) - (1 : Int32))) u18 j20 ((sI (wI σ u14 j16 ((sI σ u14 j15) - (1 : Int32))) u18 j19) + ((sI σ u8 j9) + (sI σ u11 j12)))) this 57) + ((sI σ u8 j9) + (sI σ u11 j12)))) u22 j23) + (1 : Int32))) u35 j36) + (1 : Int32))) u45 j46) → (wp_X10_workOn_144 this (((4 : Int32) * (sI σ u5 j6)) + (sI (wI (wI (wI (wI σ u14 j16 ((sI σ u14 j15) - (1 : Int32))) u18 j20 ((sI (wI σ u14 j16 ((sI σ u14 j15) - (1 : Int32))) u18 j19) + ((sI σ u8 j9) + (sI σ u11 j12)))) this 57 ((sI (wI (wI σ u14 j16 ((sI σ u14 j15) - (1 : Int32))) u18 j20 ((sI (wI σ u14 j16 ((sI σ u14 j15) - (1 : Int32))) u18 j19) + ((sI σ u8 j9) + (sI σ u11 j12)))) this 57) + ((sI σ u8 j9) + (sI σ u11 j12)))) u22 j24 ((sI (wI (wI (wI σ u14 j16 ((sI σ u14 j15) - (1 : Int32))) u18 j20 ((sI (wI σ u14 j16 ((sI σ u14 j15) - (1 : Int32))) u18 j19) + ((sI σ u8 j9) + (sI σ u11 j12)))) this 57 ((sI (wI (wI σ u14 j16 ((sI σ u14 j15) - (1 : Int32))) u18 j20 ((sI (wI σ u14 j16 ((sI σ u14 j15) - (1 : Int32))) u18 j19) + ((sI σ u8 j9) + (sI σ u11 j12)))) this 57) + ((sI σ u8 j9) + (sI σ u11 j12)))) u22 j23) + (1 : Int32))) u32 j33)) u42 (((4 : Int32) * (sI σ u5 j6)) + (sI (wI (wI (wI (wI σ u14 j16 ((sI σ u14 j15) - (1 : Int32))) u18 j20 ((sI (wI σ u14 j16 ((sI σ u14 j15) - (1 : Int32))) u18 j19) + ((sI σ u8 j9) + (sI σ u11 j12)))) this 57 ((sI (wI (wI σ u14 j16 ((sI σ u14 j15) - (1 : Int32))) u18 j20 ((sI (wI σ u14 j16 ((sI σ u14 j15) - (1 : Int32))) u18 j19) + ((sI σ u8 j9) + (sI σ u11 j12)))) this 57) + ((sI σ u8 j9) + (sI σ u11 j12)))) u22 j24 ((sI (wI (wI (wI σ u14 j16 ((sI σ u14 j15) - (1 : Int32))) u18 j20 ((sI (wI σ u14 j16 ((sI σ u14 j15) - (1 : Int32))) u18 j19) + ((sI σ u8 j9) + (sI σ u11 j12)))) this 57 ((sI (wI (wI σ u14 j16 ((sI σ u14 j15) - (1 : Int32))) u18 j20 ((sI (wI σ u14 j16 ((sI σ u14 j15) - (1 : Int32))) u18 j19) + ((sI σ u8 j9) + (sI σ u11 j12)))) this 57) + ((sI σ u8 j9) + (sI σ u11 j12)))) u22 j23) + (1 : Int32))) u32 j33)) (sI (wI (wI (wI (wI (wI σ u14 j16 ((sI σ u14 j15) - (1 : Int32))) u18 j20 ((sI (wI σ u14 j16 ((sI σ u14 j15) - (1 : Int32))) u18 j19) + ((sI σ u8 j9) + (sI σ u11 j12)))) this 57 ((sI (wI (wI σ u14 j16 ((sI σ u14 j15) - (1 : Int32))) u18 j20 ((sI (wI σ u14 j16 ((sI σ u14 j15) - (1 : Int32))) u18 j19) + ((sI σ u8 j9) + (sI σ u11 j12)))) this 57) + ((sI σ u8 j9) + (sI σ u11 j12)))) u22 j24 ((sI (wI (wI (wI σ u14 j16 ((sI σ u14 j15) - (1 : Int32))) u18 j20 ((sI (wI σ u14 j16 ((sI σ u14 j15) - (1 : Int32))) u18 j19) + ((sI σ u8 j9) + (sI σ u11 j12)))) this 57 ((sI (wI (wI σ u14 j16 ((sI σ u14 j15) - (1 : Int32))) u18 j20 ((sI (wI σ u14 j16 ((sI σ u14 j15) - (1 : Int32))) u18 j19) + ((sI σ u8 j9) + (sI σ u11 j12)))) this 57) + ((sI σ u8 j9) + (sI σ u11 j12)))) u22 j23) + (1 : Int32))) u35 j37 ((sI (wI (wI (wI (wI σ u14 j16 ((sI σ u14 j15) - (1 : Int32))) u18 j20 ((sI (wI σ u14 j16 ((sI σ u14 j15) - (1 : Int32))) u18 j19) + ((sI σ u8 j9) + (sI σ u11 j12)))) this 57 ((sI (wI (wI σ u14 j16 ((sI σ u14 j15) - (1 : Int32))) u18 j20 ((sI (wI σ u14 j16 ((sI σ u14 j15) - (1 : Int32))) u18 j19) + ((sI σ u8 j9) + (sI σ u11 j12)))) this 57) + ((sI σ u8 j9) + (sI σ u11 j12)))) u22 j24 ((sI (wI (wI (wI σ u14 j16 ((sI σ u14 j15) - (1 : Int32))) u18 j20 ((sI (wI σ u14 j16 ((sI σ u14 j15) - (1 : Int32))) u18 j19) + ((sI σ u8 j9) + (sI σ u11 j12)))) this 57 ((sI (wI (wI σ u14 j16 ((sI σ u14 j15) - (1 : Int32))) u18 j20 ((sI (wI σ u14 j16 ((sI σ u14 j15) - (1 : Int32))) u18 j19) + ((sI σ u8 j9) + (sI σ u11 j12)))) this 57) + ((sI σ u8 j9) + (sI σ u11 j12)))) u22 j23) + (1 : Int32))) u35 j36) + (1 : Int32))) u42 j43) (1 : Int32) (wI (wI (wI (wI (wI σ u14 j16 ((sI σ u14 j15) - (1 : Int32))) u18 j20 ((sI (wI σ u14 j16 ((sI σ u14 j15) - (1 : Int32))) u18 j19) + ((sI σ u8 j9) + (sI σ u11 j12)))) this 57 ((sI (wI (wI σ u14 j16 ((sI σ u14 j15) - (1 : Int32))) u18 j20 ((sI (wI σ u14 j16 ((sI σ u14 j15) - (1 : Int32))) u18 j19) + ((sI σ u8 j9) + (sI σ u11 j12)))) this 57) + ((sI σ u8 j9) + (sI σ u11 j12)))) u22 j24 ((sI (wI (wI (wI σ u14 j16 ((sI σ u14 j15) - (1 : Int32))) u18 j20 ((sI (wI σ u14 j16 ((sI σ u14 j15) - (1 : Int32))) u18 j19) + ((sI σ u8 j9) + (sI σ u11 j12)))) this 57 ((sI (wI (wI σ u14 j16 ((sI σ u14 j15) - (1 : Int32))) u18 j20 ((sI (wI σ u14 j16 ((sI σ u14 j15) - (1 : Int32))) u18 j19) + ((sI σ u8 j9) + (sI σ u11 j12)))) this 57) + ((sI σ u8 j9) + (sI σ u11 j12)))) u22 j23) + (1 : Int32))) u35 j37 ((sI (wI (wI (wI (wI σ u14 j16 ((sI σ u14 j15) - (1 : Int32))) u18 j20 ((sI (wI σ u14 j16 ((sI σ u14 j15) - (1 : Int32))) u18 j19) + ((sI σ u8 j9) + (sI σ u11 j12)))) this 57 ((sI (wI (wI σ u14 j16 ((sI σ u14 j15) - (1 : Int32))) u18 j20 ((sI (wI σ u14 j16 ((sI σ u14 j15) - (1 : Int32))) u18 j19) + ((sI σ u8 j9) + (sI σ u11 j12)))) this 57) + ((sI σ u8 j9) + (sI σ u11 j12)))) u22 j24 ((sI (wI (wI (wI σ u14 j16 ((sI σ u14 j15) - (1 : Int32))) u18 j20 ((sI (wI σ u14 j16 ((sI σ u14 j15) - (1 : Int32))) u18 j19) + ((sI σ u8 j9) + (sI σ u11 j12)))) this 57 ((sI (wI (wI σ u14 j16 ((sI σ u14 j15) - (1 : Int32))) u18 j20 ((sI (wI σ u14 j16 ((sI σ u14 j15) - (1 : Int32))) u18 j19) + ((sI σ u8 j9) + (sI σ u11 j12)))) this 57) + ((sI σ u8 j9) + (sI σ u11 j12)))) u22 j23) + (1 : Int32))) u35 j36) + (1 : Int32))) Post)))))
set_option maxRecDepth 100000 in
set_option maxHeartbeats 4000000 in
theorem ct_X10_workOn {l : Launch} (hl : l.stackTraces = false) {this : Nat} {a0 : Int32} {σ : Sg} {Post : Rs → Sg → Prop} (h : wp_X10_workOn this a0 σ Post) : Ct l yX10_workOn (.code yX10_workOn cX10_workOn 6 none) 0 0 0 0 [.ref this, .int a0] σ Post := by
  refine Ct_of [some (.ref this), some (.int a0), none, none, none, none] hl (by decide +kernel) rfl (fun ad => by rfl) (fun ad => by exact Nat.le_of_ble_eq_true rfl) (fun v hv => mem_lo hv rfl) ?_
  intro G hG
  unfold wp_X10_workOn at h
  refine V_aload_n (v := .ref this) hG dX10_workOn_0 rfl rfl ?_
  obtain ⟨ht, h⟩ := h
  refine V_getPv hG dX10_workOn_1 fl_X10_108 rfl ht (fun o1 ho => ?_)
  replace h := h o1 ho
  refine V_iload_n hG dX10_workOn_4 rfl ?_
  obtain ⟨u2, he, h⟩ := h
  subst he
  obtain ⟨ha, j3, hi, hj, h⟩ := h
  refine V_iald hG dX10_workOn_5 ha hi hj ?_
  refine V_istore_n hG dX10_workOn_6 (Nat.le_of_ble_eq_true rfl) (hpV rfl rfl) ?_
  refine V_aload_n (v := .ref this) hG dX10_workOn_7 rfl rfl ?_
  obtain ⟨ht, h⟩ := h
  refine V_getPv hG dX10_workOn_8 fl_X10_114 rfl ht (fun o4 ho => ?_)
  replace h := h o4 ho
  refine V_iload_n hG dX10_workOn_11 rfl ?_
  obtain ⟨u5, he, h⟩ := h
  subst he
  obtain ⟨ha, j6, hi, hj, h⟩ := h
  refine V_iald hG dX10_workOn_12 ha hi hj ?_
  refine V_istore_n hG dX10_workOn_13 (Nat.le_of_ble_eq_true rfl) (hpV rfl rfl) ?_
  refine V_aload_n (v := .ref this) hG dX10_workOn_14 rfl rfl ?_
  obtain ⟨ht, h⟩ := h
  refine V_getPv hG dX10_workOn_15 fl_X10_96 rfl ht (fun o7 ho => ?_)
  replace h := h o7 ho
  refine V_iload_n hG dX10_workOn_18 rfl ?_
  obtain ⟨u8, he, h⟩ := h
  subst he
  obtain ⟨ha, j9, hi, hj, h⟩ := h
  refine V_iald hG dX10_workOn_19 ha hi hj ?_
  refine V_aload_n (v := .ref this) hG dX10_workOn_20 rfl rfl ?_
  obtain ⟨ht, h⟩ := h
  refine V_getPv hG dX10_workOn_21 fl_X10_129 rfl ht (fun o10 ho => ?_)
  replace h := h o10 ho
  refine V_iload_n hG dX10_workOn_24 rfl ?_
  obtain ⟨u11, he, h⟩ := h
  subst he
  obtain ⟨ha, j12, hi, hj, h⟩ := h
  refine V_iald hG dX10_workOn_25 ha hi hj ?_
  refine V_iadd hG dX10_workOn_26 ?_
  refine V_istore hG dX10_workOn_27 (Nat.le_of_ble_eq_true rfl) (hpV rfl rfl) ?_
  refine V_aload_n (v := .ref this) hG dX10_workOn_29 rfl rfl ?_
  obtain ⟨ht, h⟩ := h
  refine V_getPv hG dX10_workOn_30 fl_X10_111 rfl ht (fun o13 ho => ?_)
  replace h := h o13 ho
  refine V_iload_n hG dX10_workOn_33 rfl ?_
  refine V_dup2 hG rfl (cat_rf _) dX10_workOn_34 ?_
  obtain ⟨u14, he, h⟩ := h
  subst he
  obtain ⟨ha, j15, hi, hj, h⟩ := h
  refine V_iald hG dX10_workOn_35 ha hi hj ?_
  refine V_iconst (v := 1) hG (by decide) dX10_workOn_36 ?_
  refine V_isub hG dX10_workOn_37 ?_
  obtain ⟨ha, j16, hi, hj, h⟩ := h
  refine V_iast hG dX10_workOn_38 ha hi hj ?_
  refine V_aload_n (v := .ref this) hG dX10_workOn_39 rfl rfl ?_
  obtain ⟨ht, h⟩ := h
  refine V_getPv hG dX10_workOn_40 fl_X10_59 rfl ht (fun o17 ho => ?_)
  replace h := h o17 ho
  refine V_iload_n hG dX10_workOn_43 rfl ?_
  refine V_dup2 hG rfl (cat_rf _) dX10_workOn_44 ?_
  obtain ⟨u18, he, h⟩ := h
  subst he
  obtain ⟨ha, j19, hi, hj, h⟩ := h
  refine V_iald hG dX10_workOn_45 ha hi hj ?_
  refine V_iload hG dX10_workOn_46 rfl ?_
  refine V_iadd hG dX10_workOn_48 ?_
  obtain ⟨ha, j20, hi, hj, h⟩ := h
  refine V_iast hG dX10_workOn_49 ha hi hj ?_
  refine V_aload_n (v := .ref this) hG dX10_workOn_50 rfl rfl ?_
  refine V_dup (v := .ref this) hG rfl dX10_workOn_51 ?_
  obtain ⟨ht, h⟩ := h
  refine V_getI hG dX10_workOn_52 fl_X10_258 rfl ht ?_
  refine V_iload hG dX10_workOn_55 rfl ?_
  refine V_iadd hG dX10_workOn_57 ?_
  obtain ⟨ht, h⟩ := h
  refine V_putI hG dX10_workOn_58 fl_X10_258 rfl (fun e => absurd e (by decide)) rfl ht ?_
  refine V_aload_n (v := .ref this) hG dX10_workOn_61 rfl rfl ?_
  obtain ⟨ht, h⟩ := h
  refine V_getPv hG dX10_workOn_62 fl_X10_117 rfl ht (fun o21 ho => ?_)
  replace h := h o21 ho
  refine V_iload_n hG dX10_workOn_65 rfl ?_
  refine V_dup2 hG rfl (cat_rf _) dX10_workOn_66 ?_
  obtain ⟨u22, he, h⟩ := h
  subst he
  obtain ⟨ha, j23, hi, hj, h⟩ := h
  refine V_iald hG dX10_workOn_67 ha hi hj ?_
  refine V_iconst (v := 1) hG (by decide) dX10_workOn_68 ?_
  refine V_iadd hG dX10_workOn_69 ?_
  obtain ⟨ha, j24, hi, hj, h⟩ := h
  refine V_iast hG dX10_workOn_70 ha hi hj ?_
  refine V_iconst (v := 4) hG (by decide) dX10_workOn_71 ?_
  refine V_iload_n hG dX10_workOn_72 rfl ?_
  refine V_imul hG dX10_workOn_73 ?_
  refine V_aload_n (v := .ref this) hG dX10_workOn_74 rfl rfl ?_
  obtain ⟨ht, h⟩ := h
  refine V_getPv hG dX10_workOn_75 fl_X10_37 rfl ht (fun o25 ho => ?_)
  replace h := h o25 ho
  refine V_iconst (v := 4) hG (by decide) dX10_workOn_78 ?_
  refine V_aload_n (v := .ref this) hG dX10_workOn_79 rfl rfl ?_
  obtain ⟨ht, h⟩ := h
  refine V_getPv hG dX10_workOn_80 fl_X10_53 rfl ht (fun o26 ho => ?_)
  replace h := h o26 ho
  refine V_iload_n hG dX10_workOn_83 rfl ?_
  obtain ⟨u27, he, h⟩ := h
  subst he
  obtain ⟨ha, j28, hi, hj, h⟩ := h
  refine V_iald hG dX10_workOn_84 ha hi hj ?_
  refine V_imul hG dX10_workOn_85 ?_
  refine V_aload_n (v := .ref this) hG dX10_workOn_86 rfl rfl ?_
  obtain ⟨ht, h⟩ := h
  refine V_getPv hG dX10_workOn_87 fl_X10_65 rfl ht (fun o29 ho => ?_)
  replace h := h o29 ho
  refine V_iload_n hG dX10_workOn_90 rfl ?_
  obtain ⟨u30, he, h⟩ := h
  subst he
  obtain ⟨ha, j31, hi, hj, h⟩ := h
  refine V_iald hG dX10_workOn_91 ha hi hj ?_
  refine V_iadd hG dX10_workOn_92 ?_
  obtain ⟨u32, he, h⟩ := h
  subst he
  obtain ⟨ha, j33, hi, hj, h⟩ := h
  refine V_iald hG dX10_workOn_93 ha hi hj ?_
  refine V_iadd hG dX10_workOn_94 ?_
  refine V_istore hG dX10_workOn_95 (Nat.le_of_ble_eq_true rfl) (hpV rfl rfl) ?_
  refine V_aload_n (v := .ref this) hG dX10_workOn_97 rfl rfl ?_
  obtain ⟨ht, h⟩ := h
  refine V_getPv hG dX10_workOn_98 fl_X10_141 rfl ht (fun o34 ho => ?_)
  replace h := h o34 ho
  refine V_iload hG dX10_workOn_101 rfl ?_
  refine V_dup2 hG rfl (cat_rf _) dX10_workOn_103 ?_
  obtain ⟨u35, he, h⟩ := h
  subst he
  obtain ⟨ha, j36, hi, hj, h⟩ := h
  refine V_iald hG dX10_workOn_104 ha hi hj ?_
  refine V_iconst (v := 1) hG (by decide) dX10_workOn_105 ?_
  refine V_iadd hG dX10_workOn_106 ?_
  obtain ⟨ha, j37, hi, hj, h⟩ := h
  refine V_iast hG dX10_workOn_107 ha hi hj ?_
  refine V_aload_n (v := .ref this) hG dX10_workOn_108 rfl rfl ?_
  obtain ⟨ht, h⟩ := h
  refine V_getPv hG dX10_workOn_109 fl_X10_141 rfl ht (fun o38 ho => ?_)
  replace h := h o38 ho
  refine V_iload hG dX10_workOn_112 rfl ?_
  obtain ⟨u39, he, h⟩ := h
  subst he
  obtain ⟨ha, j40, hi, hj, h⟩ := h
  refine V_iald hG dX10_workOn_114 ha hi hj ?_
  refine V_bipush (v := 8) hG (by decide) dX10_workOn_115 ?_
  refine V_icmp_ne (tgt := 154) hG dX10_workOn_117 (by decide) (fun c => ?_) (fun c => ?_)
  · replace h := h.1 c
    exact V_vret hG dX10_workOn_154 (by first | exact Nat.le_of_ble_eq_true rfl | omega | (dsimp only; omega)) (by first | exact Nat.le_of_ble_eq_true rfl | omega | (dsimp only; omega)) h
  · replace h := h.2 c
    refine V_aload_n (v := .ref this) hG dX10_workOn_120 rfl rfl ?_
    obtain ⟨ht, h⟩ := h
    refine V_getPv hG dX10_workOn_121 fl_X10_138 rfl ht (fun o41 ho => ?_)
    replace h := h o41 ho
    refine V_iload hG dX10_workOn_124 rfl ?_
    refine V_dup2 hG rfl (cat_rf _) dX10_workOn_126 ?_
    obtain ⟨u42, he, h⟩ := h
    subst he
    obtain ⟨ha, j43, hi, hj, h⟩ := h
    refine V_iald hG dX10_workOn_127 ha hi hj ?_
    refine V_aload_n (v := .ref this) hG dX10_workOn_128 rfl rfl ?_
    obtain ⟨ht, h⟩ := h
    refine V_getPv hG dX10_workOn_129 fl_X10_138 rfl ht (fun o44 ho => ?_)
    replace h := h o44 ho
    refine V_iload hG dX10_workOn_132 rfl ?_
    obtain ⟨u45, he, h⟩ := h
    subst he
    obtain ⟨ha, j46, hi, hj, h⟩ := h
    refine V_iald hG dX10_workOn_134 ha hi hj ?_
    refine V_iconst (v := 3) hG (by decide) dX10_workOn_135 ?_
    refine V_icmp_ge (tgt := 143) hG dX10_workOn_136 (by decide) (fun c => ?_) (fun c => ?_)
    · replace h := h.1 c
      refine V_iconst (v := 0) hG (by decide) dX10_workOn_143 ?_
      refine V_forget (lo' := [some (.ref this), none, none, none, none, some (.int (((4 : Int32) * (sI σ u5 j6)) + (sI (wI (wI (wI (wI σ u14 j16 ((sI σ u14 j15) - (1 : Int32))) u18 j20 ((sI (wI σ u14 j16 ((sI σ u14 j15) - (1 : Int32))) u18 j19) + ((sI σ u8 j9) + (sI σ u11 j12)))) this 57 ((sI (wI (wI σ u14 j16 ((sI σ u14 j15) - (1 : Int32))) u18 j20 ((sI (wI σ u14 j16 ((sI σ u14 j15) - (1 : Int32))) u18 j19) + ((sI σ u8 j9) + (sI σ u11 j12)))) this 57) + ((sI σ u8 j9) + (sI σ u11 j12)))) u22 j24 ((sI (wI (wI (wI σ u14 j16 ((sI σ u14 j15) - (1 : Int32))) u18 j20 ((sI (wI σ u14 j16 ((sI σ u14 j15) - (1 : Int32))) u18 j19) + ((sI σ u8 j9) + (sI σ u11 j12)))) this 57 ((sI (wI (wI σ u14 j16 ((sI σ u14 j15) - (1 : Int32))) u18 j20 ((sI (wI σ u14 j16 ((sI σ u14 j15) - (1 : Int32))) u18 j19) + ((sI σ u8 j9) + (sI σ u11 j12)))) this 57) + ((sI σ u8 j9) + (sI σ u11 j12)))) u22 j23) + (1 : Int32))) u32 j33)))]) ⟨rfl, ⟨rfl, trivial⟩⟩ ?_
      refine V_widen (k' := 0) (n' := 0) (by first | exact Nat.le_of_ble_eq_true rfl | omega | (dsimp only; omega)) (by first | exact Nat.le_of_ble_eq_true rfl | omega | (dsimp only; omega)) ?_
      exact wv_X10_workOn_144 hl hG  _ _ _ _ _ _ _ h
    · replace h := h.2 c
      refine V_iconst (v := 1) hG (by decide) dX10_workOn_139 ?_
      refine V_goto (tgt := 144) hG dX10_workOn_140 (by decide) ?_
      refine V_forget (lo' := [some (.ref this), none, none, none, none, some (.int (((4 : Int32) * (sI σ u5 j6)) + (sI (wI (wI (wI (wI σ u14 j16 ((sI σ u14 j15) - (1 : Int32))) u18 j20 ((sI (wI σ u14 j16 ((sI σ u14 j15) - (1 : Int32))) u18 j19) + ((sI σ u8 j9) + (sI σ u11 j12)))) this 57 ((sI (wI (wI σ u14 j16 ((sI σ u14 j15) - (1 : Int32))) u18 j20 ((sI (wI σ u14 j16 ((sI σ u14 j15) - (1 : Int32))) u18 j19) + ((sI σ u8 j9) + (sI σ u11 j12)))) this 57) + ((sI σ u8 j9) + (sI σ u11 j12)))) u22 j24 ((sI (wI (wI (wI σ u14 j16 ((sI σ u14 j15) - (1 : Int32))) u18 j20 ((sI (wI σ u14 j16 ((sI σ u14 j15) - (1 : Int32))) u18 j19) + ((sI σ u8 j9) + (sI σ u11 j12)))) this 57 ((sI (wI (wI σ u14 j16 ((sI σ u14 j15) - (1 : Int32))) u18 j20 ((sI (wI σ u14 j16 ((sI σ u14 j15) - (1 : Int32))) u18 j19) + ((sI σ u8 j9) + (sI σ u11 j12)))) this 57) + ((sI σ u8 j9) + (sI σ u11 j12)))) u22 j23) + (1 : Int32))) u32 j33)))]) ⟨rfl, ⟨rfl, trivial⟩⟩ ?_
      refine V_widen (k' := 0) (n' := 0) (by first | exact Nat.le_of_ble_eq_true rfl | omega | (dsimp only; omega)) (by first | exact Nat.le_of_ble_eq_true rfl | omega | (dsimp only; omega)) ?_
      exact wv_X10_workOn_144 hl hG  _ _ _ _ _ _ _ h
def wp_X10_found_69 (K33 : Nat → Int32 → Int32 → Int32 → Int32 → Sg → Prop) (this : Nat) (v1 : Int32) (v2 : Int32) (v3 : Int32) (v4 : Int32) (σ : Sg) (Post : Rs → Sg → Prop) : Prop := (K33 this v1 v2 v3 (v4 + 1) σ)
set_option maxRecDepth 100000 in
set_option maxHeartbeats 4000000 in
theorem wv_X10_found_69 {L9 : Launch} {G : Cx} {Post : Rs → Sg → Prop} (hl : L9.stackTraces = false) (hG : CX L9 G yX10_found cX10_found 5 (some .int) [] { frames := 0, cells := 0, slots := 0, locals := 0 }) {K33 : Nat → Int32 → Int32 → Int32 → Int32 → Sg → Prop} (hK33 : ∀ (this : Nat) (v1 : Int32) (v2 : Int32) (v3 : Int32) (v4 : Int32) (ζ : Sg), K33 this v1 v2 v3 v4 ζ → V G (QM G 0 0 Post) 33 [some (.ref this), some (.int v1), some (.int v2), some (.int v3), some (.int v4)] [] ζ 0 0) : ∀ (this : Nat) (v1 : Int32) (v2 : Int32) (v3 : Int32) (v4 : Int32) (σ : Sg), wp_X10_found_69 K33 this v1 v2 v3 v4 σ Post → V G (QM G 0 0 Post) 69 [some (.ref this), some (.int v1), some (.int v2), some (.int v3), some (.int v4)] [] σ 0 0 := by
  intro this v1 v2 v3 v4 σ h
  unfold wp_X10_found_69 at h
  refine V_iincv (c := 1) hG dX10_found_69 rfl (by decide) (hpV rfl rfl) ?_
  refine V_goto (tgt := 33) hG dX10_found_72 (by decide) ?_
  refine V_forget (lo' := [some (.ref this), some (.int v1), some (.int v2), some (.int v3), some (.int (v4 + 1))]) ⟨rfl, ⟨rfl, ⟨rfl, ⟨rfl, ⟨rfl, trivial⟩⟩⟩⟩⟩ ?_
  exact hK33 _ _ _ _ _ _ h
def wp_X10_found_33  : Nat → Nat → Int32 → Int32 → Int32 → Int32 → Sg → (Rs → Sg → Prop) → Prop
  | 0, _, _, _, _, _, _, _ => False
  | f + 1, this, v1, v2, v3, v4, σ, Post => ((v2 < v4 → Post (.inl (some (.int (-1 : Int32)))) σ) ∧ (¬ v2 < v4 → this % 32 = 10 ∧ ∀ o1, o1 = sP σ this 23 → ∃ u2, o1 = some u2 ∧ aty (u2 % 32) = some .int ∧ ∃ j3, v1 = nI j3 ∧ j3 < aln u2 ∧ ((¬ (((sI σ u2 j3) >>> (v4 &&& 31)) &&& (1 : Int32)) = (1 : Int32) → (wp_X10_found_69 (fun z0 z1 z2 z3 z4 ζ => wp_X10_found_33 f z0 z1 z2 z3 z4 ζ Post) this v1 v2 v3 v4 σ Post)) ∧ ((((sI σ u2 j3) >>> (v4 &&& 31)) &&& (1 : Int32)) = (1 : Int32) → ((¬ v3 = 0 → Post (.inl (some (.int v4))) σ) ∧ (v3 = 0 → ((v2 < (v4 + (2 : Int32)) → (wp_X10_found_69 (fun z0 z1 z2 z3 z4 ζ => wp_X10_found_33 f z0 z1 z2 z3 z4 ζ Post) this v1 v2 v3 v4 σ Post)) ∧ (¬ v2 < (v4 + (2 : Int32)) → Post (.inl (some (.int v4))) σ))))))))
set_option maxRecDepth 100000 in
set_option maxHeartbeats 4000000 in
theorem wv_X10_found_33 {L9 : Launch} {G : Cx} {Post : Rs → Sg → Prop} (hl : L9.stackTraces = false) (hG : CX L9 G yX10_found cX10_found 5 (some .int) [] { frames := 0, cells := 0, slots := 0, locals := 0 })   : ∀ (f : Nat) (this : Nat) (v1 : Int32) (v2 : Int32) (v3 : Int32) (v4 : Int32) (σ : Sg), wp_X10_found_33 f this v1 v2 v3 v4 σ Post → V G (QM G 0 0 Post) 33 [some (.ref this), some (.int v1), some (.int v2), some (.int v3), some (.int v4)] [] σ 0 0 := by
  intro f
  induction f with
  | zero => intro _ _ _ _ _ σ h; exact h.elim
  | succ f ih =>
    intro this v1 v2 v3 v4 σ h
    refine V_iload hG dX10_found_33 rfl ?_
    refine V_iload_n hG dX10_found_35 rfl ?_
    refine V_icmp_gt (tgt := 75) hG dX10_found_36 (by decide) (fun c => ?_) (fun c => ?_)
    · replace h := h.1 c
      refine V_iconst (v := (-1)) hG (by decide) dX10_found_75 ?_
      exact V_iret hG dX10_found_76 (by first | exact Nat.le_of_ble_eq_true rfl | omega | (dsimp only; omega)) (by first | exact Nat.le_of_ble_eq_true rfl | omega | (dsimp only; omega)) h
    · replace h := h.2 c
      refine V_aload_n (v := .ref this) hG dX10_found_39 rfl rfl ?_
      obtain ⟨ht, h⟩ := h
      refine V_getPv hG dX10_found_40 fl_X10_77 rfl ht (fun o1 ho => ?_)
      replace h := h o1 ho
      refine V_iload_n hG dX10_found_43 rfl ?_
      obtain ⟨u2, he, h⟩ := h
      subst he
      obtain ⟨ha, j3, hi, hj, h⟩ := h
      refine V_iald hG dX10_found_44 ha hi hj ?_
      refine V_iload hG dX10_found_45 rfl ?_
      refine V_ishr hG dX10_found_47 ?_
      refine V_iconst (v := 1) hG (by decide) dX10_found_48 ?_
      refine V_iand hG dX10_found_49 ?_
      refine V_iconst (v := 1) hG (by decide) dX10_found_50 ?_
      refine V_icmp_ne (tgt := 69) hG dX10_found_51 (by decide) (fun c => ?_) (fun c => ?_)
      · replace h := h.1 c
        refine V_forget (lo' := [some (.ref this), some (.int v1), some (.int v2), some (.int v3), some (.int v4)]) ⟨rfl, ⟨rfl, ⟨rfl, ⟨rfl, ⟨rfl, trivial⟩⟩⟩⟩⟩ ?_
        refine V_widen (k' := 0) (n' := 0) (by first | exact Nat.le_of_ble_eq_true rfl | omega | (dsimp only; omega)) (by first | exact Nat.le_of_ble_eq_true rfl | omega | (dsimp only; omega)) ?_
        exact wv_X10_found_69 hl hG (fun z0 z1 z2 z3 z4 ζ hz => ih z0 z1 z2 z3 z4 ζ hz) _ _ _ _ _ _ h
      · replace h := h.2 c
        refine V_iload_n hG dX10_found_54 rfl ?_
        refine V_if_ne (tgt := 66) hG dX10_found_55 (by decide) (fun c => ?_) (fun c => ?_)
        · replace h := h.1 c
          refine V_iload hG dX10_found_66 rfl ?_
          exact V_iret hG dX10_found_68 (by first | exact Nat.le_of_ble_eq_true rfl | omega | (dsimp only; omega)) (by first | exact Nat.le_of_ble_eq_true rfl | omega | (dsimp only; omega)) h
        · replace h := h.2 c
          refine V_iload hG dX10_found_58 rfl ?_
          refine V_iconst (v := 2) hG (by decide) dX10_found_60 ?_
          refine V_iadd hG dX10_found_61 ?_
          refine V_iload_n hG dX10_found_62 rfl ?_
          refine V_icmp_gt (tgt := 69) hG dX10_found_63 (by decide) (fun c => ?_) (fun c => ?_)
          · replace h := h.1 c
            refine V_forget (lo' := [some (.ref this), some (.int v1), some (.int v2), some (.int v3), some (.int v4)]) ⟨rfl, ⟨rfl, ⟨rfl, ⟨rfl, ⟨rfl, trivial⟩⟩⟩⟩⟩ ?_
            refine V_widen (k' := 0) (n' := 0) (by first | exact Nat.le_of_ble_eq_true rfl | omega | (dsimp only; omega)) (by first | exact Nat.le_of_ble_eq_true rfl | omega | (dsimp only; omega)) ?_
            exact wv_X10_found_69 hl hG (fun z0 z1 z2 z3 z4 ζ hz => ih z0 z1 z2 z3 z4 ζ hz) _ _ _ _ _ _ h
          · replace h := h.2 c
            refine V_iload hG dX10_found_66 rfl ?_
            exact V_iret hG dX10_found_68 (by first | exact Nat.le_of_ble_eq_true rfl | omega | (dsimp only; omega)) (by first | exact Nat.le_of_ble_eq_true rfl | omega | (dsimp only; omega)) h
def wp_X10_found_29  (this : Nat) (v1 : Int32) (v2 : Int32) (s0 : Int32) (σ : Sg) (Post : Rs → Sg → Prop) : Prop := (∃ g, wp_X10_found_33 g this v1 v2 s0 (0 : Int32) σ Post)
set_option maxRecDepth 100000 in
set_option maxHeartbeats 4000000 in
theorem wv_X10_found_29 {L9 : Launch} {G : Cx} {Post : Rs → Sg → Prop} (hl : L9.stackTraces = false) (hG : CX L9 G yX10_found cX10_found 5 (some .int) [] { frames := 0, cells := 0, slots := 0, locals := 0 })   : ∀ (this : Nat) (v1 : Int32) (v2 : Int32) (s0 : Int32) (σ : Sg), wp_X10_found_29 this v1 v2 s0 σ Post → V G (QM G 0 0 Post) 29 [some (.ref this), some (.int v1), some (.int v2), none, none] [.int s0] σ 0 0 := by
  intro this v1 v2 s0 σ h
  unfold wp_X10_found_29 at h
  refine V_istore_n hG dX10_found_29 (Nat.le_of_ble_eq_true rfl) (hpV rfl rfl) ?_
  refine V_iconst (v := 0) hG (by decide) dX10_found_30 ?_
  refine V_istore hG dX10_found_31 (Nat.le_of_ble_eq_true rfl) (hpV rfl rfl) ?_
  refine V_forget (lo' := [some (.ref this), some (.int v1), some (.int v2), some (.int s0), some (.int (0 : Int32))]) ⟨rfl, ⟨rfl, ⟨rfl, ⟨rfl, ⟨rfl, trivial⟩⟩⟩⟩⟩ ?_
  obtain ⟨g, h⟩ := h
  refine V_widen (k' := 0) (n' := 0) (by first | exact Nat.le_of_ble_eq_true rfl | omega | (dsimp only; omega)) (by first | exact Nat.le_of_ble_eq_true rfl | omega | (dsimp only; omega)) ?_
  exact wv_X10_found_33 hl hG  g _ _ _ _ _ _ h
def wp_X10_found (this : Nat) (a0 : Int32) (σ : Sg) (Post : Rs → Sg → Prop) : Prop := this % 32 = 10 ∧ ∀ o1, o1 = sP σ this 19 → ∃ u2, o1 = some u2 ∧ aty (u2 % 32) = some .int ∧ ∃ j3, a0 = nI j3 ∧ j3 < aln u2 ∧ this % 32 = 10 ∧ ∀ o4, o4 = sP σ this 7 → this % 32 = 10 ∧ ∀ o5, o5 = sP σ this 15 → ∃ u6, o5 = some u6 ∧ aty (u6 % 32) = some .int ∧ ∃ j7, a0 = nI j7 ∧ j7 < aln u6 ∧ ∃ u8, o4 = some u8 ∧ aty (u8 % 32) = some .int ∧ ∃ j9, (sI σ u6 j7) = nI j9 ∧ j9 < aln u8 ∧ ((¬ (sI σ u2 j3) = ((sI σ u8 j9) - (1 : Int32)) → (wp_X10_found_29 this a0 (sI σ u2 j3) (0 : Int32) σ Post)) ∧ ((sI σ u2 j3) = ((sI σ u8 j9) - (1 : Int32)) → (wp_X10_found_29 this a0 (sI σ u2 j3) (1 : Int32) σ Post)))
set_option maxRecDepth 100000 in
set_option maxHeartbeats 4000000 in
theorem ct_X10_found {l : Launch} (hl : l.stackTraces = false) {this : Nat} {a0 : Int32} {σ : Sg} {Post : Rs → Sg → Prop} (h : wp_X10_found this a0 σ Post) : Ct l yX10_found (.code yX10_found cX10_found 5 (some .int)) 0 0 0 0 [.ref this, .int a0] σ Post := by
  refine Ct_of [some (.ref this), some (.int a0), none, none, none] hl (by decide +kernel) rfl (fun ad => by rfl) (fun ad => by exact Nat.le_of_ble_eq_true rfl) (fun v hv => mem_lo hv rfl) ?_
  intro G hG
  unfold wp_X10_found at h
  refine V_aload_n (v := .ref this) hG dX10_found_0 rfl rfl ?_
  obtain ⟨ht, h⟩ := h
  refine V_getPv hG dX10_found_1 fl_X10_65 rfl ht (fun o1 ho => ?_)
  replace h := h o1 ho
  refine V_iload_n hG dX10_found_4 rfl ?_
  obtain ⟨u2, he, h⟩ := h
  subst he
  obtain ⟨ha, j3, hi, hj, h⟩ := h
  refine V_iald hG dX10_found_5 ha hi hj ?_
  refine V_istore_n hG dX10_found_6 (Nat.le_of_ble_eq_true rfl) (hpV rfl rfl) ?_
  refine V_iload_n hG dX10_found_7 rfl ?_
  refine V_aload_n (v := .ref this) hG dX10_found_8 rfl rfl ?_
  obtain ⟨ht, h⟩ := h
  refine V_getPv hG dX10_found_9 fl_X10_31 rfl ht (fun o4 ho => ?_)
  replace h := h o4 ho
  refine V_aload_n (v := .ref this) hG dX10_found_12 rfl rfl ?_
  obtain ⟨ht, h⟩ := h
  refine V_getPv hG dX10_found_13 fl_X10_53 rfl ht (fun o5 ho => ?_)
  replace h := h o5 ho
  refine V_iload_n hG dX10_found_16 rfl ?_
  obtain ⟨u6, he, h⟩ := h
  subst he
  obtain ⟨ha, j7, hi, hj, h⟩ := h
  refine V_iald hG dX10_found_17 ha hi hj ?_
  obtain ⟨u8, he, h⟩ := h
  subst he
  obtain ⟨ha, j9, hi, hj, h⟩ := h
  refine V_iald hG dX10_found_18 ha hi hj ?_
  refine V_iconst (v := 1) hG (by decide) dX10_found_19 ?_
  refine V_isub hG dX10_found_20 ?_
  refine V_icmp_ne (tgt := 28) hG dX10_found_21 (by decide) (fun c => ?_) (fun c => ?_)
  · replace h := h.1 c
    refine V_iconst (v := 0) hG (by decide) dX10_found_28 ?_
    refine V_forget (lo' := [some (.ref this), some (.int a0), some (.int (sI σ u2 j3)), none, none]) ⟨rfl, ⟨rfl, ⟨rfl, trivial⟩⟩⟩ ?_
    refine V_widen (k' := 0) (n' := 0) (by first | exact Nat.le_of_ble_eq_true rfl | omega | (dsimp only; omega)) (by first | exact Nat.le_of_ble_eq_true rfl | omega | (dsimp only; omega)) ?_
    exact wv_X10_found_29 hl hG  _ _ _ _ _ h
  · replace h := h.2 c
    refine V_iconst (v := 1) hG (by decide) dX10_found_24 ?_
    refine V_goto (tgt := 29) hG dX10_found_25 (by decide) ?_
    refine V_forget (lo' := [some (.ref this), some (.int a0), some (.int (sI σ u2 j3)), none, none]) ⟨rfl, ⟨rfl, ⟨rfl, trivial⟩⟩⟩ ?_
    refine V_widen (k' := 0) (n' := 0) (by first | exact Nat.le_of_ble_eq_true rfl | omega | (dsimp only; omega)) (by first | exact Nat.le_of_ble_eq_true rfl | omega | (dsimp only; omega)) ?_
    exact wv_X10_found_29 hl hG  _ _ _ _ _ h
def wp_X10_finish_298  (this : Nat) (v1 : Int32) (s0 : Nat) (s1 : Int32) (s2 : Int32) (s3 : Int32) (σ : Sg) (Post : Rs → Sg → Prop) : Prop := aty (s0 % 32) = some .int ∧ ∃ j1, s1 = nI j1 ∧ j1 < aln s0 ∧ this % 32 = 10 ∧ wp_X10_leave this v1 (wI σ s0 j1 (s2 &&& s3)) (KV (fun σ2 => Post (.inl none) σ2) (fun E σ2 => Post (.inr E) σ2))
set_option maxRecDepth 100000 in
set_option maxHeartbeats 4000000 in
theorem wv_X10_finish_298 {L9 : Launch} {G : Cx} {Post : Rs → Sg → Prop} (hl : L9.stackTraces = false) (hG : CX L9 G yX10_finish cX10_finish 7 none [] { frames := 3, cells := 0, slots := 0, locals := 65 })   : ∀ (this : Nat) (v1 : Int32) (s0 : Nat) (s1 : Int32) (s2 : Int32) (s3 : Int32) (σ : Sg), wp_X10_finish_298 this v1 s0 s1 s2 s3 σ Post → V G (QM G 0 0 Post) 298 [some (.ref this), some (.int v1), none, none, none, none, none] [.int s3, .int s2, .int s1, .ref s0] σ 0 0 := by
  intro this v1 s0 s1 s2 s3 σ h
  unfold wp_X10_finish_298 at h
  refine V_iand hG dX10_finish_298 ?_
  obtain ⟨ha, j1, hi, hj, h⟩ := h
  refine V_iast hG dX10_finish_299 ha hi hj ?_
  refine V_aload_n (v := .ref this) hG dX10_finish_300 rfl rfl ?_
  refine V_iload_n hG dX10_finish_301 rfl ?_
  obtain ⟨ht, h⟩ := h
  refine V_cVV _ _ hG dX10_finish_302 (ct_X10_leave hl h) mv_X10_leave ml_X10_239 ht rfl rfl rfl rfl (by first | exact Nat.le_of_ble_eq_true rfl | (simp only [List.map_cons, List.map_nil, List.sum_cons, List.sum_nil, cat_rf]; exact Nat.le_of_ble_eq_true rfl)) (Nat.le_of_ble_eq_true rfl) (Nat.le_of_ble_eq_true rfl) (by first | exact Nat.le_of_ble_eq_true rfl | omega | (dsimp only; omega)) (by first | exact Nat.le_of_ble_eq_true rfl | omega | (dsimp only; omega)) ?_ (fun σ2 h9 => ?_)
  · exact fun E σ2 hx => VX_out hG (by first | exact Nat.le_of_ble_eq_true rfl | omega | (dsimp only; omega)) (by first | exact Nat.le_of_ble_eq_true rfl | omega | (dsimp only; omega)) hx
  · replace h := h9
    clear h9
    exact V_vret hG dX10_finish_305 (by first | exact Nat.le_of_ble_eq_true rfl | omega | (dsimp only; omega)) (by first | exact Nat.le_of_ble_eq_true rfl | omega | (dsimp only; omega)) h
def wp_X10_finish_274  (this : Nat) (v1 : Int32) (v2 : Int32) (v5 : Int32) (s0 : Option Nat) (s1 : Int32) (s2 : Int32) (σ : Sg) (Post : Rs → Sg → Prop) : Prop := ∃ u1, s0 = some u1 ∧ aty (u1 % 32) = some .boolean ∧ ∃ j2, s1 = nI j2 ∧ j2 < aln u1 ∧ b01 s2 ∧ this % 32 = 10 ∧ ∀ o3, o3 = sP (wI σ u1 j2 s2) this 23 → ∃ u4, o3 = some u4 ∧ aty (u4 % 32) = some .int ∧ ∃ j5, v2 = nI j5 ∧ j5 < aln u4 ∧ ((¬ v5 = (-1 : Int32) → (wp_X10_finish_298 this v1 u4 v2 (sI (wI σ u1 j2 s2) u4 j5) (((1 : Int32) <<< (v5 &&& 31)) - (1 : Int32)) (wI σ u1 j2 s2) Post)) ∧ (v5 = (-1 : Int32) → (wp_X10_finish_298 this v1 u4 v2 (sI (wI σ u1 j2 s2) u4 j5) (-1 : Int32) (wI σ u1 j2 s2) Post)))
set_option maxRecDepth 100000 in
set_option maxHeartbeats 4000000 in
theorem wv_X10_finish_274 {L9 : Launch} {G : Cx} {Post : Rs → Sg → Prop} (hl : L9.stackTraces = false) (hG : CX L9 G yX10_finish cX10_finish 7 none [] { frames := 3, cells := 0, slots := 0, locals := 65 })   : ∀ (this : Nat) (v1 : Int32) (v2 : Int32) (v5 : Int32) (s0 : Option Nat) (s1 : Int32) (s2 : Int32) (σ : Sg), wp_X10_finish_274 this v1 v2 v5 s0 s1 s2 σ Post → V G (QM G 0 0 Post) 274 [some (.ref this), some (.int v1), some (.int v2), none, none, some (.int v5), none] [.int s2, .int s1, va_rf s0] σ 0 0 := by
  intro this v1 v2 v5 s0 s1 s2 σ h
  unfold wp_X10_finish_274 at h
  obtain ⟨u1, he, h⟩ := h
  subst he
  obtain ⟨ha, j2, hi, hj, h⟩ := h
  obtain ⟨hb, h⟩ := h
  refine V_zast hG dX10_finish_274 ha hb hi hj ?_
  refine V_aload_n (v := .ref this) hG dX10_finish_275 rfl rfl ?_
  obtain ⟨ht, h⟩ := h
  refine V_getPv hG dX10_finish_276 fl_X10_77 rfl ht (fun o3 ho => ?_)
  replace h := h o3 ho
  refine V_iload_n hG dX10_finish_279 rfl ?_
  refine V_dup2 hG rfl (cat_rf _) dX10_finish_280 ?_
  obtain ⟨u4, he, h⟩ := h
  subst he
  obtain ⟨ha, j5, hi, hj, h⟩ := h
  refine V_iald hG dX10_finish_281 ha hi hj ?_
  refine V_iload hG dX10_finish_282 rfl ?_
  refine V_iconst (v := (-1)) hG (by decide) dX10_finish_284 ?_
  refine V_icmp_ne (tgt := 292) hG dX10_finish_285 (by decide) (fun c => ?_) (fun c => ?_)
  · replace h := h.1 c
    refine V_iconst (v := 1) hG (by decide) dX10_finish_292 ?_
    refine V_iload hG dX10_finish_293 rfl ?_
    refine V_ishl hG dX10_finish_295 ?_
    refine V_iconst (v := 1) hG (by decide) dX10_finish_296 ?_
    refine V_isub hG dX10_finish_297 ?_
    refine V_forget (lo' := [some (.ref this), some (.int v1), none, none, none, none, none]) ⟨rfl, ⟨rfl, trivial⟩⟩ ?_
    refine V_widen (k' := 0) (n' := 0) (by first | exact Nat.le_of_ble_eq_true rfl | omega | (dsimp only; omega)) (by first | exact Nat.le_of_ble_eq_true rfl | omega | (dsimp only; omega)) ?_
    exact wv_X10_finish_298 hl hG  _ _ _ _ _ _ _ h
  · replace h := h.2 c
    refine V_iconst (v := (-1)) hG (by decide) dX10_finish_288 ?_
    refine V_goto (tgt := 298) hG dX10_finish_289 (by decide) ?_
    refine V_forget (lo' := [some (.ref this), some (.int v1), none, none, none, none, none]) ⟨rfl, ⟨rfl, trivial⟩⟩ ?_
    refine V_widen (k' := 0) (n' := 0) (by first | exact Nat.le_of_ble_eq_true rfl | omega | (dsimp only; omega)) (by first | exact Nat.le_of_ble_eq_true rfl | omega | (dsimp only; omega)) ?_
    exact wv_X10_finish_298 hl hG  _ _ _ _ _ _ _ h
def wp_X10_finish_269  (this : Nat) (v1 : Int32) (v2 : Int32) (v5 : Int32) (s0 : Option Nat) (s1 : Int32) (σ : Sg) (Post : Rs → Sg → Prop) : Prop := (wp_X10_finish_274 this v1 v2 v5 s0 s1 (1 : Int32) σ Post)
set_option maxRecDepth 100000 in
set_option maxHeartbeats 4000000 in
theorem wv_X10_finish_269 {L9 : Launch} {G : Cx} {Post : Rs → Sg → Prop} (hl : L9.stackTraces = false) (hG : CX L9 G yX10_finish cX10_finish 7 none [] { frames := 3, cells := 0, slots := 0, locals := 65 })   : ∀ (this : Nat) (v1 : Int32) (v2 : Int32) (v5 : Int32) (s0 : Option Nat) (s1 : Int32) (σ : Sg), wp_X10_finish_269 this v1 v2 v5 s0 s1 σ Post → V G (QM G 0 0 Post) 269 [some (.ref this), some (.int v1), some (.int v2), none, none, some (.int v5), none] [.int s1, va_rf s0] σ 0 0 := by
  intro this v1 v2 v5 s0 s1 σ h
  unfold wp_X10_finish_269 at h
  refine V_iconst (v := 1) hG (by decide) dX10_finish_269 ?_
  refine V_goto (tgt := 274) hG dX10_finish_270 (by decide) ?_
  refine V_forget (lo' := [some (.ref this), some (.int v1), some (.int v2), none, none, some (.int v5), none]) ⟨rfl, ⟨rfl, ⟨rfl, ⟨rfl, trivial⟩⟩⟩⟩ ?_
  refine V_widen (k' := 0) (n' := 0) (by first | exact Nat.le_of_ble_eq_true rfl | omega | (dsimp only; omega)) (by first | exact Nat.le_of_ble_eq_true rfl | omega | (dsimp only; omega)) ?_
  exact wv_X10_finish_274 hl hG  _ _ _ _ _ _ _ _ h
def wp_X10_finish_214  (this : Nat) (v1 : Int32) (v2 : Int32) (v3 : Int32) (v5 : Int32) (s0 : Int32) (σ : Sg) (Post : Rs → Sg → Prop) : Prop := this % 32 = 10 ∧ ∀ o1, o1 = sP σ this 8 → ∃ u2, o1 = some u2 ∧ aty (u2 % 32) = some .int ∧ ∃ j3, (((4 : Int32) * v3) + s0) = nI j3 ∧ j3 < aln u2 ∧ this % 32 = 10 ∧ wp_X10_hasRoom this (sI σ u2 j3) σ (KI (fun x5 σ4 => ((x5 = 0 → Post (.inl none) σ4) ∧ (¬ x5 = 0 → this % 32 = 10 ∧ ∀ o6, o6 = sP σ4 this 19 → ∃ u7, o6 = some u7 ∧ aty (u7 % 32) = some .int ∧ ∃ j8, v2 = nI j8 ∧ j8 < aln u7 ∧ this % 32 = 10 ∧ ∀ o9, o9 = sP (wI σ4 u7 j8 s0) this 18 → ∃ u10, o9 = some u10 ∧ aty (u10 % 32) = some .int ∧ ∃ j11, v2 = nI j11 ∧ j11 < aln u10 ∧ this % 32 = 10 ∧ ∀ o12, o12 = sP (wI (wI σ4 u7 j8 s0) u10 j11 (1 : Int32)) this 22 → this % 32 = 10 ∧ ∀ o13, o13 = sP (wI (wI σ4 u7 j8 s0) u10 j11 (1 : Int32)) this 22 → ∃ u14, o13 = some u14 ∧ aty (u14 % 32) = some .boolean ∧ ∃ j15, v2 = nI j15 ∧ j15 < aln u14 ∧ ((¬ (sI (wI (wI σ4 u7 j8 s0) u10 j11 (1 : Int32)) u14 j15) = 0 → (wp_X10_finish_269 this v1 v2 v5 o12 v2 (wI (wI σ4 u7 j8 s0) u10 j11 (1 : Int32)) Post)) ∧ ((sI (wI (wI σ4 u7 j8 s0) u10 j11 (1 : Int32)) u14 j15) = 0 → ((v5 = (-1 : Int32) → (wp_X10_finish_274 this v1 v2 v5 o12 v2 (0 : Int32) (wI (wI σ4 u7 j8 s0) u10 j11 (1 : Int32)) Post)) ∧ (¬ v5 = (-1 : Int32) → (wp_X10_finish_269 this v1 v2 v5 o12 v2 (wI (wI σ4 u7 j8 s0) u10 j11 (1 : Int32)) Post)))))))) (fun E σ4 => Post (.inr E) σ4))
set_option maxRecDepth 100000 in
set_option maxHeartbeats 4000000 in
theorem wv_X10_finish_214 {L9 : Launch} {G : Cx} {Post : Rs → Sg → Prop} (hl : L9.stackTraces = false) (hG : CX L9 G yX10_finish cX10_finish 7 none [] { frames := 3, cells := 0, slots := 0, locals := 65 })   : ∀ (this : Nat) (v1 : Int32) (v2 : Int32) (v3 : Int32) (v5 : Int32) (s0 : Int32) (σ : Sg), wp_X10_finish_214 this v1 v2 v3 v5 s0 σ Post → V G (QM G 0 0 Post) 214 [some (.ref this), some (.int v1), some (.int v2), some (.int v3), none, some (.int v5), none] [.int s0] σ 0 0 := by
  intro this v1 v2 v3 v5 s0 σ h
  unfold wp_X10_finish_214 at h
  refine V_istore hG dX10_finish_214 (Nat.le_of_ble_eq_true rfl) (hpV rfl rfl) ?_
  refine V_aload_n (v := .ref this) hG dX10_finish_216 rfl rfl ?_
  refine V_aload_n (v := .ref this) hG dX10_finish_217 rfl rfl ?_
  obtain ⟨ht, h⟩ := h
  refine V_getPv hG dX10_finish_218 fl_X10_34 rfl ht (fun o1 ho => ?_)
  replace h := h o1 ho
  refine V_iconst (v := 4) hG (by decide) dX10_finish_221 ?_
  refine V_iload_n hG dX10_finish_222 rfl ?_
  refine V_imul hG dX10_finish_223 ?_
  refine V_iload hG dX10_finish_224 rfl ?_
  refine V_iadd hG dX10_finish_226 ?_
  obtain ⟨u2, he, h⟩ := h
  subst he
  obtain ⟨ha, j3, hi, hj, h⟩ := h
  refine V_iald hG dX10_finish_227 ha hi hj ?_
  obtain ⟨ht, h⟩ := h
  refine V_cVI _ _ hG dX10_finish_228 (ct_X10_hasRoom hl h) mv_X10_hasRoom ml_X10_222 ht rfl rfl rfl rfl (by first | exact Nat.le_of_ble_eq_true rfl | (simp only [List.map_cons, List.map_nil, List.sum_cons, List.sum_nil, cat_rf]; exact Nat.le_of_ble_eq_true rfl)) (Nat.le_of_ble_eq_true rfl) (Nat.le_of_ble_eq_true rfl) (by first | exact Nat.le_of_ble_eq_true rfl | omega | (dsimp only; omega)) (by first | exact Nat.le_of_ble_eq_true rfl | omega | (dsimp only; omega)) ?_ (fun x5 σ4 h9 => ?_)
  · exact fun E σ4 hx => VX_out hG (by first | exact Nat.le_of_ble_eq_true rfl | omega | (dsimp only; omega)) (by first | exact Nat.le_of_ble_eq_true rfl | omega | (dsimp only; omega)) hx
  · replace h := h9
    clear h9
    refine V_if_eq (tgt := 305) hG dX10_finish_231 (by decide) (fun c => ?_) (fun c => ?_)
    · replace h := h.1 c
      exact V_vret hG dX10_finish_305 (by first | exact Nat.le_of_ble_eq_true rfl | omega | (dsimp only; omega)) (by first | exact Nat.le_of_ble_eq_true rfl | omega | (dsimp only; omega)) h
    · replace h := h.2 c
      refine V_aload_n (v := .ref this) hG dX10_finish_234 rfl rfl ?_
      obtain ⟨ht, h⟩ := h
      refine V_getPv hG dX10_finish_235 fl_X10_65 rfl ht (fun o6 ho => ?_)
      replace h := h o6 ho
      refine V_iload_n hG dX10_finish_238 rfl ?_
      refine V_iload hG dX10_finish_239 rfl ?_
      obtain ⟨u7, he, h⟩ := h
      subst he
      obtain ⟨ha, j8, hi, hj, h⟩ := h
      refine V_iast hG dX10_finish_241 ha hi hj ?_
      refine V_aload_n (v := .ref this) hG dX10_finish_242 rfl rfl ?_
      obtain ⟨ht, h⟩ := h
      refine V_getPv hG dX10_finish_243 fl_X10_62 rfl ht (fun o9 ho => ?_)
      replace h := h o9 ho
      refine V_iload_n hG dX10_finish_246 rfl ?_
      refine V_iconst (v := 1) hG (by decide) dX10_finish_247 ?_
      obtain ⟨u10, he, h⟩ := h
      subst he
      obtain ⟨ha, j11, hi, hj, h⟩ := h
      refine V_iast hG dX10_finish_248 ha hi hj ?_
      refine V_aload_n (v := .ref this) hG dX10_finish_249 rfl rfl ?_
      obtain ⟨ht, h⟩ := h
      refine V_getPv hG dX10_finish_250 fl_X10_74 rfl ht (fun o12 ho => ?_)
      replace h := h o12 ho
      refine V_iload_n hG dX10_finish_253 rfl ?_
      refine V_aload_n (v := .ref this) hG dX10_finish_254 rfl rfl ?_
      obtain ⟨ht, h⟩ := h
      refine V_getPv hG dX10_finish_255 fl_X10_74 rfl ht (fun o13 ho => ?_)
      replace h := h o13 ho
      refine V_iload_n hG dX10_finish_258 rfl ?_
      obtain ⟨u14, he, h⟩ := h
      subst he
      obtain ⟨ha, j15, hi, hj, h⟩ := h
      refine V_zald hG dX10_finish_259 ha hi hj ?_
      refine V_if_ne (tgt := 269) hG dX10_finish_260 (by decide) (fun c => ?_) (fun c => ?_)
      · replace h := h.1 c
        refine V_forget (lo' := [some (.ref this), some (.int v1), some (.int v2), none, none, some (.int v5), none]) ⟨rfl, ⟨rfl, ⟨rfl, ⟨rfl, trivial⟩⟩⟩⟩ ?_
        refine V_widen (k' := 0) (n' := 0) (by first | exact Nat.le_of_ble_eq_true rfl | omega | (dsimp only; omega)) (by first | exact Nat.le_of_ble_eq_true rfl | omega | (dsimp only; omega)) ?_
        exact wv_X10_finish_269 hl hG  _ _ _ _ _ _ _ h
      · replace h := h.2 c
        refine V_iload hG dX10_finish_263 rfl ?_
        refine V_iconst (v := (-1)) hG (by decide) dX10_finish_265 ?_
        refine V_icmp_eq (tgt := 273) hG dX10_finish_266 (by decide) (fun c => ?_) (fun c => ?_)
        · replace h := h.1 c
          refine V_iconst (v := 0) hG (by decide) dX10_finish_273 ?_
          refine V_forget (lo' := [some (.ref this), some (.int v1), some (.int v2), none, none, some (.int v5), none]) ⟨rfl, ⟨rfl, ⟨rfl, ⟨rfl, trivial⟩⟩⟩⟩ ?_
          refine V_widen (k' := 0) (n' := 0) (by first | exact Nat.le_of_ble_eq_true rfl | omega | (dsimp only; omega)) (by first | exact Nat.le_of_ble_eq_true rfl | omega | (dsimp only; omega)) ?_
          exact wv_X10_finish_274 hl hG  _ _ _ _ _ _ _ _ h
        · replace h := h.2 c
          refine V_forget (lo' := [some (.ref this), some (.int v1), some (.int v2), none, none, some (.int v5), none]) ⟨rfl, ⟨rfl, ⟨rfl, ⟨rfl, trivial⟩⟩⟩⟩ ?_
          refine V_widen (k' := 0) (n' := 0) (by first | exact Nat.le_of_ble_eq_true rfl | omega | (dsimp only; omega)) (by first | exact Nat.le_of_ble_eq_true rfl | omega | (dsimp only; omega)) ?_
          exact wv_X10_finish_269 hl hG  _ _ _ _ _ _ _ h
def wp_X10_finish_199  (this : Nat) (v1 : Int32) (v2 : Int32) (v3 : Int32) (v4 : Int32) (v5 : Int32) (σ : Sg) (Post : Rs → Sg → Prop) : Prop := ((¬ v5 = (-1 : Int32) → (wp_X10_finish_214 this v1 v2 v3 v5 v5 σ Post)) ∧ (v5 = (-1 : Int32) → (wp_X10_finish_214 this v1 v2 v3 v5 (v4 + (1 : Int32)) σ Post)))
set_option maxRecDepth 100000 in
set_option maxHeartbeats 4000000 in
theorem wv_X10_finish_199 {L9 : Launch} {G : Cx} {Post : Rs → Sg → Prop} (hl : L9.stackTraces = false) (hG : CX L9 G yX10_finish cX10_finish 7 none [] { frames := 3, cells := 0, slots := 0, locals := 65 })   : ∀ (this : Nat) (v1 : Int32) (v2 : Int32) (v3 : Int32) (v4 : Int32) (v5 : Int32) (σ : Sg), wp_X10_finish_199 this v1 v2 v3 v4 v5 σ Post → V G (QM G 0 0 Post) 199 [some (.ref this), some (.int v1), some (.int v2), some (.int v3), some (.int v4), some (.int v5), none] [] σ 0 0 := by
  intro this v1 v2 v3 v4 v5 σ h
  unfold wp_X10_finish_199 at h
  refine V_iload hG dX10_finish_199 rfl ?_
  refine V_iconst (v := (-1)) hG (by decide) dX10_finish_201 ?_
  refine V_icmp_ne (tgt := 212) hG dX10_finish_202 (by decide) (fun c => ?_) (fun c => ?_)
  · replace h := h.1 c
    refine V_iload hG dX10_finish_212 rfl ?_
    refine V_forget (lo' := [some (.ref this), some (.int v1), some (.int v2), some (.int v3), none, some (.int v5), none]) ⟨rfl, ⟨rfl, ⟨rfl, ⟨rfl, ⟨rfl, trivial⟩⟩⟩⟩⟩ ?_
    refine V_widen (k' := 0) (n' := 0) (by first | exact Nat.le_of_ble_eq_true rfl | omega | (dsimp only; omega)) (by first | exact Nat.le_of_ble_eq_true rfl | omega | (dsimp only; omega)) ?_
    exact wv_X10_finish_214 hl hG  _ _ _ _ _ _ _ h
  · replace h := h.2 c
    refine V_iload hG dX10_finish_205 rfl ?_
    refine V_iconst (v := 1) hG (by decide) dX10_finish_207 ?_
    refine V_iadd hG dX10_finish_208 ?_
    refine V_goto (tgt := 214) hG dX10_finish_209 (by decide) ?_
    refine V_forget (lo' := [some (.ref this), some (.int v1), some (.int v2), some (.int v3), none, some (.int v5), none]) ⟨rfl, ⟨rfl, ⟨rfl, ⟨rfl, ⟨rfl, trivial⟩⟩⟩⟩⟩ ?_
    refine V_widen (k' := 0) (n' := 0) (by first | exact Nat.le_of_ble_eq_true rfl | omega | (dsimp only; omega)) (by first | exact Nat.le_of_ble_eq_true rfl | omega | (dsimp only; omega)) ?_
    exact wv_X10_finish_214 hl hG  _ _ _ _ _ _ _ h
def wp_X10_finish_134  (this : Nat) (v1 : Int32) (v2 : Int32) (v3 : Int32) (v4 : Int32) (v5 : Int32) (σ : Sg) (Post : Rs → Sg → Prop) : Prop := ((¬ v5 = (-1 : Int32) → (wp_X10_finish_199 this v1 v2 v3 v4 v5 σ Post)) ∧ (v5 = (-1 : Int32) → this % 32 = 10 ∧ ∀ o1, o1 = sP σ this 7 → ∃ u2, o1 = some u2 ∧ aty (u2 % 32) = some .int ∧ ∃ j3, v3 = nI j3 ∧ j3 < aln u2 ∧ ((¬ v4 = ((sI σ u2 j3) - (1 : Int32)) → (wp_X10_finish_199 this v1 v2 v3 v4 v5 σ Post)) ∧ (v4 = ((sI σ u2 j3) - (1 : Int32)) → this % 32 = 10 ∧ wp_X10_inStore this v3 σ (KI (fun x5 σ4 => this % 32 = 10 ∧ ∀ o6, o6 = sP σ4 this 16 → ∃ u7, o6 = some u7 ∧ aty (u7 % 32) = some .int ∧ ∃ j8, v2 = nI j8 ∧ j8 < aln u7 ∧ this % 32 = 10 ∧ ∀ o9, o9 = sP σ4 this 11 → ∃ u10, o9 = some u10 ∧ aty (u10 % 32) = some .int ∧ ∃ j11, v3 = nI j11 ∧ j11 < aln u10 ∧ (((sI σ4 u10 j11) < (x5 + (sI σ4 u7 j8)) → Post (.inl none) σ4) ∧ (¬ (sI σ4 u10 j11) < (x5 + (sI σ4 u7 j8)) → this % 32 = 10 ∧ ∀ o12, o12 = sP σ4 this 19 → ∃ u13, o12 = some u13 ∧ aty (u13 % 32) = some .int ∧ ∃ j14, v2 = nI j14 ∧ j14 < aln u13 ∧ aty (u13 % 32) = some .int ∧ ∃ j15, v2 = nI j15 ∧ j15 < aln u13 ∧ this % 32 = 10 ∧ ∀ o16, o16 = sP (wI σ4 u13 j15 ((sI σ4 u13 j14) + (1 : Int32))) this 18 → ∃ u17, o16 = some u17 ∧ aty (u17 % 32) = some .int ∧ ∃ j18, v2 = nI j18 ∧ j18 < aln u17 ∧ this % 32 = 10 ∧ wp_X10_leave this v1 (wI (wI σ4 u13 j15 ((sI σ4 u13 j14) + (1 : Int32))) u17 j18 (3 : Int32)) (KV (fun σ19 => Post (.inl none) σ19) (fun E σ19 => Post (.inr E) σ19))))) (fun E σ4 => Post (.inr E) σ4))))))
set_option maxRecDepth 100000 in
set_option maxHeartbeats 4000000 in
theorem wv_X10_finish_134 {L9 : Launch} {G : Cx} {Post : Rs → Sg → Prop} (hl : L9.stackTraces = false) (hG : CX L9 G yX10_finish cX10_finish 7 none [] { frames := 3, cells := 0, slots := 0, locals := 65 })   : ∀ (this : Nat) (v1 : Int32) (v2 : Int32) (v3 : Int32) (v4 : Int32) (v5 : Int32) (σ : Sg), wp_X10_finish_134 this v1 v2 v3 v4 v5 σ Post → V G (QM G 0 0 Post) 134 [some (.ref this), some (.int v1), some (.int v2), some (.int v3), some (.int v4), some (.int v5), none] [] σ 0 0 := by
  intro this v1 v2 v3 v4 v5 σ h
  unfold wp_X10_finish_134 at h
  refine V_iload hG dX10_finish_134 rfl ?_
  refine V_iconst (v := (-1)) hG (by decide) dX10_finish_136 ?_
  refine V_icmp_ne (tgt := 199) hG dX10_finish_137 (by decide) (fun c => ?_) (fun c => ?_)
  · replace h := h.1 c
    refine V_forget (lo' := [some (.ref this), some (.int v1), some (.int v2), some (.int v3), some (.int v4), some (.int v5), none]) ⟨rfl, ⟨rfl, ⟨rfl, ⟨rfl, ⟨rfl, ⟨rfl, trivial⟩⟩⟩⟩⟩⟩ ?_
    refine V_widen (k' := 0) (n' := 0) (by first | exact Nat.le_of_ble_eq_true rfl | omega | (dsimp only; omega)) (by first | exact Nat.le_of_ble_eq_true rfl | omega | (dsimp only; omega)) ?_
    exact wv_X10_finish_199 hl hG  _ _ _ _ _ _ _ h
  · replace h := h.2 c
    refine V_iload hG dX10_finish_140 rfl ?_
    refine V_aload_n (v := .ref this) hG dX10_finish_142 rfl rfl ?_
    obtain ⟨ht, h⟩ := h
    refine V_getPv hG dX10_finish_143 fl_X10_31 rfl ht (fun o1 ho => ?_)
    replace h := h o1 ho
    refine V_iload_n hG dX10_finish_146 rfl ?_
    obtain ⟨u2, he, h⟩ := h
    subst he
    obtain ⟨ha, j3, hi, hj, h⟩ := h
    refine V_iald hG dX10_finish_147 ha hi hj ?_
    refine V_iconst (v := 1) hG (by decide) dX10_finish_148 ?_
    refine V_isub hG dX10_finish_149 ?_
    refine V_icmp_ne (tgt := 199) hG dX10_finish_150 (by decide) (fun c => ?_) (fun c => ?_)
    · replace h := h.1 c
      refine V_forget (lo' := [some (.ref this), some (.int v1), some (.int v2), some (.int v3), some (.int v4), some (.int v5), none]) ⟨rfl, ⟨rfl, ⟨rfl, ⟨rfl, ⟨rfl, ⟨rfl, trivial⟩⟩⟩⟩⟩⟩ ?_
      refine V_widen (k' := 0) (n' := 0) (by first | exact Nat.le_of_ble_eq_true rfl | omega | (dsimp only; omega)) (by first | exact Nat.le_of_ble_eq_true rfl | omega | (dsimp only; omega)) ?_
      exact wv_X10_finish_199 hl hG  _ _ _ _ _ _ _ h
    · replace h := h.2 c
      refine V_aload_n (v := .ref this) hG dX10_finish_153 rfl rfl ?_
      refine V_iload_n hG dX10_finish_154 rfl ?_
      obtain ⟨ht, h⟩ := h
      refine V_cVI _ _ hG dX10_finish_155 (ct_X10_inStore hl h) mv_X10_inStore ml_X10_206 ht rfl rfl rfl rfl (by first | exact Nat.le_of_ble_eq_true rfl | (simp only [List.map_cons, List.map_nil, List.sum_cons, List.sum_nil, cat_rf]; exact Nat.le_of_ble_eq_true rfl)) (Nat.le_of_ble_eq_true rfl) (Nat.le_of_ble_eq_true rfl) (by first | exact Nat.le_of_ble_eq_true rfl | omega | (dsimp only; omega)) (by first | exact Nat.le_of_ble_eq_true rfl | omega | (dsimp only; omega)) ?_ (fun x5 σ4 h9 => ?_)
      · exact fun E σ4 hx => VX_out hG (by first | exact Nat.le_of_ble_eq_true rfl | omega | (dsimp only; omega)) (by first | exact Nat.le_of_ble_eq_true rfl | omega | (dsimp only; omega)) hx
      · replace h := h9
        clear h9
        refine V_aload_n (v := .ref this) hG dX10_finish_158 rfl rfl ?_
        obtain ⟨ht, h⟩ := h
        refine V_getPv hG dX10_finish_159 fl_X10_56 rfl ht (fun o6 ho => ?_)
        replace h := h o6 ho
        refine V_iload_n hG dX10_finish_162 rfl ?_
        obtain ⟨u7, he, h⟩ := h
        subst he
        obtain ⟨ha, j8, hi, hj, h⟩ := h
        refine V_iald hG dX10_finish_163 ha hi hj ?_
        refine V_iadd hG dX10_finish_164 ?_
        refine V_aload_n (v := .ref this) hG dX10_finish_165 rfl rfl ?_
        obtain ⟨ht, h⟩ := h
        refine V_getPv hG dX10_finish_166 fl_X10_43 rfl ht (fun o9 ho => ?_)
        replace h := h o9 ho
        refine V_iload_n hG dX10_finish_169 rfl ?_
        obtain ⟨u10, he, h⟩ := h
        subst he
        obtain ⟨ha, j11, hi, hj, h⟩ := h
        refine V_iald hG dX10_finish_170 ha hi hj ?_
        refine V_icmp_gt (tgt := 305) hG dX10_finish_171 (by decide) (fun c => ?_) (fun c => ?_)
        · replace h := h.1 c
          exact V_vret hG dX10_finish_305 (by first | exact Nat.le_of_ble_eq_true rfl | omega | (dsimp only; omega)) (by first | exact Nat.le_of_ble_eq_true rfl | omega | (dsimp only; omega)) h
        · replace h := h.2 c
          refine V_aload_n (v := .ref this) hG dX10_finish_174 rfl rfl ?_
          obtain ⟨ht, h⟩ := h
          refine V_getPv hG dX10_finish_175 fl_X10_65 rfl ht (fun o12 ho => ?_)
          replace h := h o12 ho
          refine V_iload_n hG dX10_finish_178 rfl ?_
          refine V_dup2 hG rfl (cat_rf _) dX10_finish_179 ?_
          obtain ⟨u13, he, h⟩ := h
          subst he
          obtain ⟨ha, j14, hi, hj, h⟩ := h
          refine V_iald hG dX10_finish_180 ha hi hj ?_
          refine V_iconst (v := 1) hG (by decide) dX10_finish_181 ?_
          refine V_iadd hG dX10_finish_182 ?_
          obtain ⟨ha, j15, hi, hj, h⟩ := h
          refine V_iast hG dX10_finish_183 ha hi hj ?_
          refine V_aload_n (v := .ref this) hG dX10_finish_184 rfl rfl ?_
          obtain ⟨ht, h⟩ := h
          refine V_getPv hG dX10_finish_185 fl_X10_62 rfl ht (fun o16 ho => ?_)
          replace h := h o16 ho
          refine V_iload_n hG dX10_finish_188 rfl ?_
          refine V_iconst (v := 3) hG (by decide) dX10_finish_189 ?_
          obtain ⟨u17, he, h⟩ := h
          subst he
          obtain ⟨ha, j18, hi, hj, h⟩ := h
          refine V_iast hG dX10_finish_190 ha hi hj ?_
          refine V_aload_n (v := .ref this) hG dX10_finish_191 rfl rfl ?_
          refine V_iload_n hG dX10_finish_192 rfl ?_
          obtain ⟨ht, h⟩ := h
          refine V_cVV _ _ hG dX10_finish_193 (ct_X10_leave hl h) mv_X10_leave ml_X10_239 ht rfl rfl rfl rfl (by first | exact Nat.le_of_ble_eq_true rfl | (simp only [List.map_cons, List.map_nil, List.sum_cons, List.sum_nil, cat_rf]; exact Nat.le_of_ble_eq_true rfl)) (Nat.le_of_ble_eq_true rfl) (Nat.le_of_ble_eq_true rfl) (by first | exact Nat.le_of_ble_eq_true rfl | omega | (dsimp only; omega)) (by first | exact Nat.le_of_ble_eq_true rfl | omega | (dsimp only; omega)) ?_ (fun σ19 h9 => ?_)
          · exact fun E σ19 hx => VX_out hG (by first | exact Nat.le_of_ble_eq_true rfl | omega | (dsimp only; omega)) (by first | exact Nat.le_of_ble_eq_true rfl | omega | (dsimp only; omega)) hx
          · replace h := h9
            clear h9
            refine V_goto (tgt := 305) hG dX10_finish_196 (by decide) ?_
            exact V_vret hG dX10_finish_305 (by first | exact Nat.le_of_ble_eq_true rfl | omega | (dsimp only; omega)) (by first | exact Nat.le_of_ble_eq_true rfl | omega | (dsimp only; omega)) h
def wp_X10_finish_104  (this : Nat) (v1 : Int32) (v2 : Int32) (v3 : Int32) (v4 : Int32) (σ : Sg) (Post : Rs → Sg → Prop) : Prop := this % 32 = 10 ∧ wp_X10_found this v2 σ (KI (fun x2 σ1 => ((x2 = (-1 : Int32) → (wp_X10_finish_134 this v1 v2 v3 v4 x2 σ1 Post)) ∧ (¬ x2 = (-1 : Int32) → this % 32 = 10 ∧ ∀ o3, o3 = sP σ1 this 22 → ∃ u4, o3 = some u4 ∧ aty (u4 % 32) = some .boolean ∧ ∃ j5, v2 = nI j5 ∧ j5 < aln u4 ∧ (((sI σ1 u4 j5) = 0 → (wp_X10_finish_134 this v1 v2 v3 v4 x2 σ1 Post)) ∧ (¬ (sI σ1 u4 j5) = 0 → this % 32 = 10 ∧ wp_X10_scrap this v2 σ1 (KV (fun σ6 => Post (.inl none) σ6) (fun E σ6 => Post (.inr E) σ6))))))) (fun E σ1 => Post (.inr E) σ1))
set_option maxRecDepth 100000 in
set_option maxHeartbeats 4000000 in
theorem wv_X10_finish_104 {L9 : Launch} {G : Cx} {Post : Rs → Sg → Prop} (hl : L9.stackTraces = false) (hG : CX L9 G yX10_finish cX10_finish 7 none [] { frames := 3, cells := 0, slots := 0, locals := 65 })   : ∀ (this : Nat) (v1 : Int32) (v2 : Int32) (v3 : Int32) (v4 : Int32) (σ : Sg), wp_X10_finish_104 this v1 v2 v3 v4 σ Post → V G (QM G 0 0 Post) 104 [some (.ref this), some (.int v1), some (.int v2), some (.int v3), some (.int v4), none, none] [] σ 0 0 := by
  intro this v1 v2 v3 v4 σ h
  unfold wp_X10_finish_104 at h
  refine V_aload_n (v := .ref this) hG dX10_finish_104 rfl rfl ?_
  refine V_iload_n hG dX10_finish_105 rfl ?_
  obtain ⟨ht, h⟩ := h
  refine V_cVI _ _ hG dX10_finish_106 (ct_X10_found hl h) mv_X10_found ml_X10_261 ht rfl rfl rfl rfl (by first | exact Nat.le_of_ble_eq_true rfl | (simp only [List.map_cons, List.map_nil, List.sum_cons, List.sum_nil, cat_rf]; exact Nat.le_of_ble_eq_true rfl)) (Nat.le_of_ble_eq_true rfl) (Nat.le_of_ble_eq_true rfl) (by first | exact Nat.le_of_ble_eq_true rfl | omega | (dsimp only; omega)) (by first | exact Nat.le_of_ble_eq_true rfl | omega | (dsimp only; omega)) ?_ (fun x2 σ1 h9 => ?_)
  · exact fun E σ1 hx => VX_out hG (by first | exact Nat.le_of_ble_eq_true rfl | omega | (dsimp only; omega)) (by first | exact Nat.le_of_ble_eq_true rfl | omega | (dsimp only; omega)) hx
  · replace h := h9
    clear h9
    refine V_istore hG dX10_finish_109 (Nat.le_of_ble_eq_true rfl) (hpV rfl rfl) ?_
    refine V_iload hG dX10_finish_111 rfl ?_
    refine V_iconst (v := (-1)) hG (by decide) dX10_finish_113 ?_
    refine V_icmp_eq (tgt := 134) hG dX10_finish_114 (by decide) (fun c => ?_) (fun c => ?_)
    · replace h := h.1 c
      refine V_forget (lo' := [some (.ref this), some (.int v1), some (.int v2), some (.int v3), some (.int v4), some (.int x2), none]) ⟨rfl, ⟨rfl, ⟨rfl, ⟨rfl, ⟨rfl, ⟨rfl, trivial⟩⟩⟩⟩⟩⟩ ?_
      refine V_widen (k' := 0) (n' := 0) (by first | exact Nat.le_of_ble_eq_true rfl | omega | (dsimp only; omega)) (by first | exact Nat.le_of_ble_eq_true rfl | omega | (dsimp only; omega)) ?_
      exact wv_X10_finish_134 hl hG  _ _ _ _ _ _ _ h
    · replace h := h.2 c
      refine V_aload_n (v := .ref this) hG dX10_finish_117 rfl rfl ?_
      obtain ⟨ht, h⟩ := h
      refine V_getPv hG dX10_finish_118 fl_X10_74 rfl ht (fun o3 ho => ?_)
      replace h := h o3 ho
      refine V_iload_n hG dX10_finish_121 rfl ?_
      obtain ⟨u4, he, h⟩ := h
      subst he
      obtain ⟨ha, j5, hi, hj, h⟩ := h
      refine V_zald hG dX10_finish_122 ha hi hj ?_
      refine V_if_eq (tgt := 134) hG dX10_finish_123 (by decide) (fun c => ?_) (fun c => ?_)
      · replace h := h.1 c
        refine V_forget (lo' := [some (.ref this), some (.int v1), some (.int v2), some (.int v3), some (.int v4), some (.int x2), none]) ⟨rfl, ⟨rfl, ⟨rfl, ⟨rfl, ⟨rfl, ⟨rfl, trivial⟩⟩⟩⟩⟩⟩ ?_
        refine V_widen (k' := 0) (n' := 0) (by first | exact Nat.le_of_ble_eq_true rfl | omega | (dsimp only; omega)) (by first | exact Nat.le_of_ble_eq_true rfl | omega | (dsimp only; omega)) ?_
        exact wv_X10_finish_134 hl hG  _ _ _ _ _ _ _ h
      · replace h := h.2 c
        refine V_aload_n (v := .ref this) hG dX10_finish_126 rfl rfl ?_
        refine V_iload_n hG dX10_finish_127 rfl ?_
        obtain ⟨ht, h⟩ := h
        refine V_cVV _ _ hG dX10_finish_128 (ct_X10_scrap hl h) mv_X10_scrap ml_X10_243 ht rfl rfl rfl rfl (by first | exact Nat.le_of_ble_eq_true rfl | (simp only [List.map_cons, List.map_nil, List.sum_cons, List.sum_nil, cat_rf]; exact Nat.le_of_ble_eq_true rfl)) (Nat.le_of_ble_eq_true rfl) (Nat.le_of_ble_eq_true rfl) (by first | exact Nat.le_of_ble_eq_true rfl | omega | (dsimp only; omega)) (by first | exact Nat.le_of_ble_eq_true rfl | omega | (dsimp only; omega)) ?_ (fun σ6 h9 => ?_)
        · exact fun E σ6 hx => VX_out hG (by first | exact Nat.le_of_ble_eq_true rfl | omega | (dsimp only; omega)) (by first | exact Nat.le_of_ble_eq_true rfl | omega | (dsimp only; omega)) hx
        · replace h := h9
          clear h9
          refine V_goto (tgt := 305) hG dX10_finish_131 (by decide) ?_
          exact V_vret hG dX10_finish_305 (by first | exact Nat.le_of_ble_eq_true rfl | omega | (dsimp only; omega)) (by first | exact Nat.le_of_ble_eq_true rfl | omega | (dsimp only; omega)) h
def wp_X10_finish_102  (this : Nat) (v1 : Int32) (v2 : Int32) (v3 : Int32) (v4 : Int32) (s0 : Nat) (s1 : Int32) (s2 : Int32) (s3 : Int32) (σ : Sg) (Post : Rs → Sg → Prop) : Prop := aty (s0 % 32) = some .int ∧ ∃ j1, s1 = nI j1 ∧ j1 < aln s0 ∧ (wp_X10_finish_104 this v1 v2 v3 v4 (wI σ s0 j1 (s2 ||| s3)) Post)
set_option maxRecDepth 100000 in
set_option maxHeartbeats 4000000 in
theorem wv_X10_finish_102 {L9 : Launch} {G : Cx} {Post : Rs → Sg → Prop} (hl : L9.stackTraces = false) (hG : CX L9 G yX10_finish cX10_finish 7 none [] { frames := 3, cells := 0, slots := 0, locals := 65 })   : ∀ (this : Nat) (v1 : Int32) (v2 : Int32) (v3 : Int32) (v4 : Int32) (s0 : Nat) (s1 : Int32) (s2 : Int32) (s3 : Int32) (σ : Sg), wp_X10_finish_102 this v1 v2 v3 v4 s0 s1 s2 s3 σ Post → V G (QM G 0 0 Post) 102 [some (.ref this), some (.int v1), some (.int v2), some (.int v3), some (.int v4), none, none] [.int s3, .int s2, .int s1, .ref s0] σ 0 0 := by
  intro this v1 v2 v3 v4 s0 s1 s2 s3 σ h
  unfold wp_X10_finish_102 at h
  refine V_ior hG dX10_finish_102 ?_
  obtain ⟨ha, j1, hi, hj, h⟩ := h
  refine V_iast hG dX10_finish_103 ha hi hj ?_
  refine V_forget (lo' := [some (.ref this), some (.int v1), some (.int v2), some (.int v3), some (.int v4), none, none]) ⟨rfl, ⟨rfl, ⟨rfl, ⟨rfl, ⟨rfl, trivial⟩⟩⟩⟩⟩ ?_
  refine V_widen (k' := 0) (n' := 0) (by first | exact Nat.le_of_ble_eq_true rfl | omega | (dsimp only; omega)) (by first | exact Nat.le_of_ble_eq_true rfl | omega | (dsimp only; omega)) ?_
  exact wv_X10_finish_104 hl hG  _ _ _ _ _ _ h
def wp_X10_finish_80  (this : Nat) (v1 : Int32) (v2 : Int32) (v3 : Int32) (v4 : Int32) (s0 : Int32) (σ : Sg) (Post : Rs → Sg → Prop) : Prop := this % 32 = 10 ∧ ∀ o1, o1 = sP σ this 23 → ∃ u2, o1 = some u2 ∧ aty (u2 % 32) = some .int ∧ ∃ j3, v2 = nI j3 ∧ j3 < aln u2 ∧ ((s0 = 0 → (wp_X10_finish_102 this v1 v2 v3 v4 u2 v2 (sI σ u2 j3) (0 : Int32) σ Post)) ∧ (¬ s0 = 0 → (wp_X10_finish_102 this v1 v2 v3 v4 u2 v2 (sI σ u2 j3) ((1 : Int32) <<< (v4 &&& 31)) σ Post)))
set_option maxRecDepth 100000 in
set_option maxHeartbeats 4000000 in
theorem wv_X10_finish_80 {L9 : Launch} {G : Cx} {Post : Rs → Sg → Prop} (hl : L9.stackTraces = false) (hG : CX L9 G yX10_finish cX10_finish 7 none [] { frames := 3, cells := 0, slots := 0, locals := 65 })   : ∀ (this : Nat) (v1 : Int32) (v2 : Int32) (v3 : Int32) (v4 : Int32) (s0 : Int32) (σ : Sg), wp_X10_finish_80 this v1 v2 v3 v4 s0 σ Post → V G (QM G 0 0 Post) 80 [some (.ref this), some (.int v1), some (.int v2), some (.int v3), some (.int v4), none, none] [.int s0] σ 0 0 := by
  intro this v1 v2 v3 v4 s0 σ h
  unfold wp_X10_finish_80 at h
  refine V_istore hG dX10_finish_80 (Nat.le_of_ble_eq_true rfl) (hpV rfl rfl) ?_
  refine V_aload_n (v := .ref this) hG dX10_finish_82 rfl rfl ?_
  obtain ⟨ht, h⟩ := h
  refine V_getPv hG dX10_finish_83 fl_X10_77 rfl ht (fun o1 ho => ?_)
  replace h := h o1 ho
  refine V_iload_n hG dX10_finish_86 rfl ?_
  refine V_dup2 hG rfl (cat_rf _) dX10_finish_87 ?_
  obtain ⟨u2, he, h⟩ := h
  subst he
  obtain ⟨ha, j3, hi, hj, h⟩ := h
  refine V_iald hG dX10_finish_88 ha hi hj ?_
  refine V_iload hG dX10_finish_89 rfl ?_
  refine V_if_eq (tgt := 101) hG dX10_finish_91 (by decide) (fun c => ?_) (fun c => ?_)
  · replace h := h.1 c
    refine V_iconst (v := 0) hG (by decide) dX10_finish_101 ?_
    refine V_forget (lo' := [some (.ref this), some (.int v1), some (.int v2), some (.int v3), some (.int v4), none, none]) ⟨rfl, ⟨rfl, ⟨rfl, ⟨rfl, ⟨rfl, trivial⟩⟩⟩⟩⟩ ?_
    refine V_widen (k' := 0) (n' := 0) (by first | exact Nat.le_of_ble_eq_true rfl | omega | (dsimp only; omega)) (by first | exact Nat.le_of_ble_eq_true rfl | omega | (dsimp only; omega)) ?_
    exact wv_X10_finish_102 hl hG  _ _ _ _ _ _ _ _ _ _ h
  · replace h := h.2 c
    refine V_iconst (v := 1) hG (by decide) dX10_finish_94 ?_
    refine V_iload hG dX10_finish_95 rfl ?_
    refine V_ishl hG dX10_finish_97 ?_
    refine V_goto (tgt := 102) hG dX10_finish_98 (by decide) ?_
    refine V_forget (lo' := [some (.ref this), some (.int v1), some (.int v2), some (.int v3), some (.int v4), none, none]) ⟨rfl, ⟨rfl, ⟨rfl, ⟨rfl, ⟨rfl, trivial⟩⟩⟩⟩⟩ ?_
    refine V_widen (k' := 0) (n' := 0) (by first | exact Nat.le_of_ble_eq_true rfl | omega | (dsimp only; omega)) (by first | exact Nat.le_of_ble_eq_true rfl | omega | (dsimp only; omega)) ?_
    exact wv_X10_finish_102 hl hG  _ _ _ _ _ _ _ _ _ _ h
def wp_X10_finish (this : Nat) (a0 : Int32) (σ : Sg) (Post : Rs → Sg → Prop) : Prop := this % 32 = 10 ∧ ∀ o1, o1 = sP σ this 34 → ∃ u2, o1 = some u2 ∧ aty (u2 % 32) = some .int ∧ ∃ j3, a0 = nI j3 ∧ j3 < aln u2 ∧ this % 32 = 10 ∧ ∀ o4, o4 = sP σ this 15 → ∃ u5, o4 = some u5 ∧ aty (u5 % 32) = some .int ∧ ∃ j6, (sI σ u2 j3) = nI j6 ∧ j6 < aln u5 ∧ this % 32 = 10 ∧ ∀ o7, o7 = sP σ this 19 → ∃ u8, o7 = some u8 ∧ aty (u8 % 32) = some .int ∧ ∃ j9, (sI σ u2 j3) = nI j9 ∧ j9 < aln u8 ∧ this % 32 = 10 ∧ ∀ o10, o10 = sP σ this 24 → ∃ u11, o10 = some u11 ∧ aty (u11 % 32) = some .boolean ∧ ∃ j12, (sI σ u2 j3) = nI j12 ∧ j12 < aln u11 ∧ ((¬ (sI σ u11 j12) = 0 → (wp_X10_finish_104 this a0 (sI σ u2 j3) (sI σ u5 j6) (sI σ u8 j9) σ Post)) ∧ ((sI σ u11 j12) = 0 → this % 32 = 10 ∧ ∀ o13, o13 = sP σ this 24 → ∃ u14, o13 = some u14 ∧ aty (u14 % 32) = some .boolean ∧ ∃ j15, (sI σ u2 j3) = nI j15 ∧ j15 < aln u14 ∧ b01 (1 : Int32) ∧ this % 32 = 10 ∧ ¬ (11 : Int32) = 0 ∧ this % 32 = 10 ∧ ∀ o16, o16 = sP (wI σ u14 j15 (1 : Int32)) this 37 → ∃ u17, o16 = some u17 ∧ aty (u17 % 32) = some .int ∧ ∃ j18, a0 = nI j18 ∧ j18 < aln u17 ∧ this % 32 = 10 ∧ ∀ o19, o19 = sP (wI σ u14 j15 (1 : Int32)) this 31 → ∃ u20, o19 = some u20 ∧ aty (u20 % 32) = some .int ∧ ∃ j21, a0 = nI j21 ∧ j21 < aln u20 ∧ ¬ (sI (wI σ u14 j15 (1 : Int32)) u20 j21) = 0 ∧ (((((4 : Int32) * (sI (wI σ u14 j15 (1 : Int32)) u17 j18)) / (sI (wI σ u14 j15 (1 : Int32)) u20 j21)) ≤ (((((7 : Int32) * (sI σ u2 j3)) + ((5 : Int32) * (sI σ u8 j9))) + ((3 : Int32) * (sI (wI σ u14 j15 (1 : Int32)) this 55))) - ((((7 : Int32) * (sI σ u2 j3)) + ((5 : Int32) * (sI σ u8 j9))) + ((3 : Int32) * (sI (wI σ u14 j15 (1 : Int32)) this 55))) / (11 : Int32) * (11 : Int32)) → (wp_X10_finish_80 this a0 (sI σ u2 j3) (sI σ u5 j6) (sI σ u8 j9) (0 : Int32) (wI σ u14 j15 (1 : Int32)) Post)) ∧ (¬ (((4 : Int32) * (sI (wI σ u14 j15 (1 : Int32)) u17 j18)) / (sI (wI σ u14 j15 (1 : Int32)) u20 j21)) ≤ (((((7 : Int32) * (sI σ u2 j3)) + ((5 : Int32) * (sI σ u8 j9))) + ((3 : Int32) * (sI (wI σ u14 j15 (1 : Int32)) this 55))) - ((((7 : Int32) * (sI σ u2 j3)) + ((5 : Int32) * (sI σ u8 j9))) + ((3 : Int32) * (sI (wI σ u14 j15 (1 : Int32)) this 55))) / (11 : Int32) * (11 : Int32)) → (wp_X10_finish_80 this a0 (sI σ u2 j3) (sI σ u5 j6) (sI σ u8 j9) (1 : Int32) (wI σ u14 j15 (1 : Int32)) Post)))))
set_option maxRecDepth 100000 in
set_option maxHeartbeats 4000000 in
theorem ct_X10_finish {l : Launch} (hl : l.stackTraces = false) {this : Nat} {a0 : Int32} {σ : Sg} {Post : Rs → Sg → Prop} (h : wp_X10_finish this a0 σ Post) : Ct l yX10_finish (.code yX10_finish cX10_finish 7 none) 3 65 0 0 [.ref this, .int a0] σ Post := by
  refine Ct_of [some (.ref this), some (.int a0), none, none, none, none, none] hl (by decide +kernel) rfl (fun ad => by rfl) (fun ad => by exact Nat.le_of_ble_eq_true rfl) (fun v hv => mem_lo hv rfl) ?_
  intro G hG
  unfold wp_X10_finish at h
  refine V_aload_n (v := .ref this) hG dX10_finish_0 rfl rfl ?_
  obtain ⟨ht, h⟩ := h
  refine V_getPv hG dX10_finish_1 fl_X10_108 rfl ht (fun o1 ho => ?_)
  replace h := h o1 ho
  refine V_iload_n hG dX10_finish_4 rfl ?_
  obtain ⟨u2, he, h⟩ := h
  subst he
  obtain ⟨ha, j3, hi, hj, h⟩ := h
  refine V_iald hG dX10_finish_5 ha hi hj ?_
  refine V_istore_n hG dX10_finish_6 (Nat.le_of_ble_eq_true rfl) (hpV rfl rfl) ?_
  refine V_aload_n (v := .ref this) hG dX10_finish_7 rfl rfl ?_
  obtain ⟨ht, h⟩ := h
  refine V_getPv hG dX10_finish_8 fl_X10_53 rfl ht (fun o4 ho => ?_)
  replace h := h o4 ho
  refine V_iload_n hG dX10_finish_11 rfl ?_
  obtain ⟨u5, he, h⟩ := h
  subst he
  obtain ⟨ha, j6, hi, hj, h⟩ := h
  refine V_iald hG dX10_finish_12 ha hi hj ?_
  refine V_istore_n hG dX10_finish_13 (Nat.le_of_ble_eq_true rfl) (hpV rfl rfl) ?_
  refine V_aload_n (v := .ref this) hG dX10_finish_14 rfl rfl ?_
  obtain ⟨ht, h⟩ := h
  refine V_getPv hG dX10_finish_15 fl_X10_65 rfl ht (fun o7 ho => ?_)
  replace h := h o7 ho
  refine V_iload_n hG dX10_finish_18 rfl ?_
  obtain ⟨u8, he, h⟩ := h
  subst he
  obtain ⟨ha, j9, hi, hj, h⟩ := h
  refine V_iald hG dX10_finish_19 ha hi hj ?_
  refine V_istore hG dX10_finish_20 (Nat.le_of_ble_eq_true rfl) (hpV rfl rfl) ?_
  refine V_aload_n (v := .ref this) hG dX10_finish_22 rfl rfl ?_
  obtain ⟨ht, h⟩ := h
  refine V_getPv hG dX10_finish_23 fl_X10_80 rfl ht (fun o10 ho => ?_)
  replace h := h o10 ho
  refine V_iload_n hG dX10_finish_26 rfl ?_
  obtain ⟨u11, he, h⟩ := h
  subst he
  obtain ⟨ha, j12, hi, hj, h⟩ := h
  refine V_zald hG dX10_finish_27 ha hi hj ?_
  refine V_if_ne (tgt := 104) hG dX10_finish_28 (by decide) (fun c => ?_) (fun c => ?_)
  · replace h := h.1 c
    refine V_forget (lo' := [some (.ref this), some (.int a0), some (.int (sI σ u2 j3)), some (.int (sI σ u5 j6)), some (.int (sI σ u8 j9)), none, none]) ⟨rfl, ⟨rfl, ⟨rfl, ⟨rfl, ⟨rfl, trivial⟩⟩⟩⟩⟩ ?_
    refine V_widen (k' := 0) (n' := 0) (by first | exact Nat.le_of_ble_eq_true rfl | omega | (dsimp only; omega)) (by first | exact Nat.le_of_ble_eq_true rfl | omega | (dsimp only; omega)) ?_
    exact wv_X10_finish_104 hl hG  _ _ _ _ _ _ h
  · replace h := h.2 c
    refine V_aload_n (v := .ref this) hG dX10_finish_31 rfl rfl ?_
    obtain ⟨ht, h⟩ := h
    refine V_getPv hG dX10_finish_32 fl_X10_80 rfl ht (fun o13 ho => ?_)
    replace h := h o13 ho
    refine V_iload_n hG dX10_finish_35 rfl ?_
    refine V_iconst (v := 1) hG (by decide) dX10_finish_36 ?_
    obtain ⟨u14, he, h⟩ := h
    subst he
    obtain ⟨ha, j15, hi, hj, h⟩ := h
    obtain ⟨hb, h⟩ := h
    refine V_zast hG dX10_finish_37 ha hb hi hj ?_
    refine V_bipush (v := 7) hG (by decide) dX10_finish_38 ?_
    refine V_iload_n hG dX10_finish_40 rfl ?_
    refine V_imul hG dX10_finish_41 ?_
    refine V_iconst (v := 5) hG (by decide) dX10_finish_42 ?_
    refine V_iload hG dX10_finish_43 rfl ?_
    refine V_imul hG dX10_finish_45 ?_
    refine V_iadd hG dX10_finish_46 ?_
    refine V_iconst (v := 3) hG (by decide) dX10_finish_47 ?_
    refine V_aload_n (v := .ref this) hG dX10_finish_48 rfl rfl ?_
    obtain ⟨ht, h⟩ := h
    refine V_getI hG dX10_finish_49 fl_X10_193 rfl ht ?_
    refine V_imul hG dX10_finish_52 ?_
    refine V_iadd hG dX10_finish_53 ?_
    refine V_bipush (v := 11) hG (by decide) dX10_finish_54 ?_
    obtain ⟨hne, h⟩ := h
    refine V_irem hG hne dX10_finish_56 ?_
    refine V_iconst (v := 4) hG (by decide) dX10_finish_57 ?_
    refine V_aload_n (v := .ref this) hG dX10_finish_58 rfl rfl ?_
    obtain ⟨ht, h⟩ := h
    refine V_getPv hG dX10_finish_59 fl_X10_117 rfl ht (fun o16 ho => ?_)
    replace h := h o16 ho
    refine V_iload_n hG dX10_finish_62 rfl ?_
    obtain ⟨u17, he, h⟩ := h
    subst he
    obtain ⟨ha, j18, hi, hj, h⟩ := h
    refine V_iald hG dX10_finish_63 ha hi hj ?_
    refine V_imul hG dX10_finish_64 ?_
    refine V_aload_n (v := .ref this) hG dX10_finish_65 rfl rfl ?_
    obtain ⟨ht, h⟩ := h
    refine V_getPv hG dX10_finish_66 fl_X10_99 rfl ht (fun o19 ho => ?_)
    replace h := h o19 ho
    refine V_iload_n hG dX10_finish_69 rfl ?_
    obtain ⟨u20, he, h⟩ := h
    subst he
    obtain ⟨ha, j21, hi, hj, h⟩ := h
    refine V_iald hG dX10_finish_70 ha hi hj ?_
    obtain ⟨hne, h⟩ := h
    refine V_idiv hG hne dX10_finish_71 ?_
    refine V_icmp_ge (tgt := 79) hG dX10_finish_72 (by decide) (fun c => ?_) (fun c => ?_)
    · replace h := h.1 c
      refine V_iconst (v := 0) hG (by decide) dX10_finish_79 ?_
      refine V_forget (lo' := [some (.ref this), some (.int a0), some (.int (sI σ u2 j3)), some (.int (sI σ u5 j6)), some (.int (sI σ u8 j9)), none, none]) ⟨rfl, ⟨rfl, ⟨rfl, ⟨rfl, ⟨rfl, trivial⟩⟩⟩⟩⟩ ?_
      refine V_widen (k' := 0) (n' := 0) (by first | exact Nat.le_of_ble_eq_true rfl | omega | (dsimp only; omega)) (by first | exact Nat.le_of_ble_eq_true rfl | omega | (dsimp only; omega)) ?_
      exact wv_X10_finish_80 hl hG  _ _ _ _ _ _ _ h
    · replace h := h.2 c
      refine V_iconst (v := 1) hG (by decide) dX10_finish_75 ?_
      refine V_goto (tgt := 80) hG dX10_finish_76 (by decide) ?_
      refine V_forget (lo' := [some (.ref this), some (.int a0), some (.int (sI σ u2 j3)), some (.int (sI σ u5 j6)), some (.int (sI σ u8 j9)), none, none]) ⟨rfl, ⟨rfl, ⟨rfl, ⟨rfl, ⟨rfl, trivial⟩⟩⟩⟩⟩ ?_
      refine V_widen (k' := 0) (n' := 0) (by first | exact Nat.le_of_ble_eq_true rfl | omega | (dsimp only; omega)) (by first | exact Nat.le_of_ble_eq_true rfl | omega | (dsimp only; omega)) ?_
      exact wv_X10_finish_80 hl hG  _ _ _ _ _ _ _ h
