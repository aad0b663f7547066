/-! Walks, by program. -/
def wp_X8_moveInto (this : Nat) (a0 : Option Nat) (a1 : Option Nat) (a2 : Int32) (σ : Sg) (Post : Rs → Sg → Prop) : Prop := ∃ u1, a0 = some u1 ∧ u1 % 32 = 0 ∧ this % 32 = 8 ∧ wp_X8_sourcesOf this a1 a2 σ (KJ (fun x3 σ2 => u1 % 32 = 0 ∧ u1 % 32 = 0 ∧ this % 32 = 8 ∧ wp_X8_take this a1 a2 (wL σ2 u1 11 ((sL σ u1 11) ||| x3)) (KI (fun x5 σ4 => u1 % 32 = 0 ∧ Post (.inl none) (wI σ4 u1 3 ((sI (wL σ2 u1 11 ((sL σ u1 11) ||| x3)) u1 3) + x5))) (fun E σ4 => Post (.inr E) σ4))) (fun E σ2 => Post (.inr E) σ2))
set_option maxRecDepth 100000 in
set_option maxHeartbeats 4000000 in
theorem ct_X8_moveInto {l : Launch} (hl : l.stackTraces = false) {this : Nat} {a0 : Option Nat} {a1 : Option Nat} {a2 : Int32} {σ : Sg} {Post : Rs → Sg → Prop} (h : wp_X8_moveInto this a0 a1 a2 σ Post) : Ct l yX8_moveInto (.code yX8_moveInto cX8_moveInto 4 none) 2 49 0 0 [.ref this, va_rf a0, va_rf a1, .int a2] σ Post := by
  refine Ct_of [some (.ref this), some (va_rf a0), some (va_rf a1), some (.int a2)] hl (by decide +kernel) rfl (fun ad => by cases a0 <;> cases a1 <;> rfl) (fun ad => by cases a0 <;> cases a1 <;> exact Nat.le_of_ble_eq_true rfl) (fun v hv => mem_lo hv rfl) ?_
  intro G hG
  unfold wp_X8_moveInto at h
  refine V_aload_n (v := va_rf a0) hG dX8_moveInto_0 (isRef_rf _) rfl ?_
  refine V_dup (v := va_rf a0) hG (cat_rf _) dX8_moveInto_1 ?_
  obtain ⟨u1, he, h⟩ := h
  subst he
  obtain ⟨ht, h⟩ := h
  refine V_getJ hG dX8_moveInto_2 fl_X8_104 rfl ht ?_
  refine V_aload_n (v := .ref this) hG dX8_moveInto_5 rfl rfl ?_
  refine V_aload_n (v := va_rf a1) hG dX8_moveInto_6 (isRef_rf _) rfl ?_
  refine V_iload_n hG dX8_moveInto_7 rfl ?_
  obtain ⟨ht, h⟩ := h
  refine V_cVJ _ _ hG dX8_moveInto_8 (ct_X8_sourcesOf hl h) mv_X8_sourcesOf ml_X8_108 ht rfl rfl rfl rfl (by first | exact Nat.le_of_ble_eq_true rfl | (simp only [List.map_cons, List.map_nil, List.sum_cons, List.sum_nil, cat_rf]; exact Nat.le_of_ble_eq_true rfl)) (Nat.le_of_ble_eq_true rfl) (Nat.le_of_ble_eq_true rfl) (by first | exact Nat.le_of_ble_eq_true rfl | omega | (dsimp only; omega)) (by first | exact Nat.le_of_ble_eq_true rfl | omega | (dsimp only; omega)) ?_ (fun x3 σ2 h9 => ?_)
  · exact fun E σ2 hx => VX_out hG (by first | exact Nat.le_of_ble_eq_true rfl | omega | (dsimp only; omega)) (by first | exact Nat.le_of_ble_eq_true rfl | omega | (dsimp only; omega)) hx
  · replace h := h9
    clear h9
    refine V_lor hG dX8_moveInto_11 ?_
    obtain ⟨ht, h⟩ := h
    refine V_putJ hG dX8_moveInto_12 fl_X8_104 rfl rfl ht ?_
    refine V_aload_n (v := .ref u1) hG dX8_moveInto_15 rfl rfl ?_
    refine V_dup (v := .ref u1) hG rfl dX8_moveInto_16 ?_
    obtain ⟨ht, h⟩ := h
    refine V_getI hG dX8_moveInto_17 fl_X8_112 rfl ht ?_
    refine V_aload_n (v := .ref this) hG dX8_moveInto_20 rfl rfl ?_
    refine V_aload_n (v := va_rf a1) hG dX8_moveInto_21 (isRef_rf _) rfl ?_
    refine V_iload_n hG dX8_moveInto_22 rfl ?_
    obtain ⟨ht, h⟩ := h
    refine V_cVI _ _ hG dX8_moveInto_23 (ct_X8_take hl h) mv_X8_take ml_X8_115 ht rfl rfl rfl rfl (by first | exact Nat.le_of_ble_eq_true rfl | (simp only [List.map_cons, List.map_nil, List.sum_cons, List.sum_nil, cat_rf]; exact Nat.le_of_ble_eq_true rfl)) (Nat.le_of_ble_eq_true rfl) (Nat.le_of_ble_eq_true rfl) (by first | exact Nat.le_of_ble_eq_true rfl | omega | (dsimp only; omega)) (by first | exact Nat.le_of_ble_eq_true rfl | omega | (dsimp only; omega)) ?_ (fun x5 σ4 h9 => ?_)
    · exact fun E σ4 hx => VX_out hG (by first | exact Nat.le_of_ble_eq_true rfl | omega | (dsimp only; omega)) (by first | exact Nat.le_of_ble_eq_true rfl | omega | (dsimp only; omega)) hx
    · replace h := h9
      clear h9
      refine V_iadd hG dX8_moveInto_26 ?_
      obtain ⟨ht, h⟩ := h
      refine V_putI hG dX8_moveInto_27 fl_X8_112 rfl (fun e => absurd e (by decide)) rfl ht ?_
      exact V_vret hG dX8_moveInto_30 (by first | exact Nat.le_of_ble_eq_true rfl | omega | (dsimp only; omega)) (by first | exact Nat.le_of_ble_eq_true rfl | omega | (dsimp only; omega)) h
def wp_X1_takeParts_56 (K2 : Nat → Option Nat → Int32 → Sg → Prop) (this : Nat) (v1 : Nat) (v2 : Int32) (σ : Sg) (Post : Rs → Sg → Prop) : Prop := (K2 this (some v1) (v2 + 1) σ)
set_option maxRecDepth 100000 in
set_option maxHeartbeats 4000000 in
theorem wv_X1_takeParts_56 {L9 : Launch} {G : Cx} {Post : Rs → Sg → Prop} (hl : L9.stackTraces = false) (hG : CX L9 G yX1_takeParts cX1_takeParts 5 none [] { frames := 3, cells := 0, slots := 0, locals := 72 }) {K2 : Nat → Option Nat → Int32 → Sg → Prop} (hK2 : ∀ (this : Nat) (v1 : Option Nat) (v2 : Int32) (ζ : Sg), K2 this v1 v2 ζ → V G (QM G 0 0 Post) 2 [some (.ref this), some (va_rf v1), some (.int v2), none, none] [] ζ 0 0) : ∀ (this : Nat) (v1 : Nat) (v2 : Int32) (σ : Sg), wp_X1_takeParts_56 K2 this v1 v2 σ Post → V G (QM G 0 0 Post) 56 [some (.ref this), some (.ref v1), some (.int v2), none, none] [] σ 0 0 := by
  intro this v1 v2 σ h
  unfold wp_X1_takeParts_56 at h
  refine V_iincv (c := 1) hG dX1_takeParts_56 rfl (by decide) (hpV rfl rfl) ?_
  refine V_goto (tgt := 2) hG dX1_takeParts_59 (by decide) ?_
  refine V_forget (lo' := [some (.ref this), some (va_rf (some v1)), some (.int (v2 + 1)), none, none]) ⟨rfl, ⟨rfl, ⟨rfl, trivial⟩⟩⟩ ?_
  exact hK2 _ _ _ _ h
def wp_X1_takeParts_2  : Nat → Nat → Option Nat → Int32 → Sg → (Rs → Sg → Prop) → Prop
  | 0, _, _, _, _, _ => False
  | f + 1, this, v1, v2, σ, Post => ∃ u1, v1 = some u1 ∧ u1 % 32 = 0 ∧ ∀ o2, o2 = sP σ u1 1 → ∃ u3, o2 = some u3 ∧ u3 % 32 = 2 ∧ (((sI σ u3 5) ≤ v2 → Post (.inl none) σ) ∧ (¬ (sI σ u3 5) ≤ v2 → u1 % 32 = 0 ∧ ∀ o4, o4 = sP σ u1 1 → ∃ u5, o4 = some u5 ∧ u5 % 32 = 2 ∧ ∀ o6, o6 = sP σ u5 4 → ∃ u7, o6 = some u7 ∧ isRow u7 ∧ ∃ j8, v2 = nI j8 ∧ j8 < aln u7 ∧ ∀ o9, o9 = sP σ u7 j8 → u1 % 32 = 0 ∧ ∃ u10, o9 = some u10 ∧ u10 % 32 = 3 ∧ wp_X3_sourceFor u10 (sI σ u1 2) σ (KO (fun x12 σ11 => ((x12 = none → (wp_X1_takeParts_56 (fun z0 z1 z2 ζ => wp_X1_takeParts_2 f z0 z1 z2 ζ Post) this u1 v2 σ11 Post)) ∧ (∀ u13, x12 = some u13 → this % 32 = 1 ∧ ∀ o14, o14 = sP σ11 this 0 → u1 % 32 = 0 ∧ u10 % 32 = 3 ∧ wp_X3_needFor u10 (sI σ11 u1 2) σ11 (KI (fun x16 σ15 => ∃ u17, o14 = some u17 ∧ u17 % 32 = 8 ∧ wp_X8_moveInto u17 (some u1) (some u13) x16 σ15 (KV (fun σ18 => (wp_X1_takeParts_56 (fun z0 z1 z2 ζ => wp_X1_takeParts_2 f z0 z1 z2 ζ Post) this u1 v2 σ18 Post)) (fun E σ18 => Post (.inr E) σ18))) (fun E σ15 => Post (.inr E) σ15))))) (fun E σ11 => Post (.inr E) σ11))))
set_option maxRecDepth 100000 in
set_option maxHeartbeats 4000000 in
theorem wv_X1_takeParts_2 {L9 : Launch} {G : Cx} {Post : Rs → Sg → Prop} (hl : L9.stackTraces = false) (hG : CX L9 G yX1_takeParts cX1_takeParts 5 none [] { frames := 3, cells := 0, slots := 0, locals := 72 })   : ∀ (f : Nat) (this : Nat) (v1 : Option Nat) (v2 : Int32) (σ : Sg), wp_X1_takeParts_2 f this v1 v2 σ Post → V G (QM G 0 0 Post) 2 [some (.ref this), some (va_rf v1), some (.int v2), none, none] [] σ 0 0 := by
  intro f
  induction f with
  | zero => intro _ _ _ σ h; exact h.elim
  | succ f ih =>
    intro this v1 v2 σ h
    refine V_iload_n hG dX1_takeParts_2 rfl ?_
    refine V_aload_n (v := va_rf v1) hG dX1_takeParts_3 (isRef_rf _) rfl ?_
    obtain ⟨u1, he, h⟩ := h
    subst he
    obtain ⟨ht, h⟩ := h
    refine V_getPv hG dX1_takeParts_4 fl_X1_137 rfl ht (fun o2 ho => ?_)
    replace h := h o2 ho
    obtain ⟨u3, he, h⟩ := h
    subst he
    obtain ⟨ht, h⟩ := h
    refine V_getI hG dX1_takeParts_7 fl_X1_238 rfl ht ?_
    refine V_icmp_ge (tgt := 62) hG dX1_takeParts_10 (by decide) (fun c => ?_) (fun c => ?_)
    · replace h := h.1 c
      exact V_vret hG dX1_takeParts_62 (by first | exact Nat.le_of_ble_eq_true rfl | omega | (dsimp only; omega)) (by first | exact Nat.le_of_ble_eq_true rfl | omega | (dsimp only; omega)) h
    · replace h := h.2 c
      refine V_aload_n (v := .ref u1) hG dX1_takeParts_13 rfl rfl ?_
      obtain ⟨ht, h⟩ := h
      refine V_getPv hG dX1_takeParts_14 fl_X1_137 rfl ht (fun o4 ho => ?_)
      replace h := h o4 ho
      obtain ⟨u5, he, h⟩ := h
      subst he
      obtain ⟨ht, h⟩ := h
      refine V_getPv hG dX1_takeParts_17 fl_X1_241 rfl ht (fun o6 ho => ?_)
      replace h := h o6 ho
      refine V_iload_n hG dX1_takeParts_20 rfl ?_
      obtain ⟨u7, he, h⟩ := h
      subst he
      obtain ⟨ha, j8, hi, hj, h⟩ := h
      refine V_aaldv hG dX1_takeParts_21 ha hi hj (fun o9 ho => ?_)
      replace h := h o9 ho
      refine V_astore_n hG dX1_takeParts_22 (isRef_rf _) (Nat.le_of_ble_eq_true rfl) (hpV rfl rfl) ?_
      refine V_aload_n (v := va_rf o9) hG dX1_takeParts_23 (isRef_rf _) rfl ?_
      refine V_aload_n (v := .ref u1) hG dX1_takeParts_24 rfl rfl ?_
      obtain ⟨ht, h⟩ := h
      refine V_getI hG dX1_takeParts_25 fl_X1_147 rfl ht ?_
      obtain ⟨u10, he, h⟩ := h
      subst he
      obtain ⟨ht, h⟩ := h
      refine V_cVO _ _ hG dX1_takeParts_28 (ct_X3_sourceFor hl h) mv_X3_sourceFor ml_X1_245 ht rfl rfl rfl rfl (by first | exact Nat.le_of_ble_eq_true rfl | (simp only [List.map_cons, List.map_nil, List.sum_cons, List.sum_nil, cat_rf]; exact Nat.le_of_ble_eq_true rfl)) (Nat.le_of_ble_eq_true rfl) (Nat.le_of_ble_eq_true rfl) (by first | exact Nat.le_of_ble_eq_true rfl | omega | (dsimp only; omega)) (by first | exact Nat.le_of_ble_eq_true rfl | omega | (dsimp only; omega)) ?_ (fun x12 σ11 h9 => ?_)
      · exact fun E σ11 hx => VX_out hG (by first | exact Nat.le_of_ble_eq_true rfl | omega | (dsimp only; omega)) (by first | exact Nat.le_of_ble_eq_true rfl | omega | (dsimp only; omega)) hx
      · replace h := h9
        clear h9
        refine V_astore hG dX1_takeParts_31 (isRef_rf _) (Nat.le_of_ble_eq_true rfl) (hpV rfl rfl) ?_
        refine V_aload (v := va_rf x12) hG dX1_takeParts_33 (isRef_rf _) rfl ?_
        refine V_ifnull (o := x12) (tgt := 56) hG dX1_takeParts_35 (by decide) (fun c => ?_) (fun c => ?_)
        · replace h := h.1 c
          subst c
          refine V_forget (lo' := [some (.ref this), some (.ref u1), some (.int v2), none, none]) ⟨rfl, ⟨rfl, ⟨rfl, trivial⟩⟩⟩ ?_
          refine V_widen (k' := 0) (n' := 0) (by first | exact Nat.le_of_ble_eq_true rfl | omega | (dsimp only; omega)) (by first | exact Nat.le_of_ble_eq_true rfl | omega | (dsimp only; omega)) ?_
          exact wv_X1_takeParts_56 hl hG (fun z0 z1 z2 ζ hz => ih z0 z1 z2 ζ hz) _ _ _ _ h
        · obtain ⟨u13, c⟩ := c
          replace h := h.2 u13 c
          subst c
          refine V_aload_n (v := .ref this) hG dX1_takeParts_38 rfl rfl ?_
          obtain ⟨ht, h⟩ := h
          refine V_getPv hG dX1_takeParts_39 fl_X1_12 rfl ht (fun o14 ho => ?_)
          replace h := h o14 ho
          refine V_aload_n (v := .ref u1) hG dX1_takeParts_42 rfl rfl ?_
          refine V_aload (v := .ref u13) hG dX1_takeParts_43 rfl rfl ?_
          refine V_aload_n (v := .ref u10) hG dX1_takeParts_45 rfl rfl ?_
          refine V_aload_n (v := .ref u1) hG dX1_takeParts_46 rfl rfl ?_
          obtain ⟨ht, h⟩ := h
          refine V_getI hG dX1_takeParts_47 fl_X1_147 rfl ht ?_
          obtain ⟨ht, h⟩ := h
          refine V_cVI _ _ hG dX1_takeParts_50 (ct_X3_needFor hl h) mv_X3_needFor ml_X1_251 ht rfl rfl rfl rfl (by first | exact Nat.le_of_ble_eq_true rfl | (simp only [List.map_cons, List.map_nil, List.sum_cons, List.sum_nil, cat_rf]; exact Nat.le_of_ble_eq_true rfl)) (Nat.le_of_ble_eq_true rfl) (Nat.le_of_ble_eq_true rfl) (by first | exact Nat.le_of_ble_eq_true rfl | omega | (dsimp only; omega)) (by first | exact Nat.le_of_ble_eq_true rfl | omega | (dsimp only; omega)) ?_ (fun x16 σ15 h9 => ?_)
          · exact fun E σ15 hx => VX_out hG (by first | exact Nat.le_of_ble_eq_true rfl | omega | (dsimp only; omega)) (by first | exact Nat.le_of_ble_eq_true rfl | omega | (dsimp only; omega)) hx
          · replace h := h9
            clear h9
            obtain ⟨u17, he, h⟩ := h
            subst he
            obtain ⟨ht, h⟩ := h
            refine V_cVV _ _ hG dX1_takeParts_53 (ct_X8_moveInto hl h) mv_X8_moveInto ml_X1_255 ht rfl rfl rfl rfl (by first | exact Nat.le_of_ble_eq_true rfl | (simp only [List.map_cons, List.map_nil, List.sum_cons, List.sum_nil, cat_rf]; exact Nat.le_of_ble_eq_true rfl)) (Nat.le_of_ble_eq_true rfl) (Nat.le_of_ble_eq_true rfl) (by first | exact Nat.le_of_ble_eq_true rfl | omega | (dsimp only; omega)) (by first | exact Nat.le_of_ble_eq_true rfl | omega | (dsimp only; omega)) ?_ (fun σ18 h9 => ?_)
            · exact fun E σ18 hx => VX_out hG (by first | exact Nat.le_of_ble_eq_true rfl | omega | (dsimp only; omega)) (by first | exact Nat.le_of_ble_eq_true rfl | omega | (dsimp only; omega)) hx
            · replace h := h9
              clear h9
              refine V_forget (lo' := [some (.ref this), some (.ref u1), some (.int v2), none, none]) ⟨rfl, ⟨rfl, ⟨rfl, trivial⟩⟩⟩ ?_
              refine V_widen (k' := 0) (n' := 0) (by first | exact Nat.le_of_ble_eq_true rfl | omega | (dsimp only; omega)) (by first | exact Nat.le_of_ble_eq_true rfl | omega | (dsimp only; omega)) ?_
              exact wv_X1_takeParts_56 hl hG (fun z0 z1 z2 ζ hz => ih z0 z1 z2 ζ hz) _ _ _ _ h
def wp_X1_takeParts (this : Nat) (a0 : Option Nat) (σ : Sg) (Post : Rs → Sg → Prop) : Prop := (∃ g, wp_X1_takeParts_2 g this a0 (0 : Int32) σ Post)
set_option maxRecDepth 100000 in
set_option maxHeartbeats 4000000 in
theorem ct_X1_takeParts {l : Launch} (hl : l.stackTraces = false) {this : Nat} {a0 : Option Nat} {σ : Sg} {Post : Rs → Sg → Prop} (h : wp_X1_takeParts this a0 σ Post) : Ct l yX1_takeParts (.code yX1_takeParts cX1_takeParts 5 none) 3 72 0 0 [.ref this, va_rf a0] σ Post := by
  refine Ct_of [some (.ref this), some (va_rf a0), none, none, none] hl (by decide +kernel) rfl (fun ad => by cases a0 <;> rfl) (fun ad => by cases a0 <;> exact Nat.le_of_ble_eq_true rfl) (fun v hv => mem_lo hv rfl) ?_
  intro G hG
  unfold wp_X1_takeParts at h
  refine V_iconst (v := 0) hG (by decide) dX1_takeParts_0 ?_
  refine V_istore_n hG dX1_takeParts_1 (Nat.le_of_ble_eq_true rfl) (hpV rfl (cat_rf _)) ?_
  refine V_forget (lo' := [some (.ref this), some (va_rf a0), some (.int (0 : Int32)), none, none]) ⟨rfl, ⟨rfl, ⟨rfl, trivial⟩⟩⟩ ?_
  obtain ⟨g, h⟩ := h
  refine V_widen (k' := 0) (n' := 0) (by first | exact Nat.le_of_ble_eq_true rfl | omega | (dsimp only; omega)) (by first | exact Nat.le_of_ble_eq_true rfl | omega | (dsimp only; omega)) ?_
  exact wv_X1_takeParts_2 hl hG  g _ _ _ _ h
def wp_X4_begin_48  (this : Nat) (v1 : Nat) (v3 : Nat) (σ : Sg) (Post : Rs → Sg → Prop) : Prop := this % 32 = 4 ∧ b01 (0 : Int32) ∧ v1 % 32 = 0 ∧ ∀ o1, o1 = sP (wI σ this 10 (0 : Int32)) v1 1 → this % 32 = 4 ∧ this % 32 = 4 ∧ this % 32 = 4 ∧ ∀ o2, o2 = sP (wP (wP (wI σ this 10 (0 : Int32)) this 12 o1) this 7 (some v1)) this 7 → ∃ u3, o2 = some u3 ∧ u3 % 32 = 0 ∧ this % 32 = 4 ∧ this % 32 = 4 ∧ ∀ o4, o4 = sP (wP (wI (wP (wP (wI σ this 10 (0 : Int32)) this 12 o1) this 7 (some v1)) u3 4 (2 : Int32)) this 8 (some v3)) this 8 → this % 32 = 4 ∧ ∃ u5, o4 = some u5 ∧ u5 % 32 = 7 ∧ Post (.inl none) (wI (wP (wI (wP (wP (wI σ this 10 (0 : Int32)) this 12 o1) this 7 (some v1)) u3 4 (2 : Int32)) this 8 (some v3)) u5 6 (sI (wP (wI (wP (wP (wI σ this 10 (0 : Int32)) this 12 o1) this 7 (some v1)) u3 4 (2 : Int32)) this 8 (some v3)) this 0))
set_option maxRecDepth 100000 in
set_option maxHeartbeats 4000000 in
theorem wv_X4_begin_48 {L9 : Launch} {G : Cx} {Post : Rs → Sg → Prop} (hl : L9.stackTraces = false) (hG : CX L9 G yX4_begin cX4_begin 4 none [] { frames := 1, cells := 0, slots := 0, locals := 14 })   : ∀ (this : Nat) (v1 : Nat) (v3 : Nat) (σ : Sg), wp_X4_begin_48 this v1 v3 σ Post → V G (QM G 0 0 Post) 48 [some (.ref this), some (.ref v1), none, some (.ref v3)] [] σ 0 0 := by
  intro this v1 v3 σ h
  unfold wp_X4_begin_48 at h
  refine V_aload_n (v := .ref this) hG dX4_begin_48 rfl rfl ?_
  refine V_iconst (v := 0) hG (by decide) dX4_begin_49 ?_
  obtain ⟨ht, h⟩ := h
  obtain ⟨hb, h⟩ := h
  refine V_putI hG dX4_begin_50 fl_X4_75 rfl (fun _ => hb) rfl ht ?_
  refine V_aload_n (v := .ref this) hG dX4_begin_53 rfl rfl ?_
  refine V_aload_n (v := .ref v1) hG dX4_begin_54 rfl rfl ?_
  obtain ⟨ht, h⟩ := h
  refine V_getPv hG dX4_begin_55 fl_X4_70 rfl ht (fun o1 ho => ?_)
  replace h := h o1 ho
  obtain ⟨ht, h⟩ := h
  refine V_putP (v := o1) hG dX4_begin_58 fl_X4_67 rfl rfl ht ?_
  refine V_aload_n (v := .ref this) hG dX4_begin_61 rfl rfl ?_
  refine V_aload_n (v := .ref v1) hG dX4_begin_62 rfl rfl ?_
  obtain ⟨ht, h⟩ := h
  refine V_putS hG dX4_begin_63 fl_X4_42 rfl rfl ht ?_
  refine V_aload_n (v := .ref this) hG dX4_begin_66 rfl rfl ?_
  obtain ⟨ht, h⟩ := h
  refine V_getPv hG dX4_begin_67 fl_X4_42 rfl ht (fun o2 ho => ?_)
  replace h := h o2 ho
  refine V_iconst (v := 2) hG (by decide) dX4_begin_70 ?_
  obtain ⟨u3, he, h⟩ := h
  subst he
  obtain ⟨ht, h⟩ := h
  refine V_putI hG dX4_begin_71 fl_X4_79 rfl (fun e => absurd e (by decide)) rfl ht ?_
  refine V_aload_n (v := .ref this) hG dX4_begin_74 rfl rfl ?_
  refine V_aload_n (v := .ref v3) hG dX4_begin_75 rfl rfl ?_
  obtain ⟨ht, h⟩ := h
  refine V_putS hG dX4_begin_76 fl_X4_82 rfl rfl ht ?_
  refine V_aload_n (v := .ref this) hG dX4_begin_79 rfl rfl ?_
  obtain ⟨ht, h⟩ := h
  refine V_getPv hG dX4_begin_80 fl_X4_82 rfl ht (fun o4 ho => ?_)
  replace h := h o4 ho
  refine V_aload_n (v := .ref this) hG dX4_begin_83 rfl rfl ?_
  obtain ⟨ht, h⟩ := h
  refine V_getI hG dX4_begin_84 fl_X4_15 rfl ht ?_
  obtain ⟨u5, he, h⟩ := h
  subst he
  obtain ⟨ht, h⟩ := h
  refine V_putI hG dX4_begin_87 fl_X4_86 rfl (fun e => absurd e (by decide)) rfl ht ?_
  exact V_vret hG dX4_begin_90 (by first | exact Nat.le_of_ble_eq_true rfl | omega | (dsimp only; omega)) (by first | exact Nat.le_of_ble_eq_true rfl | omega | (dsimp only; omega)) h
def wp_X4_begin (this : Nat) (a0 : Option Nat) (a1 : Option Nat) (a2 : Option Nat) (σ : Sg) (Post : Rs → Sg → Prop) : Prop := ∃ u1, a1 = some u1 ∧ u1 % 32 = 5 ∧ ∃ u2, a2 = some u2 ∧ u2 % 32 = 7 ∧ ∀ o3, o3 = sP σ u2 4 → u1 % 32 = 5 ∧ ∃ u4, o3 = some u4 ∧ aty (u4 % 32) = some .int ∧ ∃ j5, (sI σ u1 1) = nI j5 ∧ j5 < aln u4 ∧ this % 32 = 4 ∧ this % 32 = 4 ∧ ∀ o6, o6 = sP (wI σ this 9 (if (1 : Int32) < (((sI σ u1 2) - (sI σ u4 j5)) + (1 : Int32)) then (((sI σ u1 2) - (sI σ u4 j5)) + (1 : Int32)) else (1 : Int32))) this 12 → ∃ u7, a0 = some u7 ∧ u7 % 32 = 0 ∧ ∀ o8, o8 = sP (wI σ this 9 (if (1 : Int32) < (((sI σ u1 2) - (sI σ u4 j5)) + (1 : Int32)) then (((sI σ u1 2) - (sI σ u4 j5)) + (1 : Int32)) else (1 : Int32))) u7 1 → ((o6 = o8 → (wp_X4_begin_48 this u7 u2 (wI σ this 9 (if (1 : Int32) < (((sI σ u1 2) - (sI σ u4 j5)) + (1 : Int32)) then (((sI σ u1 2) - (sI σ u4 j5)) + (1 : Int32)) else (1 : Int32))) Post)) ∧ (¬ o6 = o8 → this % 32 = 4 ∧ this % 32 = 4 ∧ this % 32 = 4 ∧ (wp_X4_begin_48 this u7 u2 (wI (wI σ this 9 (if (1 : Int32) < (((sI σ u1 2) - (sI σ u4 j5)) + (1 : Int32)) then (((sI σ u1 2) - (sI σ u4 j5)) + (1 : Int32)) else (1 : Int32))) this 9 ((sI (wI σ this 9 (if (1 : Int32) < (((sI σ u1 2) - (sI σ u4 j5)) + (1 : Int32)) then (((sI σ u1 2) - (sI σ u4 j5)) + (1 : Int32)) else (1 : Int32))) this 9) + (sI (wI σ this 9 (if (1 : Int32) < (((sI σ u1 2) - (sI σ u4 j5)) + (1 : Int32)) then (((sI σ u1 2) - (sI σ u4 j5)) + (1 : Int32)) else (1 : Int32))) this 2))) Post)))
set_option maxRecDepth 100000 in
set_option maxHeartbeats 4000000 in
theorem ct_X4_begin {l : Launch} (hl : l.stackTraces = false) {this : Nat} {a0 : Option Nat} {a1 : Option Nat} {a2 : Option Nat} {σ : Sg} {Post : Rs → Sg → Prop} (h : wp_X4_begin this a0 a1 a2 σ Post) : Ct l yX4_begin (.code yX4_begin cX4_begin 4 none) 1 14 0 0 [.ref this, va_rf a0, va_rf a1, va_rf a2] σ Post := by
  refine Ct_of [some (.ref this), some (va_rf a0), some (va_rf a1), some (va_rf a2)] hl (by decide +kernel) rfl (fun ad => by cases a0 <;> cases a1 <;> cases a2 <;> rfl) (fun ad => by cases a0 <;> cases a1 <;> cases a2 <;> exact Nat.le_of_ble_eq_true rfl) (fun v hv => mem_lo hv rfl) ?_
  intro G hG
  unfold wp_X4_begin at h
  refine V_aload_n (v := .ref this) hG dX4_begin_0 rfl rfl ?_
  refine V_iconst (v := 1) hG (by decide) dX4_begin_1 ?_
  refine V_aload_n (v := va_rf a1) hG dX4_begin_2 (isRef_rf _) rfl ?_
  obtain ⟨u1, he, h⟩ := h
  subst he
  obtain ⟨ht, h⟩ := h
  refine V_getI hG dX4_begin_3 fl_X4_46 rfl ht ?_
  refine V_aload_n (v := va_rf a2) hG dX4_begin_6 (isRef_rf _) rfl ?_
  obtain ⟨u2, he, h⟩ := h
  subst he
  obtain ⟨ht, h⟩ := h
  refine V_getPv hG dX4_begin_7 fl_X4_49 rfl ht (fun o3 ho => ?_)
  replace h := h o3 ho
  refine V_aload_n (v := .ref u1) hG dX4_begin_10 rfl rfl ?_
  obtain ⟨ht, h⟩ := h
  refine V_getI hG dX4_begin_11 fl_X4_55 rfl ht ?_
  obtain ⟨u4, he, h⟩ := h
  subst he
  obtain ⟨ha, j5, hi, hj, h⟩ := h
  refine V_iald hG dX4_begin_14 ha hi hj ?_
  refine V_isub hG dX4_begin_15 ?_
  refine V_iconst (v := 1) hG (by decide) dX4_begin_16 ?_
  refine V_iadd hG dX4_begin_17 ?_
  refine V_mmax hG dX4_begin_18 ml_X4_58 mm_max.1 mm_max.2.1 mm_max.2.2 (Nat.le_of_ble_eq_true rfl) (by first | exact Nat.le_of_ble_eq_true rfl | (simp only [List.map_cons, List.map_nil, List.sum_cons, List.sum_nil, cat_rf]; exact Nat.le_of_ble_eq_true rfl)) (Nat.le_of_ble_eq_true rfl) (Nat.le_of_ble_eq_true rfl) ?_
  obtain ⟨ht, h⟩ := h
  refine V_putI hG dX4_begin_21 fl_X4_64 rfl (fun e => absurd e (by decide)) rfl ht ?_
  refine V_aload_n (v := .ref this) hG dX4_begin_24 rfl rfl ?_
  obtain ⟨ht, h⟩ := h
  refine V_getPv hG dX4_begin_25 fl_X4_67 rfl ht (fun o6 ho => ?_)
  replace h := h o6 ho
  refine V_aload_n (v := va_rf a0) hG dX4_begin_28 (isRef_rf _) rfl ?_
  obtain ⟨u7, he, h⟩ := h
  subst he
  obtain ⟨ht, h⟩ := h
  refine V_getPv hG dX4_begin_29 fl_X4_70 rfl ht (fun o8 ho => ?_)
  replace h := h o8 ho
  refine V_acmp_eq (a := o6) (b := o8) (tgt := 48) hG dX4_begin_32 (by decide) (fun c => ?_) (fun c => ?_)
  · replace h := h.1 c
    refine V_forget (lo' := [some (.ref this), some (.ref u7), none, some (.ref u2)]) ⟨rfl, ⟨rfl, ⟨rfl, trivial⟩⟩⟩ ?_
    refine V_widen (k' := 0) (n' := 0) (by first | exact Nat.le_of_ble_eq_true rfl | omega | (dsimp only; omega)) (by first | exact Nat.le_of_ble_eq_true rfl | omega | (dsimp only; omega)) ?_
    exact wv_X4_begin_48 hl hG  _ _ _ _ h
  · replace h := h.2 c
    refine V_aload_n (v := .ref this) hG dX4_begin_35 rfl rfl ?_
    refine V_dup (v := .ref this) hG rfl dX4_begin_36 ?_
    obtain ⟨ht, h⟩ := h
    refine V_getI hG dX4_begin_37 fl_X4_64 rfl ht ?_
    refine V_aload_n (v := .ref this) hG dX4_begin_40 rfl rfl ?_
    obtain ⟨ht, h⟩ := h
    refine V_getI hG dX4_begin_41 fl_X4_21 rfl ht ?_
    refine V_iadd hG dX4_begin_44 ?_
    obtain ⟨ht, h⟩ := h
    refine V_putI hG dX4_begin_45 fl_X4_64 rfl (fun e => absurd e (by decide)) rfl ht ?_
    refine V_forget (lo' := [some (.ref this), some (.ref u7), none, some (.ref u2)]) ⟨rfl, ⟨rfl, ⟨rfl, trivial⟩⟩⟩ ?_
    refine V_widen (k' := 0) (n' := 0) (by first | exact Nat.le_of_ble_eq_true rfl | omega | (dsimp only; omega)) (by first | exact Nat.le_of_ble_eq_true rfl | omega | (dsimp only; omega)) ?_
    exact wv_X4_begin_48 hl hG  _ _ _ _ h
def wp_X1_begin_42  (v1 : Nat) (v2 : Option Nat) (v4 : Option Nat) (v5 : Nat) (σ : Sg) (Post : Rs → Sg → Prop) : Prop := ∃ u1, v2 = some u1 ∧ u1 % 32 = 4 ∧ wp_X4_begin u1 (some v1) v4 (some v5) σ (KV (fun σ2 => Post (.inl none) σ2) (fun E σ2 => Post (.inr E) σ2))
set_option maxRecDepth 100000 in
set_option maxHeartbeats 4000000 in
theorem wv_X1_begin_42 {L9 : Launch} {G : Cx} {Post : Rs → Sg → Prop} (hl : L9.stackTraces = false) (hG : CX L9 G yX1_begin cX1_begin 6 none [] { frames := 4, cells := 0, slots := 0, locals := 96 })   : ∀ (v1 : Nat) (v2 : Option Nat) (v4 : Option Nat) (v5 : Nat) (σ : Sg), wp_X1_begin_42 v1 v2 v4 v5 σ Post → V G (QM G 0 0 Post) 42 [none, some (.ref v1), some (va_rf v2), none, some (va_rf v4), some (.ref v5)] [] σ 0 0 := by
  intro v1 v2 v4 v5 σ h
  unfold wp_X1_begin_42 at h
  refine V_aload_n (v := va_rf v2) hG dX1_begin_42 (isRef_rf _) rfl ?_
  refine V_aload_n (v := .ref v1) hG dX1_begin_43 rfl rfl ?_
  refine V_aload (v := va_rf v4) hG dX1_begin_44 (isRef_rf _) rfl ?_
  refine V_aload (v := .ref v5) hG dX1_begin_46 rfl rfl ?_
  obtain ⟨u1, he, h⟩ := h
  subst he
  obtain ⟨ht, h⟩ := h
  refine V_cVV _ _ hG dX1_begin_48 (ct_X4_begin hl h) mv_X4_begin ml_X1_235 ht rfl rfl rfl rfl (by first | exact Nat.le_of_ble_eq_true rfl | (simp only [List.map_cons, List.map_nil, List.sum_cons, List.sum_nil, cat_rf]; exact Nat.le_of_ble_eq_true rfl)) (Nat.le_of_ble_eq_true rfl) (Nat.le_of_ble_eq_true rfl) (by first | exact Nat.le_of_ble_eq_true rfl | omega | (dsimp only; omega)) (by first | exact Nat.le_of_ble_eq_true rfl | omega | (dsimp only; omega)) ?_ (fun σ2 h9 => ?_)
  · exact fun E σ2 hx => VX_out hG (by first | exact Nat.le_of_ble_eq_true rfl | omega | (dsimp only; omega)) (by first | exact Nat.le_of_ble_eq_true rfl | omega | (dsimp only; omega)) hx
  · replace h := h9
    clear h9
    exact V_vret hG dX1_begin_51 (by first | exact Nat.le_of_ble_eq_true rfl | omega | (dsimp only; omega)) (by first | exact Nat.le_of_ble_eq_true rfl | omega | (dsimp only; omega)) h
def wp_X1_begin_22  (this : Nat) (v1 : Nat) (v2 : Option Nat) (v4 : Option Nat) (s0 : Option Nat) (σ : Sg) (Post : Rs → Sg → Prop) : Prop := ((s0 = none → Post (.inl none) σ) ∧ (∀ u1, s0 = some u1 → v1 % 32 = 0 ∧ wp_X0_takesParts v1 σ (KI (fun x3 σ2 => ((x3 = 0 → (wp_X1_begin_42 v1 v2 v4 u1 σ2 Post)) ∧ (¬ x3 = 0 → this % 32 = 1 ∧ wp_X1_takeParts this (some v1) σ2 (KV (fun σ4 => (wp_X1_begin_42 v1 v2 v4 u1 σ4 Post)) (fun E σ4 => Post (.inr E) σ4))))) (fun E σ2 => Post (.inr E) σ2))))
set_option maxRecDepth 100000 in
set_option maxHeartbeats 4000000 in
theorem wv_X1_begin_22 {L9 : Launch} {G : Cx} {Post : Rs → Sg → Prop} (hl : L9.stackTraces = false) (hG : CX L9 G yX1_begin cX1_begin 6 none [] { frames := 4, cells := 0, slots := 0, locals := 96 })   : ∀ (this : Nat) (v1 : Nat) (v2 : Option Nat) (v4 : Option Nat) (s0 : Option Nat) (σ : Sg), wp_X1_begin_22 this v1 v2 v4 s0 σ Post → V G (QM G 0 0 Post) 22 [some (.ref this), some (.ref v1), some (va_rf v2), none, some (va_rf v4), none] [va_rf s0] σ 0 0 := by
  intro this v1 v2 v4 s0 σ h
  unfold wp_X1_begin_22 at h
  refine V_astore hG dX1_begin_22 (isRef_rf _) (Nat.le_of_ble_eq_true rfl) (hpV rfl (cat_rf _)) ?_
  refine V_aload (v := va_rf s0) hG dX1_begin_24 (isRef_rf _) rfl ?_
  refine V_ifnonnull (o := s0) (tgt := 30) hG dX1_begin_26 (by decide) (fun c => ?_) (fun c => ?_)
  · obtain ⟨u1, c⟩ := c
    replace h := h.2 u1 c
    subst c
    refine V_aload_n (v := .ref v1) hG dX1_begin_30 rfl rfl ?_
    obtain ⟨ht, h⟩ := h
    refine V_cVI _ _ hG dX1_begin_31 (ct_X0_takesParts hl h) mv_X0_takesParts ml_X1_218 ht rfl rfl rfl rfl (by first | exact Nat.le_of_ble_eq_true rfl | (simp only [List.map_cons, List.map_nil, List.sum_cons, List.sum_nil, cat_rf]; exact Nat.le_of_ble_eq_true rfl)) (Nat.le_of_ble_eq_true rfl) (Nat.le_of_ble_eq_true rfl) (by first | exact Nat.le_of_ble_eq_true rfl | omega | (dsimp only; omega)) (by first | exact Nat.le_of_ble_eq_true rfl | omega | (dsimp only; omega)) ?_ (fun x3 σ2 h9 => ?_)
    · exact fun E σ2 hx => VX_out hG (by first | exact Nat.le_of_ble_eq_true rfl | omega | (dsimp only; omega)) (by first | exact Nat.le_of_ble_eq_true rfl | omega | (dsimp only; omega)) hx
    · replace h := h9
      clear h9
      refine V_if_eq (tgt := 42) hG dX1_begin_34 (by decide) (fun c => ?_) (fun c => ?_)
      · replace h := h.1 c
        refine V_forget (lo' := [none, some (.ref v1), some (va_rf v2), none, some (va_rf v4), some (.ref u1)]) ⟨rfl, ⟨rfl, ⟨rfl, ⟨rfl, trivial⟩⟩⟩⟩ ?_
        refine V_widen (k' := 0) (n' := 0) (by first | exact Nat.le_of_ble_eq_true rfl | omega | (dsimp only; omega)) (by first | exact Nat.le_of_ble_eq_true rfl | omega | (dsimp only; omega)) ?_
        exact wv_X1_begin_42 hl hG  _ _ _ _ _ h
      · replace h := h.2 c
        refine V_aload_n (v := .ref this) hG dX1_begin_37 rfl rfl ?_
        refine V_aload_n (v := .ref v1) hG dX1_begin_38 rfl rfl ?_
        obtain ⟨ht, h⟩ := h
        refine V_cVV _ _ hG dX1_begin_39 (ct_X1_takeParts hl h) mv_X1_takeParts ml_X1_232 ht rfl rfl rfl rfl (by first | exact Nat.le_of_ble_eq_true rfl | (simp only [List.map_cons, List.map_nil, List.sum_cons, List.sum_nil, cat_rf]; exact Nat.le_of_ble_eq_true rfl)) (Nat.le_of_ble_eq_true rfl) (Nat.le_of_ble_eq_true rfl) (by first | exact Nat.le_of_ble_eq_true rfl | omega | (dsimp only; omega)) (by first | exact Nat.le_of_ble_eq_true rfl | omega | (dsimp only; omega)) ?_ (fun σ4 h9 => ?_)
        · exact fun E σ4 hx => VX_out hG (by first | exact Nat.le_of_ble_eq_true rfl | omega | (dsimp only; omega)) (by first | exact Nat.le_of_ble_eq_true rfl | omega | (dsimp only; omega)) hx
        · replace h := h9
          clear h9
          refine V_forget (lo' := [none, some (.ref v1), some (va_rf v2), none, some (va_rf v4), some (.ref u1)]) ⟨rfl, ⟨rfl, ⟨rfl, ⟨rfl, trivial⟩⟩⟩⟩ ?_
          refine V_widen (k' := 0) (n' := 0) (by first | exact Nat.le_of_ble_eq_true rfl | omega | (dsimp only; omega)) (by first | exact Nat.le_of_ble_eq_true rfl | omega | (dsimp only; omega)) ?_
          exact wv_X1_begin_42 hl hG  _ _ _ _ _ h
  · replace h := h.1 c
    subst c
    exact V_vret hG dX1_begin_29 (by first | exact Nat.le_of_ble_eq_true rfl | omega | (dsimp only; omega)) (by first | exact Nat.le_of_ble_eq_true rfl | omega | (dsimp only; omega)) h
def wp_X1_begin (this : Nat) (a0 : Option Nat) (a1 : Option Nat) (a2 : Int32) (σ : Sg) (Post : Rs → Sg → Prop) : Prop := ∃ u1, a0 = some u1 ∧ u1 % 32 = 0 ∧ wp_X0_operationNow u1 σ (KO (fun x3 σ2 => ((x3 = none → (wp_X1_begin_22 this u1 a1 none none σ2 Post)) ∧ (∀ u4, x3 = some u4 → this % 32 = 1 ∧ wp_X1_personFor this (some u4) a2 σ2 (KO (fun x6 σ5 => (wp_X1_begin_22 this u1 a1 (some u4) x6 σ5 Post)) (fun E σ5 => Post (.inr E) σ5))))) (fun E σ2 => Post (.inr E) σ2))
set_option maxRecDepth 100000 in
set_option maxHeartbeats 4000000 in
theorem ct_X1_begin {l : Launch} (hl : l.stackTraces = false) {this : Nat} {a0 : Option Nat} {a1 : Option Nat} {a2 : Int32} {σ : Sg} {Post : Rs → Sg → Prop} (h : wp_X1_begin this a0 a1 a2 σ Post) : Ct l yX1_begin (.code yX1_begin cX1_begin 6 none) 4 96 0 0 [.ref this, va_rf a0, va_rf a1, .int a2] σ Post := by
  refine Ct_of [some (.ref this), some (va_rf a0), some (va_rf a1), some (.int a2), none, none] hl (by decide +kernel) rfl (fun ad => by cases a0 <;> cases a1 <;> rfl) (fun ad => by cases a0 <;> cases a1 <;> exact Nat.le_of_ble_eq_true rfl) (fun v hv => mem_lo hv rfl) ?_
  intro G hG
  unfold wp_X1_begin at h
  refine V_aload_n (v := va_rf a0) hG dX1_begin_0 (isRef_rf _) rfl ?_
  obtain ⟨u1, he, h⟩ := h
  subst he
  obtain ⟨ht, h⟩ := h
  refine V_cVO _ _ hG dX1_begin_1 (ct_X0_operationNow hl h) mv_X0_operationNow ml_X1_115 ht rfl rfl rfl rfl (by first | exact Nat.le_of_ble_eq_true rfl | (simp only [List.map_cons, List.map_nil, List.sum_cons, List.sum_nil, cat_rf]; exact Nat.le_of_ble_eq_true rfl)) (Nat.le_of_ble_eq_true rfl) (Nat.le_of_ble_eq_true rfl) (by first | exact Nat.le_of_ble_eq_true rfl | omega | (dsimp only; omega)) (by first | exact Nat.le_of_ble_eq_true rfl | omega | (dsimp only; omega)) ?_ (fun x3 σ2 h9 => ?_)
  · exact fun E σ2 hx => VX_out hG (by first | exact Nat.le_of_ble_eq_true rfl | omega | (dsimp only; omega)) (by first | exact Nat.le_of_ble_eq_true rfl | omega | (dsimp only; omega)) hx
  · replace h := h9
    clear h9
    refine V_astore hG dX1_begin_4 (isRef_rf _) (Nat.le_of_ble_eq_true rfl) (hpV rfl rfl) ?_
    refine V_aload (v := va_rf x3) hG dX1_begin_6 (isRef_rf _) rfl ?_
    refine V_ifnonnull (o := x3) (tgt := 15) hG dX1_begin_8 (by decide) (fun c => ?_) (fun c => ?_)
    · obtain ⟨u4, c⟩ := c
      replace h := h.2 u4 c
      subst c
      refine V_aload_n (v := .ref this) hG dX1_begin_15 rfl rfl ?_
      refine V_aload (v := .ref u4) hG dX1_begin_16 rfl rfl ?_
      refine V_iload_n hG dX1_begin_18 rfl ?_
      obtain ⟨ht, h⟩ := h
      refine V_cVO _ _ hG dX1_begin_19 (ct_X1_personFor hl h) mv_X1_personFor ml_X1_214 ht rfl rfl rfl rfl (by first | exact Nat.le_of_ble_eq_true rfl | (simp only [List.map_cons, List.map_nil, List.sum_cons, List.sum_nil, cat_rf]; exact Nat.le_of_ble_eq_true rfl)) (Nat.le_of_ble_eq_true rfl) (Nat.le_of_ble_eq_true rfl) (by first | exact Nat.le_of_ble_eq_true rfl | omega | (dsimp only; omega)) (by first | exact Nat.le_of_ble_eq_true rfl | omega | (dsimp only; omega)) ?_ (fun x6 σ5 h9 => ?_)
      · exact fun E σ5 hx => VX_out hG (by first | exact Nat.le_of_ble_eq_true rfl | omega | (dsimp only; omega)) (by first | exact Nat.le_of_ble_eq_true rfl | omega | (dsimp only; omega)) hx
      · replace h := h9
        clear h9
        refine V_forget (lo' := [some (.ref this), some (.ref u1), some (va_rf a1), none, some (va_rf (some u4)), none]) ⟨rfl, ⟨rfl, ⟨rfl, ⟨rfl, trivial⟩⟩⟩⟩ ?_
        refine V_widen (k' := 0) (n' := 0) (by first | exact Nat.le_of_ble_eq_true rfl | omega | (dsimp only; omega)) (by first | exact Nat.le_of_ble_eq_true rfl | omega | (dsimp only; omega)) ?_
        exact wv_X1_begin_22 hl hG  _ _ _ _ _ _ h
    · replace h := h.1 c
      subst c
      refine V_null hG dX1_begin_11 ?_
      refine V_goto (tgt := 22) hG dX1_begin_12 (by decide) ?_
      refine V_forget (lo' := [some (.ref this), some (.ref u1), some (va_rf a1), none, some (va_rf none), none]) ⟨rfl, ⟨rfl, ⟨rfl, ⟨rfl, trivial⟩⟩⟩⟩ ?_
      refine V_widen (k' := 0) (n' := 0) (by first | exact Nat.le_of_ble_eq_true rfl | omega | (dsimp only; omega)) (by first | exact Nat.le_of_ble_eq_true rfl | omega | (dsimp only; omega)) ?_
      exact wv_X1_begin_22 hl hG  _ _ _ _ _ _ h
def wp_X1_takeBatchAt_79 (K13 : Nat → Nat → Int32 → Option Nat → Int32 → Sg → Prop) (this : Nat) (v1 : Nat) (v2 : Int32) (v3 : Option Nat) (v4 : Int32) (σ : Sg) (Post : Rs → Sg → Prop) : Prop := (K13 this v1 v2 v3 (v4 + 1) σ)
set_option maxRecDepth 100000 in
set_option maxHeartbeats 4000000 in
theorem wv_X1_takeBatchAt_79 {L9 : Launch} {G : Cx} {Post : Rs → Sg → Prop} (hl : L9.stackTraces = false) (hG : CX L9 G yX1_takeBatchAt cX1_takeBatchAt 7 none [] { frames := 5, cells := 0, slots := 0, locals := 121 }) {K13 : Nat → Nat → Int32 → Option Nat → Int32 → Sg → Prop} (hK13 : ∀ (this : Nat) (v1 : Nat) (v2 : Int32) (v3 : Option Nat) (v4 : Int32) (ζ : Sg), K13 this v1 v2 v3 v4 ζ → V G (QM G 0 0 Post) 13 [some (.ref this), some (.ref v1), some (.int v2), some (va_rf v3), some (.int v4), none, none] [] ζ 0 0) : ∀ (this : Nat) (v1 : Nat) (v2 : Int32) (v3 : Option Nat) (v4 : Int32) (σ : Sg), wp_X1_takeBatchAt_79 K13 this v1 v2 v3 v4 σ Post → V G (QM G 0 0 Post) 79 [some (.ref this), some (.ref v1), some (.int v2), some (va_rf v3), some (.int v4), none, none] [] σ 0 0 := by
  intro this v1 v2 v3 v4 σ h
  unfold wp_X1_takeBatchAt_79 at h
  refine V_iincv (c := 1) hG dX1_takeBatchAt_79 rfl (by decide) (hpV rfl (cat_rf _)) ?_
  refine V_goto (tgt := 13) hG dX1_takeBatchAt_82 (by decide) ?_
  refine V_forget (lo' := [some (.ref this), some (.ref v1), some (.int v2), some (va_rf v3), some (.int (v4 + 1)), none, none]) ⟨rfl, ⟨rfl, ⟨rfl, ⟨rfl, ⟨rfl, trivial⟩⟩⟩⟩⟩ ?_
  exact hK13 _ _ _ _ _ _ h
def wp_X1_takeBatchAt_58 (K13 : Nat → Nat → Int32 → Option Nat → Int32 → Sg → Prop) (this : Nat) (v1 : Nat) (v2 : Int32) (v3 : Option Nat) (v4 : Int32) (v5 : Option Nat) (s0 : Int32) (σ : Sg) (Post : Rs → Sg → Prop) : Prop := ((s0 = 0 → (wp_X1_takeBatchAt_79 K13 this v1 v2 v3 v4 σ Post)) ∧ (¬ s0 = 0 → this % 32 = 1 ∧ wp_X1_reasonAgainst this v5 (some v1) v2 σ (KI (fun x2 σ1 => ((¬ x2 = 0 → (wp_X1_takeBatchAt_79 K13 this v1 v2 v3 v4 σ1 Post)) ∧ (x2 = 0 → (wp_X1_takeBatchAt_79 K13 this v1 v2 v5 v4 σ1 Post)))) (fun E σ1 => Post (.inr E) σ1))))
set_option maxRecDepth 100000 in
set_option maxHeartbeats 4000000 in
theorem wv_X1_takeBatchAt_58 {L9 : Launch} {G : Cx} {Post : Rs → Sg → Prop} (hl : L9.stackTraces = false) (hG : CX L9 G yX1_takeBatchAt cX1_takeBatchAt 7 none [] { frames := 5, cells := 0, slots := 0, locals := 121 }) {K13 : Nat → Nat → Int32 → Option Nat → Int32 → Sg → Prop} (hK13 : ∀ (this : Nat) (v1 : Nat) (v2 : Int32) (v3 : Option Nat) (v4 : Int32) (ζ : Sg), K13 this v1 v2 v3 v4 ζ → V G (QM G 0 0 Post) 13 [some (.ref this), some (.ref v1), some (.int v2), some (va_rf v3), some (.int v4), none, none] [] ζ 0 0) : ∀ (this : Nat) (v1 : Nat) (v2 : Int32) (v3 : Option Nat) (v4 : Int32) (v5 : Option Nat) (s0 : Int32) (σ : Sg), wp_X1_takeBatchAt_58 K13 this v1 v2 v3 v4 v5 s0 σ Post → V G (QM G 0 0 Post) 58 [some (.ref this), some (.ref v1), some (.int v2), some (va_rf v3), some (.int v4), some (va_rf v5), none] [.int s0] σ 0 0 := by
  intro this v1 v2 v3 v4 v5 s0 σ h
  unfold wp_X1_takeBatchAt_58 at h
  refine V_istore hG dX1_takeBatchAt_58 (Nat.le_of_ble_eq_true rfl) (hpV rfl (cat_rf _)) ?_
  refine V_iload hG dX1_takeBatchAt_60 rfl ?_
  refine V_if_eq (tgt := 79) hG dX1_takeBatchAt_62 (by decide) (fun c => ?_) (fun c => ?_)
  · replace h := h.1 c
    refine V_forget (lo' := [some (.ref this), some (.ref v1), some (.int v2), some (va_rf v3), some (.int v4), none, none]) ⟨rfl, ⟨rfl, ⟨rfl, ⟨rfl, ⟨rfl, trivial⟩⟩⟩⟩⟩ ?_
    refine V_widen (k' := 0) (n' := 0) (by first | exact Nat.le_of_ble_eq_true rfl | omega | (dsimp only; omega)) (by first | exact Nat.le_of_ble_eq_true rfl | omega | (dsimp only; omega)) ?_
    exact wv_X1_takeBatchAt_79 hl hG hK13 _ _ _ _ _ _ h
  · replace h := h.2 c
    refine V_aload_n (v := .ref this) hG dX1_takeBatchAt_65 rfl rfl ?_
    refine V_aload (v := va_rf v5) hG dX1_takeBatchAt_66 (isRef_rf _) rfl ?_
    refine V_aload_n (v := .ref v1) hG dX1_takeBatchAt_68 rfl rfl ?_
    refine V_iload_n hG dX1_takeBatchAt_69 rfl ?_
    obtain ⟨ht, h⟩ := h
    refine V_cVI _ _ hG dX1_takeBatchAt_70 (ct_X1_reasonAgainst hl h) mv_X1_reasonAgainst ml_X1_200 ht rfl rfl rfl rfl (by first | exact Nat.le_of_ble_eq_true rfl | (simp only [List.map_cons, List.map_nil, List.sum_cons, List.sum_nil, cat_rf]; exact Nat.le_of_ble_eq_true rfl)) (Nat.le_of_ble_eq_true rfl) (Nat.le_of_ble_eq_true rfl) (by first | exact Nat.le_of_ble_eq_true rfl | omega | (dsimp only; omega)) (by first | exact Nat.le_of_ble_eq_true rfl | omega | (dsimp only; omega)) ?_ (fun x2 σ1 h9 => ?_)
    · exact fun E σ1 hx => VX_out hG (by first | exact Nat.le_of_ble_eq_true rfl | omega | (dsimp only; omega)) (by first | exact Nat.le_of_ble_eq_true rfl | omega | (dsimp only; omega)) hx
    · replace h := h9
      clear h9
      refine V_if_ne (tgt := 79) hG dX1_takeBatchAt_73 (by decide) (fun c => ?_) (fun c => ?_)
      · replace h := h.1 c
        refine V_forget (lo' := [some (.ref this), some (.ref v1), some (.int v2), some (va_rf v3), some (.int v4), none, none]) ⟨rfl, ⟨rfl, ⟨rfl, ⟨rfl, ⟨rfl, trivial⟩⟩⟩⟩⟩ ?_
        refine V_widen (k' := 0) (n' := 0) (by first | exact Nat.le_of_ble_eq_true rfl | omega | (dsimp only; omega)) (by first | exact Nat.le_of_ble_eq_true rfl | omega | (dsimp only; omega)) ?_
        exact wv_X1_takeBatchAt_79 hl hG hK13 _ _ _ _ _ _ h
      · replace h := h.2 c
        refine V_aload (v := va_rf v5) hG dX1_takeBatchAt_76 (isRef_rf _) rfl ?_
        refine V_astore_n hG dX1_takeBatchAt_78 (isRef_rf _) (Nat.le_of_ble_eq_true rfl) (hpV rfl rfl) ?_
        refine V_forget (lo' := [some (.ref this), some (.ref v1), some (.int v2), some (va_rf v5), some (.int v4), none, none]) ⟨rfl, ⟨rfl, ⟨rfl, ⟨rfl, ⟨rfl, trivial⟩⟩⟩⟩⟩ ?_
        refine V_widen (k' := 0) (n' := 0) (by first | exact Nat.le_of_ble_eq_true rfl | omega | (dsimp only; omega)) (by first | exact Nat.le_of_ble_eq_true rfl | omega | (dsimp only; omega)) ?_
        exact wv_X1_takeBatchAt_79 hl hG hK13 _ _ _ _ _ _ h
def wp_X1_takeBatchAt_53 (K13 : Nat → Nat → Int32 → Option Nat → Int32 → Sg → Prop) (this : Nat) (v1 : Nat) (v2 : Int32) (v3 : Option Nat) (v4 : Int32) (v5 : Option Nat) (σ : Sg) (Post : Rs → Sg → Prop) : Prop := (wp_X1_takeBatchAt_58 K13 this v1 v2 v3 v4 v5 (1 : Int32) σ Post)
set_option maxRecDepth 100000 in
set_option maxHeartbeats 4000000 in
theorem wv_X1_takeBatchAt_53 {L9 : Launch} {G : Cx} {Post : Rs → Sg → Prop} (hl : L9.stackTraces = false) (hG : CX L9 G yX1_takeBatchAt cX1_takeBatchAt 7 none [] { frames := 5, cells := 0, slots := 0, locals := 121 }) {K13 : Nat → Nat → Int32 → Option Nat → Int32 → Sg → Prop} (hK13 : ∀ (this : Nat) (v1 : Nat) (v2 : Int32) (v3 : Option Nat) (v4 : Int32) (ζ : Sg), K13 this v1 v2 v3 v4 ζ → V G (QM G 0 0 Post) 13 [some (.ref this), some (.ref v1), some (.int v2), some (va_rf v3), some (.int v4), none, none] [] ζ 0 0) : ∀ (this : Nat) (v1 : Nat) (v2 : Int32) (v3 : Option Nat) (v4 : Int32) (v5 : Option Nat) (σ : Sg), wp_X1_takeBatchAt_53 K13 this v1 v2 v3 v4 v5 σ Post → V G (QM G 0 0 Post) 53 [some (.ref this), some (.ref v1), some (.int v2), some (va_rf v3), some (.int v4), some (va_rf v5), none] [] σ 0 0 := by
  intro this v1 v2 v3 v4 v5 σ h
  unfold wp_X1_takeBatchAt_53 at h
  refine V_iconst (v := 1) hG (by decide) dX1_takeBatchAt_53 ?_
  refine V_goto (tgt := 58) hG dX1_takeBatchAt_54 (by decide) ?_
  refine V_forget (lo' := [some (.ref this), some (.ref v1), some (.int v2), some (va_rf v3), some (.int v4), some (va_rf v5), none]) ⟨rfl, ⟨rfl, ⟨rfl, ⟨rfl, ⟨rfl, ⟨rfl, trivial⟩⟩⟩⟩⟩⟩ ?_
  refine V_widen (k' := 0) (n' := 0) (by first | exact Nat.le_of_ble_eq_true rfl | omega | (dsimp only; omega)) (by first | exact Nat.le_of_ble_eq_true rfl | omega | (dsimp only; omega)) ?_
  exact wv_X1_takeBatchAt_58 hl hG hK13 _ _ _ _ _ _ _ _ h
def wp_X1_takeBatchAt_13  : Nat → Nat → Nat → Int32 → Option Nat → Int32 → Sg → (Rs → Sg → Prop) → Prop
  | 0, _, _, _, _, _, _, _ => False
  | f + 1, this, v1, v2, v3, v4, σ, Post => this % 32 = 1 ∧ ∀ o1, o1 = sP σ this 0 → ∃ u2, o1 = some u2 ∧ u2 % 32 = 8 ∧ (((sI σ u2 1) ≤ v4 → ((v3 = none → Post (.inl none) σ) ∧ (∀ u3, v3 = some u3 → this % 32 = 1 ∧ wp_X1_begin this (some u3) (some v1) v2 σ (KV (fun σ4 => Post (.inl none) σ4) (fun E σ4 => Post (.inr E) σ4))))) ∧ (¬ (sI σ u2 1) ≤ v4 → this % 32 = 1 ∧ ∀ o5, o5 = sP σ this 0 → ∃ u6, o5 = some u6 ∧ u6 % 32 = 8 ∧ ∀ o7, o7 = sP σ u6 0 → ∃ u8, o7 = some u8 ∧ isRow u8 ∧ ∃ j9, v4 = nI j9 ∧ j9 < aln u8 ∧ ∀ o10, o10 = sP σ u8 j9 → ((v3 = none → (wp_X1_takeBatchAt_53 (fun z0 z1 z2 z3 z4 ζ => wp_X1_takeBatchAt_13 f z0 z1 z2 z3 z4 ζ Post) this v1 v2 none v4 o10 σ Post)) ∧ (∀ u11, v3 = some u11 → ∃ u12, o10 = some u12 ∧ u12 % 32 = 0 ∧ u11 % 32 = 0 ∧ (((sI σ u12 6) ≤ (sI σ u11 6) → (wp_X1_takeBatchAt_58 (fun z0 z1 z2 z3 z4 ζ => wp_X1_takeBatchAt_13 f z0 z1 z2 z3 z4 ζ Post) this v1 v2 (some u11) v4 (some u12) (0 : Int32) σ Post)) ∧ (¬ (sI σ u12 6) ≤ (sI σ u11 6) → (wp_X1_takeBatchAt_53 (fun z0 z1 z2 z3 z4 ζ => wp_X1_takeBatchAt_13 f z0 z1 z2 z3 z4 ζ Post) this v1 v2 (some u11) v4 (some u12) σ Post)))))))
set_option maxRecDepth 100000 in
set_option maxHeartbeats 4000000 in
theorem wv_X1_takeBatchAt_13 {L9 : Launch} {G : Cx} {Post : Rs → Sg → Prop} (hl : L9.stackTraces = false) (hG : CX L9 G yX1_takeBatchAt cX1_takeBatchAt 7 none [] { frames := 5, cells := 0, slots := 0, locals := 121 })   : ∀ (f : Nat) (this : Nat) (v1 : Nat) (v2 : Int32) (v3 : Option Nat) (v4 : Int32) (σ : Sg), wp_X1_takeBatchAt_13 f this v1 v2 v3 v4 σ Post → V G (QM G 0 0 Post) 13 [some (.ref this), some (.ref v1), some (.int v2), some (va_rf v3), some (.int v4), none, none] [] σ 0 0 := by
  intro f
  induction f with
  | zero => intro _ _ _ _ _ σ h; exact h.elim
  | succ f ih =>
    intro this v1 v2 v3 v4 σ h
    refine V_iload hG dX1_takeBatchAt_13 rfl ?_
    refine V_aload_n (v := .ref this) hG dX1_takeBatchAt_15 rfl rfl ?_
    obtain ⟨ht, h⟩ := h
    refine V_getPv hG dX1_takeBatchAt_16 fl_X1_12 rfl ht (fun o1 ho => ?_)
    replace h := h o1 ho
    obtain ⟨u2, he, h⟩ := h
    subst he
    obtain ⟨ht, h⟩ := h
    refine V_getI hG dX1_takeBatchAt_19 fl_X1_190 rfl ht ?_
    refine V_icmp_ge (tgt := 85) hG dX1_takeBatchAt_22 (by decide) (fun c => ?_) (fun c => ?_)
    · replace h := h.1 c
      refine V_aload_n (v := va_rf v3) hG dX1_takeBatchAt_85 (isRef_rf _) rfl ?_
      refine V_ifnull (o := v3) (tgt := 96) hG dX1_takeBatchAt_86 (by decide) (fun c => ?_) (fun c => ?_)
      · replace h := h.1 c
        subst c
        exact V_vret hG dX1_takeBatchAt_96 (by first | exact Nat.le_of_ble_eq_true rfl | omega | (dsimp only; omega)) (by first | exact Nat.le_of_ble_eq_true rfl | omega | (dsimp only; omega)) h
      · obtain ⟨u3, c⟩ := c
        replace h := h.2 u3 c
        subst c
        refine V_aload_n (v := .ref this) hG dX1_takeBatchAt_89 rfl rfl ?_
        refine V_aload_n (v := .ref u3) hG dX1_takeBatchAt_90 rfl rfl ?_
        refine V_aload_n (v := .ref v1) hG dX1_takeBatchAt_91 rfl rfl ?_
        refine V_iload_n hG dX1_takeBatchAt_92 rfl ?_
        obtain ⟨ht, h⟩ := h
        refine V_cVV _ _ hG dX1_takeBatchAt_93 (ct_X1_begin hl h) mv_X1_begin ml_X1_204 ht rfl rfl rfl rfl (by first | exact Nat.le_of_ble_eq_true rfl | (simp only [List.map_cons, List.map_nil, List.sum_cons, List.sum_nil, cat_rf]; exact Nat.le_of_ble_eq_true rfl)) (Nat.le_of_ble_eq_true rfl) (Nat.le_of_ble_eq_true rfl) (by first | exact Nat.le_of_ble_eq_true rfl | omega | (dsimp only; omega)) (by first | exact Nat.le_of_ble_eq_true rfl | omega | (dsimp only; omega)) ?_ (fun σ4 h9 => ?_)
        · exact fun E σ4 hx => VX_out hG (by first | exact Nat.le_of_ble_eq_true rfl | omega | (dsimp only; omega)) (by first | exact Nat.le_of_ble_eq_true rfl | omega | (dsimp only; omega)) hx
        · replace h := h9
          clear h9
          exact V_vret hG dX1_takeBatchAt_96 (by first | exact Nat.le_of_ble_eq_true rfl | omega | (dsimp only; omega)) (by first | exact Nat.le_of_ble_eq_true rfl | omega | (dsimp only; omega)) h
    · replace h := h.2 c
      refine V_aload_n (v := .ref this) hG dX1_takeBatchAt_25 rfl rfl ?_
      obtain ⟨ht, h⟩ := h
      refine V_getPv hG dX1_takeBatchAt_26 fl_X1_12 rfl ht (fun o5 ho => ?_)
      replace h := h o5 ho
      obtain ⟨u6, he, h⟩ := h
      subst he
      obtain ⟨ht, h⟩ := h
      refine V_getPv hG dX1_takeBatchAt_29 fl_X1_193 rfl ht (fun o7 ho => ?_)
      replace h := h o7 ho
      refine V_iload hG dX1_takeBatchAt_32 rfl ?_
      obtain ⟨u8, he, h⟩ := h
      subst he
      obtain ⟨ha, j9, hi, hj, h⟩ := h
      refine V_aaldv hG dX1_takeBatchAt_34 ha hi hj (fun o10 ho => ?_)
      replace h := h o10 ho
      refine V_astore hG dX1_takeBatchAt_35 (isRef_rf _) (Nat.le_of_ble_eq_true rfl) (hpV rfl rfl) ?_
      refine V_aload_n (v := va_rf v3) hG dX1_takeBatchAt_37 (isRef_rf _) rfl ?_
      refine V_ifnull (o := v3) (tgt := 53) hG dX1_takeBatchAt_38 (by decide) (fun c => ?_) (fun c => ?_)
      · replace h := h.1 c
        subst c
        refine V_forget (lo' := [some (.ref this), some (.ref v1), some (.int v2), some (va_rf none), some (.int v4), some (va_rf o10), none]) ⟨rfl, ⟨rfl, ⟨rfl, ⟨rfl, ⟨rfl, ⟨rfl, trivial⟩⟩⟩⟩⟩⟩ ?_
        refine V_widen (k' := 0) (n' := 0) (by first | exact Nat.le_of_ble_eq_true rfl | omega | (dsimp only; omega)) (by first | exact Nat.le_of_ble_eq_true rfl | omega | (dsimp only; omega)) ?_
        exact wv_X1_takeBatchAt_53 hl hG (fun z0 z1 z2 z3 z4 ζ hz => ih z0 z1 z2 z3 z4 ζ hz) _ _ _ _ _ _ _ h
      · obtain ⟨u11, c⟩ := c
        replace h := h.2 u11 c
        subst c
        refine V_aload (v := va_rf o10) hG dX1_takeBatchAt_41 (isRef_rf _) rfl ?_
        obtain ⟨u12, he, h⟩ := h
        subst he
        obtain ⟨ht, h⟩ := h
        refine V_getI hG dX1_takeBatchAt_43 fl_X1_197 rfl ht ?_
        refine V_aload_n (v := .ref u11) hG dX1_takeBatchAt_46 rfl rfl ?_
        obtain ⟨ht, h⟩ := h
        refine V_getI hG dX1_takeBatchAt_47 fl_X1_197 rfl ht ?_
        refine V_icmp_le (tgt := 57) hG dX1_takeBatchAt_50 (by decide) (fun c => ?_) (fun c => ?_)
        · replace h := h.1 c
          refine V_iconst (v := 0) hG (by decide) dX1_takeBatchAt_57 ?_
          refine V_forget (lo' := [some (.ref this), some (.ref v1), some (.int v2), some (va_rf (some u11)), some (.int v4), some (va_rf (some u12)), none]) ⟨rfl, ⟨rfl, ⟨rfl, ⟨rfl, ⟨rfl, ⟨rfl, trivial⟩⟩⟩⟩⟩⟩ ?_
          refine V_widen (k' := 0) (n' := 0) (by first | exact Nat.le_of_ble_eq_true rfl | omega | (dsimp only; omega)) (by first | exact Nat.le_of_ble_eq_true rfl | omega | (dsimp only; omega)) ?_
          exact wv_X1_takeBatchAt_58 hl hG (fun z0 z1 z2 z3 z4 ζ hz => ih z0 z1 z2 z3 z4 ζ hz) _ _ _ _ _ _ _ _ h
        · replace h := h.2 c
          refine V_forget (lo' := [some (.ref this), some (.ref v1), some (.int v2), some (va_rf (some u11)), some (.int v4), some (va_rf (some u12)), none]) ⟨rfl, ⟨rfl, ⟨rfl, ⟨rfl, ⟨rfl, ⟨rfl, trivial⟩⟩⟩⟩⟩⟩ ?_
          refine V_widen (k' := 0) (n' := 0) (by first | exact Nat.le_of_ble_eq_true rfl | omega | (dsimp only; omega)) (by first | exact Nat.le_of_ble_eq_true rfl | omega | (dsimp only; omega)) ?_
          exact wv_X1_takeBatchAt_53 hl hG (fun z0 z1 z2 z3 z4 ζ hz => ih z0 z1 z2 z3 z4 ζ hz) _ _ _ _ _ _ _ h
def wp_X1_takeBatchAt (this : Nat) (a0 : Option Nat) (a1 : Int32) (σ : Sg) (Post : Rs → Sg → Prop) : Prop := ∃ u1, a0 = some u1 ∧ u1 % 32 = 4 ∧ wp_X4_isReady u1 σ (KI (fun x3 σ2 => ((¬ x3 = 0 → (∃ g, wp_X1_takeBatchAt_13 g this u1 a1 none (0 : Int32) σ2 Post)) ∧ (x3 = 0 → Post (.inl none) σ2))) (fun E σ2 => Post (.inr E) σ2))
set_option maxRecDepth 100000 in
set_option maxHeartbeats 4000000 in
theorem ct_X1_takeBatchAt {l : Launch} (hl : l.stackTraces = false) {this : Nat} {a0 : Option Nat} {a1 : Int32} {σ : Sg} {Post : Rs → Sg → Prop} (h : wp_X1_takeBatchAt this a0 a1 σ Post) : Ct l yX1_takeBatchAt (.code yX1_takeBatchAt cX1_takeBatchAt 7 none) 5 121 0 0 [.ref this, va_rf a0, .int a1] σ Post := by
  refine Ct_of [some (.ref this), some (va_rf a0), some (.int a1), none, none, none, none] hl (by decide +kernel) rfl (fun ad => by cases a0 <;> rfl) (fun ad => by cases a0 <;> exact Nat.le_of_ble_eq_true rfl) (fun v hv => mem_lo hv rfl) ?_
  intro G hG
  unfold wp_X1_takeBatchAt at h
  refine V_aload_n (v := va_rf a0) hG dX1_takeBatchAt_0 (isRef_rf _) rfl ?_
  obtain ⟨u1, he, h⟩ := h
  subst he
  obtain ⟨ht, h⟩ := h
  refine V_cVI _ _ hG dX1_takeBatchAt_1 (ct_X4_isReady hl h) mv_X4_isReady ml_X1_186 ht rfl rfl rfl rfl (by first | exact Nat.le_of_ble_eq_true rfl | (simp only [List.map_cons, List.map_nil, List.sum_cons, List.sum_nil, cat_rf]; exact Nat.le_of_ble_eq_true rfl)) (Nat.le_of_ble_eq_true rfl) (Nat.le_of_ble_eq_true rfl) (by first | exact Nat.le_of_ble_eq_true rfl | omega | (dsimp only; omega)) (by first | exact Nat.le_of_ble_eq_true rfl | omega | (dsimp only; omega)) ?_ (fun x3 σ2 h9 => ?_)
  · exact fun E σ2 hx => VX_out hG (by first | exact Nat.le_of_ble_eq_true rfl | omega | (dsimp only; omega)) (by first | exact Nat.le_of_ble_eq_true rfl | omega | (dsimp only; omega)) hx
  · replace h := h9
    clear h9
    refine V_if_ne (tgt := 8) hG dX1_takeBatchAt_4 (by decide) (fun c => ?_) (fun c => ?_)
    · replace h := h.1 c
      refine V_null hG dX1_takeBatchAt_8 ?_
      refine V_astore_n hG dX1_takeBatchAt_9 rfl (Nat.le_of_ble_eq_true rfl) (hpV rfl rfl) ?_
      refine V_iconst (v := 0) hG (by decide) dX1_takeBatchAt_10 ?_
      refine V_istore hG dX1_takeBatchAt_11 (Nat.le_of_ble_eq_true rfl) (hpV rfl rfl) ?_
      refine V_forget (lo' := [some (.ref this), some (.ref u1), some (.int a1), some (va_rf none), some (.int (0 : Int32)), none, none]) ⟨rfl, ⟨rfl, ⟨rfl, ⟨rfl, ⟨rfl, trivial⟩⟩⟩⟩⟩ ?_
      obtain ⟨g, h⟩ := h
      refine V_widen (k' := 0) (n' := 0) (by first | exact Nat.le_of_ble_eq_true rfl | omega | (dsimp only; omega)) (by first | exact Nat.le_of_ble_eq_true rfl | omega | (dsimp only; omega)) ?_
      exact wv_X1_takeBatchAt_13 hl hG  g _ _ _ _ _ _ h
    · replace h := h.2 c
      exact V_vret hG dX1_takeBatchAt_7 (by first | exact Nat.le_of_ble_eq_true rfl | omega | (dsimp only; omega)) (by first | exact Nat.le_of_ble_eq_true rfl | omega | (dsimp only; omega)) h
def wp_X1_doHour_63  : Nat → Nat → Int32 → Int32 → Sg → (Rs → Sg → Prop) → Prop
  | 0, _, _, _, _, _ => False
  | f + 1, this, v1, v2, σ, Post => this % 32 = 1 ∧ (((sI σ this 2) ≤ v2 → Post (.inl none) σ) ∧ (¬ (sI σ this 2) ≤ v2 → this % 32 = 1 ∧ ∀ o1, o1 = sP σ this 1 → ∃ u2, o1 = some u2 ∧ isRow u2 ∧ ∃ j3, v2 = nI j3 ∧ j3 < aln u2 ∧ ∀ o4, o4 = sP σ u2 j3 → this % 32 = 1 ∧ wp_X1_takeBatchAt this o4 v1 σ (KV (fun σ5 => (wp_X1_doHour_63 f this v1 (v2 + 1) σ5 Post)) (fun E σ5 => Post (.inr E) σ5))))
set_option maxRecDepth 100000 in
set_option maxHeartbeats 4000000 in
theorem wv_X1_doHour_63 {L9 : Launch} {G : Cx} {Post : Rs → Sg → Prop} (hl : L9.stackTraces = false) (hG : CX L9 G yX1_doHour cX1_doHour 3 none [] { frames := 6, cells := 0, slots := 0, locals := 147 })   : ∀ (f : Nat) (this : Nat) (v1 : Int32) (v2 : Int32) (σ : Sg), wp_X1_doHour_63 f this v1 v2 σ Post → V G (QM G 0 0 Post) 63 [some (.ref this), some (.int v1), some (.int v2)] [] σ 0 0 := by
  intro f
  induction f with
  | zero => intro _ _ _ σ h; exact h.elim
  | succ f ih =>
    intro this v1 v2 σ h
    refine V_iload_n hG dX1_doHour_63 rfl ?_
    refine V_aload_n (v := .ref this) hG dX1_doHour_64 rfl rfl ?_
    obtain ⟨ht, h⟩ := h
    refine V_getI hG dX1_doHour_65 fl_X1_30 rfl ht ?_
    refine V_icmp_ge (tgt := 88) hG dX1_doHour_68 (by decide) (fun c => ?_) (fun c => ?_)
    · replace h := h.1 c
      exact V_vret hG dX1_doHour_88 (by first | exact Nat.le_of_ble_eq_true rfl | omega | (dsimp only; omega)) (by first | exact Nat.le_of_ble_eq_true rfl | omega | (dsimp only; omega)) h
    · replace h := h.2 c
      refine V_aload_n (v := .ref this) hG dX1_doHour_71 rfl rfl ?_
      refine V_aload_n (v := .ref this) hG dX1_doHour_72 rfl rfl ?_
      obtain ⟨ht, h⟩ := h
      refine V_getPv hG dX1_doHour_73 fl_X1_20 rfl ht (fun o1 ho => ?_)
      replace h := h o1 ho
      refine V_iload_n hG dX1_doHour_76 rfl ?_
      obtain ⟨u2, he, h⟩ := h
      subst he
      obtain ⟨ha, j3, hi, hj, h⟩ := h
      refine V_aaldv hG dX1_doHour_77 ha hi hj (fun o4 ho => ?_)
      replace h := h o4 ho
      refine V_iload_n hG dX1_doHour_78 rfl ?_
      obtain ⟨ht, h⟩ := h
      refine V_cVV _ _ hG dX1_doHour_79 (ct_X1_takeBatchAt hl h) mv_X1_takeBatchAt ml_X1_58 ht rfl rfl rfl rfl (by first | exact Nat.le_of_ble_eq_true rfl | (simp only [List.map_cons, List.map_nil, List.sum_cons, List.sum_nil, cat_rf]; exact Nat.le_of_ble_eq_true rfl)) (Nat.le_of_ble_eq_true rfl) (Nat.le_of_ble_eq_true rfl) (by first | exact Nat.le_of_ble_eq_true rfl | omega | (dsimp only; omega)) (by first | exact Nat.le_of_ble_eq_true rfl | omega | (dsimp only; omega)) ?_ (fun σ5 h9 => ?_)
      · exact fun E σ5 hx => VX_out hG (by first | exact Nat.le_of_ble_eq_true rfl | omega | (dsimp only; omega)) (by first | exact Nat.le_of_ble_eq_true rfl | omega | (dsimp only; omega)) hx
      · replace h := h9
        clear h9
        refine V_iincv (c := 1) hG dX1_doHour_82 rfl (by decide) (hpV rfl rfl) ?_
        refine V_goto (tgt := 63) hG dX1_doHour_85 (by decide) ?_
        refine V_forget (lo' := [some (.ref this), some (.int v1), some (.int (v2 + 1))]) ⟨rfl, ⟨rfl, ⟨rfl, trivial⟩⟩⟩ ?_
        exact ih _ _ _ _ h
def wp_X1_doHour_37  : Nat → Nat → Int32 → Int32 → Sg → (Rs → Sg → Prop) → Prop
  | 0, _, _, _, _, _ => False
  | f + 1, this, v1, v2, σ, Post => this % 32 = 1 ∧ (((sI σ this 2) ≤ v2 → (∃ g, wp_X1_doHour_63 g this v1 (0 : Int32) σ Post)) ∧ (¬ (sI σ this 2) ≤ v2 → this % 32 = 1 ∧ ∀ o1, o1 = sP σ this 1 → ∃ u2, o1 = some u2 ∧ isRow u2 ∧ ∃ j3, v2 = nI j3 ∧ j3 < aln u2 ∧ ∀ o4, o4 = sP σ u2 j3 → this % 32 = 1 ∧ wp_X1_repairAt this o4 σ (KV (fun σ5 => (wp_X1_doHour_37 f this v1 (v2 + 1) σ5 Post)) (fun E σ5 => Post (.inr E) σ5))))
set_option maxRecDepth 100000 in
set_option maxHeartbeats 4000000 in
theorem wv_X1_doHour_37 {L9 : Launch} {G : Cx} {Post : Rs → Sg → Prop} (hl : L9.stackTraces = false) (hG : CX L9 G yX1_doHour cX1_doHour 3 none [] { frames := 6, cells := 0, slots := 0, locals := 147 })   : ∀ (f : Nat) (this : Nat) (v1 : Int32) (v2 : Int32) (σ : Sg), wp_X1_doHour_37 f this v1 v2 σ Post → V G (QM G 0 0 Post) 37 [some (.ref this), some (.int v1), some (.int v2)] [] σ 0 0 := by
  intro f
  induction f with
  | zero => intro _ _ _ σ h; exact h.elim
  | succ f ih =>
    intro this v1 v2 σ h
    refine V_iload_n hG dX1_doHour_37 rfl ?_
    refine V_aload_n (v := .ref this) hG dX1_doHour_38 rfl rfl ?_
    obtain ⟨ht, h⟩ := h
    refine V_getI hG dX1_doHour_39 fl_X1_30 rfl ht ?_
    refine V_icmp_ge (tgt := 61) hG dX1_doHour_42 (by decide) (fun c => ?_) (fun c => ?_)
    · replace h := h.1 c
      refine V_iconst (v := 0) hG (by decide) dX1_doHour_61 ?_
      refine V_istore_n hG dX1_doHour_62 (Nat.le_of_ble_eq_true rfl) (hpV rfl rfl) ?_
      refine V_forget (lo' := [some (.ref this), some (.int v1), some (.int (0 : Int32))]) ⟨rfl, ⟨rfl, ⟨rfl, trivial⟩⟩⟩ ?_
      obtain ⟨g, h⟩ := h
      refine V_widen (k' := 0) (n' := 0) (by first | exact Nat.le_of_ble_eq_true rfl | omega | (dsimp only; omega)) (by first | exact Nat.le_of_ble_eq_true rfl | omega | (dsimp only; omega)) ?_
      exact wv_X1_doHour_63 hl hG  g _ _ _ _ h
    · replace h := h.2 c
      refine V_aload_n (v := .ref this) hG dX1_doHour_45 rfl rfl ?_
      refine V_aload_n (v := .ref this) hG dX1_doHour_46 rfl rfl ?_
      obtain ⟨ht, h⟩ := h
      refine V_getPv hG dX1_doHour_47 fl_X1_20 rfl ht (fun o1 ho => ?_)
      replace h := h o1 ho
      refine V_iload_n hG dX1_doHour_50 rfl ?_
      obtain ⟨u2, he, h⟩ := h
      subst he
      obtain ⟨ha, j3, hi, hj, h⟩ := h
      refine V_aaldv hG dX1_doHour_51 ha hi hj (fun o4 ho => ?_)
      replace h := h o4 ho
      obtain ⟨ht, h⟩ := h
      refine V_cVV _ _ hG dX1_doHour_52 (ct_X1_repairAt hl h) mv_X1_repairAt ml_X1_54 ht rfl rfl rfl rfl (by first | exact Nat.le_of_ble_eq_true rfl | (simp only [List.map_cons, List.map_nil, List.sum_cons, List.sum_nil, cat_rf]; exact Nat.le_of_ble_eq_true rfl)) (Nat.le_of_ble_eq_true rfl) (Nat.le_of_ble_eq_true rfl) (by first | exact Nat.le_of_ble_eq_true rfl | omega | (dsimp only; omega)) (by first | exact Nat.le_of_ble_eq_true rfl | omega | (dsimp only; omega)) ?_ (fun σ5 h9 => ?_)
      · exact fun E σ5 hx => VX_out hG (by first | exact Nat.le_of_ble_eq_true rfl | omega | (dsimp only; omega)) (by first | exact Nat.le_of_ble_eq_true rfl | omega | (dsimp only; omega)) hx
      · replace h := h9
        clear h9
        refine V_iincv (c := 1) hG dX1_doHour_55 rfl (by decide) (hpV rfl rfl) ?_
        refine V_goto (tgt := 37) hG dX1_doHour_58 (by decide) ?_
        refine V_forget (lo' := [some (.ref this), some (.int v1), some (.int (v2 + 1))]) ⟨rfl, ⟨rfl, ⟨rfl, trivial⟩⟩⟩ ?_
        exact ih _ _ _ _ h
def wp_X1_doHour_10  : Nat → Nat → Int32 → Int32 → Sg → (Rs → Sg → Prop) → Prop
  | 0, _, _, _, _, _ => False
  | f + 1, this, v1, v2, σ, Post => this % 32 = 1 ∧ (((sI σ this 2) ≤ v2 → (∃ g, wp_X1_doHour_37 g this v1 (0 : Int32) σ Post)) ∧ (¬ (sI σ this 2) ≤ v2 → this % 32 = 1 ∧ ∀ o1, o1 = sP σ this 1 → ∃ u2, o1 = some u2 ∧ isRow u2 ∧ ∃ j3, v2 = nI j3 ∧ j3 < aln u2 ∧ ∀ o4, o4 = sP σ u2 j3 → this % 32 = 1 ∧ wp_X1_workAt this o4 v1 σ (KV (fun σ5 => (wp_X1_doHour_10 f this v1 (v2 + 1) σ5 Post)) (fun E σ5 => Post (.inr E) σ5))))
set_option maxRecDepth 100000 in
set_option maxHeartbeats 4000000 in
theorem wv_X1_doHour_10 {L9 : Launch} {G : Cx} {Post : Rs → Sg → Prop} (hl : L9.stackTraces = false) (hG : CX L9 G yX1_doHour cX1_doHour 3 none [] { frames := 6, cells := 0, slots := 0, locals := 147 })   : ∀ (f : Nat) (this : Nat) (v1 : Int32) (v2 : Int32) (σ : Sg), wp_X1_doHour_10 f this v1 v2 σ Post → V G (QM G 0 0 Post) 10 [some (.ref this), some (.int v1), some (.int v2)] [] σ 0 0 := by
  intro f
  induction f with
  | zero => intro _ _ _ σ h; exact h.elim
  | succ f ih =>
    intro this v1 v2 σ h
    refine V_iload_n hG dX1_doHour_10 rfl ?_
    refine V_aload_n (v := .ref this) hG dX1_doHour_11 rfl rfl ?_
    obtain ⟨ht, h⟩ := h
    refine V_getI hG dX1_doHour_12 fl_X1_30 rfl ht ?_
    refine V_icmp_ge (tgt := 35) hG dX1_doHour_15 (by decide) (fun c => ?_) (fun c => ?_)
    · replace h := h.1 c
      refine V_iconst (v := 0) hG (by decide) dX1_doHour_35 ?_
      refine V_istore_n hG dX1_doHour_36 (Nat.le_of_ble_eq_true rfl) (hpV rfl rfl) ?_
      refine V_forget (lo' := [some (.ref this), some (.int v1), some (.int (0 : Int32))]) ⟨rfl, ⟨rfl, ⟨rfl, trivial⟩⟩⟩ ?_
      obtain ⟨g, h⟩ := h
      refine V_widen (k' := 0) (n' := 0) (by first | exact Nat.le_of_ble_eq_true rfl | omega | (dsimp only; omega)) (by first | exact Nat.le_of_ble_eq_true rfl | omega | (dsimp only; omega)) ?_
      exact wv_X1_doHour_37 hl hG  g _ _ _ _ h
    · replace h := h.2 c
      refine V_aload_n (v := .ref this) hG dX1_doHour_18 rfl rfl ?_
      refine V_aload_n (v := .ref this) hG dX1_doHour_19 rfl rfl ?_
      obtain ⟨ht, h⟩ := h
      refine V_getPv hG dX1_doHour_20 fl_X1_20 rfl ht (fun o1 ho => ?_)
      replace h := h o1 ho
      refine V_iload_n hG dX1_doHour_23 rfl ?_
      obtain ⟨u2, he, h⟩ := h
      subst he
      obtain ⟨ha, j3, hi, hj, h⟩ := h
      refine V_aaldv hG dX1_doHour_24 ha hi hj (fun o4 ho => ?_)
      replace h := h o4 ho
      refine V_iload_n hG dX1_doHour_25 rfl ?_
      obtain ⟨ht, h⟩ := h
      refine V_cVV _ _ hG dX1_doHour_26 (ct_X1_workAt hl h) mv_X1_workAt ml_X1_50 ht rfl rfl rfl rfl (by first | exact Nat.le_of_ble_eq_true rfl | (simp only [List.map_cons, List.map_nil, List.sum_cons, List.sum_nil, cat_rf]; exact Nat.le_of_ble_eq_true rfl)) (Nat.le_of_ble_eq_true rfl) (Nat.le_of_ble_eq_true rfl) (by first | exact Nat.le_of_ble_eq_true rfl | omega | (dsimp only; omega)) (by first | exact Nat.le_of_ble_eq_true rfl | omega | (dsimp only; omega)) ?_ (fun σ5 h9 => ?_)
      · exact fun E σ5 hx => VX_out hG (by first | exact Nat.le_of_ble_eq_true rfl | omega | (dsimp only; omega)) (by first | exact Nat.le_of_ble_eq_true rfl | omega | (dsimp only; omega)) hx
      · replace h := h9
        clear h9
        refine V_iincv (c := 1) hG dX1_doHour_29 rfl (by decide) (hpV rfl rfl) ?_
        refine V_goto (tgt := 10) hG dX1_doHour_32 (by decide) ?_
        refine V_forget (lo' := [some (.ref this), some (.int v1), some (.int (v2 + 1))]) ⟨rfl, ⟨rfl, ⟨rfl, trivial⟩⟩⟩ ?_
        exact ih _ _ _ _ h
def wp_X1_doHour (this : Nat) (a0 : Int32) (σ : Sg) (Post : Rs → Sg → Prop) : Prop := this % 32 = 1 ∧ ∀ o1, o1 = sP σ this 0 → ∃ u2, o1 = some u2 ∧ u2 % 32 = 8 ∧ wp_X8_letCome u2 a0 σ (KV (fun σ3 => (∃ g, wp_X1_doHour_10 g this a0 (0 : Int32) σ3 Post)) (fun E σ3 => Post (.inr E) σ3))
set_option maxRecDepth 100000 in
set_option maxHeartbeats 4000000 in
theorem ct_X1_doHour {l : Launch} (hl : l.stackTraces = false) {this : Nat} {a0 : Int32} {σ : Sg} {Post : Rs → Sg → Prop} (h : wp_X1_doHour this a0 σ Post) : Ct l yX1_doHour (.code yX1_doHour cX1_doHour 3 none) 6 147 0 0 [.ref this, .int a0] σ Post := by
  refine Ct_of [some (.ref this), some (.int a0), none] hl (by decide +kernel) rfl (fun ad => by rfl) (fun ad => by exact Nat.le_of_ble_eq_true rfl) (fun v hv => mem_lo hv rfl) ?_
  intro G hG
  unfold wp_X1_doHour at h
  refine V_aload_n (v := .ref this) hG dX1_doHour_0 rfl rfl ?_
  obtain ⟨ht, h⟩ := h
  refine V_getPv hG dX1_doHour_1 fl_X1_12 rfl ht (fun o1 ho => ?_)
  replace h := h o1 ho
  refine V_iload_n hG dX1_doHour_4 rfl ?_
  obtain ⟨u2, he, h⟩ := h
  subst he
  obtain ⟨ht, h⟩ := h
  refine V_cVV _ _ hG dX1_doHour_5 (ct_X8_letCome hl h) mv_X8_letCome ml_X1_46 ht rfl rfl rfl rfl (by first | exact Nat.le_of_ble_eq_true rfl | (simp only [List.map_cons, List.map_nil, List.sum_cons, List.sum_nil, cat_rf]; exact Nat.le_of_ble_eq_true rfl)) (Nat.le_of_ble_eq_true rfl) (Nat.le_of_ble_eq_true rfl) (by first | exact Nat.le_of_ble_eq_true rfl | omega | (dsimp only; omega)) (by first | exact Nat.le_of_ble_eq_true rfl | omega | (dsimp only; omega)) ?_ (fun σ3 h9 => ?_)
  · exact fun E σ3 hx => VX_out hG (by first | exact Nat.le_of_ble_eq_true rfl | omega | (dsimp only; omega)) (by first | exact Nat.le_of_ble_eq_true rfl | omega | (dsimp only; omega)) hx
  · replace h := h9
    clear h9
    refine V_iconst (v := 0) hG (by decide) dX1_doHour_8 ?_
    refine V_istore_n hG dX1_doHour_9 (Nat.le_of_ble_eq_true rfl) (hpV rfl rfl) ?_
    refine V_forget (lo' := [some (.ref this), some (.int a0), some (.int (0 : Int32))]) ⟨rfl, ⟨rfl, ⟨rfl, trivial⟩⟩⟩ ?_
    obtain ⟨g, h⟩ := h
    refine V_widen (k' := 0) (n' := 0) (by first | exact Nat.le_of_ble_eq_true rfl | omega | (dsimp only; omega)) (by first | exact Nat.le_of_ble_eq_true rfl | omega | (dsimp only; omega)) ?_
    exact wv_X1_doHour_10 hl hG  g _ _ _ _ h
def wp_X1_scrap_61 (K31 : Nat → Nat → Int32 → Sg → Prop) (this : Nat) (v1 : Nat) (v2 : Int32) (σ : Sg) (Post : Rs → Sg → Prop) : Prop := (K31 this v1 (v2 + 1) σ)
set_option maxRecDepth 100000 in
set_option maxHeartbeats 4000000 in
theorem wv_X1_scrap_61 {L9 : Launch} {G : Cx} {Post : Rs → Sg → Prop} (hl : L9.stackTraces = false) (hG : CX L9 G yX1_scrap cX1_scrap 3 none [] { frames := 1, cells := 0, slots := 0, locals := 20 }) {K31 : Nat → Nat → Int32 → Sg → Prop} (hK31 : ∀ (this : Nat) (v1 : Nat) (v2 : Int32) (ζ : Sg), K31 this v1 v2 ζ → V G (QM G 0 0 Post) 31 [some (.ref this), some (.ref v1), some (.int v2)] [] ζ 0 0) : ∀ (this : Nat) (v1 : Nat) (v2 : Int32) (σ : Sg), wp_X1_scrap_61 K31 this v1 v2 σ Post → V G (QM G 0 0 Post) 61 [some (.ref this), some (.ref v1), some (.int v2)] [] σ 0 0 := by
  intro this v1 v2 σ h
  unfold wp_X1_scrap_61 at h
  refine V_iincv (c := 1) hG dX1_scrap_61 rfl (by decide) (hpV rfl rfl) ?_
  refine V_goto (tgt := 31) hG dX1_scrap_64 (by decide) ?_
  refine V_forget (lo' := [some (.ref this), some (.ref v1), some (.int (v2 + 1))]) ⟨rfl, ⟨rfl, ⟨rfl, trivial⟩⟩⟩ ?_
  exact hK31 _ _ _ _ h
def wp_X1_scrap_31  : Nat → Nat → Nat → Int32 → Sg → (Rs → Sg → Prop) → Prop
  | 0, _, _, _, _, _ => False
  | f + 1, this, v1, v2, σ, Post => this % 32 = 1 ∧ (((sI σ this 2) ≤ v2 → Post (.inl none) σ) ∧ (¬ (sI σ this 2) ≤ v2 → this % 32 = 1 ∧ ∀ o1, o1 = sP σ this 1 → ∃ u2, o1 = some u2 ∧ isRow u2 ∧ ∃ j3, v2 = nI j3 ∧ j3 < aln u2 ∧ ∀ o4, o4 = sP σ u2 j3 → ∃ u5, o4 = some u5 ∧ u5 % 32 = 4 ∧ ∀ o6, o6 = sP σ u5 7 → ((¬ o6 = (some v1) → (wp_X1_scrap_61 (fun z0 z1 z2 ζ => wp_X1_scrap_31 f z0 z1 z2 ζ Post) this v1 v2 σ Post)) ∧ (o6 = (some v1) → this % 32 = 1 ∧ ∀ o7, o7 = sP σ this 1 → ∃ u8, o7 = some u8 ∧ isRow u8 ∧ ∃ j9, v2 = nI j9 ∧ j9 < aln u8 ∧ ∀ o10, o10 = sP σ u8 j9 → ∃ u11, o10 = some u11 ∧ u11 % 32 = 4 ∧ wp_X4_letGo u11 σ (KV (fun σ12 => (wp_X1_scrap_61 (fun z0 z1 z2 ζ => wp_X1_scrap_31 f z0 z1 z2 ζ Post) this v1 v2 σ12 Post)) (fun E σ12 => Post (.inr E) σ12))))))
set_option maxRecDepth 100000 in
set_option maxHeartbeats 4000000 in
theorem wv_X1_scrap_31 {L9 : Launch} {G : Cx} {Post : Rs → Sg → Prop} (hl : L9.stackTraces = false) (hG : CX L9 G yX1_scrap cX1_scrap 3 none [] { frames := 1, cells := 0, slots := 0, locals := 20 })   : ∀ (f : Nat) (this : Nat) (v1 : Nat) (v2 : Int32) (σ : Sg), wp_X1_scrap_31 f this v1 v2 σ Post → V G (QM G 0 0 Post) 31 [some (.ref this), some (.ref v1), some (.int v2)] [] σ 0 0 := by
  intro f
  induction f with
  | zero => intro _ _ _ σ h; exact h.elim
  | succ f ih =>
    intro this v1 v2 σ h
    refine V_iload_n hG dX1_scrap_31 rfl ?_
    refine V_aload_n (v := .ref this) hG dX1_scrap_32 rfl rfl ?_
    obtain ⟨ht, h⟩ := h
    refine V_getI hG dX1_scrap_33 fl_X1_30 rfl ht ?_
    refine V_icmp_ge (tgt := 67) hG dX1_scrap_36 (by decide) (fun c => ?_) (fun c => ?_)
    · replace h := h.1 c
      exact V_vret hG dX1_scrap_67 (by first | exact Nat.le_of_ble_eq_true rfl | omega | (dsimp only; omega)) (by first | exact Nat.le_of_ble_eq_true rfl | omega | (dsimp only; omega)) h
    · replace h := h.2 c
      refine V_aload_n (v := .ref this) hG dX1_scrap_39 rfl rfl ?_
      obtain ⟨ht, h⟩ := h
      refine V_getPv hG dX1_scrap_40 fl_X1_20 rfl ht (fun o1 ho => ?_)
      replace h := h o1 ho
      refine V_iload_n hG dX1_scrap_43 rfl ?_
      obtain ⟨u2, he, h⟩ := h
      subst he
      obtain ⟨ha, j3, hi, hj, h⟩ := h
      refine V_aaldv hG dX1_scrap_44 ha hi hj (fun o4 ho => ?_)
      replace h := h o4 ho
      obtain ⟨u5, he, h⟩ := h
      subst he
      obtain ⟨ht, h⟩ := h
      refine V_getPv hG dX1_scrap_45 fl_X1_61 rfl ht (fun o6 ho => ?_)
      replace h := h o6 ho
      refine V_aload_n (v := .ref v1) hG dX1_scrap_48 rfl rfl ?_
      refine V_acmp_ne (a := o6) (b := (some v1)) (tgt := 61) hG dX1_scrap_49 (by decide) (fun c => ?_) (fun c => ?_)
      · replace h := h.1 c
        refine V_forget (lo' := [some (.ref this), some (.ref v1), some (.int v2)]) ⟨rfl, ⟨rfl, ⟨rfl, trivial⟩⟩⟩ ?_
        refine V_widen (k' := 0) (n' := 0) (by first | exact Nat.le_of_ble_eq_true rfl | omega | (dsimp only; omega)) (by first | exact Nat.le_of_ble_eq_true rfl | omega | (dsimp only; omega)) ?_
        exact wv_X1_scrap_61 hl hG (fun z0 z1 z2 ζ hz => ih z0 z1 z2 ζ hz) _ _ _ _ h
      · replace h := h.2 c
        refine V_aload_n (v := .ref this) hG dX1_scrap_52 rfl rfl ?_
        obtain ⟨ht, h⟩ := h
        refine V_getPv hG dX1_scrap_53 fl_X1_20 rfl ht (fun o7 ho => ?_)
        replace h := h o7 ho
        refine V_iload_n hG dX1_scrap_56 rfl ?_
        obtain ⟨u8, he, h⟩ := h
        subst he
        obtain ⟨ha, j9, hi, hj, h⟩ := h
        refine V_aaldv hG dX1_scrap_57 ha hi hj (fun o10 ho => ?_)
        replace h := h o10 ho
        obtain ⟨u11, he, h⟩ := h
        subst he
        obtain ⟨ht, h⟩ := h
        refine V_cVV _ _ hG dX1_scrap_58 (ct_X4_letGo hl h) mv_X4_letGo ml_X1_99 ht rfl rfl rfl rfl (by first | exact Nat.le_of_ble_eq_true rfl | (simp only [List.map_cons, List.map_nil, List.sum_cons, List.sum_nil, cat_rf]; exact Nat.le_of_ble_eq_true rfl)) (Nat.le_of_ble_eq_true rfl) (Nat.le_of_ble_eq_true rfl) (by first | exact Nat.le_of_ble_eq_true rfl | omega | (dsimp only; omega)) (by first | exact Nat.le_of_ble_eq_true rfl | omega | (dsimp only; omega)) ?_ (fun σ12 h9 => ?_)
        · exact fun E σ12 hx => VX_out hG (by first | exact Nat.le_of_ble_eq_true rfl | omega | (dsimp only; omega)) (by first | exact Nat.le_of_ble_eq_true rfl | omega | (dsimp only; omega)) hx
        · replace h := h9
          clear h9
          refine V_forget (lo' := [some (.ref this), some (.ref v1), some (.int v2)]) ⟨rfl, ⟨rfl, ⟨rfl, trivial⟩⟩⟩ ?_
          refine V_widen (k' := 0) (n' := 0) (by first | exact Nat.le_of_ble_eq_true rfl | omega | (dsimp only; omega)) (by first | exact Nat.le_of_ble_eq_true rfl | omega | (dsimp only; omega)) ?_
          exact wv_X1_scrap_61 hl hG (fun z0 z1 z2 ζ hz => ih z0 z1 z2 ζ hz) _ _ _ _ h
def wp_X1_scrap_24  (this : Nat) (v1 : Nat) (σ : Sg) (Post : Rs → Sg → Prop) : Prop := v1 % 32 = 0 ∧ (∃ g, wp_X1_scrap_31 g this v1 (0 : Int32) (wI σ v1 4 (5 : Int32)) Post)
set_option maxRecDepth 100000 in
set_option maxHeartbeats 4000000 in
theorem wv_X1_scrap_24 {L9 : Launch} {G : Cx} {Post : Rs → Sg → Prop} (hl : L9.stackTraces = false) (hG : CX L9 G yX1_scrap cX1_scrap 3 none [] { frames := 1, cells := 0, slots := 0, locals := 20 })   : ∀ (this : Nat) (v1 : Nat) (σ : Sg), wp_X1_scrap_24 this v1 σ Post → V G (QM G 0 0 Post) 24 [some (.ref this), some (.ref v1), none] [] σ 0 0 := by
  intro this v1 σ h
  unfold wp_X1_scrap_24 at h
  refine V_aload_n (v := .ref v1) hG dX1_scrap_24 rfl rfl ?_
  refine V_iconst (v := 5) hG (by decide) dX1_scrap_25 ?_
  obtain ⟨ht, h⟩ := h
  refine V_putI hG dX1_scrap_26 fl_X1_134 rfl (fun e => absurd e (by decide)) rfl ht ?_
  refine V_iconst (v := 0) hG (by decide) dX1_scrap_29 ?_
  refine V_istore_n hG dX1_scrap_30 (Nat.le_of_ble_eq_true rfl) (hpV rfl rfl) ?_
  refine V_forget (lo' := [some (.ref this), some (.ref v1), some (.int (0 : Int32))]) ⟨rfl, ⟨rfl, ⟨rfl, trivial⟩⟩⟩ ?_
  obtain ⟨g, h⟩ := h
  refine V_widen (k' := 0) (n' := 0) (by first | exact Nat.le_of_ble_eq_true rfl | omega | (dsimp only; omega)) (by first | exact Nat.le_of_ble_eq_true rfl | omega | (dsimp only; omega)) ?_
  exact wv_X1_scrap_31 hl hG  g _ _ _ _ h
def wp_X1_scrap (this : Nat) (a0 : Option Nat) (σ : Sg) (Post : Rs → Sg → Prop) : Prop := ∃ u1, a0 = some u1 ∧ u1 % 32 = 0 ∧ ((¬ (sI σ u1 4) = (3 : Int32) → (wp_X1_scrap_24 this u1 σ Post)) ∧ ((sI σ u1 4) = (3 : Int32) → u1 % 32 = 0 ∧ ∀ o2, o2 = sP σ u1 1 → ∃ u3, o2 = some u3 ∧ u3 % 32 = 2 ∧ u1 % 32 = 0 ∧ u3 % 32 = 2 ∧ (wp_X1_scrap_24 this u1 (wI σ u3 10 ((sI σ u3 10) - (sI σ u1 2))) Post)))
set_option maxRecDepth 100000 in
set_option maxHeartbeats 4000000 in
theorem ct_X1_scrap {l : Launch} (hl : l.stackTraces = false) {this : Nat} {a0 : Option Nat} {σ : Sg} {Post : Rs → Sg → Prop} (h : wp_X1_scrap this a0 σ Post) : Ct l yX1_scrap (.code yX1_scrap cX1_scrap 3 none) 1 20 0 0 [.ref this, va_rf a0] σ Post := by
  refine Ct_of [some (.ref this), some (va_rf a0), none] hl (by decide +kernel) rfl (fun ad => by cases a0 <;> rfl) (fun ad => by cases a0 <;> exact Nat.le_of_ble_eq_true rfl) (fun v hv => mem_lo hv rfl) ?_
  intro G hG
  unfold wp_X1_scrap at h
  refine V_aload_n (v := va_rf a0) hG dX1_scrap_0 (isRef_rf _) rfl ?_
  obtain ⟨u1, he, h⟩ := h
  subst he
  obtain ⟨ht, h⟩ := h
  refine V_getI hG dX1_scrap_1 fl_X1_134 rfl ht ?_
  refine V_iconst (v := 3) hG (by decide) dX1_scrap_4 ?_
  refine V_icmp_ne (tgt := 24) hG dX1_scrap_5 (by decide) (fun c => ?_) (fun c => ?_)
  · replace h := h.1 c
    refine V_forget (lo' := [some (.ref this), some (.ref u1), none]) ⟨rfl, ⟨rfl, trivial⟩⟩ ?_
    refine V_widen (k' := 0) (n' := 0) (by first | exact Nat.le_of_ble_eq_true rfl | omega | (dsimp only; omega)) (by first | exact Nat.le_of_ble_eq_true rfl | omega | (dsimp only; omega)) ?_
    exact wv_X1_scrap_24 hl hG  _ _ _ h
  · replace h := h.2 c
    refine V_aload_n (v := .ref u1) hG dX1_scrap_8 rfl rfl ?_
    obtain ⟨ht, h⟩ := h
    refine V_getPv hG dX1_scrap_9 fl_X1_137 rfl ht (fun o2 ho => ?_)
    replace h := h o2 ho
    refine V_dup (v := va_rf o2) hG (cat_rf _) dX1_scrap_12 ?_
    obtain ⟨u3, he, h⟩ := h
    subst he
    obtain ⟨ht, h⟩ := h
    refine V_getI hG dX1_scrap_13 fl_X1_259 rfl ht ?_
    refine V_aload_n (v := .ref u1) hG dX1_scrap_16 rfl rfl ?_
    obtain ⟨ht, h⟩ := h
    refine V_getI hG dX1_scrap_17 fl_X1_147 rfl ht ?_
    refine V_isub hG dX1_scrap_20 ?_
    obtain ⟨ht, h⟩ := h
    refine V_putI hG dX1_scrap_21 fl_X1_259 rfl (fun e => absurd e (by decide)) rfl ht ?_
    refine V_forget (lo' := [some (.ref this), some (.ref u1), none]) ⟨rfl, ⟨rfl, trivial⟩⟩ ?_
    refine V_widen (k' := 0) (n' := 0) (by first | exact Nat.le_of_ble_eq_true rfl | omega | (dsimp only; omega)) (by first | exact Nat.le_of_ble_eq_true rfl | omega | (dsimp only; omega)) ?_
    exact wv_X1_scrap_24 hl hG  _ _ _ h
def wp_X2_init (this : Nat) (a0 : Int32) (σ : Sg) (Post : Rs → Sg → Prop) : Prop := ∃ u1, sX σ u1 = false ∧ aty (u1 % 32) = some (.object "Millrace$Line") ∧ aln u1 = 3 ∧ this % 32 = 2 ∧ ∃ u2, sX (wP (wN σ u1) this 4 (some u1)) u2 = false ∧ aty (u2 % 32) = some (.object "Millrace$Operation") ∧ aln u2 = 4 ∧ this % 32 = 2 ∧ this % 32 = 2 ∧ this % 32 = 2 ∧ Post (.inl none) (wI (wI (wP (wN (wP (wN σ u1) this 4 (some u1)) u2) this 6 (some u2)) this 8 (20 : Int32)) this 0 a0)
set_option maxRecDepth 100000 in
set_option maxHeartbeats 4000000 in
theorem ct_X2_init {l : Launch} (hl : l.stackTraces = false) {this : Nat} {a0 : Int32} {σ : Sg} {Post : Rs → Sg → Prop} (h : wp_X2_init this a0 σ Post) : Ct l yX2_init (.code yX2_init cX2_init 2 none) 1 12 2 7 [.ref this, .int a0] σ Post := by
  refine Ct_of [some (.ref this), some (.int a0)] hl (by decide +kernel) rfl (fun ad => by rfl) (fun ad => by exact Nat.le_of_ble_eq_true rfl) (fun v hv => mem_lo hv rfl) ?_
  intro G hG
  unfold wp_X2_init at h
  refine V_aload_n (v := .ref this) hG dX2_init_0 rfl rfl ?_
  refine V_objInit hG dX2_init_1 ml_X2_3 oi_1 oi_2 (Nat.le_of_ble_eq_true rfl) (by first | exact Nat.le_of_ble_eq_true rfl | (simp only [List.map_cons, List.map_nil, List.sum_cons, List.sum_nil, cat_rf]; exact Nat.le_of_ble_eq_true rfl)) ?_
  refine V_aload_n (v := .ref this) hG dX2_init_4 rfl rfl ?_
  refine V_iconst (v := 3) hG (by decide) dX2_init_5 ?_
  obtain ⟨u1, hu, hy, hn, h⟩ := h
  refine V_anewn (N := 3) hG dX2_init_6 hu hy cl_X2_9 (by decide) hn rfl (Nat.le_of_ble_eq_true rfl) (Nat.le_of_ble_eq_true rfl) ?_
  obtain ⟨ht, h⟩ := h
  refine V_putS hG dX2_init_9 fl_X2_11 rfl (by decide +kernel) ht ?_
  refine V_aload_n (v := .ref this) hG dX2_init_12 rfl rfl ?_
  refine V_iconst (v := 4) hG (by decide) dX2_init_13 ?_
  obtain ⟨u2, hu, hy, hn, h⟩ := h
  refine V_anewn (N := 4) hG dX2_init_14 hu hy cl_X2_17 (by decide) hn rfl (Nat.le_of_ble_eq_true rfl) (Nat.le_of_ble_eq_true rfl) ?_
  obtain ⟨ht, h⟩ := h
  refine V_putS hG dX2_init_17 fl_X2_19 rfl (by decide +kernel) ht ?_
  refine V_aload_n (v := .ref this) hG dX2_init_20 rfl rfl ?_
  refine V_bipush (v := 20) hG (by decide) dX2_init_21 ?_
  obtain ⟨ht, h⟩ := h
  refine V_putI hG dX2_init_23 fl_X2_23 rfl (fun e => absurd e (by decide)) rfl ht ?_
  refine V_aload_n (v := .ref this) hG dX2_init_26 rfl rfl ?_
  refine V_iload_n hG dX2_init_27 rfl ?_
  obtain ⟨ht, h⟩ := h
  refine V_putI hG dX2_init_28 fl_X2_27 rfl (fun e => absurd e (by decide)) (by decide +kernel) ht ?_
  exact V_vret hG dX2_init_31 (by first | exact Nat.le_of_ble_eq_true rfl | omega | (dsimp only; omega)) (by first | exact Nat.le_of_ble_eq_true rfl | omega | (dsimp only; omega)) h
def wp_X2_canBeMade (this : Nat) (σ : Sg) (Post : Rs → Sg → Prop) : Prop := this % 32 = 2 ∧ ((¬ (sI σ this 1) = 0 → (b01 (0 : Int32) ∧ Post (.inl (some (.int (0 : Int32)))) σ)) ∧ ((sI σ this 1) = 0 → this % 32 = 2 ∧ ((¬ (sI σ this 9) = 0 → (b01 (0 : Int32) ∧ Post (.inl (some (.int (0 : Int32)))) σ)) ∧ ((sI σ this 9) = 0 → (b01 (1 : Int32) ∧ Post (.inl (some (.int (1 : Int32)))) σ)))))
set_option maxRecDepth 100000 in
set_option maxHeartbeats 4000000 in
theorem ct_X2_canBeMade {l : Launch} (hl : l.stackTraces = false) {this : Nat} {σ : Sg} {Post : Rs → Sg → Prop} (h : wp_X2_canBeMade this σ Post) : Ct l yX2_canBeMade (.code yX2_canBeMade cX2_canBeMade 1 (some .boolean)) 0 0 0 0 [.ref this] σ Post := by
  refine Ct_of [some (.ref this)] hl (by decide +kernel) rfl (fun ad => by rfl) (fun ad => by exact Nat.le_of_ble_eq_true rfl) (fun v hv => mem_lo hv rfl) ?_
  intro G hG
  unfold wp_X2_canBeMade at h
  refine V_aload_n (v := .ref this) hG dX2_canBeMade_0 rfl rfl ?_
  obtain ⟨ht, h⟩ := h
  refine V_getI hG dX2_canBeMade_1 fl_X2_30 rfl ht ?_
  refine V_if_ne (tgt := 18) hG dX2_canBeMade_4 (by decide) (fun c => ?_) (fun c => ?_)
  · replace h := h.1 c
    refine V_iconst (v := 0) hG (by decide) dX2_canBeMade_18 ?_
    exact V_zret hG dX2_canBeMade_19 h.1 (by first | exact Nat.le_of_ble_eq_true rfl | omega | (dsimp only; omega)) (by first | exact Nat.le_of_ble_eq_true rfl | omega | (dsimp only; omega)) h.2
  · replace h := h.2 c
    refine V_aload_n (v := .ref this) hG dX2_canBeMade_7 rfl rfl ?_
    obtain ⟨ht, h⟩ := h
    refine V_getI hG dX2_canBeMade_8 fl_X2_34 rfl ht ?_
    refine V_if_ne (tgt := 18) hG dX2_canBeMade_11 (by decide) (fun c => ?_) (fun c => ?_)
    · replace h := h.1 c
      refine V_iconst (v := 0) hG (by decide) dX2_canBeMade_18 ?_
      exact V_zret hG dX2_canBeMade_19 h.1 (by first | exact Nat.le_of_ble_eq_true rfl | omega | (dsimp only; omega)) (by first | exact Nat.le_of_ble_eq_true rfl | omega | (dsimp only; omega)) h.2
    · replace h := h.2 c
      refine V_iconst (v := 1) hG (by decide) dX2_canBeMade_14 ?_
      refine V_goto (tgt := 19) hG dX2_canBeMade_15 (by decide) ?_
      exact V_zret hG dX2_canBeMade_19 h.1 (by first | exact Nat.le_of_ble_eq_true rfl | omega | (dsimp only; omega)) (by first | exact Nat.le_of_ble_eq_true rfl | omega | (dsimp only; omega)) h.2
def wp_X2_putLine (this : Nat) (a0 : Option Nat) (σ : Sg) (Post : Rs → Sg → Prop) : Prop := this % 32 = 2 ∧ this % 32 = 2 ∧ ∀ o1, o1 = sP σ this 4 → ∃ u2, o1 = some u2 ∧ isArr u2 ∧ (((sI σ this 5) < (nI (aln u2)) → this % 32 = 2 ∧ ∀ o3, o3 = sP σ this 4 → this % 32 = 2 ∧ ∃ u4, o3 = some u4 ∧ ∃ u5, a0 = some u5 ∧ canSt u4 u5 ∧ ∃ j6, (sI σ this 5) = nI j6 ∧ j6 < aln u4 ∧ this % 32 = 2 ∧ this % 32 = 2 ∧ this % 32 = 2 ∧ Post (.inl (some (.int (sI (wI (wP σ u4 j6 (some u5)) this 5 ((sI (wP σ u4 j6 (some u5)) this 5) + (1 : Int32))) this 5)))) (wI (wP σ u4 j6 (some u5)) this 5 ((sI (wP σ u4 j6 (some u5)) this 5) + (1 : Int32)))) ∧ (¬ (sI σ this 5) < (nI (aln u2)) → Post (.inr "java/lang/IllegalStateException") σ))
set_option maxRecDepth 100000 in
set_option maxHeartbeats 4000000 in
theorem ct_X2_putLine {l : Launch} (hl : l.stackTraces = false) {this : Nat} {a0 : Option Nat} {σ : Sg} {Post : Rs → Sg → Prop} (h : wp_X2_putLine this a0 σ Post) : Ct l yX2_putLine (.code yX2_putLine cX2_putLine 2 (some .int)) 6 82 1 6 [.ref this, va_rf a0] σ Post := by
  refine Ct_of [some (.ref this), some (va_rf a0)] hl (by decide +kernel) rfl (fun ad => by cases a0 <;> rfl) (fun ad => by cases a0 <;> exact Nat.le_of_ble_eq_true rfl) (fun v hv => mem_lo hv rfl) ?_
  intro G hG
  unfold wp_X2_putLine at h
  refine V_aload_n (v := .ref this) hG dX2_putLine_0 rfl rfl ?_
  obtain ⟨ht, h⟩ := h
  refine V_getI hG dX2_putLine_1 fl_X2_37 rfl ht ?_
  refine V_aload_n (v := .ref this) hG dX2_putLine_4 rfl rfl ?_
  obtain ⟨ht, h⟩ := h
  refine V_getPv hG dX2_putLine_5 fl_X2_11 rfl ht (fun o1 ho => ?_)
  replace h := h o1 ho
  obtain ⟨u2, he, h⟩ := h
  subst he
  obtain ⟨ha, h⟩ := h
  refine V_alenv hG dX2_putLine_8 ha ?_
  refine V_icmp_lt (tgt := 22) hG dX2_putLine_9 (by decide) (fun c => ?_) (fun c => ?_)
  · replace h := h.1 c
    refine V_aload_n (v := .ref this) hG dX2_putLine_22 rfl rfl ?_
    obtain ⟨ht, h⟩ := h
    refine V_getPv hG dX2_putLine_23 fl_X2_11 rfl ht (fun o3 ho => ?_)
    replace h := h o3 ho
    refine V_aload_n (v := .ref this) hG dX2_putLine_26 rfl rfl ?_
    obtain ⟨ht, h⟩ := h
    refine V_getI hG dX2_putLine_27 fl_X2_37 rfl ht ?_
    refine V_aload_n (v := va_rf a0) hG dX2_putLine_30 (isRef_rf _) rfl ?_
    obtain ⟨u4, he, h⟩ := h
    subst he
    obtain ⟨u5, he, h⟩ := h
    subst he
    obtain ⟨ha, j6, hi, hj, h⟩ := h
    refine V_aastv hG dX2_putLine_31 ha hi hj ?_
    refine V_aload_n (v := .ref this) hG dX2_putLine_32 rfl rfl ?_
    refine V_dup (v := .ref this) hG rfl dX2_putLine_33 ?_
    obtain ⟨ht, h⟩ := h
    refine V_getI hG dX2_putLine_34 fl_X2_37 rfl ht ?_
    refine V_iconst (v := 1) hG (by decide) dX2_putLine_37 ?_
    refine V_iadd hG dX2_putLine_38 ?_
    obtain ⟨ht, h⟩ := h
    refine V_putI hG dX2_putLine_39 fl_X2_37 rfl (fun e => absurd e (by decide)) rfl ht ?_
    refine V_aload_n (v := .ref this) hG dX2_putLine_42 rfl rfl ?_
    obtain ⟨ht, h⟩ := h
    refine V_getI hG dX2_putLine_43 fl_X2_37 rfl ht ?_
    exact V_iret hG dX2_putLine_46 (by first | exact Nat.le_of_ble_eq_true rfl | omega | (dsimp only; omega)) (by first | exact Nat.le_of_ble_eq_true rfl | omega | (dsimp only; omega)) h
  · replace h := h.2 c
    exact V_throw (ik := 40) (is := 42) (ic := 44) (text := "the bill has 3 lines") "java/lang/IllegalStateException" hG dX2_putLine_12 dX2_putLine_15 dX2_putLine_16 dX2_putLine_18 dX2_putLine_21 (by decide) tw_X2_44_42_S.1 tw_X2_44_42_S.2.1 in_S tw_X2_44_42_S.2.2.1 tw_X2_44_42_S.2.2.2.1 tw_X2_44_42_S.2.2.2.2.1 tw_X2_44_42_S.2.2.2.2.2 (Nat.le_of_ble_eq_true rfl) (by first | exact Nat.le_of_ble_eq_true rfl | (simp only [List.map_cons, List.map_nil, List.sum_cons, List.sum_nil, cat_rf]; exact Nat.le_of_ble_eq_true rfl)) (Nat.le_of_ble_eq_true rfl) (Nat.le_of_ble_eq_true rfl) (Nat.le_of_ble_eq_true rfl) (Nat.le_of_ble_eq_true rfl) h
def wp_X2_putOperation (this : Nat) (a0 : Option Nat) (σ : Sg) (Post : Rs → Sg → Prop) : Prop := this % 32 = 2 ∧ this % 32 = 2 ∧ ∀ o1, o1 = sP σ this 6 → ∃ u2, o1 = some u2 ∧ isArr u2 ∧ (((sI σ this 7) < (nI (aln u2)) → this % 32 = 2 ∧ ∀ o3, o3 = sP σ this 6 → this % 32 = 2 ∧ ∃ u4, o3 = some u4 ∧ ∃ u5, a0 = some u5 ∧ canSt u4 u5 ∧ ∃ j6, (sI σ this 7) = nI j6 ∧ j6 < aln u4 ∧ this % 32 = 2 ∧ this % 32 = 2 ∧ this % 32 = 2 ∧ Post (.inl (some (.int (sI (wI (wP σ u4 j6 (some u5)) this 7 ((sI (wP σ u4 j6 (some u5)) this 7) + (1 : Int32))) this 7)))) (wI (wP σ u4 j6 (some u5)) this 7 ((sI (wP σ u4 j6 (some u5)) this 7) + (1 : Int32)))) ∧ (¬ (sI σ this 7) < (nI (aln u2)) → Post (.inr "java/lang/IllegalStateException") σ))
set_option maxRecDepth 100000 in
set_option maxHeartbeats 4000000 in
theorem ct_X2_putOperation {l : Launch} (hl : l.stackTraces = false) {this : Nat} {a0 : Option Nat} {σ : Sg} {Post : Rs → Sg → Prop} (h : wp_X2_putOperation this a0 σ Post) : Ct l yX2_putOperation (.code yX2_putOperation cX2_putOperation 2 (some .int)) 6 82 1 6 [.ref this, va_rf a0] σ Post := by
  refine Ct_of [some (.ref this), some (va_rf a0)] hl (by decide +kernel) rfl (fun ad => by cases a0 <;> rfl) (fun ad => by cases a0 <;> exact Nat.le_of_ble_eq_true rfl) (fun v hv => mem_lo hv rfl) ?_
  intro G hG
  unfold wp_X2_putOperation at h
  refine V_aload_n (v := .ref this) hG dX2_putOperation_0 rfl rfl ?_
  obtain ⟨ht, h⟩ := h
  refine V_getI hG dX2_putOperation_1 fl_X2_47 rfl ht ?_
  refine V_aload_n (v := .ref this) hG dX2_putOperation_4 rfl rfl ?_
  obtain ⟨ht, h⟩ := h
  refine V_getPv hG dX2_putOperation_5 fl_X2_19 rfl ht (fun o1 ho => ?_)
  replace h := h o1 ho
  obtain ⟨u2, he, h⟩ := h
  subst he
  obtain ⟨ha, h⟩ := h
  refine V_alenv hG dX2_putOperation_8 ha ?_
  refine V_icmp_lt (tgt := 22) hG dX2_putOperation_9 (by decide) (fun c => ?_) (fun c => ?_)
  · replace h := h.1 c
    refine V_aload_n (v := .ref this) hG dX2_putOperation_22 rfl rfl ?_
    obtain ⟨ht, h⟩ := h
    refine V_getPv hG dX2_putOperation_23 fl_X2_19 rfl ht (fun o3 ho => ?_)
    replace h := h o3 ho
    refine V_aload_n (v := .ref this) hG dX2_putOperation_26 rfl rfl ?_
    obtain ⟨ht, h⟩ := h
    refine V_getI hG dX2_putOperation_27 fl_X2_47 rfl ht ?_
    refine V_aload_n (v := va_rf a0) hG dX2_putOperation_30 (isRef_rf _) rfl ?_
    obtain ⟨u4, he, h⟩ := h
    subst he
    obtain ⟨u5, he, h⟩ := h
    subst he
    obtain ⟨ha, j6, hi, hj, h⟩ := h
    refine V_aastv hG dX2_putOperation_31 ha hi hj ?_
    refine V_aload_n (v := .ref this) hG dX2_putOperation_32 rfl rfl ?_
    refine V_dup (v := .ref this) hG rfl dX2_putOperation_33 ?_
    obtain ⟨ht, h⟩ := h
    refine V_getI hG dX2_putOperation_34 fl_X2_47 rfl ht ?_
    refine V_iconst (v := 1) hG (by decide) dX2_putOperation_37 ?_
    refine V_iadd hG dX2_putOperation_38 ?_
    obtain ⟨ht, h⟩ := h
    refine V_putI hG dX2_putOperation_39 fl_X2_47 rfl (fun e => absurd e (by decide)) rfl ht ?_
    refine V_aload_n (v := .ref this) hG dX2_putOperation_42 rfl rfl ?_
    obtain ⟨ht, h⟩ := h
    refine V_getI hG dX2_putOperation_43 fl_X2_47 rfl ht ?_
    exact V_iret hG dX2_putOperation_46 (by first | exact Nat.le_of_ble_eq_true rfl | omega | (dsimp only; omega)) (by first | exact Nat.le_of_ble_eq_true rfl | omega | (dsimp only; omega)) h
  · replace h := h.2 c
    exact V_throw (ik := 40) (is := 50) (ic := 44) (text := "the route has 4 operations") "java/lang/IllegalStateException" hG dX2_putOperation_12 dX2_putOperation_15 dX2_putOperation_16 dX2_putOperation_18 dX2_putOperation_21 (by decide) tw_X2_44_50_S.1 tw_X2_44_50_S.2.1 in_S tw_X2_44_50_S.2.2.1 tw_X2_44_50_S.2.2.2.1 tw_X2_44_50_S.2.2.2.2.1 tw_X2_44_50_S.2.2.2.2.2 (Nat.le_of_ble_eq_true rfl) (by first | exact Nat.le_of_ble_eq_true rfl | (simp only [List.map_cons, List.map_nil, List.sum_cons, List.sum_nil, cat_rf]; exact Nat.le_of_ble_eq_true rfl)) (Nat.le_of_ble_eq_true rfl) (Nat.le_of_ble_eq_true rfl) (Nat.le_of_ble_eq_true rfl) (Nat.le_of_ble_eq_true rfl) h
def wp_X2_measureLead_59 (K33 : Nat → Int32 → Int32 → Int32 → Sg → Prop) (this : Nat) (v1 : Int32) (v2 : Int32) (v3 : Int32) (σ : Sg) (Post : Rs → Sg → Prop) : Prop := this % 32 = 2 ∧ ∀ o1, o1 = sP σ this 4 → ∃ u2, o1 = some u2 ∧ isRow u2 ∧ ∃ j3, v3 = nI j3 ∧ j3 < aln u2 ∧ ∀ o4, o4 = sP σ u2 j3 → ∃ u5, o4 = some u5 ∧ u5 % 32 = 3 ∧ ∀ o6, o6 = sP σ u5 0 → ∃ u7, o6 = some u7 ∧ u7 % 32 = 2 ∧ (K33 this (if v1 < (sI σ u7 13) then (sI σ u7 13) else v1) v2 (v3 + 1) σ)
set_option maxRecDepth 100000 in
set_option maxHeartbeats 4000000 in
theorem wv_X2_measureLead_59 {L9 : Launch} {G : Cx} {Post : Rs → Sg → Prop} (hl : L9.stackTraces = false) (hG : CX L9 G yX2_measureLead cX2_measureLead 4 none [] { frames := 1, cells := 0, slots := 0, locals := 13 }) {K33 : Nat → Int32 → Int32 → Int32 → Sg → Prop} (hK33 : ∀ (this : Nat) (v1 : Int32) (v2 : Int32) (v3 : Int32) (ζ : Sg), K33 this v1 v2 v3 ζ → V G (QM G 0 0 Post) 33 [some (.ref this), some (.int v1), some (.int v2), some (.int v3)] [] ζ 0 0) : ∀ (this : Nat) (v1 : Int32) (v2 : Int32) (v3 : Int32) (σ : Sg), wp_X2_measureLead_59 K33 this v1 v2 v3 σ Post → V G (QM G 0 0 Post) 59 [some (.ref this), some (.int v1), some (.int v2), some (.int v3)] [] σ 0 0 := by
  intro this v1 v2 v3 σ h
  unfold wp_X2_measureLead_59 at h
  refine V_iload_n hG dX2_measureLead_59 rfl ?_
  refine V_aload_n (v := .ref this) hG dX2_measureLead_60 rfl rfl ?_
  obtain ⟨ht, h⟩ := h
  refine V_getPv hG dX2_measureLead_61 fl_X2_11 rfl ht (fun o1 ho => ?_)
  replace h := h o1 ho
  refine V_iload_n hG dX2_measureLead_64 rfl ?_
  obtain ⟨u2, he, h⟩ := h
  subst he
  obtain ⟨ha, j3, hi, hj, h⟩ := h
  refine V_aaldv hG dX2_measureLead_65 ha hi hj (fun o4 ho => ?_)
  replace h := h o4 ho
  obtain ⟨u5, he, h⟩ := h
  subst he
  obtain ⟨ht, h⟩ := h
  refine V_getPv hG dX2_measureLead_66 fl_X2_78 rfl ht (fun o6 ho => ?_)
  replace h := h o6 ho
  obtain ⟨u7, he, h⟩ := h
  subst he
  obtain ⟨ht, h⟩ := h
  refine V_getI hG dX2_measureLead_69 fl_X2_75 rfl ht ?_
  refine V_mmax hG dX2_measureLead_72 ml_X2_82 mm_max.1 mm_max.2.1 mm_max.2.2 (Nat.le_of_ble_eq_true rfl) (by first | exact Nat.le_of_ble_eq_true rfl | (simp only [List.map_cons, List.map_nil, List.sum_cons, List.sum_nil, cat_rf]; exact Nat.le_of_ble_eq_true rfl)) (Nat.le_of_ble_eq_true rfl) (Nat.le_of_ble_eq_true rfl) ?_
  refine V_istore_n hG dX2_measureLead_75 (Nat.le_of_ble_eq_true rfl) (hpV rfl rfl) ?_
  refine V_iincv (c := 1) hG dX2_measureLead_76 rfl (by decide) (hpV rfl rfl) ?_
  refine V_goto (tgt := 33) hG dX2_measureLead_79 (by decide) ?_
  refine V_forget (lo' := [some (.ref this), some (.int (if v1 < (sI σ u7 13) then (sI σ u7 13) else v1)), some (.int v2), some (.int (v3 + 1))]) ⟨rfl, ⟨rfl, ⟨rfl, ⟨rfl, trivial⟩⟩⟩⟩ ?_
  exact hK33 _ _ _ _ _ h
def wp_X2_measureLead_128  (s0 : Nat) (s1 : Int32) (σ : Sg) (Post : Rs → Sg → Prop) : Prop := s0 % 32 = 2 ∧ Post (.inl none) (wI σ s0 13 s1)
set_option maxRecDepth 100000 in
set_option maxHeartbeats 4000000 in
theorem wv_X2_measureLead_128 {L9 : Launch} {G : Cx} {Post : Rs → Sg → Prop} (hl : L9.stackTraces = false) (hG : CX L9 G yX2_measureLead cX2_measureLead 4 none [] { frames := 1, cells := 0, slots := 0, locals := 13 })   : ∀ (s0 : Nat) (s1 : Int32) (σ : Sg), wp_X2_measureLead_128 s0 s1 σ Post → V G (QM G 0 0 Post) 128 [none, none, none, none] [.int s1, .ref s0] σ 0 0 := by
  intro s0 s1 σ h
  unfold wp_X2_measureLead_128 at h
  obtain ⟨ht, h⟩ := h
  refine V_putI hG dX2_measureLead_128 fl_X2_75 rfl (fun e => absurd e (by decide)) rfl ht ?_
  exact V_vret hG dX2_measureLead_131 (by first | exact Nat.le_of_ble_eq_true rfl | omega | (dsimp only; omega)) (by first | exact Nat.le_of_ble_eq_true rfl | omega | (dsimp only; omega)) h
def wp_X2_measureLead_115  (this : Nat) (v1 : Int32) (v2 : Int32) (σ : Sg) (Post : Rs → Sg → Prop) : Prop := ((¬ v2 = (-1 : Int32) → (wp_X2_measureLead_128 this (v2 + v1) σ Post)) ∧ (v2 = (-1 : Int32) → (wp_X2_measureLead_128 this (-1 : Int32) σ Post)))
set_option maxRecDepth 100000 in
set_option maxHeartbeats 4000000 in
theorem wv_X2_measureLead_115 {L9 : Launch} {G : Cx} {Post : Rs → Sg → Prop} (hl : L9.stackTraces = false) (hG : CX L9 G yX2_measureLead cX2_measureLead 4 none [] { frames := 1, cells := 0, slots := 0, locals := 13 })   : ∀ (this : Nat) (v1 : Int32) (v2 : Int32) (σ : Sg), wp_X2_measureLead_115 this v1 v2 σ Post → V G (QM G 0 0 Post) 115 [some (.ref this), some (.int v1), some (.int v2), none] [] σ 0 0 := by
  intro this v1 v2 σ h
  unfold wp_X2_measureLead_115 at h
  refine V_aload_n (v := .ref this) hG dX2_measureLead_115 rfl rfl ?_
  refine V_iload_n hG dX2_measureLead_116 rfl ?_
  refine V_iconst (v := (-1)) hG (by decide) dX2_measureLead_117 ?_
  refine V_icmp_ne (tgt := 125) hG dX2_measureLead_118 (by decide) (fun c => ?_) (fun c => ?_)
  · replace h := h.1 c
    refine V_iload_n hG dX2_measureLead_125 rfl ?_
    refine V_iload_n hG dX2_measureLead_126 rfl ?_
    refine V_iadd hG dX2_measureLead_127 ?_
    refine V_forget (lo' := [none, none, none, none]) trivial ?_
    refine V_widen (k' := 0) (n' := 0) (by first | exact Nat.le_of_ble_eq_true rfl | omega | (dsimp only; omega)) (by first | exact Nat.le_of_ble_eq_true rfl | omega | (dsimp only; omega)) ?_
    exact wv_X2_measureLead_128 hl hG  _ _ _ h
  · replace h := h.2 c
    refine V_iconst (v := (-1)) hG (by decide) dX2_measureLead_121 ?_
    refine V_goto (tgt := 128) hG dX2_measureLead_122 (by decide) ?_
    refine V_forget (lo' := [none, none, none, none]) trivial ?_
    refine V_widen (k' := 0) (n' := 0) (by first | exact Nat.le_of_ble_eq_true rfl | omega | (dsimp only; omega)) (by first | exact Nat.le_of_ble_eq_true rfl | omega | (dsimp only; omega)) ?_
    exact wv_X2_measureLead_128 hl hG  _ _ _ h
def wp_X2_measureLead_84  : Nat → Nat → Int32 → Int32 → Int32 → Sg → (Rs → Sg → Prop) → Prop
  | 0, _, _, _, _, _, _ => False
  | f + 1, this, v1, v2, v3, σ, Post => this % 32 = 2 ∧ (((sI σ this 7) ≤ v3 → (wp_X2_measureLead_115 this v1 v2 σ Post)) ∧ (¬ (sI σ this 7) ≤ v3 → ((v2 = (-1 : Int32) → (wp_X2_measureLead_115 this v1 v2 σ Post)) ∧ (¬ v2 = (-1 : Int32) → this % 32 = 2 ∧ ∀ o1, o1 = sP σ this 6 → ∃ u2, o1 = some u2 ∧ isRow u2 ∧ ∃ j3, v3 = nI j3 ∧ j3 < aln u2 ∧ ∀ o4, o4 = sP σ u2 j3 → ∃ u5, o4 = some u5 ∧ u5 % 32 = 5 ∧ (wp_X2_measureLead_84 f this v1 (v2 + (sI σ u5 2)) (v3 + 1) σ Post)))))
set_option maxRecDepth 100000 in
set_option maxHeartbeats 4000000 in
theorem wv_X2_measureLead_84 {L9 : Launch} {G : Cx} {Post : Rs → Sg → Prop} (hl : L9.stackTraces = false) (hG : CX L9 G yX2_measureLead cX2_measureLead 4 none [] { frames := 1, cells := 0, slots := 0, locals := 13 })   : ∀ (f : Nat) (this : Nat) (v1 : Int32) (v2 : Int32) (v3 : Int32) (σ : Sg), wp_X2_measureLead_84 f this v1 v2 v3 σ Post → V G (QM G 0 0 Post) 84 [some (.ref this), some (.int v1), some (.int v2), some (.int v3)] [] σ 0 0 := by
  intro f
  induction f with
  | zero => intro _ _ _ _ σ h; exact h.elim
  | succ f ih =>
    intro this v1 v2 v3 σ h
    refine V_iload_n hG dX2_measureLead_84 rfl ?_
    refine V_aload_n (v := .ref this) hG dX2_measureLead_85 rfl rfl ?_
    obtain ⟨ht, h⟩ := h
    refine V_getI hG dX2_measureLead_86 fl_X2_47 rfl ht ?_
    refine V_icmp_ge (tgt := 115) hG dX2_measureLead_89 (by decide) (fun c => ?_) (fun c => ?_)
    · replace h := h.1 c
      refine V_forget (lo' := [some (.ref this), some (.int v1), some (.int v2), none]) ⟨rfl, ⟨rfl, ⟨rfl, trivial⟩⟩⟩ ?_
      refine V_widen (k' := 0) (n' := 0) (by first | exact Nat.le_of_ble_eq_true rfl | omega | (dsimp only; omega)) (by first | exact Nat.le_of_ble_eq_true rfl | omega | (dsimp only; omega)) ?_
      exact wv_X2_measureLead_115 hl hG  _ _ _ _ h
    · replace h := h.2 c
      refine V_iload_n hG dX2_measureLead_92 rfl ?_
      refine V_iconst (v := (-1)) hG (by decide) dX2_measureLead_93 ?_
      refine V_icmp_eq (tgt := 115) hG dX2_measureLead_94 (by decide) (fun c => ?_) (fun c => ?_)
      · replace h := h.1 c
        refine V_forget (lo' := [some (.ref this), some (.int v1), some (.int v2), none]) ⟨rfl, ⟨rfl, ⟨rfl, trivial⟩⟩⟩ ?_
        refine V_widen (k' := 0) (n' := 0) (by first | exact Nat.le_of_ble_eq_true rfl | omega | (dsimp only; omega)) (by first | exact Nat.le_of_ble_eq_true rfl | omega | (dsimp only; omega)) ?_
        exact wv_X2_measureLead_115 hl hG  _ _ _ _ h
      · replace h := h.2 c
        refine V_iload_n hG dX2_measureLead_97 rfl ?_
        refine V_aload_n (v := .ref this) hG dX2_measureLead_98 rfl rfl ?_
        obtain ⟨ht, h⟩ := h
        refine V_getPv hG dX2_measureLead_99 fl_X2_19 rfl ht (fun o1 ho => ?_)
        replace h := h o1 ho
        refine V_iload_n hG dX2_measureLead_102 rfl ?_
        obtain ⟨u2, he, h⟩ := h
        subst he
        obtain ⟨ha, j3, hi, hj, h⟩ := h
        refine V_aaldv hG dX2_measureLead_103 ha hi hj (fun o4 ho => ?_)
        replace h := h o4 ho
        obtain ⟨u5, he, h⟩ := h
        subst he
        obtain ⟨ht, h⟩ := h
        refine V_getI hG dX2_measureLead_104 fl_X2_88 rfl ht ?_
        refine V_iadd hG dX2_measureLead_107 ?_
        refine V_istore_n hG dX2_measureLead_108 (Nat.le_of_ble_eq_true rfl) (hpV rfl rfl) ?_
        refine V_iincv (c := 1) hG dX2_measureLead_109 rfl (by decide) (hpV rfl rfl) ?_
        refine V_goto (tgt := 84) hG dX2_measureLead_112 (by decide) ?_
        refine V_forget (lo' := [some (.ref this), some (.int v1), some (.int (v2 + (sI σ u5 2))), some (.int (v3 + 1))]) ⟨rfl, ⟨rfl, ⟨rfl, ⟨rfl, trivial⟩⟩⟩⟩ ?_
        exact ih _ _ _ _ _ h
def wp_X2_measureLead_33  : Nat → Nat → Int32 → Int32 → Int32 → Sg → (Rs → Sg → Prop) → Prop
  | 0, _, _, _, _, _, _ => False
  | f + 1, this, v1, v2, v3, σ, Post => this % 32 = 2 ∧ (((sI σ this 5) ≤ v3 → (∃ g, wp_X2_measureLead_84 g this v1 v2 (0 : Int32) σ Post)) ∧ (¬ (sI σ this 5) ≤ v3 → this % 32 = 2 ∧ ∀ o1, o1 = sP σ this 4 → ∃ u2, o1 = some u2 ∧ isRow u2 ∧ ∃ j3, v3 = nI j3 ∧ j3 < aln u2 ∧ ∀ o4, o4 = sP σ u2 j3 → ∃ u5, o4 = some u5 ∧ u5 % 32 = 3 ∧ ∀ o6, o6 = sP σ u5 0 → ∃ u7, o6 = some u7 ∧ u7 % 32 = 2 ∧ ((¬ (sI σ u7 13) = (-1 : Int32) → (wp_X2_measureLead_59 (fun z0 z1 z2 z3 ζ => wp_X2_measureLead_33 f z0 z1 z2 z3 ζ Post) this v1 v2 v3 σ Post)) ∧ ((sI σ u7 13) = (-1 : Int32) → (wp_X2_measureLead_59 (fun z0 z1 z2 z3 ζ => wp_X2_measureLead_33 f z0 z1 z2 z3 ζ Post) this v1 (-1 : Int32) v3 σ Post)))))
set_option maxRecDepth 100000 in
set_option maxHeartbeats 4000000 in
theorem wv_X2_measureLead_33 {L9 : Launch} {G : Cx} {Post : Rs → Sg → Prop} (hl : L9.stackTraces = false) (hG : CX L9 G yX2_measureLead cX2_measureLead 4 none [] { frames := 1, cells := 0, slots := 0, locals := 13 })   : ∀ (f : Nat) (this : Nat) (v1 : Int32) (v2 : Int32) (v3 : Int32) (σ : Sg), wp_X2_measureLead_33 f this v1 v2 v3 σ Post → V G (QM G 0 0 Post) 33 [some (.ref this), some (.int v1), some (.int v2), some (.int v3)] [] σ 0 0 := by
  intro f
  induction f with
  | zero => intro _ _ _ _ σ h; exact h.elim
  | succ f ih =>
    intro this v1 v2 v3 σ h
    refine V_iload_n hG dX2_measureLead_33 rfl ?_
    refine V_aload_n (v := .ref this) hG dX2_measureLead_34 rfl rfl ?_
    obtain ⟨ht, h⟩ := h
    refine V_getI hG dX2_measureLead_35 fl_X2_37 rfl ht ?_
    refine V_icmp_ge (tgt := 82) hG dX2_measureLead_38 (by decide) (fun c => ?_) (fun c => ?_)
    · replace h := h.1 c
      refine V_iconst (v := 0) hG (by decide) dX2_measureLead_82 ?_
      refine V_istore_n hG dX2_measureLead_83 (Nat.le_of_ble_eq_true rfl) (hpV rfl rfl) ?_
      refine V_forget (lo' := [some (.ref this), some (.int v1), some (.int v2), some (.int (0 : Int32))]) ⟨rfl, ⟨rfl, ⟨rfl, ⟨rfl, trivial⟩⟩⟩⟩ ?_
      obtain ⟨g, h⟩ := h
      refine V_widen (k' := 0) (n' := 0) (by first | exact Nat.le_of_ble_eq_true rfl | omega | (dsimp only; omega)) (by first | exact Nat.le_of_ble_eq_true rfl | omega | (dsimp only; omega)) ?_
      exact wv_X2_measureLead_84 hl hG  g _ _ _ _ _ h
    · replace h := h.2 c
      refine V_aload_n (v := .ref this) hG dX2_measureLead_41 rfl rfl ?_
      obtain ⟨ht, h⟩ := h
      refine V_getPv hG dX2_measureLead_42 fl_X2_11 rfl ht (fun o1 ho => ?_)
      replace h := h o1 ho
      refine V_iload_n hG dX2_measureLead_45 rfl ?_
      obtain ⟨u2, he, h⟩ := h
      subst he
      obtain ⟨ha, j3, hi, hj, h⟩ := h
      refine V_aaldv hG dX2_measureLead_46 ha hi hj (fun o4 ho => ?_)
      replace h := h o4 ho
      obtain ⟨u5, he, h⟩ := h
      subst he
      obtain ⟨ht, h⟩ := h
      refine V_getPv hG dX2_measureLead_47 fl_X2_78 rfl ht (fun o6 ho => ?_)
      replace h := h o6 ho
      obtain ⟨u7, he, h⟩ := h
      subst he
      obtain ⟨ht, h⟩ := h
      refine V_getI hG dX2_measureLead_50 fl_X2_75 rfl ht ?_
      refine V_iconst (v := (-1)) hG (by decide) dX2_measureLead_53 ?_
      refine V_icmp_ne (tgt := 59) hG dX2_measureLead_54 (by decide) (fun c => ?_) (fun c => ?_)
      · replace h := h.1 c
        refine V_forget (lo' := [some (.ref this), some (.int v1), some (.int v2), some (.int v3)]) ⟨rfl, ⟨rfl, ⟨rfl, ⟨rfl, trivial⟩⟩⟩⟩ ?_
        refine V_widen (k' := 0) (n' := 0) (by first | exact Nat.le_of_ble_eq_true rfl | omega | (dsimp only; omega)) (by first | exact Nat.le_of_ble_eq_true rfl | omega | (dsimp only; omega)) ?_
        exact wv_X2_measureLead_59 hl hG (fun z0 z1 z2 z3 ζ hz => ih z0 z1 z2 z3 ζ hz) _ _ _ _ _ h
      · replace h := h.2 c
        refine V_iconst (v := (-1)) hG (by decide) dX2_measureLead_57 ?_
        refine V_istore_n hG dX2_measureLead_58 (Nat.le_of_ble_eq_true rfl) (hpV rfl rfl) ?_
        refine V_forget (lo' := [some (.ref this), some (.int v1), some (.int (-1 : Int32)), some (.int v3)]) ⟨rfl, ⟨rfl, ⟨rfl, ⟨rfl, trivial⟩⟩⟩⟩ ?_
        refine V_widen (k' := 0) (n' := 0) (by first | exact Nat.le_of_ble_eq_true rfl | omega | (dsimp only; omega)) (by first | exact Nat.le_of_ble_eq_true rfl | omega | (dsimp only; omega)) ?_
        exact wv_X2_measureLead_59 hl hG (fun z0 z1 z2 z3 ζ hz => ih z0 z1 z2 z3 ζ hz) _ _ _ _ _ h
def wp_X2_measureLead_30  (this : Nat) (v1 : Int32) (s0 : Int32) (σ : Sg) (Post : Rs → Sg → Prop) : Prop := (∃ g, wp_X2_measureLead_33 g this v1 s0 (0 : Int32) σ Post)
set_option maxRecDepth 100000 in
set_option maxHeartbeats 4000000 in
theorem wv_X2_measureLead_30 {L9 : Launch} {G : Cx} {Post : Rs → Sg → Prop} (hl : L9.stackTraces = false) (hG : CX L9 G yX2_measureLead cX2_measureLead 4 none [] { frames := 1, cells := 0, slots := 0, locals := 13 })   : ∀ (this : Nat) (v1 : Int32) (s0 : Int32) (σ : Sg), wp_X2_measureLead_30 this v1 s0 σ Post → V G (QM G 0 0 Post) 30 [some (.ref this), some (.int v1), none, none] [.int s0] σ 0 0 := by
  intro this v1 s0 σ h
  unfold wp_X2_measureLead_30 at h
  refine V_istore_n hG dX2_measureLead_30 (Nat.le_of_ble_eq_true rfl) (hpV rfl rfl) ?_
  refine V_iconst (v := 0) hG (by decide) dX2_measureLead_31 ?_
  refine V_istore_n hG dX2_measureLead_32 (Nat.le_of_ble_eq_true rfl) (hpV rfl rfl) ?_
  refine V_forget (lo' := [some (.ref this), some (.int v1), some (.int s0), some (.int (0 : Int32))]) ⟨rfl, ⟨rfl, ⟨rfl, ⟨rfl, trivial⟩⟩⟩⟩ ?_
  obtain ⟨g, h⟩ := h
  refine V_widen (k' := 0) (n' := 0) (by first | exact Nat.le_of_ble_eq_true rfl | omega | (dsimp only; omega)) (by first | exact Nat.le_of_ble_eq_true rfl | omega | (dsimp only; omega)) ?_
  exact wv_X2_measureLead_33 hl hG  g _ _ _ _ _ h
def wp_X2_measureLead (this : Nat) (σ : Sg) (Post : Rs → Sg → Prop) : Prop := this % 32 = 2 ∧ (((sI σ this 1) = 0 → this % 32 = 2 ∧ (((sI σ this 7) ≤ 0 → (wp_X2_measureLead_30 this (0 : Int32) (-1 : Int32) σ Post)) ∧ (¬ (sI σ this 7) ≤ 0 → (wp_X2_measureLead_30 this (0 : Int32) (0 : Int32) σ Post)))) ∧ (¬ (sI σ this 1) = 0 → this % 32 = 2 ∧ this % 32 = 2 ∧ Post (.inl none) (wI σ this 13 (sI σ this 3))))
set_option maxRecDepth 100000 in
set_option maxHeartbeats 4000000 in
theorem ct_X2_measureLead {l : Launch} (hl : l.stackTraces = false) {this : Nat} {σ : Sg} {Post : Rs → Sg → Prop} (h : wp_X2_measureLead this σ Post) : Ct l yX2_measureLead (.code yX2_measureLead cX2_measureLead 4 none) 1 13 0 0 [.ref this] σ Post := by
  refine Ct_of [some (.ref this), none, none, none] hl (by decide +kernel) rfl (fun ad => by rfl) (fun ad => by exact Nat.le_of_ble_eq_true rfl) (fun v hv => mem_lo hv rfl) ?_
  intro G hG
  unfold wp_X2_measureLead at h
  refine V_aload_n (v := .ref this) hG dX2_measureLead_0 rfl rfl ?_
  obtain ⟨ht, h⟩ := h
  refine V_getI hG dX2_measureLead_1 fl_X2_30 rfl ht ?_
  refine V_if_eq (tgt := 16) hG dX2_measureLead_4 (by decide) (fun c => ?_) (fun c => ?_)
  · replace h := h.1 c
    refine V_iconst (v := 0) hG (by decide) dX2_measureLead_16 ?_
    refine V_istore_n hG dX2_measureLead_17 (Nat.le_of_ble_eq_true rfl) (hpV rfl rfl) ?_
    refine V_aload_n (v := .ref this) hG dX2_measureLead_18 rfl rfl ?_
    obtain ⟨ht, h⟩ := h
    refine V_getI hG dX2_measureLead_19 fl_X2_47 rfl ht ?_
    refine V_if_le (tgt := 29) hG dX2_measureLead_22 (by decide) (fun c => ?_) (fun c => ?_)
    · replace h := h.1 c
      refine V_iconst (v := (-1)) hG (by decide) dX2_measureLead_29 ?_
      refine V_forget (lo' := [some (.ref this), some (.int (0 : Int32)), none, none]) ⟨rfl, ⟨rfl, trivial⟩⟩ ?_
      refine V_widen (k' := 0) (n' := 0) (by first | exact Nat.le_of_ble_eq_true rfl | omega | (dsimp only; omega)) (by first | exact Nat.le_of_ble_eq_true rfl | omega | (dsimp only; omega)) ?_
      exact wv_X2_measureLead_30 hl hG  _ _ _ _ h
    · replace h := h.2 c
      refine V_iconst (v := 0) hG (by decide) dX2_measureLead_25 ?_
      refine V_goto (tgt := 30) hG dX2_measureLead_26 (by decide) ?_
      refine V_forget (lo' := [some (.ref this), some (.int (0 : Int32)), none, none]) ⟨rfl, ⟨rfl, trivial⟩⟩ ?_
      refine V_widen (k' := 0) (n' := 0) (by first | exact Nat.le_of_ble_eq_true rfl | omega | (dsimp only; omega)) (by first | exact Nat.le_of_ble_eq_true rfl | omega | (dsimp only; omega)) ?_
      exact wv_X2_measureLead_30 hl hG  _ _ _ _ h
  · replace h := h.2 c
    refine V_aload_n (v := .ref this) hG dX2_measureLead_7 rfl rfl ?_
    refine V_aload_n (v := .ref this) hG dX2_measureLead_8 rfl rfl ?_
    obtain ⟨ht, h⟩ := h
    refine V_getI hG dX2_measureLead_9 fl_X2_72 rfl ht ?_
    obtain ⟨ht, h⟩ := h
    refine V_putI hG dX2_measureLead_12 fl_X2_75 rfl (fun e => absurd e (by decide)) rfl ht ?_
    exact V_vret hG dX2_measureLead_15 (by first | exact Nat.le_of_ble_eq_true rfl | omega | (dsimp only; omega)) (by first | exact Nat.le_of_ble_eq_true rfl | omega | (dsimp only; omega)) h
def wp_X3_init (this : Nat) (a0 : Option Nat) (a1 : Int32) (a2 : Option Nat) (σ : Sg) (Post : Rs → Sg → Prop) : Prop := this % 32 = 3 ∧ this % 32 = 3 ∧ this % 32 = 3 ∧ Post (.inl none) (wP (wI (wP σ this 0 a0) this 1 a1) this 2 a2)
set_option maxRecDepth 100000 in
set_option maxHeartbeats 4000000 in
theorem ct_X3_init {l : Launch} (hl : l.stackTraces = false) {this : Nat} {a0 : Option Nat} {a1 : Int32} {a2 : Option Nat} {σ : Sg} {Post : Rs → Sg → Prop} (h : wp_X3_init this a0 a1 a2 σ Post) : Ct l yX3_init (.code yX3_init cX3_init 4 none) 1 12 0 0 [.ref this, va_rf a0, .int a1, va_rf a2] σ Post := by
  refine Ct_of [some (.ref this), some (va_rf a0), some (.int a1), some (va_rf a2)] hl (by decide +kernel) rfl (fun ad => by cases a0 <;> cases a2 <;> rfl) (fun ad => by cases a0 <;> cases a2 <;> exact Nat.le_of_ble_eq_true rfl) (fun v hv => mem_lo hv rfl) ?_
  intro G hG
  unfold wp_X3_init at h
  refine V_aload_n (v := .ref this) hG dX3_init_0 rfl rfl ?_
  refine V_objInit hG dX3_init_1 ml_X3_1 oi_1 oi_2 (Nat.le_of_ble_eq_true rfl) (by first | exact Nat.le_of_ble_eq_true rfl | (simp only [List.map_cons, List.map_nil, List.sum_cons, List.sum_nil, cat_rf]; exact Nat.le_of_ble_eq_true rfl)) ?_
  refine V_aload_n (v := .ref this) hG dX3_init_4 rfl rfl ?_
  refine V_aload_n (v := va_rf a0) hG dX3_init_5 (isRef_rf _) rfl ?_
  obtain ⟨ht, h⟩ := h
  refine V_putP (v := a0) hG dX3_init_6 fl_X3_7 rfl (by decide +kernel) ht ?_
  refine V_aload_n (v := .ref this) hG dX3_init_9 rfl rfl ?_
  refine V_iload_n hG dX3_init_10 rfl ?_
  obtain ⟨ht, h⟩ := h
  refine V_putI hG dX3_init_11 fl_X3_13 rfl (fun e => absurd e (by decide)) (by decide +kernel) ht ?_
  refine V_aload_n (v := .ref this) hG dX3_init_14 rfl rfl ?_
  refine V_aload_n (v := va_rf a2) hG dX3_init_15 (isRef_rf _) rfl ?_
  obtain ⟨ht, h⟩ := h
  refine V_putP (v := a2) hG dX3_init_16 fl_X3_17 rfl (by decide +kernel) ht ?_
  exact V_vret hG dX3_init_19 (by first | exact Nat.le_of_ble_eq_true rfl | omega | (dsimp only; omega)) (by first | exact Nat.le_of_ble_eq_true rfl | omega | (dsimp only; omega)) h
def wp_X4_init (this : Nat) (a0 : Int32) (a1 : Int32) (a2 : Int32) (a3 : Int32) (a4 : Int32) (a5 : Int32) (a6 : Option Nat) (σ : Sg) (Post : Rs → Sg → Prop) : Prop := this % 32 = 4 ∧ this % 32 = 4 ∧ this % 32 = 4 ∧ this % 32 = 4 ∧ this % 32 = 4 ∧ this % 32 = 4 ∧ this % 32 = 4 ∧ this % 32 = 4 ∧ Post (.inl none) (wP (wI (wI (wI (wI (wI (wI (wI σ this 13 (0 : Int32)) this 0 a0) this 1 a1) this 2 a2) this 3 a3) this 4 a4) this 5 a5) this 6 a6)
set_option maxRecDepth 100000 in
set_option maxHeartbeats 4000000 in
theorem ct_X4_init {l : Launch} (hl : l.stackTraces = false) {this : Nat} {a0 : Int32} {a1 : Int32} {a2 : Int32} {a3 : Int32} {a4 : Int32} {a5 : Int32} {a6 : Option Nat} {σ : Sg} {Post : Rs → Sg → Prop} (h : wp_X4_init this a0 a1 a2 a3 a4 a5 a6 σ Post) : Ct l yX4_init (.code yX4_init cX4_init 8 none) 1 12 0 0 [.ref this, .int a0, .int a1, .int a2, .int a3, .int a4, .int a5, va_rf a6] σ Post := by
  refine Ct_of [some (.ref this), some (.int a0), some (.int a1), some (.int a2), some (.int a3), some (.int a4), some (.int a5), some (va_rf a6)] hl (by decide +kernel) rfl (fun ad => by cases a6 <;> rfl) (fun ad => by cases a6 <;> exact Nat.le_of_ble_eq_true rfl) (fun v hv => mem_lo hv rfl) ?_
  intro G hG
  unfold wp_X4_init at h
  refine V_aload_n (v := .ref this) hG dX4_init_0 rfl rfl ?_
  refine V_objInit hG dX4_init_1 ml_X4_3 oi_1 oi_2 (Nat.le_of_ble_eq_true rfl) (by first | exact Nat.le_of_ble_eq_true rfl | (simp only [List.map_cons, List.map_nil, List.sum_cons, List.sum_nil, cat_rf]; exact Nat.le_of_ble_eq_true rfl)) ?_
  refine V_aload_n (v := .ref this) hG dX4_init_4 rfl rfl ?_
  refine V_iconst (v := 0) hG (by decide) dX4_init_5 ?_
  obtain ⟨ht, h⟩ := h
  refine V_putI hG dX4_init_6 fl_X4_9 rfl (fun e => absurd e (by decide)) rfl ht ?_
  refine V_aload_n (v := .ref this) hG dX4_init_9 rfl rfl ?_
  refine V_iload_n hG dX4_init_10 rfl ?_
  obtain ⟨ht, h⟩ := h
  refine V_putI hG dX4_init_11 fl_X4_15 rfl (fun e => absurd e (by decide)) (by decide +kernel) ht ?_
  refine V_aload_n (v := .ref this) hG dX4_init_14 rfl rfl ?_
  refine V_iload_n hG dX4_init_15 rfl ?_
  obtain ⟨ht, h⟩ := h
  refine V_putI hG dX4_init_16 fl_X4_18 rfl (fun e => absurd e (by decide)) (by decide +kernel) ht ?_
  refine V_aload_n (v := .ref this) hG dX4_init_19 rfl rfl ?_
  refine V_iload_n hG dX4_init_20 rfl ?_
  obtain ⟨ht, h⟩ := h
  refine V_putI hG dX4_init_21 fl_X4_21 rfl (fun e => absurd e (by decide)) (by decide +kernel) ht ?_
  refine V_aload_n (v := .ref this) hG dX4_init_24 rfl rfl ?_
  refine V_iload hG dX4_init_25 rfl ?_
  obtain ⟨ht, h⟩ := h
  refine V_putI hG dX4_init_27 fl_X4_24 rfl (fun e => absurd e (by decide)) (by decide +kernel) ht ?_
  refine V_aload_n (v := .ref this) hG dX4_init_30 rfl rfl ?_
  refine V_iload hG dX4_init_31 rfl ?_
  obtain ⟨ht, h⟩ := h
  refine V_putI hG dX4_init_33 fl_X4_27 rfl (fun e => absurd e (by decide)) (by decide +kernel) ht ?_
  refine V_aload_n (v := .ref this) hG dX4_init_36 rfl rfl ?_
  refine V_iload hG dX4_init_37 rfl ?_
  obtain ⟨ht, h⟩ := h
  refine V_putI hG dX4_init_39 fl_X4_30 rfl (fun e => absurd e (by decide)) (by decide +kernel) ht ?_
  refine V_aload_n (v := .ref this) hG dX4_init_42 rfl rfl ?_
  refine V_aload (v := va_rf a6) hG dX4_init_43 (isRef_rf _) rfl ?_
  obtain ⟨ht, h⟩ := h
  refine V_putP (v := a6) hG dX4_init_45 fl_X4_33 rfl (by decide +kernel) ht ?_
  exact V_vret hG dX4_init_48 (by first | exact Nat.le_of_ble_eq_true rfl | omega | (dsimp only; omega)) (by first | exact Nat.le_of_ble_eq_true rfl | omega | (dsimp only; omega)) h
def wp_X4_tell (this : Nat) (a0 : Int32) (σ : Sg) (Post : Rs → Sg → Prop) : Prop := (((a0).toInt < 0 ∨ 4 < (a0).toInt → this % 32 = 4 ∧ Post (.inl (some (.int (sI σ this 13)))) σ) ∧ (a0 = nI 0 → this % 32 = 4 ∧ ∀ o1, o1 = sP σ this 7 → ((o1 = none → Post (.inl (some (.int (-1 : Int32)))) σ) ∧ (∀ u2, o1 = some u2 → this % 32 = 4 ∧ ∀ o3, o3 = sP σ this 7 → ∃ u4, o3 = some u4 ∧ u4 % 32 = 0 ∧ Post (.inl (some (.int (sI σ u4 0)))) σ))) ∧ (a0 = nI 1 → this % 32 = 4 ∧ Post (.inl (some (.int (sI σ this 9)))) σ) ∧ (a0 = nI 2 → this % 32 = 4 ∧ ∀ o5, o5 = sP σ this 8 → ((o5 = none → Post (.inl (some (.int (-1 : Int32)))) σ) ∧ (∀ u6, o5 = some u6 → this % 32 = 4 ∧ ∀ o7, o7 = sP σ this 8 → ∃ u8, o7 = some u8 ∧ u8 % 32 = 7 ∧ Post (.inl (some (.int (sI σ u8 0)))) σ))) ∧ (a0 = nI 3 → this % 32 = 4 ∧ Post (.inl (some (.int (sI σ this 11)))) σ) ∧ (a0 = nI 4 → this % 32 = 4 ∧ ∀ o9, o9 = sP σ this 12 → ((o9 = none → Post (.inl (some (.int (-1 : Int32)))) σ) ∧ (∀ u10, o9 = some u10 → this % 32 = 4 ∧ ∀ o11, o11 = sP σ this 12 → ∃ u12, o11 = some u12 ∧ u12 % 32 = 2 ∧ Post (.inl (some (.int (sI σ u12 0)))) σ))))
set_option maxRecDepth 100000 in
set_option maxHeartbeats 4000000 in
theorem ct_X4_tell {l : Launch} (hl : l.stackTraces = false) {this : Nat} {a0 : Int32} {σ : Sg} {Post : Rs → Sg → Prop} (h : wp_X4_tell this a0 σ Post) : Ct l yX4_tell (.code yX4_tell cX4_tell 2 (some .int)) 0 0 0 0 [.ref this, .int a0] σ Post := by
  refine Ct_of [some (.ref this), some (.int a0)] hl (by decide +kernel) rfl (fun ad => by rfl) (fun ad => by exact Nat.le_of_ble_eq_true rfl) (fun v hv => mem_lo hv rfl) ?_
  intro G hG
  unfold wp_X4_tell at h
  refine V_iload_n hG dX4_tell_0 rfl ?_
  rcases sw_cases a0 4 (by decide) with c | ⟨j, hj, c⟩
  · replace h := h.1 c
    refine V_swOut (tgt := 103) hG dX4_tell_1 c (by decide) ?_
    refine V_aload_n (v := .ref this) hG dX4_tell_103 rfl rfl ?_
    obtain ⟨ht, h⟩ := h
    refine V_getI hG dX4_tell_104 fl_X4_9 rfl ht ?_
    exact V_iret hG dX4_tell_107 (by first | exact Nat.le_of_ble_eq_true rfl | omega | (dsimp only; omega)) (by first | exact Nat.le_of_ble_eq_true rfl | omega | (dsimp only; omega)) h
  · replace h := h.2
    rcases (show j = 0 ∨ j = 1 ∨ j = 2 ∨ j = 3 ∨ j = 4 by omega) with rfl | rfl | rfl | rfl | rfl
    · replace h := h.1 c
      refine V_top (congrArg Value.int c) ?_
      refine V_swIn (tgt := 36) (off := 35) hG dX4_tell_1 (by decide) (by decide) (by decide) (by decide) ?_
      refine V_aload_n (v := .ref this) hG dX4_tell_36 rfl rfl ?_
      obtain ⟨ht, h⟩ := h
      refine V_getPv hG dX4_tell_37 fl_X4_42 rfl ht (fun o1 ho => ?_)
      replace h := h o1 ho
      refine V_ifnonnull (o := o1) (tgt := 47) hG dX4_tell_40 (by decide) (fun c => ?_) (fun c => ?_)
      · obtain ⟨u2, c⟩ := c
        replace h := h.2 u2 c
        subst c
        refine V_aload_n (v := .ref this) hG dX4_tell_47 rfl rfl ?_
        obtain ⟨ht, h⟩ := h
        refine V_getPv hG dX4_tell_48 fl_X4_42 rfl ht (fun o3 ho => ?_)
        replace h := h o3 ho
        obtain ⟨u4, he, h⟩ := h
        subst he
        obtain ⟨ht, h⟩ := h
        refine V_getI hG dX4_tell_51 fl_X4_92 rfl ht ?_
        exact V_iret hG dX4_tell_54 (by first | exact Nat.le_of_ble_eq_true rfl | omega | (dsimp only; omega)) (by first | exact Nat.le_of_ble_eq_true rfl | omega | (dsimp only; omega)) h
      · replace h := h.1 c
        subst c
        refine V_iconst (v := (-1)) hG (by decide) dX4_tell_43 ?_
        refine V_goto (tgt := 54) hG dX4_tell_44 (by decide) ?_
        exact V_iret hG dX4_tell_54 (by first | exact Nat.le_of_ble_eq_true rfl | omega | (dsimp only; omega)) (by first | exact Nat.le_of_ble_eq_true rfl | omega | (dsimp only; omega)) h
    · replace h := h.2.1 c
      refine V_top (congrArg Value.int c) ?_
      refine V_swIn (tgt := 55) (off := 54) hG dX4_tell_1 (by decide) (by decide) (by decide) (by decide) ?_
      refine V_aload_n (v := .ref this) hG dX4_tell_55 rfl rfl ?_
      obtain ⟨ht, h⟩ := h
      refine V_getI hG dX4_tell_56 fl_X4_64 rfl ht ?_
      exact V_iret hG dX4_tell_59 (by first | exact Nat.le_of_ble_eq_true rfl | omega | (dsimp only; omega)) (by first | exact Nat.le_of_ble_eq_true rfl | omega | (dsimp only; omega)) h
    · replace h := h.2.2.1 c
      refine V_top (congrArg Value.int c) ?_
      refine V_swIn (tgt := 60) (off := 59) hG dX4_tell_1 (by decide) (by decide) (by decide) (by decide) ?_
      refine V_aload_n (v := .ref this) hG dX4_tell_60 rfl rfl ?_
      obtain ⟨ht, h⟩ := h
      refine V_getPv hG dX4_tell_61 fl_X4_82 rfl ht (fun o5 ho => ?_)
      replace h := h o5 ho
      refine V_ifnonnull (o := o5) (tgt := 71) hG dX4_tell_64 (by decide) (fun c => ?_) (fun c => ?_)
      · obtain ⟨u6, c⟩ := c
        replace h := h.2 u6 c
        subst c
        refine V_aload_n (v := .ref this) hG dX4_tell_71 rfl rfl ?_
        obtain ⟨ht, h⟩ := h
        refine V_getPv hG dX4_tell_72 fl_X4_82 rfl ht (fun o7 ho => ?_)
        replace h := h o7 ho
        obtain ⟨u8, he, h⟩ := h
        subst he
        obtain ⟨ht, h⟩ := h
        refine V_getI hG dX4_tell_75 fl_X4_99 rfl ht ?_
        exact V_iret hG dX4_tell_78 (by first | exact Nat.le_of_ble_eq_true rfl | omega | (dsimp only; omega)) (by first | exact Nat.le_of_ble_eq_true rfl | omega | (dsimp only; omega)) h
      · replace h := h.1 c
        subst c
        refine V_iconst (v := (-1)) hG (by decide) dX4_tell_67 ?_
        refine V_goto (tgt := 78) hG dX4_tell_68 (by decide) ?_
        exact V_iret hG dX4_tell_78 (by first | exact Nat.le_of_ble_eq_true rfl | omega | (dsimp only; omega)) (by first | exact Nat.le_of_ble_eq_true rfl | omega | (dsimp only; omega)) h
    · replace h := h.2.2.2.1 c
      refine V_top (congrArg Value.int c) ?_
      refine V_swIn (tgt := 79) (off := 78) hG dX4_tell_1 (by decide) (by decide) (by decide) (by decide) ?_
      refine V_aload_n (v := .ref this) hG dX4_tell_79 rfl rfl ?_
      obtain ⟨ht, h⟩ := h
      refine V_getI hG dX4_tell_80 fl_X4_89 rfl ht ?_
      exact V_iret hG dX4_tell_83 (by first | exact Nat.le_of_ble_eq_true rfl | omega | (dsimp only; omega)) (by first | exact Nat.le_of_ble_eq_true rfl | omega | (dsimp only; omega)) h
    · replace h := h.2.2.2.2 c
      refine V_top (congrArg Value.int c) ?_
      refine V_swIn (tgt := 84) (off := 83) hG dX4_tell_1 (by decide) (by decide) (by decide) (by decide) ?_
      refine V_aload_n (v := .ref this) hG dX4_tell_84 rfl rfl ?_
      obtain ⟨ht, h⟩ := h
      refine V_getPv hG dX4_tell_85 fl_X4_67 rfl ht (fun o9 ho => ?_)
      replace h := h o9 ho
      refine V_ifnonnull (o := o9) (tgt := 95) hG dX4_tell_88 (by decide) (fun c => ?_) (fun c => ?_)
      · obtain ⟨u10, c⟩ := c
        replace h := h.2 u10 c
        subst c
        refine V_aload_n (v := .ref this) hG dX4_tell_95 rfl rfl ?_
        obtain ⟨ht, h⟩ := h
        refine V_getPv hG dX4_tell_96 fl_X4_67 rfl ht (fun o11 ho => ?_)
        replace h := h o11 ho
        obtain ⟨u12, he, h⟩ := h
        subst he
        obtain ⟨ht, h⟩ := h
        refine V_getI hG dX4_tell_99 fl_X4_100 rfl ht ?_
        exact V_iret hG dX4_tell_102 (by first | exact Nat.le_of_ble_eq_true rfl | omega | (dsimp only; omega)) (by first | exact Nat.le_of_ble_eq_true rfl | omega | (dsimp only; omega)) h
      · replace h := h.1 c
        subst c
        refine V_iconst (v := (-1)) hG (by decide) dX4_tell_91 ?_
        refine V_goto (tgt := 102) hG dX4_tell_92 (by decide) ?_
        exact V_iret hG dX4_tell_102 (by first | exact Nat.le_of_ble_eq_true rfl | omega | (dsimp only; omega)) (by first | exact Nat.le_of_ble_eq_true rfl | omega | (dsimp only; omega)) h
def wp_X5_init (this : Nat) (a0 : Int32) (a1 : Int32) (a2 : Int32) (σ : Sg) (Post : Rs → Sg → Prop) : Prop := this % 32 = 5 ∧ this % 32 = 5 ∧ this % 32 = 5 ∧ Post (.inl none) (wI (wI (wI σ this 0 a0) this 1 a1) this 2 a2)
set_option maxRecDepth 100000 in
set_option maxHeartbeats 4000000 in
theorem ct_X5_init {l : Launch} (hl : l.stackTraces = false) {this : Nat} {a0 : Int32} {a1 : Int32} {a2 : Int32} {σ : Sg} {Post : Rs → Sg → Prop} (h : wp_X5_init this a0 a1 a2 σ Post) : Ct l yX5_init (.code yX5_init cX5_init 4 none) 1 12 0 0 [.ref this, .int a0, .int a1, .int a2] σ Post := by
  refine Ct_of [some (.ref this), some (.int a0), some (.int a1), some (.int a2)] hl (by decide +kernel) rfl (fun ad => by rfl) (fun ad => by exact Nat.le_of_ble_eq_true rfl) (fun v hv => mem_lo hv rfl) ?_
  intro G hG
  unfold wp_X5_init at h
  refine V_aload_n (v := .ref this) hG dX5_init_0 rfl rfl ?_
  refine V_objInit hG dX5_init_1 ml_X5_1 oi_1 oi_2 (Nat.le_of_ble_eq_true rfl) (by first | exact Nat.le_of_ble_eq_true rfl | (simp only [List.map_cons, List.map_nil, List.sum_cons, List.sum_nil, cat_rf]; exact Nat.le_of_ble_eq_true rfl)) ?_
  refine V_aload_n (v := .ref this) hG dX5_init_4 rfl rfl ?_
  refine V_iload_n hG dX5_init_5 rfl ?_
  obtain ⟨ht, h⟩ := h
  refine V_putI hG dX5_init_6 fl_X5_7 rfl (fun e => absurd e (by decide)) (by decide +kernel) ht ?_
  refine V_aload_n (v := .ref this) hG dX5_init_9 rfl rfl ?_
  refine V_iload_n hG dX5_init_10 rfl ?_
  obtain ⟨ht, h⟩ := h
  refine V_putI hG dX5_init_11 fl_X5_13 rfl (fun e => absurd e (by decide)) (by decide +kernel) ht ?_
  refine V_aload_n (v := .ref this) hG dX5_init_14 rfl rfl ?_
  refine V_iload_n hG dX5_init_15 rfl ?_
  obtain ⟨ht, h⟩ := h
  refine V_putI hG dX5_init_16 fl_X5_16 rfl (fun e => absurd e (by decide)) (by decide +kernel) ht ?_
  exact V_vret hG dX5_init_19 (by first | exact Nat.le_of_ble_eq_true rfl | omega | (dsimp only; omega)) (by first | exact Nat.le_of_ble_eq_true rfl | omega | (dsimp only; omega)) h
def wp_X6_init (this : Nat) (a0 : Option Nat) (a1 : Int32) (a2 : Int32) (σ : Sg) (Post : Rs → Sg → Prop) : Prop := this % 32 = 6 ∧ this % 32 = 6 ∧ this % 32 = 6 ∧ Post (.inl none) (wI (wI (wP σ this 0 a0) this 1 a1) this 2 a2)
set_option maxRecDepth 100000 in
set_option maxHeartbeats 4000000 in
theorem ct_X6_init {l : Launch} (hl : l.stackTraces = false) {this : Nat} {a0 : Option Nat} {a1 : Int32} {a2 : Int32} {σ : Sg} {Post : Rs → Sg → Prop} (h : wp_X6_init this a0 a1 a2 σ Post) : Ct l yX6_init (.code yX6_init cX6_init 4 none) 1 12 0 0 [.ref this, va_rf a0, .int a1, .int a2] σ Post := by
  refine Ct_of [some (.ref this), some (va_rf a0), some (.int a1), some (.int a2)] hl (by decide +kernel) rfl (fun ad => by cases a0 <;> rfl) (fun ad => by cases a0 <;> exact Nat.le_of_ble_eq_true rfl) (fun v hv => mem_lo hv rfl) ?_
  intro G hG
  unfold wp_X6_init at h
  refine V_aload_n (v := .ref this) hG dX6_init_0 rfl rfl ?_
  refine V_objInit hG dX6_init_1 ml_X6_3 oi_1 oi_2 (Nat.le_of_ble_eq_true rfl) (by first | exact Nat.le_of_ble_eq_true rfl | (simp only [List.map_cons, List.map_nil, List.sum_cons, List.sum_nil, cat_rf]; exact Nat.le_of_ble_eq_true rfl)) ?_
  refine V_aload_n (v := .ref this) hG dX6_init_4 rfl rfl ?_
  refine V_aload_n (v := va_rf a0) hG dX6_init_5 (isRef_rf _) rfl ?_
  obtain ⟨ht, h⟩ := h
  refine V_putP (v := a0) hG dX6_init_6 fl_X6_9 rfl (by decide +kernel) ht ?_
  refine V_aload_n (v := .ref this) hG dX6_init_9 rfl rfl ?_
  refine V_iload_n hG dX6_init_10 rfl ?_
  obtain ⟨ht, h⟩ := h
  refine V_putI hG dX6_init_11 fl_X6_15 rfl (fun e => absurd e (by decide)) (by decide +kernel) ht ?_
  refine V_aload_n (v := .ref this) hG dX6_init_14 rfl rfl ?_
  refine V_iload_n hG dX6_init_15 rfl ?_
  obtain ⟨ht, h⟩ := h
  refine V_putI hG dX6_init_16 fl_X6_19 rfl (fun e => absurd e (by decide)) (by decide +kernel) ht ?_
  exact V_vret hG dX6_init_19 (by first | exact Nat.le_of_ble_eq_true rfl | omega | (dsimp only; omega)) (by first | exact Nat.le_of_ble_eq_true rfl | omega | (dsimp only; omega)) h
def wp_X6_tell_94  (this : Nat) (s0 : Int32) (s1 : Int32) (σ : Sg) (Post : Rs → Sg → Prop) : Prop := this % 32 = 6 ∧ Post (.inl (some (.int (if s0 < (s1 - (sI σ this 2)) then (s1 - (sI σ this 2)) else s0)))) σ
set_option maxRecDepth 100000 in
set_option maxHeartbeats 4000000 in
theorem wv_X6_tell_94 {L9 : Launch} {G : Cx} {Post : Rs → Sg → Prop} (hl : L9.stackTraces = false) (hG : CX L9 G yX6_tell cX6_tell 3 (some .int) [] { frames := 1, cells := 0, slots := 0, locals := 13 })   : ∀ (this : Nat) (s0 : Int32) (s1 : Int32) (σ : Sg), wp_X6_tell_94 this s0 s1 σ Post → V G (QM G 0 0 Post) 94 [some (.ref this), none, none] [.int s1, .int s0] σ 0 0 := by
  intro this s0 s1 σ h
  unfold wp_X6_tell_94 at h
  refine V_aload_n (v := .ref this) hG dX6_tell_94 rfl rfl ?_
  obtain ⟨ht, h⟩ := h
  refine V_getI hG dX6_tell_95 fl_X6_19 rfl ht ?_
  refine V_isub hG dX6_tell_98 ?_
  refine V_mmax hG dX6_tell_99 ml_X6_40 mm_max.1 mm_max.2.1 mm_max.2.2 (Nat.le_of_ble_eq_true rfl) (by first | exact Nat.le_of_ble_eq_true rfl | (simp only [List.map_cons, List.map_nil, List.sum_cons, List.sum_nil, cat_rf]; exact Nat.le_of_ble_eq_true rfl)) (Nat.le_of_ble_eq_true rfl) (Nat.le_of_ble_eq_true rfl) ?_
  exact V_iret hG dX6_tell_102 (by first | exact Nat.le_of_ble_eq_true rfl | omega | (dsimp only; omega)) (by first | exact Nat.le_of_ble_eq_true rfl | omega | (dsimp only; omega)) h
def wp_X6_tell (this : Nat) (a0 : Int32) (a1 : Int32) (σ : Sg) (Post : Rs → Sg → Prop) : Prop := (((a0).toInt < 0 ∨ 4 < (a0).toInt → this % 32 = 6 ∧ ∀ o1, o1 = sP σ this 4 → ((o1 = none → (wp_X6_tell_94 this (0 : Int32) a1 σ Post)) ∧ (∀ u2, o1 = some u2 → this % 32 = 6 ∧ (wp_X6_tell_94 this (0 : Int32) (sI σ this 5) σ Post)))) ∧ (a0 = nI 0 → this % 32 = 6 ∧ ∀ o3, o3 = sP σ this 0 → ∃ u4, o3 = some u4 ∧ u4 % 32 = 2 ∧ Post (.inl (some (.int (sI σ u4 0)))) σ) ∧ (a0 = nI 1 → this % 32 = 6 ∧ Post (.inl (some (.int (sI σ this 1)))) σ) ∧ (a0 = nI 2 → this % 32 = 6 ∧ Post (.inl (some (.int (sI σ this 2)))) σ) ∧ (a0 = nI 3 → this % 32 = 6 ∧ Post (.inl (some (.int (sI σ this 3)))) σ) ∧ (a0 = nI 4 → this % 32 = 6 ∧ ∀ o5, o5 = sP σ this 4 → ((o5 = none → Post (.inl (some (.int (-1 : Int32)))) σ) ∧ (∀ u6, o5 = some u6 → this % 32 = 6 ∧ ∀ o7, o7 = sP σ this 4 → ∃ u8, o7 = some u8 ∧ u8 % 32 = 0 ∧ Post (.inl (some (.int (sI σ u8 0)))) σ))))
set_option maxRecDepth 100000 in
set_option maxHeartbeats 4000000 in
theorem ct_X6_tell {l : Launch} (hl : l.stackTraces = false) {this : Nat} {a0 : Int32} {a1 : Int32} {σ : Sg} {Post : Rs → Sg → Prop} (h : wp_X6_tell this a0 a1 σ Post) : Ct l yX6_tell (.code yX6_tell cX6_tell 3 (some .int)) 1 13 0 0 [.ref this, .int a0, .int a1] σ Post := by
  refine Ct_of [some (.ref this), some (.int a0), some (.int a1)] hl (by decide +kernel) rfl (fun ad => by rfl) (fun ad => by exact Nat.le_of_ble_eq_true rfl) (fun v hv => mem_lo hv rfl) ?_
  intro G hG
  unfold wp_X6_tell at h
  refine V_iload_n hG dX6_tell_0 rfl ?_
  rcases sw_cases a0 4 (by decide) with c | ⟨j, hj, c⟩
  · replace h := h.1 c
    refine V_swOut (tgt := 78) hG dX6_tell_1 c (by decide) ?_
    refine V_iconst (v := 0) hG (by decide) dX6_tell_78 ?_
    refine V_aload_n (v := .ref this) hG dX6_tell_79 rfl rfl ?_
    obtain ⟨ht, h⟩ := h
    refine V_getPv hG dX6_tell_80 fl_X6_30 rfl ht (fun o1 ho => ?_)
    replace h := h o1 ho
    refine V_ifnonnull (o := o1) (tgt := 90) hG dX6_tell_83 (by decide) (fun c => ?_) (fun c => ?_)
    · obtain ⟨u2, c⟩ := c
      replace h := h.2 u2 c
      subst c
      refine V_aload_n (v := .ref this) hG dX6_tell_90 rfl rfl ?_
      obtain ⟨ht, h⟩ := h
      refine V_getI hG dX6_tell_91 fl_X6_37 rfl ht ?_
      refine V_forget (lo' := [some (.ref this), none, none]) ⟨rfl, trivial⟩ ?_
      refine V_widen (k' := 0) (n' := 0) (by first | exact Nat.le_of_ble_eq_true rfl | omega | (dsimp only; omega)) (by first | exact Nat.le_of_ble_eq_true rfl | omega | (dsimp only; omega)) ?_
      exact wv_X6_tell_94 hl hG  _ _ _ _ h
    · replace h := h.1 c
      subst c
      refine V_iload_n hG dX6_tell_86 rfl ?_
      refine V_goto (tgt := 94) hG dX6_tell_87 (by decide) ?_
      refine V_forget (lo' := [some (.ref this), none, none]) ⟨rfl, trivial⟩ ?_
      refine V_widen (k' := 0) (n' := 0) (by first | exact Nat.le_of_ble_eq_true rfl | omega | (dsimp only; omega)) (by first | exact Nat.le_of_ble_eq_true rfl | omega | (dsimp only; omega)) ?_
      exact wv_X6_tell_94 hl hG  _ _ _ _ h
  · replace h := h.2
    rcases (show j = 0 ∨ j = 1 ∨ j = 2 ∨ j = 3 ∨ j = 4 by omega) with rfl | rfl | rfl | rfl | rfl
    · replace h := h.1 c
      refine V_top (congrArg Value.int c) ?_
      refine V_swIn (tgt := 36) (off := 35) hG dX6_tell_1 (by decide) (by decide) (by decide) (by decide) ?_
      refine V_aload_n (v := .ref this) hG dX6_tell_36 rfl rfl ?_
      obtain ⟨ht, h⟩ := h
      refine V_getPv hG dX6_tell_37 fl_X6_9 rfl ht (fun o3 ho => ?_)
      replace h := h o3 ho
      obtain ⟨u4, he, h⟩ := h
      subst he
      obtain ⟨ht, h⟩ := h
      refine V_getI hG dX6_tell_40 fl_X6_22 rfl ht ?_
      exact V_iret hG dX6_tell_43 (by first | exact Nat.le_of_ble_eq_true rfl | omega | (dsimp only; omega)) (by first | exact Nat.le_of_ble_eq_true rfl | omega | (dsimp only; omega)) h
    · replace h := h.2.1 c
      refine V_top (congrArg Value.int c) ?_
      refine V_swIn (tgt := 44) (off := 43) hG dX6_tell_1 (by decide) (by decide) (by decide) (by decide) ?_
      refine V_aload_n (v := .ref this) hG dX6_tell_44 rfl rfl ?_
      obtain ⟨ht, h⟩ := h
      refine V_getI hG dX6_tell_45 fl_X6_15 rfl ht ?_
      exact V_iret hG dX6_tell_48 (by first | exact Nat.le_of_ble_eq_true rfl | omega | (dsimp only; omega)) (by first | exact Nat.le_of_ble_eq_true rfl | omega | (dsimp only; omega)) h
    · replace h := h.2.2.1 c
      refine V_top (congrArg Value.int c) ?_
      refine V_swIn (tgt := 49) (off := 48) hG dX6_tell_1 (by decide) (by decide) (by decide) (by decide) ?_
      refine V_aload_n (v := .ref this) hG dX6_tell_49 rfl rfl ?_
      obtain ⟨ht, h⟩ := h
      refine V_getI hG dX6_tell_50 fl_X6_19 rfl ht ?_
      exact V_iret hG dX6_tell_53 (by first | exact Nat.le_of_ble_eq_true rfl | omega | (dsimp only; omega)) (by first | exact Nat.le_of_ble_eq_true rfl | omega | (dsimp only; omega)) h
    · replace h := h.2.2.2.1 c
      refine V_top (congrArg Value.int c) ?_
      refine V_swIn (tgt := 54) (off := 53) hG dX6_tell_1 (by decide) (by decide) (by decide) (by decide) ?_
      refine V_aload_n (v := .ref this) hG dX6_tell_54 rfl rfl ?_
      obtain ⟨ht, h⟩ := h
      refine V_getI hG dX6_tell_55 fl_X6_27 rfl ht ?_
      exact V_iret hG dX6_tell_58 (by first | exact Nat.le_of_ble_eq_true rfl | omega | (dsimp only; omega)) (by first | exact Nat.le_of_ble_eq_true rfl | omega | (dsimp only; omega)) h
    · replace h := h.2.2.2.2 c
      refine V_top (congrArg Value.int c) ?_
      refine V_swIn (tgt := 59) (off := 58) hG dX6_tell_1 (by decide) (by decide) (by decide) (by decide) ?_
      refine V_aload_n (v := .ref this) hG dX6_tell_59 rfl rfl ?_
      obtain ⟨ht, h⟩ := h
      refine V_getPv hG dX6_tell_60 fl_X6_30 rfl ht (fun o5 ho => ?_)
      replace h := h o5 ho
      refine V_ifnonnull (o := o5) (tgt := 70) hG dX6_tell_63 (by decide) (fun c => ?_) (fun c => ?_)
      · obtain ⟨u6, c⟩ := c
        replace h := h.2 u6 c
        subst c
        refine V_aload_n (v := .ref this) hG dX6_tell_70 rfl rfl ?_
        obtain ⟨ht, h⟩ := h
        refine V_getPv hG dX6_tell_71 fl_X6_30 rfl ht (fun o7 ho => ?_)
        replace h := h o7 ho
        obtain ⟨u8, he, h⟩ := h
        subst he
        obtain ⟨ht, h⟩ := h
        refine V_getI hG dX6_tell_74 fl_X6_34 rfl ht ?_
        exact V_iret hG dX6_tell_77 (by first | exact Nat.le_of_ble_eq_true rfl | omega | (dsimp only; omega)) (by first | exact Nat.le_of_ble_eq_true rfl | omega | (dsimp only; omega)) h
      · replace h := h.1 c
        subst c
        refine V_iconst (v := (-1)) hG (by decide) dX6_tell_66 ?_
        refine V_goto (tgt := 77) hG dX6_tell_67 (by decide) ?_
        exact V_iret hG dX6_tell_77 (by first | exact Nat.le_of_ble_eq_true rfl | omega | (dsimp only; omega)) (by first | exact Nat.le_of_ble_eq_true rfl | omega | (dsimp only; omega)) h
def wp_X7_init (this : Nat) (a0 : Int32) (a1 : Int32) (a2 : Int32) (a3 : Int32) (σ : Sg) (Post : Rs → Sg → Prop) : Prop := ∃ u1, sX σ u1 = false ∧ aty (u1 % 32) = some .int ∧ aln u1 = 4 ∧ this % 32 = 7 ∧ ∃ u2, sX (wP (wN σ u1) this 4 (some u1)) u2 = false ∧ aty (u2 % 32) = some .int ∧ aln u2 = 4 ∧ this % 32 = 7 ∧ this % 32 = 7 ∧ this % 32 = 7 ∧ this % 32 = 7 ∧ this % 32 = 7 ∧ this % 32 = 7 ∧ Post (.inl none) (wI (wI (wI (wI (wI (wP (wN (wP (wN σ u1) this 4 (some u1)) u2) this 5 (some u2)) this 6 (-1 : Int32)) this 0 a0) this 1 a1) this 2 a2) this 3 a3)
set_option maxRecDepth 100000 in
set_option maxHeartbeats 4000000 in
theorem ct_X7_init {l : Launch} (hl : l.stackTraces = false) {this : Nat} {a0 : Int32} {a1 : Int32} {a2 : Int32} {a3 : Int32} {σ : Sg} {Post : Rs → Sg → Prop} (h : wp_X7_init this a0 a1 a2 a3 σ Post) : Ct l yX7_init (.code yX7_init cX7_init 5 none) 1 12 2 8 [.ref this, .int a0, .int a1, .int a2, .int a3] σ Post := by
  refine Ct_of [some (.ref this), some (.int a0), some (.int a1), some (.int a2), some (.int a3)] hl (by decide +kernel) rfl (fun ad => by rfl) (fun ad => by exact Nat.le_of_ble_eq_true rfl) (fun v hv => mem_lo hv rfl) ?_
  intro G hG
  unfold wp_X7_init at h
  refine V_aload_n (v := .ref this) hG dX7_init_0 rfl rfl ?_
  refine V_objInit hG dX7_init_1 ml_X7_3 oi_1 oi_2 (Nat.le_of_ble_eq_true rfl) (by first | exact Nat.le_of_ble_eq_true rfl | (simp only [List.map_cons, List.map_nil, List.sum_cons, List.sum_nil, cat_rf]; exact Nat.le_of_ble_eq_true rfl)) ?_
  refine V_aload_n (v := .ref this) hG dX7_init_4 rfl rfl ?_
  refine V_iconst (v := 4) hG (by decide) dX7_init_5 ?_
  obtain ⟨u1, hu, hy, hn, h⟩ := h
  refine V_newan (ty := .int) (N := 4) hG dX7_init_6 rfl hu hy rfl (fun _ _ h => h) arr_int hn rfl (by decide) (Nat.le_of_ble_eq_true rfl) (Nat.le_of_ble_eq_true rfl) ?_
  obtain ⟨ht, h⟩ := h
  refine V_putS hG dX7_init_8 fl_X7_9 rfl (by decide +kernel) ht ?_
  refine V_aload_n (v := .ref this) hG dX7_init_11 rfl rfl ?_
  refine V_iconst (v := 4) hG (by decide) dX7_init_12 ?_
  obtain ⟨u2, hu, hy, hn, h⟩ := h
  refine V_newan (ty := .int) (N := 4) hG dX7_init_13 rfl hu hy rfl (fun _ _ h => h) arr_int hn rfl (by decide) (Nat.le_of_ble_eq_true rfl) (Nat.le_of_ble_eq_true rfl) ?_
  obtain ⟨ht, h⟩ := h
  refine V_putS hG dX7_init_15 fl_X7_15 rfl (by decide +kernel) ht ?_
  refine V_aload_n (v := .ref this) hG dX7_init_18 rfl rfl ?_
  refine V_iconst (v := (-1)) hG (by decide) dX7_init_19 ?_
  obtain ⟨ht, h⟩ := h
  refine V_putI hG dX7_init_20 fl_X7_18 rfl (fun e => absurd e (by decide)) rfl ht ?_
  refine V_aload_n (v := .ref this) hG dX7_init_23 rfl rfl ?_
  refine V_iload_n hG dX7_init_24 rfl ?_
  obtain ⟨ht, h⟩ := h
  refine V_putI hG dX7_init_25 fl_X7_22 rfl (fun e => absurd e (by decide)) (by decide +kernel) ht ?_
  refine V_aload_n (v := .ref this) hG dX7_init_28 rfl rfl ?_
  refine V_iload_n hG dX7_init_29 rfl ?_
  obtain ⟨ht, h⟩ := h
  refine V_putI hG dX7_init_30 fl_X7_25 rfl (fun e => absurd e (by decide)) (by decide +kernel) ht ?_
  refine V_aload_n (v := .ref this) hG dX7_init_33 rfl rfl ?_
  refine V_iload_n hG dX7_init_34 rfl ?_
  obtain ⟨ht, h⟩ := h
  refine V_putI hG dX7_init_35 fl_X7_28 rfl (fun e => absurd e (by decide)) (by decide +kernel) ht ?_
  refine V_aload_n (v := .ref this) hG dX7_init_38 rfl rfl ?_
  refine V_iload hG dX7_init_39 rfl ?_
  obtain ⟨ht, h⟩ := h
  refine V_putI hG dX7_init_41 fl_X7_31 rfl (fun e => absurd e (by decide)) (by decide +kernel) ht ?_
  exact V_vret hG dX7_init_44 (by first | exact Nat.le_of_ble_eq_true rfl | omega | (dsimp only; omega)) (by first | exact Nat.le_of_ble_eq_true rfl | omega | (dsimp only; omega)) h
def wp_X8_newBatch (this : Nat) (a0 : Option Nat) (a1 : Int32) (a2 : Int32) (σ : Sg) (Post : Rs → Sg → Prop) : Prop := this % 32 = 8 ∧ this % 32 = 8 ∧ ∀ o1, o1 = sP σ this 0 → ∃ u2, o1 = some u2 ∧ isArr u2 ∧ (((sI σ this 1) < (nI (aln u2)) → ∃ u3, sX σ u3 = false ∧ u3 % 32 = 0 ∧ this % 32 = 8 ∧ wp_X0_init u3 (sI (wN σ u3) this 1) a0 a1 a2 (wN σ u3) (KV (fun σ4 => this % 32 = 8 ∧ ∀ o5, o5 = sP σ4 this 0 → this % 32 = 8 ∧ ∃ u6, o5 = some u6 ∧ canSt u6 u3 ∧ ∃ j7, (sI σ4 this 1) = nI j7 ∧ j7 < aln u6 ∧ this % 32 = 8 ∧ this % 32 = 8 ∧ ∃ u8, a0 = some u8 ∧ u8 % 32 = 2 ∧ b01 (1 : Int32) ∧ Post (.inl (some (.ref u3))) (wI (wI (wP σ4 u6 j7 (some u3)) this 1 ((sI (wP σ4 u6 j7 (some u3)) this 1) + (1 : Int32))) u8 9 (1 : Int32))) (fun E σ4 => Post (.inr E) σ4))) ∧ (¬ (sI σ this 1) < (nI (aln u2)) → Post (.inr "java/lang/IllegalStateException") σ))
set_option maxRecDepth 100000 in
set_option maxHeartbeats 4000000 in
theorem ct_X8_newBatch {l : Launch} (hl : l.stackTraces = false) {this : Nat} {a0 : Option Nat} {a1 : Int32} {a2 : Int32} {σ : Sg} {Post : Rs → Sg → Prop} (h : wp_X8_newBatch this a0 a1 a2 σ Post) : Ct l yX8_newBatch (.code yX8_newBatch cX8_newBatch 5 (some (.object "Millrace$Batch"))) 6 82 1 12 [.ref this, va_rf a0, .int a1, .int a2] σ Post := by
  refine Ct_of [some (.ref this), some (va_rf a0), some (.int a1), some (.int a2), none] hl (by decide +kernel) rfl (fun ad => by cases a0 <;> rfl) (fun ad => by cases a0 <;> exact Nat.le_of_ble_eq_true rfl) (fun v hv => mem_lo hv rfl) ?_
  intro G hG
  unfold wp_X8_newBatch at h
  refine V_aload_n (v := .ref this) hG dX8_newBatch_0 rfl rfl ?_
  obtain ⟨ht, h⟩ := h
  refine V_getI hG dX8_newBatch_1 fl_X8_27 rfl ht ?_
  refine V_aload_n (v := .ref this) hG dX8_newBatch_4 rfl rfl ?_
  obtain ⟨ht, h⟩ := h
  refine V_getPv hG dX8_newBatch_5 fl_X8_11 rfl ht (fun o1 ho => ?_)
  replace h := h o1 ho
  obtain ⟨u2, he, h⟩ := h
  subst he
  obtain ⟨ha, h⟩ := h
  refine V_alenv hG dX8_newBatch_8 ha ?_
  refine V_icmp_lt (tgt := 22) hG dX8_newBatch_9 (by decide) (fun c => ?_) (fun c => ?_)
  · replace h := h.1 c
    obtain ⟨u3, hu, ht, h⟩ := h
    refine V_newn (N := 12) hG dX8_newBatch_22 hu ht rfl rfl cl_X8_9 ins_X0 ini_X0 (Nat.le_of_ble_eq_true rfl) (Nat.le_of_ble_eq_true rfl) ?_
    refine V_dup (v := .ref u3) hG rfl dX8_newBatch_25 ?_
    refine V_aload_n (v := .ref this) hG dX8_newBatch_26 rfl rfl ?_
    obtain ⟨ht, h⟩ := h
    refine V_getI hG dX8_newBatch_27 fl_X8_27 rfl ht ?_
    refine V_aload_n (v := va_rf a0) hG dX8_newBatch_30 (isRef_rf _) rfl ?_
    refine V_iload_n hG dX8_newBatch_31 rfl ?_
    refine V_iload_n hG dX8_newBatch_32 rfl ?_
    refine V_cIV _ _ hG dX8_newBatch_33 (ct_X0_init hl h) mv_X0_init ml_X8_38 rfl rfl (by first | exact Nat.le_of_ble_eq_true rfl | (simp only [List.map_cons, List.map_nil, List.sum_cons, List.sum_nil, cat_rf]; exact Nat.le_of_ble_eq_true rfl)) (Nat.le_of_ble_eq_true rfl) (Nat.le_of_ble_eq_true rfl) (by first | exact Nat.le_of_ble_eq_true rfl | omega | (dsimp only; omega)) (by first | exact Nat.le_of_ble_eq_true rfl | omega | (dsimp only; omega)) ?_ (fun σ4 h9 => ?_)
    · exact fun E σ4 hx => VX_out hG (by first | exact Nat.le_of_ble_eq_true rfl | omega | (dsimp only; omega)) (by first | exact Nat.le_of_ble_eq_true rfl | omega | (dsimp only; omega)) hx
    · replace h := h9
      clear h9
      refine V_astore hG dX8_newBatch_36 rfl (Nat.le_of_ble_eq_true rfl) (hpV rfl rfl) ?_
      refine V_aload_n (v := .ref this) hG dX8_newBatch_38 rfl rfl ?_
      obtain ⟨ht, h⟩ := h
      refine V_getPv hG dX8_newBatch_39 fl_X8_11 rfl ht (fun o5 ho => ?_)
      replace h := h o5 ho
      refine V_aload_n (v := .ref this) hG dX8_newBatch_42 rfl rfl ?_
      obtain ⟨ht, h⟩ := h
      refine V_getI hG dX8_newBatch_43 fl_X8_27 rfl ht ?_
      refine V_aload (v := .ref u3) hG dX8_newBatch_46 rfl rfl ?_
      obtain ⟨u6, he, h⟩ := h
      subst he
      obtain ⟨ha, j7, hi, hj, h⟩ := h
      refine V_aastv hG dX8_newBatch_48 ha hi hj ?_
      refine V_aload_n (v := .ref this) hG dX8_newBatch_49 rfl rfl ?_
      refine V_dup (v := .ref this) hG rfl dX8_newBatch_50 ?_
      obtain ⟨ht, h⟩ := h
      refine V_getI hG dX8_newBatch_51 fl_X8_27 rfl ht ?_
      refine V_iconst (v := 1) hG (by decide) dX8_newBatch_54 ?_
      refine V_iadd hG dX8_newBatch_55 ?_
      obtain ⟨ht, h⟩ := h
      refine V_putI hG dX8_newBatch_56 fl_X8_27 rfl (fun e => absurd e (by decide)) rfl ht ?_
      refine V_aload_n (v := va_rf a0) hG dX8_newBatch_59 (isRef_rf _) rfl ?_
      refine V_iconst (v := 1) hG (by decide) dX8_newBatch_60 ?_
      obtain ⟨u8, he, h⟩ := h
      subst he
      obtain ⟨ht, h⟩ := h
      obtain ⟨hb, h⟩ := h
      refine V_putI hG dX8_newBatch_61 fl_X8_41 rfl (fun _ => hb) rfl ht ?_
      refine V_aload (v := .ref u3) hG dX8_newBatch_64 rfl rfl ?_
      exact V_aret (v := .ref u3) hG dX8_newBatch_66 rfl (by first | exact Nat.le_of_ble_eq_true rfl | omega | (dsimp only; omega)) (by first | exact Nat.le_of_ble_eq_true rfl | omega | (dsimp only; omega)) h
  · replace h := h.2 c
    exact V_throw (ik := 31) (is := 33) (ic := 35) (text := "60 batches were made") "java/lang/IllegalStateException" hG dX8_newBatch_12 dX8_newBatch_15 dX8_newBatch_16 dX8_newBatch_18 dX8_newBatch_21 (by decide) tw_X8_35_33_S.1 tw_X8_35_33_S.2.1 in_S tw_X8_35_33_S.2.2.1 tw_X8_35_33_S.2.2.2.1 tw_X8_35_33_S.2.2.2.2.1 tw_X8_35_33_S.2.2.2.2.2 (Nat.le_of_ble_eq_true rfl) (by first | exact Nat.le_of_ble_eq_true rfl | (simp only [List.map_cons, List.map_nil, List.sum_cons, List.sum_nil, cat_rf]; exact Nat.le_of_ble_eq_true rfl)) (Nat.le_of_ble_eq_true rfl) (Nat.le_of_ble_eq_true rfl) (Nat.le_of_ble_eq_true rfl) (Nat.le_of_ble_eq_true rfl) h
def wp_X8_putOrder (this : Nat) (a0 : Option Nat) (σ : Sg) (Post : Rs → Sg → Prop) : Prop := this % 32 = 8 ∧ this % 32 = 8 ∧ ∀ o1, o1 = sP σ this 2 → ∃ u2, o1 = some u2 ∧ isArr u2 ∧ (((sI σ this 3) < (nI (aln u2)) → this % 32 = 8 ∧ ∀ o3, o3 = sP σ this 2 → this % 32 = 8 ∧ ∃ u4, o3 = some u4 ∧ ∃ u5, a0 = some u5 ∧ canSt u4 u5 ∧ ∃ j6, (sI σ this 3) = nI j6 ∧ j6 < aln u4 ∧ this % 32 = 8 ∧ this % 32 = 8 ∧ Post (.inl none) (wI (wP σ u4 j6 (some u5)) this 3 ((sI (wP σ u4 j6 (some u5)) this 3) + (1 : Int32)))) ∧ (¬ (sI σ this 3) < (nI (aln u2)) → Post (.inr "java/lang/IllegalStateException") σ))
set_option maxRecDepth 100000 in
set_option maxHeartbeats 4000000 in
theorem ct_X8_putOrder {l : Launch} (hl : l.stackTraces = false) {this : Nat} {a0 : Option Nat} {σ : Sg} {Post : Rs → Sg → Prop} (h : wp_X8_putOrder this a0 σ Post) : Ct l yX8_putOrder (.code yX8_putOrder cX8_putOrder 2 none) 6 82 1 6 [.ref this, va_rf a0] σ Post := by
  refine Ct_of [some (.ref this), some (va_rf a0)] hl (by decide +kernel) rfl (fun ad => by cases a0 <;> rfl) (fun ad => by cases a0 <;> exact Nat.le_of_ble_eq_true rfl) (fun v hv => mem_lo hv rfl) ?_
  intro G hG
  unfold wp_X8_putOrder at h
  refine V_aload_n (v := .ref this) hG dX8_putOrder_0 rfl rfl ?_
  obtain ⟨ht, h⟩ := h
  refine V_getI hG dX8_putOrder_1 fl_X8_47 rfl ht ?_
  refine V_aload_n (v := .ref this) hG dX8_putOrder_4 rfl rfl ?_
  obtain ⟨ht, h⟩ := h
  refine V_getPv hG dX8_putOrder_5 fl_X8_19 rfl ht (fun o1 ho => ?_)
  replace h := h o1 ho
  obtain ⟨u2, he, h⟩ := h
  subst he
  obtain ⟨ha, h⟩ := h
  refine V_alenv hG dX8_putOrder_8 ha ?_
  refine V_icmp_lt (tgt := 22) hG dX8_putOrder_9 (by decide) (fun c => ?_) (fun c => ?_)
  · replace h := h.1 c
    refine V_aload_n (v := .ref this) hG dX8_putOrder_22 rfl rfl ?_
    obtain ⟨ht, h⟩ := h
    refine V_getPv hG dX8_putOrder_23 fl_X8_19 rfl ht (fun o3 ho => ?_)
    replace h := h o3 ho
    refine V_aload_n (v := .ref this) hG dX8_putOrder_26 rfl rfl ?_
    obtain ⟨ht, h⟩ := h
    refine V_getI hG dX8_putOrder_27 fl_X8_47 rfl ht ?_
    refine V_aload_n (v := va_rf a0) hG dX8_putOrder_30 (isRef_rf _) rfl ?_
    obtain ⟨u4, he, h⟩ := h
    subst he
    obtain ⟨u5, he, h⟩ := h
    subst he
    obtain ⟨ha, j6, hi, hj, h⟩ := h
    refine V_aastv hG dX8_putOrder_31 ha hi hj ?_
    refine V_aload_n (v := .ref this) hG dX8_putOrder_32 rfl rfl ?_
    refine V_dup (v := .ref this) hG rfl dX8_putOrder_33 ?_
    obtain ⟨ht, h⟩ := h
    refine V_getI hG dX8_putOrder_34 fl_X8_47 rfl ht ?_
    refine V_iconst (v := 1) hG (by decide) dX8_putOrder_37 ?_
    refine V_iadd hG dX8_putOrder_38 ?_
    obtain ⟨ht, h⟩ := h
    refine V_putI hG dX8_putOrder_39 fl_X8_47 rfl (fun e => absurd e (by decide)) rfl ht ?_
    exact V_vret hG dX8_putOrder_42 (by first | exact Nat.le_of_ble_eq_true rfl | omega | (dsimp only; omega)) (by first | exact Nat.le_of_ble_eq_true rfl | omega | (dsimp only; omega)) h
  · replace h := h.2 c
    exact V_throw (ik := 31) (is := 50) (ic := 35) (text := "there are 10 orders") "java/lang/IllegalStateException" hG dX8_putOrder_12 dX8_putOrder_15 dX8_putOrder_16 dX8_putOrder_18 dX8_putOrder_21 (by decide) tw_X8_35_50_S.1 tw_X8_35_50_S.2.1 in_S tw_X8_35_50_S.2.2.1 tw_X8_35_50_S.2.2.2.1 tw_X8_35_50_S.2.2.2.2.1 tw_X8_35_50_S.2.2.2.2.2 (Nat.le_of_ble_eq_true rfl) (by first | exact Nat.le_of_ble_eq_true rfl | (simp only [List.map_cons, List.map_nil, List.sum_cons, List.sum_nil, cat_rf]; exact Nat.le_of_ble_eq_true rfl)) (Nat.le_of_ble_eq_true rfl) (Nat.le_of_ble_eq_true rfl) (Nat.le_of_ble_eq_true rfl) (Nat.le_of_ble_eq_true rfl) h
def wp_X8_queuedAt_66 (K6 : Nat → Int32 → Int32 → Int32 → Int32 → Sg → Prop) (K14 : Nat → Int32 → Int32 → Int32 → Int32 → Int32 → Sg → Prop) (this : Nat) (v1 : Int32) (v2 : Int32) (v3 : Int32) (v4 : Int32) (v5 : Int32) (σ : Sg) (Post : Rs → Sg → Prop) : Prop := (K14 this v1 v2 v3 v4 (v5 + 1) σ)
set_option maxRecDepth 100000 in
set_option maxHeartbeats 4000000 in
theorem wv_X8_queuedAt_66 {L9 : Launch} {G : Cx} {Post : Rs → Sg → Prop} (hl : L9.stackTraces = false) (hG : CX L9 G yX8_queuedAt cX8_queuedAt 6 (some .int) [] { frames := 2, cells := 0, slots := 0, locals := 43 }) {K6 : Nat → Int32 → Int32 → Int32 → Int32 → Sg → Prop} {K14 : Nat → Int32 → Int32 → Int32 → Int32 → Int32 → Sg → Prop} (hK6 : ∀ (this : Nat) (v1 : Int32) (v2 : Int32) (v3 : Int32) (v4 : Int32) (ζ : Sg), K6 this v1 v2 v3 v4 ζ → V G (QM G 0 0 Post) 6 [some (.ref this), some (.int v1), some (.int v2), some (.int v3), some (.int v4), none] [] ζ 0 0) (hK14 : ∀ (this : Nat) (v1 : Int32) (v2 : Int32) (v3 : Int32) (v4 : Int32) (v5 : Int32) (ζ : Sg), K14 this v1 v2 v3 v4 v5 ζ → V G (QM G 0 0 Post) 14 [some (.ref this), some (.int v1), some (.int v2), some (.int v3), some (.int v4), some (.int v5)] [] ζ 0 0) : ∀ (this : Nat) (v1 : Int32) (v2 : Int32) (v3 : Int32) (v4 : Int32) (v5 : Int32) (σ : Sg), wp_X8_queuedAt_66 K6 K14 this v1 v2 v3 v4 v5 σ Post → V G (QM G 0 0 Post) 66 [some (.ref this), some (.int v1), some (.int v2), some (.int v3), some (.int v4), some (.int v5)] [] σ 0 0 := by
  intro this v1 v2 v3 v4 v5 σ h
  unfold wp_X8_queuedAt_66 at h
  refine V_iincv (c := 1) hG dX8_queuedAt_66 rfl (by decide) (hpV rfl rfl) ?_
  refine V_goto (tgt := 14) hG dX8_queuedAt_69 (by decide) ?_
  refine V_forget (lo' := [some (.ref this), some (.int v1), some (.int v2), some (.int v3), some (.int v4), some (.int (v5 + 1))]) ⟨rfl, ⟨rfl, ⟨rfl, ⟨rfl, ⟨rfl, ⟨rfl, trivial⟩⟩⟩⟩⟩⟩ ?_
  exact hK14 _ _ _ _ _ _ _ h
def wp_X8_queuedAt_14 (K6 : Nat → Int32 → Int32 → Int32 → Int32 → Sg → Prop) : Nat → Nat → Int32 → Int32 → Int32 → Int32 → Int32 → Sg → (Rs → Sg → Prop) → Prop
  | 0, _, _, _, _, _, _, _, _ => False
  | f + 1, this, v1, v2, v3, v4, v5, σ, Post => this % 32 = 8 ∧ (((sI σ this 1) ≤ v5 → (K6 this v1 v2 v3 (v4 + (-1)) σ)) ∧ (¬ (sI σ this 1) ≤ v5 → this % 32 = 8 ∧ ∀ o1, o1 = sP σ this 0 → ∃ u2, o1 = some u2 ∧ isRow u2 ∧ ∃ j3, v5 = nI j3 ∧ j3 < aln u2 ∧ ∀ o4, o4 = sP σ u2 j3 → ∃ u5, o4 = some u5 ∧ u5 % 32 = 0 ∧ ((¬ (sI σ u5 6) = v4 → (wp_X8_queuedAt_66 K6 (fun z0 z1 z2 z3 z4 z5 ζ => wp_X8_queuedAt_14 K6 f z0 z1 z2 z3 z4 z5 ζ Post) this v1 v2 v3 v4 v5 σ Post)) ∧ ((sI σ u5 6) = v4 → this % 32 = 8 ∧ ∀ o6, o6 = sP σ this 0 → ∃ u7, o6 = some u7 ∧ isRow u7 ∧ ∃ j8, v5 = nI j8 ∧ j8 < aln u7 ∧ ∀ o9, o9 = sP σ u7 j8 → ∃ u10, o9 = some u10 ∧ u10 % 32 = 0 ∧ wp_X0_waitsFor u10 v1 σ (KI (fun x12 σ11 => ((¬ x12 = 0 → ((¬ v3 = v2 → (wp_X8_queuedAt_66 K6 (fun z0 z1 z2 z3 z4 z5 ζ => wp_X8_queuedAt_14 K6 f z0 z1 z2 z3 z4 z5 ζ Post) this v1 v2 (v3 + 1) v4 v5 σ11 Post)) ∧ (v3 = v2 → Post (.inl (some (.int v5))) σ11))) ∧ (x12 = 0 → (wp_X8_queuedAt_66 K6 (fun z0 z1 z2 z3 z4 z5 ζ => wp_X8_queuedAt_14 K6 f z0 z1 z2 z3 z4 z5 ζ Post) this v1 v2 v3 v4 v5 σ11 Post)))) (fun E σ11 => Post (.inr E) σ11))))))
set_option maxRecDepth 100000 in
set_option maxHeartbeats 4000000 in
theorem wv_X8_queuedAt_14 {L9 : Launch} {G : Cx} {Post : Rs → Sg → Prop} (hl : L9.stackTraces = false) (hG : CX L9 G yX8_queuedAt cX8_queuedAt 6 (some .int) [] { frames := 2, cells := 0, slots := 0, locals := 43 }) {K6 : Nat → Int32 → Int32 → Int32 → Int32 → Sg → Prop} (hK6 : ∀ (this : Nat) (v1 : Int32) (v2 : Int32) (v3 : Int32) (v4 : Int32) (ζ : Sg), K6 this v1 v2 v3 v4 ζ → V G (QM G 0 0 Post) 6 [some (.ref this), some (.int v1), some (.int v2), some (.int v3), some (.int v4), none] [] ζ 0 0) : ∀ (f : Nat) (this : Nat) (v1 : Int32) (v2 : Int32) (v3 : Int32) (v4 : Int32) (v5 : Int32) (σ : Sg), wp_X8_queuedAt_14 K6 f this v1 v2 v3 v4 v5 σ Post → V G (QM G 0 0 Post) 14 [some (.ref this), some (.int v1), some (.int v2), some (.int v3), some (.int v4), some (.int v5)] [] σ 0 0 := by
  intro f
  induction f with
  | zero => intro _ _ _ _ _ _ σ h; exact h.elim
  | succ f ih =>
    intro this v1 v2 v3 v4 v5 σ h
    refine V_iload hG dX8_queuedAt_14 rfl ?_
    refine V_aload_n (v := .ref this) hG dX8_queuedAt_16 rfl rfl ?_
    obtain ⟨ht, h⟩ := h
    refine V_getI hG dX8_queuedAt_17 fl_X8_27 rfl ht ?_
    refine V_icmp_ge (tgt := 72) hG dX8_queuedAt_20 (by decide) (fun c => ?_) (fun c => ?_)
    · replace h := h.1 c
      refine V_iincv (c := (-1)) hG dX8_queuedAt_72 rfl (by decide) (hpV rfl rfl) ?_
      refine V_goto (tgt := 6) hG dX8_queuedAt_75 (by decide) ?_
      refine V_forget (lo' := [some (.ref this), some (.int v1), some (.int v2), some (.int v3), some (.int (v4 + (-1))), none]) ⟨rfl, ⟨rfl, ⟨rfl, ⟨rfl, ⟨rfl, trivial⟩⟩⟩⟩⟩ ?_
      exact hK6 _ _ _ _ _ _ h
    · replace h := h.2 c
      refine V_aload_n (v := .ref this) hG dX8_queuedAt_23 rfl rfl ?_
      obtain ⟨ht, h⟩ := h
      refine V_getPv hG dX8_queuedAt_24 fl_X8_11 rfl ht (fun o1 ho => ?_)
      replace h := h o1 ho
      refine V_iload hG dX8_queuedAt_27 rfl ?_
      obtain ⟨u2, he, h⟩ := h
      subst he
      obtain ⟨ha, j3, hi, hj, h⟩ := h
      refine V_aaldv hG dX8_queuedAt_29 ha hi hj (fun o4 ho => ?_)
      replace h := h o4 ho
      obtain ⟨u5, he, h⟩ := h
      subst he
      obtain ⟨ht, h⟩ := h
      refine V_getI hG dX8_queuedAt_30 fl_X8_65 rfl ht ?_
      refine V_iload hG dX8_queuedAt_33 rfl ?_
      refine V_icmp_ne (tgt := 66) hG dX8_queuedAt_35 (by decide) (fun c => ?_) (fun c => ?_)
      · replace h := h.1 c
        refine V_forget (lo' := [some (.ref this), some (.int v1), some (.int v2), some (.int v3), some (.int v4), some (.int v5)]) ⟨rfl, ⟨rfl, ⟨rfl, ⟨rfl, ⟨rfl, ⟨rfl, trivial⟩⟩⟩⟩⟩⟩ ?_
        refine V_widen (k' := 0) (n' := 0) (by first | exact Nat.le_of_ble_eq_true rfl | omega | (dsimp only; omega)) (by first | exact Nat.le_of_ble_eq_true rfl | omega | (dsimp only; omega)) ?_
        exact wv_X8_queuedAt_66 hl hG hK6 (fun z0 z1 z2 z3 z4 z5 ζ hz => ih z0 z1 z2 z3 z4 z5 ζ hz) _ _ _ _ _ _ _ h
      · replace h := h.2 c
        refine V_aload_n (v := .ref this) hG dX8_queuedAt_38 rfl rfl ?_
        obtain ⟨ht, h⟩ := h
        refine V_getPv hG dX8_queuedAt_39 fl_X8_11 rfl ht (fun o6 ho => ?_)
        replace h := h o6 ho
        refine V_iload hG dX8_queuedAt_42 rfl ?_
        obtain ⟨u7, he, h⟩ := h
        subst he
        obtain ⟨ha, j8, hi, hj, h⟩ := h
        refine V_aaldv hG dX8_queuedAt_44 ha hi hj (fun o9 ho => ?_)
        replace h := h o9 ho
        refine V_iload_n hG dX8_queuedAt_45 rfl ?_
        obtain ⟨u10, he, h⟩ := h
        subst he
        obtain ⟨ht, h⟩ := h
        refine V_cVI _ _ hG dX8_queuedAt_46 (ct_X0_waitsFor hl h) mv_X0_waitsFor ml_X8_52 ht rfl rfl rfl rfl (by first | exact Nat.le_of_ble_eq_true rfl | (simp only [List.map_cons, List.map_nil, List.sum_cons, List.sum_nil, cat_rf]; exact Nat.le_of_ble_eq_true rfl)) (Nat.le_of_ble_eq_true rfl) (Nat.le_of_ble_eq_true rfl) (by first | exact Nat.le_of_ble_eq_true rfl | omega | (dsimp only; omega)) (by first | exact Nat.le_of_ble_eq_true rfl | omega | (dsimp only; omega)) ?_ (fun x12 σ11 h9 => ?_)
        · exact fun E σ11 hx => VX_out hG (by first | exact Nat.le_of_ble_eq_true rfl | omega | (dsimp only; omega)) (by first | exact Nat.le_of_ble_eq_true rfl | omega | (dsimp only; omega)) hx
        · replace h := h9
          clear h9
          refine V_if_ne (tgt := 55) hG dX8_queuedAt_49 (by decide) (fun c => ?_) (fun c => ?_)
          · replace h := h.1 c
            refine V_iload_n hG dX8_queuedAt_55 rfl ?_
            refine V_iload_n hG dX8_queuedAt_56 rfl ?_
            refine V_icmp_ne (tgt := 63) hG dX8_queuedAt_57 (by decide) (fun c => ?_) (fun c => ?_)
            · replace h := h.1 c
              refine V_iincv (c := 1) hG dX8_queuedAt_63 rfl (by decide) (hpV rfl rfl) ?_
              refine V_forget (lo' := [some (.ref this), some (.int v1), some (.int v2), some (.int (v3 + 1)), some (.int v4), some (.int v5)]) ⟨rfl, ⟨rfl, ⟨rfl, ⟨rfl, ⟨rfl, ⟨rfl, trivial⟩⟩⟩⟩⟩⟩ ?_
              refine V_widen (k' := 0) (n' := 0) (by first | exact Nat.le_of_ble_eq_true rfl | omega | (dsimp only; omega)) (by first | exact Nat.le_of_ble_eq_true rfl | omega | (dsimp only; omega)) ?_
              exact wv_X8_queuedAt_66 hl hG hK6 (fun z0 z1 z2 z3 z4 z5 ζ hz => ih z0 z1 z2 z3 z4 z5 ζ hz) _ _ _ _ _ _ _ h
            · replace h := h.2 c
              refine V_iload hG dX8_queuedAt_60 rfl ?_
              exact V_iret hG dX8_queuedAt_62 (by first | exact Nat.le_of_ble_eq_true rfl | omega | (dsimp only; omega)) (by first | exact Nat.le_of_ble_eq_true rfl | omega | (dsimp only; omega)) h
          · replace h := h.2 c
            refine V_goto (tgt := 66) hG dX8_queuedAt_52 (by decide) ?_
            refine V_forget (lo' := [some (.ref this), some (.int v1), some (.int v2), some (.int v3), some (.int v4), some (.int v5)]) ⟨rfl, ⟨rfl, ⟨rfl, ⟨rfl, ⟨rfl, ⟨rfl, trivial⟩⟩⟩⟩⟩⟩ ?_
            refine V_widen (k' := 0) (n' := 0) (by first | exact Nat.le_of_ble_eq_true rfl | omega | (dsimp only; omega)) (by first | exact Nat.le_of_ble_eq_true rfl | omega | (dsimp only; omega)) ?_
            exact wv_X8_queuedAt_66 hl hG hK6 (fun z0 z1 z2 z3 z4 z5 ζ hz => ih z0 z1 z2 z3 z4 z5 ζ hz) _ _ _ _ _ _ _ h
def wp_X8_queuedAt_6  : Nat → Nat → Int32 → Int32 → Int32 → Int32 → Sg → (Rs → Sg → Prop) → Prop
  | 0, _, _, _, _, _, _, _ => False
  | f + 1, this, v1, v2, v3, v4, σ, Post => ((v4 < 0 → Post (.inl (some (.int (-1 : Int32)))) σ) ∧ (¬ v4 < 0 → (∃ g, wp_X8_queuedAt_14 (fun z0 z1 z2 z3 z4 ζ => wp_X8_queuedAt_6 f z0 z1 z2 z3 z4 ζ Post) g this v1 v2 v3 v4 (0 : Int32) σ Post)))
set_option maxRecDepth 100000 in
set_option maxHeartbeats 4000000 in
theorem wv_X8_queuedAt_6 {L9 : Launch} {G : Cx} {Post : Rs → Sg → Prop} (hl : L9.stackTraces = false) (hG : CX L9 G yX8_queuedAt cX8_queuedAt 6 (some .int) [] { frames := 2, cells := 0, slots := 0, locals := 43 })   : ∀ (f : Nat) (this : Nat) (v1 : Int32) (v2 : Int32) (v3 : Int32) (v4 : Int32) (σ : Sg), wp_X8_queuedAt_6 f this v1 v2 v3 v4 σ Post → V G (QM G 0 0 Post) 6 [some (.ref this), some (.int v1), some (.int v2), some (.int v3), some (.int v4), none] [] σ 0 0 := by
  intro f
  induction f with
  | zero => intro _ _ _ _ _ σ h; exact h.elim
  | succ f ih =>
    intro this v1 v2 v3 v4 σ h
    refine V_iload hG dX8_queuedAt_6 rfl ?_
    refine V_if_lt (tgt := 78) hG dX8_queuedAt_8 (by decide) (fun c => ?_) (fun c => ?_)
    · replace h := h.1 c
      refine V_iconst (v := (-1)) hG (by decide) dX8_queuedAt_78 ?_
      exact V_iret hG dX8_queuedAt_79 (by first | exact Nat.le_of_ble_eq_true rfl | omega | (dsimp only; omega)) (by first | exact Nat.le_of_ble_eq_true rfl | omega | (dsimp only; omega)) h
    · replace h := h.2 c
      refine V_iconst (v := 0) hG (by decide) dX8_queuedAt_11 ?_
      refine V_istore hG dX8_queuedAt_12 (Nat.le_of_ble_eq_true rfl) (hpV rfl rfl) ?_
      refine V_forget (lo' := [some (.ref this), some (.int v1), some (.int v2), some (.int v3), some (.int v4), some (.int (0 : Int32))]) ⟨rfl, ⟨rfl, ⟨rfl, ⟨rfl, ⟨rfl, ⟨rfl, trivial⟩⟩⟩⟩⟩⟩ ?_
      obtain ⟨g, h⟩ := h
      refine V_widen (k' := 0) (n' := 0) (by first | exact Nat.le_of_ble_eq_true rfl | omega | (dsimp only; omega)) (by first | exact Nat.le_of_ble_eq_true rfl | omega | (dsimp only; omega)) ?_
      exact wv_X8_queuedAt_14 hl hG (fun z0 z1 z2 z3 z4 ζ hz => ih z0 z1 z2 z3 z4 ζ hz) g _ _ _ _ _ _ _ h
def wp_X8_queuedAt (this : Nat) (a0 : Int32) (a1 : Int32) (σ : Sg) (Post : Rs → Sg → Prop) : Prop := (∃ g, wp_X8_queuedAt_6 g this a0 a1 (0 : Int32) (9 : Int32) σ Post)
set_option maxRecDepth 100000 in
set_option maxHeartbeats 4000000 in
theorem ct_X8_queuedAt {l : Launch} (hl : l.stackTraces = false) {this : Nat} {a0 : Int32} {a1 : Int32} {σ : Sg} {Post : Rs → Sg → Prop} (h : wp_X8_queuedAt this a0 a1 σ Post) : Ct l yX8_queuedAt (.code yX8_queuedAt cX8_queuedAt 6 (some .int)) 2 43 0 0 [.ref this, .int a0, .int a1] σ Post := by
  refine Ct_of [some (.ref this), some (.int a0), some (.int a1), none, none, none] hl (by decide +kernel) rfl (fun ad => by rfl) (fun ad => by exact Nat.le_of_ble_eq_true rfl) (fun v hv => mem_lo hv rfl) ?_
  intro G hG
  unfold wp_X8_queuedAt at h
  refine V_iconst (v := 0) hG (by decide) dX8_queuedAt_0 ?_
  refine V_istore_n hG dX8_queuedAt_1 (Nat.le_of_ble_eq_true rfl) (hpV rfl rfl) ?_
  refine V_bipush (v := 9) hG (by decide) dX8_queuedAt_2 ?_
  refine V_istore hG dX8_queuedAt_4 (Nat.le_of_ble_eq_true rfl) (hpV rfl rfl) ?_
  refine V_forget (lo' := [some (.ref this), some (.int a0), some (.int a1), some (.int (0 : Int32)), some (.int (9 : Int32)), none]) ⟨rfl, ⟨rfl, ⟨rfl, ⟨rfl, ⟨rfl, trivial⟩⟩⟩⟩⟩ ?_
  obtain ⟨g, h⟩ := h
  refine V_widen (k' := 0) (n' := 0) (by first | exact Nat.le_of_ble_eq_true rfl | omega | (dsimp only; omega)) (by first | exact Nat.le_of_ble_eq_true rfl | omega | (dsimp only; omega)) ?_
  exact wv_X8_queuedAt_6 hl hG  g _ _ _ _ _ _ h
def wp_X8_familyOf_62 (K8 : Nat → Int64 → Int32 → Sg → Prop) (K23 : Nat → Int64 → Int32 → Int64 → Int32 → Sg → Prop) (this : Nat) (v2 : Int64) (v4 : Int32) (v5 : Int64) (v7 : Int32) (σ : Sg) (Post : Rs → Sg → Prop) : Prop := (K23 this v2 v4 v5 (v7 + 1) σ)
set_option maxRecDepth 100000 in
set_option maxHeartbeats 4000000 in
theorem wv_X8_familyOf_62 {L9 : Launch} {G : Cx} {Post : Rs → Sg → Prop} (hl : L9.stackTraces = false) (hG : CX L9 G yX8_familyOf cX8_familyOf 8 (some .long) [] { frames := 1, cells := 0, slots := 0, locals := 20 }) {K8 : Nat → Int64 → Int32 → Sg → Prop} {K23 : Nat → Int64 → Int32 → Int64 → Int32 → Sg → Prop} (hK8 : ∀ (this : Nat) (v2 : Int64) (v4 : Int32) (ζ : Sg), K8 this v2 v4 ζ → V G (QM G 0 0 Post) 8 [some (.ref this), none, some (.long v2), none, some (.int v4), none, none, none] [] ζ 0 0) (hK23 : ∀ (this : Nat) (v2 : Int64) (v4 : Int32) (v5 : Int64) (v7 : Int32) (ζ : Sg), K23 this v2 v4 v5 v7 ζ → V G (QM G 0 0 Post) 23 [some (.ref this), none, some (.long v2), none, some (.int v4), some (.long v5), none, some (.int v7)] [] ζ 0 0) : ∀ (this : Nat) (v2 : Int64) (v4 : Int32) (v5 : Int64) (v7 : Int32) (σ : Sg), wp_X8_familyOf_62 K8 K23 this v2 v4 v5 v7 σ Post → V G (QM G 0 0 Post) 62 [some (.ref this), none, some (.long v2), none, some (.int v4), some (.long v5), none, some (.int v7)] [] σ 0 0 := by
  intro this v2 v4 v5 v7 σ h
  unfold wp_X8_familyOf_62 at h
  refine V_iincv (c := 1) hG dX8_familyOf_62 rfl (by decide) (hpN rfl) ?_
  refine V_goto (tgt := 23) hG dX8_familyOf_65 (by decide) ?_
  refine V_forget (lo' := [some (.ref this), none, some (.long v2), none, some (.int v4), some (.long v5), none, some (.int (v7 + 1))]) ⟨rfl, ⟨rfl, ⟨rfl, ⟨rfl, ⟨rfl, trivial⟩⟩⟩⟩⟩ ?_
  exact hK23 _ _ _ _ _ _ h
def wp_X8_familyOf_23 (K8 : Nat → Int64 → Int32 → Sg → Prop) : Nat → Nat → Int64 → Int32 → Int64 → Int32 → Sg → (Rs → Sg → Prop) → Prop
  | 0, _, _, _, _, _, _, _ => False
  | f + 1, this, v2, v4, v5, v7, σ, Post => this % 32 = 8 ∧ (((sI σ this 1) ≤ v7 → ((¬ (lg_cmp v2 v5) = 0 → (K8 this v2 (v4 + 1) σ)) ∧ ((lg_cmp v2 v5) = 0 → Post (.inl (some (.long v2))) σ))) ∧ (¬ (sI σ this 1) ≤ v7 → this % 32 = 8 ∧ ∀ o1, o1 = sP σ this 0 → ∃ u2, o1 = some u2 ∧ isRow u2 ∧ ∃ j3, v7 = nI j3 ∧ j3 < aln u2 ∧ ∀ o4, o4 = sP σ u2 j3 → ∃ u5, o4 = some u5 ∧ u5 % 32 = 0 ∧ (((lg_cmp ((sL σ u5 11) &&& v2) (0 : Int64)) = 0 → (wp_X8_familyOf_62 K8 (fun z0 z1 z2 z3 z4 ζ => wp_X8_familyOf_23 K8 f z0 z1 z2 z3 z4 ζ Post) this v2 v4 v5 v7 σ Post)) ∧ (¬ (lg_cmp ((sL σ u5 11) &&& v2) (0 : Int64)) = 0 → this % 32 = 8 ∧ ∀ o6, o6 = sP σ this 0 → ∃ u7, o6 = some u7 ∧ isRow u7 ∧ ∃ j8, v7 = nI j8 ∧ j8 < aln u7 ∧ ∀ o9, o9 = sP σ u7 j8 → ∃ u10, o9 = some u10 ∧ u10 % 32 = 0 ∧ wp_X0_bit u10 σ (KJ (fun x12 σ11 => (wp_X8_familyOf_62 K8 (fun z0 z1 z2 z3 z4 ζ => wp_X8_familyOf_23 K8 f z0 z1 z2 z3 z4 ζ Post) this (v2 ||| x12) v4 v5 v7 σ11 Post)) (fun E σ11 => Post (.inr E) σ11))))))
set_option maxRecDepth 100000 in
set_option maxHeartbeats 4000000 in
theorem wv_X8_familyOf_23 {L9 : Launch} {G : Cx} {Post : Rs → Sg → Prop} (hl : L9.stackTraces = false) (hG : CX L9 G yX8_familyOf cX8_familyOf 8 (some .long) [] { frames := 1, cells := 0, slots := 0, locals := 20 }) {K8 : Nat → Int64 → Int32 → Sg → Prop} (hK8 : ∀ (this : Nat) (v2 : Int64) (v4 : Int32) (ζ : Sg), K8 this v2 v4 ζ → V G (QM G 0 0 Post) 8 [some (.ref this), none, some (.long v2), none, some (.int v4), none, none, none] [] ζ 0 0) : ∀ (f : Nat) (this : Nat) (v2 : Int64) (v4 : Int32) (v5 : Int64) (v7 : Int32) (σ : Sg), wp_X8_familyOf_23 K8 f this v2 v4 v5 v7 σ Post → V G (QM G 0 0 Post) 23 [some (.ref this), none, some (.long v2), none, some (.int v4), some (.long v5), none, some (.int v7)] [] σ 0 0 := by
  intro f
  induction f with
  | zero => intro _ _ _ _ _ σ h; exact h.elim
  | succ f ih =>
    intro this v2 v4 v5 v7 σ h
    refine V_iload hG dX8_familyOf_23 rfl ?_
    refine V_aload_n (v := .ref this) hG dX8_familyOf_25 rfl rfl ?_
    obtain ⟨ht, h⟩ := h
    refine V_getI hG dX8_familyOf_26 fl_X8_27 rfl ht ?_
    refine V_icmp_ge (tgt := 68) hG dX8_familyOf_29 (by decide) (fun c => ?_) (fun c => ?_)
    · replace h := h.1 c
      refine V_lload_n hG dX8_familyOf_68 rfl ?_
      refine V_lload hG dX8_familyOf_69 rfl ?_
      refine V_lcmp hG dX8_familyOf_71 ?_
      refine V_if_ne (tgt := 78) hG dX8_familyOf_72 (by decide) (fun c => ?_) (fun c => ?_)
      · replace h := h.1 c
        refine V_iincv (c := 1) hG dX8_familyOf_78 rfl (by decide) (hpN rfl) ?_
        refine V_goto (tgt := 8) hG dX8_familyOf_81 (by decide) ?_
        refine V_forget (lo' := [some (.ref this), none, some (.long v2), none, some (.int (v4 + 1)), none, none, none]) ⟨rfl, ⟨rfl, ⟨rfl, trivial⟩⟩⟩ ?_
        exact hK8 _ _ _ _ h
      · replace h := h.2 c
        refine V_goto (tgt := 84) hG dX8_familyOf_75 (by decide) ?_
        refine V_lload_n hG dX8_familyOf_84 rfl ?_
        exact V_lret hG dX8_familyOf_85 (by first | exact Nat.le_of_ble_eq_true rfl | omega | (dsimp only; omega)) (by first | exact Nat.le_of_ble_eq_true rfl | omega | (dsimp only; omega)) h
    · replace h := h.2 c
      refine V_aload_n (v := .ref this) hG dX8_familyOf_32 rfl rfl ?_
      obtain ⟨ht, h⟩ := h
      refine V_getPv hG dX8_familyOf_33 fl_X8_11 rfl ht (fun o1 ho => ?_)
      replace h := h o1 ho
      refine V_iload hG dX8_familyOf_36 rfl ?_
      obtain ⟨u2, he, h⟩ := h
      subst he
      obtain ⟨ha, j3, hi, hj, h⟩ := h
      refine V_aaldv hG dX8_familyOf_38 ha hi hj (fun o4 ho => ?_)
      replace h := h o4 ho
      obtain ⟨u5, he, h⟩ := h
      subst he
      obtain ⟨ht, h⟩ := h
      refine V_getJ hG dX8_familyOf_39 fl_X8_104 rfl ht ?_
      refine V_lload_n hG dX8_familyOf_42 rfl ?_
      refine V_land hG dX8_familyOf_43 ?_
      refine V_lconst (v := 0) hG (by decide) dX8_familyOf_44 ?_
      refine V_lcmp hG dX8_familyOf_45 ?_
      refine V_if_eq (tgt := 62) hG dX8_familyOf_46 (by decide) (fun c => ?_) (fun c => ?_)
      · replace h := h.1 c
        refine V_forget (lo' := [some (.ref this), none, some (.long v2), none, some (.int v4), some (.long v5), none, some (.int v7)]) ⟨rfl, ⟨rfl, ⟨rfl, ⟨rfl, ⟨rfl, trivial⟩⟩⟩⟩⟩ ?_
        refine V_widen (k' := 0) (n' := 0) (by first | exact Nat.le_of_ble_eq_true rfl | omega | (dsimp only; omega)) (by first | exact Nat.le_of_ble_eq_true rfl | omega | (dsimp only; omega)) ?_
        exact wv_X8_familyOf_62 hl hG hK8 (fun z0 z1 z2 z3 z4 ζ hz => ih z0 z1 z2 z3 z4 ζ hz) _ _ _ _ _ _ h
      · replace h := h.2 c
        refine V_lload_n hG dX8_familyOf_49 rfl ?_
        refine V_aload_n (v := .ref this) hG dX8_familyOf_50 rfl rfl ?_
        obtain ⟨ht, h⟩ := h
        refine V_getPv hG dX8_familyOf_51 fl_X8_11 rfl ht (fun o6 ho => ?_)
        replace h := h o6 ho
        refine V_iload hG dX8_familyOf_54 rfl ?_
        obtain ⟨u7, he, h⟩ := h
        subst he
        obtain ⟨ha, j8, hi, hj, h⟩ := h
        refine V_aaldv hG dX8_familyOf_56 ha hi hj (fun o9 ho => ?_)
        replace h := h o9 ho
        obtain ⟨u10, he, h⟩ := h
        subst he
        obtain ⟨ht, h⟩ := h
        refine V_cVJ _ _ hG dX8_familyOf_57 (ct_X0_bit hl h) mv_X0_bit ml_X8_100 ht rfl rfl rfl rfl (by first | exact Nat.le_of_ble_eq_true rfl | (simp only [List.map_cons, List.map_nil, List.sum_cons, List.sum_nil, cat_rf]; exact Nat.le_of_ble_eq_true rfl)) (Nat.le_of_ble_eq_true rfl) (Nat.le_of_ble_eq_true rfl) (by first | exact Nat.le_of_ble_eq_true rfl | omega | (dsimp only; omega)) (by first | exact Nat.le_of_ble_eq_true rfl | omega | (dsimp only; omega)) ?_ (fun x12 σ11 h9 => ?_)
        · exact fun E σ11 hx => VX_out hG (by first | exact Nat.le_of_ble_eq_true rfl | omega | (dsimp only; omega)) (by first | exact Nat.le_of_ble_eq_true rfl | omega | (dsimp only; omega)) hx
        · replace h := h9
          clear h9
          refine V_lor hG dX8_familyOf_60 ?_
          refine V_lstore_n hG dX8_familyOf_61 (Nat.le_of_ble_eq_true rfl) (hpN rfl) ?_
          refine V_forget (lo' := [some (.ref this), none, some (.long (v2 ||| x12)), none, some (.int v4), some (.long v5), none, some (.int v7)]) ⟨rfl, ⟨rfl, ⟨rfl, ⟨rfl, ⟨rfl, trivial⟩⟩⟩⟩⟩ ?_
          refine V_widen (k' := 0) (n' := 0) (by first | exact Nat.le_of_ble_eq_true rfl | omega | (dsimp only; omega)) (by first | exact Nat.le_of_ble_eq_true rfl | omega | (dsimp only; omega)) ?_
          exact wv_X8_familyOf_62 hl hG hK8 (fun z0 z1 z2 z3 z4 ζ hz => ih z0 z1 z2 z3 z4 ζ hz) _ _ _ _ _ _ h
def wp_X8_familyOf_8  : Nat → Nat → Int64 → Int32 → Sg → (Rs → Sg → Prop) → Prop
  | 0, _, _, _, _, _ => False
  | f + 1, this, v2, v4, σ, Post => this % 32 = 8 ∧ (((sI σ this 1) ≤ v4 → Post (.inl (some (.long v2))) σ) ∧ (¬ (sI σ this 1) ≤ v4 → (∃ g, wp_X8_familyOf_23 (fun z0 z1 z2 ζ => wp_X8_familyOf_8 f z0 z1 z2 ζ Post) g this v2 v4 v2 (0 : Int32) σ Post)))
set_option maxRecDepth 100000 in
set_option maxHeartbeats 4000000 in
theorem wv_X8_familyOf_8 {L9 : Launch} {G : Cx} {Post : Rs → Sg → Prop} (hl : L9.stackTraces = false) (hG : CX L9 G yX8_familyOf cX8_familyOf 8 (some .long) [] { frames := 1, cells := 0, slots := 0, locals := 20 })   : ∀ (f : Nat) (this : Nat) (v2 : Int64) (v4 : Int32) (σ : Sg), wp_X8_familyOf_8 f this v2 v4 σ Post → V G (QM G 0 0 Post) 8 [some (.ref this), none, some (.long v2), none, some (.int v4), none, none, none] [] σ 0 0 := by
  intro f
  induction f with
  | zero => intro _ _ _ σ h; exact h.elim
  | succ f ih =>
    intro this v2 v4 σ h
    refine V_iload hG dX8_familyOf_8 rfl ?_
    refine V_aload_n (v := .ref this) hG dX8_familyOf_10 rfl rfl ?_
    obtain ⟨ht, h⟩ := h
    refine V_getI hG dX8_familyOf_11 fl_X8_27 rfl ht ?_
    refine V_icmp_ge (tgt := 84) hG dX8_familyOf_14 (by decide) (fun c => ?_) (fun c => ?_)
    · replace h := h.1 c
      refine V_lload_n hG dX8_familyOf_84 rfl ?_
      exact V_lret hG dX8_familyOf_85 (by first | exact Nat.le_of_ble_eq_true rfl | omega | (dsimp only; omega)) (by first | exact Nat.le_of_ble_eq_true rfl | omega | (dsimp only; omega)) h
    · replace h := h.2 c
      refine V_lload_n hG dX8_familyOf_17 rfl ?_
      refine V_lstore hG dX8_familyOf_18 (Nat.le_of_ble_eq_true rfl) (hpV rfl rfl) ?_
      refine V_iconst (v := 0) hG (by decide) dX8_familyOf_20 ?_
      refine V_istore hG dX8_familyOf_21 (Nat.le_of_ble_eq_true rfl) (hpN rfl) ?_
      refine V_forget (lo' := [some (.ref this), none, some (.long v2), none, some (.int v4), some (.long v2), none, some (.int (0 : Int32))]) ⟨rfl, ⟨rfl, ⟨rfl, ⟨rfl, ⟨rfl, trivial⟩⟩⟩⟩⟩ ?_
      obtain ⟨g, h⟩ := h
      refine V_widen (k' := 0) (n' := 0) (by first | exact Nat.le_of_ble_eq_true rfl | omega | (dsimp only; omega)) (by first | exact Nat.le_of_ble_eq_true rfl | omega | (dsimp only; omega)) ?_
      exact wv_X8_familyOf_23 hl hG (fun z0 z1 z2 ζ hz => ih z0 z1 z2 ζ hz) g _ _ _ _ _ _ h
def wp_X8_familyOf (this : Nat) (a0 : Option Nat) (σ : Sg) (Post : Rs → Sg → Prop) : Prop := ∃ u1, a0 = some u1 ∧ u1 % 32 = 0 ∧ wp_X0_bit u1 σ (KJ (fun x3 σ2 => (∃ g, wp_X8_familyOf_8 g this x3 (0 : Int32) σ2 Post)) (fun E σ2 => Post (.inr E) σ2))
set_option maxRecDepth 100000 in
set_option maxHeartbeats 4000000 in
theorem ct_X8_familyOf {l : Launch} (hl : l.stackTraces = false) {this : Nat} {a0 : Option Nat} {σ : Sg} {Post : Rs → Sg → Prop} (h : wp_X8_familyOf this a0 σ Post) : Ct l yX8_familyOf (.code yX8_familyOf cX8_familyOf 8 (some .long)) 1 20 0 0 [.ref this, va_rf a0] σ Post := by
  refine Ct_of [some (.ref this), some (va_rf a0), none, none, none, none, none, none] hl (by decide +kernel) rfl (fun ad => by cases a0 <;> rfl) (fun ad => by cases a0 <;> exact Nat.le_of_ble_eq_true rfl) (fun v hv => mem_lo hv rfl) ?_
  intro G hG
  unfold wp_X8_familyOf at h
  refine V_aload_n (v := va_rf a0) hG dX8_familyOf_0 (isRef_rf _) rfl ?_
  obtain ⟨u1, he, h⟩ := h
  subst he
  obtain ⟨ht, h⟩ := h
  refine V_cVJ _ _ hG dX8_familyOf_1 (ct_X0_bit hl h) mv_X0_bit ml_X8_100 ht rfl rfl rfl rfl (by first | exact Nat.le_of_ble_eq_true rfl | (simp only [List.map_cons, List.map_nil, List.sum_cons, List.sum_nil, cat_rf]; exact Nat.le_of_ble_eq_true rfl)) (Nat.le_of_ble_eq_true rfl) (Nat.le_of_ble_eq_true rfl) (by first | exact Nat.le_of_ble_eq_true rfl | omega | (dsimp only; omega)) (by first | exact Nat.le_of_ble_eq_true rfl | omega | (dsimp only; omega)) ?_ (fun x3 σ2 h9 => ?_)
  · exact fun E σ2 hx => VX_out hG (by first | exact Nat.le_of_ble_eq_true rfl | omega | (dsimp only; omega)) (by first | exact Nat.le_of_ble_eq_true rfl | omega | (dsimp only; omega)) hx
  · replace h := h9
    clear h9
    refine V_lstore_n hG dX8_familyOf_4 (Nat.le_of_ble_eq_true rfl) (hpV rfl rfl) ?_
    refine V_iconst (v := 0) hG (by decide) dX8_familyOf_5 ?_
    refine V_istore hG dX8_familyOf_6 (Nat.le_of_ble_eq_true rfl) (hpN rfl) ?_
    refine V_forget (lo' := [some (.ref this), none, some (.long x3), none, some (.int (0 : Int32)), none, none, none]) ⟨rfl, ⟨rfl, ⟨rfl, trivial⟩⟩⟩ ?_
    obtain ⟨g, h⟩ := h
    refine V_widen (k' := 0) (n' := 0) (by first | exact Nat.le_of_ble_eq_true rfl | omega | (dsimp only; omega)) (by first | exact Nat.le_of_ble_eq_true rfl | omega | (dsimp only; omega)) ?_
    exact wv_X8_familyOf_8 hl hG  g _ _ _ _ h
def wp_X8_originsOf_62 (K8 : Nat → Int64 → Int32 → Sg → Prop) (K23 : Nat → Int64 → Int32 → Int64 → Int32 → Sg → Prop) (this : Nat) (v2 : Int64) (v4 : Int32) (v5 : Int64) (v7 : Int32) (σ : Sg) (Post : Rs → Sg → Prop) : Prop := (K23 this v2 v4 v5 (v7 + 1) σ)
set_option maxRecDepth 100000 in
set_option maxHeartbeats 4000000 in
theorem wv_X8_originsOf_62 {L9 : Launch} {G : Cx} {Post : Rs → Sg → Prop} (hl : L9.stackTraces = false) (hG : CX L9 G yX8_originsOf cX8_originsOf 8 (some .long) [] { frames := 1, cells := 0, slots := 0, locals := 20 }) {K8 : Nat → Int64 → Int32 → Sg → Prop} {K23 : Nat → Int64 → Int32 → Int64 → Int32 → Sg → Prop} (hK8 : ∀ (this : Nat) (v2 : Int64) (v4 : Int32) (ζ : Sg), K8 this v2 v4 ζ → V G (QM G 0 0 Post) 8 [some (.ref this), none, some (.long v2), none, some (.int v4), none, none, none] [] ζ 0 0) (hK23 : ∀ (this : Nat) (v2 : Int64) (v4 : Int32) (v5 : Int64) (v7 : Int32) (ζ : Sg), K23 this v2 v4 v5 v7 ζ → V G (QM G 0 0 Post) 23 [some (.ref this), none, some (.long v2), none, some (.int v4), some (.long v5), none, some (.int v7)] [] ζ 0 0) : ∀ (this : Nat) (v2 : Int64) (v4 : Int32) (v5 : Int64) (v7 : Int32) (σ : Sg), wp_X8_originsOf_62 K8 K23 this v2 v4 v5 v7 σ Post → V G (QM G 0 0 Post) 62 [some (.ref this), none, some (.long v2), none, some (.int v4), some (.long v5), none, some (.int v7)] [] σ 0 0 := by
  intro this v2 v4 v5 v7 σ h
  unfold wp_X8_originsOf_62 at h
  refine V_iincv (c := 1) hG dX8_originsOf_62 rfl (by decide) (hpN rfl) ?_
  refine V_goto (tgt := 23) hG dX8_originsOf_65 (by decide) ?_
  refine V_forget (lo' := [some (.ref this), none, some (.long v2), none, some (.int v4), some (.long v5), none, some (.int (v7 + 1))]) ⟨rfl, ⟨rfl, ⟨rfl, ⟨rfl, ⟨rfl, trivial⟩⟩⟩⟩⟩ ?_
  exact hK23 _ _ _ _ _ _ h
def wp_X8_originsOf_129 (K90 : Nat → Int64 → Int64 → Int32 → Sg → Prop) (this : Nat) (v2 : Int64) (v4 : Int64) (v6 : Int32) (σ : Sg) (Post : Rs → Sg → Prop) : Prop := (K90 this v2 v4 (v6 + 1) σ)
set_option maxRecDepth 100000 in
set_option maxHeartbeats 4000000 in
theorem wv_X8_originsOf_129 {L9 : Launch} {G : Cx} {Post : Rs → Sg → Prop} (hl : L9.stackTraces = false) (hG : CX L9 G yX8_originsOf cX8_originsOf 8 (some .long) [] { frames := 1, cells := 0, slots := 0, locals := 20 }) {K90 : Nat → Int64 → Int64 → Int32 → Sg → Prop} (hK90 : ∀ (this : Nat) (v2 : Int64) (v4 : Int64) (v6 : Int32) (ζ : Sg), K90 this v2 v4 v6 ζ → V G (QM G 0 0 Post) 90 [some (.ref this), none, some (.long v2), none, some (.long v4), none, some (.int v6), none] [] ζ 0 0) : ∀ (this : Nat) (v2 : Int64) (v4 : Int64) (v6 : Int32) (σ : Sg), wp_X8_originsOf_129 K90 this v2 v4 v6 σ Post → V G (QM G 0 0 Post) 129 [some (.ref this), none, some (.long v2), none, some (.long v4), none, some (.int v6), none] [] σ 0 0 := by
  intro this v2 v4 v6 σ h
  unfold wp_X8_originsOf_129 at h
  refine V_iincv (c := 1) hG dX8_originsOf_129 rfl (by decide) (hpN rfl) ?_
  refine V_goto (tgt := 90) hG dX8_originsOf_132 (by decide) ?_
  refine V_forget (lo' := [some (.ref this), none, some (.long v2), none, some (.long v4), none, some (.int (v6 + 1)), none]) ⟨rfl, ⟨rfl, ⟨rfl, ⟨rfl, trivial⟩⟩⟩⟩ ?_
  exact hK90 _ _ _ _ _ h
def wp_X8_originsOf_90  : Nat → Nat → Int64 → Int64 → Int32 → Sg → (Rs → Sg → Prop) → Prop
  | 0, _, _, _, _, _, _ => False
  | f + 1, this, v2, v4, v6, σ, Post => this % 32 = 8 ∧ (((sI σ this 1) ≤ v6 → Post (.inl (some (.long v4))) σ) ∧ (¬ (sI σ this 1) ≤ v6 → this % 32 = 8 ∧ ∀ o1, o1 = sP σ this 0 → ∃ u2, o1 = some u2 ∧ isRow u2 ∧ ∃ j3, v6 = nI j3 ∧ j3 < aln u2 ∧ ∀ o4, o4 = sP σ u2 j3 → ∃ u5, o4 = some u5 ∧ u5 % 32 = 0 ∧ wp_X0_wasBought u5 σ (KI (fun x7 σ6 => ((x7 = 0 → (wp_X8_originsOf_129 (fun z0 z1 z2 z3 ζ => wp_X8_originsOf_90 f z0 z1 z2 z3 ζ Post) this v2 v4 v6 σ6 Post)) ∧ (¬ x7 = 0 → this % 32 = 8 ∧ ∀ o8, o8 = sP σ6 this 0 → ∃ u9, o8 = some u9 ∧ isRow u9 ∧ ∃ j10, v6 = nI j10 ∧ j10 < aln u9 ∧ ∀ o11, o11 = sP σ6 u9 j10 → ∃ u12, o11 = some u12 ∧ u12 % 32 = 0 ∧ wp_X0_bit u12 σ6 (KJ (fun x14 σ13 => (wp_X8_originsOf_129 (fun z0 z1 z2 z3 ζ => wp_X8_originsOf_90 f z0 z1 z2 z3 ζ Post) this v2 (v4 ||| (x14 &&& v2)) v6 σ13 Post)) (fun E σ13 => Post (.inr E) σ13))))) (fun E σ6 => Post (.inr E) σ6))))
set_option maxRecDepth 100000 in
set_option maxHeartbeats 4000000 in
theorem wv_X8_originsOf_90 {L9 : Launch} {G : Cx} {Post : Rs → Sg → Prop} (hl : L9.stackTraces = false) (hG : CX L9 G yX8_originsOf cX8_originsOf 8 (some .long) [] { frames := 1, cells := 0, slots := 0, locals := 20 })   : ∀ (f : Nat) (this : Nat) (v2 : Int64) (v4 : Int64) (v6 : Int32) (σ : Sg), wp_X8_originsOf_90 f this v2 v4 v6 σ Post → V G (QM G 0 0 Post) 90 [some (.ref this), none, some (.long v2), none, some (.long v4), none, some (.int v6), none] [] σ 0 0 := by
  intro f
  induction f with
  | zero => intro _ _ _ _ σ h; exact h.elim
  | succ f ih =>
    intro this v2 v4 v6 σ h
    refine V_iload hG dX8_originsOf_90 rfl ?_
    refine V_aload_n (v := .ref this) hG dX8_originsOf_92 rfl rfl ?_
    obtain ⟨ht, h⟩ := h
    refine V_getI hG dX8_originsOf_93 fl_X8_27 rfl ht ?_
    refine V_icmp_ge (tgt := 135) hG dX8_originsOf_96 (by decide) (fun c => ?_) (fun c => ?_)
    · replace h := h.1 c
      refine V_lload hG dX8_originsOf_135 rfl ?_
      exact V_lret hG dX8_originsOf_137 (by first | exact Nat.le_of_ble_eq_true rfl | omega | (dsimp only; omega)) (by first | exact Nat.le_of_ble_eq_true rfl | omega | (dsimp only; omega)) h
    · replace h := h.2 c
      refine V_aload_n (v := .ref this) hG dX8_originsOf_99 rfl rfl ?_
      obtain ⟨ht, h⟩ := h
      refine V_getPv hG dX8_originsOf_100 fl_X8_11 rfl ht (fun o1 ho => ?_)
      replace h := h o1 ho
      refine V_iload hG dX8_originsOf_103 rfl ?_
      obtain ⟨u2, he, h⟩ := h
      subst he
      obtain ⟨ha, j3, hi, hj, h⟩ := h
      refine V_aaldv hG dX8_originsOf_105 ha hi hj (fun o4 ho => ?_)
      replace h := h o4 ho
      obtain ⟨u5, he, h⟩ := h
      subst he
      obtain ⟨ht, h⟩ := h
      refine V_cVI _ _ hG dX8_originsOf_106 (ct_X0_wasBought hl h) mv_X0_wasBought ml_X8_119 ht rfl rfl rfl rfl (by first | exact Nat.le_of_ble_eq_true rfl | (simp only [List.map_cons, List.map_nil, List.sum_cons, List.sum_nil, cat_rf]; exact Nat.le_of_ble_eq_true rfl)) (Nat.le_of_ble_eq_true rfl) (Nat.le_of_ble_eq_true rfl) (by first | exact Nat.le_of_ble_eq_true rfl | omega | (dsimp only; omega)) (by first | exact Nat.le_of_ble_eq_true rfl | omega | (dsimp only; omega)) ?_ (fun x7 σ6 h9 => ?_)
      · exact fun E σ6 hx => VX_out hG (by first | exact Nat.le_of_ble_eq_true rfl | omega | (dsimp only; omega)) (by first | exact Nat.le_of_ble_eq_true rfl | omega | (dsimp only; omega)) hx
      · replace h := h9
        clear h9
        refine V_if_eq (tgt := 129) hG dX8_originsOf_109 (by decide) (fun c => ?_) (fun c => ?_)
        · replace h := h.1 c
          refine V_forget (lo' := [some (.ref this), none, some (.long v2), none, some (.long v4), none, some (.int v6), none]) ⟨rfl, ⟨rfl, ⟨rfl, ⟨rfl, trivial⟩⟩⟩⟩ ?_
          refine V_widen (k' := 0) (n' := 0) (by first | exact Nat.le_of_ble_eq_true rfl | omega | (dsimp only; omega)) (by first | exact Nat.le_of_ble_eq_true rfl | omega | (dsimp only; omega)) ?_
          exact wv_X8_originsOf_129 hl hG (fun z0 z1 z2 z3 ζ hz => ih z0 z1 z2 z3 ζ hz) _ _ _ _ _ h
        · replace h := h.2 c
          refine V_lload hG dX8_originsOf_112 rfl ?_
          refine V_aload_n (v := .ref this) hG dX8_originsOf_114 rfl rfl ?_
          obtain ⟨ht, h⟩ := h
          refine V_getPv hG dX8_originsOf_115 fl_X8_11 rfl ht (fun o8 ho => ?_)
          replace h := h o8 ho
          refine V_iload hG dX8_originsOf_118 rfl ?_
          obtain ⟨u9, he, h⟩ := h
          subst he
          obtain ⟨ha, j10, hi, hj, h⟩ := h
          refine V_aaldv hG dX8_originsOf_120 ha hi hj (fun o11 ho => ?_)
          replace h := h o11 ho
          obtain ⟨u12, he, h⟩ := h
          subst he
          obtain ⟨ht, h⟩ := h
          refine V_cVJ _ _ hG dX8_originsOf_121 (ct_X0_bit hl h) mv_X0_bit ml_X8_100 ht rfl rfl rfl rfl (by first | exact Nat.le_of_ble_eq_true rfl | (simp only [List.map_cons, List.map_nil, List.sum_cons, List.sum_nil, cat_rf]; exact Nat.le_of_ble_eq_true rfl)) (Nat.le_of_ble_eq_true rfl) (Nat.le_of_ble_eq_true rfl) (by first | exact Nat.le_of_ble_eq_true rfl | omega | (dsimp only; omega)) (by first | exact Nat.le_of_ble_eq_true rfl | omega | (dsimp only; omega)) ?_ (fun x14 σ13 h9 => ?_)
          · exact fun E σ13 hx => VX_out hG (by first | exact Nat.le_of_ble_eq_true rfl | omega | (dsimp only; omega)) (by first | exact Nat.le_of_ble_eq_true rfl | omega | (dsimp only; omega)) hx
          · replace h := h9
            clear h9
            refine V_lload_n hG dX8_originsOf_124 rfl ?_
            refine V_land hG dX8_originsOf_125 ?_
            refine V_lor hG dX8_originsOf_126 ?_
            refine V_lstore hG dX8_originsOf_127 (Nat.le_of_ble_eq_true rfl) (hpN rfl) ?_
            refine V_forget (lo' := [some (.ref this), none, some (.long v2), none, some (.long (v4 ||| (x14 &&& v2))), none, some (.int v6), none]) ⟨rfl, ⟨rfl, ⟨rfl, ⟨rfl, trivial⟩⟩⟩⟩ ?_
            refine V_widen (k' := 0) (n' := 0) (by first | exact Nat.le_of_ble_eq_true rfl | omega | (dsimp only; omega)) (by first | exact Nat.le_of_ble_eq_true rfl | omega | (dsimp only; omega)) ?_
            exact wv_X8_originsOf_129 hl hG (fun z0 z1 z2 z3 ζ hz => ih z0 z1 z2 z3 ζ hz) _ _ _ _ _ h
def wp_X8_originsOf_84  (this : Nat) (v2 : Int64) (σ : Sg) (Post : Rs → Sg → Prop) : Prop := (∃ g, wp_X8_originsOf_90 g this v2 (0 : Int64) (0 : Int32) σ Post)
set_option maxRecDepth 100000 in
set_option maxHeartbeats 4000000 in
theorem wv_X8_originsOf_84 {L9 : Launch} {G : Cx} {Post : Rs → Sg → Prop} (hl : L9.stackTraces = false) (hG : CX L9 G yX8_originsOf cX8_originsOf 8 (some .long) [] { frames := 1, cells := 0, slots := 0, locals := 20 })   : ∀ (this : Nat) (v2 : Int64) (σ : Sg), wp_X8_originsOf_84 this v2 σ Post → V G (QM G 0 0 Post) 84 [some (.ref this), none, some (.long v2), none, none, none, none, none] [] σ 0 0 := by
  intro this v2 σ h
  unfold wp_X8_originsOf_84 at h
  refine V_lconst (v := 0) hG (by decide) dX8_originsOf_84 ?_
  refine V_lstore hG dX8_originsOf_85 (Nat.le_of_ble_eq_true rfl) (hpN rfl) ?_
  refine V_iconst (v := 0) hG (by decide) dX8_originsOf_87 ?_
  refine V_istore hG dX8_originsOf_88 (Nat.le_of_ble_eq_true rfl) (hpN rfl) ?_
  refine V_forget (lo' := [some (.ref this), none, some (.long v2), none, some (.long (0 : Int64)), none, some (.int (0 : Int32)), none]) ⟨rfl, ⟨rfl, ⟨rfl, ⟨rfl, trivial⟩⟩⟩⟩ ?_
  obtain ⟨g, h⟩ := h
  refine V_widen (k' := 0) (n' := 0) (by first | exact Nat.le_of_ble_eq_true rfl | omega | (dsimp only; omega)) (by first | exact Nat.le_of_ble_eq_true rfl | omega | (dsimp only; omega)) ?_
  exact wv_X8_originsOf_90 hl hG  g _ _ _ _ _ h
def wp_X8_originsOf_23 (K8 : Nat → Int64 → Int32 → Sg → Prop) : Nat → Nat → Int64 → Int32 → Int64 → Int32 → Sg → (Rs → Sg → Prop) → Prop
  | 0, _, _, _, _, _, _, _ => False
  | f + 1, this, v2, v4, v5, v7, σ, Post => this % 32 = 8 ∧ (((sI σ this 1) ≤ v7 → ((¬ (lg_cmp v2 v5) = 0 → (K8 this v2 (v4 + 1) σ)) ∧ ((lg_cmp v2 v5) = 0 → (wp_X8_originsOf_84 this v2 σ Post)))) ∧ (¬ (sI σ this 1) ≤ v7 → this % 32 = 8 ∧ ∀ o1, o1 = sP σ this 0 → ∃ u2, o1 = some u2 ∧ isRow u2 ∧ ∃ j3, v7 = nI j3 ∧ j3 < aln u2 ∧ ∀ o4, o4 = sP σ u2 j3 → ∃ u5, o4 = some u5 ∧ u5 % 32 = 0 ∧ wp_X0_bit u5 σ (KJ (fun x7 σ6 => (((lg_cmp (x7 &&& v2) (0 : Int64)) = 0 → (wp_X8_originsOf_62 K8 (fun z0 z1 z2 z3 z4 ζ => wp_X8_originsOf_23 K8 f z0 z1 z2 z3 z4 ζ Post) this v2 v4 v5 v7 σ6 Post)) ∧ (¬ (lg_cmp (x7 &&& v2) (0 : Int64)) = 0 → this % 32 = 8 ∧ ∀ o8, o8 = sP σ6 this 0 → ∃ u9, o8 = some u9 ∧ isRow u9 ∧ ∃ j10, v7 = nI j10 ∧ j10 < aln u9 ∧ ∀ o11, o11 = sP σ6 u9 j10 → ∃ u12, o11 = some u12 ∧ u12 % 32 = 0 ∧ (wp_X8_originsOf_62 K8 (fun z0 z1 z2 z3 z4 ζ => wp_X8_originsOf_23 K8 f z0 z1 z2 z3 z4 ζ Post) this (v2 ||| (sL σ6 u12 11)) v4 v5 v7 σ6 Post)))) (fun E σ6 => Post (.inr E) σ6))))
set_option maxRecDepth 100000 in
set_option maxHeartbeats 4000000 in
theorem wv_X8_originsOf_23 {L9 : Launch} {G : Cx} {Post : Rs → Sg → Prop} (hl : L9.stackTraces = false) (hG : CX L9 G yX8_originsOf cX8_originsOf 8 (some .long) [] { frames := 1, cells := 0, slots := 0, locals := 20 }) {K8 : Nat → Int64 → Int32 → Sg → Prop} (hK8 : ∀ (this : Nat) (v2 : Int64) (v4 : Int32) (ζ : Sg), K8 this v2 v4 ζ → V G (QM G 0 0 Post) 8 [some (.ref this), none, some (.long v2), none, some (.int v4), none, none, none] [] ζ 0 0) : ∀ (f : Nat) (this : Nat) (v2 : Int64) (v4 : Int32) (v5 : Int64) (v7 : Int32) (σ : Sg), wp_X8_originsOf_23 K8 f this v2 v4 v5 v7 σ Post → V G (QM G 0 0 Post) 23 [some (.ref this), none, some (.long v2), none, some (.int v4), some (.long v5), none, some (.int v7)] [] σ 0 0 := by
  intro f
  induction f with
  | zero => intro _ _ _ _ _ σ h; exact h.elim
  | succ f ih =>
    intro this v2 v4 v5 v7 σ h
    refine V_iload hG dX8_originsOf_23 rfl ?_
    refine V_aload_n (v := .ref this) hG dX8_originsOf_25 rfl rfl ?_
    obtain ⟨ht, h⟩ := h
    refine V_getI hG dX8_originsOf_26 fl_X8_27 rfl ht ?_
    refine V_icmp_ge (tgt := 68) hG dX8_originsOf_29 (by decide) (fun c => ?_) (fun c => ?_)
    · replace h := h.1 c
      refine V_lload_n hG dX8_originsOf_68 rfl ?_
      refine V_lload hG dX8_originsOf_69 rfl ?_
      refine V_lcmp hG dX8_originsOf_71 ?_
      refine V_if_ne (tgt := 78) hG dX8_originsOf_72 (by decide) (fun c => ?_) (fun c => ?_)
      · replace h := h.1 c
        refine V_iincv (c := 1) hG dX8_originsOf_78 rfl (by decide) (hpN rfl) ?_
        refine V_goto (tgt := 8) hG dX8_originsOf_81 (by decide) ?_
        refine V_forget (lo' := [some (.ref this), none, some (.long v2), none, some (.int (v4 + 1)), none, none, none]) ⟨rfl, ⟨rfl, ⟨rfl, trivial⟩⟩⟩ ?_
        exact hK8 _ _ _ _ h
      · replace h := h.2 c
        refine V_goto (tgt := 84) hG dX8_originsOf_75 (by decide) ?_
        refine V_forget (lo' := [some (.ref this), none, some (.long v2), none, none, none, none, none]) ⟨rfl, ⟨rfl, trivial⟩⟩ ?_
        refine V_widen (k' := 0) (n' := 0) (by first | exact Nat.le_of_ble_eq_true rfl | omega | (dsimp only; omega)) (by first | exact Nat.le_of_ble_eq_true rfl | omega | (dsimp only; omega)) ?_
        exact wv_X8_originsOf_84 hl hG  _ _ _ h
    · replace h := h.2 c
      refine V_aload_n (v := .ref this) hG dX8_originsOf_32 rfl rfl ?_
      obtain ⟨ht, h⟩ := h
      refine V_getPv hG dX8_originsOf_33 fl_X8_11 rfl ht (fun o1 ho => ?_)
      replace h := h o1 ho
      refine V_iload hG dX8_originsOf_36 rfl ?_
      obtain ⟨u2, he, h⟩ := h
      subst he
      obtain ⟨ha, j3, hi, hj, h⟩ := h
      refine V_aaldv hG dX8_originsOf_38 ha hi hj (fun o4 ho => ?_)
      replace h := h o4 ho
      obtain ⟨u5, he, h⟩ := h
      subst he
      obtain ⟨ht, h⟩ := h
      refine V_cVJ _ _ hG dX8_originsOf_39 (ct_X0_bit hl h) mv_X0_bit ml_X8_100 ht rfl rfl rfl rfl (by first | exact Nat.le_of_ble_eq_true rfl | (simp only [List.map_cons, List.map_nil, List.sum_cons, List.sum_nil, cat_rf]; exact Nat.le_of_ble_eq_true rfl)) (Nat.le_of_ble_eq_true rfl) (Nat.le_of_ble_eq_true rfl) (by first | exact Nat.le_of_ble_eq_true rfl | omega | (dsimp only; omega)) (by first | exact Nat.le_of_ble_eq_true rfl | omega | (dsimp only; omega)) ?_ (fun x7 σ6 h9 => ?_)
      · exact fun E σ6 hx => VX_out hG (by first | exact Nat.le_of_ble_eq_true rfl | omega | (dsimp only; omega)) (by first | exact Nat.le_of_ble_eq_true rfl | omega | (dsimp only; omega)) hx
      · replace h := h9
        clear h9
        refine V_lload_n hG dX8_originsOf_42 rfl ?_
        refine V_land hG dX8_originsOf_43 ?_
        refine V_lconst (v := 0) hG (by decide) dX8_originsOf_44 ?_
        refine V_lcmp hG dX8_originsOf_45 ?_
        refine V_if_eq (tgt := 62) hG dX8_originsOf_46 (by decide) (fun c => ?_) (fun c => ?_)
        · replace h := h.1 c
          refine V_forget (lo' := [some (.ref this), none, some (.long v2), none, some (.int v4), some (.long v5), none, some (.int v7)]) ⟨rfl, ⟨rfl, ⟨rfl, ⟨rfl, ⟨rfl, trivial⟩⟩⟩⟩⟩ ?_
          refine V_widen (k' := 0) (n' := 0) (by first | exact Nat.le_of_ble_eq_true rfl | omega | (dsimp only; omega)) (by first | exact Nat.le_of_ble_eq_true rfl | omega | (dsimp only; omega)) ?_
          exact wv_X8_originsOf_62 hl hG hK8 (fun z0 z1 z2 z3 z4 ζ hz => ih z0 z1 z2 z3 z4 ζ hz) _ _ _ _ _ _ h
        · replace h := h.2 c
          refine V_lload_n hG dX8_originsOf_49 rfl ?_
          refine V_aload_n (v := .ref this) hG dX8_originsOf_50 rfl rfl ?_
          obtain ⟨ht, h⟩ := h
          refine V_getPv hG dX8_originsOf_51 fl_X8_11 rfl ht (fun o8 ho => ?_)
          replace h := h o8 ho
          refine V_iload hG dX8_originsOf_54 rfl ?_
          obtain ⟨u9, he, h⟩ := h
          subst he
          obtain ⟨ha, j10, hi, hj, h⟩ := h
          refine V_aaldv hG dX8_originsOf_56 ha hi hj (fun o11 ho => ?_)
          replace h := h o11 ho
          obtain ⟨u12, he, h⟩ := h
          subst he
          obtain ⟨ht, h⟩ := h
          refine V_getJ hG dX8_originsOf_57 fl_X8_104 rfl ht ?_
          refine V_lor hG dX8_originsOf_60 ?_
          refine V_lstore_n hG dX8_originsOf_61 (Nat.le_of_ble_eq_true rfl) (hpN rfl) ?_
          refine V_forget (lo' := [some (.ref this), none, some (.long (v2 ||| (sL σ6 u12 11))), none, some (.int v4), some (.long v5), none, some (.int v7)]) ⟨rfl, ⟨rfl, ⟨rfl, ⟨rfl, ⟨rfl, trivial⟩⟩⟩⟩⟩ ?_
          refine V_widen (k' := 0) (n' := 0) (by first | exact Nat.le_of_ble_eq_true rfl | omega | (dsimp only; omega)) (by first | exact Nat.le_of_ble_eq_true rfl | omega | (dsimp only; omega)) ?_
          exact wv_X8_originsOf_62 hl hG hK8 (fun z0 z1 z2 z3 z4 ζ hz => ih z0 z1 z2 z3 z4 ζ hz) _ _ _ _ _ _ h
def wp_X8_originsOf_8  : Nat → Nat → Int64 → Int32 → Sg → (Rs → Sg → Prop) → Prop
  | 0, _, _, _, _, _ => False
  | f + 1, this, v2, v4, σ, Post => this % 32 = 8 ∧ (((sI σ this 1) ≤ v4 → (wp_X8_originsOf_84 this v2 σ Post)) ∧ (¬ (sI σ this 1) ≤ v4 → (∃ g, wp_X8_originsOf_23 (fun z0 z1 z2 ζ => wp_X8_originsOf_8 f z0 z1 z2 ζ Post) g this v2 v4 v2 (0 : Int32) σ Post)))
set_option maxRecDepth 100000 in
set_option maxHeartbeats 4000000 in
theorem wv_X8_originsOf_8 {L9 : Launch} {G : Cx} {Post : Rs → Sg → Prop} (hl : L9.stackTraces = false) (hG : CX L9 G yX8_originsOf cX8_originsOf 8 (some .long) [] { frames := 1, cells := 0, slots := 0, locals := 20 })   : ∀ (f : Nat) (this : Nat) (v2 : Int64) (v4 : Int32) (σ : Sg), wp_X8_originsOf_8 f this v2 v4 σ Post → V G (QM G 0 0 Post) 8 [some (.ref this), none, some (.long v2), none, some (.int v4), none, none, none] [] σ 0 0 := by
  intro f
  induction f with
  | zero => intro _ _ _ σ h; exact h.elim
  | succ f ih =>
    intro this v2 v4 σ h
    refine V_iload hG dX8_originsOf_8 rfl ?_
    refine V_aload_n (v := .ref this) hG dX8_originsOf_10 rfl rfl ?_
    obtain ⟨ht, h⟩ := h
    refine V_getI hG dX8_originsOf_11 fl_X8_27 rfl ht ?_
    refine V_icmp_ge (tgt := 84) hG dX8_originsOf_14 (by decide) (fun c => ?_) (fun c => ?_)
    · replace h := h.1 c
      refine V_forget (lo' := [some (.ref this), none, some (.long v2), none, none, none, none, none]) ⟨rfl, ⟨rfl, trivial⟩⟩ ?_
      refine V_widen (k' := 0) (n' := 0) (by first | exact Nat.le_of_ble_eq_true rfl | omega | (dsimp only; omega)) (by first | exact Nat.le_of_ble_eq_true rfl | omega | (dsimp only; omega)) ?_
      exact wv_X8_originsOf_84 hl hG  _ _ _ h
    · replace h := h.2 c
      refine V_lload_n hG dX8_originsOf_17 rfl ?_
      refine V_lstore hG dX8_originsOf_18 (Nat.le_of_ble_eq_true rfl) (hpV rfl rfl) ?_
      refine V_iconst (v := 0) hG (by decide) dX8_originsOf_20 ?_
      refine V_istore hG dX8_originsOf_21 (Nat.le_of_ble_eq_true rfl) (hpN rfl) ?_
      refine V_forget (lo' := [some (.ref this), none, some (.long v2), none, some (.int v4), some (.long v2), none, some (.int (0 : Int32))]) ⟨rfl, ⟨rfl, ⟨rfl, ⟨rfl, ⟨rfl, trivial⟩⟩⟩⟩⟩ ?_
      obtain ⟨g, h⟩ := h
      refine V_widen (k' := 0) (n' := 0) (by first | exact Nat.le_of_ble_eq_true rfl | omega | (dsimp only; omega)) (by first | exact Nat.le_of_ble_eq_true rfl | omega | (dsimp only; omega)) ?_
      exact wv_X8_originsOf_23 hl hG (fun z0 z1 z2 ζ hz => ih z0 z1 z2 ζ hz) g _ _ _ _ _ _ h
def wp_X8_originsOf (this : Nat) (a0 : Option Nat) (σ : Sg) (Post : Rs → Sg → Prop) : Prop := ∃ u1, a0 = some u1 ∧ u1 % 32 = 0 ∧ wp_X0_bit u1 σ (KJ (fun x3 σ2 => (∃ g, wp_X8_originsOf_8 g this x3 (0 : Int32) σ2 Post)) (fun E σ2 => Post (.inr E) σ2))
set_option maxRecDepth 100000 in
set_option maxHeartbeats 4000000 in
theorem ct_X8_originsOf {l : Launch} (hl : l.stackTraces = false) {this : Nat} {a0 : Option Nat} {σ : Sg} {Post : Rs → Sg → Prop} (h : wp_X8_originsOf this a0 σ Post) : Ct l yX8_originsOf (.code yX8_originsOf cX8_originsOf 8 (some .long)) 1 20 0 0 [.ref this, va_rf a0] σ Post := by
  refine Ct_of [some (.ref this), some (va_rf a0), none, none, none, none, none, none] hl (by decide +kernel) rfl (fun ad => by cases a0 <;> rfl) (fun ad => by cases a0 <;> exact Nat.le_of_ble_eq_true rfl) (fun v hv => mem_lo hv rfl) ?_
  intro G hG
  unfold wp_X8_originsOf at h
  refine V_aload_n (v := va_rf a0) hG dX8_originsOf_0 (isRef_rf _) rfl ?_
  obtain ⟨u1, he, h⟩ := h
  subst he
  obtain ⟨ht, h⟩ := h
  refine V_cVJ _ _ hG dX8_originsOf_1 (ct_X0_bit hl h) mv_X0_bit ml_X8_100 ht rfl rfl rfl rfl (by first | exact Nat.le_of_ble_eq_true rfl | (simp only [List.map_cons, List.map_nil, List.sum_cons, List.sum_nil, cat_rf]; exact Nat.le_of_ble_eq_true rfl)) (Nat.le_of_ble_eq_true rfl) (Nat.le_of_ble_eq_true rfl) (by first | exact Nat.le_of_ble_eq_true rfl | omega | (dsimp only; omega)) (by first | exact Nat.le_of_ble_eq_true rfl | omega | (dsimp only; omega)) ?_ (fun x3 σ2 h9 => ?_)
  · exact fun E σ2 hx => VX_out hG (by first | exact Nat.le_of_ble_eq_true rfl | omega | (dsimp only; omega)) (by first | exact Nat.le_of_ble_eq_true rfl | omega | (dsimp only; omega)) hx
  · replace h := h9
    clear h9
    refine V_lstore_n hG dX8_originsOf_4 (Nat.le_of_ble_eq_true rfl) (hpV rfl rfl) ?_
    refine V_iconst (v := 0) hG (by decide) dX8_originsOf_5 ?_
    refine V_istore hG dX8_originsOf_6 (Nat.le_of_ble_eq_true rfl) (hpN rfl) ?_
    refine V_forget (lo' := [some (.ref this), none, some (.long x3), none, some (.int (0 : Int32)), none, none, none]) ⟨rfl, ⟨rfl, ⟨rfl, trivial⟩⟩⟩ ?_
    obtain ⟨g, h⟩ := h
    refine V_widen (k' := 0) (n' := 0) (by first | exact Nat.le_of_ble_eq_true rfl | omega | (dsimp only; omega)) (by first | exact Nat.le_of_ble_eq_true rfl | omega | (dsimp only; omega)) ?_
    exact wv_X8_originsOf_8 hl hG  g _ _ _ _ h
def wp_X8_cutPromises_82 (K7 : Nat → Option Nat → Int32 → Sg → Prop) (this : Nat) (v1 : Nat) (v2 : Int32) (σ : Sg) (Post : Rs → Sg → Prop) : Prop := (K7 this (some v1) (v2 + (-1)) σ)
set_option maxRecDepth 100000 in
set_option maxHeartbeats 4000000 in
theorem wv_X8_cutPromises_82 {L9 : Launch} {G : Cx} {Post : Rs → Sg → Prop} (hl : L9.stackTraces = false) (hG : CX L9 G yX8_cutPromises cX8_cutPromises 6 none [] { frames := 1, cells := 0, slots := 0, locals := 13 }) {K7 : Nat → Option Nat → Int32 → Sg → Prop} (hK7 : ∀ (this : Nat) (v1 : Option Nat) (v2 : Int32) (ζ : Sg), K7 this v1 v2 ζ → V G (QM G 0 0 Post) 7 [some (.ref this), some (va_rf v1), some (.int v2), none, none, none] [] ζ 0 0) : ∀ (this : Nat) (v1 : Nat) (v2 : Int32) (σ : Sg), wp_X8_cutPromises_82 K7 this v1 v2 σ Post → V G (QM G 0 0 Post) 82 [some (.ref this), some (.ref v1), some (.int v2), none, none, none] [] σ 0 0 := by
  intro this v1 v2 σ h
  unfold wp_X8_cutPromises_82 at h
  refine V_iincv (c := (-1)) hG dX8_cutPromises_82 rfl (by decide) (hpV rfl rfl) ?_
  refine V_goto (tgt := 7) hG dX8_cutPromises_85 (by decide) ?_
  refine V_forget (lo' := [some (.ref this), some (va_rf (some v1)), some (.int (v2 + (-1))), none, none, none]) ⟨rfl, ⟨rfl, ⟨rfl, trivial⟩⟩⟩ ?_
  exact hK7 _ _ _ _ h
def wp_X8_cutPromises_7  : Nat → Nat → Option Nat → Int32 → Sg → (Rs → Sg → Prop) → Prop
  | 0, _, _, _, _, _ => False
  | f + 1, this, v1, v2, σ, Post => ((v2 < 0 → Post (.inl none) σ) ∧ (¬ v2 < 0 → this % 32 = 8 ∧ ∀ o1, o1 = sP σ this 2 → ∃ u2, o1 = some u2 ∧ isRow u2 ∧ ∃ j3, v2 = nI j3 ∧ j3 < aln u2 ∧ ∀ o4, o4 = sP σ u2 j3 → ∃ u5, v1 = some u5 ∧ u5 % 32 = 2 ∧ u5 % 32 = 2 ∧ ((((sI σ u5 11) - (sI σ u5 10)) ≤ 0 → (wp_X8_cutPromises_82 (fun z0 z1 z2 ζ => wp_X8_cutPromises_7 f z0 z1 z2 ζ Post) this u5 v2 σ Post)) ∧ (¬ ((sI σ u5 11) - (sI σ u5 10)) ≤ 0 → ∃ u6, o4 = some u6 ∧ u6 % 32 = 6 ∧ ∀ o7, o7 = sP σ u6 0 → ((¬ o7 = (some u5) → (wp_X8_cutPromises_82 (fun z0 z1 z2 ζ => wp_X8_cutPromises_7 f z0 z1 z2 ζ Post) this u5 v2 σ Post)) ∧ (o7 = (some u5) → u6 % 32 = 6 ∧ ∀ o8, o8 = sP σ u6 4 → ((o8 = none → u6 % 32 = 6 ∧ u6 % 32 = 6 ∧ u6 % 32 = 6 ∧ u5 % 32 = 2 ∧ u5 % 32 = 2 ∧ (wp_X8_cutPromises_82 (fun z0 z1 z2 ζ => wp_X8_cutPromises_7 f z0 z1 z2 ζ Post) this u5 v2 (wI (wI σ u6 3 ((sI σ u6 3) - (if ((sI σ u5 11) - (sI σ u5 10)) < (sI σ u6 3) then ((sI σ u5 11) - (sI σ u5 10)) else (sI σ u6 3)))) u5 11 ((sI (wI σ u6 3 ((sI σ u6 3) - (if ((sI σ u5 11) - (sI σ u5 10)) < (sI σ u6 3) then ((sI σ u5 11) - (sI σ u5 10)) else (sI σ u6 3)))) u5 11) - (if ((sI σ u5 11) - (sI σ u5 10)) < (sI σ u6 3) then ((sI σ u5 11) - (sI σ u5 10)) else (sI σ u6 3)))) Post)) ∧ (∀ u9, o8 = some u9 → (wp_X8_cutPromises_82 (fun z0 z1 z2 ζ => wp_X8_cutPromises_7 f z0 z1 z2 ζ Post) this u5 v2 σ Post)))))))))
set_option maxRecDepth 100000 in
set_option maxHeartbeats 4000000 in
theorem wv_X8_cutPromises_7 {L9 : Launch} {G : Cx} {Post : Rs → Sg → Prop} (hl : L9.stackTraces = false) (hG : CX L9 G yX8_cutPromises cX8_cutPromises 6 none [] { frames := 1, cells := 0, slots := 0, locals := 13 })   : ∀ (f : Nat) (this : Nat) (v1 : Option Nat) (v2 : Int32) (σ : Sg), wp_X8_cutPromises_7 f this v1 v2 σ Post → V G (QM G 0 0 Post) 7 [some (.ref this), some (va_rf v1), some (.int v2), none, none, none] [] σ 0 0 := by
  intro f
  induction f with
  | zero => intro _ _ _ σ h; exact h.elim
  | succ f ih =>
    intro this v1 v2 σ h
    refine V_iload_n hG dX8_cutPromises_7 rfl ?_
    refine V_if_lt (tgt := 88) hG dX8_cutPromises_8 (by decide) (fun c => ?_) (fun c => ?_)
    · replace h := h.1 c
      exact V_vret hG dX8_cutPromises_88 (by first | exact Nat.le_of_ble_eq_true rfl | omega | (dsimp only; omega)) (by first | exact Nat.le_of_ble_eq_true rfl | omega | (dsimp only; omega)) h
    · replace h := h.2 c
      refine V_aload_n (v := .ref this) hG dX8_cutPromises_11 rfl rfl ?_
      obtain ⟨ht, h⟩ := h
      refine V_getPv hG dX8_cutPromises_12 fl_X8_19 rfl ht (fun o1 ho => ?_)
      replace h := h o1 ho
      refine V_iload_n hG dX8_cutPromises_15 rfl ?_
      obtain ⟨u2, he, h⟩ := h
      subst he
      obtain ⟨ha, j3, hi, hj, h⟩ := h
      refine V_aaldv hG dX8_cutPromises_16 ha hi hj (fun o4 ho => ?_)
      replace h := h o4 ho
      refine V_astore_n hG dX8_cutPromises_17 (isRef_rf _) (Nat.le_of_ble_eq_true rfl) (hpV rfl rfl) ?_
      refine V_aload_n (v := va_rf v1) hG dX8_cutPromises_18 (isRef_rf _) rfl ?_
      obtain ⟨u5, he, h⟩ := h
      subst he
      obtain ⟨ht, h⟩ := h
      refine V_getI hG dX8_cutPromises_19 fl_X8_123 rfl ht ?_
      refine V_aload_n (v := .ref u5) hG dX8_cutPromises_22 rfl rfl ?_
      obtain ⟨ht, h⟩ := h
      refine V_getI hG dX8_cutPromises_23 fl_X8_75 rfl ht ?_
      refine V_isub hG dX8_cutPromises_26 ?_
      refine V_istore hG dX8_cutPromises_27 (Nat.le_of_ble_eq_true rfl) (hpV rfl (cat_rf _)) ?_
      refine V_iload hG dX8_cutPromises_29 rfl ?_
      refine V_if_le (tgt := 82) hG dX8_cutPromises_31 (by decide) (fun c => ?_) (fun c => ?_)
      · replace h := h.1 c
        refine V_forget (lo' := [some (.ref this), some (.ref u5), some (.int v2), none, none, none]) ⟨rfl, ⟨rfl, ⟨rfl, trivial⟩⟩⟩ ?_
        refine V_widen (k' := 0) (n' := 0) (by first | exact Nat.le_of_ble_eq_true rfl | omega | (dsimp only; omega)) (by first | exact Nat.le_of_ble_eq_true rfl | omega | (dsimp only; omega)) ?_
        exact wv_X8_cutPromises_82 hl hG (fun z0 z1 z2 ζ hz => ih z0 z1 z2 ζ hz) _ _ _ _ h
      · replace h := h.2 c
        refine V_aload_n (v := va_rf o4) hG dX8_cutPromises_34 (isRef_rf _) rfl ?_
        obtain ⟨u6, he, h⟩ := h
        subst he
        obtain ⟨ht, h⟩ := h
        refine V_getPv hG dX8_cutPromises_35 fl_X8_126 rfl ht (fun o7 ho => ?_)
        replace h := h o7 ho
        refine V_aload_n (v := .ref u5) hG dX8_cutPromises_38 rfl rfl ?_
        refine V_acmp_ne (a := o7) (b := (some u5)) (tgt := 82) hG dX8_cutPromises_39 (by decide) (fun c => ?_) (fun c => ?_)
        · replace h := h.1 c
          refine V_forget (lo' := [some (.ref this), some (.ref u5), some (.int v2), none, none, none]) ⟨rfl, ⟨rfl, ⟨rfl, trivial⟩⟩⟩ ?_
          refine V_widen (k' := 0) (n' := 0) (by first | exact Nat.le_of_ble_eq_true rfl | omega | (dsimp only; omega)) (by first | exact Nat.le_of_ble_eq_true rfl | omega | (dsimp only; omega)) ?_
          exact wv_X8_cutPromises_82 hl hG (fun z0 z1 z2 ζ hz => ih z0 z1 z2 ζ hz) _ _ _ _ h
        · replace h := h.2 c
          refine V_aload_n (v := .ref u6) hG dX8_cutPromises_42 rfl rfl ?_
          obtain ⟨ht, h⟩ := h
          refine V_getPv hG dX8_cutPromises_43 fl_X8_127 rfl ht (fun o8 ho => ?_)
          replace h := h o8 ho
          refine V_ifnonnull (o := o8) (tgt := 82) hG dX8_cutPromises_46 (by decide) (fun c => ?_) (fun c => ?_)
          · obtain ⟨u9, c⟩ := c
            replace h := h.2 u9 c
            subst c
            refine V_forget (lo' := [some (.ref this), some (.ref u5), some (.int v2), none, none, none]) ⟨rfl, ⟨rfl, ⟨rfl, trivial⟩⟩⟩ ?_
            refine V_widen (k' := 0) (n' := 0) (by first | exact Nat.le_of_ble_eq_true rfl | omega | (dsimp only; omega)) (by first | exact Nat.le_of_ble_eq_true rfl | omega | (dsimp only; omega)) ?_
            exact wv_X8_cutPromises_82 hl hG (fun z0 z1 z2 ζ hz => ih z0 z1 z2 ζ hz) _ _ _ _ h
          · replace h := h.1 c
            subst c
            refine V_aload_n (v := .ref u6) hG dX8_cutPromises_49 rfl rfl ?_
            obtain ⟨ht, h⟩ := h
            refine V_getI hG dX8_cutPromises_50 fl_X8_131 rfl ht ?_
            refine V_iload hG dX8_cutPromises_53 rfl ?_
            refine V_mmin hG dX8_cutPromises_55 ml_X8_91 mm_min.1 mm_min.2.1 mm_min.2.2 (Nat.le_of_ble_eq_true rfl) (by first | exact Nat.le_of_ble_eq_true rfl | (simp only [List.map_cons, List.map_nil, List.sum_cons, List.sum_nil, cat_rf]; exact Nat.le_of_ble_eq_true rfl)) (Nat.le_of_ble_eq_true rfl) (Nat.le_of_ble_eq_true rfl) ?_
            refine V_istore hG dX8_cutPromises_58 (Nat.le_of_ble_eq_true rfl) (hpV rfl rfl) ?_
            refine V_aload_n (v := .ref u6) hG dX8_cutPromises_60 rfl rfl ?_
            refine V_dup (v := .ref u6) hG rfl dX8_cutPromises_61 ?_
            obtain ⟨ht, h⟩ := h
            refine V_getI hG dX8_cutPromises_62 fl_X8_131 rfl ht ?_
            refine V_iload hG dX8_cutPromises_65 rfl ?_
            refine V_isub hG dX8_cutPromises_67 ?_
            obtain ⟨ht, h⟩ := h
            refine V_putI hG dX8_cutPromises_68 fl_X8_131 rfl (fun e => absurd e (by decide)) rfl ht ?_
            refine V_aload_n (v := .ref u5) hG dX8_cutPromises_71 rfl rfl ?_
            refine V_dup (v := .ref u5) hG rfl dX8_cutPromises_72 ?_
            obtain ⟨ht, h⟩ := h
            refine V_getI hG dX8_cutPromises_73 fl_X8_123 rfl ht ?_
            refine V_iload hG dX8_cutPromises_76 rfl ?_
            refine V_isub hG dX8_cutPromises_78 ?_
            obtain ⟨ht, h⟩ := h
            refine V_putI hG dX8_cutPromises_79 fl_X8_123 rfl (fun e => absurd e (by decide)) rfl ht ?_
            refine V_forget (lo' := [some (.ref this), some (.ref u5), some (.int v2), none, none, none]) ⟨rfl, ⟨rfl, ⟨rfl, trivial⟩⟩⟩ ?_
            refine V_widen (k' := 0) (n' := 0) (by first | exact Nat.le_of_ble_eq_true rfl | omega | (dsimp only; omega)) (by first | exact Nat.le_of_ble_eq_true rfl | omega | (dsimp only; omega)) ?_
            exact wv_X8_cutPromises_82 hl hG (fun z0 z1 z2 ζ hz => ih z0 z1 z2 ζ hz) _ _ _ _ h
def wp_X8_cutPromises (this : Nat) (a0 : Option Nat) (σ : Sg) (Post : Rs → Sg → Prop) : Prop := this % 32 = 8 ∧ (∃ g, wp_X8_cutPromises_7 g this a0 ((sI σ this 3) - (1 : Int32)) σ Post)
set_option maxRecDepth 100000 in
set_option maxHeartbeats 4000000 in
theorem ct_X8_cutPromises {l : Launch} (hl : l.stackTraces = false) {this : Nat} {a0 : Option Nat} {σ : Sg} {Post : Rs → Sg → Prop} (h : wp_X8_cutPromises this a0 σ Post) : Ct l yX8_cutPromises (.code yX8_cutPromises cX8_cutPromises 6 none) 1 13 0 0 [.ref this, va_rf a0] σ Post := by
  refine Ct_of [some (.ref this), some (va_rf a0), none, none, none, none] hl (by decide +kernel) rfl (fun ad => by cases a0 <;> rfl) (fun ad => by cases a0 <;> exact Nat.le_of_ble_eq_true rfl) (fun v hv => mem_lo hv rfl) ?_
  intro G hG
  unfold wp_X8_cutPromises at h
  refine V_aload_n (v := .ref this) hG dX8_cutPromises_0 rfl rfl ?_
  obtain ⟨ht, h⟩ := h
  refine V_getI hG dX8_cutPromises_1 fl_X8_47 rfl ht ?_
  refine V_iconst (v := 1) hG (by decide) dX8_cutPromises_4 ?_
  refine V_isub hG dX8_cutPromises_5 ?_
  refine V_istore_n hG dX8_cutPromises_6 (Nat.le_of_ble_eq_true rfl) (hpV rfl (cat_rf _)) ?_
  refine V_forget (lo' := [some (.ref this), some (va_rf a0), some (.int ((sI σ this 3) - (1 : Int32))), none, none, none]) ⟨rfl, ⟨rfl, ⟨rfl, trivial⟩⟩⟩ ?_
  obtain ⟨g, h⟩ := h
  refine V_widen (k' := 0) (n' := 0) (by first | exact Nat.le_of_ble_eq_true rfl | omega | (dsimp only; omega)) (by first | exact Nat.le_of_ble_eq_true rfl | omega | (dsimp only; omega)) ?_
  exact wv_X8_cutPromises_7 hl hG  g _ _ _ _ h
def wp_X8_costOf_37 (K4 : Nat → Int32 → Int32 → Int32 → Sg → Prop) (this : Nat) (v1 : Int32) (v2 : Int32) (v3 : Int32) (σ : Sg) (Post : Rs → Sg → Prop) : Prop := (K4 this v1 v2 (v3 + 1) σ)
set_option maxRecDepth 100000 in
set_option maxHeartbeats 4000000 in
theorem wv_X8_costOf_37 {L9 : Launch} {G : Cx} {Post : Rs → Sg → Prop} (hl : L9.stackTraces = false) (hG : CX L9 G yX8_costOf cX8_costOf 4 (some .int) [] { frames := 0, cells := 0, slots := 0, locals := 0 }) {K4 : Nat → Int32 → Int32 → Int32 → Sg → Prop} (hK4 : ∀ (this : Nat) (v1 : Int32) (v2 : Int32) (v3 : Int32) (ζ : Sg), K4 this v1 v2 v3 ζ → V G (QM G 0 0 Post) 4 [some (.ref this), some (.int v1), some (.int v2), some (.int v3)] [] ζ 0 0) : ∀ (this : Nat) (v1 : Int32) (v2 : Int32) (v3 : Int32) (σ : Sg), wp_X8_costOf_37 K4 this v1 v2 v3 σ Post → V G (QM G 0 0 Post) 37 [some (.ref this), some (.int v1), some (.int v2), some (.int v3)] [] σ 0 0 := by
  intro this v1 v2 v3 σ h
  unfold wp_X8_costOf_37 at h
  refine V_iincv (c := 1) hG dX8_costOf_37 rfl (by decide) (hpV rfl rfl) ?_
  refine V_goto (tgt := 4) hG dX8_costOf_40 (by decide) ?_
  refine V_forget (lo' := [some (.ref this), some (.int v1), some (.int v2), some (.int (v3 + 1))]) ⟨rfl, ⟨rfl, ⟨rfl, ⟨rfl, trivial⟩⟩⟩⟩ ?_
  exact hK4 _ _ _ _ _ h
def wp_X8_costOf_4  : Nat → Nat → Int32 → Int32 → Int32 → Sg → (Rs → Sg → Prop) → Prop
  | 0, _, _, _, _, _, _ => False
  | f + 1, this, v1, v2, v3, σ, Post => this % 32 = 8 ∧ (((sI σ this 1) ≤ v3 → Post (.inl (some (.int v2))) σ) ∧ (¬ (sI σ this 1) ≤ v3 → this % 32 = 8 ∧ ∀ o1, o1 = sP σ this 0 → ∃ u2, o1 = some u2 ∧ isRow u2 ∧ ∃ j3, v3 = nI j3 ∧ j3 < aln u2 ∧ ∀ o4, o4 = sP σ u2 j3 → ∃ u5, o4 = some u5 ∧ u5 % 32 = 0 ∧ ((¬ (sI σ u5 4) = v1 → (wp_X8_costOf_37 (fun z0 z1 z2 z3 ζ => wp_X8_costOf_4 f z0 z1 z2 z3 ζ Post) this v1 v2 v3 σ Post)) ∧ ((sI σ u5 4) = v1 → this % 32 = 8 ∧ ∀ o6, o6 = sP σ this 0 → ∃ u7, o6 = some u7 ∧ isRow u7 ∧ ∃ j8, v3 = nI j8 ∧ j8 < aln u7 ∧ ∀ o9, o9 = sP σ u7 j8 → ∃ u10, o9 = some u10 ∧ u10 % 32 = 0 ∧ (wp_X8_costOf_37 (fun z0 z1 z2 z3 ζ => wp_X8_costOf_4 f z0 z1 z2 z3 ζ Post) this v1 (v2 + (sI σ u10 3)) v3 σ Post)))))
set_option maxRecDepth 100000 in
set_option maxHeartbeats 4000000 in
theorem wv_X8_costOf_4 {L9 : Launch} {G : Cx} {Post : Rs → Sg → Prop} (hl : L9.stackTraces = false) (hG : CX L9 G yX8_costOf cX8_costOf 4 (some .int) [] { frames := 0, cells := 0, slots := 0, locals := 0 })   : ∀ (f : Nat) (this : Nat) (v1 : Int32) (v2 : Int32) (v3 : Int32) (σ : Sg), wp_X8_costOf_4 f this v1 v2 v3 σ Post → V G (QM G 0 0 Post) 4 [some (.ref this), some (.int v1), some (.int v2), some (.int v3)] [] σ 0 0 := by
  intro f
  induction f with
  | zero => intro _ _ _ _ σ h; exact h.elim
  | succ f ih =>
    intro this v1 v2 v3 σ h
    refine V_iload_n hG dX8_costOf_4 rfl ?_
    refine V_aload_n (v := .ref this) hG dX8_costOf_5 rfl rfl ?_
    obtain ⟨ht, h⟩ := h
    refine V_getI hG dX8_costOf_6 fl_X8_27 rfl ht ?_
    refine V_icmp_ge (tgt := 43) hG dX8_costOf_9 (by decide) (fun c => ?_) (fun c => ?_)
    · replace h := h.1 c
      refine V_iload_n hG dX8_costOf_43 rfl ?_
      exact V_iret hG dX8_costOf_44 (by first | exact Nat.le_of_ble_eq_true rfl | omega | (dsimp only; omega)) (by first | exact Nat.le_of_ble_eq_true rfl | omega | (dsimp only; omega)) h
    · replace h := h.2 c
      refine V_aload_n (v := .ref this) hG dX8_costOf_12 rfl rfl ?_
      obtain ⟨ht, h⟩ := h
      refine V_getPv hG dX8_costOf_13 fl_X8_11 rfl ht (fun o1 ho => ?_)
      replace h := h o1 ho
      refine V_iload_n hG dX8_costOf_16 rfl ?_
      obtain ⟨u2, he, h⟩ := h
      subst he
      obtain ⟨ha, j3, hi, hj, h⟩ := h
      refine V_aaldv hG dX8_costOf_17 ha hi hj (fun o4 ho => ?_)
      replace h := h o4 ho
      obtain ⟨u5, he, h⟩ := h
      subst he
      obtain ⟨ht, h⟩ := h
      refine V_getI hG dX8_costOf_18 fl_X8_68 rfl ht ?_
      refine V_iload_n hG dX8_costOf_21 rfl ?_
      refine V_icmp_ne (tgt := 37) hG dX8_costOf_22 (by decide) (fun c => ?_) (fun c => ?_)
      · replace h := h.1 c
        refine V_forget (lo' := [some (.ref this), some (.int v1), some (.int v2), some (.int v3)]) ⟨rfl, ⟨rfl, ⟨rfl, ⟨rfl, trivial⟩⟩⟩⟩ ?_
        refine V_widen (k' := 0) (n' := 0) (by first | exact Nat.le_of_ble_eq_true rfl | omega | (dsimp only; omega)) (by first | exact Nat.le_of_ble_eq_true rfl | omega | (dsimp only; omega)) ?_
        exact wv_X8_costOf_37 hl hG (fun z0 z1 z2 z3 ζ hz => ih z0 z1 z2 z3 ζ hz) _ _ _ _ _ h
      · replace h := h.2 c
        refine V_iload_n hG dX8_costOf_25 rfl ?_
        refine V_aload_n (v := .ref this) hG dX8_costOf_26 rfl rfl ?_
        obtain ⟨ht, h⟩ := h
        refine V_getPv hG dX8_costOf_27 fl_X8_11 rfl ht (fun o6 ho => ?_)
        replace h := h o6 ho
        refine V_iload_n hG dX8_costOf_30 rfl ?_
        obtain ⟨u7, he, h⟩ := h
        subst he
        obtain ⟨ha, j8, hi, hj, h⟩ := h
        refine V_aaldv hG dX8_costOf_31 ha hi hj (fun o9 ho => ?_)
        replace h := h o9 ho
        obtain ⟨u10, he, h⟩ := h
        subst he
        obtain ⟨ht, h⟩ := h
        refine V_getI hG dX8_costOf_32 fl_X8_112 rfl ht ?_
        refine V_iadd hG dX8_costOf_35 ?_
        refine V_istore_n hG dX8_costOf_36 (Nat.le_of_ble_eq_true rfl) (hpV rfl rfl) ?_
        refine V_forget (lo' := [some (.ref this), some (.int v1), some (.int (v2 + (sI σ u10 3))), some (.int v3)]) ⟨rfl, ⟨rfl, ⟨rfl, ⟨rfl, trivial⟩⟩⟩⟩ ?_
        refine V_widen (k' := 0) (n' := 0) (by first | exact Nat.le_of_ble_eq_true rfl | omega | (dsimp only; omega)) (by first | exact Nat.le_of_ble_eq_true rfl | omega | (dsimp only; omega)) ?_
        exact wv_X8_costOf_37 hl hG (fun z0 z1 z2 z3 ζ hz => ih z0 z1 z2 z3 ζ hz) _ _ _ _ _ h
def wp_X8_costOf (this : Nat) (a0 : Int32) (σ : Sg) (Post : Rs → Sg → Prop) : Prop := (∃ g, wp_X8_costOf_4 g this a0 (0 : Int32) (0 : Int32) σ Post)
set_option maxRecDepth 100000 in
set_option maxHeartbeats 4000000 in
theorem ct_X8_costOf {l : Launch} (hl : l.stackTraces = false) {this : Nat} {a0 : Int32} {σ : Sg} {Post : Rs → Sg → Prop} (h : wp_X8_costOf this a0 σ Post) : Ct l yX8_costOf (.code yX8_costOf cX8_costOf 4 (some .int)) 0 0 0 0 [.ref this, .int a0] σ Post := by
  refine Ct_of [some (.ref this), some (.int a0), none, none] hl (by decide +kernel) rfl (fun ad => by rfl) (fun ad => by exact Nat.le_of_ble_eq_true rfl) (fun v hv => mem_lo hv rfl) ?_
  intro G hG
  unfold wp_X8_costOf at h
  refine V_iconst (v := 0) hG (by decide) dX8_costOf_0 ?_
  refine V_istore_n hG dX8_costOf_1 (Nat.le_of_ble_eq_true rfl) (hpV rfl rfl) ?_
  refine V_iconst (v := 0) hG (by decide) dX8_costOf_2 ?_
  refine V_istore_n hG dX8_costOf_3 (Nat.le_of_ble_eq_true rfl) (hpV rfl rfl) ?_
  refine V_forget (lo' := [some (.ref this), some (.int a0), some (.int (0 : Int32)), some (.int (0 : Int32))]) ⟨rfl, ⟨rfl, ⟨rfl, ⟨rfl, trivial⟩⟩⟩⟩ ?_
  obtain ⟨g, h⟩ := h
  refine V_widen (k' := 0) (n' := 0) (by first | exact Nat.le_of_ble_eq_true rfl | omega | (dsimp only; omega)) (by first | exact Nat.le_of_ble_eq_true rfl | omega | (dsimp only; omega)) ?_
  exact wv_X8_costOf_4 hl hG  g _ _ _ _ _ h
def wp_X9_init_37  : Nat → Nat → Int32 → Sg → (Rs → Sg → Prop) → Prop
  | 0, _, _, _, _ => False
  | f + 1, this, v1, σ, Post => this % 32 = 9 ∧ ∀ o1, o1 = sP σ this 0 → ∃ u2, o1 = some u2 ∧ isArr u2 ∧ (((nI (aln u2)) ≤ v1 → Post (.inl none) σ) ∧ (¬ (nI (aln u2)) ≤ v1 → this % 32 = 9 ∧ ∀ o3, o3 = sP σ this 0 → ∃ u4, sX σ u4 = false ∧ u4 % 32 = 2 ∧ wp_X2_init u4 v1 (wN σ u4) (KV (fun σ5 => ∃ u6, o3 = some u6 ∧ canSt u6 u4 ∧ ∃ j7, v1 = nI j7 ∧ j7 < aln u6 ∧ (wp_X9_init_37 f this (v1 + 1) (wP σ5 u6 j7 (some u4)) Post)) (fun E σ5 => Post (.inr E) σ5))))
set_option maxRecDepth 100000 in
set_option maxHeartbeats 4000000 in
theorem wv_X9_init_37 {L9 : Launch} {G : Cx} {Post : Rs → Sg → Prop} (hl : L9.stackTraces = false) (hG : CX L9 G yX9_init cX9_init 2 none [] { frames := 3, cells := 47, slots := 383, locals := 53 })  : ∀ (f k n : Nat), k + f * 3 ≤ 47 → n + f * 21 ≤ 383 → ∀ (this : Nat) (v1 : Int32) (σ : Sg), wp_X9_init_37 f this v1 σ Post → V G (QM G 47 383 Post) 37 [some (.ref this), some (.int v1)] [] σ k n := by
  intro f
  induction f with
  | zero => intro k n _ _ _ _ σ h; exact h.elim
  | succ f ih =>
    intro k n hk hn this v1 σ h
    refine V_iload_n hG dX9_init_37 rfl ?_
    refine V_aload_n (v := .ref this) hG dX9_init_38 rfl rfl ?_
    obtain ⟨ht, h⟩ := h
    refine V_getPv hG dX9_init_39 fl_X9_11 rfl ht (fun o1 ho => ?_)
    replace h := h o1 ho
    obtain ⟨u2, he, h⟩ := h
    subst he
    obtain ⟨ha, h⟩ := h
    refine V_alenv hG dX9_init_42 ha ?_
    refine V_icmp_ge (tgt := 66) hG dX9_init_43 (by decide) (fun c => ?_) (fun c => ?_)
    · replace h := h.1 c
      exact V_vret hG dX9_init_66 (by first | exact Nat.le_of_ble_eq_true rfl | omega | (dsimp only; omega)) (by first | exact Nat.le_of_ble_eq_true rfl | omega | (dsimp only; omega)) h
    · replace h := h.2 c
      refine V_aload_n (v := .ref this) hG dX9_init_46 rfl rfl ?_
      obtain ⟨ht, h⟩ := h
      refine V_getPv hG dX9_init_47 fl_X9_11 rfl ht (fun o3 ho => ?_)
      replace h := h o3 ho
      refine V_iload_n hG dX9_init_50 rfl ?_
      obtain ⟨u4, hu, ht, h⟩ := h
      refine V_newn (N := 14) hG dX9_init_51 hu ht rfl rfl cl_X9_9 ins_X2 ini_X2 (by first | exact Nat.le_of_ble_eq_true rfl | omega | (dsimp only; omega)) (by first | exact Nat.le_of_ble_eq_true rfl | omega | (dsimp only; omega)) ?_
      refine V_dup (v := .ref u4) hG rfl dX9_init_54 ?_
      refine V_iload_n hG dX9_init_55 rfl ?_
      refine V_cIV _ _ hG dX9_init_56 (ct_X2_init hl h) mv_X2_init ml_X9_27 rfl rfl (by first | exact Nat.le_of_ble_eq_true rfl | (simp only [List.map_cons, List.map_nil, List.sum_cons, List.sum_nil, cat_rf]; exact Nat.le_of_ble_eq_true rfl)) (by first | exact Nat.le_of_ble_eq_true rfl | omega | (dsimp only; omega)) (by first | exact Nat.le_of_ble_eq_true rfl | omega | (dsimp only; omega)) (by first | exact Nat.le_of_ble_eq_true rfl | omega | (dsimp only; omega)) (by first | exact Nat.le_of_ble_eq_true rfl | omega | (dsimp only; omega)) ?_ (fun σ5 h9 => ?_)
      · exact fun E σ5 hx => VX_out hG (by first | exact Nat.le_of_ble_eq_true rfl | omega | (dsimp only; omega)) (by first | exact Nat.le_of_ble_eq_true rfl | omega | (dsimp only; omega)) hx
      · replace h := h9
        clear h9
        obtain ⟨u6, he, h⟩ := h
        subst he
        obtain ⟨ha, j7, hi, hj, h⟩ := h
        refine V_aastv hG dX9_init_59 ha hi hj ?_
        refine V_iincv (c := 1) hG dX9_init_60 rfl (by decide) (hpV rfl rfl) ?_
        refine V_goto (tgt := 37) hG dX9_init_63 (by decide) ?_
        refine V_forget (lo' := [some (.ref this), some (.int (v1 + 1))]) ⟨rfl, ⟨rfl, trivial⟩⟩ ?_
        refine V_widen (k' := k + 3) (n' := n + 21) (by first | exact Nat.le_of_ble_eq_true rfl | omega | (dsimp only; omega)) (by first | exact Nat.le_of_ble_eq_true rfl | omega | (dsimp only; omega)) ?_
        exact ih _ _ (by omega) (by omega) _ _ _ h
def wp_X9_init (this : Nat) (σ : Sg) (Post : Rs → Sg → Prop) : Prop := ∃ u1, sX σ u1 = false ∧ aty (u1 % 32) = some (.object "Millrace$Kind") ∧ aln u1 = 12 ∧ this % 32 = 9 ∧ ∃ u2, sX (wP (wN σ u1) this 0 (some u1)) u2 = false ∧ u2 % 32 = 1 ∧ wp_X1_init u2 (wN (wP (wN σ u1) this 0 (some u1)) u2) (KV (fun σ3 => this % 32 = 9 ∧ this % 32 = 9 ∧ ∀ o4, o4 = sP (wP σ3 this 1 (some u2)) this 1 → ∃ u5, o4 = some u5 ∧ u5 % 32 = 1 ∧ ∀ o6, o6 = sP (wP σ3 this 1 (some u2)) u5 0 → this % 32 = 9 ∧ (wp_X9_init_37 13 this (0 : Int32) (wP (wP σ3 this 1 (some u2)) this 2 o6) Post)) (fun E σ3 => Post (.inr E) σ3))
set_option maxRecDepth 100000 in
set_option maxHeartbeats 4000000 in
theorem ct_X9_init {l : Launch} (hl : l.stackTraces = false) {this : Nat} {σ : Sg} {Post : Rs → Sg → Prop} (h : wp_X9_init this σ Post) : Ct l yX9_init (.code yX9_init cX9_init 2 none) 3 53 47 383 [.ref this] σ Post := by
  refine Ct_of [some (.ref this), none] hl (by decide +kernel) rfl (fun ad => by rfl) (fun ad => by exact Nat.le_of_ble_eq_true rfl) (fun v hv => mem_lo hv rfl) ?_
  intro G hG
  unfold wp_X9_init at h
  refine V_aload_n (v := .ref this) hG dX9_init_0 rfl rfl ?_
  refine V_objInit hG dX9_init_1 ml_X9_1 oi_1 oi_2 (Nat.le_of_ble_eq_true rfl) (by first | exact Nat.le_of_ble_eq_true rfl | (simp only [List.map_cons, List.map_nil, List.sum_cons, List.sum_nil, cat_rf]; exact Nat.le_of_ble_eq_true rfl)) ?_
  refine V_aload_n (v := .ref this) hG dX9_init_4 rfl rfl ?_
  refine V_bipush (v := 12) hG (by decide) dX9_init_5 ?_
  obtain ⟨u1, hu, hy, hn, h⟩ := h
  refine V_anewn (N := 12) hG dX9_init_7 hu hy cl_X9_9 (by decide) hn rfl (Nat.le_of_ble_eq_true rfl) (Nat.le_of_ble_eq_true rfl) ?_
  obtain ⟨ht, h⟩ := h
  refine V_putS hG dX9_init_10 fl_X9_11 rfl (by decide +kernel) ht ?_
  refine V_aload_n (v := .ref this) hG dX9_init_13 rfl rfl ?_
  obtain ⟨u2, hu, ht, h⟩ := h
  refine V_newn (N := 7) hG dX9_init_14 hu ht rfl rfl cl_X9_15 ins_X1 ini_X1 (Nat.le_of_ble_eq_true rfl) (Nat.le_of_ble_eq_true rfl) ?_
  refine V_dup (v := .ref u2) hG rfl dX9_init_17 ?_
  refine V_cNV _ _ hG dX9_init_18 (ct_X1_init hl h) mv_X1_init rfl rfl rfl (by first | exact Nat.le_of_ble_eq_true rfl | (simp only [List.map_cons, List.map_nil, List.sum_cons, List.sum_nil, cat_rf]; exact Nat.le_of_ble_eq_true rfl)) (Nat.le_of_ble_eq_true rfl) (Nat.le_of_ble_eq_true rfl) (by first | exact Nat.le_of_ble_eq_true rfl | omega | (dsimp only; omega)) (by first | exact Nat.le_of_ble_eq_true rfl | omega | (dsimp only; omega)) ?_ (fun σ3 h9 => ?_)
  · exact fun E σ3 hx => VX_out hG (by first | exact Nat.le_of_ble_eq_true rfl | omega | (dsimp only; omega)) (by first | exact Nat.le_of_ble_eq_true rfl | omega | (dsimp only; omega)) hx
  · replace h := h9
    clear h9
    obtain ⟨ht, h⟩ := h
    refine V_putS hG dX9_init_21 fl_X9_18 rfl (by decide +kernel) ht ?_
    refine V_aload_n (v := .ref this) hG dX9_init_24 rfl rfl ?_
    refine V_aload_n (v := .ref this) hG dX9_init_25 rfl rfl ?_
    obtain ⟨ht, h⟩ := h
    refine V_getPv hG dX9_init_26 fl_X9_18 rfl ht (fun o4 ho => ?_)
    replace h := h o4 ho
    obtain ⟨u5, he, h⟩ := h
    subst he
    obtain ⟨ht, h⟩ := h
    refine V_getPv hG dX9_init_29 fl_X9_22 rfl ht (fun o6 ho => ?_)
    replace h := h o6 ho
    obtain ⟨ht, h⟩ := h
    refine V_putP (v := o6) hG dX9_init_32 fl_X9_26 rfl (by decide +kernel) ht ?_
    refine V_iconst (v := 0) hG (by decide) dX9_init_35 ?_
    refine V_istore_n hG dX9_init_36 (Nat.le_of_ble_eq_true rfl) (hpV rfl rfl) ?_
    refine V_forget (lo' := [some (.ref this), some (.int (0 : Int32))]) ⟨rfl, ⟨rfl, trivial⟩⟩ ?_
    exact wv_X9_init_37 hl hG  13 8 110 (by omega) (by omega) _ _ _ h
def wp_X9_requireIndex_9   (σ : Sg) (Post : Rs → Sg → Prop) : Prop := Post (.inr "java/lang/IndexOutOfBoundsException") σ
set_option maxRecDepth 100000 in
set_option maxHeartbeats 4000000 in
theorem wv_X9_requireIndex_9 {L9 : Launch} {G : Cx} {Post : Rs → Sg → Prop} (hl : L9.stackTraces = false) (hG : CX L9 G yX9_requireIndex cX9_requireIndex 2 none [] { frames := 6, cells := 1, slots := 6, locals := 82 })   : ∀  (σ : Sg), wp_X9_requireIndex_9  σ Post → V G (QM G 1 6 Post) 9 [none, none] [] σ 0 0 := by
  intro  σ h
  unfold wp_X9_requireIndex_9 at h
  exact V_throwW (ik := 331) (is := 333) (ic := 335) (text := "there is no such one") "java/lang/IndexOutOfBoundsException" hG dX9_requireIndex_9 dX9_requireIndex_12 dX9_requireIndex_13 dX9_requireIndex_16 dX9_requireIndex_19 (by decide) tw_X9_335_333_B.1 tw_X9_335_333_B.2.1 in_B tw_X9_335_333_B.2.2.1 tw_X9_335_333_B.2.2.2.1 tw_X9_335_333_B.2.2.2.2.1 tw_X9_335_333_B.2.2.2.2.2 (Nat.le_of_ble_eq_true rfl) (by first | exact Nat.le_of_ble_eq_true rfl | (simp only [List.map_cons, List.map_nil, List.sum_cons, List.sum_nil, cat_rf]; exact Nat.le_of_ble_eq_true rfl)) (Nat.le_of_ble_eq_true rfl) (Nat.le_of_ble_eq_true rfl) (Nat.le_of_ble_eq_true rfl) (Nat.le_of_ble_eq_true rfl) h
def wp_X9_requireIndex (a0 : Int32) (a1 : Int32) (σ : Sg) (Post : Rs → Sg → Prop) : Prop := ((a0 < 0 → (wp_X9_requireIndex_9 σ Post)) ∧ (¬ a0 < 0 → ((a0 < a1 → Post (.inl none) σ) ∧ (¬ a0 < a1 → (wp_X9_requireIndex_9 σ Post)))))
set_option maxRecDepth 100000 in
set_option maxHeartbeats 4000000 in
theorem ct_X9_requireIndex {l : Launch} (hl : l.stackTraces = false) {a0 : Int32} {a1 : Int32} {σ : Sg} {Post : Rs → Sg → Prop} (h : wp_X9_requireIndex a0 a1 σ Post) : Ct l yX9_requireIndex (.code yX9_requireIndex cX9_requireIndex 2 none) 6 82 1 6 [.int a0, .int a1] σ Post := by
  refine Ct_of [some (.int a0), some (.int a1)] hl (by decide +kernel) rfl (fun ad => by rfl) (fun ad => by exact Nat.le_of_ble_eq_true rfl) (fun v hv => mem_lo hv rfl) ?_
  intro G hG
  unfold wp_X9_requireIndex at h
  refine V_iload_n hG dX9_requireIndex_0 rfl ?_
  refine V_if_lt (tgt := 9) hG dX9_requireIndex_1 (by decide) (fun c => ?_) (fun c => ?_)
  · replace h := h.1 c
    refine V_forget (lo' := [none, none]) trivial ?_
    refine V_widen (k' := 0) (n' := 0) (by first | exact Nat.le_of_ble_eq_true rfl | omega | (dsimp only; omega)) (by first | exact Nat.le_of_ble_eq_true rfl | omega | (dsimp only; omega)) ?_
    exact wv_X9_requireIndex_9 hl hG  _ h
  · replace h := h.2 c
    refine V_iload_n hG dX9_requireIndex_4 rfl ?_
    refine V_iload_n hG dX9_requireIndex_5 rfl ?_
    refine V_icmp_lt (tgt := 20) hG dX9_requireIndex_6 (by decide) (fun c => ?_) (fun c => ?_)
    · replace h := h.1 c
      exact V_vret hG dX9_requireIndex_20 (by first | exact Nat.le_of_ble_eq_true rfl | omega | (dsimp only; omega)) (by first | exact Nat.le_of_ble_eq_true rfl | omega | (dsimp only; omega)) h
    · replace h := h.2 c
      refine V_forget (lo' := [none, none]) trivial ?_
      refine V_widen (k' := 0) (n' := 0) (by first | exact Nat.le_of_ble_eq_true rfl | omega | (dsimp only; omega)) (by first | exact Nat.le_of_ble_eq_true rfl | omega | (dsimp only; omega)) ?_
      exact wv_X9_requireIndex_9 hl hG  _ h
def wp_X9_kindAt (this : Nat) (a0 : Int32) (σ : Sg) (Post : Rs → Sg → Prop) : Prop := this % 32 = 9 ∧ ∀ o1, o1 = sP σ this 0 → ∃ u2, o1 = some u2 ∧ isArr u2 ∧ wp_X9_requireIndex a0 (nI (aln u2)) σ (KV (fun σ3 => this % 32 = 9 ∧ ∀ o4, o4 = sP σ3 this 0 → ∃ u5, o4 = some u5 ∧ isRow u5 ∧ ∃ j6, a0 = nI j6 ∧ j6 < aln u5 ∧ ∀ o7, o7 = sP σ3 u5 j6 → Post (.inl (some (va_rf o7))) σ3) (fun E σ3 => Post (.inr E) σ3))
set_option maxRecDepth 100000 in
set_option maxHeartbeats 4000000 in
theorem ct_X9_kindAt {l : Launch} (hl : l.stackTraces = false) {this : Nat} {a0 : Int32} {σ : Sg} {Post : Rs → Sg → Prop} (h : wp_X9_kindAt this a0 σ Post) : Ct l yX9_kindAt (.code yX9_kindAt cX9_kindAt 2 (some (.object "Millrace$Kind"))) 7 103 1 6 [.ref this, .int a0] σ Post := by
  refine Ct_of [some (.ref this), some (.int a0)] hl (by decide +kernel) rfl (fun ad => by rfl) (fun ad => by exact Nat.le_of_ble_eq_true rfl) (fun v hv => mem_lo hv rfl) ?_
  intro G hG
  unfold wp_X9_kindAt at h
  refine V_iload_n hG dX9_kindAt_0 rfl ?_
  refine V_aload_n (v := .ref this) hG dX9_kindAt_1 rfl rfl ?_
  obtain ⟨ht, h⟩ := h
  refine V_getPv hG dX9_kindAt_2 fl_X9_11 rfl ht (fun o1 ho => ?_)
  replace h := h o1 ho
  obtain ⟨u2, he, h⟩ := h
  subst he
  obtain ⟨ha, h⟩ := h
  refine V_alenv hG dX9_kindAt_5 ha ?_
  refine V_cSV _ _ hG dX9_kindAt_6 (ct_X9_requireIndex hl h) mv_X9_requireIndex ml_X9_81 rfl rfl (by first | exact Nat.le_of_ble_eq_true rfl | (simp only [List.map_cons, List.map_nil, List.sum_cons, List.sum_nil, cat_rf]; exact Nat.le_of_ble_eq_true rfl)) (Nat.le_of_ble_eq_true rfl) (Nat.le_of_ble_eq_true rfl) (by first | exact Nat.le_of_ble_eq_true rfl | omega | (dsimp only; omega)) (by first | exact Nat.le_of_ble_eq_true rfl | omega | (dsimp only; omega)) ?_ (fun σ3 h9 => ?_)
  · exact fun E σ3 hx => VX_out hG (by first | exact Nat.le_of_ble_eq_true rfl | omega | (dsimp only; omega)) (by first | exact Nat.le_of_ble_eq_true rfl | omega | (dsimp only; omega)) hx
  · replace h := h9
    clear h9
    refine V_aload_n (v := .ref this) hG dX9_kindAt_9 rfl rfl ?_
    obtain ⟨ht, h⟩ := h
    refine V_getPv hG dX9_kindAt_10 fl_X9_11 rfl ht (fun o4 ho => ?_)
    replace h := h o4 ho
    refine V_iload_n hG dX9_kindAt_13 rfl ?_
    obtain ⟨u5, he, h⟩ := h
    subst he
    obtain ⟨ha, j6, hi, hj, h⟩ := h
    refine V_aaldv hG dX9_kindAt_14 ha hi hj (fun o7 ho => ?_)
    replace h := h o7 ho
    exact V_aret (v := va_rf o7) hG dX9_kindAt_15 (isRef_rf _) (by first | exact Nat.le_of_ble_eq_true rfl | omega | (dsimp only; omega)) (by first | exact Nat.le_of_ble_eq_true rfl | omega | (dsimp only; omega)) h
def wp_X9_requireArgument (a0 : Int32) (σ : Sg) (Post : Rs → Sg → Prop) : Prop := ((¬ a0 = 0 → Post (.inl none) σ) ∧ (a0 = 0 → Post (.inr "java/lang/IllegalArgumentException") σ))
set_option maxRecDepth 100000 in
set_option maxHeartbeats 4000000 in
theorem ct_X9_requireArgument {l : Launch} (hl : l.stackTraces = false) {a0 : Int32} {σ : Sg} {Post : Rs → Sg → Prop} (h : wp_X9_requireArgument a0 σ Post) : Ct l yX9_requireArgument (.code yX9_requireArgument cX9_requireArgument 1 none) 6 82 1 6 [.int a0] σ Post := by
  refine Ct_of [some (.int a0)] hl (by decide +kernel) rfl (fun ad => by rfl) (fun ad => by exact Nat.le_of_ble_eq_true rfl) (fun v hv => mem_lo hv rfl) ?_
  intro G hG
  unfold wp_X9_requireArgument at h
  refine V_iload_n hG dX9_requireArgument_0 rfl ?_
  refine V_if_ne (tgt := 15) hG dX9_requireArgument_1 (by decide) (fun c => ?_) (fun c => ?_)
  · replace h := h.1 c
    exact V_vret hG dX9_requireArgument_15 (by first | exact Nat.le_of_ble_eq_true rfl | omega | (dsimp only; omega)) (by first | exact Nat.le_of_ble_eq_true rfl | omega | (dsimp only; omega)) h
  · replace h := h.2 c
    exact V_throwW (ik := 338) (is := 340) (ic := 342) (text := "an argument is out of range") "java/lang/IllegalArgumentException" hG dX9_requireArgument_4 dX9_requireArgument_7 dX9_requireArgument_8 dX9_requireArgument_11 dX9_requireArgument_14 (by decide) tw_X9_342_340_A.1 tw_X9_342_340_A.2.1 in_A tw_X9_342_340_A.2.2.1 tw_X9_342_340_A.2.2.2.1 tw_X9_342_340_A.2.2.2.2.1 tw_X9_342_340_A.2.2.2.2.2 (Nat.le_of_ble_eq_true rfl) (by first | exact Nat.le_of_ble_eq_true rfl | (simp only [List.map_cons, List.map_nil, List.sum_cons, List.sum_nil, cat_rf]; exact Nat.le_of_ble_eq_true rfl)) (Nat.le_of_ble_eq_true rfl) (Nat.le_of_ble_eq_true rfl) (Nat.le_of_ble_eq_true rfl) (Nat.le_of_ble_eq_true rfl) h
def wp_X9_requireRange_15  (s0 : Int32) (σ : Sg) (Post : Rs → Sg → Prop) : Prop := wp_X9_requireArgument s0 σ (KV (fun σ1 => Post (.inl none) σ1) (fun E σ1 => Post (.inr E) σ1))
set_option maxRecDepth 100000 in
set_option maxHeartbeats 4000000 in
theorem wv_X9_requireRange_15 {L9 : Launch} {G : Cx} {Post : Rs → Sg → Prop} (hl : L9.stackTraces = false) (hG : CX L9 G yX9_requireRange cX9_requireRange 3 none [] { frames := 7, cells := 1, slots := 6, locals := 102 })   : ∀ (s0 : Int32) (σ : Sg), wp_X9_requireRange_15 s0 σ Post → V G (QM G 1 6 Post) 15 [none, none, none] [.int s0] σ 0 0 := by
  intro s0 σ h
  unfold wp_X9_requireRange_15 at h
  refine V_cSV _ _ hG dX9_requireRange_15 (ct_X9_requireArgument hl h) mv_X9_requireArgument ml_X9_65 rfl rfl (by first | exact Nat.le_of_ble_eq_true rfl | (simp only [List.map_cons, List.map_nil, List.sum_cons, List.sum_nil, cat_rf]; exact Nat.le_of_ble_eq_true rfl)) (Nat.le_of_ble_eq_true rfl) (Nat.le_of_ble_eq_true rfl) (by first | exact Nat.le_of_ble_eq_true rfl | omega | (dsimp only; omega)) (by first | exact Nat.le_of_ble_eq_true rfl | omega | (dsimp only; omega)) ?_ (fun σ1 h9 => ?_)
  · exact fun E σ1 hx => VX_out hG (by first | exact Nat.le_of_ble_eq_true rfl | omega | (dsimp only; omega)) (by first | exact Nat.le_of_ble_eq_true rfl | omega | (dsimp only; omega)) hx
  · replace h := h9
    clear h9
    exact V_vret hG dX9_requireRange_18 (by first | exact Nat.le_of_ble_eq_true rfl | omega | (dsimp only; omega)) (by first | exact Nat.le_of_ble_eq_true rfl | omega | (dsimp only; omega)) h
def wp_X9_requireRange_14   (σ : Sg) (Post : Rs → Sg → Prop) : Prop := (wp_X9_requireRange_15 (0 : Int32) σ Post)
set_option maxRecDepth 100000 in
set_option maxHeartbeats 4000000 in
theorem wv_X9_requireRange_14 {L9 : Launch} {G : Cx} {Post : Rs → Sg → Prop} (hl : L9.stackTraces = false) (hG : CX L9 G yX9_requireRange cX9_requireRange 3 none [] { frames := 7, cells := 1, slots := 6, locals := 102 })   : ∀  (σ : Sg), wp_X9_requireRange_14  σ Post → V G (QM G 1 6 Post) 14 [none, none, none] [] σ 0 0 := by
  intro  σ h
  unfold wp_X9_requireRange_14 at h
  refine V_iconst (v := 0) hG (by decide) dX9_requireRange_14 ?_
  refine V_forget (lo' := [none, none, none]) trivial ?_
  refine V_widen (k' := 0) (n' := 0) (by first | exact Nat.le_of_ble_eq_true rfl | omega | (dsimp only; omega)) (by first | exact Nat.le_of_ble_eq_true rfl | omega | (dsimp only; omega)) ?_
  exact wv_X9_requireRange_15 hl hG  _ _ h
def wp_X9_requireRange (a0 : Int32) (a1 : Int32) (a2 : Int32) (σ : Sg) (Post : Rs → Sg → Prop) : Prop := ((a0 < a1 → (wp_X9_requireRange_14 σ Post)) ∧ (¬ a0 < a1 → ((a2 < a0 → (wp_X9_requireRange_14 σ Post)) ∧ (¬ a2 < a0 → (wp_X9_requireRange_15 (1 : Int32) σ Post)))))
set_option maxRecDepth 100000 in
set_option maxHeartbeats 4000000 in
theorem ct_X9_requireRange {l : Launch} (hl : l.stackTraces = false) {a0 : Int32} {a1 : Int32} {a2 : Int32} {σ : Sg} {Post : Rs → Sg → Prop} (h : wp_X9_requireRange a0 a1 a2 σ Post) : Ct l yX9_requireRange (.code yX9_requireRange cX9_requireRange 3 none) 7 102 1 6 [.int a0, .int a1, .int a2] σ Post := by
  refine Ct_of [some (.int a0), some (.int a1), some (.int a2)] hl (by decide +kernel) rfl (fun ad => by rfl) (fun ad => by exact Nat.le_of_ble_eq_true rfl) (fun v hv => mem_lo hv rfl) ?_
  intro G hG
  unfold wp_X9_requireRange at h
  refine V_iload_n hG dX9_requireRange_0 rfl ?_
  refine V_iload_n hG dX9_requireRange_1 rfl ?_
  refine V_icmp_lt (tgt := 14) hG dX9_requireRange_2 (by decide) (fun c => ?_) (fun c => ?_)
  · replace h := h.1 c
    refine V_forget (lo' := [none, none, none]) trivial ?_
    refine V_widen (k' := 0) (n' := 0) (by first | exact Nat.le_of_ble_eq_true rfl | omega | (dsimp only; omega)) (by first | exact Nat.le_of_ble_eq_true rfl | omega | (dsimp only; omega)) ?_
    exact wv_X9_requireRange_14 hl hG  _ h
  · replace h := h.2 c
    refine V_iload_n hG dX9_requireRange_5 rfl ?_
    refine V_iload_n hG dX9_requireRange_6 rfl ?_
    refine V_icmp_gt (tgt := 14) hG dX9_requireRange_7 (by decide) (fun c => ?_) (fun c => ?_)
    · replace h := h.1 c
      refine V_forget (lo' := [none, none, none]) trivial ?_
      refine V_widen (k' := 0) (n' := 0) (by first | exact Nat.le_of_ble_eq_true rfl | omega | (dsimp only; omega)) (by first | exact Nat.le_of_ble_eq_true rfl | omega | (dsimp only; omega)) ?_
      exact wv_X9_requireRange_14 hl hG  _ h
    · replace h := h.2 c
      refine V_iconst (v := 1) hG (by decide) dX9_requireRange_10 ?_
      refine V_goto (tgt := 15) hG dX9_requireRange_11 (by decide) ?_
      refine V_forget (lo' := [none, none, none]) trivial ?_
      refine V_widen (k' := 0) (n' := 0) (by first | exact Nat.le_of_ble_eq_true rfl | omega | (dsimp only; omega)) (by first | exact Nat.le_of_ble_eq_true rfl | omega | (dsimp only; omega)) ?_
      exact wv_X9_requireRange_15 hl hG  _ _ h
def wp_X9_requireState (a0 : Int32) (σ : Sg) (Post : Rs → Sg → Prop) : Prop := ((¬ a0 = 0 → Post (.inl none) σ) ∧ (a0 = 0 → Post (.inr "java/lang/IllegalStateException") σ))
set_option maxRecDepth 100000 in
set_option maxHeartbeats 4000000 in
theorem ct_X9_requireState {l : Launch} (hl : l.stackTraces = false) {a0 : Int32} {σ : Sg} {Post : Rs → Sg → Prop} (h : wp_X9_requireState a0 σ Post) : Ct l yX9_requireState (.code yX9_requireState cX9_requireState 1 none) 6 82 1 6 [.int a0] σ Post := by
  refine Ct_of [some (.int a0)] hl (by decide +kernel) rfl (fun ad => by rfl) (fun ad => by exact Nat.le_of_ble_eq_true rfl) (fun v hv => mem_lo hv rfl) ?_
  intro G hG
  unfold wp_X9_requireState at h
  refine V_iload_n hG dX9_requireState_0 rfl ?_
  refine V_if_ne (tgt := 15) hG dX9_requireState_1 (by decide) (fun c => ?_) (fun c => ?_)
  · replace h := h.1 c
    exact V_vret hG dX9_requireState_15 (by first | exact Nat.le_of_ble_eq_true rfl | omega | (dsimp only; omega)) (by first | exact Nat.le_of_ble_eq_true rfl | omega | (dsimp only; omega)) h
  · replace h := h.2 c
    exact V_throwW (ik := 343) (is := 345) (ic := 347) (text := "this cannot be done now") "java/lang/IllegalStateException" hG dX9_requireState_4 dX9_requireState_7 dX9_requireState_8 dX9_requireState_11 dX9_requireState_14 (by decide) tw_X9_347_345_S.1 tw_X9_347_345_S.2.1 in_S tw_X9_347_345_S.2.2.1 tw_X9_347_345_S.2.2.2.1 tw_X9_347_345_S.2.2.2.2.1 tw_X9_347_345_S.2.2.2.2.2 (Nat.le_of_ble_eq_true rfl) (by first | exact Nat.le_of_ble_eq_true rfl | (simp only [List.map_cons, List.map_nil, List.sum_cons, List.sum_nil, cat_rf]; exact Nat.le_of_ble_eq_true rfl)) (Nat.le_of_ble_eq_true rfl) (Nat.le_of_ble_eq_true rfl) (Nat.le_of_ble_eq_true rfl) (Nat.le_of_ble_eq_true rfl) h
def wp_X9_setBought_50  (v2 : Int32) (v3 : Int32) (v4 : Nat) (s0 : Int32) (σ : Sg) (Post : Rs → Sg → Prop) : Prop := wp_X9_requireState s0 σ (KV (fun σ1 => v4 % 32 = 2 ∧ b01 (1 : Int32) ∧ v4 % 32 = 2 ∧ v4 % 32 = 2 ∧ Post (.inl none) (wI (wI (wI σ1 v4 1 (1 : Int32)) v4 2 v2) v4 3 v3)) (fun E σ1 => Post (.inr E) σ1))
set_option maxRecDepth 100000 in
set_option maxHeartbeats 4000000 in
theorem wv_X9_setBought_50 {L9 : Launch} {G : Cx} {Post : Rs → Sg → Prop} (hl : L9.stackTraces = false) (hG : CX L9 G yX9_setBought cX9_setBought 5 none [] { frames := 8, cells := 4, slots := 24, locals := 124 })   : ∀ (v2 : Int32) (v3 : Int32) (v4 : Nat) (s0 : Int32) (σ : Sg), wp_X9_setBought_50 v2 v3 v4 s0 σ Post → V G (QM G 4 24 Post) 50 [none, none, some (.int v2), some (.int v3), some (.ref v4)] [.int s0] σ 3 18 := by
  intro v2 v3 v4 s0 σ h
  unfold wp_X9_setBought_50 at h
  refine V_cSV _ _ hG dX9_setBought_50 (ct_X9_requireState hl h) mv_X9_requireState ml_X9_49 rfl rfl (by first | exact Nat.le_of_ble_eq_true rfl | (simp only [List.map_cons, List.map_nil, List.sum_cons, List.sum_nil, cat_rf]; exact Nat.le_of_ble_eq_true rfl)) (Nat.le_of_ble_eq_true rfl) (Nat.le_of_ble_eq_true rfl) (by first | exact Nat.le_of_ble_eq_true rfl | omega | (dsimp only; omega)) (by first | exact Nat.le_of_ble_eq_true rfl | omega | (dsimp only; omega)) ?_ (fun σ1 h9 => ?_)
  · exact fun E σ1 hx => VX_out hG (by first | exact Nat.le_of_ble_eq_true rfl | omega | (dsimp only; omega)) (by first | exact Nat.le_of_ble_eq_true rfl | omega | (dsimp only; omega)) hx
  · replace h := h9
    clear h9
    refine V_aload (v := .ref v4) hG dX9_setBought_53 rfl rfl ?_
    refine V_iconst (v := 1) hG (by decide) dX9_setBought_55 ?_
    obtain ⟨ht, h⟩ := h
    obtain ⟨hb, h⟩ := h
    refine V_putI hG dX9_setBought_56 fl_X9_53 rfl (fun _ => hb) rfl ht ?_
    refine V_aload (v := .ref v4) hG dX9_setBought_59 rfl rfl ?_
    refine V_iload_n hG dX9_setBought_61 rfl ?_
    obtain ⟨ht, h⟩ := h
    refine V_putI hG dX9_setBought_62 fl_X9_56 rfl (fun e => absurd e (by decide)) rfl ht ?_
    refine V_aload (v := .ref v4) hG dX9_setBought_65 rfl rfl ?_
    refine V_iload_n hG dX9_setBought_67 rfl ?_
    obtain ⟨ht, h⟩ := h
    refine V_putI hG dX9_setBought_68 fl_X9_59 rfl (fun e => absurd e (by decide)) rfl ht ?_
    exact V_vret hG dX9_setBought_71 (by first | exact Nat.le_of_ble_eq_true rfl | omega | (dsimp only; omega)) (by first | exact Nat.le_of_ble_eq_true rfl | omega | (dsimp only; omega)) h
def wp_X9_setBought_49  (v2 : Int32) (v3 : Int32) (v4 : Nat) (σ : Sg) (Post : Rs → Sg → Prop) : Prop := (wp_X9_setBought_50 v2 v3 v4 (0 : Int32) σ Post)
set_option maxRecDepth 100000 in
set_option maxHeartbeats 4000000 in
theorem wv_X9_setBought_49 {L9 : Launch} {G : Cx} {Post : Rs → Sg → Prop} (hl : L9.stackTraces = false) (hG : CX L9 G yX9_setBought cX9_setBought 5 none [] { frames := 8, cells := 4, slots := 24, locals := 124 })   : ∀ (v2 : Int32) (v3 : Int32) (v4 : Nat) (σ : Sg), wp_X9_setBought_49 v2 v3 v4 σ Post → V G (QM G 4 24 Post) 49 [none, none, some (.int v2), some (.int v3), some (.ref v4)] [] σ 3 18 := by
  intro v2 v3 v4 σ h
  unfold wp_X9_setBought_49 at h
  refine V_iconst (v := 0) hG (by decide) dX9_setBought_49 ?_
  refine V_forget (lo' := [none, none, some (.int v2), some (.int v3), some (.ref v4)]) ⟨rfl, ⟨rfl, ⟨rfl, trivial⟩⟩⟩ ?_
  refine V_widen (k' := 3) (n' := 18) (by first | exact Nat.le_of_ble_eq_true rfl | omega | (dsimp only; omega)) (by first | exact Nat.le_of_ble_eq_true rfl | omega | (dsimp only; omega)) ?_
  exact wv_X9_setBought_50 hl hG  _ _ _ _ _ h
def wp_X9_setBought (this : Nat) (a0 : Int32) (a1 : Int32) (a2 : Int32) (σ : Sg) (Post : Rs → Sg → Prop) : Prop := this % 32 = 9 ∧ wp_X9_kindAt this a0 σ (KO (fun x2 σ1 => wp_X9_requireRange a1 (1 : Int32) (99 : Int32) σ1 (KV (fun σ3 => wp_X9_requireRange a2 (0 : Int32) (30 : Int32) σ3 (KV (fun σ4 => ∃ u5, x2 = some u5 ∧ u5 % 32 = 2 ∧ ((¬ (sI σ4 u5 9) = 0 → (wp_X9_setBought_49 a1 a2 u5 σ4 Post)) ∧ ((sI σ4 u5 9) = 0 → u5 % 32 = 2 ∧ ((¬ (sI σ4 u5 5) = 0 → (wp_X9_setBought_49 a1 a2 u5 σ4 Post)) ∧ ((sI σ4 u5 5) = 0 → u5 % 32 = 2 ∧ ((¬ (sI σ4 u5 7) = 0 → (wp_X9_setBought_49 a1 a2 u5 σ4 Post)) ∧ ((sI σ4 u5 7) = 0 → (wp_X9_setBought_50 a1 a2 u5 (1 : Int32) σ4 Post)))))))) (fun E σ4 => Post (.inr E) σ4))) (fun E σ3 => Post (.inr E) σ3))) (fun E σ1 => Post (.inr E) σ1))
set_option maxRecDepth 100000 in
set_option maxHeartbeats 4000000 in
theorem ct_X9_setBought {l : Launch} (hl : l.stackTraces = false) {this : Nat} {a0 : Int32} {a1 : Int32} {a2 : Int32} {σ : Sg} {Post : Rs → Sg → Prop} (h : wp_X9_setBought this a0 a1 a2 σ Post) : Ct l yX9_setBought (.code yX9_setBought cX9_setBought 5 none) 8 124 4 24 [.ref this, .int a0, .int a1, .int a2] σ Post := by
  refine Ct_of [some (.ref this), some (.int a0), some (.int a1), some (.int a2), none] hl (by decide +kernel) rfl (fun ad => by rfl) (fun ad => by exact Nat.le_of_ble_eq_true rfl) (fun v hv => mem_lo hv rfl) ?_
  intro G hG
  unfold wp_X9_setBought at h
  refine V_aload_n (v := .ref this) hG dX9_setBought_0 rfl rfl ?_
  refine V_iload_n hG dX9_setBought_1 rfl ?_
  obtain ⟨ht, h⟩ := h
  refine V_cVO _ _ hG dX9_setBought_2 (ct_X9_kindAt hl h) mv_X9_kindAt ml_X9_30 ht rfl rfl rfl rfl (by first | exact Nat.le_of_ble_eq_true rfl | (simp only [List.map_cons, List.map_nil, List.sum_cons, List.sum_nil, cat_rf]; exact Nat.le_of_ble_eq_true rfl)) (Nat.le_of_ble_eq_true rfl) (Nat.le_of_ble_eq_true rfl) (by first | exact Nat.le_of_ble_eq_true rfl | omega | (dsimp only; omega)) (by first | exact Nat.le_of_ble_eq_true rfl | omega | (dsimp only; omega)) ?_ (fun x2 σ1 h9 => ?_)
  · exact fun E σ1 hx => VX_out hG (by first | exact Nat.le_of_ble_eq_true rfl | omega | (dsimp only; omega)) (by first | exact Nat.le_of_ble_eq_true rfl | omega | (dsimp only; omega)) hx
  · replace h := h9
    clear h9
    refine V_astore hG dX9_setBought_5 (isRef_rf _) (Nat.le_of_ble_eq_true rfl) (hpV rfl rfl) ?_
    refine V_iload_n hG dX9_setBought_7 rfl ?_
    refine V_iconst (v := 1) hG (by decide) dX9_setBought_8 ?_
    refine V_bipush (v := 99) hG (by decide) dX9_setBought_9 ?_
    refine V_cSV _ _ hG dX9_setBought_11 (ct_X9_requireRange hl h) mv_X9_requireRange ml_X9_34 rfl rfl (by first | exact Nat.le_of_ble_eq_true rfl | (simp only [List.map_cons, List.map_nil, List.sum_cons, List.sum_nil, cat_rf]; exact Nat.le_of_ble_eq_true rfl)) (Nat.le_of_ble_eq_true rfl) (Nat.le_of_ble_eq_true rfl) (by first | exact Nat.le_of_ble_eq_true rfl | omega | (dsimp only; omega)) (by first | exact Nat.le_of_ble_eq_true rfl | omega | (dsimp only; omega)) ?_ (fun σ3 h9 => ?_)
    · exact fun E σ3 hx => VX_out hG (by first | exact Nat.le_of_ble_eq_true rfl | omega | (dsimp only; omega)) (by first | exact Nat.le_of_ble_eq_true rfl | omega | (dsimp only; omega)) hx
    · replace h := h9
      clear h9
      refine V_iload_n hG dX9_setBought_14 rfl ?_
      refine V_iconst (v := 0) hG (by decide) dX9_setBought_15 ?_
      refine V_bipush (v := 30) hG (by decide) dX9_setBought_16 ?_
      refine V_cSV _ _ hG dX9_setBought_18 (ct_X9_requireRange hl h) mv_X9_requireRange ml_X9_34 rfl rfl (by first | exact Nat.le_of_ble_eq_true rfl | (simp only [List.map_cons, List.map_nil, List.sum_cons, List.sum_nil, cat_rf]; exact Nat.le_of_ble_eq_true rfl)) (Nat.le_of_ble_eq_true rfl) (Nat.le_of_ble_eq_true rfl) (by first | exact Nat.le_of_ble_eq_true rfl | omega | (dsimp only; omega)) (by first | exact Nat.le_of_ble_eq_true rfl | omega | (dsimp only; omega)) ?_ (fun σ4 h9 => ?_)
      · exact fun E σ4 hx => VX_out hG (by first | exact Nat.le_of_ble_eq_true rfl | omega | (dsimp only; omega)) (by first | exact Nat.le_of_ble_eq_true rfl | omega | (dsimp only; omega)) hx
      · replace h := h9
        clear h9
        refine V_aload (v := va_rf x2) hG dX9_setBought_21 (isRef_rf _) rfl ?_
        obtain ⟨u5, he, h⟩ := h
        subst he
        obtain ⟨ht, h⟩ := h
        refine V_getI hG dX9_setBought_23 fl_X9_38 rfl ht ?_
        refine V_if_ne (tgt := 49) hG dX9_setBought_26 (by decide) (fun c => ?_) (fun c => ?_)
        · replace h := h.1 c
          refine V_forget (lo' := [none, none, some (.int a1), some (.int a2), some (.ref u5)]) ⟨rfl, ⟨rfl, ⟨rfl, trivial⟩⟩⟩ ?_
          refine V_widen (k' := 3) (n' := 18) (by first | exact Nat.le_of_ble_eq_true rfl | omega | (dsimp only; omega)) (by first | exact Nat.le_of_ble_eq_true rfl | omega | (dsimp only; omega)) ?_
          exact wv_X9_setBought_49 hl hG  _ _ _ _ h
        · replace h := h.2 c
          refine V_aload (v := .ref u5) hG dX9_setBought_29 rfl rfl ?_
          obtain ⟨ht, h⟩ := h
          refine V_getI hG dX9_setBought_31 fl_X9_42 rfl ht ?_
          refine V_if_ne (tgt := 49) hG dX9_setBought_34 (by decide) (fun c => ?_) (fun c => ?_)
          · replace h := h.1 c
            refine V_forget (lo' := [none, none, some (.int a1), some (.int a2), some (.ref u5)]) ⟨rfl, ⟨rfl, ⟨rfl, trivial⟩⟩⟩ ?_
            refine V_widen (k' := 3) (n' := 18) (by first | exact Nat.le_of_ble_eq_true rfl | omega | (dsimp only; omega)) (by first | exact Nat.le_of_ble_eq_true rfl | omega | (dsimp only; omega)) ?_
            exact wv_X9_setBought_49 hl hG  _ _ _ _ h
          · replace h := h.2 c
            refine V_aload (v := .ref u5) hG dX9_setBought_37 rfl rfl ?_
            obtain ⟨ht, h⟩ := h
            refine V_getI hG dX9_setBought_39 fl_X9_46 rfl ht ?_
            refine V_if_ne (tgt := 49) hG dX9_setBought_42 (by decide) (fun c => ?_) (fun c => ?_)
            · replace h := h.1 c
              refine V_forget (lo' := [none, none, some (.int a1), some (.int a2), some (.ref u5)]) ⟨rfl, ⟨rfl, ⟨rfl, trivial⟩⟩⟩ ?_
              refine V_widen (k' := 3) (n' := 18) (by first | exact Nat.le_of_ble_eq_true rfl | omega | (dsimp only; omega)) (by first | exact Nat.le_of_ble_eq_true rfl | omega | (dsimp only; omega)) ?_
              exact wv_X9_setBought_49 hl hG  _ _ _ _ h
            · replace h := h.2 c
              refine V_iconst (v := 1) hG (by decide) dX9_setBought_45 ?_
              refine V_goto (tgt := 50) hG dX9_setBought_46 (by decide) ?_
              refine V_forget (lo' := [none, none, some (.int a1), some (.int a2), some (.ref u5)]) ⟨rfl, ⟨rfl, ⟨rfl, trivial⟩⟩⟩ ?_
              refine V_widen (k' := 3) (n' := 18) (by first | exact Nat.le_of_ble_eq_true rfl | omega | (dsimp only; omega)) (by first | exact Nat.le_of_ble_eq_true rfl | omega | (dsimp only; omega)) ?_
              exact wv_X9_setBought_50 hl hG  _ _ _ _ _ h
def wp_X9_kindOrNone (this : Nat) (a0 : Int32) (σ : Sg) (Post : Rs → Sg → Prop) : Prop := ((¬ a0 = (-1 : Int32) → this % 32 = 9 ∧ wp_X9_kindAt this a0 σ (KO (fun x2 σ1 => Post (.inl (some (va_rf x2))) σ1) (fun E σ1 => Post (.inr E) σ1))) ∧ (a0 = (-1 : Int32) → Post (.inl (some (.null))) σ))
set_option maxRecDepth 100000 in
set_option maxHeartbeats 4000000 in
theorem ct_X9_kindOrNone {l : Launch} (hl : l.stackTraces = false) {this : Nat} {a0 : Int32} {σ : Sg} {Post : Rs → Sg → Prop} (h : wp_X9_kindOrNone this a0 σ Post) : Ct l yX9_kindOrNone (.code yX9_kindOrNone cX9_kindOrNone 2 (some (.object "Millrace$Kind"))) 8 124 1 6 [.ref this, .int a0] σ Post := by
  refine Ct_of [some (.ref this), some (.int a0)] hl (by decide +kernel) rfl (fun ad => by rfl) (fun ad => by exact Nat.le_of_ble_eq_true rfl) (fun v hv => mem_lo hv rfl) ?_
  intro G hG
  unfold wp_X9_kindOrNone at h
  refine V_iload_n hG dX9_kindOrNone_0 rfl ?_
  refine V_iconst (v := (-1)) hG (by decide) dX9_kindOrNone_1 ?_
  refine V_icmp_ne (tgt := 9) hG dX9_kindOrNone_2 (by decide) (fun c => ?_) (fun c => ?_)
  · replace h := h.1 c
    refine V_aload_n (v := .ref this) hG dX9_kindOrNone_9 rfl rfl ?_
    refine V_iload_n hG dX9_kindOrNone_10 rfl ?_
    obtain ⟨ht, h⟩ := h
    refine V_cVO _ _ hG dX9_kindOrNone_11 (ct_X9_kindAt hl h) mv_X9_kindAt ml_X9_30 ht rfl rfl rfl rfl (by first | exact Nat.le_of_ble_eq_true rfl | (simp only [List.map_cons, List.map_nil, List.sum_cons, List.sum_nil, cat_rf]; exact Nat.le_of_ble_eq_true rfl)) (Nat.le_of_ble_eq_true rfl) (Nat.le_of_ble_eq_true rfl) (by first | exact Nat.le_of_ble_eq_true rfl | omega | (dsimp only; omega)) (by first | exact Nat.le_of_ble_eq_true rfl | omega | (dsimp only; omega)) ?_ (fun x2 σ1 h9 => ?_)
    · exact fun E σ1 hx => VX_out hG (by first | exact Nat.le_of_ble_eq_true rfl | omega | (dsimp only; omega)) (by first | exact Nat.le_of_ble_eq_true rfl | omega | (dsimp only; omega)) hx
    · replace h := h9
      clear h9
      exact V_aret (v := va_rf x2) hG dX9_kindOrNone_14 (isRef_rf _) (by first | exact Nat.le_of_ble_eq_true rfl | omega | (dsimp only; omega)) (by first | exact Nat.le_of_ble_eq_true rfl | omega | (dsimp only; omega)) h
  · replace h := h.2 c
    refine V_null hG dX9_kindOrNone_5 ?_
    refine V_goto (tgt := 14) hG dX9_kindOrNone_6 (by decide) ?_
    exact V_aret (v := .null) hG dX9_kindOrNone_14 rfl (by first | exact Nat.le_of_ble_eq_true rfl | omega | (dsimp only; omega)) (by first | exact Nat.le_of_ble_eq_true rfl | omega | (dsimp only; omega)) h
def wp_X9_addLine_44  (v3 : Int32) (v5 : Option Nat) (v6 : Option Nat) (v7 : Option Nat) (s0 : Int32) (σ : Sg) (Post : Rs → Sg → Prop) : Prop := wp_X9_requireArgument s0 σ (KV (fun σ1 => wp_X9_requireRange v3 (1 : Int32) (3 : Int32) σ1 (KV (fun σ2 => ∃ u3, v5 = some u3 ∧ u3 % 32 = 2 ∧ wp_X2_canBeMade u3 σ2 (KI (fun x5 σ4 => wp_X9_requireState x5 σ4 (KV (fun σ6 => ∃ u7, sX σ6 u7 = false ∧ u7 % 32 = 3 ∧ wp_X3_init u7 v6 v3 v7 (wN σ6 u7) (KV (fun σ8 => u3 % 32 = 2 ∧ wp_X2_putLine u3 (some u7) σ8 (KI (fun x10 σ9 => Post (.inl (some (.int x10))) σ9) (fun E σ9 => Post (.inr E) σ9))) (fun E σ8 => Post (.inr E) σ8))) (fun E σ6 => Post (.inr E) σ6))) (fun E σ4 => Post (.inr E) σ4))) (fun E σ2 => Post (.inr E) σ2))) (fun E σ1 => Post (.inr E) σ1))
set_option maxRecDepth 100000 in
set_option maxHeartbeats 4000000 in
theorem wv_X9_addLine_44 {L9 : Launch} {G : Cx} {Post : Rs → Sg → Prop} (hl : L9.stackTraces = false) (hG : CX L9 G yX9_addLine cX9_addLine 8 (some .int) [] { frames := 9, cells := 8, slots := 45, locals := 145 })   : ∀ (v3 : Int32) (v5 : Option Nat) (v6 : Option Nat) (v7 : Option Nat) (s0 : Int32) (σ : Sg), wp_X9_addLine_44 v3 v5 v6 v7 s0 σ Post → V G (QM G 8 45 Post) 44 [none, none, none, some (.int v3), none, some (va_rf v5), some (va_rf v6), some (va_rf v7)] [.int s0] σ 3 18 := by
  intro v3 v5 v6 v7 s0 σ h
  unfold wp_X9_addLine_44 at h
  refine V_cSV _ _ hG dX9_addLine_44 (ct_X9_requireArgument hl h) mv_X9_requireArgument ml_X9_65 rfl rfl (by first | exact Nat.le_of_ble_eq_true rfl | (simp only [List.map_cons, List.map_nil, List.sum_cons, List.sum_nil, cat_rf]; exact Nat.le_of_ble_eq_true rfl)) (Nat.le_of_ble_eq_true rfl) (Nat.le_of_ble_eq_true rfl) (by first | exact Nat.le_of_ble_eq_true rfl | omega | (dsimp only; omega)) (by first | exact Nat.le_of_ble_eq_true rfl | omega | (dsimp only; omega)) ?_ (fun σ1 h9 => ?_)
  · exact fun E σ1 hx => VX_out hG (by first | exact Nat.le_of_ble_eq_true rfl | omega | (dsimp only; omega)) (by first | exact Nat.le_of_ble_eq_true rfl | omega | (dsimp only; omega)) hx
  · replace h := h9
    clear h9
    refine V_iload_n hG dX9_addLine_47 rfl ?_
    refine V_iconst (v := 1) hG (by decide) dX9_addLine_48 ?_
    refine V_iconst (v := 3) hG (by decide) dX9_addLine_49 ?_
    refine V_cSV _ _ hG dX9_addLine_50 (ct_X9_requireRange hl h) mv_X9_requireRange ml_X9_34 rfl rfl (by first | exact Nat.le_of_ble_eq_true rfl | (simp only [List.map_cons, List.map_nil, List.sum_cons, List.sum_nil, cat_rf]; exact Nat.le_of_ble_eq_true rfl)) (Nat.le_of_ble_eq_true rfl) (Nat.le_of_ble_eq_true rfl) (by first | exact Nat.le_of_ble_eq_true rfl | omega | (dsimp only; omega)) (by first | exact Nat.le_of_ble_eq_true rfl | omega | (dsimp only; omega)) ?_ (fun σ2 h9 => ?_)
    · exact fun E σ2 hx => VX_out hG (by first | exact Nat.le_of_ble_eq_true rfl | omega | (dsimp only; omega)) (by first | exact Nat.le_of_ble_eq_true rfl | omega | (dsimp only; omega)) hx
    · replace h := h9
      clear h9
      refine V_aload (v := va_rf v5) hG dX9_addLine_53 (isRef_rf _) rfl ?_
      obtain ⟨u3, he, h⟩ := h
      subst he
      obtain ⟨ht, h⟩ := h
      refine V_cVI _ _ hG dX9_addLine_55 (ct_X2_canBeMade hl h) mv_X2_canBeMade ml_X9_68 ht rfl rfl rfl rfl (by first | exact Nat.le_of_ble_eq_true rfl | (simp only [List.map_cons, List.map_nil, List.sum_cons, List.sum_nil, cat_rf]; exact Nat.le_of_ble_eq_true rfl)) (Nat.le_of_ble_eq_true rfl) (Nat.le_of_ble_eq_true rfl) (by first | exact Nat.le_of_ble_eq_true rfl | omega | (dsimp only; omega)) (by first | exact Nat.le_of_ble_eq_true rfl | omega | (dsimp only; omega)) ?_ (fun x5 σ4 h9 => ?_)
      · exact fun E σ4 hx => VX_out hG (by first | exact Nat.le_of_ble_eq_true rfl | omega | (dsimp only; omega)) (by first | exact Nat.le_of_ble_eq_true rfl | omega | (dsimp only; omega)) hx
      · replace h := h9
        clear h9
        refine V_cSV _ _ hG dX9_addLine_58 (ct_X9_requireState hl h) mv_X9_requireState ml_X9_49 rfl rfl (by first | exact Nat.le_of_ble_eq_true rfl | (simp only [List.map_cons, List.map_nil, List.sum_cons, List.sum_nil, cat_rf]; exact Nat.le_of_ble_eq_true rfl)) (Nat.le_of_ble_eq_true rfl) (Nat.le_of_ble_eq_true rfl) (by first | exact Nat.le_of_ble_eq_true rfl | omega | (dsimp only; omega)) (by first | exact Nat.le_of_ble_eq_true rfl | omega | (dsimp only; omega)) ?_ (fun σ6 h9 => ?_)
        · exact fun E σ6 hx => VX_out hG (by first | exact Nat.le_of_ble_eq_true rfl | omega | (dsimp only; omega)) (by first | exact Nat.le_of_ble_eq_true rfl | omega | (dsimp only; omega)) hx
        · replace h := h9
          clear h9
          refine V_aload (v := .ref u3) hG dX9_addLine_61 rfl rfl ?_
          obtain ⟨u7, hu, ht, h⟩ := h
          refine V_newn (N := 3) hG dX9_addLine_63 hu ht rfl rfl cl_X9_72 ins_X3 ini_X3 (Nat.le_of_ble_eq_true rfl) (Nat.le_of_ble_eq_true rfl) ?_
          refine V_dup (v := .ref u7) hG rfl dX9_addLine_66 ?_
          refine V_aload (v := va_rf v6) hG dX9_addLine_67 (isRef_rf _) rfl ?_
          refine V_iload_n hG dX9_addLine_69 rfl ?_
          refine V_aload (v := va_rf v7) hG dX9_addLine_70 (isRef_rf _) rfl ?_
          refine V_cIV _ _ hG dX9_addLine_72 (ct_X3_init hl h) mv_X3_init ml_X9_74 rfl rfl (by first | exact Nat.le_of_ble_eq_true rfl | (simp only [List.map_cons, List.map_nil, List.sum_cons, List.sum_nil, cat_rf]; exact Nat.le_of_ble_eq_true rfl)) (Nat.le_of_ble_eq_true rfl) (Nat.le_of_ble_eq_true rfl) (by first | exact Nat.le_of_ble_eq_true rfl | omega | (dsimp only; omega)) (by first | exact Nat.le_of_ble_eq_true rfl | omega | (dsimp only; omega)) ?_ (fun σ8 h9 => ?_)
          · exact fun E σ8 hx => VX_out hG (by first | exact Nat.le_of_ble_eq_true rfl | omega | (dsimp only; omega)) (by first | exact Nat.le_of_ble_eq_true rfl | omega | (dsimp only; omega)) hx
          · replace h := h9
            clear h9
            obtain ⟨ht, h⟩ := h
            refine V_cVI _ _ hG dX9_addLine_75 (ct_X2_putLine hl h) mv_X2_putLine ml_X9_77 ht rfl rfl rfl rfl (by first | exact Nat.le_of_ble_eq_true rfl | (simp only [List.map_cons, List.map_nil, List.sum_cons, List.sum_nil, cat_rf]; exact Nat.le_of_ble_eq_true rfl)) (Nat.le_of_ble_eq_true rfl) (Nat.le_of_ble_eq_true rfl) (by first | exact Nat.le_of_ble_eq_true rfl | omega | (dsimp only; omega)) (by first | exact Nat.le_of_ble_eq_true rfl | omega | (dsimp only; omega)) ?_ (fun x10 σ9 h9 => ?_)
            · exact fun E σ9 hx => VX_out hG (by first | exact Nat.le_of_ble_eq_true rfl | omega | (dsimp only; omega)) (by first | exact Nat.le_of_ble_eq_true rfl | omega | (dsimp only; omega)) hx
            · replace h := h9
              clear h9
              exact V_iret hG dX9_addLine_78 (by first | exact Nat.le_of_ble_eq_true rfl | omega | (dsimp only; omega)) (by first | exact Nat.le_of_ble_eq_true rfl | omega | (dsimp only; omega)) h
def wp_X9_addLine_43  (v3 : Int32) (v5 : Option Nat) (v6 : Option Nat) (v7 : Option Nat) (σ : Sg) (Post : Rs → Sg → Prop) : Prop := (wp_X9_addLine_44 v3 v5 v6 v7 (0 : Int32) σ Post)
set_option maxRecDepth 100000 in
set_option maxHeartbeats 4000000 in
theorem wv_X9_addLine_43 {L9 : Launch} {G : Cx} {Post : Rs → Sg → Prop} (hl : L9.stackTraces = false) (hG : CX L9 G yX9_addLine cX9_addLine 8 (some .int) [] { frames := 9, cells := 8, slots := 45, locals := 145 })   : ∀ (v3 : Int32) (v5 : Option Nat) (v6 : Option Nat) (v7 : Option Nat) (σ : Sg), wp_X9_addLine_43 v3 v5 v6 v7 σ Post → V G (QM G 8 45 Post) 43 [none, none, none, some (.int v3), none, some (va_rf v5), some (va_rf v6), some (va_rf v7)] [] σ 3 18 := by
  intro v3 v5 v6 v7 σ h
  unfold wp_X9_addLine_43 at h
  refine V_iconst (v := 0) hG (by decide) dX9_addLine_43 ?_
  refine V_forget (lo' := [none, none, none, some (.int v3), none, some (va_rf v5), some (va_rf v6), some (va_rf v7)]) ⟨rfl, ⟨rfl, ⟨rfl, ⟨rfl, trivial⟩⟩⟩⟩ ?_
  refine V_widen (k' := 3) (n' := 18) (by first | exact Nat.le_of_ble_eq_true rfl | omega | (dsimp only; omega)) (by first | exact Nat.le_of_ble_eq_true rfl | omega | (dsimp only; omega)) ?_
  exact wv_X9_addLine_44 hl hG  _ _ _ _ _ _ h
def wp_X9_addLine (this : Nat) (a0 : Int32) (a1 : Int32) (a2 : Int32) (a3 : Int32) (σ : Sg) (Post : Rs → Sg → Prop) : Prop := this % 32 = 9 ∧ wp_X9_kindAt this a0 σ (KO (fun x2 σ1 => this % 32 = 9 ∧ wp_X9_kindAt this a1 σ1 (KO (fun x4 σ3 => this % 32 = 9 ∧ wp_X9_kindOrNone this a3 σ3 (KO (fun x6 σ5 => ((a0 ≤ a1 → (wp_X9_addLine_43 a2 x2 x4 x6 σ5 Post)) ∧ (¬ a0 ≤ a1 → ((a0 ≤ a3 → (wp_X9_addLine_43 a2 x2 x4 x6 σ5 Post)) ∧ (¬ a0 ≤ a3 → ((a1 = a3 → (wp_X9_addLine_43 a2 x2 x4 x6 σ5 Post)) ∧ (¬ a1 = a3 → (wp_X9_addLine_44 a2 x2 x4 x6 (1 : Int32) σ5 Post)))))))) (fun E σ5 => Post (.inr E) σ5))) (fun E σ3 => Post (.inr E) σ3))) (fun E σ1 => Post (.inr E) σ1))
set_option maxRecDepth 100000 in
set_option maxHeartbeats 4000000 in
theorem ct_X9_addLine {l : Launch} (hl : l.stackTraces = false) {this : Nat} {a0 : Int32} {a1 : Int32} {a2 : Int32} {a3 : Int32} {σ : Sg} {Post : Rs → Sg → Prop} (h : wp_X9_addLine this a0 a1 a2 a3 σ Post) : Ct l yX9_addLine (.code yX9_addLine cX9_addLine 8 (some .int)) 9 145 8 45 [.ref this, .int a0, .int a1, .int a2, .int a3] σ Post := by
  refine Ct_of [some (.ref this), some (.int a0), some (.int a1), some (.int a2), some (.int a3), none, none, none] hl (by decide +kernel) rfl (fun ad => by rfl) (fun ad => by exact Nat.le_of_ble_eq_true rfl) (fun v hv => mem_lo hv rfl) ?_
  intro G hG
  unfold wp_X9_addLine at h
  refine V_aload_n (v := .ref this) hG dX9_addLine_0 rfl rfl ?_
  refine V_iload_n hG dX9_addLine_1 rfl ?_
  obtain ⟨ht, h⟩ := h
  refine V_cVO _ _ hG dX9_addLine_2 (ct_X9_kindAt hl h) mv_X9_kindAt ml_X9_30 ht rfl rfl rfl rfl (by first | exact Nat.le_of_ble_eq_true rfl | (simp only [List.map_cons, List.map_nil, List.sum_cons, List.sum_nil, cat_rf]; exact Nat.le_of_ble_eq_true rfl)) (Nat.le_of_ble_eq_true rfl) (Nat.le_of_ble_eq_true rfl) (by first | exact Nat.le_of_ble_eq_true rfl | omega | (dsimp only; omega)) (by first | exact Nat.le_of_ble_eq_true rfl | omega | (dsimp only; omega)) ?_ (fun x2 σ1 h9 => ?_)
  · exact fun E σ1 hx => VX_out hG (by first | exact Nat.le_of_ble_eq_true rfl | omega | (dsimp only; omega)) (by first | exact Nat.le_of_ble_eq_true rfl | omega | (dsimp only; omega)) hx
  · replace h := h9
    clear h9
    refine V_astore hG dX9_addLine_5 (isRef_rf _) (Nat.le_of_ble_eq_true rfl) (hpV rfl rfl) ?_
    refine V_aload_n (v := .ref this) hG dX9_addLine_7 rfl rfl ?_
    refine V_iload_n hG dX9_addLine_8 rfl ?_
    obtain ⟨ht, h⟩ := h
    refine V_cVO _ _ hG dX9_addLine_9 (ct_X9_kindAt hl h) mv_X9_kindAt ml_X9_30 ht rfl rfl rfl rfl (by first | exact Nat.le_of_ble_eq_true rfl | (simp only [List.map_cons, List.map_nil, List.sum_cons, List.sum_nil, cat_rf]; exact Nat.le_of_ble_eq_true rfl)) (Nat.le_of_ble_eq_true rfl) (Nat.le_of_ble_eq_true rfl) (by first | exact Nat.le_of_ble_eq_true rfl | omega | (dsimp only; omega)) (by first | exact Nat.le_of_ble_eq_true rfl | omega | (dsimp only; omega)) ?_ (fun x4 σ3 h9 => ?_)
    · exact fun E σ3 hx => VX_out hG (by first | exact Nat.le_of_ble_eq_true rfl | omega | (dsimp only; omega)) (by first | exact Nat.le_of_ble_eq_true rfl | omega | (dsimp only; omega)) hx
    · replace h := h9
      clear h9
      refine V_astore hG dX9_addLine_12 (isRef_rf _) (Nat.le_of_ble_eq_true rfl) (hpV rfl (cat_rf _)) ?_
      refine V_aload_n (v := .ref this) hG dX9_addLine_14 rfl rfl ?_
      refine V_iload hG dX9_addLine_15 rfl ?_
      obtain ⟨ht, h⟩ := h
      refine V_cVO _ _ hG dX9_addLine_17 (ct_X9_kindOrNone hl h) mv_X9_kindOrNone ml_X9_62 ht rfl rfl rfl rfl (by first | exact Nat.le_of_ble_eq_true rfl | (simp only [List.map_cons, List.map_nil, List.sum_cons, List.sum_nil, cat_rf]; exact Nat.le_of_ble_eq_true rfl)) (Nat.le_of_ble_eq_true rfl) (Nat.le_of_ble_eq_true rfl) (by first | exact Nat.le_of_ble_eq_true rfl | omega | (dsimp only; omega)) (by first | exact Nat.le_of_ble_eq_true rfl | omega | (dsimp only; omega)) ?_ (fun x6 σ5 h9 => ?_)
      · exact fun E σ5 hx => VX_out hG (by first | exact Nat.le_of_ble_eq_true rfl | omega | (dsimp only; omega)) (by first | exact Nat.le_of_ble_eq_true rfl | omega | (dsimp only; omega)) hx
      · replace h := h9
        clear h9
        refine V_astore hG dX9_addLine_20 (isRef_rf _) (Nat.le_of_ble_eq_true rfl) (hpV rfl (cat_rf _)) ?_
        refine V_iload_n hG dX9_addLine_22 rfl ?_
        refine V_iload_n hG dX9_addLine_23 rfl ?_
        refine V_icmp_ge (tgt := 43) hG dX9_addLine_24 (by decide) (fun c => ?_) (fun c => ?_)
        · replace h := h.1 c
          refine V_forget (lo' := [none, none, none, some (.int a2), none, some (va_rf x2), some (va_rf x4), some (va_rf x6)]) ⟨rfl, ⟨rfl, ⟨rfl, ⟨rfl, trivial⟩⟩⟩⟩ ?_
          refine V_widen (k' := 3) (n' := 18) (by first | exact Nat.le_of_ble_eq_true rfl | omega | (dsimp only; omega)) (by first | exact Nat.le_of_ble_eq_true rfl | omega | (dsimp only; omega)) ?_
          exact wv_X9_addLine_43 hl hG  _ _ _ _ _ h
        · replace h := h.2 c
          refine V_iload hG dX9_addLine_27 rfl ?_
          refine V_iload_n hG dX9_addLine_29 rfl ?_
          refine V_icmp_ge (tgt := 43) hG dX9_addLine_30 (by decide) (fun c => ?_) (fun c => ?_)
          · replace h := h.1 c
            refine V_forget (lo' := [none, none, none, some (.int a2), none, some (va_rf x2), some (va_rf x4), some (va_rf x6)]) ⟨rfl, ⟨rfl, ⟨rfl, ⟨rfl, trivial⟩⟩⟩⟩ ?_
            refine V_widen (k' := 3) (n' := 18) (by first | exact Nat.le_of_ble_eq_true rfl | omega | (dsimp only; omega)) (by first | exact Nat.le_of_ble_eq_true rfl | omega | (dsimp only; omega)) ?_
            exact wv_X9_addLine_43 hl hG  _ _ _ _ _ h
          · replace h := h.2 c
            refine V_iload_n hG dX9_addLine_33 rfl ?_
            refine V_iload hG dX9_addLine_34 rfl ?_
            refine V_icmp_eq (tgt := 43) hG dX9_addLine_36 (by decide) (fun c => ?_) (fun c => ?_)
            · replace h := h.1 c
              refine V_forget (lo' := [none, none, none, some (.int a2), none, some (va_rf x2), some (va_rf x4), some (va_rf x6)]) ⟨rfl, ⟨rfl, ⟨rfl, ⟨rfl, trivial⟩⟩⟩⟩ ?_
              refine V_widen (k' := 3) (n' := 18) (by first | exact Nat.le_of_ble_eq_true rfl | omega | (dsimp only; omega)) (by first | exact Nat.le_of_ble_eq_true rfl | omega | (dsimp only; omega)) ?_
              exact wv_X9_addLine_43 hl hG  _ _ _ _ _ h
            · replace h := h.2 c
              refine V_iconst (v := 1) hG (by decide) dX9_addLine_39 ?_
              refine V_goto (tgt := 44) hG dX9_addLine_40 (by decide) ?_
              refine V_forget (lo' := [none, none, none, some (.int a2), none, some (va_rf x2), some (va_rf x4), some (va_rf x6)]) ⟨rfl, ⟨rfl, ⟨rfl, ⟨rfl, trivial⟩⟩⟩⟩ ?_
              refine V_widen (k' := 3) (n' := 18) (by first | exact Nat.le_of_ble_eq_true rfl | omega | (dsimp only; omega)) (by first | exact Nat.le_of_ble_eq_true rfl | omega | (dsimp only; omega)) ?_
              exact wv_X9_addLine_44 hl hG  _ _ _ _ _ _ h
def wp_X9_addOperation (this : Nat) (a0 : Int32) (a1 : Int32) (a2 : Int32) (a3 : Int32) (σ : Sg) (Post : Rs → Sg → Prop) : Prop := this % 32 = 9 ∧ wp_X9_kindAt this a0 σ (KO (fun x2 σ1 => wp_X9_requireIndex a1 (4 : Int32) σ1 (KV (fun σ3 => wp_X9_requireIndex a2 (4 : Int32) σ3 (KV (fun σ4 => wp_X9_requireRange a3 (1 : Int32) (9 : Int32) σ4 (KV (fun σ5 => ∃ u6, x2 = some u6 ∧ u6 % 32 = 2 ∧ wp_X2_canBeMade u6 σ5 (KI (fun x8 σ7 => wp_X9_requireState x8 σ7 (KV (fun σ9 => ∃ u10, sX σ9 u10 = false ∧ u10 % 32 = 5 ∧ wp_X5_init u10 a1 a2 a3 (wN σ9 u10) (KV (fun σ11 => u6 % 32 = 2 ∧ wp_X2_putOperation u6 (some u10) σ11 (KI (fun x13 σ12 => Post (.inl (some (.int x13))) σ12) (fun E σ12 => Post (.inr E) σ12))) (fun E σ11 => Post (.inr E) σ11))) (fun E σ9 => Post (.inr E) σ9))) (fun E σ7 => Post (.inr E) σ7))) (fun E σ5 => Post (.inr E) σ5))) (fun E σ4 => Post (.inr E) σ4))) (fun E σ3 => Post (.inr E) σ3))) (fun E σ1 => Post (.inr E) σ1))
set_option maxRecDepth 100000 in
set_option maxHeartbeats 4000000 in
theorem ct_X9_addOperation {l : Launch} (hl : l.stackTraces = false) {this : Nat} {a0 : Int32} {a1 : Int32} {a2 : Int32} {a3 : Int32} {σ : Sg} {Post : Rs → Sg → Prop} (h : wp_X9_addOperation this a0 a1 a2 a3 σ Post) : Ct l yX9_addOperation (.code yX9_addOperation cX9_addOperation 6 (some .int)) 8 124 7 39 [.ref this, .int a0, .int a1, .int a2, .int a3] σ Post := by
  refine Ct_of [some (.ref this), some (.int a0), some (.int a1), some (.int a2), some (.int a3), none] hl (by decide +kernel) rfl (fun ad => by rfl) (fun ad => by exact Nat.le_of_ble_eq_true rfl) (fun v hv => mem_lo hv rfl) ?_
  intro G hG
  unfold wp_X9_addOperation at h
  refine V_aload_n (v := .ref this) hG dX9_addOperation_0 rfl rfl ?_
  refine V_iload_n hG dX9_addOperation_1 rfl ?_
  obtain ⟨ht, h⟩ := h
  refine V_cVO _ _ hG dX9_addOperation_2 (ct_X9_kindAt hl h) mv_X9_kindAt ml_X9_30 ht rfl rfl rfl rfl (by first | exact Nat.le_of_ble_eq_true rfl | (simp only [List.map_cons, List.map_nil, List.sum_cons, List.sum_nil, cat_rf]; exact Nat.le_of_ble_eq_true rfl)) (Nat.le_of_ble_eq_true rfl) (Nat.le_of_ble_eq_true rfl) (by first | exact Nat.le_of_ble_eq_true rfl | omega | (dsimp only; omega)) (by first | exact Nat.le_of_ble_eq_true rfl | omega | (dsimp only; omega)) ?_ (fun x2 σ1 h9 => ?_)
  · exact fun E σ1 hx => VX_out hG (by first | exact Nat.le_of_ble_eq_true rfl | omega | (dsimp only; omega)) (by first | exact Nat.le_of_ble_eq_true rfl | omega | (dsimp only; omega)) hx
  · replace h := h9
    clear h9
    refine V_astore hG dX9_addOperation_5 (isRef_rf _) (Nat.le_of_ble_eq_true rfl) (hpV rfl rfl) ?_
    refine V_iload_n hG dX9_addOperation_7 rfl ?_
    refine V_iconst (v := 4) hG (by decide) dX9_addOperation_8 ?_
    refine V_cSV _ _ hG dX9_addOperation_9 (ct_X9_requireIndex hl h) mv_X9_requireIndex ml_X9_81 rfl rfl (by first | exact Nat.le_of_ble_eq_true rfl | (simp only [List.map_cons, List.map_nil, List.sum_cons, List.sum_nil, cat_rf]; exact Nat.le_of_ble_eq_true rfl)) (Nat.le_of_ble_eq_true rfl) (Nat.le_of_ble_eq_true rfl) (by first | exact Nat.le_of_ble_eq_true rfl | omega | (dsimp only; omega)) (by first | exact Nat.le_of_ble_eq_true rfl | omega | (dsimp only; omega)) ?_ (fun σ3 h9 => ?_)
    · exact fun E σ3 hx => VX_out hG (by first | exact Nat.le_of_ble_eq_true rfl | omega | (dsimp only; omega)) (by first | exact Nat.le_of_ble_eq_true rfl | omega | (dsimp only; omega)) hx
    · replace h := h9
      clear h9
      refine V_iload_n hG dX9_addOperation_12 rfl ?_
      refine V_iconst (v := 4) hG (by decide) dX9_addOperation_13 ?_
      refine V_cSV _ _ hG dX9_addOperation_14 (ct_X9_requireIndex hl h) mv_X9_requireIndex ml_X9_81 rfl rfl (by first | exact Nat.le_of_ble_eq_true rfl | (simp only [List.map_cons, List.map_nil, List.sum_cons, List.sum_nil, cat_rf]; exact Nat.le_of_ble_eq_true rfl)) (Nat.le_of_ble_eq_true rfl) (Nat.le_of_ble_eq_true rfl) (by first | exact Nat.le_of_ble_eq_true rfl | omega | (dsimp only; omega)) (by first | exact Nat.le_of_ble_eq_true rfl | omega | (dsimp only; omega)) ?_ (fun σ4 h9 => ?_)
      · exact fun E σ4 hx => VX_out hG (by first | exact Nat.le_of_ble_eq_true rfl | omega | (dsimp only; omega)) (by first | exact Nat.le_of_ble_eq_true rfl | omega | (dsimp only; omega)) hx
      · replace h := h9
        clear h9
        refine V_iload hG dX9_addOperation_17 rfl ?_
        refine V_iconst (v := 1) hG (by decide) dX9_addOperation_19 ?_
        refine V_bipush (v := 9) hG (by decide) dX9_addOperation_20 ?_
        refine V_cSV _ _ hG dX9_addOperation_22 (ct_X9_requireRange hl h) mv_X9_requireRange ml_X9_34 rfl rfl (by first | exact Nat.le_of_ble_eq_true rfl | (simp only [List.map_cons, List.map_nil, List.sum_cons, List.sum_nil, cat_rf]; exact Nat.le_of_ble_eq_true rfl)) (Nat.le_of_ble_eq_true rfl) (Nat.le_of_ble_eq_true rfl) (by first | exact Nat.le_of_ble_eq_true rfl | omega | (dsimp only; omega)) (by first | exact Nat.le_of_ble_eq_true rfl | omega | (dsimp only; omega)) ?_ (fun σ5 h9 => ?_)
        · exact fun E σ5 hx => VX_out hG (by first | exact Nat.le_of_ble_eq_true rfl | omega | (dsimp only; omega)) (by first | exact Nat.le_of_ble_eq_true rfl | omega | (dsimp only; omega)) hx
        · replace h := h9
          clear h9
          refine V_aload (v := va_rf x2) hG dX9_addOperation_25 (isRef_rf _) rfl ?_
          obtain ⟨u6, he, h⟩ := h
          subst he
          obtain ⟨ht, h⟩ := h
          refine V_cVI _ _ hG dX9_addOperation_27 (ct_X2_canBeMade hl h) mv_X2_canBeMade ml_X9_68 ht rfl rfl rfl rfl (by first | exact Nat.le_of_ble_eq_true rfl | (simp only [List.map_cons, List.map_nil, List.sum_cons, List.sum_nil, cat_rf]; exact Nat.le_of_ble_eq_true rfl)) (Nat.le_of_ble_eq_true rfl) (Nat.le_of_ble_eq_true rfl) (by first | exact Nat.le_of_ble_eq_true rfl | omega | (dsimp only; omega)) (by first | exact Nat.le_of_ble_eq_true rfl | omega | (dsimp only; omega)) ?_ (fun x8 σ7 h9 => ?_)
          · exact fun E σ7 hx => VX_out hG (by first | exact Nat.le_of_ble_eq_true rfl | omega | (dsimp only; omega)) (by first | exact Nat.le_of_ble_eq_true rfl | omega | (dsimp only; omega)) hx
          · replace h := h9
            clear h9
            refine V_cSV _ _ hG dX9_addOperation_30 (ct_X9_requireState hl h) mv_X9_requireState ml_X9_49 rfl rfl (by first | exact Nat.le_of_ble_eq_true rfl | (simp only [List.map_cons, List.map_nil, List.sum_cons, List.sum_nil, cat_rf]; exact Nat.le_of_ble_eq_true rfl)) (Nat.le_of_ble_eq_true rfl) (Nat.le_of_ble_eq_true rfl) (by first | exact Nat.le_of_ble_eq_true rfl | omega | (dsimp only; omega)) (by first | exact Nat.le_of_ble_eq_true rfl | omega | (dsimp only; omega)) ?_ (fun σ9 h9 => ?_)
            · exact fun E σ9 hx => VX_out hG (by first | exact Nat.le_of_ble_eq_true rfl | omega | (dsimp only; omega)) (by first | exact Nat.le_of_ble_eq_true rfl | omega | (dsimp only; omega)) hx
            · replace h := h9
              clear h9
              refine V_aload (v := .ref u6) hG dX9_addOperation_33 rfl rfl ?_
              obtain ⟨u10, hu, ht, h⟩ := h
              refine V_newn (N := 3) hG dX9_addOperation_35 hu ht rfl rfl cl_X9_85 ins_X5 ini_X5 (Nat.le_of_ble_eq_true rfl) (Nat.le_of_ble_eq_true rfl) ?_
              refine V_dup (v := .ref u10) hG rfl dX9_addOperation_38 ?_
              refine V_iload_n hG dX9_addOperation_39 rfl ?_
              refine V_iload_n hG dX9_addOperation_40 rfl ?_
              refine V_iload hG dX9_addOperation_41 rfl ?_
              refine V_cIV _ _ hG dX9_addOperation_43 (ct_X5_init hl h) mv_X5_init ml_X9_87 rfl rfl (by first | exact Nat.le_of_ble_eq_true rfl | (simp only [List.map_cons, List.map_nil, List.sum_cons, List.sum_nil, cat_rf]; exact Nat.le_of_ble_eq_true rfl)) (Nat.le_of_ble_eq_true rfl) (Nat.le_of_ble_eq_true rfl) (by first | exact Nat.le_of_ble_eq_true rfl | omega | (dsimp only; omega)) (by first | exact Nat.le_of_ble_eq_true rfl | omega | (dsimp only; omega)) ?_ (fun σ11 h9 => ?_)
              · exact fun E σ11 hx => VX_out hG (by first | exact Nat.le_of_ble_eq_true rfl | omega | (dsimp only; omega)) (by first | exact Nat.le_of_ble_eq_true rfl | omega | (dsimp only; omega)) hx
              · replace h := h9
                clear h9
                obtain ⟨ht, h⟩ := h
                refine V_cVI _ _ hG dX9_addOperation_46 (ct_X2_putOperation hl h) mv_X2_putOperation ml_X9_89 ht rfl rfl rfl rfl (by first | exact Nat.le_of_ble_eq_true rfl | (simp only [List.map_cons, List.map_nil, List.sum_cons, List.sum_nil, cat_rf]; exact Nat.le_of_ble_eq_true rfl)) (Nat.le_of_ble_eq_true rfl) (Nat.le_of_ble_eq_true rfl) (by first | exact Nat.le_of_ble_eq_true rfl | omega | (dsimp only; omega)) (by first | exact Nat.le_of_ble_eq_true rfl | omega | (dsimp only; omega)) ?_ (fun x13 σ12 h9 => ?_)
                · exact fun E σ12 hx => VX_out hG (by first | exact Nat.le_of_ble_eq_true rfl | omega | (dsimp only; omega)) (by first | exact Nat.le_of_ble_eq_true rfl | omega | (dsimp only; omega)) hx
                · replace h := h9
                  clear h9
                  exact V_iret hG dX9_addOperation_49 (by first | exact Nat.le_of_ble_eq_true rfl | omega | (dsimp only; omega)) (by first | exact Nat.le_of_ble_eq_true rfl | omega | (dsimp only; omega)) h
