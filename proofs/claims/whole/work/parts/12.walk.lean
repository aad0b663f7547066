/-! Walks, by program. -/
def wp_X9_setStore (this : Nat) (a0 : Int32) (a1 : Int32) (σ : Sg) (Post : Rs → Sg → Prop) : Prop := this % 32 = 9 ∧ wp_X9_kindAt this a0 σ (KO (fun x2 σ1 => wp_X9_requireRange a1 (0 : Int32) (99 : Int32) σ1 (KV (fun σ3 => ∃ u4, x2 = some u4 ∧ u4 % 32 = 2 ∧ u4 % 32 = 2 ∧ Post (.inl (some (.int (sI σ3 u4 8)))) (wI σ3 u4 8 a1)) (fun E σ3 => Post (.inr E) σ3))) (fun E σ1 => Post (.inr E) σ1))
set_option maxRecDepth 100000 in
set_option maxHeartbeats 4000000 in
theorem ct_X9_setStore {l : Launch} (hl : l.stackTraces = false) {this : Nat} {a0 : Int32} {a1 : Int32} {σ : Sg} {Post : Rs → Sg → Prop} (h : wp_X9_setStore this a0 a1 σ Post) : Ct l yX9_setStore (.code yX9_setStore cX9_setStore 5 (some .int)) 8 124 2 12 [.ref this, .int a0, .int a1] σ Post := by
  refine Ct_of [some (.ref this), some (.int a0), some (.int a1), none, none] hl (by decide +kernel) rfl (fun ad => by rfl) (fun ad => by exact Nat.le_of_ble_eq_true rfl) (fun v hv => mem_lo hv rfl) ?_
  intro G hG
  unfold wp_X9_setStore at h
  refine V_aload_n (v := .ref this) hG dX9_setStore_0 rfl rfl ?_
  refine V_iload_n hG dX9_setStore_1 rfl ?_
  obtain ⟨ht, h⟩ := h
  refine V_cVO _ _ hG dX9_setStore_2 (ct_X9_kindAt hl h) mv_X9_kindAt ml_X9_30 ht rfl rfl rfl rfl (by first | exact Nat.le_of_ble_eq_true rfl | (simp only [List.map_cons, List.map_nil, List.sum_cons, List.sum_nil, cat_rf]; exact Nat.le_of_ble_eq_true rfl)) (Nat.le_of_ble_eq_true rfl) (Nat.le_of_ble_eq_true rfl) (by first | exact Nat.le_of_ble_eq_true rfl | omega | (dsimp only; omega)) (by first | exact Nat.le_of_ble_eq_true rfl | omega | (dsimp only; omega)) ?_ (fun x2 σ1 h9 => ?_)
  · exact fun E σ1 hx => VX_out hG (by first | exact Nat.le_of_ble_eq_true rfl | omega | (dsimp only; omega)) (by first | exact Nat.le_of_ble_eq_true rfl | omega | (dsimp only; omega)) hx
  · replace h := h9
    clear h9
    refine V_astore_n hG dX9_setStore_5 (isRef_rf _) (Nat.le_of_ble_eq_true rfl) (hpV rfl rfl) ?_
    refine V_iload_n hG dX9_setStore_6 rfl ?_
    refine V_iconst (v := 0) hG (by decide) dX9_setStore_7 ?_
    refine V_bipush (v := 99) hG (by decide) dX9_setStore_8 ?_
    refine V_cSV _ _ hG dX9_setStore_10 (ct_X9_requireRange hl h) mv_X9_requireRange ml_X9_34 rfl rfl (by first | exact Nat.le_of_ble_eq_true rfl | (simp only [List.map_cons, List.map_nil, List.sum_cons, List.sum_nil, cat_rf]; exact Nat.le_of_ble_eq_true rfl)) (Nat.le_of_ble_eq_true rfl) (Nat.le_of_ble_eq_true rfl) (by first | exact Nat.le_of_ble_eq_true rfl | omega | (dsimp only; omega)) (by first | exact Nat.le_of_ble_eq_true rfl | omega | (dsimp only; omega)) ?_ (fun σ3 h9 => ?_)
    · exact fun E σ3 hx => VX_out hG (by first | exact Nat.le_of_ble_eq_true rfl | omega | (dsimp only; omega)) (by first | exact Nat.le_of_ble_eq_true rfl | omega | (dsimp only; omega)) hx
    · replace h := h9
      clear h9
      refine V_aload_n (v := va_rf x2) hG dX9_setStore_13 (isRef_rf _) rfl ?_
      obtain ⟨u4, he, h⟩ := h
      subst he
      obtain ⟨ht, h⟩ := h
      refine V_getI hG dX9_setStore_14 fl_X9_93 rfl ht ?_
      refine V_istore hG dX9_setStore_17 (Nat.le_of_ble_eq_true rfl) (hpV rfl rfl) ?_
      refine V_aload_n (v := .ref u4) hG dX9_setStore_19 rfl rfl ?_
      refine V_iload_n hG dX9_setStore_20 rfl ?_
      obtain ⟨ht, h⟩ := h
      refine V_putI hG dX9_setStore_21 fl_X9_93 rfl (fun e => absurd e (by decide)) rfl ht ?_
      refine V_iload hG dX9_setStore_24 rfl ?_
      exact V_iret hG dX9_setStore_26 (by first | exact Nat.le_of_ble_eq_true rfl | omega | (dsimp only; omega)) (by first | exact Nat.le_of_ble_eq_true rfl | omega | (dsimp only; omega)) h
def wp_X9_setQueue (this : Nat) (a0 : Int32) (a1 : Int32) (σ : Sg) (Post : Rs → Sg → Prop) : Prop := wp_X9_requireIndex a0 (4 : Int32) σ (KV (fun σ1 => wp_X9_requireRange a1 (0 : Int32) (60 : Int32) σ1 (KV (fun σ2 => this % 32 = 9 ∧ ∀ o3, o3 = sP σ2 this 2 → ∃ u4, o3 = some u4 ∧ u4 % 32 = 8 ∧ ∀ o5, o5 = sP σ2 u4 4 → ∃ u6, o5 = some u6 ∧ aty (u6 % 32) = some .int ∧ ∃ j7, a0 = nI j7 ∧ j7 < aln u6 ∧ this % 32 = 9 ∧ ∀ o8, o8 = sP σ2 this 2 → ∃ u9, o8 = some u9 ∧ u9 % 32 = 8 ∧ ∀ o10, o10 = sP σ2 u9 4 → ∃ u11, o10 = some u11 ∧ aty (u11 % 32) = some .int ∧ ∃ j12, a0 = nI j12 ∧ j12 < aln u11 ∧ Post (.inl (some (.int (sI σ2 u6 j7)))) (wI σ2 u11 j12 a1)) (fun E σ2 => Post (.inr E) σ2))) (fun E σ1 => Post (.inr E) σ1))
set_option maxRecDepth 100000 in
set_option maxHeartbeats 4000000 in
theorem ct_X9_setQueue {l : Launch} (hl : l.stackTraces = false) {this : Nat} {a0 : Int32} {a1 : Int32} {σ : Sg} {Post : Rs → Sg → Prop} (h : wp_X9_setQueue this a0 a1 σ Post) : Ct l yX9_setQueue (.code yX9_setQueue cX9_setQueue 4 (some .int)) 8 124 2 12 [.ref this, .int a0, .int a1] σ Post := by
  refine Ct_of [some (.ref this), some (.int a0), some (.int a1), none] hl (by decide +kernel) rfl (fun ad => by rfl) (fun ad => by exact Nat.le_of_ble_eq_true rfl) (fun v hv => mem_lo hv rfl) ?_
  intro G hG
  unfold wp_X9_setQueue at h
  refine V_iload_n hG dX9_setQueue_0 rfl ?_
  refine V_iconst (v := 4) hG (by decide) dX9_setQueue_1 ?_
  refine V_cSV _ _ hG dX9_setQueue_2 (ct_X9_requireIndex hl h) mv_X9_requireIndex ml_X9_81 rfl rfl (by first | exact Nat.le_of_ble_eq_true rfl | (simp only [List.map_cons, List.map_nil, List.sum_cons, List.sum_nil, cat_rf]; exact Nat.le_of_ble_eq_true rfl)) (Nat.le_of_ble_eq_true rfl) (Nat.le_of_ble_eq_true rfl) (by first | exact Nat.le_of_ble_eq_true rfl | omega | (dsimp only; omega)) (by first | exact Nat.le_of_ble_eq_true rfl | omega | (dsimp only; omega)) ?_ (fun σ1 h9 => ?_)
  · exact fun E σ1 hx => VX_out hG (by first | exact Nat.le_of_ble_eq_true rfl | omega | (dsimp only; omega)) (by first | exact Nat.le_of_ble_eq_true rfl | omega | (dsimp only; omega)) hx
  · replace h := h9
    clear h9
    refine V_iload_n hG dX9_setQueue_5 rfl ?_
    refine V_iconst (v := 0) hG (by decide) dX9_setQueue_6 ?_
    refine V_bipush (v := 60) hG (by decide) dX9_setQueue_7 ?_
    refine V_cSV _ _ hG dX9_setQueue_9 (ct_X9_requireRange hl h) mv_X9_requireRange ml_X9_34 rfl rfl (by first | exact Nat.le_of_ble_eq_true rfl | (simp only [List.map_cons, List.map_nil, List.sum_cons, List.sum_nil, cat_rf]; exact Nat.le_of_ble_eq_true rfl)) (Nat.le_of_ble_eq_true rfl) (Nat.le_of_ble_eq_true rfl) (by first | exact Nat.le_of_ble_eq_true rfl | omega | (dsimp only; omega)) (by first | exact Nat.le_of_ble_eq_true rfl | omega | (dsimp only; omega)) ?_ (fun σ2 h9 => ?_)
    · exact fun E σ2 hx => VX_out hG (by first | exact Nat.le_of_ble_eq_true rfl | omega | (dsimp only; omega)) (by first | exact Nat.le_of_ble_eq_true rfl | omega | (dsimp only; omega)) hx
    · replace h := h9
      clear h9
      refine V_aload_n (v := .ref this) hG dX9_setQueue_12 rfl rfl ?_
      obtain ⟨ht, h⟩ := h
      refine V_getPv hG dX9_setQueue_13 fl_X9_26 rfl ht (fun o3 ho => ?_)
      replace h := h o3 ho
      obtain ⟨u4, he, h⟩ := h
      subst he
      obtain ⟨ht, h⟩ := h
      refine V_getPv hG dX9_setQueue_16 fl_X9_96 rfl ht (fun o5 ho => ?_)
      replace h := h o5 ho
      refine V_iload_n hG dX9_setQueue_19 rfl ?_
      obtain ⟨u6, he, h⟩ := h
      subst he
      obtain ⟨ha, j7, hi, hj, h⟩ := h
      refine V_iald hG dX9_setQueue_20 ha hi hj ?_
      refine V_istore_n hG dX9_setQueue_21 (Nat.le_of_ble_eq_true rfl) (hpV rfl rfl) ?_
      refine V_aload_n (v := .ref this) hG dX9_setQueue_22 rfl rfl ?_
      obtain ⟨ht, h⟩ := h
      refine V_getPv hG dX9_setQueue_23 fl_X9_26 rfl ht (fun o8 ho => ?_)
      replace h := h o8 ho
      obtain ⟨u9, he, h⟩ := h
      subst he
      obtain ⟨ht, h⟩ := h
      refine V_getPv hG dX9_setQueue_26 fl_X9_96 rfl ht (fun o10 ho => ?_)
      replace h := h o10 ho
      refine V_iload_n hG dX9_setQueue_29 rfl ?_
      refine V_iload_n hG dX9_setQueue_30 rfl ?_
      obtain ⟨u11, he, h⟩ := h
      subst he
      obtain ⟨ha, j12, hi, hj, h⟩ := h
      refine V_iast hG dX9_setQueue_31 ha hi hj ?_
      refine V_iload_n hG dX9_setQueue_32 rfl ?_
      exact V_iret hG dX9_setQueue_33 (by first | exact Nat.le_of_ble_eq_true rfl | omega | (dsimp only; omega)) (by first | exact Nat.le_of_ble_eq_true rfl | omega | (dsimp only; omega)) h
def wp_X9_addMachine (this : Nat) (a0 : Int32) (a1 : Int32) (a2 : Int32) (a3 : Int32) (a4 : Int32) (a5 : Int32) (σ : Sg) (Post : Rs → Sg → Prop) : Prop := this % 32 = 9 ∧ wp_X9_kindOrNone this a5 σ (KO (fun x2 σ1 => wp_X9_requireRange a0 (1 : Int32) (15 : Int32) σ1 (KV (fun σ3 => wp_X9_requireRange a1 (0 : Int32) (5 : Int32) σ3 (KV (fun σ4 => wp_X9_requireRange a2 (0 : Int32) (9 : Int32) σ4 (KV (fun σ5 => wp_X9_requireRange a3 (1 : Int32) (50 : Int32) σ5 (KV (fun σ6 => wp_X9_requireRange a4 (1 : Int32) (9 : Int32) σ6 (KV (fun σ7 => this % 32 = 9 ∧ ∀ o8, o8 = sP σ7 this 1 → ∃ u9, o8 = some u9 ∧ u9 % 32 = 1 ∧ this % 32 = 9 ∧ ∀ o10, o10 = sP σ7 this 1 → ∃ u11, sX σ7 u11 = false ∧ u11 % 32 = 4 ∧ wp_X4_init u11 (sI σ7 u9 2) a0 a1 a2 a3 a4 x2 (wN σ7 u11) (KV (fun σ12 => ∃ u13, o10 = some u13 ∧ u13 % 32 = 1 ∧ wp_X1_putMachine u13 (some u11) σ12 (KV (fun σ14 => Post (.inl (some (.int (sI σ7 u9 2)))) σ14) (fun E σ14 => Post (.inr E) σ14))) (fun E σ12 => Post (.inr E) σ12))) (fun E σ7 => Post (.inr E) σ7))) (fun E σ6 => Post (.inr E) σ6))) (fun E σ5 => Post (.inr E) σ5))) (fun E σ4 => Post (.inr E) σ4))) (fun E σ3 => Post (.inr E) σ3))) (fun E σ1 => Post (.inr E) σ1))
set_option maxRecDepth 100000 in
set_option maxHeartbeats 4000000 in
theorem ct_X9_addMachine {l : Launch} (hl : l.stackTraces = false) {this : Nat} {a0 : Int32} {a1 : Int32} {a2 : Int32} {a3 : Int32} {a4 : Int32} {a5 : Int32} {σ : Sg} {Post : Rs → Sg → Prop} (h : wp_X9_addMachine this a0 a1 a2 a3 a4 a5 σ Post) : Ct l yX9_addMachine (.code yX9_addMachine cX9_addMachine 9 (some .int)) 9 145 8 57 [.ref this, .int a0, .int a1, .int a2, .int a3, .int a4, .int a5] σ Post := by
  refine Ct_of [some (.ref this), some (.int a0), some (.int a1), some (.int a2), some (.int a3), some (.int a4), some (.int a5), none, none] hl (by decide +kernel) rfl (fun ad => by rfl) (fun ad => by exact Nat.le_of_ble_eq_true rfl) (fun v hv => mem_lo hv rfl) ?_
  intro G hG
  unfold wp_X9_addMachine at h
  refine V_aload_n (v := .ref this) hG dX9_addMachine_0 rfl rfl ?_
  refine V_iload hG dX9_addMachine_1 rfl ?_
  obtain ⟨ht, h⟩ := h
  refine V_cVO _ _ hG dX9_addMachine_3 (ct_X9_kindOrNone hl h) mv_X9_kindOrNone ml_X9_62 ht rfl rfl rfl rfl (by first | exact Nat.le_of_ble_eq_true rfl | (simp only [List.map_cons, List.map_nil, List.sum_cons, List.sum_nil, cat_rf]; exact Nat.le_of_ble_eq_true rfl)) (Nat.le_of_ble_eq_true rfl) (Nat.le_of_ble_eq_true rfl) (by first | exact Nat.le_of_ble_eq_true rfl | omega | (dsimp only; omega)) (by first | exact Nat.le_of_ble_eq_true rfl | omega | (dsimp only; omega)) ?_ (fun x2 σ1 h9 => ?_)
  · exact fun E σ1 hx => VX_out hG (by first | exact Nat.le_of_ble_eq_true rfl | omega | (dsimp only; omega)) (by first | exact Nat.le_of_ble_eq_true rfl | omega | (dsimp only; omega)) hx
  · replace h := h9
    clear h9
    refine V_astore hG dX9_addMachine_6 (isRef_rf _) (Nat.le_of_ble_eq_true rfl) (hpV rfl rfl) ?_
    refine V_iload_n hG dX9_addMachine_8 rfl ?_
    refine V_iconst (v := 1) hG (by decide) dX9_addMachine_9 ?_
    refine V_bipush (v := 15) hG (by decide) dX9_addMachine_10 ?_
    refine V_cSV _ _ hG dX9_addMachine_12 (ct_X9_requireRange hl h) mv_X9_requireRange ml_X9_34 rfl rfl (by first | exact Nat.le_of_ble_eq_true rfl | (simp only [List.map_cons, List.map_nil, List.sum_cons, List.sum_nil, cat_rf]; exact Nat.le_of_ble_eq_true rfl)) (Nat.le_of_ble_eq_true rfl) (Nat.le_of_ble_eq_true rfl) (by first | exact Nat.le_of_ble_eq_true rfl | omega | (dsimp only; omega)) (by first | exact Nat.le_of_ble_eq_true rfl | omega | (dsimp only; omega)) ?_ (fun σ3 h9 => ?_)
    · exact fun E σ3 hx => VX_out hG (by first | exact Nat.le_of_ble_eq_true rfl | omega | (dsimp only; omega)) (by first | exact Nat.le_of_ble_eq_true rfl | omega | (dsimp only; omega)) hx
    · replace h := h9
      clear h9
      refine V_iload_n hG dX9_addMachine_15 rfl ?_
      refine V_iconst (v := 0) hG (by decide) dX9_addMachine_16 ?_
      refine V_iconst (v := 5) hG (by decide) dX9_addMachine_17 ?_
      refine V_cSV _ _ hG dX9_addMachine_18 (ct_X9_requireRange hl h) mv_X9_requireRange ml_X9_34 rfl rfl (by first | exact Nat.le_of_ble_eq_true rfl | (simp only [List.map_cons, List.map_nil, List.sum_cons, List.sum_nil, cat_rf]; exact Nat.le_of_ble_eq_true rfl)) (Nat.le_of_ble_eq_true rfl) (Nat.le_of_ble_eq_true rfl) (by first | exact Nat.le_of_ble_eq_true rfl | omega | (dsimp only; omega)) (by first | exact Nat.le_of_ble_eq_true rfl | omega | (dsimp only; omega)) ?_ (fun σ4 h9 => ?_)
      · exact fun E σ4 hx => VX_out hG (by first | exact Nat.le_of_ble_eq_true rfl | omega | (dsimp only; omega)) (by first | exact Nat.le_of_ble_eq_true rfl | omega | (dsimp only; omega)) hx
      · replace h := h9
        clear h9
        refine V_iload_n hG dX9_addMachine_21 rfl ?_
        refine V_iconst (v := 0) hG (by decide) dX9_addMachine_22 ?_
        refine V_bipush (v := 9) hG (by decide) dX9_addMachine_23 ?_
        refine V_cSV _ _ hG dX9_addMachine_25 (ct_X9_requireRange hl h) mv_X9_requireRange ml_X9_34 rfl rfl (by first | exact Nat.le_of_ble_eq_true rfl | (simp only [List.map_cons, List.map_nil, List.sum_cons, List.sum_nil, cat_rf]; exact Nat.le_of_ble_eq_true rfl)) (Nat.le_of_ble_eq_true rfl) (Nat.le_of_ble_eq_true rfl) (by first | exact Nat.le_of_ble_eq_true rfl | omega | (dsimp only; omega)) (by first | exact Nat.le_of_ble_eq_true rfl | omega | (dsimp only; omega)) ?_ (fun σ5 h9 => ?_)
        · exact fun E σ5 hx => VX_out hG (by first | exact Nat.le_of_ble_eq_true rfl | omega | (dsimp only; omega)) (by first | exact Nat.le_of_ble_eq_true rfl | omega | (dsimp only; omega)) hx
        · replace h := h9
          clear h9
          refine V_iload hG dX9_addMachine_28 rfl ?_
          refine V_iconst (v := 1) hG (by decide) dX9_addMachine_30 ?_
          refine V_bipush (v := 50) hG (by decide) dX9_addMachine_31 ?_
          refine V_cSV _ _ hG dX9_addMachine_33 (ct_X9_requireRange hl h) mv_X9_requireRange ml_X9_34 rfl rfl (by first | exact Nat.le_of_ble_eq_true rfl | (simp only [List.map_cons, List.map_nil, List.sum_cons, List.sum_nil, cat_rf]; exact Nat.le_of_ble_eq_true rfl)) (Nat.le_of_ble_eq_true rfl) (Nat.le_of_ble_eq_true rfl) (by first | exact Nat.le_of_ble_eq_true rfl | omega | (dsimp only; omega)) (by first | exact Nat.le_of_ble_eq_true rfl | omega | (dsimp only; omega)) ?_ (fun σ6 h9 => ?_)
          · exact fun E σ6 hx => VX_out hG (by first | exact Nat.le_of_ble_eq_true rfl | omega | (dsimp only; omega)) (by first | exact Nat.le_of_ble_eq_true rfl | omega | (dsimp only; omega)) hx
          · replace h := h9
            clear h9
            refine V_iload hG dX9_addMachine_36 rfl ?_
            refine V_iconst (v := 1) hG (by decide) dX9_addMachine_38 ?_
            refine V_bipush (v := 9) hG (by decide) dX9_addMachine_39 ?_
            refine V_cSV _ _ hG dX9_addMachine_41 (ct_X9_requireRange hl h) mv_X9_requireRange ml_X9_34 rfl rfl (by first | exact Nat.le_of_ble_eq_true rfl | (simp only [List.map_cons, List.map_nil, List.sum_cons, List.sum_nil, cat_rf]; exact Nat.le_of_ble_eq_true rfl)) (Nat.le_of_ble_eq_true rfl) (Nat.le_of_ble_eq_true rfl) (by first | exact Nat.le_of_ble_eq_true rfl | omega | (dsimp only; omega)) (by first | exact Nat.le_of_ble_eq_true rfl | omega | (dsimp only; omega)) ?_ (fun σ7 h9 => ?_)
            · exact fun E σ7 hx => VX_out hG (by first | exact Nat.le_of_ble_eq_true rfl | omega | (dsimp only; omega)) (by first | exact Nat.le_of_ble_eq_true rfl | omega | (dsimp only; omega)) hx
            · replace h := h9
              clear h9
              refine V_aload_n (v := .ref this) hG dX9_addMachine_44 rfl rfl ?_
              obtain ⟨ht, h⟩ := h
              refine V_getPv hG dX9_addMachine_45 fl_X9_18 rfl ht (fun o8 ho => ?_)
              replace h := h o8 ho
              obtain ⟨u9, he, h⟩ := h
              subst he
              obtain ⟨ht, h⟩ := h
              refine V_getI hG dX9_addMachine_48 fl_X9_102 rfl ht ?_
              refine V_istore hG dX9_addMachine_51 (Nat.le_of_ble_eq_true rfl) (hpV rfl (cat_rf _)) ?_
              refine V_aload_n (v := .ref this) hG dX9_addMachine_53 rfl rfl ?_
              obtain ⟨ht, h⟩ := h
              refine V_getPv hG dX9_addMachine_54 fl_X9_18 rfl ht (fun o10 ho => ?_)
              replace h := h o10 ho
              obtain ⟨u11, hu, ht, h⟩ := h
              refine V_newn (N := 15) hG dX9_addMachine_57 hu ht rfl rfl cl_X9_105 ins_X4 ini_X4 (Nat.le_of_ble_eq_true rfl) (Nat.le_of_ble_eq_true rfl) ?_
              refine V_dup (v := .ref u11) hG rfl dX9_addMachine_60 ?_
              refine V_iload hG dX9_addMachine_61 rfl ?_
              refine V_iload_n hG dX9_addMachine_63 rfl ?_
              refine V_iload_n hG dX9_addMachine_64 rfl ?_
              refine V_iload_n hG dX9_addMachine_65 rfl ?_
              refine V_iload hG dX9_addMachine_66 rfl ?_
              refine V_iload hG dX9_addMachine_68 rfl ?_
              refine V_aload (v := va_rf x2) hG dX9_addMachine_70 (isRef_rf _) rfl ?_
              refine V_cIV _ _ hG dX9_addMachine_72 (ct_X4_init hl h) mv_X4_init ml_X9_107 rfl rfl (by first | exact Nat.le_of_ble_eq_true rfl | (simp only [List.map_cons, List.map_nil, List.sum_cons, List.sum_nil, cat_rf]; exact Nat.le_of_ble_eq_true rfl)) (Nat.le_of_ble_eq_true rfl) (Nat.le_of_ble_eq_true rfl) (by first | exact Nat.le_of_ble_eq_true rfl | omega | (dsimp only; omega)) (by first | exact Nat.le_of_ble_eq_true rfl | omega | (dsimp only; omega)) ?_ (fun σ12 h9 => ?_)
              · exact fun E σ12 hx => VX_out hG (by first | exact Nat.le_of_ble_eq_true rfl | omega | (dsimp only; omega)) (by first | exact Nat.le_of_ble_eq_true rfl | omega | (dsimp only; omega)) hx
              · replace h := h9
                clear h9
                obtain ⟨u13, he, h⟩ := h
                subst he
                obtain ⟨ht, h⟩ := h
                refine V_cVV _ _ hG dX9_addMachine_75 (ct_X1_putMachine hl h) mv_X1_putMachine ml_X9_110 ht rfl rfl rfl rfl (by first | exact Nat.le_of_ble_eq_true rfl | (simp only [List.map_cons, List.map_nil, List.sum_cons, List.sum_nil, cat_rf]; exact Nat.le_of_ble_eq_true rfl)) (Nat.le_of_ble_eq_true rfl) (Nat.le_of_ble_eq_true rfl) (by first | exact Nat.le_of_ble_eq_true rfl | omega | (dsimp only; omega)) (by first | exact Nat.le_of_ble_eq_true rfl | omega | (dsimp only; omega)) ?_ (fun σ14 h9 => ?_)
                · exact fun E σ14 hx => VX_out hG (by first | exact Nat.le_of_ble_eq_true rfl | omega | (dsimp only; omega)) (by first | exact Nat.le_of_ble_eq_true rfl | omega | (dsimp only; omega)) hx
                · replace h := h9
                  clear h9
                  refine V_iload hG dX9_addMachine_78 rfl ?_
                  exact V_iret hG dX9_addMachine_80 (by first | exact Nat.le_of_ble_eq_true rfl | omega | (dsimp only; omega)) (by first | exact Nat.le_of_ble_eq_true rfl | omega | (dsimp only; omega)) h
def wp_X9_addPerson (this : Nat) (a0 : Int32) (a1 : Int32) (a2 : Int32) (σ : Sg) (Post : Rs → Sg → Prop) : Prop := wp_X9_requireRange a0 (0 : Int32) (9 : Int32) σ (KV (fun σ1 => wp_X9_requireRange a1 (0 : Int32) (23 : Int32) σ1 (KV (fun σ2 => wp_X9_requireRange a2 (1 : Int32) (24 : Int32) σ2 (KV (fun σ3 => this % 32 = 9 ∧ ∀ o4, o4 = sP σ3 this 1 → ∃ u5, o4 = some u5 ∧ u5 % 32 = 1 ∧ this % 32 = 9 ∧ ∀ o6, o6 = sP σ3 this 1 → ∃ u7, sX σ3 u7 = false ∧ u7 % 32 = 7 ∧ wp_X7_init u7 (sI σ3 u5 4) a0 a1 a2 (wN σ3 u7) (KV (fun σ8 => ∃ u9, o6 = some u9 ∧ u9 % 32 = 1 ∧ wp_X1_putPerson u9 (some u7) σ8 (KV (fun σ10 => Post (.inl (some (.int (sI σ3 u5 4)))) σ10) (fun E σ10 => Post (.inr E) σ10))) (fun E σ8 => Post (.inr E) σ8))) (fun E σ3 => Post (.inr E) σ3))) (fun E σ2 => Post (.inr E) σ2))) (fun E σ1 => Post (.inr E) σ1))
set_option maxRecDepth 100000 in
set_option maxHeartbeats 4000000 in
theorem ct_X9_addPerson {l : Launch} (hl : l.stackTraces = false) {this : Nat} {a0 : Int32} {a1 : Int32} {a2 : Int32} {σ : Sg} {Post : Rs → Sg → Prop} (h : wp_X9_addPerson this a0 a1 a2 σ Post) : Ct l yX9_addPerson (.code yX9_addPerson cX9_addPerson 5 (some .int)) 8 124 7 39 [.ref this, .int a0, .int a1, .int a2] σ Post := by
  refine Ct_of [some (.ref this), some (.int a0), some (.int a1), some (.int a2), none] hl (by decide +kernel) rfl (fun ad => by rfl) (fun ad => by exact Nat.le_of_ble_eq_true rfl) (fun v hv => mem_lo hv rfl) ?_
  intro G hG
  unfold wp_X9_addPerson at h
  refine V_iload_n hG dX9_addPerson_0 rfl ?_
  refine V_iconst (v := 0) hG (by decide) dX9_addPerson_1 ?_
  refine V_bipush (v := 9) hG (by decide) dX9_addPerson_2 ?_
  refine V_cSV _ _ hG dX9_addPerson_4 (ct_X9_requireRange hl h) mv_X9_requireRange ml_X9_34 rfl rfl (by first | exact Nat.le_of_ble_eq_true rfl | (simp only [List.map_cons, List.map_nil, List.sum_cons, List.sum_nil, cat_rf]; exact Nat.le_of_ble_eq_true rfl)) (Nat.le_of_ble_eq_true rfl) (Nat.le_of_ble_eq_true rfl) (by first | exact Nat.le_of_ble_eq_true rfl | omega | (dsimp only; omega)) (by first | exact Nat.le_of_ble_eq_true rfl | omega | (dsimp only; omega)) ?_ (fun σ1 h9 => ?_)
  · exact fun E σ1 hx => VX_out hG (by first | exact Nat.le_of_ble_eq_true rfl | omega | (dsimp only; omega)) (by first | exact Nat.le_of_ble_eq_true rfl | omega | (dsimp only; omega)) hx
  · replace h := h9
    clear h9
    refine V_iload_n hG dX9_addPerson_7 rfl ?_
    refine V_iconst (v := 0) hG (by decide) dX9_addPerson_8 ?_
    refine V_bipush (v := 23) hG (by decide) dX9_addPerson_9 ?_
    refine V_cSV _ _ hG dX9_addPerson_11 (ct_X9_requireRange hl h) mv_X9_requireRange ml_X9_34 rfl rfl (by first | exact Nat.le_of_ble_eq_true rfl | (simp only [List.map_cons, List.map_nil, List.sum_cons, List.sum_nil, cat_rf]; exact Nat.le_of_ble_eq_true rfl)) (Nat.le_of_ble_eq_true rfl) (Nat.le_of_ble_eq_true rfl) (by first | exact Nat.le_of_ble_eq_true rfl | omega | (dsimp only; omega)) (by first | exact Nat.le_of_ble_eq_true rfl | omega | (dsimp only; omega)) ?_ (fun σ2 h9 => ?_)
    · exact fun E σ2 hx => VX_out hG (by first | exact Nat.le_of_ble_eq_true rfl | omega | (dsimp only; omega)) (by first | exact Nat.le_of_ble_eq_true rfl | omega | (dsimp only; omega)) hx
    · replace h := h9
      clear h9
      refine V_iload_n hG dX9_addPerson_14 rfl ?_
      refine V_iconst (v := 1) hG (by decide) dX9_addPerson_15 ?_
      refine V_bipush (v := 24) hG (by decide) dX9_addPerson_16 ?_
      refine V_cSV _ _ hG dX9_addPerson_18 (ct_X9_requireRange hl h) mv_X9_requireRange ml_X9_34 rfl rfl (by first | exact Nat.le_of_ble_eq_true rfl | (simp only [List.map_cons, List.map_nil, List.sum_cons, List.sum_nil, cat_rf]; exact Nat.le_of_ble_eq_true rfl)) (Nat.le_of_ble_eq_true rfl) (Nat.le_of_ble_eq_true rfl) (by first | exact Nat.le_of_ble_eq_true rfl | omega | (dsimp only; omega)) (by first | exact Nat.le_of_ble_eq_true rfl | omega | (dsimp only; omega)) ?_ (fun σ3 h9 => ?_)
      · exact fun E σ3 hx => VX_out hG (by first | exact Nat.le_of_ble_eq_true rfl | omega | (dsimp only; omega)) (by first | exact Nat.le_of_ble_eq_true rfl | omega | (dsimp only; omega)) hx
      · replace h := h9
        clear h9
        refine V_aload_n (v := .ref this) hG dX9_addPerson_21 rfl rfl ?_
        obtain ⟨ht, h⟩ := h
        refine V_getPv hG dX9_addPerson_22 fl_X9_18 rfl ht (fun o4 ho => ?_)
        replace h := h o4 ho
        obtain ⟨u5, he, h⟩ := h
        subst he
        obtain ⟨ht, h⟩ := h
        refine V_getI hG dX9_addPerson_25 fl_X9_114 rfl ht ?_
        refine V_istore hG dX9_addPerson_28 (Nat.le_of_ble_eq_true rfl) (hpV rfl rfl) ?_
        refine V_aload_n (v := .ref this) hG dX9_addPerson_30 rfl rfl ?_
        obtain ⟨ht, h⟩ := h
        refine V_getPv hG dX9_addPerson_31 fl_X9_18 rfl ht (fun o6 ho => ?_)
        replace h := h o6 ho
        obtain ⟨u7, hu, ht, h⟩ := h
        refine V_newn (N := 7) hG dX9_addPerson_34 hu ht rfl rfl cl_X9_117 ins_X7 ini_X7 (Nat.le_of_ble_eq_true rfl) (Nat.le_of_ble_eq_true rfl) ?_
        refine V_dup (v := .ref u7) hG rfl dX9_addPerson_37 ?_
        refine V_iload hG dX9_addPerson_38 rfl ?_
        refine V_iload_n hG dX9_addPerson_40 rfl ?_
        refine V_iload_n hG dX9_addPerson_41 rfl ?_
        refine V_iload_n hG dX9_addPerson_42 rfl ?_
        refine V_cIV _ _ hG dX9_addPerson_43 (ct_X7_init hl h) mv_X7_init ml_X9_119 rfl rfl (by first | exact Nat.le_of_ble_eq_true rfl | (simp only [List.map_cons, List.map_nil, List.sum_cons, List.sum_nil, cat_rf]; exact Nat.le_of_ble_eq_true rfl)) (Nat.le_of_ble_eq_true rfl) (Nat.le_of_ble_eq_true rfl) (by first | exact Nat.le_of_ble_eq_true rfl | omega | (dsimp only; omega)) (by first | exact Nat.le_of_ble_eq_true rfl | omega | (dsimp only; omega)) ?_ (fun σ8 h9 => ?_)
        · exact fun E σ8 hx => VX_out hG (by first | exact Nat.le_of_ble_eq_true rfl | omega | (dsimp only; omega)) (by first | exact Nat.le_of_ble_eq_true rfl | omega | (dsimp only; omega)) hx
        · replace h := h9
          clear h9
          obtain ⟨u9, he, h⟩ := h
          subst he
          obtain ⟨ht, h⟩ := h
          refine V_cVV _ _ hG dX9_addPerson_46 (ct_X1_putPerson hl h) mv_X1_putPerson ml_X9_122 ht rfl rfl rfl rfl (by first | exact Nat.le_of_ble_eq_true rfl | (simp only [List.map_cons, List.map_nil, List.sum_cons, List.sum_nil, cat_rf]; exact Nat.le_of_ble_eq_true rfl)) (Nat.le_of_ble_eq_true rfl) (Nat.le_of_ble_eq_true rfl) (by first | exact Nat.le_of_ble_eq_true rfl | omega | (dsimp only; omega)) (by first | exact Nat.le_of_ble_eq_true rfl | omega | (dsimp only; omega)) ?_ (fun σ10 h9 => ?_)
          · exact fun E σ10 hx => VX_out hG (by first | exact Nat.le_of_ble_eq_true rfl | omega | (dsimp only; omega)) (by first | exact Nat.le_of_ble_eq_true rfl | omega | (dsimp only; omega)) hx
          · replace h := h9
            clear h9
            refine V_iload hG dX9_addPerson_49 rfl ?_
            exact V_iret hG dX9_addPerson_51 (by first | exact Nat.le_of_ble_eq_true rfl | omega | (dsimp only; omega)) (by first | exact Nat.le_of_ble_eq_true rfl | omega | (dsimp only; omega)) h
def wp_X9_personAt (this : Nat) (a0 : Int32) (σ : Sg) (Post : Rs → Sg → Prop) : Prop := this % 32 = 9 ∧ ∀ o1, o1 = sP σ this 1 → ∃ u2, o1 = some u2 ∧ u2 % 32 = 1 ∧ wp_X9_requireIndex a0 (sI σ u2 4) σ (KV (fun σ3 => this % 32 = 9 ∧ ∀ o4, o4 = sP σ3 this 1 → ∃ u5, o4 = some u5 ∧ u5 % 32 = 1 ∧ ∀ o6, o6 = sP σ3 u5 3 → ∃ u7, o6 = some u7 ∧ isRow u7 ∧ ∃ j8, a0 = nI j8 ∧ j8 < aln u7 ∧ ∀ o9, o9 = sP σ3 u7 j8 → Post (.inl (some (va_rf o9))) σ3) (fun E σ3 => Post (.inr E) σ3))
set_option maxRecDepth 100000 in
set_option maxHeartbeats 4000000 in
theorem ct_X9_personAt {l : Launch} (hl : l.stackTraces = false) {this : Nat} {a0 : Int32} {σ : Sg} {Post : Rs → Sg → Prop} (h : wp_X9_personAt this a0 σ Post) : Ct l yX9_personAt (.code yX9_personAt cX9_personAt 2 (some (.object "Millrace$Person"))) 7 103 1 6 [.ref this, .int a0] σ Post := by
  refine Ct_of [some (.ref this), some (.int a0)] hl (by decide +kernel) rfl (fun ad => by rfl) (fun ad => by exact Nat.le_of_ble_eq_true rfl) (fun v hv => mem_lo hv rfl) ?_
  intro G hG
  unfold wp_X9_personAt at h
  refine V_iload_n hG dX9_personAt_0 rfl ?_
  refine V_aload_n (v := .ref this) hG dX9_personAt_1 rfl rfl ?_
  obtain ⟨ht, h⟩ := h
  refine V_getPv hG dX9_personAt_2 fl_X9_18 rfl ht (fun o1 ho => ?_)
  replace h := h o1 ho
  obtain ⟨u2, he, h⟩ := h
  subst he
  obtain ⟨ht, h⟩ := h
  refine V_getI hG dX9_personAt_5 fl_X9_114 rfl ht ?_
  refine V_cSV _ _ hG dX9_personAt_8 (ct_X9_requireIndex hl h) mv_X9_requireIndex ml_X9_81 rfl rfl (by first | exact Nat.le_of_ble_eq_true rfl | (simp only [List.map_cons, List.map_nil, List.sum_cons, List.sum_nil, cat_rf]; exact Nat.le_of_ble_eq_true rfl)) (Nat.le_of_ble_eq_true rfl) (Nat.le_of_ble_eq_true rfl) (by first | exact Nat.le_of_ble_eq_true rfl | omega | (dsimp only; omega)) (by first | exact Nat.le_of_ble_eq_true rfl | omega | (dsimp only; omega)) ?_ (fun σ3 h9 => ?_)
  · exact fun E σ3 hx => VX_out hG (by first | exact Nat.le_of_ble_eq_true rfl | omega | (dsimp only; omega)) (by first | exact Nat.le_of_ble_eq_true rfl | omega | (dsimp only; omega)) hx
  · replace h := h9
    clear h9
    refine V_aload_n (v := .ref this) hG dX9_personAt_11 rfl rfl ?_
    obtain ⟨ht, h⟩ := h
    refine V_getPv hG dX9_personAt_12 fl_X9_18 rfl ht (fun o4 ho => ?_)
    replace h := h o4 ho
    obtain ⟨u5, he, h⟩ := h
    subst he
    obtain ⟨ht, h⟩ := h
    refine V_getPv hG dX9_personAt_15 fl_X9_352 rfl ht (fun o6 ho => ?_)
    replace h := h o6 ho
    refine V_iload_n hG dX9_personAt_18 rfl ?_
    obtain ⟨u7, he, h⟩ := h
    subst he
    obtain ⟨ha, j8, hi, hj, h⟩ := h
    refine V_aaldv hG dX9_personAt_19 ha hi hj (fun o9 ho => ?_)
    replace h := h o9 ho
    exact V_aret (v := va_rf o9) hG dX9_personAt_20 (isRef_rf _) (by first | exact Nat.le_of_ble_eq_true rfl | omega | (dsimp only; omega)) (by first | exact Nat.le_of_ble_eq_true rfl | omega | (dsimp only; omega)) h
def wp_X9_setLevel (this : Nat) (a0 : Int32) (a1 : Int32) (a2 : Int32) (σ : Sg) (Post : Rs → Sg → Prop) : Prop := this % 32 = 9 ∧ wp_X9_personAt this a0 σ (KO (fun x2 σ1 => wp_X9_requireIndex a1 (4 : Int32) σ1 (KV (fun σ3 => wp_X9_requireRange a2 (0 : Int32) (3 : Int32) σ3 (KV (fun σ4 => ∃ u5, x2 = some u5 ∧ u5 % 32 = 7 ∧ ∀ o6, o6 = sP σ4 u5 4 → ∃ u7, o6 = some u7 ∧ aty (u7 % 32) = some .int ∧ ∃ j8, a1 = nI j8 ∧ j8 < aln u7 ∧ u5 % 32 = 7 ∧ wp_X7_reach u5 a1 a2 σ4 (KV (fun σ9 => Post (.inl (some (.int (sI σ4 u7 j8)))) σ9) (fun E σ9 => Post (.inr E) σ9))) (fun E σ4 => Post (.inr E) σ4))) (fun E σ3 => Post (.inr E) σ3))) (fun E σ1 => Post (.inr E) σ1))
set_option maxRecDepth 100000 in
set_option maxHeartbeats 4000000 in
theorem ct_X9_setLevel {l : Launch} (hl : l.stackTraces = false) {this : Nat} {a0 : Int32} {a1 : Int32} {a2 : Int32} {σ : Sg} {Post : Rs → Sg → Prop} (h : wp_X9_setLevel this a0 a1 a2 σ Post) : Ct l yX9_setLevel (.code yX9_setLevel cX9_setLevel 6 (some .int)) 8 124 3 18 [.ref this, .int a0, .int a1, .int a2] σ Post := by
  refine Ct_of [some (.ref this), some (.int a0), some (.int a1), some (.int a2), none, none] hl (by decide +kernel) rfl (fun ad => by rfl) (fun ad => by exact Nat.le_of_ble_eq_true rfl) (fun v hv => mem_lo hv rfl) ?_
  intro G hG
  unfold wp_X9_setLevel at h
  refine V_aload_n (v := .ref this) hG dX9_setLevel_0 rfl rfl ?_
  refine V_iload_n hG dX9_setLevel_1 rfl ?_
  obtain ⟨ht, h⟩ := h
  refine V_cVO _ _ hG dX9_setLevel_2 (ct_X9_personAt hl h) mv_X9_personAt ml_X9_126 ht rfl rfl rfl rfl (by first | exact Nat.le_of_ble_eq_true rfl | (simp only [List.map_cons, List.map_nil, List.sum_cons, List.sum_nil, cat_rf]; exact Nat.le_of_ble_eq_true rfl)) (Nat.le_of_ble_eq_true rfl) (Nat.le_of_ble_eq_true rfl) (by first | exact Nat.le_of_ble_eq_true rfl | omega | (dsimp only; omega)) (by first | exact Nat.le_of_ble_eq_true rfl | omega | (dsimp only; omega)) ?_ (fun x2 σ1 h9 => ?_)
  · exact fun E σ1 hx => VX_out hG (by first | exact Nat.le_of_ble_eq_true rfl | omega | (dsimp only; omega)) (by first | exact Nat.le_of_ble_eq_true rfl | omega | (dsimp only; omega)) hx
  · replace h := h9
    clear h9
    refine V_astore hG dX9_setLevel_5 (isRef_rf _) (Nat.le_of_ble_eq_true rfl) (hpV rfl rfl) ?_
    refine V_iload_n hG dX9_setLevel_7 rfl ?_
    refine V_iconst (v := 4) hG (by decide) dX9_setLevel_8 ?_
    refine V_cSV _ _ hG dX9_setLevel_9 (ct_X9_requireIndex hl h) mv_X9_requireIndex ml_X9_81 rfl rfl (by first | exact Nat.le_of_ble_eq_true rfl | (simp only [List.map_cons, List.map_nil, List.sum_cons, List.sum_nil, cat_rf]; exact Nat.le_of_ble_eq_true rfl)) (Nat.le_of_ble_eq_true rfl) (Nat.le_of_ble_eq_true rfl) (by first | exact Nat.le_of_ble_eq_true rfl | omega | (dsimp only; omega)) (by first | exact Nat.le_of_ble_eq_true rfl | omega | (dsimp only; omega)) ?_ (fun σ3 h9 => ?_)
    · exact fun E σ3 hx => VX_out hG (by first | exact Nat.le_of_ble_eq_true rfl | omega | (dsimp only; omega)) (by first | exact Nat.le_of_ble_eq_true rfl | omega | (dsimp only; omega)) hx
    · replace h := h9
      clear h9
      refine V_iload_n hG dX9_setLevel_12 rfl ?_
      refine V_iconst (v := 0) hG (by decide) dX9_setLevel_13 ?_
      refine V_iconst (v := 3) hG (by decide) dX9_setLevel_14 ?_
      refine V_cSV _ _ hG dX9_setLevel_15 (ct_X9_requireRange hl h) mv_X9_requireRange ml_X9_34 rfl rfl (by first | exact Nat.le_of_ble_eq_true rfl | (simp only [List.map_cons, List.map_nil, List.sum_cons, List.sum_nil, cat_rf]; exact Nat.le_of_ble_eq_true rfl)) (Nat.le_of_ble_eq_true rfl) (Nat.le_of_ble_eq_true rfl) (by first | exact Nat.le_of_ble_eq_true rfl | omega | (dsimp only; omega)) (by first | exact Nat.le_of_ble_eq_true rfl | omega | (dsimp only; omega)) ?_ (fun σ4 h9 => ?_)
      · exact fun E σ4 hx => VX_out hG (by first | exact Nat.le_of_ble_eq_true rfl | omega | (dsimp only; omega)) (by first | exact Nat.le_of_ble_eq_true rfl | omega | (dsimp only; omega)) hx
      · replace h := h9
        clear h9
        refine V_aload (v := va_rf x2) hG dX9_setLevel_18 (isRef_rf _) rfl ?_
        obtain ⟨u5, he, h⟩ := h
        subst he
        obtain ⟨ht, h⟩ := h
        refine V_getPv hG dX9_setLevel_20 fl_X9_130 rfl ht (fun o6 ho => ?_)
        replace h := h o6 ho
        refine V_iload_n hG dX9_setLevel_23 rfl ?_
        obtain ⟨u7, he, h⟩ := h
        subst he
        obtain ⟨ha, j8, hi, hj, h⟩ := h
        refine V_iald hG dX9_setLevel_24 ha hi hj ?_
        refine V_istore hG dX9_setLevel_25 (Nat.le_of_ble_eq_true rfl) (hpV rfl rfl) ?_
        refine V_aload (v := .ref u5) hG dX9_setLevel_27 rfl rfl ?_
        refine V_iload_n hG dX9_setLevel_29 rfl ?_
        refine V_iload_n hG dX9_setLevel_30 rfl ?_
        obtain ⟨ht, h⟩ := h
        refine V_cVV _ _ hG dX9_setLevel_31 (ct_X7_reach hl h) mv_X7_reach ml_X9_133 ht rfl rfl rfl rfl (by first | exact Nat.le_of_ble_eq_true rfl | (simp only [List.map_cons, List.map_nil, List.sum_cons, List.sum_nil, cat_rf]; exact Nat.le_of_ble_eq_true rfl)) (Nat.le_of_ble_eq_true rfl) (Nat.le_of_ble_eq_true rfl) (by first | exact Nat.le_of_ble_eq_true rfl | omega | (dsimp only; omega)) (by first | exact Nat.le_of_ble_eq_true rfl | omega | (dsimp only; omega)) ?_ (fun σ9 h9 => ?_)
        · exact fun E σ9 hx => VX_out hG (by first | exact Nat.le_of_ble_eq_true rfl | omega | (dsimp only; omega)) (by first | exact Nat.le_of_ble_eq_true rfl | omega | (dsimp only; omega)) hx
        · replace h := h9
          clear h9
          refine V_iload hG dX9_setLevel_34 rfl ?_
          exact V_iret hG dX9_setLevel_36 (by first | exact Nat.le_of_ble_eq_true rfl | omega | (dsimp only; omega)) (by first | exact Nat.le_of_ble_eq_true rfl | omega | (dsimp only; omega)) h
def wp_X9_buy (this : Nat) (a0 : Int32) (a1 : Int32) (σ : Sg) (Post : Rs → Sg → Prop) : Prop := this % 32 = 9 ∧ wp_X9_kindAt this a0 σ (KO (fun x2 σ1 => wp_X9_requireRange a1 (1 : Int32) (20 : Int32) σ1 (KV (fun σ3 => ∃ u4, x2 = some u4 ∧ u4 % 32 = 2 ∧ wp_X9_requireState (sI σ3 u4 1) σ3 (KV (fun σ5 => this % 32 = 9 ∧ ∀ o6, o6 = sP σ5 this 2 → ∃ u7, o6 = some u7 ∧ u7 % 32 = 8 ∧ wp_X8_newBatch u7 (some u4) a1 (0 : Int32) σ5 (KO (fun x9 σ8 => u4 % 32 = 2 ∧ ∃ u10, x9 = some u10 ∧ u10 % 32 = 0 ∧ this % 32 = 9 ∧ u4 % 32 = 2 ∧ u10 % 32 = 0 ∧ this % 32 = 9 ∧ u10 % 32 = 0 ∧ this % 32 = 9 ∧ u10 % 32 = 0 ∧ Post (.inl (some (.int (sI (wI (wI (wI σ8 u10 3 ((sI σ8 u4 2) * a1)) u10 9 ((sI (wI σ8 u10 3 ((sI σ8 u4 2) * a1)) this 3) + (sI (wI σ8 u10 3 ((sI σ8 u4 2) * a1)) u4 3))) this 5 ((sI (wI (wI σ8 u10 3 ((sI σ8 u4 2) * a1)) u10 9 ((sI (wI σ8 u10 3 ((sI σ8 u4 2) * a1)) this 3) + (sI (wI σ8 u10 3 ((sI σ8 u4 2) * a1)) u4 3))) this 5) + (sI (wI (wI σ8 u10 3 ((sI σ8 u4 2) * a1)) u10 9 ((sI (wI σ8 u10 3 ((sI σ8 u4 2) * a1)) this 3) + (sI (wI σ8 u10 3 ((sI σ8 u4 2) * a1)) u4 3))) u10 3))) u10 0)))) (wI (wI (wI σ8 u10 3 ((sI σ8 u4 2) * a1)) u10 9 ((sI (wI σ8 u10 3 ((sI σ8 u4 2) * a1)) this 3) + (sI (wI σ8 u10 3 ((sI σ8 u4 2) * a1)) u4 3))) this 5 ((sI (wI (wI σ8 u10 3 ((sI σ8 u4 2) * a1)) u10 9 ((sI (wI σ8 u10 3 ((sI σ8 u4 2) * a1)) this 3) + (sI (wI σ8 u10 3 ((sI σ8 u4 2) * a1)) u4 3))) this 5) + (sI (wI (wI σ8 u10 3 ((sI σ8 u4 2) * a1)) u10 9 ((sI (wI σ8 u10 3 ((sI σ8 u4 2) * a1)) this 3) + (sI (wI σ8 u10 3 ((sI σ8 u4 2) * a1)) u4 3))) u10 3)))) (fun E σ8 => Post (.inr E) σ8))) (fun E σ5 => Post (.inr E) σ5))) (fun E σ3 => Post (.inr E) σ3))) (fun E σ1 => Post (.inr E) σ1))
set_option maxRecDepth 100000 in
set_option maxHeartbeats 4000000 in
theorem ct_X9_buy {l : Launch} (hl : l.stackTraces = false) {this : Nat} {a0 : Int32} {a1 : Int32} {σ : Sg} {Post : Rs → Sg → Prop} (h : wp_X9_buy this a0 a1 σ Post) : Ct l yX9_buy (.code yX9_buy cX9_buy 5 (some .int)) 8 124 4 30 [.ref this, .int a0, .int a1] σ Post := by
  refine Ct_of [some (.ref this), some (.int a0), some (.int a1), none, none] hl (by decide +kernel) rfl (fun ad => by rfl) (fun ad => by exact Nat.le_of_ble_eq_true rfl) (fun v hv => mem_lo hv rfl) ?_
  intro G hG
  unfold wp_X9_buy at h
  refine V_aload_n (v := .ref this) hG dX9_buy_0 rfl rfl ?_
  refine V_iload_n hG dX9_buy_1 rfl ?_
  obtain ⟨ht, h⟩ := h
  refine V_cVO _ _ hG dX9_buy_2 (ct_X9_kindAt hl h) mv_X9_kindAt ml_X9_30 ht rfl rfl rfl rfl (by first | exact Nat.le_of_ble_eq_true rfl | (simp only [List.map_cons, List.map_nil, List.sum_cons, List.sum_nil, cat_rf]; exact Nat.le_of_ble_eq_true rfl)) (Nat.le_of_ble_eq_true rfl) (Nat.le_of_ble_eq_true rfl) (by first | exact Nat.le_of_ble_eq_true rfl | omega | (dsimp only; omega)) (by first | exact Nat.le_of_ble_eq_true rfl | omega | (dsimp only; omega)) ?_ (fun x2 σ1 h9 => ?_)
  · exact fun E σ1 hx => VX_out hG (by first | exact Nat.le_of_ble_eq_true rfl | omega | (dsimp only; omega)) (by first | exact Nat.le_of_ble_eq_true rfl | omega | (dsimp only; omega)) hx
  · replace h := h9
    clear h9
    refine V_astore_n hG dX9_buy_5 (isRef_rf _) (Nat.le_of_ble_eq_true rfl) (hpV rfl rfl) ?_
    refine V_iload_n hG dX9_buy_6 rfl ?_
    refine V_iconst (v := 1) hG (by decide) dX9_buy_7 ?_
    refine V_bipush (v := 20) hG (by decide) dX9_buy_8 ?_
    refine V_cSV _ _ hG dX9_buy_10 (ct_X9_requireRange hl h) mv_X9_requireRange ml_X9_34 rfl rfl (by first | exact Nat.le_of_ble_eq_true rfl | (simp only [List.map_cons, List.map_nil, List.sum_cons, List.sum_nil, cat_rf]; exact Nat.le_of_ble_eq_true rfl)) (Nat.le_of_ble_eq_true rfl) (Nat.le_of_ble_eq_true rfl) (by first | exact Nat.le_of_ble_eq_true rfl | omega | (dsimp only; omega)) (by first | exact Nat.le_of_ble_eq_true rfl | omega | (dsimp only; omega)) ?_ (fun σ3 h9 => ?_)
    · exact fun E σ3 hx => VX_out hG (by first | exact Nat.le_of_ble_eq_true rfl | omega | (dsimp only; omega)) (by first | exact Nat.le_of_ble_eq_true rfl | omega | (dsimp only; omega)) hx
    · replace h := h9
      clear h9
      refine V_aload_n (v := va_rf x2) hG dX9_buy_13 (isRef_rf _) rfl ?_
      obtain ⟨u4, he, h⟩ := h
      subst he
      obtain ⟨ht, h⟩ := h
      refine V_getI hG dX9_buy_14 fl_X9_53 rfl ht ?_
      refine V_cSV _ _ hG dX9_buy_17 (ct_X9_requireState hl h) mv_X9_requireState ml_X9_49 rfl rfl (by first | exact Nat.le_of_ble_eq_true rfl | (simp only [List.map_cons, List.map_nil, List.sum_cons, List.sum_nil, cat_rf]; exact Nat.le_of_ble_eq_true rfl)) (Nat.le_of_ble_eq_true rfl) (Nat.le_of_ble_eq_true rfl) (by first | exact Nat.le_of_ble_eq_true rfl | omega | (dsimp only; omega)) (by first | exact Nat.le_of_ble_eq_true rfl | omega | (dsimp only; omega)) ?_ (fun σ5 h9 => ?_)
      · exact fun E σ5 hx => VX_out hG (by first | exact Nat.le_of_ble_eq_true rfl | omega | (dsimp only; omega)) (by first | exact Nat.le_of_ble_eq_true rfl | omega | (dsimp only; omega)) hx
      · replace h := h9
        clear h9
        refine V_aload_n (v := .ref this) hG dX9_buy_20 rfl rfl ?_
        obtain ⟨ht, h⟩ := h
        refine V_getPv hG dX9_buy_21 fl_X9_26 rfl ht (fun o6 ho => ?_)
        replace h := h o6 ho
        refine V_aload_n (v := .ref u4) hG dX9_buy_24 rfl rfl ?_
        refine V_iload_n hG dX9_buy_25 rfl ?_
        refine V_iconst (v := 0) hG (by decide) dX9_buy_26 ?_
        obtain ⟨u7, he, h⟩ := h
        subst he
        obtain ⟨ht, h⟩ := h
        refine V_cVO _ _ hG dX9_buy_27 (ct_X8_newBatch hl h) mv_X8_newBatch ml_X9_136 ht rfl rfl rfl rfl (by first | exact Nat.le_of_ble_eq_true rfl | (simp only [List.map_cons, List.map_nil, List.sum_cons, List.sum_nil, cat_rf]; exact Nat.le_of_ble_eq_true rfl)) (Nat.le_of_ble_eq_true rfl) (Nat.le_of_ble_eq_true rfl) (by first | exact Nat.le_of_ble_eq_true rfl | omega | (dsimp only; omega)) (by first | exact Nat.le_of_ble_eq_true rfl | omega | (dsimp only; omega)) ?_ (fun x9 σ8 h9 => ?_)
        · exact fun E σ8 hx => VX_out hG (by first | exact Nat.le_of_ble_eq_true rfl | omega | (dsimp only; omega)) (by first | exact Nat.le_of_ble_eq_true rfl | omega | (dsimp only; omega)) hx
        · replace h := h9
          clear h9
          refine V_astore hG dX9_buy_30 (isRef_rf _) (Nat.le_of_ble_eq_true rfl) (hpV rfl rfl) ?_
          refine V_aload (v := va_rf x9) hG dX9_buy_32 (isRef_rf _) rfl ?_
          refine V_aload_n (v := .ref u4) hG dX9_buy_34 rfl rfl ?_
          obtain ⟨ht, h⟩ := h
          refine V_getI hG dX9_buy_35 fl_X9_56 rfl ht ?_
          refine V_iload_n hG dX9_buy_38 rfl ?_
          refine V_imul hG dX9_buy_39 ?_
          obtain ⟨u10, he, h⟩ := h
          subst he
          obtain ⟨ht, h⟩ := h
          refine V_putI hG dX9_buy_40 fl_X9_140 rfl (fun e => absurd e (by decide)) rfl ht ?_
          refine V_aload (v := .ref u10) hG dX9_buy_43 rfl rfl ?_
          refine V_aload_n (v := .ref this) hG dX9_buy_45 rfl rfl ?_
          obtain ⟨ht, h⟩ := h
          refine V_getI hG dX9_buy_46 fl_X9_145 rfl ht ?_
          refine V_aload_n (v := .ref u4) hG dX9_buy_49 rfl rfl ?_
          obtain ⟨ht, h⟩ := h
          refine V_getI hG dX9_buy_50 fl_X9_59 rfl ht ?_
          refine V_iadd hG dX9_buy_53 ?_
          obtain ⟨ht, h⟩ := h
          refine V_putI hG dX9_buy_54 fl_X9_148 rfl (fun e => absurd e (by decide)) rfl ht ?_
          refine V_aload_n (v := .ref this) hG dX9_buy_57 rfl rfl ?_
          refine V_dup (v := .ref this) hG rfl dX9_buy_58 ?_
          obtain ⟨ht, h⟩ := h
          refine V_getI hG dX9_buy_59 fl_X9_151 rfl ht ?_
          refine V_aload (v := .ref u10) hG dX9_buy_62 rfl rfl ?_
          obtain ⟨ht, h⟩ := h
          refine V_getI hG dX9_buy_64 fl_X9_140 rfl ht ?_
          refine V_iadd hG dX9_buy_67 ?_
          obtain ⟨ht, h⟩ := h
          refine V_putI hG dX9_buy_68 fl_X9_151 rfl (fun e => absurd e (by decide)) rfl ht ?_
          refine V_aload (v := .ref u10) hG dX9_buy_71 rfl rfl ?_
          obtain ⟨ht, h⟩ := h
          refine V_getI hG dX9_buy_73 fl_X9_154 rfl ht ?_
          exact V_iret hG dX9_buy_76 (by first | exact Nat.le_of_ble_eq_true rfl | omega | (dsimp only; omega)) (by first | exact Nat.le_of_ble_eq_true rfl | omega | (dsimp only; omega)) h
def wp_X9_batchAt (this : Nat) (a0 : Int32) (σ : Sg) (Post : Rs → Sg → Prop) : Prop := this % 32 = 9 ∧ ∀ o1, o1 = sP σ this 2 → ∃ u2, o1 = some u2 ∧ u2 % 32 = 8 ∧ wp_X9_requireIndex a0 (sI σ u2 1) σ (KV (fun σ3 => this % 32 = 9 ∧ ∀ o4, o4 = sP σ3 this 2 → ∃ u5, o4 = some u5 ∧ u5 % 32 = 8 ∧ ∀ o6, o6 = sP σ3 u5 0 → ∃ u7, o6 = some u7 ∧ isRow u7 ∧ ∃ j8, a0 = nI j8 ∧ j8 < aln u7 ∧ ∀ o9, o9 = sP σ3 u7 j8 → Post (.inl (some (va_rf o9))) σ3) (fun E σ3 => Post (.inr E) σ3))
set_option maxRecDepth 100000 in
set_option maxHeartbeats 4000000 in
theorem ct_X9_batchAt {l : Launch} (hl : l.stackTraces = false) {this : Nat} {a0 : Int32} {σ : Sg} {Post : Rs → Sg → Prop} (h : wp_X9_batchAt this a0 σ Post) : Ct l yX9_batchAt (.code yX9_batchAt cX9_batchAt 2 (some (.object "Millrace$Batch"))) 7 103 1 6 [.ref this, .int a0] σ Post := by
  refine Ct_of [some (.ref this), some (.int a0)] hl (by decide +kernel) rfl (fun ad => by rfl) (fun ad => by exact Nat.le_of_ble_eq_true rfl) (fun v hv => mem_lo hv rfl) ?_
  intro G hG
  unfold wp_X9_batchAt at h
  refine V_iload_n hG dX9_batchAt_0 rfl ?_
  refine V_aload_n (v := .ref this) hG dX9_batchAt_1 rfl rfl ?_
  obtain ⟨ht, h⟩ := h
  refine V_getPv hG dX9_batchAt_2 fl_X9_26 rfl ht (fun o1 ho => ?_)
  replace h := h o1 ho
  obtain ⟨u2, he, h⟩ := h
  subst he
  obtain ⟨ht, h⟩ := h
  refine V_getI hG dX9_batchAt_5 fl_X9_224 rfl ht ?_
  refine V_cSV _ _ hG dX9_batchAt_8 (ct_X9_requireIndex hl h) mv_X9_requireIndex ml_X9_81 rfl rfl (by first | exact Nat.le_of_ble_eq_true rfl | (simp only [List.map_cons, List.map_nil, List.sum_cons, List.sum_nil, cat_rf]; exact Nat.le_of_ble_eq_true rfl)) (Nat.le_of_ble_eq_true rfl) (Nat.le_of_ble_eq_true rfl) (by first | exact Nat.le_of_ble_eq_true rfl | omega | (dsimp only; omega)) (by first | exact Nat.le_of_ble_eq_true rfl | omega | (dsimp only; omega)) ?_ (fun σ3 h9 => ?_)
  · exact fun E σ3 hx => VX_out hG (by first | exact Nat.le_of_ble_eq_true rfl | omega | (dsimp only; omega)) (by first | exact Nat.le_of_ble_eq_true rfl | omega | (dsimp only; omega)) hx
  · replace h := h9
    clear h9
    refine V_aload_n (v := .ref this) hG dX9_batchAt_11 rfl rfl ?_
    obtain ⟨ht, h⟩ := h
    refine V_getPv hG dX9_batchAt_12 fl_X9_26 rfl ht (fun o4 ho => ?_)
    replace h := h o4 ho
    obtain ⟨u5, he, h⟩ := h
    subst he
    obtain ⟨ht, h⟩ := h
    refine V_getPv hG dX9_batchAt_15 fl_X9_227 rfl ht (fun o6 ho => ?_)
    replace h := h o6 ho
    refine V_iload_n hG dX9_batchAt_18 rfl ?_
    obtain ⟨u7, he, h⟩ := h
    subst he
    obtain ⟨ha, j8, hi, hj, h⟩ := h
    refine V_aaldv hG dX9_batchAt_19 ha hi hj (fun o9 ho => ?_)
    replace h := h o9 ho
    exact V_aret (v := va_rf o9) hG dX9_batchAt_20 (isRef_rf _) (by first | exact Nat.le_of_ble_eq_true rfl | omega | (dsimp only; omega)) (by first | exact Nat.le_of_ble_eq_true rfl | omega | (dsimp only; omega)) h
def wp_X9_late_25  (v2 : Int32) (v3 : Nat) (s0 : Int32) (σ : Sg) (Post : Rs → Sg → Prop) : Prop := wp_X9_requireState s0 σ (KV (fun σ1 => v3 % 32 = 0 ∧ v3 % 32 = 0 ∧ v3 % 32 = 0 ∧ Post (.inl (some (.int (sI (wI σ1 v3 9 ((sI σ1 v3 9) + v2)) v3 9)))) (wI σ1 v3 9 ((sI σ1 v3 9) + v2))) (fun E σ1 => Post (.inr E) σ1))
set_option maxRecDepth 100000 in
set_option maxHeartbeats 4000000 in
theorem wv_X9_late_25 {L9 : Launch} {G : Cx} {Post : Rs → Sg → Prop} (hl : L9.stackTraces = false) (hG : CX L9 G yX9_late cX9_late 4 (some .int) [] { frames := 8, cells := 3, slots := 18, locals := 124 })   : ∀ (v2 : Int32) (v3 : Nat) (s0 : Int32) (σ : Sg), wp_X9_late_25 v2 v3 s0 σ Post → V G (QM G 3 18 Post) 25 [none, none, some (.int v2), some (.ref v3)] [.int s0] σ 2 12 := by
  intro v2 v3 s0 σ h
  unfold wp_X9_late_25 at h
  refine V_cSV _ _ hG dX9_late_25 (ct_X9_requireState hl h) mv_X9_requireState ml_X9_49 rfl rfl (by first | exact Nat.le_of_ble_eq_true rfl | (simp only [List.map_cons, List.map_nil, List.sum_cons, List.sum_nil, cat_rf]; exact Nat.le_of_ble_eq_true rfl)) (Nat.le_of_ble_eq_true rfl) (Nat.le_of_ble_eq_true rfl) (by first | exact Nat.le_of_ble_eq_true rfl | omega | (dsimp only; omega)) (by first | exact Nat.le_of_ble_eq_true rfl | omega | (dsimp only; omega)) ?_ (fun σ1 h9 => ?_)
  · exact fun E σ1 hx => VX_out hG (by first | exact Nat.le_of_ble_eq_true rfl | omega | (dsimp only; omega)) (by first | exact Nat.le_of_ble_eq_true rfl | omega | (dsimp only; omega)) hx
  · replace h := h9
    clear h9
    refine V_aload_n (v := .ref v3) hG dX9_late_28 rfl rfl ?_
    refine V_dup (v := .ref v3) hG rfl dX9_late_29 ?_
    obtain ⟨ht, h⟩ := h
    refine V_getI hG dX9_late_30 fl_X9_148 rfl ht ?_
    refine V_iload_n hG dX9_late_33 rfl ?_
    refine V_iadd hG dX9_late_34 ?_
    obtain ⟨ht, h⟩ := h
    refine V_putI hG dX9_late_35 fl_X9_148 rfl (fun e => absurd e (by decide)) rfl ht ?_
    refine V_aload_n (v := .ref v3) hG dX9_late_38 rfl rfl ?_
    obtain ⟨ht, h⟩ := h
    refine V_getI hG dX9_late_39 fl_X9_148 rfl ht ?_
    exact V_iret hG dX9_late_42 (by first | exact Nat.le_of_ble_eq_true rfl | omega | (dsimp only; omega)) (by first | exact Nat.le_of_ble_eq_true rfl | omega | (dsimp only; omega)) h
def wp_X9_late (this : Nat) (a0 : Int32) (a1 : Int32) (σ : Sg) (Post : Rs → Sg → Prop) : Prop := this % 32 = 9 ∧ wp_X9_batchAt this a0 σ (KO (fun x2 σ1 => wp_X9_requireRange a1 (1 : Int32) (30 : Int32) σ1 (KV (fun σ3 => ∃ u4, x2 = some u4 ∧ u4 % 32 = 0 ∧ ((¬ (sI σ3 u4 4) = 0 → (wp_X9_late_25 a1 u4 (0 : Int32) σ3 Post)) ∧ ((sI σ3 u4 4) = 0 → (wp_X9_late_25 a1 u4 (1 : Int32) σ3 Post)))) (fun E σ3 => Post (.inr E) σ3))) (fun E σ1 => Post (.inr E) σ1))
set_option maxRecDepth 100000 in
set_option maxHeartbeats 4000000 in
theorem ct_X9_late {l : Launch} (hl : l.stackTraces = false) {this : Nat} {a0 : Int32} {a1 : Int32} {σ : Sg} {Post : Rs → Sg → Prop} (h : wp_X9_late this a0 a1 σ Post) : Ct l yX9_late (.code yX9_late cX9_late 4 (some .int)) 8 124 3 18 [.ref this, .int a0, .int a1] σ Post := by
  refine Ct_of [some (.ref this), some (.int a0), some (.int a1), none] hl (by decide +kernel) rfl (fun ad => by rfl) (fun ad => by exact Nat.le_of_ble_eq_true rfl) (fun v hv => mem_lo hv rfl) ?_
  intro G hG
  unfold wp_X9_late at h
  refine V_aload_n (v := .ref this) hG dX9_late_0 rfl rfl ?_
  refine V_iload_n hG dX9_late_1 rfl ?_
  obtain ⟨ht, h⟩ := h
  refine V_cVO _ _ hG dX9_late_2 (ct_X9_batchAt hl h) mv_X9_batchAt ml_X9_157 ht rfl rfl rfl rfl (by first | exact Nat.le_of_ble_eq_true rfl | (simp only [List.map_cons, List.map_nil, List.sum_cons, List.sum_nil, cat_rf]; exact Nat.le_of_ble_eq_true rfl)) (Nat.le_of_ble_eq_true rfl) (Nat.le_of_ble_eq_true rfl) (by first | exact Nat.le_of_ble_eq_true rfl | omega | (dsimp only; omega)) (by first | exact Nat.le_of_ble_eq_true rfl | omega | (dsimp only; omega)) ?_ (fun x2 σ1 h9 => ?_)
  · exact fun E σ1 hx => VX_out hG (by first | exact Nat.le_of_ble_eq_true rfl | omega | (dsimp only; omega)) (by first | exact Nat.le_of_ble_eq_true rfl | omega | (dsimp only; omega)) hx
  · replace h := h9
    clear h9
    refine V_astore_n hG dX9_late_5 (isRef_rf _) (Nat.le_of_ble_eq_true rfl) (hpV rfl rfl) ?_
    refine V_iload_n hG dX9_late_6 rfl ?_
    refine V_iconst (v := 1) hG (by decide) dX9_late_7 ?_
    refine V_bipush (v := 30) hG (by decide) dX9_late_8 ?_
    refine V_cSV _ _ hG dX9_late_10 (ct_X9_requireRange hl h) mv_X9_requireRange ml_X9_34 rfl rfl (by first | exact Nat.le_of_ble_eq_true rfl | (simp only [List.map_cons, List.map_nil, List.sum_cons, List.sum_nil, cat_rf]; exact Nat.le_of_ble_eq_true rfl)) (Nat.le_of_ble_eq_true rfl) (Nat.le_of_ble_eq_true rfl) (by first | exact Nat.le_of_ble_eq_true rfl | omega | (dsimp only; omega)) (by first | exact Nat.le_of_ble_eq_true rfl | omega | (dsimp only; omega)) ?_ (fun σ3 h9 => ?_)
    · exact fun E σ3 hx => VX_out hG (by first | exact Nat.le_of_ble_eq_true rfl | omega | (dsimp only; omega)) (by first | exact Nat.le_of_ble_eq_true rfl | omega | (dsimp only; omega)) hx
    · replace h := h9
      clear h9
      refine V_aload_n (v := va_rf x2) hG dX9_late_13 (isRef_rf _) rfl ?_
      obtain ⟨u4, he, h⟩ := h
      subst he
      obtain ⟨ht, h⟩ := h
      refine V_getI hG dX9_late_14 fl_X9_161 rfl ht ?_
      refine V_if_ne (tgt := 24) hG dX9_late_17 (by decide) (fun c => ?_) (fun c => ?_)
      · replace h := h.1 c
        refine V_iconst (v := 0) hG (by decide) dX9_late_24 ?_
        refine V_forget (lo' := [none, none, some (.int a1), some (.ref u4)]) ⟨rfl, ⟨rfl, trivial⟩⟩ ?_
        refine V_widen (k' := 2) (n' := 12) (by first | exact Nat.le_of_ble_eq_true rfl | omega | (dsimp only; omega)) (by first | exact Nat.le_of_ble_eq_true rfl | omega | (dsimp only; omega)) ?_
        exact wv_X9_late_25 hl hG  _ _ _ _ h
      · replace h := h.2 c
        refine V_iconst (v := 1) hG (by decide) dX9_late_20 ?_
        refine V_goto (tgt := 25) hG dX9_late_21 (by decide) ?_
        refine V_forget (lo' := [none, none, some (.int a1), some (.ref u4)]) ⟨rfl, ⟨rfl, trivial⟩⟩ ?_
        refine V_widen (k' := 2) (n' := 12) (by first | exact Nat.le_of_ble_eq_true rfl | omega | (dsimp only; omega)) (by first | exact Nat.le_of_ble_eq_true rfl | omega | (dsimp only; omega)) ?_
        exact wv_X9_late_25 hl hG  _ _ _ _ h
def wp_X9_make_34  (this : Nat) (v2 : Int32) (v3 : Int32) (v4 : Nat) (s0 : Int32) (σ : Sg) (Post : Rs → Sg → Prop) : Prop := wp_X9_requireState s0 σ (KV (fun σ1 => this % 32 = 9 ∧ ∀ o2, o2 = sP σ1 this 2 → v4 % 32 = 2 ∧ wp_X2_operationAt v4 (0 : Int32) σ1 (KO (fun x4 σ3 => ∃ u5, o2 = some u5 ∧ u5 % 32 = 8 ∧ wp_X8_hasQueueRoom u5 x4 σ3 (KI (fun x7 σ6 => wp_X9_requireState x7 σ6 (KV (fun σ8 => this % 32 = 9 ∧ ∀ o9, o9 = sP σ8 this 2 → ∃ u10, o9 = some u10 ∧ u10 % 32 = 8 ∧ wp_X8_newBatch u10 (some v4) v2 (1 : Int32) σ8 (KO (fun x12 σ11 => ∃ u13, x12 = some u13 ∧ u13 % 32 = 0 ∧ u13 % 32 = 0 ∧ Post (.inl (some (.int (sI (wI σ11 u13 6 v3) u13 0)))) (wI σ11 u13 6 v3)) (fun E σ11 => Post (.inr E) σ11))) (fun E σ8 => Post (.inr E) σ8))) (fun E σ6 => Post (.inr E) σ6))) (fun E σ3 => Post (.inr E) σ3))) (fun E σ1 => Post (.inr E) σ1))
set_option maxRecDepth 100000 in
set_option maxHeartbeats 4000000 in
theorem wv_X9_make_34 {L9 : Launch} {G : Cx} {Post : Rs → Sg → Prop} (hl : L9.stackTraces = false) (hG : CX L9 G yX9_make cX9_make 6 (some .int) [] { frames := 8, cells := 6, slots := 42, locals := 124 })   : ∀ (this : Nat) (v2 : Int32) (v3 : Int32) (v4 : Nat) (s0 : Int32) (σ : Sg), wp_X9_make_34 this v2 v3 v4 s0 σ Post → V G (QM G 6 42 Post) 34 [some (.ref this), none, some (.int v2), some (.int v3), some (.ref v4), none] [.int s0] σ 3 18 := by
  intro this v2 v3 v4 s0 σ h
  unfold wp_X9_make_34 at h
  refine V_cSV _ _ hG dX9_make_34 (ct_X9_requireState hl h) mv_X9_requireState ml_X9_49 rfl rfl (by first | exact Nat.le_of_ble_eq_true rfl | (simp only [List.map_cons, List.map_nil, List.sum_cons, List.sum_nil, cat_rf]; exact Nat.le_of_ble_eq_true rfl)) (Nat.le_of_ble_eq_true rfl) (Nat.le_of_ble_eq_true rfl) (by first | exact Nat.le_of_ble_eq_true rfl | omega | (dsimp only; omega)) (by first | exact Nat.le_of_ble_eq_true rfl | omega | (dsimp only; omega)) ?_ (fun σ1 h9 => ?_)
  · exact fun E σ1 hx => VX_out hG (by first | exact Nat.le_of_ble_eq_true rfl | omega | (dsimp only; omega)) (by first | exact Nat.le_of_ble_eq_true rfl | omega | (dsimp only; omega)) hx
  · replace h := h9
    clear h9
    refine V_aload_n (v := .ref this) hG dX9_make_37 rfl rfl ?_
    obtain ⟨ht, h⟩ := h
    refine V_getPv hG dX9_make_38 fl_X9_26 rfl ht (fun o2 ho => ?_)
    replace h := h o2 ho
    refine V_aload (v := .ref v4) hG dX9_make_41 rfl rfl ?_
    refine V_iconst (v := 0) hG (by decide) dX9_make_43 ?_
    obtain ⟨ht, h⟩ := h
    refine V_cVO _ _ hG dX9_make_44 (ct_X2_operationAt hl h) mv_X2_operationAt ml_X9_164 ht rfl rfl rfl rfl (by first | exact Nat.le_of_ble_eq_true rfl | (simp only [List.map_cons, List.map_nil, List.sum_cons, List.sum_nil, cat_rf]; exact Nat.le_of_ble_eq_true rfl)) (Nat.le_of_ble_eq_true rfl) (Nat.le_of_ble_eq_true rfl) (by first | exact Nat.le_of_ble_eq_true rfl | omega | (dsimp only; omega)) (by first | exact Nat.le_of_ble_eq_true rfl | omega | (dsimp only; omega)) ?_ (fun x4 σ3 h9 => ?_)
    · exact fun E σ3 hx => VX_out hG (by first | exact Nat.le_of_ble_eq_true rfl | omega | (dsimp only; omega)) (by first | exact Nat.le_of_ble_eq_true rfl | omega | (dsimp only; omega)) hx
    · replace h := h9
      clear h9
      obtain ⟨u5, he, h⟩ := h
      subst he
      obtain ⟨ht, h⟩ := h
      refine V_cVI _ _ hG dX9_make_47 (ct_X8_hasQueueRoom hl h) mv_X8_hasQueueRoom ml_X9_168 ht rfl rfl rfl rfl (by first | exact Nat.le_of_ble_eq_true rfl | (simp only [List.map_cons, List.map_nil, List.sum_cons, List.sum_nil, cat_rf]; exact Nat.le_of_ble_eq_true rfl)) (Nat.le_of_ble_eq_true rfl) (Nat.le_of_ble_eq_true rfl) (by first | exact Nat.le_of_ble_eq_true rfl | omega | (dsimp only; omega)) (by first | exact Nat.le_of_ble_eq_true rfl | omega | (dsimp only; omega)) ?_ (fun x7 σ6 h9 => ?_)
      · exact fun E σ6 hx => VX_out hG (by first | exact Nat.le_of_ble_eq_true rfl | omega | (dsimp only; omega)) (by first | exact Nat.le_of_ble_eq_true rfl | omega | (dsimp only; omega)) hx
      · replace h := h9
        clear h9
        refine V_cSV _ _ hG dX9_make_50 (ct_X9_requireState hl h) mv_X9_requireState ml_X9_49 rfl rfl (by first | exact Nat.le_of_ble_eq_true rfl | (simp only [List.map_cons, List.map_nil, List.sum_cons, List.sum_nil, cat_rf]; exact Nat.le_of_ble_eq_true rfl)) (Nat.le_of_ble_eq_true rfl) (Nat.le_of_ble_eq_true rfl) (by first | exact Nat.le_of_ble_eq_true rfl | omega | (dsimp only; omega)) (by first | exact Nat.le_of_ble_eq_true rfl | omega | (dsimp only; omega)) ?_ (fun σ8 h9 => ?_)
        · exact fun E σ8 hx => VX_out hG (by first | exact Nat.le_of_ble_eq_true rfl | omega | (dsimp only; omega)) (by first | exact Nat.le_of_ble_eq_true rfl | omega | (dsimp only; omega)) hx
        · replace h := h9
          clear h9
          refine V_aload_n (v := .ref this) hG dX9_make_53 rfl rfl ?_
          obtain ⟨ht, h⟩ := h
          refine V_getPv hG dX9_make_54 fl_X9_26 rfl ht (fun o9 ho => ?_)
          replace h := h o9 ho
          refine V_aload (v := .ref v4) hG dX9_make_57 rfl rfl ?_
          refine V_iload_n hG dX9_make_59 rfl ?_
          refine V_iconst (v := 1) hG (by decide) dX9_make_60 ?_
          obtain ⟨u10, he, h⟩ := h
          subst he
          obtain ⟨ht, h⟩ := h
          refine V_cVO _ _ hG dX9_make_61 (ct_X8_newBatch hl h) mv_X8_newBatch ml_X9_136 ht rfl rfl rfl rfl (by first | exact Nat.le_of_ble_eq_true rfl | (simp only [List.map_cons, List.map_nil, List.sum_cons, List.sum_nil, cat_rf]; exact Nat.le_of_ble_eq_true rfl)) (Nat.le_of_ble_eq_true rfl) (Nat.le_of_ble_eq_true rfl) (by first | exact Nat.le_of_ble_eq_true rfl | omega | (dsimp only; omega)) (by first | exact Nat.le_of_ble_eq_true rfl | omega | (dsimp only; omega)) ?_ (fun x12 σ11 h9 => ?_)
          · exact fun E σ11 hx => VX_out hG (by first | exact Nat.le_of_ble_eq_true rfl | omega | (dsimp only; omega)) (by first | exact Nat.le_of_ble_eq_true rfl | omega | (dsimp only; omega)) hx
          · replace h := h9
            clear h9
            refine V_astore hG dX9_make_64 (isRef_rf _) (Nat.le_of_ble_eq_true rfl) (hpV rfl rfl) ?_
            refine V_aload (v := va_rf x12) hG dX9_make_66 (isRef_rf _) rfl ?_
            refine V_iload_n hG dX9_make_68 rfl ?_
            obtain ⟨u13, he, h⟩ := h
            subst he
            obtain ⟨ht, h⟩ := h
            refine V_putI hG dX9_make_69 fl_X9_172 rfl (fun e => absurd e (by decide)) rfl ht ?_
            refine V_aload (v := .ref u13) hG dX9_make_72 rfl rfl ?_
            obtain ⟨ht, h⟩ := h
            refine V_getI hG dX9_make_74 fl_X9_154 rfl ht ?_
            exact V_iret hG dX9_make_77 (by first | exact Nat.le_of_ble_eq_true rfl | omega | (dsimp only; omega)) (by first | exact Nat.le_of_ble_eq_true rfl | omega | (dsimp only; omega)) h
def wp_X9_make (this : Nat) (a0 : Int32) (a1 : Int32) (a2 : Int32) (σ : Sg) (Post : Rs → Sg → Prop) : Prop := this % 32 = 9 ∧ wp_X9_kindAt this a0 σ (KO (fun x2 σ1 => wp_X9_requireRange a1 (1 : Int32) (20 : Int32) σ1 (KV (fun σ3 => wp_X9_requireRange a2 (0 : Int32) (9 : Int32) σ3 (KV (fun σ4 => ∃ u5, x2 = some u5 ∧ u5 % 32 = 2 ∧ (((sI σ4 u5 7) ≤ 0 → (wp_X9_make_34 this a1 a2 u5 (0 : Int32) σ4 Post)) ∧ (¬ (sI σ4 u5 7) ≤ 0 → (wp_X9_make_34 this a1 a2 u5 (1 : Int32) σ4 Post)))) (fun E σ4 => Post (.inr E) σ4))) (fun E σ3 => Post (.inr E) σ3))) (fun E σ1 => Post (.inr E) σ1))
set_option maxRecDepth 100000 in
set_option maxHeartbeats 4000000 in
theorem ct_X9_make {l : Launch} (hl : l.stackTraces = false) {this : Nat} {a0 : Int32} {a1 : Int32} {a2 : Int32} {σ : Sg} {Post : Rs → Sg → Prop} (h : wp_X9_make this a0 a1 a2 σ Post) : Ct l yX9_make (.code yX9_make cX9_make 6 (some .int)) 8 124 6 42 [.ref this, .int a0, .int a1, .int a2] σ Post := by
  refine Ct_of [some (.ref this), some (.int a0), some (.int a1), some (.int a2), none, none] hl (by decide +kernel) rfl (fun ad => by rfl) (fun ad => by exact Nat.le_of_ble_eq_true rfl) (fun v hv => mem_lo hv rfl) ?_
  intro G hG
  unfold wp_X9_make at h
  refine V_aload_n (v := .ref this) hG dX9_make_0 rfl rfl ?_
  refine V_iload_n hG dX9_make_1 rfl ?_
  obtain ⟨ht, h⟩ := h
  refine V_cVO _ _ hG dX9_make_2 (ct_X9_kindAt hl h) mv_X9_kindAt ml_X9_30 ht rfl rfl rfl rfl (by first | exact Nat.le_of_ble_eq_true rfl | (simp only [List.map_cons, List.map_nil, List.sum_cons, List.sum_nil, cat_rf]; exact Nat.le_of_ble_eq_true rfl)) (Nat.le_of_ble_eq_true rfl) (Nat.le_of_ble_eq_true rfl) (by first | exact Nat.le_of_ble_eq_true rfl | omega | (dsimp only; omega)) (by first | exact Nat.le_of_ble_eq_true rfl | omega | (dsimp only; omega)) ?_ (fun x2 σ1 h9 => ?_)
  · exact fun E σ1 hx => VX_out hG (by first | exact Nat.le_of_ble_eq_true rfl | omega | (dsimp only; omega)) (by first | exact Nat.le_of_ble_eq_true rfl | omega | (dsimp only; omega)) hx
  · replace h := h9
    clear h9
    refine V_astore hG dX9_make_5 (isRef_rf _) (Nat.le_of_ble_eq_true rfl) (hpV rfl rfl) ?_
    refine V_iload_n hG dX9_make_7 rfl ?_
    refine V_iconst (v := 1) hG (by decide) dX9_make_8 ?_
    refine V_bipush (v := 20) hG (by decide) dX9_make_9 ?_
    refine V_cSV _ _ hG dX9_make_11 (ct_X9_requireRange hl h) mv_X9_requireRange ml_X9_34 rfl rfl (by first | exact Nat.le_of_ble_eq_true rfl | (simp only [List.map_cons, List.map_nil, List.sum_cons, List.sum_nil, cat_rf]; exact Nat.le_of_ble_eq_true rfl)) (Nat.le_of_ble_eq_true rfl) (Nat.le_of_ble_eq_true rfl) (by first | exact Nat.le_of_ble_eq_true rfl | omega | (dsimp only; omega)) (by first | exact Nat.le_of_ble_eq_true rfl | omega | (dsimp only; omega)) ?_ (fun σ3 h9 => ?_)
    · exact fun E σ3 hx => VX_out hG (by first | exact Nat.le_of_ble_eq_true rfl | omega | (dsimp only; omega)) (by first | exact Nat.le_of_ble_eq_true rfl | omega | (dsimp only; omega)) hx
    · replace h := h9
      clear h9
      refine V_iload_n hG dX9_make_14 rfl ?_
      refine V_iconst (v := 0) hG (by decide) dX9_make_15 ?_
      refine V_bipush (v := 9) hG (by decide) dX9_make_16 ?_
      refine V_cSV _ _ hG dX9_make_18 (ct_X9_requireRange hl h) mv_X9_requireRange ml_X9_34 rfl rfl (by first | exact Nat.le_of_ble_eq_true rfl | (simp only [List.map_cons, List.map_nil, List.sum_cons, List.sum_nil, cat_rf]; exact Nat.le_of_ble_eq_true rfl)) (Nat.le_of_ble_eq_true rfl) (Nat.le_of_ble_eq_true rfl) (by first | exact Nat.le_of_ble_eq_true rfl | omega | (dsimp only; omega)) (by first | exact Nat.le_of_ble_eq_true rfl | omega | (dsimp only; omega)) ?_ (fun σ4 h9 => ?_)
      · exact fun E σ4 hx => VX_out hG (by first | exact Nat.le_of_ble_eq_true rfl | omega | (dsimp only; omega)) (by first | exact Nat.le_of_ble_eq_true rfl | omega | (dsimp only; omega)) hx
      · replace h := h9
        clear h9
        refine V_aload (v := va_rf x2) hG dX9_make_21 (isRef_rf _) rfl ?_
        obtain ⟨u5, he, h⟩ := h
        subst he
        obtain ⟨ht, h⟩ := h
        refine V_getI hG dX9_make_23 fl_X9_46 rfl ht ?_
        refine V_if_le (tgt := 33) hG dX9_make_26 (by decide) (fun c => ?_) (fun c => ?_)
        · replace h := h.1 c
          refine V_iconst (v := 0) hG (by decide) dX9_make_33 ?_
          refine V_forget (lo' := [some (.ref this), none, some (.int a1), some (.int a2), some (.ref u5), none]) ⟨rfl, ⟨rfl, ⟨rfl, ⟨rfl, trivial⟩⟩⟩⟩ ?_
          refine V_widen (k' := 3) (n' := 18) (by first | exact Nat.le_of_ble_eq_true rfl | omega | (dsimp only; omega)) (by first | exact Nat.le_of_ble_eq_true rfl | omega | (dsimp only; omega)) ?_
          exact wv_X9_make_34 hl hG  _ _ _ _ _ _ h
        · replace h := h.2 c
          refine V_iconst (v := 1) hG (by decide) dX9_make_29 ?_
          refine V_goto (tgt := 34) hG dX9_make_30 (by decide) ?_
          refine V_forget (lo' := [some (.ref this), none, some (.int a1), some (.int a2), some (.ref u5), none]) ⟨rfl, ⟨rfl, ⟨rfl, ⟨rfl, trivial⟩⟩⟩⟩ ?_
          refine V_widen (k' := 3) (n' := 18) (by first | exact Nat.le_of_ble_eq_true rfl | omega | (dsimp only; omega)) (by first | exact Nat.le_of_ble_eq_true rfl | omega | (dsimp only; omega)) ?_
          exact wv_X9_make_34 hl hG  _ _ _ _ _ _ h
def wp_X9_rank_28  (v2 : Int32) (v3 : Int32) (v4 : Nat) (s0 : Int32) (σ : Sg) (Post : Rs → Sg → Prop) : Prop := wp_X9_requireState s0 σ (KV (fun σ1 => v4 % 32 = 0 ∧ v4 % 32 = 0 ∧ v4 % 32 = 0 ∧ b01 v3 ∧ (b01 (sI σ1 v4 7) ∧ Post (.inl (some (.int (sI σ1 v4 7)))) (wI (wI σ1 v4 6 v2) v4 7 v3))) (fun E σ1 => Post (.inr E) σ1))
set_option maxRecDepth 100000 in
set_option maxHeartbeats 4000000 in
theorem wv_X9_rank_28 {L9 : Launch} {G : Cx} {Post : Rs → Sg → Prop} (hl : L9.stackTraces = false) (hG : CX L9 G yX9_rank cX9_rank 6 (some .boolean) [] { frames := 8, cells := 3, slots := 18, locals := 124 })   : ∀ (v2 : Int32) (v3 : Int32) (v4 : Nat) (s0 : Int32) (σ : Sg), wp_X9_rank_28 v2 v3 v4 s0 σ Post → V G (QM G 3 18 Post) 28 [none, none, some (.int v2), some (.int v3), some (.ref v4), none] [.int s0] σ 2 12 := by
  intro v2 v3 v4 s0 σ h
  unfold wp_X9_rank_28 at h
  refine V_cSV _ _ hG dX9_rank_28 (ct_X9_requireState hl h) mv_X9_requireState ml_X9_49 rfl rfl (by first | exact Nat.le_of_ble_eq_true rfl | (simp only [List.map_cons, List.map_nil, List.sum_cons, List.sum_nil, cat_rf]; exact Nat.le_of_ble_eq_true rfl)) (Nat.le_of_ble_eq_true rfl) (Nat.le_of_ble_eq_true rfl) (by first | exact Nat.le_of_ble_eq_true rfl | omega | (dsimp only; omega)) (by first | exact Nat.le_of_ble_eq_true rfl | omega | (dsimp only; omega)) ?_ (fun σ1 h9 => ?_)
  · exact fun E σ1 hx => VX_out hG (by first | exact Nat.le_of_ble_eq_true rfl | omega | (dsimp only; omega)) (by first | exact Nat.le_of_ble_eq_true rfl | omega | (dsimp only; omega)) hx
  · replace h := h9
    clear h9
    refine V_aload (v := .ref v4) hG dX9_rank_31 rfl rfl ?_
    obtain ⟨ht, h⟩ := h
    refine V_getI hG dX9_rank_33 fl_X9_175 rfl ht ?_
    refine V_istore hG dX9_rank_36 (Nat.le_of_ble_eq_true rfl) (hpV rfl rfl) ?_
    refine V_aload (v := .ref v4) hG dX9_rank_38 rfl rfl ?_
    refine V_iload_n hG dX9_rank_40 rfl ?_
    obtain ⟨ht, h⟩ := h
    refine V_putI hG dX9_rank_41 fl_X9_172 rfl (fun e => absurd e (by decide)) rfl ht ?_
    refine V_aload (v := .ref v4) hG dX9_rank_44 rfl rfl ?_
    refine V_iload_n hG dX9_rank_46 rfl ?_
    obtain ⟨ht, h⟩ := h
    obtain ⟨hb, h⟩ := h
    refine V_putI hG dX9_rank_47 fl_X9_175 rfl (fun _ => hb) rfl ht ?_
    refine V_iload hG dX9_rank_50 rfl ?_
    exact V_zret hG dX9_rank_52 h.1 (by first | exact Nat.le_of_ble_eq_true rfl | omega | (dsimp only; omega)) (by first | exact Nat.le_of_ble_eq_true rfl | omega | (dsimp only; omega)) h.2
def wp_X9_rank (this : Nat) (a0 : Int32) (a1 : Int32) (a2 : Int32) (σ : Sg) (Post : Rs → Sg → Prop) : Prop := this % 32 = 9 ∧ wp_X9_batchAt this a0 σ (KO (fun x2 σ1 => wp_X9_requireRange a1 (0 : Int32) (9 : Int32) σ1 (KV (fun σ3 => ∃ u4, x2 = some u4 ∧ u4 % 32 = 0 ∧ ((¬ (sI σ3 u4 4) = (1 : Int32) → (wp_X9_rank_28 a1 a2 u4 (0 : Int32) σ3 Post)) ∧ ((sI σ3 u4 4) = (1 : Int32) → (wp_X9_rank_28 a1 a2 u4 (1 : Int32) σ3 Post)))) (fun E σ3 => Post (.inr E) σ3))) (fun E σ1 => Post (.inr E) σ1))
set_option maxRecDepth 100000 in
set_option maxHeartbeats 4000000 in
theorem ct_X9_rank {l : Launch} (hl : l.stackTraces = false) {this : Nat} {a0 : Int32} {a1 : Int32} {a2 : Int32} {σ : Sg} {Post : Rs → Sg → Prop} (h : wp_X9_rank this a0 a1 a2 σ Post) : Ct l yX9_rank (.code yX9_rank cX9_rank 6 (some .boolean)) 8 124 3 18 [.ref this, .int a0, .int a1, .int a2] σ Post := by
  refine Ct_of [some (.ref this), some (.int a0), some (.int a1), some (.int a2), none, none] hl (by decide +kernel) rfl (fun ad => by rfl) (fun ad => by exact Nat.le_of_ble_eq_true rfl) (fun v hv => mem_lo hv rfl) ?_
  intro G hG
  unfold wp_X9_rank at h
  refine V_aload_n (v := .ref this) hG dX9_rank_0 rfl rfl ?_
  refine V_iload_n hG dX9_rank_1 rfl ?_
  obtain ⟨ht, h⟩ := h
  refine V_cVO _ _ hG dX9_rank_2 (ct_X9_batchAt hl h) mv_X9_batchAt ml_X9_157 ht rfl rfl rfl rfl (by first | exact Nat.le_of_ble_eq_true rfl | (simp only [List.map_cons, List.map_nil, List.sum_cons, List.sum_nil, cat_rf]; exact Nat.le_of_ble_eq_true rfl)) (Nat.le_of_ble_eq_true rfl) (Nat.le_of_ble_eq_true rfl) (by first | exact Nat.le_of_ble_eq_true rfl | omega | (dsimp only; omega)) (by first | exact Nat.le_of_ble_eq_true rfl | omega | (dsimp only; omega)) ?_ (fun x2 σ1 h9 => ?_)
  · exact fun E σ1 hx => VX_out hG (by first | exact Nat.le_of_ble_eq_true rfl | omega | (dsimp only; omega)) (by first | exact Nat.le_of_ble_eq_true rfl | omega | (dsimp only; omega)) hx
  · replace h := h9
    clear h9
    refine V_astore hG dX9_rank_5 (isRef_rf _) (Nat.le_of_ble_eq_true rfl) (hpV rfl rfl) ?_
    refine V_iload_n hG dX9_rank_7 rfl ?_
    refine V_iconst (v := 0) hG (by decide) dX9_rank_8 ?_
    refine V_bipush (v := 9) hG (by decide) dX9_rank_9 ?_
    refine V_cSV _ _ hG dX9_rank_11 (ct_X9_requireRange hl h) mv_X9_requireRange ml_X9_34 rfl rfl (by first | exact Nat.le_of_ble_eq_true rfl | (simp only [List.map_cons, List.map_nil, List.sum_cons, List.sum_nil, cat_rf]; exact Nat.le_of_ble_eq_true rfl)) (Nat.le_of_ble_eq_true rfl) (Nat.le_of_ble_eq_true rfl) (by first | exact Nat.le_of_ble_eq_true rfl | omega | (dsimp only; omega)) (by first | exact Nat.le_of_ble_eq_true rfl | omega | (dsimp only; omega)) ?_ (fun σ3 h9 => ?_)
    · exact fun E σ3 hx => VX_out hG (by first | exact Nat.le_of_ble_eq_true rfl | omega | (dsimp only; omega)) (by first | exact Nat.le_of_ble_eq_true rfl | omega | (dsimp only; omega)) hx
    · replace h := h9
      clear h9
      refine V_aload (v := va_rf x2) hG dX9_rank_14 (isRef_rf _) rfl ?_
      obtain ⟨u4, he, h⟩ := h
      subst he
      obtain ⟨ht, h⟩ := h
      refine V_getI hG dX9_rank_16 fl_X9_161 rfl ht ?_
      refine V_iconst (v := 1) hG (by decide) dX9_rank_19 ?_
      refine V_icmp_ne (tgt := 27) hG dX9_rank_20 (by decide) (fun c => ?_) (fun c => ?_)
      · replace h := h.1 c
        refine V_iconst (v := 0) hG (by decide) dX9_rank_27 ?_
        refine V_forget (lo' := [none, none, some (.int a1), some (.int a2), some (.ref u4), none]) ⟨rfl, ⟨rfl, ⟨rfl, trivial⟩⟩⟩ ?_
        refine V_widen (k' := 2) (n' := 12) (by first | exact Nat.le_of_ble_eq_true rfl | omega | (dsimp only; omega)) (by first | exact Nat.le_of_ble_eq_true rfl | omega | (dsimp only; omega)) ?_
        exact wv_X9_rank_28 hl hG  _ _ _ _ _ h
      · replace h := h.2 c
        refine V_iconst (v := 1) hG (by decide) dX9_rank_23 ?_
        refine V_goto (tgt := 28) hG dX9_rank_24 (by decide) ?_
        refine V_forget (lo' := [none, none, some (.int a1), some (.int a2), some (.ref u4), none]) ⟨rfl, ⟨rfl, ⟨rfl, trivial⟩⟩⟩ ?_
        refine V_widen (k' := 2) (n' := 12) (by first | exact Nat.le_of_ble_eq_true rfl | omega | (dsimp only; omega)) (by first | exact Nat.le_of_ble_eq_true rfl | omega | (dsimp only; omega)) ?_
        exact wv_X9_rank_28 hl hG  _ _ _ _ _ h
def wp_X9_split_47  (this : Nat) (v2 : Int32) (v3 : Nat) (s0 : Int32) (σ : Sg) (Post : Rs → Sg → Prop) : Prop := wp_X9_requireState s0 σ (KV (fun σ1 => this % 32 = 9 ∧ ∀ o2, o2 = sP σ1 this 2 → v3 % 32 = 0 ∧ wp_X0_operationNow v3 σ1 (KO (fun x4 σ3 => ∃ u5, o2 = some u5 ∧ u5 % 32 = 8 ∧ wp_X8_hasQueueRoom u5 x4 σ3 (KI (fun x7 σ6 => wp_X9_requireState x7 σ6 (KV (fun σ8 => this % 32 = 9 ∧ ∀ o9, o9 = sP σ8 this 2 → v3 % 32 = 0 ∧ ∀ o10, o10 = sP σ8 v3 1 → ∃ u11, o9 = some u11 ∧ u11 % 32 = 8 ∧ wp_X8_newBatch u11 o10 v2 (1 : Int32) σ8 (KO (fun x13 σ12 => v3 % 32 = 0 ∧ ∃ u14, x13 = some u14 ∧ u14 % 32 = 0 ∧ v3 % 32 = 0 ∧ u14 % 32 = 0 ∧ v3 % 32 = 0 ∧ u14 % 32 = 0 ∧ b01 (sI (wI (wI σ12 u14 5 (sI σ12 v3 5)) u14 6 (sI (wI σ12 u14 5 (sI σ12 v3 5)) v3 6)) v3 8) ∧ v3 % 32 = 0 ∧ u14 % 32 = 0 ∧ v3 % 32 = 0 ∧ wp_X0_bit v3 (wI (wI (wI (wI σ12 u14 5 (sI σ12 v3 5)) u14 6 (sI (wI σ12 u14 5 (sI σ12 v3 5)) v3 6)) u14 8 (sI (wI (wI σ12 u14 5 (sI σ12 v3 5)) u14 6 (sI (wI σ12 u14 5 (sI σ12 v3 5)) v3 6)) v3 8)) u14 10 (sI (wI (wI (wI σ12 u14 5 (sI σ12 v3 5)) u14 6 (sI (wI σ12 u14 5 (sI σ12 v3 5)) v3 6)) u14 8 (sI (wI (wI σ12 u14 5 (sI σ12 v3 5)) u14 6 (sI (wI σ12 u14 5 (sI σ12 v3 5)) v3 6)) v3 8)) v3 10)) (KJ (fun x16 σ15 => u14 % 32 = 0 ∧ v3 % 32 = 0 ∧ wp_X0_giveUp v3 v2 (wL σ15 u14 11 x16) (KI (fun x18 σ17 => u14 % 32 = 0 ∧ u14 % 32 = 0 ∧ Post (.inl (some (.int (sI (wI σ17 u14 3 x18) u14 0)))) (wI σ17 u14 3 x18)) (fun E σ17 => Post (.inr E) σ17))) (fun E σ15 => Post (.inr E) σ15))) (fun E σ12 => Post (.inr E) σ12))) (fun E σ8 => Post (.inr E) σ8))) (fun E σ6 => Post (.inr E) σ6))) (fun E σ3 => Post (.inr E) σ3))) (fun E σ1 => Post (.inr E) σ1))
set_option maxRecDepth 100000 in
set_option maxHeartbeats 4000000 in
theorem wv_X9_split_47 {L9 : Launch} {G : Cx} {Post : Rs → Sg → Prop} (hl : L9.stackTraces = false) (hG : CX L9 G yX9_split cX9_split 5 (some .int) [] { frames := 8, cells := 5, slots := 36, locals := 124 })   : ∀ (this : Nat) (v2 : Int32) (v3 : Nat) (s0 : Int32) (σ : Sg), wp_X9_split_47 this v2 v3 s0 σ Post → V G (QM G 5 36 Post) 47 [some (.ref this), none, some (.int v2), some (.ref v3), none] [.int s0] σ 2 12 := by
  intro this v2 v3 s0 σ h
  unfold wp_X9_split_47 at h
  refine V_cSV _ _ hG dX9_split_47 (ct_X9_requireState hl h) mv_X9_requireState ml_X9_49 rfl rfl (by first | exact Nat.le_of_ble_eq_true rfl | (simp only [List.map_cons, List.map_nil, List.sum_cons, List.sum_nil, cat_rf]; exact Nat.le_of_ble_eq_true rfl)) (Nat.le_of_ble_eq_true rfl) (Nat.le_of_ble_eq_true rfl) (by first | exact Nat.le_of_ble_eq_true rfl | omega | (dsimp only; omega)) (by first | exact Nat.le_of_ble_eq_true rfl | omega | (dsimp only; omega)) ?_ (fun σ1 h9 => ?_)
  · exact fun E σ1 hx => VX_out hG (by first | exact Nat.le_of_ble_eq_true rfl | omega | (dsimp only; omega)) (by first | exact Nat.le_of_ble_eq_true rfl | omega | (dsimp only; omega)) hx
  · replace h := h9
    clear h9
    refine V_aload_n (v := .ref this) hG dX9_split_50 rfl rfl ?_
    obtain ⟨ht, h⟩ := h
    refine V_getPv hG dX9_split_51 fl_X9_26 rfl ht (fun o2 ho => ?_)
    replace h := h o2 ho
    refine V_aload_n (v := .ref v3) hG dX9_split_54 rfl rfl ?_
    obtain ⟨ht, h⟩ := h
    refine V_cVO _ _ hG dX9_split_55 (ct_X0_operationNow hl h) mv_X0_operationNow ml_X9_181 ht rfl rfl rfl rfl (by first | exact Nat.le_of_ble_eq_true rfl | (simp only [List.map_cons, List.map_nil, List.sum_cons, List.sum_nil, cat_rf]; exact Nat.le_of_ble_eq_true rfl)) (Nat.le_of_ble_eq_true rfl) (Nat.le_of_ble_eq_true rfl) (by first | exact Nat.le_of_ble_eq_true rfl | omega | (dsimp only; omega)) (by first | exact Nat.le_of_ble_eq_true rfl | omega | (dsimp only; omega)) ?_ (fun x4 σ3 h9 => ?_)
    · exact fun E σ3 hx => VX_out hG (by first | exact Nat.le_of_ble_eq_true rfl | omega | (dsimp only; omega)) (by first | exact Nat.le_of_ble_eq_true rfl | omega | (dsimp only; omega)) hx
    · replace h := h9
      clear h9
      obtain ⟨u5, he, h⟩ := h
      subst he
      obtain ⟨ht, h⟩ := h
      refine V_cVI _ _ hG dX9_split_58 (ct_X8_hasQueueRoom hl h) mv_X8_hasQueueRoom ml_X9_168 ht rfl rfl rfl rfl (by first | exact Nat.le_of_ble_eq_true rfl | (simp only [List.map_cons, List.map_nil, List.sum_cons, List.sum_nil, cat_rf]; exact Nat.le_of_ble_eq_true rfl)) (Nat.le_of_ble_eq_true rfl) (Nat.le_of_ble_eq_true rfl) (by first | exact Nat.le_of_ble_eq_true rfl | omega | (dsimp only; omega)) (by first | exact Nat.le_of_ble_eq_true rfl | omega | (dsimp only; omega)) ?_ (fun x7 σ6 h9 => ?_)
      · exact fun E σ6 hx => VX_out hG (by first | exact Nat.le_of_ble_eq_true rfl | omega | (dsimp only; omega)) (by first | exact Nat.le_of_ble_eq_true rfl | omega | (dsimp only; omega)) hx
      · replace h := h9
        clear h9
        refine V_cSV _ _ hG dX9_split_61 (ct_X9_requireState hl h) mv_X9_requireState ml_X9_49 rfl rfl (by first | exact Nat.le_of_ble_eq_true rfl | (simp only [List.map_cons, List.map_nil, List.sum_cons, List.sum_nil, cat_rf]; exact Nat.le_of_ble_eq_true rfl)) (Nat.le_of_ble_eq_true rfl) (Nat.le_of_ble_eq_true rfl) (by first | exact Nat.le_of_ble_eq_true rfl | omega | (dsimp only; omega)) (by first | exact Nat.le_of_ble_eq_true rfl | omega | (dsimp only; omega)) ?_ (fun σ8 h9 => ?_)
        · exact fun E σ8 hx => VX_out hG (by first | exact Nat.le_of_ble_eq_true rfl | omega | (dsimp only; omega)) (by first | exact Nat.le_of_ble_eq_true rfl | omega | (dsimp only; omega)) hx
        · replace h := h9
          clear h9
          refine V_aload_n (v := .ref this) hG dX9_split_64 rfl rfl ?_
          obtain ⟨ht, h⟩ := h
          refine V_getPv hG dX9_split_65 fl_X9_26 rfl ht (fun o9 ho => ?_)
          replace h := h o9 ho
          refine V_aload_n (v := .ref v3) hG dX9_split_68 rfl rfl ?_
          obtain ⟨ht, h⟩ := h
          refine V_getPv hG dX9_split_69 fl_X9_185 rfl ht (fun o10 ho => ?_)
          replace h := h o10 ho
          refine V_iload_n hG dX9_split_72 rfl ?_
          refine V_iconst (v := 1) hG (by decide) dX9_split_73 ?_
          obtain ⟨u11, he, h⟩ := h
          subst he
          obtain ⟨ht, h⟩ := h
          refine V_cVO _ _ hG dX9_split_74 (ct_X8_newBatch hl h) mv_X8_newBatch ml_X9_136 ht rfl rfl rfl rfl (by first | exact Nat.le_of_ble_eq_true rfl | (simp only [List.map_cons, List.map_nil, List.sum_cons, List.sum_nil, cat_rf]; exact Nat.le_of_ble_eq_true rfl)) (Nat.le_of_ble_eq_true rfl) (Nat.le_of_ble_eq_true rfl) (by first | exact Nat.le_of_ble_eq_true rfl | omega | (dsimp only; omega)) (by first | exact Nat.le_of_ble_eq_true rfl | omega | (dsimp only; omega)) ?_ (fun x13 σ12 h9 => ?_)
          · exact fun E σ12 hx => VX_out hG (by first | exact Nat.le_of_ble_eq_true rfl | omega | (dsimp only; omega)) (by first | exact Nat.le_of_ble_eq_true rfl | omega | (dsimp only; omega)) hx
          · replace h := h9
            clear h9
            refine V_astore hG dX9_split_77 (isRef_rf _) (Nat.le_of_ble_eq_true rfl) (hpV rfl rfl) ?_
            refine V_aload (v := va_rf x13) hG dX9_split_79 (isRef_rf _) rfl ?_
            refine V_aload_n (v := .ref v3) hG dX9_split_81 rfl rfl ?_
            obtain ⟨ht, h⟩ := h
            refine V_getI hG dX9_split_82 fl_X9_189 rfl ht ?_
            obtain ⟨u14, he, h⟩ := h
            subst he
            obtain ⟨ht, h⟩ := h
            refine V_putI hG dX9_split_85 fl_X9_189 rfl (fun e => absurd e (by decide)) rfl ht ?_
            refine V_aload (v := .ref u14) hG dX9_split_88 rfl rfl ?_
            refine V_aload_n (v := .ref v3) hG dX9_split_90 rfl rfl ?_
            obtain ⟨ht, h⟩ := h
            refine V_getI hG dX9_split_91 fl_X9_172 rfl ht ?_
            obtain ⟨ht, h⟩ := h
            refine V_putI hG dX9_split_94 fl_X9_172 rfl (fun e => absurd e (by decide)) rfl ht ?_
            refine V_aload (v := .ref u14) hG dX9_split_97 rfl rfl ?_
            refine V_aload_n (v := .ref v3) hG dX9_split_99 rfl rfl ?_
            obtain ⟨ht, h⟩ := h
            refine V_getI hG dX9_split_100 fl_X9_192 rfl ht ?_
            obtain ⟨ht, h⟩ := h
            obtain ⟨hb, h⟩ := h
            refine V_putI hG dX9_split_103 fl_X9_192 rfl (fun _ => hb) rfl ht ?_
            refine V_aload (v := .ref u14) hG dX9_split_106 rfl rfl ?_
            refine V_aload_n (v := .ref v3) hG dX9_split_108 rfl rfl ?_
            obtain ⟨ht, h⟩ := h
            refine V_getI hG dX9_split_109 fl_X9_195 rfl ht ?_
            obtain ⟨ht, h⟩ := h
            refine V_putI hG dX9_split_112 fl_X9_195 rfl (fun e => absurd e (by decide)) rfl ht ?_
            refine V_aload (v := .ref u14) hG dX9_split_115 rfl rfl ?_
            refine V_aload_n (v := .ref v3) hG dX9_split_117 rfl rfl ?_
            obtain ⟨ht, h⟩ := h
            refine V_cVJ _ _ hG dX9_split_118 (ct_X0_bit hl h) mv_X0_bit ml_X9_198 ht rfl rfl rfl rfl (by first | exact Nat.le_of_ble_eq_true rfl | (simp only [List.map_cons, List.map_nil, List.sum_cons, List.sum_nil, cat_rf]; exact Nat.le_of_ble_eq_true rfl)) (Nat.le_of_ble_eq_true rfl) (Nat.le_of_ble_eq_true rfl) (by first | exact Nat.le_of_ble_eq_true rfl | omega | (dsimp only; omega)) (by first | exact Nat.le_of_ble_eq_true rfl | omega | (dsimp only; omega)) ?_ (fun x16 σ15 h9 => ?_)
            · exact fun E σ15 hx => VX_out hG (by first | exact Nat.le_of_ble_eq_true rfl | omega | (dsimp only; omega)) (by first | exact Nat.le_of_ble_eq_true rfl | omega | (dsimp only; omega)) hx
            · replace h := h9
              clear h9
              obtain ⟨ht, h⟩ := h
              refine V_putJ hG dX9_split_121 fl_X9_202 rfl rfl ht ?_
              refine V_aload (v := .ref u14) hG dX9_split_124 rfl rfl ?_
              refine V_aload_n (v := .ref v3) hG dX9_split_126 rfl rfl ?_
              refine V_iload_n hG dX9_split_127 rfl ?_
              obtain ⟨ht, h⟩ := h
              refine V_cVI _ _ hG dX9_split_128 (ct_X0_giveUp hl h) mv_X0_giveUp ml_X9_206 ht rfl rfl rfl rfl (by first | exact Nat.le_of_ble_eq_true rfl | (simp only [List.map_cons, List.map_nil, List.sum_cons, List.sum_nil, cat_rf]; exact Nat.le_of_ble_eq_true rfl)) (Nat.le_of_ble_eq_true rfl) (Nat.le_of_ble_eq_true rfl) (by first | exact Nat.le_of_ble_eq_true rfl | omega | (dsimp only; omega)) (by first | exact Nat.le_of_ble_eq_true rfl | omega | (dsimp only; omega)) ?_ (fun x18 σ17 h9 => ?_)
              · exact fun E σ17 hx => VX_out hG (by first | exact Nat.le_of_ble_eq_true rfl | omega | (dsimp only; omega)) (by first | exact Nat.le_of_ble_eq_true rfl | omega | (dsimp only; omega)) hx
              · replace h := h9
                clear h9
                obtain ⟨ht, h⟩ := h
                refine V_putI hG dX9_split_131 fl_X9_140 rfl (fun e => absurd e (by decide)) rfl ht ?_
                refine V_aload (v := .ref u14) hG dX9_split_134 rfl rfl ?_
                obtain ⟨ht, h⟩ := h
                refine V_getI hG dX9_split_136 fl_X9_154 rfl ht ?_
                exact V_iret hG dX9_split_139 (by first | exact Nat.le_of_ble_eq_true rfl | omega | (dsimp only; omega)) (by first | exact Nat.le_of_ble_eq_true rfl | omega | (dsimp only; omega)) h
def wp_X9_split_46  (this : Nat) (v2 : Int32) (v3 : Nat) (σ : Sg) (Post : Rs → Sg → Prop) : Prop := (wp_X9_split_47 this v2 v3 (0 : Int32) σ Post)
set_option maxRecDepth 100000 in
set_option maxHeartbeats 4000000 in
theorem wv_X9_split_46 {L9 : Launch} {G : Cx} {Post : Rs → Sg → Prop} (hl : L9.stackTraces = false) (hG : CX L9 G yX9_split cX9_split 5 (some .int) [] { frames := 8, cells := 5, slots := 36, locals := 124 })   : ∀ (this : Nat) (v2 : Int32) (v3 : Nat) (σ : Sg), wp_X9_split_46 this v2 v3 σ Post → V G (QM G 5 36 Post) 46 [some (.ref this), none, some (.int v2), some (.ref v3), none] [] σ 2 12 := by
  intro this v2 v3 σ h
  unfold wp_X9_split_46 at h
  refine V_iconst (v := 0) hG (by decide) dX9_split_46 ?_
  refine V_forget (lo' := [some (.ref this), none, some (.int v2), some (.ref v3), none]) ⟨rfl, ⟨rfl, ⟨rfl, trivial⟩⟩⟩ ?_
  refine V_widen (k' := 2) (n' := 12) (by first | exact Nat.le_of_ble_eq_true rfl | omega | (dsimp only; omega)) (by first | exact Nat.le_of_ble_eq_true rfl | omega | (dsimp only; omega)) ?_
  exact wv_X9_split_47 hl hG  _ _ _ _ _ h
def wp_X9_split_24  (this : Nat) (v2 : Int32) (v3 : Option Nat) (s0 : Int32) (σ : Sg) (Post : Rs → Sg → Prop) : Prop := wp_X9_requireArgument s0 σ (KV (fun σ1 => ∃ u2, v3 = some u2 ∧ u2 % 32 = 0 ∧ ((¬ (sI σ1 u2 4) = (1 : Int32) → (wp_X9_split_46 this v2 u2 σ1 Post)) ∧ ((sI σ1 u2 4) = (1 : Int32) → u2 % 32 = 0 ∧ ((¬ (sI σ1 u2 7) = 0 → (wp_X9_split_46 this v2 u2 σ1 Post)) ∧ ((sI σ1 u2 7) = 0 → (wp_X9_split_47 this v2 u2 (1 : Int32) σ1 Post)))))) (fun E σ1 => Post (.inr E) σ1))
set_option maxRecDepth 100000 in
set_option maxHeartbeats 4000000 in
theorem wv_X9_split_24 {L9 : Launch} {G : Cx} {Post : Rs → Sg → Prop} (hl : L9.stackTraces = false) (hG : CX L9 G yX9_split cX9_split 5 (some .int) [] { frames := 8, cells := 5, slots := 36, locals := 124 })   : ∀ (this : Nat) (v2 : Int32) (v3 : Option Nat) (s0 : Int32) (σ : Sg), wp_X9_split_24 this v2 v3 s0 σ Post → V G (QM G 5 36 Post) 24 [some (.ref this), none, some (.int v2), some (va_rf v3), none] [.int s0] σ 1 6 := by
  intro this v2 v3 s0 σ h
  unfold wp_X9_split_24 at h
  refine V_cSV _ _ hG dX9_split_24 (ct_X9_requireArgument hl h) mv_X9_requireArgument ml_X9_65 rfl rfl (by first | exact Nat.le_of_ble_eq_true rfl | (simp only [List.map_cons, List.map_nil, List.sum_cons, List.sum_nil, cat_rf]; exact Nat.le_of_ble_eq_true rfl)) (Nat.le_of_ble_eq_true rfl) (Nat.le_of_ble_eq_true rfl) (by first | exact Nat.le_of_ble_eq_true rfl | omega | (dsimp only; omega)) (by first | exact Nat.le_of_ble_eq_true rfl | omega | (dsimp only; omega)) ?_ (fun σ1 h9 => ?_)
  · exact fun E σ1 hx => VX_out hG (by first | exact Nat.le_of_ble_eq_true rfl | omega | (dsimp only; omega)) (by first | exact Nat.le_of_ble_eq_true rfl | omega | (dsimp only; omega)) hx
  · replace h := h9
    clear h9
    refine V_aload_n (v := va_rf v3) hG dX9_split_27 (isRef_rf _) rfl ?_
    obtain ⟨u2, he, h⟩ := h
    subst he
    obtain ⟨ht, h⟩ := h
    refine V_getI hG dX9_split_28 fl_X9_161 rfl ht ?_
    refine V_iconst (v := 1) hG (by decide) dX9_split_31 ?_
    refine V_icmp_ne (tgt := 46) hG dX9_split_32 (by decide) (fun c => ?_) (fun c => ?_)
    · replace h := h.1 c
      refine V_forget (lo' := [some (.ref this), none, some (.int v2), some (.ref u2), none]) ⟨rfl, ⟨rfl, ⟨rfl, trivial⟩⟩⟩ ?_
      refine V_widen (k' := 2) (n' := 12) (by first | exact Nat.le_of_ble_eq_true rfl | omega | (dsimp only; omega)) (by first | exact Nat.le_of_ble_eq_true rfl | omega | (dsimp only; omega)) ?_
      exact wv_X9_split_46 hl hG  _ _ _ _ h
    · replace h := h.2 c
      refine V_aload_n (v := .ref u2) hG dX9_split_35 rfl rfl ?_
      obtain ⟨ht, h⟩ := h
      refine V_getI hG dX9_split_36 fl_X9_175 rfl ht ?_
      refine V_if_ne (tgt := 46) hG dX9_split_39 (by decide) (fun c => ?_) (fun c => ?_)
      · replace h := h.1 c
        refine V_forget (lo' := [some (.ref this), none, some (.int v2), some (.ref u2), none]) ⟨rfl, ⟨rfl, ⟨rfl, trivial⟩⟩⟩ ?_
        refine V_widen (k' := 2) (n' := 12) (by first | exact Nat.le_of_ble_eq_true rfl | omega | (dsimp only; omega)) (by first | exact Nat.le_of_ble_eq_true rfl | omega | (dsimp only; omega)) ?_
        exact wv_X9_split_46 hl hG  _ _ _ _ h
      · replace h := h.2 c
        refine V_iconst (v := 1) hG (by decide) dX9_split_42 ?_
        refine V_goto (tgt := 47) hG dX9_split_43 (by decide) ?_
        refine V_forget (lo' := [some (.ref this), none, some (.int v2), some (.ref u2), none]) ⟨rfl, ⟨rfl, ⟨rfl, trivial⟩⟩⟩ ?_
        refine V_widen (k' := 2) (n' := 12) (by first | exact Nat.le_of_ble_eq_true rfl | omega | (dsimp only; omega)) (by first | exact Nat.le_of_ble_eq_true rfl | omega | (dsimp only; omega)) ?_
        exact wv_X9_split_47 hl hG  _ _ _ _ _ h
def wp_X9_split_23  (this : Nat) (v2 : Int32) (v3 : Option Nat) (σ : Sg) (Post : Rs → Sg → Prop) : Prop := (wp_X9_split_24 this v2 v3 (0 : Int32) σ Post)
set_option maxRecDepth 100000 in
set_option maxHeartbeats 4000000 in
theorem wv_X9_split_23 {L9 : Launch} {G : Cx} {Post : Rs → Sg → Prop} (hl : L9.stackTraces = false) (hG : CX L9 G yX9_split cX9_split 5 (some .int) [] { frames := 8, cells := 5, slots := 36, locals := 124 })   : ∀ (this : Nat) (v2 : Int32) (v3 : Option Nat) (σ : Sg), wp_X9_split_23 this v2 v3 σ Post → V G (QM G 5 36 Post) 23 [some (.ref this), none, some (.int v2), some (va_rf v3), none] [] σ 1 6 := by
  intro this v2 v3 σ h
  unfold wp_X9_split_23 at h
  refine V_iconst (v := 0) hG (by decide) dX9_split_23 ?_
  refine V_forget (lo' := [some (.ref this), none, some (.int v2), some (va_rf v3), none]) ⟨rfl, ⟨rfl, ⟨rfl, trivial⟩⟩⟩ ?_
  refine V_widen (k' := 1) (n' := 6) (by first | exact Nat.le_of_ble_eq_true rfl | omega | (dsimp only; omega)) (by first | exact Nat.le_of_ble_eq_true rfl | omega | (dsimp only; omega)) ?_
  exact wv_X9_split_24 hl hG  _ _ _ _ _ h
def wp_X9_split (this : Nat) (a0 : Int32) (a1 : Int32) (σ : Sg) (Post : Rs → Sg → Prop) : Prop := this % 32 = 9 ∧ wp_X9_batchAt this a0 σ (KO (fun x2 σ1 => ((a1 < (1 : Int32) → (wp_X9_split_23 this a1 x2 σ1 Post)) ∧ (¬ a1 < (1 : Int32) → ∃ u3, x2 = some u3 ∧ u3 % 32 = 0 ∧ (((sI σ1 u3 2) ≤ a1 → (wp_X9_split_23 this a1 (some u3) σ1 Post)) ∧ (¬ (sI σ1 u3 2) ≤ a1 → (wp_X9_split_24 this a1 (some u3) (1 : Int32) σ1 Post)))))) (fun E σ1 => Post (.inr E) σ1))
set_option maxRecDepth 100000 in
set_option maxHeartbeats 4000000 in
theorem ct_X9_split {l : Launch} (hl : l.stackTraces = false) {this : Nat} {a0 : Int32} {a1 : Int32} {σ : Sg} {Post : Rs → Sg → Prop} (h : wp_X9_split this a0 a1 σ Post) : Ct l yX9_split (.code yX9_split cX9_split 5 (some .int)) 8 124 5 36 [.ref this, .int a0, .int a1] σ Post := by
  refine Ct_of [some (.ref this), some (.int a0), some (.int a1), none, none] hl (by decide +kernel) rfl (fun ad => by rfl) (fun ad => by exact Nat.le_of_ble_eq_true rfl) (fun v hv => mem_lo hv rfl) ?_
  intro G hG
  unfold wp_X9_split at h
  refine V_aload_n (v := .ref this) hG dX9_split_0 rfl rfl ?_
  refine V_iload_n hG dX9_split_1 rfl ?_
  obtain ⟨ht, h⟩ := h
  refine V_cVO _ _ hG dX9_split_2 (ct_X9_batchAt hl h) mv_X9_batchAt ml_X9_157 ht rfl rfl rfl rfl (by first | exact Nat.le_of_ble_eq_true rfl | (simp only [List.map_cons, List.map_nil, List.sum_cons, List.sum_nil, cat_rf]; exact Nat.le_of_ble_eq_true rfl)) (Nat.le_of_ble_eq_true rfl) (Nat.le_of_ble_eq_true rfl) (by first | exact Nat.le_of_ble_eq_true rfl | omega | (dsimp only; omega)) (by first | exact Nat.le_of_ble_eq_true rfl | omega | (dsimp only; omega)) ?_ (fun x2 σ1 h9 => ?_)
  · exact fun E σ1 hx => VX_out hG (by first | exact Nat.le_of_ble_eq_true rfl | omega | (dsimp only; omega)) (by first | exact Nat.le_of_ble_eq_true rfl | omega | (dsimp only; omega)) hx
  · replace h := h9
    clear h9
    refine V_astore_n hG dX9_split_5 (isRef_rf _) (Nat.le_of_ble_eq_true rfl) (hpV rfl rfl) ?_
    refine V_iload_n hG dX9_split_6 rfl ?_
    refine V_iconst (v := 1) hG (by decide) dX9_split_7 ?_
    refine V_icmp_lt (tgt := 23) hG dX9_split_8 (by decide) (fun c => ?_) (fun c => ?_)
    · replace h := h.1 c
      refine V_forget (lo' := [some (.ref this), none, some (.int a1), some (va_rf x2), none]) ⟨rfl, ⟨rfl, ⟨rfl, trivial⟩⟩⟩ ?_
      refine V_widen (k' := 1) (n' := 6) (by first | exact Nat.le_of_ble_eq_true rfl | omega | (dsimp only; omega)) (by first | exact Nat.le_of_ble_eq_true rfl | omega | (dsimp only; omega)) ?_
      exact wv_X9_split_23 hl hG  _ _ _ _ h
    · replace h := h.2 c
      refine V_iload_n hG dX9_split_11 rfl ?_
      refine V_aload_n (v := va_rf x2) hG dX9_split_12 (isRef_rf _) rfl ?_
      obtain ⟨u3, he, h⟩ := h
      subst he
      obtain ⟨ht, h⟩ := h
      refine V_getI hG dX9_split_13 fl_X9_178 rfl ht ?_
      refine V_icmp_ge (tgt := 23) hG dX9_split_16 (by decide) (fun c => ?_) (fun c => ?_)
      · replace h := h.1 c
        refine V_forget (lo' := [some (.ref this), none, some (.int a1), some (va_rf (some u3)), none]) ⟨rfl, ⟨rfl, ⟨rfl, trivial⟩⟩⟩ ?_
        refine V_widen (k' := 1) (n' := 6) (by first | exact Nat.le_of_ble_eq_true rfl | omega | (dsimp only; omega)) (by first | exact Nat.le_of_ble_eq_true rfl | omega | (dsimp only; omega)) ?_
        exact wv_X9_split_23 hl hG  _ _ _ _ h
      · replace h := h.2 c
        refine V_iconst (v := 1) hG (by decide) dX9_split_19 ?_
        refine V_goto (tgt := 24) hG dX9_split_20 (by decide) ?_
        refine V_forget (lo' := [some (.ref this), none, some (.int a1), some (va_rf (some u3)), none]) ⟨rfl, ⟨rfl, ⟨rfl, trivial⟩⟩⟩ ?_
        refine V_widen (k' := 1) (n' := 6) (by first | exact Nat.le_of_ble_eq_true rfl | omega | (dsimp only; omega)) (by first | exact Nat.le_of_ble_eq_true rfl | omega | (dsimp only; omega)) ?_
        exact wv_X9_split_24 hl hG  _ _ _ _ _ h
def wp_X9_join_108  (v3 : Nat) (v4 : Nat) (v5 : Nat) (s0 : Nat) (s1 : Int32) (σ : Sg) (Post : Rs → Sg → Prop) : Prop := s0 % 32 = 0 ∧ b01 s1 ∧ v3 % 32 = 0 ∧ v4 % 32 = 0 ∧ v5 % 32 = 0 ∧ v3 % 32 = 0 ∧ wp_X0_bit v3 (wI (wI σ s0 8 s1) v5 10 ((sI (wI σ s0 8 s1) v3 10) ||| (sI (wI σ s0 8 s1) v4 10))) (KJ (fun x2 σ1 => v4 % 32 = 0 ∧ wp_X0_bit v4 σ1 (KJ (fun x4 σ3 => v5 % 32 = 0 ∧ v3 % 32 = 0 ∧ v3 % 32 = 0 ∧ wp_X0_giveUp v3 (sI (wL σ3 v5 11 (x2 ||| x4)) v3 2) (wL σ3 v5 11 (x2 ||| x4)) (KI (fun x6 σ5 => v4 % 32 = 0 ∧ v4 % 32 = 0 ∧ wp_X0_giveUp v4 (sI σ5 v4 2) σ5 (KI (fun x8 σ7 => v5 % 32 = 0 ∧ v5 % 32 = 0 ∧ Post (.inl (some (.int (sI (wI σ7 v5 3 (x6 + x8)) v5 0)))) (wI σ7 v5 3 (x6 + x8))) (fun E σ7 => Post (.inr E) σ7))) (fun E σ5 => Post (.inr E) σ5))) (fun E σ3 => Post (.inr E) σ3))) (fun E σ1 => Post (.inr E) σ1))
set_option maxRecDepth 100000 in
set_option maxHeartbeats 4000000 in
theorem wv_X9_join_108 {L9 : Launch} {G : Cx} {Post : Rs → Sg → Prop} (hl : L9.stackTraces = false) (hG : CX L9 G yX9_join cX9_join 6 (some .int) [] { frames := 8, cells := 5, slots := 36, locals := 124 })   : ∀ (v3 : Nat) (v4 : Nat) (v5 : Nat) (s0 : Nat) (s1 : Int32) (σ : Sg), wp_X9_join_108 v3 v4 v5 s0 s1 σ Post → V G (QM G 5 36 Post) 108 [none, none, none, some (.ref v3), some (.ref v4), some (.ref v5)] [.int s1, .ref s0] σ 5 36 := by
  intro v3 v4 v5 s0 s1 σ h
  unfold wp_X9_join_108 at h
  obtain ⟨ht, h⟩ := h
  obtain ⟨hb, h⟩ := h
  refine V_putI hG dX9_join_108 fl_X9_192 rfl (fun _ => hb) rfl ht ?_
  refine V_aload (v := .ref v5) hG dX9_join_111 rfl rfl ?_
  refine V_aload_n (v := .ref v3) hG dX9_join_113 rfl rfl ?_
  obtain ⟨ht, h⟩ := h
  refine V_getI hG dX9_join_114 fl_X9_195 rfl ht ?_
  refine V_aload (v := .ref v4) hG dX9_join_117 rfl rfl ?_
  obtain ⟨ht, h⟩ := h
  refine V_getI hG dX9_join_119 fl_X9_195 rfl ht ?_
  refine V_ior hG dX9_join_122 ?_
  obtain ⟨ht, h⟩ := h
  refine V_putI hG dX9_join_123 fl_X9_195 rfl (fun e => absurd e (by decide)) rfl ht ?_
  refine V_aload (v := .ref v5) hG dX9_join_126 rfl rfl ?_
  refine V_aload_n (v := .ref v3) hG dX9_join_128 rfl rfl ?_
  obtain ⟨ht, h⟩ := h
  refine V_cVJ _ _ hG dX9_join_129 (ct_X0_bit hl h) mv_X0_bit ml_X9_198 ht rfl rfl rfl rfl (by first | exact Nat.le_of_ble_eq_true rfl | (simp only [List.map_cons, List.map_nil, List.sum_cons, List.sum_nil, cat_rf]; exact Nat.le_of_ble_eq_true rfl)) (Nat.le_of_ble_eq_true rfl) (Nat.le_of_ble_eq_true rfl) (by first | exact Nat.le_of_ble_eq_true rfl | omega | (dsimp only; omega)) (by first | exact Nat.le_of_ble_eq_true rfl | omega | (dsimp only; omega)) ?_ (fun x2 σ1 h9 => ?_)
  · exact fun E σ1 hx => VX_out hG (by first | exact Nat.le_of_ble_eq_true rfl | omega | (dsimp only; omega)) (by first | exact Nat.le_of_ble_eq_true rfl | omega | (dsimp only; omega)) hx
  · replace h := h9
    clear h9
    refine V_aload (v := .ref v4) hG dX9_join_132 rfl rfl ?_
    obtain ⟨ht, h⟩ := h
    refine V_cVJ _ _ hG dX9_join_134 (ct_X0_bit hl h) mv_X0_bit ml_X9_198 ht rfl rfl rfl rfl (by first | exact Nat.le_of_ble_eq_true rfl | (simp only [List.map_cons, List.map_nil, List.sum_cons, List.sum_nil, cat_rf]; exact Nat.le_of_ble_eq_true rfl)) (Nat.le_of_ble_eq_true rfl) (Nat.le_of_ble_eq_true rfl) (by first | exact Nat.le_of_ble_eq_true rfl | omega | (dsimp only; omega)) (by first | exact Nat.le_of_ble_eq_true rfl | omega | (dsimp only; omega)) ?_ (fun x4 σ3 h9 => ?_)
    · exact fun E σ3 hx => VX_out hG (by first | exact Nat.le_of_ble_eq_true rfl | omega | (dsimp only; omega)) (by first | exact Nat.le_of_ble_eq_true rfl | omega | (dsimp only; omega)) hx
    · replace h := h9
      clear h9
      refine V_lor hG dX9_join_137 ?_
      obtain ⟨ht, h⟩ := h
      refine V_putJ hG dX9_join_138 fl_X9_202 rfl rfl ht ?_
      refine V_aload (v := .ref v5) hG dX9_join_141 rfl rfl ?_
      refine V_aload_n (v := .ref v3) hG dX9_join_143 rfl rfl ?_
      refine V_aload_n (v := .ref v3) hG dX9_join_144 rfl rfl ?_
      obtain ⟨ht, h⟩ := h
      refine V_getI hG dX9_join_145 fl_X9_178 rfl ht ?_
      obtain ⟨ht, h⟩ := h
      refine V_cVI _ _ hG dX9_join_148 (ct_X0_giveUp hl h) mv_X0_giveUp ml_X9_206 ht rfl rfl rfl rfl (by first | exact Nat.le_of_ble_eq_true rfl | (simp only [List.map_cons, List.map_nil, List.sum_cons, List.sum_nil, cat_rf]; exact Nat.le_of_ble_eq_true rfl)) (Nat.le_of_ble_eq_true rfl) (Nat.le_of_ble_eq_true rfl) (by first | exact Nat.le_of_ble_eq_true rfl | omega | (dsimp only; omega)) (by first | exact Nat.le_of_ble_eq_true rfl | omega | (dsimp only; omega)) ?_ (fun x6 σ5 h9 => ?_)
      · exact fun E σ5 hx => VX_out hG (by first | exact Nat.le_of_ble_eq_true rfl | omega | (dsimp only; omega)) (by first | exact Nat.le_of_ble_eq_true rfl | omega | (dsimp only; omega)) hx
      · replace h := h9
        clear h9
        refine V_aload (v := .ref v4) hG dX9_join_151 rfl rfl ?_
        refine V_aload (v := .ref v4) hG dX9_join_153 rfl rfl ?_
        obtain ⟨ht, h⟩ := h
        refine V_getI hG dX9_join_155 fl_X9_178 rfl ht ?_
        obtain ⟨ht, h⟩ := h
        refine V_cVI _ _ hG dX9_join_158 (ct_X0_giveUp hl h) mv_X0_giveUp ml_X9_206 ht rfl rfl rfl rfl (by first | exact Nat.le_of_ble_eq_true rfl | (simp only [List.map_cons, List.map_nil, List.sum_cons, List.sum_nil, cat_rf]; exact Nat.le_of_ble_eq_true rfl)) (Nat.le_of_ble_eq_true rfl) (Nat.le_of_ble_eq_true rfl) (by first | exact Nat.le_of_ble_eq_true rfl | omega | (dsimp only; omega)) (by first | exact Nat.le_of_ble_eq_true rfl | omega | (dsimp only; omega)) ?_ (fun x8 σ7 h9 => ?_)
        · exact fun E σ7 hx => VX_out hG (by first | exact Nat.le_of_ble_eq_true rfl | omega | (dsimp only; omega)) (by first | exact Nat.le_of_ble_eq_true rfl | omega | (dsimp only; omega)) hx
        · replace h := h9
          clear h9
          refine V_iadd hG dX9_join_161 ?_
          obtain ⟨ht, h⟩ := h
          refine V_putI hG dX9_join_162 fl_X9_140 rfl (fun e => absurd e (by decide)) rfl ht ?_
          refine V_aload (v := .ref v5) hG dX9_join_165 rfl rfl ?_
          obtain ⟨ht, h⟩ := h
          refine V_getI hG dX9_join_167 fl_X9_154 rfl ht ?_
          exact V_iret hG dX9_join_170 (by first | exact Nat.le_of_ble_eq_true rfl | omega | (dsimp only; omega)) (by first | exact Nat.le_of_ble_eq_true rfl | omega | (dsimp only; omega)) h
def wp_X9_join_103  (v3 : Nat) (v4 : Nat) (v5 : Nat) (s0 : Nat) (σ : Sg) (Post : Rs → Sg → Prop) : Prop := (wp_X9_join_108 v3 v4 v5 s0 (1 : Int32) σ Post)
set_option maxRecDepth 100000 in
set_option maxHeartbeats 4000000 in
theorem wv_X9_join_103 {L9 : Launch} {G : Cx} {Post : Rs → Sg → Prop} (hl : L9.stackTraces = false) (hG : CX L9 G yX9_join cX9_join 6 (some .int) [] { frames := 8, cells := 5, slots := 36, locals := 124 })   : ∀ (v3 : Nat) (v4 : Nat) (v5 : Nat) (s0 : Nat) (σ : Sg), wp_X9_join_103 v3 v4 v5 s0 σ Post → V G (QM G 5 36 Post) 103 [none, none, none, some (.ref v3), some (.ref v4), some (.ref v5)] [.ref s0] σ 5 36 := by
  intro v3 v4 v5 s0 σ h
  unfold wp_X9_join_103 at h
  refine V_iconst (v := 1) hG (by decide) dX9_join_103 ?_
  refine V_goto (tgt := 108) hG dX9_join_104 (by decide) ?_
  refine V_forget (lo' := [none, none, none, some (.ref v3), some (.ref v4), some (.ref v5)]) ⟨rfl, ⟨rfl, ⟨rfl, trivial⟩⟩⟩ ?_
  refine V_widen (k' := 5) (n' := 36) (by first | exact Nat.le_of_ble_eq_true rfl | omega | (dsimp only; omega)) (by first | exact Nat.le_of_ble_eq_true rfl | omega | (dsimp only; omega)) ?_
  exact wv_X9_join_108 hl hG  _ _ _ _ _ _ h
def wp_X9_join_24  (this : Nat) (v3 : Option Nat) (v4 : Option Nat) (s0 : Int32) (σ : Sg) (Post : Rs → Sg → Prop) : Prop := wp_X9_requireArgument s0 σ (KV (fun σ1 => ∃ u2, v3 = some u2 ∧ u2 % 32 = 0 ∧ wp_X0_canJoin u2 v4 σ1 (KI (fun x4 σ3 => wp_X9_requireState x4 σ3 (KV (fun σ5 => this % 32 = 9 ∧ ∀ o6, o6 = sP σ5 this 2 → u2 % 32 = 0 ∧ ∀ o7, o7 = sP σ5 u2 1 → u2 % 32 = 0 ∧ ∃ u8, v4 = some u8 ∧ u8 % 32 = 0 ∧ ∃ u9, o6 = some u9 ∧ u9 % 32 = 8 ∧ wp_X8_newBatch u9 o7 ((sI σ5 u2 2) + (sI σ5 u8 2)) (1 : Int32) σ5 (KO (fun x11 σ10 => u2 % 32 = 0 ∧ ∃ u12, x11 = some u12 ∧ u12 % 32 = 0 ∧ u2 % 32 = 0 ∧ u8 % 32 = 0 ∧ u12 % 32 = 0 ∧ u2 % 32 = 0 ∧ ((¬ (sI (wI (wI σ10 u12 5 (sI σ10 u2 5)) u12 6 (if (sI (wI σ10 u12 5 (sI σ10 u2 5)) u2 6) < (sI (wI σ10 u12 5 (sI σ10 u2 5)) u8 6) then (sI (wI σ10 u12 5 (sI σ10 u2 5)) u8 6) else (sI (wI σ10 u12 5 (sI σ10 u2 5)) u2 6))) u2 8) = 0 → (wp_X9_join_103 u2 u8 u12 u12 (wI (wI σ10 u12 5 (sI σ10 u2 5)) u12 6 (if (sI (wI σ10 u12 5 (sI σ10 u2 5)) u2 6) < (sI (wI σ10 u12 5 (sI σ10 u2 5)) u8 6) then (sI (wI σ10 u12 5 (sI σ10 u2 5)) u8 6) else (sI (wI σ10 u12 5 (sI σ10 u2 5)) u2 6))) Post)) ∧ ((sI (wI (wI σ10 u12 5 (sI σ10 u2 5)) u12 6 (if (sI (wI σ10 u12 5 (sI σ10 u2 5)) u2 6) < (sI (wI σ10 u12 5 (sI σ10 u2 5)) u8 6) then (sI (wI σ10 u12 5 (sI σ10 u2 5)) u8 6) else (sI (wI σ10 u12 5 (sI σ10 u2 5)) u2 6))) u2 8) = 0 → u8 % 32 = 0 ∧ (((sI (wI (wI σ10 u12 5 (sI σ10 u2 5)) u12 6 (if (sI (wI σ10 u12 5 (sI σ10 u2 5)) u2 6) < (sI (wI σ10 u12 5 (sI σ10 u2 5)) u8 6) then (sI (wI σ10 u12 5 (sI σ10 u2 5)) u8 6) else (sI (wI σ10 u12 5 (sI σ10 u2 5)) u2 6))) u8 8) = 0 → (wp_X9_join_108 u2 u8 u12 u12 (0 : Int32) (wI (wI σ10 u12 5 (sI σ10 u2 5)) u12 6 (if (sI (wI σ10 u12 5 (sI σ10 u2 5)) u2 6) < (sI (wI σ10 u12 5 (sI σ10 u2 5)) u8 6) then (sI (wI σ10 u12 5 (sI σ10 u2 5)) u8 6) else (sI (wI σ10 u12 5 (sI σ10 u2 5)) u2 6))) Post)) ∧ (¬ (sI (wI (wI σ10 u12 5 (sI σ10 u2 5)) u12 6 (if (sI (wI σ10 u12 5 (sI σ10 u2 5)) u2 6) < (sI (wI σ10 u12 5 (sI σ10 u2 5)) u8 6) then (sI (wI σ10 u12 5 (sI σ10 u2 5)) u8 6) else (sI (wI σ10 u12 5 (sI σ10 u2 5)) u2 6))) u8 8) = 0 → (wp_X9_join_103 u2 u8 u12 u12 (wI (wI σ10 u12 5 (sI σ10 u2 5)) u12 6 (if (sI (wI σ10 u12 5 (sI σ10 u2 5)) u2 6) < (sI (wI σ10 u12 5 (sI σ10 u2 5)) u8 6) then (sI (wI σ10 u12 5 (sI σ10 u2 5)) u8 6) else (sI (wI σ10 u12 5 (sI σ10 u2 5)) u2 6))) Post)))))) (fun E σ10 => Post (.inr E) σ10))) (fun E σ5 => Post (.inr E) σ5))) (fun E σ3 => Post (.inr E) σ3))) (fun E σ1 => Post (.inr E) σ1))
set_option maxRecDepth 100000 in
set_option maxHeartbeats 4000000 in
theorem wv_X9_join_24 {L9 : Launch} {G : Cx} {Post : Rs → Sg → Prop} (hl : L9.stackTraces = false) (hG : CX L9 G yX9_join cX9_join 6 (some .int) [] { frames := 8, cells := 5, slots := 36, locals := 124 })   : ∀ (this : Nat) (v3 : Option Nat) (v4 : Option Nat) (s0 : Int32) (σ : Sg), wp_X9_join_24 this v3 v4 s0 σ Post → V G (QM G 5 36 Post) 24 [some (.ref this), none, none, some (va_rf v3), some (va_rf v4), none] [.int s0] σ 2 12 := by
  intro this v3 v4 s0 σ h
  unfold wp_X9_join_24 at h
  refine V_cSV _ _ hG dX9_join_24 (ct_X9_requireArgument hl h) mv_X9_requireArgument ml_X9_65 rfl rfl (by first | exact Nat.le_of_ble_eq_true rfl | (simp only [List.map_cons, List.map_nil, List.sum_cons, List.sum_nil, cat_rf]; exact Nat.le_of_ble_eq_true rfl)) (Nat.le_of_ble_eq_true rfl) (Nat.le_of_ble_eq_true rfl) (by first | exact Nat.le_of_ble_eq_true rfl | omega | (dsimp only; omega)) (by first | exact Nat.le_of_ble_eq_true rfl | omega | (dsimp only; omega)) ?_ (fun σ1 h9 => ?_)
  · exact fun E σ1 hx => VX_out hG (by first | exact Nat.le_of_ble_eq_true rfl | omega | (dsimp only; omega)) (by first | exact Nat.le_of_ble_eq_true rfl | omega | (dsimp only; omega)) hx
  · replace h := h9
    clear h9
    refine V_aload_n (v := va_rf v3) hG dX9_join_27 (isRef_rf _) rfl ?_
    refine V_aload (v := va_rf v4) hG dX9_join_28 (isRef_rf _) rfl ?_
    obtain ⟨u2, he, h⟩ := h
    subst he
    obtain ⟨ht, h⟩ := h
    refine V_cVI _ _ hG dX9_join_30 (ct_X0_canJoin hl h) mv_X0_canJoin ml_X9_210 ht rfl rfl rfl rfl (by first | exact Nat.le_of_ble_eq_true rfl | (simp only [List.map_cons, List.map_nil, List.sum_cons, List.sum_nil, cat_rf]; exact Nat.le_of_ble_eq_true rfl)) (Nat.le_of_ble_eq_true rfl) (Nat.le_of_ble_eq_true rfl) (by first | exact Nat.le_of_ble_eq_true rfl | omega | (dsimp only; omega)) (by first | exact Nat.le_of_ble_eq_true rfl | omega | (dsimp only; omega)) ?_ (fun x4 σ3 h9 => ?_)
    · exact fun E σ3 hx => VX_out hG (by first | exact Nat.le_of_ble_eq_true rfl | omega | (dsimp only; omega)) (by first | exact Nat.le_of_ble_eq_true rfl | omega | (dsimp only; omega)) hx
    · replace h := h9
      clear h9
      refine V_cSV _ _ hG dX9_join_33 (ct_X9_requireState hl h) mv_X9_requireState ml_X9_49 rfl rfl (by first | exact Nat.le_of_ble_eq_true rfl | (simp only [List.map_cons, List.map_nil, List.sum_cons, List.sum_nil, cat_rf]; exact Nat.le_of_ble_eq_true rfl)) (Nat.le_of_ble_eq_true rfl) (Nat.le_of_ble_eq_true rfl) (by first | exact Nat.le_of_ble_eq_true rfl | omega | (dsimp only; omega)) (by first | exact Nat.le_of_ble_eq_true rfl | omega | (dsimp only; omega)) ?_ (fun σ5 h9 => ?_)
      · exact fun E σ5 hx => VX_out hG (by first | exact Nat.le_of_ble_eq_true rfl | omega | (dsimp only; omega)) (by first | exact Nat.le_of_ble_eq_true rfl | omega | (dsimp only; omega)) hx
      · replace h := h9
        clear h9
        refine V_aload_n (v := .ref this) hG dX9_join_36 rfl rfl ?_
        obtain ⟨ht, h⟩ := h
        refine V_getPv hG dX9_join_37 fl_X9_26 rfl ht (fun o6 ho => ?_)
        replace h := h o6 ho
        refine V_aload_n (v := .ref u2) hG dX9_join_40 rfl rfl ?_
        obtain ⟨ht, h⟩ := h
        refine V_getPv hG dX9_join_41 fl_X9_185 rfl ht (fun o7 ho => ?_)
        replace h := h o7 ho
        refine V_aload_n (v := .ref u2) hG dX9_join_44 rfl rfl ?_
        obtain ⟨ht, h⟩ := h
        refine V_getI hG dX9_join_45 fl_X9_178 rfl ht ?_
        refine V_aload (v := va_rf v4) hG dX9_join_48 (isRef_rf _) rfl ?_
        obtain ⟨u8, he, h⟩ := h
        subst he
        obtain ⟨ht, h⟩ := h
        refine V_getI hG dX9_join_50 fl_X9_178 rfl ht ?_
        refine V_iadd hG dX9_join_53 ?_
        refine V_iconst (v := 1) hG (by decide) dX9_join_54 ?_
        obtain ⟨u9, he, h⟩ := h
        subst he
        obtain ⟨ht, h⟩ := h
        refine V_cVO _ _ hG dX9_join_55 (ct_X8_newBatch hl h) mv_X8_newBatch ml_X9_136 ht rfl rfl rfl rfl (by first | exact Nat.le_of_ble_eq_true rfl | (simp only [List.map_cons, List.map_nil, List.sum_cons, List.sum_nil, cat_rf]; exact Nat.le_of_ble_eq_true rfl)) (Nat.le_of_ble_eq_true rfl) (Nat.le_of_ble_eq_true rfl) (by first | exact Nat.le_of_ble_eq_true rfl | omega | (dsimp only; omega)) (by first | exact Nat.le_of_ble_eq_true rfl | omega | (dsimp only; omega)) ?_ (fun x11 σ10 h9 => ?_)
        · exact fun E σ10 hx => VX_out hG (by first | exact Nat.le_of_ble_eq_true rfl | omega | (dsimp only; omega)) (by first | exact Nat.le_of_ble_eq_true rfl | omega | (dsimp only; omega)) hx
        · replace h := h9
          clear h9
          refine V_astore hG dX9_join_58 (isRef_rf _) (Nat.le_of_ble_eq_true rfl) (hpV rfl rfl) ?_
          refine V_aload (v := va_rf x11) hG dX9_join_60 (isRef_rf _) rfl ?_
          refine V_aload_n (v := .ref u2) hG dX9_join_62 rfl rfl ?_
          obtain ⟨ht, h⟩ := h
          refine V_getI hG dX9_join_63 fl_X9_189 rfl ht ?_
          obtain ⟨u12, he, h⟩ := h
          subst he
          obtain ⟨ht, h⟩ := h
          refine V_putI hG dX9_join_66 fl_X9_189 rfl (fun e => absurd e (by decide)) rfl ht ?_
          refine V_aload (v := .ref u12) hG dX9_join_69 rfl rfl ?_
          refine V_aload_n (v := .ref u2) hG dX9_join_71 rfl rfl ?_
          obtain ⟨ht, h⟩ := h
          refine V_getI hG dX9_join_72 fl_X9_172 rfl ht ?_
          refine V_aload (v := .ref u8) hG dX9_join_75 rfl rfl ?_
          obtain ⟨ht, h⟩ := h
          refine V_getI hG dX9_join_77 fl_X9_172 rfl ht ?_
          refine V_mmax hG dX9_join_80 ml_X9_214 mm_max.1 mm_max.2.1 mm_max.2.2 (Nat.le_of_ble_eq_true rfl) (by first | exact Nat.le_of_ble_eq_true rfl | (simp only [List.map_cons, List.map_nil, List.sum_cons, List.sum_nil, cat_rf]; exact Nat.le_of_ble_eq_true rfl)) (Nat.le_of_ble_eq_true rfl) (Nat.le_of_ble_eq_true rfl) ?_
          obtain ⟨ht, h⟩ := h
          refine V_putI hG dX9_join_83 fl_X9_172 rfl (fun e => absurd e (by decide)) rfl ht ?_
          refine V_aload (v := .ref u12) hG dX9_join_86 rfl rfl ?_
          refine V_aload_n (v := .ref u2) hG dX9_join_88 rfl rfl ?_
          obtain ⟨ht, h⟩ := h
          refine V_getI hG dX9_join_89 fl_X9_192 rfl ht ?_
          refine V_if_ne (tgt := 103) hG dX9_join_92 (by decide) (fun c => ?_) (fun c => ?_)
          · replace h := h.1 c
            refine V_forget (lo' := [none, none, none, some (.ref u2), some (.ref u8), some (.ref u12)]) ⟨rfl, ⟨rfl, ⟨rfl, trivial⟩⟩⟩ ?_
            refine V_widen (k' := 5) (n' := 36) (by first | exact Nat.le_of_ble_eq_true rfl | omega | (dsimp only; omega)) (by first | exact Nat.le_of_ble_eq_true rfl | omega | (dsimp only; omega)) ?_
            exact wv_X9_join_103 hl hG  _ _ _ _ _ h
          · replace h := h.2 c
            refine V_aload (v := .ref u8) hG dX9_join_95 rfl rfl ?_
            obtain ⟨ht, h⟩ := h
            refine V_getI hG dX9_join_97 fl_X9_192 rfl ht ?_
            refine V_if_eq (tgt := 107) hG dX9_join_100 (by decide) (fun c => ?_) (fun c => ?_)
            · replace h := h.1 c
              refine V_iconst (v := 0) hG (by decide) dX9_join_107 ?_
              refine V_forget (lo' := [none, none, none, some (.ref u2), some (.ref u8), some (.ref u12)]) ⟨rfl, ⟨rfl, ⟨rfl, trivial⟩⟩⟩ ?_
              refine V_widen (k' := 5) (n' := 36) (by first | exact Nat.le_of_ble_eq_true rfl | omega | (dsimp only; omega)) (by first | exact Nat.le_of_ble_eq_true rfl | omega | (dsimp only; omega)) ?_
              exact wv_X9_join_108 hl hG  _ _ _ _ _ _ h
            · replace h := h.2 c
              refine V_forget (lo' := [none, none, none, some (.ref u2), some (.ref u8), some (.ref u12)]) ⟨rfl, ⟨rfl, ⟨rfl, trivial⟩⟩⟩ ?_
              refine V_widen (k' := 5) (n' := 36) (by first | exact Nat.le_of_ble_eq_true rfl | omega | (dsimp only; omega)) (by first | exact Nat.le_of_ble_eq_true rfl | omega | (dsimp only; omega)) ?_
              exact wv_X9_join_103 hl hG  _ _ _ _ _ h
def wp_X9_join (this : Nat) (a0 : Int32) (a1 : Int32) (σ : Sg) (Post : Rs → Sg → Prop) : Prop := this % 32 = 9 ∧ wp_X9_batchAt this a0 σ (KO (fun x2 σ1 => this % 32 = 9 ∧ wp_X9_batchAt this a1 σ1 (KO (fun x4 σ3 => ((x2 = x4 → (wp_X9_join_24 this x2 x4 (0 : Int32) σ3 Post)) ∧ (¬ x2 = x4 → (wp_X9_join_24 this x2 x4 (1 : Int32) σ3 Post)))) (fun E σ3 => Post (.inr E) σ3))) (fun E σ1 => Post (.inr E) σ1))
set_option maxRecDepth 100000 in
set_option maxHeartbeats 4000000 in
theorem ct_X9_join {l : Launch} (hl : l.stackTraces = false) {this : Nat} {a0 : Int32} {a1 : Int32} {σ : Sg} {Post : Rs → Sg → Prop} (h : wp_X9_join this a0 a1 σ Post) : Ct l yX9_join (.code yX9_join cX9_join 6 (some .int)) 8 124 5 36 [.ref this, .int a0, .int a1] σ Post := by
  refine Ct_of [some (.ref this), some (.int a0), some (.int a1), none, none, none] hl (by decide +kernel) rfl (fun ad => by rfl) (fun ad => by exact Nat.le_of_ble_eq_true rfl) (fun v hv => mem_lo hv rfl) ?_
  intro G hG
  unfold wp_X9_join at h
  refine V_aload_n (v := .ref this) hG dX9_join_0 rfl rfl ?_
  refine V_iload_n hG dX9_join_1 rfl ?_
  obtain ⟨ht, h⟩ := h
  refine V_cVO _ _ hG dX9_join_2 (ct_X9_batchAt hl h) mv_X9_batchAt ml_X9_157 ht rfl rfl rfl rfl (by first | exact Nat.le_of_ble_eq_true rfl | (simp only [List.map_cons, List.map_nil, List.sum_cons, List.sum_nil, cat_rf]; exact Nat.le_of_ble_eq_true rfl)) (Nat.le_of_ble_eq_true rfl) (Nat.le_of_ble_eq_true rfl) (by first | exact Nat.le_of_ble_eq_true rfl | omega | (dsimp only; omega)) (by first | exact Nat.le_of_ble_eq_true rfl | omega | (dsimp only; omega)) ?_ (fun x2 σ1 h9 => ?_)
  · exact fun E σ1 hx => VX_out hG (by first | exact Nat.le_of_ble_eq_true rfl | omega | (dsimp only; omega)) (by first | exact Nat.le_of_ble_eq_true rfl | omega | (dsimp only; omega)) hx
  · replace h := h9
    clear h9
    refine V_astore_n hG dX9_join_5 (isRef_rf _) (Nat.le_of_ble_eq_true rfl) (hpV rfl rfl) ?_
    refine V_aload_n (v := .ref this) hG dX9_join_6 rfl rfl ?_
    refine V_iload_n hG dX9_join_7 rfl ?_
    obtain ⟨ht, h⟩ := h
    refine V_cVO _ _ hG dX9_join_8 (ct_X9_batchAt hl h) mv_X9_batchAt ml_X9_157 ht rfl rfl rfl rfl (by first | exact Nat.le_of_ble_eq_true rfl | (simp only [List.map_cons, List.map_nil, List.sum_cons, List.sum_nil, cat_rf]; exact Nat.le_of_ble_eq_true rfl)) (Nat.le_of_ble_eq_true rfl) (Nat.le_of_ble_eq_true rfl) (by first | exact Nat.le_of_ble_eq_true rfl | omega | (dsimp only; omega)) (by first | exact Nat.le_of_ble_eq_true rfl | omega | (dsimp only; omega)) ?_ (fun x4 σ3 h9 => ?_)
    · exact fun E σ3 hx => VX_out hG (by first | exact Nat.le_of_ble_eq_true rfl | omega | (dsimp only; omega)) (by first | exact Nat.le_of_ble_eq_true rfl | omega | (dsimp only; omega)) hx
    · replace h := h9
      clear h9
      refine V_astore hG dX9_join_11 (isRef_rf _) (Nat.le_of_ble_eq_true rfl) (hpV rfl (cat_rf _)) ?_
      refine V_aload_n (v := va_rf x2) hG dX9_join_13 (isRef_rf _) rfl ?_
      refine V_aload (v := va_rf x4) hG dX9_join_14 (isRef_rf _) rfl ?_
      refine V_acmp_eq (a := x2) (b := x4) (tgt := 23) hG dX9_join_16 (by decide) (fun c => ?_) (fun c => ?_)
      · replace h := h.1 c
        refine V_iconst (v := 0) hG (by decide) dX9_join_23 ?_
        refine V_forget (lo' := [some (.ref this), none, none, some (va_rf x2), some (va_rf x4), none]) ⟨rfl, ⟨rfl, ⟨rfl, trivial⟩⟩⟩ ?_
        refine V_widen (k' := 2) (n' := 12) (by first | exact Nat.le_of_ble_eq_true rfl | omega | (dsimp only; omega)) (by first | exact Nat.le_of_ble_eq_true rfl | omega | (dsimp only; omega)) ?_
        exact wv_X9_join_24 hl hG  _ _ _ _ _ h
      · replace h := h.2 c
        refine V_iconst (v := 1) hG (by decide) dX9_join_19 ?_
        refine V_goto (tgt := 24) hG dX9_join_20 (by decide) ?_
        refine V_forget (lo' := [some (.ref this), none, none, some (va_rf x2), some (va_rf x4), none]) ⟨rfl, ⟨rfl, ⟨rfl, trivial⟩⟩⟩ ?_
        refine V_widen (k' := 2) (n' := 12) (by first | exact Nat.le_of_ble_eq_true rfl | omega | (dsimp only; omega)) (by first | exact Nat.le_of_ble_eq_true rfl | omega | (dsimp only; omega)) ?_
        exact wv_X9_join_24 hl hG  _ _ _ _ _ h
def wp_X9_recall_107 (K22 : Nat → Int64 → Int32 → Int32 → Int32 → Sg → Prop) (this : Nat) (v2 : Int64) (v4 : Int32) (v5 : Int32) (v6 : Int32) (σ : Sg) (Post : Rs → Sg → Prop) : Prop := (K22 this v2 v4 v5 (v6 + 1) σ)
set_option maxRecDepth 100000 in
set_option maxHeartbeats 4000000 in
theorem wv_X9_recall_107 {L9 : Launch} {G : Cx} {Post : Rs → Sg → Prop} (hl : L9.stackTraces = false) (hG : CX L9 G yX9_recall cX9_recall 8 (some .int) [] { frames := 8, cells := 1, slots := 6, locals := 124 }) {K22 : Nat → Int64 → Int32 → Int32 → Int32 → Sg → Prop} (hK22 : ∀ (this : Nat) (v2 : Int64) (v4 : Int32) (v5 : Int32) (v6 : Int32) (ζ : Sg), K22 this v2 v4 v5 v6 ζ → V G (QM G 1 6 Post) 22 [some (.ref this), none, some (.long v2), none, some (.int v4), some (.int v5), some (.int v6), none] [] ζ 1 6) : ∀ (this : Nat) (v2 : Int64) (v4 : Int32) (v5 : Int32) (v6 : Int32) (σ : Sg), wp_X9_recall_107 K22 this v2 v4 v5 v6 σ Post → V G (QM G 1 6 Post) 107 [some (.ref this), none, some (.long v2), none, some (.int v4), some (.int v5), some (.int v6), none] [] σ 1 6 := by
  intro this v2 v4 v5 v6 σ h
  unfold wp_X9_recall_107 at h
  refine V_iincv (c := 1) hG dX9_recall_107 rfl (by decide) (hpV rfl rfl) ?_
  refine V_goto (tgt := 22) hG dX9_recall_110 (by decide) ?_
  refine V_forget (lo' := [some (.ref this), none, some (.long v2), none, some (.int v4), some (.int v5), some (.int (v6 + 1)), none]) ⟨rfl, ⟨rfl, ⟨rfl, ⟨rfl, ⟨rfl, trivial⟩⟩⟩⟩⟩ ?_
  exact hK22 _ _ _ _ _ _ h
def wp_X9_recall_116  : Nat → Nat → Int32 → Int32 → Int32 → Sg → (Rs → Sg → Prop) → Prop
  | 0, _, _, _, _, _, _ => False
  | f + 1, this, v4, v5, v6, σ, Post => this % 32 = 9 ∧ ∀ o1, o1 = sP σ this 0 → ∃ u2, o1 = some u2 ∧ isArr u2 ∧ (((nI (aln u2)) ≤ v6 → Post (.inl (some (.int (v4 + ((100 : Int32) * v5))))) σ) ∧ (¬ (nI (aln u2)) ≤ v6 → this % 32 = 9 ∧ ∀ o3, o3 = sP σ this 2 → this % 32 = 9 ∧ ∀ o4, o4 = sP σ this 0 → ∃ u5, o4 = some u5 ∧ isRow u5 ∧ ∃ j6, v6 = nI j6 ∧ j6 < aln u5 ∧ ∀ o7, o7 = sP σ u5 j6 → ∃ u8, o3 = some u8 ∧ u8 % 32 = 8 ∧ wp_X8_cutPromises u8 o7 σ (KV (fun σ9 => (wp_X9_recall_116 f this v4 v5 (v6 + 1) σ9 Post)) (fun E σ9 => Post (.inr E) σ9))))
set_option maxRecDepth 100000 in
set_option maxHeartbeats 4000000 in
theorem wv_X9_recall_116 {L9 : Launch} {G : Cx} {Post : Rs → Sg → Prop} (hl : L9.stackTraces = false) (hG : CX L9 G yX9_recall cX9_recall 8 (some .int) [] { frames := 8, cells := 1, slots := 6, locals := 124 })   : ∀ (f : Nat) (this : Nat) (v4 : Int32) (v5 : Int32) (v6 : Int32) (σ : Sg), wp_X9_recall_116 f this v4 v5 v6 σ Post → V G (QM G 1 6 Post) 116 [some (.ref this), none, none, none, some (.int v4), some (.int v5), some (.int v6), none] [] σ 1 6 := by
  intro f
  induction f with
  | zero => intro _ _ _ _ σ h; exact h.elim
  | succ f ih =>
    intro this v4 v5 v6 σ h
    refine V_iload hG dX9_recall_116 rfl ?_
    refine V_aload_n (v := .ref this) hG dX9_recall_118 rfl rfl ?_
    obtain ⟨ht, h⟩ := h
    refine V_getPv hG dX9_recall_119 fl_X9_11 rfl ht (fun o1 ho => ?_)
    replace h := h o1 ho
    obtain ⟨u2, he, h⟩ := h
    subst he
    obtain ⟨ha, h⟩ := h
    refine V_alenv hG dX9_recall_122 ha ?_
    refine V_icmp_ge (tgt := 146) hG dX9_recall_123 (by decide) (fun c => ?_) (fun c => ?_)
    · replace h := h.1 c
      refine V_iload hG dX9_recall_146 rfl ?_
      refine V_bipush (v := 100) hG (by decide) dX9_recall_148 ?_
      refine V_iload hG dX9_recall_150 rfl ?_
      refine V_imul hG dX9_recall_152 ?_
      refine V_iadd hG dX9_recall_153 ?_
      exact V_iret hG dX9_recall_154 (by first | exact Nat.le_of_ble_eq_true rfl | omega | (dsimp only; omega)) (by first | exact Nat.le_of_ble_eq_true rfl | omega | (dsimp only; omega)) h
    · replace h := h.2 c
      refine V_aload_n (v := .ref this) hG dX9_recall_126 rfl rfl ?_
      obtain ⟨ht, h⟩ := h
      refine V_getPv hG dX9_recall_127 fl_X9_26 rfl ht (fun o3 ho => ?_)
      replace h := h o3 ho
      refine V_aload_n (v := .ref this) hG dX9_recall_130 rfl rfl ?_
      obtain ⟨ht, h⟩ := h
      refine V_getPv hG dX9_recall_131 fl_X9_11 rfl ht (fun o4 ho => ?_)
      replace h := h o4 ho
      refine V_iload hG dX9_recall_134 rfl ?_
      obtain ⟨u5, he, h⟩ := h
      subst he
      obtain ⟨ha, j6, hi, hj, h⟩ := h
      refine V_aaldv hG dX9_recall_136 ha hi hj (fun o7 ho => ?_)
      replace h := h o7 ho
      obtain ⟨u8, he, h⟩ := h
      subst he
      obtain ⟨ht, h⟩ := h
      refine V_cVV _ _ hG dX9_recall_137 (ct_X8_cutPromises hl h) mv_X8_cutPromises ml_X9_235 ht rfl rfl rfl rfl (by first | exact Nat.le_of_ble_eq_true rfl | (simp only [List.map_cons, List.map_nil, List.sum_cons, List.sum_nil, cat_rf]; exact Nat.le_of_ble_eq_true rfl)) (Nat.le_of_ble_eq_true rfl) (Nat.le_of_ble_eq_true rfl) (by first | exact Nat.le_of_ble_eq_true rfl | omega | (dsimp only; omega)) (by first | exact Nat.le_of_ble_eq_true rfl | omega | (dsimp only; omega)) ?_ (fun σ9 h9 => ?_)
      · exact fun E σ9 hx => VX_out hG (by first | exact Nat.le_of_ble_eq_true rfl | omega | (dsimp only; omega)) (by first | exact Nat.le_of_ble_eq_true rfl | omega | (dsimp only; omega)) hx
      · replace h := h9
        clear h9
        refine V_iincv (c := 1) hG dX9_recall_140 rfl (by decide) (hpV rfl rfl) ?_
        refine V_goto (tgt := 116) hG dX9_recall_143 (by decide) ?_
        refine V_forget (lo' := [some (.ref this), none, none, none, some (.int v4), some (.int v5), some (.int (v6 + 1)), none]) ⟨rfl, ⟨rfl, ⟨rfl, ⟨rfl, trivial⟩⟩⟩⟩ ?_
        exact ih _ _ _ _ _ h
def wp_X9_recall_22  : Nat → Nat → Int64 → Int32 → Int32 → Int32 → Sg → (Rs → Sg → Prop) → Prop
  | 0, _, _, _, _, _, _, _ => False
  | f + 1, this, v2, v4, v5, v6, σ, Post => this % 32 = 9 ∧ ∀ o1, o1 = sP σ this 2 → ∃ u2, o1 = some u2 ∧ u2 % 32 = 8 ∧ (((sI σ u2 1) ≤ v6 → (∃ g, wp_X9_recall_116 g this v4 v5 (0 : Int32) σ Post)) ∧ (¬ (sI σ u2 1) ≤ v6 → this % 32 = 9 ∧ ∀ o3, o3 = sP σ this 2 → ∃ u4, o3 = some u4 ∧ u4 % 32 = 8 ∧ ∀ o5, o5 = sP σ u4 0 → ∃ u6, o5 = some u6 ∧ isRow u6 ∧ ∃ j7, v6 = nI j7 ∧ j7 < aln u6 ∧ ∀ o8, o8 = sP σ u6 j7 → ∃ u9, o8 = some u9 ∧ u9 % 32 = 0 ∧ wp_X0_bit u9 σ (KJ (fun x11 σ10 => ((¬ (lg_cmp (v2 &&& x11) (0 : Int64)) = 0 → u9 % 32 = 0 ∧ ((¬ (sI σ10 u9 4) = (6 : Int32) → u9 % 32 = 0 ∧ (((sI σ10 u9 4) = (4 : Int32) → (wp_X9_recall_107 (fun z0 z1 z2 z3 z4 ζ => wp_X9_recall_22 f z0 z1 z2 z3 z4 ζ Post) this v2 v4 v5 v6 σ10 Post)) ∧ (¬ (sI σ10 u9 4) = (4 : Int32) → u9 % 32 = 0 ∧ (((sI σ10 u9 4) = (5 : Int32) → (wp_X9_recall_107 (fun z0 z1 z2 z3 z4 ζ => wp_X9_recall_22 f z0 z1 z2 z3 z4 ζ Post) this v2 v4 v5 v6 σ10 Post)) ∧ (¬ (sI σ10 u9 4) = (5 : Int32) → this % 32 = 9 ∧ ∀ o12, o12 = sP σ10 this 1 → ∃ u13, o12 = some u13 ∧ u13 % 32 = 1 ∧ wp_X1_scrap u13 (some u9) σ10 (KV (fun σ14 => (wp_X9_recall_107 (fun z0 z1 z2 z3 z4 ζ => wp_X9_recall_22 f z0 z1 z2 z3 z4 ζ Post) this v2 (v4 + 1) v5 v6 σ14 Post)) (fun E σ14 => Post (.inr E) σ14))))))) ∧ ((sI σ10 u9 4) = (6 : Int32) → (wp_X9_recall_107 (fun z0 z1 z2 z3 z4 ζ => wp_X9_recall_22 f z0 z1 z2 z3 z4 ζ Post) this v2 v4 (v5 + 1) v6 σ10 Post)))) ∧ ((lg_cmp (v2 &&& x11) (0 : Int64)) = 0 → (wp_X9_recall_107 (fun z0 z1 z2 z3 z4 ζ => wp_X9_recall_22 f z0 z1 z2 z3 z4 ζ Post) this v2 v4 v5 v6 σ10 Post)))) (fun E σ10 => Post (.inr E) σ10))))
set_option maxRecDepth 100000 in
set_option maxHeartbeats 4000000 in
theorem wv_X9_recall_22 {L9 : Launch} {G : Cx} {Post : Rs → Sg → Prop} (hl : L9.stackTraces = false) (hG : CX L9 G yX9_recall cX9_recall 8 (some .int) [] { frames := 8, cells := 1, slots := 6, locals := 124 })   : ∀ (f : Nat) (this : Nat) (v2 : Int64) (v4 : Int32) (v5 : Int32) (v6 : Int32) (σ : Sg), wp_X9_recall_22 f this v2 v4 v5 v6 σ Post → V G (QM G 1 6 Post) 22 [some (.ref this), none, some (.long v2), none, some (.int v4), some (.int v5), some (.int v6), none] [] σ 1 6 := by
  intro f
  induction f with
  | zero => intro _ _ _ _ _ σ h; exact h.elim
  | succ f ih =>
    intro this v2 v4 v5 v6 σ h
    refine V_iload hG dX9_recall_22 rfl ?_
    refine V_aload_n (v := .ref this) hG dX9_recall_24 rfl rfl ?_
    obtain ⟨ht, h⟩ := h
    refine V_getPv hG dX9_recall_25 fl_X9_26 rfl ht (fun o1 ho => ?_)
    replace h := h o1 ho
    obtain ⟨u2, he, h⟩ := h
    subst he
    obtain ⟨ht, h⟩ := h
    refine V_getI hG dX9_recall_28 fl_X9_224 rfl ht ?_
    refine V_icmp_ge (tgt := 113) hG dX9_recall_31 (by decide) (fun c => ?_) (fun c => ?_)
    · replace h := h.1 c
      refine V_iconst (v := 0) hG (by decide) dX9_recall_113 ?_
      refine V_istore hG dX9_recall_114 (Nat.le_of_ble_eq_true rfl) (hpV rfl rfl) ?_
      refine V_forget (lo' := [some (.ref this), none, none, none, some (.int v4), some (.int v5), some (.int (0 : Int32)), none]) ⟨rfl, ⟨rfl, ⟨rfl, ⟨rfl, trivial⟩⟩⟩⟩ ?_
      obtain ⟨g, h⟩ := h
      refine V_widen (k' := 1) (n' := 6) (by first | exact Nat.le_of_ble_eq_true rfl | omega | (dsimp only; omega)) (by first | exact Nat.le_of_ble_eq_true rfl | omega | (dsimp only; omega)) ?_
      exact wv_X9_recall_116 hl hG  g _ _ _ _ _ h
    · replace h := h.2 c
      refine V_aload_n (v := .ref this) hG dX9_recall_34 rfl rfl ?_
      obtain ⟨ht, h⟩ := h
      refine V_getPv hG dX9_recall_35 fl_X9_26 rfl ht (fun o3 ho => ?_)
      replace h := h o3 ho
      obtain ⟨u4, he, h⟩ := h
      subst he
      obtain ⟨ht, h⟩ := h
      refine V_getPv hG dX9_recall_38 fl_X9_227 rfl ht (fun o5 ho => ?_)
      replace h := h o5 ho
      refine V_iload hG dX9_recall_41 rfl ?_
      obtain ⟨u6, he, h⟩ := h
      subst he
      obtain ⟨ha, j7, hi, hj, h⟩ := h
      refine V_aaldv hG dX9_recall_43 ha hi hj (fun o8 ho => ?_)
      replace h := h o8 ho
      refine V_astore hG dX9_recall_44 (isRef_rf _) (Nat.le_of_ble_eq_true rfl) (hpV rfl rfl) ?_
      refine V_lload_n hG dX9_recall_46 rfl ?_
      refine V_aload (v := va_rf o8) hG dX9_recall_47 (isRef_rf _) rfl ?_
      obtain ⟨u9, he, h⟩ := h
      subst he
      obtain ⟨ht, h⟩ := h
      refine V_cVJ _ _ hG dX9_recall_49 (ct_X0_bit hl h) mv_X0_bit ml_X9_198 ht rfl rfl rfl rfl (by first | exact Nat.le_of_ble_eq_true rfl | (simp only [List.map_cons, List.map_nil, List.sum_cons, List.sum_nil, cat_rf]; exact Nat.le_of_ble_eq_true rfl)) (Nat.le_of_ble_eq_true rfl) (Nat.le_of_ble_eq_true rfl) (by first | exact Nat.le_of_ble_eq_true rfl | omega | (dsimp only; omega)) (by first | exact Nat.le_of_ble_eq_true rfl | omega | (dsimp only; omega)) ?_ (fun x11 σ10 h9 => ?_)
      · exact fun E σ10 hx => VX_out hG (by first | exact Nat.le_of_ble_eq_true rfl | omega | (dsimp only; omega)) (by first | exact Nat.le_of_ble_eq_true rfl | omega | (dsimp only; omega)) hx
      · replace h := h9
        clear h9
        refine V_land hG dX9_recall_52 ?_
        refine V_lconst (v := 0) hG (by decide) dX9_recall_53 ?_
        refine V_lcmp hG dX9_recall_54 ?_
        refine V_if_ne (tgt := 61) hG dX9_recall_55 (by decide) (fun c => ?_) (fun c => ?_)
        · replace h := h.1 c
          refine V_aload (v := .ref u9) hG dX9_recall_61 rfl rfl ?_
          obtain ⟨ht, h⟩ := h
          refine V_getI hG dX9_recall_63 fl_X9_161 rfl ht ?_
          refine V_bipush (v := 6) hG (by decide) dX9_recall_66 ?_
          refine V_icmp_ne (tgt := 77) hG dX9_recall_68 (by decide) (fun c => ?_) (fun c => ?_)
          · replace h := h.1 c
            refine V_aload (v := .ref u9) hG dX9_recall_77 rfl rfl ?_
            obtain ⟨ht, h⟩ := h
            refine V_getI hG dX9_recall_79 fl_X9_161 rfl ht ?_
            refine V_iconst (v := 4) hG (by decide) dX9_recall_82 ?_
            refine V_icmp_eq (tgt := 107) hG dX9_recall_83 (by decide) (fun c => ?_) (fun c => ?_)
            · replace h := h.1 c
              refine V_forget (lo' := [some (.ref this), none, some (.long v2), none, some (.int v4), some (.int v5), some (.int v6), none]) ⟨rfl, ⟨rfl, ⟨rfl, ⟨rfl, ⟨rfl, trivial⟩⟩⟩⟩⟩ ?_
              refine V_widen (k' := 1) (n' := 6) (by first | exact Nat.le_of_ble_eq_true rfl | omega | (dsimp only; omega)) (by first | exact Nat.le_of_ble_eq_true rfl | omega | (dsimp only; omega)) ?_
              exact wv_X9_recall_107 hl hG (fun z0 z1 z2 z3 z4 ζ hz => ih z0 z1 z2 z3 z4 ζ hz) _ _ _ _ _ _ h
            · replace h := h.2 c
              refine V_aload (v := .ref u9) hG dX9_recall_86 rfl rfl ?_
              obtain ⟨ht, h⟩ := h
              refine V_getI hG dX9_recall_88 fl_X9_161 rfl ht ?_
              refine V_iconst (v := 5) hG (by decide) dX9_recall_91 ?_
              refine V_icmp_eq (tgt := 107) hG dX9_recall_92 (by decide) (fun c => ?_) (fun c => ?_)
              · replace h := h.1 c
                refine V_forget (lo' := [some (.ref this), none, some (.long v2), none, some (.int v4), some (.int v5), some (.int v6), none]) ⟨rfl, ⟨rfl, ⟨rfl, ⟨rfl, ⟨rfl, trivial⟩⟩⟩⟩⟩ ?_
                refine V_widen (k' := 1) (n' := 6) (by first | exact Nat.le_of_ble_eq_true rfl | omega | (dsimp only; omega)) (by first | exact Nat.le_of_ble_eq_true rfl | omega | (dsimp only; omega)) ?_
                exact wv_X9_recall_107 hl hG (fun z0 z1 z2 z3 z4 ζ hz => ih z0 z1 z2 z3 z4 ζ hz) _ _ _ _ _ _ h
              · replace h := h.2 c
                refine V_aload_n (v := .ref this) hG dX9_recall_95 rfl rfl ?_
                obtain ⟨ht, h⟩ := h
                refine V_getPv hG dX9_recall_96 fl_X9_18 rfl ht (fun o12 ho => ?_)
                replace h := h o12 ho
                refine V_aload (v := .ref u9) hG dX9_recall_99 rfl rfl ?_
                obtain ⟨u13, he, h⟩ := h
                subst he
                obtain ⟨ht, h⟩ := h
                refine V_cVV _ _ hG dX9_recall_101 (ct_X1_scrap hl h) mv_X1_scrap ml_X9_231 ht rfl rfl rfl rfl (by first | exact Nat.le_of_ble_eq_true rfl | (simp only [List.map_cons, List.map_nil, List.sum_cons, List.sum_nil, cat_rf]; exact Nat.le_of_ble_eq_true rfl)) (Nat.le_of_ble_eq_true rfl) (Nat.le_of_ble_eq_true rfl) (by first | exact Nat.le_of_ble_eq_true rfl | omega | (dsimp only; omega)) (by first | exact Nat.le_of_ble_eq_true rfl | omega | (dsimp only; omega)) ?_ (fun σ14 h9 => ?_)
                · exact fun E σ14 hx => VX_out hG (by first | exact Nat.le_of_ble_eq_true rfl | omega | (dsimp only; omega)) (by first | exact Nat.le_of_ble_eq_true rfl | omega | (dsimp only; omega)) hx
                · replace h := h9
                  clear h9
                  refine V_iincv (c := 1) hG dX9_recall_104 rfl (by decide) (hpN rfl) ?_
                  refine V_forget (lo' := [some (.ref this), none, some (.long v2), none, some (.int (v4 + 1)), some (.int v5), some (.int v6), none]) ⟨rfl, ⟨rfl, ⟨rfl, ⟨rfl, ⟨rfl, trivial⟩⟩⟩⟩⟩ ?_
                  refine V_widen (k' := 1) (n' := 6) (by first | exact Nat.le_of_ble_eq_true rfl | omega | (dsimp only; omega)) (by first | exact Nat.le_of_ble_eq_true rfl | omega | (dsimp only; omega)) ?_
                  exact wv_X9_recall_107 hl hG (fun z0 z1 z2 z3 z4 ζ hz => ih z0 z1 z2 z3 z4 ζ hz) _ _ _ _ _ _ h
          · replace h := h.2 c
            refine V_iincv (c := 1) hG dX9_recall_71 rfl (by decide) (hpV rfl rfl) ?_
            refine V_goto (tgt := 107) hG dX9_recall_74 (by decide) ?_
            refine V_forget (lo' := [some (.ref this), none, some (.long v2), none, some (.int v4), some (.int (v5 + 1)), some (.int v6), none]) ⟨rfl, ⟨rfl, ⟨rfl, ⟨rfl, ⟨rfl, trivial⟩⟩⟩⟩⟩ ?_
            refine V_widen (k' := 1) (n' := 6) (by first | exact Nat.le_of_ble_eq_true rfl | omega | (dsimp only; omega)) (by first | exact Nat.le_of_ble_eq_true rfl | omega | (dsimp only; omega)) ?_
            exact wv_X9_recall_107 hl hG (fun z0 z1 z2 z3 z4 ζ hz => ih z0 z1 z2 z3 z4 ζ hz) _ _ _ _ _ _ h
        · replace h := h.2 c
          refine V_goto (tgt := 107) hG dX9_recall_58 (by decide) ?_
          refine V_forget (lo' := [some (.ref this), none, some (.long v2), none, some (.int v4), some (.int v5), some (.int v6), none]) ⟨rfl, ⟨rfl, ⟨rfl, ⟨rfl, ⟨rfl, trivial⟩⟩⟩⟩⟩ ?_
          refine V_widen (k' := 1) (n' := 6) (by first | exact Nat.le_of_ble_eq_true rfl | omega | (dsimp only; omega)) (by first | exact Nat.le_of_ble_eq_true rfl | omega | (dsimp only; omega)) ?_
          exact wv_X9_recall_107 hl hG (fun z0 z1 z2 z3 z4 ζ hz => ih z0 z1 z2 z3 z4 ζ hz) _ _ _ _ _ _ h
def wp_X9_recall (this : Nat) (a0 : Int32) (σ : Sg) (Post : Rs → Sg → Prop) : Prop := this % 32 = 9 ∧ ∀ o1, o1 = sP σ this 2 → this % 32 = 9 ∧ wp_X9_batchAt this a0 σ (KO (fun x3 σ2 => ∃ u4, o1 = some u4 ∧ u4 % 32 = 8 ∧ wp_X8_familyOf u4 x3 σ2 (KJ (fun x6 σ5 => (∃ g, wp_X9_recall_22 g this x6 (0 : Int32) (0 : Int32) (0 : Int32) σ5 Post)) (fun E σ5 => Post (.inr E) σ5))) (fun E σ2 => Post (.inr E) σ2))
set_option maxRecDepth 100000 in
set_option maxHeartbeats 4000000 in
theorem ct_X9_recall {l : Launch} (hl : l.stackTraces = false) {this : Nat} {a0 : Int32} {σ : Sg} {Post : Rs → Sg → Prop} (h : wp_X9_recall this a0 σ Post) : Ct l yX9_recall (.code yX9_recall cX9_recall 8 (some .int)) 8 124 1 6 [.ref this, .int a0] σ Post := by
  refine Ct_of [some (.ref this), some (.int a0), none, none, none, none, none, none] hl (by decide +kernel) rfl (fun ad => by rfl) (fun ad => by exact Nat.le_of_ble_eq_true rfl) (fun v hv => mem_lo hv rfl) ?_
  intro G hG
  unfold wp_X9_recall at h
  refine V_aload_n (v := .ref this) hG dX9_recall_0 rfl rfl ?_
  obtain ⟨ht, h⟩ := h
  refine V_getPv hG dX9_recall_1 fl_X9_26 rfl ht (fun o1 ho => ?_)
  replace h := h o1 ho
  refine V_aload_n (v := .ref this) hG dX9_recall_4 rfl rfl ?_
  refine V_iload_n hG dX9_recall_5 rfl ?_
  obtain ⟨ht, h⟩ := h
  refine V_cVO _ _ hG dX9_recall_6 (ct_X9_batchAt hl h) mv_X9_batchAt ml_X9_157 ht rfl rfl rfl rfl (by first | exact Nat.le_of_ble_eq_true rfl | (simp only [List.map_cons, List.map_nil, List.sum_cons, List.sum_nil, cat_rf]; exact Nat.le_of_ble_eq_true rfl)) (Nat.le_of_ble_eq_true rfl) (Nat.le_of_ble_eq_true rfl) (by first | exact Nat.le_of_ble_eq_true rfl | omega | (dsimp only; omega)) (by first | exact Nat.le_of_ble_eq_true rfl | omega | (dsimp only; omega)) ?_ (fun x3 σ2 h9 => ?_)
  · exact fun E σ2 hx => VX_out hG (by first | exact Nat.le_of_ble_eq_true rfl | omega | (dsimp only; omega)) (by first | exact Nat.le_of_ble_eq_true rfl | omega | (dsimp only; omega)) hx
  · replace h := h9
    clear h9
    obtain ⟨u4, he, h⟩ := h
    subst he
    obtain ⟨ht, h⟩ := h
    refine V_cVJ _ _ hG dX9_recall_9 (ct_X8_familyOf hl h) mv_X8_familyOf ml_X9_220 ht rfl rfl rfl rfl (by first | exact Nat.le_of_ble_eq_true rfl | (simp only [List.map_cons, List.map_nil, List.sum_cons, List.sum_nil, cat_rf]; exact Nat.le_of_ble_eq_true rfl)) (Nat.le_of_ble_eq_true rfl) (Nat.le_of_ble_eq_true rfl) (by first | exact Nat.le_of_ble_eq_true rfl | omega | (dsimp only; omega)) (by first | exact Nat.le_of_ble_eq_true rfl | omega | (dsimp only; omega)) ?_ (fun x6 σ5 h9 => ?_)
    · exact fun E σ5 hx => VX_out hG (by first | exact Nat.le_of_ble_eq_true rfl | omega | (dsimp only; omega)) (by first | exact Nat.le_of_ble_eq_true rfl | omega | (dsimp only; omega)) hx
    · replace h := h9
      clear h9
      refine V_lstore_n hG dX9_recall_12 (Nat.le_of_ble_eq_true rfl) (hpV rfl rfl) ?_
      refine V_iconst (v := 0) hG (by decide) dX9_recall_13 ?_
      refine V_istore hG dX9_recall_14 (Nat.le_of_ble_eq_true rfl) (hpN rfl) ?_
      refine V_iconst (v := 0) hG (by decide) dX9_recall_16 ?_
      refine V_istore hG dX9_recall_17 (Nat.le_of_ble_eq_true rfl) (hpV rfl rfl) ?_
      refine V_iconst (v := 0) hG (by decide) dX9_recall_19 ?_
      refine V_istore hG dX9_recall_20 (Nat.le_of_ble_eq_true rfl) (hpV rfl rfl) ?_
      refine V_forget (lo' := [some (.ref this), none, some (.long x6), none, some (.int (0 : Int32)), some (.int (0 : Int32)), some (.int (0 : Int32)), none]) ⟨rfl, ⟨rfl, ⟨rfl, ⟨rfl, ⟨rfl, trivial⟩⟩⟩⟩⟩ ?_
      obtain ⟨g, h⟩ := h
      refine V_widen (k' := 1) (n' := 6) (by first | exact Nat.le_of_ble_eq_true rfl | omega | (dsimp only; omega)) (by first | exact Nat.le_of_ble_eq_true rfl | omega | (dsimp only; omega)) ?_
      exact wv_X9_recall_22 hl hG  g _ _ _ _ _ _ h
def wp_X9_order (this : Nat) (a0 : Int32) (a1 : Int32) (a2 : Int32) (σ : Sg) (Post : Rs → Sg → Prop) : Prop := this % 32 = 9 ∧ wp_X9_kindAt this a0 σ (KO (fun x2 σ1 => wp_X9_requireRange a1 (1 : Int32) (20 : Int32) σ1 (KV (fun σ3 => wp_X9_requireRange a2 (0 : Int32) (999 : Int32) σ3 (KV (fun σ4 => this % 32 = 9 ∧ ∀ o5, o5 = sP σ4 this 2 → ∃ u6, o5 = some u6 ∧ u6 % 32 = 8 ∧ this % 32 = 9 ∧ ∀ o7, o7 = sP σ4 this 2 → ∃ u8, sX σ4 u8 = false ∧ u8 % 32 = 6 ∧ wp_X6_init u8 x2 a1 a2 (wN σ4 u8) (KV (fun σ9 => ∃ u10, o7 = some u10 ∧ u10 % 32 = 8 ∧ wp_X8_putOrder u10 (some u8) σ9 (KV (fun σ11 => Post (.inl (some (.int (sI σ4 u6 3)))) σ11) (fun E σ11 => Post (.inr E) σ11))) (fun E σ9 => Post (.inr E) σ9))) (fun E σ4 => Post (.inr E) σ4))) (fun E σ3 => Post (.inr E) σ3))) (fun E σ1 => Post (.inr E) σ1))
set_option maxRecDepth 100000 in
set_option maxHeartbeats 4000000 in
theorem ct_X9_order {l : Launch} (hl : l.stackTraces = false) {this : Nat} {a0 : Int32} {a1 : Int32} {a2 : Int32} {σ : Sg} {Post : Rs → Sg → Prop} (h : wp_X9_order this a0 a1 a2 σ Post) : Ct l yX9_order (.code yX9_order cX9_order 6 (some .int)) 8 124 5 30 [.ref this, .int a0, .int a1, .int a2] σ Post := by
  refine Ct_of [some (.ref this), some (.int a0), some (.int a1), some (.int a2), none, none] hl (by decide +kernel) rfl (fun ad => by rfl) (fun ad => by exact Nat.le_of_ble_eq_true rfl) (fun v hv => mem_lo hv rfl) ?_
  intro G hG
  unfold wp_X9_order at h
  refine V_aload_n (v := .ref this) hG dX9_order_0 rfl rfl ?_
  refine V_iload_n hG dX9_order_1 rfl ?_
  obtain ⟨ht, h⟩ := h
  refine V_cVO _ _ hG dX9_order_2 (ct_X9_kindAt hl h) mv_X9_kindAt ml_X9_30 ht rfl rfl rfl rfl (by first | exact Nat.le_of_ble_eq_true rfl | (simp only [List.map_cons, List.map_nil, List.sum_cons, List.sum_nil, cat_rf]; exact Nat.le_of_ble_eq_true rfl)) (Nat.le_of_ble_eq_true rfl) (Nat.le_of_ble_eq_true rfl) (by first | exact Nat.le_of_ble_eq_true rfl | omega | (dsimp only; omega)) (by first | exact Nat.le_of_ble_eq_true rfl | omega | (dsimp only; omega)) ?_ (fun x2 σ1 h9 => ?_)
  · exact fun E σ1 hx => VX_out hG (by first | exact Nat.le_of_ble_eq_true rfl | omega | (dsimp only; omega)) (by first | exact Nat.le_of_ble_eq_true rfl | omega | (dsimp only; omega)) hx
  · replace h := h9
    clear h9
    refine V_astore hG dX9_order_5 (isRef_rf _) (Nat.le_of_ble_eq_true rfl) (hpV rfl rfl) ?_
    refine V_iload_n hG dX9_order_7 rfl ?_
    refine V_iconst (v := 1) hG (by decide) dX9_order_8 ?_
    refine V_bipush (v := 20) hG (by decide) dX9_order_9 ?_
    refine V_cSV _ _ hG dX9_order_11 (ct_X9_requireRange hl h) mv_X9_requireRange ml_X9_34 rfl rfl (by first | exact Nat.le_of_ble_eq_true rfl | (simp only [List.map_cons, List.map_nil, List.sum_cons, List.sum_nil, cat_rf]; exact Nat.le_of_ble_eq_true rfl)) (Nat.le_of_ble_eq_true rfl) (Nat.le_of_ble_eq_true rfl) (by first | exact Nat.le_of_ble_eq_true rfl | omega | (dsimp only; omega)) (by first | exact Nat.le_of_ble_eq_true rfl | omega | (dsimp only; omega)) ?_ (fun σ3 h9 => ?_)
    · exact fun E σ3 hx => VX_out hG (by first | exact Nat.le_of_ble_eq_true rfl | omega | (dsimp only; omega)) (by first | exact Nat.le_of_ble_eq_true rfl | omega | (dsimp only; omega)) hx
    · replace h := h9
      clear h9
      refine V_iload_n hG dX9_order_14 rfl ?_
      refine V_iconst (v := 0) hG (by decide) dX9_order_15 ?_
      refine V_sipush (v := 999) hG (by decide) dX9_order_16 ?_
      refine V_cSV _ _ hG dX9_order_19 (ct_X9_requireRange hl h) mv_X9_requireRange ml_X9_34 rfl rfl (by first | exact Nat.le_of_ble_eq_true rfl | (simp only [List.map_cons, List.map_nil, List.sum_cons, List.sum_nil, cat_rf]; exact Nat.le_of_ble_eq_true rfl)) (Nat.le_of_ble_eq_true rfl) (Nat.le_of_ble_eq_true rfl) (by first | exact Nat.le_of_ble_eq_true rfl | omega | (dsimp only; omega)) (by first | exact Nat.le_of_ble_eq_true rfl | omega | (dsimp only; omega)) ?_ (fun σ4 h9 => ?_)
      · exact fun E σ4 hx => VX_out hG (by first | exact Nat.le_of_ble_eq_true rfl | omega | (dsimp only; omega)) (by first | exact Nat.le_of_ble_eq_true rfl | omega | (dsimp only; omega)) hx
      · replace h := h9
        clear h9
        refine V_aload_n (v := .ref this) hG dX9_order_22 rfl rfl ?_
        obtain ⟨ht, h⟩ := h
        refine V_getPv hG dX9_order_23 fl_X9_26 rfl ht (fun o5 ho => ?_)
        replace h := h o5 ho
        obtain ⟨u6, he, h⟩ := h
        subst he
        obtain ⟨ht, h⟩ := h
        refine V_getI hG dX9_order_26 fl_X9_239 rfl ht ?_
        refine V_istore hG dX9_order_29 (Nat.le_of_ble_eq_true rfl) (hpV rfl (cat_rf _)) ?_
        refine V_aload_n (v := .ref this) hG dX9_order_31 rfl rfl ?_
        obtain ⟨ht, h⟩ := h
        refine V_getPv hG dX9_order_32 fl_X9_26 rfl ht (fun o7 ho => ?_)
        replace h := h o7 ho
        obtain ⟨u8, hu, ht, h⟩ := h
        refine V_newn (N := 6) hG dX9_order_35 hu ht rfl rfl cl_X9_242 ins_X6 ini_X6 (Nat.le_of_ble_eq_true rfl) (Nat.le_of_ble_eq_true rfl) ?_
        refine V_dup (v := .ref u8) hG rfl dX9_order_38 ?_
        refine V_aload (v := va_rf x2) hG dX9_order_39 (isRef_rf _) rfl ?_
        refine V_iload_n hG dX9_order_41 rfl ?_
        refine V_iload_n hG dX9_order_42 rfl ?_
        refine V_cIV _ _ hG dX9_order_43 (ct_X6_init hl h) mv_X6_init ml_X9_244 rfl rfl (by first | exact Nat.le_of_ble_eq_true rfl | (simp only [List.map_cons, List.map_nil, List.sum_cons, List.sum_nil, cat_rf]; exact Nat.le_of_ble_eq_true rfl)) (Nat.le_of_ble_eq_true rfl) (Nat.le_of_ble_eq_true rfl) (by first | exact Nat.le_of_ble_eq_true rfl | omega | (dsimp only; omega)) (by first | exact Nat.le_of_ble_eq_true rfl | omega | (dsimp only; omega)) ?_ (fun σ9 h9 => ?_)
        · exact fun E σ9 hx => VX_out hG (by first | exact Nat.le_of_ble_eq_true rfl | omega | (dsimp only; omega)) (by first | exact Nat.le_of_ble_eq_true rfl | omega | (dsimp only; omega)) hx
        · replace h := h9
          clear h9
          obtain ⟨u10, he, h⟩ := h
          subst he
          obtain ⟨ht, h⟩ := h
          refine V_cVV _ _ hG dX9_order_46 (ct_X8_putOrder hl h) mv_X8_putOrder ml_X9_247 ht rfl rfl rfl rfl (by first | exact Nat.le_of_ble_eq_true rfl | (simp only [List.map_cons, List.map_nil, List.sum_cons, List.sum_nil, cat_rf]; exact Nat.le_of_ble_eq_true rfl)) (Nat.le_of_ble_eq_true rfl) (Nat.le_of_ble_eq_true rfl) (by first | exact Nat.le_of_ble_eq_true rfl | omega | (dsimp only; omega)) (by first | exact Nat.le_of_ble_eq_true rfl | omega | (dsimp only; omega)) ?_ (fun σ11 h9 => ?_)
          · exact fun E σ11 hx => VX_out hG (by first | exact Nat.le_of_ble_eq_true rfl | omega | (dsimp only; omega)) (by first | exact Nat.le_of_ble_eq_true rfl | omega | (dsimp only; omega)) hx
          · replace h := h9
            clear h9
            refine V_iload hG dX9_order_49 rfl ?_
            exact V_iret hG dX9_order_51 (by first | exact Nat.le_of_ble_eq_true rfl | omega | (dsimp only; omega)) (by first | exact Nat.le_of_ble_eq_true rfl | omega | (dsimp only; omega)) h
def wp_X9_orderAt (this : Nat) (a0 : Int32) (σ : Sg) (Post : Rs → Sg → Prop) : Prop := this % 32 = 9 ∧ ∀ o1, o1 = sP σ this 2 → ∃ u2, o1 = some u2 ∧ u2 % 32 = 8 ∧ wp_X9_requireIndex a0 (sI σ u2 3) σ (KV (fun σ3 => this % 32 = 9 ∧ ∀ o4, o4 = sP σ3 this 2 → ∃ u5, o4 = some u5 ∧ u5 % 32 = 8 ∧ ∀ o6, o6 = sP σ3 u5 2 → ∃ u7, o6 = some u7 ∧ isRow u7 ∧ ∃ j8, a0 = nI j8 ∧ j8 < aln u7 ∧ ∀ o9, o9 = sP σ3 u7 j8 → Post (.inl (some (va_rf o9))) σ3) (fun E σ3 => Post (.inr E) σ3))
set_option maxRecDepth 100000 in
set_option maxHeartbeats 4000000 in
theorem ct_X9_orderAt {l : Launch} (hl : l.stackTraces = false) {this : Nat} {a0 : Int32} {σ : Sg} {Post : Rs → Sg → Prop} (h : wp_X9_orderAt this a0 σ Post) : Ct l yX9_orderAt (.code yX9_orderAt cX9_orderAt 2 (some (.object "Millrace$Order"))) 7 103 1 6 [.ref this, .int a0] σ Post := by
  refine Ct_of [some (.ref this), some (.int a0)] hl (by decide +kernel) rfl (fun ad => by rfl) (fun ad => by exact Nat.le_of_ble_eq_true rfl) (fun v hv => mem_lo hv rfl) ?_
  intro G hG
  unfold wp_X9_orderAt at h
  refine V_iload_n hG dX9_orderAt_0 rfl ?_
  refine V_aload_n (v := .ref this) hG dX9_orderAt_1 rfl rfl ?_
  obtain ⟨ht, h⟩ := h
  refine V_getPv hG dX9_orderAt_2 fl_X9_26 rfl ht (fun o1 ho => ?_)
  replace h := h o1 ho
  obtain ⟨u2, he, h⟩ := h
  subst he
  obtain ⟨ht, h⟩ := h
  refine V_getI hG dX9_orderAt_5 fl_X9_239 rfl ht ?_
  refine V_cSV _ _ hG dX9_orderAt_8 (ct_X9_requireIndex hl h) mv_X9_requireIndex ml_X9_81 rfl rfl (by first | exact Nat.le_of_ble_eq_true rfl | (simp only [List.map_cons, List.map_nil, List.sum_cons, List.sum_nil, cat_rf]; exact Nat.le_of_ble_eq_true rfl)) (Nat.le_of_ble_eq_true rfl) (Nat.le_of_ble_eq_true rfl) (by first | exact Nat.le_of_ble_eq_true rfl | omega | (dsimp only; omega)) (by first | exact Nat.le_of_ble_eq_true rfl | omega | (dsimp only; omega)) ?_ (fun σ3 h9 => ?_)
  · exact fun E σ3 hx => VX_out hG (by first | exact Nat.le_of_ble_eq_true rfl | omega | (dsimp only; omega)) (by first | exact Nat.le_of_ble_eq_true rfl | omega | (dsimp only; omega)) hx
  · replace h := h9
    clear h9
    refine V_aload_n (v := .ref this) hG dX9_orderAt_11 rfl rfl ?_
    obtain ⟨ht, h⟩ := h
    refine V_getPv hG dX9_orderAt_12 fl_X9_26 rfl ht (fun o4 ho => ?_)
    replace h := h o4 ho
    obtain ⟨u5, he, h⟩ := h
    subst he
    obtain ⟨ht, h⟩ := h
    refine V_getPv hG dX9_orderAt_15 fl_X9_356 rfl ht (fun o6 ho => ?_)
    replace h := h o6 ho
    refine V_iload_n hG dX9_orderAt_18 rfl ?_
    obtain ⟨u7, he, h⟩ := h
    subst he
    obtain ⟨ha, j8, hi, hj, h⟩ := h
    refine V_aaldv hG dX9_orderAt_19 ha hi hj (fun o9 ho => ?_)
    replace h := h o9 ho
    exact V_aret (v := va_rf o9) hG dX9_orderAt_20 (isRef_rf _) (by first | exact Nat.le_of_ble_eq_true rfl | omega | (dsimp only; omega)) (by first | exact Nat.le_of_ble_eq_true rfl | omega | (dsimp only; omega)) h
def wp_X9_promise_18  (v2 : Nat) (s0 : Int32) (σ : Sg) (Post : Rs → Sg → Prop) : Prop := wp_X9_requireState s0 σ (KV (fun σ1 => v2 % 32 = 6 ∧ v2 % 32 = 6 ∧ v2 % 32 = 6 ∧ ∀ o2, o2 = sP σ1 v2 0 → ∃ u3, o2 = some u3 ∧ u3 % 32 = 2 ∧ wp_X2_free u3 σ1 (KI (fun x5 σ4 => v2 % 32 = 6 ∧ v2 % 32 = 6 ∧ v2 % 32 = 6 ∧ ∀ o6, o6 = sP (wI σ4 v2 3 ((sI σ4 v2 3) + (if x5 < ((sI σ1 v2 1) - (sI σ1 v2 3)) then x5 else ((sI σ1 v2 1) - (sI σ1 v2 3))))) v2 0 → ∃ u7, o6 = some u7 ∧ u7 % 32 = 2 ∧ u7 % 32 = 2 ∧ v2 % 32 = 6 ∧ Post (.inl (some (.int (sI (wI (wI σ4 v2 3 ((sI σ4 v2 3) + (if x5 < ((sI σ1 v2 1) - (sI σ1 v2 3)) then x5 else ((sI σ1 v2 1) - (sI σ1 v2 3))))) u7 11 ((sI (wI σ4 v2 3 ((sI σ4 v2 3) + (if x5 < ((sI σ1 v2 1) - (sI σ1 v2 3)) then x5 else ((sI σ1 v2 1) - (sI σ1 v2 3))))) u7 11) + (if x5 < ((sI σ1 v2 1) - (sI σ1 v2 3)) then x5 else ((sI σ1 v2 1) - (sI σ1 v2 3))))) v2 3)))) (wI (wI σ4 v2 3 ((sI σ4 v2 3) + (if x5 < ((sI σ1 v2 1) - (sI σ1 v2 3)) then x5 else ((sI σ1 v2 1) - (sI σ1 v2 3))))) u7 11 ((sI (wI σ4 v2 3 ((sI σ4 v2 3) + (if x5 < ((sI σ1 v2 1) - (sI σ1 v2 3)) then x5 else ((sI σ1 v2 1) - (sI σ1 v2 3))))) u7 11) + (if x5 < ((sI σ1 v2 1) - (sI σ1 v2 3)) then x5 else ((sI σ1 v2 1) - (sI σ1 v2 3)))))) (fun E σ4 => Post (.inr E) σ4))) (fun E σ1 => Post (.inr E) σ1))
set_option maxRecDepth 100000 in
set_option maxHeartbeats 4000000 in
theorem wv_X9_promise_18 {L9 : Launch} {G : Cx} {Post : Rs → Sg → Prop} (hl : L9.stackTraces = false) (hG : CX L9 G yX9_promise cX9_promise 4 (some .int) [] { frames := 8, cells := 2, slots := 12, locals := 124 })   : ∀ (v2 : Nat) (s0 : Int32) (σ : Sg), wp_X9_promise_18 v2 s0 σ Post → V G (QM G 2 12 Post) 18 [none, none, some (.ref v2), none] [.int s0] σ 1 6 := by
  intro v2 s0 σ h
  unfold wp_X9_promise_18 at h
  refine V_cSV _ _ hG dX9_promise_18 (ct_X9_requireState hl h) mv_X9_requireState ml_X9_49 rfl rfl (by first | exact Nat.le_of_ble_eq_true rfl | (simp only [List.map_cons, List.map_nil, List.sum_cons, List.sum_nil, cat_rf]; exact Nat.le_of_ble_eq_true rfl)) (Nat.le_of_ble_eq_true rfl) (Nat.le_of_ble_eq_true rfl) (by first | exact Nat.le_of_ble_eq_true rfl | omega | (dsimp only; omega)) (by first | exact Nat.le_of_ble_eq_true rfl | omega | (dsimp only; omega)) ?_ (fun σ1 h9 => ?_)
  · exact fun E σ1 hx => VX_out hG (by first | exact Nat.le_of_ble_eq_true rfl | omega | (dsimp only; omega)) (by first | exact Nat.le_of_ble_eq_true rfl | omega | (dsimp only; omega)) hx
  · replace h := h9
    clear h9
    refine V_aload_n (v := .ref v2) hG dX9_promise_21 rfl rfl ?_
    obtain ⟨ht, h⟩ := h
    refine V_getI hG dX9_promise_22 fl_X9_259 rfl ht ?_
    refine V_aload_n (v := .ref v2) hG dX9_promise_25 rfl rfl ?_
    obtain ⟨ht, h⟩ := h
    refine V_getI hG dX9_promise_26 fl_X9_260 rfl ht ?_
    refine V_isub hG dX9_promise_29 ?_
    refine V_aload_n (v := .ref v2) hG dX9_promise_30 rfl rfl ?_
    obtain ⟨ht, h⟩ := h
    refine V_getPv hG dX9_promise_31 fl_X9_263 rfl ht (fun o2 ho => ?_)
    replace h := h o2 ho
    obtain ⟨u3, he, h⟩ := h
    subst he
    obtain ⟨ht, h⟩ := h
    refine V_cVI _ _ hG dX9_promise_34 (ct_X2_free hl h) mv_X2_free ml_X9_264 ht rfl rfl rfl rfl (by first | exact Nat.le_of_ble_eq_true rfl | (simp only [List.map_cons, List.map_nil, List.sum_cons, List.sum_nil, cat_rf]; exact Nat.le_of_ble_eq_true rfl)) (Nat.le_of_ble_eq_true rfl) (Nat.le_of_ble_eq_true rfl) (by first | exact Nat.le_of_ble_eq_true rfl | omega | (dsimp only; omega)) (by first | exact Nat.le_of_ble_eq_true rfl | omega | (dsimp only; omega)) ?_ (fun x5 σ4 h9 => ?_)
    · exact fun E σ4 hx => VX_out hG (by first | exact Nat.le_of_ble_eq_true rfl | omega | (dsimp only; omega)) (by first | exact Nat.le_of_ble_eq_true rfl | omega | (dsimp only; omega)) hx
    · replace h := h9
      clear h9
      refine V_mmin hG dX9_promise_37 ml_X9_268 mm_min.1 mm_min.2.1 mm_min.2.2 (Nat.le_of_ble_eq_true rfl) (by first | exact Nat.le_of_ble_eq_true rfl | (simp only [List.map_cons, List.map_nil, List.sum_cons, List.sum_nil, cat_rf]; exact Nat.le_of_ble_eq_true rfl)) (Nat.le_of_ble_eq_true rfl) (Nat.le_of_ble_eq_true rfl) ?_
      refine V_istore_n hG dX9_promise_40 (Nat.le_of_ble_eq_true rfl) (hpV rfl rfl) ?_
      refine V_aload_n (v := .ref v2) hG dX9_promise_41 rfl rfl ?_
      refine V_dup (v := .ref v2) hG rfl dX9_promise_42 ?_
      obtain ⟨ht, h⟩ := h
      refine V_getI hG dX9_promise_43 fl_X9_260 rfl ht ?_
      refine V_iload_n hG dX9_promise_46 rfl ?_
      refine V_iadd hG dX9_promise_47 ?_
      obtain ⟨ht, h⟩ := h
      refine V_putI hG dX9_promise_48 fl_X9_260 rfl (fun e => absurd e (by decide)) rfl ht ?_
      refine V_aload_n (v := .ref v2) hG dX9_promise_51 rfl rfl ?_
      obtain ⟨ht, h⟩ := h
      refine V_getPv hG dX9_promise_52 fl_X9_263 rfl ht (fun o6 ho => ?_)
      replace h := h o6 ho
      refine V_dup (v := va_rf o6) hG (cat_rf _) dX9_promise_55 ?_
      obtain ⟨u7, he, h⟩ := h
      subst he
      obtain ⟨ht, h⟩ := h
      refine V_getI hG dX9_promise_56 fl_X9_271 rfl ht ?_
      refine V_iload_n hG dX9_promise_59 rfl ?_
      refine V_iadd hG dX9_promise_60 ?_
      obtain ⟨ht, h⟩ := h
      refine V_putI hG dX9_promise_61 fl_X9_271 rfl (fun e => absurd e (by decide)) rfl ht ?_
      refine V_aload_n (v := .ref v2) hG dX9_promise_64 rfl rfl ?_
      obtain ⟨ht, h⟩ := h
      refine V_getI hG dX9_promise_65 fl_X9_260 rfl ht ?_
      exact V_iret hG dX9_promise_68 (by first | exact Nat.le_of_ble_eq_true rfl | omega | (dsimp only; omega)) (by first | exact Nat.le_of_ble_eq_true rfl | omega | (dsimp only; omega)) h
def wp_X9_promise (this : Nat) (a0 : Int32) (σ : Sg) (Post : Rs → Sg → Prop) : Prop := this % 32 = 9 ∧ wp_X9_orderAt this a0 σ (KO (fun x2 σ1 => ∃ u3, x2 = some u3 ∧ u3 % 32 = 6 ∧ ∀ o4, o4 = sP σ1 u3 4 → ((o4 = none → (wp_X9_promise_18 u3 (1 : Int32) σ1 Post)) ∧ (∀ u5, o4 = some u5 → (wp_X9_promise_18 u3 (0 : Int32) σ1 Post)))) (fun E σ1 => Post (.inr E) σ1))
set_option maxRecDepth 100000 in
set_option maxHeartbeats 4000000 in
theorem ct_X9_promise {l : Launch} (hl : l.stackTraces = false) {this : Nat} {a0 : Int32} {σ : Sg} {Post : Rs → Sg → Prop} (h : wp_X9_promise this a0 σ Post) : Ct l yX9_promise (.code yX9_promise cX9_promise 4 (some .int)) 8 124 2 12 [.ref this, .int a0] σ Post := by
  refine Ct_of [some (.ref this), some (.int a0), none, none] hl (by decide +kernel) rfl (fun ad => by rfl) (fun ad => by exact Nat.le_of_ble_eq_true rfl) (fun v hv => mem_lo hv rfl) ?_
  intro G hG
  unfold wp_X9_promise at h
  refine V_aload_n (v := .ref this) hG dX9_promise_0 rfl rfl ?_
  refine V_iload_n hG dX9_promise_1 rfl ?_
  obtain ⟨ht, h⟩ := h
  refine V_cVO _ _ hG dX9_promise_2 (ct_X9_orderAt hl h) mv_X9_orderAt ml_X9_251 ht rfl rfl rfl rfl (by first | exact Nat.le_of_ble_eq_true rfl | (simp only [List.map_cons, List.map_nil, List.sum_cons, List.sum_nil, cat_rf]; exact Nat.le_of_ble_eq_true rfl)) (Nat.le_of_ble_eq_true rfl) (Nat.le_of_ble_eq_true rfl) (by first | exact Nat.le_of_ble_eq_true rfl | omega | (dsimp only; omega)) (by first | exact Nat.le_of_ble_eq_true rfl | omega | (dsimp only; omega)) ?_ (fun x2 σ1 h9 => ?_)
  · exact fun E σ1 hx => VX_out hG (by first | exact Nat.le_of_ble_eq_true rfl | omega | (dsimp only; omega)) (by first | exact Nat.le_of_ble_eq_true rfl | omega | (dsimp only; omega)) hx
  · replace h := h9
    clear h9
    refine V_astore_n hG dX9_promise_5 (isRef_rf _) (Nat.le_of_ble_eq_true rfl) (hpV rfl rfl) ?_
    refine V_aload_n (v := va_rf x2) hG dX9_promise_6 (isRef_rf _) rfl ?_
    obtain ⟨u3, he, h⟩ := h
    subst he
    obtain ⟨ht, h⟩ := h
    refine V_getPv hG dX9_promise_7 fl_X9_255 rfl ht (fun o4 ho => ?_)
    replace h := h o4 ho
    refine V_ifnonnull (o := o4) (tgt := 17) hG dX9_promise_10 (by decide) (fun c => ?_) (fun c => ?_)
    · obtain ⟨u5, c⟩ := c
      replace h := h.2 u5 c
      subst c
      refine V_iconst (v := 0) hG (by decide) dX9_promise_17 ?_
      refine V_forget (lo' := [none, none, some (.ref u3), none]) ⟨rfl, trivial⟩ ?_
      refine V_widen (k' := 1) (n' := 6) (by first | exact Nat.le_of_ble_eq_true rfl | omega | (dsimp only; omega)) (by first | exact Nat.le_of_ble_eq_true rfl | omega | (dsimp only; omega)) ?_
      exact wv_X9_promise_18 hl hG  _ _ _ h
    · replace h := h.1 c
      subst c
      refine V_iconst (v := 1) hG (by decide) dX9_promise_13 ?_
      refine V_goto (tgt := 18) hG dX9_promise_14 (by decide) ?_
      refine V_forget (lo' := [none, none, some (.ref u3), none]) ⟨rfl, trivial⟩ ?_
      refine V_widen (k' := 1) (n' := 6) (by first | exact Nat.le_of_ble_eq_true rfl | omega | (dsimp only; omega)) (by first | exact Nat.le_of_ble_eq_true rfl | omega | (dsimp only; omega)) ?_
      exact wv_X9_promise_18 hl hG  _ _ _ h
def wp_X9_ship_29  (this : Nat) (v2 : Nat) (s0 : Int32) (σ : Sg) (Post : Rs → Sg → Prop) : Prop := wp_X9_requireState s0 σ (KV (fun σ1 => this % 32 = 9 ∧ ∀ o2, o2 = sP σ1 this 2 → v2 % 32 = 6 ∧ ∀ o3, o3 = sP σ1 v2 0 → v2 % 32 = 6 ∧ ∃ u4, o2 = some u4 ∧ u4 % 32 = 8 ∧ wp_X8_newBatch u4 o3 (sI σ1 v2 1) (6 : Int32) σ1 (KO (fun x6 σ5 => v2 % 32 = 6 ∧ ∀ o7, o7 = sP σ5 v2 0 → ∃ u8, o7 = some u8 ∧ u8 % 32 = 2 ∧ ∃ u9, x6 = some u9 ∧ u9 % 32 = 0 ∧ this % 32 = 9 ∧ ∀ o10, o10 = sP (wI σ5 u9 5 (sI σ5 u8 7)) this 2 → v2 % 32 = 6 ∧ ∀ o11, o11 = sP (wI σ5 u9 5 (sI σ5 u8 7)) v2 0 → v2 % 32 = 6 ∧ ∃ u12, o10 = some u12 ∧ u12 % 32 = 8 ∧ wp_X8_moveInto u12 (some u9) o11 (sI (wI σ5 u9 5 (sI σ5 u8 7)) v2 1) (wI σ5 u9 5 (sI σ5 u8 7)) (KV (fun σ13 => v2 % 32 = 6 ∧ ∀ o14, o14 = sP σ13 v2 0 → ∃ u15, o14 = some u15 ∧ u15 % 32 = 2 ∧ v2 % 32 = 6 ∧ u15 % 32 = 2 ∧ v2 % 32 = 6 ∧ this % 32 = 9 ∧ v2 % 32 = 6 ∧ u9 % 32 = 0 ∧ Post (.inl (some (.int (sI (wI (wP (wI σ13 u15 11 ((sI σ13 u15 11) - (sI σ13 v2 3))) v2 4 (some u9)) v2 5 (sI (wP (wI σ13 u15 11 ((sI σ13 u15 11) - (sI σ13 v2 3))) v2 4 (some u9)) this 3)) u9 0)))) (wI (wP (wI σ13 u15 11 ((sI σ13 u15 11) - (sI σ13 v2 3))) v2 4 (some u9)) v2 5 (sI (wP (wI σ13 u15 11 ((sI σ13 u15 11) - (sI σ13 v2 3))) v2 4 (some u9)) this 3))) (fun E σ13 => Post (.inr E) σ13))) (fun E σ5 => Post (.inr E) σ5))) (fun E σ1 => Post (.inr E) σ1))
set_option maxRecDepth 100000 in
set_option maxHeartbeats 4000000 in
theorem wv_X9_ship_29 {L9 : Launch} {G : Cx} {Post : Rs → Sg → Prop} (hl : L9.stackTraces = false) (hG : CX L9 G yX9_ship cX9_ship 4 (some .int) [] { frames := 8, cells := 3, slots := 24, locals := 124 })   : ∀ (this : Nat) (v2 : Nat) (s0 : Int32) (σ : Sg), wp_X9_ship_29 this v2 s0 σ Post → V G (QM G 3 24 Post) 29 [some (.ref this), none, some (.ref v2), none] [.int s0] σ 1 6 := by
  intro this v2 s0 σ h
  unfold wp_X9_ship_29 at h
  refine V_cSV _ _ hG dX9_ship_29 (ct_X9_requireState hl h) mv_X9_requireState ml_X9_49 rfl rfl (by first | exact Nat.le_of_ble_eq_true rfl | (simp only [List.map_cons, List.map_nil, List.sum_cons, List.sum_nil, cat_rf]; exact Nat.le_of_ble_eq_true rfl)) (Nat.le_of_ble_eq_true rfl) (Nat.le_of_ble_eq_true rfl) (by first | exact Nat.le_of_ble_eq_true rfl | omega | (dsimp only; omega)) (by first | exact Nat.le_of_ble_eq_true rfl | omega | (dsimp only; omega)) ?_ (fun σ1 h9 => ?_)
  · exact fun E σ1 hx => VX_out hG (by first | exact Nat.le_of_ble_eq_true rfl | omega | (dsimp only; omega)) (by first | exact Nat.le_of_ble_eq_true rfl | omega | (dsimp only; omega)) hx
  · replace h := h9
    clear h9
    refine V_aload_n (v := .ref this) hG dX9_ship_32 rfl rfl ?_
    obtain ⟨ht, h⟩ := h
    refine V_getPv hG dX9_ship_33 fl_X9_26 rfl ht (fun o2 ho => ?_)
    replace h := h o2 ho
    refine V_aload_n (v := .ref v2) hG dX9_ship_36 rfl rfl ?_
    obtain ⟨ht, h⟩ := h
    refine V_getPv hG dX9_ship_37 fl_X9_263 rfl ht (fun o3 ho => ?_)
    replace h := h o3 ho
    refine V_aload_n (v := .ref v2) hG dX9_ship_40 rfl rfl ?_
    obtain ⟨ht, h⟩ := h
    refine V_getI hG dX9_ship_41 fl_X9_259 rfl ht ?_
    refine V_bipush (v := 6) hG (by decide) dX9_ship_44 ?_
    obtain ⟨u4, he, h⟩ := h
    subst he
    obtain ⟨ht, h⟩ := h
    refine V_cVO _ _ hG dX9_ship_46 (ct_X8_newBatch hl h) mv_X8_newBatch ml_X9_136 ht rfl rfl rfl rfl (by first | exact Nat.le_of_ble_eq_true rfl | (simp only [List.map_cons, List.map_nil, List.sum_cons, List.sum_nil, cat_rf]; exact Nat.le_of_ble_eq_true rfl)) (Nat.le_of_ble_eq_true rfl) (Nat.le_of_ble_eq_true rfl) (by first | exact Nat.le_of_ble_eq_true rfl | omega | (dsimp only; omega)) (by first | exact Nat.le_of_ble_eq_true rfl | omega | (dsimp only; omega)) ?_ (fun x6 σ5 h9 => ?_)
    · exact fun E σ5 hx => VX_out hG (by first | exact Nat.le_of_ble_eq_true rfl | omega | (dsimp only; omega)) (by first | exact Nat.le_of_ble_eq_true rfl | omega | (dsimp only; omega)) hx
    · replace h := h9
      clear h9
      refine V_astore_n hG dX9_ship_49 (isRef_rf _) (Nat.le_of_ble_eq_true rfl) (hpV rfl rfl) ?_
      refine V_aload_n (v := va_rf x6) hG dX9_ship_50 (isRef_rf _) rfl ?_
      refine V_aload_n (v := .ref v2) hG dX9_ship_51 rfl rfl ?_
      obtain ⟨ht, h⟩ := h
      refine V_getPv hG dX9_ship_52 fl_X9_263 rfl ht (fun o7 ho => ?_)
      replace h := h o7 ho
      obtain ⟨u8, he, h⟩ := h
      subst he
      obtain ⟨ht, h⟩ := h
      refine V_getI hG dX9_ship_55 fl_X9_46 rfl ht ?_
      obtain ⟨u9, he, h⟩ := h
      subst he
      obtain ⟨ht, h⟩ := h
      refine V_putI hG dX9_ship_58 fl_X9_189 rfl (fun e => absurd e (by decide)) rfl ht ?_
      refine V_aload_n (v := .ref this) hG dX9_ship_61 rfl rfl ?_
      obtain ⟨ht, h⟩ := h
      refine V_getPv hG dX9_ship_62 fl_X9_26 rfl ht (fun o10 ho => ?_)
      replace h := h o10 ho
      refine V_aload_n (v := .ref u9) hG dX9_ship_65 rfl rfl ?_
      refine V_aload_n (v := .ref v2) hG dX9_ship_66 rfl rfl ?_
      obtain ⟨ht, h⟩ := h
      refine V_getPv hG dX9_ship_67 fl_X9_263 rfl ht (fun o11 ho => ?_)
      replace h := h o11 ho
      refine V_aload_n (v := .ref v2) hG dX9_ship_70 rfl rfl ?_
      obtain ⟨ht, h⟩ := h
      refine V_getI hG dX9_ship_71 fl_X9_259 rfl ht ?_
      obtain ⟨u12, he, h⟩ := h
      subst he
      obtain ⟨ht, h⟩ := h
      refine V_cVV _ _ hG dX9_ship_74 (ct_X8_moveInto hl h) mv_X8_moveInto ml_X9_272 ht rfl rfl rfl rfl (by first | exact Nat.le_of_ble_eq_true rfl | (simp only [List.map_cons, List.map_nil, List.sum_cons, List.sum_nil, cat_rf]; exact Nat.le_of_ble_eq_true rfl)) (Nat.le_of_ble_eq_true rfl) (Nat.le_of_ble_eq_true rfl) (by first | exact Nat.le_of_ble_eq_true rfl | omega | (dsimp only; omega)) (by first | exact Nat.le_of_ble_eq_true rfl | omega | (dsimp only; omega)) ?_ (fun σ13 h9 => ?_)
      · exact fun E σ13 hx => VX_out hG (by first | exact Nat.le_of_ble_eq_true rfl | omega | (dsimp only; omega)) (by first | exact Nat.le_of_ble_eq_true rfl | omega | (dsimp only; omega)) hx
      · replace h := h9
        clear h9
        refine V_aload_n (v := .ref v2) hG dX9_ship_77 rfl rfl ?_
        obtain ⟨ht, h⟩ := h
        refine V_getPv hG dX9_ship_78 fl_X9_263 rfl ht (fun o14 ho => ?_)
        replace h := h o14 ho
        refine V_dup (v := va_rf o14) hG (cat_rf _) dX9_ship_81 ?_
        obtain ⟨u15, he, h⟩ := h
        subst he
        obtain ⟨ht, h⟩ := h
        refine V_getI hG dX9_ship_82 fl_X9_271 rfl ht ?_
        refine V_aload_n (v := .ref v2) hG dX9_ship_85 rfl rfl ?_
        obtain ⟨ht, h⟩ := h
        refine V_getI hG dX9_ship_86 fl_X9_260 rfl ht ?_
        refine V_isub hG dX9_ship_89 ?_
        obtain ⟨ht, h⟩ := h
        refine V_putI hG dX9_ship_90 fl_X9_271 rfl (fun e => absurd e (by decide)) rfl ht ?_
        refine V_aload_n (v := .ref v2) hG dX9_ship_93 rfl rfl ?_
        refine V_aload_n (v := .ref u9) hG dX9_ship_94 rfl rfl ?_
        obtain ⟨ht, h⟩ := h
        refine V_putS hG dX9_ship_95 fl_X9_255 rfl rfl ht ?_
        refine V_aload_n (v := .ref v2) hG dX9_ship_98 rfl rfl ?_
        refine V_aload_n (v := .ref this) hG dX9_ship_99 rfl rfl ?_
        obtain ⟨ht, h⟩ := h
        refine V_getI hG dX9_ship_100 fl_X9_145 rfl ht ?_
        obtain ⟨ht, h⟩ := h
        refine V_putI hG dX9_ship_103 fl_X9_276 rfl (fun e => absurd e (by decide)) rfl ht ?_
        refine V_aload_n (v := .ref u9) hG dX9_ship_106 rfl rfl ?_
        obtain ⟨ht, h⟩ := h
        refine V_getI hG dX9_ship_107 fl_X9_154 rfl ht ?_
        exact V_iret hG dX9_ship_110 (by first | exact Nat.le_of_ble_eq_true rfl | omega | (dsimp only; omega)) (by first | exact Nat.le_of_ble_eq_true rfl | omega | (dsimp only; omega)) h
def wp_X9_ship_28  (this : Nat) (v2 : Nat) (σ : Sg) (Post : Rs → Sg → Prop) : Prop := (wp_X9_ship_29 this v2 (0 : Int32) σ Post)
set_option maxRecDepth 100000 in
set_option maxHeartbeats 4000000 in
theorem wv_X9_ship_28 {L9 : Launch} {G : Cx} {Post : Rs → Sg → Prop} (hl : L9.stackTraces = false) (hG : CX L9 G yX9_ship cX9_ship 4 (some .int) [] { frames := 8, cells := 3, slots := 24, locals := 124 })   : ∀ (this : Nat) (v2 : Nat) (σ : Sg), wp_X9_ship_28 this v2 σ Post → V G (QM G 3 24 Post) 28 [some (.ref this), none, some (.ref v2), none] [] σ 1 6 := by
  intro this v2 σ h
  unfold wp_X9_ship_28 at h
  refine V_iconst (v := 0) hG (by decide) dX9_ship_28 ?_
  refine V_forget (lo' := [some (.ref this), none, some (.ref v2), none]) ⟨rfl, ⟨rfl, trivial⟩⟩ ?_
  refine V_widen (k' := 1) (n' := 6) (by first | exact Nat.le_of_ble_eq_true rfl | omega | (dsimp only; omega)) (by first | exact Nat.le_of_ble_eq_true rfl | omega | (dsimp only; omega)) ?_
  exact wv_X9_ship_29 hl hG  _ _ _ _ h
def wp_X9_ship (this : Nat) (a0 : Int32) (σ : Sg) (Post : Rs → Sg → Prop) : Prop := this % 32 = 9 ∧ wp_X9_orderAt this a0 σ (KO (fun x2 σ1 => ∃ u3, x2 = some u3 ∧ u3 % 32 = 6 ∧ ∀ o4, o4 = sP σ1 u3 4 → ((o4 = none → u3 % 32 = 6 ∧ u3 % 32 = 6 ∧ ((¬ (sI σ1 u3 3) = (sI σ1 u3 1) → (wp_X9_ship_28 this u3 σ1 Post)) ∧ ((sI σ1 u3 3) = (sI σ1 u3 1) → (wp_X9_ship_29 this u3 (1 : Int32) σ1 Post)))) ∧ (∀ u5, o4 = some u5 → (wp_X9_ship_28 this u3 σ1 Post)))) (fun E σ1 => Post (.inr E) σ1))
set_option maxRecDepth 100000 in
set_option maxHeartbeats 4000000 in
theorem ct_X9_ship {l : Launch} (hl : l.stackTraces = false) {this : Nat} {a0 : Int32} {σ : Sg} {Post : Rs → Sg → Prop} (h : wp_X9_ship this a0 σ Post) : Ct l yX9_ship (.code yX9_ship cX9_ship 4 (some .int)) 8 124 3 24 [.ref this, .int a0] σ Post := by
  refine Ct_of [some (.ref this), some (.int a0), none, none] hl (by decide +kernel) rfl (fun ad => by rfl) (fun ad => by exact Nat.le_of_ble_eq_true rfl) (fun v hv => mem_lo hv rfl) ?_
  intro G hG
  unfold wp_X9_ship at h
  refine V_aload_n (v := .ref this) hG dX9_ship_0 rfl rfl ?_
  refine V_iload_n hG dX9_ship_1 rfl ?_
  obtain ⟨ht, h⟩ := h
  refine V_cVO _ _ hG dX9_ship_2 (ct_X9_orderAt hl h) mv_X9_orderAt ml_X9_251 ht rfl rfl rfl rfl (by first | exact Nat.le_of_ble_eq_true rfl | (simp only [List.map_cons, List.map_nil, List.sum_cons, List.sum_nil, cat_rf]; exact Nat.le_of_ble_eq_true rfl)) (Nat.le_of_ble_eq_true rfl) (Nat.le_of_ble_eq_true rfl) (by first | exact Nat.le_of_ble_eq_true rfl | omega | (dsimp only; omega)) (by first | exact Nat.le_of_ble_eq_true rfl | omega | (dsimp only; omega)) ?_ (fun x2 σ1 h9 => ?_)
  · exact fun E σ1 hx => VX_out hG (by first | exact Nat.le_of_ble_eq_true rfl | omega | (dsimp only; omega)) (by first | exact Nat.le_of_ble_eq_true rfl | omega | (dsimp only; omega)) hx
  · replace h := h9
    clear h9
    refine V_astore_n hG dX9_ship_5 (isRef_rf _) (Nat.le_of_ble_eq_true rfl) (hpV rfl rfl) ?_
    refine V_aload_n (v := va_rf x2) hG dX9_ship_6 (isRef_rf _) rfl ?_
    obtain ⟨u3, he, h⟩ := h
    subst he
    obtain ⟨ht, h⟩ := h
    refine V_getPv hG dX9_ship_7 fl_X9_255 rfl ht (fun o4 ho => ?_)
    replace h := h o4 ho
    refine V_ifnonnull (o := o4) (tgt := 28) hG dX9_ship_10 (by decide) (fun c => ?_) (fun c => ?_)
    · obtain ⟨u5, c⟩ := c
      replace h := h.2 u5 c
      subst c
      refine V_forget (lo' := [some (.ref this), none, some (.ref u3), none]) ⟨rfl, ⟨rfl, trivial⟩⟩ ?_
      refine V_widen (k' := 1) (n' := 6) (by first | exact Nat.le_of_ble_eq_true rfl | omega | (dsimp only; omega)) (by first | exact Nat.le_of_ble_eq_true rfl | omega | (dsimp only; omega)) ?_
      exact wv_X9_ship_28 hl hG  _ _ _ h
    · replace h := h.1 c
      subst c
      refine V_aload_n (v := .ref u3) hG dX9_ship_13 rfl rfl ?_
      obtain ⟨ht, h⟩ := h
      refine V_getI hG dX9_ship_14 fl_X9_260 rfl ht ?_
      refine V_aload_n (v := .ref u3) hG dX9_ship_17 rfl rfl ?_
      obtain ⟨ht, h⟩ := h
      refine V_getI hG dX9_ship_18 fl_X9_259 rfl ht ?_
      refine V_icmp_ne (tgt := 28) hG dX9_ship_21 (by decide) (fun c => ?_) (fun c => ?_)
      · replace h := h.1 c
        refine V_forget (lo' := [some (.ref this), none, some (.ref u3), none]) ⟨rfl, ⟨rfl, trivial⟩⟩ ?_
        refine V_widen (k' := 1) (n' := 6) (by first | exact Nat.le_of_ble_eq_true rfl | omega | (dsimp only; omega)) (by first | exact Nat.le_of_ble_eq_true rfl | omega | (dsimp only; omega)) ?_
        exact wv_X9_ship_28 hl hG  _ _ _ h
      · replace h := h.2 c
        refine V_iconst (v := 1) hG (by decide) dX9_ship_24 ?_
        refine V_goto (tgt := 29) hG dX9_ship_25 (by decide) ?_
        refine V_forget (lo' := [some (.ref this), none, some (.ref u3), none]) ⟨rfl, ⟨rfl, trivial⟩⟩ ?_
        refine V_widen (k' := 1) (n' := 6) (by first | exact Nat.le_of_ble_eq_true rfl | omega | (dsimp only; omega)) (by first | exact Nat.le_of_ble_eq_true rfl | omega | (dsimp only; omega)) ?_
        exact wv_X9_ship_29 hl hG  _ _ _ _ h
def wp_X9_stand (this : Nat) (a0 : Int32) (σ : Sg) (Post : Rs → Sg → Prop) : Prop := this % 32 = 9 ∧ this % 32 = 9 ∧ b01 a0 ∧ (b01 (sI σ this 4) ∧ Post (.inl (some (.int (sI σ this 4)))) (wI σ this 4 a0))
set_option maxRecDepth 100000 in
set_option maxHeartbeats 4000000 in
theorem ct_X9_stand {l : Launch} (hl : l.stackTraces = false) {this : Nat} {a0 : Int32} {σ : Sg} {Post : Rs → Sg → Prop} (h : wp_X9_stand this a0 σ Post) : Ct l yX9_stand (.code yX9_stand cX9_stand 3 (some .boolean)) 0 0 0 0 [.ref this, .int a0] σ Post := by
  refine Ct_of [some (.ref this), some (.int a0), none] hl (by decide +kernel) rfl (fun ad => by rfl) (fun ad => by exact Nat.le_of_ble_eq_true rfl) (fun v hv => mem_lo hv rfl) ?_
  intro G hG
  unfold wp_X9_stand at h
  refine V_aload_n (v := .ref this) hG dX9_stand_0 rfl rfl ?_
  obtain ⟨ht, h⟩ := h
  refine V_getI hG dX9_stand_1 fl_X9_279 rfl ht ?_
  refine V_istore_n hG dX9_stand_4 (Nat.le_of_ble_eq_true rfl) (hpV rfl rfl) ?_
  refine V_aload_n (v := .ref this) hG dX9_stand_5 rfl rfl ?_
  refine V_iload_n hG dX9_stand_6 rfl ?_
  obtain ⟨ht, h⟩ := h
  obtain ⟨hb, h⟩ := h
  refine V_putI hG dX9_stand_7 fl_X9_279 rfl (fun _ => hb) rfl ht ?_
  refine V_iload_n hG dX9_stand_10 rfl ?_
  exact V_zret hG dX9_stand_11 h.1 (by first | exact Nat.le_of_ble_eq_true rfl | omega | (dsimp only; omega)) (by first | exact Nat.le_of_ble_eq_true rfl | omega | (dsimp only; omega)) h.2
def wp_X9_run_52 (K29 : Nat → Int32 → Int32 → Sg → Prop) (this : Nat) (v1 : Int32) (v2 : Int32) (σ : Sg) (Post : Rs → Sg → Prop) : Prop := this % 32 = 9 ∧ this % 32 = 9 ∧ (K29 this v1 (v2 + 1) (wI σ this 3 ((sI σ this 3) + (1 : Int32))))
set_option maxRecDepth 100000 in
set_option maxHeartbeats 4000000 in
theorem wv_X9_run_52 {L9 : Launch} {G : Cx} {Post : Rs → Sg → Prop} (hl : L9.stackTraces = false) (hG : CX L9 G yX9_run cX9_run 3 (some .int) [] { frames := 8, cells := 2, slots := 12, locals := 169 }) {K29 : Nat → Int32 → Int32 → Sg → Prop} (hK29 : ∀ (this : Nat) (v1 : Int32) (v2 : Int32) (ζ : Sg), K29 this v1 v2 ζ → V G (QM G 2 12 Post) 29 [some (.ref this), some (.int v1), some (.int v2)] [] ζ 2 12) : ∀ (this : Nat) (v1 : Int32) (v2 : Int32) (σ : Sg), wp_X9_run_52 K29 this v1 v2 σ Post → V G (QM G 2 12 Post) 52 [some (.ref this), some (.int v1), some (.int v2)] [] σ 2 12 := by
  intro this v1 v2 σ h
  unfold wp_X9_run_52 at h
  refine V_aload_n (v := .ref this) hG dX9_run_52 rfl rfl ?_
  refine V_dup (v := .ref this) hG rfl dX9_run_53 ?_
  obtain ⟨ht, h⟩ := h
  refine V_getI hG dX9_run_54 fl_X9_145 rfl ht ?_
  refine V_iconst (v := 1) hG (by decide) dX9_run_57 ?_
  refine V_iadd hG dX9_run_58 ?_
  obtain ⟨ht, h⟩ := h
  refine V_putI hG dX9_run_59 fl_X9_145 rfl (fun e => absurd e (by decide)) rfl ht ?_
  refine V_iincv (c := 1) hG dX9_run_62 rfl (by decide) (hpV rfl rfl) ?_
  refine V_goto (tgt := 29) hG dX9_run_65 (by decide) ?_
  refine V_forget (lo' := [some (.ref this), some (.int v1), some (.int (v2 + 1))]) ⟨rfl, ⟨rfl, ⟨rfl, trivial⟩⟩⟩ ?_
  exact hK29 _ _ _ _ h
def wp_X9_run_29  : Nat → Nat → Int32 → Int32 → Sg → (Rs → Sg → Prop) → Prop
  | 0, _, _, _, _, _ => False
  | f + 1, this, v1, v2, σ, Post => ((v1 ≤ v2 → this % 32 = 9 ∧ Post (.inl (some (.int (sI σ this 3)))) σ) ∧ (¬ v1 ≤ v2 → this % 32 = 9 ∧ ((¬ (sI σ this 4) = 0 → (wp_X9_run_52 (fun z0 z1 z2 ζ => wp_X9_run_29 f z0 z1 z2 ζ Post) this v1 v2 σ Post)) ∧ ((sI σ this 4) = 0 → this % 32 = 9 ∧ ∀ o1, o1 = sP σ this 1 → this % 32 = 9 ∧ ∃ u2, o1 = some u2 ∧ u2 % 32 = 1 ∧ wp_X1_doHour u2 (sI σ this 3) σ (KV (fun σ3 => (wp_X9_run_52 (fun z0 z1 z2 ζ => wp_X9_run_29 f z0 z1 z2 ζ Post) this v1 v2 σ3 Post)) (fun E σ3 => Post (.inr E) σ3))))))
set_option maxRecDepth 100000 in
set_option maxHeartbeats 4000000 in
theorem wv_X9_run_29 {L9 : Launch} {G : Cx} {Post : Rs → Sg → Prop} (hl : L9.stackTraces = false) (hG : CX L9 G yX9_run cX9_run 3 (some .int) [] { frames := 8, cells := 2, slots := 12, locals := 169 })   : ∀ (f : Nat) (this : Nat) (v1 : Int32) (v2 : Int32) (σ : Sg), wp_X9_run_29 f this v1 v2 σ Post → V G (QM G 2 12 Post) 29 [some (.ref this), some (.int v1), some (.int v2)] [] σ 2 12 := by
  intro f
  induction f with
  | zero => intro _ _ _ σ h; exact h.elim
  | succ f ih =>
    intro this v1 v2 σ h
    refine V_iload_n hG dX9_run_29 rfl ?_
    refine V_iload_n hG dX9_run_30 rfl ?_
    refine V_icmp_ge (tgt := 68) hG dX9_run_31 (by decide) (fun c => ?_) (fun c => ?_)
    · replace h := h.1 c
      refine V_aload_n (v := .ref this) hG dX9_run_68 rfl rfl ?_
      obtain ⟨ht, h⟩ := h
      refine V_getI hG dX9_run_69 fl_X9_145 rfl ht ?_
      exact V_iret hG dX9_run_72 (by first | exact Nat.le_of_ble_eq_true rfl | omega | (dsimp only; omega)) (by first | exact Nat.le_of_ble_eq_true rfl | omega | (dsimp only; omega)) h
    · replace h := h.2 c
      refine V_aload_n (v := .ref this) hG dX9_run_34 rfl rfl ?_
      obtain ⟨ht, h⟩ := h
      refine V_getI hG dX9_run_35 fl_X9_279 rfl ht ?_
      refine V_if_ne (tgt := 52) hG dX9_run_38 (by decide) (fun c => ?_) (fun c => ?_)
      · replace h := h.1 c
        refine V_forget (lo' := [some (.ref this), some (.int v1), some (.int v2)]) ⟨rfl, ⟨rfl, ⟨rfl, trivial⟩⟩⟩ ?_
        refine V_widen (k' := 2) (n' := 12) (by first | exact Nat.le_of_ble_eq_true rfl | omega | (dsimp only; omega)) (by first | exact Nat.le_of_ble_eq_true rfl | omega | (dsimp only; omega)) ?_
        exact wv_X9_run_52 hl hG (fun z0 z1 z2 ζ hz => ih z0 z1 z2 ζ hz) _ _ _ _ h
      · replace h := h.2 c
        refine V_aload_n (v := .ref this) hG dX9_run_41 rfl rfl ?_
        obtain ⟨ht, h⟩ := h
        refine V_getPv hG dX9_run_42 fl_X9_18 rfl ht (fun o1 ho => ?_)
        replace h := h o1 ho
        refine V_aload_n (v := .ref this) hG dX9_run_45 rfl rfl ?_
        obtain ⟨ht, h⟩ := h
        refine V_getI hG dX9_run_46 fl_X9_145 rfl ht ?_
        obtain ⟨u2, he, h⟩ := h
        subst he
        obtain ⟨ht, h⟩ := h
        refine V_cVV _ _ hG dX9_run_49 (ct_X1_doHour hl h) mv_X1_doHour ml_X9_282 ht rfl rfl rfl rfl (by first | exact Nat.le_of_ble_eq_true rfl | (simp only [List.map_cons, List.map_nil, List.sum_cons, List.sum_nil, cat_rf]; exact Nat.le_of_ble_eq_true rfl)) (Nat.le_of_ble_eq_true rfl) (Nat.le_of_ble_eq_true rfl) (by first | exact Nat.le_of_ble_eq_true rfl | omega | (dsimp only; omega)) (by first | exact Nat.le_of_ble_eq_true rfl | omega | (dsimp only; omega)) ?_ (fun σ3 h9 => ?_)
        · exact fun E σ3 hx => VX_out hG (by first | exact Nat.le_of_ble_eq_true rfl | omega | (dsimp only; omega)) (by first | exact Nat.le_of_ble_eq_true rfl | omega | (dsimp only; omega)) hx
        · replace h := h9
          clear h9
          refine V_forget (lo' := [some (.ref this), some (.int v1), some (.int v2)]) ⟨rfl, ⟨rfl, ⟨rfl, trivial⟩⟩⟩ ?_
          refine V_widen (k' := 2) (n' := 12) (by first | exact Nat.le_of_ble_eq_true rfl | omega | (dsimp only; omega)) (by first | exact Nat.le_of_ble_eq_true rfl | omega | (dsimp only; omega)) ?_
          exact wv_X9_run_52 hl hG (fun z0 z1 z2 ζ hz => ih z0 z1 z2 ζ hz) _ _ _ _ h
def wp_X9_run_24  (this : Nat) (v1 : Int32) (s0 : Int32) (σ : Sg) (Post : Rs → Sg → Prop) : Prop := wp_X9_requireState s0 σ (KV (fun σ1 => (∃ g, wp_X9_run_29 g this v1 (0 : Int32) σ1 Post)) (fun E σ1 => Post (.inr E) σ1))
set_option maxRecDepth 100000 in
set_option maxHeartbeats 4000000 in
theorem wv_X9_run_24 {L9 : Launch} {G : Cx} {Post : Rs → Sg → Prop} (hl : L9.stackTraces = false) (hG : CX L9 G yX9_run cX9_run 3 (some .int) [] { frames := 8, cells := 2, slots := 12, locals := 169 })   : ∀ (this : Nat) (v1 : Int32) (s0 : Int32) (σ : Sg), wp_X9_run_24 this v1 s0 σ Post → V G (QM G 2 12 Post) 24 [some (.ref this), some (.int v1), none] [.int s0] σ 1 6 := by
  intro this v1 s0 σ h
  unfold wp_X9_run_24 at h
  refine V_cSV _ _ hG dX9_run_24 (ct_X9_requireState hl h) mv_X9_requireState ml_X9_49 rfl rfl (by first | exact Nat.le_of_ble_eq_true rfl | (simp only [List.map_cons, List.map_nil, List.sum_cons, List.sum_nil, cat_rf]; exact Nat.le_of_ble_eq_true rfl)) (Nat.le_of_ble_eq_true rfl) (Nat.le_of_ble_eq_true rfl) (by first | exact Nat.le_of_ble_eq_true rfl | omega | (dsimp only; omega)) (by first | exact Nat.le_of_ble_eq_true rfl | omega | (dsimp only; omega)) ?_ (fun σ1 h9 => ?_)
  · exact fun E σ1 hx => VX_out hG (by first | exact Nat.le_of_ble_eq_true rfl | omega | (dsimp only; omega)) (by first | exact Nat.le_of_ble_eq_true rfl | omega | (dsimp only; omega)) hx
  · replace h := h9
    clear h9
    refine V_iconst (v := 0) hG (by decide) dX9_run_27 ?_
    refine V_istore_n hG dX9_run_28 (Nat.le_of_ble_eq_true rfl) (hpV rfl rfl) ?_
    refine V_forget (lo' := [some (.ref this), some (.int v1), some (.int (0 : Int32))]) ⟨rfl, ⟨rfl, ⟨rfl, trivial⟩⟩⟩ ?_
    obtain ⟨g, h⟩ := h
    refine V_widen (k' := 2) (n' := 12) (by first | exact Nat.le_of_ble_eq_true rfl | omega | (dsimp only; omega)) (by first | exact Nat.le_of_ble_eq_true rfl | omega | (dsimp only; omega)) ?_
    exact wv_X9_run_29 hl hG  g _ _ _ _ h
def wp_X9_run (this : Nat) (a0 : Int32) (σ : Sg) (Post : Rs → Sg → Prop) : Prop := wp_X9_requireRange a0 (1 : Int32) (50 : Int32) σ (KV (fun σ1 => this % 32 = 9 ∧ (((2000 : Int32) < ((sI σ1 this 3) + a0) → (wp_X9_run_24 this a0 (0 : Int32) σ1 Post)) ∧ (¬ (2000 : Int32) < ((sI σ1 this 3) + a0) → (wp_X9_run_24 this a0 (1 : Int32) σ1 Post)))) (fun E σ1 => Post (.inr E) σ1))
set_option maxRecDepth 100000 in
set_option maxHeartbeats 4000000 in
theorem ct_X9_run {l : Launch} (hl : l.stackTraces = false) {this : Nat} {a0 : Int32} {σ : Sg} {Post : Rs → Sg → Prop} (h : wp_X9_run this a0 σ Post) : Ct l yX9_run (.code yX9_run cX9_run 3 (some .int)) 8 169 2 12 [.ref this, .int a0] σ Post := by
  refine Ct_of [some (.ref this), some (.int a0), none] hl (by decide +kernel) rfl (fun ad => by rfl) (fun ad => by exact Nat.le_of_ble_eq_true rfl) (fun v hv => mem_lo hv rfl) ?_
  intro G hG
  unfold wp_X9_run at h
  refine V_iload_n hG dX9_run_0 rfl ?_
  refine V_iconst (v := 1) hG (by decide) dX9_run_1 ?_
  refine V_bipush (v := 50) hG (by decide) dX9_run_2 ?_
  refine V_cSV _ _ hG dX9_run_4 (ct_X9_requireRange hl h) mv_X9_requireRange ml_X9_34 rfl rfl (by first | exact Nat.le_of_ble_eq_true rfl | (simp only [List.map_cons, List.map_nil, List.sum_cons, List.sum_nil, cat_rf]; exact Nat.le_of_ble_eq_true rfl)) (Nat.le_of_ble_eq_true rfl) (Nat.le_of_ble_eq_true rfl) (by first | exact Nat.le_of_ble_eq_true rfl | omega | (dsimp only; omega)) (by first | exact Nat.le_of_ble_eq_true rfl | omega | (dsimp only; omega)) ?_ (fun σ1 h9 => ?_)
  · exact fun E σ1 hx => VX_out hG (by first | exact Nat.le_of_ble_eq_true rfl | omega | (dsimp only; omega)) (by first | exact Nat.le_of_ble_eq_true rfl | omega | (dsimp only; omega)) hx
  · replace h := h9
    clear h9
    refine V_aload_n (v := .ref this) hG dX9_run_7 rfl rfl ?_
    obtain ⟨ht, h⟩ := h
    refine V_getI hG dX9_run_8 fl_X9_145 rfl ht ?_
    refine V_iload_n hG dX9_run_11 rfl ?_
    refine V_iadd hG dX9_run_12 ?_
    refine V_sipush (v := 2000) hG (by decide) dX9_run_13 ?_
    refine V_icmp_gt (tgt := 23) hG dX9_run_16 (by decide) (fun c => ?_) (fun c => ?_)
    · replace h := h.1 c
      refine V_iconst (v := 0) hG (by decide) dX9_run_23 ?_
      refine V_forget (lo' := [some (.ref this), some (.int a0), none]) ⟨rfl, ⟨rfl, trivial⟩⟩ ?_
      refine V_widen (k' := 1) (n' := 6) (by first | exact Nat.le_of_ble_eq_true rfl | omega | (dsimp only; omega)) (by first | exact Nat.le_of_ble_eq_true rfl | omega | (dsimp only; omega)) ?_
      exact wv_X9_run_24 hl hG  _ _ _ _ h
    · replace h := h.2 c
      refine V_iconst (v := 1) hG (by decide) dX9_run_19 ?_
      refine V_goto (tgt := 24) hG dX9_run_20 (by decide) ?_
      refine V_forget (lo' := [some (.ref this), some (.int a0), none]) ⟨rfl, ⟨rfl, trivial⟩⟩ ?_
      refine V_widen (k' := 1) (n' := 6) (by first | exact Nat.le_of_ble_eq_true rfl | omega | (dsimp only; omega)) (by first | exact Nat.le_of_ble_eq_true rfl | omega | (dsimp only; omega)) ?_
      exact wv_X9_run_24 hl hG  _ _ _ _ h
def wp_X9_hour (this : Nat) (σ : Sg) (Post : Rs → Sg → Prop) : Prop := this % 32 = 9 ∧ Post (.inl (some (.int (sI σ this 3)))) σ
set_option maxRecDepth 100000 in
set_option maxHeartbeats 4000000 in
theorem ct_X9_hour {l : Launch} (hl : l.stackTraces = false) {this : Nat} {σ : Sg} {Post : Rs → Sg → Prop} (h : wp_X9_hour this σ Post) : Ct l yX9_hour (.code yX9_hour cX9_hour 1 (some .int)) 0 0 0 0 [.ref this] σ Post := by
  refine Ct_of [some (.ref this)] hl (by decide +kernel) rfl (fun ad => by rfl) (fun ad => by exact Nat.le_of_ble_eq_true rfl) (fun v hv => mem_lo hv rfl) ?_
  intro G hG
  unfold wp_X9_hour at h
  refine V_aload_n (v := .ref this) hG dX9_hour_0 rfl rfl ?_
  obtain ⟨ht, h⟩ := h
  refine V_getI hG dX9_hour_1 fl_X9_145 rfl ht ?_
  exact V_iret hG dX9_hour_4 (by first | exact Nat.le_of_ble_eq_true rfl | omega | (dsimp only; omega)) (by first | exact Nat.le_of_ble_eq_true rfl | omega | (dsimp only; omega)) h
def wp_X9_batches (this : Nat) (σ : Sg) (Post : Rs → Sg → Prop) : Prop := this % 32 = 9 ∧ ∀ o1, o1 = sP σ this 2 → ∃ u2, o1 = some u2 ∧ u2 % 32 = 8 ∧ Post (.inl (some (.int (sI σ u2 1)))) σ
set_option maxRecDepth 100000 in
set_option maxHeartbeats 4000000 in
theorem ct_X9_batches {l : Launch} (hl : l.stackTraces = false) {this : Nat} {σ : Sg} {Post : Rs → Sg → Prop} (h : wp_X9_batches this σ Post) : Ct l yX9_batches (.code yX9_batches cX9_batches 1 (some .int)) 0 0 0 0 [.ref this] σ Post := by
  refine Ct_of [some (.ref this)] hl (by decide +kernel) rfl (fun ad => by rfl) (fun ad => by exact Nat.le_of_ble_eq_true rfl) (fun v hv => mem_lo hv rfl) ?_
  intro G hG
  unfold wp_X9_batches at h
  refine V_aload_n (v := .ref this) hG dX9_batches_0 rfl rfl ?_
  obtain ⟨ht, h⟩ := h
  refine V_getPv hG dX9_batches_1 fl_X9_26 rfl ht (fun o1 ho => ?_)
  replace h := h o1 ho
  obtain ⟨u2, he, h⟩ := h
  subst he
  obtain ⟨ht, h⟩ := h
  refine V_getI hG dX9_batches_4 fl_X9_224 rfl ht ?_
  exact V_iret hG dX9_batches_7 (by first | exact Nat.le_of_ble_eq_true rfl | omega | (dsimp only; omega)) (by first | exact Nat.le_of_ble_eq_true rfl | omega | (dsimp only; omega)) h
def wp_X9_batch (this : Nat) (a0 : Int32) (a1 : Int32) (σ : Sg) (Post : Rs → Sg → Prop) : Prop := this % 32 = 9 ∧ wp_X9_batchAt this a0 σ (KO (fun x2 σ1 => wp_X9_requireRange a1 (0 : Int32) (9 : Int32) σ1 (KV (fun σ3 => ∃ u4, x2 = some u4 ∧ u4 % 32 = 0 ∧ wp_X0_tell u4 a1 σ3 (KI (fun x6 σ5 => Post (.inl (some (.int x6))) σ5) (fun E σ5 => Post (.inr E) σ5))) (fun E σ3 => Post (.inr E) σ3))) (fun E σ1 => Post (.inr E) σ1))
set_option maxRecDepth 100000 in
set_option maxHeartbeats 4000000 in
theorem ct_X9_batch {l : Launch} (hl : l.stackTraces = false) {this : Nat} {a0 : Int32} {a1 : Int32} {σ : Sg} {Post : Rs → Sg → Prop} (h : wp_X9_batch this a0 a1 σ Post) : Ct l yX9_batch (.code yX9_batch cX9_batch 4 (some .int)) 8 124 2 12 [.ref this, .int a0, .int a1] σ Post := by
  refine Ct_of [some (.ref this), some (.int a0), some (.int a1), none] hl (by decide +kernel) rfl (fun ad => by rfl) (fun ad => by exact Nat.le_of_ble_eq_true rfl) (fun v hv => mem_lo hv rfl) ?_
  intro G hG
  unfold wp_X9_batch at h
  refine V_aload_n (v := .ref this) hG dX9_batch_0 rfl rfl ?_
  refine V_iload_n hG dX9_batch_1 rfl ?_
  obtain ⟨ht, h⟩ := h
  refine V_cVO _ _ hG dX9_batch_2 (ct_X9_batchAt hl h) mv_X9_batchAt ml_X9_157 ht rfl rfl rfl rfl (by first | exact Nat.le_of_ble_eq_true rfl | (simp only [List.map_cons, List.map_nil, List.sum_cons, List.sum_nil, cat_rf]; exact Nat.le_of_ble_eq_true rfl)) (Nat.le_of_ble_eq_true rfl) (Nat.le_of_ble_eq_true rfl) (by first | exact Nat.le_of_ble_eq_true rfl | omega | (dsimp only; omega)) (by first | exact Nat.le_of_ble_eq_true rfl | omega | (dsimp only; omega)) ?_ (fun x2 σ1 h9 => ?_)
  · exact fun E σ1 hx => VX_out hG (by first | exact Nat.le_of_ble_eq_true rfl | omega | (dsimp only; omega)) (by first | exact Nat.le_of_ble_eq_true rfl | omega | (dsimp only; omega)) hx
  · replace h := h9
    clear h9
    refine V_astore_n hG dX9_batch_5 (isRef_rf _) (Nat.le_of_ble_eq_true rfl) (hpV rfl rfl) ?_
    refine V_iload_n hG dX9_batch_6 rfl ?_
    refine V_iconst (v := 0) hG (by decide) dX9_batch_7 ?_
    refine V_bipush (v := 9) hG (by decide) dX9_batch_8 ?_
    refine V_cSV _ _ hG dX9_batch_10 (ct_X9_requireRange hl h) mv_X9_requireRange ml_X9_34 rfl rfl (by first | exact Nat.le_of_ble_eq_true rfl | (simp only [List.map_cons, List.map_nil, List.sum_cons, List.sum_nil, cat_rf]; exact Nat.le_of_ble_eq_true rfl)) (Nat.le_of_ble_eq_true rfl) (Nat.le_of_ble_eq_true rfl) (by first | exact Nat.le_of_ble_eq_true rfl | omega | (dsimp only; omega)) (by first | exact Nat.le_of_ble_eq_true rfl | omega | (dsimp only; omega)) ?_ (fun σ3 h9 => ?_)
    · exact fun E σ3 hx => VX_out hG (by first | exact Nat.le_of_ble_eq_true rfl | omega | (dsimp only; omega)) (by first | exact Nat.le_of_ble_eq_true rfl | omega | (dsimp only; omega)) hx
    · replace h := h9
      clear h9
      refine V_aload_n (v := va_rf x2) hG dX9_batch_13 (isRef_rf _) rfl ?_
      refine V_iload_n hG dX9_batch_14 rfl ?_
      obtain ⟨u4, he, h⟩ := h
      subst he
      obtain ⟨ht, h⟩ := h
      refine V_cVI _ _ hG dX9_batch_15 (ct_X0_tell hl h) mv_X0_tell ml_X9_285 ht rfl rfl rfl rfl (by first | exact Nat.le_of_ble_eq_true rfl | (simp only [List.map_cons, List.map_nil, List.sum_cons, List.sum_nil, cat_rf]; exact Nat.le_of_ble_eq_true rfl)) (Nat.le_of_ble_eq_true rfl) (Nat.le_of_ble_eq_true rfl) (by first | exact Nat.le_of_ble_eq_true rfl | omega | (dsimp only; omega)) (by first | exact Nat.le_of_ble_eq_true rfl | omega | (dsimp only; omega)) ?_ (fun x6 σ5 h9 => ?_)
      · exact fun E σ5 hx => VX_out hG (by first | exact Nat.le_of_ble_eq_true rfl | omega | (dsimp only; omega)) (by first | exact Nat.le_of_ble_eq_true rfl | omega | (dsimp only; omega)) hx
      · replace h := h9
        clear h9
        exact V_iret hG dX9_batch_18 (by first | exact Nat.le_of_ble_eq_true rfl | omega | (dsimp only; omega)) (by first | exact Nat.le_of_ble_eq_true rfl | omega | (dsimp only; omega)) h
def wp_X9_placed_37 (K5 : Int64 → Int32 → Int32 → Int32 → Sg → Prop) (v0 : Int64) (v2 : Int32) (v3 : Int32) (v4 : Int32) (σ : Sg) (Post : Rs → Sg → Prop) : Prop := (K5 v0 v2 v3 (v4 + 1) σ)
set_option maxRecDepth 100000 in
set_option maxHeartbeats 4000000 in
theorem wv_X9_placed_37 {L9 : Launch} {G : Cx} {Post : Rs → Sg → Prop} (hl : L9.stackTraces = false) (hG : CX L9 G yX9_placed cX9_placed 5 (some .int) [] { frames := 0, cells := 0, slots := 0, locals := 0 }) {K5 : Int64 → Int32 → Int32 → Int32 → Sg → Prop} (hK5 : ∀ (v0 : Int64) (v2 : Int32) (v3 : Int32) (v4 : Int32) (ζ : Sg), K5 v0 v2 v3 v4 ζ → V G (QM G 0 0 Post) 5 [some (.long v0), none, some (.int v2), some (.int v3), some (.int v4)] [] ζ 0 0) : ∀ (v0 : Int64) (v2 : Int32) (v3 : Int32) (v4 : Int32) (σ : Sg), wp_X9_placed_37 K5 v0 v2 v3 v4 σ Post → V G (QM G 0 0 Post) 37 [some (.long v0), none, some (.int v2), some (.int v3), some (.int v4)] [] σ 0 0 := by
  intro v0 v2 v3 v4 σ h
  unfold wp_X9_placed_37 at h
  refine V_iincv (c := 1) hG dX9_placed_37 rfl (by decide) (hpV rfl rfl) ?_
  refine V_goto (tgt := 5) hG dX9_placed_40 (by decide) ?_
  refine V_forget (lo' := [some (.long v0), none, some (.int v2), some (.int v3), some (.int (v4 + 1))]) ⟨rfl, ⟨rfl, ⟨rfl, ⟨rfl, trivial⟩⟩⟩⟩ ?_
  exact hK5 _ _ _ _ _ h
def wp_X9_placed_5  : Nat → Int64 → Int32 → Int32 → Int32 → Sg → (Rs → Sg → Prop) → Prop
  | 0, _, _, _, _, _, _ => False
  | f + 1, v0, v2, v3, v4, σ, Post => (((60 : Int32) ≤ v4 → Post (.inl (some (.int (-1 : Int32)))) σ) ∧ (¬ (60 : Int32) ≤ v4 → ((¬ (lg_cmp ((v0 >>> (Int32.toInt64 v4 &&& 63)) &&& (1 : Int64)) (0 : Int64)) = 0 → ((¬ v3 = v2 → (wp_X9_placed_37 (fun z0 z1 z2 z3 ζ => wp_X9_placed_5 f z0 z1 z2 z3 ζ Post) v0 v2 (v3 + 1) v4 σ Post)) ∧ (v3 = v2 → Post (.inl (some (.int v4))) σ))) ∧ ((lg_cmp ((v0 >>> (Int32.toInt64 v4 &&& 63)) &&& (1 : Int64)) (0 : Int64)) = 0 → (wp_X9_placed_37 (fun z0 z1 z2 z3 ζ => wp_X9_placed_5 f z0 z1 z2 z3 ζ Post) v0 v2 v3 v4 σ Post)))))
set_option maxRecDepth 100000 in
set_option maxHeartbeats 4000000 in
theorem wv_X9_placed_5 {L9 : Launch} {G : Cx} {Post : Rs → Sg → Prop} (hl : L9.stackTraces = false) (hG : CX L9 G yX9_placed cX9_placed 5 (some .int) [] { frames := 0, cells := 0, slots := 0, locals := 0 })   : ∀ (f : Nat) (v0 : Int64) (v2 : Int32) (v3 : Int32) (v4 : Int32) (σ : Sg), wp_X9_placed_5 f v0 v2 v3 v4 σ Post → V G (QM G 0 0 Post) 5 [some (.long v0), none, some (.int v2), some (.int v3), some (.int v4)] [] σ 0 0 := by
  intro f
  induction f with
  | zero => intro _ _ _ _ σ h; exact h.elim
  | succ f ih =>
    intro v0 v2 v3 v4 σ h
    refine V_iload hG dX9_placed_5 rfl ?_
    refine V_bipush (v := 60) hG (by decide) dX9_placed_7 ?_
    refine V_icmp_ge (tgt := 43) hG dX9_placed_9 (by decide) (fun c => ?_) (fun c => ?_)
    · replace h := h.1 c
      refine V_iconst (v := (-1)) hG (by decide) dX9_placed_43 ?_
      exact V_iret hG dX9_placed_44 (by first | exact Nat.le_of_ble_eq_true rfl | omega | (dsimp only; omega)) (by first | exact Nat.le_of_ble_eq_true rfl | omega | (dsimp only; omega)) h
    · replace h := h.2 c
      refine V_lload_n hG dX9_placed_12 rfl ?_
      refine V_iload hG dX9_placed_13 rfl ?_
      refine V_lshr hG dX9_placed_15 ?_
      refine V_lconst (v := 1) hG (by decide) dX9_placed_16 ?_
      refine V_land hG dX9_placed_17 ?_
      refine V_lconst (v := 0) hG (by decide) dX9_placed_18 ?_
      refine V_lcmp hG dX9_placed_19 ?_
      refine V_if_ne (tgt := 26) hG dX9_placed_20 (by decide) (fun c => ?_) (fun c => ?_)
      · replace h := h.1 c
        refine V_iload_n hG dX9_placed_26 rfl ?_
        refine V_iload_n hG dX9_placed_27 rfl ?_
        refine V_icmp_ne (tgt := 34) hG dX9_placed_28 (by decide) (fun c => ?_) (fun c => ?_)
        · replace h := h.1 c
          refine V_iincv (c := 1) hG dX9_placed_34 rfl (by decide) (hpV rfl rfl) ?_
          refine V_forget (lo' := [some (.long v0), none, some (.int v2), some (.int (v3 + 1)), some (.int v4)]) ⟨rfl, ⟨rfl, ⟨rfl, ⟨rfl, trivial⟩⟩⟩⟩ ?_
          refine V_widen (k' := 0) (n' := 0) (by first | exact Nat.le_of_ble_eq_true rfl | omega | (dsimp only; omega)) (by first | exact Nat.le_of_ble_eq_true rfl | omega | (dsimp only; omega)) ?_
          exact wv_X9_placed_37 hl hG (fun z0 z1 z2 z3 ζ hz => ih z0 z1 z2 z3 ζ hz) _ _ _ _ _ h
        · replace h := h.2 c
          refine V_iload hG dX9_placed_31 rfl ?_
          exact V_iret hG dX9_placed_33 (by first | exact Nat.le_of_ble_eq_true rfl | omega | (dsimp only; omega)) (by first | exact Nat.le_of_ble_eq_true rfl | omega | (dsimp only; omega)) h
      · replace h := h.2 c
        refine V_goto (tgt := 37) hG dX9_placed_23 (by decide) ?_
        refine V_forget (lo' := [some (.long v0), none, some (.int v2), some (.int v3), some (.int v4)]) ⟨rfl, ⟨rfl, ⟨rfl, ⟨rfl, trivial⟩⟩⟩⟩ ?_
        refine V_widen (k' := 0) (n' := 0) (by first | exact Nat.le_of_ble_eq_true rfl | omega | (dsimp only; omega)) (by first | exact Nat.le_of_ble_eq_true rfl | omega | (dsimp only; omega)) ?_
        exact wv_X9_placed_37 hl hG (fun z0 z1 z2 z3 ζ hz => ih z0 z1 z2 z3 ζ hz) _ _ _ _ _ h
def wp_X9_placed (a0 : Int64) (a1 : Int32) (σ : Sg) (Post : Rs → Sg → Prop) : Prop := (∃ g, wp_X9_placed_5 g a0 a1 (0 : Int32) (0 : Int32) σ Post)
set_option maxRecDepth 100000 in
set_option maxHeartbeats 4000000 in
theorem ct_X9_placed {l : Launch} (hl : l.stackTraces = false) {a0 : Int64} {a1 : Int32} {σ : Sg} {Post : Rs → Sg → Prop} (h : wp_X9_placed a0 a1 σ Post) : Ct l yX9_placed (.code yX9_placed cX9_placed 5 (some .int)) 0 0 0 0 [.long a0, .int a1] σ Post := by
  refine Ct_of [some (.long a0), none, some (.int a1), none, none] hl (by decide +kernel) rfl (fun ad => by rfl) (fun ad => by exact Nat.le_of_ble_eq_true rfl) (fun v hv => mem_lo hv rfl) ?_
  intro G hG
  unfold wp_X9_placed at h
  refine V_iconst (v := 0) hG (by decide) dX9_placed_0 ?_
  refine V_istore_n hG dX9_placed_1 (Nat.le_of_ble_eq_true rfl) (hpV rfl rfl) ?_
  refine V_iconst (v := 0) hG (by decide) dX9_placed_2 ?_
  refine V_istore hG dX9_placed_3 (Nat.le_of_ble_eq_true rfl) (hpV rfl rfl) ?_
  refine V_forget (lo' := [some (.long a0), none, some (.int a1), some (.int (0 : Int32)), some (.int (0 : Int32))]) ⟨rfl, ⟨rfl, ⟨rfl, ⟨rfl, trivial⟩⟩⟩⟩ ?_
  obtain ⟨g, h⟩ := h
  refine V_widen (k' := 0) (n' := 0) (by first | exact Nat.le_of_ble_eq_true rfl | omega | (dsimp only; omega)) (by first | exact Nat.le_of_ble_eq_true rfl | omega | (dsimp only; omega)) ?_
  exact wv_X9_placed_5 hl hG  g _ _ _ _ _ h
def wp_X9_parent_15  (v2 : Int32) (v3 : Option Nat) (s0 : Int32) (σ : Sg) (Post : Rs → Sg → Prop) : Prop := wp_X9_requireArgument s0 σ (KV (fun σ1 => ∃ u2, v3 = some u2 ∧ u2 % 32 = 0 ∧ wp_X9_placed (sL σ1 u2 11) v2 σ1 (KI (fun x4 σ3 => Post (.inl (some (.int x4))) σ3) (fun E σ3 => Post (.inr E) σ3))) (fun E σ1 => Post (.inr E) σ1))
set_option maxRecDepth 100000 in
set_option maxHeartbeats 4000000 in
theorem wv_X9_parent_15 {L9 : Launch} {G : Cx} {Post : Rs → Sg → Prop} (hl : L9.stackTraces = false) (hG : CX L9 G yX9_parent cX9_parent 4 (some .int) [] { frames := 8, cells := 2, slots := 12, locals := 124 })   : ∀ (v2 : Int32) (v3 : Option Nat) (s0 : Int32) (σ : Sg), wp_X9_parent_15 v2 v3 s0 σ Post → V G (QM G 2 12 Post) 15 [none, none, some (.int v2), some (va_rf v3)] [.int s0] σ 1 6 := by
  intro v2 v3 s0 σ h
  unfold wp_X9_parent_15 at h
  refine V_cSV _ _ hG dX9_parent_15 (ct_X9_requireArgument hl h) mv_X9_requireArgument ml_X9_65 rfl rfl (by first | exact Nat.le_of_ble_eq_true rfl | (simp only [List.map_cons, List.map_nil, List.sum_cons, List.sum_nil, cat_rf]; exact Nat.le_of_ble_eq_true rfl)) (Nat.le_of_ble_eq_true rfl) (Nat.le_of_ble_eq_true rfl) (by first | exact Nat.le_of_ble_eq_true rfl | omega | (dsimp only; omega)) (by first | exact Nat.le_of_ble_eq_true rfl | omega | (dsimp only; omega)) ?_ (fun σ1 h9 => ?_)
  · exact fun E σ1 hx => VX_out hG (by first | exact Nat.le_of_ble_eq_true rfl | omega | (dsimp only; omega)) (by first | exact Nat.le_of_ble_eq_true rfl | omega | (dsimp only; omega)) hx
  · replace h := h9
    clear h9
    refine V_aload_n (v := va_rf v3) hG dX9_parent_18 (isRef_rf _) rfl ?_
    obtain ⟨u2, he, h⟩ := h
    subst he
    obtain ⟨ht, h⟩ := h
    refine V_getJ hG dX9_parent_19 fl_X9_202 rfl ht ?_
    refine V_iload_n hG dX9_parent_22 rfl ?_
    refine V_cSI _ _ hG dX9_parent_23 (ct_X9_placed hl h) mv_X9_placed ml_X9_288 rfl rfl (by first | exact Nat.le_of_ble_eq_true rfl | (simp only [List.map_cons, List.map_nil, List.sum_cons, List.sum_nil, cat_rf]; exact Nat.le_of_ble_eq_true rfl)) (Nat.le_of_ble_eq_true rfl) (Nat.le_of_ble_eq_true rfl) (by first | exact Nat.le_of_ble_eq_true rfl | omega | (dsimp only; omega)) (by first | exact Nat.le_of_ble_eq_true rfl | omega | (dsimp only; omega)) ?_ (fun x4 σ3 h9 => ?_)
    · exact fun E σ3 hx => VX_out hG (by first | exact Nat.le_of_ble_eq_true rfl | omega | (dsimp only; omega)) (by first | exact Nat.le_of_ble_eq_true rfl | omega | (dsimp only; omega)) hx
    · replace h := h9
      clear h9
      exact V_iret hG dX9_parent_26 (by first | exact Nat.le_of_ble_eq_true rfl | omega | (dsimp only; omega)) (by first | exact Nat.le_of_ble_eq_true rfl | omega | (dsimp only; omega)) h
def wp_X9_parent (this : Nat) (a0 : Int32) (a1 : Int32) (σ : Sg) (Post : Rs → Sg → Prop) : Prop := this % 32 = 9 ∧ wp_X9_batchAt this a0 σ (KO (fun x2 σ1 => ((a1 < 0 → (wp_X9_parent_15 a1 x2 (0 : Int32) σ1 Post)) ∧ (¬ a1 < 0 → (wp_X9_parent_15 a1 x2 (1 : Int32) σ1 Post)))) (fun E σ1 => Post (.inr E) σ1))
set_option maxRecDepth 100000 in
set_option maxHeartbeats 4000000 in
theorem ct_X9_parent {l : Launch} (hl : l.stackTraces = false) {this : Nat} {a0 : Int32} {a1 : Int32} {σ : Sg} {Post : Rs → Sg → Prop} (h : wp_X9_parent this a0 a1 σ Post) : Ct l yX9_parent (.code yX9_parent cX9_parent 4 (some .int)) 8 124 2 12 [.ref this, .int a0, .int a1] σ Post := by
  refine Ct_of [some (.ref this), some (.int a0), some (.int a1), none] hl (by decide +kernel) rfl (fun ad => by rfl) (fun ad => by exact Nat.le_of_ble_eq_true rfl) (fun v hv => mem_lo hv rfl) ?_
  intro G hG
  unfold wp_X9_parent at h
  refine V_aload_n (v := .ref this) hG dX9_parent_0 rfl rfl ?_
  refine V_iload_n hG dX9_parent_1 rfl ?_
  obtain ⟨ht, h⟩ := h
  refine V_cVO _ _ hG dX9_parent_2 (ct_X9_batchAt hl h) mv_X9_batchAt ml_X9_157 ht rfl rfl rfl rfl (by first | exact Nat.le_of_ble_eq_true rfl | (simp only [List.map_cons, List.map_nil, List.sum_cons, List.sum_nil, cat_rf]; exact Nat.le_of_ble_eq_true rfl)) (Nat.le_of_ble_eq_true rfl) (Nat.le_of_ble_eq_true rfl) (by first | exact Nat.le_of_ble_eq_true rfl | omega | (dsimp only; omega)) (by first | exact Nat.le_of_ble_eq_true rfl | omega | (dsimp only; omega)) ?_ (fun x2 σ1 h9 => ?_)
  · exact fun E σ1 hx => VX_out hG (by first | exact Nat.le_of_ble_eq_true rfl | omega | (dsimp only; omega)) (by first | exact Nat.le_of_ble_eq_true rfl | omega | (dsimp only; omega)) hx
  · replace h := h9
    clear h9
    refine V_astore_n hG dX9_parent_5 (isRef_rf _) (Nat.le_of_ble_eq_true rfl) (hpV rfl rfl) ?_
    refine V_iload_n hG dX9_parent_6 rfl ?_
    refine V_if_lt (tgt := 14) hG dX9_parent_7 (by decide) (fun c => ?_) (fun c => ?_)
    · replace h := h.1 c
      refine V_iconst (v := 0) hG (by decide) dX9_parent_14 ?_
      refine V_forget (lo' := [none, none, some (.int a1), some (va_rf x2)]) ⟨rfl, ⟨rfl, trivial⟩⟩ ?_
      refine V_widen (k' := 1) (n' := 6) (by first | exact Nat.le_of_ble_eq_true rfl | omega | (dsimp only; omega)) (by first | exact Nat.le_of_ble_eq_true rfl | omega | (dsimp only; omega)) ?_
      exact wv_X9_parent_15 hl hG  _ _ _ _ h
    · replace h := h.2 c
      refine V_iconst (v := 1) hG (by decide) dX9_parent_10 ?_
      refine V_goto (tgt := 15) hG dX9_parent_11 (by decide) ?_
      refine V_forget (lo' := [none, none, some (.int a1), some (va_rf x2)]) ⟨rfl, ⟨rfl, trivial⟩⟩ ?_
      refine V_widen (k' := 1) (n' := 6) (by first | exact Nat.le_of_ble_eq_true rfl | omega | (dsimp only; omega)) (by first | exact Nat.le_of_ble_eq_true rfl | omega | (dsimp only; omega)) ?_
      exact wv_X9_parent_15 hl hG  _ _ _ _ h
def wp_X9_origin_15  (this : Nat) (v2 : Int32) (v3 : Option Nat) (s0 : Int32) (σ : Sg) (Post : Rs → Sg → Prop) : Prop := wp_X9_requireArgument s0 σ (KV (fun σ1 => this % 32 = 9 ∧ ∀ o2, o2 = sP σ1 this 2 → ∃ u3, o2 = some u3 ∧ u3 % 32 = 8 ∧ wp_X8_originsOf u3 v3 σ1 (KJ (fun x5 σ4 => wp_X9_placed x5 v2 σ4 (KI (fun x7 σ6 => Post (.inl (some (.int x7))) σ6) (fun E σ6 => Post (.inr E) σ6))) (fun E σ4 => Post (.inr E) σ4))) (fun E σ1 => Post (.inr E) σ1))
set_option maxRecDepth 100000 in
set_option maxHeartbeats 4000000 in
theorem wv_X9_origin_15 {L9 : Launch} {G : Cx} {Post : Rs → Sg → Prop} (hl : L9.stackTraces = false) (hG : CX L9 G yX9_origin cX9_origin 4 (some .int) [] { frames := 8, cells := 2, slots := 12, locals := 124 })   : ∀ (this : Nat) (v2 : Int32) (v3 : Option Nat) (s0 : Int32) (σ : Sg), wp_X9_origin_15 this v2 v3 s0 σ Post → V G (QM G 2 12 Post) 15 [some (.ref this), none, some (.int v2), some (va_rf v3)] [.int s0] σ 1 6 := by
  intro this v2 v3 s0 σ h
  unfold wp_X9_origin_15 at h
  refine V_cSV _ _ hG dX9_origin_15 (ct_X9_requireArgument hl h) mv_X9_requireArgument ml_X9_65 rfl rfl (by first | exact Nat.le_of_ble_eq_true rfl | (simp only [List.map_cons, List.map_nil, List.sum_cons, List.sum_nil, cat_rf]; exact Nat.le_of_ble_eq_true rfl)) (Nat.le_of_ble_eq_true rfl) (Nat.le_of_ble_eq_true rfl) (by first | exact Nat.le_of_ble_eq_true rfl | omega | (dsimp only; omega)) (by first | exact Nat.le_of_ble_eq_true rfl | omega | (dsimp only; omega)) ?_ (fun σ1 h9 => ?_)
  · exact fun E σ1 hx => VX_out hG (by first | exact Nat.le_of_ble_eq_true rfl | omega | (dsimp only; omega)) (by first | exact Nat.le_of_ble_eq_true rfl | omega | (dsimp only; omega)) hx
  · replace h := h9
    clear h9
    refine V_aload_n (v := .ref this) hG dX9_origin_18 rfl rfl ?_
    obtain ⟨ht, h⟩ := h
    refine V_getPv hG dX9_origin_19 fl_X9_26 rfl ht (fun o2 ho => ?_)
    replace h := h o2 ho
    refine V_aload_n (v := va_rf v3) hG dX9_origin_22 (isRef_rf _) rfl ?_
    obtain ⟨u3, he, h⟩ := h
    subst he
    obtain ⟨ht, h⟩ := h
    refine V_cVJ _ _ hG dX9_origin_23 (ct_X8_originsOf hl h) mv_X8_originsOf ml_X9_292 ht rfl rfl rfl rfl (by first | exact Nat.le_of_ble_eq_true rfl | (simp only [List.map_cons, List.map_nil, List.sum_cons, List.sum_nil, cat_rf]; exact Nat.le_of_ble_eq_true rfl)) (Nat.le_of_ble_eq_true rfl) (Nat.le_of_ble_eq_true rfl) (by first | exact Nat.le_of_ble_eq_true rfl | omega | (dsimp only; omega)) (by first | exact Nat.le_of_ble_eq_true rfl | omega | (dsimp only; omega)) ?_ (fun x5 σ4 h9 => ?_)
    · exact fun E σ4 hx => VX_out hG (by first | exact Nat.le_of_ble_eq_true rfl | omega | (dsimp only; omega)) (by first | exact Nat.le_of_ble_eq_true rfl | omega | (dsimp only; omega)) hx
    · replace h := h9
      clear h9
      refine V_iload_n hG dX9_origin_26 rfl ?_
      refine V_cSI _ _ hG dX9_origin_27 (ct_X9_placed hl h) mv_X9_placed ml_X9_288 rfl rfl (by first | exact Nat.le_of_ble_eq_true rfl | (simp only [List.map_cons, List.map_nil, List.sum_cons, List.sum_nil, cat_rf]; exact Nat.le_of_ble_eq_true rfl)) (Nat.le_of_ble_eq_true rfl) (Nat.le_of_ble_eq_true rfl) (by first | exact Nat.le_of_ble_eq_true rfl | omega | (dsimp only; omega)) (by first | exact Nat.le_of_ble_eq_true rfl | omega | (dsimp only; omega)) ?_ (fun x7 σ6 h9 => ?_)
      · exact fun E σ6 hx => VX_out hG (by first | exact Nat.le_of_ble_eq_true rfl | omega | (dsimp only; omega)) (by first | exact Nat.le_of_ble_eq_true rfl | omega | (dsimp only; omega)) hx
      · replace h := h9
        clear h9
        exact V_iret hG dX9_origin_30 (by first | exact Nat.le_of_ble_eq_true rfl | omega | (dsimp only; omega)) (by first | exact Nat.le_of_ble_eq_true rfl | omega | (dsimp only; omega)) h
def wp_X9_origin (this : Nat) (a0 : Int32) (a1 : Int32) (σ : Sg) (Post : Rs → Sg → Prop) : Prop := this % 32 = 9 ∧ wp_X9_batchAt this a0 σ (KO (fun x2 σ1 => ((a1 < 0 → (wp_X9_origin_15 this a1 x2 (0 : Int32) σ1 Post)) ∧ (¬ a1 < 0 → (wp_X9_origin_15 this a1 x2 (1 : Int32) σ1 Post)))) (fun E σ1 => Post (.inr E) σ1))
set_option maxRecDepth 100000 in
set_option maxHeartbeats 4000000 in
theorem ct_X9_origin {l : Launch} (hl : l.stackTraces = false) {this : Nat} {a0 : Int32} {a1 : Int32} {σ : Sg} {Post : Rs → Sg → Prop} (h : wp_X9_origin this a0 a1 σ Post) : Ct l yX9_origin (.code yX9_origin cX9_origin 4 (some .int)) 8 124 2 12 [.ref this, .int a0, .int a1] σ Post := by
  refine Ct_of [some (.ref this), some (.int a0), some (.int a1), none] hl (by decide +kernel) rfl (fun ad => by rfl) (fun ad => by exact Nat.le_of_ble_eq_true rfl) (fun v hv => mem_lo hv rfl) ?_
  intro G hG
  unfold wp_X9_origin at h
  refine V_aload_n (v := .ref this) hG dX9_origin_0 rfl rfl ?_
  refine V_iload_n hG dX9_origin_1 rfl ?_
  obtain ⟨ht, h⟩ := h
  refine V_cVO _ _ hG dX9_origin_2 (ct_X9_batchAt hl h) mv_X9_batchAt ml_X9_157 ht rfl rfl rfl rfl (by first | exact Nat.le_of_ble_eq_true rfl | (simp only [List.map_cons, List.map_nil, List.sum_cons, List.sum_nil, cat_rf]; exact Nat.le_of_ble_eq_true rfl)) (Nat.le_of_ble_eq_true rfl) (Nat.le_of_ble_eq_true rfl) (by first | exact Nat.le_of_ble_eq_true rfl | omega | (dsimp only; omega)) (by first | exact Nat.le_of_ble_eq_true rfl | omega | (dsimp only; omega)) ?_ (fun x2 σ1 h9 => ?_)
  · exact fun E σ1 hx => VX_out hG (by first | exact Nat.le_of_ble_eq_true rfl | omega | (dsimp only; omega)) (by first | exact Nat.le_of_ble_eq_true rfl | omega | (dsimp only; omega)) hx
  · replace h := h9
    clear h9
    refine V_astore_n hG dX9_origin_5 (isRef_rf _) (Nat.le_of_ble_eq_true rfl) (hpV rfl rfl) ?_
    refine V_iload_n hG dX9_origin_6 rfl ?_
    refine V_if_lt (tgt := 14) hG dX9_origin_7 (by decide) (fun c => ?_) (fun c => ?_)
    · replace h := h.1 c
      refine V_iconst (v := 0) hG (by decide) dX9_origin_14 ?_
      refine V_forget (lo' := [some (.ref this), none, some (.int a1), some (va_rf x2)]) ⟨rfl, ⟨rfl, ⟨rfl, trivial⟩⟩⟩ ?_
      refine V_widen (k' := 1) (n' := 6) (by first | exact Nat.le_of_ble_eq_true rfl | omega | (dsimp only; omega)) (by first | exact Nat.le_of_ble_eq_true rfl | omega | (dsimp only; omega)) ?_
      exact wv_X9_origin_15 hl hG  _ _ _ _ _ h
    · replace h := h.2 c
      refine V_iconst (v := 1) hG (by decide) dX9_origin_10 ?_
      refine V_goto (tgt := 15) hG dX9_origin_11 (by decide) ?_
      refine V_forget (lo' := [some (.ref this), none, some (.int a1), some (va_rf x2)]) ⟨rfl, ⟨rfl, ⟨rfl, trivial⟩⟩⟩ ?_
      refine V_widen (k' := 1) (n' := 6) (by first | exact Nat.le_of_ble_eq_true rfl | omega | (dsimp only; omega)) (by first | exact Nat.le_of_ble_eq_true rfl | omega | (dsimp only; omega)) ?_
      exact wv_X9_origin_15 hl hG  _ _ _ _ _ h
def wp_X9_machineAt (this : Nat) (a0 : Int32) (σ : Sg) (Post : Rs → Sg → Prop) : Prop := this % 32 = 9 ∧ ∀ o1, o1 = sP σ this 1 → ∃ u2, o1 = some u2 ∧ u2 % 32 = 1 ∧ wp_X9_requireIndex a0 (sI σ u2 2) σ (KV (fun σ3 => this % 32 = 9 ∧ ∀ o4, o4 = sP σ3 this 1 → ∃ u5, o4 = some u5 ∧ u5 % 32 = 1 ∧ ∀ o6, o6 = sP σ3 u5 1 → ∃ u7, o6 = some u7 ∧ isRow u7 ∧ ∃ j8, a0 = nI j8 ∧ j8 < aln u7 ∧ ∀ o9, o9 = sP σ3 u7 j8 → Post (.inl (some (va_rf o9))) σ3) (fun E σ3 => Post (.inr E) σ3))
set_option maxRecDepth 100000 in
set_option maxHeartbeats 4000000 in
theorem ct_X9_machineAt {l : Launch} (hl : l.stackTraces = false) {this : Nat} {a0 : Int32} {σ : Sg} {Post : Rs → Sg → Prop} (h : wp_X9_machineAt this a0 σ Post) : Ct l yX9_machineAt (.code yX9_machineAt cX9_machineAt 2 (some (.object "Millrace$Machine"))) 7 103 1 6 [.ref this, .int a0] σ Post := by
  refine Ct_of [some (.ref this), some (.int a0)] hl (by decide +kernel) rfl (fun ad => by rfl) (fun ad => by exact Nat.le_of_ble_eq_true rfl) (fun v hv => mem_lo hv rfl) ?_
  intro G hG
  unfold wp_X9_machineAt at h
  refine V_iload_n hG dX9_machineAt_0 rfl ?_
  refine V_aload_n (v := .ref this) hG dX9_machineAt_1 rfl rfl ?_
  obtain ⟨ht, h⟩ := h
  refine V_getPv hG dX9_machineAt_2 fl_X9_18 rfl ht (fun o1 ho => ?_)
  replace h := h o1 ho
  obtain ⟨u2, he, h⟩ := h
  subst he
  obtain ⟨ht, h⟩ := h
  refine V_getI hG dX9_machineAt_5 fl_X9_102 rfl ht ?_
  refine V_cSV _ _ hG dX9_machineAt_8 (ct_X9_requireIndex hl h) mv_X9_requireIndex ml_X9_81 rfl rfl (by first | exact Nat.le_of_ble_eq_true rfl | (simp only [List.map_cons, List.map_nil, List.sum_cons, List.sum_nil, cat_rf]; exact Nat.le_of_ble_eq_true rfl)) (Nat.le_of_ble_eq_true rfl) (Nat.le_of_ble_eq_true rfl) (by first | exact Nat.le_of_ble_eq_true rfl | omega | (dsimp only; omega)) (by first | exact Nat.le_of_ble_eq_true rfl | omega | (dsimp only; omega)) ?_ (fun σ3 h9 => ?_)
  · exact fun E σ3 hx => VX_out hG (by first | exact Nat.le_of_ble_eq_true rfl | omega | (dsimp only; omega)) (by first | exact Nat.le_of_ble_eq_true rfl | omega | (dsimp only; omega)) hx
  · replace h := h9
    clear h9
    refine V_aload_n (v := .ref this) hG dX9_machineAt_11 rfl rfl ?_
    obtain ⟨ht, h⟩ := h
    refine V_getPv hG dX9_machineAt_12 fl_X9_18 rfl ht (fun o4 ho => ?_)
    replace h := h o4 ho
    obtain ⟨u5, he, h⟩ := h
    subst he
    obtain ⟨ht, h⟩ := h
    refine V_getPv hG dX9_machineAt_15 fl_X9_348 rfl ht (fun o6 ho => ?_)
    replace h := h o6 ho
    refine V_iload_n hG dX9_machineAt_18 rfl ?_
    obtain ⟨u7, he, h⟩ := h
    subst he
    obtain ⟨ha, j8, hi, hj, h⟩ := h
    refine V_aaldv hG dX9_machineAt_19 ha hi hj (fun o9 ho => ?_)
    replace h := h o9 ho
    exact V_aret (v := va_rf o9) hG dX9_machineAt_20 (isRef_rf _) (by first | exact Nat.le_of_ble_eq_true rfl | omega | (dsimp only; omega)) (by first | exact Nat.le_of_ble_eq_true rfl | omega | (dsimp only; omega)) h
def wp_X9_machine (this : Nat) (a0 : Int32) (a1 : Int32) (σ : Sg) (Post : Rs → Sg → Prop) : Prop := this % 32 = 9 ∧ wp_X9_machineAt this a0 σ (KO (fun x2 σ1 => wp_X9_requireRange a1 (0 : Int32) (5 : Int32) σ1 (KV (fun σ3 => ∃ u4, x2 = some u4 ∧ u4 % 32 = 4 ∧ wp_X4_tell u4 a1 σ3 (KI (fun x6 σ5 => Post (.inl (some (.int x6))) σ5) (fun E σ5 => Post (.inr E) σ5))) (fun E σ3 => Post (.inr E) σ3))) (fun E σ1 => Post (.inr E) σ1))
set_option maxRecDepth 100000 in
set_option maxHeartbeats 4000000 in
theorem ct_X9_machine {l : Launch} (hl : l.stackTraces = false) {this : Nat} {a0 : Int32} {a1 : Int32} {σ : Sg} {Post : Rs → Sg → Prop} (h : wp_X9_machine this a0 a1 σ Post) : Ct l yX9_machine (.code yX9_machine cX9_machine 4 (some .int)) 8 124 2 12 [.ref this, .int a0, .int a1] σ Post := by
  refine Ct_of [some (.ref this), some (.int a0), some (.int a1), none] hl (by decide +kernel) rfl (fun ad => by rfl) (fun ad => by exact Nat.le_of_ble_eq_true rfl) (fun v hv => mem_lo hv rfl) ?_
  intro G hG
  unfold wp_X9_machine at h
  refine V_aload_n (v := .ref this) hG dX9_machine_0 rfl rfl ?_
  refine V_iload_n hG dX9_machine_1 rfl ?_
  obtain ⟨ht, h⟩ := h
  refine V_cVO _ _ hG dX9_machine_2 (ct_X9_machineAt hl h) mv_X9_machineAt ml_X9_295 ht rfl rfl rfl rfl (by first | exact Nat.le_of_ble_eq_true rfl | (simp only [List.map_cons, List.map_nil, List.sum_cons, List.sum_nil, cat_rf]; exact Nat.le_of_ble_eq_true rfl)) (Nat.le_of_ble_eq_true rfl) (Nat.le_of_ble_eq_true rfl) (by first | exact Nat.le_of_ble_eq_true rfl | omega | (dsimp only; omega)) (by first | exact Nat.le_of_ble_eq_true rfl | omega | (dsimp only; omega)) ?_ (fun x2 σ1 h9 => ?_)
  · exact fun E σ1 hx => VX_out hG (by first | exact Nat.le_of_ble_eq_true rfl | omega | (dsimp only; omega)) (by first | exact Nat.le_of_ble_eq_true rfl | omega | (dsimp only; omega)) hx
  · replace h := h9
    clear h9
    refine V_astore_n hG dX9_machine_5 (isRef_rf _) (Nat.le_of_ble_eq_true rfl) (hpV rfl rfl) ?_
    refine V_iload_n hG dX9_machine_6 rfl ?_
    refine V_iconst (v := 0) hG (by decide) dX9_machine_7 ?_
    refine V_iconst (v := 5) hG (by decide) dX9_machine_8 ?_
    refine V_cSV _ _ hG dX9_machine_9 (ct_X9_requireRange hl h) mv_X9_requireRange ml_X9_34 rfl rfl (by first | exact Nat.le_of_ble_eq_true rfl | (simp only [List.map_cons, List.map_nil, List.sum_cons, List.sum_nil, cat_rf]; exact Nat.le_of_ble_eq_true rfl)) (Nat.le_of_ble_eq_true rfl) (Nat.le_of_ble_eq_true rfl) (by first | exact Nat.le_of_ble_eq_true rfl | omega | (dsimp only; omega)) (by first | exact Nat.le_of_ble_eq_true rfl | omega | (dsimp only; omega)) ?_ (fun σ3 h9 => ?_)
    · exact fun E σ3 hx => VX_out hG (by first | exact Nat.le_of_ble_eq_true rfl | omega | (dsimp only; omega)) (by first | exact Nat.le_of_ble_eq_true rfl | omega | (dsimp only; omega)) hx
    · replace h := h9
      clear h9
      refine V_aload_n (v := va_rf x2) hG dX9_machine_12 (isRef_rf _) rfl ?_
      refine V_iload_n hG dX9_machine_13 rfl ?_
      obtain ⟨u4, he, h⟩ := h
      subst he
      obtain ⟨ht, h⟩ := h
      refine V_cVI _ _ hG dX9_machine_14 (ct_X4_tell hl h) mv_X4_tell ml_X9_299 ht rfl rfl rfl rfl (by first | exact Nat.le_of_ble_eq_true rfl | (simp only [List.map_cons, List.map_nil, List.sum_cons, List.sum_nil, cat_rf]; exact Nat.le_of_ble_eq_true rfl)) (Nat.le_of_ble_eq_true rfl) (Nat.le_of_ble_eq_true rfl) (by first | exact Nat.le_of_ble_eq_true rfl | omega | (dsimp only; omega)) (by first | exact Nat.le_of_ble_eq_true rfl | omega | (dsimp only; omega)) ?_ (fun x6 σ5 h9 => ?_)
      · exact fun E σ5 hx => VX_out hG (by first | exact Nat.le_of_ble_eq_true rfl | omega | (dsimp only; omega)) (by first | exact Nat.le_of_ble_eq_true rfl | omega | (dsimp only; omega)) hx
      · replace h := h9
        clear h9
        exact V_iret hG dX9_machine_17 (by first | exact Nat.le_of_ble_eq_true rfl | omega | (dsimp only; omega)) (by first | exact Nat.le_of_ble_eq_true rfl | omega | (dsimp only; omega)) h
def wp_X9_level (this : Nat) (a0 : Int32) (a1 : Int32) (σ : Sg) (Post : Rs → Sg → Prop) : Prop := this % 32 = 9 ∧ wp_X9_personAt this a0 σ (KO (fun x2 σ1 => wp_X9_requireIndex a1 (4 : Int32) σ1 (KV (fun σ3 => ∃ u4, x2 = some u4 ∧ u4 % 32 = 7 ∧ ∀ o5, o5 = sP σ3 u4 4 → ∃ u6, o5 = some u6 ∧ aty (u6 % 32) = some .int ∧ ∃ j7, a1 = nI j7 ∧ j7 < aln u6 ∧ Post (.inl (some (.int (sI σ3 u6 j7)))) σ3) (fun E σ3 => Post (.inr E) σ3))) (fun E σ1 => Post (.inr E) σ1))
set_option maxRecDepth 100000 in
set_option maxHeartbeats 4000000 in
theorem ct_X9_level {l : Launch} (hl : l.stackTraces = false) {this : Nat} {a0 : Int32} {a1 : Int32} {σ : Sg} {Post : Rs → Sg → Prop} (h : wp_X9_level this a0 a1 σ Post) : Ct l yX9_level (.code yX9_level cX9_level 4 (some .int)) 8 124 2 12 [.ref this, .int a0, .int a1] σ Post := by
  refine Ct_of [some (.ref this), some (.int a0), some (.int a1), none] hl (by decide +kernel) rfl (fun ad => by rfl) (fun ad => by exact Nat.le_of_ble_eq_true rfl) (fun v hv => mem_lo hv rfl) ?_
  intro G hG
  unfold wp_X9_level at h
  refine V_aload_n (v := .ref this) hG dX9_level_0 rfl rfl ?_
  refine V_iload_n hG dX9_level_1 rfl ?_
  obtain ⟨ht, h⟩ := h
  refine V_cVO _ _ hG dX9_level_2 (ct_X9_personAt hl h) mv_X9_personAt ml_X9_126 ht rfl rfl rfl rfl (by first | exact Nat.le_of_ble_eq_true rfl | (simp only [List.map_cons, List.map_nil, List.sum_cons, List.sum_nil, cat_rf]; exact Nat.le_of_ble_eq_true rfl)) (Nat.le_of_ble_eq_true rfl) (Nat.le_of_ble_eq_true rfl) (by first | exact Nat.le_of_ble_eq_true rfl | omega | (dsimp only; omega)) (by first | exact Nat.le_of_ble_eq_true rfl | omega | (dsimp only; omega)) ?_ (fun x2 σ1 h9 => ?_)
  · exact fun E σ1 hx => VX_out hG (by first | exact Nat.le_of_ble_eq_true rfl | omega | (dsimp only; omega)) (by first | exact Nat.le_of_ble_eq_true rfl | omega | (dsimp only; omega)) hx
  · replace h := h9
    clear h9
    refine V_astore_n hG dX9_level_5 (isRef_rf _) (Nat.le_of_ble_eq_true rfl) (hpV rfl rfl) ?_
    refine V_iload_n hG dX9_level_6 rfl ?_
    refine V_iconst (v := 4) hG (by decide) dX9_level_7 ?_
    refine V_cSV _ _ hG dX9_level_8 (ct_X9_requireIndex hl h) mv_X9_requireIndex ml_X9_81 rfl rfl (by first | exact Nat.le_of_ble_eq_true rfl | (simp only [List.map_cons, List.map_nil, List.sum_cons, List.sum_nil, cat_rf]; exact Nat.le_of_ble_eq_true rfl)) (Nat.le_of_ble_eq_true rfl) (Nat.le_of_ble_eq_true rfl) (by first | exact Nat.le_of_ble_eq_true rfl | omega | (dsimp only; omega)) (by first | exact Nat.le_of_ble_eq_true rfl | omega | (dsimp only; omega)) ?_ (fun σ3 h9 => ?_)
    · exact fun E σ3 hx => VX_out hG (by first | exact Nat.le_of_ble_eq_true rfl | omega | (dsimp only; omega)) (by first | exact Nat.le_of_ble_eq_true rfl | omega | (dsimp only; omega)) hx
    · replace h := h9
      clear h9
      refine V_aload_n (v := va_rf x2) hG dX9_level_11 (isRef_rf _) rfl ?_
      obtain ⟨u4, he, h⟩ := h
      subst he
      obtain ⟨ht, h⟩ := h
      refine V_getPv hG dX9_level_12 fl_X9_130 rfl ht (fun o5 ho => ?_)
      replace h := h o5 ho
      refine V_iload_n hG dX9_level_15 rfl ?_
      obtain ⟨u6, he, h⟩ := h
      subst he
      obtain ⟨ha, j7, hi, hj, h⟩ := h
      refine V_iald hG dX9_level_16 ha hi hj ?_
      exact V_iret hG dX9_level_17 (by first | exact Nat.le_of_ble_eq_true rfl | omega | (dsimp only; omega)) (by first | exact Nat.le_of_ble_eq_true rfl | omega | (dsimp only; omega)) h
def wp_X9_machineOf (this : Nat) (a0 : Int32) (σ : Sg) (Post : Rs → Sg → Prop) : Prop := this % 32 = 9 ∧ wp_X9_personAt this a0 σ (KO (fun x2 σ1 => ∃ u3, x2 = some u3 ∧ u3 % 32 = 7 ∧ Post (.inl (some (.int (sI σ1 u3 6)))) σ1) (fun E σ1 => Post (.inr E) σ1))
set_option maxRecDepth 100000 in
set_option maxHeartbeats 4000000 in
theorem ct_X9_machineOf {l : Launch} (hl : l.stackTraces = false) {this : Nat} {a0 : Int32} {σ : Sg} {Post : Rs → Sg → Prop} (h : wp_X9_machineOf this a0 σ Post) : Ct l yX9_machineOf (.code yX9_machineOf cX9_machineOf 2 (some .int)) 8 124 1 6 [.ref this, .int a0] σ Post := by
  refine Ct_of [some (.ref this), some (.int a0)] hl (by decide +kernel) rfl (fun ad => by rfl) (fun ad => by exact Nat.le_of_ble_eq_true rfl) (fun v hv => mem_lo hv rfl) ?_
  intro G hG
  unfold wp_X9_machineOf at h
  refine V_aload_n (v := .ref this) hG dX9_machineOf_0 rfl rfl ?_
  refine V_iload_n hG dX9_machineOf_1 rfl ?_
  obtain ⟨ht, h⟩ := h
  refine V_cVO _ _ hG dX9_machineOf_2 (ct_X9_personAt hl h) mv_X9_personAt ml_X9_126 ht rfl rfl rfl rfl (by first | exact Nat.le_of_ble_eq_true rfl | (simp only [List.map_cons, List.map_nil, List.sum_cons, List.sum_nil, cat_rf]; exact Nat.le_of_ble_eq_true rfl)) (Nat.le_of_ble_eq_true rfl) (Nat.le_of_ble_eq_true rfl) (by first | exact Nat.le_of_ble_eq_true rfl | omega | (dsimp only; omega)) (by first | exact Nat.le_of_ble_eq_true rfl | omega | (dsimp only; omega)) ?_ (fun x2 σ1 h9 => ?_)
  · exact fun E σ1 hx => VX_out hG (by first | exact Nat.le_of_ble_eq_true rfl | omega | (dsimp only; omega)) (by first | exact Nat.le_of_ble_eq_true rfl | omega | (dsimp only; omega)) hx
  · replace h := h9
    clear h9
    obtain ⟨u3, he, h⟩ := h
    subst he
    obtain ⟨ht, h⟩ := h
    refine V_getI hG dX9_machineOf_5 fl_X9_300 rfl ht ?_
    exact V_iret hG dX9_machineOf_8 (by first | exact Nat.le_of_ble_eq_true rfl | omega | (dsimp only; omega)) (by first | exact Nat.le_of_ble_eq_true rfl | omega | (dsimp only; omega)) h
def wp_X9_store (this : Nat) (a0 : Int32) (a1 : Int32) (σ : Sg) (Post : Rs → Sg → Prop) : Prop := this % 32 = 9 ∧ wp_X9_kindAt this a0 σ (KO (fun x2 σ1 => wp_X9_requireRange a1 (0 : Int32) (1 : Int32) σ1 (KV (fun σ3 => ((¬ a1 = 0 → ∃ u4, x2 = some u4 ∧ u4 % 32 = 2 ∧ Post (.inl (some (.int (sI σ3 u4 11)))) σ3) ∧ (a1 = 0 → ∃ u5, x2 = some u5 ∧ u5 % 32 = 2 ∧ Post (.inl (some (.int (sI σ3 u5 10)))) σ3))) (fun E σ3 => Post (.inr E) σ3))) (fun E σ1 => Post (.inr E) σ1))
set_option maxRecDepth 100000 in
set_option maxHeartbeats 4000000 in
theorem ct_X9_store {l : Launch} (hl : l.stackTraces = false) {this : Nat} {a0 : Int32} {a1 : Int32} {σ : Sg} {Post : Rs → Sg → Prop} (h : wp_X9_store this a0 a1 σ Post) : Ct l yX9_store (.code yX9_store cX9_store 4 (some .int)) 8 124 2 12 [.ref this, .int a0, .int a1] σ Post := by
  refine Ct_of [some (.ref this), some (.int a0), some (.int a1), none] hl (by decide +kernel) rfl (fun ad => by rfl) (fun ad => by exact Nat.le_of_ble_eq_true rfl) (fun v hv => mem_lo hv rfl) ?_
  intro G hG
  unfold wp_X9_store at h
  refine V_aload_n (v := .ref this) hG dX9_store_0 rfl rfl ?_
  refine V_iload_n hG dX9_store_1 rfl ?_
  obtain ⟨ht, h⟩ := h
  refine V_cVO _ _ hG dX9_store_2 (ct_X9_kindAt hl h) mv_X9_kindAt ml_X9_30 ht rfl rfl rfl rfl (by first | exact Nat.le_of_ble_eq_true rfl | (simp only [List.map_cons, List.map_nil, List.sum_cons, List.sum_nil, cat_rf]; exact Nat.le_of_ble_eq_true rfl)) (Nat.le_of_ble_eq_true rfl) (Nat.le_of_ble_eq_true rfl) (by first | exact Nat.le_of_ble_eq_true rfl | omega | (dsimp only; omega)) (by first | exact Nat.le_of_ble_eq_true rfl | omega | (dsimp only; omega)) ?_ (fun x2 σ1 h9 => ?_)
  · exact fun E σ1 hx => VX_out hG (by first | exact Nat.le_of_ble_eq_true rfl | omega | (dsimp only; omega)) (by first | exact Nat.le_of_ble_eq_true rfl | omega | (dsimp only; omega)) hx
  · replace h := h9
    clear h9
    refine V_astore_n hG dX9_store_5 (isRef_rf _) (Nat.le_of_ble_eq_true rfl) (hpV rfl rfl) ?_
    refine V_iload_n hG dX9_store_6 rfl ?_
    refine V_iconst (v := 0) hG (by decide) dX9_store_7 ?_
    refine V_iconst (v := 1) hG (by decide) dX9_store_8 ?_
    refine V_cSV _ _ hG dX9_store_9 (ct_X9_requireRange hl h) mv_X9_requireRange ml_X9_34 rfl rfl (by first | exact Nat.le_of_ble_eq_true rfl | (simp only [List.map_cons, List.map_nil, List.sum_cons, List.sum_nil, cat_rf]; exact Nat.le_of_ble_eq_true rfl)) (Nat.le_of_ble_eq_true rfl) (Nat.le_of_ble_eq_true rfl) (by first | exact Nat.le_of_ble_eq_true rfl | omega | (dsimp only; omega)) (by first | exact Nat.le_of_ble_eq_true rfl | omega | (dsimp only; omega)) ?_ (fun σ3 h9 => ?_)
    · exact fun E σ3 hx => VX_out hG (by first | exact Nat.le_of_ble_eq_true rfl | omega | (dsimp only; omega)) (by first | exact Nat.le_of_ble_eq_true rfl | omega | (dsimp only; omega)) hx
    · replace h := h9
      clear h9
      refine V_iload_n hG dX9_store_12 rfl ?_
      refine V_if_ne (tgt := 23) hG dX9_store_13 (by decide) (fun c => ?_) (fun c => ?_)
      · replace h := h.1 c
        refine V_aload_n (v := va_rf x2) hG dX9_store_23 (isRef_rf _) rfl ?_
        obtain ⟨u4, he, h⟩ := h
        subst he
        obtain ⟨ht, h⟩ := h
        refine V_getI hG dX9_store_24 fl_X9_271 rfl ht ?_
        exact V_iret hG dX9_store_27 (by first | exact Nat.le_of_ble_eq_true rfl | omega | (dsimp only; omega)) (by first | exact Nat.le_of_ble_eq_true rfl | omega | (dsimp only; omega)) h
      · replace h := h.2 c
        refine V_aload_n (v := va_rf x2) hG dX9_store_16 (isRef_rf _) rfl ?_
        obtain ⟨u5, he, h⟩ := h
        subst he
        obtain ⟨ht, h⟩ := h
        refine V_getI hG dX9_store_17 fl_X9_303 rfl ht ?_
        refine V_goto (tgt := 27) hG dX9_store_20 (by decide) ?_
        exact V_iret hG dX9_store_27 (by first | exact Nat.le_of_ble_eq_true rfl | omega | (dsimp only; omega)) (by first | exact Nat.le_of_ble_eq_true rfl | omega | (dsimp only; omega)) h
def wp_X9_queue (this : Nat) (a0 : Int32) (σ : Sg) (Post : Rs → Sg → Prop) : Prop := wp_X9_requireIndex a0 (4 : Int32) σ (KV (fun σ1 => this % 32 = 9 ∧ ∀ o2, o2 = sP σ1 this 2 → ∃ u3, o2 = some u3 ∧ u3 % 32 = 8 ∧ wp_X8_queueLength u3 a0 σ1 (KI (fun x5 σ4 => Post (.inl (some (.int x5))) σ4) (fun E σ4 => Post (.inr E) σ4))) (fun E σ1 => Post (.inr E) σ1))
set_option maxRecDepth 100000 in
set_option maxHeartbeats 4000000 in
theorem ct_X9_queue {l : Launch} (hl : l.stackTraces = false) {this : Nat} {a0 : Int32} {σ : Sg} {Post : Rs → Sg → Prop} (h : wp_X9_queue this a0 σ Post) : Ct l yX9_queue (.code yX9_queue cX9_queue 2 (some .int)) 7 103 1 6 [.ref this, .int a0] σ Post := by
  refine Ct_of [some (.ref this), some (.int a0)] hl (by decide +kernel) rfl (fun ad => by rfl) (fun ad => by exact Nat.le_of_ble_eq_true rfl) (fun v hv => mem_lo hv rfl) ?_
  intro G hG
  unfold wp_X9_queue at h
  refine V_iload_n hG dX9_queue_0 rfl ?_
  refine V_iconst (v := 4) hG (by decide) dX9_queue_1 ?_
  refine V_cSV _ _ hG dX9_queue_2 (ct_X9_requireIndex hl h) mv_X9_requireIndex ml_X9_81 rfl rfl (by first | exact Nat.le_of_ble_eq_true rfl | (simp only [List.map_cons, List.map_nil, List.sum_cons, List.sum_nil, cat_rf]; exact Nat.le_of_ble_eq_true rfl)) (Nat.le_of_ble_eq_true rfl) (Nat.le_of_ble_eq_true rfl) (by first | exact Nat.le_of_ble_eq_true rfl | omega | (dsimp only; omega)) (by first | exact Nat.le_of_ble_eq_true rfl | omega | (dsimp only; omega)) ?_ (fun σ1 h9 => ?_)
  · exact fun E σ1 hx => VX_out hG (by first | exact Nat.le_of_ble_eq_true rfl | omega | (dsimp only; omega)) (by first | exact Nat.le_of_ble_eq_true rfl | omega | (dsimp only; omega)) hx
  · replace h := h9
    clear h9
    refine V_aload_n (v := .ref this) hG dX9_queue_5 rfl rfl ?_
    obtain ⟨ht, h⟩ := h
    refine V_getPv hG dX9_queue_6 fl_X9_26 rfl ht (fun o2 ho => ?_)
    replace h := h o2 ho
    refine V_iload_n hG dX9_queue_9 rfl ?_
    obtain ⟨u3, he, h⟩ := h
    subst he
    obtain ⟨ht, h⟩ := h
    refine V_cVI _ _ hG dX9_queue_10 (ct_X8_queueLength hl h) mv_X8_queueLength ml_X9_306 ht rfl rfl rfl rfl (by first | exact Nat.le_of_ble_eq_true rfl | (simp only [List.map_cons, List.map_nil, List.sum_cons, List.sum_nil, cat_rf]; exact Nat.le_of_ble_eq_true rfl)) (Nat.le_of_ble_eq_true rfl) (Nat.le_of_ble_eq_true rfl) (by first | exact Nat.le_of_ble_eq_true rfl | omega | (dsimp only; omega)) (by first | exact Nat.le_of_ble_eq_true rfl | omega | (dsimp only; omega)) ?_ (fun x5 σ4 h9 => ?_)
    · exact fun E σ4 hx => VX_out hG (by first | exact Nat.le_of_ble_eq_true rfl | omega | (dsimp only; omega)) (by first | exact Nat.le_of_ble_eq_true rfl | omega | (dsimp only; omega)) hx
    · replace h := h9
      clear h9
      exact V_iret hG dX9_queue_13 (by first | exact Nat.le_of_ble_eq_true rfl | omega | (dsimp only; omega)) (by first | exact Nat.le_of_ble_eq_true rfl | omega | (dsimp only; omega)) h
def wp_X9_queued_14  (this : Nat) (v1 : Int32) (v2 : Int32) (s0 : Int32) (σ : Sg) (Post : Rs → Sg → Prop) : Prop := wp_X9_requireArgument s0 σ (KV (fun σ1 => this % 32 = 9 ∧ ∀ o2, o2 = sP σ1 this 2 → ∃ u3, o2 = some u3 ∧ u3 % 32 = 8 ∧ wp_X8_queuedAt u3 v1 v2 σ1 (KI (fun x5 σ4 => Post (.inl (some (.int x5))) σ4) (fun E σ4 => Post (.inr E) σ4))) (fun E σ1 => Post (.inr E) σ1))
set_option maxRecDepth 100000 in
set_option maxHeartbeats 4000000 in
theorem wv_X9_queued_14 {L9 : Launch} {G : Cx} {Post : Rs → Sg → Prop} (hl : L9.stackTraces = false) (hG : CX L9 G yX9_queued cX9_queued 3 (some .int) [] { frames := 7, cells := 2, slots := 12, locals := 103 })   : ∀ (this : Nat) (v1 : Int32) (v2 : Int32) (s0 : Int32) (σ : Sg), wp_X9_queued_14 this v1 v2 s0 σ Post → V G (QM G 2 12 Post) 14 [some (.ref this), some (.int v1), some (.int v2)] [.int s0] σ 1 6 := by
  intro this v1 v2 s0 σ h
  unfold wp_X9_queued_14 at h
  refine V_cSV _ _ hG dX9_queued_14 (ct_X9_requireArgument hl h) mv_X9_requireArgument ml_X9_65 rfl rfl (by first | exact Nat.le_of_ble_eq_true rfl | (simp only [List.map_cons, List.map_nil, List.sum_cons, List.sum_nil, cat_rf]; exact Nat.le_of_ble_eq_true rfl)) (Nat.le_of_ble_eq_true rfl) (Nat.le_of_ble_eq_true rfl) (by first | exact Nat.le_of_ble_eq_true rfl | omega | (dsimp only; omega)) (by first | exact Nat.le_of_ble_eq_true rfl | omega | (dsimp only; omega)) ?_ (fun σ1 h9 => ?_)
  · exact fun E σ1 hx => VX_out hG (by first | exact Nat.le_of_ble_eq_true rfl | omega | (dsimp only; omega)) (by first | exact Nat.le_of_ble_eq_true rfl | omega | (dsimp only; omega)) hx
  · replace h := h9
    clear h9
    refine V_aload_n (v := .ref this) hG dX9_queued_17 rfl rfl ?_
    obtain ⟨ht, h⟩ := h
    refine V_getPv hG dX9_queued_18 fl_X9_26 rfl ht (fun o2 ho => ?_)
    replace h := h o2 ho
    refine V_iload_n hG dX9_queued_21 rfl ?_
    refine V_iload_n hG dX9_queued_22 rfl ?_
    obtain ⟨u3, he, h⟩ := h
    subst he
    obtain ⟨ht, h⟩ := h
    refine V_cVI _ _ hG dX9_queued_23 (ct_X8_queuedAt hl h) mv_X8_queuedAt ml_X9_309 ht rfl rfl rfl rfl (by first | exact Nat.le_of_ble_eq_true rfl | (simp only [List.map_cons, List.map_nil, List.sum_cons, List.sum_nil, cat_rf]; exact Nat.le_of_ble_eq_true rfl)) (Nat.le_of_ble_eq_true rfl) (Nat.le_of_ble_eq_true rfl) (by first | exact Nat.le_of_ble_eq_true rfl | omega | (dsimp only; omega)) (by first | exact Nat.le_of_ble_eq_true rfl | omega | (dsimp only; omega)) ?_ (fun x5 σ4 h9 => ?_)
    · exact fun E σ4 hx => VX_out hG (by first | exact Nat.le_of_ble_eq_true rfl | omega | (dsimp only; omega)) (by first | exact Nat.le_of_ble_eq_true rfl | omega | (dsimp only; omega)) hx
    · replace h := h9
      clear h9
      exact V_iret hG dX9_queued_26 (by first | exact Nat.le_of_ble_eq_true rfl | omega | (dsimp only; omega)) (by first | exact Nat.le_of_ble_eq_true rfl | omega | (dsimp only; omega)) h
def wp_X9_queued (this : Nat) (a0 : Int32) (a1 : Int32) (σ : Sg) (Post : Rs → Sg → Prop) : Prop := wp_X9_requireIndex a0 (4 : Int32) σ (KV (fun σ1 => ((a1 < 0 → (wp_X9_queued_14 this a0 a1 (0 : Int32) σ1 Post)) ∧ (¬ a1 < 0 → (wp_X9_queued_14 this a0 a1 (1 : Int32) σ1 Post)))) (fun E σ1 => Post (.inr E) σ1))
set_option maxRecDepth 100000 in
set_option maxHeartbeats 4000000 in
theorem ct_X9_queued {l : Launch} (hl : l.stackTraces = false) {this : Nat} {a0 : Int32} {a1 : Int32} {σ : Sg} {Post : Rs → Sg → Prop} (h : wp_X9_queued this a0 a1 σ Post) : Ct l yX9_queued (.code yX9_queued cX9_queued 3 (some .int)) 7 103 2 12 [.ref this, .int a0, .int a1] σ Post := by
  refine Ct_of [some (.ref this), some (.int a0), some (.int a1)] hl (by decide +kernel) rfl (fun ad => by rfl) (fun ad => by exact Nat.le_of_ble_eq_true rfl) (fun v hv => mem_lo hv rfl) ?_
  intro G hG
  unfold wp_X9_queued at h
  refine V_iload_n hG dX9_queued_0 rfl ?_
  refine V_iconst (v := 4) hG (by decide) dX9_queued_1 ?_
  refine V_cSV _ _ hG dX9_queued_2 (ct_X9_requireIndex hl h) mv_X9_requireIndex ml_X9_81 rfl rfl (by first | exact Nat.le_of_ble_eq_true rfl | (simp only [List.map_cons, List.map_nil, List.sum_cons, List.sum_nil, cat_rf]; exact Nat.le_of_ble_eq_true rfl)) (Nat.le_of_ble_eq_true rfl) (Nat.le_of_ble_eq_true rfl) (by first | exact Nat.le_of_ble_eq_true rfl | omega | (dsimp only; omega)) (by first | exact Nat.le_of_ble_eq_true rfl | omega | (dsimp only; omega)) ?_ (fun σ1 h9 => ?_)
  · exact fun E σ1 hx => VX_out hG (by first | exact Nat.le_of_ble_eq_true rfl | omega | (dsimp only; omega)) (by first | exact Nat.le_of_ble_eq_true rfl | omega | (dsimp only; omega)) hx
  · replace h := h9
    clear h9
    refine V_iload_n hG dX9_queued_5 rfl ?_
    refine V_if_lt (tgt := 13) hG dX9_queued_6 (by decide) (fun c => ?_) (fun c => ?_)
    · replace h := h.1 c
      refine V_iconst (v := 0) hG (by decide) dX9_queued_13 ?_
      refine V_forget (lo' := [some (.ref this), some (.int a0), some (.int a1)]) ⟨rfl, ⟨rfl, ⟨rfl, trivial⟩⟩⟩ ?_
      refine V_widen (k' := 1) (n' := 6) (by first | exact Nat.le_of_ble_eq_true rfl | omega | (dsimp only; omega)) (by first | exact Nat.le_of_ble_eq_true rfl | omega | (dsimp only; omega)) ?_
      exact wv_X9_queued_14 hl hG  _ _ _ _ _ h
    · replace h := h.2 c
      refine V_iconst (v := 1) hG (by decide) dX9_queued_9 ?_
      refine V_goto (tgt := 14) hG dX9_queued_10 (by decide) ?_
      refine V_forget (lo' := [some (.ref this), some (.int a0), some (.int a1)]) ⟨rfl, ⟨rfl, ⟨rfl, trivial⟩⟩⟩ ?_
      refine V_widen (k' := 1) (n' := 6) (by first | exact Nat.le_of_ble_eq_true rfl | omega | (dsimp only; omega)) (by first | exact Nat.le_of_ble_eq_true rfl | omega | (dsimp only; omega)) ?_
      exact wv_X9_queued_14 hl hG  _ _ _ _ _ h
def wp_X9_told (this : Nat) (a0 : Int32) (a1 : Int32) (σ : Sg) (Post : Rs → Sg → Prop) : Prop := this % 32 = 9 ∧ wp_X9_orderAt this a0 σ (KO (fun x2 σ1 => wp_X9_requireRange a1 (0 : Int32) (5 : Int32) σ1 (KV (fun σ3 => this % 32 = 9 ∧ ∃ u4, x2 = some u4 ∧ u4 % 32 = 6 ∧ wp_X6_tell u4 a1 (sI σ3 this 3) σ3 (KI (fun x6 σ5 => Post (.inl (some (.int x6))) σ5) (fun E σ5 => Post (.inr E) σ5))) (fun E σ3 => Post (.inr E) σ3))) (fun E σ1 => Post (.inr E) σ1))
set_option maxRecDepth 100000 in
set_option maxHeartbeats 4000000 in
theorem ct_X9_told {l : Launch} (hl : l.stackTraces = false) {this : Nat} {a0 : Int32} {a1 : Int32} {σ : Sg} {Post : Rs → Sg → Prop} (h : wp_X9_told this a0 a1 σ Post) : Ct l yX9_told (.code yX9_told cX9_told 4 (some .int)) 8 124 2 12 [.ref this, .int a0, .int a1] σ Post := by
  refine Ct_of [some (.ref this), some (.int a0), some (.int a1), none] hl (by decide +kernel) rfl (fun ad => by rfl) (fun ad => by exact Nat.le_of_ble_eq_true rfl) (fun v hv => mem_lo hv rfl) ?_
  intro G hG
  unfold wp_X9_told at h
  refine V_aload_n (v := .ref this) hG dX9_told_0 rfl rfl ?_
  refine V_iload_n hG dX9_told_1 rfl ?_
  obtain ⟨ht, h⟩ := h
  refine V_cVO _ _ hG dX9_told_2 (ct_X9_orderAt hl h) mv_X9_orderAt ml_X9_251 ht rfl rfl rfl rfl (by first | exact Nat.le_of_ble_eq_true rfl | (simp only [List.map_cons, List.map_nil, List.sum_cons, List.sum_nil, cat_rf]; exact Nat.le_of_ble_eq_true rfl)) (Nat.le_of_ble_eq_true rfl) (Nat.le_of_ble_eq_true rfl) (by first | exact Nat.le_of_ble_eq_true rfl | omega | (dsimp only; omega)) (by first | exact Nat.le_of_ble_eq_true rfl | omega | (dsimp only; omega)) ?_ (fun x2 σ1 h9 => ?_)
  · exact fun E σ1 hx => VX_out hG (by first | exact Nat.le_of_ble_eq_true rfl | omega | (dsimp only; omega)) (by first | exact Nat.le_of_ble_eq_true rfl | omega | (dsimp only; omega)) hx
  · replace h := h9
    clear h9
    refine V_astore_n hG dX9_told_5 (isRef_rf _) (Nat.le_of_ble_eq_true rfl) (hpV rfl rfl) ?_
    refine V_iload_n hG dX9_told_6 rfl ?_
    refine V_iconst (v := 0) hG (by decide) dX9_told_7 ?_
    refine V_iconst (v := 5) hG (by decide) dX9_told_8 ?_
    refine V_cSV _ _ hG dX9_told_9 (ct_X9_requireRange hl h) mv_X9_requireRange ml_X9_34 rfl rfl (by first | exact Nat.le_of_ble_eq_true rfl | (simp only [List.map_cons, List.map_nil, List.sum_cons, List.sum_nil, cat_rf]; exact Nat.le_of_ble_eq_true rfl)) (Nat.le_of_ble_eq_true rfl) (Nat.le_of_ble_eq_true rfl) (by first | exact Nat.le_of_ble_eq_true rfl | omega | (dsimp only; omega)) (by first | exact Nat.le_of_ble_eq_true rfl | omega | (dsimp only; omega)) ?_ (fun σ3 h9 => ?_)
    · exact fun E σ3 hx => VX_out hG (by first | exact Nat.le_of_ble_eq_true rfl | omega | (dsimp only; omega)) (by first | exact Nat.le_of_ble_eq_true rfl | omega | (dsimp only; omega)) hx
    · replace h := h9
      clear h9
      refine V_aload_n (v := va_rf x2) hG dX9_told_12 (isRef_rf _) rfl ?_
      refine V_iload_n hG dX9_told_13 rfl ?_
      refine V_aload_n (v := .ref this) hG dX9_told_14 rfl rfl ?_
      obtain ⟨ht, h⟩ := h
      refine V_getI hG dX9_told_15 fl_X9_145 rfl ht ?_
      obtain ⟨u4, he, h⟩ := h
      subst he
      obtain ⟨ht, h⟩ := h
      refine V_cVI _ _ hG dX9_told_18 (ct_X6_tell hl h) mv_X6_tell ml_X9_312 ht rfl rfl rfl rfl (by first | exact Nat.le_of_ble_eq_true rfl | (simp only [List.map_cons, List.map_nil, List.sum_cons, List.sum_nil, cat_rf]; exact Nat.le_of_ble_eq_true rfl)) (Nat.le_of_ble_eq_true rfl) (Nat.le_of_ble_eq_true rfl) (by first | exact Nat.le_of_ble_eq_true rfl | omega | (dsimp only; omega)) (by first | exact Nat.le_of_ble_eq_true rfl | omega | (dsimp only; omega)) ?_ (fun x6 σ5 h9 => ?_)
      · exact fun E σ5 hx => VX_out hG (by first | exact Nat.le_of_ble_eq_true rfl | omega | (dsimp only; omega)) (by first | exact Nat.le_of_ble_eq_true rfl | omega | (dsimp only; omega)) hx
      · replace h := h9
        clear h9
        exact V_iret hG dX9_told_21 (by first | exact Nat.le_of_ble_eq_true rfl | omega | (dsimp only; omega)) (by first | exact Nat.le_of_ble_eq_true rfl | omega | (dsimp only; omega)) h
def wp_X9_why (this : Nat) (a0 : Int32) (a1 : Int32) (σ : Sg) (Post : Rs → Sg → Prop) : Prop := this % 32 = 9 ∧ wp_X9_batchAt this a0 σ (KO (fun x2 σ1 => this % 32 = 9 ∧ ∀ o3, o3 = sP σ1 this 1 → this % 32 = 9 ∧ wp_X9_machineAt this a1 σ1 (KO (fun x5 σ4 => this % 32 = 9 ∧ ∃ u6, o3 = some u6 ∧ u6 % 32 = 1 ∧ wp_X1_reasonAgainst u6 x2 x5 (sI σ4 this 3) σ4 (KI (fun x8 σ7 => Post (.inl (some (.int x8))) σ7) (fun E σ7 => Post (.inr E) σ7))) (fun E σ4 => Post (.inr E) σ4))) (fun E σ1 => Post (.inr E) σ1))
set_option maxRecDepth 100000 in
set_option maxHeartbeats 4000000 in
theorem ct_X9_why {l : Launch} (hl : l.stackTraces = false) {this : Nat} {a0 : Int32} {a1 : Int32} {σ : Sg} {Post : Rs → Sg → Prop} (h : wp_X9_why this a0 a1 σ Post) : Ct l yX9_why (.code yX9_why cX9_why 4 (some .int)) 8 124 2 12 [.ref this, .int a0, .int a1] σ Post := by
  refine Ct_of [some (.ref this), some (.int a0), some (.int a1), none] hl (by decide +kernel) rfl (fun ad => by rfl) (fun ad => by exact Nat.le_of_ble_eq_true rfl) (fun v hv => mem_lo hv rfl) ?_
  intro G hG
  unfold wp_X9_why at h
  refine V_aload_n (v := .ref this) hG dX9_why_0 rfl rfl ?_
  refine V_iload_n hG dX9_why_1 rfl ?_
  obtain ⟨ht, h⟩ := h
  refine V_cVO _ _ hG dX9_why_2 (ct_X9_batchAt hl h) mv_X9_batchAt ml_X9_157 ht rfl rfl rfl rfl (by first | exact Nat.le_of_ble_eq_true rfl | (simp only [List.map_cons, List.map_nil, List.sum_cons, List.sum_nil, cat_rf]; exact Nat.le_of_ble_eq_true rfl)) (Nat.le_of_ble_eq_true rfl) (Nat.le_of_ble_eq_true rfl) (by first | exact Nat.le_of_ble_eq_true rfl | omega | (dsimp only; omega)) (by first | exact Nat.le_of_ble_eq_true rfl | omega | (dsimp only; omega)) ?_ (fun x2 σ1 h9 => ?_)
  · exact fun E σ1 hx => VX_out hG (by first | exact Nat.le_of_ble_eq_true rfl | omega | (dsimp only; omega)) (by first | exact Nat.le_of_ble_eq_true rfl | omega | (dsimp only; omega)) hx
  · replace h := h9
    clear h9
    refine V_astore_n hG dX9_why_5 (isRef_rf _) (Nat.le_of_ble_eq_true rfl) (hpV rfl rfl) ?_
    refine V_aload_n (v := .ref this) hG dX9_why_6 rfl rfl ?_
    obtain ⟨ht, h⟩ := h
    refine V_getPv hG dX9_why_7 fl_X9_18 rfl ht (fun o3 ho => ?_)
    replace h := h o3 ho
    refine V_aload_n (v := va_rf x2) hG dX9_why_10 (isRef_rf _) rfl ?_
    refine V_aload_n (v := .ref this) hG dX9_why_11 rfl rfl ?_
    refine V_iload_n hG dX9_why_12 rfl ?_
    obtain ⟨ht, h⟩ := h
    refine V_cVO _ _ hG dX9_why_13 (ct_X9_machineAt hl h) mv_X9_machineAt ml_X9_295 ht rfl rfl rfl rfl (by first | exact Nat.le_of_ble_eq_true rfl | (simp only [List.map_cons, List.map_nil, List.sum_cons, List.sum_nil, cat_rf]; exact Nat.le_of_ble_eq_true rfl)) (Nat.le_of_ble_eq_true rfl) (Nat.le_of_ble_eq_true rfl) (by first | exact Nat.le_of_ble_eq_true rfl | omega | (dsimp only; omega)) (by first | exact Nat.le_of_ble_eq_true rfl | omega | (dsimp only; omega)) ?_ (fun x5 σ4 h9 => ?_)
    · exact fun E σ4 hx => VX_out hG (by first | exact Nat.le_of_ble_eq_true rfl | omega | (dsimp only; omega)) (by first | exact Nat.le_of_ble_eq_true rfl | omega | (dsimp only; omega)) hx
    · replace h := h9
      clear h9
      refine V_aload_n (v := .ref this) hG dX9_why_16 rfl rfl ?_
      obtain ⟨ht, h⟩ := h
      refine V_getI hG dX9_why_17 fl_X9_145 rfl ht ?_
      obtain ⟨u6, he, h⟩ := h
      subst he
      obtain ⟨ht, h⟩ := h
      refine V_cVI _ _ hG dX9_why_20 (ct_X1_reasonAgainst hl h) mv_X1_reasonAgainst ml_X9_314 ht rfl rfl rfl rfl (by first | exact Nat.le_of_ble_eq_true rfl | (simp only [List.map_cons, List.map_nil, List.sum_cons, List.sum_nil, cat_rf]; exact Nat.le_of_ble_eq_true rfl)) (Nat.le_of_ble_eq_true rfl) (Nat.le_of_ble_eq_true rfl) (by first | exact Nat.le_of_ble_eq_true rfl | omega | (dsimp only; omega)) (by first | exact Nat.le_of_ble_eq_true rfl | omega | (dsimp only; omega)) ?_ (fun x8 σ7 h9 => ?_)
      · exact fun E σ7 hx => VX_out hG (by first | exact Nat.le_of_ble_eq_true rfl | omega | (dsimp only; omega)) (by first | exact Nat.le_of_ble_eq_true rfl | omega | (dsimp only; omega)) hx
      · replace h := h9
        clear h9
        exact V_iret hG dX9_why_23 (by first | exact Nat.le_of_ble_eq_true rfl | omega | (dsimp only; omega)) (by first | exact Nat.le_of_ble_eq_true rfl | omega | (dsimp only; omega)) h
def wp_X9_leadOf_47  (v1 : Nat) (s0 : Int32) (σ : Sg) (Post : Rs → Sg → Prop) : Prop := wp_X9_requireState s0 σ (KV (fun σ1 => v1 % 32 = 2 ∧ Post (.inl (some (.int (sI σ1 v1 13)))) σ1) (fun E σ1 => Post (.inr E) σ1))
set_option maxRecDepth 100000 in
set_option maxHeartbeats 4000000 in
theorem wv_X9_leadOf_47 {L9 : Launch} {G : Cx} {Post : Rs → Sg → Prop} (hl : L9.stackTraces = false) (hG : CX L9 G yX9_leadOf cX9_leadOf 3 (some .int) [] { frames := 7, cells := 1, slots := 6, locals := 102 })   : ∀ (v1 : Nat) (s0 : Int32) (σ : Sg), wp_X9_leadOf_47 v1 s0 σ Post → V G (QM G 1 6 Post) 47 [none, some (.ref v1), none] [.int s0] σ 0 0 := by
  intro v1 s0 σ h
  unfold wp_X9_leadOf_47 at h
  refine V_cSV _ _ hG dX9_leadOf_47 (ct_X9_requireState hl h) mv_X9_requireState ml_X9_49 rfl rfl (by first | exact Nat.le_of_ble_eq_true rfl | (simp only [List.map_cons, List.map_nil, List.sum_cons, List.sum_nil, cat_rf]; exact Nat.le_of_ble_eq_true rfl)) (Nat.le_of_ble_eq_true rfl) (Nat.le_of_ble_eq_true rfl) (by first | exact Nat.le_of_ble_eq_true rfl | omega | (dsimp only; omega)) (by first | exact Nat.le_of_ble_eq_true rfl | omega | (dsimp only; omega)) ?_ (fun σ1 h9 => ?_)
  · exact fun E σ1 hx => VX_out hG (by first | exact Nat.le_of_ble_eq_true rfl | omega | (dsimp only; omega)) (by first | exact Nat.le_of_ble_eq_true rfl | omega | (dsimp only; omega)) hx
  · replace h := h9
    clear h9
    refine V_aload_n (v := .ref v1) hG dX9_leadOf_50 rfl rfl ?_
    obtain ⟨ht, h⟩ := h
    refine V_getI hG dX9_leadOf_51 fl_X9_364 rfl ht ?_
    exact V_iret hG dX9_leadOf_54 (by first | exact Nat.le_of_ble_eq_true rfl | omega | (dsimp only; omega)) (by first | exact Nat.le_of_ble_eq_true rfl | omega | (dsimp only; omega)) h
def wp_X9_leadOf_34  (v1 : Nat) (σ : Sg) (Post : Rs → Sg → Prop) : Prop := v1 % 32 = 2 ∧ (((sI σ v1 13) = (-1 : Int32) → (wp_X9_leadOf_47 v1 (0 : Int32) σ Post)) ∧ (¬ (sI σ v1 13) = (-1 : Int32) → (wp_X9_leadOf_47 v1 (1 : Int32) σ Post)))
set_option maxRecDepth 100000 in
set_option maxHeartbeats 4000000 in
theorem wv_X9_leadOf_34 {L9 : Launch} {G : Cx} {Post : Rs → Sg → Prop} (hl : L9.stackTraces = false) (hG : CX L9 G yX9_leadOf cX9_leadOf 3 (some .int) [] { frames := 7, cells := 1, slots := 6, locals := 102 })   : ∀ (v1 : Nat) (σ : Sg), wp_X9_leadOf_34 v1 σ Post → V G (QM G 1 6 Post) 34 [none, some (.ref v1), none] [] σ 0 0 := by
  intro v1 σ h
  unfold wp_X9_leadOf_34 at h
  refine V_aload_n (v := .ref v1) hG dX9_leadOf_34 rfl rfl ?_
  obtain ⟨ht, h⟩ := h
  refine V_getI hG dX9_leadOf_35 fl_X9_364 rfl ht ?_
  refine V_iconst (v := (-1)) hG (by decide) dX9_leadOf_38 ?_
  refine V_icmp_eq (tgt := 46) hG dX9_leadOf_39 (by decide) (fun c => ?_) (fun c => ?_)
  · replace h := h.1 c
    refine V_iconst (v := 0) hG (by decide) dX9_leadOf_46 ?_
    refine V_forget (lo' := [none, some (.ref v1), none]) ⟨rfl, trivial⟩ ?_
    refine V_widen (k' := 0) (n' := 0) (by first | exact Nat.le_of_ble_eq_true rfl | omega | (dsimp only; omega)) (by first | exact Nat.le_of_ble_eq_true rfl | omega | (dsimp only; omega)) ?_
    exact wv_X9_leadOf_47 hl hG  _ _ _ h
  · replace h := h.2 c
    refine V_iconst (v := 1) hG (by decide) dX9_leadOf_42 ?_
    refine V_goto (tgt := 47) hG dX9_leadOf_43 (by decide) ?_
    refine V_forget (lo' := [none, some (.ref v1), none]) ⟨rfl, trivial⟩ ?_
    refine V_widen (k' := 0) (n' := 0) (by first | exact Nat.le_of_ble_eq_true rfl | omega | (dsimp only; omega)) (by first | exact Nat.le_of_ble_eq_true rfl | omega | (dsimp only; omega)) ?_
    exact wv_X9_leadOf_47 hl hG  _ _ _ h
def wp_X9_leadOf_2  : Nat → Nat → Option Nat → Int32 → Sg → (Rs → Sg → Prop) → Prop
  | 0, _, _, _, _, _ => False
  | f + 1, this, v1, v2, σ, Post => ∃ u1, v1 = some u1 ∧ u1 % 32 = 2 ∧ (((sI σ u1 0) < v2 → (wp_X9_leadOf_34 u1 σ Post)) ∧ (¬ (sI σ u1 0) < v2 → this % 32 = 9 ∧ ∀ o2, o2 = sP σ this 0 → ∃ u3, o2 = some u3 ∧ isArr u3 ∧ (((nI (aln u3)) ≤ v2 → (wp_X9_leadOf_34 u1 σ Post)) ∧ (¬ (nI (aln u3)) ≤ v2 → this % 32 = 9 ∧ ∀ o4, o4 = sP σ this 0 → ∃ u5, o4 = some u5 ∧ isRow u5 ∧ ∃ j6, v2 = nI j6 ∧ j6 < aln u5 ∧ ∀ o7, o7 = sP σ u5 j6 → ∃ u8, o7 = some u8 ∧ u8 % 32 = 2 ∧ wp_X2_measureLead u8 σ (KV (fun σ9 => (wp_X9_leadOf_2 f this (some u1) (v2 + 1) σ9 Post)) (fun E σ9 => Post (.inr E) σ9))))))
set_option maxRecDepth 100000 in
set_option maxHeartbeats 4000000 in
theorem wv_X9_leadOf_2 {L9 : Launch} {G : Cx} {Post : Rs → Sg → Prop} (hl : L9.stackTraces = false) (hG : CX L9 G yX9_leadOf cX9_leadOf 3 (some .int) [] { frames := 7, cells := 1, slots := 6, locals := 102 })   : ∀ (f : Nat) (this : Nat) (v1 : Option Nat) (v2 : Int32) (σ : Sg), wp_X9_leadOf_2 f this v1 v2 σ Post → V G (QM G 1 6 Post) 2 [some (.ref this), some (va_rf v1), some (.int v2)] [] σ 0 0 := by
  intro f
  induction f with
  | zero => intro _ _ _ σ h; exact h.elim
  | succ f ih =>
    intro this v1 v2 σ h
    refine V_iload_n hG dX9_leadOf_2 rfl ?_
    refine V_aload_n (v := va_rf v1) hG dX9_leadOf_3 (isRef_rf _) rfl ?_
    obtain ⟨u1, he, h⟩ := h
    subst he
    obtain ⟨ht, h⟩ := h
    refine V_getI hG dX9_leadOf_4 fl_X9_360 rfl ht ?_
    refine V_icmp_gt (tgt := 34) hG dX9_leadOf_7 (by decide) (fun c => ?_) (fun c => ?_)
    · replace h := h.1 c
      refine V_forget (lo' := [none, some (.ref u1), none]) ⟨rfl, trivial⟩ ?_
      refine V_widen (k' := 0) (n' := 0) (by first | exact Nat.le_of_ble_eq_true rfl | omega | (dsimp only; omega)) (by first | exact Nat.le_of_ble_eq_true rfl | omega | (dsimp only; omega)) ?_
      exact wv_X9_leadOf_34 hl hG  _ _ h
    · replace h := h.2 c
      refine V_iload_n hG dX9_leadOf_10 rfl ?_
      refine V_aload_n (v := .ref this) hG dX9_leadOf_11 rfl rfl ?_
      obtain ⟨ht, h⟩ := h
      refine V_getPv hG dX9_leadOf_12 fl_X9_11 rfl ht (fun o2 ho => ?_)
      replace h := h o2 ho
      obtain ⟨u3, he, h⟩ := h
      subst he
      obtain ⟨ha, h⟩ := h
      refine V_alenv hG dX9_leadOf_15 ha ?_
      refine V_icmp_ge (tgt := 34) hG dX9_leadOf_16 (by decide) (fun c => ?_) (fun c => ?_)
      · replace h := h.1 c
        refine V_forget (lo' := [none, some (.ref u1), none]) ⟨rfl, trivial⟩ ?_
        refine V_widen (k' := 0) (n' := 0) (by first | exact Nat.le_of_ble_eq_true rfl | omega | (dsimp only; omega)) (by first | exact Nat.le_of_ble_eq_true rfl | omega | (dsimp only; omega)) ?_
        exact wv_X9_leadOf_34 hl hG  _ _ h
      · replace h := h.2 c
        refine V_aload_n (v := .ref this) hG dX9_leadOf_19 rfl rfl ?_
        obtain ⟨ht, h⟩ := h
        refine V_getPv hG dX9_leadOf_20 fl_X9_11 rfl ht (fun o4 ho => ?_)
        replace h := h o4 ho
        refine V_iload_n hG dX9_leadOf_23 rfl ?_
        obtain ⟨u5, he, h⟩ := h
        subst he
        obtain ⟨ha, j6, hi, hj, h⟩ := h
        refine V_aaldv hG dX9_leadOf_24 ha hi hj (fun o7 ho => ?_)
        replace h := h o7 ho
        obtain ⟨u8, he, h⟩ := h
        subst he
        obtain ⟨ht, h⟩ := h
        refine V_cVV _ _ hG dX9_leadOf_25 (ct_X2_measureLead hl h) mv_X2_measureLead ml_X9_361 ht rfl rfl rfl rfl (by first | exact Nat.le_of_ble_eq_true rfl | (simp only [List.map_cons, List.map_nil, List.sum_cons, List.sum_nil, cat_rf]; exact Nat.le_of_ble_eq_true rfl)) (Nat.le_of_ble_eq_true rfl) (Nat.le_of_ble_eq_true rfl) (by first | exact Nat.le_of_ble_eq_true rfl | omega | (dsimp only; omega)) (by first | exact Nat.le_of_ble_eq_true rfl | omega | (dsimp only; omega)) ?_ (fun σ9 h9 => ?_)
        · exact fun E σ9 hx => VX_out hG (by first | exact Nat.le_of_ble_eq_true rfl | omega | (dsimp only; omega)) (by first | exact Nat.le_of_ble_eq_true rfl | omega | (dsimp only; omega)) hx
        · replace h := h9
          clear h9
          refine V_iincv (c := 1) hG dX9_leadOf_28 rfl (by decide) (hpV rfl rfl) ?_
          refine V_goto (tgt := 2) hG dX9_leadOf_31 (by decide) ?_
          refine V_forget (lo' := [some (.ref this), some (va_rf (some u1)), some (.int (v2 + 1))]) ⟨rfl, ⟨rfl, ⟨rfl, trivial⟩⟩⟩ ?_
          exact ih _ _ _ _ h
def wp_X9_leadOf (this : Nat) (a0 : Option Nat) (σ : Sg) (Post : Rs → Sg → Prop) : Prop := (∃ g, wp_X9_leadOf_2 g this a0 (0 : Int32) σ Post)
set_option maxRecDepth 100000 in
set_option maxHeartbeats 4000000 in
theorem ct_X9_leadOf {l : Launch} (hl : l.stackTraces = false) {this : Nat} {a0 : Option Nat} {σ : Sg} {Post : Rs → Sg → Prop} (h : wp_X9_leadOf this a0 σ Post) : Ct l yX9_leadOf (.code yX9_leadOf cX9_leadOf 3 (some .int)) 7 102 1 6 [.ref this, va_rf a0] σ Post := by
  refine Ct_of [some (.ref this), some (va_rf a0), none] hl (by decide +kernel) rfl (fun ad => by cases a0 <;> rfl) (fun ad => by cases a0 <;> exact Nat.le_of_ble_eq_true rfl) (fun v hv => mem_lo hv rfl) ?_
  intro G hG
  unfold wp_X9_leadOf at h
  refine V_iconst (v := 0) hG (by decide) dX9_leadOf_0 ?_
  refine V_istore_n hG dX9_leadOf_1 (Nat.le_of_ble_eq_true rfl) (hpV rfl (cat_rf _)) ?_
  refine V_forget (lo' := [some (.ref this), some (va_rf a0), some (.int (0 : Int32))]) ⟨rfl, ⟨rfl, ⟨rfl, trivial⟩⟩⟩ ?_
  obtain ⟨g, h⟩ := h
  refine V_widen (k' := 0) (n' := 0) (by first | exact Nat.le_of_ble_eq_true rfl | omega | (dsimp only; omega)) (by first | exact Nat.le_of_ble_eq_true rfl | omega | (dsimp only; omega)) ?_
  exact wv_X9_leadOf_2 hl hG  g _ _ _ _ h
def wp_X9_latest (this : Nat) (a0 : Int32) (a1 : Int32) (σ : Sg) (Post : Rs → Sg → Prop) : Prop := this % 32 = 9 ∧ wp_X9_kindAt this a0 σ (KO (fun x2 σ1 => wp_X9_requireRange a1 (0 : Int32) (999 : Int32) σ1 (KV (fun σ3 => this % 32 = 9 ∧ wp_X9_leadOf this x2 σ3 (KI (fun x5 σ4 => Post (.inl (some (.int (a1 - x5)))) σ4) (fun E σ4 => Post (.inr E) σ4))) (fun E σ3 => Post (.inr E) σ3))) (fun E σ1 => Post (.inr E) σ1))
set_option maxRecDepth 100000 in
set_option maxHeartbeats 4000000 in
theorem ct_X9_latest {l : Launch} (hl : l.stackTraces = false) {this : Nat} {a0 : Int32} {a1 : Int32} {σ : Sg} {Post : Rs → Sg → Prop} (h : wp_X9_latest this a0 a1 σ Post) : Ct l yX9_latest (.code yX9_latest cX9_latest 4 (some .int)) 8 124 3 18 [.ref this, .int a0, .int a1] σ Post := by
  refine Ct_of [some (.ref this), some (.int a0), some (.int a1), none] hl (by decide +kernel) rfl (fun ad => by rfl) (fun ad => by exact Nat.le_of_ble_eq_true rfl) (fun v hv => mem_lo hv rfl) ?_
  intro G hG
  unfold wp_X9_latest at h
  refine V_aload_n (v := .ref this) hG dX9_latest_0 rfl rfl ?_
  refine V_iload_n hG dX9_latest_1 rfl ?_
  obtain ⟨ht, h⟩ := h
  refine V_cVO _ _ hG dX9_latest_2 (ct_X9_kindAt hl h) mv_X9_kindAt ml_X9_30 ht rfl rfl rfl rfl (by first | exact Nat.le_of_ble_eq_true rfl | (simp only [List.map_cons, List.map_nil, List.sum_cons, List.sum_nil, cat_rf]; exact Nat.le_of_ble_eq_true rfl)) (Nat.le_of_ble_eq_true rfl) (Nat.le_of_ble_eq_true rfl) (by first | exact Nat.le_of_ble_eq_true rfl | omega | (dsimp only; omega)) (by first | exact Nat.le_of_ble_eq_true rfl | omega | (dsimp only; omega)) ?_ (fun x2 σ1 h9 => ?_)
  · exact fun E σ1 hx => VX_out hG (by first | exact Nat.le_of_ble_eq_true rfl | omega | (dsimp only; omega)) (by first | exact Nat.le_of_ble_eq_true rfl | omega | (dsimp only; omega)) hx
  · replace h := h9
    clear h9
    refine V_astore_n hG dX9_latest_5 (isRef_rf _) (Nat.le_of_ble_eq_true rfl) (hpV rfl rfl) ?_
    refine V_iload_n hG dX9_latest_6 rfl ?_
    refine V_iconst (v := 0) hG (by decide) dX9_latest_7 ?_
    refine V_sipush (v := 999) hG (by decide) dX9_latest_8 ?_
    refine V_cSV _ _ hG dX9_latest_11 (ct_X9_requireRange hl h) mv_X9_requireRange ml_X9_34 rfl rfl (by first | exact Nat.le_of_ble_eq_true rfl | (simp only [List.map_cons, List.map_nil, List.sum_cons, List.sum_nil, cat_rf]; exact Nat.le_of_ble_eq_true rfl)) (Nat.le_of_ble_eq_true rfl) (Nat.le_of_ble_eq_true rfl) (by first | exact Nat.le_of_ble_eq_true rfl | omega | (dsimp only; omega)) (by first | exact Nat.le_of_ble_eq_true rfl | omega | (dsimp only; omega)) ?_ (fun σ3 h9 => ?_)
    · exact fun E σ3 hx => VX_out hG (by first | exact Nat.le_of_ble_eq_true rfl | omega | (dsimp only; omega)) (by first | exact Nat.le_of_ble_eq_true rfl | omega | (dsimp only; omega)) hx
    · replace h := h9
      clear h9
      refine V_iload_n hG dX9_latest_14 rfl ?_
      refine V_aload_n (v := .ref this) hG dX9_latest_15 rfl rfl ?_
      refine V_aload_n (v := va_rf x2) hG dX9_latest_16 (isRef_rf _) rfl ?_
      obtain ⟨ht, h⟩ := h
      refine V_cVI _ _ hG dX9_latest_17 (ct_X9_leadOf hl h) mv_X9_leadOf ml_X9_318 ht rfl rfl rfl rfl (by first | exact Nat.le_of_ble_eq_true rfl | (simp only [List.map_cons, List.map_nil, List.sum_cons, List.sum_nil, cat_rf]; exact Nat.le_of_ble_eq_true rfl)) (Nat.le_of_ble_eq_true rfl) (Nat.le_of_ble_eq_true rfl) (by first | exact Nat.le_of_ble_eq_true rfl | omega | (dsimp only; omega)) (by first | exact Nat.le_of_ble_eq_true rfl | omega | (dsimp only; omega)) ?_ (fun x5 σ4 h9 => ?_)
      · exact fun E σ4 hx => VX_out hG (by first | exact Nat.le_of_ble_eq_true rfl | omega | (dsimp only; omega)) (by first | exact Nat.le_of_ble_eq_true rfl | omega | (dsimp only; omega)) hx
      · replace h := h9
        clear h9
        refine V_isub hG dX9_latest_20 ?_
        exact V_iret hG dX9_latest_21 (by first | exact Nat.le_of_ble_eq_true rfl | omega | (dsimp only; omega)) (by first | exact Nat.le_of_ble_eq_true rfl | omega | (dsimp only; omega)) h
def wp_X9_earliest (this : Nat) (a0 : Int32) (σ : Sg) (Post : Rs → Sg → Prop) : Prop := this % 32 = 9 ∧ this % 32 = 9 ∧ wp_X9_kindAt this a0 σ (KO (fun x2 σ1 => this % 32 = 9 ∧ wp_X9_leadOf this x2 σ1 (KI (fun x4 σ3 => Post (.inl (some (.int ((sI σ this 3) + x4)))) σ3) (fun E σ3 => Post (.inr E) σ3))) (fun E σ1 => Post (.inr E) σ1))
set_option maxRecDepth 100000 in
set_option maxHeartbeats 4000000 in
theorem ct_X9_earliest {l : Launch} (hl : l.stackTraces = false) {this : Nat} {a0 : Int32} {σ : Sg} {Post : Rs → Sg → Prop} (h : wp_X9_earliest this a0 σ Post) : Ct l yX9_earliest (.code yX9_earliest cX9_earliest 2 (some .int)) 8 124 2 12 [.ref this, .int a0] σ Post := by
  refine Ct_of [some (.ref this), some (.int a0)] hl (by decide +kernel) rfl (fun ad => by rfl) (fun ad => by exact Nat.le_of_ble_eq_true rfl) (fun v hv => mem_lo hv rfl) ?_
  intro G hG
  unfold wp_X9_earliest at h
  refine V_aload_n (v := .ref this) hG dX9_earliest_0 rfl rfl ?_
  obtain ⟨ht, h⟩ := h
  refine V_getI hG dX9_earliest_1 fl_X9_145 rfl ht ?_
  refine V_aload_n (v := .ref this) hG dX9_earliest_4 rfl rfl ?_
  refine V_aload_n (v := .ref this) hG dX9_earliest_5 rfl rfl ?_
  refine V_iload_n hG dX9_earliest_6 rfl ?_
  obtain ⟨ht, h⟩ := h
  refine V_cVO _ _ hG dX9_earliest_7 (ct_X9_kindAt hl h) mv_X9_kindAt ml_X9_30 ht rfl rfl rfl rfl (by first | exact Nat.le_of_ble_eq_true rfl | (simp only [List.map_cons, List.map_nil, List.sum_cons, List.sum_nil, cat_rf]; exact Nat.le_of_ble_eq_true rfl)) (Nat.le_of_ble_eq_true rfl) (Nat.le_of_ble_eq_true rfl) (by first | exact Nat.le_of_ble_eq_true rfl | omega | (dsimp only; omega)) (by first | exact Nat.le_of_ble_eq_true rfl | omega | (dsimp only; omega)) ?_ (fun x2 σ1 h9 => ?_)
  · exact fun E σ1 hx => VX_out hG (by first | exact Nat.le_of_ble_eq_true rfl | omega | (dsimp only; omega)) (by first | exact Nat.le_of_ble_eq_true rfl | omega | (dsimp only; omega)) hx
  · replace h := h9
    clear h9
    obtain ⟨ht, h⟩ := h
    refine V_cVI _ _ hG dX9_earliest_10 (ct_X9_leadOf hl h) mv_X9_leadOf ml_X9_318 ht rfl rfl rfl rfl (by first | exact Nat.le_of_ble_eq_true rfl | (simp only [List.map_cons, List.map_nil, List.sum_cons, List.sum_nil, cat_rf]; exact Nat.le_of_ble_eq_true rfl)) (Nat.le_of_ble_eq_true rfl) (Nat.le_of_ble_eq_true rfl) (by first | exact Nat.le_of_ble_eq_true rfl | omega | (dsimp only; omega)) (by first | exact Nat.le_of_ble_eq_true rfl | omega | (dsimp only; omega)) ?_ (fun x4 σ3 h9 => ?_)
    · exact fun E σ3 hx => VX_out hG (by first | exact Nat.le_of_ble_eq_true rfl | omega | (dsimp only; omega)) (by first | exact Nat.le_of_ble_eq_true rfl | omega | (dsimp only; omega)) hx
    · replace h := h9
      clear h9
      refine V_iadd hG dX9_earliest_13 ?_
      exact V_iret hG dX9_earliest_14 (by first | exact Nat.le_of_ble_eq_true rfl | omega | (dsimp only; omega)) (by first | exact Nat.le_of_ble_eq_true rfl | omega | (dsimp only; omega)) h
def wp_X9_ledger (this : Nat) (a0 : Int32) (σ : Sg) (Post : Rs → Sg → Prop) : Prop := wp_X9_requireRange a0 (0 : Int32) (5 : Int32) σ (KV (fun σ1 => (((a0).toInt < 0 ∨ 4 < (a0).toInt → this % 32 = 9 ∧ ∀ o2, o2 = sP σ1 this 1 → ∃ u3, o2 = some u3 ∧ u3 % 32 = 1 ∧ Post (.inl (some (.int (sI σ1 u3 6)))) σ1) ∧ (a0 = nI 0 → this % 32 = 9 ∧ Post (.inl (some (.int (sI σ1 this 5)))) σ1) ∧ (a0 = nI 1 → this % 32 = 9 ∧ ∀ o4, o4 = sP σ1 this 1 → ∃ u5, o4 = some u5 ∧ u5 % 32 = 1 ∧ Post (.inl (some (.int (sI σ1 u5 5)))) σ1) ∧ (a0 = nI 2 → this % 32 = 9 ∧ ∀ o6, o6 = sP σ1 this 2 → ∃ u7, o6 = some u7 ∧ u7 % 32 = 8 ∧ wp_X8_costOf u7 (0 : Int32) σ1 (KI (fun x9 σ8 => this % 32 = 9 ∧ ∀ o10, o10 = sP σ8 this 2 → ∃ u11, o10 = some u11 ∧ u11 % 32 = 8 ∧ wp_X8_costOf u11 (1 : Int32) σ8 (KI (fun x13 σ12 => this % 32 = 9 ∧ ∀ o14, o14 = sP σ12 this 2 → ∃ u15, o14 = some u15 ∧ u15 % 32 = 8 ∧ wp_X8_costOf u15 (2 : Int32) σ12 (KI (fun x17 σ16 => this % 32 = 9 ∧ ∀ o18, o18 = sP σ16 this 2 → ∃ u19, o18 = some u19 ∧ u19 % 32 = 8 ∧ wp_X8_costOf u19 (3 : Int32) σ16 (KI (fun x21 σ20 => Post (.inl (some (.int (((x9 + x13) + x17) + x21)))) σ20) (fun E σ20 => Post (.inr E) σ20))) (fun E σ16 => Post (.inr E) σ16))) (fun E σ12 => Post (.inr E) σ12))) (fun E σ8 => Post (.inr E) σ8))) ∧ (a0 = nI 3 → this % 32 = 9 ∧ ∀ o22, o22 = sP σ1 this 2 → ∃ u23, o22 = some u23 ∧ u23 % 32 = 8 ∧ wp_X8_costOf u23 (5 : Int32) σ1 (KI (fun x25 σ24 => Post (.inl (some (.int x25))) σ24) (fun E σ24 => Post (.inr E) σ24))) ∧ (a0 = nI 4 → this % 32 = 9 ∧ ∀ o26, o26 = sP σ1 this 2 → ∃ u27, o26 = some u27 ∧ u27 % 32 = 8 ∧ wp_X8_costOf u27 (6 : Int32) σ1 (KI (fun x29 σ28 => Post (.inl (some (.int x29))) σ28) (fun E σ28 => Post (.inr E) σ28))))) (fun E σ1 => Post (.inr E) σ1))
set_option maxRecDepth 100000 in
set_option maxHeartbeats 4000000 in
theorem ct_X9_ledger {l : Launch} (hl : l.stackTraces = false) {this : Nat} {a0 : Int32} {σ : Sg} {Post : Rs → Sg → Prop} (h : wp_X9_ledger this a0 σ Post) : Ct l yX9_ledger (.code yX9_ledger cX9_ledger 2 (some .int)) 8 124 1 6 [.ref this, .int a0] σ Post := by
  refine Ct_of [some (.ref this), some (.int a0)] hl (by decide +kernel) rfl (fun ad => by rfl) (fun ad => by exact Nat.le_of_ble_eq_true rfl) (fun v hv => mem_lo hv rfl) ?_
  intro G hG
  unfold wp_X9_ledger at h
  refine V_iload_n hG dX9_ledger_0 rfl ?_
  refine V_iconst (v := 0) hG (by decide) dX9_ledger_1 ?_
  refine V_iconst (v := 5) hG (by decide) dX9_ledger_2 ?_
  refine V_cSV _ _ hG dX9_ledger_3 (ct_X9_requireRange hl h) mv_X9_requireRange ml_X9_34 rfl rfl (by first | exact Nat.le_of_ble_eq_true rfl | (simp only [List.map_cons, List.map_nil, List.sum_cons, List.sum_nil, cat_rf]; exact Nat.le_of_ble_eq_true rfl)) (Nat.le_of_ble_eq_true rfl) (Nat.le_of_ble_eq_true rfl) (by first | exact Nat.le_of_ble_eq_true rfl | omega | (dsimp only; omega)) (by first | exact Nat.le_of_ble_eq_true rfl | omega | (dsimp only; omega)) ?_ (fun σ1 h9 => ?_)
  · exact fun E σ1 hx => VX_out hG (by first | exact Nat.le_of_ble_eq_true rfl | omega | (dsimp only; omega)) (by first | exact Nat.le_of_ble_eq_true rfl | omega | (dsimp only; omega)) hx
  · replace h := h9
    clear h9
    refine V_iload_n hG dX9_ledger_6 rfl ?_
    rcases sw_cases a0 4 (by decide) with c | ⟨j, hj, c⟩
    · replace h := h.1 c
      refine V_swOut (tgt := 108) hG dX9_ledger_7 c (by decide) ?_
      refine V_aload_n (v := .ref this) hG dX9_ledger_108 rfl rfl ?_
      obtain ⟨ht, h⟩ := h
      refine V_getPv hG dX9_ledger_109 fl_X9_18 rfl ht (fun o2 ho => ?_)
      replace h := h o2 ho
      obtain ⟨u3, he, h⟩ := h
      subst he
      obtain ⟨ht, h⟩ := h
      refine V_getI hG dX9_ledger_112 fl_X9_328 rfl ht ?_
      exact V_iret hG dX9_ledger_115 (by first | exact Nat.le_of_ble_eq_true rfl | omega | (dsimp only; omega)) (by first | exact Nat.le_of_ble_eq_true rfl | omega | (dsimp only; omega)) h
    · replace h := h.2
      rcases (show j = 0 ∨ j = 1 ∨ j = 2 ∨ j = 3 ∨ j = 4 by omega) with rfl | rfl | rfl | rfl | rfl
      · replace h := h.1 c
        refine V_top (congrArg Value.int c) ?_
        refine V_swIn (tgt := 40) (off := 33) hG dX9_ledger_7 (by decide) (by decide) (by decide) (by decide) ?_
        refine V_aload_n (v := .ref this) hG dX9_ledger_40 rfl rfl ?_
        obtain ⟨ht, h⟩ := h
        refine V_getI hG dX9_ledger_41 fl_X9_151 rfl ht ?_
        exact V_iret hG dX9_ledger_44 (by first | exact Nat.le_of_ble_eq_true rfl | omega | (dsimp only; omega)) (by first | exact Nat.le_of_ble_eq_true rfl | omega | (dsimp only; omega)) h
      · replace h := h.2.1 c
        refine V_top (congrArg Value.int c) ?_
        refine V_swIn (tgt := 45) (off := 38) hG dX9_ledger_7 (by decide) (by decide) (by decide) (by decide) ?_
        refine V_aload_n (v := .ref this) hG dX9_ledger_45 rfl rfl ?_
        obtain ⟨ht, h⟩ := h
        refine V_getPv hG dX9_ledger_46 fl_X9_18 rfl ht (fun o4 ho => ?_)
        replace h := h o4 ho
        obtain ⟨u5, he, h⟩ := h
        subst he
        obtain ⟨ht, h⟩ := h
        refine V_getI hG dX9_ledger_49 fl_X9_322 rfl ht ?_
        exact V_iret hG dX9_ledger_52 (by first | exact Nat.le_of_ble_eq_true rfl | omega | (dsimp only; omega)) (by first | exact Nat.le_of_ble_eq_true rfl | omega | (dsimp only; omega)) h
      · replace h := h.2.2.1 c
        refine V_top (congrArg Value.int c) ?_
        refine V_swIn (tgt := 53) (off := 46) hG dX9_ledger_7 (by decide) (by decide) (by decide) (by decide) ?_
        refine V_aload_n (v := .ref this) hG dX9_ledger_53 rfl rfl ?_
        obtain ⟨ht, h⟩ := h
        refine V_getPv hG dX9_ledger_54 fl_X9_26 rfl ht (fun o6 ho => ?_)
        replace h := h o6 ho
        refine V_iconst (v := 0) hG (by decide) dX9_ledger_57 ?_
        obtain ⟨u7, he, h⟩ := h
        subst he
        obtain ⟨ht, h⟩ := h
        refine V_cVI _ _ hG dX9_ledger_58 (ct_X8_costOf hl h) mv_X8_costOf ml_X9_325 ht rfl rfl rfl rfl (by first | exact Nat.le_of_ble_eq_true rfl | (simp only [List.map_cons, List.map_nil, List.sum_cons, List.sum_nil, cat_rf]; exact Nat.le_of_ble_eq_true rfl)) (Nat.le_of_ble_eq_true rfl) (Nat.le_of_ble_eq_true rfl) (by first | exact Nat.le_of_ble_eq_true rfl | omega | (dsimp only; omega)) (by first | exact Nat.le_of_ble_eq_true rfl | omega | (dsimp only; omega)) ?_ (fun x9 σ8 h9 => ?_)
        · exact fun E σ8 hx => VX_out hG (by first | exact Nat.le_of_ble_eq_true rfl | omega | (dsimp only; omega)) (by first | exact Nat.le_of_ble_eq_true rfl | omega | (dsimp only; omega)) hx
        · replace h := h9
          clear h9
          refine V_aload_n (v := .ref this) hG dX9_ledger_61 rfl rfl ?_
          obtain ⟨ht, h⟩ := h
          refine V_getPv hG dX9_ledger_62 fl_X9_26 rfl ht (fun o10 ho => ?_)
          replace h := h o10 ho
          refine V_iconst (v := 1) hG (by decide) dX9_ledger_65 ?_
          obtain ⟨u11, he, h⟩ := h
          subst he
          obtain ⟨ht, h⟩ := h
          refine V_cVI _ _ hG dX9_ledger_66 (ct_X8_costOf hl h) mv_X8_costOf ml_X9_325 ht rfl rfl rfl rfl (by first | exact Nat.le_of_ble_eq_true rfl | (simp only [List.map_cons, List.map_nil, List.sum_cons, List.sum_nil, cat_rf]; exact Nat.le_of_ble_eq_true rfl)) (Nat.le_of_ble_eq_true rfl) (Nat.le_of_ble_eq_true rfl) (by first | exact Nat.le_of_ble_eq_true rfl | omega | (dsimp only; omega)) (by first | exact Nat.le_of_ble_eq_true rfl | omega | (dsimp only; omega)) ?_ (fun x13 σ12 h9 => ?_)
          · exact fun E σ12 hx => VX_out hG (by first | exact Nat.le_of_ble_eq_true rfl | omega | (dsimp only; omega)) (by first | exact Nat.le_of_ble_eq_true rfl | omega | (dsimp only; omega)) hx
          · replace h := h9
            clear h9
            refine V_iadd hG dX9_ledger_69 ?_
            refine V_aload_n (v := .ref this) hG dX9_ledger_70 rfl rfl ?_
            obtain ⟨ht, h⟩ := h
            refine V_getPv hG dX9_ledger_71 fl_X9_26 rfl ht (fun o14 ho => ?_)
            replace h := h o14 ho
            refine V_iconst (v := 2) hG (by decide) dX9_ledger_74 ?_
            obtain ⟨u15, he, h⟩ := h
            subst he
            obtain ⟨ht, h⟩ := h
            refine V_cVI _ _ hG dX9_ledger_75 (ct_X8_costOf hl h) mv_X8_costOf ml_X9_325 ht rfl rfl rfl rfl (by first | exact Nat.le_of_ble_eq_true rfl | (simp only [List.map_cons, List.map_nil, List.sum_cons, List.sum_nil, cat_rf]; exact Nat.le_of_ble_eq_true rfl)) (Nat.le_of_ble_eq_true rfl) (Nat.le_of_ble_eq_true rfl) (by first | exact Nat.le_of_ble_eq_true rfl | omega | (dsimp only; omega)) (by first | exact Nat.le_of_ble_eq_true rfl | omega | (dsimp only; omega)) ?_ (fun x17 σ16 h9 => ?_)
            · exact fun E σ16 hx => VX_out hG (by first | exact Nat.le_of_ble_eq_true rfl | omega | (dsimp only; omega)) (by first | exact Nat.le_of_ble_eq_true rfl | omega | (dsimp only; omega)) hx
            · replace h := h9
              clear h9
              refine V_iadd hG dX9_ledger_78 ?_
              refine V_aload_n (v := .ref this) hG dX9_ledger_79 rfl rfl ?_
              obtain ⟨ht, h⟩ := h
              refine V_getPv hG dX9_ledger_80 fl_X9_26 rfl ht (fun o18 ho => ?_)
              replace h := h o18 ho
              refine V_iconst (v := 3) hG (by decide) dX9_ledger_83 ?_
              obtain ⟨u19, he, h⟩ := h
              subst he
              obtain ⟨ht, h⟩ := h
              refine V_cVI _ _ hG dX9_ledger_84 (ct_X8_costOf hl h) mv_X8_costOf ml_X9_325 ht rfl rfl rfl rfl (by first | exact Nat.le_of_ble_eq_true rfl | (simp only [List.map_cons, List.map_nil, List.sum_cons, List.sum_nil, cat_rf]; exact Nat.le_of_ble_eq_true rfl)) (Nat.le_of_ble_eq_true rfl) (Nat.le_of_ble_eq_true rfl) (by first | exact Nat.le_of_ble_eq_true rfl | omega | (dsimp only; omega)) (by first | exact Nat.le_of_ble_eq_true rfl | omega | (dsimp only; omega)) ?_ (fun x21 σ20 h9 => ?_)
              · exact fun E σ20 hx => VX_out hG (by first | exact Nat.le_of_ble_eq_true rfl | omega | (dsimp only; omega)) (by first | exact Nat.le_of_ble_eq_true rfl | omega | (dsimp only; omega)) hx
              · replace h := h9
                clear h9
                refine V_iadd hG dX9_ledger_87 ?_
                exact V_iret hG dX9_ledger_88 (by first | exact Nat.le_of_ble_eq_true rfl | omega | (dsimp only; omega)) (by first | exact Nat.le_of_ble_eq_true rfl | omega | (dsimp only; omega)) h
      · replace h := h.2.2.2.1 c
        refine V_top (congrArg Value.int c) ?_
        refine V_swIn (tgt := 89) (off := 82) hG dX9_ledger_7 (by decide) (by decide) (by decide) (by decide) ?_
        refine V_aload_n (v := .ref this) hG dX9_ledger_89 rfl rfl ?_
        obtain ⟨ht, h⟩ := h
        refine V_getPv hG dX9_ledger_90 fl_X9_26 rfl ht (fun o22 ho => ?_)
        replace h := h o22 ho
        refine V_iconst (v := 5) hG (by decide) dX9_ledger_93 ?_
        obtain ⟨u23, he, h⟩ := h
        subst he
        obtain ⟨ht, h⟩ := h
        refine V_cVI _ _ hG dX9_ledger_94 (ct_X8_costOf hl h) mv_X8_costOf ml_X9_325 ht rfl rfl rfl rfl (by first | exact Nat.le_of_ble_eq_true rfl | (simp only [List.map_cons, List.map_nil, List.sum_cons, List.sum_nil, cat_rf]; exact Nat.le_of_ble_eq_true rfl)) (Nat.le_of_ble_eq_true rfl) (Nat.le_of_ble_eq_true rfl) (by first | exact Nat.le_of_ble_eq_true rfl | omega | (dsimp only; omega)) (by first | exact Nat.le_of_ble_eq_true rfl | omega | (dsimp only; omega)) ?_ (fun x25 σ24 h9 => ?_)
        · exact fun E σ24 hx => VX_out hG (by first | exact Nat.le_of_ble_eq_true rfl | omega | (dsimp only; omega)) (by first | exact Nat.le_of_ble_eq_true rfl | omega | (dsimp only; omega)) hx
        · replace h := h9
          clear h9
          exact V_iret hG dX9_ledger_97 (by first | exact Nat.le_of_ble_eq_true rfl | omega | (dsimp only; omega)) (by first | exact Nat.le_of_ble_eq_true rfl | omega | (dsimp only; omega)) h
      · replace h := h.2.2.2.2 c
        refine V_top (congrArg Value.int c) ?_
        refine V_swIn (tgt := 98) (off := 91) hG dX9_ledger_7 (by decide) (by decide) (by decide) (by decide) ?_
        refine V_aload_n (v := .ref this) hG dX9_ledger_98 rfl rfl ?_
        obtain ⟨ht, h⟩ := h
        refine V_getPv hG dX9_ledger_99 fl_X9_26 rfl ht (fun o26 ho => ?_)
        replace h := h o26 ho
        refine V_bipush (v := 6) hG (by decide) dX9_ledger_102 ?_
        obtain ⟨u27, he, h⟩ := h
        subst he
        obtain ⟨ht, h⟩ := h
        refine V_cVI _ _ hG dX9_ledger_104 (ct_X8_costOf hl h) mv_X8_costOf ml_X9_325 ht rfl rfl rfl rfl (by first | exact Nat.le_of_ble_eq_true rfl | (simp only [List.map_cons, List.map_nil, List.sum_cons, List.sum_nil, cat_rf]; exact Nat.le_of_ble_eq_true rfl)) (Nat.le_of_ble_eq_true rfl) (Nat.le_of_ble_eq_true rfl) (by first | exact Nat.le_of_ble_eq_true rfl | omega | (dsimp only; omega)) (by first | exact Nat.le_of_ble_eq_true rfl | omega | (dsimp only; omega)) ?_ (fun x29 σ28 h9 => ?_)
        · exact fun E σ28 hx => VX_out hG (by first | exact Nat.le_of_ble_eq_true rfl | omega | (dsimp only; omega)) (by first | exact Nat.le_of_ble_eq_true rfl | omega | (dsimp only; omega)) hx
        · replace h := h9
          clear h9
          exact V_iret hG dX9_ledger_107 (by first | exact Nat.le_of_ble_eq_true rfl | omega | (dsimp only; omega)) (by first | exact Nat.le_of_ble_eq_true rfl | omega | (dsimp only; omega)) h
def wp_X10_init_442  : Nat → Nat → Int32 → Sg → (Rs → Sg → Prop) → Prop
  | 0, _, _, _, _ => False
  | f + 1, this, v1, σ, Post => (((4 : Int32) ≤ v1 → Post (.inl none) σ) ∧ (¬ (4 : Int32) ≤ v1 → this % 32 = 10 ∧ ∀ o1, o1 = sP σ this 12 → ∃ u2, o1 = some u2 ∧ aty (u2 % 32) = some .int ∧ ∃ j3, v1 = nI j3 ∧ j3 < aln u2 ∧ (wp_X10_init_442 f this (v1 + 1) (wI σ u2 j3 (9 : Int32)) Post)))
set_option maxRecDepth 100000 in
set_option maxHeartbeats 4000000 in
theorem wv_X10_init_442 {L9 : Launch} {G : Cx} {Post : Rs → Sg → Prop} (hl : L9.stackTraces = false) (hG : CX L9 G yX10_init cX10_init 2 none [] { frames := 1, cells := 52, slots := 1279, locals := 12 })   : ∀ (f : Nat) (this : Nat) (v1 : Int32) (σ : Sg), wp_X10_init_442 f this v1 σ Post → V G (QM G 52 1279 Post) 442 [some (.ref this), some (.int v1)] [] σ 52 1279 := by
  intro f
  induction f with
  | zero => intro _ _ σ h; exact h.elim
  | succ f ih =>
    intro this v1 σ h
    refine V_iload_n hG dX10_init_442 rfl ?_
    refine V_iconst (v := 4) hG (by decide) dX10_init_443 ?_
    refine V_icmp_ge (tgt := 461) hG dX10_init_444 (by decide) (fun c => ?_) (fun c => ?_)
    · replace h := h.1 c
      exact V_vret hG dX10_init_461 (by first | exact Nat.le_of_ble_eq_true rfl | omega | (dsimp only; omega)) (by first | exact Nat.le_of_ble_eq_true rfl | omega | (dsimp only; omega)) h
    · replace h := h.2 c
      refine V_aload_n (v := .ref this) hG dX10_init_447 rfl rfl ?_
      obtain ⟨ht, h⟩ := h
      refine V_getPv hG dX10_init_448 fl_X10_46 rfl ht (fun o1 ho => ?_)
      replace h := h o1 ho
      refine V_iload_n hG dX10_init_451 rfl ?_
      refine V_bipush (v := 9) hG (by decide) dX10_init_452 ?_
      obtain ⟨u2, he, h⟩ := h
      subst he
      obtain ⟨ha, j3, hi, hj, h⟩ := h
      refine V_iast hG dX10_init_454 ha hi hj ?_
      refine V_iincv (c := 1) hG dX10_init_455 rfl (by decide) (hpV rfl rfl) ?_
      refine V_goto (tgt := 442) hG dX10_init_458 (by decide) ?_
      refine V_forget (lo' := [some (.ref this), some (.int (v1 + 1))]) ⟨rfl, ⟨rfl, trivial⟩⟩ ?_
      exact ih _ _ _ h
def wp_X10_init_420  : Nat → Nat → Int32 → Sg → (Rs → Sg → Prop) → Prop
  | 0, _, _, _, _ => False
  | f + 1, this, v1, σ, Post => (((12 : Int32) ≤ v1 → (∃ g, wp_X10_init_442 g this (0 : Int32) σ Post)) ∧ (¬ (12 : Int32) ≤ v1 → this % 32 = 10 ∧ ∀ o1, o1 = sP σ this 11 → ∃ u2, o1 = some u2 ∧ aty (u2 % 32) = some .int ∧ ∃ j3, v1 = nI j3 ∧ j3 < aln u2 ∧ (wp_X10_init_420 f this (v1 + 1) (wI σ u2 j3 (20 : Int32)) Post)))
set_option maxRecDepth 100000 in
set_option maxHeartbeats 4000000 in
theorem wv_X10_init_420 {L9 : Launch} {G : Cx} {Post : Rs → Sg → Prop} (hl : L9.stackTraces = false) (hG : CX L9 G yX10_init cX10_init 2 none [] { frames := 1, cells := 52, slots := 1279, locals := 12 })   : ∀ (f : Nat) (this : Nat) (v1 : Int32) (σ : Sg), wp_X10_init_420 f this v1 σ Post → V G (QM G 52 1279 Post) 420 [some (.ref this), some (.int v1)] [] σ 52 1279 := by
  intro f
  induction f with
  | zero => intro _ _ σ h; exact h.elim
  | succ f ih =>
    intro this v1 σ h
    refine V_iload_n hG dX10_init_420 rfl ?_
    refine V_bipush (v := 12) hG (by decide) dX10_init_421 ?_
    refine V_icmp_ge (tgt := 440) hG dX10_init_423 (by decide) (fun c => ?_) (fun c => ?_)
    · replace h := h.1 c
      refine V_iconst (v := 0) hG (by decide) dX10_init_440 ?_
      refine V_istore_n hG dX10_init_441 (Nat.le_of_ble_eq_true rfl) (hpV rfl rfl) ?_
      refine V_forget (lo' := [some (.ref this), some (.int (0 : Int32))]) ⟨rfl, ⟨rfl, trivial⟩⟩ ?_
      obtain ⟨g, h⟩ := h
      refine V_widen (k' := 52) (n' := 1279) (by first | exact Nat.le_of_ble_eq_true rfl | omega | (dsimp only; omega)) (by first | exact Nat.le_of_ble_eq_true rfl | omega | (dsimp only; omega)) ?_
      exact wv_X10_init_442 hl hG  g _ _ _ h
    · replace h := h.2 c
      refine V_aload_n (v := .ref this) hG dX10_init_426 rfl rfl ?_
      obtain ⟨ht, h⟩ := h
      refine V_getPv hG dX10_init_427 fl_X10_43 rfl ht (fun o1 ho => ?_)
      replace h := h o1 ho
      refine V_iload_n hG dX10_init_430 rfl ?_
      refine V_bipush (v := 20) hG (by decide) dX10_init_431 ?_
      obtain ⟨u2, he, h⟩ := h
      subst he
      obtain ⟨ha, j3, hi, hj, h⟩ := h
      refine V_iast hG dX10_init_433 ha hi hj ?_
      refine V_iincv (c := 1) hG dX10_init_434 rfl (by decide) (hpV rfl rfl) ?_
      refine V_goto (tgt := 420) hG dX10_init_437 (by decide) ?_
      refine V_forget (lo' := [some (.ref this), some (.int (v1 + 1))]) ⟨rfl, ⟨rfl, trivial⟩⟩ ?_
      exact ih _ _ _ h
set_option maxRecDepth 100000 in
def wp_X10_init (this : Nat) (σ : Sg) (Post : Rs → Sg → Prop) : Prop := ∃ u1, sX σ u1 = false ∧ aty (u1 % 32) = some .int ∧ aln u1 = 12 ∧ this % 32 = 10 ∧ ∃ u2, sX (wP (wN σ u1) this 0 (some u1)) u2 = false ∧ aty (u2 % 32) = some .int ∧ aln u2 = 12 ∧ this % 32 = 10 ∧ ∃ u3, sX (wP (wN (wP (wN σ u1) this 0 (some u1)) u2) this 1 (some u2)) u3 = false ∧ aty (u3 % 32) = some .int ∧ aln u3 = 12 ∧ this % 32 = 10 ∧ ∃ u4, sX (wP (wN (wP (wN (wP (wN σ u1) this 0 (some u1)) u2) this 1 (some u2)) u3) this 2 (some u3)) u4 = false ∧ aty (u4 % 32) = some .int ∧ aln u4 = 12 ∧ this % 32 = 10 ∧ ∃ u5, sX (wP (wN (wP (wN (wP (wN (wP (wN σ u1) this 0 (some u1)) u2) this 1 (some u2)) u3) this 2 (some u3)) u4) this 3 (some u4)) u5 = false ∧ aty (u5 % 32) = some .int ∧ aln u5 = 36 ∧ this % 32 = 10 ∧ ∃ u6, sX (wP (wN (wP (wN (wP (wN (wP (wN (wP (wN σ u1) this 0 (some u1)) u2) this 1 (some u2)) u3) this 2 (some u3)) u4) this 3 (some u4)) u5) this 4 (some u5)) u6 = false ∧ aty (u6 % 32) = some .int ∧ aln u6 = 36 ∧ this % 32 = 10 ∧ ∃ u7, sX (wP (wN (wP (wN (wP (wN (wP (wN (wP (wN (wP (wN σ u1) this 0 (some u1)) u2) this 1 (some u2)) u3) this 2 (some u3)) u4) this 3 (some u4)) u5) this 4 (some u5)) u6) this 5 (some u6)) u7 = false ∧ aty (u7 % 32) = some .int ∧ aln u7 = 36 ∧ this % 32 = 10 ∧ ∃ u8, sX (wP (wN (wP (wN (wP (wN (wP (wN (wP (wN (wP (wN (wP (wN σ u1) this 0 (some u1)) u2) this 1 (some u2)) u3) this 2 (some u3)) u4) this 3 (some u4)) u5) this 4 (some u5)) u6) this 5 (some u6)) u7) this 6 (some u7)) u8 = false ∧ aty (u8 % 32) = some .int ∧ aln u8 = 12 ∧ this % 32 = 10 ∧ ∃ u9, sX (wP (wN (wP (wN (wP (wN (wP (wN (wP (wN (wP (wN (wP (wN (wP (wN σ u1) this 0 (some u1)) u2) this 1 (some u2)) u3) this 2 (some u3)) u4) this 3 (some u4)) u5) this 4 (some u5)) u6) this 5 (some u6)) u7) this 6 (some u7)) u8) this 7 (some u8)) u9 = false ∧ aty (u9 % 32) = some .int ∧ aln u9 = 48 ∧ this % 32 = 10 ∧ ∃ u10, sX (wP (wN (wP (wN (wP (wN (wP (wN (wP (wN (wP (wN (wP (wN (wP (wN (wP (wN σ u1) this 0 (some u1)) u2) this 1 (some u2)) u3) this 2 (some u3)) u4) this 3 (some u4)) u5) this 4 (some u5)) u6) this 5 (some u6)) u7) this 6 (some u7)) u8) this 7 (some u8)) u9) this 8 (some u9)) u10 = false ∧ aty (u10 % 32) = some .int ∧ aln u10 = 48 ∧ this % 32 = 10 ∧ ∃ u11, sX (wP (wN (wP (wN (wP (wN (wP (wN (wP (wN (wP (wN (wP (wN (wP (wN (wP (wN (wP (wN σ u1) this 0 (some u1)) u2) this 1 (some u2)) u3) this 2 (some u3)) u4) this 3 (some u4)) u5) this 4 (some u5)) u6) this 5 (some u6)) u7) this 6 (some u7)) u8) this 7 (some u8)) u9) this 8 (some u9)) u10) this 9 (some u10)) u11 = false ∧ aty (u11 % 32) = some .int ∧ aln u11 = 48 ∧ this % 32 = 10 ∧ ∃ u12, sX (wP (wN (wP (wN (wP (wN (wP (wN (wP (wN (wP (wN (wP (wN (wP (wN (wP (wN (wP (wN (wP (wN σ u1) this 0 (some u1)) u2) this 1 (some u2)) u3) this 2 (some u3)) u4) this 3 (some u4)) u5) this 4 (some u5)) u6) this 5 (some u6)) u7) this 6 (some u7)) u8) this 7 (some u8)) u9) this 8 (some u9)) u10) this 9 (some u10)) u11) this 10 (some u11)) u12 = false ∧ aty (u12 % 32) = some .int ∧ aln u12 = 12 ∧ this % 32 = 10 ∧ ∃ u13, sX (wP (wN (wP (wN (wP (wN (wP (wN (wP (wN (wP (wN (wP (wN (wP (wN (wP (wN (wP (wN (wP (wN (wP (wN σ u1) this 0 (some u1)) u2) this 1 (some u2)) u3) this 2 (some u3)) u4) this 3 (some u4)) u5) this 4 (some u5)) u6) this 5 (some u6)) u7) this 6 (some u7)) u8) this 7 (some u8)) u9) this 8 (some u9)) u10) this 9 (some u10)) u11) this 10 (some u11)) u12) this 11 (some u12)) u13 = false ∧ aty (u13 % 32) = some .int ∧ aln u13 = 4 ∧ this % 32 = 10 ∧ ∃ u14, sX (wP (wN (wP (wN (wP (wN (wP (wN (wP (wN (wP (wN (wP (wN (wP (wN (wP (wN (wP (wN (wP (wN (wP (wN (wP (wN σ u1) this 0 (some u1)) u2) this 1 (some u2)) u3) this 2 (some u3)) u4) this 3 (some u4)) u5) this 4 (some u5)) u6) this 5 (some u6)) u7) this 6 (some u7)) u8) this 7 (some u8)) u9) this 8 (some u9)) u10) this 9 (some u10)) u11) this 10 (some u11)) u12) this 11 (some u12)) u13) this 12 (some u13)) u14 = false ∧ aty (u14 % 32) = some .boolean ∧ aln u14 = 12 ∧ this % 32 = 10 ∧ ∃ u15, sX (wP (wN (wP (wN (wP (wN (wP (wN (wP (wN (wP (wN (wP (wN (wP (wN (wP (wN (wP (wN (wP (wN (wP (wN (wP (wN (wP (wN σ u1) this 0 (some u1)) u2) this 1 (some u2)) u3) this 2 (some u3)) u4) this 3 (some u4)) u5) this 4 (some u5)) u6) this 5 (some u6)) u7) this 6 (some u7)) u8) this 7 (some u8)) u9) this 8 (some u9)) u10) this 9 (some u10)) u11) this 10 (some u11)) u12) this 11 (some u12)) u13) this 12 (some u13)) u14) this 13 (some u14)) u15 = false ∧ aty (u15 % 32) = some .int ∧ aln u15 = 60 ∧ this % 32 = 10 ∧ ∃ u16, sX (wP (wN (wP (wN (wP (wN (wP (wN (wP (wN (wP (wN (wP (wN (wP (wN (wP (wN (wP (wN (wP (wN (wP (wN (wP (wN (wP (wN (wP (wN σ u1) this 0 (some u1)) u2) this 1 (some u2)) u3) this 2 (some u3)) u4) this 3 (some u4)) u5) this 4 (some u5)) u6) this 5 (some u6)) u7) this 6 (some u7)) u8) this 7 (some u8)) u9) this 8 (some u9)) u10) this 9 (some u10)) u11) this 10 (some u11)) u12) this 11 (some u12)) u13) this 12 (some u13)) u14) this 13 (some u14)) u15) this 15 (some u15)) u16 = false ∧ aty (u16 % 32) = some .int ∧ aln u16 = 60 ∧ this % 32 = 10 ∧ ∃ u17, sX (wP (wN (wP (wN (wP (wN (wP (wN (wP (wN (wP (wN (wP (wN (wP (wN (wP (wN (wP (wN (wP (wN (wP (wN (wP (wN (wP (wN (wP (wN (wP (wN σ u1) this 0 (some u1)) u2) this 1 (some u2)) u3) this 2 (some u3)) u4) this 3 (some u4)) u5) this 4 (some u5)) u6) this 5 (some u6)) u7) this 6 (some u7)) u8) this 7 (some u8)) u9) this 8 (some u9)) u10) this 9 (some u10)) u11) this 10 (some u11)) u12) this 11 (some u12)) u13) this 12 (some u13)) u14) this 13 (some u14)) u15) this 15 (some u15)) u16) this 16 (some u16)) u17 = false ∧ aty (u17 % 32) = some .int ∧ aln u17 = 60 ∧ this % 32 = 10 ∧ ∃ u18, sX (wP (wN (wP (wN (wP (wN (wP (wN (wP (wN (wP (wN (wP (wN (wP (wN (wP (wN (wP (wN (wP (wN (wP (wN (wP (wN (wP (wN (wP (wN (wP (wN (wP (wN σ u1) this 0 (some u1)) u2) this 1 (some u2)) u3) this 2 (some u3)) u4) this 3 (some u4)) u5) this 4 (some u5)) u6) this 5 (some u6)) u7) this 6 (some u7)) u8) this 7 (some u8)) u9) this 8 (some u9)) u10) this 9 (some u10)) u11) this 10 (some u11)) u12) this 11 (some u12)) u13) this 12 (some u13)) u14) this 13 (some u14)) u15) this 15 (some u15)) u16) this 16 (some u16)) u17) this 17 (some u17)) u18 = false ∧ aty (u18 % 32) = some .int ∧ aln u18 = 60 ∧ this % 32 = 10 ∧ ∃ u19, sX (wP (wN (wP (wN (wP (wN (wP (wN (wP (wN (wP (wN (wP (wN (wP (wN (wP (wN (wP (wN (wP (wN (wP (wN (wP (wN (wP (wN (wP (wN (wP (wN (wP (wN (wP (wN σ u1) this 0 (some u1)) u2) this 1 (some u2)) u3) this 2 (some u3)) u4) this 3 (some u4)) u5) this 4 (some u5)) u6) this 5 (some u6)) u7) this 6 (some u7)) u8) this 7 (some u8)) u9) this 8 (some u9)) u10) this 9 (some u10)) u11) this 10 (some u11)) u12) this 11 (some u12)) u13) this 12 (some u13)) u14) this 13 (some u14)) u15) this 15 (some u15)) u16) this 16 (some u16)) u17) this 17 (some u17)) u18) this 18 (some u18)) u19 = false ∧ aty (u19 % 32) = some .int ∧ aln u19 = 60 ∧ this % 32 = 10 ∧ ∃ u20, sX (wP (wN (wP (wN (wP (wN (wP (wN (wP (wN (wP (wN (wP (wN (wP (wN (wP (wN (wP (wN (wP (wN (wP (wN (wP (wN (wP (wN (wP (wN (wP (wN (wP (wN (wP (wN (wP (wN σ u1) this 0 (some u1)) u2) this 1 (some u2)) u3) this 2 (some u3)) u4) this 3 (some u4)) u5) this 4 (some u5)) u6) this 5 (some u6)) u7) this 6 (some u7)) u8) this 7 (some u8)) u9) this 8 (some u9)) u10) this 9 (some u10)) u11) this 10 (some u11)) u12) this 11 (some u12)) u13) this 12 (some u13)) u14) this 13 (some u14)) u15) this 15 (some u15)) u16) this 16 (some u16)) u17) this 17 (some u17)) u18) this 18 (some u18)) u19) this 19 (some u19)) u20 = false ∧ aty (u20 % 32) = some .int ∧ aln u20 = 60 ∧ this % 32 = 10 ∧ ∃ u21, sX (wP (wN (wP (wN (wP (wN (wP (wN (wP (wN (wP (wN (wP (wN (wP (wN (wP (wN (wP (wN (wP (wN (wP (wN (wP (wN (wP (wN (wP (wN (wP (wN (wP (wN (wP (wN (wP (wN (wP (wN σ u1) this 0 (some u1)) u2) this 1 (some u2)) u3) this 2 (some u3)) u4) this 3 (some u4)) u5) this 4 (some u5)) u6) this 5 (some u6)) u7) this 6 (some u7)) u8) this 7 (some u8)) u9) this 8 (some u9)) u10) this 9 (some u10)) u11) this 10 (some u11)) u12) this 11 (some u12)) u13) this 12 (some u13)) u14) this 13 (some u14)) u15) this 15 (some u15)) u16) this 16 (some u16)) u17) this 17 (some u17)) u18) this 18 (some u18)) u19) this 19 (some u19)) u20) this 20 (some u20)) u21 = false ∧ aty (u21 % 32) = some .boolean ∧ aln u21 = 60 ∧ this % 32 = 10 ∧ ∃ u22, sX (wP (wN (wP (wN (wP (wN (wP (wN (wP (wN (wP (wN (wP (wN (wP (wN (wP (wN (wP (wN (wP (wN (wP (wN (wP (wN (wP (wN (wP (wN (wP (wN (wP (wN (wP (wN (wP (wN (wP (wN (wP (wN σ u1) this 0 (some u1)) u2) this 1 (some u2)) u3) this 2 (some u3)) u4) this 3 (some u4)) u5) this 4 (some u5)) u6) this 5 (some u6)) u7) this 6 (some u7)) u8) this 7 (some u8)) u9) this 8 (some u9)) u10) this 9 (some u10)) u11) this 10 (some u11)) u12) this 11 (some u12)) u13) this 12 (some u13)) u14) this 13 (some u14)) u15) this 15 (some u15)) u16) this 16 (some u16)) u17) this 17 (some u17)) u18) this 18 (some u18)) u19) this 19 (some u19)) u20) this 20 (some u20)) u21) this 21 (some u21)) u22 = false ∧ aty (u22 % 32) = some .boolean ∧ aln u22 = 60 ∧ this % 32 = 10 ∧ ∃ u23, sX (wP (wN (wP (wN (wP (wN (wP (wN (wP (wN (wP (wN (wP (wN (wP (wN (wP (wN (wP (wN (wP (wN (wP (wN (wP (wN (wP (wN (wP (wN (wP (wN (wP (wN (wP (wN (wP (wN (wP (wN (wP (wN (wP (wN σ u1) this 0 (some u1)) u2) this 1 (some u2)) u3) this 2 (some u3)) u4) this 3 (some u4)) u5) this 4 (some u5)) u6) this 5 (some u6)) u7) this 6 (some u7)) u8) this 7 (some u8)) u9) this 8 (some u9)) u10) this 9 (some u10)) u11) this 10 (some u11)) u12) this 11 (some u12)) u13) this 12 (some u13)) u14) this 13 (some u14)) u15) this 15 (some u15)) u16) this 16 (some u16)) u17) this 17 (some u17)) u18) this 18 (some u18)) u19) this 19 (some u19)) u20) this 20 (some u20)) u21) this 21 (some u21)) u22) this 22 (some u22)) u23 = false ∧ aty (u23 % 32) = some .int ∧ aln u23 = 60 ∧ this % 32 = 10 ∧ ∃ u24, sX (wP (wN (wP (wN (wP (wN (wP (wN (wP (wN (wP (wN (wP (wN (wP (wN (wP (wN (wP (wN (wP (wN (wP (wN (wP (wN (wP (wN (wP (wN (wP (wN (wP (wN (wP (wN (wP (wN (wP (wN (wP (wN (wP (wN (wP (wN σ u1) this 0 (some u1)) u2) this 1 (some u2)) u3) this 2 (some u3)) u4) this 3 (some u4)) u5) this 4 (some u5)) u6) this 5 (some u6)) u7) this 6 (some u7)) u8) this 7 (some u8)) u9) this 8 (some u9)) u10) this 9 (some u10)) u11) this 10 (some u11)) u12) this 11 (some u12)) u13) this 12 (some u13)) u14) this 13 (some u14)) u15) this 15 (some u15)) u16) this 16 (some u16)) u17) this 17 (some u17)) u18) this 18 (some u18)) u19) this 19 (some u19)) u20) this 20 (some u20)) u21) this 21 (some u21)) u22) this 22 (some u22)) u23) this 23 (some u23)) u24 = false ∧ aty (u24 % 32) = some .boolean ∧ aln u24 = 60 ∧ this % 32 = 10 ∧ ∃ u25, sX (wP (wN (wP (wN (wP (wN (wP (wN (wP (wN (wP (wN (wP (wN (wP (wN (wP (wN (wP (wN (wP (wN (wP (wN (wP (wN (wP (wN (wP (wN (wP (wN (wP (wN (wP (wN (wP (wN (wP (wN (wP (wN (wP (wN (wP (wN (wP (wN σ u1) this 0 (some u1)) u2) this 1 (some u2)) u3) this 2 (some u3)) u4) this 3 (some u4)) u5) this 4 (some u5)) u6) this 5 (some u6)) u7) this 6 (some u7)) u8) this 7 (some u8)) u9) this 8 (some u9)) u10) this 9 (some u10)) u11) this 10 (some u11)) u12) this 11 (some u12)) u13) this 12 (some u13)) u14) this 13 (some u14)) u15) this 15 (some u15)) u16) this 16 (some u16)) u17) this 17 (some u17)) u18) this 18 (some u18)) u19) this 19 (some u19)) u20) this 20 (some u20)) u21) this 21 (some u21)) u22) this 22 (some u22)) u23) this 23 (some u23)) u24) this 24 (some u24)) u25 = false ∧ aty (u25 % 32) = some .int ∧ aln u25 = 60 ∧ this % 32 = 10 ∧ ∃ u26, sX (wP (wN (wP (wN (wP (wN (wP (wN (wP (wN (wP (wN (wP (wN (wP (wN (wP (wN (wP (wN (wP (wN (wP (wN (wP (wN (wP (wN (wP (wN (wP (wN (wP (wN (wP (wN (wP (wN (wP (wN (wP (wN (wP (wN (wP (wN (wP (wN (wP (wN σ u1) this 0 (some u1)) u2) this 1 (some u2)) u3) this 2 (some u3)) u4) this 3 (some u4)) u5) this 4 (some u5)) u6) this 5 (some u6)) u7) this 6 (some u7)) u8) this 7 (some u8)) u9) this 8 (some u9)) u10) this 9 (some u10)) u11) this 10 (some u11)) u12) this 11 (some u12)) u13) this 12 (some u13)) u14) this 13 (some u14)) u15) this 15 (some u15)) u16) this 16 (some u16)) u17) this 17 (some u17)) u18) this 18 (some u18)) u19) this 19 (some u19)) u20) this 20 (some u20)) u21) this 21 (some u21)) u22) this 22 (some u22)) u23) this 23 (some u23)) u24) this 24 (some u24)) u25) this 25 (some u25)) u26 = false ∧ aty (u26 % 32) = some .long ∧ aln u26 = 60 ∧ this % 32 = 10 ∧ ∃ u27, sX (wP (wN (wP (wN (wP (wN (wP (wN (wP (wN (wP (wN (wP (wN (wP (wN (wP (wN (wP (wN (wP (wN (wP (wN (wP (wN (wP (wN (wP (wN (wP (wN (wP (wN (wP (wN (wP (wN (wP (wN (wP (wN (wP (wN (wP (wN (wP (wN (wP (wN (wP (wN σ u1) this 0 (some u1)) u2) this 1 (some u2)) u3) this 2 (some u3)) u4) this 3 (some u4)) u5) this 4 (some u5)) u6) this 5 (some u6)) u7) this 6 (some u7)) u8) this 7 (some u8)) u9) this 8 (some u9)) u10) this 9 (some u10)) u11) this 10 (some u11)) u12) this 11 (some u12)) u13) this 12 (some u13)) u14) this 13 (some u14)) u15) this 15 (some u15)) u16) this 16 (some u16)) u17) this 17 (some u17)) u18) this 18 (some u18)) u19) this 19 (some u19)) u20) this 20 (some u20)) u21) this 21 (some u21)) u22) this 22 (some u22)) u23) this 23 (some u23)) u24) this 24 (some u24)) u25) this 25 (some u25)) u26) this 26 (some u26)) u27 = false ∧ aty (u27 % 32) = some .int ∧ aln u27 = 6 ∧ this % 32 = 10 ∧ ∃ u28, sX (wP (wN (wP (wN (wP (wN (wP (wN (wP (wN (wP (wN (wP (wN (wP (wN (wP (wN (wP (wN (wP (wN (wP (wN (wP (wN (wP (wN (wP (wN (wP (wN (wP (wN (wP (wN (wP (wN (wP (wN (wP (wN (wP (wN (wP (wN (wP (wN (wP (wN (wP (wN (wP (wN σ u1) this 0 (some u1)) u2) this 1 (some u2)) u3) this 2 (some u3)) u4) this 3 (some u4)) u5) this 4 (some u5)) u6) this 5 (some u6)) u7) this 6 (some u7)) u8) this 7 (some u8)) u9) this 8 (some u9)) u10) this 9 (some u10)) u11) this 10 (some u11)) u12) this 11 (some u12)) u13) this 12 (some u13)) u14) this 13 (some u14)) u15) this 15 (some u15)) u16) this 16 (some u16)) u17) this 17 (some u17)) u18) this 18 (some u18)) u19) this 19 (some u19)) u20) this 20 (some u20)) u21) this 21 (some u21)) u22) this 22 (some u22)) u23) this 23 (some u23)) u24) this 24 (some u24)) u25) this 25 (some u25)) u26) this 26 (some u26)) u27) this 28 (some u27)) u28 = false ∧ aty (u28 % 32) = some .int ∧ aln u28 = 6 ∧ this % 32 = 10 ∧ ∃ u29, sX (wP (wN (wP (wN (wP (wN (wP (wN (wP (wN (wP (wN (wP (wN (wP (wN (wP (wN (wP (wN (wP (wN (wP (wN (wP (wN (wP (wN (wP (wN (wP (wN (wP (wN (wP (wN (wP (wN (wP (wN (wP (wN (wP (wN (wP (wN (wP (wN (wP (wN (wP (wN (wP (wN (wP (wN σ u1) this 0 (some u1)) u2) this 1 (some u2)) u3) this 2 (some u3)) u4) this 3 (some u4)) u5) this 4 (some u5)) u6) this 5 (some u6)) u7) this 6 (some u7)) u8) this 7 (some u8)) u9) this 8 (some u9)) u10) this 9 (some u10)) u11) this 10 (some u11)) u12) this 11 (some u12)) u13) this 12 (some u13)) u14) this 13 (some u14)) u15) this 15 (some u15)) u16) this 16 (some u16)) u17) this 17 (some u17)) u18) this 18 (some u18)) u19) this 19 (some u19)) u20) this 20 (some u20)) u21) this 21 (some u21)) u22) this 22 (some u22)) u23) this 23 (some u23)) u24) this 24 (some u24)) u25) this 25 (some u25)) u26) this 26 (some u26)) u27) this 28 (some u27)) u28) this 29 (some u28)) u29 = false ∧ aty (u29 % 32) = some .int ∧ aln u29 = 6 ∧ this % 32 = 10 ∧ ∃ u30, sX (wP (wN (wP (wN (wP (wN (wP (wN (wP (wN (wP (wN (wP (wN (wP (wN (wP (wN (wP (wN (wP (wN (wP (wN (wP (wN (wP (wN (wP (wN (wP (wN (wP (wN (wP (wN (wP (wN (wP (wN (wP (wN (wP (wN (wP (wN (wP (wN (wP (wN (wP (wN (wP (wN (wP (wN (wP (wN σ u1) this 0 (some u1)) u2) this 1 (some u2)) u3) this 2 (some u3)) u4) this 3 (some u4)) u5) this 4 (some u5)) u6) this 5 (some u6)) u7) this 6 (some u7)) u8) this 7 (some u8)) u9) this 8 (some u9)) u10) this 9 (some u10)) u11) this 10 (some u11)) u12) this 11 (some u12)) u13) this 12 (some u13)) u14) this 13 (some u14)) u15) this 15 (some u15)) u16) this 16 (some u16)) u17) this 17 (some u17)) u18) this 18 (some u18)) u19) this 19 (some u19)) u20) this 20 (some u20)) u21) this 21 (some u21)) u22) this 22 (some u22)) u23) this 23 (some u23)) u24) this 24 (some u24)) u25) this 25 (some u25)) u26) this 26 (some u26)) u27) this 28 (some u27)) u28) this 29 (some u28)) u29) this 30 (some u29)) u30 = false ∧ aty (u30 % 32) = some .int ∧ aln u30 = 6 ∧ this % 32 = 10 ∧ ∃ u31, sX (wP (wN (wP (wN (wP (wN (wP (wN (wP (wN (wP (wN (wP (wN (wP (wN (wP (wN (wP (wN (wP (wN (wP (wN (wP (wN (wP (wN (wP (wN (wP (wN (wP (wN (wP (wN (wP (wN (wP (wN (wP (wN (wP (wN (wP (wN (wP (wN (wP (wN (wP (wN (wP (wN (wP (wN (wP (wN (wP (wN σ u1) this 0 (some u1)) u2) this 1 (some u2)) u3) this 2 (some u3)) u4) this 3 (some u4)) u5) this 4 (some u5)) u6) this 5 (some u6)) u7) this 6 (some u7)) u8) this 7 (some u8)) u9) this 8 (some u9)) u10) this 9 (some u10)) u11) this 10 (some u11)) u12) this 11 (some u12)) u13) this 12 (some u13)) u14) this 13 (some u14)) u15) this 15 (some u15)) u16) this 16 (some u16)) u17) this 17 (some u17)) u18) this 18 (some u18)) u19) this 19 (some u19)) u20) this 20 (some u20)) u21) this 21 (some u21)) u22) this 22 (some u22)) u23) this 23 (some u23)) u24) this 24 (some u24)) u25) this 25 (some u25)) u26) this 26 (some u26)) u27) this 28 (some u27)) u28) this 29 (some u28)) u29) this 30 (some u29)) u30) this 31 (some u30)) u31 = false ∧ aty (u31 % 32) = some .int ∧ aln u31 = 6 ∧ this % 32 = 10 ∧ ∃ u32, sX (wP (wN (wP (wN (wP (wN (wP (wN (wP (wN (wP (wN (wP (wN (wP (wN (wP (wN (wP (wN (wP (wN (wP (wN (wP (wN (wP (wN (wP (wN (wP (wN (wP (wN (wP (wN (wP (wN (wP (wN (wP (wN (wP (wN (wP (wN (wP (wN (wP (wN (wP (wN (wP (wN (wP (wN (wP (wN (wP (wN (wP (wN σ u1) this 0 (some u1)) u2) this 1 (some u2)) u3) this 2 (some u3)) u4) this 3 (some u4)) u5) this 4 (some u5)) u6) this 5 (some u6)) u7) this 6 (some u7)) u8) this 7 (some u8)) u9) this 8 (some u9)) u10) this 9 (some u10)) u11) this 10 (some u11)) u12) this 11 (some u12)) u13) this 12 (some u13)) u14) this 13 (some u14)) u15) this 15 (some u15)) u16) this 16 (some u16)) u17) this 17 (some u17)) u18) this 18 (some u18)) u19) this 19 (some u19)) u20) this 20 (some u20)) u21) this 21 (some u21)) u22) this 22 (some u22)) u23) this 23 (some u23)) u24) this 24 (some u24)) u25) this 25 (some u25)) u26) this 26 (some u26)) u27) this 28 (some u27)) u28) this 29 (some u28)) u29) this 30 (some u29)) u30) this 31 (some u30)) u31) this 32 (some u31)) u32 = false ∧ aty (u32 % 32) = some .int ∧ aln u32 = 6 ∧ this % 32 = 10 ∧ ∃ u33, sX (wP (wN (wP (wN (wP (wN (wP (wN (wP (wN (wP (wN (wP (wN (wP (wN (wP (wN (wP (wN (wP (wN (wP (wN (wP (wN (wP (wN (wP (wN (wP (wN (wP (wN (wP (wN (wP (wN (wP (wN (wP (wN (wP (wN (wP (wN (wP (wN (wP (wN (wP (wN (wP (wN (wP (wN (wP (wN (wP (wN (wP (wN (wP (wN σ u1) this 0 (some u1)) u2) this 1 (some u2)) u3) this 2 (some u3)) u4) this 3 (some u4)) u5) this 4 (some u5)) u6) this 5 (some u6)) u7) this 6 (some u7)) u8) this 7 (some u8)) u9) this 8 (some u9)) u10) this 9 (some u10)) u11) this 10 (some u11)) u12) this 11 (some u12)) u13) this 12 (some u13)) u14) this 13 (some u14)) u15) this 15 (some u15)) u16) this 16 (some u16)) u17) this 17 (some u17)) u18) this 18 (some u18)) u19) this 19 (some u19)) u20) this 20 (some u20)) u21) this 21 (some u21)) u22) this 22 (some u22)) u23) this 23 (some u23)) u24) this 24 (some u24)) u25) this 25 (some u25)) u26) this 26 (some u26)) u27) this 28 (some u27)) u28) this 29 (some u28)) u29) this 30 (some u29)) u30) this 31 (some u30)) u31) this 32 (some u31)) u32) this 33 (some u32)) u33 = false ∧ aty (u33 % 32) = some .int ∧ aln u33 = 6 ∧ this % 32 = 10 ∧ ∃ u34, sX (wP (wN (wP (wN (wP (wN (wP (wN (wP (wN (wP (wN (wP (wN (wP (wN (wP (wN (wP (wN (wP (wN (wP (wN (wP (wN (wP (wN (wP (wN (wP (wN (wP (wN (wP (wN (wP (wN (wP (wN (wP (wN (wP (wN (wP (wN (wP (wN (wP (wN (wP (wN (wP (wN (wP (wN (wP (wN (wP (wN (wP (wN (wP (wN (wP (wN σ u1) this 0 (some u1)) u2) this 1 (some u2)) u3) this 2 (some u3)) u4) this 3 (some u4)) u5) this 4 (some u5)) u6) this 5 (some u6)) u7) this 6 (some u7)) u8) this 7 (some u8)) u9) this 8 (some u9)) u10) this 9 (some u10)) u11) this 10 (some u11)) u12) this 11 (some u12)) u13) this 12 (some u13)) u14) this 13 (some u14)) u15) this 15 (some u15)) u16) this 16 (some u16)) u17) this 17 (some u17)) u18) this 18 (some u18)) u19) this 19 (some u19)) u20) this 20 (some u20)) u21) this 21 (some u21)) u22) this 22 (some u22)) u23) this 23 (some u23)) u24) this 24 (some u24)) u25) this 25 (some u25)) u26) this 26 (some u26)) u27) this 28 (some u27)) u28) this 29 (some u28)) u29) this 30 (some u29)) u30) this 31 (some u30)) u31) this 32 (some u31)) u32) this 33 (some u32)) u33) this 34 (some u33)) u34 = false ∧ aty (u34 % 32) = some .int ∧ aln u34 = 6 ∧ this % 32 = 10 ∧ ∃ u35, sX (wP (wN (wP (wN (wP (wN (wP (wN (wP (wN (wP (wN (wP (wN (wP (wN (wP (wN (wP (wN (wP (wN (wP (wN (wP (wN (wP (wN (wP (wN (wP (wN (wP (wN (wP (wN (wP (wN (wP (wN (wP (wN (wP (wN (wP (wN (wP (wN (wP (wN (wP (wN (wP (wN (wP (wN (wP (wN (wP (wN (wP (wN (wP (wN (wP (wN (wP (wN σ u1) this 0 (some u1)) u2) this 1 (some u2)) u3) this 2 (some u3)) u4) this 3 (some u4)) u5) this 4 (some u5)) u6) this 5 (some u6)) u7) this 6 (some u7)) u8) this 7 (some u8)) u9) this 8 (some u9)) u10) this 9 (some u10)) u11) this 10 (some u11)) u12) this 11 (some u12)) u13) this 12 (some u13)) u14) this 13 (some u14)) u15) this 15 (some u15)) u16) this 16 (some u16)) u17) this 17 (some u17)) u18) this 18 (some u18)) u19) this 19 (some u19)) u20) this 20 (some u20)) u21) this 21 (some u21)) u22) this 22 (some u22)) u23) this 23 (some u23)) u24) this 24 (some u24)) u25) this 25 (some u25)) u26) this 26 (some u26)) u27) this 28 (some u27)) u28) this 29 (some u28)) u29) this 30 (some u29)) u30) this 31 (some u30)) u31) this 32 (some u31)) u32) this 33 (some u32)) u33) this 34 (some u33)) u34) this 35 (some u34)) u35 = false ∧ aty (u35 % 32) = some .int ∧ aln u35 = 6 ∧ this % 32 = 10 ∧ ∃ u36, sX (wP (wN (wP (wN (wP (wN (wP (wN (wP (wN (wP (wN (wP (wN (wP (wN (wP (wN (wP (wN (wP (wN (wP (wN (wP (wN (wP (wN (wP (wN (wP (wN (wP (wN (wP (wN (wP (wN (wP (wN (wP (wN (wP (wN (wP (wN (wP (wN (wP (wN (wP (wN (wP (wN (wP (wN (wP (wN (wP (wN (wP (wN (wP (wN (wP (wN (wP (wN (wP (wN σ u1) this 0 (some u1)) u2) this 1 (some u2)) u3) this 2 (some u3)) u4) this 3 (some u4)) u5) this 4 (some u5)) u6) this 5 (some u6)) u7) this 6 (some u7)) u8) this 7 (some u8)) u9) this 8 (some u9)) u10) this 9 (some u10)) u11) this 10 (some u11)) u12) this 11 (some u12)) u13) this 12 (some u13)) u14) this 13 (some u14)) u15) this 15 (some u15)) u16) this 16 (some u16)) u17) this 17 (some u17)) u18) this 18 (some u18)) u19) this 19 (some u19)) u20) this 20 (some u20)) u21) this 21 (some u21)) u22) this 22 (some u22)) u23) this 23 (some u23)) u24) this 24 (some u24)) u25) this 25 (some u25)) u26) this 26 (some u26)) u27) this 28 (some u27)) u28) this 29 (some u28)) u29) this 30 (some u29)) u30) this 31 (some u30)) u31) this 32 (some u31)) u32) this 33 (some u32)) u33) this 34 (some u33)) u34) this 35 (some u34)) u35) this 36 (some u35)) u36 = false ∧ aty (u36 % 32) = some .int ∧ aln u36 = 6 ∧ this % 32 = 10 ∧ ∃ u37, sX (wP (wN (wP (wN (wP (wN (wP (wN (wP (wN (wP (wN (wP (wN (wP (wN (wP (wN (wP (wN (wP (wN (wP (wN (wP (wN (wP (wN (wP (wN (wP (wN (wP (wN (wP (wN (wP (wN (wP (wN (wP (wN (wP (wN (wP (wN (wP (wN (wP (wN (wP (wN (wP (wN (wP (wN (wP (wN (wP (wN (wP (wN (wP (wN (wP (wN (wP (wN (wP (wN (wP (wN σ u1) this 0 (some u1)) u2) this 1 (some u2)) u3) this 2 (some u3)) u4) this 3 (some u4)) u5) this 4 (some u5)) u6) this 5 (some u6)) u7) this 6 (some u7)) u8) this 7 (some u8)) u9) this 8 (some u9)) u10) this 9 (some u10)) u11) this 10 (some u11)) u12) this 11 (some u12)) u13) this 12 (some u13)) u14) this 13 (some u14)) u15) this 15 (some u15)) u16) this 16 (some u16)) u17) this 17 (some u17)) u18) this 18 (some u18)) u19) this 19 (some u19)) u20) this 20 (some u20)) u21) this 21 (some u21)) u22) this 22 (some u22)) u23) this 23 (some u23)) u24) this 24 (some u24)) u25) this 25 (some u25)) u26) this 26 (some u26)) u27) this 28 (some u27)) u28) this 29 (some u28)) u29) this 30 (some u29)) u30) this 31 (some u30)) u31) this 32 (some u31)) u32) this 33 (some u32)) u33) this 34 (some u33)) u34) this 35 (some u34)) u35) this 36 (some u35)) u36) this 37 (some u36)) u37 = false ∧ aty (u37 % 32) = some .int ∧ aln u37 = 6 ∧ this % 32 = 10 ∧ ∃ u38, sX (wP (wN (wP (wN (wP (wN (wP (wN (wP (wN (wP (wN (wP (wN (wP (wN (wP (wN (wP (wN (wP (wN (wP (wN (wP (wN (wP (wN (wP (wN (wP (wN (wP (wN (wP (wN (wP (wN (wP (wN (wP (wN (wP (wN (wP (wN (wP (wN (wP (wN (wP (wN (wP (wN (wP (wN (wP (wN (wP (wN (wP (wN (wP (wN (wP (wN (wP (wN (wP (wN (wP (wN (wP (wN σ u1) this 0 (some u1)) u2) this 1 (some u2)) u3) this 2 (some u3)) u4) this 3 (some u4)) u5) this 4 (some u5)) u6) this 5 (some u6)) u7) this 6 (some u7)) u8) this 7 (some u8)) u9) this 8 (some u9)) u10) this 9 (some u10)) u11) this 10 (some u11)) u12) this 11 (some u12)) u13) this 12 (some u13)) u14) this 13 (some u14)) u15) this 15 (some u15)) u16) this 16 (some u16)) u17) this 17 (some u17)) u18) this 18 (some u18)) u19) this 19 (some u19)) u20) this 20 (some u20)) u21) this 21 (some u21)) u22) this 22 (some u22)) u23) this 23 (some u23)) u24) this 24 (some u24)) u25) this 25 (some u25)) u26) this 26 (some u26)) u27) this 28 (some u27)) u28) this 29 (some u28)) u29) this 30 (some u29)) u30) this 31 (some u30)) u31) this 32 (some u31)) u32) this 33 (some u32)) u33) this 34 (some u33)) u34) this 35 (some u34)) u35) this 36 (some u35)) u36) this 37 (some u36)) u37) this 38 (some u37)) u38 = false ∧ aty (u38 % 32) = some .int ∧ aln u38 = 6 ∧ this % 32 = 10 ∧ ∃ u39, sX (wP (wN (wP (wN (wP (wN (wP (wN (wP (wN (wP (wN (wP (wN (wP (wN (wP (wN (wP (wN (wP (wN (wP (wN (wP (wN (wP (wN (wP (wN (wP (wN (wP (wN (wP (wN (wP (wN (wP (wN (wP (wN (wP (wN (wP (wN (wP (wN (wP (wN (wP (wN (wP (wN (wP (wN (wP (wN (wP (wN (wP (wN (wP (wN (wP (wN (wP (wN (wP (wN (wP (wN (wP (wN (wP (wN σ u1) this 0 (some u1)) u2) this 1 (some u2)) u3) this 2 (some u3)) u4) this 3 (some u4)) u5) this 4 (some u5)) u6) this 5 (some u6)) u7) this 6 (some u7)) u8) this 7 (some u8)) u9) this 8 (some u9)) u10) this 9 (some u10)) u11) this 10 (some u11)) u12) this 11 (some u12)) u13) this 12 (some u13)) u14) this 13 (some u14)) u15) this 15 (some u15)) u16) this 16 (some u16)) u17) this 17 (some u17)) u18) this 18 (some u18)) u19) this 19 (some u19)) u20) this 20 (some u20)) u21) this 21 (some u21)) u22) this 22 (some u22)) u23) this 23 (some u23)) u24) this 24 (some u24)) u25) this 25 (some u25)) u26) this 26 (some u26)) u27) this 28 (some u27)) u28) this 29 (some u28)) u29) this 30 (some u29)) u30) this 31 (some u30)) u31) this 32 (some u31)) u32) this 33 (some u32)) u33) this 34 (some u33)) u34) this 35 (some u34)) u35) this 36 (some u35)) u36) this 37 (some u36)) u37) this 38 (some u37)) u38) this 39 (some u38)) u39 = false ∧ aty (u39 % 32) = some .int ∧ aln u39 = 6 ∧ this % 32 = 10 ∧ ∃ u40, sX (wP (wN (wP (wN (wP (wN (wP (wN (wP (wN (wP (wN (wP (wN (wP (wN (wP (wN (wP (wN (wP (wN (wP (wN (wP (wN (wP (wN (wP (wN (wP (wN (wP (wN (wP (wN (wP (wN (wP (wN (wP (wN (wP (wN (wP (wN (wP (wN (wP (wN (wP (wN (wP (wN (wP (wN (wP (wN (wP (wN (wP (wN (wP (wN (wP (wN (wP (wN (wP (wN (wP (wN (wP (wN (wP (wN (wP (wN σ u1) this 0 (some u1)) u2) this 1 (some u2)) u3) this 2 (some u3)) u4) this 3 (some u4)) u5) this 4 (some u5)) u6) this 5 (some u6)) u7) this 6 (some u7)) u8) this 7 (some u8)) u9) this 8 (some u9)) u10) this 9 (some u10)) u11) this 10 (some u11)) u12) this 11 (some u12)) u13) this 12 (some u13)) u14) this 13 (some u14)) u15) this 15 (some u15)) u16) this 16 (some u16)) u17) this 17 (some u17)) u18) this 18 (some u18)) u19) this 19 (some u19)) u20) this 20 (some u20)) u21) this 21 (some u21)) u22) this 22 (some u22)) u23) this 23 (some u23)) u24) this 24 (some u24)) u25) this 25 (some u25)) u26) this 26 (some u26)) u27) this 28 (some u27)) u28) this 29 (some u28)) u29) this 30 (some u29)) u30) this 31 (some u30)) u31) this 32 (some u31)) u32) this 33 (some u32)) u33) this 34 (some u33)) u34) this 35 (some u34)) u35) this 36 (some u35)) u36) this 37 (some u36)) u37) this 38 (some u37)) u38) this 39 (some u38)) u39) this 40 (some u39)) u40 = false ∧ aty (u40 % 32) = some .int ∧ aln u40 = 6 ∧ this % 32 = 10 ∧ ∃ u41, sX (wP (wN (wP (wN (wP (wN (wP (wN (wP (wN (wP (wN (wP (wN (wP (wN (wP (wN (wP (wN (wP (wN (wP (wN (wP (wN (wP (wN (wP (wN (wP (wN (wP (wN (wP (wN (wP (wN (wP (wN (wP (wN (wP (wN (wP (wN (wP (wN (wP (wN (wP (wN (wP (wN (wP (wN (wP (wN (wP (wN (wP (wN (wP (wN (wP (wN (wP (wN (wP (wN (wP (wN (wP (wN (wP (wN (wP (wN (wP (wN σ u1) this 0 (some u1)) u2) this 1 (some u2)) u3) this 2 (some u3)) u4) this 3 (some u4)) u5) this 4 (some u5)) u6) this 5 (some u6)) u7) this 6 (some u7)) u8) this 7 (some u8)) u9) this 8 (some u9)) u10) this 9 (some u10)) u11) this 10 (some u11)) u12) this 11 (some u12)) u13) this 12 (some u13)) u14) this 13 (some u14)) u15) this 15 (some u15)) u16) this 16 (some u16)) u17) this 17 (some u17)) u18) this 18 (some u18)) u19) this 19 (some u19)) u20) this 20 (some u20)) u21) this 21 (some u21)) u22) this 22 (some u22)) u23) this 23 (some u23)) u24) this 24 (some u24)) u25) this 25 (some u25)) u26) this 26 (some u26)) u27) this 28 (some u27)) u28) this 29 (some u28)) u29) this 30 (some u29)) u30) this 31 (some u30)) u31) this 32 (some u31)) u32) this 33 (some u32)) u33) this 34 (some u33)) u34) this 35 (some u34)) u35) this 36 (some u35)) u36) this 37 (some u36)) u37) this 38 (some u37)) u38) this 39 (some u38)) u39) this 40 (some u39)) u40) this 42 (some u40)) u41 = false ∧ aty (u41 % 32) = some .int ∧ aln u41 = 6 ∧ this % 32 = 10 ∧ ∃ u42, sX (wP (wN (wP (wN (wP (wN (wP (wN (wP (wN (wP (wN (wP (wN (wP (wN (wP (wN (wP (wN (wP (wN (wP (wN (wP (wN (wP (wN (wP (wN (wP (wN (wP (wN (wP (wN (wP (wN (wP (wN (wP (wN (wP (wN (wP (wN (wP (wN (wP (wN (wP (wN (wP (wN (wP (wN (wP (wN (wP (wN (wP (wN (wP (wN (wP (wN (wP (wN (wP (wN (wP (wN (wP (wN (wP (wN (wP (wN (wP (wN (wP (wN σ u1) this 0 (some u1)) u2) this 1 (some u2)) u3) this 2 (some u3)) u4) this 3 (some u4)) u5) this 4 (some u5)) u6) this 5 (some u6)) u7) this 6 (some u7)) u8) this 7 (some u8)) u9) this 8 (some u9)) u10) this 9 (some u10)) u11) this 10 (some u11)) u12) this 11 (some u12)) u13) this 12 (some u13)) u14) this 13 (some u14)) u15) this 15 (some u15)) u16) this 16 (some u16)) u17) this 17 (some u17)) u18) this 18 (some u18)) u19) this 19 (some u19)) u20) this 20 (some u20)) u21) this 21 (some u21)) u22) this 22 (some u22)) u23) this 23 (some u23)) u24) this 24 (some u24)) u25) this 25 (some u25)) u26) this 26 (some u26)) u27) this 28 (some u27)) u28) this 29 (some u28)) u29) this 30 (some u29)) u30) this 31 (some u30)) u31) this 32 (some u31)) u32) this 33 (some u32)) u33) this 34 (some u33)) u34) this 35 (some u34)) u35) this 36 (some u35)) u36) this 37 (some u36)) u37) this 38 (some u37)) u38) this 39 (some u38)) u39) this 40 (some u39)) u40) this 42 (some u40)) u41) this 43 (some u41)) u42 = false ∧ aty (u42 % 32) = some .int ∧ aln u42 = 6 ∧ this % 32 = 10 ∧ ∃ u43, sX (wP (wN (wP (wN (wP (wN (wP (wN (wP (wN (wP (wN (wP (wN (wP (wN (wP (wN (wP (wN (wP (wN (wP (wN (wP (wN (wP (wN (wP (wN (wP (wN (wP (wN (wP (wN (wP (wN (wP (wN (wP (wN (wP (wN (wP (wN (wP (wN (wP (wN (wP (wN (wP (wN (wP (wN (wP (wN (wP (wN (wP (wN (wP (wN (wP (wN (wP (wN (wP (wN (wP (wN (wP (wN (wP (wN (wP (wN (wP (wN (wP (wN (wP (wN σ u1) this 0 (some u1)) u2) this 1 (some u2)) u3) this 2 (some u3)) u4) this 3 (some u4)) u5) this 4 (some u5)) u6) this 5 (some u6)) u7) this 6 (some u7)) u8) this 7 (some u8)) u9) this 8 (some u9)) u10) this 9 (some u10)) u11) this 10 (some u11)) u12) this 11 (some u12)) u13) this 12 (some u13)) u14) this 13 (some u14)) u15) this 15 (some u15)) u16) this 16 (some u16)) u17) this 17 (some u17)) u18) this 18 (some u18)) u19) this 19 (some u19)) u20) this 20 (some u20)) u21) this 21 (some u21)) u22) this 22 (some u22)) u23) this 23 (some u23)) u24) this 24 (some u24)) u25) this 25 (some u25)) u26) this 26 (some u26)) u27) this 28 (some u27)) u28) this 29 (some u28)) u29) this 30 (some u29)) u30) this 31 (some u30)) u31) this 32 (some u31)) u32) this 33 (some u32)) u33) this 34 (some u33)) u34) this 35 (some u34)) u35) this 36 (some u35)) u36) this 37 (some u36)) u37) this 38 (some u37)) u38) this 39 (some u38)) u39) this 40 (some u39)) u40) this 42 (some u40)) u41) this 43 (some u41)) u42) this 44 (some u42)) u43 = false ∧ aty (u43 % 32) = some .int ∧ aln u43 = 24 ∧ this % 32 = 10 ∧ ∃ u44, sX (wP (wN (wP (wN (wP (wN (wP (wN (wP (wN (wP (wN (wP (wN (wP (wN (wP (wN (wP (wN (wP (wN (wP (wN (wP (wN (wP (wN (wP (wN (wP (wN (wP (wN (wP (wN (wP (wN (wP (wN (wP (wN (wP (wN (wP (wN (wP (wN (wP (wN (wP (wN (wP (wN (wP (wN (wP (wN (wP (wN (wP (wN (wP (wN (wP (wN (wP (wN (wP (wN (wP (wN (wP (wN (wP (wN (wP (wN (wP (wN (wP (wN (wP (wN (wP (wN σ u1) this 0 (some u1)) u2) this 1 (some u2)) u3) this 2 (some u3)) u4) this 3 (some u4)) u5) this 4 (some u5)) u6) this 5 (some u6)) u7) this 6 (some u7)) u8) this 7 (some u8)) u9) this 8 (some u9)) u10) this 9 (some u10)) u11) this 10 (some u11)) u12) this 11 (some u12)) u13) this 12 (some u13)) u14) this 13 (some u14)) u15) this 15 (some u15)) u16) this 16 (some u16)) u17) this 17 (some u17)) u18) this 18 (some u18)) u19) this 19 (some u19)) u20) this 20 (some u20)) u21) this 21 (some u21)) u22) this 22 (some u22)) u23) this 23 (some u23)) u24) this 24 (some u24)) u25) this 25 (some u25)) u26) this 26 (some u26)) u27) this 28 (some u27)) u28) this 29 (some u28)) u29) this 30 (some u29)) u30) this 31 (some u30)) u31) this 32 (some u31)) u32) this 33 (some u32)) u33) this 34 (some u33)) u34) this 35 (some u34)) u35) this 36 (some u35)) u36) this 37 (some u36)) u37) this 38 (some u37)) u38) this 39 (some u38)) u39) this 40 (some u39)) u40) this 42 (some u40)) u41) this 43 (some u41)) u42) this 44 (some u42)) u43) this 45 (some u43)) u44 = false ∧ aty (u44 % 32) = some .int ∧ aln u44 = 24 ∧ this % 32 = 10 ∧ ∃ u45, sX (wP (wN (wP (wN (wP (wN (wP (wN (wP (wN (wP (wN (wP (wN (wP (wN (wP (wN (wP (wN (wP (wN (wP (wN (wP (wN (wP (wN (wP (wN (wP (wN (wP (wN (wP (wN (wP (wN (wP (wN (wP (wN (wP (wN (wP (wN (wP (wN (wP (wN (wP (wN (wP (wN (wP (wN (wP (wN (wP (wN (wP (wN (wP (wN (wP (wN (wP (wN (wP (wN (wP (wN (wP (wN (wP (wN (wP (wN (wP (wN (wP (wN (wP (wN (wP (wN (wP (wN σ u1) this 0 (some u1)) u2) this 1 (some u2)) u3) this 2 (some u3)) u4) this 3 (some u4)) u5) this 4 (some u5)) u6) this 5 (some u6)) u7) this 6 (some u7)) u8) this 7 (some u8)) u9) this 8 (some u9)) u10) this 9 (some u10)) u11) this 10 (some u11)) u12) this 11 (some u12)) u13) this 12 (some u13)) u14) this 13 (some u14)) u15) this 15 (some u15)) u16) this 16 (some u16)) u17) this 17 (some u17)) u18) this 18 (some u18)) u19) this 19 (some u19)) u20) this 20 (some u20)) u21) this 21 (some u21)) u22) this 22 (some u22)) u23) this 23 (some u23)) u24) this 24 (some u24)) u25) this 25 (some u25)) u26) this 26 (some u26)) u27) this 28 (some u27)) u28) this 29 (some u28)) u29) this 30 (some u29)) u30) this 31 (some u30)) u31) this 32 (some u31)) u32) this 33 (some u32)) u33) this 34 (some u33)) u34) this 35 (some u34)) u35) this 36 (some u35)) u36) this 37 (some u36)) u37) this 38 (some u37)) u38) this 39 (some u38)) u39) this 40 (some u39)) u40) this 42 (some u40)) u41) this 43 (some u41)) u42) this 44 (some u42)) u43) this 45 (some u43)) u44) this 46 (some u44)) u45 = false ∧ aty (u45 % 32) = some .int ∧ aln u45 = 10 ∧ this % 32 = 10 ∧ ∃ u46, sX (wP (wN (wP (wN (wP (wN (wP (wN (wP (wN (wP (wN (wP (wN (wP (wN (wP (wN (wP (wN (wP (wN (wP (wN (wP (wN (wP (wN (wP (wN (wP (wN (wP (wN (wP (wN (wP (wN (wP (wN (wP (wN (wP (wN (wP (wN (wP (wN (wP (wN (wP (wN (wP (wN (wP (wN (wP (wN (wP (wN (wP (wN (wP (wN (wP (wN (wP (wN (wP (wN (wP (wN (wP (wN (wP (wN (wP (wN (wP (wN (wP (wN (wP (wN (wP (wN (wP (wN (wP (wN σ u1) this 0 (some u1)) u2) this 1 (some u2)) u3) this 2 (some u3)) u4) this 3 (some u4)) u5) this 4 (some u5)) u6) this 5 (some u6)) u7) this 6 (some u7)) u8) this 7 (some u8)) u9) this 8 (some u9)) u10) this 9 (some u10)) u11) this 10 (some u11)) u12) this 11 (some u12)) u13) this 12 (some u13)) u14) this 13 (some u14)) u15) this 15 (some u15)) u16) this 16 (some u16)) u17) this 17 (some u17)) u18) this 18 (some u18)) u19) this 19 (some u19)) u20) this 20 (some u20)) u21) this 21 (some u21)) u22) this 22 (some u22)) u23) this 23 (some u23)) u24) this 24 (some u24)) u25) this 25 (some u25)) u26) this 26 (some u26)) u27) this 28 (some u27)) u28) this 29 (some u28)) u29) this 30 (some u29)) u30) this 31 (some u30)) u31) this 32 (some u31)) u32) this 33 (some u32)) u33) this 34 (some u33)) u34) this 35 (some u34)) u35) this 36 (some u35)) u36) this 37 (some u36)) u37) this 38 (some u37)) u38) this 39 (some u38)) u39) this 40 (some u39)) u40) this 42 (some u40)) u41) this 43 (some u41)) u42) this 44 (some u42)) u43) this 45 (some u43)) u44) this 46 (some u44)) u45) this 48 (some u45)) u46 = false ∧ aty (u46 % 32) = some .int ∧ aln u46 = 10 ∧ this % 32 = 10 ∧ ∃ u47, sX (wP (wN (wP (wN (wP (wN (wP (wN (wP (wN (wP (wN (wP (wN (wP (wN (wP (wN (wP (wN (wP (wN (wP (wN (wP (wN (wP (wN (wP (wN (wP (wN (wP (wN (wP (wN (wP (wN (wP (wN (wP (wN (wP (wN (wP (wN (wP (wN (wP (wN (wP (wN (wP (wN (wP (wN (wP (wN (wP (wN (wP (wN (wP (wN (wP (wN (wP (wN (wP (wN (wP (wN (wP (wN (wP (wN (wP (wN (wP (wN (wP (wN (wP (wN (wP (wN (wP (wN (wP (wN (wP (wN σ u1) this 0 (some u1)) u2) this 1 (some u2)) u3) this 2 (some u3)) u4) this 3 (some u4)) u5) this 4 (some u5)) u6) this 5 (some u6)) u7) this 6 (some u7)) u8) this 7 (some u8)) u9) this 8 (some u9)) u10) this 9 (some u10)) u11) this 10 (some u11)) u12) this 11 (some u12)) u13) this 12 (some u13)) u14) this 13 (some u14)) u15) this 15 (some u15)) u16) this 16 (some u16)) u17) this 17 (some u17)) u18) this 18 (some u18)) u19) this 19 (some u19)) u20) this 20 (some u20)) u21) this 21 (some u21)) u22) this 22 (some u22)) u23) this 23 (some u23)) u24) this 24 (some u24)) u25) this 25 (some u25)) u26) this 26 (some u26)) u27) this 28 (some u27)) u28) this 29 (some u28)) u29) this 30 (some u29)) u30) this 31 (some u30)) u31) this 32 (some u31)) u32) this 33 (some u32)) u33) this 34 (some u33)) u34) this 35 (some u34)) u35) this 36 (some u35)) u36) this 37 (some u36)) u37) this 38 (some u37)) u38) this 39 (some u38)) u39) this 40 (some u39)) u40) this 42 (some u40)) u41) this 43 (some u41)) u42) this 44 (some u42)) u43) this 45 (some u43)) u44) this 46 (some u44)) u45) this 48 (some u45)) u46) this 49 (some u46)) u47 = false ∧ aty (u47 % 32) = some .int ∧ aln u47 = 10 ∧ this % 32 = 10 ∧ ∃ u48, sX (wP (wN (wP (wN (wP (wN (wP (wN (wP (wN (wP (wN (wP (wN (wP (wN (wP (wN (wP (wN (wP (wN (wP (wN (wP (wN (wP (wN (wP (wN (wP (wN (wP (wN (wP (wN (wP (wN (wP (wN (wP (wN (wP (wN (wP (wN (wP (wN (wP (wN (wP (wN (wP (wN (wP (wN (wP (wN (wP (wN (wP (wN (wP (wN (wP (wN (wP (wN (wP (wN (wP (wN (wP (wN (wP (wN (wP (wN (wP (wN (wP (wN (wP (wN (wP (wN (wP (wN (wP (wN (wP (wN (wP (wN σ u1) this 0 (some u1)) u2) this 1 (some u2)) u3) this 2 (some u3)) u4) this 3 (some u4)) u5) this 4 (some u5)) u6) this 5 (some u6)) u7) this 6 (some u7)) u8) this 7 (some u8)) u9) this 8 (some u9)) u10) this 9 (some u10)) u11) this 10 (some u11)) u12) this 11 (some u12)) u13) this 12 (some u13)) u14) this 13 (some u14)) u15) this 15 (some u15)) u16) this 16 (some u16)) u17) this 17 (some u17)) u18) this 18 (some u18)) u19) this 19 (some u19)) u20) this 20 (some u20)) u21) this 21 (some u21)) u22) this 22 (some u22)) u23) this 23 (some u23)) u24) this 24 (some u24)) u25) this 25 (some u25)) u26) this 26 (some u26)) u27) this 28 (some u27)) u28) this 29 (some u28)) u29) this 30 (some u29)) u30) this 31 (some u30)) u31) this 32 (some u31)) u32) this 33 (some u32)) u33) this 34 (some u33)) u34) this 35 (some u34)) u35) this 36 (some u35)) u36) this 37 (some u36)) u37) this 38 (some u37)) u38) this 39 (some u38)) u39) this 40 (some u39)) u40) this 42 (some u40)) u41) this 43 (some u41)) u42) this 44 (some u42)) u43) this 45 (some u43)) u44) this 46 (some u44)) u45) this 48 (some u45)) u46) this 49 (some u46)) u47) this 50 (some u47)) u48 = false ∧ aty (u48 % 32) = some .int ∧ aln u48 = 10 ∧ this % 32 = 10 ∧ ∃ u49, sX (wP (wN (wP (wN (wP (wN (wP (wN (wP (wN (wP (wN (wP (wN (wP (wN (wP (wN (wP (wN (wP (wN (wP (wN (wP (wN (wP (wN (wP (wN (wP (wN (wP (wN (wP (wN (wP (wN (wP (wN (wP (wN (wP (wN (wP (wN (wP (wN (wP (wN (wP (wN (wP (wN (wP (wN (wP (wN (wP (wN (wP (wN (wP (wN (wP (wN (wP (wN (wP (wN (wP (wN (wP (wN (wP (wN (wP (wN (wP (wN (wP (wN (wP (wN (wP (wN (wP (wN (wP (wN (wP (wN (wP (wN (wP (wN σ u1) this 0 (some u1)) u2) this 1 (some u2)) u3) this 2 (some u3)) u4) this 3 (some u4)) u5) this 4 (some u5)) u6) this 5 (some u6)) u7) this 6 (some u7)) u8) this 7 (some u8)) u9) this 8 (some u9)) u10) this 9 (some u10)) u11) this 10 (some u11)) u12) this 11 (some u12)) u13) this 12 (some u13)) u14) this 13 (some u14)) u15) this 15 (some u15)) u16) this 16 (some u16)) u17) this 17 (some u17)) u18) this 18 (some u18)) u19) this 19 (some u19)) u20) this 20 (some u20)) u21) this 21 (some u21)) u22) this 22 (some u22)) u23) this 23 (some u23)) u24) this 24 (some u24)) u25) this 25 (some u25)) u26) this 26 (some u26)) u27) this 28 (some u27)) u28) this 29 (some u28)) u29) this 30 (some u29)) u30) this 31 (some u30)) u31) this 32 (some u31)) u32) this 33 (some u32)) u33) this 34 (some u33)) u34) this 35 (some u34)) u35) this 36 (some u35)) u36) this 37 (some u36)) u37) this 38 (some u37)) u38) this 39 (some u38)) u39) this 40 (some u39)) u40) this 42 (some u40)) u41) this 43 (some u41)) u42) this 44 (some u42)) u43) this 45 (some u43)) u44) this 46 (some u44)) u45) this 48 (some u45)) u46) this 49 (some u46)) u47) this 50 (some u47)) u48) this 51 (some u48)) u49 = false ∧ aty (u49 % 32) = some .int ∧ aln u49 = 10 ∧ this % 32 = 10 ∧ ∃ u50, sX (wP (wN (wP (wN (wP (wN (wP (wN (wP (wN (wP (wN (wP (wN (wP (wN (wP (wN (wP (wN (wP (wN (wP (wN (wP (wN (wP (wN (wP (wN (wP (wN (wP (wN (wP (wN (wP (wN (wP (wN (wP (wN (wP (wN (wP (wN (wP (wN (wP (wN (wP (wN (wP (wN (wP (wN (wP (wN (wP (wN (wP (wN (wP (wN (wP (wN (wP (wN (wP (wN (wP (wN (wP (wN (wP (wN (wP (wN (wP (wN (wP (wN (wP (wN (wP (wN (wP (wN (wP (wN (wP (wN (wP (wN (wP (wN (wP (wN σ u1) this 0 (some u1)) u2) this 1 (some u2)) u3) this 2 (some u3)) u4) this 3 (some u4)) u5) this 4 (some u5)) u6) this 5 (some u6)) u7) this 6 (some u7)) u8) this 7 (some u8)) u9) this 8 (some u9)) u10) this 9 (some u10)) u11) this 10 (some u11)) u12) this 11 (some u12)) u13) this 12 (some u13)) u14) this 13 (some u14)) u15) this 15 (some u15)) u16) this 16 (some u16)) u17) this 17 (some u17)) u18) this 18 (some u18)) u19) this 19 (some u19)) u20) this 20 (some u20)) u21) this 21 (some u21)) u22) this 22 (some u22)) u23) this 23 (some u23)) u24) this 24 (some u24)) u25) this 25 (some u25)) u26) this 26 (some u26)) u27) this 28 (some u27)) u28) this 29 (some u28)) u29) this 30 (some u29)) u30) this 31 (some u30)) u31) this 32 (some u31)) u32) this 33 (some u32)) u33) this 34 (some u33)) u34) this 35 (some u34)) u35) this 36 (some u35)) u36) this 37 (some u36)) u37) this 38 (some u37)) u38) this 39 (some u38)) u39) this 40 (some u39)) u40) this 42 (some u40)) u41) this 43 (some u41)) u42) this 44 (some u42)) u43) this 45 (some u43)) u44) this 46 (some u44)) u45) this 48 (some u45)) u46) this 49 (some u46)) u47) this 50 (some u47)) u48) this 51 (some u48)) u49) this 52 (some u49)) u50 = false ∧ aty (u50 % 32) = some .int ∧ aln u50 = 10 ∧ this % 32 = 10 ∧ ∃ u51, sX (wP (wN (wP (wN (wP (wN (wP (wN (wP (wN (wP (wN (wP (wN (wP (wN (wP (wN (wP (wN (wP (wN (wP (wN (wP (wN (wP (wN (wP (wN (wP (wN (wP (wN (wP (wN (wP (wN (wP (wN (wP (wN (wP (wN (wP (wN (wP (wN (wP (wN (wP (wN (wP (wN (wP (wN (wP (wN (wP (wN (wP (wN (wP (wN (wP (wN (wP (wN (wP (wN (wP (wN (wP (wN (wP (wN (wP (wN (wP (wN (wP (wN (wP (wN (wP (wN (wP (wN (wP (wN (wP (wN (wP (wN (wP (wN (wP (wN (wP (wN σ u1) this 0 (some u1)) u2) this 1 (some u2)) u3) this 2 (some u3)) u4) this 3 (some u4)) u5) this 4 (some u5)) u6) this 5 (some u6)) u7) this 6 (some u7)) u8) this 7 (some u8)) u9) this 8 (some u9)) u10) this 9 (some u10)) u11) this 10 (some u11)) u12) this 11 (some u12)) u13) this 12 (some u13)) u14) this 13 (some u14)) u15) this 15 (some u15)) u16) this 16 (some u16)) u17) this 17 (some u17)) u18) this 18 (some u18)) u19) this 19 (some u19)) u20) this 20 (some u20)) u21) this 21 (some u21)) u22) this 22 (some u22)) u23) this 23 (some u23)) u24) this 24 (some u24)) u25) this 25 (some u25)) u26) this 26 (some u26)) u27) this 28 (some u27)) u28) this 29 (some u28)) u29) this 30 (some u29)) u30) this 31 (some u30)) u31) this 32 (some u31)) u32) this 33 (some u32)) u33) this 34 (some u33)) u34) this 35 (some u34)) u35) this 36 (some u35)) u36) this 37 (some u36)) u37) this 38 (some u37)) u38) this 39 (some u38)) u39) this 40 (some u39)) u40) this 42 (some u40)) u41) this 43 (some u41)) u42) this 44 (some u42)) u43) this 45 (some u43)) u44) this 46 (some u44)) u45) this 48 (some u45)) u46) this 49 (some u46)) u47) this 50 (some u47)) u48) this 51 (some u48)) u49) this 52 (some u49)) u50) this 53 (some u50)) u51 = false ∧ aty (u51 % 32) = some .int ∧ aln u51 = 3 ∧ this % 32 = 10 ∧ ∃ u52, sX (wP (wN (wP (wN (wP (wN (wP (wN (wP (wN (wP (wN (wP (wN (wP (wN (wP (wN (wP (wN (wP (wN (wP (wN (wP (wN (wP (wN (wP (wN (wP (wN (wP (wN (wP (wN (wP (wN (wP (wN (wP (wN (wP (wN (wP (wN (wP (wN (wP (wN (wP (wN (wP (wN (wP (wN (wP (wN (wP (wN (wP (wN (wP (wN (wP (wN (wP (wN (wP (wN (wP (wN (wP (wN (wP (wN (wP (wN (wP (wN (wP (wN (wP (wN (wP (wN (wP (wN (wP (wN (wP (wN (wP (wN (wP (wN (wP (wN (wP (wN (wP (wN σ u1) this 0 (some u1)) u2) this 1 (some u2)) u3) this 2 (some u3)) u4) this 3 (some u4)) u5) this 4 (some u5)) u6) this 5 (some u6)) u7) this 6 (some u7)) u8) this 7 (some u8)) u9) this 8 (some u9)) u10) this 9 (some u10)) u11) this 10 (some u11)) u12) this 11 (some u12)) u13) this 12 (some u13)) u14) this 13 (some u14)) u15) this 15 (some u15)) u16) this 16 (some u16)) u17) this 17 (some u17)) u18) this 18 (some u18)) u19) this 19 (some u19)) u20) this 20 (some u20)) u21) this 21 (some u21)) u22) this 22 (some u22)) u23) this 23 (some u23)) u24) this 24 (some u24)) u25) this 25 (some u25)) u26) this 26 (some u26)) u27) this 28 (some u27)) u28) this 29 (some u28)) u29) this 30 (some u29)) u30) this 31 (some u30)) u31) this 32 (some u31)) u32) this 33 (some u32)) u33) this 34 (some u33)) u34) this 35 (some u34)) u35) this 36 (some u35)) u36) this 37 (some u36)) u37) this 38 (some u37)) u38) this 39 (some u38)) u39) this 40 (some u39)) u40) this 42 (some u40)) u41) this 43 (some u41)) u42) this 44 (some u42)) u43) this 45 (some u43)) u44) this 46 (some u44)) u45) this 48 (some u45)) u46) this 49 (some u46)) u47) this 50 (some u47)) u48) this 51 (some u48)) u49) this 52 (some u49)) u50) this 53 (some u50)) u51) this 60 (some u51)) u52 = false ∧ aty (u52 % 32) = some .int ∧ aln u52 = 12 ∧ this % 32 = 10 ∧ (∃ g, wp_X10_init_420 g this (0 : Int32) (wP (wN (wP (wN (wP (wN (wP (wN (wP (wN (wP (wN (wP (wN (wP (wN (wP (wN (wP (wN (wP (wN (wP (wN (wP (wN (wP (wN (wP (wN (wP (wN (wP (wN (wP (wN (wP (wN (wP (wN (wP (wN (wP (wN (wP (wN (wP (wN (wP (wN (wP (wN (wP (wN (wP (wN (wP (wN (wP (wN (wP (wN (wP (wN (wP (wN (wP (wN (wP (wN (wP (wN (wP (wN (wP (wN (wP (wN (wP (wN (wP (wN (wP (wN (wP (wN (wP (wN (wP (wN (wP (wN (wP (wN (wP (wN (wP (wN (wP (wN (wP (wN (wP (wN σ u1) this 0 (some u1)) u2) this 1 (some u2)) u3) this 2 (some u3)) u4) this 3 (some u4)) u5) this 4 (some u5)) u6) this 5 (some u6)) u7) this 6 (some u7)) u8) this 7 (some u8)) u9) this 8 (some u9)) u10) this 9 (some u10)) u11) this 10 (some u11)) u12) this 11 (some u12)) u13) this 12 (some u13)) u14) this 13 (some u14)) u15) this 15 (some u15)) u16) this 16 (some u16)) u17) this 17 (some u17)) u18) this 18 (some u18)) u19) this 19 (some u19)) u20) this 20 (some u20)) u21) this 21 (some u21)) u22) this 22 (some u22)) u23) this 23 (some u23)) u24) this 24 (some u24)) u25) this 25 (some u25)) u26) this 26 (some u26)) u27) this 28 (some u27)) u28) this 29 (some u28)) u29) this 30 (some u29)) u30) this 31 (some u30)) u31) this 32 (some u31)) u32) this 33 (some u32)) u33) this 34 (some u33)) u34) this 35 (some u34)) u35) this 36 (some u35)) u36) this 37 (some u36)) u37) this 38 (some u37)) u38) this 39 (some u38)) u39) this 40 (some u39)) u40) this 42 (some u40)) u41) this 43 (some u41)) u42) this 44 (some u42)) u43) this 45 (some u43)) u44) this 46 (some u44)) u45) this 48 (some u45)) u46) this 49 (some u46)) u47) this 50 (some u47)) u48) this 51 (some u48)) u49) this 52 (some u49)) u50) this 53 (some u50)) u51) this 60 (some u51)) u52) this 61 (some u52)) Post)
set_option maxRecDepth 100000 in
set_option maxHeartbeats 4000000 in
theorem ct_X10_init {l : Launch} (hl : l.stackTraces = false) {this : Nat} {σ : Sg} {Post : Rs → Sg → Prop} (h : wp_X10_init this σ Post) : Ct l yX10_init (.code yX10_init cX10_init 2 none) 1 12 52 1279 [.ref this] σ Post := by
  refine Ct_of [some (.ref this), none] hl (by decide +kernel) rfl (fun ad => by rfl) (fun ad => by exact Nat.le_of_ble_eq_true rfl) (fun v hv => mem_lo hv rfl) ?_
  intro G hG
  unfold wp_X10_init at h
  refine V_aload_n (v := .ref this) hG dX10_init_0 rfl rfl ?_
  refine V_objInit hG dX10_init_1 ml_X10_1 oi_1 oi_2 (Nat.le_of_ble_eq_true rfl) (by first | exact Nat.le_of_ble_eq_true rfl | (simp only [List.map_cons, List.map_nil, List.sum_cons, List.sum_nil, cat_rf]; exact Nat.le_of_ble_eq_true rfl)) ?_
  refine V_aload_n (v := .ref this) hG dX10_init_4 rfl rfl ?_
  refine V_bipush (v := 12) hG (by decide) dX10_init_5 ?_
  obtain ⟨u1, hu, hy, hn, h⟩ := h
  refine V_newan (ty := .int) (N := 12) hG dX10_init_7 rfl hu hy rfl (fun _ _ h => h) arr_int hn rfl (by decide) (Nat.le_of_ble_eq_true rfl) (Nat.le_of_ble_eq_true rfl) ?_
  obtain ⟨ht, h⟩ := h
  refine V_putS hG dX10_init_9 fl_X10_7 rfl (by decide +kernel) ht ?_
  refine V_aload_n (v := .ref this) hG dX10_init_12 rfl rfl ?_
  refine V_bipush (v := 12) hG (by decide) dX10_init_13 ?_
  obtain ⟨u2, hu, hy, hn, h⟩ := h
  refine V_newan (ty := .int) (N := 12) hG dX10_init_15 rfl hu hy rfl (fun _ _ h => h) arr_int hn rfl (by decide) (Nat.le_of_ble_eq_true rfl) (Nat.le_of_ble_eq_true rfl) ?_
  obtain ⟨ht, h⟩ := h
  refine V_putS hG dX10_init_17 fl_X10_13 rfl (by decide +kernel) ht ?_
  refine V_aload_n (v := .ref this) hG dX10_init_20 rfl rfl ?_
  refine V_bipush (v := 12) hG (by decide) dX10_init_21 ?_
  obtain ⟨u3, hu, hy, hn, h⟩ := h
  refine V_newan (ty := .int) (N := 12) hG dX10_init_23 rfl hu hy rfl (fun _ _ h => h) arr_int hn rfl (by decide) (Nat.le_of_ble_eq_true rfl) (Nat.le_of_ble_eq_true rfl) ?_
  obtain ⟨ht, h⟩ := h
  refine V_putS hG dX10_init_25 fl_X10_16 rfl (by decide +kernel) ht ?_
  refine V_aload_n (v := .ref this) hG dX10_init_28 rfl rfl ?_
  refine V_bipush (v := 12) hG (by decide) dX10_init_29 ?_
  obtain ⟨u4, hu, hy, hn, h⟩ := h
  refine V_newan (ty := .int) (N := 12) hG dX10_init_31 rfl hu hy rfl (fun _ _ h => h) arr_int hn rfl (by decide) (Nat.le_of_ble_eq_true rfl) (Nat.le_of_ble_eq_true rfl) ?_
  obtain ⟨ht, h⟩ := h
  refine V_putS hG dX10_init_33 fl_X10_19 rfl (by decide +kernel) ht ?_
  refine V_aload_n (v := .ref this) hG dX10_init_36 rfl rfl ?_
  refine V_bipush (v := 36) hG (by decide) dX10_init_37 ?_
  obtain ⟨u5, hu, hy, hn, h⟩ := h
  refine V_newan (ty := .int) (N := 36) hG dX10_init_39 rfl hu hy rfl (fun _ _ h => h) arr_int hn rfl (by decide) (Nat.le_of_ble_eq_true rfl) (Nat.le_of_ble_eq_true rfl) ?_
  obtain ⟨ht, h⟩ := h
  refine V_putS hG dX10_init_41 fl_X10_22 rfl (by decide +kernel) ht ?_
  refine V_aload_n (v := .ref this) hG dX10_init_44 rfl rfl ?_
  refine V_bipush (v := 36) hG (by decide) dX10_init_45 ?_
  obtain ⟨u6, hu, hy, hn, h⟩ := h
  refine V_newan (ty := .int) (N := 36) hG dX10_init_47 rfl hu hy rfl (fun _ _ h => h) arr_int hn rfl (by decide) (Nat.le_of_ble_eq_true rfl) (Nat.le_of_ble_eq_true rfl) ?_
  obtain ⟨ht, h⟩ := h
  refine V_putS hG dX10_init_49 fl_X10_25 rfl (by decide +kernel) ht ?_
  refine V_aload_n (v := .ref this) hG dX10_init_52 rfl rfl ?_
  refine V_bipush (v := 36) hG (by decide) dX10_init_53 ?_
  obtain ⟨u7, hu, hy, hn, h⟩ := h
  refine V_newan (ty := .int) (N := 36) hG dX10_init_55 rfl hu hy rfl (fun _ _ h => h) arr_int hn rfl (by decide) (Nat.le_of_ble_eq_true rfl) (Nat.le_of_ble_eq_true rfl) ?_
  obtain ⟨ht, h⟩ := h
  refine V_putS hG dX10_init_57 fl_X10_28 rfl (by decide +kernel) ht ?_
  refine V_aload_n (v := .ref this) hG dX10_init_60 rfl rfl ?_
  refine V_bipush (v := 12) hG (by decide) dX10_init_61 ?_
  obtain ⟨u8, hu, hy, hn, h⟩ := h
  refine V_newan (ty := .int) (N := 12) hG dX10_init_63 rfl hu hy rfl (fun _ _ h => h) arr_int hn rfl (by decide) (Nat.le_of_ble_eq_true rfl) (Nat.le_of_ble_eq_true rfl) ?_
  obtain ⟨ht, h⟩ := h
  refine V_putS hG dX10_init_65 fl_X10_31 rfl (by decide +kernel) ht ?_
  refine V_aload_n (v := .ref this) hG dX10_init_68 rfl rfl ?_
  refine V_bipush (v := 48) hG (by decide) dX10_init_69 ?_
  obtain ⟨u9, hu, hy, hn, h⟩ := h
  refine V_newan (ty := .int) (N := 48) hG dX10_init_71 rfl hu hy rfl (fun _ _ h => h) arr_int hn rfl (by decide) (Nat.le_of_ble_eq_true rfl) (Nat.le_of_ble_eq_true rfl) ?_
  obtain ⟨ht, h⟩ := h
  refine V_putS hG dX10_init_73 fl_X10_34 rfl (by decide +kernel) ht ?_
  refine V_aload_n (v := .ref this) hG dX10_init_76 rfl rfl ?_
  refine V_bipush (v := 48) hG (by decide) dX10_init_77 ?_
  obtain ⟨u10, hu, hy, hn, h⟩ := h
  refine V_newan (ty := .int) (N := 48) hG dX10_init_79 rfl hu hy rfl (fun _ _ h => h) arr_int hn rfl (by decide) (Nat.le_of_ble_eq_true rfl) (Nat.le_of_ble_eq_true rfl) ?_
  obtain ⟨ht, h⟩ := h
  refine V_putS hG dX10_init_81 fl_X10_37 rfl (by decide +kernel) ht ?_
  refine V_aload_n (v := .ref this) hG dX10_init_84 rfl rfl ?_
  refine V_bipush (v := 48) hG (by decide) dX10_init_85 ?_
  obtain ⟨u11, hu, hy, hn, h⟩ := h
  refine V_newan (ty := .int) (N := 48) hG dX10_init_87 rfl hu hy rfl (fun _ _ h => h) arr_int hn rfl (by decide) (Nat.le_of_ble_eq_true rfl) (Nat.le_of_ble_eq_true rfl) ?_
  obtain ⟨ht, h⟩ := h
  refine V_putS hG dX10_init_89 fl_X10_40 rfl (by decide +kernel) ht ?_
  refine V_aload_n (v := .ref this) hG dX10_init_92 rfl rfl ?_
  refine V_bipush (v := 12) hG (by decide) dX10_init_93 ?_
  obtain ⟨u12, hu, hy, hn, h⟩ := h
  refine V_newan (ty := .int) (N := 12) hG dX10_init_95 rfl hu hy rfl (fun _ _ h => h) arr_int hn rfl (by decide) (Nat.le_of_ble_eq_true rfl) (Nat.le_of_ble_eq_true rfl) ?_
  obtain ⟨ht, h⟩ := h
  refine V_putS hG dX10_init_97 fl_X10_43 rfl (by decide +kernel) ht ?_
  refine V_aload_n (v := .ref this) hG dX10_init_100 rfl rfl ?_
  refine V_iconst (v := 4) hG (by decide) dX10_init_101 ?_
  obtain ⟨u13, hu, hy, hn, h⟩ := h
  refine V_newan (ty := .int) (N := 4) hG dX10_init_102 rfl hu hy rfl (fun _ _ h => h) arr_int hn rfl (by decide) (Nat.le_of_ble_eq_true rfl) (Nat.le_of_ble_eq_true rfl) ?_
  obtain ⟨ht, h⟩ := h
  refine V_putS hG dX10_init_104 fl_X10_46 rfl (by decide +kernel) ht ?_
  refine V_aload_n (v := .ref this) hG dX10_init_107 rfl rfl ?_
  refine V_bipush (v := 12) hG (by decide) dX10_init_108 ?_
  obtain ⟨u14, hu, hy, hn, h⟩ := h
  refine V_newan (ty := .boolean) (N := 12) hG dX10_init_110 rfl hu hy rfl (fun _ _ h => h) arr_boolean hn rfl (by decide) (Nat.le_of_ble_eq_true rfl) (Nat.le_of_ble_eq_true rfl) ?_
  obtain ⟨ht, h⟩ := h
  refine V_putS hG dX10_init_112 fl_X10_49 rfl (by decide +kernel) ht ?_
  refine V_aload_n (v := .ref this) hG dX10_init_115 rfl rfl ?_
  refine V_bipush (v := 60) hG (by decide) dX10_init_116 ?_
  obtain ⟨u15, hu, hy, hn, h⟩ := h
  refine V_newan (ty := .int) (N := 60) hG dX10_init_118 rfl hu hy rfl (fun _ _ h => h) arr_int hn rfl (by decide) (Nat.le_of_ble_eq_true rfl) (Nat.le_of_ble_eq_true rfl) ?_
  obtain ⟨ht, h⟩ := h
  refine V_putS hG dX10_init_120 fl_X10_53 rfl (by decide +kernel) ht ?_
  refine V_aload_n (v := .ref this) hG dX10_init_123 rfl rfl ?_
  refine V_bipush (v := 60) hG (by decide) dX10_init_124 ?_
  obtain ⟨u16, hu, hy, hn, h⟩ := h
  refine V_newan (ty := .int) (N := 60) hG dX10_init_126 rfl hu hy rfl (fun _ _ h => h) arr_int hn rfl (by decide) (Nat.le_of_ble_eq_true rfl) (Nat.le_of_ble_eq_true rfl) ?_
  obtain ⟨ht, h⟩ := h
  refine V_putS hG dX10_init_128 fl_X10_56 rfl (by decide +kernel) ht ?_
  refine V_aload_n (v := .ref this) hG dX10_init_131 rfl rfl ?_
  refine V_bipush (v := 60) hG (by decide) dX10_init_132 ?_
  obtain ⟨u17, hu, hy, hn, h⟩ := h
  refine V_newan (ty := .int) (N := 60) hG dX10_init_134 rfl hu hy rfl (fun _ _ h => h) arr_int hn rfl (by decide) (Nat.le_of_ble_eq_true rfl) (Nat.le_of_ble_eq_true rfl) ?_
  obtain ⟨ht, h⟩ := h
  refine V_putS hG dX10_init_136 fl_X10_59 rfl (by decide +kernel) ht ?_
  refine V_aload_n (v := .ref this) hG dX10_init_139 rfl rfl ?_
  refine V_bipush (v := 60) hG (by decide) dX10_init_140 ?_
  obtain ⟨u18, hu, hy, hn, h⟩ := h
  refine V_newan (ty := .int) (N := 60) hG dX10_init_142 rfl hu hy rfl (fun _ _ h => h) arr_int hn rfl (by decide) (Nat.le_of_ble_eq_true rfl) (Nat.le_of_ble_eq_true rfl) ?_
  obtain ⟨ht, h⟩ := h
  refine V_putS hG dX10_init_144 fl_X10_62 rfl (by decide +kernel) ht ?_
  refine V_aload_n (v := .ref this) hG dX10_init_147 rfl rfl ?_
  refine V_bipush (v := 60) hG (by decide) dX10_init_148 ?_
  obtain ⟨u19, hu, hy, hn, h⟩ := h
  refine V_newan (ty := .int) (N := 60) hG dX10_init_150 rfl hu hy rfl (fun _ _ h => h) arr_int hn rfl (by decide) (Nat.le_of_ble_eq_true rfl) (Nat.le_of_ble_eq_true rfl) ?_
  obtain ⟨ht, h⟩ := h
  refine V_putS hG dX10_init_152 fl_X10_65 rfl (by decide +kernel) ht ?_
  refine V_aload_n (v := .ref this) hG dX10_init_155 rfl rfl ?_
  refine V_bipush (v := 60) hG (by decide) dX10_init_156 ?_
  obtain ⟨u20, hu, hy, hn, h⟩ := h
  refine V_newan (ty := .int) (N := 60) hG dX10_init_158 rfl hu hy rfl (fun _ _ h => h) arr_int hn rfl (by decide) (Nat.le_of_ble_eq_true rfl) (Nat.le_of_ble_eq_true rfl) ?_
  obtain ⟨ht, h⟩ := h
  refine V_putS hG dX10_init_160 fl_X10_68 rfl (by decide +kernel) ht ?_
  refine V_aload_n (v := .ref this) hG dX10_init_163 rfl rfl ?_
  refine V_bipush (v := 60) hG (by decide) dX10_init_164 ?_
  obtain ⟨u21, hu, hy, hn, h⟩ := h
  refine V_newan (ty := .boolean) (N := 60) hG dX10_init_166 rfl hu hy rfl (fun _ _ h => h) arr_boolean hn rfl (by decide) (Nat.le_of_ble_eq_true rfl) (Nat.le_of_ble_eq_true rfl) ?_
  obtain ⟨ht, h⟩ := h
  refine V_putS hG dX10_init_168 fl_X10_71 rfl (by decide +kernel) ht ?_
  refine V_aload_n (v := .ref this) hG dX10_init_171 rfl rfl ?_
  refine V_bipush (v := 60) hG (by decide) dX10_init_172 ?_
  obtain ⟨u22, hu, hy, hn, h⟩ := h
  refine V_newan (ty := .boolean) (N := 60) hG dX10_init_174 rfl hu hy rfl (fun _ _ h => h) arr_boolean hn rfl (by decide) (Nat.le_of_ble_eq_true rfl) (Nat.le_of_ble_eq_true rfl) ?_
  obtain ⟨ht, h⟩ := h
  refine V_putS hG dX10_init_176 fl_X10_74 rfl (by decide +kernel) ht ?_
  refine V_aload_n (v := .ref this) hG dX10_init_179 rfl rfl ?_
  refine V_bipush (v := 60) hG (by decide) dX10_init_180 ?_
  obtain ⟨u23, hu, hy, hn, h⟩ := h
  refine V_newan (ty := .int) (N := 60) hG dX10_init_182 rfl hu hy rfl (fun _ _ h => h) arr_int hn rfl (by decide) (Nat.le_of_ble_eq_true rfl) (Nat.le_of_ble_eq_true rfl) ?_
  obtain ⟨ht, h⟩ := h
  refine V_putS hG dX10_init_184 fl_X10_77 rfl (by decide +kernel) ht ?_
  refine V_aload_n (v := .ref this) hG dX10_init_187 rfl rfl ?_
  refine V_bipush (v := 60) hG (by decide) dX10_init_188 ?_
  obtain ⟨u24, hu, hy, hn, h⟩ := h
  refine V_newan (ty := .boolean) (N := 60) hG dX10_init_190 rfl hu hy rfl (fun _ _ h => h) arr_boolean hn rfl (by decide) (Nat.le_of_ble_eq_true rfl) (Nat.le_of_ble_eq_true rfl) ?_
  obtain ⟨ht, h⟩ := h
  refine V_putS hG dX10_init_192 fl_X10_80 rfl (by decide +kernel) ht ?_
  refine V_aload_n (v := .ref this) hG dX10_init_195 rfl rfl ?_
  refine V_bipush (v := 60) hG (by decide) dX10_init_196 ?_
  obtain ⟨u25, hu, hy, hn, h⟩ := h
  refine V_newan (ty := .int) (N := 60) hG dX10_init_198 rfl hu hy rfl (fun _ _ h => h) arr_int hn rfl (by decide) (Nat.le_of_ble_eq_true rfl) (Nat.le_of_ble_eq_true rfl) ?_
  obtain ⟨ht, h⟩ := h
  refine V_putS hG dX10_init_200 fl_X10_83 rfl (by decide +kernel) ht ?_
  refine V_aload_n (v := .ref this) hG dX10_init_203 rfl rfl ?_
  refine V_bipush (v := 60) hG (by decide) dX10_init_204 ?_
  obtain ⟨u26, hu, hy, hn, h⟩ := h
  refine V_newan (ty := .long) (N := 60) hG dX10_init_206 rfl hu hy rfl (fun _ _ h => h) arr_long hn rfl (by decide) (Nat.le_of_ble_eq_true rfl) (Nat.le_of_ble_eq_true rfl) ?_
  obtain ⟨ht, h⟩ := h
  refine V_putS hG dX10_init_208 fl_X10_86 rfl (by decide +kernel) ht ?_
  refine V_aload_n (v := .ref this) hG dX10_init_211 rfl rfl ?_
  refine V_bipush (v := 6) hG (by decide) dX10_init_212 ?_
  obtain ⟨u27, hu, hy, hn, h⟩ := h
  refine V_newan (ty := .int) (N := 6) hG dX10_init_214 rfl hu hy rfl (fun _ _ h => h) arr_int hn rfl (by decide) (Nat.le_of_ble_eq_true rfl) (Nat.le_of_ble_eq_true rfl) ?_
  obtain ⟨ht, h⟩ := h
  refine V_putS hG dX10_init_216 fl_X10_90 rfl (by decide +kernel) ht ?_
  refine V_aload_n (v := .ref this) hG dX10_init_219 rfl rfl ?_
  refine V_bipush (v := 6) hG (by decide) dX10_init_220 ?_
  obtain ⟨u28, hu, hy, hn, h⟩ := h
  refine V_newan (ty := .int) (N := 6) hG dX10_init_222 rfl hu hy rfl (fun _ _ h => h) arr_int hn rfl (by decide) (Nat.le_of_ble_eq_true rfl) (Nat.le_of_ble_eq_true rfl) ?_
  obtain ⟨ht, h⟩ := h
  refine V_putS hG dX10_init_224 fl_X10_93 rfl (by decide +kernel) ht ?_
  refine V_aload_n (v := .ref this) hG dX10_init_227 rfl rfl ?_
  refine V_bipush (v := 6) hG (by decide) dX10_init_228 ?_
  obtain ⟨u29, hu, hy, hn, h⟩ := h
  refine V_newan (ty := .int) (N := 6) hG dX10_init_230 rfl hu hy rfl (fun _ _ h => h) arr_int hn rfl (by decide) (Nat.le_of_ble_eq_true rfl) (Nat.le_of_ble_eq_true rfl) ?_
  obtain ⟨ht, h⟩ := h
  refine V_putS hG dX10_init_232 fl_X10_96 rfl (by decide +kernel) ht ?_
  refine V_aload_n (v := .ref this) hG dX10_init_235 rfl rfl ?_
  refine V_bipush (v := 6) hG (by decide) dX10_init_236 ?_
  obtain ⟨u30, hu, hy, hn, h⟩ := h
  refine V_newan (ty := .int) (N := 6) hG dX10_init_238 rfl hu hy rfl (fun _ _ h => h) arr_int hn rfl (by decide) (Nat.le_of_ble_eq_true rfl) (Nat.le_of_ble_eq_true rfl) ?_
  obtain ⟨ht, h⟩ := h
  refine V_putS hG dX10_init_240 fl_X10_99 rfl (by decide +kernel) ht ?_
  refine V_aload_n (v := .ref this) hG dX10_init_243 rfl rfl ?_
  refine V_bipush (v := 6) hG (by decide) dX10_init_244 ?_
  obtain ⟨u31, hu, hy, hn, h⟩ := h
  refine V_newan (ty := .int) (N := 6) hG dX10_init_246 rfl hu hy rfl (fun _ _ h => h) arr_int hn rfl (by decide) (Nat.le_of_ble_eq_true rfl) (Nat.le_of_ble_eq_true rfl) ?_
  obtain ⟨ht, h⟩ := h
  refine V_putS hG dX10_init_248 fl_X10_102 rfl (by decide +kernel) ht ?_
  refine V_aload_n (v := .ref this) hG dX10_init_251 rfl rfl ?_
  refine V_bipush (v := 6) hG (by decide) dX10_init_252 ?_
  obtain ⟨u32, hu, hy, hn, h⟩ := h
  refine V_newan (ty := .int) (N := 6) hG dX10_init_254 rfl hu hy rfl (fun _ _ h => h) arr_int hn rfl (by decide) (Nat.le_of_ble_eq_true rfl) (Nat.le_of_ble_eq_true rfl) ?_
  obtain ⟨ht, h⟩ := h
  refine V_putS hG dX10_init_256 fl_X10_105 rfl (by decide +kernel) ht ?_
  refine V_aload_n (v := .ref this) hG dX10_init_259 rfl rfl ?_
  refine V_bipush (v := 6) hG (by decide) dX10_init_260 ?_
  obtain ⟨u33, hu, hy, hn, h⟩ := h
  refine V_newan (ty := .int) (N := 6) hG dX10_init_262 rfl hu hy rfl (fun _ _ h => h) arr_int hn rfl (by decide) (Nat.le_of_ble_eq_true rfl) (Nat.le_of_ble_eq_true rfl) ?_
  obtain ⟨ht, h⟩ := h
  refine V_putS hG dX10_init_264 fl_X10_108 rfl (by decide +kernel) ht ?_
  refine V_aload_n (v := .ref this) hG dX10_init_267 rfl rfl ?_
  refine V_bipush (v := 6) hG (by decide) dX10_init_268 ?_
  obtain ⟨u34, hu, hy, hn, h⟩ := h
  refine V_newan (ty := .int) (N := 6) hG dX10_init_270 rfl hu hy rfl (fun _ _ h => h) arr_int hn rfl (by decide) (Nat.le_of_ble_eq_true rfl) (Nat.le_of_ble_eq_true rfl) ?_
  obtain ⟨ht, h⟩ := h
  refine V_putS hG dX10_init_272 fl_X10_111 rfl (by decide +kernel) ht ?_
  refine V_aload_n (v := .ref this) hG dX10_init_275 rfl rfl ?_
  refine V_bipush (v := 6) hG (by decide) dX10_init_276 ?_
  obtain ⟨u35, hu, hy, hn, h⟩ := h
  refine V_newan (ty := .int) (N := 6) hG dX10_init_278 rfl hu hy rfl (fun _ _ h => h) arr_int hn rfl (by decide) (Nat.le_of_ble_eq_true rfl) (Nat.le_of_ble_eq_true rfl) ?_
  obtain ⟨ht, h⟩ := h
  refine V_putS hG dX10_init_280 fl_X10_114 rfl (by decide +kernel) ht ?_
  refine V_aload_n (v := .ref this) hG dX10_init_283 rfl rfl ?_
  refine V_bipush (v := 6) hG (by decide) dX10_init_284 ?_
  obtain ⟨u36, hu, hy, hn, h⟩ := h
  refine V_newan (ty := .int) (N := 6) hG dX10_init_286 rfl hu hy rfl (fun _ _ h => h) arr_int hn rfl (by decide) (Nat.le_of_ble_eq_true rfl) (Nat.le_of_ble_eq_true rfl) ?_
  obtain ⟨ht, h⟩ := h
  refine V_putS hG dX10_init_288 fl_X10_117 rfl (by decide +kernel) ht ?_
  refine V_aload_n (v := .ref this) hG dX10_init_291 rfl rfl ?_
  refine V_bipush (v := 6) hG (by decide) dX10_init_292 ?_
  obtain ⟨u37, hu, hy, hn, h⟩ := h
  refine V_newan (ty := .int) (N := 6) hG dX10_init_294 rfl hu hy rfl (fun _ _ h => h) arr_int hn rfl (by decide) (Nat.le_of_ble_eq_true rfl) (Nat.le_of_ble_eq_true rfl) ?_
  obtain ⟨ht, h⟩ := h
  refine V_putS hG dX10_init_296 fl_X10_120 rfl (by decide +kernel) ht ?_
  refine V_aload_n (v := .ref this) hG dX10_init_299 rfl rfl ?_
  refine V_bipush (v := 6) hG (by decide) dX10_init_300 ?_
  obtain ⟨u38, hu, hy, hn, h⟩ := h
  refine V_newan (ty := .int) (N := 6) hG dX10_init_302 rfl hu hy rfl (fun _ _ h => h) arr_int hn rfl (by decide) (Nat.le_of_ble_eq_true rfl) (Nat.le_of_ble_eq_true rfl) ?_
  obtain ⟨ht, h⟩ := h
  refine V_putS hG dX10_init_304 fl_X10_123 rfl (by decide +kernel) ht ?_
  refine V_aload_n (v := .ref this) hG dX10_init_307 rfl rfl ?_
  refine V_bipush (v := 6) hG (by decide) dX10_init_308 ?_
  obtain ⟨u39, hu, hy, hn, h⟩ := h
  refine V_newan (ty := .int) (N := 6) hG dX10_init_310 rfl hu hy rfl (fun _ _ h => h) arr_int hn rfl (by decide) (Nat.le_of_ble_eq_true rfl) (Nat.le_of_ble_eq_true rfl) ?_
  obtain ⟨ht, h⟩ := h
  refine V_putS hG dX10_init_312 fl_X10_126 rfl (by decide +kernel) ht ?_
  refine V_aload_n (v := .ref this) hG dX10_init_315 rfl rfl ?_
  refine V_bipush (v := 6) hG (by decide) dX10_init_316 ?_
  obtain ⟨u40, hu, hy, hn, h⟩ := h
  refine V_newan (ty := .int) (N := 6) hG dX10_init_318 rfl hu hy rfl (fun _ _ h => h) arr_int hn rfl (by decide) (Nat.le_of_ble_eq_true rfl) (Nat.le_of_ble_eq_true rfl) ?_
  obtain ⟨ht, h⟩ := h
  refine V_putS hG dX10_init_320 fl_X10_129 rfl (by decide +kernel) ht ?_
  refine V_aload_n (v := .ref this) hG dX10_init_323 rfl rfl ?_
  refine V_bipush (v := 6) hG (by decide) dX10_init_324 ?_
  obtain ⟨u41, hu, hy, hn, h⟩ := h
  refine V_newan (ty := .int) (N := 6) hG dX10_init_326 rfl hu hy rfl (fun _ _ h => h) arr_int hn rfl (by decide) (Nat.le_of_ble_eq_true rfl) (Nat.le_of_ble_eq_true rfl) ?_
  obtain ⟨ht, h⟩ := h
  refine V_putS hG dX10_init_328 fl_X10_132 rfl (by decide +kernel) ht ?_
  refine V_aload_n (v := .ref this) hG dX10_init_331 rfl rfl ?_
  refine V_bipush (v := 6) hG (by decide) dX10_init_332 ?_
  obtain ⟨u42, hu, hy, hn, h⟩ := h
  refine V_newan (ty := .int) (N := 6) hG dX10_init_334 rfl hu hy rfl (fun _ _ h => h) arr_int hn rfl (by decide) (Nat.le_of_ble_eq_true rfl) (Nat.le_of_ble_eq_true rfl) ?_
  obtain ⟨ht, h⟩ := h
  refine V_putS hG dX10_init_336 fl_X10_135 rfl (by decide +kernel) ht ?_
  refine V_aload_n (v := .ref this) hG dX10_init_339 rfl rfl ?_
  refine V_bipush (v := 24) hG (by decide) dX10_init_340 ?_
  obtain ⟨u43, hu, hy, hn, h⟩ := h
  refine V_newan (ty := .int) (N := 24) hG dX10_init_342 rfl hu hy rfl (fun _ _ h => h) arr_int hn rfl (by decide) (Nat.le_of_ble_eq_true rfl) (Nat.le_of_ble_eq_true rfl) ?_
  obtain ⟨ht, h⟩ := h
  refine V_putS hG dX10_init_344 fl_X10_138 rfl (by decide +kernel) ht ?_
  refine V_aload_n (v := .ref this) hG dX10_init_347 rfl rfl ?_
  refine V_bipush (v := 24) hG (by decide) dX10_init_348 ?_
  obtain ⟨u44, hu, hy, hn, h⟩ := h
  refine V_newan (ty := .int) (N := 24) hG dX10_init_350 rfl hu hy rfl (fun _ _ h => h) arr_int hn rfl (by decide) (Nat.le_of_ble_eq_true rfl) (Nat.le_of_ble_eq_true rfl) ?_
  obtain ⟨ht, h⟩ := h
  refine V_putS hG dX10_init_352 fl_X10_141 rfl (by decide +kernel) ht ?_
  refine V_aload_n (v := .ref this) hG dX10_init_355 rfl rfl ?_
  refine V_bipush (v := 10) hG (by decide) dX10_init_356 ?_
  obtain ⟨u45, hu, hy, hn, h⟩ := h
  refine V_newan (ty := .int) (N := 10) hG dX10_init_358 rfl hu hy rfl (fun _ _ h => h) arr_int hn rfl (by decide) (Nat.le_of_ble_eq_true rfl) (Nat.le_of_ble_eq_true rfl) ?_
  obtain ⟨ht, h⟩ := h
  refine V_putS hG dX10_init_360 fl_X10_144 rfl (by decide +kernel) ht ?_
  refine V_aload_n (v := .ref this) hG dX10_init_363 rfl rfl ?_
  refine V_bipush (v := 10) hG (by decide) dX10_init_364 ?_
  obtain ⟨u46, hu, hy, hn, h⟩ := h
  refine V_newan (ty := .int) (N := 10) hG dX10_init_366 rfl hu hy rfl (fun _ _ h => h) arr_int hn rfl (by decide) (Nat.le_of_ble_eq_true rfl) (Nat.le_of_ble_eq_true rfl) ?_
  obtain ⟨ht, h⟩ := h
  refine V_putS hG dX10_init_368 fl_X10_147 rfl (by decide +kernel) ht ?_
  refine V_aload_n (v := .ref this) hG dX10_init_371 rfl rfl ?_
  refine V_bipush (v := 10) hG (by decide) dX10_init_372 ?_
  obtain ⟨u47, hu, hy, hn, h⟩ := h
  refine V_newan (ty := .int) (N := 10) hG dX10_init_374 rfl hu hy rfl (fun _ _ h => h) arr_int hn rfl (by decide) (Nat.le_of_ble_eq_true rfl) (Nat.le_of_ble_eq_true rfl) ?_
  obtain ⟨ht, h⟩ := h
  refine V_putS hG dX10_init_376 fl_X10_150 rfl (by decide +kernel) ht ?_
  refine V_aload_n (v := .ref this) hG dX10_init_379 rfl rfl ?_
  refine V_bipush (v := 10) hG (by decide) dX10_init_380 ?_
  obtain ⟨u48, hu, hy, hn, h⟩ := h
  refine V_newan (ty := .int) (N := 10) hG dX10_init_382 rfl hu hy rfl (fun _ _ h => h) arr_int hn rfl (by decide) (Nat.le_of_ble_eq_true rfl) (Nat.le_of_ble_eq_true rfl) ?_
  obtain ⟨ht, h⟩ := h
  refine V_putS hG dX10_init_384 fl_X10_153 rfl (by decide +kernel) ht ?_
  refine V_aload_n (v := .ref this) hG dX10_init_387 rfl rfl ?_
  refine V_bipush (v := 10) hG (by decide) dX10_init_388 ?_
  obtain ⟨u49, hu, hy, hn, h⟩ := h
  refine V_newan (ty := .int) (N := 10) hG dX10_init_390 rfl hu hy rfl (fun _ _ h => h) arr_int hn rfl (by decide) (Nat.le_of_ble_eq_true rfl) (Nat.le_of_ble_eq_true rfl) ?_
  obtain ⟨ht, h⟩ := h
  refine V_putS hG dX10_init_392 fl_X10_156 rfl (by decide +kernel) ht ?_
  refine V_aload_n (v := .ref this) hG dX10_init_395 rfl rfl ?_
  refine V_bipush (v := 10) hG (by decide) dX10_init_396 ?_
  obtain ⟨u50, hu, hy, hn, h⟩ := h
  refine V_newan (ty := .int) (N := 10) hG dX10_init_398 rfl hu hy rfl (fun _ _ h => h) arr_int hn rfl (by decide) (Nat.le_of_ble_eq_true rfl) (Nat.le_of_ble_eq_true rfl) ?_
  obtain ⟨ht, h⟩ := h
  refine V_putS hG dX10_init_400 fl_X10_159 rfl (by decide +kernel) ht ?_
  refine V_aload_n (v := .ref this) hG dX10_init_403 rfl rfl ?_
  refine V_iconst (v := 3) hG (by decide) dX10_init_404 ?_
  obtain ⟨u51, hu, hy, hn, h⟩ := h
  refine V_newan (ty := .int) (N := 3) hG dX10_init_405 rfl hu hy rfl (fun _ _ h => h) arr_int hn rfl (by decide) (Nat.le_of_ble_eq_true rfl) (Nat.le_of_ble_eq_true rfl) ?_
  obtain ⟨ht, h⟩ := h
  refine V_putS hG dX10_init_407 fl_X10_162 rfl (by decide +kernel) ht ?_
  refine V_aload_n (v := .ref this) hG dX10_init_410 rfl rfl ?_
  refine V_bipush (v := 12) hG (by decide) dX10_init_411 ?_
  obtain ⟨u52, hu, hy, hn, h⟩ := h
  refine V_newan (ty := .int) (N := 12) hG dX10_init_413 rfl hu hy rfl (fun _ _ h => h) arr_int hn rfl (by decide) (Nat.le_of_ble_eq_true rfl) (Nat.le_of_ble_eq_true rfl) ?_
  obtain ⟨ht, h⟩ := h
  refine V_putS hG dX10_init_415 fl_X10_165 rfl (by decide +kernel) ht ?_
  refine V_iconst (v := 0) hG (by decide) dX10_init_418 ?_
  refine V_istore_n hG dX10_init_419 (Nat.le_of_ble_eq_true rfl) (hpV rfl rfl) ?_
  refine V_forget (lo' := [some (.ref this), some (.int (0 : Int32))]) ⟨rfl, ⟨rfl, trivial⟩⟩ ?_
  obtain ⟨g, h⟩ := h
  refine V_widen (k' := 52) (n' := 1279) (by first | exact Nat.le_of_ble_eq_true rfl | omega | (dsimp only; omega)) (by first | exact Nat.le_of_ble_eq_true rfl | omega | (dsimp only; omega)) ?_
  exact wv_X10_init_420 hl hG  g _ _ _ h
