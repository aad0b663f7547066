/-! Walks, by program. -/
theorem ofWF {l : Launch} {y : MethodName} {ws ws' : List Cond} {rm : Room} {Pc : Array Value → State → Prop} {Qc : Array Value → State → Outcome → State → Prop} {XC : String → State → State → Prop} {mc ms : Nat} {free : Addr → Prop} {cc : ByteArray} {maxL : Nat} {ret : Option FieldType}
    (hy : plainFor y = true) (hw : ws = Cond.code y cc maxL ret :: ws')
    (body : ∀ p e s m args below meth c s₁, BodyLoose p l y (headSpec ws rm) cc maxL ret e s m args below meth c s₁ → c.maxLocals = maxL → (∀ x ∈ c.exceptionTable.toList, False) → Pc args s →
      W p l e (headSpec ws rm).room s m args below meth c s.heap [] 0 0 (vx_MQ below Qc XC args s mc ms free) (entryFrame m args maxL)) : vx_Met l y ws rm Pc Qc XC mc ms free := by
  refine MetFree.of_bodySF (code := cc) (maxLocals := maxL) (ret := ret) hy ?_ ?_
  · intro args s m h hn
    obtain ⟨meth, c, h1, h2, h3, h4, h5, h6, -, -⟩ := Cond.code_spec hn (atoms_spec (ws := ws) h _ (by rw [hw]; exact List.mem_cons_self))
    exact ⟨meth, c, h1, h2, h3, h4, h5, h6⟩
  · intro p e s m args below meth c s₁ B hml hP _
    have hh0 : s₁.heap = s.heap := by rw [B.state]; rfl
    have ht : ∀ x ∈ c.exceptionTable.toList, False := by
      obtain ⟨meth9, c9, h1, h2, -, -, -, -, h7, -⟩ := Cond.code_spec B.named (atoms_spec (ws := ws) B.pre _ (by rw [hw]; exact List.mem_cons_self))
      cases Option.some.inj (h1.symm.trans B.method)
      cases Option.some.inj (h2.symm.trans (Stand.of_body B).code)
      intro x hx
      rw [Array.isEmpty_iff.mp h7] at hx
      cases hx
    obtain ⟨t, a1, o, b1, b2, b3⟩ := body p e s m args below meth c s₁ B hml ht hP s₁ hh0 (Stand.of_body B)
    exact ⟨t, o, a1, b1, b2, b3⟩
theorem Ct_ofF {l : Launch} {y : MethodName} {bytes : ByteArray} {maxL fr lc mc ms : Nat} {ret : Option FieldType} {av : List Value} {σ : Sg} {Post : Rs → Sg → Prop} (lo : Lo) (hl : l.stackTraces = false) (hy : plainFor y = true) (hlo : lo.length = maxL) (hav : ∀ ad, asl ad 0 lo = lv_args 0 (av.map (cv ad))) (hlen : ∀ ad, (lg_sl (av.map (cv ad))).length ≤ maxL) (hmem : ∀ v, some v ∈ lo → v ∈ av)
    (body : ∀ G, CX l G y bytes maxL ret [] { frames := fr, cells := mc, slots := ms, locals := lc } → V G (QM G mc ms Post) 0 lo [] σ 0 0) : Ct l y (.code y bytes maxL ret) fr lc mc ms av σ Post := by
  intro base bS D cA ad
  refine ofWF (cc := bytes) (maxL := maxL) (ret := ret) hy rfl fun p e s m args below meth c s₁ B hml hex hPc => ?_
  obtain ⟨rfl, hEv, hR, hoa⟩ := hPc
  have hts := atoms_spec (ws := Cond.code y bytes maxL ret :: GW) B.pre
  have h9 := body (l, p, e, { frames := fr, cells := mc, slots := ms, locals := lc }, s, m, (av.map (cv ad)).toArray, below, meth, c, base, bS, D, cA, ad, σ)
    ⟨B.exec, B.bytes, hml, findClass_of_methodNamed B.named, fun w hw => hts w (List.mem_cons_of_mem _ hw), B.notSynchronized, ⟨rfl, hl⟩, B.returns, (name_of_methodNamed B.named B.method).1, List.eq_nil_iff_forall_not_mem.mpr hex, rfl, hEv⟩
  have hle := lv_entry (av.map (cv ad)) (n := maxL) (hlen ad)
  rw [lg_entry_eq]
  exact h9 ad s.heap [] _ hR va_S.rf (hlo.trans hml.symm) (by rw [hav ad, hml]; exact hle) (fun v hv => hoa v (hmem v hv)) oks_nil (fun t ht => ⟨ht, rfl⟩)
def wp_X0_init (this : Nat) (a0 : Int32) (a1 : Option Nat) (a2 : Int32) (a3 : Int32) (σ : Sg) (Post : Rs → Sg → Prop) : Prop := this % 32 = 0 ∧ this % 32 = 0 ∧ this % 32 = 0 ∧ this % 32 = 0 ∧ this % 32 = 0 ∧ Post (.inl none) (wI (wI (wP (wI (wI σ this 9 (-1 : Int32)) this 0 a0) this 1 a1) this 2 a2) this 4 a3)
set_option maxRecDepth 100000 in
set_option maxHeartbeats 4000000 in
theorem ct_X0_init {l : Launch} (hl : l.stackTraces = false) {this : Nat} {a0 : Int32} {a1 : Option Nat} {a2 : Int32} {a3 : Int32} {σ : Sg} {Post : Rs → Sg → Prop} (h : wp_X0_init this a0 a1 a2 a3 σ Post) : Ct l yX0_init (.code yX0_init cX0_init 5 none) 1 12 0 0 [.ref this, .int a0, va_rf a1, .int a2, .int a3] σ Post := by
  refine Ct_of [some (.ref this), some (.int a0), some (va_rf a1), some (.int a2), some (.int a3)] hl (by decide +kernel) rfl (fun ad => by cases a1 <;> rfl) (fun ad => by cases a1 <;> exact Nat.le_of_ble_eq_true rfl) (fun v hv => mem_lo hv rfl) ?_
  intro G hG
  unfold wp_X0_init at h
  refine V_aload_n (v := .ref this) hG dX0_init_0 rfl rfl ?_
  refine V_objInit hG dX0_init_1 ml_X0_3 oi_1 oi_2 (Nat.le_of_ble_eq_true rfl) (by first | exact Nat.le_of_ble_eq_true rfl | (simp only [List.map_cons, List.map_nil, List.sum_cons, List.sum_nil, cat_rf]; exact Nat.le_of_ble_eq_true rfl)) ?_
  refine V_aload_n (v := .ref this) hG dX0_init_4 rfl rfl ?_
  refine V_iconst (v := (-1)) hG (by decide) dX0_init_5 ?_
  obtain ⟨ht, h⟩ := h
  refine V_putI hG dX0_init_6 fl_X0_9 rfl (fun e => absurd e (by decide)) rfl ht ?_
  refine V_aload_n (v := .ref this) hG dX0_init_9 rfl rfl ?_
  refine V_iload_n hG dX0_init_10 rfl ?_
  obtain ⟨ht, h⟩ := h
  refine V_putI hG dX0_init_11 fl_X0_15 rfl (fun e => absurd e (by decide)) (by decide +kernel) ht ?_
  refine V_aload_n (v := .ref this) hG dX0_init_14 rfl rfl ?_
  refine V_aload_n (v := va_rf a1) hG dX0_init_15 (isRef_rf _) rfl ?_
  obtain ⟨ht, h⟩ := h
  refine V_putP (v := a1) hG dX0_init_16 fl_X0_18 rfl (by decide +kernel) ht ?_
  refine V_aload_n (v := .ref this) hG dX0_init_19 rfl rfl ?_
  refine V_iload_n hG dX0_init_20 rfl ?_
  obtain ⟨ht, h⟩ := h
  refine V_putI hG dX0_init_21 fl_X0_22 rfl (fun e => absurd e (by decide)) rfl ht ?_
  refine V_aload_n (v := .ref this) hG dX0_init_24 rfl rfl ?_
  refine V_iload hG dX0_init_25 rfl ?_
  obtain ⟨ht, h⟩ := h
  refine V_putI hG dX0_init_27 fl_X0_25 rfl (fun e => absurd e (by decide)) rfl ht ?_
  exact V_vret hG dX0_init_30 (by first | exact Nat.le_of_ble_eq_true rfl | omega | (dsimp only; omega)) (by first | exact Nat.le_of_ble_eq_true rfl | omega | (dsimp only; omega)) h
def wp_X0_bit (this : Nat) (σ : Sg) (Post : Rs → Sg → Prop) : Prop := this % 32 = 0 ∧ Post (.inl (some (.long ((1 : Int64) <<< (Int32.toInt64 (sI σ this 0) &&& 63))))) σ
set_option maxRecDepth 100000 in
set_option maxHeartbeats 4000000 in
theorem ct_X0_bit {l : Launch} (hl : l.stackTraces = false) {this : Nat} {σ : Sg} {Post : Rs → Sg → Prop} (h : wp_X0_bit this σ Post) : Ct l yX0_bit (.code yX0_bit cX0_bit 1 (some .long)) 0 0 0 0 [.ref this] σ Post := by
  refine Ct_of [some (.ref this)] hl (by decide +kernel) rfl (fun ad => by rfl) (fun ad => by exact Nat.le_of_ble_eq_true rfl) (fun v hv => mem_lo hv rfl) ?_
  intro G hG
  unfold wp_X0_bit at h
  refine V_lconst (v := 1) hG (by decide) dX0_bit_0 ?_
  refine V_aload_n (v := .ref this) hG dX0_bit_1 rfl rfl ?_
  obtain ⟨ht, h⟩ := h
  refine V_getI hG dX0_bit_2 fl_X0_15 rfl ht ?_
  refine V_lshl hG dX0_bit_5 ?_
  exact V_lret hG dX0_bit_6 (by first | exact Nat.le_of_ble_eq_true rfl | omega | (dsimp only; omega)) (by first | exact Nat.le_of_ble_eq_true rfl | omega | (dsimp only; omega)) h
def wp_X0_wasBought (this : Nat) (σ : Sg) (Post : Rs → Sg → Prop) : Prop := this % 32 = 0 ∧ (((sI σ this 9) = (-1 : Int32) → (b01 (0 : Int32) ∧ Post (.inl (some (.int (0 : Int32)))) σ)) ∧ (¬ (sI σ this 9) = (-1 : Int32) → (b01 (1 : Int32) ∧ Post (.inl (some (.int (1 : Int32)))) σ)))
set_option maxRecDepth 100000 in
set_option maxHeartbeats 4000000 in
theorem ct_X0_wasBought {l : Launch} (hl : l.stackTraces = false) {this : Nat} {σ : Sg} {Post : Rs → Sg → Prop} (h : wp_X0_wasBought this σ Post) : Ct l yX0_wasBought (.code yX0_wasBought cX0_wasBought 1 (some .boolean)) 0 0 0 0 [.ref this] σ Post := by
  refine Ct_of [some (.ref this)] hl (by decide +kernel) rfl (fun ad => by rfl) (fun ad => by exact Nat.le_of_ble_eq_true rfl) (fun v hv => mem_lo hv rfl) ?_
  intro G hG
  unfold wp_X0_wasBought at h
  refine V_aload_n (v := .ref this) hG dX0_wasBought_0 rfl rfl ?_
  obtain ⟨ht, h⟩ := h
  refine V_getI hG dX0_wasBought_1 fl_X0_9 rfl ht ?_
  refine V_iconst (v := (-1)) hG (by decide) dX0_wasBought_4 ?_
  refine V_icmp_eq (tgt := 12) hG dX0_wasBought_5 (by decide) (fun c => ?_) (fun c => ?_)
  · replace h := h.1 c
    refine V_iconst (v := 0) hG (by decide) dX0_wasBought_12 ?_
    exact V_zret hG dX0_wasBought_13 h.1 (by first | exact Nat.le_of_ble_eq_true rfl | omega | (dsimp only; omega)) (by first | exact Nat.le_of_ble_eq_true rfl | omega | (dsimp only; omega)) h.2
  · replace h := h.2 c
    refine V_iconst (v := 1) hG (by decide) dX0_wasBought_8 ?_
    refine V_goto (tgt := 13) hG dX0_wasBought_9 (by decide) ?_
    exact V_zret hG dX0_wasBought_13 h.1 (by first | exact Nat.le_of_ble_eq_true rfl | omega | (dsimp only; omega)) (by first | exact Nat.le_of_ble_eq_true rfl | omega | (dsimp only; omega)) h.2
def wp_X2_operationAt (this : Nat) (a0 : Int32) (σ : Sg) (Post : Rs → Sg → Prop) : Prop := ((a0 < 0 → Post (.inl (some (.null))) σ) ∧ (¬ a0 < 0 → this % 32 = 2 ∧ (((sI σ this 7) ≤ a0 → Post (.inl (some (.null))) σ) ∧ (¬ (sI σ this 7) ≤ a0 → this % 32 = 2 ∧ ∀ o1, o1 = sP σ this 6 → ∃ u2, o1 = some u2 ∧ isRow u2 ∧ ∃ j3, a0 = nI j3 ∧ j3 < aln u2 ∧ ∀ o4, o4 = sP σ u2 j3 → Post (.inl (some (va_rf o4))) σ))))
set_option maxRecDepth 100000 in
set_option maxHeartbeats 4000000 in
theorem ct_X2_operationAt {l : Launch} (hl : l.stackTraces = false) {this : Nat} {a0 : Int32} {σ : Sg} {Post : Rs → Sg → Prop} (h : wp_X2_operationAt this a0 σ Post) : Ct l yX2_operationAt (.code yX2_operationAt cX2_operationAt 2 (some (.object "Millrace$Operation"))) 0 0 0 0 [.ref this, .int a0] σ Post := by
  refine Ct_of [some (.ref this), some (.int a0)] hl (by decide +kernel) rfl (fun ad => by rfl) (fun ad => by exact Nat.le_of_ble_eq_true rfl) (fun v hv => mem_lo hv rfl) ?_
  intro G hG
  unfold wp_X2_operationAt at h
  refine V_iload_n hG dX2_operationAt_0 rfl ?_
  refine V_if_lt (tgt := 21) hG dX2_operationAt_1 (by decide) (fun c => ?_) (fun c => ?_)
  · replace h := h.1 c
    refine V_null hG dX2_operationAt_21 ?_
    exact V_aret (v := .null) hG dX2_operationAt_22 rfl (by first | exact Nat.le_of_ble_eq_true rfl | omega | (dsimp only; omega)) (by first | exact Nat.le_of_ble_eq_true rfl | omega | (dsimp only; omega)) h
  · replace h := h.2 c
    refine V_iload_n hG dX2_operationAt_4 rfl ?_
    refine V_aload_n (v := .ref this) hG dX2_operationAt_5 rfl rfl ?_
    obtain ⟨ht, h⟩ := h
    refine V_getI hG dX2_operationAt_6 fl_X2_47 rfl ht ?_
    refine V_icmp_ge (tgt := 21) hG dX2_operationAt_9 (by decide) (fun c => ?_) (fun c => ?_)
    · replace h := h.1 c
      refine V_null hG dX2_operationAt_21 ?_
      exact V_aret (v := .null) hG dX2_operationAt_22 rfl (by first | exact Nat.le_of_ble_eq_true rfl | omega | (dsimp only; omega)) (by first | exact Nat.le_of_ble_eq_true rfl | omega | (dsimp only; omega)) h
    · replace h := h.2 c
      refine V_aload_n (v := .ref this) hG dX2_operationAt_12 rfl rfl ?_
      obtain ⟨ht, h⟩ := h
      refine V_getPv hG dX2_operationAt_13 fl_X2_19 rfl ht (fun o1 ho => ?_)
      replace h := h o1 ho
      refine V_iload_n hG dX2_operationAt_16 rfl ?_
      obtain ⟨u2, he, h⟩ := h
      subst he
      obtain ⟨ha, j3, hi, hj, h⟩ := h
      refine V_aaldv hG dX2_operationAt_17 ha hi hj (fun o4 ho => ?_)
      replace h := h o4 ho
      refine V_goto (tgt := 22) hG dX2_operationAt_18 (by decide) ?_
      exact V_aret (v := va_rf o4) hG dX2_operationAt_22 (isRef_rf _) (by first | exact Nat.le_of_ble_eq_true rfl | omega | (dsimp only; omega)) (by first | exact Nat.le_of_ble_eq_true rfl | omega | (dsimp only; omega)) h
def wp_X0_operationNow (this : Nat) (σ : Sg) (Post : Rs → Sg → Prop) : Prop := this % 32 = 0 ∧ ∀ o1, o1 = sP σ this 1 → this % 32 = 0 ∧ ∃ u2, o1 = some u2 ∧ u2 % 32 = 2 ∧ wp_X2_operationAt u2 (sI σ this 5) σ (KO (fun x4 σ3 => Post (.inl (some (va_rf x4))) σ3) (fun E σ3 => Post (.inr E) σ3))
set_option maxRecDepth 100000 in
set_option maxHeartbeats 4000000 in
theorem ct_X0_operationNow {l : Launch} (hl : l.stackTraces = false) {this : Nat} {σ : Sg} {Post : Rs → Sg → Prop} (h : wp_X0_operationNow this σ Post) : Ct l yX0_operationNow (.code yX0_operationNow cX0_operationNow 1 (some (.object "Millrace$Operation"))) 1 21 0 0 [.ref this] σ Post := by
  refine Ct_of [some (.ref this)] hl (by decide +kernel) rfl (fun ad => by rfl) (fun ad => by exact Nat.le_of_ble_eq_true rfl) (fun v hv => mem_lo hv rfl) ?_
  intro G hG
  unfold wp_X0_operationNow at h
  refine V_aload_n (v := .ref this) hG dX0_operationNow_0 rfl rfl ?_
  obtain ⟨ht, h⟩ := h
  refine V_getPv hG dX0_operationNow_1 fl_X0_18 rfl ht (fun o1 ho => ?_)
  replace h := h o1 ho
  refine V_aload_n (v := .ref this) hG dX0_operationNow_4 rfl rfl ?_
  obtain ⟨ht, h⟩ := h
  refine V_getI hG dX0_operationNow_5 fl_X0_28 rfl ht ?_
  obtain ⟨u2, he, h⟩ := h
  subst he
  obtain ⟨ht, h⟩ := h
  refine V_cVO _ _ hG dX0_operationNow_8 (ct_X2_operationAt hl h) mv_X2_operationAt ml_X0_31 ht rfl rfl rfl rfl (by first | exact Nat.le_of_ble_eq_true rfl | (simp only [List.map_cons, List.map_nil, List.sum_cons, List.sum_nil, cat_rf]; exact Nat.le_of_ble_eq_true rfl)) (Nat.le_of_ble_eq_true rfl) (Nat.le_of_ble_eq_true rfl) (by first | exact Nat.le_of_ble_eq_true rfl | omega | (dsimp only; omega)) (by first | exact Nat.le_of_ble_eq_true rfl | omega | (dsimp only; omega)) ?_ (fun x4 σ3 h9 => ?_)
  · exact fun E σ3 hx => VX_out hG (by first | exact Nat.le_of_ble_eq_true rfl | omega | (dsimp only; omega)) (by first | exact Nat.le_of_ble_eq_true rfl | omega | (dsimp only; omega)) hx
  · replace h := h9
    clear h9
    exact V_aret (v := va_rf x4) hG dX0_operationNow_11 (isRef_rf _) (by first | exact Nat.le_of_ble_eq_true rfl | omega | (dsimp only; omega)) (by first | exact Nat.le_of_ble_eq_true rfl | omega | (dsimp only; omega)) h
def wp_X0_waitsFor_23  (v1 : Int32) (s0 : Option Nat) (σ : Sg) (Post : Rs → Sg → Prop) : Prop := ((s0 = none → (b01 (0 : Int32) ∧ Post (.inl (some (.int (0 : Int32)))) σ)) ∧ (∀ u1, s0 = some u1 → u1 % 32 = 5 ∧ ((¬ (sI σ u1 0) = v1 → (b01 (0 : Int32) ∧ Post (.inl (some (.int (0 : Int32)))) σ)) ∧ ((sI σ u1 0) = v1 → (b01 (1 : Int32) ∧ Post (.inl (some (.int (1 : Int32)))) σ)))))
set_option maxRecDepth 100000 in
set_option maxHeartbeats 4000000 in
theorem wv_X0_waitsFor_23 {L9 : Launch} {G : Cx} {Post : Rs → Sg → Prop} (hl : L9.stackTraces = false) (hG : CX L9 G yX0_waitsFor cX0_waitsFor 3 (some .boolean) [] { frames := 1, cells := 0, slots := 0, locals := 21 })   : ∀ (v1 : Int32) (s0 : Option Nat) (σ : Sg), wp_X0_waitsFor_23 v1 s0 σ Post → V G (QM G 0 0 Post) 23 [none, some (.int v1), none] [va_rf s0] σ 0 0 := by
  intro v1 s0 σ h
  unfold wp_X0_waitsFor_23 at h
  refine V_astore_n hG dX0_waitsFor_23 (isRef_rf _) (Nat.le_of_ble_eq_true rfl) (hpV rfl rfl) ?_
  refine V_aload_n (v := va_rf s0) hG dX0_waitsFor_24 (isRef_rf _) rfl ?_
  refine V_ifnull (o := s0) (tgt := 40) hG dX0_waitsFor_25 (by decide) (fun c => ?_) (fun c => ?_)
  · replace h := h.1 c
    subst c
    refine V_iconst (v := 0) hG (by decide) dX0_waitsFor_40 ?_
    exact V_zret hG dX0_waitsFor_41 h.1 (by first | exact Nat.le_of_ble_eq_true rfl | omega | (dsimp only; omega)) (by first | exact Nat.le_of_ble_eq_true rfl | omega | (dsimp only; omega)) h.2
  · obtain ⟨u1, c⟩ := c
    replace h := h.2 u1 c
    subst c
    refine V_aload_n (v := .ref u1) hG dX0_waitsFor_28 rfl rfl ?_
    obtain ⟨ht, h⟩ := h
    refine V_getI hG dX0_waitsFor_29 fl_X0_37 rfl ht ?_
    refine V_iload_n hG dX0_waitsFor_32 rfl ?_
    refine V_icmp_ne (tgt := 40) hG dX0_waitsFor_33 (by decide) (fun c => ?_) (fun c => ?_)
    · replace h := h.1 c
      refine V_iconst (v := 0) hG (by decide) dX0_waitsFor_40 ?_
      exact V_zret hG dX0_waitsFor_41 h.1 (by first | exact Nat.le_of_ble_eq_true rfl | omega | (dsimp only; omega)) (by first | exact Nat.le_of_ble_eq_true rfl | omega | (dsimp only; omega)) h.2
    · replace h := h.2 c
      refine V_iconst (v := 1) hG (by decide) dX0_waitsFor_36 ?_
      refine V_goto (tgt := 41) hG dX0_waitsFor_37 (by decide) ?_
      exact V_zret hG dX0_waitsFor_41 h.1 (by first | exact Nat.le_of_ble_eq_true rfl | omega | (dsimp only; omega)) (by first | exact Nat.le_of_ble_eq_true rfl | omega | (dsimp only; omega)) h.2
def wp_X0_waitsFor (this : Nat) (a0 : Int32) (σ : Sg) (Post : Rs → Sg → Prop) : Prop := this % 32 = 0 ∧ ((¬ (sI σ this 4) = (1 : Int32) → (wp_X0_waitsFor_23 a0 none σ Post)) ∧ ((sI σ this 4) = (1 : Int32) → this % 32 = 0 ∧ ∀ o1, o1 = sP σ this 1 → this % 32 = 0 ∧ ∃ u2, o1 = some u2 ∧ u2 % 32 = 2 ∧ wp_X2_operationAt u2 (sI σ this 5) σ (KO (fun x4 σ3 => (wp_X0_waitsFor_23 a0 x4 σ3 Post)) (fun E σ3 => Post (.inr E) σ3))))
set_option maxRecDepth 100000 in
set_option maxHeartbeats 4000000 in
theorem ct_X0_waitsFor {l : Launch} (hl : l.stackTraces = false) {this : Nat} {a0 : Int32} {σ : Sg} {Post : Rs → Sg → Prop} (h : wp_X0_waitsFor this a0 σ Post) : Ct l yX0_waitsFor (.code yX0_waitsFor cX0_waitsFor 3 (some .boolean)) 1 21 0 0 [.ref this, .int a0] σ Post := by
  refine Ct_of [some (.ref this), some (.int a0), none] hl (by decide +kernel) rfl (fun ad => by rfl) (fun ad => by exact Nat.le_of_ble_eq_true rfl) (fun v hv => mem_lo hv rfl) ?_
  intro G hG
  unfold wp_X0_waitsFor at h
  refine V_aload_n (v := .ref this) hG dX0_waitsFor_0 rfl rfl ?_
  obtain ⟨ht, h⟩ := h
  refine V_getI hG dX0_waitsFor_1 fl_X0_25 rfl ht ?_
  refine V_iconst (v := 1) hG (by decide) dX0_waitsFor_4 ?_
  refine V_icmp_ne (tgt := 22) hG dX0_waitsFor_5 (by decide) (fun c => ?_) (fun c => ?_)
  · replace h := h.1 c
    refine V_null hG dX0_waitsFor_22 ?_
    refine V_forget (lo' := [none, some (.int a0), none]) ⟨rfl, trivial⟩ ?_
    refine V_widen (k' := 0) (n' := 0) (by first | exact Nat.le_of_ble_eq_true rfl | omega | (dsimp only; omega)) (by first | exact Nat.le_of_ble_eq_true rfl | omega | (dsimp only; omega)) ?_
    exact wv_X0_waitsFor_23 hl hG  _ _ _ h
  · replace h := h.2 c
    refine V_aload_n (v := .ref this) hG dX0_waitsFor_8 rfl rfl ?_
    obtain ⟨ht, h⟩ := h
    refine V_getPv hG dX0_waitsFor_9 fl_X0_18 rfl ht (fun o1 ho => ?_)
    replace h := h o1 ho
    refine V_aload_n (v := .ref this) hG dX0_waitsFor_12 rfl rfl ?_
    obtain ⟨ht, h⟩ := h
    refine V_getI hG dX0_waitsFor_13 fl_X0_28 rfl ht ?_
    obtain ⟨u2, he, h⟩ := h
    subst he
    obtain ⟨ht, h⟩ := h
    refine V_cVO _ _ hG dX0_waitsFor_16 (ct_X2_operationAt hl h) mv_X2_operationAt ml_X0_31 ht rfl rfl rfl rfl (by first | exact Nat.le_of_ble_eq_true rfl | (simp only [List.map_cons, List.map_nil, List.sum_cons, List.sum_nil, cat_rf]; exact Nat.le_of_ble_eq_true rfl)) (Nat.le_of_ble_eq_true rfl) (Nat.le_of_ble_eq_true rfl) (by first | exact Nat.le_of_ble_eq_true rfl | omega | (dsimp only; omega)) (by first | exact Nat.le_of_ble_eq_true rfl | omega | (dsimp only; omega)) ?_ (fun x4 σ3 h9 => ?_)
    · exact fun E σ3 hx => VX_out hG (by first | exact Nat.le_of_ble_eq_true rfl | omega | (dsimp only; omega)) (by first | exact Nat.le_of_ble_eq_true rfl | omega | (dsimp only; omega)) hx
    · replace h := h9
      clear h9
      refine V_goto (tgt := 23) hG dX0_waitsFor_19 (by decide) ?_
      refine V_forget (lo' := [none, some (.int a0), none]) ⟨rfl, trivial⟩ ?_
      refine V_widen (k' := 0) (n' := 0) (by first | exact Nat.le_of_ble_eq_true rfl | omega | (dsimp only; omega)) (by first | exact Nat.le_of_ble_eq_true rfl | omega | (dsimp only; omega)) ?_
      exact wv_X0_waitsFor_23 hl hG  _ _ _ h
def wp_X0_canJoin (this : Nat) (a0 : Option Nat) (σ : Sg) (Post : Rs → Sg → Prop) : Prop := this % 32 = 0 ∧ ((¬ (sI σ this 4) = (1 : Int32) → (b01 (0 : Int32) ∧ Post (.inl (some (.int (0 : Int32)))) σ)) ∧ ((sI σ this 4) = (1 : Int32) → ∃ u1, a0 = some u1 ∧ u1 % 32 = 0 ∧ ((¬ (sI σ u1 4) = (1 : Int32) → (b01 (0 : Int32) ∧ Post (.inl (some (.int (0 : Int32)))) σ)) ∧ ((sI σ u1 4) = (1 : Int32) → this % 32 = 0 ∧ ((¬ (sI σ this 7) = 0 → (b01 (0 : Int32) ∧ Post (.inl (some (.int (0 : Int32)))) σ)) ∧ ((sI σ this 7) = 0 → u1 % 32 = 0 ∧ ((¬ (sI σ u1 7) = 0 → (b01 (0 : Int32) ∧ Post (.inl (some (.int (0 : Int32)))) σ)) ∧ ((sI σ u1 7) = 0 → this % 32 = 0 ∧ ∀ o2, o2 = sP σ this 1 → u1 % 32 = 0 ∧ ∀ o3, o3 = sP σ u1 1 → ((¬ o2 = o3 → (b01 (0 : Int32) ∧ Post (.inl (some (.int (0 : Int32)))) σ)) ∧ (o2 = o3 → this % 32 = 0 ∧ u1 % 32 = 0 ∧ ((¬ (sI σ this 5) = (sI σ u1 5) → (b01 (0 : Int32) ∧ Post (.inl (some (.int (0 : Int32)))) σ)) ∧ ((sI σ this 5) = (sI σ u1 5) → (b01 (1 : Int32) ∧ Post (.inl (some (.int (1 : Int32)))) σ)))))))))))))
set_option maxRecDepth 100000 in
set_option maxHeartbeats 4000000 in
theorem ct_X0_canJoin {l : Launch} (hl : l.stackTraces = false) {this : Nat} {a0 : Option Nat} {σ : Sg} {Post : Rs → Sg → Prop} (h : wp_X0_canJoin this a0 σ Post) : Ct l yX0_canJoin (.code yX0_canJoin cX0_canJoin 2 (some .boolean)) 0 0 0 0 [.ref this, va_rf a0] σ Post := by
  refine Ct_of [some (.ref this), some (va_rf a0)] hl (by decide +kernel) rfl (fun ad => by cases a0 <;> rfl) (fun ad => by cases a0 <;> exact Nat.le_of_ble_eq_true rfl) (fun v hv => mem_lo hv rfl) ?_
  intro G hG
  unfold wp_X0_canJoin at h
  refine V_aload_n (v := .ref this) hG dX0_canJoin_0 rfl rfl ?_
  obtain ⟨ht, h⟩ := h
  refine V_getI hG dX0_canJoin_1 fl_X0_25 rfl ht ?_
  refine V_iconst (v := 1) hG (by decide) dX0_canJoin_4 ?_
  refine V_icmp_ne (tgt := 56) hG dX0_canJoin_5 (by decide) (fun c => ?_) (fun c => ?_)
  · replace h := h.1 c
    refine V_iconst (v := 0) hG (by decide) dX0_canJoin_56 ?_
    exact V_zret hG dX0_canJoin_57 h.1 (by first | exact Nat.le_of_ble_eq_true rfl | omega | (dsimp only; omega)) (by first | exact Nat.le_of_ble_eq_true rfl | omega | (dsimp only; omega)) h.2
  · replace h := h.2 c
    refine V_aload_n (v := va_rf a0) hG dX0_canJoin_8 (isRef_rf _) rfl ?_
    obtain ⟨u1, he, h⟩ := h
    subst he
    obtain ⟨ht, h⟩ := h
    refine V_getI hG dX0_canJoin_9 fl_X0_25 rfl ht ?_
    refine V_iconst (v := 1) hG (by decide) dX0_canJoin_12 ?_
    refine V_icmp_ne (tgt := 56) hG dX0_canJoin_13 (by decide) (fun c => ?_) (fun c => ?_)
    · replace h := h.1 c
      refine V_iconst (v := 0) hG (by decide) dX0_canJoin_56 ?_
      exact V_zret hG dX0_canJoin_57 h.1 (by first | exact Nat.le_of_ble_eq_true rfl | omega | (dsimp only; omega)) (by first | exact Nat.le_of_ble_eq_true rfl | omega | (dsimp only; omega)) h.2
    · replace h := h.2 c
      refine V_aload_n (v := .ref this) hG dX0_canJoin_16 rfl rfl ?_
      obtain ⟨ht, h⟩ := h
      refine V_getI hG dX0_canJoin_17 fl_X0_42 rfl ht ?_
      refine V_if_ne (tgt := 56) hG dX0_canJoin_20 (by decide) (fun c => ?_) (fun c => ?_)
      · replace h := h.1 c
        refine V_iconst (v := 0) hG (by decide) dX0_canJoin_56 ?_
        exact V_zret hG dX0_canJoin_57 h.1 (by first | exact Nat.le_of_ble_eq_true rfl | omega | (dsimp only; omega)) (by first | exact Nat.le_of_ble_eq_true rfl | omega | (dsimp only; omega)) h.2
      · replace h := h.2 c
        refine V_aload_n (v := .ref u1) hG dX0_canJoin_23 rfl rfl ?_
        obtain ⟨ht, h⟩ := h
        refine V_getI hG dX0_canJoin_24 fl_X0_42 rfl ht ?_
        refine V_if_ne (tgt := 56) hG dX0_canJoin_27 (by decide) (fun c => ?_) (fun c => ?_)
        · replace h := h.1 c
          refine V_iconst (v := 0) hG (by decide) dX0_canJoin_56 ?_
          exact V_zret hG dX0_canJoin_57 h.1 (by first | exact Nat.le_of_ble_eq_true rfl | omega | (dsimp only; omega)) (by first | exact Nat.le_of_ble_eq_true rfl | omega | (dsimp only; omega)) h.2
        · replace h := h.2 c
          refine V_aload_n (v := .ref this) hG dX0_canJoin_30 rfl rfl ?_
          obtain ⟨ht, h⟩ := h
          refine V_getPv hG dX0_canJoin_31 fl_X0_18 rfl ht (fun o2 ho => ?_)
          replace h := h o2 ho
          refine V_aload_n (v := .ref u1) hG dX0_canJoin_34 rfl rfl ?_
          obtain ⟨ht, h⟩ := h
          refine V_getPv hG dX0_canJoin_35 fl_X0_18 rfl ht (fun o3 ho => ?_)
          replace h := h o3 ho
          refine V_acmp_ne (a := o2) (b := o3) (tgt := 56) hG dX0_canJoin_38 (by decide) (fun c => ?_) (fun c => ?_)
          · replace h := h.1 c
            refine V_iconst (v := 0) hG (by decide) dX0_canJoin_56 ?_
            exact V_zret hG dX0_canJoin_57 h.1 (by first | exact Nat.le_of_ble_eq_true rfl | omega | (dsimp only; omega)) (by first | exact Nat.le_of_ble_eq_true rfl | omega | (dsimp only; omega)) h.2
          · replace h := h.2 c
            refine V_aload_n (v := .ref this) hG dX0_canJoin_41 rfl rfl ?_
            obtain ⟨ht, h⟩ := h
            refine V_getI hG dX0_canJoin_42 fl_X0_28 rfl ht ?_
            refine V_aload_n (v := .ref u1) hG dX0_canJoin_45 rfl rfl ?_
            obtain ⟨ht, h⟩ := h
            refine V_getI hG dX0_canJoin_46 fl_X0_28 rfl ht ?_
            refine V_icmp_ne (tgt := 56) hG dX0_canJoin_49 (by decide) (fun c => ?_) (fun c => ?_)
            · replace h := h.1 c
              refine V_iconst (v := 0) hG (by decide) dX0_canJoin_56 ?_
              exact V_zret hG dX0_canJoin_57 h.1 (by first | exact Nat.le_of_ble_eq_true rfl | omega | (dsimp only; omega)) (by first | exact Nat.le_of_ble_eq_true rfl | omega | (dsimp only; omega)) h.2
            · replace h := h.2 c
              refine V_iconst (v := 1) hG (by decide) dX0_canJoin_52 ?_
              refine V_goto (tgt := 57) hG dX0_canJoin_53 (by decide) ?_
              exact V_zret hG dX0_canJoin_57 h.1 (by first | exact Nat.le_of_ble_eq_true rfl | omega | (dsimp only; omega)) (by first | exact Nat.le_of_ble_eq_true rfl | omega | (dsimp only; omega)) h.2
def wp_X0_takesParts (this : Nat) (σ : Sg) (Post : Rs → Sg → Prop) : Prop := this % 32 = 0 ∧ ((¬ (sI σ this 5) = 0 → (b01 (0 : Int32) ∧ Post (.inl (some (.int (0 : Int32)))) σ)) ∧ ((sI σ this 5) = 0 → this % 32 = 0 ∧ ((¬ (sI σ this 8) = 0 → (b01 (0 : Int32) ∧ Post (.inl (some (.int (0 : Int32)))) σ)) ∧ ((sI σ this 8) = 0 → (b01 (1 : Int32) ∧ Post (.inl (some (.int (1 : Int32)))) σ)))))
set_option maxRecDepth 100000 in
set_option maxHeartbeats 4000000 in
theorem ct_X0_takesParts {l : Launch} (hl : l.stackTraces = false) {this : Nat} {σ : Sg} {Post : Rs → Sg → Prop} (h : wp_X0_takesParts this σ Post) : Ct l yX0_takesParts (.code yX0_takesParts cX0_takesParts 1 (some .boolean)) 0 0 0 0 [.ref this] σ Post := by
  refine Ct_of [some (.ref this)] hl (by decide +kernel) rfl (fun ad => by rfl) (fun ad => by exact Nat.le_of_ble_eq_true rfl) (fun v hv => mem_lo hv rfl) ?_
  intro G hG
  unfold wp_X0_takesParts at h
  refine V_aload_n (v := .ref this) hG dX0_takesParts_0 rfl rfl ?_
  obtain ⟨ht, h⟩ := h
  refine V_getI hG dX0_takesParts_1 fl_X0_28 rfl ht ?_
  refine V_if_ne (tgt := 18) hG dX0_takesParts_4 (by decide) (fun c => ?_) (fun c => ?_)
  · replace h := h.1 c
    refine V_iconst (v := 0) hG (by decide) dX0_takesParts_18 ?_
    exact V_zret hG dX0_takesParts_19 h.1 (by first | exact Nat.le_of_ble_eq_true rfl | omega | (dsimp only; omega)) (by first | exact Nat.le_of_ble_eq_true rfl | omega | (dsimp only; omega)) h.2
  · replace h := h.2 c
    refine V_aload_n (v := .ref this) hG dX0_takesParts_7 rfl rfl ?_
    obtain ⟨ht, h⟩ := h
    refine V_getI hG dX0_takesParts_8 fl_X0_46 rfl ht ?_
    refine V_if_ne (tgt := 18) hG dX0_takesParts_11 (by decide) (fun c => ?_) (fun c => ?_)
    · replace h := h.1 c
      refine V_iconst (v := 0) hG (by decide) dX0_takesParts_18 ?_
      exact V_zret hG dX0_takesParts_19 h.1 (by first | exact Nat.le_of_ble_eq_true rfl | omega | (dsimp only; omega)) (by first | exact Nat.le_of_ble_eq_true rfl | omega | (dsimp only; omega)) h.2
    · replace h := h.2 c
      refine V_iconst (v := 1) hG (by decide) dX0_takesParts_14 ?_
      refine V_goto (tgt := 19) hG dX0_takesParts_15 (by decide) ?_
      exact V_zret hG dX0_takesParts_19 h.1 (by first | exact Nat.le_of_ble_eq_true rfl | omega | (dsimp only; omega)) (by first | exact Nat.le_of_ble_eq_true rfl | omega | (dsimp only; omega)) h.2
def wp_X0_giveUp (this : Nat) (a0 : Int32) (σ : Sg) (Post : Rs → Sg → Prop) : Prop := this % 32 = 0 ∧ ((0 < (sI σ this 2) → this % 32 = 0 ∧ this % 32 = 0 ∧ ¬ (Int32.toInt64 (sI σ this 2)) = 0 ∧ this % 32 = 0 ∧ this % 32 = 0 ∧ this % 32 = 0 ∧ this % 32 = 0 ∧ this % 32 = 0 ∧ ((¬ (sI (wI (wI σ this 3 ((sI σ this 3) - (Int64.toInt32 (((Int32.toInt64 (sI σ this 3)) * (Int32.toInt64 a0)) / (Int32.toInt64 (sI σ this 2)))))) this 2 ((sI (wI σ this 3 ((sI σ this 3) - (Int64.toInt32 (((Int32.toInt64 (sI σ this 3)) * (Int32.toInt64 a0)) / (Int32.toInt64 (sI σ this 2)))))) this 2) - a0)) this 2) = 0 → Post (.inl (some (.int (Int64.toInt32 (((Int32.toInt64 (sI σ this 3)) * (Int32.toInt64 a0)) / (Int32.toInt64 (sI σ this 2))))))) (wI (wI σ this 3 ((sI σ this 3) - (Int64.toInt32 (((Int32.toInt64 (sI σ this 3)) * (Int32.toInt64 a0)) / (Int32.toInt64 (sI σ this 2)))))) this 2 ((sI (wI σ this 3 ((sI σ this 3) - (Int64.toInt32 (((Int32.toInt64 (sI σ this 3)) * (Int32.toInt64 a0)) / (Int32.toInt64 (sI σ this 2)))))) this 2) - a0))) ∧ ((sI (wI (wI σ this 3 ((sI σ this 3) - (Int64.toInt32 (((Int32.toInt64 (sI σ this 3)) * (Int32.toInt64 a0)) / (Int32.toInt64 (sI σ this 2)))))) this 2 ((sI (wI σ this 3 ((sI σ this 3) - (Int64.toInt32 (((Int32.toInt64 (sI σ this 3)) * (Int32.toInt64 a0)) / (Int32.toInt64 (sI σ this 2)))))) this 2) - a0)) this 2) = 0 → this % 32 = 0 ∧ Post (.inl (some (.int (Int64.toInt32 (((Int32.toInt64 (sI σ this 3)) * (Int32.toInt64 a0)) / (Int32.toInt64 (sI σ this 2))))))) (wI (wI (wI σ this 3 ((sI σ this 3) - (Int64.toInt32 (((Int32.toInt64 (sI σ this 3)) * (Int32.toInt64 a0)) / (Int32.toInt64 (sI σ this 2)))))) this 2 ((sI (wI σ this 3 ((sI σ this 3) - (Int64.toInt32 (((Int32.toInt64 (sI σ this 3)) * (Int32.toInt64 a0)) / (Int32.toInt64 (sI σ this 2)))))) this 2) - a0)) this 4 (4 : Int32))))) ∧ (¬ 0 < (sI σ this 2) → Post (.inl (some (.int (0 : Int32)))) σ))
set_option maxRecDepth 100000 in
set_option maxHeartbeats 4000000 in
theorem ct_X0_giveUp {l : Launch} (hl : l.stackTraces = false) {this : Nat} {a0 : Int32} {σ : Sg} {Post : Rs → Sg → Prop} (h : wp_X0_giveUp this a0 σ Post) : Ct l yX0_giveUp (.code yX0_giveUp cX0_giveUp 3 (some .int)) 0 0 0 0 [.ref this, .int a0] σ Post := by
  refine Ct_of [some (.ref this), some (.int a0), none] hl (by decide +kernel) rfl (fun ad => by rfl) (fun ad => by exact Nat.le_of_ble_eq_true rfl) (fun v hv => mem_lo hv rfl) ?_
  intro G hG
  unfold wp_X0_giveUp at h
  refine V_aload_n (v := .ref this) hG dX0_giveUp_0 rfl rfl ?_
  obtain ⟨ht, h⟩ := h
  refine V_getI hG dX0_giveUp_1 fl_X0_22 rfl ht ?_
  refine V_if_gt (tgt := 9) hG dX0_giveUp_4 (by decide) (fun c => ?_) (fun c => ?_)
  · replace h := h.1 c
    refine V_aload_n (v := .ref this) hG dX0_giveUp_9 rfl rfl ?_
    obtain ⟨ht, h⟩ := h
    refine V_getI hG dX0_giveUp_10 fl_X0_49 rfl ht ?_
    refine V_i2l hG dX0_giveUp_13 ?_
    refine V_iload_n hG dX0_giveUp_14 rfl ?_
    refine V_i2l hG dX0_giveUp_15 ?_
    refine V_lmul hG dX0_giveUp_16 ?_
    refine V_aload_n (v := .ref this) hG dX0_giveUp_17 rfl rfl ?_
    obtain ⟨ht, h⟩ := h
    refine V_getI hG dX0_giveUp_18 fl_X0_22 rfl ht ?_
    refine V_i2l hG dX0_giveUp_21 ?_
    obtain ⟨hne, h⟩ := h
    refine V_ldiv hG hne dX0_giveUp_22 ?_
    refine V_l2i hG dX0_giveUp_23 ?_
    refine V_istore_n hG dX0_giveUp_24 (Nat.le_of_ble_eq_true rfl) (hpV rfl rfl) ?_
    refine V_aload_n (v := .ref this) hG dX0_giveUp_25 rfl rfl ?_
    refine V_dup (v := .ref this) hG rfl dX0_giveUp_26 ?_
    obtain ⟨ht, h⟩ := h
    refine V_getI hG dX0_giveUp_27 fl_X0_49 rfl ht ?_
    refine V_iload_n hG dX0_giveUp_30 rfl ?_
    refine V_isub hG dX0_giveUp_31 ?_
    obtain ⟨ht, h⟩ := h
    refine V_putI hG dX0_giveUp_32 fl_X0_49 rfl (fun e => absurd e (by decide)) rfl ht ?_
    refine V_aload_n (v := .ref this) hG dX0_giveUp_35 rfl rfl ?_
    refine V_dup (v := .ref this) hG rfl dX0_giveUp_36 ?_
    obtain ⟨ht, h⟩ := h
    refine V_getI hG dX0_giveUp_37 fl_X0_22 rfl ht ?_
    refine V_iload_n hG dX0_giveUp_40 rfl ?_
    refine V_isub hG dX0_giveUp_41 ?_
    obtain ⟨ht, h⟩ := h
    refine V_putI hG dX0_giveUp_42 fl_X0_22 rfl (fun e => absurd e (by decide)) rfl ht ?_
    refine V_aload_n (v := .ref this) hG dX0_giveUp_45 rfl rfl ?_
    obtain ⟨ht, h⟩ := h
    refine V_getI hG dX0_giveUp_46 fl_X0_22 rfl ht ?_
    refine V_if_ne (tgt := 57) hG dX0_giveUp_49 (by decide) (fun c => ?_) (fun c => ?_)
    · replace h := h.1 c
      refine V_iload_n hG dX0_giveUp_57 rfl ?_
      exact V_iret hG dX0_giveUp_58 (by first | exact Nat.le_of_ble_eq_true rfl | omega | (dsimp only; omega)) (by first | exact Nat.le_of_ble_eq_true rfl | omega | (dsimp only; omega)) h
    · replace h := h.2 c
      refine V_aload_n (v := .ref this) hG dX0_giveUp_52 rfl rfl ?_
      refine V_iconst (v := 4) hG (by decide) dX0_giveUp_53 ?_
      obtain ⟨ht, h⟩ := h
      refine V_putI hG dX0_giveUp_54 fl_X0_25 rfl (fun e => absurd e (by decide)) rfl ht ?_
      refine V_iload_n hG dX0_giveUp_57 rfl ?_
      exact V_iret hG dX0_giveUp_58 (by first | exact Nat.le_of_ble_eq_true rfl | omega | (dsimp only; omega)) (by first | exact Nat.le_of_ble_eq_true rfl | omega | (dsimp only; omega)) h
  · replace h := h.2 c
    refine V_iconst (v := 0) hG (by decide) dX0_giveUp_7 ?_
    exact V_iret hG dX0_giveUp_8 (by first | exact Nat.le_of_ble_eq_true rfl | omega | (dsimp only; omega)) (by first | exact Nat.le_of_ble_eq_true rfl | omega | (dsimp only; omega)) h
def wp_X0_foundFault_62 (K12 : Nat → Int32 → Int32 → Sg → Prop) (this : Nat) (v1 : Int32) (v2 : Int32) (σ : Sg) (Post : Rs → Sg → Prop) : Prop := (K12 this v1 (v2 + 1) σ)
set_option maxRecDepth 100000 in
set_option maxHeartbeats 4000000 in
theorem wv_X0_foundFault_62 {L9 : Launch} {G : Cx} {Post : Rs → Sg → Prop} (hl : L9.stackTraces = false) (hG : CX L9 G yX0_foundFault cX0_foundFault 4 (some .int) [] { frames := 1, cells := 0, slots := 0, locals := 13 }) {K12 : Nat → Int32 → Int32 → Sg → Prop} (hK12 : ∀ (this : Nat) (v1 : Int32) (v2 : Int32) (ζ : Sg), K12 this v1 v2 ζ → V G (QM G 0 0 Post) 12 [some (.ref this), some (.int v1), some (.int v2), none] [] ζ 0 0) : ∀ (this : Nat) (v1 : Int32) (v2 : Int32) (σ : Sg), wp_X0_foundFault_62 K12 this v1 v2 σ Post → V G (QM G 0 0 Post) 62 [some (.ref this), some (.int v1), some (.int v2), none] [] σ 0 0 := by
  intro this v1 v2 σ h
  unfold wp_X0_foundFault_62 at h
  refine V_iincv (c := 1) hG dX0_foundFault_62 rfl (by decide) (hpV rfl rfl) ?_
  refine V_goto (tgt := 12) hG dX0_foundFault_65 (by decide) ?_
  refine V_forget (lo' := [some (.ref this), some (.int v1), some (.int (v2 + 1)), none]) ⟨rfl, ⟨rfl, ⟨rfl, trivial⟩⟩⟩ ?_
  exact hK12 _ _ _ _ h
def wp_X0_foundFault_44 (K12 : Nat → Int32 → Int32 → Sg → Prop) (this : Nat) (v1 : Int32) (v2 : Int32) (s0 : Int32) (σ : Sg) (Post : Rs → Sg → Prop) : Prop := ((s0 = 0 → (wp_X0_foundFault_62 K12 this v1 v2 σ Post)) ∧ (¬ s0 = 0 → this % 32 = 0 ∧ (((((sI σ this 10) >>> (v2 &&& 31)) &&& (1 : Int32)) = 0 → (wp_X0_foundFault_62 K12 this v1 v2 σ Post)) ∧ (¬ (((sI σ this 10) >>> (v2 &&& 31)) &&& (1 : Int32)) = 0 → Post (.inl (some (.int v2))) σ))))
set_option maxRecDepth 100000 in
set_option maxHeartbeats 4000000 in
theorem wv_X0_foundFault_44 {L9 : Launch} {G : Cx} {Post : Rs → Sg → Prop} (hl : L9.stackTraces = false) (hG : CX L9 G yX0_foundFault cX0_foundFault 4 (some .int) [] { frames := 1, cells := 0, slots := 0, locals := 13 }) {K12 : Nat → Int32 → Int32 → Sg → Prop} (hK12 : ∀ (this : Nat) (v1 : Int32) (v2 : Int32) (ζ : Sg), K12 this v1 v2 ζ → V G (QM G 0 0 Post) 12 [some (.ref this), some (.int v1), some (.int v2), none] [] ζ 0 0) : ∀ (this : Nat) (v1 : Int32) (v2 : Int32) (s0 : Int32) (σ : Sg), wp_X0_foundFault_44 K12 this v1 v2 s0 σ Post → V G (QM G 0 0 Post) 44 [some (.ref this), some (.int v1), some (.int v2), none] [.int s0] σ 0 0 := by
  intro this v1 v2 s0 σ h
  unfold wp_X0_foundFault_44 at h
  refine V_istore_n hG dX0_foundFault_44 (Nat.le_of_ble_eq_true rfl) (hpV rfl rfl) ?_
  refine V_iload_n hG dX0_foundFault_45 rfl ?_
  refine V_if_eq (tgt := 62) hG dX0_foundFault_46 (by decide) (fun c => ?_) (fun c => ?_)
  · replace h := h.1 c
    refine V_forget (lo' := [some (.ref this), some (.int v1), some (.int v2), none]) ⟨rfl, ⟨rfl, ⟨rfl, trivial⟩⟩⟩ ?_
    refine V_widen (k' := 0) (n' := 0) (by first | exact Nat.le_of_ble_eq_true rfl | omega | (dsimp only; omega)) (by first | exact Nat.le_of_ble_eq_true rfl | omega | (dsimp only; omega)) ?_
    exact wv_X0_foundFault_62 hl hG hK12 _ _ _ _ h
  · replace h := h.2 c
    refine V_aload_n (v := .ref this) hG dX0_foundFault_49 rfl rfl ?_
    obtain ⟨ht, h⟩ := h
    refine V_getI hG dX0_foundFault_50 fl_X0_61 rfl ht ?_
    refine V_iload_n hG dX0_foundFault_53 rfl ?_
    refine V_ishr hG dX0_foundFault_54 ?_
    refine V_iconst (v := 1) hG (by decide) dX0_foundFault_55 ?_
    refine V_iand hG dX0_foundFault_56 ?_
    refine V_if_eq (tgt := 62) hG dX0_foundFault_57 (by decide) (fun c => ?_) (fun c => ?_)
    · replace h := h.1 c
      refine V_forget (lo' := [some (.ref this), some (.int v1), some (.int v2), none]) ⟨rfl, ⟨rfl, ⟨rfl, trivial⟩⟩⟩ ?_
      refine V_widen (k' := 0) (n' := 0) (by first | exact Nat.le_of_ble_eq_true rfl | omega | (dsimp only; omega)) (by first | exact Nat.le_of_ble_eq_true rfl | omega | (dsimp only; omega)) ?_
      exact wv_X0_foundFault_62 hl hG hK12 _ _ _ _ h
    · replace h := h.2 c
      refine V_iload_n hG dX0_foundFault_60 rfl ?_
      exact V_iret hG dX0_foundFault_61 (by first | exact Nat.le_of_ble_eq_true rfl | omega | (dsimp only; omega)) (by first | exact Nat.le_of_ble_eq_true rfl | omega | (dsimp only; omega)) h
def wp_X0_foundFault_12  : Nat → Nat → Int32 → Int32 → Sg → (Rs → Sg → Prop) → Prop
  | 0, _, _, _, _, _ => False
  | f + 1, this, v1, v2, σ, Post => this % 32 = 0 ∧ (((sI σ this 5) < v2 → Post (.inl (some (.int (-1 : Int32)))) σ) ∧ (¬ (sI σ this 5) < v2 → ((v1 < v2 → Post (.inl (some (.int (-1 : Int32)))) σ) ∧ (¬ v1 < v2 → this % 32 = 0 ∧ (((sI σ this 5) < (if v1 < (v2 + (2 : Int32)) then v1 else (v2 + (2 : Int32))) → (wp_X0_foundFault_44 (fun z0 z1 z2 ζ => wp_X0_foundFault_12 f z0 z1 z2 ζ Post) this v1 v2 (0 : Int32) σ Post)) ∧ (¬ (sI σ this 5) < (if v1 < (v2 + (2 : Int32)) then v1 else (v2 + (2 : Int32))) → (wp_X0_foundFault_44 (fun z0 z1 z2 ζ => wp_X0_foundFault_12 f z0 z1 z2 ζ Post) this v1 v2 (1 : Int32) σ Post)))))))
set_option maxRecDepth 100000 in
set_option maxHeartbeats 4000000 in
theorem wv_X0_foundFault_12 {L9 : Launch} {G : Cx} {Post : Rs → Sg → Prop} (hl : L9.stackTraces = false) (hG : CX L9 G yX0_foundFault cX0_foundFault 4 (some .int) [] { frames := 1, cells := 0, slots := 0, locals := 13 })   : ∀ (f : Nat) (this : Nat) (v1 : Int32) (v2 : Int32) (σ : Sg), wp_X0_foundFault_12 f this v1 v2 σ Post → V G (QM G 0 0 Post) 12 [some (.ref this), some (.int v1), some (.int v2), none] [] σ 0 0 := by
  intro f
  induction f with
  | zero => intro _ _ _ σ h; exact h.elim
  | succ f ih =>
    intro this v1 v2 σ h
    refine V_iload_n hG dX0_foundFault_12 rfl ?_
    refine V_aload_n (v := .ref this) hG dX0_foundFault_13 rfl rfl ?_
    obtain ⟨ht, h⟩ := h
    refine V_getI hG dX0_foundFault_14 fl_X0_28 rfl ht ?_
    refine V_icmp_gt (tgt := 68) hG dX0_foundFault_17 (by decide) (fun c => ?_) (fun c => ?_)
    · replace h := h.1 c
      refine V_iconst (v := (-1)) hG (by decide) dX0_foundFault_68 ?_
      exact V_iret hG dX0_foundFault_69 (by first | exact Nat.le_of_ble_eq_true rfl | omega | (dsimp only; omega)) (by first | exact Nat.le_of_ble_eq_true rfl | omega | (dsimp only; omega)) h
    · replace h := h.2 c
      refine V_iload_n hG dX0_foundFault_20 rfl ?_
      refine V_iload_n hG dX0_foundFault_21 rfl ?_
      refine V_icmp_gt (tgt := 68) hG dX0_foundFault_22 (by decide) (fun c => ?_) (fun c => ?_)
      · replace h := h.1 c
        refine V_iconst (v := (-1)) hG (by decide) dX0_foundFault_68 ?_
        exact V_iret hG dX0_foundFault_69 (by first | exact Nat.le_of_ble_eq_true rfl | omega | (dsimp only; omega)) (by first | exact Nat.le_of_ble_eq_true rfl | omega | (dsimp only; omega)) h
      · replace h := h.2 c
        refine V_iload_n hG dX0_foundFault_25 rfl ?_
        refine V_iconst (v := 2) hG (by decide) dX0_foundFault_26 ?_
        refine V_iadd hG dX0_foundFault_27 ?_
        refine V_iload_n hG dX0_foundFault_28 rfl ?_
        refine V_mmin hG dX0_foundFault_29 ml_X0_55 mm_min.1 mm_min.2.1 mm_min.2.2 (Nat.le_of_ble_eq_true rfl) (by first | exact Nat.le_of_ble_eq_true rfl | (simp only [List.map_cons, List.map_nil, List.sum_cons, List.sum_nil, cat_rf]; exact Nat.le_of_ble_eq_true rfl)) (Nat.le_of_ble_eq_true rfl) (Nat.le_of_ble_eq_true rfl) ?_
        refine V_aload_n (v := .ref this) hG dX0_foundFault_32 rfl rfl ?_
        obtain ⟨ht, h⟩ := h
        refine V_getI hG dX0_foundFault_33 fl_X0_28 rfl ht ?_
        refine V_icmp_gt (tgt := 43) hG dX0_foundFault_36 (by decide) (fun c => ?_) (fun c => ?_)
        · replace h := h.1 c
          refine V_iconst (v := 0) hG (by decide) dX0_foundFault_43 ?_
          refine V_forget (lo' := [some (.ref this), some (.int v1), some (.int v2), none]) ⟨rfl, ⟨rfl, ⟨rfl, trivial⟩⟩⟩ ?_
          refine V_widen (k' := 0) (n' := 0) (by first | exact Nat.le_of_ble_eq_true rfl | omega | (dsimp only; omega)) (by first | exact Nat.le_of_ble_eq_true rfl | omega | (dsimp only; omega)) ?_
          exact wv_X0_foundFault_44 hl hG (fun z0 z1 z2 ζ hz => ih z0 z1 z2 ζ hz) _ _ _ _ _ h
        · replace h := h.2 c
          refine V_iconst (v := 1) hG (by decide) dX0_foundFault_39 ?_
          refine V_goto (tgt := 44) hG dX0_foundFault_40 (by decide) ?_
          refine V_forget (lo' := [some (.ref this), some (.int v1), some (.int v2), none]) ⟨rfl, ⟨rfl, ⟨rfl, trivial⟩⟩⟩ ?_
          refine V_widen (k' := 0) (n' := 0) (by first | exact Nat.le_of_ble_eq_true rfl | omega | (dsimp only; omega)) (by first | exact Nat.le_of_ble_eq_true rfl | omega | (dsimp only; omega)) ?_
          exact wv_X0_foundFault_44 hl hG (fun z0 z1 z2 ζ hz => ih z0 z1 z2 ζ hz) _ _ _ _ _ h
def wp_X0_foundFault (this : Nat) (σ : Sg) (Post : Rs → Sg → Prop) : Prop := this % 32 = 0 ∧ ∀ o1, o1 = sP σ this 1 → ∃ u2, o1 = some u2 ∧ u2 % 32 = 2 ∧ (∃ g, wp_X0_foundFault_12 g this ((sI σ u2 7) - (1 : Int32)) (0 : Int32) σ Post)
set_option maxRecDepth 100000 in
set_option maxHeartbeats 4000000 in
theorem ct_X0_foundFault {l : Launch} (hl : l.stackTraces = false) {this : Nat} {σ : Sg} {Post : Rs → Sg → Prop} (h : wp_X0_foundFault this σ Post) : Ct l yX0_foundFault (.code yX0_foundFault cX0_foundFault 4 (some .int)) 1 13 0 0 [.ref this] σ Post := by
  refine Ct_of [some (.ref this), none, none, none] hl (by decide +kernel) rfl (fun ad => by rfl) (fun ad => by exact Nat.le_of_ble_eq_true rfl) (fun v hv => mem_lo hv rfl) ?_
  intro G hG
  unfold wp_X0_foundFault at h
  refine V_aload_n (v := .ref this) hG dX0_foundFault_0 rfl rfl ?_
  obtain ⟨ht, h⟩ := h
  refine V_getPv hG dX0_foundFault_1 fl_X0_18 rfl ht (fun o1 ho => ?_)
  replace h := h o1 ho
  obtain ⟨u2, he, h⟩ := h
  subst he
  obtain ⟨ht, h⟩ := h
  refine V_getI hG dX0_foundFault_4 fl_X0_52 rfl ht ?_
  refine V_iconst (v := 1) hG (by decide) dX0_foundFault_7 ?_
  refine V_isub hG dX0_foundFault_8 ?_
  refine V_istore_n hG dX0_foundFault_9 (Nat.le_of_ble_eq_true rfl) (hpV rfl rfl) ?_
  refine V_iconst (v := 0) hG (by decide) dX0_foundFault_10 ?_
  refine V_istore_n hG dX0_foundFault_11 (Nat.le_of_ble_eq_true rfl) (hpV rfl rfl) ?_
  refine V_forget (lo' := [some (.ref this), some (.int ((sI σ u2 7) - (1 : Int32))), some (.int (0 : Int32)), none]) ⟨rfl, ⟨rfl, ⟨rfl, trivial⟩⟩⟩ ?_
  obtain ⟨g, h⟩ := h
  refine V_widen (k' := 0) (n' := 0) (by first | exact Nat.le_of_ble_eq_true rfl | omega | (dsimp only; omega)) (by first | exact Nat.le_of_ble_eq_true rfl | omega | (dsimp only; omega)) ?_
  exact wv_X0_foundFault_12 hl hG  g _ _ _ _ h
def wp_X0_sendBackTo (this : Nat) (a0 : Int32) (σ : Sg) (Post : Rs → Sg → Prop) : Prop := this % 32 = 0 ∧ this % 32 = 0 ∧ this % 32 = 0 ∧ b01 (1 : Int32) ∧ this % 32 = 0 ∧ Post (.inl none) (wI (wI (wI σ this 10 ((sI σ this 10) &&& (((1 : Int32) <<< (a0 &&& 31)) - (1 : Int32)))) this 8 (1 : Int32)) this 5 a0)
set_option maxRecDepth 100000 in
set_option maxHeartbeats 4000000 in
theorem ct_X0_sendBackTo {l : Launch} (hl : l.stackTraces = false) {this : Nat} {a0 : Int32} {σ : Sg} {Post : Rs → Sg → Prop} (h : wp_X0_sendBackTo this a0 σ Post) : Ct l yX0_sendBackTo (.code yX0_sendBackTo cX0_sendBackTo 2 none) 0 0 0 0 [.ref this, .int a0] σ Post := by
  refine Ct_of [some (.ref this), some (.int a0)] hl (by decide +kernel) rfl (fun ad => by rfl) (fun ad => by exact Nat.le_of_ble_eq_true rfl) (fun v hv => mem_lo hv rfl) ?_
  intro G hG
  unfold wp_X0_sendBackTo at h
  refine V_aload_n (v := .ref this) hG dX0_sendBackTo_0 rfl rfl ?_
  refine V_dup (v := .ref this) hG rfl dX0_sendBackTo_1 ?_
  obtain ⟨ht, h⟩ := h
  refine V_getI hG dX0_sendBackTo_2 fl_X0_61 rfl ht ?_
  refine V_iconst (v := 1) hG (by decide) dX0_sendBackTo_5 ?_
  refine V_iload_n hG dX0_sendBackTo_6 rfl ?_
  refine V_ishl hG dX0_sendBackTo_7 ?_
  refine V_iconst (v := 1) hG (by decide) dX0_sendBackTo_8 ?_
  refine V_isub hG dX0_sendBackTo_9 ?_
  refine V_iand hG dX0_sendBackTo_10 ?_
  obtain ⟨ht, h⟩ := h
  refine V_putI hG dX0_sendBackTo_11 fl_X0_61 rfl (fun e => absurd e (by decide)) rfl ht ?_
  refine V_aload_n (v := .ref this) hG dX0_sendBackTo_14 rfl rfl ?_
  refine V_iconst (v := 1) hG (by decide) dX0_sendBackTo_15 ?_
  obtain ⟨ht, h⟩ := h
  obtain ⟨hb, h⟩ := h
  refine V_putI hG dX0_sendBackTo_16 fl_X0_46 rfl (fun _ => hb) rfl ht ?_
  refine V_aload_n (v := .ref this) hG dX0_sendBackTo_19 rfl rfl ?_
  refine V_iload_n hG dX0_sendBackTo_20 rfl ?_
  obtain ⟨ht, h⟩ := h
  refine V_putI hG dX0_sendBackTo_21 fl_X0_28 rfl (fun e => absurd e (by decide)) rfl ht ?_
  exact V_vret hG dX0_sendBackTo_24 (by first | exact Nat.le_of_ble_eq_true rfl | omega | (dsimp only; omega)) (by first | exact Nat.le_of_ble_eq_true rfl | omega | (dsimp only; omega)) h
set_option maxRecDepth 100000 in
def wp_J13_bitCount_95d88 (a0 : Int64) (σ : Sg) (Post : Rs → Sg → Prop) : Prop := Post (.inl (some (.int ((Int64.toInt32 ((((((((a0 - (((Int64.toUInt64 a0 >>> ((Int32.toInt64 (1 : Int32)).toUInt64 &&& Int64.toUInt64 63)).toInt64) &&& (6148914691236517205 : Int64))) &&& (3689348814741910323 : Int64)) + (((Int64.toUInt64 (a0 - (((Int64.toUInt64 a0 >>> ((Int32.toInt64 (1 : Int32)).toUInt64 &&& Int64.toUInt64 63)).toInt64) &&& (6148914691236517205 : Int64))) >>> ((Int32.toInt64 (2 : Int32)).toUInt64 &&& Int64.toUInt64 63)).toInt64) &&& (3689348814741910323 : Int64))) + ((Int64.toUInt64 (((a0 - (((Int64.toUInt64 a0 >>> ((Int32.toInt64 (1 : Int32)).toUInt64 &&& Int64.toUInt64 63)).toInt64) &&& (6148914691236517205 : Int64))) &&& (3689348814741910323 : Int64)) + (((Int64.toUInt64 (a0 - (((Int64.toUInt64 a0 >>> ((Int32.toInt64 (1 : Int32)).toUInt64 &&& Int64.toUInt64 63)).toInt64) &&& (6148914691236517205 : Int64))) >>> ((Int32.toInt64 (2 : Int32)).toUInt64 &&& Int64.toUInt64 63)).toInt64) &&& (3689348814741910323 : Int64))) >>> ((Int32.toInt64 (4 : Int32)).toUInt64 &&& Int64.toUInt64 63)).toInt64)) &&& (1085102592571150095 : Int64)) + ((Int64.toUInt64 (((((a0 - (((Int64.toUInt64 a0 >>> ((Int32.toInt64 (1 : Int32)).toUInt64 &&& Int64.toUInt64 63)).toInt64) &&& (6148914691236517205 : Int64))) &&& (3689348814741910323 : Int64)) + (((Int64.toUInt64 (a0 - (((Int64.toUInt64 a0 >>> ((Int32.toInt64 (1 : Int32)).toUInt64 &&& Int64.toUInt64 63)).toInt64) &&& (6148914691236517205 : Int64))) >>> ((Int32.toInt64 (2 : Int32)).toUInt64 &&& Int64.toUInt64 63)).toInt64) &&& (3689348814741910323 : Int64))) + ((Int64.toUInt64 (((a0 - (((Int64.toUInt64 a0 >>> ((Int32.toInt64 (1 : Int32)).toUInt64 &&& Int64.toUInt64 63)).toInt64) &&& (6148914691236517205 : Int64))) &&& (3689348814741910323 : Int64)) + (((Int64.toUInt64 (a0 - (((Int64.toUInt64 a0 >>> ((Int32.toInt64 (1 : Int32)).toUInt64 &&& Int64.toUInt64 63)).toInt64) &&& (6148914691236517205 : Int64))) >>> ((Int32.toInt64 (2 : Int32)).toUInt64 &&& Int64.toUInt64 63)).toInt64) &&& (3689348814741910323 : Int64))) >>> ((Int32.toInt64 (4 : Int32)).toUInt64 &&& Int64.toUInt64 63)).toInt64)) &&& (1085102592571150095 : Int64)) >>> ((Int32.toInt64 (8 : Int32)).toUInt64 &&& Int64.toUInt64 63)).toInt64)) + ((Int64.toUInt64 ((((((a0 - (((Int64.toUInt64 a0 >>> ((Int32.toInt64 (1 : Int32)).toUInt64 &&& Int64.toUInt64 63)).toInt64) &&& (6148914691236517205 : Int64))) &&& (3689348814741910323 : Int64)) + (((Int64.toUInt64 (a0 - (((Int64.toUInt64 a0 >>> ((Int32.toInt64 (1 : Int32)).toUInt64 &&& Int64.toUInt64 63)).toInt64) &&& (6148914691236517205 : Int64))) >>> ((Int32.toInt64 (2 : Int32)).toUInt64 &&& Int64.toUInt64 63)).toInt64) &&& (3689348814741910323 : Int64))) + ((Int64.toUInt64 (((a0 - (((Int64.toUInt64 a0 >>> ((Int32.toInt64 (1 : Int32)).toUInt64 &&& Int64.toUInt64 63)).toInt64) &&& (6148914691236517205 : Int64))) &&& (3689348814741910323 : Int64)) + (((Int64.toUInt64 (a0 - (((Int64.toUInt64 a0 >>> ((Int32.toInt64 (1 : Int32)).toUInt64 &&& Int64.toUInt64 63)).toInt64) &&& (6148914691236517205 : Int64))) >>> ((Int32.toInt64 (2 : Int32)).toUInt64 &&& Int64.toUInt64 63)).toInt64) &&& (3689348814741910323 : Int64))) >>> ((Int32.toInt64 (4 : Int32)).toUInt64 &&& Int64.toUInt64 63)).toInt64)) &&& (1085102592571150095 : Int64)) + ((Int64.toUInt64 (((((a0 - (((Int64.toUInt64 a0 >>> ((Int32.toInt64 (1 : Int32)).toUInt64 &&& Int64.toUInt64 63)).toInt64) &&& (6148914691236517205 : Int64))) &&& (3689348814741910323 : Int64)) + (((Int64.toUInt64 (a0 - (((Int64.toUInt64 a0 >>> ((Int32.toInt64 (1 : Int32)).toUInt64 &&& Int64.toUInt64 63)).toInt64) &&& (6148914691236517205 : Int64))) >>> ((Int32.toInt64 (2 : Int32)).toUInt64 &&& Int64.toUInt64 63)).toInt64) &&& (3689348814741910323 : Int64))) + ((Int64.toUInt64 (((a0 - (((Int64.toUInt64 a0 >>> ((Int32.toInt64 (1 : Int32)).toUInt64 &&& Int64.toUInt64 63)).toInt64) &&& (6148914691236517205 : Int64))) &&& (3689348814741910323 : Int64)) + (((Int64.toUInt64 (a0 - (((Int64.toUInt64 a0 >>> ((Int32.toInt64 (1 : Int32)).toUInt64 &&& Int64.toUInt64 63)).toInt64) &&& (6148914691236517205 : Int64))) >>> ((Int32.toInt64 (2 : Int32)).toUInt64 &&& Int64.toUInt64 63)).toInt64) &&& (3689348814741910323 : Int64))) >>> ((Int32.toInt64 (4 : Int32)).toUInt64 &&& Int64.toUInt64 63)).toInt64)) &&& (1085102592571150095 : Int64)) >>> ((Int32.toInt64 (8 : Int32)).toUInt64 &&& Int64.toUInt64 63)).toInt64)) >>> ((Int32.toInt64 (16 : Int32)).toUInt64 &&& Int64.toUInt64 63)).toInt64)) + ((Int64.toUInt64 (((((((a0 - (((Int64.toUInt64 a0 >>> ((Int32.toInt64 (1 : Int32)).toUInt64 &&& Int64.toUInt64 63)).toInt64) &&& (6148914691236517205 : Int64))) &&& (3689348814741910323 : Int64)) + (((Int64.toUInt64 (a0 - (((Int64.toUInt64 a0 >>> ((Int32.toInt64 (1 : Int32)).toUInt64 &&& Int64.toUInt64 63)).toInt64) &&& (6148914691236517205 : Int64))) >>> ((Int32.toInt64 (2 : Int32)).toUInt64 &&& Int64.toUInt64 63)).toInt64) &&& (3689348814741910323 : Int64))) + ((Int64.toUInt64 (((a0 - (((Int64.toUInt64 a0 >>> ((Int32.toInt64 (1 : Int32)).toUInt64 &&& Int64.toUInt64 63)).toInt64) &&& (6148914691236517205 : Int64))) &&& (3689348814741910323 : Int64)) + (((Int64.toUInt64 (a0 - (((Int64.toUInt64 a0 >>> ((Int32.toInt64 (1 : Int32)).toUInt64 &&& Int64.toUInt64 63)).toInt64) &&& (6148914691236517205 : Int64))) >>> ((Int32.toInt64 (2 : Int32)).toUInt64 &&& Int64.toUInt64 63)).toInt64) &&& (3689348814741910323 : Int64))) >>> ((Int32.toInt64 (4 : Int32)).toUInt64 &&& Int64.toUInt64 63)).toInt64)) &&& (1085102592571150095 : Int64)) + ((Int64.toUInt64 (((((a0 - (((Int64.toUInt64 a0 >>> ((Int32.toInt64 (1 : Int32)).toUInt64 &&& Int64.toUInt64 63)).toInt64) &&& (6148914691236517205 : Int64))) &&& (3689348814741910323 : Int64)) + (((Int64.toUInt64 (a0 - (((Int64.toUInt64 a0 >>> ((Int32.toInt64 (1 : Int32)).toUInt64 &&& Int64.toUInt64 63)).toInt64) &&& (6148914691236517205 : Int64))) >>> ((Int32.toInt64 (2 : Int32)).toUInt64 &&& Int64.toUInt64 63)).toInt64) &&& (3689348814741910323 : Int64))) + ((Int64.toUInt64 (((a0 - (((Int64.toUInt64 a0 >>> ((Int32.toInt64 (1 : Int32)).toUInt64 &&& Int64.toUInt64 63)).toInt64) &&& (6148914691236517205 : Int64))) &&& (3689348814741910323 : Int64)) + (((Int64.toUInt64 (a0 - (((Int64.toUInt64 a0 >>> ((Int32.toInt64 (1 : Int32)).toUInt64 &&& Int64.toUInt64 63)).toInt64) &&& (6148914691236517205 : Int64))) >>> ((Int32.toInt64 (2 : Int32)).toUInt64 &&& Int64.toUInt64 63)).toInt64) &&& (3689348814741910323 : Int64))) >>> ((Int32.toInt64 (4 : Int32)).toUInt64 &&& Int64.toUInt64 63)).toInt64)) &&& (1085102592571150095 : Int64)) >>> ((Int32.toInt64 (8 : Int32)).toUInt64 &&& Int64.toUInt64 63)).toInt64)) + ((Int64.toUInt64 ((((((a0 - (((Int64.toUInt64 a0 >>> ((Int32.toInt64 (1 : Int32)).toUInt64 &&& Int64.toUInt64 63)).toInt64) &&& (6148914691236517205 : Int64))) &&& (3689348814741910323 : Int64)) + (((Int64.toUInt64 (a0 - (((Int64.toUInt64 a0 >>> ((Int32.toInt64 (1 : Int32)).toUInt64 &&& Int64.toUInt64 63)).toInt64) &&& (6148914691236517205 : Int64))) >>> ((Int32.toInt64 (2 : Int32)).toUInt64 &&& Int64.toUInt64 63)).toInt64) &&& (3689348814741910323 : Int64))) + ((Int64.toUInt64 (((a0 - (((Int64.toUInt64 a0 >>> ((Int32.toInt64 (1 : Int32)).toUInt64 &&& Int64.toUInt64 63)).toInt64) &&& (6148914691236517205 : Int64))) &&& (3689348814741910323 : Int64)) + (((Int64.toUInt64 (a0 - (((Int64.toUInt64 a0 >>> ((Int32.toInt64 (1 : Int32)).toUInt64 &&& Int64.toUInt64 63)).toInt64) &&& (6148914691236517205 : Int64))) >>> ((Int32.toInt64 (2 : Int32)).toUInt64 &&& Int64.toUInt64 63)).toInt64) &&& (3689348814741910323 : Int64))) >>> ((Int32.toInt64 (4 : Int32)).toUInt64 &&& Int64.toUInt64 63)).toInt64)) &&& (1085102592571150095 : Int64)) + ((Int64.toUInt64 (((((a0 - (((Int64.toUInt64 a0 >>> ((Int32.toInt64 (1 : Int32)).toUInt64 &&& Int64.toUInt64 63)).toInt64) &&& (6148914691236517205 : Int64))) &&& (3689348814741910323 : Int64)) + (((Int64.toUInt64 (a0 - (((Int64.toUInt64 a0 >>> ((Int32.toInt64 (1 : Int32)).toUInt64 &&& Int64.toUInt64 63)).toInt64) &&& (6148914691236517205 : Int64))) >>> ((Int32.toInt64 (2 : Int32)).toUInt64 &&& Int64.toUInt64 63)).toInt64) &&& (3689348814741910323 : Int64))) + ((Int64.toUInt64 (((a0 - (((Int64.toUInt64 a0 >>> ((Int32.toInt64 (1 : Int32)).toUInt64 &&& Int64.toUInt64 63)).toInt64) &&& (6148914691236517205 : Int64))) &&& (3689348814741910323 : Int64)) + (((Int64.toUInt64 (a0 - (((Int64.toUInt64 a0 >>> ((Int32.toInt64 (1 : Int32)).toUInt64 &&& Int64.toUInt64 63)).toInt64) &&& (6148914691236517205 : Int64))) >>> ((Int32.toInt64 (2 : Int32)).toUInt64 &&& Int64.toUInt64 63)).toInt64) &&& (3689348814741910323 : Int64))) >>> ((Int32.toInt64 (4 : Int32)).toUInt64 &&& Int64.toUInt64 63)).toInt64)) &&& (1085102592571150095 : Int64)) >>> ((Int32.toInt64 (8 : Int32)).toUInt64 &&& Int64.toUInt64 63)).toInt64)) >>> ((Int32.toInt64 (16 : Int32)).toUInt64 &&& Int64.toUInt64 63)).toInt64)) >>> ((Int32.toInt64 (32 : Int32)).toUInt64 &&& Int64.toUInt64 63)).toInt64))) &&& (127 : Int32))))) σ
set_option maxRecDepth 100000 in
set_option maxHeartbeats 4000000 in
theorem ct_J13_bitCount_95d88 {l : Launch} (hl : l.stackTraces = false) {a0 : Int64} {σ : Sg} {Post : Rs → Sg → Prop} (h : wp_J13_bitCount_95d88 a0 σ Post) : Ct l yJ13_bitCount_95d88 (.code yJ13_bitCount_95d88 cJ13_bitCount_95d88 2 (some .int)) 0 0 0 0 [.long a0] σ Post := by
  refine Ct_ofF [some (.long a0), none] hl (by decide +kernel) rfl (fun ad => by rfl) (fun ad => by exact Nat.le_of_ble_eq_true rfl) (fun v hv => mem_lo hv rfl) ?_
  intro G hG
  unfold wp_J13_bitCount_95d88 at h
  refine V_lload_n hG dJ13_bitCount_95d88_0 rfl ?_
  refine V_lload_n hG dJ13_bitCount_95d88_1 rfl ?_
  refine V_iconst (v := 1) hG (by decide) dJ13_bitCount_95d88_2 ?_
  refine V_lushr hG dJ13_bitCount_95d88_3 ?_
  refine V_ldc2 (v := 6148914691236517205) hG cl_J13_314 dJ13_bitCount_95d88_4 ?_
  refine V_land hG dJ13_bitCount_95d88_7 ?_
  refine V_lsub hG dJ13_bitCount_95d88_8 ?_
  refine V_lstore_n hG dJ13_bitCount_95d88_9 (Nat.le_of_ble_eq_true rfl) hp0 ?_
  refine V_lload_n hG dJ13_bitCount_95d88_10 rfl ?_
  refine V_ldc2 (v := 3689348814741910323) hG cl_J13_316 dJ13_bitCount_95d88_11 ?_
  refine V_land hG dJ13_bitCount_95d88_14 ?_
  refine V_lload_n hG dJ13_bitCount_95d88_15 rfl ?_
  refine V_iconst (v := 2) hG (by decide) dJ13_bitCount_95d88_16 ?_
  refine V_lushr hG dJ13_bitCount_95d88_17 ?_
  refine V_ldc2 (v := 3689348814741910323) hG cl_J13_316 dJ13_bitCount_95d88_18 ?_
  refine V_land hG dJ13_bitCount_95d88_21 ?_
  refine V_ladd hG dJ13_bitCount_95d88_22 ?_
  refine V_lstore_n hG dJ13_bitCount_95d88_23 (Nat.le_of_ble_eq_true rfl) hp0 ?_
  refine V_lload_n hG dJ13_bitCount_95d88_24 rfl ?_
  refine V_lload_n hG dJ13_bitCount_95d88_25 rfl ?_
  refine V_iconst (v := 4) hG (by decide) dJ13_bitCount_95d88_26 ?_
  refine V_lushr hG dJ13_bitCount_95d88_27 ?_
  refine V_ladd hG dJ13_bitCount_95d88_28 ?_
  refine V_ldc2 (v := 1085102592571150095) hG cl_J13_318 dJ13_bitCount_95d88_29 ?_
  refine V_land hG dJ13_bitCount_95d88_32 ?_
  refine V_lstore_n hG dJ13_bitCount_95d88_33 (Nat.le_of_ble_eq_true rfl) hp0 ?_
  refine V_lload_n hG dJ13_bitCount_95d88_34 rfl ?_
  refine V_lload_n hG dJ13_bitCount_95d88_35 rfl ?_
  refine V_bipush (v := 8) hG (by decide) dJ13_bitCount_95d88_36 ?_
  refine V_lushr hG dJ13_bitCount_95d88_38 ?_
  refine V_ladd hG dJ13_bitCount_95d88_39 ?_
  refine V_lstore_n hG dJ13_bitCount_95d88_40 (Nat.le_of_ble_eq_true rfl) hp0 ?_
  refine V_lload_n hG dJ13_bitCount_95d88_41 rfl ?_
  refine V_lload_n hG dJ13_bitCount_95d88_42 rfl ?_
  refine V_bipush (v := 16) hG (by decide) dJ13_bitCount_95d88_43 ?_
  refine V_lushr hG dJ13_bitCount_95d88_45 ?_
  refine V_ladd hG dJ13_bitCount_95d88_46 ?_
  refine V_lstore_n hG dJ13_bitCount_95d88_47 (Nat.le_of_ble_eq_true rfl) hp0 ?_
  refine V_lload_n hG dJ13_bitCount_95d88_48 rfl ?_
  refine V_lload_n hG dJ13_bitCount_95d88_49 rfl ?_
  refine V_bipush (v := 32) hG (by decide) dJ13_bitCount_95d88_50 ?_
  refine V_lushr hG dJ13_bitCount_95d88_52 ?_
  refine V_ladd hG dJ13_bitCount_95d88_53 ?_
  refine V_lstore_n hG dJ13_bitCount_95d88_54 (Nat.le_of_ble_eq_true rfl) hp0 ?_
  refine V_lload_n hG dJ13_bitCount_95d88_55 rfl ?_
  refine V_l2i hG dJ13_bitCount_95d88_56 ?_
  refine V_bipush (v := 127) hG (by decide) dJ13_bitCount_95d88_57 ?_
  refine V_iand hG dJ13_bitCount_95d88_59 ?_
  exact V_iret hG dJ13_bitCount_95d88_60 (by first | exact Nat.le_of_ble_eq_true rfl | omega | (dsimp only; omega)) (by first | exact Nat.le_of_ble_eq_true rfl | omega | (dsimp only; omega)) h
def wp_X0_tell (this : Nat) (a0 : Int32) (σ : Sg) (Post : Rs → Sg → Prop) : Prop := (((a0).toInt < 0 ∨ 8 < (a0).toInt → this % 32 = 0 ∧ Post (.inl (some (.int (sI σ this 9)))) σ) ∧ (a0 = nI 0 → this % 32 = 0 ∧ ∀ o1, o1 = sP σ this 1 → ∃ u2, o1 = some u2 ∧ u2 % 32 = 2 ∧ Post (.inl (some (.int (sI σ u2 0)))) σ) ∧ (a0 = nI 1 → this % 32 = 0 ∧ Post (.inl (some (.int (sI σ this 2)))) σ) ∧ (a0 = nI 2 → this % 32 = 0 ∧ Post (.inl (some (.int (sI σ this 3)))) σ) ∧ (a0 = nI 3 → this % 32 = 0 ∧ Post (.inl (some (.int (sI σ this 4)))) σ) ∧ (a0 = nI 4 → this % 32 = 0 ∧ Post (.inl (some (.int (sI σ this 5)))) σ) ∧ (a0 = nI 5 → this % 32 = 0 ∧ Post (.inl (some (.int (sI σ this 6)))) σ) ∧ (a0 = nI 6 → this % 32 = 0 ∧ (((sI σ this 7) = 0 → Post (.inl (some (.int (0 : Int32)))) σ) ∧ (¬ (sI σ this 7) = 0 → Post (.inl (some (.int (1 : Int32)))) σ))) ∧ (a0 = nI 7 → this % 32 = 0 ∧ (((sI σ this 8) = 0 → Post (.inl (some (.int (0 : Int32)))) σ) ∧ (¬ (sI σ this 8) = 0 → Post (.inl (some (.int (1 : Int32)))) σ))) ∧ (a0 = nI 8 → this % 32 = 0 ∧ wp_J13_bitCount_95d88 (sL σ this 11) σ (KI (fun x4 σ3 => Post (.inl (some (.int x4))) σ3) (fun E σ3 => Post (.inr E) σ3))))
set_option maxRecDepth 100000 in
set_option maxHeartbeats 4000000 in
theorem ct_X0_tell {l : Launch} (hl : l.stackTraces = false) {this : Nat} {a0 : Int32} {σ : Sg} {Post : Rs → Sg → Prop} (h : wp_X0_tell this a0 σ Post) : Ct l yX0_tell (.code yX0_tell cX0_tell 2 (some .int)) 1 21 0 0 [.ref this, .int a0] σ Post := by
  refine Ct_of [some (.ref this), some (.int a0)] hl (by decide +kernel) rfl (fun ad => by rfl) (fun ad => by exact Nat.le_of_ble_eq_true rfl) (fun v hv => mem_lo hv rfl) ?_
  intro G hG
  unfold wp_X0_tell at h
  refine V_iload_n hG dX0_tell_0 rfl ?_
  rcases sw_cases a0 8 (by decide) with c | ⟨j, hj, c⟩
  · replace h := h.1 c
    refine V_swOut (tgt := 119) hG dX0_tell_1 c (by decide) ?_
    refine V_aload_n (v := .ref this) hG dX0_tell_119 rfl rfl ?_
    obtain ⟨ht, h⟩ := h
    refine V_getI hG dX0_tell_120 fl_X0_9 rfl ht ?_
    exact V_iret hG dX0_tell_123 (by first | exact Nat.le_of_ble_eq_true rfl | omega | (dsimp only; omega)) (by first | exact Nat.le_of_ble_eq_true rfl | omega | (dsimp only; omega)) h
  · replace h := h.2
    rcases (show j = 0 ∨ j = 1 ∨ j = 2 ∨ j = 3 ∨ j = 4 ∨ j = 5 ∨ j = 6 ∨ j = 7 ∨ j = 8 by omega) with rfl | rfl | rfl | rfl | rfl | rfl | rfl | rfl | rfl
    · replace h := h.1 c
      refine V_top (congrArg Value.int c) ?_
      refine V_swIn (tgt := 52) (off := 51) hG dX0_tell_1 (by decide) (by decide) (by decide) (by decide) ?_
      refine V_aload_n (v := .ref this) hG dX0_tell_52 rfl rfl ?_
      obtain ⟨ht, h⟩ := h
      refine V_getPv hG dX0_tell_53 fl_X0_18 rfl ht (fun o1 ho => ?_)
      replace h := h o1 ho
      obtain ⟨u2, he, h⟩ := h
      subst he
      obtain ⟨ht, h⟩ := h
      refine V_getI hG dX0_tell_56 fl_X0_64 rfl ht ?_
      exact V_iret hG dX0_tell_59 (by first | exact Nat.le_of_ble_eq_true rfl | omega | (dsimp only; omega)) (by first | exact Nat.le_of_ble_eq_true rfl | omega | (dsimp only; omega)) h
    · replace h := h.2.1 c
      refine V_top (congrArg Value.int c) ?_
      refine V_swIn (tgt := 60) (off := 59) hG dX0_tell_1 (by decide) (by decide) (by decide) (by decide) ?_
      refine V_aload_n (v := .ref this) hG dX0_tell_60 rfl rfl ?_
      obtain ⟨ht, h⟩ := h
      refine V_getI hG dX0_tell_61 fl_X0_22 rfl ht ?_
      exact V_iret hG dX0_tell_64 (by first | exact Nat.le_of_ble_eq_true rfl | omega | (dsimp only; omega)) (by first | exact Nat.le_of_ble_eq_true rfl | omega | (dsimp only; omega)) h
    · replace h := h.2.2.1 c
      refine V_top (congrArg Value.int c) ?_
      refine V_swIn (tgt := 65) (off := 64) hG dX0_tell_1 (by decide) (by decide) (by decide) (by decide) ?_
      refine V_aload_n (v := .ref this) hG dX0_tell_65 rfl rfl ?_
      obtain ⟨ht, h⟩ := h
      refine V_getI hG dX0_tell_66 fl_X0_49 rfl ht ?_
      exact V_iret hG dX0_tell_69 (by first | exact Nat.le_of_ble_eq_true rfl | omega | (dsimp only; omega)) (by first | exact Nat.le_of_ble_eq_true rfl | omega | (dsimp only; omega)) h
    · replace h := h.2.2.2.1 c
      refine V_top (congrArg Value.int c) ?_
      refine V_swIn (tgt := 70) (off := 69) hG dX0_tell_1 (by decide) (by decide) (by decide) (by decide) ?_
      refine V_aload_n (v := .ref this) hG dX0_tell_70 rfl rfl ?_
      obtain ⟨ht, h⟩ := h
      refine V_getI hG dX0_tell_71 fl_X0_25 rfl ht ?_
      exact V_iret hG dX0_tell_74 (by first | exact Nat.le_of_ble_eq_true rfl | omega | (dsimp only; omega)) (by first | exact Nat.le_of_ble_eq_true rfl | omega | (dsimp only; omega)) h
    · replace h := h.2.2.2.2.1 c
      refine V_top (congrArg Value.int c) ?_
      refine V_swIn (tgt := 75) (off := 74) hG dX0_tell_1 (by decide) (by decide) (by decide) (by decide) ?_
      refine V_aload_n (v := .ref this) hG dX0_tell_75 rfl rfl ?_
      obtain ⟨ht, h⟩ := h
      refine V_getI hG dX0_tell_76 fl_X0_28 rfl ht ?_
      exact V_iret hG dX0_tell_79 (by first | exact Nat.le_of_ble_eq_true rfl | omega | (dsimp only; omega)) (by first | exact Nat.le_of_ble_eq_true rfl | omega | (dsimp only; omega)) h
    · replace h := h.2.2.2.2.2.1 c
      refine V_top (congrArg Value.int c) ?_
      refine V_swIn (tgt := 80) (off := 79) hG dX0_tell_1 (by decide) (by decide) (by decide) (by decide) ?_
      refine V_aload_n (v := .ref this) hG dX0_tell_80 rfl rfl ?_
      obtain ⟨ht, h⟩ := h
      refine V_getI hG dX0_tell_81 fl_X0_65 rfl ht ?_
      exact V_iret hG dX0_tell_84 (by first | exact Nat.le_of_ble_eq_true rfl | omega | (dsimp only; omega)) (by first | exact Nat.le_of_ble_eq_true rfl | omega | (dsimp only; omega)) h
    · replace h := h.2.2.2.2.2.2.1 c
      refine V_top (congrArg Value.int c) ?_
      refine V_swIn (tgt := 85) (off := 84) hG dX0_tell_1 (by decide) (by decide) (by decide) (by decide) ?_
      refine V_aload_n (v := .ref this) hG dX0_tell_85 rfl rfl ?_
      obtain ⟨ht, h⟩ := h
      refine V_getI hG dX0_tell_86 fl_X0_42 rfl ht ?_
      refine V_if_eq (tgt := 96) hG dX0_tell_89 (by decide) (fun c => ?_) (fun c => ?_)
      · replace h := h.1 c
        refine V_iconst (v := 0) hG (by decide) dX0_tell_96 ?_
        exact V_iret hG dX0_tell_97 (by first | exact Nat.le_of_ble_eq_true rfl | omega | (dsimp only; omega)) (by first | exact Nat.le_of_ble_eq_true rfl | omega | (dsimp only; omega)) h
      · replace h := h.2 c
        refine V_iconst (v := 1) hG (by decide) dX0_tell_92 ?_
        refine V_goto (tgt := 97) hG dX0_tell_93 (by decide) ?_
        exact V_iret hG dX0_tell_97 (by first | exact Nat.le_of_ble_eq_true rfl | omega | (dsimp only; omega)) (by first | exact Nat.le_of_ble_eq_true rfl | omega | (dsimp only; omega)) h
    · replace h := h.2.2.2.2.2.2.2.1 c
      refine V_top (congrArg Value.int c) ?_
      refine V_swIn (tgt := 98) (off := 97) hG dX0_tell_1 (by decide) (by decide) (by decide) (by decide) ?_
      refine V_aload_n (v := .ref this) hG dX0_tell_98 rfl rfl ?_
      obtain ⟨ht, h⟩ := h
      refine V_getI hG dX0_tell_99 fl_X0_46 rfl ht ?_
      refine V_if_eq (tgt := 109) hG dX0_tell_102 (by decide) (fun c => ?_) (fun c => ?_)
      · replace h := h.1 c
        refine V_iconst (v := 0) hG (by decide) dX0_tell_109 ?_
        exact V_iret hG dX0_tell_110 (by first | exact Nat.le_of_ble_eq_true rfl | omega | (dsimp only; omega)) (by first | exact Nat.le_of_ble_eq_true rfl | omega | (dsimp only; omega)) h
      · replace h := h.2 c
        refine V_iconst (v := 1) hG (by decide) dX0_tell_105 ?_
        refine V_goto (tgt := 110) hG dX0_tell_106 (by decide) ?_
        exact V_iret hG dX0_tell_110 (by first | exact Nat.le_of_ble_eq_true rfl | omega | (dsimp only; omega)) (by first | exact Nat.le_of_ble_eq_true rfl | omega | (dsimp only; omega)) h
    · replace h := h.2.2.2.2.2.2.2.2 c
      refine V_top (congrArg Value.int c) ?_
      refine V_swIn (tgt := 111) (off := 110) hG dX0_tell_1 (by decide) (by decide) (by decide) (by decide) ?_
      refine V_aload_n (v := .ref this) hG dX0_tell_111 rfl rfl ?_
      obtain ⟨ht, h⟩ := h
      refine V_getJ hG dX0_tell_112 fl_X0_68 rfl ht ?_
      refine V_cSI _ _ hG dX0_tell_115 (ct_J13_bitCount_95d88 hl h) mv_J13_bitCount_95d88 ml_X0_72 rfl rfl (by first | exact Nat.le_of_ble_eq_true rfl | (simp only [List.map_cons, List.map_nil, List.sum_cons, List.sum_nil, cat_rf]; exact Nat.le_of_ble_eq_true rfl)) (Nat.le_of_ble_eq_true rfl) (Nat.le_of_ble_eq_true rfl) (by first | exact Nat.le_of_ble_eq_true rfl | omega | (dsimp only; omega)) (by first | exact Nat.le_of_ble_eq_true rfl | omega | (dsimp only; omega)) ?_ (fun x4 σ3 h9 => ?_)
      · exact fun E σ3 hx => VX_out hG (by first | exact Nat.le_of_ble_eq_true rfl | omega | (dsimp only; omega)) (by first | exact Nat.le_of_ble_eq_true rfl | omega | (dsimp only; omega)) hx
      · replace h := h9
        clear h9
        exact V_iret hG dX0_tell_118 (by first | exact Nat.le_of_ble_eq_true rfl | omega | (dsimp only; omega)) (by first | exact Nat.le_of_ble_eq_true rfl | omega | (dsimp only; omega)) h
def wp_X8_init_31  : Nat → Nat → Int32 → Sg → (Rs → Sg → Prop) → Prop
  | 0, _, _, _, _ => False
  | f + 1, this, v1, σ, Post => this % 32 = 8 ∧ ∀ o1, o1 = sP σ this 4 → ∃ u2, o1 = some u2 ∧ isArr u2 ∧ (((nI (aln u2)) ≤ v1 → Post (.inl none) σ) ∧ (¬ (nI (aln u2)) ≤ v1 → this % 32 = 8 ∧ ∀ o3, o3 = sP σ this 4 → ∃ u4, o3 = some u4 ∧ aty (u4 % 32) = some .int ∧ ∃ j5, v1 = nI j5 ∧ j5 < aln u4 ∧ (wp_X8_init_31 f this (v1 + 1) (wI σ u4 j5 (9 : Int32)) Post)))
set_option maxRecDepth 100000 in
set_option maxHeartbeats 4000000 in
theorem wv_X8_init_31 {L9 : Launch} {G : Cx} {Post : Rs → Sg → Prop} (hl : L9.stackTraces = false) (hG : CX L9 G yX8_init cX8_init 2 none [] { frames := 1, cells := 3, slots := 74, locals := 12 })   : ∀ (f : Nat) (this : Nat) (v1 : Int32) (σ : Sg), wp_X8_init_31 f this v1 σ Post → V G (QM G 3 74 Post) 31 [some (.ref this), some (.int v1)] [] σ 3 74 := by
  intro f
  induction f with
  | zero => intro _ _ σ h; exact h.elim
  | succ f ih =>
    intro this v1 σ h
    refine V_iload_n hG dX8_init_31 rfl ?_
    refine V_aload_n (v := .ref this) hG dX8_init_32 rfl rfl ?_
    obtain ⟨ht, h⟩ := h
    refine V_getPv hG dX8_init_33 fl_X8_23 rfl ht (fun o1 ho => ?_)
    replace h := h o1 ho
    obtain ⟨u2, he, h⟩ := h
    subst he
    obtain ⟨ha, h⟩ := h
    refine V_alenv hG dX8_init_36 ha ?_
    refine V_icmp_ge (tgt := 54) hG dX8_init_37 (by decide) (fun c => ?_) (fun c => ?_)
    · replace h := h.1 c
      exact V_vret hG dX8_init_54 (by first | exact Nat.le_of_ble_eq_true rfl | omega | (dsimp only; omega)) (by first | exact Nat.le_of_ble_eq_true rfl | omega | (dsimp only; omega)) h
    · replace h := h.2 c
      refine V_aload_n (v := .ref this) hG dX8_init_40 rfl rfl ?_
      obtain ⟨ht, h⟩ := h
      refine V_getPv hG dX8_init_41 fl_X8_23 rfl ht (fun o3 ho => ?_)
      replace h := h o3 ho
      refine V_iload_n hG dX8_init_44 rfl ?_
      refine V_bipush (v := 9) hG (by decide) dX8_init_45 ?_
      obtain ⟨u4, he, h⟩ := h
      subst he
      obtain ⟨ha, j5, hi, hj, h⟩ := h
      refine V_iast hG dX8_init_47 ha hi hj ?_
      refine V_iincv (c := 1) hG dX8_init_48 rfl (by decide) (hpV rfl rfl) ?_
      refine V_goto (tgt := 31) hG dX8_init_51 (by decide) ?_
      refine V_forget (lo' := [some (.ref this), some (.int (v1 + 1))]) ⟨rfl, ⟨rfl, trivial⟩⟩ ?_
      exact ih _ _ _ h
def wp_X8_init (this : Nat) (σ : Sg) (Post : Rs → Sg → Prop) : Prop := ∃ u1, sX σ u1 = false ∧ aty (u1 % 32) = some (.object "Millrace$Batch") ∧ aln u1 = 60 ∧ this % 32 = 8 ∧ ∃ u2, sX (wP (wN σ u1) this 0 (some u1)) u2 = false ∧ aty (u2 % 32) = some (.object "Millrace$Order") ∧ aln u2 = 10 ∧ this % 32 = 8 ∧ ∃ u3, sX (wP (wN (wP (wN σ u1) this 0 (some u1)) u2) this 2 (some u2)) u3 = false ∧ aty (u3 % 32) = some .int ∧ aln u3 = 4 ∧ this % 32 = 8 ∧ (∃ g, wp_X8_init_31 g this (0 : Int32) (wP (wN (wP (wN (wP (wN σ u1) this 0 (some u1)) u2) this 2 (some u2)) u3) this 4 (some u3)) Post)
set_option maxRecDepth 100000 in
set_option maxHeartbeats 4000000 in
theorem ct_X8_init {l : Launch} (hl : l.stackTraces = false) {this : Nat} {σ : Sg} {Post : Rs → Sg → Prop} (h : wp_X8_init this σ Post) : Ct l yX8_init (.code yX8_init cX8_init 2 none) 1 12 3 74 [.ref this] σ Post := by
  refine Ct_of [some (.ref this), none] hl (by decide +kernel) rfl (fun ad => by rfl) (fun ad => by exact Nat.le_of_ble_eq_true rfl) (fun v hv => mem_lo hv rfl) ?_
  intro G hG
  unfold wp_X8_init at h
  refine V_aload_n (v := .ref this) hG dX8_init_0 rfl rfl ?_
  refine V_objInit hG dX8_init_1 ml_X8_3 oi_1 oi_2 (Nat.le_of_ble_eq_true rfl) (by first | exact Nat.le_of_ble_eq_true rfl | (simp only [List.map_cons, List.map_nil, List.sum_cons, List.sum_nil, cat_rf]; exact Nat.le_of_ble_eq_true rfl)) ?_
  refine V_aload_n (v := .ref this) hG dX8_init_4 rfl rfl ?_
  refine V_bipush (v := 60) hG (by decide) dX8_init_5 ?_
  obtain ⟨u1, hu, hy, hn, h⟩ := h
  refine V_anewn (N := 60) hG dX8_init_7 hu hy cl_X8_9 (by decide) hn rfl (Nat.le_of_ble_eq_true rfl) (Nat.le_of_ble_eq_true rfl) ?_
  obtain ⟨ht, h⟩ := h
  refine V_putS hG dX8_init_10 fl_X8_11 rfl (by decide +kernel) ht ?_
  refine V_aload_n (v := .ref this) hG dX8_init_13 rfl rfl ?_
  refine V_bipush (v := 10) hG (by decide) dX8_init_14 ?_
  obtain ⟨u2, hu, hy, hn, h⟩ := h
  refine V_anewn (N := 10) hG dX8_init_16 hu hy cl_X8_17 (by decide) hn rfl (Nat.le_of_ble_eq_true rfl) (Nat.le_of_ble_eq_true rfl) ?_
  obtain ⟨ht, h⟩ := h
  refine V_putS hG dX8_init_19 fl_X8_19 rfl (by decide +kernel) ht ?_
  refine V_aload_n (v := .ref this) hG dX8_init_22 rfl rfl ?_
  refine V_iconst (v := 4) hG (by decide) dX8_init_23 ?_
  obtain ⟨u3, hu, hy, hn, h⟩ := h
  refine V_newan (ty := .int) (N := 4) hG dX8_init_24 rfl hu hy rfl (fun _ _ h => h) arr_int hn rfl (by decide) (Nat.le_of_ble_eq_true rfl) (Nat.le_of_ble_eq_true rfl) ?_
  obtain ⟨ht, h⟩ := h
  refine V_putS hG dX8_init_26 fl_X8_23 rfl (by decide +kernel) ht ?_
  refine V_iconst (v := 0) hG (by decide) dX8_init_29 ?_
  refine V_istore_n hG dX8_init_30 (Nat.le_of_ble_eq_true rfl) (hpV rfl rfl) ?_
  refine V_forget (lo' := [some (.ref this), some (.int (0 : Int32))]) ⟨rfl, ⟨rfl, trivial⟩⟩ ?_
  obtain ⟨g, h⟩ := h
  refine V_widen (k' := 3) (n' := 74) (by first | exact Nat.le_of_ble_eq_true rfl | omega | (dsimp only; omega)) (by first | exact Nat.le_of_ble_eq_true rfl | omega | (dsimp only; omega)) ?_
  exact wv_X8_init_31 hl hG  g _ _ _ h
def wp_X1_init (this : Nat) (σ : Sg) (Post : Rs → Sg → Prop) : Prop := ∃ u1, sX σ u1 = false ∧ u1 % 32 = 8 ∧ wp_X8_init u1 (wN σ u1) (KV (fun σ2 => this % 32 = 1 ∧ ∃ u3, sX (wP σ2 this 0 (some u1)) u3 = false ∧ aty (u3 % 32) = some (.object "Millrace$Machine") ∧ aln u3 = 6 ∧ this % 32 = 1 ∧ ∃ u4, sX (wP (wN (wP σ2 this 0 (some u1)) u3) this 1 (some u3)) u4 = false ∧ aty (u4 % 32) = some (.object "Millrace$Person") ∧ aln u4 = 6 ∧ this % 32 = 1 ∧ Post (.inl none) (wP (wN (wP (wN (wP σ2 this 0 (some u1)) u3) this 1 (some u3)) u4) this 3 (some u4))) (fun E σ2 => Post (.inr E) σ2))
set_option maxRecDepth 100000 in
set_option maxHeartbeats 4000000 in
theorem ct_X1_init {l : Launch} (hl : l.stackTraces = false) {this : Nat} {σ : Sg} {Post : Rs → Sg → Prop} (h : wp_X1_init this σ Post) : Ct l yX1_init (.code yX1_init cX1_init 1 none) 2 33 6 91 [.ref this] σ Post := by
  refine Ct_of [some (.ref this)] hl (by decide +kernel) rfl (fun ad => by rfl) (fun ad => by exact Nat.le_of_ble_eq_true rfl) (fun v hv => mem_lo hv rfl) ?_
  intro G hG
  unfold wp_X1_init at h
  refine V_aload_n (v := .ref this) hG dX1_init_0 rfl rfl ?_
  refine V_objInit hG dX1_init_1 ml_X1_3 oi_1 oi_2 (Nat.le_of_ble_eq_true rfl) (by first | exact Nat.le_of_ble_eq_true rfl | (simp only [List.map_cons, List.map_nil, List.sum_cons, List.sum_nil, cat_rf]; exact Nat.le_of_ble_eq_true rfl)) ?_
  refine V_aload_n (v := .ref this) hG dX1_init_4 rfl rfl ?_
  obtain ⟨u1, hu, ht, h⟩ := h
  refine V_newn (N := 5) hG dX1_init_5 hu ht rfl rfl cl_X1_9 ins_X8 ini_X8 (Nat.le_of_ble_eq_true rfl) (Nat.le_of_ble_eq_true rfl) ?_
  refine V_dup (v := .ref u1) hG rfl dX1_init_8 ?_
  refine V_cIV _ _ hG dX1_init_9 (ct_X8_init hl h) mv_X8_init ml_X1_11 rfl rfl (by first | exact Nat.le_of_ble_eq_true rfl | (simp only [List.map_cons, List.map_nil, List.sum_cons, List.sum_nil, cat_rf]; exact Nat.le_of_ble_eq_true rfl)) (Nat.le_of_ble_eq_true rfl) (Nat.le_of_ble_eq_true rfl) (by first | exact Nat.le_of_ble_eq_true rfl | omega | (dsimp only; omega)) (by first | exact Nat.le_of_ble_eq_true rfl | omega | (dsimp only; omega)) ?_ (fun σ2 h9 => ?_)
  · exact fun E σ2 hx => VX_out hG (by first | exact Nat.le_of_ble_eq_true rfl | omega | (dsimp only; omega)) (by first | exact Nat.le_of_ble_eq_true rfl | omega | (dsimp only; omega)) hx
  · replace h := h9
    clear h9
    obtain ⟨ht, h⟩ := h
    refine V_putS hG dX1_init_12 fl_X1_12 rfl (by decide +kernel) ht ?_
    refine V_aload_n (v := .ref this) hG dX1_init_15 rfl rfl ?_
    refine V_bipush (v := 6) hG (by decide) dX1_init_16 ?_
    obtain ⟨u3, hu, hy, hn, h⟩ := h
    refine V_anewn (N := 6) hG dX1_init_18 hu hy cl_X1_18 (by decide) hn rfl (Nat.le_of_ble_eq_true rfl) (Nat.le_of_ble_eq_true rfl) ?_
    obtain ⟨ht, h⟩ := h
    refine V_putS hG dX1_init_21 fl_X1_20 rfl (by decide +kernel) ht ?_
    refine V_aload_n (v := .ref this) hG dX1_init_24 rfl rfl ?_
    refine V_bipush (v := 6) hG (by decide) dX1_init_25 ?_
    obtain ⟨u4, hu, hy, hn, h⟩ := h
    refine V_anewn (N := 6) hG dX1_init_27 hu hy cl_X1_24 (by decide) hn rfl (Nat.le_of_ble_eq_true rfl) (Nat.le_of_ble_eq_true rfl) ?_
    obtain ⟨ht, h⟩ := h
    refine V_putS hG dX1_init_30 fl_X1_26 rfl (by decide +kernel) ht ?_
    exact V_vret hG dX1_init_33 (by first | exact Nat.le_of_ble_eq_true rfl | omega | (dsimp only; omega)) (by first | exact Nat.le_of_ble_eq_true rfl | omega | (dsimp only; omega)) h
def wp_X1_putMachine (this : Nat) (a0 : Option Nat) (σ : Sg) (Post : Rs → Sg → Prop) : Prop := this % 32 = 1 ∧ this % 32 = 1 ∧ ∀ o1, o1 = sP σ this 1 → ∃ u2, o1 = some u2 ∧ isArr u2 ∧ (((sI σ this 2) < (nI (aln u2)) → this % 32 = 1 ∧ ∀ o3, o3 = sP σ this 1 → this % 32 = 1 ∧ ∃ u4, o3 = some u4 ∧ ∃ u5, a0 = some u5 ∧ canSt u4 u5 ∧ ∃ j6, (sI σ this 2) = nI j6 ∧ j6 < aln u4 ∧ this % 32 = 1 ∧ this % 32 = 1 ∧ Post (.inl none) (wI (wP σ u4 j6 (some u5)) this 2 ((sI (wP σ u4 j6 (some u5)) this 2) + (1 : Int32)))) ∧ (¬ (sI σ this 2) < (nI (aln u2)) → Post (.inr "java/lang/IllegalStateException") σ))
set_option maxRecDepth 100000 in
set_option maxHeartbeats 4000000 in
theorem ct_X1_putMachine {l : Launch} (hl : l.stackTraces = false) {this : Nat} {a0 : Option Nat} {σ : Sg} {Post : Rs → Sg → Prop} (h : wp_X1_putMachine this a0 σ Post) : Ct l yX1_putMachine (.code yX1_putMachine cX1_putMachine 2 none) 6 82 1 6 [.ref this, va_rf a0] σ Post := by
  refine Ct_of [some (.ref this), some (va_rf a0)] hl (by decide +kernel) rfl (fun ad => by cases a0 <;> rfl) (fun ad => by cases a0 <;> exact Nat.le_of_ble_eq_true rfl) (fun v hv => mem_lo hv rfl) ?_
  intro G hG
  unfold wp_X1_putMachine at h
  refine V_aload_n (v := .ref this) hG dX1_putMachine_0 rfl rfl ?_
  obtain ⟨ht, h⟩ := h
  refine V_getI hG dX1_putMachine_1 fl_X1_30 rfl ht ?_
  refine V_aload_n (v := .ref this) hG dX1_putMachine_4 rfl rfl ?_
  obtain ⟨ht, h⟩ := h
  refine V_getPv hG dX1_putMachine_5 fl_X1_20 rfl ht (fun o1 ho => ?_)
  replace h := h o1 ho
  obtain ⟨u2, he, h⟩ := h
  subst he
  obtain ⟨ha, h⟩ := h
  refine V_alenv hG dX1_putMachine_8 ha ?_
  refine V_icmp_lt (tgt := 22) hG dX1_putMachine_9 (by decide) (fun c => ?_) (fun c => ?_)
  · replace h := h.1 c
    refine V_aload_n (v := .ref this) hG dX1_putMachine_22 rfl rfl ?_
    obtain ⟨ht, h⟩ := h
    refine V_getPv hG dX1_putMachine_23 fl_X1_20 rfl ht (fun o3 ho => ?_)
    replace h := h o3 ho
    refine V_aload_n (v := .ref this) hG dX1_putMachine_26 rfl rfl ?_
    obtain ⟨ht, h⟩ := h
    refine V_getI hG dX1_putMachine_27 fl_X1_30 rfl ht ?_
    refine V_aload_n (v := va_rf a0) hG dX1_putMachine_30 (isRef_rf _) rfl ?_
    obtain ⟨u4, he, h⟩ := h
    subst he
    obtain ⟨u5, he, h⟩ := h
    subst he
    obtain ⟨ha, j6, hi, hj, h⟩ := h
    refine V_aastv hG dX1_putMachine_31 ha hi hj ?_
    refine V_aload_n (v := .ref this) hG dX1_putMachine_32 rfl rfl ?_
    refine V_dup (v := .ref this) hG rfl dX1_putMachine_33 ?_
    obtain ⟨ht, h⟩ := h
    refine V_getI hG dX1_putMachine_34 fl_X1_30 rfl ht ?_
    refine V_iconst (v := 1) hG (by decide) dX1_putMachine_37 ?_
    refine V_iadd hG dX1_putMachine_38 ?_
    obtain ⟨ht, h⟩ := h
    refine V_putI hG dX1_putMachine_39 fl_X1_30 rfl (fun e => absurd e (by decide)) rfl ht ?_
    exact V_vret hG dX1_putMachine_42 (by first | exact Nat.le_of_ble_eq_true rfl | omega | (dsimp only; omega)) (by first | exact Nat.le_of_ble_eq_true rfl | omega | (dsimp only; omega)) h
  · replace h := h.2 c
    exact V_throw (ik := 34) (is := 36) (ic := 38) (text := "there are 6 machines") "java/lang/IllegalStateException" hG dX1_putMachine_12 dX1_putMachine_15 dX1_putMachine_16 dX1_putMachine_18 dX1_putMachine_21 (by decide) tw_X1_38_36_S.1 tw_X1_38_36_S.2.1 in_S tw_X1_38_36_S.2.2.1 tw_X1_38_36_S.2.2.2.1 tw_X1_38_36_S.2.2.2.2.1 tw_X1_38_36_S.2.2.2.2.2 (Nat.le_of_ble_eq_true rfl) (by first | exact Nat.le_of_ble_eq_true rfl | (simp only [List.map_cons, List.map_nil, List.sum_cons, List.sum_nil, cat_rf]; exact Nat.le_of_ble_eq_true rfl)) (Nat.le_of_ble_eq_true rfl) (Nat.le_of_ble_eq_true rfl) (Nat.le_of_ble_eq_true rfl) (Nat.le_of_ble_eq_true rfl) h
def wp_X1_putPerson (this : Nat) (a0 : Option Nat) (σ : Sg) (Post : Rs → Sg → Prop) : Prop := this % 32 = 1 ∧ this % 32 = 1 ∧ ∀ o1, o1 = sP σ this 3 → ∃ u2, o1 = some u2 ∧ isArr u2 ∧ (((sI σ this 4) < (nI (aln u2)) → this % 32 = 1 ∧ ∀ o3, o3 = sP σ this 3 → this % 32 = 1 ∧ ∃ u4, o3 = some u4 ∧ ∃ u5, a0 = some u5 ∧ canSt u4 u5 ∧ ∃ j6, (sI σ this 4) = nI j6 ∧ j6 < aln u4 ∧ this % 32 = 1 ∧ this % 32 = 1 ∧ Post (.inl none) (wI (wP σ u4 j6 (some u5)) this 4 ((sI (wP σ u4 j6 (some u5)) this 4) + (1 : Int32)))) ∧ (¬ (sI σ this 4) < (nI (aln u2)) → Post (.inr "java/lang/IllegalStateException") σ))
set_option maxRecDepth 100000 in
set_option maxHeartbeats 4000000 in
theorem ct_X1_putPerson {l : Launch} (hl : l.stackTraces = false) {this : Nat} {a0 : Option Nat} {σ : Sg} {Post : Rs → Sg → Prop} (h : wp_X1_putPerson this a0 σ Post) : Ct l yX1_putPerson (.code yX1_putPerson cX1_putPerson 2 none) 6 82 1 6 [.ref this, va_rf a0] σ Post := by
  refine Ct_of [some (.ref this), some (va_rf a0)] hl (by decide +kernel) rfl (fun ad => by cases a0 <;> rfl) (fun ad => by cases a0 <;> exact Nat.le_of_ble_eq_true rfl) (fun v hv => mem_lo hv rfl) ?_
  intro G hG
  unfold wp_X1_putPerson at h
  refine V_aload_n (v := .ref this) hG dX1_putPerson_0 rfl rfl ?_
  obtain ⟨ht, h⟩ := h
  refine V_getI hG dX1_putPerson_1 fl_X1_41 rfl ht ?_
  refine V_aload_n (v := .ref this) hG dX1_putPerson_4 rfl rfl ?_
  obtain ⟨ht, h⟩ := h
  refine V_getPv hG dX1_putPerson_5 fl_X1_26 rfl ht (fun o1 ho => ?_)
  replace h := h o1 ho
  obtain ⟨u2, he, h⟩ := h
  subst he
  obtain ⟨ha, h⟩ := h
  refine V_alenv hG dX1_putPerson_8 ha ?_
  refine V_icmp_lt (tgt := 22) hG dX1_putPerson_9 (by decide) (fun c => ?_) (fun c => ?_)
  · replace h := h.1 c
    refine V_aload_n (v := .ref this) hG dX1_putPerson_22 rfl rfl ?_
    obtain ⟨ht, h⟩ := h
    refine V_getPv hG dX1_putPerson_23 fl_X1_26 rfl ht (fun o3 ho => ?_)
    replace h := h o3 ho
    refine V_aload_n (v := .ref this) hG dX1_putPerson_26 rfl rfl ?_
    obtain ⟨ht, h⟩ := h
    refine V_getI hG dX1_putPerson_27 fl_X1_41 rfl ht ?_
    refine V_aload_n (v := va_rf a0) hG dX1_putPerson_30 (isRef_rf _) rfl ?_
    obtain ⟨u4, he, h⟩ := h
    subst he
    obtain ⟨u5, he, h⟩ := h
    subst he
    obtain ⟨ha, j6, hi, hj, h⟩ := h
    refine V_aastv hG dX1_putPerson_31 ha hi hj ?_
    refine V_aload_n (v := .ref this) hG dX1_putPerson_32 rfl rfl ?_
    refine V_dup (v := .ref this) hG rfl dX1_putPerson_33 ?_
    obtain ⟨ht, h⟩ := h
    refine V_getI hG dX1_putPerson_34 fl_X1_41 rfl ht ?_
    refine V_iconst (v := 1) hG (by decide) dX1_putPerson_37 ?_
    refine V_iadd hG dX1_putPerson_38 ?_
    obtain ⟨ht, h⟩ := h
    refine V_putI hG dX1_putPerson_39 fl_X1_41 rfl (fun e => absurd e (by decide)) rfl ht ?_
    exact V_vret hG dX1_putPerson_42 (by first | exact Nat.le_of_ble_eq_true rfl | omega | (dsimp only; omega)) (by first | exact Nat.le_of_ble_eq_true rfl | omega | (dsimp only; omega)) h
  · replace h := h.2 c
    exact V_throw (ik := 34) (is := 44) (ic := 38) (text := "there are 6 people") "java/lang/IllegalStateException" hG dX1_putPerson_12 dX1_putPerson_15 dX1_putPerson_16 dX1_putPerson_18 dX1_putPerson_21 (by decide) tw_X1_38_44_S.1 tw_X1_38_44_S.2.1 in_S tw_X1_38_44_S.2.2.1 tw_X1_38_44_S.2.2.2.1 tw_X1_38_44_S.2.2.2.2.1 tw_X1_38_44_S.2.2.2.2.2 (Nat.le_of_ble_eq_true rfl) (by first | exact Nat.le_of_ble_eq_true rfl | (simp only [List.map_cons, List.map_nil, List.sum_cons, List.sum_nil, cat_rf]; exact Nat.le_of_ble_eq_true rfl)) (Nat.le_of_ble_eq_true rfl) (Nat.le_of_ble_eq_true rfl) (Nat.le_of_ble_eq_true rfl) (Nat.le_of_ble_eq_true rfl) h
def wp_X2_hasStoreRoom (this : Nat) (a0 : Int32) (σ : Sg) (Post : Rs → Sg → Prop) : Prop := this % 32 = 2 ∧ this % 32 = 2 ∧ (((sI σ this 8) < ((sI σ this 10) + a0) → (b01 (0 : Int32) ∧ Post (.inl (some (.int (0 : Int32)))) σ)) ∧ (¬ (sI σ this 8) < ((sI σ this 10) + a0) → (b01 (1 : Int32) ∧ Post (.inl (some (.int (1 : Int32)))) σ)))
set_option maxRecDepth 100000 in
set_option maxHeartbeats 4000000 in
theorem ct_X2_hasStoreRoom {l : Launch} (hl : l.stackTraces = false) {this : Nat} {a0 : Int32} {σ : Sg} {Post : Rs → Sg → Prop} (h : wp_X2_hasStoreRoom this a0 σ Post) : Ct l yX2_hasStoreRoom (.code yX2_hasStoreRoom cX2_hasStoreRoom 2 (some .boolean)) 0 0 0 0 [.ref this, .int a0] σ Post := by
  refine Ct_of [some (.ref this), some (.int a0)] hl (by decide +kernel) rfl (fun ad => by rfl) (fun ad => by exact Nat.le_of_ble_eq_true rfl) (fun v hv => mem_lo hv rfl) ?_
  intro G hG
  unfold wp_X2_hasStoreRoom at h
  refine V_aload_n (v := .ref this) hG dX2_hasStoreRoom_0 rfl rfl ?_
  obtain ⟨ht, h⟩ := h
  refine V_getI hG dX2_hasStoreRoom_1 fl_X2_52 rfl ht ?_
  refine V_iload_n hG dX2_hasStoreRoom_4 rfl ?_
  refine V_iadd hG dX2_hasStoreRoom_5 ?_
  refine V_aload_n (v := .ref this) hG dX2_hasStoreRoom_6 rfl rfl ?_
  obtain ⟨ht, h⟩ := h
  refine V_getI hG dX2_hasStoreRoom_7 fl_X2_23 rfl ht ?_
  refine V_icmp_gt (tgt := 17) hG dX2_hasStoreRoom_10 (by decide) (fun c => ?_) (fun c => ?_)
  · replace h := h.1 c
    refine V_iconst (v := 0) hG (by decide) dX2_hasStoreRoom_17 ?_
    exact V_zret hG dX2_hasStoreRoom_18 h.1 (by first | exact Nat.le_of_ble_eq_true rfl | omega | (dsimp only; omega)) (by first | exact Nat.le_of_ble_eq_true rfl | omega | (dsimp only; omega)) h.2
  · replace h := h.2 c
    refine V_iconst (v := 1) hG (by decide) dX2_hasStoreRoom_13 ?_
    refine V_goto (tgt := 18) hG dX2_hasStoreRoom_14 (by decide) ?_
    exact V_zret hG dX2_hasStoreRoom_18 h.1 (by first | exact Nat.le_of_ble_eq_true rfl | omega | (dsimp only; omega)) (by first | exact Nat.le_of_ble_eq_true rfl | omega | (dsimp only; omega)) h.2
def wp_X8_putInStore (this : Nat) (a0 : Option Nat) (σ : Sg) (Post : Rs → Sg → Prop) : Prop := ∃ u1, a0 = some u1 ∧ u1 % 32 = 0 ∧ u1 % 32 = 0 ∧ ∀ o2, o2 = sP (wI σ u1 4 (3 : Int32)) u1 1 → ∃ u3, o2 = some u3 ∧ u3 % 32 = 2 ∧ u1 % 32 = 0 ∧ u3 % 32 = 2 ∧ Post (.inl none) (wI (wI σ u1 4 (3 : Int32)) u3 10 ((sI (wI σ u1 4 (3 : Int32)) u3 10) + (sI (wI σ u1 4 (3 : Int32)) u1 2)))
set_option maxRecDepth 100000 in
set_option maxHeartbeats 4000000 in
theorem ct_X8_putInStore {l : Launch} (hl : l.stackTraces = false) {this : Nat} {a0 : Option Nat} {σ : Sg} {Post : Rs → Sg → Prop} (h : wp_X8_putInStore this a0 σ Post) : Ct l yX8_putInStore (.code yX8_putInStore cX8_putInStore 2 none) 0 0 0 0 [.ref this, va_rf a0] σ Post := by
  refine Ct_of [some (.ref this), some (va_rf a0)] hl (by decide +kernel) rfl (fun ad => by cases a0 <;> rfl) (fun ad => by cases a0 <;> exact Nat.le_of_ble_eq_true rfl) (fun v hv => mem_lo hv rfl) ?_
  intro G hG
  unfold wp_X8_putInStore at h
  refine V_aload_n (v := va_rf a0) hG dX8_putInStore_0 (isRef_rf _) rfl ?_
  refine V_iconst (v := 3) hG (by decide) dX8_putInStore_1 ?_
  obtain ⟨u1, he, h⟩ := h
  subst he
  obtain ⟨ht, h⟩ := h
  refine V_putI hG dX8_putInStore_2 fl_X8_68 rfl (fun e => absurd e (by decide)) rfl ht ?_
  refine V_aload_n (v := .ref u1) hG dX8_putInStore_5 rfl rfl ?_
  obtain ⟨ht, h⟩ := h
  refine V_getPv hG dX8_putInStore_6 fl_X8_71 rfl ht (fun o2 ho => ?_)
  replace h := h o2 ho
  refine V_dup (v := va_rf o2) hG (cat_rf _) dX8_putInStore_9 ?_
  obtain ⟨u3, he, h⟩ := h
  subst he
  obtain ⟨ht, h⟩ := h
  refine V_getI hG dX8_putInStore_10 fl_X8_75 rfl ht ?_
  refine V_aload_n (v := .ref u1) hG dX8_putInStore_13 rfl rfl ?_
  obtain ⟨ht, h⟩ := h
  refine V_getI hG dX8_putInStore_14 fl_X8_78 rfl ht ?_
  refine V_iadd hG dX8_putInStore_17 ?_
  obtain ⟨ht, h⟩ := h
  refine V_putI hG dX8_putInStore_18 fl_X8_75 rfl (fun e => absurd e (by decide)) rfl ht ?_
  exact V_vret hG dX8_putInStore_21 (by first | exact Nat.le_of_ble_eq_true rfl | omega | (dsimp only; omega)) (by first | exact Nat.le_of_ble_eq_true rfl | omega | (dsimp only; omega)) h
def wp_X8_letCome_56 (K2 : Nat → Int32 → Int32 → Sg → Prop) (this : Nat) (v1 : Int32) (v2 : Int32) (σ : Sg) (Post : Rs → Sg → Prop) : Prop := (K2 this v1 (v2 + 1) σ)
set_option maxRecDepth 100000 in
set_option maxHeartbeats 4000000 in
theorem wv_X8_letCome_56 {L9 : Launch} {G : Cx} {Post : Rs → Sg → Prop} (hl : L9.stackTraces = false) (hG : CX L9 G yX8_letCome cX8_letCome 4 none [] { frames := 1, cells := 0, slots := 0, locals := 21 }) {K2 : Nat → Int32 → Int32 → Sg → Prop} (hK2 : ∀ (this : Nat) (v1 : Int32) (v2 : Int32) (ζ : Sg), K2 this v1 v2 ζ → V G (QM G 0 0 Post) 2 [some (.ref this), some (.int v1), some (.int v2), none] [] ζ 0 0) : ∀ (this : Nat) (v1 : Int32) (v2 : Int32) (σ : Sg), wp_X8_letCome_56 K2 this v1 v2 σ Post → V G (QM G 0 0 Post) 56 [some (.ref this), some (.int v1), some (.int v2), none] [] σ 0 0 := by
  intro this v1 v2 σ h
  unfold wp_X8_letCome_56 at h
  refine V_iincv (c := 1) hG dX8_letCome_56 rfl (by decide) (hpV rfl rfl) ?_
  refine V_goto (tgt := 2) hG dX8_letCome_59 (by decide) ?_
  refine V_forget (lo' := [some (.ref this), some (.int v1), some (.int (v2 + 1)), none]) ⟨rfl, ⟨rfl, ⟨rfl, trivial⟩⟩⟩ ?_
  exact hK2 _ _ _ _ h
def wp_X8_letCome_2  : Nat → Nat → Int32 → Int32 → Sg → (Rs → Sg → Prop) → Prop
  | 0, _, _, _, _, _ => False
  | f + 1, this, v1, v2, σ, Post => this % 32 = 8 ∧ (((sI σ this 1) ≤ v2 → Post (.inl none) σ) ∧ (¬ (sI σ this 1) ≤ v2 → this % 32 = 8 ∧ ∀ o1, o1 = sP σ this 0 → ∃ u2, o1 = some u2 ∧ isRow u2 ∧ ∃ j3, v2 = nI j3 ∧ j3 < aln u2 ∧ ∀ o4, o4 = sP σ u2 j3 → ∃ u5, o4 = some u5 ∧ u5 % 32 = 0 ∧ ((¬ (sI σ u5 4) = 0 → (wp_X8_letCome_56 (fun z0 z1 z2 ζ => wp_X8_letCome_2 f z0 z1 z2 ζ Post) this v1 v2 σ Post)) ∧ ((sI σ u5 4) = 0 → u5 % 32 = 0 ∧ ((v1 < (sI σ u5 9) → (wp_X8_letCome_56 (fun z0 z1 z2 ζ => wp_X8_letCome_2 f z0 z1 z2 ζ Post) this v1 v2 σ Post)) ∧ (¬ v1 < (sI σ u5 9) → u5 % 32 = 0 ∧ ∀ o6, o6 = sP σ u5 1 → u5 % 32 = 0 ∧ ∃ u7, o6 = some u7 ∧ u7 % 32 = 2 ∧ wp_X2_hasStoreRoom u7 (sI σ u5 2) σ (KI (fun x9 σ8 => ((x9 = 0 → (wp_X8_letCome_56 (fun z0 z1 z2 ζ => wp_X8_letCome_2 f z0 z1 z2 ζ Post) this v1 v2 σ8 Post)) ∧ (¬ x9 = 0 → u5 % 32 = 0 ∧ this % 32 = 8 ∧ wp_X8_putInStore this (some u5) (wI σ8 u5 9 v1) (KV (fun σ10 => (wp_X8_letCome_56 (fun z0 z1 z2 ζ => wp_X8_letCome_2 f z0 z1 z2 ζ Post) this v1 v2 σ10 Post)) (fun E σ10 => Post (.inr E) σ10))))) (fun E σ8 => Post (.inr E) σ8))))))))
set_option maxRecDepth 100000 in
set_option maxHeartbeats 4000000 in
theorem wv_X8_letCome_2 {L9 : Launch} {G : Cx} {Post : Rs → Sg → Prop} (hl : L9.stackTraces = false) (hG : CX L9 G yX8_letCome cX8_letCome 4 none [] { frames := 1, cells := 0, slots := 0, locals := 21 })   : ∀ (f : Nat) (this : Nat) (v1 : Int32) (v2 : Int32) (σ : Sg), wp_X8_letCome_2 f this v1 v2 σ Post → V G (QM G 0 0 Post) 2 [some (.ref this), some (.int v1), some (.int v2), none] [] σ 0 0 := by
  intro f
  induction f with
  | zero => intro _ _ _ σ h; exact h.elim
  | succ f ih =>
    intro this v1 v2 σ h
    refine V_iload_n hG dX8_letCome_2 rfl ?_
    refine V_aload_n (v := .ref this) hG dX8_letCome_3 rfl rfl ?_
    obtain ⟨ht, h⟩ := h
    refine V_getI hG dX8_letCome_4 fl_X8_27 rfl ht ?_
    refine V_icmp_ge (tgt := 62) hG dX8_letCome_7 (by decide) (fun c => ?_) (fun c => ?_)
    · replace h := h.1 c
      exact V_vret hG dX8_letCome_62 (by first | exact Nat.le_of_ble_eq_true rfl | omega | (dsimp only; omega)) (by first | exact Nat.le_of_ble_eq_true rfl | omega | (dsimp only; omega)) h
    · replace h := h.2 c
      refine V_aload_n (v := .ref this) hG dX8_letCome_10 rfl rfl ?_
      obtain ⟨ht, h⟩ := h
      refine V_getPv hG dX8_letCome_11 fl_X8_11 rfl ht (fun o1 ho => ?_)
      replace h := h o1 ho
      refine V_iload_n hG dX8_letCome_14 rfl ?_
      obtain ⟨u2, he, h⟩ := h
      subst he
      obtain ⟨ha, j3, hi, hj, h⟩ := h
      refine V_aaldv hG dX8_letCome_15 ha hi hj (fun o4 ho => ?_)
      replace h := h o4 ho
      refine V_astore_n hG dX8_letCome_16 (isRef_rf _) (Nat.le_of_ble_eq_true rfl) (hpV rfl rfl) ?_
      refine V_aload_n (v := va_rf o4) hG dX8_letCome_17 (isRef_rf _) rfl ?_
      obtain ⟨u5, he, h⟩ := h
      subst he
      obtain ⟨ht, h⟩ := h
      refine V_getI hG dX8_letCome_18 fl_X8_68 rfl ht ?_
      refine V_if_ne (tgt := 56) hG dX8_letCome_21 (by decide) (fun c => ?_) (fun c => ?_)
      · replace h := h.1 c
        refine V_forget (lo' := [some (.ref this), some (.int v1), some (.int v2), none]) ⟨rfl, ⟨rfl, ⟨rfl, trivial⟩⟩⟩ ?_
        refine V_widen (k' := 0) (n' := 0) (by first | exact Nat.le_of_ble_eq_true rfl | omega | (dsimp only; omega)) (by first | exact Nat.le_of_ble_eq_true rfl | omega | (dsimp only; omega)) ?_
        exact wv_X8_letCome_56 hl hG (fun z0 z1 z2 ζ hz => ih z0 z1 z2 ζ hz) _ _ _ _ h
      · replace h := h.2 c
        refine V_aload_n (v := .ref u5) hG dX8_letCome_24 rfl rfl ?_
        obtain ⟨ht, h⟩ := h
        refine V_getI hG dX8_letCome_25 fl_X8_81 rfl ht ?_
        refine V_iload_n hG dX8_letCome_28 rfl ?_
        refine V_icmp_gt (tgt := 56) hG dX8_letCome_29 (by decide) (fun c => ?_) (fun c => ?_)
        · replace h := h.1 c
          refine V_forget (lo' := [some (.ref this), some (.int v1), some (.int v2), none]) ⟨rfl, ⟨rfl, ⟨rfl, trivial⟩⟩⟩ ?_
          refine V_widen (k' := 0) (n' := 0) (by first | exact Nat.le_of_ble_eq_true rfl | omega | (dsimp only; omega)) (by first | exact Nat.le_of_ble_eq_true rfl | omega | (dsimp only; omega)) ?_
          exact wv_X8_letCome_56 hl hG (fun z0 z1 z2 ζ hz => ih z0 z1 z2 ζ hz) _ _ _ _ h
        · replace h := h.2 c
          refine V_aload_n (v := .ref u5) hG dX8_letCome_32 rfl rfl ?_
          obtain ⟨ht, h⟩ := h
          refine V_getPv hG dX8_letCome_33 fl_X8_71 rfl ht (fun o6 ho => ?_)
          replace h := h o6 ho
          refine V_aload_n (v := .ref u5) hG dX8_letCome_36 rfl rfl ?_
          obtain ⟨ht, h⟩ := h
          refine V_getI hG dX8_letCome_37 fl_X8_78 rfl ht ?_
          obtain ⟨u7, he, h⟩ := h
          subst he
          obtain ⟨ht, h⟩ := h
          refine V_cVI _ _ hG dX8_letCome_40 (ct_X2_hasStoreRoom hl h) mv_X2_hasStoreRoom ml_X8_84 ht rfl rfl rfl rfl (by first | exact Nat.le_of_ble_eq_true rfl | (simp only [List.map_cons, List.map_nil, List.sum_cons, List.sum_nil, cat_rf]; exact Nat.le_of_ble_eq_true rfl)) (Nat.le_of_ble_eq_true rfl) (Nat.le_of_ble_eq_true rfl) (by first | exact Nat.le_of_ble_eq_true rfl | omega | (dsimp only; omega)) (by first | exact Nat.le_of_ble_eq_true rfl | omega | (dsimp only; omega)) ?_ (fun x9 σ8 h9 => ?_)
          · exact fun E σ8 hx => VX_out hG (by first | exact Nat.le_of_ble_eq_true rfl | omega | (dsimp only; omega)) (by first | exact Nat.le_of_ble_eq_true rfl | omega | (dsimp only; omega)) hx
          · replace h := h9
            clear h9
            refine V_if_eq (tgt := 56) hG dX8_letCome_43 (by decide) (fun c => ?_) (fun c => ?_)
            · replace h := h.1 c
              refine V_forget (lo' := [some (.ref this), some (.int v1), some (.int v2), none]) ⟨rfl, ⟨rfl, ⟨rfl, trivial⟩⟩⟩ ?_
              refine V_widen (k' := 0) (n' := 0) (by first | exact Nat.le_of_ble_eq_true rfl | omega | (dsimp only; omega)) (by first | exact Nat.le_of_ble_eq_true rfl | omega | (dsimp only; omega)) ?_
              exact wv_X8_letCome_56 hl hG (fun z0 z1 z2 ζ hz => ih z0 z1 z2 ζ hz) _ _ _ _ h
            · replace h := h.2 c
              refine V_aload_n (v := .ref u5) hG dX8_letCome_46 rfl rfl ?_
              refine V_iload_n hG dX8_letCome_47 rfl ?_
              obtain ⟨ht, h⟩ := h
              refine V_putI hG dX8_letCome_48 fl_X8_81 rfl (fun e => absurd e (by decide)) rfl ht ?_
              refine V_aload_n (v := .ref this) hG dX8_letCome_51 rfl rfl ?_
              refine V_aload_n (v := .ref u5) hG dX8_letCome_52 rfl rfl ?_
              obtain ⟨ht, h⟩ := h
              refine V_cVV _ _ hG dX8_letCome_53 (ct_X8_putInStore hl h) mv_X8_putInStore ml_X8_87 ht rfl rfl rfl rfl (by first | exact Nat.le_of_ble_eq_true rfl | (simp only [List.map_cons, List.map_nil, List.sum_cons, List.sum_nil, cat_rf]; exact Nat.le_of_ble_eq_true rfl)) (Nat.le_of_ble_eq_true rfl) (Nat.le_of_ble_eq_true rfl) (by first | exact Nat.le_of_ble_eq_true rfl | omega | (dsimp only; omega)) (by first | exact Nat.le_of_ble_eq_true rfl | omega | (dsimp only; omega)) ?_ (fun σ10 h9 => ?_)
              · exact fun E σ10 hx => VX_out hG (by first | exact Nat.le_of_ble_eq_true rfl | omega | (dsimp only; omega)) (by first | exact Nat.le_of_ble_eq_true rfl | omega | (dsimp only; omega)) hx
              · replace h := h9
                clear h9
                refine V_forget (lo' := [some (.ref this), some (.int v1), some (.int v2), none]) ⟨rfl, ⟨rfl, ⟨rfl, trivial⟩⟩⟩ ?_
                refine V_widen (k' := 0) (n' := 0) (by first | exact Nat.le_of_ble_eq_true rfl | omega | (dsimp only; omega)) (by first | exact Nat.le_of_ble_eq_true rfl | omega | (dsimp only; omega)) ?_
                exact wv_X8_letCome_56 hl hG (fun z0 z1 z2 ζ hz => ih z0 z1 z2 ζ hz) _ _ _ _ h
def wp_X8_letCome (this : Nat) (a0 : Int32) (σ : Sg) (Post : Rs → Sg → Prop) : Prop := (∃ g, wp_X8_letCome_2 g this a0 (0 : Int32) σ Post)
set_option maxRecDepth 100000 in
set_option maxHeartbeats 4000000 in
theorem ct_X8_letCome {l : Launch} (hl : l.stackTraces = false) {this : Nat} {a0 : Int32} {σ : Sg} {Post : Rs → Sg → Prop} (h : wp_X8_letCome this a0 σ Post) : Ct l yX8_letCome (.code yX8_letCome cX8_letCome 4 none) 1 21 0 0 [.ref this, .int a0] σ Post := by
  refine Ct_of [some (.ref this), some (.int a0), none, none] hl (by decide +kernel) rfl (fun ad => by rfl) (fun ad => by exact Nat.le_of_ble_eq_true rfl) (fun v hv => mem_lo hv rfl) ?_
  intro G hG
  unfold wp_X8_letCome at h
  refine V_iconst (v := 0) hG (by decide) dX8_letCome_0 ?_
  refine V_istore_n hG dX8_letCome_1 (Nat.le_of_ble_eq_true rfl) (hpV rfl rfl) ?_
  refine V_forget (lo' := [some (.ref this), some (.int a0), some (.int (0 : Int32)), none]) ⟨rfl, ⟨rfl, ⟨rfl, trivial⟩⟩⟩ ?_
  obtain ⟨g, h⟩ := h
  refine V_widen (k' := 0) (n' := 0) (by first | exact Nat.le_of_ble_eq_true rfl | omega | (dsimp only; omega)) (by first | exact Nat.le_of_ble_eq_true rfl | omega | (dsimp only; omega)) ?_
  exact wv_X8_letCome_2 hl hG  g _ _ _ _ h
def wp_J9_floorMod_7cf53 (a0 : Int32) (a1 : Int32) (σ : Sg) (Post : Rs → Sg → Prop) : Prop := ¬ a1 = 0 ∧ ((0 ≤ (a0 ^^^ a1) → Post (.inl (some (.int (a0 - a0 / a1 * a1)))) σ) ∧ (¬ 0 ≤ (a0 ^^^ a1) → (((a0 - a0 / a1 * a1) = 0 → Post (.inl (some (.int (a0 - a0 / a1 * a1)))) σ) ∧ (¬ (a0 - a0 / a1 * a1) = 0 → Post (.inl (some (.int ((a0 - a0 / a1 * a1) + a1)))) σ))))
set_option maxRecDepth 100000 in
set_option maxHeartbeats 4000000 in
theorem ct_J9_floorMod_7cf53 {l : Launch} (hl : l.stackTraces = false) {a0 : Int32} {a1 : Int32} {σ : Sg} {Post : Rs → Sg → Prop} (h : wp_J9_floorMod_7cf53 a0 a1 σ Post) : Ct l yJ9_floorMod_7cf53 (.code yJ9_floorMod_7cf53 cJ9_floorMod_7cf53 3 (some .int)) 0 0 0 0 [.int a0, .int a1] σ Post := by
  refine Ct_ofF [some (.int a0), some (.int a1), none] hl (by decide +kernel) rfl (fun ad => by rfl) (fun ad => by exact Nat.le_of_ble_eq_true rfl) (fun v hv => mem_lo hv rfl) ?_
  intro G hG
  unfold wp_J9_floorMod_7cf53 at h
  refine V_iload_n hG dJ9_floorMod_7cf53_0 rfl ?_
  refine V_iload_n hG dJ9_floorMod_7cf53_1 rfl ?_
  obtain ⟨hne, h⟩ := h
  refine V_irem hG hne dJ9_floorMod_7cf53_2 ?_
  refine V_istore_n hG dJ9_floorMod_7cf53_3 (Nat.le_of_ble_eq_true rfl) (hpV rfl rfl) ?_
  refine V_iload_n hG dJ9_floorMod_7cf53_4 rfl ?_
  refine V_iload_n hG dJ9_floorMod_7cf53_5 rfl ?_
  refine V_ixor hG dJ9_floorMod_7cf53_6 ?_
  refine V_if_ge (tgt := 18) hG dJ9_floorMod_7cf53_7 (by decide) (fun c => ?_) (fun c => ?_)
  · replace h := h.1 c
    refine V_iload_n hG dJ9_floorMod_7cf53_18 rfl ?_
    exact V_iret hG dJ9_floorMod_7cf53_19 (by first | exact Nat.le_of_ble_eq_true rfl | omega | (dsimp only; omega)) (by first | exact Nat.le_of_ble_eq_true rfl | omega | (dsimp only; omega)) h
  · replace h := h.2 c
    refine V_iload_n hG dJ9_floorMod_7cf53_10 rfl ?_
    refine V_if_eq (tgt := 18) hG dJ9_floorMod_7cf53_11 (by decide) (fun c => ?_) (fun c => ?_)
    · replace h := h.1 c
      refine V_iload_n hG dJ9_floorMod_7cf53_18 rfl ?_
      exact V_iret hG dJ9_floorMod_7cf53_19 (by first | exact Nat.le_of_ble_eq_true rfl | omega | (dsimp only; omega)) (by first | exact Nat.le_of_ble_eq_true rfl | omega | (dsimp only; omega)) h
    · replace h := h.2 c
      refine V_iload_n hG dJ9_floorMod_7cf53_14 rfl ?_
      refine V_iload_n hG dJ9_floorMod_7cf53_15 rfl ?_
      refine V_iadd hG dJ9_floorMod_7cf53_16 ?_
      exact V_iret hG dJ9_floorMod_7cf53_17 (by first | exact Nat.le_of_ble_eq_true rfl | omega | (dsimp only; omega)) (by first | exact Nat.le_of_ble_eq_true rfl | omega | (dsimp only; omega)) h
def wp_X7_isOnShift (this : Nat) (a0 : Int32) (σ : Sg) (Post : Rs → Sg → Prop) : Prop := this % 32 = 7 ∧ wp_J9_floorMod_7cf53 (a0 - (sI σ this 2)) (24 : Int32) σ (KI (fun x2 σ1 => this % 32 = 7 ∧ (((sI σ1 this 3) ≤ x2 → (b01 (0 : Int32) ∧ Post (.inl (some (.int (0 : Int32)))) σ1)) ∧ (¬ (sI σ1 this 3) ≤ x2 → (b01 (1 : Int32) ∧ Post (.inl (some (.int (1 : Int32)))) σ1)))) (fun E σ1 => Post (.inr E) σ1))
set_option maxRecDepth 100000 in
set_option maxHeartbeats 4000000 in
theorem ct_X7_isOnShift {l : Launch} (hl : l.stackTraces = false) {this : Nat} {a0 : Int32} {σ : Sg} {Post : Rs → Sg → Prop} (h : wp_X7_isOnShift this a0 σ Post) : Ct l yX7_isOnShift (.code yX7_isOnShift cX7_isOnShift 2 (some .boolean)) 1 22 0 0 [.ref this, .int a0] σ Post := by
  refine Ct_of [some (.ref this), some (.int a0)] hl (by decide +kernel) rfl (fun ad => by rfl) (fun ad => by exact Nat.le_of_ble_eq_true rfl) (fun v hv => mem_lo hv rfl) ?_
  intro G hG
  unfold wp_X7_isOnShift at h
  refine V_iload_n hG dX7_isOnShift_0 rfl ?_
  refine V_aload_n (v := .ref this) hG dX7_isOnShift_1 rfl rfl ?_
  obtain ⟨ht, h⟩ := h
  refine V_getI hG dX7_isOnShift_2 fl_X7_28 rfl ht ?_
  refine V_isub hG dX7_isOnShift_5 ?_
  refine V_bipush (v := 24) hG (by decide) dX7_isOnShift_6 ?_
  refine V_cSI _ _ hG dX7_isOnShift_8 (ct_J9_floorMod_7cf53 hl h) mv_J9_floorMod_7cf53 ml_X7_34 rfl rfl (by first | exact Nat.le_of_ble_eq_true rfl | (simp only [List.map_cons, List.map_nil, List.sum_cons, List.sum_nil, cat_rf]; exact Nat.le_of_ble_eq_true rfl)) (Nat.le_of_ble_eq_true rfl) (Nat.le_of_ble_eq_true rfl) (by first | exact Nat.le_of_ble_eq_true rfl | omega | (dsimp only; omega)) (by first | exact Nat.le_of_ble_eq_true rfl | omega | (dsimp only; omega)) ?_ (fun x2 σ1 h9 => ?_)
  · exact fun E σ1 hx => VX_out hG (by first | exact Nat.le_of_ble_eq_true rfl | omega | (dsimp only; omega)) (by first | exact Nat.le_of_ble_eq_true rfl | omega | (dsimp only; omega)) hx
  · replace h := h9
    clear h9
    refine V_aload_n (v := .ref this) hG dX7_isOnShift_11 rfl rfl ?_
    obtain ⟨ht, h⟩ := h
    refine V_getI hG dX7_isOnShift_12 fl_X7_31 rfl ht ?_
    refine V_icmp_ge (tgt := 22) hG dX7_isOnShift_15 (by decide) (fun c => ?_) (fun c => ?_)
    · replace h := h.1 c
      refine V_iconst (v := 0) hG (by decide) dX7_isOnShift_22 ?_
      exact V_zret hG dX7_isOnShift_23 h.1 (by first | exact Nat.le_of_ble_eq_true rfl | omega | (dsimp only; omega)) (by first | exact Nat.le_of_ble_eq_true rfl | omega | (dsimp only; omega)) h.2
    · replace h := h.2 c
      refine V_iconst (v := 1) hG (by decide) dX7_isOnShift_18 ?_
      refine V_goto (tgt := 23) hG dX7_isOnShift_19 (by decide) ?_
      exact V_zret hG dX7_isOnShift_23 h.1 (by first | exact Nat.le_of_ble_eq_true rfl | omega | (dsimp only; omega)) (by first | exact Nat.le_of_ble_eq_true rfl | omega | (dsimp only; omega)) h.2
def wp_X7_reach (this : Nat) (a0 : Int32) (a1 : Int32) (σ : Sg) (Post : Rs → Sg → Prop) : Prop := this % 32 = 7 ∧ ∀ o1, o1 = sP σ this 4 → ∃ u2, o1 = some u2 ∧ aty (u2 % 32) = some .int ∧ ∃ j3, a0 = nI j3 ∧ j3 < aln u2 ∧ this % 32 = 7 ∧ ∀ o4, o4 = sP (wI σ u2 j3 a1) this 5 → ∃ u5, o4 = some u5 ∧ aty (u5 % 32) = some .int ∧ ∃ j6, a0 = nI j6 ∧ j6 < aln u5 ∧ Post (.inl none) (wI (wI σ u2 j3 a1) u5 j6 (0 : Int32))
set_option maxRecDepth 100000 in
set_option maxHeartbeats 4000000 in
theorem ct_X7_reach {l : Launch} (hl : l.stackTraces = false) {this : Nat} {a0 : Int32} {a1 : Int32} {σ : Sg} {Post : Rs → Sg → Prop} (h : wp_X7_reach this a0 a1 σ Post) : Ct l yX7_reach (.code yX7_reach cX7_reach 3 none) 0 0 0 0 [.ref this, .int a0, .int a1] σ Post := by
  refine Ct_of [some (.ref this), some (.int a0), some (.int a1)] hl (by decide +kernel) rfl (fun ad => by rfl) (fun ad => by exact Nat.le_of_ble_eq_true rfl) (fun v hv => mem_lo hv rfl) ?_
  intro G hG
  unfold wp_X7_reach at h
  refine V_aload_n (v := .ref this) hG dX7_reach_0 rfl rfl ?_
  obtain ⟨ht, h⟩ := h
  refine V_getPv hG dX7_reach_1 fl_X7_9 rfl ht (fun o1 ho => ?_)
  replace h := h o1 ho
  refine V_iload_n hG dX7_reach_4 rfl ?_
  refine V_iload_n hG dX7_reach_5 rfl ?_
  obtain ⟨u2, he, h⟩ := h
  subst he
  obtain ⟨ha, j3, hi, hj, h⟩ := h
  refine V_iast hG dX7_reach_6 ha hi hj ?_
  refine V_aload_n (v := .ref this) hG dX7_reach_7 rfl rfl ?_
  obtain ⟨ht, h⟩ := h
  refine V_getPv hG dX7_reach_8 fl_X7_15 rfl ht (fun o4 ho => ?_)
  replace h := h o4 ho
  refine V_iload_n hG dX7_reach_11 rfl ?_
  refine V_iconst (v := 0) hG (by decide) dX7_reach_12 ?_
  obtain ⟨u5, he, h⟩ := h
  subst he
  obtain ⟨ha, j6, hi, hj, h⟩ := h
  refine V_iast hG dX7_reach_13 ha hi hj ?_
  exact V_vret hG dX7_reach_14 (by first | exact Nat.le_of_ble_eq_true rfl | omega | (dsimp only; omega)) (by first | exact Nat.le_of_ble_eq_true rfl | omega | (dsimp only; omega)) h
def wp_X7_learnHour (this : Nat) (a0 : Int32) (σ : Sg) (Post : Rs → Sg → Prop) : Prop := this % 32 = 7 ∧ ∀ o1, o1 = sP σ this 5 → ∃ u2, o1 = some u2 ∧ aty (u2 % 32) = some .int ∧ ∃ j3, a0 = nI j3 ∧ j3 < aln u2 ∧ aty (u2 % 32) = some .int ∧ ∃ j4, a0 = nI j4 ∧ j4 < aln u2 ∧ this % 32 = 7 ∧ ∀ o5, o5 = sP (wI σ u2 j4 ((sI σ u2 j3) + (1 : Int32))) this 5 → ∃ u6, o5 = some u6 ∧ aty (u6 % 32) = some .int ∧ ∃ j7, a0 = nI j7 ∧ j7 < aln u6 ∧ (((sI (wI σ u2 j4 ((sI σ u2 j3) + (1 : Int32))) u6 j7) < (8 : Int32) → Post (.inl none) (wI σ u2 j4 ((sI σ u2 j3) + (1 : Int32)))) ∧ (¬ (sI (wI σ u2 j4 ((sI σ u2 j3) + (1 : Int32))) u6 j7) < (8 : Int32) → this % 32 = 7 ∧ ∀ o8, o8 = sP (wI σ u2 j4 ((sI σ u2 j3) + (1 : Int32))) this 4 → ∃ u9, o8 = some u9 ∧ aty (u9 % 32) = some .int ∧ ∃ j10, a0 = nI j10 ∧ j10 < aln u9 ∧ (((3 : Int32) ≤ (sI (wI σ u2 j4 ((sI σ u2 j3) + (1 : Int32))) u9 j10) → Post (.inl none) (wI σ u2 j4 ((sI σ u2 j3) + (1 : Int32)))) ∧ (¬ (3 : Int32) ≤ (sI (wI σ u2 j4 ((sI σ u2 j3) + (1 : Int32))) u9 j10) → this % 32 = 7 ∧ ∀ o11, o11 = sP (wI σ u2 j4 ((sI σ u2 j3) + (1 : Int32))) this 4 → ∃ u12, o11 = some u12 ∧ aty (u12 % 32) = some .int ∧ ∃ j13, a0 = nI j13 ∧ j13 < aln u12 ∧ this % 32 = 7 ∧ wp_X7_reach this a0 ((sI (wI σ u2 j4 ((sI σ u2 j3) + (1 : Int32))) u12 j13) + (1 : Int32)) (wI σ u2 j4 ((sI σ u2 j3) + (1 : Int32))) (KV (fun σ14 => Post (.inl none) σ14) (fun E σ14 => Post (.inr E) σ14))))))
set_option maxRecDepth 100000 in
set_option maxHeartbeats 4000000 in
theorem ct_X7_learnHour {l : Launch} (hl : l.stackTraces = false) {this : Nat} {a0 : Int32} {σ : Sg} {Post : Rs → Sg → Prop} (h : wp_X7_learnHour this a0 σ Post) : Ct l yX7_learnHour (.code yX7_learnHour cX7_learnHour 2 none) 1 22 0 0 [.ref this, .int a0] σ Post := by
  refine Ct_of [some (.ref this), some (.int a0)] hl (by decide +kernel) rfl (fun ad => by rfl) (fun ad => by exact Nat.le_of_ble_eq_true rfl) (fun v hv => mem_lo hv rfl) ?_
  intro G hG
  unfold wp_X7_learnHour at h
  refine V_aload_n (v := .ref this) hG dX7_learnHour_0 rfl rfl ?_
  obtain ⟨ht, h⟩ := h
  refine V_getPv hG dX7_learnHour_1 fl_X7_15 rfl ht (fun o1 ho => ?_)
  replace h := h o1 ho
  refine V_iload_n hG dX7_learnHour_4 rfl ?_
  refine V_dup2 hG rfl (cat_rf _) dX7_learnHour_5 ?_
  obtain ⟨u2, he, h⟩ := h
  subst he
  obtain ⟨ha, j3, hi, hj, h⟩ := h
  refine V_iald hG dX7_learnHour_6 ha hi hj ?_
  refine V_iconst (v := 1) hG (by decide) dX7_learnHour_7 ?_
  refine V_iadd hG dX7_learnHour_8 ?_
  obtain ⟨ha, j4, hi, hj, h⟩ := h
  refine V_iast hG dX7_learnHour_9 ha hi hj ?_
  refine V_aload_n (v := .ref this) hG dX7_learnHour_10 rfl rfl ?_
  obtain ⟨ht, h⟩ := h
  refine V_getPv hG dX7_learnHour_11 fl_X7_15 rfl ht (fun o5 ho => ?_)
  replace h := h o5 ho
  refine V_iload_n hG dX7_learnHour_14 rfl ?_
  obtain ⟨u6, he, h⟩ := h
  subst he
  obtain ⟨ha, j7, hi, hj, h⟩ := h
  refine V_iald hG dX7_learnHour_15 ha hi hj ?_
  refine V_bipush (v := 8) hG (by decide) dX7_learnHour_16 ?_
  refine V_icmp_lt (tgt := 44) hG dX7_learnHour_18 (by decide) (fun c => ?_) (fun c => ?_)
  · replace h := h.1 c
    exact V_vret hG dX7_learnHour_44 (by first | exact Nat.le_of_ble_eq_true rfl | omega | (dsimp only; omega)) (by first | exact Nat.le_of_ble_eq_true rfl | omega | (dsimp only; omega)) h
  · replace h := h.2 c
    refine V_aload_n (v := .ref this) hG dX7_learnHour_21 rfl rfl ?_
    obtain ⟨ht, h⟩ := h
    refine V_getPv hG dX7_learnHour_22 fl_X7_9 rfl ht (fun o8 ho => ?_)
    replace h := h o8 ho
    refine V_iload_n hG dX7_learnHour_25 rfl ?_
    obtain ⟨u9, he, h⟩ := h
    subst he
    obtain ⟨ha, j10, hi, hj, h⟩ := h
    refine V_iald hG dX7_learnHour_26 ha hi hj ?_
    refine V_iconst (v := 3) hG (by decide) dX7_learnHour_27 ?_
    refine V_icmp_ge (tgt := 44) hG dX7_learnHour_28 (by decide) (fun c => ?_) (fun c => ?_)
    · replace h := h.1 c
      exact V_vret hG dX7_learnHour_44 (by first | exact Nat.le_of_ble_eq_true rfl | omega | (dsimp only; omega)) (by first | exact Nat.le_of_ble_eq_true rfl | omega | (dsimp only; omega)) h
    · replace h := h.2 c
      refine V_aload_n (v := .ref this) hG dX7_learnHour_31 rfl rfl ?_
      refine V_iload_n hG dX7_learnHour_32 rfl ?_
      refine V_aload_n (v := .ref this) hG dX7_learnHour_33 rfl rfl ?_
      obtain ⟨ht, h⟩ := h
      refine V_getPv hG dX7_learnHour_34 fl_X7_9 rfl ht (fun o11 ho => ?_)
      replace h := h o11 ho
      refine V_iload_n hG dX7_learnHour_37 rfl ?_
      obtain ⟨u12, he, h⟩ := h
      subst he
      obtain ⟨ha, j13, hi, hj, h⟩ := h
      refine V_iald hG dX7_learnHour_38 ha hi hj ?_
      refine V_iconst (v := 1) hG (by decide) dX7_learnHour_39 ?_
      refine V_iadd hG dX7_learnHour_40 ?_
      obtain ⟨ht, h⟩ := h
      refine V_cVV _ _ hG dX7_learnHour_41 (ct_X7_reach hl h) mv_X7_reach ml_X7_44 ht rfl rfl rfl rfl (by first | exact Nat.le_of_ble_eq_true rfl | (simp only [List.map_cons, List.map_nil, List.sum_cons, List.sum_nil, cat_rf]; exact Nat.le_of_ble_eq_true rfl)) (Nat.le_of_ble_eq_true rfl) (Nat.le_of_ble_eq_true rfl) (by first | exact Nat.le_of_ble_eq_true rfl | omega | (dsimp only; omega)) (by first | exact Nat.le_of_ble_eq_true rfl | omega | (dsimp only; omega)) ?_ (fun σ14 h9 => ?_)
      · exact fun E σ14 hx => VX_out hG (by first | exact Nat.le_of_ble_eq_true rfl | omega | (dsimp only; omega)) (by first | exact Nat.le_of_ble_eq_true rfl | omega | (dsimp only; omega)) hx
      · replace h := h9
        clear h9
        exact V_vret hG dX7_learnHour_44 (by first | exact Nat.le_of_ble_eq_true rfl | omega | (dsimp only; omega)) (by first | exact Nat.le_of_ble_eq_true rfl | omega | (dsimp only; omega)) h
def wp_X1_workHour (this : Nat) (a0 : Option Nat) (a1 : Option Nat) (a2 : Option Nat) (σ : Sg) (Post : Rs → Sg → Prop) : Prop := ∃ u1, a0 = some u1 ∧ u1 % 32 = 4 ∧ ∃ u2, a2 = some u2 ∧ u2 % 32 = 7 ∧ u1 % 32 = 4 ∧ u1 % 32 = 4 ∧ u1 % 32 = 4 ∧ u1 % 32 = 4 ∧ ∃ u3, a1 = some u3 ∧ u3 % 32 = 0 ∧ u3 % 32 = 0 ∧ this % 32 = 1 ∧ this % 32 = 1 ∧ u3 % 32 = 0 ∧ wp_X0_operationNow u3 (wI (wI (wI (wI σ u1 9 ((sI σ u1 9) - (1 : Int32))) u1 11 ((sI (wI σ u1 9 ((sI σ u1 9) - (1 : Int32))) u1 11) + (1 : Int32))) u3 3 ((sI (wI (wI σ u1 9 ((sI σ u1 9) - (1 : Int32))) u1 11 ((sI (wI σ u1 9 ((sI σ u1 9) - (1 : Int32))) u1 11) + (1 : Int32))) u3 3) + ((sI σ u1 3) + (sI σ u2 1)))) this 5 ((sI (wI (wI (wI σ u1 9 ((sI σ u1 9) - (1 : Int32))) u1 11 ((sI (wI σ u1 9 ((sI σ u1 9) - (1 : Int32))) u1 11) + (1 : Int32))) u3 3 ((sI (wI (wI σ u1 9 ((sI σ u1 9) - (1 : Int32))) u1 11 ((sI (wI σ u1 9 ((sI σ u1 9) - (1 : Int32))) u1 11) + (1 : Int32))) u3 3) + ((sI σ u1 3) + (sI σ u2 1)))) this 5) + ((sI σ u1 3) + (sI σ u2 1)))) (KO (fun x5 σ4 => ((x5 = none → Post (.inl none) σ4) ∧ (∀ u6, x5 = some u6 → u6 % 32 = 5 ∧ u2 % 32 = 7 ∧ wp_X7_learnHour u2 (sI σ4 u6 1) σ4 (KV (fun σ7 => Post (.inl none) σ7) (fun E σ7 => Post (.inr E) σ7))))) (fun E σ4 => Post (.inr E) σ4))
set_option maxRecDepth 100000 in
set_option maxHeartbeats 4000000 in
theorem ct_X1_workHour {l : Launch} (hl : l.stackTraces = false) {this : Nat} {a0 : Option Nat} {a1 : Option Nat} {a2 : Option Nat} {σ : Sg} {Post : Rs → Sg → Prop} (h : wp_X1_workHour this a0 a1 a2 σ Post) : Ct l yX1_workHour (.code yX1_workHour cX1_workHour 6 none) 2 43 0 0 [.ref this, va_rf a0, va_rf a1, va_rf a2] σ Post := by
  refine Ct_of [some (.ref this), some (va_rf a0), some (va_rf a1), some (va_rf a2), none, none] hl (by decide +kernel) rfl (fun ad => by cases a0 <;> cases a1 <;> cases a2 <;> rfl) (fun ad => by cases a0 <;> cases a1 <;> cases a2 <;> exact Nat.le_of_ble_eq_true rfl) (fun v hv => mem_lo hv rfl) ?_
  intro G hG
  unfold wp_X1_workHour at h
  refine V_aload_n (v := va_rf a0) hG dX1_workHour_0 (isRef_rf _) rfl ?_
  obtain ⟨u1, he, h⟩ := h
  subst he
  obtain ⟨ht, h⟩ := h
  refine V_getI hG dX1_workHour_1 fl_X1_102 rfl ht ?_
  refine V_aload_n (v := va_rf a2) hG dX1_workHour_4 (isRef_rf _) rfl ?_
  obtain ⟨u2, he, h⟩ := h
  subst he
  obtain ⟨ht, h⟩ := h
  refine V_getI hG dX1_workHour_5 fl_X1_105 rfl ht ?_
  refine V_iadd hG dX1_workHour_8 ?_
  refine V_istore hG dX1_workHour_9 (Nat.le_of_ble_eq_true rfl) (hpV rfl rfl) ?_
  refine V_aload_n (v := .ref u1) hG dX1_workHour_11 rfl rfl ?_
  refine V_dup (v := .ref u1) hG rfl dX1_workHour_12 ?_
  obtain ⟨ht, h⟩ := h
  refine V_getI hG dX1_workHour_13 fl_X1_69 rfl ht ?_
  refine V_iconst (v := 1) hG (by decide) dX1_workHour_16 ?_
  refine V_isub hG dX1_workHour_17 ?_
  obtain ⟨ht, h⟩ := h
  refine V_putI hG dX1_workHour_18 fl_X1_69 rfl (fun e => absurd e (by decide)) rfl ht ?_
  refine V_aload_n (v := .ref u1) hG dX1_workHour_21 rfl rfl ?_
  refine V_dup (v := .ref u1) hG rfl dX1_workHour_22 ?_
  obtain ⟨ht, h⟩ := h
  refine V_getI hG dX1_workHour_23 fl_X1_108 rfl ht ?_
  refine V_iconst (v := 1) hG (by decide) dX1_workHour_26 ?_
  refine V_iadd hG dX1_workHour_27 ?_
  obtain ⟨ht, h⟩ := h
  refine V_putI hG dX1_workHour_28 fl_X1_108 rfl (fun e => absurd e (by decide)) rfl ht ?_
  refine V_aload_n (v := va_rf a1) hG dX1_workHour_31 (isRef_rf _) rfl ?_
  refine V_dup (v := va_rf a1) hG (cat_rf _) dX1_workHour_32 ?_
  obtain ⟨u3, he, h⟩ := h
  subst he
  obtain ⟨ht, h⟩ := h
  refine V_getI hG dX1_workHour_33 fl_X1_111 rfl ht ?_
  refine V_iload hG dX1_workHour_36 rfl ?_
  refine V_iadd hG dX1_workHour_38 ?_
  obtain ⟨ht, h⟩ := h
  refine V_putI hG dX1_workHour_39 fl_X1_111 rfl (fun e => absurd e (by decide)) rfl ht ?_
  refine V_aload_n (v := .ref this) hG dX1_workHour_42 rfl rfl ?_
  refine V_dup (v := .ref this) hG rfl dX1_workHour_43 ?_
  obtain ⟨ht, h⟩ := h
  refine V_getI hG dX1_workHour_44 fl_X1_112 rfl ht ?_
  refine V_iload hG dX1_workHour_47 rfl ?_
  refine V_iadd hG dX1_workHour_49 ?_
  obtain ⟨ht, h⟩ := h
  refine V_putI hG dX1_workHour_50 fl_X1_112 rfl (fun e => absurd e (by decide)) rfl ht ?_
  refine V_aload_n (v := .ref u3) hG dX1_workHour_53 rfl rfl ?_
  obtain ⟨ht, h⟩ := h
  refine V_cVO _ _ hG dX1_workHour_54 (ct_X0_operationNow hl h) mv_X0_operationNow ml_X1_115 ht rfl rfl rfl rfl (by first | exact Nat.le_of_ble_eq_true rfl | (simp only [List.map_cons, List.map_nil, List.sum_cons, List.sum_nil, cat_rf]; exact Nat.le_of_ble_eq_true rfl)) (Nat.le_of_ble_eq_true rfl) (Nat.le_of_ble_eq_true rfl) (by first | exact Nat.le_of_ble_eq_true rfl | omega | (dsimp only; omega)) (by first | exact Nat.le_of_ble_eq_true rfl | omega | (dsimp only; omega)) ?_ (fun x5 σ4 h9 => ?_)
  · exact fun E σ4 hx => VX_out hG (by first | exact Nat.le_of_ble_eq_true rfl | omega | (dsimp only; omega)) (by first | exact Nat.le_of_ble_eq_true rfl | omega | (dsimp only; omega)) hx
  · replace h := h9
    clear h9
    refine V_astore hG dX1_workHour_57 (isRef_rf _) (Nat.le_of_ble_eq_true rfl) (hpV rfl rfl) ?_
    refine V_aload (v := va_rf x5) hG dX1_workHour_59 (isRef_rf _) rfl ?_
    refine V_ifnull (o := x5) (tgt := 73) hG dX1_workHour_61 (by decide) (fun c => ?_) (fun c => ?_)
    · replace h := h.1 c
      subst c
      exact V_vret hG dX1_workHour_73 (by first | exact Nat.le_of_ble_eq_true rfl | omega | (dsimp only; omega)) (by first | exact Nat.le_of_ble_eq_true rfl | omega | (dsimp only; omega)) h
    · obtain ⟨u6, c⟩ := c
      replace h := h.2 u6 c
      subst c
      refine V_aload_n (v := .ref u2) hG dX1_workHour_64 rfl rfl ?_
      refine V_aload (v := .ref u6) hG dX1_workHour_65 rfl rfl ?_
      obtain ⟨ht, h⟩ := h
      refine V_getI hG dX1_workHour_67 fl_X1_119 rfl ht ?_
      obtain ⟨ht, h⟩ := h
      refine V_cVV _ _ hG dX1_workHour_70 (ct_X7_learnHour hl h) mv_X7_learnHour ml_X1_124 ht rfl rfl rfl rfl (by first | exact Nat.le_of_ble_eq_true rfl | (simp only [List.map_cons, List.map_nil, List.sum_cons, List.sum_nil, cat_rf]; exact Nat.le_of_ble_eq_true rfl)) (Nat.le_of_ble_eq_true rfl) (Nat.le_of_ble_eq_true rfl) (by first | exact Nat.le_of_ble_eq_true rfl | omega | (dsimp only; omega)) (by first | exact Nat.le_of_ble_eq_true rfl | omega | (dsimp only; omega)) ?_ (fun σ7 h9 => ?_)
      · exact fun E σ7 hx => VX_out hG (by first | exact Nat.le_of_ble_eq_true rfl | omega | (dsimp only; omega)) (by first | exact Nat.le_of_ble_eq_true rfl | omega | (dsimp only; omega)) hx
      · replace h := h9
        clear h9
        exact V_vret hG dX1_workHour_73 (by first | exact Nat.le_of_ble_eq_true rfl | omega | (dsimp only; omega)) (by first | exact Nat.le_of_ble_eq_true rfl | omega | (dsimp only; omega)) h
def wp_X4_drawsFault (this : Nat) (a0 : Int32) (σ : Sg) (Post : Rs → Sg → Prop) : Prop := this % 32 = 4 ∧ ∀ o1, o1 = sP σ this 7 → ((o1 = none → (b01 (0 : Int32) ∧ Post (.inl (some (.int (0 : Int32)))) σ)) ∧ (∀ u2, o1 = some u2 → this % 32 = 4 ∧ ((0 < (sI σ this 4) → this % 32 = 4 ∧ ∀ o3, o3 = sP σ this 7 → ∃ u4, o3 = some u4 ∧ u4 % 32 = 0 ∧ this % 32 = 4 ∧ ∀ o5, o5 = sP σ this 7 → ∃ u6, o5 = some u6 ∧ u6 % 32 = 0 ∧ ¬ (11 : Int32) = 0 ∧ this % 32 = 4 ∧ this % 32 = 4 ∧ ¬ (sI σ this 4) = 0 ∧ (((((4 : Int32) * (sI σ this 11)) / (sI σ this 4)) ≤ (((((7 : Int32) * (sI σ u4 0)) + ((5 : Int32) * (sI σ u6 5))) + ((3 : Int32) * a0)) - ((((7 : Int32) * (sI σ u4 0)) + ((5 : Int32) * (sI σ u6 5))) + ((3 : Int32) * a0)) / (11 : Int32) * (11 : Int32)) → (b01 (0 : Int32) ∧ Post (.inl (some (.int (0 : Int32)))) σ)) ∧ (¬ (((4 : Int32) * (sI σ this 11)) / (sI σ this 4)) ≤ (((((7 : Int32) * (sI σ u4 0)) + ((5 : Int32) * (sI σ u6 5))) + ((3 : Int32) * a0)) - ((((7 : Int32) * (sI σ u4 0)) + ((5 : Int32) * (sI σ u6 5))) + ((3 : Int32) * a0)) / (11 : Int32) * (11 : Int32)) → (b01 (1 : Int32) ∧ Post (.inl (some (.int (1 : Int32)))) σ)))) ∧ (¬ 0 < (sI σ this 4) → (b01 (0 : Int32) ∧ Post (.inl (some (.int (0 : Int32)))) σ)))))
set_option maxRecDepth 100000 in
set_option maxHeartbeats 4000000 in
theorem ct_X4_drawsFault {l : Launch} (hl : l.stackTraces = false) {this : Nat} {a0 : Int32} {σ : Sg} {Post : Rs → Sg → Prop} (h : wp_X4_drawsFault this a0 σ Post) : Ct l yX4_drawsFault (.code yX4_drawsFault cX4_drawsFault 3 (some .boolean)) 0 0 0 0 [.ref this, .int a0] σ Post := by
  refine Ct_of [some (.ref this), some (.int a0), none] hl (by decide +kernel) rfl (fun ad => by rfl) (fun ad => by exact Nat.le_of_ble_eq_true rfl) (fun v hv => mem_lo hv rfl) ?_
  intro G hG
  unfold wp_X4_drawsFault at h
  refine V_aload_n (v := .ref this) hG dX4_drawsFault_0 rfl rfl ?_
  obtain ⟨ht, h⟩ := h
  refine V_getPv hG dX4_drawsFault_1 fl_X4_42 rfl ht (fun o1 ho => ?_)
  replace h := h o1 ho
  refine V_ifnull (o := o1) (tgt := 14) hG dX4_drawsFault_4 (by decide) (fun c => ?_) (fun c => ?_)
  · replace h := h.1 c
    subst c
    refine V_iconst (v := 0) hG (by decide) dX4_drawsFault_14 ?_
    exact V_zret hG dX4_drawsFault_15 h.1 (by first | exact Nat.le_of_ble_eq_true rfl | omega | (dsimp only; omega)) (by first | exact Nat.le_of_ble_eq_true rfl | omega | (dsimp only; omega)) h.2
  · obtain ⟨u2, c⟩ := c
    replace h := h.2 u2 c
    subst c
    refine V_aload_n (v := .ref this) hG dX4_drawsFault_7 rfl rfl ?_
    obtain ⟨ht, h⟩ := h
    refine V_getI hG dX4_drawsFault_8 fl_X4_27 rfl ht ?_
    refine V_if_gt (tgt := 16) hG dX4_drawsFault_11 (by decide) (fun c => ?_) (fun c => ?_)
    · replace h := h.1 c
      refine V_bipush (v := 7) hG (by decide) dX4_drawsFault_16 ?_
      refine V_aload_n (v := .ref this) hG dX4_drawsFault_18 rfl rfl ?_
      obtain ⟨ht, h⟩ := h
      refine V_getPv hG dX4_drawsFault_19 fl_X4_42 rfl ht (fun o3 ho => ?_)
      replace h := h o3 ho
      obtain ⟨u4, he, h⟩ := h
      subst he
      obtain ⟨ht, h⟩ := h
      refine V_getI hG dX4_drawsFault_22 fl_X4_92 rfl ht ?_
      refine V_imul hG dX4_drawsFault_25 ?_
      refine V_iconst (v := 5) hG (by decide) dX4_drawsFault_26 ?_
      refine V_aload_n (v := .ref this) hG dX4_drawsFault_27 rfl rfl ?_
      obtain ⟨ht, h⟩ := h
      refine V_getPv hG dX4_drawsFault_28 fl_X4_42 rfl ht (fun o5 ho => ?_)
      replace h := h o5 ho
      obtain ⟨u6, he, h⟩ := h
      subst he
      obtain ⟨ht, h⟩ := h
      refine V_getI hG dX4_drawsFault_31 fl_X4_93 rfl ht ?_
      refine V_imul hG dX4_drawsFault_34 ?_
      refine V_iadd hG dX4_drawsFault_35 ?_
      refine V_iconst (v := 3) hG (by decide) dX4_drawsFault_36 ?_
      refine V_iload_n hG dX4_drawsFault_37 rfl ?_
      refine V_imul hG dX4_drawsFault_38 ?_
      refine V_iadd hG dX4_drawsFault_39 ?_
      refine V_bipush (v := 11) hG (by decide) dX4_drawsFault_40 ?_
      obtain ⟨hne, h⟩ := h
      refine V_irem hG hne dX4_drawsFault_42 ?_
      refine V_istore_n hG dX4_drawsFault_43 (Nat.le_of_ble_eq_true rfl) (hpV rfl rfl) ?_
      refine V_iload_n hG dX4_drawsFault_44 rfl ?_
      refine V_iconst (v := 4) hG (by decide) dX4_drawsFault_45 ?_
      refine V_aload_n (v := .ref this) hG dX4_drawsFault_46 rfl rfl ?_
      obtain ⟨ht, h⟩ := h
      refine V_getI hG dX4_drawsFault_47 fl_X4_89 rfl ht ?_
      refine V_imul hG dX4_drawsFault_50 ?_
      refine V_aload_n (v := .ref this) hG dX4_drawsFault_51 rfl rfl ?_
      obtain ⟨ht, h⟩ := h
      refine V_getI hG dX4_drawsFault_52 fl_X4_27 rfl ht ?_
      obtain ⟨hne, h⟩ := h
      refine V_idiv hG hne dX4_drawsFault_55 ?_
      refine V_icmp_ge (tgt := 63) hG dX4_drawsFault_56 (by decide) (fun c => ?_) (fun c => ?_)
      · replace h := h.1 c
        refine V_iconst (v := 0) hG (by decide) dX4_drawsFault_63 ?_
        exact V_zret hG dX4_drawsFault_64 h.1 (by first | exact Nat.le_of_ble_eq_true rfl | omega | (dsimp only; omega)) (by first | exact Nat.le_of_ble_eq_true rfl | omega | (dsimp only; omega)) h.2
      · replace h := h.2 c
        refine V_iconst (v := 1) hG (by decide) dX4_drawsFault_59 ?_
        refine V_goto (tgt := 64) hG dX4_drawsFault_60 (by decide) ?_
        exact V_zret hG dX4_drawsFault_64 h.1 (by first | exact Nat.le_of_ble_eq_true rfl | omega | (dsimp only; omega)) (by first | exact Nat.le_of_ble_eq_true rfl | omega | (dsimp only; omega)) h.2
    · replace h := h.2 c
      refine V_iconst (v := 0) hG (by decide) dX4_drawsFault_14 ?_
      exact V_zret hG dX4_drawsFault_15 h.1 (by first | exact Nat.le_of_ble_eq_true rfl | omega | (dsimp only; omega)) (by first | exact Nat.le_of_ble_eq_true rfl | omega | (dsimp only; omega)) h.2
def wp_X8_queueLength_28 (K4 : Nat → Int32 → Int32 → Int32 → Sg → Prop) (this : Nat) (v1 : Int32) (v2 : Int32) (v3 : Int32) (σ : Sg) (Post : Rs → Sg → Prop) : Prop := (K4 this v1 v2 (v3 + 1) σ)
set_option maxRecDepth 100000 in
set_option maxHeartbeats 4000000 in
theorem wv_X8_queueLength_28 {L9 : Launch} {G : Cx} {Post : Rs → Sg → Prop} (hl : L9.stackTraces = false) (hG : CX L9 G yX8_queueLength cX8_queueLength 4 (some .int) [] { frames := 2, cells := 0, slots := 0, locals := 43 }) {K4 : Nat → Int32 → Int32 → Int32 → Sg → Prop} (hK4 : ∀ (this : Nat) (v1 : Int32) (v2 : Int32) (v3 : Int32) (ζ : Sg), K4 this v1 v2 v3 ζ → V G (QM G 0 0 Post) 4 [some (.ref this), some (.int v1), some (.int v2), some (.int v3)] [] ζ 0 0) : ∀ (this : Nat) (v1 : Int32) (v2 : Int32) (v3 : Int32) (σ : Sg), wp_X8_queueLength_28 K4 this v1 v2 v3 σ Post → V G (QM G 0 0 Post) 28 [some (.ref this), some (.int v1), some (.int v2), some (.int v3)] [] σ 0 0 := by
  intro this v1 v2 v3 σ h
  unfold wp_X8_queueLength_28 at h
  refine V_iincv (c := 1) hG dX8_queueLength_28 rfl (by decide) (hpV rfl rfl) ?_
  refine V_goto (tgt := 4) hG dX8_queueLength_31 (by decide) ?_
  refine V_forget (lo' := [some (.ref this), some (.int v1), some (.int v2), some (.int (v3 + 1))]) ⟨rfl, ⟨rfl, ⟨rfl, ⟨rfl, trivial⟩⟩⟩⟩ ?_
  exact hK4 _ _ _ _ _ h
def wp_X8_queueLength_4  : Nat → Nat → Int32 → Int32 → Int32 → Sg → (Rs → Sg → Prop) → Prop
  | 0, _, _, _, _, _, _ => False
  | f + 1, this, v1, v2, v3, σ, Post => this % 32 = 8 ∧ (((sI σ this 1) ≤ v3 → Post (.inl (some (.int v2))) σ) ∧ (¬ (sI σ this 1) ≤ v3 → this % 32 = 8 ∧ ∀ o1, o1 = sP σ this 0 → ∃ u2, o1 = some u2 ∧ isRow u2 ∧ ∃ j3, v3 = nI j3 ∧ j3 < aln u2 ∧ ∀ o4, o4 = sP σ u2 j3 → ∃ u5, o4 = some u5 ∧ u5 % 32 = 0 ∧ wp_X0_waitsFor u5 v1 σ (KI (fun x7 σ6 => ((x7 = 0 → (wp_X8_queueLength_28 (fun z0 z1 z2 z3 ζ => wp_X8_queueLength_4 f z0 z1 z2 z3 ζ Post) this v1 v2 v3 σ6 Post)) ∧ (¬ x7 = 0 → (wp_X8_queueLength_28 (fun z0 z1 z2 z3 ζ => wp_X8_queueLength_4 f z0 z1 z2 z3 ζ Post) this v1 (v2 + 1) v3 σ6 Post)))) (fun E σ6 => Post (.inr E) σ6))))
set_option maxRecDepth 100000 in
set_option maxHeartbeats 4000000 in
theorem wv_X8_queueLength_4 {L9 : Launch} {G : Cx} {Post : Rs → Sg → Prop} (hl : L9.stackTraces = false) (hG : CX L9 G yX8_queueLength cX8_queueLength 4 (some .int) [] { frames := 2, cells := 0, slots := 0, locals := 43 })   : ∀ (f : Nat) (this : Nat) (v1 : Int32) (v2 : Int32) (v3 : Int32) (σ : Sg), wp_X8_queueLength_4 f this v1 v2 v3 σ Post → V G (QM G 0 0 Post) 4 [some (.ref this), some (.int v1), some (.int v2), some (.int v3)] [] σ 0 0 := by
  intro f
  induction f with
  | zero => intro _ _ _ _ σ h; exact h.elim
  | succ f ih =>
    intro this v1 v2 v3 σ h
    refine V_iload_n hG dX8_queueLength_4 rfl ?_
    refine V_aload_n (v := .ref this) hG dX8_queueLength_5 rfl rfl ?_
    obtain ⟨ht, h⟩ := h
    refine V_getI hG dX8_queueLength_6 fl_X8_27 rfl ht ?_
    refine V_icmp_ge (tgt := 34) hG dX8_queueLength_9 (by decide) (fun c => ?_) (fun c => ?_)
    · replace h := h.1 c
      refine V_iload_n hG dX8_queueLength_34 rfl ?_
      exact V_iret hG dX8_queueLength_35 (by first | exact Nat.le_of_ble_eq_true rfl | omega | (dsimp only; omega)) (by first | exact Nat.le_of_ble_eq_true rfl | omega | (dsimp only; omega)) h
    · replace h := h.2 c
      refine V_aload_n (v := .ref this) hG dX8_queueLength_12 rfl rfl ?_
      obtain ⟨ht, h⟩ := h
      refine V_getPv hG dX8_queueLength_13 fl_X8_11 rfl ht (fun o1 ho => ?_)
      replace h := h o1 ho
      refine V_iload_n hG dX8_queueLength_16 rfl ?_
      obtain ⟨u2, he, h⟩ := h
      subst he
      obtain ⟨ha, j3, hi, hj, h⟩ := h
      refine V_aaldv hG dX8_queueLength_17 ha hi hj (fun o4 ho => ?_)
      replace h := h o4 ho
      refine V_iload_n hG dX8_queueLength_18 rfl ?_
      obtain ⟨u5, he, h⟩ := h
      subst he
      obtain ⟨ht, h⟩ := h
      refine V_cVI _ _ hG dX8_queueLength_19 (ct_X0_waitsFor hl h) mv_X0_waitsFor ml_X8_52 ht rfl rfl rfl rfl (by first | exact Nat.le_of_ble_eq_true rfl | (simp only [List.map_cons, List.map_nil, List.sum_cons, List.sum_nil, cat_rf]; exact Nat.le_of_ble_eq_true rfl)) (Nat.le_of_ble_eq_true rfl) (Nat.le_of_ble_eq_true rfl) (by first | exact Nat.le_of_ble_eq_true rfl | omega | (dsimp only; omega)) (by first | exact Nat.le_of_ble_eq_true rfl | omega | (dsimp only; omega)) ?_ (fun x7 σ6 h9 => ?_)
      · exact fun E σ6 hx => VX_out hG (by first | exact Nat.le_of_ble_eq_true rfl | omega | (dsimp only; omega)) (by first | exact Nat.le_of_ble_eq_true rfl | omega | (dsimp only; omega)) hx
      · replace h := h9
        clear h9
        refine V_if_eq (tgt := 28) hG dX8_queueLength_22 (by decide) (fun c => ?_) (fun c => ?_)
        · replace h := h.1 c
          refine V_forget (lo' := [some (.ref this), some (.int v1), some (.int v2), some (.int v3)]) ⟨rfl, ⟨rfl, ⟨rfl, ⟨rfl, trivial⟩⟩⟩⟩ ?_
          refine V_widen (k' := 0) (n' := 0) (by first | exact Nat.le_of_ble_eq_true rfl | omega | (dsimp only; omega)) (by first | exact Nat.le_of_ble_eq_true rfl | omega | (dsimp only; omega)) ?_
          exact wv_X8_queueLength_28 hl hG (fun z0 z1 z2 z3 ζ hz => ih z0 z1 z2 z3 ζ hz) _ _ _ _ _ h
        · replace h := h.2 c
          refine V_iincv (c := 1) hG dX8_queueLength_25 rfl (by decide) (hpV rfl rfl) ?_
          refine V_forget (lo' := [some (.ref this), some (.int v1), some (.int (v2 + 1)), some (.int v3)]) ⟨rfl, ⟨rfl, ⟨rfl, ⟨rfl, trivial⟩⟩⟩⟩ ?_
          refine V_widen (k' := 0) (n' := 0) (by first | exact Nat.le_of_ble_eq_true rfl | omega | (dsimp only; omega)) (by first | exact Nat.le_of_ble_eq_true rfl | omega | (dsimp only; omega)) ?_
          exact wv_X8_queueLength_28 hl hG (fun z0 z1 z2 z3 ζ hz => ih z0 z1 z2 z3 ζ hz) _ _ _ _ _ h
def wp_X8_queueLength (this : Nat) (a0 : Int32) (σ : Sg) (Post : Rs → Sg → Prop) : Prop := (∃ g, wp_X8_queueLength_4 g this a0 (0 : Int32) (0 : Int32) σ Post)
set_option maxRecDepth 100000 in
set_option maxHeartbeats 4000000 in
theorem ct_X8_queueLength {l : Launch} (hl : l.stackTraces = false) {this : Nat} {a0 : Int32} {σ : Sg} {Post : Rs → Sg → Prop} (h : wp_X8_queueLength this a0 σ Post) : Ct l yX8_queueLength (.code yX8_queueLength cX8_queueLength 4 (some .int)) 2 43 0 0 [.ref this, .int a0] σ Post := by
  refine Ct_of [some (.ref this), some (.int a0), none, none] hl (by decide +kernel) rfl (fun ad => by rfl) (fun ad => by exact Nat.le_of_ble_eq_true rfl) (fun v hv => mem_lo hv rfl) ?_
  intro G hG
  unfold wp_X8_queueLength at h
  refine V_iconst (v := 0) hG (by decide) dX8_queueLength_0 ?_
  refine V_istore_n hG dX8_queueLength_1 (Nat.le_of_ble_eq_true rfl) (hpV rfl rfl) ?_
  refine V_iconst (v := 0) hG (by decide) dX8_queueLength_2 ?_
  refine V_istore_n hG dX8_queueLength_3 (Nat.le_of_ble_eq_true rfl) (hpV rfl rfl) ?_
  refine V_forget (lo' := [some (.ref this), some (.int a0), some (.int (0 : Int32)), some (.int (0 : Int32))]) ⟨rfl, ⟨rfl, ⟨rfl, ⟨rfl, trivial⟩⟩⟩⟩ ?_
  obtain ⟨g, h⟩ := h
  refine V_widen (k' := 0) (n' := 0) (by first | exact Nat.le_of_ble_eq_true rfl | omega | (dsimp only; omega)) (by first | exact Nat.le_of_ble_eq_true rfl | omega | (dsimp only; omega)) ?_
  exact wv_X8_queueLength_4 hl hG  g _ _ _ _ _ h
def wp_X8_hasQueueRoom (this : Nat) (a0 : Option Nat) (σ : Sg) (Post : Rs → Sg → Prop) : Prop := ((a0 = none → (b01 (0 : Int32) ∧ Post (.inl (some (.int (0 : Int32)))) σ)) ∧ (∀ u1, a0 = some u1 → u1 % 32 = 5 ∧ this % 32 = 8 ∧ wp_X8_queueLength this (sI σ u1 0) σ (KI (fun x3 σ2 => this % 32 = 8 ∧ ∀ o4, o4 = sP σ2 this 4 → u1 % 32 = 5 ∧ ∃ u5, o4 = some u5 ∧ aty (u5 % 32) = some .int ∧ ∃ j6, (sI σ2 u1 0) = nI j6 ∧ j6 < aln u5 ∧ (((sI σ2 u5 j6) ≤ x3 → (b01 (0 : Int32) ∧ Post (.inl (some (.int (0 : Int32)))) σ2)) ∧ (¬ (sI σ2 u5 j6) ≤ x3 → (b01 (1 : Int32) ∧ Post (.inl (some (.int (1 : Int32)))) σ2)))) (fun E σ2 => Post (.inr E) σ2))))
set_option maxRecDepth 100000 in
set_option maxHeartbeats 4000000 in
theorem ct_X8_hasQueueRoom {l : Launch} (hl : l.stackTraces = false) {this : Nat} {a0 : Option Nat} {σ : Sg} {Post : Rs → Sg → Prop} (h : wp_X8_hasQueueRoom this a0 σ Post) : Ct l yX8_hasQueueRoom (.code yX8_hasQueueRoom cX8_hasQueueRoom 2 (some .boolean)) 3 66 0 0 [.ref this, va_rf a0] σ Post := by
  refine Ct_of [some (.ref this), some (va_rf a0)] hl (by decide +kernel) rfl (fun ad => by cases a0 <;> rfl) (fun ad => by cases a0 <;> exact Nat.le_of_ble_eq_true rfl) (fun v hv => mem_lo hv rfl) ?_
  intro G hG
  unfold wp_X8_hasQueueRoom at h
  refine V_aload_n (v := va_rf a0) hG dX8_hasQueueRoom_0 (isRef_rf _) rfl ?_
  refine V_ifnull (o := a0) (tgt := 28) hG dX8_hasQueueRoom_1 (by decide) (fun c => ?_) (fun c => ?_)
  · replace h := h.1 c
    subst c
    refine V_iconst (v := 0) hG (by decide) dX8_hasQueueRoom_28 ?_
    exact V_zret hG dX8_hasQueueRoom_29 h.1 (by first | exact Nat.le_of_ble_eq_true rfl | omega | (dsimp only; omega)) (by first | exact Nat.le_of_ble_eq_true rfl | omega | (dsimp only; omega)) h.2
  · obtain ⟨u1, c⟩ := c
    replace h := h.2 u1 c
    subst c
    refine V_aload_n (v := .ref this) hG dX8_hasQueueRoom_4 rfl rfl ?_
    refine V_aload_n (v := .ref u1) hG dX8_hasQueueRoom_5 rfl rfl ?_
    obtain ⟨ht, h⟩ := h
    refine V_getI hG dX8_hasQueueRoom_6 fl_X8_56 rfl ht ?_
    obtain ⟨ht, h⟩ := h
    refine V_cVI _ _ hG dX8_hasQueueRoom_9 (ct_X8_queueLength hl h) mv_X8_queueLength ml_X8_61 ht rfl rfl rfl rfl (by first | exact Nat.le_of_ble_eq_true rfl | (simp only [List.map_cons, List.map_nil, List.sum_cons, List.sum_nil, cat_rf]; exact Nat.le_of_ble_eq_true rfl)) (Nat.le_of_ble_eq_true rfl) (Nat.le_of_ble_eq_true rfl) (by first | exact Nat.le_of_ble_eq_true rfl | omega | (dsimp only; omega)) (by first | exact Nat.le_of_ble_eq_true rfl | omega | (dsimp only; omega)) ?_ (fun x3 σ2 h9 => ?_)
    · exact fun E σ2 hx => VX_out hG (by first | exact Nat.le_of_ble_eq_true rfl | omega | (dsimp only; omega)) (by first | exact Nat.le_of_ble_eq_true rfl | omega | (dsimp only; omega)) hx
    · replace h := h9
      clear h9
      refine V_aload_n (v := .ref this) hG dX8_hasQueueRoom_12 rfl rfl ?_
      obtain ⟨ht, h⟩ := h
      refine V_getPv hG dX8_hasQueueRoom_13 fl_X8_23 rfl ht (fun o4 ho => ?_)
      replace h := h o4 ho
      refine V_aload_n (v := .ref u1) hG dX8_hasQueueRoom_16 rfl rfl ?_
      obtain ⟨ht, h⟩ := h
      refine V_getI hG dX8_hasQueueRoom_17 fl_X8_56 rfl ht ?_
      obtain ⟨u5, he, h⟩ := h
      subst he
      obtain ⟨ha, j6, hi, hj, h⟩ := h
      refine V_iald hG dX8_hasQueueRoom_20 ha hi hj ?_
      refine V_icmp_ge (tgt := 28) hG dX8_hasQueueRoom_21 (by decide) (fun c => ?_) (fun c => ?_)
      · replace h := h.1 c
        refine V_iconst (v := 0) hG (by decide) dX8_hasQueueRoom_28 ?_
        exact V_zret hG dX8_hasQueueRoom_29 h.1 (by first | exact Nat.le_of_ble_eq_true rfl | omega | (dsimp only; omega)) (by first | exact Nat.le_of_ble_eq_true rfl | omega | (dsimp only; omega)) h.2
      · replace h := h.2 c
        refine V_iconst (v := 1) hG (by decide) dX8_hasQueueRoom_24 ?_
        refine V_goto (tgt := 29) hG dX8_hasQueueRoom_25 (by decide) ?_
        exact V_zret hG dX8_hasQueueRoom_29 h.1 (by first | exact Nat.le_of_ble_eq_true rfl | omega | (dsimp only; omega)) (by first | exact Nat.le_of_ble_eq_true rfl | omega | (dsimp only; omega)) h.2
def wp_X1_hasLeft_96  (v1 : Nat) (v2 : Int32) (σ : Sg) (Post : Rs → Sg → Prop) : Prop := ((v2 = (-1 : Int32) → v1 % 32 = 0 ∧ v1 % 32 = 0 ∧ (b01 (1 : Int32) ∧ Post (.inl (some (.int (1 : Int32)))) (wI σ v1 5 ((sI σ v1 5) + (1 : Int32))))) ∧ (¬ v2 = (-1 : Int32) → v1 % 32 = 0 ∧ wp_X0_sendBackTo v1 v2 σ (KV (fun σ1 => (b01 (1 : Int32) ∧ Post (.inl (some (.int (1 : Int32)))) σ1)) (fun E σ1 => Post (.inr E) σ1))))
set_option maxRecDepth 100000 in
set_option maxHeartbeats 4000000 in
theorem wv_X1_hasLeft_96 {L9 : Launch} {G : Cx} {Post : Rs → Sg → Prop} (hl : L9.stackTraces = false) (hG : CX L9 G yX1_hasLeft cX1_hasLeft 4 (some .boolean) [] { frames := 4, cells := 0, slots := 0, locals := 87 })   : ∀ (v1 : Nat) (v2 : Int32) (σ : Sg), wp_X1_hasLeft_96 v1 v2 σ Post → V G (QM G 0 0 Post) 96 [none, some (.ref v1), some (.int v2), none] [] σ 0 0 := by
  intro v1 v2 σ h
  unfold wp_X1_hasLeft_96 at h
  refine V_iload_n hG dX1_hasLeft_96 rfl ?_
  refine V_iconst (v := (-1)) hG (by decide) dX1_hasLeft_97 ?_
  refine V_icmp_eq (tgt := 109) hG dX1_hasLeft_98 (by decide) (fun c => ?_) (fun c => ?_)
  · replace h := h.1 c
    refine V_aload_n (v := .ref v1) hG dX1_hasLeft_109 rfl rfl ?_
    refine V_dup (v := .ref v1) hG rfl dX1_hasLeft_110 ?_
    obtain ⟨ht, h⟩ := h
    refine V_getI hG dX1_hasLeft_111 fl_X1_92 rfl ht ?_
    refine V_iconst (v := 1) hG (by decide) dX1_hasLeft_114 ?_
    refine V_iadd hG dX1_hasLeft_115 ?_
    obtain ⟨ht, h⟩ := h
    refine V_putI hG dX1_hasLeft_116 fl_X1_92 rfl (fun e => absurd e (by decide)) rfl ht ?_
    refine V_iconst (v := 1) hG (by decide) dX1_hasLeft_119 ?_
    exact V_zret hG dX1_hasLeft_120 h.1 (by first | exact Nat.le_of_ble_eq_true rfl | omega | (dsimp only; omega)) (by first | exact Nat.le_of_ble_eq_true rfl | omega | (dsimp only; omega)) h.2
  · replace h := h.2 c
    refine V_aload_n (v := .ref v1) hG dX1_hasLeft_101 rfl rfl ?_
    refine V_iload_n hG dX1_hasLeft_102 rfl ?_
    obtain ⟨ht, h⟩ := h
    refine V_cVV _ _ hG dX1_hasLeft_103 (ct_X0_sendBackTo hl h) mv_X0_sendBackTo ml_X1_161 ht rfl rfl rfl rfl (by first | exact Nat.le_of_ble_eq_true rfl | (simp only [List.map_cons, List.map_nil, List.sum_cons, List.sum_nil, cat_rf]; exact Nat.le_of_ble_eq_true rfl)) (Nat.le_of_ble_eq_true rfl) (Nat.le_of_ble_eq_true rfl) (by first | exact Nat.le_of_ble_eq_true rfl | omega | (dsimp only; omega)) (by first | exact Nat.le_of_ble_eq_true rfl | omega | (dsimp only; omega)) ?_ (fun σ1 h9 => ?_)
    · exact fun E σ1 hx => VX_out hG (by first | exact Nat.le_of_ble_eq_true rfl | omega | (dsimp only; omega)) (by first | exact Nat.le_of_ble_eq_true rfl | omega | (dsimp only; omega)) hx
    · replace h := h9
      clear h9
      refine V_goto (tgt := 119) hG dX1_hasLeft_106 (by decide) ?_
      refine V_iconst (v := 1) hG (by decide) dX1_hasLeft_119 ?_
      exact V_zret hG dX1_hasLeft_120 h.1 (by first | exact Nat.le_of_ble_eq_true rfl | omega | (dsimp only; omega)) (by first | exact Nat.le_of_ble_eq_true rfl | omega | (dsimp only; omega)) h.2
def wp_X1_hasLeft_43  (this : Nat) (v1 : Nat) (v2 : Int32) (s0 : Option Nat) (s1 : Int32) (σ : Sg) (Post : Rs → Sg → Prop) : Prop := ∃ u1, s0 = some u1 ∧ u1 % 32 = 2 ∧ wp_X2_operationAt u1 s1 σ (KO (fun x3 σ2 => ((x3 = none → v1 % 32 = 0 ∧ ∀ o5, o5 = sP σ2 v1 1 → v1 % 32 = 0 ∧ ∃ u6, o5 = some u6 ∧ u6 % 32 = 2 ∧ wp_X2_hasStoreRoom u6 (sI σ2 v1 2) σ2 (KI (fun x8 σ7 => ((¬ x8 = 0 → this % 32 = 1 ∧ ∀ o9, o9 = sP σ7 this 0 → ∃ u10, o9 = some u10 ∧ u10 % 32 = 8 ∧ wp_X8_putInStore u10 (some v1) σ7 (KV (fun σ11 => (wp_X1_hasLeft_96 v1 v2 σ11 Post)) (fun E σ11 => Post (.inr E) σ11))) ∧ (x8 = 0 → (b01 (0 : Int32) ∧ Post (.inl (some (.int (0 : Int32)))) σ7)))) (fun E σ7 => Post (.inr E) σ7))) ∧ (∀ u4, x3 = some u4 → this % 32 = 1 ∧ ∀ o12, o12 = sP σ2 this 0 → ∃ u13, o12 = some u13 ∧ u13 % 32 = 8 ∧ wp_X8_hasQueueRoom u13 (some u4) σ2 (KI (fun x15 σ14 => ((¬ x15 = 0 → v1 % 32 = 0 ∧ (wp_X1_hasLeft_96 v1 v2 (wI σ14 v1 4 (1 : Int32)) Post)) ∧ (x15 = 0 → (b01 (0 : Int32) ∧ Post (.inl (some (.int (0 : Int32)))) σ14)))) (fun E σ14 => Post (.inr E) σ14))))) (fun E σ2 => Post (.inr E) σ2))
set_option maxRecDepth 100000 in
set_option maxHeartbeats 4000000 in
theorem wv_X1_hasLeft_43 {L9 : Launch} {G : Cx} {Post : Rs → Sg → Prop} (hl : L9.stackTraces = false) (hG : CX L9 G yX1_hasLeft cX1_hasLeft 4 (some .boolean) [] { frames := 4, cells := 0, slots := 0, locals := 87 })   : ∀ (this : Nat) (v1 : Nat) (v2 : Int32) (s0 : Option Nat) (s1 : Int32) (σ : Sg), wp_X1_hasLeft_43 this v1 v2 s0 s1 σ Post → V G (QM G 0 0 Post) 43 [some (.ref this), some (.ref v1), some (.int v2), none] [.int s1, va_rf s0] σ 0 0 := by
  intro this v1 v2 s0 s1 σ h
  unfold wp_X1_hasLeft_43 at h
  obtain ⟨u1, he, h⟩ := h
  subst he
  obtain ⟨ht, h⟩ := h
  refine V_cVO _ _ hG dX1_hasLeft_43 (ct_X2_operationAt hl h) mv_X2_operationAt ml_X1_141 ht rfl rfl rfl rfl (by first | exact Nat.le_of_ble_eq_true rfl | (simp only [List.map_cons, List.map_nil, List.sum_cons, List.sum_nil, cat_rf]; exact Nat.le_of_ble_eq_true rfl)) (Nat.le_of_ble_eq_true rfl) (Nat.le_of_ble_eq_true rfl) (by first | exact Nat.le_of_ble_eq_true rfl | omega | (dsimp only; omega)) (by first | exact Nat.le_of_ble_eq_true rfl | omega | (dsimp only; omega)) ?_ (fun x3 σ2 h9 => ?_)
  · exact fun E σ2 hx => VX_out hG (by first | exact Nat.le_of_ble_eq_true rfl | omega | (dsimp only; omega)) (by first | exact Nat.le_of_ble_eq_true rfl | omega | (dsimp only; omega)) hx
  · replace h := h9
    clear h9
    refine V_astore_n hG dX1_hasLeft_46 (isRef_rf _) (Nat.le_of_ble_eq_true rfl) (hpV rfl rfl) ?_
    refine V_aload_n (v := va_rf x3) hG dX1_hasLeft_47 (isRef_rf _) rfl ?_
    refine V_ifnonnull (o := x3) (tgt := 78) hG dX1_hasLeft_48 (by decide) (fun c => ?_) (fun c => ?_)
    · obtain ⟨u4, c⟩ := c
      replace h := h.2 u4 c
      subst c
      refine V_aload_n (v := .ref this) hG dX1_hasLeft_78 rfl rfl ?_
      obtain ⟨ht, h⟩ := h
      refine V_getPv hG dX1_hasLeft_79 fl_X1_12 rfl ht (fun o12 ho => ?_)
      replace h := h o12 ho
      refine V_aload_n (v := .ref u4) hG dX1_hasLeft_82 rfl rfl ?_
      obtain ⟨u13, he, h⟩ := h
      subst he
      obtain ⟨ht, h⟩ := h
      refine V_cVI _ _ hG dX1_hasLeft_83 (ct_X8_hasQueueRoom hl h) mv_X8_hasQueueRoom ml_X1_157 ht rfl rfl rfl rfl (by first | exact Nat.le_of_ble_eq_true rfl | (simp only [List.map_cons, List.map_nil, List.sum_cons, List.sum_nil, cat_rf]; exact Nat.le_of_ble_eq_true rfl)) (Nat.le_of_ble_eq_true rfl) (Nat.le_of_ble_eq_true rfl) (by first | exact Nat.le_of_ble_eq_true rfl | omega | (dsimp only; omega)) (by first | exact Nat.le_of_ble_eq_true rfl | omega | (dsimp only; omega)) ?_ (fun x15 σ14 h9 => ?_)
      · exact fun E σ14 hx => VX_out hG (by first | exact Nat.le_of_ble_eq_true rfl | omega | (dsimp only; omega)) (by first | exact Nat.le_of_ble_eq_true rfl | omega | (dsimp only; omega)) hx
      · replace h := h9
        clear h9
        refine V_if_ne (tgt := 91) hG dX1_hasLeft_86 (by decide) (fun c => ?_) (fun c => ?_)
        · replace h := h.1 c
          refine V_aload_n (v := .ref v1) hG dX1_hasLeft_91 rfl rfl ?_
          refine V_iconst (v := 1) hG (by decide) dX1_hasLeft_92 ?_
          obtain ⟨ht, h⟩ := h
          refine V_putI hG dX1_hasLeft_93 fl_X1_134 rfl (fun e => absurd e (by decide)) rfl ht ?_
          refine V_forget (lo' := [none, some (.ref v1), some (.int v2), none]) ⟨rfl, ⟨rfl, trivial⟩⟩ ?_
          refine V_widen (k' := 0) (n' := 0) (by first | exact Nat.le_of_ble_eq_true rfl | omega | (dsimp only; omega)) (by first | exact Nat.le_of_ble_eq_true rfl | omega | (dsimp only; omega)) ?_
          exact wv_X1_hasLeft_96 hl hG  _ _ _ h
        · replace h := h.2 c
          refine V_iconst (v := 0) hG (by decide) dX1_hasLeft_89 ?_
          exact V_zret hG dX1_hasLeft_90 h.1 (by first | exact Nat.le_of_ble_eq_true rfl | omega | (dsimp only; omega)) (by first | exact Nat.le_of_ble_eq_true rfl | omega | (dsimp only; omega)) h.2
    · replace h := h.1 c
      subst c
      refine V_aload_n (v := .ref v1) hG dX1_hasLeft_51 rfl rfl ?_
      obtain ⟨ht, h⟩ := h
      refine V_getPv hG dX1_hasLeft_52 fl_X1_137 rfl ht (fun o5 ho => ?_)
      replace h := h o5 ho
      refine V_aload_n (v := .ref v1) hG dX1_hasLeft_55 rfl rfl ?_
      obtain ⟨ht, h⟩ := h
      refine V_getI hG dX1_hasLeft_56 fl_X1_147 rfl ht ?_
      obtain ⟨u6, he, h⟩ := h
      subst he
      obtain ⟨ht, h⟩ := h
      refine V_cVI _ _ hG dX1_hasLeft_59 (ct_X2_hasStoreRoom hl h) mv_X2_hasStoreRoom ml_X1_150 ht rfl rfl rfl rfl (by first | exact Nat.le_of_ble_eq_true rfl | (simp only [List.map_cons, List.map_nil, List.sum_cons, List.sum_nil, cat_rf]; exact Nat.le_of_ble_eq_true rfl)) (Nat.le_of_ble_eq_true rfl) (Nat.le_of_ble_eq_true rfl) (by first | exact Nat.le_of_ble_eq_true rfl | omega | (dsimp only; omega)) (by first | exact Nat.le_of_ble_eq_true rfl | omega | (dsimp only; omega)) ?_ (fun x8 σ7 h9 => ?_)
      · exact fun E σ7 hx => VX_out hG (by first | exact Nat.le_of_ble_eq_true rfl | omega | (dsimp only; omega)) (by first | exact Nat.le_of_ble_eq_true rfl | omega | (dsimp only; omega)) hx
      · replace h := h9
        clear h9
        refine V_if_ne (tgt := 67) hG dX1_hasLeft_62 (by decide) (fun c => ?_) (fun c => ?_)
        · replace h := h.1 c
          refine V_aload_n (v := .ref this) hG dX1_hasLeft_67 rfl rfl ?_
          obtain ⟨ht, h⟩ := h
          refine V_getPv hG dX1_hasLeft_68 fl_X1_12 rfl ht (fun o9 ho => ?_)
          replace h := h o9 ho
          refine V_aload_n (v := .ref v1) hG dX1_hasLeft_71 rfl rfl ?_
          obtain ⟨u10, he, h⟩ := h
          subst he
          obtain ⟨ht, h⟩ := h
          refine V_cVV _ _ hG dX1_hasLeft_72 (ct_X8_putInStore hl h) mv_X8_putInStore ml_X1_153 ht rfl rfl rfl rfl (by first | exact Nat.le_of_ble_eq_true rfl | (simp only [List.map_cons, List.map_nil, List.sum_cons, List.sum_nil, cat_rf]; exact Nat.le_of_ble_eq_true rfl)) (Nat.le_of_ble_eq_true rfl) (Nat.le_of_ble_eq_true rfl) (by first | exact Nat.le_of_ble_eq_true rfl | omega | (dsimp only; omega)) (by first | exact Nat.le_of_ble_eq_true rfl | omega | (dsimp only; omega)) ?_ (fun σ11 h9 => ?_)
          · exact fun E σ11 hx => VX_out hG (by first | exact Nat.le_of_ble_eq_true rfl | omega | (dsimp only; omega)) (by first | exact Nat.le_of_ble_eq_true rfl | omega | (dsimp only; omega)) hx
          · replace h := h9
            clear h9
            refine V_goto (tgt := 96) hG dX1_hasLeft_75 (by decide) ?_
            refine V_forget (lo' := [none, some (.ref v1), some (.int v2), none]) ⟨rfl, ⟨rfl, trivial⟩⟩ ?_
            refine V_widen (k' := 0) (n' := 0) (by first | exact Nat.le_of_ble_eq_true rfl | omega | (dsimp only; omega)) (by first | exact Nat.le_of_ble_eq_true rfl | omega | (dsimp only; omega)) ?_
            exact wv_X1_hasLeft_96 hl hG  _ _ _ h
        · replace h := h.2 c
          refine V_iconst (v := 0) hG (by decide) dX1_hasLeft_65 ?_
          exact V_zret hG dX1_hasLeft_66 h.1 (by first | exact Nat.le_of_ble_eq_true rfl | omega | (dsimp only; omega)) (by first | exact Nat.le_of_ble_eq_true rfl | omega | (dsimp only; omega)) h.2
def wp_X1_hasLeft_24  (this : Nat) (v1 : Nat) (v2 : Int32) (σ : Sg) (Post : Rs → Sg → Prop) : Prop := v1 % 32 = 0 ∧ ∀ o1, o1 = sP σ v1 1 → ((v2 = (-1 : Int32) → v1 % 32 = 0 ∧ (wp_X1_hasLeft_43 this v1 v2 o1 ((sI σ v1 5) + (1 : Int32)) σ Post)) ∧ (¬ v2 = (-1 : Int32) → (wp_X1_hasLeft_43 this v1 v2 o1 v2 σ Post)))
set_option maxRecDepth 100000 in
set_option maxHeartbeats 4000000 in
theorem wv_X1_hasLeft_24 {L9 : Launch} {G : Cx} {Post : Rs → Sg → Prop} (hl : L9.stackTraces = false) (hG : CX L9 G yX1_hasLeft cX1_hasLeft 4 (some .boolean) [] { frames := 4, cells := 0, slots := 0, locals := 87 })   : ∀ (this : Nat) (v1 : Nat) (v2 : Int32) (σ : Sg), wp_X1_hasLeft_24 this v1 v2 σ Post → V G (QM G 0 0 Post) 24 [some (.ref this), some (.ref v1), some (.int v2), none] [] σ 0 0 := by
  intro this v1 v2 σ h
  unfold wp_X1_hasLeft_24 at h
  refine V_aload_n (v := .ref v1) hG dX1_hasLeft_24 rfl rfl ?_
  obtain ⟨ht, h⟩ := h
  refine V_getPv hG dX1_hasLeft_25 fl_X1_137 rfl ht (fun o1 ho => ?_)
  replace h := h o1 ho
  refine V_iload_n hG dX1_hasLeft_28 rfl ?_
  refine V_iconst (v := (-1)) hG (by decide) dX1_hasLeft_29 ?_
  refine V_icmp_eq (tgt := 37) hG dX1_hasLeft_30 (by decide) (fun c => ?_) (fun c => ?_)
  · replace h := h.1 c
    refine V_aload_n (v := .ref v1) hG dX1_hasLeft_37 rfl rfl ?_
    obtain ⟨ht, h⟩ := h
    refine V_getI hG dX1_hasLeft_38 fl_X1_92 rfl ht ?_
    refine V_iconst (v := 1) hG (by decide) dX1_hasLeft_41 ?_
    refine V_iadd hG dX1_hasLeft_42 ?_
    refine V_forget (lo' := [some (.ref this), some (.ref v1), some (.int v2), none]) ⟨rfl, ⟨rfl, ⟨rfl, trivial⟩⟩⟩ ?_
    refine V_widen (k' := 0) (n' := 0) (by first | exact Nat.le_of_ble_eq_true rfl | omega | (dsimp only; omega)) (by first | exact Nat.le_of_ble_eq_true rfl | omega | (dsimp only; omega)) ?_
    exact wv_X1_hasLeft_43 hl hG  _ _ _ _ _ _ h
  · replace h := h.2 c
    refine V_iload_n hG dX1_hasLeft_33 rfl ?_
    refine V_goto (tgt := 43) hG dX1_hasLeft_34 (by decide) ?_
    refine V_forget (lo' := [some (.ref this), some (.ref v1), some (.int v2), none]) ⟨rfl, ⟨rfl, ⟨rfl, trivial⟩⟩⟩ ?_
    refine V_widen (k' := 0) (n' := 0) (by first | exact Nat.le_of_ble_eq_true rfl | omega | (dsimp only; omega)) (by first | exact Nat.le_of_ble_eq_true rfl | omega | (dsimp only; omega)) ?_
    exact wv_X1_hasLeft_43 hl hG  _ _ _ _ _ _ h
def wp_X1_hasLeft (this : Nat) (a0 : Option Nat) (σ : Sg) (Post : Rs → Sg → Prop) : Prop := ∃ u1, a0 = some u1 ∧ u1 % 32 = 0 ∧ wp_X0_foundFault u1 σ (KI (fun x3 σ2 => ((x3 = (-1 : Int32) → (wp_X1_hasLeft_24 this u1 x3 σ2 Post)) ∧ (¬ x3 = (-1 : Int32) → u1 % 32 = 0 ∧ (((sI σ2 u1 8) = 0 → (wp_X1_hasLeft_24 this u1 x3 σ2 Post)) ∧ (¬ (sI σ2 u1 8) = 0 → u1 % 32 = 0 ∧ (b01 (1 : Int32) ∧ Post (.inl (some (.int (1 : Int32)))) (wI σ2 u1 4 (5 : Int32)))))))) (fun E σ2 => Post (.inr E) σ2))
set_option maxRecDepth 100000 in
set_option maxHeartbeats 4000000 in
theorem ct_X1_hasLeft {l : Launch} (hl : l.stackTraces = false) {this : Nat} {a0 : Option Nat} {σ : Sg} {Post : Rs → Sg → Prop} (h : wp_X1_hasLeft this a0 σ Post) : Ct l yX1_hasLeft (.code yX1_hasLeft cX1_hasLeft 4 (some .boolean)) 4 87 0 0 [.ref this, va_rf a0] σ Post := by
  refine Ct_of [some (.ref this), some (va_rf a0), none, none] hl (by decide +kernel) rfl (fun ad => by cases a0 <;> rfl) (fun ad => by cases a0 <;> exact Nat.le_of_ble_eq_true rfl) (fun v hv => mem_lo hv rfl) ?_
  intro G hG
  unfold wp_X1_hasLeft at h
  refine V_aload_n (v := va_rf a0) hG dX1_hasLeft_0 (isRef_rf _) rfl ?_
  obtain ⟨u1, he, h⟩ := h
  subst he
  obtain ⟨ht, h⟩ := h
  refine V_cVI _ _ hG dX1_hasLeft_1 (ct_X0_foundFault hl h) mv_X0_foundFault ml_X1_127 ht rfl rfl rfl rfl (by first | exact Nat.le_of_ble_eq_true rfl | (simp only [List.map_cons, List.map_nil, List.sum_cons, List.sum_nil, cat_rf]; exact Nat.le_of_ble_eq_true rfl)) (Nat.le_of_ble_eq_true rfl) (Nat.le_of_ble_eq_true rfl) (by first | exact Nat.le_of_ble_eq_true rfl | omega | (dsimp only; omega)) (by first | exact Nat.le_of_ble_eq_true rfl | omega | (dsimp only; omega)) ?_ (fun x3 σ2 h9 => ?_)
  · exact fun E σ2 hx => VX_out hG (by first | exact Nat.le_of_ble_eq_true rfl | omega | (dsimp only; omega)) (by first | exact Nat.le_of_ble_eq_true rfl | omega | (dsimp only; omega)) hx
  · replace h := h9
    clear h9
    refine V_istore_n hG dX1_hasLeft_4 (Nat.le_of_ble_eq_true rfl) (hpV rfl rfl) ?_
    refine V_iload_n hG dX1_hasLeft_5 rfl ?_
    refine V_iconst (v := (-1)) hG (by decide) dX1_hasLeft_6 ?_
    refine V_icmp_eq (tgt := 24) hG dX1_hasLeft_7 (by decide) (fun c => ?_) (fun c => ?_)
    · replace h := h.1 c
      refine V_forget (lo' := [some (.ref this), some (.ref u1), some (.int x3), none]) ⟨rfl, ⟨rfl, ⟨rfl, trivial⟩⟩⟩ ?_
      refine V_widen (k' := 0) (n' := 0) (by first | exact Nat.le_of_ble_eq_true rfl | omega | (dsimp only; omega)) (by first | exact Nat.le_of_ble_eq_true rfl | omega | (dsimp only; omega)) ?_
      exact wv_X1_hasLeft_24 hl hG  _ _ _ _ h
    · replace h := h.2 c
      refine V_aload_n (v := .ref u1) hG dX1_hasLeft_10 rfl rfl ?_
      obtain ⟨ht, h⟩ := h
      refine V_getI hG dX1_hasLeft_11 fl_X1_131 rfl ht ?_
      refine V_if_eq (tgt := 24) hG dX1_hasLeft_14 (by decide) (fun c => ?_) (fun c => ?_)
      · replace h := h.1 c
        refine V_forget (lo' := [some (.ref this), some (.ref u1), some (.int x3), none]) ⟨rfl, ⟨rfl, ⟨rfl, trivial⟩⟩⟩ ?_
        refine V_widen (k' := 0) (n' := 0) (by first | exact Nat.le_of_ble_eq_true rfl | omega | (dsimp only; omega)) (by first | exact Nat.le_of_ble_eq_true rfl | omega | (dsimp only; omega)) ?_
        exact wv_X1_hasLeft_24 hl hG  _ _ _ _ h
      · replace h := h.2 c
        refine V_aload_n (v := .ref u1) hG dX1_hasLeft_17 rfl rfl ?_
        refine V_iconst (v := 5) hG (by decide) dX1_hasLeft_18 ?_
        obtain ⟨ht, h⟩ := h
        refine V_putI hG dX1_hasLeft_19 fl_X1_134 rfl (fun e => absurd e (by decide)) rfl ht ?_
        refine V_iconst (v := 1) hG (by decide) dX1_hasLeft_22 ?_
        exact V_zret hG dX1_hasLeft_23 h.1 (by first | exact Nat.le_of_ble_eq_true rfl | omega | (dsimp only; omega)) (by first | exact Nat.le_of_ble_eq_true rfl | omega | (dsimp only; omega)) h.2
def wp_X4_letGo_15  (this : Nat) (σ : Sg) (Post : Rs → Sg → Prop) : Prop := this % 32 = 4 ∧ this % 32 = 4 ∧ this % 32 = 4 ∧ this % 32 = 4 ∧ this % 32 = 4 ∧ (((sI (wI (wP (wP σ this 7 none) this 8 none) this 9 (0 : Int32)) this 11) < (sI (wI (wP (wP σ this 7 none) this 8 none) this 9 (0 : Int32)) this 4) → Post (.inl none) (wI (wP (wP σ this 7 none) this 8 none) this 9 (0 : Int32))) ∧ (¬ (sI (wI (wP (wP σ this 7 none) this 8 none) this 9 (0 : Int32)) this 11) < (sI (wI (wP (wP σ this 7 none) this 8 none) this 9 (0 : Int32)) this 4) → this % 32 = 4 ∧ Post (.inl none) (wI (wI (wP (wP σ this 7 none) this 8 none) this 9 (0 : Int32)) this 13 (1 : Int32))))
set_option maxRecDepth 100000 in
set_option maxHeartbeats 4000000 in
theorem wv_X4_letGo_15 {L9 : Launch} {G : Cx} {Post : Rs → Sg → Prop} (hl : L9.stackTraces = false) (hG : CX L9 G yX4_letGo cX4_letGo 1 none [] { frames := 0, cells := 0, slots := 0, locals := 0 })   : ∀ (this : Nat) (σ : Sg), wp_X4_letGo_15 this σ Post → V G (QM G 0 0 Post) 15 [some (.ref this)] [] σ 0 0 := by
  intro this σ h
  unfold wp_X4_letGo_15 at h
  refine V_aload_n (v := .ref this) hG dX4_letGo_15 rfl rfl ?_
  refine V_null hG dX4_letGo_16 ?_
  obtain ⟨ht, h⟩ := h
  refine V_putN hG dX4_letGo_17 fl_X4_42 rfl rfl ht ?_
  refine V_aload_n (v := .ref this) hG dX4_letGo_20 rfl rfl ?_
  refine V_null hG dX4_letGo_21 ?_
  obtain ⟨ht, h⟩ := h
  refine V_putN hG dX4_letGo_22 fl_X4_82 rfl rfl ht ?_
  refine V_aload_n (v := .ref this) hG dX4_letGo_25 rfl rfl ?_
  refine V_iconst (v := 0) hG (by decide) dX4_letGo_26 ?_
  obtain ⟨ht, h⟩ := h
  refine V_putI hG dX4_letGo_27 fl_X4_64 rfl (fun e => absurd e (by decide)) rfl ht ?_
  refine V_aload_n (v := .ref this) hG dX4_letGo_30 rfl rfl ?_
  obtain ⟨ht, h⟩ := h
  refine V_getI hG dX4_letGo_31 fl_X4_89 rfl ht ?_
  refine V_aload_n (v := .ref this) hG dX4_letGo_34 rfl rfl ?_
  obtain ⟨ht, h⟩ := h
  refine V_getI hG dX4_letGo_35 fl_X4_27 rfl ht ?_
  refine V_icmp_lt (tgt := 46) hG dX4_letGo_38 (by decide) (fun c => ?_) (fun c => ?_)
  · replace h := h.1 c
    exact V_vret hG dX4_letGo_46 (by first | exact Nat.le_of_ble_eq_true rfl | omega | (dsimp only; omega)) (by first | exact Nat.le_of_ble_eq_true rfl | omega | (dsimp only; omega)) h
  · replace h := h.2 c
    refine V_aload_n (v := .ref this) hG dX4_letGo_41 rfl rfl ?_
    refine V_iconst (v := 1) hG (by decide) dX4_letGo_42 ?_
    obtain ⟨ht, h⟩ := h
    refine V_putI hG dX4_letGo_43 fl_X4_9 rfl (fun e => absurd e (by decide)) rfl ht ?_
    exact V_vret hG dX4_letGo_46 (by first | exact Nat.le_of_ble_eq_true rfl | omega | (dsimp only; omega)) (by first | exact Nat.le_of_ble_eq_true rfl | omega | (dsimp only; omega)) h
def wp_X4_letGo (this : Nat) (σ : Sg) (Post : Rs → Sg → Prop) : Prop := this % 32 = 4 ∧ ∀ o1, o1 = sP σ this 8 → ((o1 = none → (wp_X4_letGo_15 this σ Post)) ∧ (∀ u2, o1 = some u2 → this % 32 = 4 ∧ ∀ o3, o3 = sP σ this 8 → ∃ u4, o3 = some u4 ∧ u4 % 32 = 7 ∧ (wp_X4_letGo_15 this (wI σ u4 6 (-1 : Int32)) Post)))
set_option maxRecDepth 100000 in
set_option maxHeartbeats 4000000 in
theorem ct_X4_letGo {l : Launch} (hl : l.stackTraces = false) {this : Nat} {σ : Sg} {Post : Rs → Sg → Prop} (h : wp_X4_letGo this σ Post) : Ct l yX4_letGo (.code yX4_letGo cX4_letGo 1 none) 0 0 0 0 [.ref this] σ Post := by
  refine Ct_of [some (.ref this)] hl (by decide +kernel) rfl (fun ad => by rfl) (fun ad => by exact Nat.le_of_ble_eq_true rfl) (fun v hv => mem_lo hv rfl) ?_
  intro G hG
  unfold wp_X4_letGo at h
  refine V_aload_n (v := .ref this) hG dX4_letGo_0 rfl rfl ?_
  obtain ⟨ht, h⟩ := h
  refine V_getPv hG dX4_letGo_1 fl_X4_82 rfl ht (fun o1 ho => ?_)
  replace h := h o1 ho
  refine V_ifnull (o := o1) (tgt := 15) hG dX4_letGo_4 (by decide) (fun c => ?_) (fun c => ?_)
  · replace h := h.1 c
    subst c
    refine V_forget (lo' := [some (.ref this)]) ⟨rfl, trivial⟩ ?_
    refine V_widen (k' := 0) (n' := 0) (by first | exact Nat.le_of_ble_eq_true rfl | omega | (dsimp only; omega)) (by first | exact Nat.le_of_ble_eq_true rfl | omega | (dsimp only; omega)) ?_
    exact wv_X4_letGo_15 hl hG  _ _ h
  · obtain ⟨u2, c⟩ := c
    replace h := h.2 u2 c
    subst c
    refine V_aload_n (v := .ref this) hG dX4_letGo_7 rfl rfl ?_
    obtain ⟨ht, h⟩ := h
    refine V_getPv hG dX4_letGo_8 fl_X4_82 rfl ht (fun o3 ho => ?_)
    replace h := h o3 ho
    refine V_iconst (v := (-1)) hG (by decide) dX4_letGo_11 ?_
    obtain ⟨u4, he, h⟩ := h
    subst he
    obtain ⟨ht, h⟩ := h
    refine V_putI hG dX4_letGo_12 fl_X4_86 rfl (fun e => absurd e (by decide)) rfl ht ?_
    refine V_forget (lo' := [some (.ref this)]) ⟨rfl, trivial⟩ ?_
    refine V_widen (k' := 0) (n' := 0) (by first | exact Nat.le_of_ble_eq_true rfl | omega | (dsimp only; omega)) (by first | exact Nat.le_of_ble_eq_true rfl | omega | (dsimp only; omega)) ?_
    exact wv_X4_letGo_15 hl hG  _ _ h
def wp_X1_workAt_88  (this : Nat) (v1 : Nat) (v3 : Nat) (σ : Sg) (Post : Rs → Sg → Prop) : Prop := this % 32 = 1 ∧ wp_X1_hasLeft this (some v3) σ (KI (fun x2 σ1 => ((x2 = 0 → Post (.inl none) σ1) ∧ (¬ x2 = 0 → v1 % 32 = 4 ∧ wp_X4_letGo v1 σ1 (KV (fun σ3 => Post (.inl none) σ3) (fun E σ3 => Post (.inr E) σ3))))) (fun E σ1 => Post (.inr E) σ1))
set_option maxRecDepth 100000 in
set_option maxHeartbeats 4000000 in
theorem wv_X1_workAt_88 {L9 : Launch} {G : Cx} {Post : Rs → Sg → Prop} (hl : L9.stackTraces = false) (hG : CX L9 G yX1_workAt cX1_workAt 5 none [] { frames := 5, cells := 0, slots := 0, locals := 110 })   : ∀ (this : Nat) (v1 : Nat) (v3 : Nat) (σ : Sg), wp_X1_workAt_88 this v1 v3 σ Post → V G (QM G 0 0 Post) 88 [some (.ref this), some (.ref v1), none, some (.ref v3), none] [] σ 0 0 := by
  intro this v1 v3 σ h
  unfold wp_X1_workAt_88 at h
  refine V_aload_n (v := .ref this) hG dX1_workAt_88 rfl rfl ?_
  refine V_aload_n (v := .ref v3) hG dX1_workAt_89 rfl rfl ?_
  obtain ⟨ht, h⟩ := h
  refine V_cVI _ _ hG dX1_workAt_90 (ct_X1_hasLeft hl h) mv_X1_hasLeft ml_X1_95 ht rfl rfl rfl rfl (by first | exact Nat.le_of_ble_eq_true rfl | (simp only [List.map_cons, List.map_nil, List.sum_cons, List.sum_nil, cat_rf]; exact Nat.le_of_ble_eq_true rfl)) (Nat.le_of_ble_eq_true rfl) (Nat.le_of_ble_eq_true rfl) (by first | exact Nat.le_of_ble_eq_true rfl | omega | (dsimp only; omega)) (by first | exact Nat.le_of_ble_eq_true rfl | omega | (dsimp only; omega)) ?_ (fun x2 σ1 h9 => ?_)
  · exact fun E σ1 hx => VX_out hG (by first | exact Nat.le_of_ble_eq_true rfl | omega | (dsimp only; omega)) (by first | exact Nat.le_of_ble_eq_true rfl | omega | (dsimp only; omega)) hx
  · replace h := h9
    clear h9
    refine V_if_eq (tgt := 100) hG dX1_workAt_93 (by decide) (fun c => ?_) (fun c => ?_)
    · replace h := h.1 c
      exact V_vret hG dX1_workAt_100 (by first | exact Nat.le_of_ble_eq_true rfl | omega | (dsimp only; omega)) (by first | exact Nat.le_of_ble_eq_true rfl | omega | (dsimp only; omega)) h
    · replace h := h.2 c
      refine V_aload_n (v := .ref v1) hG dX1_workAt_96 rfl rfl ?_
      obtain ⟨ht, h⟩ := h
      refine V_cVV _ _ hG dX1_workAt_97 (ct_X4_letGo hl h) mv_X4_letGo ml_X1_99 ht rfl rfl rfl rfl (by first | exact Nat.le_of_ble_eq_true rfl | (simp only [List.map_cons, List.map_nil, List.sum_cons, List.sum_nil, cat_rf]; exact Nat.le_of_ble_eq_true rfl)) (Nat.le_of_ble_eq_true rfl) (Nat.le_of_ble_eq_true rfl) (by first | exact Nat.le_of_ble_eq_true rfl | omega | (dsimp only; omega)) (by first | exact Nat.le_of_ble_eq_true rfl | omega | (dsimp only; omega)) ?_ (fun σ3 h9 => ?_)
      · exact fun E σ3 hx => VX_out hG (by first | exact Nat.le_of_ble_eq_true rfl | omega | (dsimp only; omega)) (by first | exact Nat.le_of_ble_eq_true rfl | omega | (dsimp only; omega)) hx
      · replace h := h9
        clear h9
        exact V_vret hG dX1_workAt_100 (by first | exact Nat.le_of_ble_eq_true rfl | omega | (dsimp only; omega)) (by first | exact Nat.le_of_ble_eq_true rfl | omega | (dsimp only; omega)) h
def wp_X1_workAt_45  (this : Nat) (v1 : Nat) (v2 : Int32) (v3 : Nat) (σ : Sg) (Post : Rs → Sg → Prop) : Prop := v1 % 32 = 4 ∧ (((sI σ v1 9) ≤ 0 → v1 % 32 = 4 ∧ ((¬ (sI σ v1 10) = 0 → (wp_X1_workAt_88 this v1 v3 σ Post)) ∧ ((sI σ v1 10) = 0 → v1 % 32 = 4 ∧ b01 (1 : Int32) ∧ v1 % 32 = 4 ∧ wp_X4_drawsFault v1 v2 (wI σ v1 10 (1 : Int32)) (KI (fun x2 σ1 => ((x2 = 0 → (wp_X1_workAt_88 this v1 v3 σ1 Post)) ∧ (¬ x2 = 0 → v3 % 32 = 0 ∧ v3 % 32 = 0 ∧ v3 % 32 = 0 ∧ (wp_X1_workAt_88 this v1 v3 (wI σ1 v3 10 ((sI σ1 v3 10) ||| ((1 : Int32) <<< ((sI σ1 v3 5) &&& 31)))) Post)))) (fun E σ1 => Post (.inr E) σ1))))) ∧ (¬ (sI σ v1 9) ≤ 0 → Post (.inl none) σ))
set_option maxRecDepth 100000 in
set_option maxHeartbeats 4000000 in
theorem wv_X1_workAt_45 {L9 : Launch} {G : Cx} {Post : Rs → Sg → Prop} (hl : L9.stackTraces = false) (hG : CX L9 G yX1_workAt cX1_workAt 5 none [] { frames := 5, cells := 0, slots := 0, locals := 110 })   : ∀ (this : Nat) (v1 : Nat) (v2 : Int32) (v3 : Nat) (σ : Sg), wp_X1_workAt_45 this v1 v2 v3 σ Post → V G (QM G 0 0 Post) 45 [some (.ref this), some (.ref v1), some (.int v2), some (.ref v3), none] [] σ 0 0 := by
  intro this v1 v2 v3 σ h
  unfold wp_X1_workAt_45 at h
  refine V_aload_n (v := .ref v1) hG dX1_workAt_45 rfl rfl ?_
  obtain ⟨ht, h⟩ := h
  refine V_getI hG dX1_workAt_46 fl_X1_69 rfl ht ?_
  refine V_if_le (tgt := 53) hG dX1_workAt_49 (by decide) (fun c => ?_) (fun c => ?_)
  · replace h := h.1 c
    refine V_aload_n (v := .ref v1) hG dX1_workAt_53 rfl rfl ?_
    obtain ⟨ht, h⟩ := h
    refine V_getI hG dX1_workAt_54 fl_X1_80 rfl ht ?_
    refine V_if_ne (tgt := 88) hG dX1_workAt_57 (by decide) (fun c => ?_) (fun c => ?_)
    · replace h := h.1 c
      refine V_forget (lo' := [some (.ref this), some (.ref v1), none, some (.ref v3), none]) ⟨rfl, ⟨rfl, ⟨rfl, trivial⟩⟩⟩ ?_
      refine V_widen (k' := 0) (n' := 0) (by first | exact Nat.le_of_ble_eq_true rfl | omega | (dsimp only; omega)) (by first | exact Nat.le_of_ble_eq_true rfl | omega | (dsimp only; omega)) ?_
      exact wv_X1_workAt_88 hl hG  _ _ _ _ h
    · replace h := h.2 c
      refine V_aload_n (v := .ref v1) hG dX1_workAt_60 rfl rfl ?_
      refine V_iconst (v := 1) hG (by decide) dX1_workAt_61 ?_
      obtain ⟨ht, h⟩ := h
      obtain ⟨hb, h⟩ := h
      refine V_putI hG dX1_workAt_62 fl_X1_80 rfl (fun _ => hb) rfl ht ?_
      refine V_aload_n (v := .ref v1) hG dX1_workAt_65 rfl rfl ?_
      refine V_iload_n hG dX1_workAt_66 rfl ?_
      obtain ⟨ht, h⟩ := h
      refine V_cVI _ _ hG dX1_workAt_67 (ct_X4_drawsFault hl h) mv_X4_drawsFault ml_X1_84 ht rfl rfl rfl rfl (by first | exact Nat.le_of_ble_eq_true rfl | (simp only [List.map_cons, List.map_nil, List.sum_cons, List.sum_nil, cat_rf]; exact Nat.le_of_ble_eq_true rfl)) (Nat.le_of_ble_eq_true rfl) (Nat.le_of_ble_eq_true rfl) (by first | exact Nat.le_of_ble_eq_true rfl | omega | (dsimp only; omega)) (by first | exact Nat.le_of_ble_eq_true rfl | omega | (dsimp only; omega)) ?_ (fun x2 σ1 h9 => ?_)
      · exact fun E σ1 hx => VX_out hG (by first | exact Nat.le_of_ble_eq_true rfl | omega | (dsimp only; omega)) (by first | exact Nat.le_of_ble_eq_true rfl | omega | (dsimp only; omega)) hx
      · replace h := h9
        clear h9
        refine V_if_eq (tgt := 88) hG dX1_workAt_70 (by decide) (fun c => ?_) (fun c => ?_)
        · replace h := h.1 c
          refine V_forget (lo' := [some (.ref this), some (.ref v1), none, some (.ref v3), none]) ⟨rfl, ⟨rfl, ⟨rfl, trivial⟩⟩⟩ ?_
          refine V_widen (k' := 0) (n' := 0) (by first | exact Nat.le_of_ble_eq_true rfl | omega | (dsimp only; omega)) (by first | exact Nat.le_of_ble_eq_true rfl | omega | (dsimp only; omega)) ?_
          exact wv_X1_workAt_88 hl hG  _ _ _ _ h
        · replace h := h.2 c
          refine V_aload_n (v := .ref v3) hG dX1_workAt_73 rfl rfl ?_
          refine V_dup (v := .ref v3) hG rfl dX1_workAt_74 ?_
          obtain ⟨ht, h⟩ := h
          refine V_getI hG dX1_workAt_75 fl_X1_87 rfl ht ?_
          refine V_iconst (v := 1) hG (by decide) dX1_workAt_78 ?_
          refine V_aload_n (v := .ref v3) hG dX1_workAt_79 rfl rfl ?_
          obtain ⟨ht, h⟩ := h
          refine V_getI hG dX1_workAt_80 fl_X1_92 rfl ht ?_
          refine V_ishl hG dX1_workAt_83 ?_
          refine V_ior hG dX1_workAt_84 ?_
          obtain ⟨ht, h⟩ := h
          refine V_putI hG dX1_workAt_85 fl_X1_87 rfl (fun e => absurd e (by decide)) rfl ht ?_
          refine V_forget (lo' := [some (.ref this), some (.ref v1), none, some (.ref v3), none]) ⟨rfl, ⟨rfl, ⟨rfl, trivial⟩⟩⟩ ?_
          refine V_widen (k' := 0) (n' := 0) (by first | exact Nat.le_of_ble_eq_true rfl | omega | (dsimp only; omega)) (by first | exact Nat.le_of_ble_eq_true rfl | omega | (dsimp only; omega)) ?_
          exact wv_X1_workAt_88 hl hG  _ _ _ _ h
  · replace h := h.2 c
    exact V_vret hG dX1_workAt_52 (by first | exact Nat.le_of_ble_eq_true rfl | omega | (dsimp only; omega)) (by first | exact Nat.le_of_ble_eq_true rfl | omega | (dsimp only; omega)) h
def wp_X1_workAt (this : Nat) (a0 : Option Nat) (a1 : Int32) (σ : Sg) (Post : Rs → Sg → Prop) : Prop := ∃ u1, a0 = some u1 ∧ u1 % 32 = 4 ∧ ∀ o2, o2 = sP σ u1 7 → u1 % 32 = 4 ∧ ∀ o3, o3 = sP σ u1 8 → ((o2 = none → Post (.inl none) σ) ∧ (∀ u4, o2 = some u4 → ((o3 = none → Post (.inl none) σ) ∧ (∀ u5, o3 = some u5 → u1 % 32 = 4 ∧ (((sI σ u1 9) ≤ 0 → (wp_X1_workAt_45 this u1 a1 u4 σ Post)) ∧ (¬ (sI σ u1 9) ≤ 0 → u5 % 32 = 7 ∧ wp_X7_isOnShift u5 a1 σ (KI (fun x7 σ6 => ((x7 = 0 → (wp_X1_workAt_45 this u1 a1 u4 σ6 Post)) ∧ (¬ x7 = 0 → this % 32 = 1 ∧ wp_X1_workHour this (some u1) (some u4) (some u5) σ6 (KV (fun σ8 => (wp_X1_workAt_45 this u1 a1 u4 σ8 Post)) (fun E σ8 => Post (.inr E) σ8))))) (fun E σ6 => Post (.inr E) σ6))))))))
set_option maxRecDepth 100000 in
set_option maxHeartbeats 4000000 in
theorem ct_X1_workAt {l : Launch} (hl : l.stackTraces = false) {this : Nat} {a0 : Option Nat} {a1 : Int32} {σ : Sg} {Post : Rs → Sg → Prop} (h : wp_X1_workAt this a0 a1 σ Post) : Ct l yX1_workAt (.code yX1_workAt cX1_workAt 5 none) 5 110 0 0 [.ref this, va_rf a0, .int a1] σ Post := by
  refine Ct_of [some (.ref this), some (va_rf a0), some (.int a1), none, none] hl (by decide +kernel) rfl (fun ad => by cases a0 <;> rfl) (fun ad => by cases a0 <;> exact Nat.le_of_ble_eq_true rfl) (fun v hv => mem_lo hv rfl) ?_
  intro G hG
  unfold wp_X1_workAt at h
  refine V_aload_n (v := va_rf a0) hG dX1_workAt_0 (isRef_rf _) rfl ?_
  obtain ⟨u1, he, h⟩ := h
  subst he
  obtain ⟨ht, h⟩ := h
  refine V_getPv hG dX1_workAt_1 fl_X1_61 rfl ht (fun o2 ho => ?_)
  replace h := h o2 ho
  refine V_astore_n hG dX1_workAt_4 (isRef_rf _) (Nat.le_of_ble_eq_true rfl) (hpV rfl rfl) ?_
  refine V_aload_n (v := .ref u1) hG dX1_workAt_5 rfl rfl ?_
  obtain ⟨ht, h⟩ := h
  refine V_getPv hG dX1_workAt_6 fl_X1_65 rfl ht (fun o3 ho => ?_)
  replace h := h o3 ho
  refine V_astore hG dX1_workAt_9 (isRef_rf _) (Nat.le_of_ble_eq_true rfl) (hpV rfl (cat_rf _)) ?_
  refine V_aload_n (v := va_rf o2) hG dX1_workAt_11 (isRef_rf _) rfl ?_
  refine V_ifnull (o := o2) (tgt := 20) hG dX1_workAt_12 (by decide) (fun c => ?_) (fun c => ?_)
  · replace h := h.1 c
    subst c
    exact V_vret hG dX1_workAt_20 (by first | exact Nat.le_of_ble_eq_true rfl | omega | (dsimp only; omega)) (by first | exact Nat.le_of_ble_eq_true rfl | omega | (dsimp only; omega)) h
  · obtain ⟨u4, c⟩ := c
    replace h := h.2 u4 c
    subst c
    refine V_aload (v := va_rf o3) hG dX1_workAt_15 (isRef_rf _) rfl ?_
    refine V_ifnonnull (o := o3) (tgt := 21) hG dX1_workAt_17 (by decide) (fun c => ?_) (fun c => ?_)
    · obtain ⟨u5, c⟩ := c
      replace h := h.2 u5 c
      subst c
      refine V_aload_n (v := .ref u1) hG dX1_workAt_21 rfl rfl ?_
      obtain ⟨ht, h⟩ := h
      refine V_getI hG dX1_workAt_22 fl_X1_69 rfl ht ?_
      refine V_if_le (tgt := 45) hG dX1_workAt_25 (by decide) (fun c => ?_) (fun c => ?_)
      · replace h := h.1 c
        refine V_forget (lo' := [some (.ref this), some (.ref u1), some (.int a1), some (.ref u4), none]) ⟨rfl, ⟨rfl, ⟨rfl, ⟨rfl, trivial⟩⟩⟩⟩ ?_
        refine V_widen (k' := 0) (n' := 0) (by first | exact Nat.le_of_ble_eq_true rfl | omega | (dsimp only; omega)) (by first | exact Nat.le_of_ble_eq_true rfl | omega | (dsimp only; omega)) ?_
        exact wv_X1_workAt_45 hl hG  _ _ _ _ _ h
      · replace h := h.2 c
        refine V_aload (v := .ref u5) hG dX1_workAt_28 rfl rfl ?_
        refine V_iload_n hG dX1_workAt_30 rfl ?_
        obtain ⟨ht, h⟩ := h
        refine V_cVI _ _ hG dX1_workAt_31 (ct_X7_isOnShift hl h) mv_X7_isOnShift ml_X1_72 ht rfl rfl rfl rfl (by first | exact Nat.le_of_ble_eq_true rfl | (simp only [List.map_cons, List.map_nil, List.sum_cons, List.sum_nil, cat_rf]; exact Nat.le_of_ble_eq_true rfl)) (Nat.le_of_ble_eq_true rfl) (Nat.le_of_ble_eq_true rfl) (by first | exact Nat.le_of_ble_eq_true rfl | omega | (dsimp only; omega)) (by first | exact Nat.le_of_ble_eq_true rfl | omega | (dsimp only; omega)) ?_ (fun x7 σ6 h9 => ?_)
        · exact fun E σ6 hx => VX_out hG (by first | exact Nat.le_of_ble_eq_true rfl | omega | (dsimp only; omega)) (by first | exact Nat.le_of_ble_eq_true rfl | omega | (dsimp only; omega)) hx
        · replace h := h9
          clear h9
          refine V_if_eq (tgt := 45) hG dX1_workAt_34 (by decide) (fun c => ?_) (fun c => ?_)
          · replace h := h.1 c
            refine V_forget (lo' := [some (.ref this), some (.ref u1), some (.int a1), some (.ref u4), none]) ⟨rfl, ⟨rfl, ⟨rfl, ⟨rfl, trivial⟩⟩⟩⟩ ?_
            refine V_widen (k' := 0) (n' := 0) (by first | exact Nat.le_of_ble_eq_true rfl | omega | (dsimp only; omega)) (by first | exact Nat.le_of_ble_eq_true rfl | omega | (dsimp only; omega)) ?_
            exact wv_X1_workAt_45 hl hG  _ _ _ _ _ h
          · replace h := h.2 c
            refine V_aload_n (v := .ref this) hG dX1_workAt_37 rfl rfl ?_
            refine V_aload_n (v := .ref u1) hG dX1_workAt_38 rfl rfl ?_
            refine V_aload_n (v := .ref u4) hG dX1_workAt_39 rfl rfl ?_
            refine V_aload (v := .ref u5) hG dX1_workAt_40 rfl rfl ?_
            obtain ⟨ht, h⟩ := h
            refine V_cVV _ _ hG dX1_workAt_42 (ct_X1_workHour hl h) mv_X1_workHour ml_X1_76 ht rfl rfl rfl rfl (by first | exact Nat.le_of_ble_eq_true rfl | (simp only [List.map_cons, List.map_nil, List.sum_cons, List.sum_nil, cat_rf]; exact Nat.le_of_ble_eq_true rfl)) (Nat.le_of_ble_eq_true rfl) (Nat.le_of_ble_eq_true rfl) (by first | exact Nat.le_of_ble_eq_true rfl | omega | (dsimp only; omega)) (by first | exact Nat.le_of_ble_eq_true rfl | omega | (dsimp only; omega)) ?_ (fun σ8 h9 => ?_)
            · exact fun E σ8 hx => VX_out hG (by first | exact Nat.le_of_ble_eq_true rfl | omega | (dsimp only; omega)) (by first | exact Nat.le_of_ble_eq_true rfl | omega | (dsimp only; omega)) hx
            · replace h := h9
              clear h9
              refine V_forget (lo' := [some (.ref this), some (.ref u1), some (.int a1), some (.ref u4), none]) ⟨rfl, ⟨rfl, ⟨rfl, ⟨rfl, trivial⟩⟩⟩⟩ ?_
              refine V_widen (k' := 0) (n' := 0) (by first | exact Nat.le_of_ble_eq_true rfl | omega | (dsimp only; omega)) (by first | exact Nat.le_of_ble_eq_true rfl | omega | (dsimp only; omega)) ?_
              exact wv_X1_workAt_45 hl hG  _ _ _ _ _ h
    · replace h := h.1 c
      subst c
      exact V_vret hG dX1_workAt_20 (by first | exact Nat.le_of_ble_eq_true rfl | omega | (dsimp only; omega)) (by first | exact Nat.le_of_ble_eq_true rfl | omega | (dsimp only; omega)) h
def wp_X4_beginRepair (this : Nat) (σ : Sg) (Post : Rs → Sg → Prop) : Prop := this % 32 = 4 ∧ this % 32 = 4 ∧ this % 32 = 4 ∧ Post (.inl none) (wI (wI σ this 13 (2 : Int32)) this 14 (sI (wI σ this 13 (2 : Int32)) this 5))
set_option maxRecDepth 100000 in
set_option maxHeartbeats 4000000 in
theorem ct_X4_beginRepair {l : Launch} (hl : l.stackTraces = false) {this : Nat} {σ : Sg} {Post : Rs → Sg → Prop} (h : wp_X4_beginRepair this σ Post) : Ct l yX4_beginRepair (.code yX4_beginRepair cX4_beginRepair 1 none) 0 0 0 0 [.ref this] σ Post := by
  refine Ct_of [some (.ref this)] hl (by decide +kernel) rfl (fun ad => by rfl) (fun ad => by exact Nat.le_of_ble_eq_true rfl) (fun v hv => mem_lo hv rfl) ?_
  intro G hG
  unfold wp_X4_beginRepair at h
  refine V_aload_n (v := .ref this) hG dX4_beginRepair_0 rfl rfl ?_
  refine V_iconst (v := 2) hG (by decide) dX4_beginRepair_1 ?_
  obtain ⟨ht, h⟩ := h
  refine V_putI hG dX4_beginRepair_2 fl_X4_9 rfl (fun e => absurd e (by decide)) rfl ht ?_
  refine V_aload_n (v := .ref this) hG dX4_beginRepair_5 rfl rfl ?_
  refine V_aload_n (v := .ref this) hG dX4_beginRepair_6 rfl rfl ?_
  obtain ⟨ht, h⟩ := h
  refine V_getI hG dX4_beginRepair_7 fl_X4_30 rfl ht ?_
  obtain ⟨ht, h⟩ := h
  refine V_putI hG dX4_beginRepair_10 fl_X4_96 rfl (fun e => absurd e (by decide)) rfl ht ?_
  exact V_vret hG dX4_beginRepair_13 (by first | exact Nat.le_of_ble_eq_true rfl | omega | (dsimp only; omega)) (by first | exact Nat.le_of_ble_eq_true rfl | omega | (dsimp only; omega)) h
def wp_X2_free (this : Nat) (σ : Sg) (Post : Rs → Sg → Prop) : Prop := this % 32 = 2 ∧ this % 32 = 2 ∧ this % 32 = 2 ∧ Post (.inl (some (.int (((sI σ this 10) - (sI σ this 11)) - (sI σ this 12))))) σ
set_option maxRecDepth 100000 in
set_option maxHeartbeats 4000000 in
theorem ct_X2_free {l : Launch} (hl : l.stackTraces = false) {this : Nat} {σ : Sg} {Post : Rs → Sg → Prop} (h : wp_X2_free this σ Post) : Ct l yX2_free (.code yX2_free cX2_free 1 (some .int)) 0 0 0 0 [.ref this] σ Post := by
  refine Ct_of [some (.ref this)] hl (by decide +kernel) rfl (fun ad => by rfl) (fun ad => by exact Nat.le_of_ble_eq_true rfl) (fun v hv => mem_lo hv rfl) ?_
  intro G hG
  unfold wp_X2_free at h
  refine V_aload_n (v := .ref this) hG dX2_free_0 rfl rfl ?_
  obtain ⟨ht, h⟩ := h
  refine V_getI hG dX2_free_1 fl_X2_52 rfl ht ?_
  refine V_aload_n (v := .ref this) hG dX2_free_4 rfl rfl ?_
  obtain ⟨ht, h⟩ := h
  refine V_getI hG dX2_free_5 fl_X2_55 rfl ht ?_
  refine V_isub hG dX2_free_8 ?_
  refine V_aload_n (v := .ref this) hG dX2_free_9 rfl rfl ?_
  obtain ⟨ht, h⟩ := h
  refine V_getI hG dX2_free_10 fl_X2_58 rfl ht ?_
  refine V_isub hG dX2_free_13 ?_
  exact V_iret hG dX2_free_14 (by first | exact Nat.le_of_ble_eq_true rfl | omega | (dsimp only; omega)) (by first | exact Nat.le_of_ble_eq_true rfl | omega | (dsimp only; omega)) h
def wp_X8_take_76 (K8 : Nat → Option Nat → Int32 → Int32 → Int32 → Int32 → Sg → Prop) (this : Nat) (v1 : Option Nat) (v2 : Int32) (v3 : Int32) (v4 : Int32) (v5 : Int32) (σ : Sg) (Post : Rs → Sg → Prop) : Prop := (K8 this v1 v2 v3 v4 (v5 + 1) σ)
set_option maxRecDepth 100000 in
set_option maxHeartbeats 4000000 in
theorem wv_X8_take_76 {L9 : Launch} {G : Cx} {Post : Rs → Sg → Prop} (hl : L9.stackTraces = false) (hG : CX L9 G yX8_take cX8_take 8 (some .int) [] { frames := 1, cells := 0, slots := 0, locals := 22 }) {K8 : Nat → Option Nat → Int32 → Int32 → Int32 → Int32 → Sg → Prop} (hK8 : ∀ (this : Nat) (v1 : Option Nat) (v2 : Int32) (v3 : Int32) (v4 : Int32) (v5 : Int32) (ζ : Sg), K8 this v1 v2 v3 v4 v5 ζ → V G (QM G 0 0 Post) 8 [some (.ref this), some (va_rf v1), some (.int v2), some (.int v3), some (.int v4), some (.int v5), none, none] [] ζ 0 0) : ∀ (this : Nat) (v1 : Option Nat) (v2 : Int32) (v3 : Int32) (v4 : Int32) (v5 : Int32) (σ : Sg), wp_X8_take_76 K8 this v1 v2 v3 v4 v5 σ Post → V G (QM G 0 0 Post) 76 [some (.ref this), some (va_rf v1), some (.int v2), some (.int v3), some (.int v4), some (.int v5), none, none] [] σ 0 0 := by
  intro this v1 v2 v3 v4 v5 σ h
  unfold wp_X8_take_76 at h
  refine V_iincv (c := 1) hG dX8_take_76 rfl (by decide) (hpV rfl rfl) ?_
  refine V_goto (tgt := 8) hG dX8_take_79 (by decide) ?_
  refine V_forget (lo' := [some (.ref this), some (va_rf v1), some (.int v2), some (.int v3), some (.int v4), some (.int (v5 + 1)), none, none]) ⟨rfl, ⟨rfl, ⟨rfl, ⟨rfl, ⟨rfl, ⟨rfl, trivial⟩⟩⟩⟩⟩⟩ ?_
  exact hK8 _ _ _ _ _ _ _ h
def wp_X8_take_82  (v1 : Option Nat) (v2 : Int32) (v3 : Int32) (v4 : Int32) (σ : Sg) (Post : Rs → Sg → Prop) : Prop := ∃ u1, v1 = some u1 ∧ u1 % 32 = 2 ∧ u1 % 32 = 2 ∧ Post (.inl (some (.int v4))) (wI σ u1 10 ((sI σ u1 10) - (v2 - v3)))
set_option maxRecDepth 100000 in
set_option maxHeartbeats 4000000 in
theorem wv_X8_take_82 {L9 : Launch} {G : Cx} {Post : Rs → Sg → Prop} (hl : L9.stackTraces = false) (hG : CX L9 G yX8_take cX8_take 8 (some .int) [] { frames := 1, cells := 0, slots := 0, locals := 22 })   : ∀ (v1 : Option Nat) (v2 : Int32) (v3 : Int32) (v4 : Int32) (σ : Sg), wp_X8_take_82 v1 v2 v3 v4 σ Post → V G (QM G 0 0 Post) 82 [none, some (va_rf v1), some (.int v2), some (.int v3), some (.int v4), none, none, none] [] σ 0 0 := by
  intro v1 v2 v3 v4 σ h
  unfold wp_X8_take_82 at h
  refine V_aload_n (v := va_rf v1) hG dX8_take_82 (isRef_rf _) rfl ?_
  refine V_dup (v := va_rf v1) hG (cat_rf _) dX8_take_83 ?_
  obtain ⟨u1, he, h⟩ := h
  subst he
  obtain ⟨ht, h⟩ := h
  refine V_getI hG dX8_take_84 fl_X8_75 rfl ht ?_
  refine V_iload_n hG dX8_take_87 rfl ?_
  refine V_iload_n hG dX8_take_88 rfl ?_
  refine V_isub hG dX8_take_89 ?_
  refine V_isub hG dX8_take_90 ?_
  obtain ⟨ht, h⟩ := h
  refine V_putI hG dX8_take_91 fl_X8_75 rfl (fun e => absurd e (by decide)) rfl ht ?_
  refine V_iload hG dX8_take_94 rfl ?_
  exact V_iret hG dX8_take_96 (by first | exact Nat.le_of_ble_eq_true rfl | omega | (dsimp only; omega)) (by first | exact Nat.le_of_ble_eq_true rfl | omega | (dsimp only; omega)) h
def wp_X8_take_8  : Nat → Nat → Option Nat → Int32 → Int32 → Int32 → Int32 → Sg → (Rs → Sg → Prop) → Prop
  | 0, _, _, _, _, _, _, _, _ => False
  | f + 1, this, v1, v2, v3, v4, v5, σ, Post => this % 32 = 8 ∧ (((sI σ this 1) ≤ v5 → (wp_X8_take_82 v1 v2 v3 v4 σ Post)) ∧ (¬ (sI σ this 1) ≤ v5 → ((v3 ≤ 0 → (wp_X8_take_82 v1 v2 v3 v4 σ Post)) ∧ (¬ v3 ≤ 0 → this % 32 = 8 ∧ ∀ o1, o1 = sP σ this 0 → ∃ u2, o1 = some u2 ∧ isRow u2 ∧ ∃ j3, v5 = nI j3 ∧ j3 < aln u2 ∧ ∀ o4, o4 = sP σ u2 j3 → ∃ u5, o4 = some u5 ∧ u5 % 32 = 0 ∧ ∀ o6, o6 = sP σ u5 1 → ((¬ o6 = v1 → (wp_X8_take_76 (fun z0 z1 z2 z3 z4 z5 ζ => wp_X8_take_8 f z0 z1 z2 z3 z4 z5 ζ Post) this v1 v2 v3 v4 v5 σ Post)) ∧ (o6 = v1 → u5 % 32 = 0 ∧ ((¬ (sI σ u5 4) = (3 : Int32) → (wp_X8_take_76 (fun z0 z1 z2 z3 z4 z5 ζ => wp_X8_take_8 f z0 z1 z2 z3 z4 z5 ζ Post) this v1 v2 v3 v4 v5 σ Post)) ∧ ((sI σ u5 4) = (3 : Int32) → u5 % 32 = 0 ∧ u5 % 32 = 0 ∧ wp_X0_giveUp u5 (if (sI σ u5 2) < v3 then (sI σ u5 2) else v3) σ (KI (fun x8 σ7 => (wp_X8_take_76 (fun z0 z1 z2 z3 z4 z5 ζ => wp_X8_take_8 f z0 z1 z2 z3 z4 z5 ζ Post) this v1 v2 (v3 - (if (sI σ u5 2) < v3 then (sI σ u5 2) else v3)) (v4 + x8) v5 σ7 Post)) (fun E σ7 => Post (.inr E) σ7))))))))))
set_option maxRecDepth 100000 in
set_option maxHeartbeats 4000000 in
theorem wv_X8_take_8 {L9 : Launch} {G : Cx} {Post : Rs → Sg → Prop} (hl : L9.stackTraces = false) (hG : CX L9 G yX8_take cX8_take 8 (some .int) [] { frames := 1, cells := 0, slots := 0, locals := 22 })   : ∀ (f : Nat) (this : Nat) (v1 : Option Nat) (v2 : Int32) (v3 : Int32) (v4 : Int32) (v5 : Int32) (σ : Sg), wp_X8_take_8 f this v1 v2 v3 v4 v5 σ Post → V G (QM G 0 0 Post) 8 [some (.ref this), some (va_rf v1), some (.int v2), some (.int v3), some (.int v4), some (.int v5), none, none] [] σ 0 0 := by
  intro f
  induction f with
  | zero => intro _ _ _ _ _ _ σ h; exact h.elim
  | succ f ih =>
    intro this v1 v2 v3 v4 v5 σ h
    refine V_iload hG dX8_take_8 rfl ?_
    refine V_aload_n (v := .ref this) hG dX8_take_10 rfl rfl ?_
    obtain ⟨ht, h⟩ := h
    refine V_getI hG dX8_take_11 fl_X8_27 rfl ht ?_
    refine V_icmp_ge (tgt := 82) hG dX8_take_14 (by decide) (fun c => ?_) (fun c => ?_)
    · replace h := h.1 c
      refine V_forget (lo' := [none, some (va_rf v1), some (.int v2), some (.int v3), some (.int v4), none, none, none]) ⟨rfl, ⟨rfl, ⟨rfl, ⟨rfl, trivial⟩⟩⟩⟩ ?_
      refine V_widen (k' := 0) (n' := 0) (by first | exact Nat.le_of_ble_eq_true rfl | omega | (dsimp only; omega)) (by first | exact Nat.le_of_ble_eq_true rfl | omega | (dsimp only; omega)) ?_
      exact wv_X8_take_82 hl hG  _ _ _ _ _ h
    · replace h := h.2 c
      refine V_iload_n hG dX8_take_17 rfl ?_
      refine V_if_le (tgt := 82) hG dX8_take_18 (by decide) (fun c => ?_) (fun c => ?_)
      · replace h := h.1 c
        refine V_forget (lo' := [none, some (va_rf v1), some (.int v2), some (.int v3), some (.int v4), none, none, none]) ⟨rfl, ⟨rfl, ⟨rfl, ⟨rfl, trivial⟩⟩⟩⟩ ?_
        refine V_widen (k' := 0) (n' := 0) (by first | exact Nat.le_of_ble_eq_true rfl | omega | (dsimp only; omega)) (by first | exact Nat.le_of_ble_eq_true rfl | omega | (dsimp only; omega)) ?_
        exact wv_X8_take_82 hl hG  _ _ _ _ _ h
      · replace h := h.2 c
        refine V_aload_n (v := .ref this) hG dX8_take_21 rfl rfl ?_
        obtain ⟨ht, h⟩ := h
        refine V_getPv hG dX8_take_22 fl_X8_11 rfl ht (fun o1 ho => ?_)
        replace h := h o1 ho
        refine V_iload hG dX8_take_25 rfl ?_
        obtain ⟨u2, he, h⟩ := h
        subst he
        obtain ⟨ha, j3, hi, hj, h⟩ := h
        refine V_aaldv hG dX8_take_27 ha hi hj (fun o4 ho => ?_)
        replace h := h o4 ho
        refine V_astore hG dX8_take_28 (isRef_rf _) (Nat.le_of_ble_eq_true rfl) (hpV rfl rfl) ?_
        refine V_aload (v := va_rf o4) hG dX8_take_30 (isRef_rf _) rfl ?_
        obtain ⟨u5, he, h⟩ := h
        subst he
        obtain ⟨ht, h⟩ := h
        refine V_getPv hG dX8_take_32 fl_X8_71 rfl ht (fun o6 ho => ?_)
        replace h := h o6 ho
        refine V_aload_n (v := va_rf v1) hG dX8_take_35 (isRef_rf _) rfl ?_
        refine V_acmp_ne (a := o6) (b := v1) (tgt := 76) hG dX8_take_36 (by decide) (fun c => ?_) (fun c => ?_)
        · replace h := h.1 c
          refine V_forget (lo' := [some (.ref this), some (va_rf v1), some (.int v2), some (.int v3), some (.int v4), some (.int v5), none, none]) ⟨rfl, ⟨rfl, ⟨rfl, ⟨rfl, ⟨rfl, ⟨rfl, trivial⟩⟩⟩⟩⟩⟩ ?_
          refine V_widen (k' := 0) (n' := 0) (by first | exact Nat.le_of_ble_eq_true rfl | omega | (dsimp only; omega)) (by first | exact Nat.le_of_ble_eq_true rfl | omega | (dsimp only; omega)) ?_
          exact wv_X8_take_76 hl hG (fun z0 z1 z2 z3 z4 z5 ζ hz => ih z0 z1 z2 z3 z4 z5 ζ hz) _ _ _ _ _ _ _ h
        · replace h := h.2 c
          refine V_aload (v := .ref u5) hG dX8_take_39 rfl rfl ?_
          obtain ⟨ht, h⟩ := h
          refine V_getI hG dX8_take_41 fl_X8_68 rfl ht ?_
          refine V_iconst (v := 3) hG (by decide) dX8_take_44 ?_
          refine V_icmp_ne (tgt := 76) hG dX8_take_45 (by decide) (fun c => ?_) (fun c => ?_)
          · replace h := h.1 c
            refine V_forget (lo' := [some (.ref this), some (va_rf v1), some (.int v2), some (.int v3), some (.int v4), some (.int v5), none, none]) ⟨rfl, ⟨rfl, ⟨rfl, ⟨rfl, ⟨rfl, ⟨rfl, trivial⟩⟩⟩⟩⟩⟩ ?_
            refine V_widen (k' := 0) (n' := 0) (by first | exact Nat.le_of_ble_eq_true rfl | omega | (dsimp only; omega)) (by first | exact Nat.le_of_ble_eq_true rfl | omega | (dsimp only; omega)) ?_
            exact wv_X8_take_76 hl hG (fun z0 z1 z2 z3 z4 z5 ζ hz => ih z0 z1 z2 z3 z4 z5 ζ hz) _ _ _ _ _ _ _ h
          · replace h := h.2 c
            refine V_iload_n hG dX8_take_48 rfl ?_
            refine V_aload (v := .ref u5) hG dX8_take_49 rfl rfl ?_
            obtain ⟨ht, h⟩ := h
            refine V_getI hG dX8_take_51 fl_X8_78 rfl ht ?_
            refine V_mmin hG dX8_take_54 ml_X8_91 mm_min.1 mm_min.2.1 mm_min.2.2 (Nat.le_of_ble_eq_true rfl) (by first | exact Nat.le_of_ble_eq_true rfl | (simp only [List.map_cons, List.map_nil, List.sum_cons, List.sum_nil, cat_rf]; exact Nat.le_of_ble_eq_true rfl)) (Nat.le_of_ble_eq_true rfl) (Nat.le_of_ble_eq_true rfl) ?_
            refine V_istore hG dX8_take_57 (Nat.le_of_ble_eq_true rfl) (hpV rfl rfl) ?_
            refine V_iload hG dX8_take_59 rfl ?_
            refine V_aload (v := .ref u5) hG dX8_take_61 rfl rfl ?_
            refine V_iload hG dX8_take_63 rfl ?_
            obtain ⟨ht, h⟩ := h
            refine V_cVI _ _ hG dX8_take_65 (ct_X0_giveUp hl h) mv_X0_giveUp ml_X8_97 ht rfl rfl rfl rfl (by first | exact Nat.le_of_ble_eq_true rfl | (simp only [List.map_cons, List.map_nil, List.sum_cons, List.sum_nil, cat_rf]; exact Nat.le_of_ble_eq_true rfl)) (Nat.le_of_ble_eq_true rfl) (Nat.le_of_ble_eq_true rfl) (by first | exact Nat.le_of_ble_eq_true rfl | omega | (dsimp only; omega)) (by first | exact Nat.le_of_ble_eq_true rfl | omega | (dsimp only; omega)) ?_ (fun x8 σ7 h9 => ?_)
            · exact fun E σ7 hx => VX_out hG (by first | exact Nat.le_of_ble_eq_true rfl | omega | (dsimp only; omega)) (by first | exact Nat.le_of_ble_eq_true rfl | omega | (dsimp only; omega)) hx
            · replace h := h9
              clear h9
              refine V_iadd hG dX8_take_68 ?_
              refine V_istore hG dX8_take_69 (Nat.le_of_ble_eq_true rfl) (hpV rfl rfl) ?_
              refine V_iload_n hG dX8_take_71 rfl ?_
              refine V_iload hG dX8_take_72 rfl ?_
              refine V_isub hG dX8_take_74 ?_
              refine V_istore_n hG dX8_take_75 (Nat.le_of_ble_eq_true rfl) (hpV rfl rfl) ?_
              refine V_forget (lo' := [some (.ref this), some (va_rf v1), some (.int v2), some (.int (v3 - (if (sI σ u5 2) < v3 then (sI σ u5 2) else v3))), some (.int (v4 + x8)), some (.int v5), none, none]) ⟨rfl, ⟨rfl, ⟨rfl, ⟨rfl, ⟨rfl, ⟨rfl, trivial⟩⟩⟩⟩⟩⟩ ?_
              refine V_widen (k' := 0) (n' := 0) (by first | exact Nat.le_of_ble_eq_true rfl | omega | (dsimp only; omega)) (by first | exact Nat.le_of_ble_eq_true rfl | omega | (dsimp only; omega)) ?_
              exact wv_X8_take_76 hl hG (fun z0 z1 z2 z3 z4 z5 ζ hz => ih z0 z1 z2 z3 z4 z5 ζ hz) _ _ _ _ _ _ _ h
def wp_X8_take (this : Nat) (a0 : Option Nat) (a1 : Int32) (σ : Sg) (Post : Rs → Sg → Prop) : Prop := (∃ g, wp_X8_take_8 g this a0 a1 a1 (0 : Int32) (0 : Int32) σ Post)
set_option maxRecDepth 100000 in
set_option maxHeartbeats 4000000 in
theorem ct_X8_take {l : Launch} (hl : l.stackTraces = false) {this : Nat} {a0 : Option Nat} {a1 : Int32} {σ : Sg} {Post : Rs → Sg → Prop} (h : wp_X8_take this a0 a1 σ Post) : Ct l yX8_take (.code yX8_take cX8_take 8 (some .int)) 1 22 0 0 [.ref this, va_rf a0, .int a1] σ Post := by
  refine Ct_of [some (.ref this), some (va_rf a0), some (.int a1), none, none, none, none, none] hl (by decide +kernel) rfl (fun ad => by cases a0 <;> rfl) (fun ad => by cases a0 <;> exact Nat.le_of_ble_eq_true rfl) (fun v hv => mem_lo hv rfl) ?_
  intro G hG
  unfold wp_X8_take at h
  refine V_iload_n hG dX8_take_0 rfl ?_
  refine V_istore_n hG dX8_take_1 (Nat.le_of_ble_eq_true rfl) (hpV rfl rfl) ?_
  refine V_iconst (v := 0) hG (by decide) dX8_take_2 ?_
  refine V_istore hG dX8_take_3 (Nat.le_of_ble_eq_true rfl) (hpV rfl rfl) ?_
  refine V_iconst (v := 0) hG (by decide) dX8_take_5 ?_
  refine V_istore hG dX8_take_6 (Nat.le_of_ble_eq_true rfl) (hpV rfl rfl) ?_
  refine V_forget (lo' := [some (.ref this), some (va_rf a0), some (.int a1), some (.int a1), some (.int (0 : Int32)), some (.int (0 : Int32)), none, none]) ⟨rfl, ⟨rfl, ⟨rfl, ⟨rfl, ⟨rfl, ⟨rfl, trivial⟩⟩⟩⟩⟩⟩ ?_
  obtain ⟨g, h⟩ := h
  refine V_widen (k' := 0) (n' := 0) (by first | exact Nat.le_of_ble_eq_true rfl | omega | (dsimp only; omega)) (by first | exact Nat.le_of_ble_eq_true rfl | omega | (dsimp only; omega)) ?_
  exact wv_X8_take_8 hl hG  g _ _ _ _ _ _ _ h
def wp_X4_repairHour (this : Nat) (σ : Sg) (Post : Rs → Sg → Prop) : Prop := this % 32 = 4 ∧ this % 32 = 4 ∧ this % 32 = 4 ∧ ((0 < (sI (wI σ this 14 ((sI σ this 14) - (1 : Int32))) this 14) → Post (.inl none) (wI σ this 14 ((sI σ this 14) - (1 : Int32)))) ∧ (¬ 0 < (sI (wI σ this 14 ((sI σ this 14) - (1 : Int32))) this 14) → this % 32 = 4 ∧ this % 32 = 4 ∧ Post (.inl none) (wI (wI (wI σ this 14 ((sI σ this 14) - (1 : Int32))) this 11 (0 : Int32)) this 13 (0 : Int32))))
set_option maxRecDepth 100000 in
set_option maxHeartbeats 4000000 in
theorem ct_X4_repairHour {l : Launch} (hl : l.stackTraces = false) {this : Nat} {σ : Sg} {Post : Rs → Sg → Prop} (h : wp_X4_repairHour this σ Post) : Ct l yX4_repairHour (.code yX4_repairHour cX4_repairHour 1 none) 0 0 0 0 [.ref this] σ Post := by
  refine Ct_of [some (.ref this)] hl (by decide +kernel) rfl (fun ad => by rfl) (fun ad => by exact Nat.le_of_ble_eq_true rfl) (fun v hv => mem_lo hv rfl) ?_
  intro G hG
  unfold wp_X4_repairHour at h
  refine V_aload_n (v := .ref this) hG dX4_repairHour_0 rfl rfl ?_
  refine V_dup (v := .ref this) hG rfl dX4_repairHour_1 ?_
  obtain ⟨ht, h⟩ := h
  refine V_getI hG dX4_repairHour_2 fl_X4_96 rfl ht ?_
  refine V_iconst (v := 1) hG (by decide) dX4_repairHour_5 ?_
  refine V_isub hG dX4_repairHour_6 ?_
  obtain ⟨ht, h⟩ := h
  refine V_putI hG dX4_repairHour_7 fl_X4_96 rfl (fun e => absurd e (by decide)) rfl ht ?_
  refine V_aload_n (v := .ref this) hG dX4_repairHour_10 rfl rfl ?_
  obtain ⟨ht, h⟩ := h
  refine V_getI hG dX4_repairHour_11 fl_X4_96 rfl ht ?_
  refine V_if_gt (tgt := 27) hG dX4_repairHour_14 (by decide) (fun c => ?_) (fun c => ?_)
  · replace h := h.1 c
    exact V_vret hG dX4_repairHour_27 (by first | exact Nat.le_of_ble_eq_true rfl | omega | (dsimp only; omega)) (by first | exact Nat.le_of_ble_eq_true rfl | omega | (dsimp only; omega)) h
  · replace h := h.2 c
    refine V_aload_n (v := .ref this) hG dX4_repairHour_17 rfl rfl ?_
    refine V_iconst (v := 0) hG (by decide) dX4_repairHour_18 ?_
    obtain ⟨ht, h⟩ := h
    refine V_putI hG dX4_repairHour_19 fl_X4_89 rfl (fun e => absurd e (by decide)) rfl ht ?_
    refine V_aload_n (v := .ref this) hG dX4_repairHour_22 rfl rfl ?_
    refine V_iconst (v := 0) hG (by decide) dX4_repairHour_23 ?_
    obtain ⟨ht, h⟩ := h
    refine V_putI hG dX4_repairHour_24 fl_X4_9 rfl (fun e => absurd e (by decide)) rfl ht ?_
    exact V_vret hG dX4_repairHour_27 (by first | exact Nat.le_of_ble_eq_true rfl | omega | (dsimp only; omega)) (by first | exact Nat.le_of_ble_eq_true rfl | omega | (dsimp only; omega)) h
def wp_X1_repairAt (this : Nat) (a0 : Option Nat) (σ : Sg) (Post : Rs → Sg → Prop) : Prop := ∃ u1, a0 = some u1 ∧ u1 % 32 = 4 ∧ ((¬ (sI σ u1 13) = (2 : Int32) → u1 % 32 = 4 ∧ ((¬ (sI σ u1 13) = (1 : Int32) → Post (.inl none) σ) ∧ ((sI σ u1 13) = (1 : Int32) → u1 % 32 = 4 ∧ ∀ o2, o2 = sP σ u1 6 → ((o2 = none → u1 % 32 = 4 ∧ wp_X4_beginRepair u1 σ (KV (fun σ4 => Post (.inl none) σ4) (fun E σ4 => Post (.inr E) σ4))) ∧ (∀ u3, o2 = some u3 → u1 % 32 = 4 ∧ ∀ o5, o5 = sP σ u1 6 → ∃ u6, o5 = some u6 ∧ u6 % 32 = 2 ∧ wp_X2_free u6 σ (KI (fun x8 σ7 => ((x8 < (1 : Int32) → Post (.inl none) σ7) ∧ (¬ x8 < (1 : Int32) → this % 32 = 1 ∧ this % 32 = 1 ∧ ∀ o9, o9 = sP σ7 this 0 → u1 % 32 = 4 ∧ ∀ o10, o10 = sP σ7 u1 6 → ∃ u11, o9 = some u11 ∧ u11 % 32 = 8 ∧ wp_X8_take u11 o10 (1 : Int32) σ7 (KI (fun x13 σ12 => this % 32 = 1 ∧ u1 % 32 = 4 ∧ wp_X4_beginRepair u1 (wI σ12 this 6 ((sI σ7 this 6) + x13)) (KV (fun σ14 => Post (.inl none) σ14) (fun E σ14 => Post (.inr E) σ14))) (fun E σ12 => Post (.inr E) σ12))))) (fun E σ7 => Post (.inr E) σ7))))))) ∧ ((sI σ u1 13) = (2 : Int32) → u1 % 32 = 4 ∧ wp_X4_repairHour u1 σ (KV (fun σ15 => Post (.inl none) σ15) (fun E σ15 => Post (.inr E) σ15))))
set_option maxRecDepth 100000 in
set_option maxHeartbeats 4000000 in
theorem ct_X1_repairAt {l : Launch} (hl : l.stackTraces = false) {this : Nat} {a0 : Option Nat} {σ : Sg} {Post : Rs → Sg → Prop} (h : wp_X1_repairAt this a0 σ Post) : Ct l yX1_repairAt (.code yX1_repairAt cX1_repairAt 2 none) 2 49 0 0 [.ref this, va_rf a0] σ Post := by
  refine Ct_of [some (.ref this), some (va_rf a0)] hl (by decide +kernel) rfl (fun ad => by cases a0 <;> rfl) (fun ad => by cases a0 <;> exact Nat.le_of_ble_eq_true rfl) (fun v hv => mem_lo hv rfl) ?_
  intro G hG
  unfold wp_X1_repairAt at h
  refine V_aload_n (v := va_rf a0) hG dX1_repairAt_0 (isRef_rf _) rfl ?_
  obtain ⟨u1, he, h⟩ := h
  subst he
  obtain ⟨ht, h⟩ := h
  refine V_getI hG dX1_repairAt_1 fl_X1_164 rfl ht ?_
  refine V_iconst (v := 2) hG (by decide) dX1_repairAt_4 ?_
  refine V_icmp_ne (tgt := 15) hG dX1_repairAt_5 (by decide) (fun c => ?_) (fun c => ?_)
  · replace h := h.1 c
    refine V_aload_n (v := .ref u1) hG dX1_repairAt_15 rfl rfl ?_
    obtain ⟨ht, h⟩ := h
    refine V_getI hG dX1_repairAt_16 fl_X1_164 rfl ht ?_
    refine V_iconst (v := 1) hG (by decide) dX1_repairAt_19 ?_
    refine V_icmp_ne (tgt := 73) hG dX1_repairAt_20 (by decide) (fun c => ?_) (fun c => ?_)
    · replace h := h.1 c
      exact V_vret hG dX1_repairAt_73 (by first | exact Nat.le_of_ble_eq_true rfl | omega | (dsimp only; omega)) (by first | exact Nat.le_of_ble_eq_true rfl | omega | (dsimp only; omega)) h
    · replace h := h.2 c
      refine V_aload_n (v := .ref u1) hG dX1_repairAt_23 rfl rfl ?_
      obtain ⟨ht, h⟩ := h
      refine V_getPv hG dX1_repairAt_24 fl_X1_170 rfl ht (fun o2 ho => ?_)
      replace h := h o2 ho
      refine V_ifnonnull (o := o2) (tgt := 37) hG dX1_repairAt_27 (by decide) (fun c => ?_) (fun c => ?_)
      · obtain ⟨u3, c⟩ := c
        replace h := h.2 u3 c
        subst c
        refine V_aload_n (v := .ref u1) hG dX1_repairAt_37 rfl rfl ?_
        obtain ⟨ht, h⟩ := h
        refine V_getPv hG dX1_repairAt_38 fl_X1_170 rfl ht (fun o5 ho => ?_)
        replace h := h o5 ho
        obtain ⟨u6, he, h⟩ := h
        subst he
        obtain ⟨ht, h⟩ := h
        refine V_cVI _ _ hG dX1_repairAt_41 (ct_X2_free hl h) mv_X2_free ml_X1_176 ht rfl rfl rfl rfl (by first | exact Nat.le_of_ble_eq_true rfl | (simp only [List.map_cons, List.map_nil, List.sum_cons, List.sum_nil, cat_rf]; exact Nat.le_of_ble_eq_true rfl)) (Nat.le_of_ble_eq_true rfl) (Nat.le_of_ble_eq_true rfl) (by first | exact Nat.le_of_ble_eq_true rfl | omega | (dsimp only; omega)) (by first | exact Nat.le_of_ble_eq_true rfl | omega | (dsimp only; omega)) ?_ (fun x8 σ7 h9 => ?_)
        · exact fun E σ7 hx => VX_out hG (by first | exact Nat.le_of_ble_eq_true rfl | omega | (dsimp only; omega)) (by first | exact Nat.le_of_ble_eq_true rfl | omega | (dsimp only; omega)) hx
        · replace h := h9
          clear h9
          refine V_iconst (v := 1) hG (by decide) dX1_repairAt_44 ?_
          refine V_icmp_lt (tgt := 73) hG dX1_repairAt_45 (by decide) (fun c => ?_) (fun c => ?_)
          · replace h := h.1 c
            exact V_vret hG dX1_repairAt_73 (by first | exact Nat.le_of_ble_eq_true rfl | omega | (dsimp only; omega)) (by first | exact Nat.le_of_ble_eq_true rfl | omega | (dsimp only; omega)) h
          · replace h := h.2 c
            refine V_aload_n (v := .ref this) hG dX1_repairAt_48 rfl rfl ?_
            refine V_dup (v := .ref this) hG rfl dX1_repairAt_49 ?_
            obtain ⟨ht, h⟩ := h
            refine V_getI hG dX1_repairAt_50 fl_X1_179 rfl ht ?_
            refine V_aload_n (v := .ref this) hG dX1_repairAt_53 rfl rfl ?_
            obtain ⟨ht, h⟩ := h
            refine V_getPv hG dX1_repairAt_54 fl_X1_12 rfl ht (fun o9 ho => ?_)
            replace h := h o9 ho
            refine V_aload_n (v := .ref u1) hG dX1_repairAt_57 rfl rfl ?_
            obtain ⟨ht, h⟩ := h
            refine V_getPv hG dX1_repairAt_58 fl_X1_170 rfl ht (fun o10 ho => ?_)
            replace h := h o10 ho
            refine V_iconst (v := 1) hG (by decide) dX1_repairAt_61 ?_
            obtain ⟨u11, he, h⟩ := h
            subst he
            obtain ⟨ht, h⟩ := h
            refine V_cVI _ _ hG dX1_repairAt_62 (ct_X8_take hl h) mv_X8_take ml_X1_182 ht rfl rfl rfl rfl (by first | exact Nat.le_of_ble_eq_true rfl | (simp only [List.map_cons, List.map_nil, List.sum_cons, List.sum_nil, cat_rf]; exact Nat.le_of_ble_eq_true rfl)) (Nat.le_of_ble_eq_true rfl) (Nat.le_of_ble_eq_true rfl) (by first | exact Nat.le_of_ble_eq_true rfl | omega | (dsimp only; omega)) (by first | exact Nat.le_of_ble_eq_true rfl | omega | (dsimp only; omega)) ?_ (fun x13 σ12 h9 => ?_)
            · exact fun E σ12 hx => VX_out hG (by first | exact Nat.le_of_ble_eq_true rfl | omega | (dsimp only; omega)) (by first | exact Nat.le_of_ble_eq_true rfl | omega | (dsimp only; omega)) hx
            · replace h := h9
              clear h9
              refine V_iadd hG dX1_repairAt_65 ?_
              obtain ⟨ht, h⟩ := h
              refine V_putI hG dX1_repairAt_66 fl_X1_179 rfl (fun e => absurd e (by decide)) rfl ht ?_
              refine V_aload_n (v := .ref u1) hG dX1_repairAt_69 rfl rfl ?_
              obtain ⟨ht, h⟩ := h
              refine V_cVV _ _ hG dX1_repairAt_70 (ct_X4_beginRepair hl h) mv_X4_beginRepair ml_X1_173 ht rfl rfl rfl rfl (by first | exact Nat.le_of_ble_eq_true rfl | (simp only [List.map_cons, List.map_nil, List.sum_cons, List.sum_nil, cat_rf]; exact Nat.le_of_ble_eq_true rfl)) (Nat.le_of_ble_eq_true rfl) (Nat.le_of_ble_eq_true rfl) (by first | exact Nat.le_of_ble_eq_true rfl | omega | (dsimp only; omega)) (by first | exact Nat.le_of_ble_eq_true rfl | omega | (dsimp only; omega)) ?_ (fun σ14 h9 => ?_)
              · exact fun E σ14 hx => VX_out hG (by first | exact Nat.le_of_ble_eq_true rfl | omega | (dsimp only; omega)) (by first | exact Nat.le_of_ble_eq_true rfl | omega | (dsimp only; omega)) hx
              · replace h := h9
                clear h9
                exact V_vret hG dX1_repairAt_73 (by first | exact Nat.le_of_ble_eq_true rfl | omega | (dsimp only; omega)) (by first | exact Nat.le_of_ble_eq_true rfl | omega | (dsimp only; omega)) h
      · replace h := h.1 c
        subst c
        refine V_aload_n (v := .ref u1) hG dX1_repairAt_30 rfl rfl ?_
        obtain ⟨ht, h⟩ := h
        refine V_cVV _ _ hG dX1_repairAt_31 (ct_X4_beginRepair hl h) mv_X4_beginRepair ml_X1_173 ht rfl rfl rfl rfl (by first | exact Nat.le_of_ble_eq_true rfl | (simp only [List.map_cons, List.map_nil, List.sum_cons, List.sum_nil, cat_rf]; exact Nat.le_of_ble_eq_true rfl)) (Nat.le_of_ble_eq_true rfl) (Nat.le_of_ble_eq_true rfl) (by first | exact Nat.le_of_ble_eq_true rfl | omega | (dsimp only; omega)) (by first | exact Nat.le_of_ble_eq_true rfl | omega | (dsimp only; omega)) ?_ (fun σ4 h9 => ?_)
        · exact fun E σ4 hx => VX_out hG (by first | exact Nat.le_of_ble_eq_true rfl | omega | (dsimp only; omega)) (by first | exact Nat.le_of_ble_eq_true rfl | omega | (dsimp only; omega)) hx
        · replace h := h9
          clear h9
          refine V_goto (tgt := 73) hG dX1_repairAt_34 (by decide) ?_
          exact V_vret hG dX1_repairAt_73 (by first | exact Nat.le_of_ble_eq_true rfl | omega | (dsimp only; omega)) (by first | exact Nat.le_of_ble_eq_true rfl | omega | (dsimp only; omega)) h
  · replace h := h.2 c
    refine V_aload_n (v := .ref u1) hG dX1_repairAt_8 rfl rfl ?_
    obtain ⟨ht, h⟩ := h
    refine V_cVV _ _ hG dX1_repairAt_9 (ct_X4_repairHour hl h) mv_X4_repairHour ml_X1_167 ht rfl rfl rfl rfl (by first | exact Nat.le_of_ble_eq_true rfl | (simp only [List.map_cons, List.map_nil, List.sum_cons, List.sum_nil, cat_rf]; exact Nat.le_of_ble_eq_true rfl)) (Nat.le_of_ble_eq_true rfl) (Nat.le_of_ble_eq_true rfl) (by first | exact Nat.le_of_ble_eq_true rfl | omega | (dsimp only; omega)) (by first | exact Nat.le_of_ble_eq_true rfl | omega | (dsimp only; omega)) ?_ (fun σ15 h9 => ?_)
    · exact fun E σ15 hx => VX_out hG (by first | exact Nat.le_of_ble_eq_true rfl | omega | (dsimp only; omega)) (by first | exact Nat.le_of_ble_eq_true rfl | omega | (dsimp only; omega)) hx
    · replace h := h9
      clear h9
      refine V_goto (tgt := 73) hG dX1_repairAt_12 (by decide) ?_
      exact V_vret hG dX1_repairAt_73 (by first | exact Nat.le_of_ble_eq_true rfl | omega | (dsimp only; omega)) (by first | exact Nat.le_of_ble_eq_true rfl | omega | (dsimp only; omega)) h
def wp_X4_isReady (this : Nat) (σ : Sg) (Post : Rs → Sg → Prop) : Prop := this % 32 = 4 ∧ ∀ o1, o1 = sP σ this 7 → ((o1 = none → this % 32 = 4 ∧ ((¬ (sI σ this 13) = 0 → (b01 (0 : Int32) ∧ Post (.inl (some (.int (0 : Int32)))) σ)) ∧ ((sI σ this 13) = 0 → (b01 (1 : Int32) ∧ Post (.inl (some (.int (1 : Int32)))) σ)))) ∧ (∀ u2, o1 = some u2 → (b01 (0 : Int32) ∧ Post (.inl (some (.int (0 : Int32)))) σ)))
set_option maxRecDepth 100000 in
set_option maxHeartbeats 4000000 in
theorem ct_X4_isReady {l : Launch} (hl : l.stackTraces = false) {this : Nat} {σ : Sg} {Post : Rs → Sg → Prop} (h : wp_X4_isReady this σ Post) : Ct l yX4_isReady (.code yX4_isReady cX4_isReady 1 (some .boolean)) 0 0 0 0 [.ref this] σ Post := by
  refine Ct_of [some (.ref this)] hl (by decide +kernel) rfl (fun ad => by rfl) (fun ad => by exact Nat.le_of_ble_eq_true rfl) (fun v hv => mem_lo hv rfl) ?_
  intro G hG
  unfold wp_X4_isReady at h
  refine V_aload_n (v := .ref this) hG dX4_isReady_0 rfl rfl ?_
  obtain ⟨ht, h⟩ := h
  refine V_getPv hG dX4_isReady_1 fl_X4_42 rfl ht (fun o1 ho => ?_)
  replace h := h o1 ho
  refine V_ifnonnull (o := o1) (tgt := 18) hG dX4_isReady_4 (by decide) (fun c => ?_) (fun c => ?_)
  · obtain ⟨u2, c⟩ := c
    replace h := h.2 u2 c
    subst c
    refine V_iconst (v := 0) hG (by decide) dX4_isReady_18 ?_
    exact V_zret hG dX4_isReady_19 h.1 (by first | exact Nat.le_of_ble_eq_true rfl | omega | (dsimp only; omega)) (by first | exact Nat.le_of_ble_eq_true rfl | omega | (dsimp only; omega)) h.2
  · replace h := h.1 c
    subst c
    refine V_aload_n (v := .ref this) hG dX4_isReady_7 rfl rfl ?_
    obtain ⟨ht, h⟩ := h
    refine V_getI hG dX4_isReady_8 fl_X4_9 rfl ht ?_
    refine V_if_ne (tgt := 18) hG dX4_isReady_11 (by decide) (fun c => ?_) (fun c => ?_)
    · replace h := h.1 c
      refine V_iconst (v := 0) hG (by decide) dX4_isReady_18 ?_
      exact V_zret hG dX4_isReady_19 h.1 (by first | exact Nat.le_of_ble_eq_true rfl | omega | (dsimp only; omega)) (by first | exact Nat.le_of_ble_eq_true rfl | omega | (dsimp only; omega)) h.2
    · replace h := h.2 c
      refine V_iconst (v := 1) hG (by decide) dX4_isReady_14 ?_
      refine V_goto (tgt := 19) hG dX4_isReady_15 (by decide) ?_
      exact V_zret hG dX4_isReady_19 h.1 (by first | exact Nat.le_of_ble_eq_true rfl | omega | (dsimp only; omega)) (by first | exact Nat.le_of_ble_eq_true rfl | omega | (dsimp only; omega)) h.2
def wp_X4_canDo (this : Nat) (a0 : Option Nat) (σ : Sg) (Post : Rs → Sg → Prop) : Prop := this % 32 = 4 ∧ ∃ u1, a0 = some u1 ∧ u1 % 32 = 5 ∧ (((((sI σ this 1) >>> ((sI σ u1 0) &&& 31)) &&& (1 : Int32)) = 0 → (b01 (0 : Int32) ∧ Post (.inl (some (.int (0 : Int32)))) σ)) ∧ (¬ (((sI σ this 1) >>> ((sI σ u1 0) &&& 31)) &&& (1 : Int32)) = 0 → (b01 (1 : Int32) ∧ Post (.inl (some (.int (1 : Int32)))) σ)))
set_option maxRecDepth 100000 in
set_option maxHeartbeats 4000000 in
theorem ct_X4_canDo {l : Launch} (hl : l.stackTraces = false) {this : Nat} {a0 : Option Nat} {σ : Sg} {Post : Rs → Sg → Prop} (h : wp_X4_canDo this a0 σ Post) : Ct l yX4_canDo (.code yX4_canDo cX4_canDo 2 (some .boolean)) 0 0 0 0 [.ref this, va_rf a0] σ Post := by
  refine Ct_of [some (.ref this), some (va_rf a0)] hl (by decide +kernel) rfl (fun ad => by cases a0 <;> rfl) (fun ad => by cases a0 <;> exact Nat.le_of_ble_eq_true rfl) (fun v hv => mem_lo hv rfl) ?_
  intro G hG
  unfold wp_X4_canDo at h
  refine V_aload_n (v := .ref this) hG dX4_canDo_0 rfl rfl ?_
  obtain ⟨ht, h⟩ := h
  refine V_getI hG dX4_canDo_1 fl_X4_18 rfl ht ?_
  refine V_aload_n (v := va_rf a0) hG dX4_canDo_4 (isRef_rf _) rfl ?_
  obtain ⟨u1, he, h⟩ := h
  subst he
  obtain ⟨ht, h⟩ := h
  refine V_getI hG dX4_canDo_5 fl_X4_37 rfl ht ?_
  refine V_ishr hG dX4_canDo_8 ?_
  refine V_iconst (v := 1) hG (by decide) dX4_canDo_9 ?_
  refine V_iand hG dX4_canDo_10 ?_
  refine V_if_eq (tgt := 18) hG dX4_canDo_11 (by decide) (fun c => ?_) (fun c => ?_)
  · replace h := h.1 c
    refine V_iconst (v := 0) hG (by decide) dX4_canDo_18 ?_
    exact V_zret hG dX4_canDo_19 h.1 (by first | exact Nat.le_of_ble_eq_true rfl | omega | (dsimp only; omega)) (by first | exact Nat.le_of_ble_eq_true rfl | omega | (dsimp only; omega)) h.2
  · replace h := h.2 c
    refine V_iconst (v := 1) hG (by decide) dX4_canDo_14 ?_
    refine V_goto (tgt := 19) hG dX4_canDo_15 (by decide) ?_
    exact V_zret hG dX4_canDo_19 h.1 (by first | exact Nat.le_of_ble_eq_true rfl | omega | (dsimp only; omega)) (by first | exact Nat.le_of_ble_eq_true rfl | omega | (dsimp only; omega)) h.2
def wp_X7_canBegin (this : Nat) (a0 : Int32) (a1 : Int32) (σ : Sg) (Post : Rs → Sg → Prop) : Prop := this % 32 = 7 ∧ ((¬ (sI σ this 6) = (-1 : Int32) → (b01 (0 : Int32) ∧ Post (.inl (some (.int (0 : Int32)))) σ)) ∧ ((sI σ this 6) = (-1 : Int32) → this % 32 = 7 ∧ ∀ o1, o1 = sP σ this 4 → ∃ u2, o1 = some u2 ∧ aty (u2 % 32) = some .int ∧ ∃ j3, a0 = nI j3 ∧ j3 < aln u2 ∧ (((sI σ u2 j3) ≤ 0 → (b01 (0 : Int32) ∧ Post (.inl (some (.int (0 : Int32)))) σ)) ∧ (¬ (sI σ u2 j3) ≤ 0 → this % 32 = 7 ∧ wp_X7_isOnShift this a1 σ (KI (fun x5 σ4 => ((x5 = 0 → (b01 (0 : Int32) ∧ Post (.inl (some (.int (0 : Int32)))) σ4)) ∧ (¬ x5 = 0 → (b01 (1 : Int32) ∧ Post (.inl (some (.int (1 : Int32)))) σ4)))) (fun E σ4 => Post (.inr E) σ4))))))
set_option maxRecDepth 100000 in
set_option maxHeartbeats 4000000 in
theorem ct_X7_canBegin {l : Launch} (hl : l.stackTraces = false) {this : Nat} {a0 : Int32} {a1 : Int32} {σ : Sg} {Post : Rs → Sg → Prop} (h : wp_X7_canBegin this a0 a1 σ Post) : Ct l yX7_canBegin (.code yX7_canBegin cX7_canBegin 3 (some .boolean)) 2 43 0 0 [.ref this, .int a0, .int a1] σ Post := by
  refine Ct_of [some (.ref this), some (.int a0), some (.int a1)] hl (by decide +kernel) rfl (fun ad => by rfl) (fun ad => by exact Nat.le_of_ble_eq_true rfl) (fun v hv => mem_lo hv rfl) ?_
  intro G hG
  unfold wp_X7_canBegin at h
  refine V_aload_n (v := .ref this) hG dX7_canBegin_0 rfl rfl ?_
  obtain ⟨ht, h⟩ := h
  refine V_getI hG dX7_canBegin_1 fl_X7_18 rfl ht ?_
  refine V_iconst (v := (-1)) hG (by decide) dX7_canBegin_4 ?_
  refine V_icmp_ne (tgt := 29) hG dX7_canBegin_5 (by decide) (fun c => ?_) (fun c => ?_)
  · replace h := h.1 c
    refine V_iconst (v := 0) hG (by decide) dX7_canBegin_29 ?_
    exact V_zret hG dX7_canBegin_30 h.1 (by first | exact Nat.le_of_ble_eq_true rfl | omega | (dsimp only; omega)) (by first | exact Nat.le_of_ble_eq_true rfl | omega | (dsimp only; omega)) h.2
  · replace h := h.2 c
    refine V_aload_n (v := .ref this) hG dX7_canBegin_8 rfl rfl ?_
    obtain ⟨ht, h⟩ := h
    refine V_getPv hG dX7_canBegin_9 fl_X7_9 rfl ht (fun o1 ho => ?_)
    replace h := h o1 ho
    refine V_iload_n hG dX7_canBegin_12 rfl ?_
    obtain ⟨u2, he, h⟩ := h
    subst he
    obtain ⟨ha, j3, hi, hj, h⟩ := h
    refine V_iald hG dX7_canBegin_13 ha hi hj ?_
    refine V_if_le (tgt := 29) hG dX7_canBegin_14 (by decide) (fun c => ?_) (fun c => ?_)
    · replace h := h.1 c
      refine V_iconst (v := 0) hG (by decide) dX7_canBegin_29 ?_
      exact V_zret hG dX7_canBegin_30 h.1 (by first | exact Nat.le_of_ble_eq_true rfl | omega | (dsimp only; omega)) (by first | exact Nat.le_of_ble_eq_true rfl | omega | (dsimp only; omega)) h.2
    · replace h := h.2 c
      refine V_aload_n (v := .ref this) hG dX7_canBegin_17 rfl rfl ?_
      refine V_iload_n hG dX7_canBegin_18 rfl ?_
      obtain ⟨ht, h⟩ := h
      refine V_cVI _ _ hG dX7_canBegin_19 (ct_X7_isOnShift hl h) mv_X7_isOnShift ml_X7_40 ht rfl rfl rfl rfl (by first | exact Nat.le_of_ble_eq_true rfl | (simp only [List.map_cons, List.map_nil, List.sum_cons, List.sum_nil, cat_rf]; exact Nat.le_of_ble_eq_true rfl)) (Nat.le_of_ble_eq_true rfl) (Nat.le_of_ble_eq_true rfl) (by first | exact Nat.le_of_ble_eq_true rfl | omega | (dsimp only; omega)) (by first | exact Nat.le_of_ble_eq_true rfl | omega | (dsimp only; omega)) ?_ (fun x5 σ4 h9 => ?_)
      · exact fun E σ4 hx => VX_out hG (by first | exact Nat.le_of_ble_eq_true rfl | omega | (dsimp only; omega)) (by first | exact Nat.le_of_ble_eq_true rfl | omega | (dsimp only; omega)) hx
      · replace h := h9
        clear h9
        refine V_if_eq (tgt := 29) hG dX7_canBegin_22 (by decide) (fun c => ?_) (fun c => ?_)
        · replace h := h.1 c
          refine V_iconst (v := 0) hG (by decide) dX7_canBegin_29 ?_
          exact V_zret hG dX7_canBegin_30 h.1 (by first | exact Nat.le_of_ble_eq_true rfl | omega | (dsimp only; omega)) (by first | exact Nat.le_of_ble_eq_true rfl | omega | (dsimp only; omega)) h.2
        · replace h := h.2 c
          refine V_iconst (v := 1) hG (by decide) dX7_canBegin_25 ?_
          refine V_goto (tgt := 30) hG dX7_canBegin_26 (by decide) ?_
          exact V_zret hG dX7_canBegin_30 h.1 (by first | exact Nat.le_of_ble_eq_true rfl | omega | (dsimp only; omega)) (by first | exact Nat.le_of_ble_eq_true rfl | omega | (dsimp only; omega)) h.2
def wp_X1_personFor_77 (K11 : Nat → Int32 → Int32 → Option Nat → Int32 → Sg → Prop) (this : Nat) (v2 : Int32) (v3 : Int32) (v4 : Option Nat) (v5 : Int32) (σ : Sg) (Post : Rs → Sg → Prop) : Prop := (K11 this v2 v3 v4 (v5 + 1) σ)
set_option maxRecDepth 100000 in
set_option maxHeartbeats 4000000 in
theorem wv_X1_personFor_77 {L9 : Launch} {G : Cx} {Post : Rs → Sg → Prop} (hl : L9.stackTraces = false) (hG : CX L9 G yX1_personFor cX1_personFor 8 (some (.object "Millrace$Person")) [] { frames := 3, cells := 0, slots := 0, locals := 65 }) {K11 : Nat → Int32 → Int32 → Option Nat → Int32 → Sg → Prop} (hK11 : ∀ (this : Nat) (v2 : Int32) (v3 : Int32) (v4 : Option Nat) (v5 : Int32) (ζ : Sg), K11 this v2 v3 v4 v5 ζ → V G (QM G 0 0 Post) 11 [some (.ref this), none, some (.int v2), some (.int v3), some (va_rf v4), some (.int v5), none, none] [] ζ 0 0) : ∀ (this : Nat) (v2 : Int32) (v3 : Int32) (v4 : Option Nat) (v5 : Int32) (σ : Sg), wp_X1_personFor_77 K11 this v2 v3 v4 v5 σ Post → V G (QM G 0 0 Post) 77 [some (.ref this), none, some (.int v2), some (.int v3), some (va_rf v4), some (.int v5), none, none] [] σ 0 0 := by
  intro this v2 v3 v4 v5 σ h
  unfold wp_X1_personFor_77 at h
  refine V_iincv (c := 1) hG dX1_personFor_77 rfl (by decide) (hpV rfl (cat_rf _)) ?_
  refine V_goto (tgt := 11) hG dX1_personFor_80 (by decide) ?_
  refine V_forget (lo' := [some (.ref this), none, some (.int v2), some (.int v3), some (va_rf v4), some (.int (v5 + 1)), none, none]) ⟨rfl, ⟨rfl, ⟨rfl, ⟨rfl, ⟨rfl, trivial⟩⟩⟩⟩⟩ ?_
  exact hK11 _ _ _ _ _ _ h
def wp_X1_personFor_56 (K11 : Nat → Int32 → Int32 → Option Nat → Int32 → Sg → Prop) (this : Nat) (v2 : Int32) (v3 : Int32) (v4 : Option Nat) (v5 : Int32) (v6 : Option Nat) (s0 : Int32) (σ : Sg) (Post : Rs → Sg → Prop) : Prop := ((s0 = 0 → (wp_X1_personFor_77 K11 this v2 v3 v4 v5 σ Post)) ∧ (¬ s0 = 0 → ∃ u1, v6 = some u1 ∧ u1 % 32 = 7 ∧ wp_X7_canBegin u1 v3 v2 σ (KI (fun x3 σ2 => ((x3 = 0 → (wp_X1_personFor_77 K11 this v2 v3 v4 v5 σ2 Post)) ∧ (¬ x3 = 0 → (wp_X1_personFor_77 K11 this v2 v3 (some u1) v5 σ2 Post)))) (fun E σ2 => Post (.inr E) σ2))))
set_option maxRecDepth 100000 in
set_option maxHeartbeats 4000000 in
theorem wv_X1_personFor_56 {L9 : Launch} {G : Cx} {Post : Rs → Sg → Prop} (hl : L9.stackTraces = false) (hG : CX L9 G yX1_personFor cX1_personFor 8 (some (.object "Millrace$Person")) [] { frames := 3, cells := 0, slots := 0, locals := 65 }) {K11 : Nat → Int32 → Int32 → Option Nat → Int32 → Sg → Prop} (hK11 : ∀ (this : Nat) (v2 : Int32) (v3 : Int32) (v4 : Option Nat) (v5 : Int32) (ζ : Sg), K11 this v2 v3 v4 v5 ζ → V G (QM G 0 0 Post) 11 [some (.ref this), none, some (.int v2), some (.int v3), some (va_rf v4), some (.int v5), none, none] [] ζ 0 0) : ∀ (this : Nat) (v2 : Int32) (v3 : Int32) (v4 : Option Nat) (v5 : Int32) (v6 : Option Nat) (s0 : Int32) (σ : Sg), wp_X1_personFor_56 K11 this v2 v3 v4 v5 v6 s0 σ Post → V G (QM G 0 0 Post) 56 [some (.ref this), none, some (.int v2), some (.int v3), some (va_rf v4), some (.int v5), some (va_rf v6), none] [.int s0] σ 0 0 := by
  intro this v2 v3 v4 v5 v6 s0 σ h
  unfold wp_X1_personFor_56 at h
  refine V_istore hG dX1_personFor_56 (Nat.le_of_ble_eq_true rfl) (hpV rfl (cat_rf _)) ?_
  refine V_iload hG dX1_personFor_58 rfl ?_
  refine V_if_eq (tgt := 77) hG dX1_personFor_60 (by decide) (fun c => ?_) (fun c => ?_)
  · replace h := h.1 c
    refine V_forget (lo' := [some (.ref this), none, some (.int v2), some (.int v3), some (va_rf v4), some (.int v5), none, none]) ⟨rfl, ⟨rfl, ⟨rfl, ⟨rfl, ⟨rfl, trivial⟩⟩⟩⟩⟩ ?_
    refine V_widen (k' := 0) (n' := 0) (by first | exact Nat.le_of_ble_eq_true rfl | omega | (dsimp only; omega)) (by first | exact Nat.le_of_ble_eq_true rfl | omega | (dsimp only; omega)) ?_
    exact wv_X1_personFor_77 hl hG hK11 _ _ _ _ _ _ h
  · replace h := h.2 c
    refine V_aload (v := va_rf v6) hG dX1_personFor_63 (isRef_rf _) rfl ?_
    refine V_iload_n hG dX1_personFor_65 rfl ?_
    refine V_iload_n hG dX1_personFor_66 rfl ?_
    obtain ⟨u1, he, h⟩ := h
    subst he
    obtain ⟨ht, h⟩ := h
    refine V_cVI _ _ hG dX1_personFor_67 (ct_X7_canBegin hl h) mv_X7_canBegin ml_X1_228 ht rfl rfl rfl rfl (by first | exact Nat.le_of_ble_eq_true rfl | (simp only [List.map_cons, List.map_nil, List.sum_cons, List.sum_nil, cat_rf]; exact Nat.le_of_ble_eq_true rfl)) (Nat.le_of_ble_eq_true rfl) (Nat.le_of_ble_eq_true rfl) (by first | exact Nat.le_of_ble_eq_true rfl | omega | (dsimp only; omega)) (by first | exact Nat.le_of_ble_eq_true rfl | omega | (dsimp only; omega)) ?_ (fun x3 σ2 h9 => ?_)
    · exact fun E σ2 hx => VX_out hG (by first | exact Nat.le_of_ble_eq_true rfl | omega | (dsimp only; omega)) (by first | exact Nat.le_of_ble_eq_true rfl | omega | (dsimp only; omega)) hx
    · replace h := h9
      clear h9
      refine V_if_eq (tgt := 77) hG dX1_personFor_70 (by decide) (fun c => ?_) (fun c => ?_)
      · replace h := h.1 c
        refine V_forget (lo' := [some (.ref this), none, some (.int v2), some (.int v3), some (va_rf v4), some (.int v5), none, none]) ⟨rfl, ⟨rfl, ⟨rfl, ⟨rfl, ⟨rfl, trivial⟩⟩⟩⟩⟩ ?_
        refine V_widen (k' := 0) (n' := 0) (by first | exact Nat.le_of_ble_eq_true rfl | omega | (dsimp only; omega)) (by first | exact Nat.le_of_ble_eq_true rfl | omega | (dsimp only; omega)) ?_
        exact wv_X1_personFor_77 hl hG hK11 _ _ _ _ _ _ h
      · replace h := h.2 c
        refine V_aload (v := .ref u1) hG dX1_personFor_73 rfl rfl ?_
        refine V_astore hG dX1_personFor_75 rfl (Nat.le_of_ble_eq_true rfl) (hpV rfl rfl) ?_
        refine V_forget (lo' := [some (.ref this), none, some (.int v2), some (.int v3), some (va_rf (some u1)), some (.int v5), none, none]) ⟨rfl, ⟨rfl, ⟨rfl, ⟨rfl, ⟨rfl, trivial⟩⟩⟩⟩⟩ ?_
        refine V_widen (k' := 0) (n' := 0) (by first | exact Nat.le_of_ble_eq_true rfl | omega | (dsimp only; omega)) (by first | exact Nat.le_of_ble_eq_true rfl | omega | (dsimp only; omega)) ?_
        exact wv_X1_personFor_77 hl hG hK11 _ _ _ _ _ _ h
def wp_X1_personFor_51 (K11 : Nat → Int32 → Int32 → Option Nat → Int32 → Sg → Prop) (this : Nat) (v2 : Int32) (v3 : Int32) (v4 : Option Nat) (v5 : Int32) (v6 : Option Nat) (σ : Sg) (Post : Rs → Sg → Prop) : Prop := (wp_X1_personFor_56 K11 this v2 v3 v4 v5 v6 (1 : Int32) σ Post)
set_option maxRecDepth 100000 in
set_option maxHeartbeats 4000000 in
theorem wv_X1_personFor_51 {L9 : Launch} {G : Cx} {Post : Rs → Sg → Prop} (hl : L9.stackTraces = false) (hG : CX L9 G yX1_personFor cX1_personFor 8 (some (.object "Millrace$Person")) [] { frames := 3, cells := 0, slots := 0, locals := 65 }) {K11 : Nat → Int32 → Int32 → Option Nat → Int32 → Sg → Prop} (hK11 : ∀ (this : Nat) (v2 : Int32) (v3 : Int32) (v4 : Option Nat) (v5 : Int32) (ζ : Sg), K11 this v2 v3 v4 v5 ζ → V G (QM G 0 0 Post) 11 [some (.ref this), none, some (.int v2), some (.int v3), some (va_rf v4), some (.int v5), none, none] [] ζ 0 0) : ∀ (this : Nat) (v2 : Int32) (v3 : Int32) (v4 : Option Nat) (v5 : Int32) (v6 : Option Nat) (σ : Sg), wp_X1_personFor_51 K11 this v2 v3 v4 v5 v6 σ Post → V G (QM G 0 0 Post) 51 [some (.ref this), none, some (.int v2), some (.int v3), some (va_rf v4), some (.int v5), some (va_rf v6), none] [] σ 0 0 := by
  intro this v2 v3 v4 v5 v6 σ h
  unfold wp_X1_personFor_51 at h
  refine V_iconst (v := 1) hG (by decide) dX1_personFor_51 ?_
  refine V_goto (tgt := 56) hG dX1_personFor_52 (by decide) ?_
  refine V_forget (lo' := [some (.ref this), none, some (.int v2), some (.int v3), some (va_rf v4), some (.int v5), some (va_rf v6), none]) ⟨rfl, ⟨rfl, ⟨rfl, ⟨rfl, ⟨rfl, ⟨rfl, trivial⟩⟩⟩⟩⟩⟩ ?_
  refine V_widen (k' := 0) (n' := 0) (by first | exact Nat.le_of_ble_eq_true rfl | omega | (dsimp only; omega)) (by first | exact Nat.le_of_ble_eq_true rfl | omega | (dsimp only; omega)) ?_
  exact wv_X1_personFor_56 hl hG hK11 _ _ _ _ _ _ _ _ h
def wp_X1_personFor_11  : Nat → Nat → Int32 → Int32 → Option Nat → Int32 → Sg → (Rs → Sg → Prop) → Prop
  | 0, _, _, _, _, _, _, _ => False
  | f + 1, this, v2, v3, v4, v5, σ, Post => this % 32 = 1 ∧ (((sI σ this 4) ≤ v5 → Post (.inl (some (va_rf v4))) σ) ∧ (¬ (sI σ this 4) ≤ v5 → this % 32 = 1 ∧ ∀ o1, o1 = sP σ this 3 → ∃ u2, o1 = some u2 ∧ isRow u2 ∧ ∃ j3, v5 = nI j3 ∧ j3 < aln u2 ∧ ∀ o4, o4 = sP σ u2 j3 → ((v4 = none → (wp_X1_personFor_51 (fun z0 z1 z2 z3 z4 ζ => wp_X1_personFor_11 f z0 z1 z2 z3 z4 ζ Post) this v2 v3 none v5 o4 σ Post)) ∧ (∀ u5, v4 = some u5 → ∃ u6, o4 = some u6 ∧ u6 % 32 = 7 ∧ ∀ o7, o7 = sP σ u6 4 → ∃ u8, o7 = some u8 ∧ aty (u8 % 32) = some .int ∧ ∃ j9, v3 = nI j9 ∧ j9 < aln u8 ∧ u5 % 32 = 7 ∧ ∀ o10, o10 = sP σ u5 4 → ∃ u11, o10 = some u11 ∧ aty (u11 % 32) = some .int ∧ ∃ j12, v3 = nI j12 ∧ j12 < aln u11 ∧ (((sI σ u8 j9) ≤ (sI σ u11 j12) → (wp_X1_personFor_56 (fun z0 z1 z2 z3 z4 ζ => wp_X1_personFor_11 f z0 z1 z2 z3 z4 ζ Post) this v2 v3 (some u5) v5 (some u6) (0 : Int32) σ Post)) ∧ (¬ (sI σ u8 j9) ≤ (sI σ u11 j12) → (wp_X1_personFor_51 (fun z0 z1 z2 z3 z4 ζ => wp_X1_personFor_11 f z0 z1 z2 z3 z4 ζ Post) this v2 v3 (some u5) v5 (some u6) σ Post)))))))
set_option maxRecDepth 100000 in
set_option maxHeartbeats 4000000 in
theorem wv_X1_personFor_11 {L9 : Launch} {G : Cx} {Post : Rs → Sg → Prop} (hl : L9.stackTraces = false) (hG : CX L9 G yX1_personFor cX1_personFor 8 (some (.object "Millrace$Person")) [] { frames := 3, cells := 0, slots := 0, locals := 65 })   : ∀ (f : Nat) (this : Nat) (v2 : Int32) (v3 : Int32) (v4 : Option Nat) (v5 : Int32) (σ : Sg), wp_X1_personFor_11 f this v2 v3 v4 v5 σ Post → V G (QM G 0 0 Post) 11 [some (.ref this), none, some (.int v2), some (.int v3), some (va_rf v4), some (.int v5), none, none] [] σ 0 0 := by
  intro f
  induction f with
  | zero => intro _ _ _ _ _ σ h; exact h.elim
  | succ f ih =>
    intro this v2 v3 v4 v5 σ h
    refine V_iload hG dX1_personFor_11 rfl ?_
    refine V_aload_n (v := .ref this) hG dX1_personFor_13 rfl rfl ?_
    obtain ⟨ht, h⟩ := h
    refine V_getI hG dX1_personFor_14 fl_X1_41 rfl ht ?_
    refine V_icmp_ge (tgt := 83) hG dX1_personFor_17 (by decide) (fun c => ?_) (fun c => ?_)
    · replace h := h.1 c
      refine V_aload (v := va_rf v4) hG dX1_personFor_83 (isRef_rf _) rfl ?_
      exact V_aret (v := va_rf v4) hG dX1_personFor_85 (isRef_rf _) (by first | exact Nat.le_of_ble_eq_true rfl | omega | (dsimp only; omega)) (by first | exact Nat.le_of_ble_eq_true rfl | omega | (dsimp only; omega)) h
    · replace h := h.2 c
      refine V_aload_n (v := .ref this) hG dX1_personFor_20 rfl rfl ?_
      obtain ⟨ht, h⟩ := h
      refine V_getPv hG dX1_personFor_21 fl_X1_26 rfl ht (fun o1 ho => ?_)
      replace h := h o1 ho
      refine V_iload hG dX1_personFor_24 rfl ?_
      obtain ⟨u2, he, h⟩ := h
      subst he
      obtain ⟨ha, j3, hi, hj, h⟩ := h
      refine V_aaldv hG dX1_personFor_26 ha hi hj (fun o4 ho => ?_)
      replace h := h o4 ho
      refine V_astore hG dX1_personFor_27 (isRef_rf _) (Nat.le_of_ble_eq_true rfl) (hpV rfl rfl) ?_
      refine V_aload (v := va_rf v4) hG dX1_personFor_29 (isRef_rf _) rfl ?_
      refine V_ifnull (o := v4) (tgt := 51) hG dX1_personFor_31 (by decide) (fun c => ?_) (fun c => ?_)
      · replace h := h.1 c
        subst c
        refine V_forget (lo' := [some (.ref this), none, some (.int v2), some (.int v3), some (va_rf none), some (.int v5), some (va_rf o4), none]) ⟨rfl, ⟨rfl, ⟨rfl, ⟨rfl, ⟨rfl, ⟨rfl, trivial⟩⟩⟩⟩⟩⟩ ?_
        refine V_widen (k' := 0) (n' := 0) (by first | exact Nat.le_of_ble_eq_true rfl | omega | (dsimp only; omega)) (by first | exact Nat.le_of_ble_eq_true rfl | omega | (dsimp only; omega)) ?_
        exact wv_X1_personFor_51 hl hG (fun z0 z1 z2 z3 z4 ζ hz => ih z0 z1 z2 z3 z4 ζ hz) _ _ _ _ _ _ _ h
      · obtain ⟨u5, c⟩ := c
        replace h := h.2 u5 c
        subst c
        refine V_aload (v := va_rf o4) hG dX1_personFor_34 (isRef_rf _) rfl ?_
        obtain ⟨u6, he, h⟩ := h
        subst he
        obtain ⟨ht, h⟩ := h
        refine V_getPv hG dX1_personFor_36 fl_X1_224 rfl ht (fun o7 ho => ?_)
        replace h := h o7 ho
        refine V_iload_n hG dX1_personFor_39 rfl ?_
        obtain ⟨u8, he, h⟩ := h
        subst he
        obtain ⟨ha, j9, hi, hj, h⟩ := h
        refine V_iald hG dX1_personFor_40 ha hi hj ?_
        refine V_aload (v := .ref u5) hG dX1_personFor_41 rfl rfl ?_
        obtain ⟨ht, h⟩ := h
        refine V_getPv hG dX1_personFor_43 fl_X1_224 rfl ht (fun o10 ho => ?_)
        replace h := h o10 ho
        refine V_iload_n hG dX1_personFor_46 rfl ?_
        obtain ⟨u11, he, h⟩ := h
        subst he
        obtain ⟨ha, j12, hi, hj, h⟩ := h
        refine V_iald hG dX1_personFor_47 ha hi hj ?_
        refine V_icmp_le (tgt := 55) hG dX1_personFor_48 (by decide) (fun c => ?_) (fun c => ?_)
        · replace h := h.1 c
          refine V_iconst (v := 0) hG (by decide) dX1_personFor_55 ?_
          refine V_forget (lo' := [some (.ref this), none, some (.int v2), some (.int v3), some (va_rf (some u5)), some (.int v5), some (va_rf (some u6)), none]) ⟨rfl, ⟨rfl, ⟨rfl, ⟨rfl, ⟨rfl, ⟨rfl, trivial⟩⟩⟩⟩⟩⟩ ?_
          refine V_widen (k' := 0) (n' := 0) (by first | exact Nat.le_of_ble_eq_true rfl | omega | (dsimp only; omega)) (by first | exact Nat.le_of_ble_eq_true rfl | omega | (dsimp only; omega)) ?_
          exact wv_X1_personFor_56 hl hG (fun z0 z1 z2 z3 z4 ζ hz => ih z0 z1 z2 z3 z4 ζ hz) _ _ _ _ _ _ _ _ h
        · replace h := h.2 c
          refine V_forget (lo' := [some (.ref this), none, some (.int v2), some (.int v3), some (va_rf (some u5)), some (.int v5), some (va_rf (some u6)), none]) ⟨rfl, ⟨rfl, ⟨rfl, ⟨rfl, ⟨rfl, ⟨rfl, trivial⟩⟩⟩⟩⟩⟩ ?_
          refine V_widen (k' := 0) (n' := 0) (by first | exact Nat.le_of_ble_eq_true rfl | omega | (dsimp only; omega)) (by first | exact Nat.le_of_ble_eq_true rfl | omega | (dsimp only; omega)) ?_
          exact wv_X1_personFor_51 hl hG (fun z0 z1 z2 z3 z4 ζ hz => ih z0 z1 z2 z3 z4 ζ hz) _ _ _ _ _ _ _ h
def wp_X1_personFor (this : Nat) (a0 : Option Nat) (a1 : Int32) (σ : Sg) (Post : Rs → Sg → Prop) : Prop := ∃ u1, a0 = some u1 ∧ u1 % 32 = 5 ∧ (∃ g, wp_X1_personFor_11 g this a1 (sI σ u1 1) none (0 : Int32) σ Post)
set_option maxRecDepth 100000 in
set_option maxHeartbeats 4000000 in
theorem ct_X1_personFor {l : Launch} (hl : l.stackTraces = false) {this : Nat} {a0 : Option Nat} {a1 : Int32} {σ : Sg} {Post : Rs → Sg → Prop} (h : wp_X1_personFor this a0 a1 σ Post) : Ct l yX1_personFor (.code yX1_personFor cX1_personFor 8 (some (.object "Millrace$Person"))) 3 65 0 0 [.ref this, va_rf a0, .int a1] σ Post := by
  refine Ct_of [some (.ref this), some (va_rf a0), some (.int a1), none, none, none, none, none] hl (by decide +kernel) rfl (fun ad => by cases a0 <;> rfl) (fun ad => by cases a0 <;> exact Nat.le_of_ble_eq_true rfl) (fun v hv => mem_lo hv rfl) ?_
  intro G hG
  unfold wp_X1_personFor at h
  refine V_aload_n (v := va_rf a0) hG dX1_personFor_0 (isRef_rf _) rfl ?_
  obtain ⟨u1, he, h⟩ := h
  subst he
  obtain ⟨ht, h⟩ := h
  refine V_getI hG dX1_personFor_1 fl_X1_119 rfl ht ?_
  refine V_istore_n hG dX1_personFor_4 (Nat.le_of_ble_eq_true rfl) (hpV rfl rfl) ?_
  refine V_null hG dX1_personFor_5 ?_
  refine V_astore hG dX1_personFor_6 rfl (Nat.le_of_ble_eq_true rfl) (hpV rfl rfl) ?_
  refine V_iconst (v := 0) hG (by decide) dX1_personFor_8 ?_
  refine V_istore hG dX1_personFor_9 (Nat.le_of_ble_eq_true rfl) (hpV rfl rfl) ?_
  refine V_forget (lo' := [some (.ref this), none, some (.int a1), some (.int (sI σ u1 1)), some (va_rf none), some (.int (0 : Int32)), none, none]) ⟨rfl, ⟨rfl, ⟨rfl, ⟨rfl, ⟨rfl, trivial⟩⟩⟩⟩⟩ ?_
  obtain ⟨g, h⟩ := h
  refine V_widen (k' := 0) (n' := 0) (by first | exact Nat.le_of_ble_eq_true rfl | omega | (dsimp only; omega)) (by first | exact Nat.le_of_ble_eq_true rfl | omega | (dsimp only; omega)) ?_
  exact wv_X1_personFor_11 hl hG  g _ _ _ _ _ _ h
def wp_X3_needFor (this : Nat) (a0 : Int32) (σ : Sg) (Post : Rs → Sg → Prop) : Prop := this % 32 = 3 ∧ Post (.inl (some (.int ((sI σ this 1) * a0)))) σ
set_option maxRecDepth 100000 in
set_option maxHeartbeats 4000000 in
theorem ct_X3_needFor {l : Launch} (hl : l.stackTraces = false) {this : Nat} {a0 : Int32} {σ : Sg} {Post : Rs → Sg → Prop} (h : wp_X3_needFor this a0 σ Post) : Ct l yX3_needFor (.code yX3_needFor cX3_needFor 2 (some .int)) 0 0 0 0 [.ref this, .int a0] σ Post := by
  refine Ct_of [some (.ref this), some (.int a0)] hl (by decide +kernel) rfl (fun ad => by rfl) (fun ad => by exact Nat.le_of_ble_eq_true rfl) (fun v hv => mem_lo hv rfl) ?_
  intro G hG
  unfold wp_X3_needFor at h
  refine V_aload_n (v := .ref this) hG dX3_needFor_0 rfl rfl ?_
  obtain ⟨ht, h⟩ := h
  refine V_getI hG dX3_needFor_1 fl_X3_13 rfl ht ?_
  refine V_iload_n hG dX3_needFor_4 rfl ?_
  refine V_imul hG dX3_needFor_5 ?_
  exact V_iret hG dX3_needFor_6 (by first | exact Nat.le_of_ble_eq_true rfl | omega | (dsimp only; omega)) (by first | exact Nat.le_of_ble_eq_true rfl | omega | (dsimp only; omega)) h
def wp_X3_sourceFor (this : Nat) (a0 : Int32) (σ : Sg) (Post : Rs → Sg → Prop) : Prop := this % 32 = 3 ∧ wp_X3_needFor this a0 σ (KI (fun x2 σ1 => this % 32 = 3 ∧ ∀ o3, o3 = sP σ1 this 0 → ∃ u4, o3 = some u4 ∧ u4 % 32 = 2 ∧ wp_X2_free u4 σ1 (KI (fun x6 σ5 => ((x6 < x2 → this % 32 = 3 ∧ ∀ o7, o7 = sP σ5 this 2 → ((o7 = none → Post (.inl (some (.null))) σ5) ∧ (∀ u8, o7 = some u8 → this % 32 = 3 ∧ ∀ o9, o9 = sP σ5 this 2 → ∃ u10, o9 = some u10 ∧ u10 % 32 = 2 ∧ wp_X2_free u10 σ5 (KI (fun x12 σ11 => ((x12 < x2 → Post (.inl (some (.null))) σ11) ∧ (¬ x12 < x2 → this % 32 = 3 ∧ ∀ o13, o13 = sP σ11 this 2 → Post (.inl (some (va_rf o13))) σ11))) (fun E σ11 => Post (.inr E) σ11))))) ∧ (¬ x6 < x2 → this % 32 = 3 ∧ ∀ o14, o14 = sP σ5 this 0 → Post (.inl (some (va_rf o14))) σ5))) (fun E σ5 => Post (.inr E) σ5))) (fun E σ1 => Post (.inr E) σ1))
set_option maxRecDepth 100000 in
set_option maxHeartbeats 4000000 in
theorem ct_X3_sourceFor {l : Launch} (hl : l.stackTraces = false) {this : Nat} {a0 : Int32} {σ : Sg} {Post : Rs → Sg → Prop} (h : wp_X3_sourceFor this a0 σ Post) : Ct l yX3_sourceFor (.code yX3_sourceFor cX3_sourceFor 3 (some (.object "Millrace$Kind"))) 1 21 0 0 [.ref this, .int a0] σ Post := by
  refine Ct_of [some (.ref this), some (.int a0), none] hl (by decide +kernel) rfl (fun ad => by rfl) (fun ad => by exact Nat.le_of_ble_eq_true rfl) (fun v hv => mem_lo hv rfl) ?_
  intro G hG
  unfold wp_X3_sourceFor at h
  refine V_aload_n (v := .ref this) hG dX3_sourceFor_0 rfl rfl ?_
  refine V_iload_n hG dX3_sourceFor_1 rfl ?_
  obtain ⟨ht, h⟩ := h
  refine V_cVI _ _ hG dX3_sourceFor_2 (ct_X3_needFor hl h) mv_X3_needFor ml_X3_20 ht rfl rfl rfl rfl (by first | exact Nat.le_of_ble_eq_true rfl | (simp only [List.map_cons, List.map_nil, List.sum_cons, List.sum_nil, cat_rf]; exact Nat.le_of_ble_eq_true rfl)) (Nat.le_of_ble_eq_true rfl) (Nat.le_of_ble_eq_true rfl) (by first | exact Nat.le_of_ble_eq_true rfl | omega | (dsimp only; omega)) (by first | exact Nat.le_of_ble_eq_true rfl | omega | (dsimp only; omega)) ?_ (fun x2 σ1 h9 => ?_)
  · exact fun E σ1 hx => VX_out hG (by first | exact Nat.le_of_ble_eq_true rfl | omega | (dsimp only; omega)) (by first | exact Nat.le_of_ble_eq_true rfl | omega | (dsimp only; omega)) hx
  · replace h := h9
    clear h9
    refine V_istore_n hG dX3_sourceFor_5 (Nat.le_of_ble_eq_true rfl) (hpV rfl rfl) ?_
    refine V_aload_n (v := .ref this) hG dX3_sourceFor_6 rfl rfl ?_
    obtain ⟨ht, h⟩ := h
    refine V_getPv hG dX3_sourceFor_7 fl_X3_7 rfl ht (fun o3 ho => ?_)
    replace h := h o3 ho
    obtain ⟨u4, he, h⟩ := h
    subst he
    obtain ⟨ht, h⟩ := h
    refine V_cVI _ _ hG dX3_sourceFor_10 (ct_X2_free hl h) mv_X2_free ml_X3_24 ht rfl rfl rfl rfl (by first | exact Nat.le_of_ble_eq_true rfl | (simp only [List.map_cons, List.map_nil, List.sum_cons, List.sum_nil, cat_rf]; exact Nat.le_of_ble_eq_true rfl)) (Nat.le_of_ble_eq_true rfl) (Nat.le_of_ble_eq_true rfl) (by first | exact Nat.le_of_ble_eq_true rfl | omega | (dsimp only; omega)) (by first | exact Nat.le_of_ble_eq_true rfl | omega | (dsimp only; omega)) ?_ (fun x6 σ5 h9 => ?_)
    · exact fun E σ5 hx => VX_out hG (by first | exact Nat.le_of_ble_eq_true rfl | omega | (dsimp only; omega)) (by first | exact Nat.le_of_ble_eq_true rfl | omega | (dsimp only; omega)) hx
    · replace h := h9
      clear h9
      refine V_iload_n hG dX3_sourceFor_13 rfl ?_
      refine V_icmp_lt (tgt := 22) hG dX3_sourceFor_14 (by decide) (fun c => ?_) (fun c => ?_)
      · replace h := h.1 c
        refine V_aload_n (v := .ref this) hG dX3_sourceFor_22 rfl rfl ?_
        obtain ⟨ht, h⟩ := h
        refine V_getPv hG dX3_sourceFor_23 fl_X3_17 rfl ht (fun o7 ho => ?_)
        replace h := h o7 ho
        refine V_ifnull (o := o7) (tgt := 47) hG dX3_sourceFor_26 (by decide) (fun c => ?_) (fun c => ?_)
        · replace h := h.1 c
          subst c
          refine V_null hG dX3_sourceFor_47 ?_
          exact V_aret (v := .null) hG dX3_sourceFor_48 rfl (by first | exact Nat.le_of_ble_eq_true rfl | omega | (dsimp only; omega)) (by first | exact Nat.le_of_ble_eq_true rfl | omega | (dsimp only; omega)) h
        · obtain ⟨u8, c⟩ := c
          replace h := h.2 u8 c
          subst c
          refine V_aload_n (v := .ref this) hG dX3_sourceFor_29 rfl rfl ?_
          obtain ⟨ht, h⟩ := h
          refine V_getPv hG dX3_sourceFor_30 fl_X3_17 rfl ht (fun o9 ho => ?_)
          replace h := h o9 ho
          obtain ⟨u10, he, h⟩ := h
          subst he
          obtain ⟨ht, h⟩ := h
          refine V_cVI _ _ hG dX3_sourceFor_33 (ct_X2_free hl h) mv_X2_free ml_X3_24 ht rfl rfl rfl rfl (by first | exact Nat.le_of_ble_eq_true rfl | (simp only [List.map_cons, List.map_nil, List.sum_cons, List.sum_nil, cat_rf]; exact Nat.le_of_ble_eq_true rfl)) (Nat.le_of_ble_eq_true rfl) (Nat.le_of_ble_eq_true rfl) (by first | exact Nat.le_of_ble_eq_true rfl | omega | (dsimp only; omega)) (by first | exact Nat.le_of_ble_eq_true rfl | omega | (dsimp only; omega)) ?_ (fun x12 σ11 h9 => ?_)
          · exact fun E σ11 hx => VX_out hG (by first | exact Nat.le_of_ble_eq_true rfl | omega | (dsimp only; omega)) (by first | exact Nat.le_of_ble_eq_true rfl | omega | (dsimp only; omega)) hx
          · replace h := h9
            clear h9
            refine V_iload_n hG dX3_sourceFor_36 rfl ?_
            refine V_icmp_lt (tgt := 47) hG dX3_sourceFor_37 (by decide) (fun c => ?_) (fun c => ?_)
            · replace h := h.1 c
              refine V_null hG dX3_sourceFor_47 ?_
              exact V_aret (v := .null) hG dX3_sourceFor_48 rfl (by first | exact Nat.le_of_ble_eq_true rfl | omega | (dsimp only; omega)) (by first | exact Nat.le_of_ble_eq_true rfl | omega | (dsimp only; omega)) h
            · replace h := h.2 c
              refine V_aload_n (v := .ref this) hG dX3_sourceFor_40 rfl rfl ?_
              obtain ⟨ht, h⟩ := h
              refine V_getPv hG dX3_sourceFor_41 fl_X3_17 rfl ht (fun o13 ho => ?_)
              replace h := h o13 ho
              refine V_goto (tgt := 48) hG dX3_sourceFor_44 (by decide) ?_
              exact V_aret (v := va_rf o13) hG dX3_sourceFor_48 (isRef_rf _) (by first | exact Nat.le_of_ble_eq_true rfl | omega | (dsimp only; omega)) (by first | exact Nat.le_of_ble_eq_true rfl | omega | (dsimp only; omega)) h
      · replace h := h.2 c
        refine V_aload_n (v := .ref this) hG dX3_sourceFor_17 rfl rfl ?_
        obtain ⟨ht, h⟩ := h
        refine V_getPv hG dX3_sourceFor_18 fl_X3_7 rfl ht (fun o14 ho => ?_)
        replace h := h o14 ho
        exact V_aret (v := va_rf o14) hG dX3_sourceFor_21 (isRef_rf _) (by first | exact Nat.le_of_ble_eq_true rfl | omega | (dsimp only; omega)) (by first | exact Nat.le_of_ble_eq_true rfl | omega | (dsimp only; omega)) h
def wp_X3_forgetAsked (this : Nat) (σ : Sg) (Post : Rs → Sg → Prop) : Prop := this % 32 = 3 ∧ ∀ o1, o1 = sP σ this 0 → ∃ u2, o1 = some u2 ∧ u2 % 32 = 2 ∧ this % 32 = 3 ∧ ∀ o3, o3 = sP (wI σ u2 12 (0 : Int32)) this 2 → ((o3 = none → Post (.inl none) (wI σ u2 12 (0 : Int32))) ∧ (∀ u4, o3 = some u4 → this % 32 = 3 ∧ ∀ o5, o5 = sP (wI σ u2 12 (0 : Int32)) this 2 → ∃ u6, o5 = some u6 ∧ u6 % 32 = 2 ∧ Post (.inl none) (wI (wI σ u2 12 (0 : Int32)) u6 12 (0 : Int32))))
set_option maxRecDepth 100000 in
set_option maxHeartbeats 4000000 in
theorem ct_X3_forgetAsked {l : Launch} (hl : l.stackTraces = false) {this : Nat} {σ : Sg} {Post : Rs → Sg → Prop} (h : wp_X3_forgetAsked this σ Post) : Ct l yX3_forgetAsked (.code yX3_forgetAsked cX3_forgetAsked 1 none) 0 0 0 0 [.ref this] σ Post := by
  refine Ct_of [some (.ref this)] hl (by decide +kernel) rfl (fun ad => by rfl) (fun ad => by exact Nat.le_of_ble_eq_true rfl) (fun v hv => mem_lo hv rfl) ?_
  intro G hG
  unfold wp_X3_forgetAsked at h
  refine V_aload_n (v := .ref this) hG dX3_forgetAsked_0 rfl rfl ?_
  obtain ⟨ht, h⟩ := h
  refine V_getPv hG dX3_forgetAsked_1 fl_X3_7 rfl ht (fun o1 ho => ?_)
  replace h := h o1 ho
  refine V_iconst (v := 0) hG (by decide) dX3_forgetAsked_4 ?_
  obtain ⟨u2, he, h⟩ := h
  subst he
  obtain ⟨ht, h⟩ := h
  refine V_putI hG dX3_forgetAsked_5 fl_X3_30 rfl (fun e => absurd e (by decide)) rfl ht ?_
  refine V_aload_n (v := .ref this) hG dX3_forgetAsked_8 rfl rfl ?_
  obtain ⟨ht, h⟩ := h
  refine V_getPv hG dX3_forgetAsked_9 fl_X3_17 rfl ht (fun o3 ho => ?_)
  replace h := h o3 ho
  refine V_ifnull (o := o3) (tgt := 23) hG dX3_forgetAsked_12 (by decide) (fun c => ?_) (fun c => ?_)
  · replace h := h.1 c
    subst c
    exact V_vret hG dX3_forgetAsked_23 (by first | exact Nat.le_of_ble_eq_true rfl | omega | (dsimp only; omega)) (by first | exact Nat.le_of_ble_eq_true rfl | omega | (dsimp only; omega)) h
  · obtain ⟨u4, c⟩ := c
    replace h := h.2 u4 c
    subst c
    refine V_aload_n (v := .ref this) hG dX3_forgetAsked_15 rfl rfl ?_
    obtain ⟨ht, h⟩ := h
    refine V_getPv hG dX3_forgetAsked_16 fl_X3_17 rfl ht (fun o5 ho => ?_)
    replace h := h o5 ho
    refine V_iconst (v := 0) hG (by decide) dX3_forgetAsked_19 ?_
    obtain ⟨u6, he, h⟩ := h
    subst he
    obtain ⟨ht, h⟩ := h
    refine V_putI hG dX3_forgetAsked_20 fl_X3_30 rfl (fun e => absurd e (by decide)) rfl ht ?_
    exact V_vret hG dX3_forgetAsked_23 (by first | exact Nat.le_of_ble_eq_true rfl | omega | (dsimp only; omega)) (by first | exact Nat.le_of_ble_eq_true rfl | omega | (dsimp only; omega)) h
def wp_X2_hasPartsFor_54 (K4 : Nat → Int32 → Int32 → Int32 → Sg → Prop) (this : Nat) (v1 : Int32) (v2 : Int32) (v3 : Int32) (σ : Sg) (Post : Rs → Sg → Prop) : Prop := (K4 this v1 v2 (v3 + 1) σ)
set_option maxRecDepth 100000 in
set_option maxHeartbeats 4000000 in
theorem wv_X2_hasPartsFor_54 {L9 : Launch} {G : Cx} {Post : Rs → Sg → Prop} (hl : L9.stackTraces = false) (hG : CX L9 G yX2_hasPartsFor cX2_hasPartsFor 5 (some .boolean) [] { frames := 2, cells := 0, slots := 0, locals := 43 }) {K4 : Nat → Int32 → Int32 → Int32 → Sg → Prop} (hK4 : ∀ (this : Nat) (v1 : Int32) (v2 : Int32) (v3 : Int32) (ζ : Sg), K4 this v1 v2 v3 ζ → V G (QM G 0 0 Post) 4 [some (.ref this), some (.int v1), some (.int v2), some (.int v3), none] [] ζ 0 0) : ∀ (this : Nat) (v1 : Int32) (v2 : Int32) (v3 : Int32) (σ : Sg), wp_X2_hasPartsFor_54 K4 this v1 v2 v3 σ Post → V G (QM G 0 0 Post) 54 [some (.ref this), some (.int v1), some (.int v2), some (.int v3), none] [] σ 0 0 := by
  intro this v1 v2 v3 σ h
  unfold wp_X2_hasPartsFor_54 at h
  refine V_iincv (c := 1) hG dX2_hasPartsFor_54 rfl (by decide) (hpV rfl rfl) ?_
  refine V_goto (tgt := 4) hG dX2_hasPartsFor_57 (by decide) ?_
  refine V_forget (lo' := [some (.ref this), some (.int v1), some (.int v2), some (.int (v3 + 1)), none]) ⟨rfl, ⟨rfl, ⟨rfl, ⟨rfl, trivial⟩⟩⟩⟩ ?_
  exact hK4 _ _ _ _ _ h
def wp_X2_hasPartsFor_62  : Nat → Nat → Int32 → Int32 → Sg → (Rs → Sg → Prop) → Prop
  | 0, _, _, _, _, _ => False
  | f + 1, this, v2, v3, σ, Post => this % 32 = 2 ∧ (((sI σ this 5) ≤ v3 → (b01 v2 ∧ Post (.inl (some (.int v2))) σ)) ∧ (¬ (sI σ this 5) ≤ v3 → this % 32 = 2 ∧ ∀ o1, o1 = sP σ this 4 → ∃ u2, o1 = some u2 ∧ isRow u2 ∧ ∃ j3, v3 = nI j3 ∧ j3 < aln u2 ∧ ∀ o4, o4 = sP σ u2 j3 → ∃ u5, o4 = some u5 ∧ u5 % 32 = 3 ∧ wp_X3_forgetAsked u5 σ (KV (fun σ6 => (wp_X2_hasPartsFor_62 f this v2 (v3 + 1) σ6 Post)) (fun E σ6 => Post (.inr E) σ6))))
set_option maxRecDepth 100000 in
set_option maxHeartbeats 4000000 in
theorem wv_X2_hasPartsFor_62 {L9 : Launch} {G : Cx} {Post : Rs → Sg → Prop} (hl : L9.stackTraces = false) (hG : CX L9 G yX2_hasPartsFor cX2_hasPartsFor 5 (some .boolean) [] { frames := 2, cells := 0, slots := 0, locals := 43 })   : ∀ (f : Nat) (this : Nat) (v2 : Int32) (v3 : Int32) (σ : Sg), wp_X2_hasPartsFor_62 f this v2 v3 σ Post → V G (QM G 0 0 Post) 62 [some (.ref this), none, some (.int v2), some (.int v3), none] [] σ 0 0 := by
  intro f
  induction f with
  | zero => intro _ _ _ σ h; exact h.elim
  | succ f ih =>
    intro this v2 v3 σ h
    refine V_iload_n hG dX2_hasPartsFor_62 rfl ?_
    refine V_aload_n (v := .ref this) hG dX2_hasPartsFor_63 rfl rfl ?_
    obtain ⟨ht, h⟩ := h
    refine V_getI hG dX2_hasPartsFor_64 fl_X2_37 rfl ht ?_
    refine V_icmp_ge (tgt := 85) hG dX2_hasPartsFor_67 (by decide) (fun c => ?_) (fun c => ?_)
    · replace h := h.1 c
      refine V_iload_n hG dX2_hasPartsFor_85 rfl ?_
      exact V_zret hG dX2_hasPartsFor_86 h.1 (by first | exact Nat.le_of_ble_eq_true rfl | omega | (dsimp only; omega)) (by first | exact Nat.le_of_ble_eq_true rfl | omega | (dsimp only; omega)) h.2
    · replace h := h.2 c
      refine V_aload_n (v := .ref this) hG dX2_hasPartsFor_70 rfl rfl ?_
      obtain ⟨ht, h⟩ := h
      refine V_getPv hG dX2_hasPartsFor_71 fl_X2_11 rfl ht (fun o1 ho => ?_)
      replace h := h o1 ho
      refine V_iload_n hG dX2_hasPartsFor_74 rfl ?_
      obtain ⟨u2, he, h⟩ := h
      subst he
      obtain ⟨ha, j3, hi, hj, h⟩ := h
      refine V_aaldv hG dX2_hasPartsFor_75 ha hi hj (fun o4 ho => ?_)
      replace h := h o4 ho
      obtain ⟨u5, he, h⟩ := h
      subst he
      obtain ⟨ht, h⟩ := h
      refine V_cVV _ _ hG dX2_hasPartsFor_76 (ct_X3_forgetAsked hl h) mv_X3_forgetAsked ml_X2_69 ht rfl rfl rfl rfl (by first | exact Nat.le_of_ble_eq_true rfl | (simp only [List.map_cons, List.map_nil, List.sum_cons, List.sum_nil, cat_rf]; exact Nat.le_of_ble_eq_true rfl)) (Nat.le_of_ble_eq_true rfl) (Nat.le_of_ble_eq_true rfl) (by first | exact Nat.le_of_ble_eq_true rfl | omega | (dsimp only; omega)) (by first | exact Nat.le_of_ble_eq_true rfl | omega | (dsimp only; omega)) ?_ (fun σ6 h9 => ?_)
      · exact fun E σ6 hx => VX_out hG (by first | exact Nat.le_of_ble_eq_true rfl | omega | (dsimp only; omega)) (by first | exact Nat.le_of_ble_eq_true rfl | omega | (dsimp only; omega)) hx
      · replace h := h9
        clear h9
        refine V_iincv (c := 1) hG dX2_hasPartsFor_79 rfl (by decide) (hpV rfl rfl) ?_
        refine V_goto (tgt := 62) hG dX2_hasPartsFor_82 (by decide) ?_
        refine V_forget (lo' := [some (.ref this), none, some (.int v2), some (.int (v3 + 1)), none]) ⟨rfl, ⟨rfl, ⟨rfl, trivial⟩⟩⟩ ?_
        exact ih _ _ _ _ h
def wp_X2_hasPartsFor_4  : Nat → Nat → Int32 → Int32 → Int32 → Sg → (Rs → Sg → Prop) → Prop
  | 0, _, _, _, _, _, _ => False
  | f + 1, this, v1, v2, v3, σ, Post => this % 32 = 2 ∧ (((sI σ this 5) ≤ v3 → (∃ g, wp_X2_hasPartsFor_62 g this v2 (0 : Int32) σ Post)) ∧ (¬ (sI σ this 5) ≤ v3 → this % 32 = 2 ∧ ∀ o1, o1 = sP σ this 4 → ∃ u2, o1 = some u2 ∧ isRow u2 ∧ ∃ j3, v3 = nI j3 ∧ j3 < aln u2 ∧ ∀ o4, o4 = sP σ u2 j3 → ∃ u5, o4 = some u5 ∧ u5 % 32 = 3 ∧ wp_X3_sourceFor u5 v1 σ (KO (fun x7 σ6 => ((x7 = none → (wp_X2_hasPartsFor_54 (fun z0 z1 z2 z3 ζ => wp_X2_hasPartsFor_4 f z0 z1 z2 z3 ζ Post) this v1 (0 : Int32) v3 σ6 Post)) ∧ (∀ u8, x7 = some u8 → u8 % 32 = 2 ∧ this % 32 = 2 ∧ ∀ o9, o9 = sP σ6 this 4 → ∃ u10, o9 = some u10 ∧ isRow u10 ∧ ∃ j11, v3 = nI j11 ∧ j11 < aln u10 ∧ ∀ o12, o12 = sP σ6 u10 j11 → ∃ u13, o12 = some u13 ∧ u13 % 32 = 3 ∧ wp_X3_needFor u13 v1 σ6 (KI (fun x15 σ14 => u8 % 32 = 2 ∧ (wp_X2_hasPartsFor_54 (fun z0 z1 z2 z3 ζ => wp_X2_hasPartsFor_4 f z0 z1 z2 z3 ζ Post) this v1 v2 v3 (wI σ14 u8 12 ((sI σ6 u8 12) + x15)) Post)) (fun E σ14 => Post (.inr E) σ14))))) (fun E σ6 => Post (.inr E) σ6))))
set_option maxRecDepth 100000 in
set_option maxHeartbeats 4000000 in
theorem wv_X2_hasPartsFor_4 {L9 : Launch} {G : Cx} {Post : Rs → Sg → Prop} (hl : L9.stackTraces = false) (hG : CX L9 G yX2_hasPartsFor cX2_hasPartsFor 5 (some .boolean) [] { frames := 2, cells := 0, slots := 0, locals := 43 })   : ∀ (f : Nat) (this : Nat) (v1 : Int32) (v2 : Int32) (v3 : Int32) (σ : Sg), wp_X2_hasPartsFor_4 f this v1 v2 v3 σ Post → V G (QM G 0 0 Post) 4 [some (.ref this), some (.int v1), some (.int v2), some (.int v3), none] [] σ 0 0 := by
  intro f
  induction f with
  | zero => intro _ _ _ _ σ h; exact h.elim
  | succ f ih =>
    intro this v1 v2 v3 σ h
    refine V_iload_n hG dX2_hasPartsFor_4 rfl ?_
    refine V_aload_n (v := .ref this) hG dX2_hasPartsFor_5 rfl rfl ?_
    obtain ⟨ht, h⟩ := h
    refine V_getI hG dX2_hasPartsFor_6 fl_X2_37 rfl ht ?_
    refine V_icmp_ge (tgt := 60) hG dX2_hasPartsFor_9 (by decide) (fun c => ?_) (fun c => ?_)
    · replace h := h.1 c
      refine V_iconst (v := 0) hG (by decide) dX2_hasPartsFor_60 ?_
      refine V_istore_n hG dX2_hasPartsFor_61 (Nat.le_of_ble_eq_true rfl) (hpV rfl rfl) ?_
      refine V_forget (lo' := [some (.ref this), none, some (.int v2), some (.int (0 : Int32)), none]) ⟨rfl, ⟨rfl, ⟨rfl, trivial⟩⟩⟩ ?_
      obtain ⟨g, h⟩ := h
      refine V_widen (k' := 0) (n' := 0) (by first | exact Nat.le_of_ble_eq_true rfl | omega | (dsimp only; omega)) (by first | exact Nat.le_of_ble_eq_true rfl | omega | (dsimp only; omega)) ?_
      exact wv_X2_hasPartsFor_62 hl hG  g _ _ _ _ h
    · replace h := h.2 c
      refine V_aload_n (v := .ref this) hG dX2_hasPartsFor_12 rfl rfl ?_
      obtain ⟨ht, h⟩ := h
      refine V_getPv hG dX2_hasPartsFor_13 fl_X2_11 rfl ht (fun o1 ho => ?_)
      replace h := h o1 ho
      refine V_iload_n hG dX2_hasPartsFor_16 rfl ?_
      obtain ⟨u2, he, h⟩ := h
      subst he
      obtain ⟨ha, j3, hi, hj, h⟩ := h
      refine V_aaldv hG dX2_hasPartsFor_17 ha hi hj (fun o4 ho => ?_)
      replace h := h o4 ho
      refine V_iload_n hG dX2_hasPartsFor_18 rfl ?_
      obtain ⟨u5, he, h⟩ := h
      subst he
      obtain ⟨ht, h⟩ := h
      refine V_cVO _ _ hG dX2_hasPartsFor_19 (ct_X3_sourceFor hl h) mv_X3_sourceFor ml_X2_61 ht rfl rfl rfl rfl (by first | exact Nat.le_of_ble_eq_true rfl | (simp only [List.map_cons, List.map_nil, List.sum_cons, List.sum_nil, cat_rf]; exact Nat.le_of_ble_eq_true rfl)) (Nat.le_of_ble_eq_true rfl) (Nat.le_of_ble_eq_true rfl) (by first | exact Nat.le_of_ble_eq_true rfl | omega | (dsimp only; omega)) (by first | exact Nat.le_of_ble_eq_true rfl | omega | (dsimp only; omega)) ?_ (fun x7 σ6 h9 => ?_)
      · exact fun E σ6 hx => VX_out hG (by first | exact Nat.le_of_ble_eq_true rfl | omega | (dsimp only; omega)) (by first | exact Nat.le_of_ble_eq_true rfl | omega | (dsimp only; omega)) hx
      · replace h := h9
        clear h9
        refine V_astore hG dX2_hasPartsFor_22 (isRef_rf _) (Nat.le_of_ble_eq_true rfl) (hpV rfl rfl) ?_
        refine V_aload (v := va_rf x7) hG dX2_hasPartsFor_24 (isRef_rf _) rfl ?_
        refine V_ifnonnull (o := x7) (tgt := 34) hG dX2_hasPartsFor_26 (by decide) (fun c => ?_) (fun c => ?_)
        · obtain ⟨u8, c⟩ := c
          replace h := h.2 u8 c
          subst c
          refine V_aload (v := .ref u8) hG dX2_hasPartsFor_34 rfl rfl ?_
          refine V_dup (v := .ref u8) hG rfl dX2_hasPartsFor_36 ?_
          obtain ⟨ht, h⟩ := h
          refine V_getI hG dX2_hasPartsFor_37 fl_X2_58 rfl ht ?_
          refine V_aload_n (v := .ref this) hG dX2_hasPartsFor_40 rfl rfl ?_
          obtain ⟨ht, h⟩ := h
          refine V_getPv hG dX2_hasPartsFor_41 fl_X2_11 rfl ht (fun o9 ho => ?_)
          replace h := h o9 ho
          refine V_iload_n hG dX2_hasPartsFor_44 rfl ?_
          obtain ⟨u10, he, h⟩ := h
          subst he
          obtain ⟨ha, j11, hi, hj, h⟩ := h
          refine V_aaldv hG dX2_hasPartsFor_45 ha hi hj (fun o12 ho => ?_)
          replace h := h o12 ho
          refine V_iload_n hG dX2_hasPartsFor_46 rfl ?_
          obtain ⟨u13, he, h⟩ := h
          subst he
          obtain ⟨ht, h⟩ := h
          refine V_cVI _ _ hG dX2_hasPartsFor_47 (ct_X3_needFor hl h) mv_X3_needFor ml_X2_65 ht rfl rfl rfl rfl (by first | exact Nat.le_of_ble_eq_true rfl | (simp only [List.map_cons, List.map_nil, List.sum_cons, List.sum_nil, cat_rf]; exact Nat.le_of_ble_eq_true rfl)) (Nat.le_of_ble_eq_true rfl) (Nat.le_of_ble_eq_true rfl) (by first | exact Nat.le_of_ble_eq_true rfl | omega | (dsimp only; omega)) (by first | exact Nat.le_of_ble_eq_true rfl | omega | (dsimp only; omega)) ?_ (fun x15 σ14 h9 => ?_)
          · exact fun E σ14 hx => VX_out hG (by first | exact Nat.le_of_ble_eq_true rfl | omega | (dsimp only; omega)) (by first | exact Nat.le_of_ble_eq_true rfl | omega | (dsimp only; omega)) hx
          · replace h := h9
            clear h9
            refine V_iadd hG dX2_hasPartsFor_50 ?_
            obtain ⟨ht, h⟩ := h
            refine V_putI hG dX2_hasPartsFor_51 fl_X2_58 rfl (fun e => absurd e (by decide)) rfl ht ?_
            refine V_forget (lo' := [some (.ref this), some (.int v1), some (.int v2), some (.int v3), none]) ⟨rfl, ⟨rfl, ⟨rfl, ⟨rfl, trivial⟩⟩⟩⟩ ?_
            refine V_widen (k' := 0) (n' := 0) (by first | exact Nat.le_of_ble_eq_true rfl | omega | (dsimp only; omega)) (by first | exact Nat.le_of_ble_eq_true rfl | omega | (dsimp only; omega)) ?_
            exact wv_X2_hasPartsFor_54 hl hG (fun z0 z1 z2 z3 ζ hz => ih z0 z1 z2 z3 ζ hz) _ _ _ _ _ h
        · replace h := h.1 c
          subst c
          refine V_iconst (v := 0) hG (by decide) dX2_hasPartsFor_29 ?_
          refine V_istore_n hG dX2_hasPartsFor_30 (Nat.le_of_ble_eq_true rfl) (hpV rfl rfl) ?_
          refine V_goto (tgt := 54) hG dX2_hasPartsFor_31 (by decide) ?_
          refine V_forget (lo' := [some (.ref this), some (.int v1), some (.int (0 : Int32)), some (.int v3), none]) ⟨rfl, ⟨rfl, ⟨rfl, ⟨rfl, trivial⟩⟩⟩⟩ ?_
          refine V_widen (k' := 0) (n' := 0) (by first | exact Nat.le_of_ble_eq_true rfl | omega | (dsimp only; omega)) (by first | exact Nat.le_of_ble_eq_true rfl | omega | (dsimp only; omega)) ?_
          exact wv_X2_hasPartsFor_54 hl hG (fun z0 z1 z2 z3 ζ hz => ih z0 z1 z2 z3 ζ hz) _ _ _ _ _ h
def wp_X2_hasPartsFor (this : Nat) (a0 : Int32) (σ : Sg) (Post : Rs → Sg → Prop) : Prop := (∃ g, wp_X2_hasPartsFor_4 g this a0 (1 : Int32) (0 : Int32) σ Post)
set_option maxRecDepth 100000 in
set_option maxHeartbeats 4000000 in
theorem ct_X2_hasPartsFor {l : Launch} (hl : l.stackTraces = false) {this : Nat} {a0 : Int32} {σ : Sg} {Post : Rs → Sg → Prop} (h : wp_X2_hasPartsFor this a0 σ Post) : Ct l yX2_hasPartsFor (.code yX2_hasPartsFor cX2_hasPartsFor 5 (some .boolean)) 2 43 0 0 [.ref this, .int a0] σ Post := by
  refine Ct_of [some (.ref this), some (.int a0), none, none, none] hl (by decide +kernel) rfl (fun ad => by rfl) (fun ad => by exact Nat.le_of_ble_eq_true rfl) (fun v hv => mem_lo hv rfl) ?_
  intro G hG
  unfold wp_X2_hasPartsFor at h
  refine V_iconst (v := 1) hG (by decide) dX2_hasPartsFor_0 ?_
  refine V_istore_n hG dX2_hasPartsFor_1 (Nat.le_of_ble_eq_true rfl) (hpV rfl rfl) ?_
  refine V_iconst (v := 0) hG (by decide) dX2_hasPartsFor_2 ?_
  refine V_istore_n hG dX2_hasPartsFor_3 (Nat.le_of_ble_eq_true rfl) (hpV rfl rfl) ?_
  refine V_forget (lo' := [some (.ref this), some (.int a0), some (.int (1 : Int32)), some (.int (0 : Int32)), none]) ⟨rfl, ⟨rfl, ⟨rfl, ⟨rfl, trivial⟩⟩⟩⟩ ?_
  obtain ⟨g, h⟩ := h
  refine V_widen (k' := 0) (n' := 0) (by first | exact Nat.le_of_ble_eq_true rfl | omega | (dsimp only; omega)) (by first | exact Nat.le_of_ble_eq_true rfl | omega | (dsimp only; omega)) ?_
  exact wv_X2_hasPartsFor_4 hl hG  g _ _ _ _ _ h
def wp_X1_reasonAgainst (this : Nat) (a0 : Option Nat) (a1 : Option Nat) (a2 : Int32) (σ : Sg) (Post : Rs → Sg → Prop) : Prop := ∃ u1, a0 = some u1 ∧ u1 % 32 = 0 ∧ wp_X0_operationNow u1 σ (KO (fun x3 σ2 => u1 % 32 = 0 ∧ ((¬ (sI σ2 u1 4) = (1 : Int32) → Post (.inl (some (.int (1 : Int32)))) σ2) ∧ ((sI σ2 u1 4) = (1 : Int32) → ((x3 = none → Post (.inl (some (.int (1 : Int32)))) σ2) ∧ (∀ u4, x3 = some u4 → u1 % 32 = 0 ∧ (((sI σ2 u1 7) = 0 → ∃ u5, a1 = some u5 ∧ u5 % 32 = 4 ∧ wp_X4_canDo u5 (some u4) σ2 (KI (fun x7 σ6 => ((¬ x7 = 0 → u5 % 32 = 4 ∧ wp_X4_isReady u5 σ6 (KI (fun x9 σ8 => ((¬ x9 = 0 → this % 32 = 1 ∧ wp_X1_personFor this (some u4) a2 σ8 (KO (fun x11 σ10 => ((x11 = none → Post (.inl (some (.int (5 : Int32)))) σ10) ∧ (∀ u12, x11 = some u12 → u1 % 32 = 0 ∧ wp_X0_takesParts u1 σ10 (KI (fun x14 σ13 => ((x14 = 0 → Post (.inl (some (.int (0 : Int32)))) σ13) ∧ (¬ x14 = 0 → u1 % 32 = 0 ∧ ∀ o15, o15 = sP σ13 u1 1 → u1 % 32 = 0 ∧ ∃ u16, o15 = some u16 ∧ u16 % 32 = 2 ∧ wp_X2_hasPartsFor u16 (sI σ13 u1 2) σ13 (KI (fun x18 σ17 => ((¬ x18 = 0 → Post (.inl (some (.int (0 : Int32)))) σ17) ∧ (x18 = 0 → Post (.inl (some (.int (6 : Int32)))) σ17))) (fun E σ17 => Post (.inr E) σ17))))) (fun E σ13 => Post (.inr E) σ13))))) (fun E σ10 => Post (.inr E) σ10))) ∧ (x9 = 0 → Post (.inl (some (.int (4 : Int32)))) σ8))) (fun E σ8 => Post (.inr E) σ8))) ∧ (x7 = 0 → Post (.inl (some (.int (3 : Int32)))) σ6))) (fun E σ6 => Post (.inr E) σ6))) ∧ (¬ (sI σ2 u1 7) = 0 → Post (.inl (some (.int (2 : Int32)))) σ2))))))) (fun E σ2 => Post (.inr E) σ2))
set_option maxRecDepth 100000 in
set_option maxHeartbeats 4000000 in
theorem ct_X1_reasonAgainst {l : Launch} (hl : l.stackTraces = false) {this : Nat} {a0 : Option Nat} {a1 : Option Nat} {a2 : Int32} {σ : Sg} {Post : Rs → Sg → Prop} (h : wp_X1_reasonAgainst this a0 a1 a2 σ Post) : Ct l yX1_reasonAgainst (.code yX1_reasonAgainst cX1_reasonAgainst 5 (some .int)) 4 92 0 0 [.ref this, va_rf a0, va_rf a1, .int a2] σ Post := by
  refine Ct_of [some (.ref this), some (va_rf a0), some (va_rf a1), some (.int a2), none] hl (by decide +kernel) rfl (fun ad => by cases a0 <;> cases a1 <;> rfl) (fun ad => by cases a0 <;> cases a1 <;> exact Nat.le_of_ble_eq_true rfl) (fun v hv => mem_lo hv rfl) ?_
  intro G hG
  unfold wp_X1_reasonAgainst at h
  refine V_aload_n (v := va_rf a0) hG dX1_reasonAgainst_0 (isRef_rf _) rfl ?_
  obtain ⟨u1, he, h⟩ := h
  subst he
  obtain ⟨ht, h⟩ := h
  refine V_cVO _ _ hG dX1_reasonAgainst_1 (ct_X0_operationNow hl h) mv_X0_operationNow ml_X1_115 ht rfl rfl rfl rfl (by first | exact Nat.le_of_ble_eq_true rfl | (simp only [List.map_cons, List.map_nil, List.sum_cons, List.sum_nil, cat_rf]; exact Nat.le_of_ble_eq_true rfl)) (Nat.le_of_ble_eq_true rfl) (Nat.le_of_ble_eq_true rfl) (by first | exact Nat.le_of_ble_eq_true rfl | omega | (dsimp only; omega)) (by first | exact Nat.le_of_ble_eq_true rfl | omega | (dsimp only; omega)) ?_ (fun x3 σ2 h9 => ?_)
  · exact fun E σ2 hx => VX_out hG (by first | exact Nat.le_of_ble_eq_true rfl | omega | (dsimp only; omega)) (by first | exact Nat.le_of_ble_eq_true rfl | omega | (dsimp only; omega)) hx
  · replace h := h9
    clear h9
    refine V_astore hG dX1_reasonAgainst_4 (isRef_rf _) (Nat.le_of_ble_eq_true rfl) (hpV rfl rfl) ?_
    refine V_aload_n (v := .ref u1) hG dX1_reasonAgainst_6 rfl rfl ?_
    obtain ⟨ht, h⟩ := h
    refine V_getI hG dX1_reasonAgainst_7 fl_X1_134 rfl ht ?_
    refine V_iconst (v := 1) hG (by decide) dX1_reasonAgainst_10 ?_
    refine V_icmp_ne (tgt := 19) hG dX1_reasonAgainst_11 (by decide) (fun c => ?_) (fun c => ?_)
    · replace h := h.1 c
      refine V_iconst (v := 1) hG (by decide) dX1_reasonAgainst_19 ?_
      exact V_iret hG dX1_reasonAgainst_20 (by first | exact Nat.le_of_ble_eq_true rfl | omega | (dsimp only; omega)) (by first | exact Nat.le_of_ble_eq_true rfl | omega | (dsimp only; omega)) h
    · replace h := h.2 c
      refine V_aload (v := va_rf x3) hG dX1_reasonAgainst_14 (isRef_rf _) rfl ?_
      refine V_ifnonnull (o := x3) (tgt := 21) hG dX1_reasonAgainst_16 (by decide) (fun c => ?_) (fun c => ?_)
      · obtain ⟨u4, c⟩ := c
        replace h := h.2 u4 c
        subst c
        refine V_aload_n (v := .ref u1) hG dX1_reasonAgainst_21 rfl rfl ?_
        obtain ⟨ht, h⟩ := h
        refine V_getI hG dX1_reasonAgainst_22 fl_X1_208 rfl ht ?_
        refine V_if_eq (tgt := 30) hG dX1_reasonAgainst_25 (by decide) (fun c => ?_) (fun c => ?_)
        · replace h := h.1 c
          refine V_aload_n (v := va_rf a1) hG dX1_reasonAgainst_30 (isRef_rf _) rfl ?_
          refine V_aload (v := .ref u4) hG dX1_reasonAgainst_31 rfl rfl ?_
          obtain ⟨u5, he, h⟩ := h
          subst he
          obtain ⟨ht, h⟩ := h
          refine V_cVI _ _ hG dX1_reasonAgainst_33 (ct_X4_canDo hl h) mv_X4_canDo ml_X1_211 ht rfl rfl rfl rfl (by first | exact Nat.le_of_ble_eq_true rfl | (simp only [List.map_cons, List.map_nil, List.sum_cons, List.sum_nil, cat_rf]; exact Nat.le_of_ble_eq_true rfl)) (Nat.le_of_ble_eq_true rfl) (Nat.le_of_ble_eq_true rfl) (by first | exact Nat.le_of_ble_eq_true rfl | omega | (dsimp only; omega)) (by first | exact Nat.le_of_ble_eq_true rfl | omega | (dsimp only; omega)) ?_ (fun x7 σ6 h9 => ?_)
          · exact fun E σ6 hx => VX_out hG (by first | exact Nat.le_of_ble_eq_true rfl | omega | (dsimp only; omega)) (by first | exact Nat.le_of_ble_eq_true rfl | omega | (dsimp only; omega)) hx
          · replace h := h9
            clear h9
            refine V_if_ne (tgt := 41) hG dX1_reasonAgainst_36 (by decide) (fun c => ?_) (fun c => ?_)
            · replace h := h.1 c
              refine V_aload_n (v := .ref u5) hG dX1_reasonAgainst_41 rfl rfl ?_
              obtain ⟨ht, h⟩ := h
              refine V_cVI _ _ hG dX1_reasonAgainst_42 (ct_X4_isReady hl h) mv_X4_isReady ml_X1_186 ht rfl rfl rfl rfl (by first | exact Nat.le_of_ble_eq_true rfl | (simp only [List.map_cons, List.map_nil, List.sum_cons, List.sum_nil, cat_rf]; exact Nat.le_of_ble_eq_true rfl)) (Nat.le_of_ble_eq_true rfl) (Nat.le_of_ble_eq_true rfl) (by first | exact Nat.le_of_ble_eq_true rfl | omega | (dsimp only; omega)) (by first | exact Nat.le_of_ble_eq_true rfl | omega | (dsimp only; omega)) ?_ (fun x9 σ8 h9 => ?_)
              · exact fun E σ8 hx => VX_out hG (by first | exact Nat.le_of_ble_eq_true rfl | omega | (dsimp only; omega)) (by first | exact Nat.le_of_ble_eq_true rfl | omega | (dsimp only; omega)) hx
              · replace h := h9
                clear h9
                refine V_if_ne (tgt := 50) hG dX1_reasonAgainst_45 (by decide) (fun c => ?_) (fun c => ?_)
                · replace h := h.1 c
                  refine V_aload_n (v := .ref this) hG dX1_reasonAgainst_50 rfl rfl ?_
                  refine V_aload (v := .ref u4) hG dX1_reasonAgainst_51 rfl rfl ?_
                  refine V_iload_n hG dX1_reasonAgainst_53 rfl ?_
                  obtain ⟨ht, h⟩ := h
                  refine V_cVO _ _ hG dX1_reasonAgainst_54 (ct_X1_personFor hl h) mv_X1_personFor ml_X1_214 ht rfl rfl rfl rfl (by first | exact Nat.le_of_ble_eq_true rfl | (simp only [List.map_cons, List.map_nil, List.sum_cons, List.sum_nil, cat_rf]; exact Nat.le_of_ble_eq_true rfl)) (Nat.le_of_ble_eq_true rfl) (Nat.le_of_ble_eq_true rfl) (by first | exact Nat.le_of_ble_eq_true rfl | omega | (dsimp only; omega)) (by first | exact Nat.le_of_ble_eq_true rfl | omega | (dsimp only; omega)) ?_ (fun x11 σ10 h9 => ?_)
                  · exact fun E σ10 hx => VX_out hG (by first | exact Nat.le_of_ble_eq_true rfl | omega | (dsimp only; omega)) (by first | exact Nat.le_of_ble_eq_true rfl | omega | (dsimp only; omega)) hx
                  · replace h := h9
                    clear h9
                    refine V_ifnonnull (o := x11) (tgt := 62) hG dX1_reasonAgainst_57 (by decide) (fun c => ?_) (fun c => ?_)
                    · obtain ⟨u12, c⟩ := c
                      replace h := h.2 u12 c
                      subst c
                      refine V_aload_n (v := .ref u1) hG dX1_reasonAgainst_62 rfl rfl ?_
                      obtain ⟨ht, h⟩ := h
                      refine V_cVI _ _ hG dX1_reasonAgainst_63 (ct_X0_takesParts hl h) mv_X0_takesParts ml_X1_218 ht rfl rfl rfl rfl (by first | exact Nat.le_of_ble_eq_true rfl | (simp only [List.map_cons, List.map_nil, List.sum_cons, List.sum_nil, cat_rf]; exact Nat.le_of_ble_eq_true rfl)) (Nat.le_of_ble_eq_true rfl) (Nat.le_of_ble_eq_true rfl) (by first | exact Nat.le_of_ble_eq_true rfl | omega | (dsimp only; omega)) (by first | exact Nat.le_of_ble_eq_true rfl | omega | (dsimp only; omega)) ?_ (fun x14 σ13 h9 => ?_)
                      · exact fun E σ13 hx => VX_out hG (by first | exact Nat.le_of_ble_eq_true rfl | omega | (dsimp only; omega)) (by first | exact Nat.le_of_ble_eq_true rfl | omega | (dsimp only; omega)) hx
                      · replace h := h9
                        clear h9
                        refine V_if_eq (tgt := 88) hG dX1_reasonAgainst_66 (by decide) (fun c => ?_) (fun c => ?_)
                        · replace h := h.1 c
                          refine V_iconst (v := 0) hG (by decide) dX1_reasonAgainst_88 ?_
                          exact V_iret hG dX1_reasonAgainst_89 (by first | exact Nat.le_of_ble_eq_true rfl | omega | (dsimp only; omega)) (by first | exact Nat.le_of_ble_eq_true rfl | omega | (dsimp only; omega)) h
                        · replace h := h.2 c
                          refine V_aload_n (v := .ref u1) hG dX1_reasonAgainst_69 rfl rfl ?_
                          obtain ⟨ht, h⟩ := h
                          refine V_getPv hG dX1_reasonAgainst_70 fl_X1_137 rfl ht (fun o15 ho => ?_)
                          replace h := h o15 ho
                          refine V_aload_n (v := .ref u1) hG dX1_reasonAgainst_73 rfl rfl ?_
                          obtain ⟨ht, h⟩ := h
                          refine V_getI hG dX1_reasonAgainst_74 fl_X1_147 rfl ht ?_
                          obtain ⟨u16, he, h⟩ := h
                          subst he
                          obtain ⟨ht, h⟩ := h
                          refine V_cVI _ _ hG dX1_reasonAgainst_77 (ct_X2_hasPartsFor hl h) mv_X2_hasPartsFor ml_X1_221 ht rfl rfl rfl rfl (by first | exact Nat.le_of_ble_eq_true rfl | (simp only [List.map_cons, List.map_nil, List.sum_cons, List.sum_nil, cat_rf]; exact Nat.le_of_ble_eq_true rfl)) (Nat.le_of_ble_eq_true rfl) (Nat.le_of_ble_eq_true rfl) (by first | exact Nat.le_of_ble_eq_true rfl | omega | (dsimp only; omega)) (by first | exact Nat.le_of_ble_eq_true rfl | omega | (dsimp only; omega)) ?_ (fun x18 σ17 h9 => ?_)
                          · exact fun E σ17 hx => VX_out hG (by first | exact Nat.le_of_ble_eq_true rfl | omega | (dsimp only; omega)) (by first | exact Nat.le_of_ble_eq_true rfl | omega | (dsimp only; omega)) hx
                          · replace h := h9
                            clear h9
                            refine V_if_ne (tgt := 88) hG dX1_reasonAgainst_80 (by decide) (fun c => ?_) (fun c => ?_)
                            · replace h := h.1 c
                              refine V_iconst (v := 0) hG (by decide) dX1_reasonAgainst_88 ?_
                              exact V_iret hG dX1_reasonAgainst_89 (by first | exact Nat.le_of_ble_eq_true rfl | omega | (dsimp only; omega)) (by first | exact Nat.le_of_ble_eq_true rfl | omega | (dsimp only; omega)) h
                            · replace h := h.2 c
                              refine V_bipush (v := 6) hG (by decide) dX1_reasonAgainst_83 ?_
                              refine V_goto (tgt := 89) hG dX1_reasonAgainst_85 (by decide) ?_
                              exact V_iret hG dX1_reasonAgainst_89 (by first | exact Nat.le_of_ble_eq_true rfl | omega | (dsimp only; omega)) (by first | exact Nat.le_of_ble_eq_true rfl | omega | (dsimp only; omega)) h
                    · replace h := h.1 c
                      subst c
                      refine V_iconst (v := 5) hG (by decide) dX1_reasonAgainst_60 ?_
                      exact V_iret hG dX1_reasonAgainst_61 (by first | exact Nat.le_of_ble_eq_true rfl | omega | (dsimp only; omega)) (by first | exact Nat.le_of_ble_eq_true rfl | omega | (dsimp only; omega)) h
                · replace h := h.2 c
                  refine V_iconst (v := 4) hG (by decide) dX1_reasonAgainst_48 ?_
                  exact V_iret hG dX1_reasonAgainst_49 (by first | exact Nat.le_of_ble_eq_true rfl | omega | (dsimp only; omega)) (by first | exact Nat.le_of_ble_eq_true rfl | omega | (dsimp only; omega)) h
            · replace h := h.2 c
              refine V_iconst (v := 3) hG (by decide) dX1_reasonAgainst_39 ?_
              exact V_iret hG dX1_reasonAgainst_40 (by first | exact Nat.le_of_ble_eq_true rfl | omega | (dsimp only; omega)) (by first | exact Nat.le_of_ble_eq_true rfl | omega | (dsimp only; omega)) h
        · replace h := h.2 c
          refine V_iconst (v := 2) hG (by decide) dX1_reasonAgainst_28 ?_
          exact V_iret hG dX1_reasonAgainst_29 (by first | exact Nat.le_of_ble_eq_true rfl | omega | (dsimp only; omega)) (by first | exact Nat.le_of_ble_eq_true rfl | omega | (dsimp only; omega)) h
      · replace h := h.1 c
        subst c
        refine V_iconst (v := 1) hG (by decide) dX1_reasonAgainst_19 ?_
        exact V_iret hG dX1_reasonAgainst_20 (by first | exact Nat.le_of_ble_eq_true rfl | omega | (dsimp only; omega)) (by first | exact Nat.le_of_ble_eq_true rfl | omega | (dsimp only; omega)) h
def wp_X8_sourcesOf_66 (K8 : Nat → Option Nat → Int32 → Int64 → Int32 → Sg → Prop) (this : Nat) (v1 : Option Nat) (v3 : Int32) (v4 : Int64) (v6 : Int32) (σ : Sg) (Post : Rs → Sg → Prop) : Prop := (K8 this v1 v3 v4 (v6 + 1) σ)
set_option maxRecDepth 100000 in
set_option maxHeartbeats 4000000 in
theorem wv_X8_sourcesOf_66 {L9 : Launch} {G : Cx} {Post : Rs → Sg → Prop} (hl : L9.stackTraces = false) (hG : CX L9 G yX8_sourcesOf cX8_sourcesOf 8 (some .long) [] { frames := 1, cells := 0, slots := 0, locals := 20 }) {K8 : Nat → Option Nat → Int32 → Int64 → Int32 → Sg → Prop} (hK8 : ∀ (this : Nat) (v1 : Option Nat) (v3 : Int32) (v4 : Int64) (v6 : Int32) (ζ : Sg), K8 this v1 v3 v4 v6 ζ → V G (QM G 0 0 Post) 8 [some (.ref this), some (va_rf v1), none, some (.int v3), some (.long v4), none, some (.int v6), none] [] ζ 0 0) : ∀ (this : Nat) (v1 : Option Nat) (v3 : Int32) (v4 : Int64) (v6 : Int32) (σ : Sg), wp_X8_sourcesOf_66 K8 this v1 v3 v4 v6 σ Post → V G (QM G 0 0 Post) 66 [some (.ref this), some (va_rf v1), none, some (.int v3), some (.long v4), none, some (.int v6), none] [] σ 0 0 := by
  intro this v1 v3 v4 v6 σ h
  unfold wp_X8_sourcesOf_66 at h
  refine V_iincv (c := 1) hG dX8_sourcesOf_66 rfl (by decide) (hpN rfl) ?_
  refine V_goto (tgt := 8) hG dX8_sourcesOf_69 (by decide) ?_
  refine V_forget (lo' := [some (.ref this), some (va_rf v1), none, some (.int v3), some (.long v4), none, some (.int (v6 + 1)), none]) ⟨rfl, ⟨rfl, ⟨rfl, ⟨rfl, ⟨rfl, trivial⟩⟩⟩⟩⟩ ?_
  exact hK8 _ _ _ _ _ _ h
def wp_X8_sourcesOf_8  : Nat → Nat → Option Nat → Int32 → Int64 → Int32 → Sg → (Rs → Sg → Prop) → Prop
  | 0, _, _, _, _, _, _, _ => False
  | f + 1, this, v1, v3, v4, v6, σ, Post => this % 32 = 8 ∧ (((sI σ this 1) ≤ v6 → Post (.inl (some (.long v4))) σ) ∧ (¬ (sI σ this 1) ≤ v6 → ((v3 ≤ 0 → Post (.inl (some (.long v4))) σ) ∧ (¬ v3 ≤ 0 → this % 32 = 8 ∧ ∀ o1, o1 = sP σ this 0 → ∃ u2, o1 = some u2 ∧ isRow u2 ∧ ∃ j3, v6 = nI j3 ∧ j3 < aln u2 ∧ ∀ o4, o4 = sP σ u2 j3 → ∃ u5, o4 = some u5 ∧ u5 % 32 = 0 ∧ ∀ o6, o6 = sP σ u5 1 → ((¬ o6 = v1 → (wp_X8_sourcesOf_66 (fun z0 z1 z2 z3 z4 ζ => wp_X8_sourcesOf_8 f z0 z1 z2 z3 z4 ζ Post) this v1 v3 v4 v6 σ Post)) ∧ (o6 = v1 → u5 % 32 = 0 ∧ ((¬ (sI σ u5 4) = (3 : Int32) → (wp_X8_sourcesOf_66 (fun z0 z1 z2 z3 z4 ζ => wp_X8_sourcesOf_8 f z0 z1 z2 z3 z4 ζ Post) this v1 v3 v4 v6 σ Post)) ∧ ((sI σ u5 4) = (3 : Int32) → u5 % 32 = 0 ∧ wp_X0_bit u5 σ (KJ (fun x8 σ7 => u5 % 32 = 0 ∧ (wp_X8_sourcesOf_66 (fun z0 z1 z2 z3 z4 ζ => wp_X8_sourcesOf_8 f z0 z1 z2 z3 z4 ζ Post) this v1 (v3 - (sI σ7 u5 2)) (v4 ||| x8) v6 σ7 Post)) (fun E σ7 => Post (.inr E) σ7))))))))))
set_option maxRecDepth 100000 in
set_option maxHeartbeats 4000000 in
theorem wv_X8_sourcesOf_8 {L9 : Launch} {G : Cx} {Post : Rs → Sg → Prop} (hl : L9.stackTraces = false) (hG : CX L9 G yX8_sourcesOf cX8_sourcesOf 8 (some .long) [] { frames := 1, cells := 0, slots := 0, locals := 20 })   : ∀ (f : Nat) (this : Nat) (v1 : Option Nat) (v3 : Int32) (v4 : Int64) (v6 : Int32) (σ : Sg), wp_X8_sourcesOf_8 f this v1 v3 v4 v6 σ Post → V G (QM G 0 0 Post) 8 [some (.ref this), some (va_rf v1), none, some (.int v3), some (.long v4), none, some (.int v6), none] [] σ 0 0 := by
  intro f
  induction f with
  | zero => intro _ _ _ _ _ σ h; exact h.elim
  | succ f ih =>
    intro this v1 v3 v4 v6 σ h
    refine V_iload hG dX8_sourcesOf_8 rfl ?_
    refine V_aload_n (v := .ref this) hG dX8_sourcesOf_10 rfl rfl ?_
    obtain ⟨ht, h⟩ := h
    refine V_getI hG dX8_sourcesOf_11 fl_X8_27 rfl ht ?_
    refine V_icmp_ge (tgt := 72) hG dX8_sourcesOf_14 (by decide) (fun c => ?_) (fun c => ?_)
    · replace h := h.1 c
      refine V_lload hG dX8_sourcesOf_72 rfl ?_
      exact V_lret hG dX8_sourcesOf_74 (by first | exact Nat.le_of_ble_eq_true rfl | omega | (dsimp only; omega)) (by first | exact Nat.le_of_ble_eq_true rfl | omega | (dsimp only; omega)) h
    · replace h := h.2 c
      refine V_iload_n hG dX8_sourcesOf_17 rfl ?_
      refine V_if_le (tgt := 72) hG dX8_sourcesOf_18 (by decide) (fun c => ?_) (fun c => ?_)
      · replace h := h.1 c
        refine V_lload hG dX8_sourcesOf_72 rfl ?_
        exact V_lret hG dX8_sourcesOf_74 (by first | exact Nat.le_of_ble_eq_true rfl | omega | (dsimp only; omega)) (by first | exact Nat.le_of_ble_eq_true rfl | omega | (dsimp only; omega)) h
      · replace h := h.2 c
        refine V_aload_n (v := .ref this) hG dX8_sourcesOf_21 rfl rfl ?_
        obtain ⟨ht, h⟩ := h
        refine V_getPv hG dX8_sourcesOf_22 fl_X8_11 rfl ht (fun o1 ho => ?_)
        replace h := h o1 ho
        refine V_iload hG dX8_sourcesOf_25 rfl ?_
        obtain ⟨u2, he, h⟩ := h
        subst he
        obtain ⟨ha, j3, hi, hj, h⟩ := h
        refine V_aaldv hG dX8_sourcesOf_27 ha hi hj (fun o4 ho => ?_)
        replace h := h o4 ho
        refine V_astore hG dX8_sourcesOf_28 (isRef_rf _) (Nat.le_of_ble_eq_true rfl) (hpV rfl rfl) ?_
        refine V_aload (v := va_rf o4) hG dX8_sourcesOf_30 (isRef_rf _) rfl ?_
        obtain ⟨u5, he, h⟩ := h
        subst he
        obtain ⟨ht, h⟩ := h
        refine V_getPv hG dX8_sourcesOf_32 fl_X8_71 rfl ht (fun o6 ho => ?_)
        replace h := h o6 ho
        refine V_aload_n (v := va_rf v1) hG dX8_sourcesOf_35 (isRef_rf _) rfl ?_
        refine V_acmp_ne (a := o6) (b := v1) (tgt := 66) hG dX8_sourcesOf_36 (by decide) (fun c => ?_) (fun c => ?_)
        · replace h := h.1 c
          refine V_forget (lo' := [some (.ref this), some (va_rf v1), none, some (.int v3), some (.long v4), none, some (.int v6), none]) ⟨rfl, ⟨rfl, ⟨rfl, ⟨rfl, ⟨rfl, trivial⟩⟩⟩⟩⟩ ?_
          refine V_widen (k' := 0) (n' := 0) (by first | exact Nat.le_of_ble_eq_true rfl | omega | (dsimp only; omega)) (by first | exact Nat.le_of_ble_eq_true rfl | omega | (dsimp only; omega)) ?_
          exact wv_X8_sourcesOf_66 hl hG (fun z0 z1 z2 z3 z4 ζ hz => ih z0 z1 z2 z3 z4 ζ hz) _ _ _ _ _ _ h
        · replace h := h.2 c
          refine V_aload (v := .ref u5) hG dX8_sourcesOf_39 rfl rfl ?_
          obtain ⟨ht, h⟩ := h
          refine V_getI hG dX8_sourcesOf_41 fl_X8_68 rfl ht ?_
          refine V_iconst (v := 3) hG (by decide) dX8_sourcesOf_44 ?_
          refine V_icmp_ne (tgt := 66) hG dX8_sourcesOf_45 (by decide) (fun c => ?_) (fun c => ?_)
          · replace h := h.1 c
            refine V_forget (lo' := [some (.ref this), some (va_rf v1), none, some (.int v3), some (.long v4), none, some (.int v6), none]) ⟨rfl, ⟨rfl, ⟨rfl, ⟨rfl, ⟨rfl, trivial⟩⟩⟩⟩⟩ ?_
            refine V_widen (k' := 0) (n' := 0) (by first | exact Nat.le_of_ble_eq_true rfl | omega | (dsimp only; omega)) (by first | exact Nat.le_of_ble_eq_true rfl | omega | (dsimp only; omega)) ?_
            exact wv_X8_sourcesOf_66 hl hG (fun z0 z1 z2 z3 z4 ζ hz => ih z0 z1 z2 z3 z4 ζ hz) _ _ _ _ _ _ h
          · replace h := h.2 c
            refine V_lload hG dX8_sourcesOf_48 rfl ?_
            refine V_aload (v := .ref u5) hG dX8_sourcesOf_50 rfl rfl ?_
            obtain ⟨ht, h⟩ := h
            refine V_cVJ _ _ hG dX8_sourcesOf_52 (ct_X0_bit hl h) mv_X0_bit ml_X8_100 ht rfl rfl rfl rfl (by first | exact Nat.le_of_ble_eq_true rfl | (simp only [List.map_cons, List.map_nil, List.sum_cons, List.sum_nil, cat_rf]; exact Nat.le_of_ble_eq_true rfl)) (Nat.le_of_ble_eq_true rfl) (Nat.le_of_ble_eq_true rfl) (by first | exact Nat.le_of_ble_eq_true rfl | omega | (dsimp only; omega)) (by first | exact Nat.le_of_ble_eq_true rfl | omega | (dsimp only; omega)) ?_ (fun x8 σ7 h9 => ?_)
            · exact fun E σ7 hx => VX_out hG (by first | exact Nat.le_of_ble_eq_true rfl | omega | (dsimp only; omega)) (by first | exact Nat.le_of_ble_eq_true rfl | omega | (dsimp only; omega)) hx
            · replace h := h9
              clear h9
              refine V_lor hG dX8_sourcesOf_55 ?_
              refine V_lstore hG dX8_sourcesOf_56 (Nat.le_of_ble_eq_true rfl) (hpV rfl rfl) ?_
              refine V_iload_n hG dX8_sourcesOf_58 rfl ?_
              refine V_aload (v := .ref u5) hG dX8_sourcesOf_59 rfl rfl ?_
              obtain ⟨ht, h⟩ := h
              refine V_getI hG dX8_sourcesOf_61 fl_X8_78 rfl ht ?_
              refine V_isub hG dX8_sourcesOf_64 ?_
              refine V_istore_n hG dX8_sourcesOf_65 (Nat.le_of_ble_eq_true rfl) (hpN rfl) ?_
              refine V_forget (lo' := [some (.ref this), some (va_rf v1), none, some (.int (v3 - (sI σ7 u5 2))), some (.long (v4 ||| x8)), none, some (.int v6), none]) ⟨rfl, ⟨rfl, ⟨rfl, ⟨rfl, ⟨rfl, trivial⟩⟩⟩⟩⟩ ?_
              refine V_widen (k' := 0) (n' := 0) (by first | exact Nat.le_of_ble_eq_true rfl | omega | (dsimp only; omega)) (by first | exact Nat.le_of_ble_eq_true rfl | omega | (dsimp only; omega)) ?_
              exact wv_X8_sourcesOf_66 hl hG (fun z0 z1 z2 z3 z4 ζ hz => ih z0 z1 z2 z3 z4 ζ hz) _ _ _ _ _ _ h
def wp_X8_sourcesOf (this : Nat) (a0 : Option Nat) (a1 : Int32) (σ : Sg) (Post : Rs → Sg → Prop) : Prop := (∃ g, wp_X8_sourcesOf_8 g this a0 a1 (0 : Int64) (0 : Int32) σ Post)
set_option maxRecDepth 100000 in
set_option maxHeartbeats 4000000 in
theorem ct_X8_sourcesOf {l : Launch} (hl : l.stackTraces = false) {this : Nat} {a0 : Option Nat} {a1 : Int32} {σ : Sg} {Post : Rs → Sg → Prop} (h : wp_X8_sourcesOf this a0 a1 σ Post) : Ct l yX8_sourcesOf (.code yX8_sourcesOf cX8_sourcesOf 8 (some .long)) 1 20 0 0 [.ref this, va_rf a0, .int a1] σ Post := by
  refine Ct_of [some (.ref this), some (va_rf a0), some (.int a1), none, none, none, none, none] hl (by decide +kernel) rfl (fun ad => by cases a0 <;> rfl) (fun ad => by cases a0 <;> exact Nat.le_of_ble_eq_true rfl) (fun v hv => mem_lo hv rfl) ?_
  intro G hG
  unfold wp_X8_sourcesOf at h
  refine V_iload_n hG dX8_sourcesOf_0 rfl ?_
  refine V_istore_n hG dX8_sourcesOf_1 (Nat.le_of_ble_eq_true rfl) (hpV rfl rfl) ?_
  refine V_lconst (v := 0) hG (by decide) dX8_sourcesOf_2 ?_
  refine V_lstore hG dX8_sourcesOf_3 (Nat.le_of_ble_eq_true rfl) (hpV rfl rfl) ?_
  refine V_iconst (v := 0) hG (by decide) dX8_sourcesOf_5 ?_
  refine V_istore hG dX8_sourcesOf_6 (Nat.le_of_ble_eq_true rfl) (hpN rfl) ?_
  refine V_forget (lo' := [some (.ref this), some (va_rf a0), none, some (.int a1), some (.long (0 : Int64)), none, some (.int (0 : Int32)), none]) ⟨rfl, ⟨rfl, ⟨rfl, ⟨rfl, ⟨rfl, trivial⟩⟩⟩⟩⟩ ?_
  obtain ⟨g, h⟩ := h
  refine V_widen (k' := 0) (n' := 0) (by first | exact Nat.le_of_ble_eq_true rfl | omega | (dsimp only; omega)) (by first | exact Nat.le_of_ble_eq_true rfl | omega | (dsimp only; omega)) ?_
  exact wv_X8_sourcesOf_8 hl hG  g _ _ _ _ _ _ h
