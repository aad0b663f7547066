/-! The judgement V: the method's walk over the store; a row an instruction. -/
abbrev Cx : Type := Launch × Program × Jvm.Env × Room × State × MethodId × Array Value × List Frame × Method × Code × Nat × Nat × va_G × (Nat → ClassId) × (Nat → Nat) × Sg
/-- a call's end: what it returned (or nothing), or the class that it threw -/
abbrev Rs : Type := Option Value ⊕ String
def V (G : Cx) (Q : State → Prop) (pc : Nat) (lo : Lo) (st : List Value) (σ : Sg) (k n : Nat) : Prop :=
  match G with
  | (l, p, e, R, s, m, args, below, meth, c, base, bS, D, cA, ad0, σ0) =>
    ∀ (ad : Nat → Nat) (H : Heap) (locs : List Loc) (ls : Array Slot), Rp D cA base bS ad σ H → va_S (fun q => base ≤ q) s.heap H locs → lo.length = c.maxLocals → lv_has ls c.maxLocals (asl ad 0 lo) → okl σ lo → oks σ st →
      (∀ t, sX σ0 t = true → sX σ t = true ∧ ad t = ad0 t) → W p l e R s m args below meth c H locs k n Q (F0 m pc ls (st.map (cv ad)))
/-- what holds in a method for good: y its name, cc its code, ret its type, hh its handlers; rm its room -/
def CX (L9 : Launch) (G : Cx) (y : MethodName) (cc : ByteArray) (mL : Nat) (ret : Option FieldType) (hh : List (Nat × Nat × Nat × Nat)) (rm : Room) : Prop :=
  match G with
  | (l, p, _, R, s, m, args, _, meth, c, base, bS, D, cA, ad0, σ0) =>
    p.tables.exec = Jvm.exec ∧ c.code = cc ∧ c.maxLocals = mL ∧ s.vm.findClass y.cls = some m.cls ∧ (∀ w ∈ GW, w.before args s = true) ∧ meth.locks = false ∧ (l = L9 ∧ l.stackTraces = false) ∧ meth.sig.returnType = ret ∧ meth.name = y.name ∧
    c.exceptionTable.toList = tableOf hh ∧ R = rm ∧ Ev base D cA s
theorem oks_ci {σ : Sg} {x : Int32} {st : List Value} (h : oks σ st) : oks σ (.int x :: st) := oks_c trivial h
theorem oks_cj {σ : Sg} {x : Int64} {st : List Value} (h : oks σ st) : oks σ (.long x :: st) := oks_c trivial h
theorem oks_cn {σ : Sg} {st : List Value} (h : oks σ st) : oks σ (.null :: st) := oks_c trivial h
section ROWS
variable {L9 : Launch} {G : Cx} {Q : State → Prop} {pc : Nat} {lo lo' : Lo} {st r : List Value} {σ : Sg} {k n : Nat} {y : MethodName} {cc : ByteArray} {mL : Nat} {ret : Option FieldType} {hh : List (Nat × Nat × Nat × Nat)} {rm : Room}
theorem V_pure {pc' : Nat} {st' : List Value} (hG : CX L9 G y cc mL ret hh rm)
    (hW : ∀ {p : Program} {l : Launch} {e : Jvm.Env} {R : Room} {s : State} {m : MethodId} {args : Array Value} {below : List Frame} {meth : Method} {c : Code} {H : Heap} {locs : List Loc} {ls : Array Slot} (ad : Nat → Nat), p.tables.exec = Jvm.exec → c.code = cc → s.vm.findClass y.cls = some m.cls → (∀ w ∈ GW, w.before args s = true) → lv_has ls c.maxLocals (asl ad 0 lo) →
      W p l e R s m args below meth c H locs k n Q (F0 m pc' ls (st'.map (cv ad))) → W p l e R s m args below meth c H locs k n Q (F0 m pc ls (st.map (cv ad))))
    (hok : okl σ lo → oks σ st → oks σ st') (kk : V G Q pc' lo st' σ k n) : V G Q pc lo st σ k n := by
  obtain ⟨l, p, e, R, s, m, args, below, meth, c, base, bS, D, cA, ad0, σ0⟩ := G
  obtain ⟨hx, hb, -, hown, hts, -⟩ := hG
  intro ad H locs ls hR hS hlen hl ho hs hx0
  exact hW ad hx hb hown hts hl (kk ad H locs ls hR hS hlen hl ho (hok ho hs) hx0)
theorem V_top {v v' : Value} (h : v = v') (kk : V G Q pc lo (v' :: r) σ k n) : V G Q pc lo (v :: r) σ k n := h ▸ kk
theorem V_eq {st' : List Value} {lo' : Lo} {σ' : Sg} (h1 : lo = lo') (h2 : st = st') (h3 : σ = σ') (kk : V G Q pc lo' st' σ' k n) : V G Q pc lo st σ k n := h1 ▸ h2 ▸ h3 ▸ kk
theorem V_widen {k' n' : Nat} (h1 : k ≤ k') (h2 : n ≤ n') (kk : V G Q pc lo st σ k' n') : V G Q pc lo st σ k n := by
  obtain ⟨l, p, e, R, s, m, args, below, meth, c, base, bS, D, cA, ad0, σ0⟩ := G
  intro ad H locs ls hR hS hlen hl ho hs hx0
  exact W.widen h1 h2 (kk ad H locs ls hR hS hlen hl ho hs hx0)
/-- fewer locals are remembered -/
theorem V_lo (hlen : lo'.length = lo.length) (h : ∀ (i : Nat) (v : Value), lo'[i]? = some (some v) → lo[i]? = some (some v)) (kk : V G Q pc lo' st σ k n) : V G Q pc lo st σ k n := by
  obtain ⟨l, p, e, R, s, m, args, below, meth, c, base, bS, D, cA, ad0, σ0⟩ := G
  intro ad H locs ls hR hS hlen1 hl ho hs hx0
  refine kk ad H locs ls hR hS (hlen.trans hlen1) (lv_mono hl fun q hq => ?_) (fun v hv => ?_) hs hx0
  · obtain ⟨v, h1, h2, h3⟩ := (asl_mem lo' 0 q.1 q.2).mp hq
    exact (asl_mem lo 0 q.1 q.2).mpr ⟨v, h1, h _ _ h2, h3⟩
  · obtain ⟨i, hi⟩ := List.getElem?_of_mem hv
    exact ho v (List.mem_of_getElem? (h i v hi))
theorem V_store {pc' i : Nat} {v : Value} (hG : CX L9 G y cc mL ret hh rm) (hi : i < lo.length) (hc : v.category = 1) (hp : ∀ w, 0 < i → lo[i - 1]? = some (some w) → w.category = 1)
    (hW : ∀ {p : Program} {l : Launch} {e : Jvm.Env} {R : Room} {s : State} {m : MethodId} {args : Array Value} {below : List Frame} {meth : Method} {c : Code} {H : Heap} {locs : List Loc} {ls : Array Slot} {lv : List (Nat × Value)} (ad : Nat → Nat), p.tables.exec = Jvm.exec → c.code = cc → lv_has ls c.maxLocals lv → i < c.maxLocals →
      (∀ ls' : Array Slot, lv_has ls' c.maxLocals ((i, cv ad v) :: lv.filter (fun q => !(q.1 == i) && !(q.1 + 1 == i && q.2.category == 2))) → W p l e R s m args below meth c H locs k n Q (F0 m pc' ls' (r.map (cv ad)))) → W p l e R s m args below meth c H locs k n Q (F0 m pc ls ((v :: r).map (cv ad))))
    (kk : V G Q pc' (lo.set i (some v)) r σ k n) : V G Q pc lo (v :: r) σ k n := by
  obtain ⟨l, p, e, R, s, m, args, below, meth, c, base, bS, D, cA, ad0, σ0⟩ := G
  obtain ⟨hx, hb, -⟩ := hG
  intro ad H locs ls hR hS hlen hl ho hs hx0
  refine hW ad hx hb hl (hlen ▸ hi) fun ls' hl' => kk ad H locs ls' hR hS (by rw [List.length_set]; exact hlen) (lv_mono hl' fun q hq => ?_) (okl_set ho (oks_hd hs)) (oks_tl hs) hx0
  obtain ⟨j, w⟩ := q
  obtain ⟨w', h1, h2, h3⟩ := (asl_mem _ 0 j w).mp hq
  rw [Nat.sub_zero] at h2
  by_cases e1 : j = i
  · subst e1
    rw [List.getElem?_set_self hi] at h2
    cases h2
    rw [h3]
    exact List.mem_cons_self
  · rw [List.getElem?_set_ne (Ne.symm e1)] at h2
    refine List.mem_cons_of_mem _ (List.mem_filter.mpr ⟨(asl_mem lo 0 j w).mpr ⟨w', h1, h2, h3⟩, ?_⟩)
    have hcat : j + 1 = i → ¬ w.category = 2 := fun e2 => by
      have h4 : i - 1 = j := by omega
      have := hp w' (by omega) (by rw [h4]; exact h2)
      rw [h3, cv_cat]
      omega
    by_cases e2 : j + 1 = i
    · simp [e1, hcat e2]
    · simp [e1, e2]
theorem V_store2 {pc' i : Nat} {x : Int64} (hG : CX L9 G y cc mL ret hh rm) (hi : i + 1 < lo.length) (hp : ∀ w, 0 < i → lo[i - 1]? = some (some w) → w.category = 1)
    (hW : ∀ {p : Program} {l : Launch} {e : Jvm.Env} {R : Room} {s : State} {m : MethodId} {args : Array Value} {below : List Frame} {meth : Method} {c : Code} {H : Heap} {locs : List Loc} {ls : Array Slot} {lv : List (Nat × Value)} (ad : Nat → Nat), p.tables.exec = Jvm.exec → c.code = cc → lv_has ls c.maxLocals lv → i + 1 < c.maxLocals →
      (∀ ls' : Array Slot, lv_has ls' c.maxLocals ((i, .long x) :: lv.filter (fun q => !(q.1 == i) && (!(q.1 == i + 1) && !(q.1 + 1 == i && q.2.category == 2)))) → W p l e R s m args below meth c H locs k n Q (F0 m pc' ls' (r.map (cv ad)))) → W p l e R s m args below meth c H locs k n Q (F0 m pc ls (.long x :: r.map (cv ad))))
    (kk : V G Q pc' ((lo.set i (some (.long x))).set (i + 1) none) r σ k n) : V G Q pc lo (.long x :: r) σ k n := by
  obtain ⟨l, p, e, R, s, m, args, below, meth, c, base, bS, D, cA, ad0, σ0⟩ := G
  obtain ⟨hx, hb, -⟩ := hG
  intro ad H locs ls hR hS hlen hl ho hs hx0
  refine hW ad hx hb hl (hlen ▸ hi) fun ls' hl' => kk ad H locs ls' hR hS (by rw [List.length_set, List.length_set]; exact hlen) (lv_mono hl' fun q hq => ?_) (fun w hw => ?_) (oks_tl hs) hx0
  · obtain ⟨j, w⟩ := q
    obtain ⟨w', h1, h2, h3⟩ := (asl_mem _ 0 j w).mp hq
    rw [Nat.sub_zero] at h2
    by_cases e0 : j = i + 1
    · subst e0
      rw [List.getElem?_set_self (by rw [List.length_set]; exact hi)] at h2
      cases h2
    rw [List.getElem?_set_ne (Ne.symm e0)] at h2
    by_cases e1 : j = i
    · subst e1
      rw [List.getElem?_set_self (by omega)] at h2
      cases h2
      rw [h3]
      exact List.mem_cons_self
    · rw [List.getElem?_set_ne (Ne.symm e1)] at h2
      refine List.mem_cons_of_mem _ (List.mem_filter.mpr ⟨(asl_mem lo 0 j w).mpr ⟨w', h1, h2, h3⟩, ?_⟩)
      have hcat : j + 1 = i → ¬ w.category = 2 := fun e2 => by
        have h4 : i - 1 = j := by omega
        have := hp w' (by omega) (by rw [h4]; exact h2)
        rw [h3, cv_cat]
        omega
      by_cases e2 : j + 1 = i
      · simp [e0, e1, hcat e2]
      · simp [e0, e1, e2]
  · rcases List.mem_or_eq_of_mem_set hw with h1 | h1
    · exact okl_set (v := .long x) ho trivial w h1
    · cases h1

theorem V_iadd (hG : CX L9 G y cc mL ret hh rm) {a b : Int32}  (d : decode cc pc = .ok (.iadd, 1)) (kk : V G Q (pc + 1) lo (.int (a + b) :: r) σ k n) : V G Q pc lo (.int b :: .int a :: r) σ k n :=
  V_pure hG (fun ad hx hb ho ht hl h => lv_iadd hx hb d h) (fun hl h => oks_ci (oks_tl (oks_tl h))) kk
theorem V_isub (hG : CX L9 G y cc mL ret hh rm) {a b : Int32}  (d : decode cc pc = .ok (.isub, 1)) (kk : V G Q (pc + 1) lo (.int (a - b) :: r) σ k n) : V G Q pc lo (.int b :: .int a :: r) σ k n :=
  V_pure hG (fun ad hx hb ho ht hl h => lv_isub hx hb d h) (fun hl h => oks_ci (oks_tl (oks_tl h))) kk
theorem V_imul (hG : CX L9 G y cc mL ret hh rm) {a b : Int32}  (d : decode cc pc = .ok (.imul, 1)) (kk : V G Q (pc + 1) lo (.int (a * b) :: r) σ k n) : V G Q pc lo (.int b :: .int a :: r) σ k n :=
  V_pure hG (fun ad hx hb ho ht hl h => lv_imul hx hb d h) (fun hl h => oks_ci (oks_tl (oks_tl h))) kk
theorem V_iand (hG : CX L9 G y cc mL ret hh rm) {a b : Int32}  (d : decode cc pc = .ok (.iand, 1)) (kk : V G Q (pc + 1) lo (.int (a &&& b) :: r) σ k n) : V G Q pc lo (.int b :: .int a :: r) σ k n :=
  V_pure hG (fun ad hx hb ho ht hl h => lv_iand hx hb d h) (fun hl h => oks_ci (oks_tl (oks_tl h))) kk
theorem V_ior (hG : CX L9 G y cc mL ret hh rm) {a b : Int32}  (d : decode cc pc = .ok (.ior, 1)) (kk : V G Q (pc + 1) lo (.int (a ||| b) :: r) σ k n) : V G Q pc lo (.int b :: .int a :: r) σ k n :=
  V_pure hG (fun ad hx hb ho ht hl h => lv_ior hx hb d h) (fun hl h => oks_ci (oks_tl (oks_tl h))) kk
theorem V_ixor (hG : CX L9 G y cc mL ret hh rm) {a b : Int32}  (d : decode cc pc = .ok (.ixor, 1)) (kk : V G Q (pc + 1) lo (.int (a ^^^ b) :: r) σ k n) : V G Q pc lo (.int b :: .int a :: r) σ k n :=
  V_pure hG (fun ad hx hb ho ht hl h => lv_ixor hx hb d h) (fun hl h => oks_ci (oks_tl (oks_tl h))) kk
theorem V_ishl (hG : CX L9 G y cc mL ret hh rm) {a b : Int32}  (d : decode cc pc = .ok (.ishl, 1)) (kk : V G Q (pc + 1) lo (.int (a <<< (b &&& 31)) :: r) σ k n) : V G Q pc lo (.int b :: .int a :: r) σ k n :=
  V_pure hG (fun ad hx hb ho ht hl h => lv_ishl hx hb d h) (fun hl h => oks_ci (oks_tl (oks_tl h))) kk
theorem V_ishr (hG : CX L9 G y cc mL ret hh rm) {a b : Int32}  (d : decode cc pc = .ok (.ishr, 1)) (kk : V G Q (pc + 1) lo (.int (a >>> (b &&& 31)) :: r) σ k n) : V G Q pc lo (.int b :: .int a :: r) σ k n :=
  V_pure hG (fun ad hx hb ho ht hl h => lv_ishr hx hb d h) (fun hl h => oks_ci (oks_tl (oks_tl h))) kk
theorem V_idiv (hG : CX L9 G y cc mL ret hh rm) {a b : Int32} (hne : ¬ b = 0) (d : decode cc pc = .ok (.idiv, 1)) (kk : V G Q (pc + 1) lo (.int (a / b) :: r) σ k n) : V G Q pc lo (.int b :: .int a :: r) σ k n :=
  V_pure hG (fun ad hx hb ho ht hl h => lv_idiv hx hb d hne h) (fun hl h => oks_ci (oks_tl (oks_tl h))) kk
theorem V_irem (hG : CX L9 G y cc mL ret hh rm) {a b : Int32} (hne : ¬ b = 0) (d : decode cc pc = .ok (.irem, 1)) (kk : V G Q (pc + 1) lo (.int (a - a / b * b) :: r) σ k n) : V G Q pc lo (.int b :: .int a :: r) σ k n :=
  V_pure hG (fun ad hx hb ho ht hl h => lv_irem hx hb d hne h) (fun hl h => oks_ci (oks_tl (oks_tl h))) kk
theorem V_ladd (hG : CX L9 G y cc mL ret hh rm) {a b : Int64}  (d : decode cc pc = .ok (.ladd, 1)) (kk : V G Q (pc + 1) lo (.long (a + b) :: r) σ k n) : V G Q pc lo (.long b :: .long a :: r) σ k n :=
  V_pure hG (fun ad hx hb ho ht hl h => lv_ladd hx hb d h) (fun hl h => oks_cj (oks_tl (oks_tl h))) kk
theorem V_lsub (hG : CX L9 G y cc mL ret hh rm) {a b : Int64}  (d : decode cc pc = .ok (.lsub, 1)) (kk : V G Q (pc + 1) lo (.long (a - b) :: r) σ k n) : V G Q pc lo (.long b :: .long a :: r) σ k n :=
  V_pure hG (fun ad hx hb ho ht hl h => lv_lsub hx hb d h) (fun hl h => oks_cj (oks_tl (oks_tl h))) kk
theorem V_lmul (hG : CX L9 G y cc mL ret hh rm) {a b : Int64}  (d : decode cc pc = .ok (.lmul, 1)) (kk : V G Q (pc + 1) lo (.long (a * b) :: r) σ k n) : V G Q pc lo (.long b :: .long a :: r) σ k n :=
  V_pure hG (fun ad hx hb ho ht hl h => lv_lmul hx hb d h) (fun hl h => oks_cj (oks_tl (oks_tl h))) kk
theorem V_land (hG : CX L9 G y cc mL ret hh rm) {a b : Int64}  (d : decode cc pc = .ok (.land, 1)) (kk : V G Q (pc + 1) lo (.long (a &&& b) :: r) σ k n) : V G Q pc lo (.long b :: .long a :: r) σ k n :=
  V_pure hG (fun ad hx hb ho ht hl h => lv_land hx hb d h) (fun hl h => oks_cj (oks_tl (oks_tl h))) kk
theorem V_lor (hG : CX L9 G y cc mL ret hh rm) {a b : Int64}  (d : decode cc pc = .ok (.lor, 1)) (kk : V G Q (pc + 1) lo (.long (a ||| b) :: r) σ k n) : V G Q pc lo (.long b :: .long a :: r) σ k n :=
  V_pure hG (fun ad hx hb ho ht hl h => lv_lor hx hb d h) (fun hl h => oks_cj (oks_tl (oks_tl h))) kk
theorem V_ldiv (hG : CX L9 G y cc mL ret hh rm) {a b : Int64} (hne : ¬ b = 0) (d : decode cc pc = .ok (.ldiv, 1)) (kk : V G Q (pc + 1) lo (.long (a / b) :: r) σ k n) : V G Q pc lo (.long b :: .long a :: r) σ k n :=
  V_pure hG (fun ad hx hb ho ht hl h => lv_ldiv hx hb d hne h) (fun hl h => oks_cj (oks_tl (oks_tl h))) kk
theorem V_lushr (hG : CX L9 G y cc mL ret hh rm) {a : Int64} {b : Int32} (d : decode cc pc = .ok (.lushr, 1)) (kk : V G Q (pc + 1) lo (.long ((a.toUInt64 >>> (b.toInt64.toUInt64 &&& Int64.toUInt64 63)).toInt64) :: r) σ k n) : V G Q pc lo (.int b :: .long a :: r) σ k n :=
  V_pure hG (fun ad hx hb ho ht hl h => lv_lushr hx hb d rfl h) (fun hl h => oks_cj (oks_tl (oks_tl h))) kk
theorem V_lshl (hG : CX L9 G y cc mL ret hh rm) {a : Int64} {b : Int32} (d : decode cc pc = .ok (.lshl, 1)) (kk : V G Q (pc + 1) lo (.long (a <<< (b.toInt64 &&& 63)) :: r) σ k n) : V G Q pc lo (.int b :: .long a :: r) σ k n :=
  V_pure hG (fun ad hx hb ho ht hl h => lv_lshl hx hb d rfl h) (fun hl h => oks_cj (oks_tl (oks_tl h))) kk
theorem V_lshr (hG : CX L9 G y cc mL ret hh rm) {a : Int64} {b : Int32} (d : decode cc pc = .ok (.lshr, 1)) (kk : V G Q (pc + 1) lo (.long (a >>> (b.toInt64 &&& 63)) :: r) σ k n) : V G Q pc lo (.int b :: .long a :: r) σ k n :=
  V_pure hG (fun ad hx hb ho ht hl h => lv_lshr hx hb d rfl h) (fun hl h => oks_cj (oks_tl (oks_tl h))) kk
theorem V_i2l (hG : CX L9 G y cc mL ret hh rm) {a : Int32} (d : decode cc pc = .ok (.i2l, 1)) (kk : V G Q (pc + 1) lo (.long a.toInt64 :: r) σ k n) : V G Q pc lo (.int a :: r) σ k n :=
  V_pure hG (fun ad hx hb ho ht hl h => lv_i2l hx hb d rfl h) (fun hl h => oks_cj (oks_tl h)) kk
theorem V_l2i (hG : CX L9 G y cc mL ret hh rm) {a : Int64} (d : decode cc pc = .ok (.l2i, 1)) (kk : V G Q (pc + 1) lo (.int a.toInt32 :: r) σ k n) : V G Q pc lo (.long a :: r) σ k n :=
  V_pure hG (fun ad hx hb ho ht hl h => lv_l2i hx hb d rfl h) (fun hl h => oks_ci (oks_tl h)) kk
theorem V_lcmp (hG : CX L9 G y cc mL ret hh rm) {a b : Int64} (d : decode cc pc = .ok (.lcmp, 1)) (kk : V G Q (pc + 1) lo (.int (lg_cmp a b) :: r) σ k n) : V G Q pc lo (.long b :: .long a :: r) σ k n :=
  V_pure hG (fun ad hx hb ho ht hl h => W.lcmp hx hb d h) (fun hl h => oks_ci (oks_tl (oks_tl h))) kk
theorem V_iconst (hG : CX L9 G y cc mL ret hh rm) {z : Int} {v : Int32} (hv : Int32.ofInt z = v) (d : decode cc pc = .ok (.iconst z, 1)) (kk : V G Q (pc + 1) lo (.int v :: r) σ k n) : V G Q pc lo r σ k n :=
  V_pure hG (fun ad hx hb ho ht hl h => lv_iconst hx hb d hv h) (fun hl h => oks_ci h) kk
theorem V_bipush (hG : CX L9 G y cc mL ret hh rm) {z : Int} {v : Int32} (hv : (Int8.ofInt z).toInt32 = v) (d : decode cc pc = .ok (.bipush z, 2)) (kk : V G Q (pc + 2) lo (.int v :: r) σ k n) : V G Q pc lo r σ k n :=
  V_pure hG (fun ad hx hb ho ht hl h => lv_bipush hx hb d hv h) (fun hl h => oks_ci h) kk
theorem V_sipush (hG : CX L9 G y cc mL ret hh rm) {z : Int} {v : Int32} (hv : (Int16.ofInt z).toInt32 = v) (d : decode cc pc = .ok (.sipush z, 3)) (kk : V G Q (pc + 3) lo (.int v :: r) σ k n) : V G Q pc lo r σ k n :=
  V_pure hG (fun ad hx hb ho ht hl h => lv_sipush hx hb d hv h) (fun hl h => oks_ci h) kk
theorem V_lconst (hG : CX L9 G y cc mL ret hh rm) {z : Fin 2} {v : Int64} (hv : Int64.ofNat (z : Nat) = v) (d : decode cc pc = .ok (.lconst z, 1)) (kk : V G Q (pc + 1) lo (.long v :: r) σ k n) : V G Q pc lo r σ k n :=
  V_pure hG (fun ad hx hb ho ht hl h => lv_lconst hx hb d hv h) (fun hl h => oks_cj h) kk
theorem V_ldc2 (hG : CX L9 G y cc mL ret hh rm) {idx : Nat} {v : Int64} (hw : Cond.constantLong y.cls idx v ∈ GW) (d : decode cc pc = .ok (.ldc2_w idx, 3)) (kk : V G Q (pc + 3) lo (.long v :: r) σ k n) : V G Q pc lo r σ k n :=
  V_pure hG (fun ad hx hb ho ht hl h => lv_ldc2 hx hb ho (ht _ hw) d h) (fun hl h => oks_cj h) kk
theorem V_null (hG : CX L9 G y cc mL ret hh rm)  (d : decode cc pc = .ok (.aconst_null, 1)) (kk : V G Q (pc + 1) lo (.null :: r) σ k n) : V G Q pc lo r σ k n :=
  V_pure hG (fun ad hx hb ho ht hl h => lv_null hx hb d h) (fun hl h => oks_cn h) kk
theorem V_dup (hG : CX L9 G y cc mL ret hh rm) {v : Value} (hc : v.category = 1) (d : decode cc pc = .ok (.dup, 1)) (kk : V G Q (pc + 1) lo (v :: v :: r) σ k n) : V G Q pc lo (v :: r) σ k n :=
  V_pure hG (fun ad hx hb ho ht hl h => lv_dup hx hb d ((cv_cat ad v).trans hc) h) (fun hl h => oks_c (oks_hd h) h) kk
theorem V_dup2 (hG : CX L9 G y cc mL ret hh rm) {v w : Value} (hc : v.category = 1) (hc2 : w.category = 1) (d : decode cc pc = .ok (.dup2, 1)) (kk : V G Q (pc + 1) lo (v :: w :: v :: w :: r) σ k n) : V G Q pc lo (v :: w :: r) σ k n :=
  V_pure hG (fun ad hx hb ho ht hl h => lv_dup2_11 hx hb d ((cv_cat ad v).trans hc) ((cv_cat ad w).trans hc2) h) (fun hl h => oks_c (oks_hd h) (oks_c (oks_hd (oks_tl h)) h)) kk
theorem V_dup2l (hG : CX L9 G y cc mL ret hh rm) {a : Int64} (d : decode cc pc = .ok (.dup2, 1)) (kk : V G Q (pc + 1) lo (.long a :: .long a :: r) σ k n) : V G Q pc lo (.long a :: r) σ k n :=
  V_pure hG (fun ad hx hb ho ht hl h => lv_dup2_2 hx hb d rfl h) (fun hl h => oks_cj h) kk
theorem asl_at {ad : Nat → Nat} {ls : Array Slot} {nL i : Nat} {v : Value} (h : lv_has ls nL (asl ad 0 lo)) (hi : lo[i]? = some (some v)) : ls[i]? = some (.val (cv ad v)) := h.2.2 (i, cv ad v) ((asl_mem lo 0 i _).mpr ⟨v, Nat.zero_le _, hi, rfl⟩)
theorem V_iload_n {z : Fin 4} {x : Int32} (hG : CX L9 G y cc mL ret hh rm) (d : decode cc pc = .ok (.iload_n z, 1)) (hl : lo[(z : Nat)]? = some (some (.int x))) (kk : V G Q (pc + 1) lo ((.int x) :: r) σ k n) : V G Q pc lo r σ k n :=
  V_pure hG (fun ad hx hb ho ht h1 h => lv_iload_n hx hb d rfl (asl_at h1 hl) h) (fun h0 h => oks_c (okl_at h0 hl) h) kk
theorem V_lload_n {z : Fin 4} {x : Int64} (hG : CX L9 G y cc mL ret hh rm) (d : decode cc pc = .ok (.lload_n z, 1)) (hl : lo[(z : Nat)]? = some (some (.long x))) (kk : V G Q (pc + 1) lo ((.long x) :: r) σ k n) : V G Q pc lo r σ k n :=
  V_pure hG (fun ad hx hb ho ht h1 h => lv_lload_n hx hb d rfl (asl_at h1 hl) h) (fun h0 h => oks_c (okl_at h0 hl) h) kk
theorem V_aload_n {z : Fin 4} {v : Value} (hG : CX L9 G y cc mL ret hh rm) (d : decode cc pc = .ok (.aload_n z, 1)) (hv : v.isRef = true) (hl : lo[(z : Nat)]? = some (some v)) (kk : V G Q (pc + 1) lo (v :: r) σ k n) : V G Q pc lo r σ k n := by
  refine V_pure hG (fun ad hx hb ho ht h1 h => ?_) (fun h0 h => oks_c (okl_at h0 hl) h) kk
  cases v with
  | ref x => exact lv_aload_n hx hb d rfl (asl_at h1 hl) h
  | null => exact lv_aload_nN hx hb d rfl (asl_at h1 hl) h
  | _ => cases hv
theorem V_iload {i : Nat} {x : Int32} (hG : CX L9 G y cc mL ret hh rm) (d : decode cc pc = .ok (.iload i, 2)) (hl : lo[i]? = some (some (.int x))) (kk : V G Q (pc + 2) lo ((.int x) :: r) σ k n) : V G Q pc lo r σ k n :=
  V_pure hG (fun ad hx hb ho ht h1 h => lv_iload hx hb d (asl_at h1 hl) h) (fun h0 h => oks_c (okl_at h0 hl) h) kk
theorem V_lload {i : Nat} {x : Int64} (hG : CX L9 G y cc mL ret hh rm) (d : decode cc pc = .ok (.lload i, 2)) (hl : lo[i]? = some (some (.long x))) (kk : V G Q (pc + 2) lo ((.long x) :: r) σ k n) : V G Q pc lo r σ k n :=
  V_pure hG (fun ad hx hb ho ht h1 h => lv_lload hx hb d (asl_at h1 hl) h) (fun h0 h => oks_c (okl_at h0 hl) h) kk
theorem V_aload {i : Nat} {v : Value} (hG : CX L9 G y cc mL ret hh rm) (d : decode cc pc = .ok (.aload i, 2)) (hv : v.isRef = true) (hl : lo[i]? = some (some v)) (kk : V G Q (pc + 2) lo (v :: r) σ k n) : V G Q pc lo r σ k n := by
  refine V_pure hG (fun ad hx hb ho ht h1 h => ?_) (fun h0 h => oks_c (okl_at h0 hl) h) kk
  cases v with
  | ref x => exact lv_aload hx hb d (asl_at h1 hl) h
  | null => exact lv_aloadN hx hb d (asl_at h1 hl) h
  | _ => cases hv
theorem isRef_rf (o : Option Nat) : (va_rf o).isRef = true := by cases o <;> rfl
theorem cat_rf (o : Option Nat) : (va_rf o).category = 1 := by cases o <;> rfl
theorem V_istore_n {z : Fin 4} {x : Int32} (hG : CX L9 G y cc mL ret hh rm) (d : decode cc pc = .ok (.istore_n z, 1)) (hi : (z : Nat) < lo.length) (hp : ∀ w, 0 < (z : Nat) → lo[(z : Nat) - 1]? = some (some w) → w.category = 1) (kk : V G Q (pc + 1) (lo.set (z : Nat) (some (.int x))) r σ k n) : V G Q pc lo (.int x :: r) σ k n :=
  V_store hG hi rfl hp (fun ad hx hb hl hn h => lv_istore_n hx hb d rfl hl hn rfl h) kk
theorem V_lstore_n {z : Fin 4} {x : Int64} (hG : CX L9 G y cc mL ret hh rm) (d : decode cc pc = .ok (.lstore_n z, 1)) (hi : (z : Nat) + 1 < lo.length) (hp : ∀ w, 0 < (z : Nat) → lo[(z : Nat) - 1]? = some (some w) → w.category = 1) (kk : V G Q (pc + 1) ((lo.set (z : Nat) (some (.long x))).set ((z : Nat) + 1) none) r σ k n) : V G Q pc lo (.long x :: r) σ k n :=
  V_store2 hG hi hp (fun ad hx hb hl hn h => lv_lstore_n hx hb d rfl hl hn rfl h) kk
theorem V_astore_n {z : Fin 4} {v : Value} (hG : CX L9 G y cc mL ret hh rm) (d : decode cc pc = .ok (.astore_n z, 1)) (hv : v.isRef = true) (hi : (z : Nat) < lo.length) (hp : ∀ w, 0 < (z : Nat) → lo[(z : Nat) - 1]? = some (some w) → w.category = 1) (kk : V G Q (pc + 1) (lo.set (z : Nat) (some v)) r σ k n) : V G Q pc lo (v :: r) σ k n := by
  cases v with
  | ref x => exact V_store hG hi rfl hp (fun ad hx hb hl hn h => lv_astore_n hx hb d rfl hl hn rfl h) kk
  | null => exact V_store hG hi rfl hp (fun ad hx hb hl hn h => lv_astore_nN hx hb d rfl hl hn rfl h) kk
  | _ => cases hv
theorem V_istore {i : Nat} {x : Int32} (hG : CX L9 G y cc mL ret hh rm) (d : decode cc pc = .ok (.istore i, 2)) (hi : i < lo.length) (hp : ∀ w, 0 < i → lo[i - 1]? = some (some w) → w.category = 1) (kk : V G Q (pc + 2) (lo.set i (some (.int x))) r σ k n) : V G Q pc lo (.int x :: r) σ k n :=
  V_store hG hi rfl hp (fun ad hx hb hl hn h => lv_istore hx hb d hl hn rfl h) kk
theorem V_lstore {i : Nat} {x : Int64} (hG : CX L9 G y cc mL ret hh rm) (d : decode cc pc = .ok (.lstore i, 2)) (hi : i + 1 < lo.length) (hp : ∀ w, 0 < i → lo[i - 1]? = some (some w) → w.category = 1) (kk : V G Q (pc + 2) ((lo.set i (some (.long x))).set (i + 1) none) r σ k n) : V G Q pc lo (.long x :: r) σ k n :=
  V_store2 hG hi hp (fun ad hx hb hl hn h => lv_lstore hx hb d hl hn rfl h) kk
theorem V_astore {i : Nat} {v : Value} (hG : CX L9 G y cc mL ret hh rm) (d : decode cc pc = .ok (.astore i, 2)) (hv : v.isRef = true) (hi : i < lo.length) (hp : ∀ w, 0 < i → lo[i - 1]? = some (some w) → w.category = 1) (kk : V G Q (pc + 2) (lo.set i (some v)) r σ k n) : V G Q pc lo (v :: r) σ k n := by
  cases v with
  | ref x => exact V_store hG hi rfl hp (fun ad hx hb hl hn h => lv_astore hx hb d hl hn rfl h) kk
  | null => exact V_store hG hi rfl hp (fun ad hx hb hl hn h => lv_astoreN hx hb d hl hn rfl h) kk
  | _ => cases hv
theorem V_iinc {i : Nat} {z : Int} {x : Int32} (hG : CX L9 G y cc mL ret hh rm) (d : decode cc pc = .ok (.iinc i z, 3)) (hl : lo[i]? = some (some (.int x))) (hp : ∀ w, 0 < i → lo[i - 1]? = some (some w) → w.category = 1) (kk : V G Q (pc + 3) (lo.set i (some (.int (x + Int32.ofInt z)))) r σ k n) : V G Q pc lo r σ k n := by
  have hi : i < lo.length := (List.getElem?_eq_some_iff.mp hl).1
  obtain ⟨l, p, e, R, s, m, args, below, meth, c, base, bS, D, cA, ad0, σ0⟩ := G
  obtain ⟨hx, hb, -⟩ := hG
  intro ad H locs ls hR hS hlen hlv ho hs hx0
  obtain ⟨j, hj⟩ := List.getElem?_of_mem ((asl_mem (ad := ad) lo 0 i _).mpr ⟨_, Nat.zero_le _, hl, rfl⟩)
  refine lv_iinc hx hb d hlv hj rfl (hlen ▸ hi) rfl fun ls' hl' => kk ad H locs ls' hR hS (by rw [List.length_set]; exact hlen) (lv_mono hl' fun q hq => ?_) (okl_set ho trivial) hs hx0
  obtain ⟨j, w⟩ := q
  obtain ⟨w', h1, h2, h3⟩ := (asl_mem _ 0 j w).mp hq
  rw [Nat.sub_zero] at h2
  by_cases e1 : j = i
  · subst e1
    rw [List.getElem?_set_self hi] at h2
    cases h2
    rw [h3]
    exact List.mem_cons_self
  · rw [List.getElem?_set_ne (Ne.symm e1)] at h2
    refine List.mem_cons_of_mem _ (List.mem_filter.mpr ⟨(asl_mem lo 0 j w).mpr ⟨w', h1, h2, h3⟩, ?_⟩)
    have hcat : j + 1 = i → ¬ w.category = 2 := fun e2 => by
      have h4 : i - 1 = j := by omega
      have := hp w' (by omega) (by rw [h4]; exact h2)
      rw [h3, cv_cat]
      omega
    by_cases e2 : j + 1 = i
    · simp [e1, hcat e2]
    · simp [e1, e2]
/-- a branch -/
theorem V_br {P1 P2 : Prop} {pc1 pc2 : Nat} {st1 : List Value} (hG : CX L9 G y cc mL ret hh rm)
    (hW : ∀ {p : Program} {l : Launch} {e : Jvm.Env} {R : Room} {s : State} {m : MethodId} {args : Array Value} {below : List Frame} {meth : Method} {c : Code} {H : Heap} {locs : List Loc} {ls : Array Slot} (ad : Nat → Nat), (∀ a b, sX σ a = true → sX σ b = true → ad a = ad b → a = b) → oks σ st → p.tables.exec = Jvm.exec → c.code = cc →
      (P1 → W p l e R s m args below meth c H locs k n Q (F0 m pc1 ls (st1.map (cv ad)))) → (P2 → W p l e R s m args below meth c H locs k n Q (F0 m pc2 ls (st1.map (cv ad)))) → W p l e R s m args below meth c H locs k n Q (F0 m pc ls (st.map (cv ad))))
    (hok : oks σ st → oks σ st1) (k1 : P1 → V G Q pc1 lo st1 σ k n) (k2 : P2 → V G Q pc2 lo st1 σ k n) : V G Q pc lo st σ k n := by
  obtain ⟨l, p, e, R, s, m, args, below, meth, c, base, bS, D, cA, ad0, σ0⟩ := G
  obtain ⟨hx, hb, -⟩ := hG
  intro ad H locs ls hR hS hlen hl ho hs hx0
  exact hW ad hR.2.1 hs hx hb (fun h => k1 h ad H locs ls hR hS hlen hl ho (hok hs) hx0) (fun h => k2 h ad H locs ls hR hS hlen hl ho (hok hs) hx0)

theorem V_if_eq {x : Int32} {off : Int} {tgt : Nat} (hG : CX L9 G y cc mL ret hh rm) (d : decode cc pc = .ok (.ifCond .eq off, 3)) (ht : (pc : Int) + off = (tgt : Int)) (kt : x = 0 → V G Q tgt lo r σ k n) (kf : ¬ x = 0 → V G Q (pc + 3) lo r σ k n) : V G Q pc lo (.int x :: r) σ k n :=
  V_br hG (fun ad _ _ hx hb h1 h2 => lv_if_eq hx hb d ht h1 h2) oks_tl kt kf
theorem V_icmp_eq {x z : Int32} {off : Int} {tgt : Nat} (hG : CX L9 G y cc mL ret hh rm) (d : decode cc pc = .ok (.if_icmp .eq off, 3)) (ht : (pc : Int) + off = (tgt : Int)) (kt : x = z → V G Q tgt lo r σ k n) (kf : ¬ x = z → V G Q (pc + 3) lo r σ k n) : V G Q pc lo (.int z :: .int x :: r) σ k n :=
  V_br hG (fun ad _ _ hx hb h1 h2 => lv_icmp_eq hx hb d ht h1 h2) (fun h => oks_tl (oks_tl h)) kt kf
theorem V_if_ne {x : Int32} {off : Int} {tgt : Nat} (hG : CX L9 G y cc mL ret hh rm) (d : decode cc pc = .ok (.ifCond .ne off, 3)) (ht : (pc : Int) + off = (tgt : Int)) (kt : ¬ x = 0 → V G Q tgt lo r σ k n) (kf : x = 0 → V G Q (pc + 3) lo r σ k n) : V G Q pc lo (.int x :: r) σ k n :=
  V_br hG (fun ad _ _ hx hb h1 h2 => lv_if_ne hx hb d ht h1 h2) oks_tl kt kf
theorem V_icmp_ne {x z : Int32} {off : Int} {tgt : Nat} (hG : CX L9 G y cc mL ret hh rm) (d : decode cc pc = .ok (.if_icmp .ne off, 3)) (ht : (pc : Int) + off = (tgt : Int)) (kt : ¬ x = z → V G Q tgt lo r σ k n) (kf : x = z → V G Q (pc + 3) lo r σ k n) : V G Q pc lo (.int z :: .int x :: r) σ k n :=
  V_br hG (fun ad _ _ hx hb h1 h2 => lv_icmp_ne hx hb d ht h1 h2) (fun h => oks_tl (oks_tl h)) kt kf
theorem V_if_lt {x : Int32} {off : Int} {tgt : Nat} (hG : CX L9 G y cc mL ret hh rm) (d : decode cc pc = .ok (.ifCond .lt off, 3)) (ht : (pc : Int) + off = (tgt : Int)) (kt : x < 0 → V G Q tgt lo r σ k n) (kf : ¬ x < 0 → V G Q (pc + 3) lo r σ k n) : V G Q pc lo (.int x :: r) σ k n :=
  V_br hG (fun ad _ _ hx hb h1 h2 => lv_if_lt hx hb d ht h1 h2) oks_tl kt kf
theorem V_icmp_lt {x z : Int32} {off : Int} {tgt : Nat} (hG : CX L9 G y cc mL ret hh rm) (d : decode cc pc = .ok (.if_icmp .lt off, 3)) (ht : (pc : Int) + off = (tgt : Int)) (kt : x < z → V G Q tgt lo r σ k n) (kf : ¬ x < z → V G Q (pc + 3) lo r σ k n) : V G Q pc lo (.int z :: .int x :: r) σ k n :=
  V_br hG (fun ad _ _ hx hb h1 h2 => lv_icmp_lt hx hb d ht h1 h2) (fun h => oks_tl (oks_tl h)) kt kf
theorem V_if_ge {x : Int32} {off : Int} {tgt : Nat} (hG : CX L9 G y cc mL ret hh rm) (d : decode cc pc = .ok (.ifCond .ge off, 3)) (ht : (pc : Int) + off = (tgt : Int)) (kt : 0 ≤ x → V G Q tgt lo r σ k n) (kf : ¬ 0 ≤ x → V G Q (pc + 3) lo r σ k n) : V G Q pc lo (.int x :: r) σ k n :=
  V_br hG (fun ad _ _ hx hb h1 h2 => lv_if_ge hx hb d ht h1 h2) oks_tl kt kf
theorem V_icmp_ge {x z : Int32} {off : Int} {tgt : Nat} (hG : CX L9 G y cc mL ret hh rm) (d : decode cc pc = .ok (.if_icmp .ge off, 3)) (ht : (pc : Int) + off = (tgt : Int)) (kt : z ≤ x → V G Q tgt lo r σ k n) (kf : ¬ z ≤ x → V G Q (pc + 3) lo r σ k n) : V G Q pc lo (.int z :: .int x :: r) σ k n :=
  V_br hG (fun ad _ _ hx hb h1 h2 => lv_icmp_ge hx hb d ht h1 h2) (fun h => oks_tl (oks_tl h)) kt kf
theorem V_if_gt {x : Int32} {off : Int} {tgt : Nat} (hG : CX L9 G y cc mL ret hh rm) (d : decode cc pc = .ok (.ifCond .gt off, 3)) (ht : (pc : Int) + off = (tgt : Int)) (kt : 0 < x → V G Q tgt lo r σ k n) (kf : ¬ 0 < x → V G Q (pc + 3) lo r σ k n) : V G Q pc lo (.int x :: r) σ k n :=
  V_br hG (fun ad _ _ hx hb h1 h2 => lv_if_gt hx hb d ht h1 h2) oks_tl kt kf
theorem V_icmp_gt {x z : Int32} {off : Int} {tgt : Nat} (hG : CX L9 G y cc mL ret hh rm) (d : decode cc pc = .ok (.if_icmp .gt off, 3)) (ht : (pc : Int) + off = (tgt : Int)) (kt : z < x → V G Q tgt lo r σ k n) (kf : ¬ z < x → V G Q (pc + 3) lo r σ k n) : V G Q pc lo (.int z :: .int x :: r) σ k n :=
  V_br hG (fun ad _ _ hx hb h1 h2 => lv_icmp_gt hx hb d ht h1 h2) (fun h => oks_tl (oks_tl h)) kt kf
theorem V_if_le {x : Int32} {off : Int} {tgt : Nat} (hG : CX L9 G y cc mL ret hh rm) (d : decode cc pc = .ok (.ifCond .le off, 3)) (ht : (pc : Int) + off = (tgt : Int)) (kt : x ≤ 0 → V G Q tgt lo r σ k n) (kf : ¬ x ≤ 0 → V G Q (pc + 3) lo r σ k n) : V G Q pc lo (.int x :: r) σ k n :=
  V_br hG (fun ad _ _ hx hb h1 h2 => lv_if_le hx hb d ht h1 h2) oks_tl kt kf
theorem V_icmp_le {x z : Int32} {off : Int} {tgt : Nat} (hG : CX L9 G y cc mL ret hh rm) (d : decode cc pc = .ok (.if_icmp .le off, 3)) (ht : (pc : Int) + off = (tgt : Int)) (kt : x ≤ z → V G Q tgt lo r σ k n) (kf : ¬ x ≤ z → V G Q (pc + 3) lo r σ k n) : V G Q pc lo (.int z :: .int x :: r) σ k n :=
  V_br hG (fun ad _ _ hx hb h1 h2 => lv_icmp_le hx hb d ht h1 h2) (fun h => oks_tl (oks_tl h)) kt kf
theorem V_goto {off : Int} {tgt : Nat} (hG : CX L9 G y cc mL ret hh rm) (d : decode cc pc = .ok (.goto off, 3)) (ht : (pc : Int) + off = (tgt : Int)) (kk : V G Q tgt lo st σ k n) : V G Q pc lo st σ k n :=
  V_pure hG (fun ad hx hb _ _ _ h => lv_goto hx hb d ht h) (fun _ h => h) kk
theorem V_ifnull {o : Option Nat} {off : Int} {tgt : Nat} (hG : CX L9 G y cc mL ret hh rm) (d : decode cc pc = .ok (.ifnull off, 3)) (ht : (pc : Int) + off = (tgt : Int)) (kt : o = none → V G Q tgt lo r σ k n) (kf : (∃ t, o = some t) → V G Q (pc + 3) lo r σ k n) : V G Q pc lo (va_rf o :: r) σ k n := by
  refine V_br hG (fun ad _ _ hx hb h1 h2 => ?_) oks_tl kt kf
  cases o with
  | none => exact lv_ifnullN hx hb d ht (h1 rfl)
  | some t => exact lv_ifnull hx hb d (h2 ⟨t, rfl⟩)
theorem V_ifnonnull {o : Option Nat} {off : Int} {tgt : Nat} (hG : CX L9 G y cc mL ret hh rm) (d : decode cc pc = .ok (.ifnonnull off, 3)) (ht : (pc : Int) + off = (tgt : Int)) (kt : (∃ t, o = some t) → V G Q tgt lo r σ k n) (kf : o = none → V G Q (pc + 3) lo r σ k n) : V G Q pc lo (va_rf o :: r) σ k n := by
  refine V_br hG (fun ad _ _ hx hb h1 h2 => ?_) oks_tl kt kf
  cases o with
  | none => exact lv_ifnonnullN hx hb d (h2 rfl)
  | some t => exact lv_ifnonnull hx hb d ht (h1 ⟨t, rfl⟩)
theorem V_ifnullT {t : Nat} {off : Int} (hG : CX L9 G y cc mL ret hh rm) (d : decode cc pc = .ok (.ifnull off, 3)) (kf : V G Q (pc + 3) lo r σ k n) : V G Q pc lo (.ref t :: r) σ k n :=
  V_pure hG (fun ad hx hb _ _ _ h => lv_ifnull hx hb d h) (fun _ h => oks_tl h) kf
theorem V_ifnullN {off : Int} {tgt : Nat} (hG : CX L9 G y cc mL ret hh rm) (d : decode cc pc = .ok (.ifnull off, 3)) (ht : (pc : Int) + off = (tgt : Int)) (kt : V G Q tgt lo r σ k n) : V G Q pc lo (.null :: r) σ k n :=
  V_pure hG (fun ad hx hb _ _ _ h => lv_ifnullN hx hb d ht h) (fun _ h => oks_tl h) kt
theorem V_ifnonnullT {t : Nat} {off : Int} {tgt : Nat} (hG : CX L9 G y cc mL ret hh rm) (d : decode cc pc = .ok (.ifnonnull off, 3)) (ht : (pc : Int) + off = (tgt : Int)) (kt : V G Q tgt lo r σ k n) : V G Q pc lo (.ref t :: r) σ k n :=
  V_pure hG (fun ad hx hb _ _ _ h => lv_ifnonnull hx hb d ht h) (fun _ h => oks_tl h) kt
theorem V_ifnonnullN {off : Int} (hG : CX L9 G y cc mL ret hh rm) (d : decode cc pc = .ok (.ifnonnull off, 3)) (kf : V G Q (pc + 3) lo r σ k n) : V G Q pc lo (.null :: r) σ k n :=
  V_pure hG (fun ad hx hb _ _ _ h => lv_ifnonnullN hx hb d h) (fun _ h => oks_tl h) kf
theorem ad_inj {ad : Nat → Nat} {a b : Option Nat} (hi : ∀ x y, sX σ x = true → sX σ y = true → ad x = ad y → x = y) (ha : okv σ (va_rf a)) (hb : okv σ (va_rf b)) (h : a.map ad = b.map ad) : a = b := by
  cases a with
  | none => cases b with
    | none => rfl
    | some y => cases h
  | some x => cases b with
    | none => cases h
    | some y => exact congrArg some (hi x y ha hb (Option.some.inj h))
theorem V_acmp_eq {a b : Option Nat} {off : Int} {tgt : Nat} (hG : CX L9 G y cc mL ret hh rm) (d : decode cc pc = .ok (.if_acmp .eq off, 3)) (ht : (pc : Int) + off = (tgt : Int)) (kt : a = b → V G Q tgt lo r σ k n) (kf : ¬ a = b → V G Q (pc + 3) lo r σ k n) : V G Q pc lo (va_rf b :: va_rf a :: r) σ k n := by
  refine V_br hG (fun ad hi hs hx hb h1 h2 => ?_) (fun h => oks_tl (oks_tl h)) kt kf
  rw [List.map_cons, List.map_cons, cv_rf, cv_rf]
  exact lv_acmp_eq hx hb d ht (fun h => h1 (ad_inj hi (oks_hd (oks_tl hs)) (oks_hd hs) h)) (fun h => h2 fun q => h (q ▸ rfl))
theorem V_acmp_ne {a b : Option Nat} {off : Int} {tgt : Nat} (hG : CX L9 G y cc mL ret hh rm) (d : decode cc pc = .ok (.if_acmp .ne off, 3)) (ht : (pc : Int) + off = (tgt : Int)) (kt : ¬ a = b → V G Q tgt lo r σ k n) (kf : a = b → V G Q (pc + 3) lo r σ k n) : V G Q pc lo (va_rf b :: va_rf a :: r) σ k n := by
  refine V_br hG (fun ad hi hs hx hb h1 h2 => ?_) (fun h => oks_tl (oks_tl h)) kt kf
  rw [List.map_cons, List.map_cons, cv_rf, cv_rf]
  exact lv_acmp_ne hx hb d ht (fun h => h1 fun q => h (q ▸ rfl)) (fun h => h2 (ad_inj hi (oks_hd (oks_tl hs)) (oks_hd hs) h))
theorem V_swOut {x : Int32} {dflt lo1 hi1 : Int} {offs : Array Int} {len tgt : Nat} (hG : CX L9 G y cc mL ret hh rm) (d : decode cc pc = .ok (.tableswitch dflt lo1 hi1 offs, len)) (h : x.toInt < lo1 ∨ hi1 < x.toInt) (ht : (pc : Int) + dflt = (tgt : Int)) (kk : V G Q tgt lo r σ k n) : V G Q pc lo (.int x :: r) σ k n :=
  V_pure hG (fun ad hx hb _ _ _ k1 => lv_tableOut hx hb d h ht k1) (fun _ h => oks_tl h) kk
theorem V_swIn {x : Int32} {dflt lo1 hi1 : Int} {offs : Array Int} {len tgt : Nat} {off : Int} (hG : CX L9 G y cc mL ret hh rm) (d : decode cc pc = .ok (.tableswitch dflt lo1 hi1 offs, len)) (h1 : ¬ x.toInt < lo1) (h2 : ¬ hi1 < x.toInt) (ho : offs[(x.toInt - lo1).toNat]? = some off) (ht : (pc : Int) + off = (tgt : Int)) (kk : V G Q tgt lo r σ k n) : V G Q pc lo (.int x :: r) σ k n :=
  V_pure hG (fun ad hx hb _ _ _ k1 => lv_tableIn hx hb d h1 h2 ho ht k1) (fun _ h => oks_tl h) kk
end ROWS
