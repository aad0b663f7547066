/-! The abstract store of one run, how it lies in the heap, the judgement V of a method's walk over it, and V's rows. -/
def GW : List Cond := lw_tbl.filter goodWord
theorem GW_mem (i : Nat) {w : Cond} (h : lw_tbl[i]? = some w) (g : goodWord w = true) : w ∈ GW := List.mem_filter.mpr ⟨List.mem_of_getElem? h, g⟩
theorem GW_ok {args a' : Array Value} {s U : State} (hts : ∀ w ∈ GW, w.before args s = true) (hW : s.WarmedH U.vm) : ∀ w ∈ GW, w.before a' U = true := fun w hw => word_at hW (good_of_word (List.mem_filter.mp hw).2) (hts w hw)
theorem GW_m2 {w : Cond} (h : w ∈ tables_1) (g : goodWord w = true) : w ∈ GW := List.mem_filter.mpr ⟨List.mem_append.mpr (Or.inr h), g⟩
theorem GW_m1 (i : Nat) {w : Cond} (h : tables_1_1[i]? = some w) (g : goodWord w = true) : w ∈ GW := GW_m2 (List.mem_append.mpr (Or.inl (List.mem_of_getElem? h))) g
theorem GW_t2 (i : Nat) {w : Cond} (h : tables_1_2[i]? = some w) (g : goodWord w = true) : w ∈ GW := GW_m2 (List.mem_append.mpr (Or.inr (List.mem_append.mpr (Or.inl (List.mem_of_getElem? h))))) g
theorem GW_t3 (i : Nat) {w : Cond} (h : tables_1_3[i]? = some w) (g : goodWord w = true) : w ∈ GW := GW_m2 (List.mem_append.mpr (Or.inr (List.mem_append.mpr (Or.inr (List.mem_append.mpr (Or.inl (List.mem_of_getElem? h))))))) g
theorem GW_t4 (i : Nat) {w : Cond} (h : tables_1_4[i]? = some w) (g : goodWord w = true) : w ∈ GW := GW_m2 (List.mem_append.mpr (Or.inr (List.mem_append.mpr (Or.inr (List.mem_append.mpr (Or.inr (List.mem_append.mpr (Or.inl (List.mem_of_getElem? h))))))))) g
theorem GW_t5 (i : Nat) {w : Cond} (h : tables_1_5[i]? = some w) (g : goodWord w = true) : w ∈ GW := GW_m2 (List.mem_append.mpr (Or.inr (List.mem_append.mpr (Or.inr (List.mem_append.mpr (Or.inr (List.mem_append.mpr (Or.inr (List.mem_append.mpr (Or.inl (List.mem_of_getElem? h))))))))))) g
theorem GW_t6 (i : Nat) {w : Cond} (h : tables_1_6[i]? = some w) (g : goodWord w = true) : w ∈ GW := GW_m2 (List.mem_append.mpr (Or.inr (List.mem_append.mpr (Or.inr (List.mem_append.mpr (Or.inr (List.mem_append.mpr (Or.inr (List.mem_append.mpr (Or.inr (List.mem_append.mpr (Or.inl (List.mem_of_getElem? h))))))))))))) g
theorem GW_t7 (i : Nat) {w : Cond} (h : tables_1_7[i]? = some w) (g : goodWord w = true) : w ∈ GW := GW_m2 (List.mem_append.mpr (Or.inr (List.mem_append.mpr (Or.inr (List.mem_append.mpr (Or.inr (List.mem_append.mpr (Or.inr (List.mem_append.mpr (Or.inr (List.mem_append.mpr (Or.inr (List.mem_of_getElem? h))))))))))))) g
/-- ints, references (to tokens), longs, by token and field or place; which tokens there are -/
abbrev Sg : Type := (Nat → Nat → Int32) × (Nat → Nat → Option Nat) × (Nat → Nat → Int64) × (Nat → Bool)
def sI (σ : Sg) (t k : Nat) : Int32 := σ.1 t k
def sP (σ : Sg) (t k : Nat) : Option Nat := σ.2.1 t k
def sL (σ : Sg) (t k : Nat) : Int64 := σ.2.2.1 t k
def sX (σ : Sg) (t : Nat) : Bool := σ.2.2.2 t
def up2 {α : Type} (f : Nat → Nat → α) (t k : Nat) (v : α) : Nat → Nat → α := fun a b => if a = t ∧ b = k then v else f a b
def wI (σ : Sg) (t k : Nat) (v : Int32) : Sg := (up2 σ.1 t k v, σ.2)
def wP (σ : Sg) (t k : Nat) (v : Option Nat) : Sg := (σ.1, up2 σ.2.1 t k v, σ.2.2)
def wL (σ : Sg) (t k : Nat) (v : Int64) : Sg := (σ.1, σ.2.1, up2 σ.2.2.1 t k v, σ.2.2.2)
def wN (σ : Sg) (t : Nat) : Sg := (fun a b => if a = t then 0 else σ.1 a b, fun a b => if a = t then none else σ.2.1 a b, fun a b => if a = t then 0 else σ.2.2.1 a b, fun a => if a = t then true else σ.2.2.2 a)
theorem sI_wI (σ : Sg) (t k : Nat) (v : Int32) (a b : Nat) : sI (wI σ t k v) a b = if a = t ∧ b = k then v else sI σ a b := rfl
theorem sI_wP (σ : Sg) (t k : Nat) (v : Option Nat) (a b : Nat) : sI (wP σ t k v) a b = sI σ a b := rfl
theorem sI_wL (σ : Sg) (t k : Nat) (v : Int64) (a b : Nat) : sI (wL σ t k v) a b = sI σ a b := rfl
theorem sI_wN (σ : Sg) (t : Nat) (a b : Nat) : sI (wN σ t) a b = if a = t then 0 else sI σ a b := rfl
theorem sP_wI (σ : Sg) (t k : Nat) (v : Int32) (a b : Nat) : sP (wI σ t k v) a b = sP σ a b := rfl
theorem sP_wP (σ : Sg) (t k : Nat) (v : Option Nat) (a b : Nat) : sP (wP σ t k v) a b = if a = t ∧ b = k then v else sP σ a b := rfl
theorem sP_wL (σ : Sg) (t k : Nat) (v : Int64) (a b : Nat) : sP (wL σ t k v) a b = sP σ a b := rfl
theorem sP_wN (σ : Sg) (t : Nat) (a b : Nat) : sP (wN σ t) a b = if a = t then none else sP σ a b := rfl
theorem sL_wI (σ : Sg) (t k : Nat) (v : Int32) (a b : Nat) : sL (wI σ t k v) a b = sL σ a b := rfl
theorem sL_wP (σ : Sg) (t k : Nat) (v : Option Nat) (a b : Nat) : sL (wP σ t k v) a b = sL σ a b := rfl
theorem sL_wL (σ : Sg) (t k : Nat) (v : Int64) (a b : Nat) : sL (wL σ t k v) a b = if a = t ∧ b = k then v else sL σ a b := rfl
theorem sL_wN (σ : Sg) (t : Nat) (a b : Nat) : sL (wN σ t) a b = if a = t then 0 else sL σ a b := rfl
theorem sX_wI (σ : Sg) (t k : Nat) (v : Int32) (a : Nat) : sX (wI σ t k v) a = sX σ a := rfl
theorem sX_wP (σ : Sg) (t k : Nat) (v : Option Nat) (a : Nat) : sX (wP σ t k v) a = sX σ a := rfl
theorem sX_wL (σ : Sg) (t k : Nat) (v : Int64) (a : Nat) : sX (wL σ t k v) a = sX σ a := rfl
theorem sX_wN (σ : Sg) (t : Nat) (a : Nat) : sX (wN σ t) a = if a = t then true else sX σ a := rfl
/-- a token: its class, its number -/
def tk (c i : Nat) : Nat := 32 * i + c
theorem tkm (c i : Nat) (h : c < 32) : tk c i % 32 = c := by unfold tk; omega
theorem tkd (c i : Nat) (h : c < 32) : tk c i / 32 = i := by unfold tk; omega
theorem tk_eq {c d i j : Nat} (hc : c < 32) (hd : d < 32) : tk c i = tk d j ↔ c = d ∧ i = j := by unfold tk; omega
theorem tk_inj {c i j : Nat} : tk c i = tk c j ↔ i = j := by unfold tk; omega
theorem tk_ne {c d i j : Nat} (hc : c < 32) (hd : d < 32) (h : c ≠ d) : tk c i ≠ tk d j := by unfold tk; omega
/-- the types of an object's fields; of a row's places -/
def oty (c k : Nat) : FieldType := match c with
  | 0 => tyX0 k | 1 => tyX1 k | 2 => tyX2 k | 3 => tyX3 k | 4 => tyX4 k | 5 => tyX5 k | 6 => tyX6 k | 7 => tyX7 k | 8 => tyX8 k | 9 => tyX9 k | 10 => tyX10 k | _ => .int
def aty (c : Nat) : Option FieldType := match c with
  | 11 => some .int | 12 => some .long | 13 => some .boolean | 14 => some (.object "Millrace$Batch") | 15 => some (.object "Millrace$Kind") | 16 => some (.object "Millrace$Line") | 17 => some (.object "Millrace$Machine") | 18 => some (.object "Millrace$Operation") | 19 => some (.object "Millrace$Order") | 20 => some (.object "Millrace$Person")
  | 21 => some .int | 22 => some .int | 23 => some .int | 24 => some .long | _ => none
def mlen : List Nat := [12, 12, 12, 12, 36, 36, 36, 12, 48, 48, 48, 12, 4, 12, 0, 60, 60, 60, 60, 60, 60, 60, 60, 60, 60, 60, 60, 0, 6, 6, 6, 6, 6, 6, 6, 6, 6, 6, 6, 6, 6, 0, 6, 6, 6, 24, 24, 0, 10, 10, 10, 10, 10, 10, 0, 0, 0, 0, 0, 0, 3, 12]
def aln (t : Nat) : Nat := match t % 32 with
  | 14 => 60 | 15 => 12 | 16 => 3 | 17 => 6 | 18 => 4 | 19 => 10 | 20 => 6 | 21 => 4 | 22 => 4 | 23 => 4 | 24 => 1
  | _ => mlen.getD (t / 32) 0
def isI (ty : FieldType) : Bool := match ty with
  | .int => true | .boolean => true | _ => false
def isR (ty : FieldType) : Bool := match ty with
  | .object _ => true | .array _ => true | _ => false
def isJ (ty : FieldType) : Bool := match ty with
  | .long => true | _ => false
/-- what a field, or a place, of that type holds, in the heap (ad: where a token lies) -/
def fvl (ad : Nat → Nat) (σ : Sg) (t k : Nat) (ty : FieldType) : Value := if isR ty then va_rf ((sP σ t k).map ad) else if isJ ty then .long (sL σ t k) else .int (sI σ t k)
theorem fvl_I {ad : Nat → Nat} {σ : Sg} {t k : Nat} {ty : FieldType} (h : isI ty = true) : fvl ad σ t k ty = .int (sI σ t k) := by cases ty <;> first | rfl | cases h
theorem fvl_R {ad : Nat → Nat} {σ : Sg} {t k : Nat} {ty : FieldType} (h : isR ty = true) : fvl ad σ t k ty = va_rf ((sP σ t k).map ad) := by cases ty <;> first | rfl | cases h
theorem fvl_J {ad : Nat → Nat} {σ : Sg} {t k : Nat} {ty : FieldType} (h : isJ ty = true) : fvl ad σ t k ty = .long (sL σ t k) := by cases ty <;> first | rfl | cases h
theorem fvl_same {ad : Nat → Nat} {σ σ' : Sg} {t k : Nat} (ty : FieldType) (h1 : sI σ' t k = sI σ t k) (h2 : sP σ' t k = sP σ t k) (h3 : sL σ' t k = sL σ t k) : fvl ad σ' t k ty = fvl ad σ t k ty := by
  unfold fvl
  rw [h1, h2, h3]
theorem fvl_ad {ad ad' : Nat → Nat} {σ : Sg} {t k : Nat} (ty : FieldType) (h : ∀ u, sP σ t k = some u → ad' u = ad u) : fvl ad' σ t k ty = fvl ad σ t k ty := by
  unfold fvl
  cases hp : sP σ t k with
  | none => rfl
  | some u => rw [Option.map_some, Option.map_some, h u hp]
def cv (ad : Nat → Nat) : Value → Value
  | .ref t => .ref (ad t)
  | v => v
theorem cv_rf (ad : Nat → Nat) (r : Option Nat) : cv ad (va_rf r) = va_rf (r.map ad) := by cases r <;> rfl
theorem cv_cat (ad : Nat → Nat) (v : Value) : (cv ad v).category = v.category := by cases v <;> rfl
def okv (σ : Sg) : Value → Prop
  | .ref t => sX σ t = true
  | _ => True
theorem okv_cv {σ : Sg} {ad ad' : Nat → Nat} {v : Value} (h : okv σ v) (e : ∀ t, sX σ t = true → ad' t = ad t) : cv ad' v = cv ad v := by
  cases v <;> first | rfl | (show Value.ref _ = Value.ref _; rw [e _ h])
theorem okv_mono {σ σ' : Sg} {v : Value} (h : okv σ v) (e : ∀ t, sX σ t = true → sX σ' t = true) : okv σ' v := by
  cases v <;> first | trivial | exact e _ h
theorem okv_rf {σ : Sg} {r : Option Nat} (h : ∀ u, r = some u → sX σ u = true) : okv σ (va_rf r) := by
  cases r with
  | none => trivial
  | some u => exact h u rfl
def oks (σ : Sg) (st : List Value) : Prop := ∀ v ∈ st, okv σ v
theorem oks_tl {σ : Sg} {v : Value} {st : List Value} (h : oks σ (v :: st)) : oks σ st := fun w hw => h w (List.mem_cons_of_mem _ hw)
theorem oks_hd {σ : Sg} {v : Value} {st : List Value} (h : oks σ (v :: st)) : okv σ v := h v List.mem_cons_self
theorem oks_c {σ : Sg} {v : Value} {st : List Value} (h1 : okv σ v) (h : oks σ st) : oks σ (v :: st) := fun w hw => (List.mem_cons.mp hw).elim (fun e => e ▸ h1) (h w)
theorem oks_nil {σ : Sg} : oks σ [] := fun _ h => nomatch h
theorem oks_app {σ : Sg} {a b : List Value} (h1 : oks σ a) (h2 : oks σ b) : oks σ (a ++ b) := fun w hw => (List.mem_append.mp hw).elim (h1 w) (h2 w)
theorem oks_mono {σ σ' : Sg} {st : List Value} (h : oks σ st) (e : ∀ t, sX σ t = true → sX σ' t = true) : oks σ' st := fun w hw => okv_mono (h w hw) e
theorem oks_map {σ : Sg} {ad ad' : Nat → Nat} {st : List Value} (h : oks σ st) (e : ∀ t, sX σ t = true → ad' t = ad t) : st.map (cv ad') = st.map (cv ad) := List.map_congr_left fun v hv => okv_cv (h v hv) e
/-- the locals, place by place: unset, or a value; behind a long an unset one -/
abbrev Lo : Type := List (Option Value)
def asl (ad : Nat → Nat) : Nat → Lo → List (Nat × Value)
  | _, [] => []
  | i, none :: r => asl ad (i + 1) r
  | i, some v :: r => (i, cv ad v) :: asl ad (i + 1) r
theorem asl_mem {ad : Nat → Nat} : ∀ (lo : Lo) (i j : Nat) (w : Value), (j, w) ∈ asl ad i lo ↔ ∃ v, i ≤ j ∧ lo[j - i]? = some (some v) ∧ w = cv ad v
  | [], i, j, w => by simp [asl]
  | none :: r, i, j, w => by
    show (j, w) ∈ asl ad (i + 1) r ↔ _
    rw [asl_mem r (i + 1) j w]
    constructor
    · rintro ⟨v, h1, h2, h3⟩
      refine ⟨v, by omega, ?_, h3⟩
      rw [show j - i = (j - (i + 1)) + 1 by omega]
      exact h2
    · rintro ⟨v, h1, h2, h3⟩
      rcases Nat.eq_or_lt_of_le h1 with e | e
      · rw [e, Nat.sub_self] at h2
        cases h2
      · refine ⟨v, e, ?_, h3⟩
        rw [show j - i = (j - (i + 1)) + 1 by omega] at h2
        exact h2
  | some x :: r, i, j, w => by
    show (j, w) ∈ (i, cv ad x) :: asl ad (i + 1) r ↔ _
    rw [List.mem_cons, asl_mem r (i + 1) j w]
    constructor
    · rintro (h | ⟨v, h1, h2, h3⟩)
      · cases h
        exact ⟨x, Nat.le_refl _, by rw [Nat.sub_self]; rfl, rfl⟩
      · refine ⟨v, by omega, ?_, h3⟩
        rw [show j - i = (j - (i + 1)) + 1 by omega]
        exact h2
    · rintro ⟨v, h1, h2, h3⟩
      rcases Nat.eq_or_lt_of_le h1 with e | e
      · subst e
        rw [Nat.sub_self] at h2
        cases h2
        exact Or.inl (by rw [h3])
      · refine Or.inr ⟨v, e, ?_, h3⟩
        rw [show j - i = (j - (i + 1)) + 1 by omega] at h2
        exact h2
def okl (σ : Sg) (lo : Lo) : Prop := ∀ v, some v ∈ lo → okv σ v
theorem okl_at {σ : Sg} {lo : Lo} (h : okl σ lo) {i : Nat} {v : Value} (hi : lo[i]? = some (some v)) : okv σ v := h v (List.mem_of_getElem? hi)
theorem okl_set {σ : Sg} {lo : Lo} (h : okl σ lo) {i : Nat} {v : Value} (hv : okv σ v) : okl σ (lo.set i (some v)) := by
  intro w hw
  rcases List.mem_or_eq_of_mem_set hw with h1 | h1
  · exact h w h1
  · cases h1; exact hv
theorem okl_mono {σ σ' : Sg} {lo : Lo} (h : okl σ lo) (e : ∀ t, sX σ t = true → sX σ' t = true) : okl σ' lo := fun w hw => okv_mono (h w hw) e
theorem asl_ad {σ : Sg} {ad ad' : Nat → Nat} (e : ∀ t, sX σ t = true → ad' t = ad t) : ∀ (lo : Lo) (i : Nat), okl σ lo → asl ad' i lo = asl ad i lo
  | [], _, _ => rfl
  | none :: r, i, h => asl_ad e r (i + 1) fun v hv => h v (List.mem_cons_of_mem _ hv)
  | some x :: r, i, h => by
    show (i, cv ad' x) :: asl ad' (i + 1) r = (i, cv ad x) :: asl ad (i + 1) r
    rw [okv_cv (h x List.mem_cons_self) e, asl_ad e r (i + 1) fun v hv => h v (List.mem_cons_of_mem _ hv)]
theorem lv_mono {ls : Array Slot} {nL : Nat} {l l' : List (Nat × Value)} (h : lv_has ls nL l) (hs : ∀ q ∈ l', q ∈ l) : lv_has ls nL l' := ⟨h.1, h.2.1, fun q hq => h.2.2 q (hs q hq)⟩
/-- what a method's states know for good: classes, rows' classes, what lies below base -/
def exL : List String := ["java/lang/IndexOutOfBoundsException", "java/lang/IllegalArgumentException", "java/lang/IllegalStateException"]
def strL : List (String × Nat × String) := [("Millrace", 333, "there is no such one"), ("Millrace", 340, "an argument is out of range"), ("Millrace", 345, "this cannot be done now"), ("Millrace$Kind", 42, "the bill has 3 lines"), ("Millrace$Kind", 50, "the route has 4 operations"), ("Millrace$Floor", 36, "there are 6 machines"), ("Millrace$Floor", 44, "there are 6 people"), ("Millrace$Stock", 33, "60 batches were made"), ("Millrace$Stock", 50, "there are 10 orders")]
def aoL : List String := ["Millrace$Batch", "Millrace$Kind", "Millrace$Line", "Millrace$Machine", "Millrace$Operation", "Millrace$Order", "Millrace$Person"]
def dcL : List String := ["java/lang/RuntimeException", "java/lang/Exception", "java/lang/Throwable"]
def nestW : Cond := .methodLinkNest "Millrace" 17 ⟨"Millrace$Floor", "<init>", "()V"⟩ "Millrace"
def Ev (base : Nat) (D : va_G) (cA : Nat → ClassId) (U : State) : Prop :=
  (∀ (c : Nat) (q : vw_C), vwCl[c]? = some q → u_Kn U q.1 q.2.1 q.2.2 (D.1 c) (D.2 c)) ∧ (∀ (c : Nat) (ty : FieldType), aty c = some ty → ArrOfT U (cA c) ty ∧ va_RA U (cA c) ty) ∧ base ≤ U.heap.size ∧
  vx_Zq Bundle.tN "UNASSIGNED_STACK" Bundle.steD (fun q => base ≤ q) U U.heap ∧ vx_Zq Bundle.tN "SUPPRESSED_SENTINEL" Bundle.listD (fun q => base ≤ q) U U.heap ∧ va_Nw nestW U ∧
  (∀ X ∈ exL, va_Nw (.castable X X) U) ∧ (∀ X ∈ exL, ∀ Y ∈ exL, X ≠ Y → va_Nc X Y U) ∧ (∀ q ∈ strL, ∃ a, vk_R q.1 q.2.1 q.2.2 a U) ∧ (∀ C ∈ aoL, va_AO C U) ∧ ∀ Y ∈ dcL, va_Nw (.declares ⟨Y, "<init>", "(Ljava/lang/String;)V"⟩) U
theorem Ev_warm {base : Nat} {D : va_G} {cA : Nat → ClassId} {s U : State} (h : Ev base D cA s) (hW : s.WarmedH U.vm) (hz : s.heap.size ≤ U.heap.size) (hk : ∀ q : Nat, q < s.heap.size → ¬ base ≤ q → U.heap[q]? = s.heap[q]?) : Ev base D cA U := by
  obtain ⟨h1, h2, h3, h4, h5, h6, h7, h8, h9, h10, h11⟩ := h
  have ha := hW.alike
  refine ⟨fun c q hq => u_Kn_moved ha (h1 c q hq), fun c ty hty => ⟨arrOfT_moved ha (h2 c ty hty).1, (h2 c ty hty).2.moved ha⟩, Nat.le_trans h3 hz, vx_Zq.moved ha (vx_Zq.kept h4 hk), vx_Zq.moved ha (vx_Zq.kept h5 hk), va_Nw.warmM hW h6, fun X hX => va_Nw.warmC hW (h7 X hX), fun X hX Y hY n => va_Nc.moved ha (h8 X hX Y hY n), fun q hq => ?_, fun C hC => (h10 C hC).moved ha, fun Y hY => va_Nw.warmD hW (h11 Y hY)⟩
  obtain ⟨a, hA⟩ := h9 q hq
  exact ⟨a, vk_R.warm hW hA⟩
theorem Ev_call {base : Nat} {D : va_G} {cA : Nat → ClassId} {U : State} (h : Ev base D cA U) (g : JFrame) (mk : MethodId) (a : Array Value) : Ev base D cA (U.calling g mk a) := Ev_warm h (State.WarmedH.refl U) (Nat.le_refl _) (fun _ _ _ => rfl)
/-- the store σ lies in the heap, its tokens at ad -/
def Rp (D : va_G) (cA : Nat → ClassId) (base bS : Nat) (ad : Nat → Nat) (σ : Sg) (H : Heap) : Prop :=
  (∀ t, sX σ t = true → ad t < H.size ∧ (base ≤ ad t ∨ t % 32 = 25) ∧
    (∀ r : vw_C, vwCl[t % 32]? = some r → t_OB (ad t) (D.1 (t % 32)) r.2.2 (D.2 (t % 32)) H (fun k => fvl ad σ t k (oty (t % 32) k))) ∧
    (∀ ty : FieldType, aty (t % 32) = some ty → H[ad t]? = some (arrV (cA (t % 32)) (aln t) (fun j => fvl ad σ t j ty)))) ∧
  (∀ t u, sX σ t = true → sX σ u = true → ad t = ad u → t = u) ∧ (∀ t k u, sP σ t k = some u → sX σ u = true) ∧ sX σ 25 = true ∧ ad 25 = bS
theorem Rp_kept {D : va_G} {cA : Nat → ClassId} {base bS : Nat} {ad : Nat → Nat} {σ : Sg} {H H1 : Heap} (h : Rp D cA base bS ad σ H) (hz : H.size ≤ H1.size) (hk : ∀ q : Nat, q < H.size → H1[q]? = H[q]?) : Rp D cA base bS ad σ H1 := by
  refine ⟨fun t ht => ?_, h.2⟩
  obtain ⟨h1, h2, h3, h4⟩ := h.1 t ht
  refine ⟨Nat.lt_of_lt_of_le h1 hz, h2, fun r hr => (h3 r hr).kept (hk _ h1), fun ty hty => by rw [hk _ h1]; exact h4 ty hty⟩
theorem Rp_upd {D : va_G} {cA : Nat → ClassId} {base bS : Nat} {ad : Nat → Nat} {σ σ' : Sg} {H H1 : Heap} {t : Nat} (h : Rp D cA base bS ad σ H) (ht : sX σ t = true) (hX : ∀ a, sX σ' a = sX σ a) (hcl : ∀ a k u, sP σ' a k = some u → sX σ u = true)
    (ho : ∀ u, u ≠ t → ∀ k ty, fvl ad σ' u k ty = fvl ad σ u k ty) (hz : H1.size = H.size) (hk : ∀ q : Nat, q ≠ ad t → H1[q]? = H[q]?)
    (hobj : ∀ r : vw_C, vwCl[t % 32]? = some r → t_OB (ad t) (D.1 (t % 32)) r.2.2 (D.2 (t % 32)) H1 (fun k => fvl ad σ' t k (oty (t % 32) k)))
    (harr : ∀ ty : FieldType, aty (t % 32) = some ty → H1[ad t]? = some (arrV (cA (t % 32)) (aln t) (fun j => fvl ad σ' t j ty))) : Rp D cA base bS ad σ' H1 := by
  refine ⟨fun u hu => ?_, fun a b ha hb e => h.2.1 a b (by rw [← hX]; exact ha) (by rw [← hX]; exact hb) e, fun a k u hu => by rw [hX]; exact hcl a k u hu, by rw [hX]; exact h.2.2.2.1, h.2.2.2.2⟩
  rw [hX] at hu
  obtain ⟨h1, h2, h3, h4⟩ := h.1 u hu
  by_cases e : u = t
  · subst e
    exact ⟨by rw [hz]; exact h1, h2, hobj, harr⟩
  · have hne : ad u ≠ ad t := fun q => e (h.2.1 u t hu ht q)
    refine ⟨by rw [hz]; exact h1, h2, fun r hr => ((h3 r hr).kept (hk _ hne)).to fun k _ => (ho u e k _).symm, fun ty hty => ?_⟩
    rw [hk _ hne, h4 ty hty]
    congr 2
    funext j
    exact (ho u e j ty).symm
theorem vcl_aty {c : Nat} {r : vw_C} (h : vwCl[c]? = some r) : aty c = none := by
  have hc : c < 11 := (List.getElem?_eq_some_iff.mp h).1
  have : c = 0 ∨ c = 1 ∨ c = 2 ∨ c = 3 ∨ c = 4 ∨ c = 5 ∨ c = 6 ∨ c = 7 ∨ c = 8 ∨ c = 9 ∨ c = 10 := by omega
  rcases this with rfl | rfl | rfl | rfl | rfl | rfl | rfl | rfl | rfl | rfl | rfl <;> rfl
theorem aty_vcl {c : Nat} {ty : FieldType} (h : aty c = some ty) : vwCl[c]? = none := by
  cases e : vwCl[c]? with
  | none => rfl
  | some r => rw [vcl_aty e] at h; cases h

theorem inGW0 : ∀ w ∈ u_ws RX0 TX0 12, w ∈ GW := fun w hw => List.mem_filter.mpr ⟨((goodIn_r (big := lw_tbl) _ [673, 675, 677, 679, 681, 683, 685, 687, 689, 691, 693, 695] (by decide +kernel) (by decide +kernel)) w hw).1, List.all_eq_true.mp (by decide +kernel : (u_ws RX0 TX0 12).all goodWord = true) w hw⟩
theorem inGW1 : ∀ w ∈ u_ws RX1 TX1 7, w ∈ GW := fun w hw => List.mem_filter.mpr ⟨((goodIn_r (big := lw_tbl) _ [140, 142, 144, 146, 148, 150, 152] (by decide +kernel) (by decide +kernel)) w hw).1, List.all_eq_true.mp (by decide +kernel : (u_ws RX1 TX1 7).all goodWord = true) w hw⟩
theorem inGW2 : ∀ w ∈ u_ws RX2 TX2 14, w ∈ GW := fun w hw => List.mem_filter.mpr ⟨((goodIn_r (big := lw_tbl) _ [199, 201, 203, 205, 207, 209, 211, 213, 215, 217, 219, 221, 223, 225] (by decide +kernel) (by decide +kernel)) w hw).1, List.all_eq_true.mp (by decide +kernel : (u_ws RX2 TX2 14).all goodWord = true) w hw⟩
theorem inGW3 : ∀ w ∈ u_ws RX3 TX3 3, w ∈ GW := fun w hw => List.mem_filter.mpr ⟨((goodIn_r (big := lw_tbl) _ [410, 412, 414] (by decide +kernel) (by decide +kernel)) w hw).1, List.all_eq_true.mp (by decide +kernel : (u_ws RX3 TX3 3).all goodWord = true) w hw⟩
theorem inGW4 : ∀ w ∈ u_ws RX4 TX4 15, w ∈ GW := fun w hw => List.mem_filter.mpr ⟨((goodIn_r (big := lw_tbl) _ [509, 511, 513, 515, 517, 519, 521, 523, 525, 527, 529, 531, 533, 535, 537] (by decide +kernel) (by decide +kernel)) w hw).1, List.all_eq_true.mp (by decide +kernel : (u_ws RX4 TX4 15).all goodWord = true) w hw⟩
theorem inGW5 : ∀ w ∈ u_ws RX5 TX5 3, w ∈ GW := fun w hw => List.mem_filter.mpr ⟨((goodIn_r (big := lw_tbl) _ [447, 449, 451] (by decide +kernel) (by decide +kernel)) w hw).1, List.all_eq_true.mp (by decide +kernel : (u_ws RX5 TX5 3).all goodWord = true) w hw⟩
theorem inGW6 : ∀ w ∈ u_ws RX6 TX6 6, w ∈ GW := fun w hw => List.mem_filter.mpr ⟨((goodIn_r (big := lw_tbl) _ [827, 829, 831, 833, 835, 837] (by decide +kernel) (by decide +kernel)) w hw).1, List.all_eq_true.mp (by decide +kernel : (u_ws RX6 TX6 6).all goodWord = true) w hw⟩
theorem inGW7 : ∀ w ∈ u_ws RX7 TX7 7, w ∈ GW := fun w hw => List.mem_filter.mpr ⟨((goodIn_r (big := lw_tbl) _ [574, 576, 578, 580, 582, 584, 586] (by decide +kernel) (by decide +kernel)) w hw).1, List.all_eq_true.mp (by decide +kernel : (u_ws RX7 TX7 7).all goodWord = true) w hw⟩
theorem inGW8 : ∀ w ∈ u_ws RX8 TX8 5, w ∈ GW := fun w hw => List.mem_filter.mpr ⟨((goodIn_r (big := lw_tbl) _ [110, 112, 114, 116, 118] (by decide +kernel) (by decide +kernel)) w hw).1, List.all_eq_true.mp (by decide +kernel : (u_ws RX8 TX8 5).all goodWord = true) w hw⟩
theorem inGW9 : ∀ w ∈ u_ws RX9 TX9 6, w ∈ GW := fun w hw => List.mem_filter.mpr ⟨((goodIn_r (big := lw_tbl) _ [234, 236, 238, 240, 242, 244] (by decide +kernel) (by decide +kernel)) w hw).1, List.all_eq_true.mp (by decide +kernel : (u_ws RX9 TX9 6).all goodWord = true) w hw⟩
theorem inGW10 : ∀ w ∈ u_ws RX10 TX10 62, w ∈ GW := fun w hw => List.mem_filter.mpr ⟨((goodIn_r (big := lw_tbl) _ [1242, 1244, 1246, 1248, 1250, 1252, 1254, 1256, 1258, 1260, 1262, 1264, 1266, 1268, 1270, 1272, 1274, 1276, 1278, 1280, 1282, 1284, 1286, 1288, 1290, 1292, 1294, 1296, 1298, 1300, 1302, 1304, 1306, 1308, 1310, 1312, 1314, 1316, 1318, 1320, 1322, 1324, 1326, 1328, 1330, 1332, 1334, 1336, 1338, 1340, 1342, 1344, 1346, 1348, 1350, 1352, 1354, 1356, 1358, 1360, 1362, 1364] (by decide +kernel) (by decide +kernel)) w hw).1, List.all_eq_true.mp (by decide +kernel : (u_ws RX10 TX10 62).all goodWord = true) w hw⟩
theorem vcl {c : Nat} {r : vw_C} (h : vwCl[c]? = some r) : (∀ k, k < r.2.2 → parseFieldDescriptor (r.2.1 k).2.2.1 = some (oty c k)) ∧ (∀ a, a < r.2.2 → ∀ b, b < r.2.2 → a ≠ b → (r.2.1 a).2.1 ≠ (r.2.1 b).2.1) ∧ ∀ w ∈ u_ws r.1 r.2.1 r.2.2, w ∈ GW := by
  have hc : c < 11 := (List.getElem?_eq_some_iff.mp h).1
  have h9 : c = 0 ∨ c = 1 ∨ c = 2 ∨ c = 3 ∨ c = 4 ∨ c = 5 ∨ c = 6 ∨ c = 7 ∨ c = 8 ∨ c = 9 ∨ c = 10 := by omega
  rcases h9 with rfl | rfl | rfl | rfl | rfl | rfl | rfl | rfl | rfl | rfl | rfl
  · cases h; exact ⟨tyX0_ok, nmX0, inGW0⟩
  · cases h; exact ⟨tyX1_ok, nmX1, inGW1⟩
  · cases h; exact ⟨tyX2_ok, nmX2, inGW2⟩
  · cases h; exact ⟨tyX3_ok, nmX3, inGW3⟩
  · cases h; exact ⟨tyX4_ok, nmX4, inGW4⟩
  · cases h; exact ⟨tyX5_ok, nmX5, inGW5⟩
  · cases h; exact ⟨tyX6_ok, nmX6, inGW6⟩
  · cases h; exact ⟨tyX7_ok, nmX7, inGW7⟩
  · cases h; exact ⟨tyX8_ok, nmX8, inGW8⟩
  · cases h; exact ⟨tyX9_ok, nmX9, inGW9⟩
  · cases h; exact ⟨tyX10_ok, nmX10, inGW10⟩
