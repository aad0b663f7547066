/-! What a call hands back, as a predicate; the rows of calls in that form; the printed words of fields, sites, methods. -/
def KI (f : Int32 → Sg → Prop) (px : String → Sg → Prop) : Rs → Sg → Prop := fun r σ => match r with
  | .inl (some (.int x)) => f x σ
  | .inr E => px E σ
  | _ => False
def KJ (f : Int64 → Sg → Prop) (px : String → Sg → Prop) : Rs → Sg → Prop := fun r σ => match r with
  | .inl (some (.long x)) => f x σ
  | .inr E => px E σ
  | _ => False
def KO (f : Option Nat → Sg → Prop) (px : String → Sg → Prop) : Rs → Sg → Prop := fun r σ => match r with
  | .inl (some (.ref t)) => f (some t) σ
  | .inl (some .null) => f none σ
  | .inr E => px E σ
  | _ => False
def KV (f : Sg → Prop) (px : String → Sg → Prop) : Rs → Sg → Prop := fun r σ => match r with
  | .inl none => f σ
  | .inr E => px E σ
  | _ => False
theorem KI_inl {f : Int32 → Sg → Prop} {px : String → Sg → Prop} {v : Option Value} {σ : Sg} (h : KI f px (.inl v) σ) : ∃ x, v = some (.int x) ∧ f x σ := by
  match v, h with
  | some (.int x), h => exact ⟨x, rfl, h⟩
theorem KJ_inl {f : Int64 → Sg → Prop} {px : String → Sg → Prop} {v : Option Value} {σ : Sg} (h : KJ f px (.inl v) σ) : ∃ x, v = some (.long x) ∧ f x σ := by
  match v, h with
  | some (.long x), h => exact ⟨x, rfl, h⟩
theorem KO_inl {f : Option Nat → Sg → Prop} {px : String → Sg → Prop} {v : Option Value} {σ : Sg} (h : KO f px (.inl v) σ) : ∃ x, v = some (va_rf x) ∧ f x σ := by
  match v, h with
  | some (.ref t), h => exact ⟨some t, rfl, h⟩
  | some .null, h => exact ⟨none, rfl, h⟩
theorem KV_inl {f : Sg → Prop} {px : String → Sg → Prop} {v : Option Value} {σ : Sg} (h : KV f px (.inl v) σ) : v = none ∧ f σ := by
  match v, h with
  | none, h => exact ⟨rfl, h⟩
theorem KO_rf {f : Option Nat → Sg → Prop} {px : String → Sg → Prop} {o : Option Nat} {σ : Sg} : KO f px (.inl (some (va_rf o))) σ ↔ f o σ := by cases o <;> exact Iff.rfl
def MVV (y : MethodName) (bytes : ByteArray) (maxL : Nat) (ret : Option FieldType) (na : Nat) : Prop := MV y bytes maxL ret na ∧ Cond.instanceMethod y ∈ GW ∧ Cond.selects y.cls y y ∈ GW
def MVS (y : MethodName) (bytes : ByteArray) (maxL : Nat) (ret : Option FieldType) (na : Nat) : Prop := MV y bytes maxL ret na ∧ Cond.static y ∈ GW
def MVI (y : MethodName) (bytes : ByteArray) (maxL : Nat) (na : Nat) : Prop := MV y bytes maxL none na ∧ Cond.instanceMethod y ∈ GW ∧ y.name = "<init>"
def MVX (y : MethodName) (bytes : ByteArray) (maxL : Nat) (ret : Option FieldType) (hh : List (Nat × Nat × Nat × Nat)) (na : Nat) : Prop := (Cond.codeWith y bytes maxL ret hh ∈ GW ∧ Cond.initialized y.cls ∈ GW ∧ (y.cls ≠ "java/lang/invoke/MethodHandle" ∧ y.cls ≠ "java/lang/invoke/VarHandle") ∧ (parseMethodDescriptor y.desc).map (fun d => d.parameters.length) = some na) ∧ Cond.static y ∈ GW
theorem hp0 {x : Option (Option Value)} : ∀ w, 0 < 0 → x = some (some w) → w.category = 1 := fun _ h => absurd h (Nat.lt_irrefl 0)
theorem hpN {i : Nat} {x : Option (Option Value)} (h : x = some none) : ∀ w, 0 < i → x = some (some w) → w.category = 1 := fun w _ h2 => by rw [h] at h2; cases h2
theorem hpV {i : Nat} {x : Option (Option Value)} {v : Value} (h : x = some (some v)) (hc : v.category = 1) : ∀ w, 0 < i → x = some (some w) → w.category = 1 := fun w _ h2 => by rw [h] at h2; cases h2; exact hc
/-- fewer locals -/
def Lle : Lo → Lo → Prop
  | [], [] => True
  | none :: a, _ :: b => Lle a b
  | some v :: a, w :: b => w = some v ∧ Lle a b
  | _, _ => False
theorem Lle_ok : ∀ {a b : Lo}, Lle a b → a.length = b.length ∧ ∀ (i : Nat) (v : Value), a[i]? = some (some v) → b[i]? = some (some v)
  | [], [], _ => ⟨rfl, fun i v h => by simp at h⟩
  | none :: a, _ :: b, h => by
    obtain ⟨h1, h2⟩ := Lle_ok (a := a) (b := b) h
    refine ⟨by rw [List.length_cons, List.length_cons, h1], fun i v hi => ?_⟩
    cases i with
    | zero => cases hi
    | succ i => exact h2 i v hi
  | some x :: a, w :: b, h => by
    obtain ⟨h0, h⟩ := h
    obtain ⟨h1, h2⟩ := Lle_ok (a := a) (b := b) h
    refine ⟨by rw [List.length_cons, List.length_cons, h1], fun i v hi => ?_⟩
    cases i with
    | zero => rw [h0]; exact hi
    | succ i => exact h2 i v hi
  | [], _ :: _, h => h.elim
  | none :: _, [], h => h.elim
  | some _ :: _, [], h => h.elim
section KR
variable {L9 : Launch} {G : Cx} {Q : State → Prop} {pc : Nat} {lo lo' : Lo} {st r : List Value} {σ : Sg} {k n : Nat} {y : MethodName} {cc : ByteArray} {mL : Nat} {ret : Option FieldType} {hh : List (Nat × Nat × Nat × Nat)} {rm : Room} {mc ms : Nat} {Post : Rs → Sg → Prop}
theorem V_forget (h : Lle lo' lo) (kk : V G Q pc lo' st σ k n) : V G Q pc lo st σ k n := V_lo (Lle_ok h).1 (Lle_ok h).2 kk
theorem V_getPv {idx c kf t : Nat} (hG : CX L9 G y cc mL ret hh rm) (d : decode cc pc = .ok (.getfield idx, 3)) (f : FL y.cls idx c kf) (hy : isR (oty c kf) = true) (ht : t % 32 = c) (kk : ∀ o, o = sP σ t kf → V G Q (pc + 3) lo (va_rf o :: r) σ k n) : V G Q pc lo (.ref t :: r) σ k n := V_getP hG d f hy ht (kk _ rfl)
def isRow (t : Nat) : Prop := ∃ C, aty (t % 32) = some (.object C)
def canSt (t u : Nat) : Prop := ∃ r9 : vw_C, aty (t % 32) = some (.object r9.1) ∧ vwCl[u % 32]? = some r9
def isArr (t : Nat) : Prop := ∃ ty, aty (t % 32) = some ty
theorem V_aaldv {t j : Nat} {i : Int32} (hG : CX L9 G y cc mL ret hh rm) (d : decode cc pc = .ok (.aaload, 1)) (hy : isRow t) (hi : i = nI j) (hj : j < aln t) (kk : ∀ o, o = sP σ t j → V G Q (pc + 1) lo (va_rf o :: r) σ k n) : V G Q pc lo (.int i :: .ref t :: r) σ k n := by
  obtain ⟨C, hC⟩ := hy
  exact V_aaldP hG d hC hi hj (kk _ rfl)
theorem V_aastv {t j u : Nat} {i : Int32} (hG : CX L9 G y cc mL ret hh rm) (d : decode cc pc = .ok (.aastore, 1)) (hy : canSt t u) (hi : i = nI j) (hj : j < aln t) (kk : V G Q (pc + 1) lo r (wP σ t j (some u)) k n) : V G Q pc lo (.ref u :: .int i :: .ref t :: r) σ k n := by
  obtain ⟨r9, h1, h2⟩ := hy
  exact V_aast hG d h1 h2 hi hj kk
theorem V_alenv {t : Nat} (hG : CX L9 G y cc mL ret hh rm) (d : decode cc pc = .ok (.arraylength, 1)) (hy : isArr t) (kk : V G Q (pc + 1) lo (.int (nI (aln t)) :: r) σ k n) : V G Q pc lo (.ref t :: r) σ k n := by
  obtain ⟨ty, h1⟩ := hy
  exact V_alen hG d h1 kk

theorem V_cVI {idx t c fr lc mc9 ms9 na maxL9 : Nat} {y9 : MethodName} {b9 : ByteArray} {ret9 : Option FieldType} {As rest stc : List Value} {r9 : vw_C} (f : Int32 → Sg → Prop) (px : String → Sg → Prop) (hG : CX L9 G y cc mL ret hh rm) (d : decode cc pc = .ok (.invokevirtual idx, 3)) (hC : Ct L9 y9 (.code y9 b9 maxL9 ret9) fr lc mc9 ms9 (.ref t :: As) σ (KI f px)) (hM : MVV y9 b9 maxL9 ret9 na) (hlk : Cond.methodLink y.cls idx y9 ∈ GW) (ht : t % 32 = c) (hr : vwCl[c]? = some r9) (hcl : r9.1 = y9.cls) (hn : As.length = na) (hst : stc = As.reverse ++ .ref t :: rest) (hcat : (rest.map fun v => v.category).sum ≤ 8) (hf : fr + 1 ≤ rm.frames) (hlo : maxL9 + 19 + lc ≤ rm.locals) (hc : k + mc9 ≤ rm.cells) (hs : n + ms9 ≤ rm.slots)
    (kx : ∀ E σ', px E σ' → VX G Q E pc lo rest σ' (k + mc9) (n + ms9)) (kk : ∀ x σ', f x σ' → V G Q (pc + 3) lo (.int x :: rest) σ' (k + mc9) (n + ms9)) : V G Q pc lo stc σ k n :=
  V_callV hG d hC hM.1 hM.2.1 hM.2.2 hlk (by rw [ht]; exact hr) hcl hn hst hcat hf hlo hc hs kx (fun v σ' h0 => by
    obtain ⟨x, rfl, h1⟩ := KI_inl h0
    exact kk x σ' h1)
theorem V_cVJ {idx t c fr lc mc9 ms9 na maxL9 : Nat} {y9 : MethodName} {b9 : ByteArray} {ret9 : Option FieldType} {As rest stc : List Value} {r9 : vw_C} (f : Int64 → Sg → Prop) (px : String → Sg → Prop) (hG : CX L9 G y cc mL ret hh rm) (d : decode cc pc = .ok (.invokevirtual idx, 3)) (hC : Ct L9 y9 (.code y9 b9 maxL9 ret9) fr lc mc9 ms9 (.ref t :: As) σ (KJ f px)) (hM : MVV y9 b9 maxL9 ret9 na) (hlk : Cond.methodLink y.cls idx y9 ∈ GW) (ht : t % 32 = c) (hr : vwCl[c]? = some r9) (hcl : r9.1 = y9.cls) (hn : As.length = na) (hst : stc = As.reverse ++ .ref t :: rest) (hcat : (rest.map fun v => v.category).sum ≤ 8) (hf : fr + 1 ≤ rm.frames) (hlo : maxL9 + 19 + lc ≤ rm.locals) (hc : k + mc9 ≤ rm.cells) (hs : n + ms9 ≤ rm.slots)
    (kx : ∀ E σ', px E σ' → VX G Q E pc lo rest σ' (k + mc9) (n + ms9)) (kk : ∀ x σ', f x σ' → V G Q (pc + 3) lo (.long x :: rest) σ' (k + mc9) (n + ms9)) : V G Q pc lo stc σ k n :=
  V_callV hG d hC hM.1 hM.2.1 hM.2.2 hlk (by rw [ht]; exact hr) hcl hn hst hcat hf hlo hc hs kx (fun v σ' h0 => by
    obtain ⟨x, rfl, h1⟩ := KJ_inl h0
    exact kk x σ' h1)
theorem V_cVO {idx t c fr lc mc9 ms9 na maxL9 : Nat} {y9 : MethodName} {b9 : ByteArray} {ret9 : Option FieldType} {As rest stc : List Value} {r9 : vw_C} (f : Option Nat → Sg → Prop) (px : String → Sg → Prop) (hG : CX L9 G y cc mL ret hh rm) (d : decode cc pc = .ok (.invokevirtual idx, 3)) (hC : Ct L9 y9 (.code y9 b9 maxL9 ret9) fr lc mc9 ms9 (.ref t :: As) σ (KO f px)) (hM : MVV y9 b9 maxL9 ret9 na) (hlk : Cond.methodLink y.cls idx y9 ∈ GW) (ht : t % 32 = c) (hr : vwCl[c]? = some r9) (hcl : r9.1 = y9.cls) (hn : As.length = na) (hst : stc = As.reverse ++ .ref t :: rest) (hcat : (rest.map fun v => v.category).sum ≤ 8) (hf : fr + 1 ≤ rm.frames) (hlo : maxL9 + 19 + lc ≤ rm.locals) (hc : k + mc9 ≤ rm.cells) (hs : n + ms9 ≤ rm.slots)
    (kx : ∀ E σ', px E σ' → VX G Q E pc lo rest σ' (k + mc9) (n + ms9)) (kk : ∀ x σ', f x σ' → V G Q (pc + 3) lo (va_rf x :: rest) σ' (k + mc9) (n + ms9)) : V G Q pc lo stc σ k n :=
  V_callV hG d hC hM.1 hM.2.1 hM.2.2 hlk (by rw [ht]; exact hr) hcl hn hst hcat hf hlo hc hs kx (fun v σ' h0 => by
    obtain ⟨x, rfl, h1⟩ := KO_inl h0
    exact kk x σ' h1)
theorem V_cVV {idx t c fr lc mc9 ms9 na maxL9 : Nat} {y9 : MethodName} {b9 : ByteArray} {ret9 : Option FieldType} {As rest stc : List Value} {r9 : vw_C} (f : Sg → Prop) (px : String → Sg → Prop) (hG : CX L9 G y cc mL ret hh rm) (d : decode cc pc = .ok (.invokevirtual idx, 3)) (hC : Ct L9 y9 (.code y9 b9 maxL9 ret9) fr lc mc9 ms9 (.ref t :: As) σ (KV f px)) (hM : MVV y9 b9 maxL9 ret9 na) (hlk : Cond.methodLink y.cls idx y9 ∈ GW) (ht : t % 32 = c) (hr : vwCl[c]? = some r9) (hcl : r9.1 = y9.cls) (hn : As.length = na) (hst : stc = As.reverse ++ .ref t :: rest) (hcat : (rest.map fun v => v.category).sum ≤ 8) (hf : fr + 1 ≤ rm.frames) (hlo : maxL9 + 19 + lc ≤ rm.locals) (hc : k + mc9 ≤ rm.cells) (hs : n + ms9 ≤ rm.slots)
    (kx : ∀ E σ', px E σ' → VX G Q E pc lo rest σ' (k + mc9) (n + ms9)) (kk : ∀ σ', f σ' → V G Q (pc + 3) lo rest σ' (k + mc9) (n + ms9)) : V G Q pc lo stc σ k n :=
  V_callV hG d hC hM.1 hM.2.1 hM.2.2 hlk (by rw [ht]; exact hr) hcl hn hst hcat hf hlo hc hs kx (fun v σ' h0 => by
    obtain ⟨rfl, h1⟩ := KV_inl h0
    exact kk σ' h1)
theorem V_cSI {idx fr lc mc9 ms9 na maxL9 : Nat} {y9 : MethodName} {b9 : ByteArray} {ret9 : Option FieldType} {As rest stc : List Value} (f : Int32 → Sg → Prop) (px : String → Sg → Prop) (hG : CX L9 G y cc mL ret hh rm) (d : decode cc pc = .ok (.invokestatic idx, 3)) (hC : Ct L9 y9 (.code y9 b9 maxL9 ret9) fr lc mc9 ms9 As σ (KI f px)) (hM : MVS y9 b9 maxL9 ret9 na) (hlk : Cond.methodLink y.cls idx y9 ∈ GW) (hn : As.length = na) (hst : stc = As.reverse ++ rest) (hcat : (rest.map fun v => v.category).sum ≤ 8) (hf : fr + 1 ≤ rm.frames) (hlo : maxL9 + 19 + lc ≤ rm.locals) (hc : k + mc9 ≤ rm.cells) (hs : n + ms9 ≤ rm.slots)
    (kx : ∀ E σ', px E σ' → VX G Q E pc lo rest σ' (k + mc9) (n + ms9)) (kk : ∀ x σ', f x σ' → V G Q (pc + 3) lo (.int x :: rest) σ' (k + mc9) (n + ms9)) : V G Q pc lo stc σ k n :=
  V_callS hG d hC hM.1 hM.2 hlk hn hst hcat hf hlo hc hs kx (fun v σ' h0 => by
    obtain ⟨x, rfl, h1⟩ := KI_inl h0
    exact kk x σ' h1)
theorem V_cSJ {idx fr lc mc9 ms9 na maxL9 : Nat} {y9 : MethodName} {b9 : ByteArray} {ret9 : Option FieldType} {As rest stc : List Value} (f : Int64 → Sg → Prop) (px : String → Sg → Prop) (hG : CX L9 G y cc mL ret hh rm) (d : decode cc pc = .ok (.invokestatic idx, 3)) (hC : Ct L9 y9 (.code y9 b9 maxL9 ret9) fr lc mc9 ms9 As σ (KJ f px)) (hM : MVS y9 b9 maxL9 ret9 na) (hlk : Cond.methodLink y.cls idx y9 ∈ GW) (hn : As.length = na) (hst : stc = As.reverse ++ rest) (hcat : (rest.map fun v => v.category).sum ≤ 8) (hf : fr + 1 ≤ rm.frames) (hlo : maxL9 + 19 + lc ≤ rm.locals) (hc : k + mc9 ≤ rm.cells) (hs : n + ms9 ≤ rm.slots)
    (kx : ∀ E σ', px E σ' → VX G Q E pc lo rest σ' (k + mc9) (n + ms9)) (kk : ∀ x σ', f x σ' → V G Q (pc + 3) lo (.long x :: rest) σ' (k + mc9) (n + ms9)) : V G Q pc lo stc σ k n :=
  V_callS hG d hC hM.1 hM.2 hlk hn hst hcat hf hlo hc hs kx (fun v σ' h0 => by
    obtain ⟨x, rfl, h1⟩ := KJ_inl h0
    exact kk x σ' h1)
theorem V_cSO {idx fr lc mc9 ms9 na maxL9 : Nat} {y9 : MethodName} {b9 : ByteArray} {ret9 : Option FieldType} {As rest stc : List Value} (f : Option Nat → Sg → Prop) (px : String → Sg → Prop) (hG : CX L9 G y cc mL ret hh rm) (d : decode cc pc = .ok (.invokestatic idx, 3)) (hC : Ct L9 y9 (.code y9 b9 maxL9 ret9) fr lc mc9 ms9 As σ (KO f px)) (hM : MVS y9 b9 maxL9 ret9 na) (hlk : Cond.methodLink y.cls idx y9 ∈ GW) (hn : As.length = na) (hst : stc = As.reverse ++ rest) (hcat : (rest.map fun v => v.category).sum ≤ 8) (hf : fr + 1 ≤ rm.frames) (hlo : maxL9 + 19 + lc ≤ rm.locals) (hc : k + mc9 ≤ rm.cells) (hs : n + ms9 ≤ rm.slots)
    (kx : ∀ E σ', px E σ' → VX G Q E pc lo rest σ' (k + mc9) (n + ms9)) (kk : ∀ x σ', f x σ' → V G Q (pc + 3) lo (va_rf x :: rest) σ' (k + mc9) (n + ms9)) : V G Q pc lo stc σ k n :=
  V_callS hG d hC hM.1 hM.2 hlk hn hst hcat hf hlo hc hs kx (fun v σ' h0 => by
    obtain ⟨x, rfl, h1⟩ := KO_inl h0
    exact kk x σ' h1)
theorem V_cSV {idx fr lc mc9 ms9 na maxL9 : Nat} {y9 : MethodName} {b9 : ByteArray} {ret9 : Option FieldType} {As rest stc : List Value} (f : Sg → Prop) (px : String → Sg → Prop) (hG : CX L9 G y cc mL ret hh rm) (d : decode cc pc = .ok (.invokestatic idx, 3)) (hC : Ct L9 y9 (.code y9 b9 maxL9 ret9) fr lc mc9 ms9 As σ (KV f px)) (hM : MVS y9 b9 maxL9 ret9 na) (hlk : Cond.methodLink y.cls idx y9 ∈ GW) (hn : As.length = na) (hst : stc = As.reverse ++ rest) (hcat : (rest.map fun v => v.category).sum ≤ 8) (hf : fr + 1 ≤ rm.frames) (hlo : maxL9 + 19 + lc ≤ rm.locals) (hc : k + mc9 ≤ rm.cells) (hs : n + ms9 ≤ rm.slots)
    (kx : ∀ E σ', px E σ' → VX G Q E pc lo rest σ' (k + mc9) (n + ms9)) (kk : ∀ σ', f σ' → V G Q (pc + 3) lo rest σ' (k + mc9) (n + ms9)) : V G Q pc lo stc σ k n :=
  V_callS hG d hC hM.1 hM.2 hlk hn hst hcat hf hlo hc hs kx (fun v σ' h0 => by
    obtain ⟨rfl, h1⟩ := KV_inl h0
    exact kk σ' h1)
theorem V_cXI {idx fr lc mc9 ms9 na maxL9 : Nat} {y9 : MethodName} {b9 : ByteArray} {ret9 : Option FieldType} {hh9 : List (Nat × Nat × Nat × Nat)} {As rest stc : List Value} (f : Int32 → Sg → Prop) (px : String → Sg → Prop) (hG : CX L9 G y cc mL ret hh rm) (d : decode cc pc = .ok (.invokestatic idx, 3)) (hC : Ct L9 y9 (.codeWith y9 b9 maxL9 ret9 hh9) fr lc mc9 ms9 As σ (KI f px)) (hM : MVX y9 b9 maxL9 ret9 hh9 na) (hlk : Cond.methodLink y.cls idx y9 ∈ GW) (hn : As.length = na) (hst : stc = As.reverse ++ rest) (hcat : (rest.map fun v => v.category).sum ≤ 8) (hf : fr + 1 ≤ rm.frames) (hlo : maxL9 + 19 + lc ≤ rm.locals) (hc : k + mc9 ≤ rm.cells) (hs : n + ms9 ≤ rm.slots)
    (kx : ∀ E σ', px E σ' → VX G Q E pc lo rest σ' (k + mc9) (n + ms9)) (kk : ∀ x σ', f x σ' → V G Q (pc + 3) lo (.int x :: rest) σ' (k + mc9) (n + ms9)) : V G Q pc lo stc σ k n :=
  V_callSX hG d hC hM.1 hM.2 hlk hn hst hcat hf hlo hc hs kx (fun v σ' h0 => by
    obtain ⟨x, rfl, h1⟩ := KI_inl h0
    exact kk x σ' h1)
theorem V_cXJ {idx fr lc mc9 ms9 na maxL9 : Nat} {y9 : MethodName} {b9 : ByteArray} {ret9 : Option FieldType} {hh9 : List (Nat × Nat × Nat × Nat)} {As rest stc : List Value} (f : Int64 → Sg → Prop) (px : String → Sg → Prop) (hG : CX L9 G y cc mL ret hh rm) (d : decode cc pc = .ok (.invokestatic idx, 3)) (hC : Ct L9 y9 (.codeWith y9 b9 maxL9 ret9 hh9) fr lc mc9 ms9 As σ (KJ f px)) (hM : MVX y9 b9 maxL9 ret9 hh9 na) (hlk : Cond.methodLink y.cls idx y9 ∈ GW) (hn : As.length = na) (hst : stc = As.reverse ++ rest) (hcat : (rest.map fun v => v.category).sum ≤ 8) (hf : fr + 1 ≤ rm.frames) (hlo : maxL9 + 19 + lc ≤ rm.locals) (hc : k + mc9 ≤ rm.cells) (hs : n + ms9 ≤ rm.slots)
    (kx : ∀ E σ', px E σ' → VX G Q E pc lo rest σ' (k + mc9) (n + ms9)) (kk : ∀ x σ', f x σ' → V G Q (pc + 3) lo (.long x :: rest) σ' (k + mc9) (n + ms9)) : V G Q pc lo stc σ k n :=
  V_callSX hG d hC hM.1 hM.2 hlk hn hst hcat hf hlo hc hs kx (fun v σ' h0 => by
    obtain ⟨x, rfl, h1⟩ := KJ_inl h0
    exact kk x σ' h1)
theorem V_cXO {idx fr lc mc9 ms9 na maxL9 : Nat} {y9 : MethodName} {b9 : ByteArray} {ret9 : Option FieldType} {hh9 : List (Nat × Nat × Nat × Nat)} {As rest stc : List Value} (f : Option Nat → Sg → Prop) (px : String → Sg → Prop) (hG : CX L9 G y cc mL ret hh rm) (d : decode cc pc = .ok (.invokestatic idx, 3)) (hC : Ct L9 y9 (.codeWith y9 b9 maxL9 ret9 hh9) fr lc mc9 ms9 As σ (KO f px)) (hM : MVX y9 b9 maxL9 ret9 hh9 na) (hlk : Cond.methodLink y.cls idx y9 ∈ GW) (hn : As.length = na) (hst : stc = As.reverse ++ rest) (hcat : (rest.map fun v => v.category).sum ≤ 8) (hf : fr + 1 ≤ rm.frames) (hlo : maxL9 + 19 + lc ≤ rm.locals) (hc : k + mc9 ≤ rm.cells) (hs : n + ms9 ≤ rm.slots)
    (kx : ∀ E σ', px E σ' → VX G Q E pc lo rest σ' (k + mc9) (n + ms9)) (kk : ∀ x σ', f x σ' → V G Q (pc + 3) lo (va_rf x :: rest) σ' (k + mc9) (n + ms9)) : V G Q pc lo stc σ k n :=
  V_callSX hG d hC hM.1 hM.2 hlk hn hst hcat hf hlo hc hs kx (fun v σ' h0 => by
    obtain ⟨x, rfl, h1⟩ := KO_inl h0
    exact kk x σ' h1)
theorem V_cXV {idx fr lc mc9 ms9 na maxL9 : Nat} {y9 : MethodName} {b9 : ByteArray} {ret9 : Option FieldType} {hh9 : List (Nat × Nat × Nat × Nat)} {As rest stc : List Value} (f : Sg → Prop) (px : String → Sg → Prop) (hG : CX L9 G y cc mL ret hh rm) (d : decode cc pc = .ok (.invokestatic idx, 3)) (hC : Ct L9 y9 (.codeWith y9 b9 maxL9 ret9 hh9) fr lc mc9 ms9 As σ (KV f px)) (hM : MVX y9 b9 maxL9 ret9 hh9 na) (hlk : Cond.methodLink y.cls idx y9 ∈ GW) (hn : As.length = na) (hst : stc = As.reverse ++ rest) (hcat : (rest.map fun v => v.category).sum ≤ 8) (hf : fr + 1 ≤ rm.frames) (hlo : maxL9 + 19 + lc ≤ rm.locals) (hc : k + mc9 ≤ rm.cells) (hs : n + ms9 ≤ rm.slots)
    (kx : ∀ E σ', px E σ' → VX G Q E pc lo rest σ' (k + mc9) (n + ms9)) (kk : ∀ σ', f σ' → V G Q (pc + 3) lo rest σ' (k + mc9) (n + ms9)) : V G Q pc lo stc σ k n :=
  V_callSX hG d hC hM.1 hM.2 hlk hn hst hcat hf hlo hc hs kx (fun v σ' h0 => by
    obtain ⟨rfl, h1⟩ := KV_inl h0
    exact kk σ' h1)
theorem V_cII {idx t fr lc mc9 ms9 na maxL9 : Nat} {y9 : MethodName} {b9 : ByteArray} {As rest stc : List Value} (f : Int32 → Sg → Prop) (px : String → Sg → Prop) (hG : CX L9 G y cc mL ret hh rm) (d : decode cc pc = .ok (.invokespecial idx, 3)) (hC : Ct L9 y9 (.code y9 b9 maxL9 none) fr lc mc9 ms9 (.ref t :: As) σ (KI f px)) (hM : MVI y9 b9 maxL9 na) (hlk : Cond.methodLink y.cls idx y9 ∈ GW) (hn : As.length = na) (hst : stc = As.reverse ++ .ref t :: rest) (hcat : (rest.map fun v => v.category).sum ≤ 8) (hf : fr + 1 ≤ rm.frames) (hlo : maxL9 + 19 + lc ≤ rm.locals) (hc : k + mc9 ≤ rm.cells) (hs : n + ms9 ≤ rm.slots)
    (kx : ∀ E σ', px E σ' → VX G Q E pc lo rest σ' (k + mc9) (n + ms9)) (kk : ∀ x σ', f x σ' → V G Q (pc + 3) lo (.int x :: rest) σ' (k + mc9) (n + ms9)) : V G Q pc lo stc σ k n :=
  V_callI hG d hC hM.1 hM.2.1 hM.2.2 hlk hn hst hcat hf hlo hc hs kx (fun v σ' h0 => by
    obtain ⟨x, rfl, h1⟩ := KI_inl h0
    exact kk x σ' h1)
theorem V_cIJ {idx t fr lc mc9 ms9 na maxL9 : Nat} {y9 : MethodName} {b9 : ByteArray} {As rest stc : List Value} (f : Int64 → Sg → Prop) (px : String → Sg → Prop) (hG : CX L9 G y cc mL ret hh rm) (d : decode cc pc = .ok (.invokespecial idx, 3)) (hC : Ct L9 y9 (.code y9 b9 maxL9 none) fr lc mc9 ms9 (.ref t :: As) σ (KJ f px)) (hM : MVI y9 b9 maxL9 na) (hlk : Cond.methodLink y.cls idx y9 ∈ GW) (hn : As.length = na) (hst : stc = As.reverse ++ .ref t :: rest) (hcat : (rest.map fun v => v.category).sum ≤ 8) (hf : fr + 1 ≤ rm.frames) (hlo : maxL9 + 19 + lc ≤ rm.locals) (hc : k + mc9 ≤ rm.cells) (hs : n + ms9 ≤ rm.slots)
    (kx : ∀ E σ', px E σ' → VX G Q E pc lo rest σ' (k + mc9) (n + ms9)) (kk : ∀ x σ', f x σ' → V G Q (pc + 3) lo (.long x :: rest) σ' (k + mc9) (n + ms9)) : V G Q pc lo stc σ k n :=
  V_callI hG d hC hM.1 hM.2.1 hM.2.2 hlk hn hst hcat hf hlo hc hs kx (fun v σ' h0 => by
    obtain ⟨x, rfl, h1⟩ := KJ_inl h0
    exact kk x σ' h1)
theorem V_cIO {idx t fr lc mc9 ms9 na maxL9 : Nat} {y9 : MethodName} {b9 : ByteArray} {As rest stc : List Value} (f : Option Nat → Sg → Prop) (px : String → Sg → Prop) (hG : CX L9 G y cc mL ret hh rm) (d : decode cc pc = .ok (.invokespecial idx, 3)) (hC : Ct L9 y9 (.code y9 b9 maxL9 none) fr lc mc9 ms9 (.ref t :: As) σ (KO f px)) (hM : MVI y9 b9 maxL9 na) (hlk : Cond.methodLink y.cls idx y9 ∈ GW) (hn : As.length = na) (hst : stc = As.reverse ++ .ref t :: rest) (hcat : (rest.map fun v => v.category).sum ≤ 8) (hf : fr + 1 ≤ rm.frames) (hlo : maxL9 + 19 + lc ≤ rm.locals) (hc : k + mc9 ≤ rm.cells) (hs : n + ms9 ≤ rm.slots)
    (kx : ∀ E σ', px E σ' → VX G Q E pc lo rest σ' (k + mc9) (n + ms9)) (kk : ∀ x σ', f x σ' → V G Q (pc + 3) lo (va_rf x :: rest) σ' (k + mc9) (n + ms9)) : V G Q pc lo stc σ k n :=
  V_callI hG d hC hM.1 hM.2.1 hM.2.2 hlk hn hst hcat hf hlo hc hs kx (fun v σ' h0 => by
    obtain ⟨x, rfl, h1⟩ := KO_inl h0
    exact kk x σ' h1)
theorem V_cIV {idx t fr lc mc9 ms9 na maxL9 : Nat} {y9 : MethodName} {b9 : ByteArray} {As rest stc : List Value} (f : Sg → Prop) (px : String → Sg → Prop) (hG : CX L9 G y cc mL ret hh rm) (d : decode cc pc = .ok (.invokespecial idx, 3)) (hC : Ct L9 y9 (.code y9 b9 maxL9 none) fr lc mc9 ms9 (.ref t :: As) σ (KV f px)) (hM : MVI y9 b9 maxL9 na) (hlk : Cond.methodLink y.cls idx y9 ∈ GW) (hn : As.length = na) (hst : stc = As.reverse ++ .ref t :: rest) (hcat : (rest.map fun v => v.category).sum ≤ 8) (hf : fr + 1 ≤ rm.frames) (hlo : maxL9 + 19 + lc ≤ rm.locals) (hc : k + mc9 ≤ rm.cells) (hs : n + ms9 ≤ rm.slots)
    (kx : ∀ E σ', px E σ' → VX G Q E pc lo rest σ' (k + mc9) (n + ms9)) (kk : ∀ σ', f σ' → V G Q (pc + 3) lo rest σ' (k + mc9) (n + ms9)) : V G Q pc lo stc σ k n :=
  V_callI hG d hC hM.1 hM.2.1 hM.2.2 hlk hn hst hcat hf hlo hc hs kx (fun v σ' h0 => by
    obtain ⟨rfl, h1⟩ := KV_inl h0
    exact kk σ' h1)
theorem V_cNI {idx t fr lc mc9 ms9 na maxL9 : Nat} {y9 : MethodName} {b9 : ByteArray} {As rest stc : List Value} (f : Int32 → Sg → Prop) (px : String → Sg → Prop) (hG : CX L9 G y cc mL ret hh rm) (d : decode cc pc = .ok (.invokespecial idx, 3)) (hC : Ct L9 y9 (.code y9 b9 maxL9 none) fr lc mc9 ms9 (.ref t :: As) σ (KI f px)) (hM : MVI y9 b9 maxL9 na) (hlk : Cond.methodLinkNest y.cls idx y9 "Millrace" = nestW) (hn : As.length = na) (hst : stc = As.reverse ++ .ref t :: rest) (hcat : (rest.map fun v => v.category).sum ≤ 8) (hf : fr + 1 ≤ rm.frames) (hlo : maxL9 + 19 + lc ≤ rm.locals) (hc : k + mc9 ≤ rm.cells) (hs : n + ms9 ≤ rm.slots)
    (kx : ∀ E σ', px E σ' → VX G Q E pc lo rest σ' (k + mc9) (n + ms9)) (kk : ∀ x σ', f x σ' → V G Q (pc + 3) lo (.int x :: rest) σ' (k + mc9) (n + ms9)) : V G Q pc lo stc σ k n :=
  V_callIN hG d hC hM.1 hM.2.1 hM.2.2 hlk hn hst hcat hf hlo hc hs kx (fun v σ' h0 => by
    obtain ⟨x, rfl, h1⟩ := KI_inl h0
    exact kk x σ' h1)
theorem V_cNJ {idx t fr lc mc9 ms9 na maxL9 : Nat} {y9 : MethodName} {b9 : ByteArray} {As rest stc : List Value} (f : Int64 → Sg → Prop) (px : String → Sg → Prop) (hG : CX L9 G y cc mL ret hh rm) (d : decode cc pc = .ok (.invokespecial idx, 3)) (hC : Ct L9 y9 (.code y9 b9 maxL9 none) fr lc mc9 ms9 (.ref t :: As) σ (KJ f px)) (hM : MVI y9 b9 maxL9 na) (hlk : Cond.methodLinkNest y.cls idx y9 "Millrace" = nestW) (hn : As.length = na) (hst : stc = As.reverse ++ .ref t :: rest) (hcat : (rest.map fun v => v.category).sum ≤ 8) (hf : fr + 1 ≤ rm.frames) (hlo : maxL9 + 19 + lc ≤ rm.locals) (hc : k + mc9 ≤ rm.cells) (hs : n + ms9 ≤ rm.slots)
    (kx : ∀ E σ', px E σ' → VX G Q E pc lo rest σ' (k + mc9) (n + ms9)) (kk : ∀ x σ', f x σ' → V G Q (pc + 3) lo (.long x :: rest) σ' (k + mc9) (n + ms9)) : V G Q pc lo stc σ k n :=
  V_callIN hG d hC hM.1 hM.2.1 hM.2.2 hlk hn hst hcat hf hlo hc hs kx (fun v σ' h0 => by
    obtain ⟨x, rfl, h1⟩ := KJ_inl h0
    exact kk x σ' h1)
theorem V_cNO {idx t fr lc mc9 ms9 na maxL9 : Nat} {y9 : MethodName} {b9 : ByteArray} {As rest stc : List Value} (f : Option Nat → Sg → Prop) (px : String → Sg → Prop) (hG : CX L9 G y cc mL ret hh rm) (d : decode cc pc = .ok (.invokespecial idx, 3)) (hC : Ct L9 y9 (.code y9 b9 maxL9 none) fr lc mc9 ms9 (.ref t :: As) σ (KO f px)) (hM : MVI y9 b9 maxL9 na) (hlk : Cond.methodLinkNest y.cls idx y9 "Millrace" = nestW) (hn : As.length = na) (hst : stc = As.reverse ++ .ref t :: rest) (hcat : (rest.map fun v => v.category).sum ≤ 8) (hf : fr + 1 ≤ rm.frames) (hlo : maxL9 + 19 + lc ≤ rm.locals) (hc : k + mc9 ≤ rm.cells) (hs : n + ms9 ≤ rm.slots)
    (kx : ∀ E σ', px E σ' → VX G Q E pc lo rest σ' (k + mc9) (n + ms9)) (kk : ∀ x σ', f x σ' → V G Q (pc + 3) lo (va_rf x :: rest) σ' (k + mc9) (n + ms9)) : V G Q pc lo stc σ k n :=
  V_callIN hG d hC hM.1 hM.2.1 hM.2.2 hlk hn hst hcat hf hlo hc hs kx (fun v σ' h0 => by
    obtain ⟨x, rfl, h1⟩ := KO_inl h0
    exact kk x σ' h1)
theorem V_cNV {idx t fr lc mc9 ms9 na maxL9 : Nat} {y9 : MethodName} {b9 : ByteArray} {As rest stc : List Value} (f : Sg → Prop) (px : String → Sg → Prop) (hG : CX L9 G y cc mL ret hh rm) (d : decode cc pc = .ok (.invokespecial idx, 3)) (hC : Ct L9 y9 (.code y9 b9 maxL9 none) fr lc mc9 ms9 (.ref t :: As) σ (KV f px)) (hM : MVI y9 b9 maxL9 na) (hlk : Cond.methodLinkNest y.cls idx y9 "Millrace" = nestW) (hn : As.length = na) (hst : stc = As.reverse ++ .ref t :: rest) (hcat : (rest.map fun v => v.category).sum ≤ 8) (hf : fr + 1 ≤ rm.frames) (hlo : maxL9 + 19 + lc ≤ rm.locals) (hc : k + mc9 ≤ rm.cells) (hs : n + ms9 ≤ rm.slots)
    (kx : ∀ E σ', px E σ' → VX G Q E pc lo rest σ' (k + mc9) (n + ms9)) (kk : ∀ σ', f σ' → V G Q (pc + 3) lo rest σ' (k + mc9) (n + ms9)) : V G Q pc lo stc σ k n :=
  V_callIN hG d hC hM.1 hM.2.1 hM.2.2 hlk hn hst hcat hf hlo hc hs kx (fun v σ' h0 => by
    obtain ⟨rfl, h1⟩ := KV_inl h0
    exact kk σ' h1)
end KR
