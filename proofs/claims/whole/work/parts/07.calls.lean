section VXIA
variable {p : Program} {l : Launch} {e : Env} {R : Room} {s : State} {m : MethodId} {args : Array Value} {below : List Frame} {meth : Method} {c : Code} {T : State} {locs : List Loc} {cells slots : Nat}
theorem vx_callI (X : Stand p l e R s m args below meth c T locs cells slots) (hexec : p.tables.exec = Jvm.exec) {own : String} {index : Nat} {y : MethodName} {bytes : ByteArray} {maxL : Nat}
    (hown : s.vm.findClass own = some m.cls) (hy1 : y.name = "<init>") (hlink : (Cond.methodLink own index y).before args s = true) (hinst : (Cond.instanceMethod y).before args s = true)
    (hcode : (Cond.code y bytes maxL none).before args s = true) (hy : y.cls ≠ "java/lang/invoke/MethodHandle" ∧ y.cls ≠ "java/lang/invoke/VarHandle")
    {W9 : Nat} {Pre : Pt → Array Value → Prop} {Post : Pt → Array Value → Option Value → Pt → Prop} {PostX : Pt → Array Value → Addr → Pt → Prop} (hK : vx_Back l R p e below s args y 3 W9 Pre Post PostX)
    {g : JFrame} (hg : g.method = m) (hsize : g.locals.size = c.maxLocals) {a : Addr} {argsL rest : List Value} (hlen : ∀ sig, parseMethodDescriptor y.desc = some sig → argsL.length = sig.parameters.length)
    (hstack : g.stack = argsL.reverse ++ .ref a :: rest) (hW : 2 * g.monitorRoom + (rest.map fun v => v.category).sum ≤ W9) (hdg : decode c.code g.pc = .ok (.invokespecial index, 3))
    (hpre : ∀ vm₁, s.WarmedH vm₁ → Pre ⟨T.setVm vm₁, locs, cells, slots⟩ (Value.ref a :: argsL).toArray) :
    (∃ (v : Option Value) (vm₁ : Vm) (B : Pt), s.WarmedH vm₁ ∧ Stand p l e R s m args below meth c B.U B.locs B.cells B.slots ∧ Post ⟨T.setVm vm₁, locs, cells, slots⟩ (Value.ref a :: argsL).toArray v B ∧
      ∀ target, Steps p.tables e below (B.U.setTop { g with pc := g.pc + 3, stack := v.toList ++ rest }) target → Steps p.tables e below (T.setTop g) target) ∨
    (∃ (q : Addr) (vm₁ : Vm) (B : Pt), s.WarmedH vm₁ ∧ Stand p l e R s m args below meth c B.U B.locs B.cells B.slots ∧ PostX ⟨T.setVm vm₁, locs, cells, slots⟩ (Value.ref a :: argsL).toArray q B ∧
      Steps p.tables e below (T.setTop g) ((B.U.setTop { g with stack := rest }).pushFrame (.throwing q))) := by
  subst hg
  have hpl : e.platform.magicAccessors = ({} : Platform).magicAccessors := by rw [X.admits.platform]
  obtain ⟨mk, methM, cM, kP, vm₁, hnamed, hmethM, hcodeM, -, hlocalsM, -, hkP, -, hW₁, hstep₁⟩ := Steps.initColdArgs (e := e) X.here hexec X.warmed hpl hown hy1 hy hlink hinst hcode (f := g) rfl hlen hstack hdg
  have X₁ := X.noted hW₁
  rcases hK g.method meth c ⟨T.setVm vm₁, locs, cells, slots⟩ { g with stack := rest } (.invokespecial index) mk (Value.ref a :: argsL).toArray X₁ rfl hsize hdg hW (X₁.named hnamed) (hpre vm₁ X₁.warmed) with ⟨v, B, X', hpost, hsteps⟩ | ⟨q, B, X', hpost, hsteps⟩
  · exact Or.inl ⟨v, vm₁, B, X₁.warmed, X', hpost, fun target h => hstep₁ _ fun acts => by rw [doInvoke_state]; exact hsteps.trans h⟩
  · exact Or.inr ⟨q, vm₁, B, X₁.warmed, X', hpost, hstep₁ _ fun acts => by rw [doInvoke_state]; exact hsteps⟩
end VXIA
section VXIB
variable {p : Program} {l : Launch} {e : Env} {R : Room} {s : State} {m : MethodId} {args : Array Value} {below : List Frame} {meth : Method} {c : Code} {H : Heap} {locs : List Loc} {cells slots : Nat}
variable {y : MethodName} {bytes cc : ByteArray} {maxL nL mc ms n index : Nat} {ret : Option FieldType} {ws : List Cond} {rm : Room} {Pc : Array Value → State → Prop} {Qc : Array Value → State → Outcome → State → Prop} {XC : String → State → State → Prop} {free : Addr → Prop} {Ts : List Cond} {own C : String} {b : Addr} {As rest : List Value} {g : JFrame}
theorem vx_runI (S : CallFix p m c cc nL s args Ts own) (hM : vx_Met l y ws rm Pc Qc XC mc ms free) (cw : CallB R s args own index y bytes maxL none ws rm mc ms n ∧ y.name = "<init>" ∧ (Cond.instanceMethod y).before args s = true) (hp : PreS s H Pc (.ref b :: As))
    (hg : g.method = m) (hn : As.length = n) (hsize : g.locals.size = nL) (hstack : g.stack = As.reverse ++ .ref b :: rest) (hW : 2 * g.monitorRoom + (rest.map fun v => v.category).sum ≤ 8) (hdg : decode cc g.pc = .ok (.invokespecial index, 3)) (hf : cells + mc ≤ R.cells ∧ slots + ms ≤ R.slots) :
    vx_Run p l e R s m args below meth c H locs cells slots mc ms g rest (Qc (Value.ref b :: As).toArray) XC free := by
  have hK : vx_Back l R p e below s args y 3 8 (PreOf R mc ms Pc) (PostOf Qc mc ms free) (vx_Post XC mc ms free) := vx_callBack cw.1 hM hp.1
  obtain ⟨⟨-, -, -, -, -, -, hcode, -, hy, hlen, hl⟩, hy1, hin⟩ := cw
  obtain ⟨hx, hb, hml, ho, -⟩ := S
  have hPc := hp.2
  intro T hT X
  rcases vx_callI X hx (bytes := bytes) (maxL := maxL) ho hy1 hl hin hcode hy hK hg (hsize.trans hml.symm) (a := b) (argsL := As) (rest := rest) (fun sig h => hn.trans (hlen sig h)) hstack hW (by rw [hb]; exact hdg)
    (fun vm₁ hW₁ => ⟨hf.1, hf.2, hPc (T.setVm vm₁) hT hW₁⟩) with ⟨v, vm₁, ⟨U', l2, c2, s2⟩, hW₁, X', ⟨g', mk, t, L, e1, e2, hq, h1, hL, h2, h3⟩, st⟩ | ⟨q, vm₁, ⟨U', l2, c2, s2⟩, hW₁, X', ⟨g', mk, t, L, E, ce, e1, e2, hq, hce, hcv, hcl, h1, hL, h2, h3⟩, st⟩
  · dsimp only [Pt.U, Pt.locs, Pt.cells, Pt.slots] at X' e1 e2 h1 h2 h3 st
    subst h1; subst h2; subst h3
    exact Or.inl ⟨v, (T.setVm vm₁).calling g' mk (Value.ref b :: As).toArray, t, U', L, hT, X', hL, e1, e2, hq, st⟩
  · dsimp only [Pt.U, Pt.locs, Pt.cells, Pt.slots] at X' e1 e2 h1 h2 h3 st hcl
    subst h1; subst h2; subst h3
    exact Or.inr ⟨q, (T.setVm vm₁).calling g' mk (Value.ref b :: As).toArray, t, U', L, E, ce, hT, X', hL, e1, e2, hq, hce, hcv, vx_cls hW₁ hcl, st⟩
end VXIB
/-! ===== END ===== -/
/-! ===== BEGIN a private constructor of a nest mate that throws ===== -/
section VXIC
variable {p : Program} {l : Launch} {e : Env} {R : Room} {s : State} {m : MethodId} {args : Array Value} {below : List Frame} {meth : Method} {c : Code} {T : State} {locs : List Loc} {cells slots : Nat}
theorem vx_callIN (X : Stand p l e R s m args below meth c T locs cells slots) (hexec : p.tables.exec = Jvm.exec) {own : String} {index : Nat} {host : String} {y : MethodName} {bytes : ByteArray} {maxL : Nat}
    (hown : s.vm.findClass own = some m.cls) (hy1 : y.name = "<init>") (hlink : (Cond.methodLinkNest own index y host).before args s = true) (hinst : (Cond.instanceMethod y).before args s = true)
    (hcode : (Cond.code y bytes maxL none).before args s = true) (hy : y.cls ≠ "java/lang/invoke/MethodHandle" ∧ y.cls ≠ "java/lang/invoke/VarHandle")
    {W9 : Nat} {Pre : Pt → Array Value → Prop} {Post : Pt → Array Value → Option Value → Pt → Prop} {PostX : Pt → Array Value → Addr → Pt → Prop} (hK : vx_Back l R p e below s args y 3 W9 Pre Post PostX)
    {g : JFrame} (hg : g.method = m) (hsize : g.locals.size = c.maxLocals) {a : Addr} {argsL rest : List Value} (hlen : ∀ sig, parseMethodDescriptor y.desc = some sig → argsL.length = sig.parameters.length)
    (hstack : g.stack = argsL.reverse ++ .ref a :: rest) (hW : 2 * g.monitorRoom + (rest.map fun v => v.category).sum ≤ W9) (hdg : decode c.code g.pc = .ok (.invokespecial index, 3))
    (hpre : ∀ vm₁, s.WarmedH vm₁ → Pre ⟨T.setVm vm₁, locs, cells, slots⟩ (Value.ref a :: argsL).toArray) :
    (∃ (v : Option Value) (vm₁ : Vm) (B : Pt), s.WarmedH vm₁ ∧ Stand p l e R s m args below meth c B.U B.locs B.cells B.slots ∧ Post ⟨T.setVm vm₁, locs, cells, slots⟩ (Value.ref a :: argsL).toArray v B ∧
      ∀ target, Steps p.tables e below (B.U.setTop { g with pc := g.pc + 3, stack := v.toList ++ rest }) target → Steps p.tables e below (T.setTop g) target) ∨
    (∃ (q : Addr) (vm₁ : Vm) (B : Pt), s.WarmedH vm₁ ∧ Stand p l e R s m args below meth c B.U B.locs B.cells B.slots ∧ PostX ⟨T.setVm vm₁, locs, cells, slots⟩ (Value.ref a :: argsL).toArray q B ∧
      Steps p.tables e below (T.setTop g) ((B.U.setTop { g with stack := rest }).pushFrame (.throwing q))) := by
  subst hg
  have hpl : e.platform.magicAccessors = ({} : Platform).magicAccessors := by rw [X.admits.platform]
  obtain ⟨mk, methM, cM, kP, vm₁, hnamed, hmethM, hcodeM, -, hlocalsM, -, hkP, -, hW₁, hstep₁⟩ := Steps.initColdArgsNest (e := e) X.here hexec X.warmed hpl hown hy1 hy hlink hinst hcode (f := g) rfl hlen hstack hdg
  have X₁ := X.noted hW₁
  rcases hK g.method meth c ⟨T.setVm vm₁, locs, cells, slots⟩ { g with stack := rest } (.invokespecial index) mk (Value.ref a :: argsL).toArray X₁ rfl hsize hdg hW (X₁.named hnamed) (hpre vm₁ X₁.warmed) with ⟨v, B, X', hpost, hsteps⟩ | ⟨q, B, X', hpost, hsteps⟩
  · exact Or.inl ⟨v, vm₁, B, X₁.warmed, X', hpost, fun target h => hstep₁ _ fun acts => by rw [doInvoke_state]; exact hsteps.trans h⟩
  · exact Or.inr ⟨q, vm₁, B, X₁.warmed, X', hpost, hstep₁ _ fun acts => by rw [doInvoke_state]; exact hsteps⟩
end VXIC
section VXID
variable {p : Program} {l : Launch} {e : Env} {R : Room} {s : State} {m : MethodId} {args : Array Value} {below : List Frame} {meth : Method} {c : Code} {H : Heap} {locs : List Loc} {cells slots : Nat}
theorem vx_runIN {y : MethodName} {bytes cc : ByteArray} {maxL nL mc ms n index : Nat} {ws : List Cond} {rm : Room} {Pc : Array Value → State → Prop} {Qc : Array Value → State → Outcome → State → Prop} {XC : String → State → State → Prop} {free : Addr → Prop} {Ts : List Cond} {own host : String} {b : Addr} {As rest : List Value} {g : JFrame}
    (S : CallFix p m c cc nL s args Ts own) (hM : vx_Met l y ws rm Pc Qc XC mc ms free) (cw : va_CN R s args own index y host bytes maxL none ws rm mc ms n ∧ y.name = "<init>" ∧ (Cond.instanceMethod y).before args s = true) (hp : PreS s H Pc (.ref b :: As))
    (hg : g.method = m) (hn : As.length = n) (hsize : g.locals.size = nL) (hstack : g.stack = As.reverse ++ .ref b :: rest) (hW : 2 * g.monitorRoom + (rest.map fun v => v.category).sum ≤ 8) (hdg : decode cc g.pc = .ok (.invokespecial index, 3)) (hf : cells + mc ≤ R.cells ∧ slots + ms ≤ R.slots) :
    vx_Run p l e R s m args below meth c H locs cells slots mc ms g rest (Qc (Value.ref b :: As).toArray) XC free := by
  obtain ⟨⟨⟨hrc, hrs, hfr, hlo, hws, hcw⟩, hcode, hini, hy, hlen, hl⟩, hx1, hx2⟩ := cw
  have hK : vx_Back l R p e below s args y 3 8 (PreOf R mc ms Pc) (PostOf Qc mc ms free) (vx_Post XC mc ms free) := vx_back (bytes := bytes) (maxL := maxL) (ret := none) hM hp.1 hrc hrs hfr hlo hws hcw (fun a' U hW => word_at hW (Or.inl (by first | rfl | simp [Cond.onTables, Cond.keeps, Cond.steady])) hini)
  obtain ⟨hx, hb, hml, ho, -⟩ := S
  have hPc := hp.2
  intro T hT X
  rcases vx_callIN X hx (bytes := bytes) (maxL := maxL) ho hx1 hl hx2 hcode hy hK hg (hsize.trans hml.symm) (a := b) (argsL := As) (rest := rest) (fun sig h => hn.trans (hlen sig h)) hstack hW (by rw [hb]; exact hdg)
    (fun vm₁ hW₁ => ⟨hf.1, hf.2, hPc (T.setVm vm₁) hT hW₁⟩) with ⟨v, vm₁, ⟨U', l2, c2, s2⟩, hW₁, X', ⟨g', mk, t, L, e1, e2, hq, h1, hL, h2, h3⟩, st⟩ | ⟨q, vm₁, ⟨U', l2, c2, s2⟩, hW₁, X', ⟨g', mk, t, L, E, ce, e1, e2, hq, hce, hcv, hcl, h1, hL, h2, h3⟩, st⟩
  · dsimp only [Pt.U, Pt.locs, Pt.cells, Pt.slots] at X' e1 e2 h1 h2 h3 st
    subst h1; subst h2; subst h3
    exact Or.inl ⟨v, (T.setVm vm₁).calling g' mk (Value.ref b :: As).toArray, t, U', L, hT, X', hL, e1, e2, hq, st⟩
  · dsimp only [Pt.U, Pt.locs, Pt.cells, Pt.slots] at X' e1 e2 h1 h2 h3 st hcl
    subst h1; subst h2; subst h3
    exact Or.inr ⟨q, (T.setVm vm₁).calling g' mk (Value.ref b :: As).toArray, t, U', L, E, ce, hT, X', hL, e1, e2, hq, hce, hcv, vx_cls hW₁ hcl, st⟩
end VXID
/-! New things; a method's contract Ct; its end; calls; throws. -/
def okty (ty : FieldType) : Bool := isI ty || isR ty || isJ ty
theorem vcl_ty {c : Nat} {r : vw_C} (h : vwCl[c]? = some r) : ∀ k, k < r.2.2 → okty (oty c k) = true := by
  have hc : c < 11 := (List.getElem?_eq_some_iff.mp h).1
  have h9 : c = 0 ∨ c = 1 ∨ c = 2 ∨ c = 3 ∨ c = 4 ∨ c = 5 ∨ c = 6 ∨ c = 7 ∨ c = 8 ∨ c = 9 ∨ c = 10 := by omega
  rcases h9 with rfl | rfl | rfl | rfl | rfl | rfl | rfl | rfl | rfl | rfl | rfl
  · cases h; exact (by decide +kernel : ∀ k, k < 12 → okty (oty 0 k) = true)
  · cases h; exact (by decide +kernel : ∀ k, k < 7 → okty (oty 1 k) = true)
  · cases h; exact (by decide +kernel : ∀ k, k < 14 → okty (oty 2 k) = true)
  · cases h; exact (by decide +kernel : ∀ k, k < 3 → okty (oty 3 k) = true)
  · cases h; exact (by decide +kernel : ∀ k, k < 15 → okty (oty 4 k) = true)
  · cases h; exact (by decide +kernel : ∀ k, k < 3 → okty (oty 5 k) = true)
  · cases h; exact (by decide +kernel : ∀ k, k < 6 → okty (oty 6 k) = true)
  · cases h; exact (by decide +kernel : ∀ k, k < 7 → okty (oty 7 k) = true)
  · cases h; exact (by decide +kernel : ∀ k, k < 5 → okty (oty 8 k) = true)
  · cases h; exact (by decide +kernel : ∀ k, k < 6 → okty (oty 9 k) = true)
  · cases h; exact (by decide +kernel : ∀ k, k < 62 → okty (oty 10 k) = true)
theorem dv_fvl {ad : Nat → Nat} {σ : Sg} {u k : Nat} {ty : FieldType} (h : okty ty = true) : defaultValue ty = fvl ad (wN σ u) u k ty := by
  unfold fvl
  rw [sI_wN, sP_wN, sL_wN, if_pos rfl, if_pos rfl, if_pos rfl]
  cases ty <;> first | rfl | cases h
theorem Rp_new {D : va_G} {cA : Nat → ClassId} {base bS : Nat} {ad : Nat → Nat} {σ : Sg} {H H1 : Heap} {u : Nat} (h : Rp D cA base bS ad σ H) (hu : sX σ u = false) (hb : base ≤ H.size) (hz : H1.size = H.size + 1) (hk : ∀ q : Nat, q < H.size → H1[q]? = H[q]?)
    (hobj : ∀ r : vw_C, vwCl[u % 32]? = some r → t_OB H.size (D.1 (u % 32)) r.2.2 (D.2 (u % 32)) H1 (fun k => defaultValue (oty (u % 32) k)))
    (harr : ∀ ty : FieldType, aty (u % 32) = some ty → okty ty = true ∧ H1[H.size]? = some (arrV (cA (u % 32)) (aln u) (fun _ => defaultValue ty))) : Rp D cA base bS (fun t => if t = u then H.size else ad t) (wN σ u) H1 := by
  have hne : ∀ t, sX σ t = true → t ≠ u := fun t ht e => by rw [e, hu] at ht; cases ht
  have had : ∀ t k ty, t ≠ u → fvl (fun t => if t = u then H.size else ad t) (wN σ u) t k ty = fvl ad σ t k ty := by
    intro t k ty ht
    have h1 : fvl (fun t => if t = u then H.size else ad t) (wN σ u) t k ty = fvl (fun t => if t = u then H.size else ad t) σ t k ty := fvl_same ty (by rw [sI_wN, if_neg ht]) (by rw [sP_wN, if_neg ht]) (by rw [sL_wN, if_neg ht])
    rw [h1]
    exact fvl_ad ty fun w hw => if_neg (hne w (h.2.2.1 t k w hw))
  refine ⟨fun t ht => ?_, fun a b ha hb9 e => ?_, fun a k w hw => ?_, ?_, ?_⟩
  · rw [sX_wN] at ht
    by_cases e : t = u
    · subst e
      dsimp only
      rw [if_pos rfl]
      refine ⟨by omega, Or.inl hb, fun r hr => (hobj r hr).to fun k hk9 => dv_fvl (vcl_ty hr k hk9), fun ty hty => ?_⟩
      rw [(harr ty hty).2]
      congr 2
      funext j
      exact dv_fvl (harr ty hty).1
    · rw [if_neg e] at ht
      obtain ⟨h1, h2, h3, h4⟩ := h.1 t ht
      dsimp only
      rw [if_neg e]
      refine ⟨by omega, h2, fun r hr => ((h3 r hr).kept (hk _ h1)).to fun k _ => (had t k _ e).symm, fun ty hty => ?_⟩
      rw [hk _ h1, h4 ty hty]
      congr 2
      funext j
      exact (had t j ty e).symm
  · rw [sX_wN] at ha hb9
    dsimp only at e
    by_cases e1 : a = u
    · by_cases e2 : b = u
      · rw [e1, e2]
      · rw [if_neg e2] at hb9
        rw [if_pos e1, if_neg e2] at e
        have := (h.1 b hb9).1
        omega
    · rw [if_neg e1] at ha
      by_cases e2 : b = u
      · rw [if_neg e1, if_pos e2] at e
        have := (h.1 a ha).1
        omega
      · rw [if_neg e2] at hb9
        rw [if_neg e1, if_neg e2] at e
        exact h.2.1 a b ha hb9 e
  · rw [sP_wN] at hw
    by_cases e : a = u
    · rw [if_pos e] at hw; cases hw
    · rw [if_neg e] at hw
      have h9 := h.2.2.1 a k w hw
      rw [sX_wN, if_neg (hne w h9)]
      exact h9
  · rw [sX_wN, if_neg (hne _ h.2.2.2.1)]; exact h.2.2.2.1
  · dsimp only
    rw [if_neg (hne _ h.2.2.2.1)]; exact h.2.2.2.2
section NW
variable {L9 : Launch} {G : Cx} {Q : State → Prop} {pc : Nat} {lo lo' : Lo} {st r : List Value} {σ : Sg} {k n : Nat} {y : MethodName} {cc : ByteArray} {mL : Nat} {ret : Option FieldType} {hh : List (Nat × Nat × Nat × Nat)} {rm : Room}
theorem V_fresh {u N9 pc' : Nat} (hG : CX L9 G y cc mL ret hh rm) (hu : sX σ u = false) (hok : oks σ r → True)
    (hW : ∀ {p : Program} {l : Launch} {e : Jvm.Env} {s : State} {m : MethodId} {args : Array Value} {below : List Frame} {meth : Method} {c : Code} {H : Heap} {locs : List Loc} {ls : Array Slot} {D : va_G} {cA : Nat → ClassId} {base : Nat} (ad : Nat → Nat), p.tables.exec = Jvm.exec → c.code = cc → s.vm.findClass y.cls = some m.cls → (∀ w ∈ GW, w.before args s = true) → Ev base D cA s →
      (∀ H1 : Heap, H1.size = H.size + 1 → (∀ q : Nat, q < H.size → H1[q]? = H[q]?) → (∀ r : vw_C, vwCl[u % 32]? = some r → t_OB H.size (D.1 (u % 32)) r.2.2 (D.2 (u % 32)) H1 (fun k => defaultValue (oty (u % 32) k))) → (∀ ty : FieldType, aty (u % 32) = some ty → okty ty = true ∧ H1[H.size]? = some (arrV (cA (u % 32)) (aln u) (fun _ => defaultValue ty))) →
        W p l e rm s m args below meth c H1 locs (k + 1) (n + N9) Q (F0 m pc' ls (.ref H.size :: r.map (cv ad)))) → W p l e rm s m args below meth c H locs k n Q (F0 m pc ls (st.map (cv ad))))
    (hst : oks σ st → oks σ r) (kk : V G Q pc' lo (.ref u :: r) (wN σ u) (k + 1) (n + N9)) : V G Q pc lo st σ k n := by
  obtain ⟨l, p, e, R, s, m, args, below, meth, c', base, bS, D, cA, ad0, σ0⟩ := G
  obtain ⟨hx, hb, -, hown, hts, -, -, -, -, -, rfl, hEv⟩ := hG
  intro ad H locs ls hR hS hlen hl hol hs hx0
  have hne : ∀ t, sX σ t = true → t ≠ u := fun t ht e => by rw [e, hu] at ht; cases ht
  have ha : ∀ t, sX σ t = true → (fun t => if t = u then H.size else ad t) t = ad t := fun t ht => if_neg (hne t ht)
  have hX : ∀ t, sX σ t = true → sX (wN σ u) t = true := fun t ht => by rw [sX_wN]; (split; rfl; exact ht)
  refine hW ad hx hb hown hts hEv fun H1 z1 o1 h1 h2 => ?_
  have h9 := kk (fun t => if t = u then H.size else ad t) H1 locs ls (Rp_new hR hu (Nat.le_trans hEv.2.2.1 hS.1) z1 o1 h1 h2) ⟨Nat.le_trans hS.1 (by omega), fun q q1 q2 => (o1 q (Nat.lt_of_lt_of_le q1 hS.1)).trans (hS.2.1 q q1 q2), hS.2.2⟩ hlen
    (by rw [asl_ad ha lo 0 hol]; exact hl) (okl_mono hol hX) (oks_c (by show sX (wN σ u) u = true; rw [sX_wN, if_pos rfl]) (oks_mono (hst hs) hX)) (fun t ht => ⟨hX t (hx0 t ht).1, (ha t (hx0 t ht).1).trans (hx0 t ht).2⟩)
  rw [List.map_cons, oks_map (hst hs) ha] at h9
  have e9 : cv (fun t => if t = u then H.size else ad t) (.ref u) = .ref H.size := congrArg Value.ref (if_pos rfl)
  rw [e9] at h9
  exact h9
theorem V_new {idx u : Nat} {r9 : vw_C} (hG : CX L9 G y cc mL ret hh rm) (d : decode cc pc = .ok (.new idx, 3)) (hu : sX σ u = false) (hr : vwCl[u % 32]? = some r9) (hl : Cond.classLink y.cls idx r9.1 ∈ GW) (hi : Cond.instantiable r9.1 r9.2.2 ∈ GW) (hin : Cond.initialized r9.1 ∈ GW)
    (hc : k + 1 ≤ rm.cells) (hs : n + r9.2.2 ≤ rm.slots) (kk : V G Q (pc + 3) lo (.ref u :: st) (wN σ u) (k + 1) (n + r9.2.2)) : V G Q pc lo st σ k n := by
  refine V_fresh (r := st) hG hu (fun _ => trivial) (fun ad hx hb hown hts hEv h => ?_) (fun h => h) kk
  have hKn := hEv.1 _ _ hr
  obtain ⟨hty, -, hinw⟩ := vcl hr
  refine W.newcK hx hb hown (hts _ hl) (hts _ hi) (hts _ hin) rfl d hc hs hKn.2.1 rfl fun H1 kC hkC e1 z1 o1 => ?_
  refine h H1 z1 o1 (fun r8 hr8 => ?_) (fun ty hty9 => ?_)
  · cases hr.symm.trans hr8
    exact u_born (oty (u % 32)) hts hinw hKn hkC e1 hty
  · rw [vcl_aty hr] at hty9; cases hty9
theorem V_newa {atype : ArrayType} {ty : FieldType} {u : Nat} {i : Int32} (hG : CX L9 G y cc mL ret hh rm) (d : decode cc pc = .ok (.newarray atype, 2)) (ht : newarray.typeOf atype = ty) (hu : sX σ u = false) (hy : aty (u % 32) = some ty) (hok : okty ty = true) (hra : ∀ U cI, va_RA U cI ty → U.vm.findClass ("[" ++ ty.toString) = some cI) (hw : Cond.arrayClass ty ∈ GW)
    (hi : i = nI (aln u)) (hby : aln u * componentBytes ty ≤ 536870912) (hc : k + 1 ≤ rm.cells) (hs : n + aln u ≤ rm.slots) (kk : V G Q (pc + 2) lo (.ref u :: r) (wN σ u) (k + 1) (n + aln u)) : V G Q pc lo (.int i :: r) σ k n := by
  subst ht
  subst hi
  have h31 : aln u < 2 ^ 31 := Nat.lt_of_le_of_lt (aln_le u) (by decide)
  refine V_fresh (r := r) hG hu (fun _ => trivial) (fun ad hx hb hown hts hEv h => ?_) oks_tl kk
  refine va_newaK hx hb (hts _ hw) rfl d rfl (nI_pos h31) (nI_clamp h31) hby hc hs rfl fun H1 cI e1 z1 o1 hAr hNm => ?_
  refine h H1 z1 o1 (fun r8 hr8 => ?_) (fun ty hty9 => ?_)
  · rw [aty_vcl hy] at hr8; cases hr8
  · cases hy.symm.trans hty9
    refine ⟨hok, ?_⟩
    have h9 := hra _ _ (hEv.2.1 _ _ hy).2
    rw [hNm] at h9
    rw [e1, Option.some.inj h9]
theorem V_anew {C : String} {idx u : Nat} {i : Int32} (hG : CX L9 G y cc mL ret hh rm) (d : decode cc pc = .ok (.anewarray idx, 3)) (hu : sX σ u = false) (hy : aty (u % 32) = some (.object C)) (hl : Cond.classLink y.cls idx C ∈ GW) (hC : C ∈ aoL)
    (hi : i = nI (aln u)) (hc : k + 1 ≤ rm.cells) (hs : n + aln u ≤ rm.slots) (kk : V G Q (pc + 3) lo (.ref u :: r) (wN σ u) (k + 1) (n + aln u)) : V G Q pc lo (.int i :: r) σ k n := by
  subst hi
  have h31 : aln u < 2 ^ 31 := Nat.lt_of_le_of_lt (aln_le u) (by decide)
  have hcl : (nI (aln u)).toNatClampNeg = aln u := nI_clamp h31
  refine V_fresh (r := r) hG hu (fun _ => trivial) (fun {_ _ _ s} {_ _ _ _ _ H _ _ _ cA _} ad hx hb hown hts hEv h => ?_) oks_tl kk
  refine W.anew hx hb hown (hts _ hl) (va_AO.use (hEv.2.2.2.2.2.2.2.2.2.1 C hC)) rfl d rfl (nI_pos h31) (by rw [hcl]; have := aln_le u; omega) hc (by rw [hcl]; exact hs) fun cI kA comp f1 f2 f3 f4 => ?_
  have hra := (hEv.2.1 _ _ hy).2
  obtain ⟨-, -, -, -, -, hra4⟩ := hra
  have hcI : cI = cA (u % 32) := Option.some.inj (f1.symm.trans hra4)
  rw [hcl]
  refine h _ (by rw [Array.size_push]) (fun q hq => by rw [Array.getElem?_push, if_neg (Nat.ne_of_lt hq)]) (fun r8 hr8 => ?_) (fun ty hty9 => ?_)
  · rw [aty_vcl hy] at hr8; cases hr8
  · cases hy.symm.trans hty9
    refine ⟨rfl, ?_⟩
    rw [Array.getElem?_push_size, arrV_new, hcI]
    rfl
theorem V_objInit {idx t : Nat} (hG : CX L9 G y cc mL ret hh rm) (d : decode cc pc = .ok (.invokespecial idx, 3)) (hl : Cond.methodLink y.cls idx Lib.objectInit ∈ GW) (hi : Cond.instanceMethod Lib.objectInit ∈ GW) (hc : Cond.code Lib.objectInit ⟨#[0xb1]⟩ 1 none ∈ GW) (hf : 1 ≤ rm.frames) (hlo : (r.map fun v => v.category).sum + 12 ≤ rm.locals)
    (kk : V G Q (pc + 3) lo r σ k n) : V G Q pc lo (.ref t :: r) σ k n := by
  obtain ⟨l, p, e, R, s, m, args, below, meth, c', base, bS, D, cA, ad0, σ0⟩ := G
  obtain ⟨hx, hb, -, hown, hts, -, -, -, -, -, rfl, hEv⟩ := hG
  intro ad H locs ls hR hS hlen hlv hol hs hx0
  have hcat : ((r.map (cv ad)).map fun v => v.category).sum = (r.map fun v => v.category).sum := by rw [List.map_map]; congr 1; exact List.map_congr_left fun v _ => cv_cat ad v
  exact W.objInit hx hb hown (hts _ hl) (hts _ hi) (hts _ hc) rfl hlv.1 rfl d hf (by show 2 * 0 + _ + 12 ≤ _; rw [hcat]; omega) (kk ad H locs ls hR hS hlen hlv hol (oks_tl hs) hx0)
end NW
/-! THE CONTRACT of a method: called with av over the store σ, it returns or throws, and Post holds of that and of the store then. -/
def RpE (D : va_G) (cA : Nat → ClassId) (base bS : Nat) (ad : Nat → Nat) (σ : Sg) (ad' : Nat → Nat) (σ' : Sg) (H : Heap) : Prop := Rp D cA base bS ad' σ' H ∧ ∀ t, sX σ t = true → sX σ' t = true ∧ ad' t = ad t
def PcC (base bS : Nat) (D : va_G) (cA : Nat → ClassId) (ad : Nat → Nat) (av : List Value) (σ : Sg) : Array Value → State → Prop := fun a U => a = (av.map (cv ad)).toArray ∧ Ev base D cA U ∧ Rp D cA base bS ad σ U.heap ∧ oks σ av
def QcC (base bS : Nat) (D : va_G) (cA : Nat → ClassId) (ad : Nat → Nat) (σ : Sg) (Post : Rs → Sg → Prop) : Array Value → State → Outcome → State → Prop := fun _ st oc t =>
  ∃ (v : Option Value) (σ' : Sg) (ad' : Nat → Nat), oc = .returned (v.map (cv ad')) ∧ Post (.inl v) σ' ∧ RpE D cA base bS ad σ ad' σ' t.heap ∧ oks σ' v.toList ∧ va_F (fun q => base ≤ q) st t
def XcC (base bS : Nat) (D : va_G) (cA : Nat → ClassId) (ad : Nat → Nat) (σ : Sg) (Post : Rs → Sg → Prop) : String → State → State → Prop := fun E st t =>
  ∃ (σ' : Sg) (ad' : Nat → Nat), Post (.inr E) σ' ∧ RpE D cA base bS ad σ ad' σ' t.heap ∧ va_F (fun q => base ≤ q) st t
def Ct (l : Launch) (y : MethodName) (cw : Cond) (fr lc mc ms : Nat) (av : List Value) (σ : Sg) (Post : Rs → Sg → Prop) : Prop :=
  ∀ (base bS : Nat) (D : va_G) (cA : Nat → ClassId) (ad : Nat → Nat), vx_Met l y (cw :: GW) { frames := fr, cells := mc, slots := ms, locals := lc } (PcC base bS D cA ad av σ) (QcC base bS D cA ad σ Post) (XcC base bS D cA ad σ Post) mc ms (fun q => base ≤ q)
def QM (G : Cx) (mc ms : Nat) (Post : Rs → Sg → Prop) : State → Prop :=
  match G with
  | (_, _, _, _, s, _, args, below, _, _, base, bS, D, cA, ad0, σ0) => vx_MQ below (QcC base bS D cA ad0 σ0 Post) (XcC base bS D cA ad0 σ0 Post) args s mc ms (fun q => base ≤ q)
theorem Ct_of {l : Launch} {y : MethodName} {bytes : ByteArray} {maxL fr lc mc ms : Nat} {ret : Option FieldType} {av : List Value} {σ : Sg} {Post : Rs → Sg → Prop} (lo : Lo) (hl : l.stackTraces = false) (hy : plainName y.cls = true) (hlo : lo.length = maxL) (hav : ∀ ad, asl ad 0 lo = lv_args 0 (av.map (cv ad))) (hlen : ∀ ad, (lg_sl (av.map (cv ad))).length ≤ maxL) (hmem : ∀ v, some v ∈ lo → v ∈ av)
    (body : ∀ G, CX l G y bytes maxL ret [] { frames := fr, cells := mc, slots := ms, locals := lc } → V G (QM G mc ms Post) 0 lo [] σ 0 0) : Ct l y (.code y bytes maxL ret) fr lc mc ms av σ Post := by
  intro base bS D cA ad
  refine vx_ofW (cc := bytes) (maxL := maxL) (ret := ret) hy rfl fun p e s m args below meth c s₁ B hml hex hPc => ?_
  obtain ⟨rfl, hEv, hR, hoa⟩ := hPc
  have hts := atoms_spec (ws := Cond.code y bytes maxL ret :: GW) B.pre
  have h9 := body (l, p, e, { frames := fr, cells := mc, slots := ms, locals := lc }, s, m, (av.map (cv ad)).toArray, below, meth, c, base, bS, D, cA, ad, σ)
    ⟨B.exec, B.bytes, hml, findClass_of_methodNamed B.named, fun w hw => hts w (List.mem_cons_of_mem _ hw), B.notSynchronized, ⟨rfl, hl⟩, B.returns, (name_of_methodNamed B.named B.method).1, List.eq_nil_iff_forall_not_mem.mpr hex, rfl, hEv⟩
  have hle := lv_entry (av.map (cv ad)) (n := maxL) (hlen ad)
  rw [lg_entry_eq]
  exact h9 ad s.heap [] _ hR va_S.rf (hlo.trans hml.symm) (by rw [hav ad, hml]; exact hle) (fun v hv => hoa v (hmem v hv)) oks_nil (fun t ht => ⟨ht, rfl⟩)
theorem Ct_ofH {l : Launch} {y : MethodName} {bytes : ByteArray} {maxL fr lc mc ms : Nat} {ret : Option FieldType} {hh : List (Nat × Nat × Nat × Nat)} {av : List Value} {σ : Sg} {Post : Rs → Sg → Prop} (lo : Lo) (hl : l.stackTraces = false) (hy : plainName y.cls = true) (hlo : lo.length = maxL) (hav : ∀ ad, asl ad 0 lo = lv_args 0 (av.map (cv ad))) (hlen : ∀ ad, (lg_sl (av.map (cv ad))).length ≤ maxL) (hmem : ∀ v, some v ∈ lo → v ∈ av)
    (body : ∀ G, CX l G y bytes maxL ret hh { frames := fr, cells := mc, slots := ms, locals := lc } → V G (QM G mc ms Post) 0 lo [] σ 0 0) : Ct l y (.codeWith y bytes maxL ret hh) fr lc mc ms av σ Post := by
  intro base bS D cA ad
  refine vx_ofWH (cc := bytes) (maxL := maxL) (ret := ret) (hh := hh) hy rfl fun p e s m args below meth c s₁ B hml hPc => ?_
  obtain ⟨rfl, hEv, hR, hoa⟩ := hPc
  have hts := atoms_spec (ws := Cond.codeWith y bytes maxL ret hh :: GW) B.pre
  have h9 := body (l, p, e, { frames := fr, cells := mc, slots := ms, locals := lc }, s, m, (av.map (cv ad)).toArray, below, meth, c, base, bS, D, cA, ad, σ)
    ⟨B.exec, B.bytes, hml, findClass_of_methodNamed B.named, fun w hw => hts w (List.mem_cons_of_mem _ hw), B.notSynchronized, ⟨rfl, hl⟩, B.returns, (name_of_methodNamed B.named B.method).1, vx_table (x := y) B (hts _ List.mem_cons_self), rfl, hEv⟩
  have hle := lv_entry (av.map (cv ad)) (n := maxL) (hlen ad)
  rw [lg_entry_eq]
  exact h9 ad s.heap [] _ hR va_S.rf (hlo.trans hml.symm) (by rw [hav ad, hml]; exact hle) (fun v hv => hoa v (hmem v hv)) oks_nil (fun t ht => ⟨ht, rfl⟩)
theorem Ct_mono {l : Launch} {y : MethodName} {cw : Cond} {fr lc mc ms : Nat} {av : List Value} {σ : Sg} {Post Post' : Rs → Sg → Prop} (h : Ct l y cw fr lc mc ms av σ Post) (hp : ∀ r σ', Post r σ' → Post' r σ') : Ct l y cw fr lc mc ms av σ Post' := by
  intro base bS D cA ad p e h1 h2 h3 s m args below hf happ hP hK
  obtain ⟨t, o, a1, a2, a3, a4⟩ := h base bS D cA ad p e h1 h2 h3 s m args below hf happ hP hK
  refine ⟨t, o, a1, a2, a3, ?_⟩
  rcases a4 with ⟨⟨v, σ', ad', b1, b2, b3⟩, b4⟩ | ⟨q, b1, E, ce, L, ⟨σ', ad', b2, b3⟩, b4⟩
  · exact Or.inl ⟨⟨v, σ', ad', b1, hp _ _ b2, b3⟩, b4⟩
  · exact Or.inr ⟨q, b1, E, ce, L, ⟨σ', ad', hp _ _ b2, b3⟩, b4⟩
section ENDS
variable {L9 : Launch} {G : Cx} {Q : State → Prop} {pc : Nat} {lo lo' : Lo} {st r : List Value} {σ : Sg} {k n : Nat} {y : MethodName} {cc : ByteArray} {mL : Nat} {ret : Option FieldType} {hh : List (Nat × Nat × Nat × Nat)} {rm : Room} {mc ms : Nat} {Post : Rs → Sg → Prop}
theorem V_end {v : Option Value} {stv : List Value} (hG : CX L9 G y cc mL ret hh rm) (hc : k ≤ mc) (hs : n ≤ ms) (hst : oks σ stv → oks σ v.toList)
    (hW : ∀ {p : Program} {l : Launch} {e : Jvm.Env} {R : Room} {s : State} {m : MethodId} {args : Array Value} {below : List Frame} {meth : Method} {c : Code} {H : Heap} {locs : List Loc} {ls : Array Slot} {Qc : Array Value → State → Outcome → State → Prop} {free : Addr → Prop} (ad : Nat → Nat), p.tables.exec = Jvm.exec → c.code = cc → meth.sig.returnType = ret → meth.locks = false → (∀ t : State, t.heap = H → s.WarmedH t.vm → Qc args s (.returned (v.map (cv ad))) t) → (∀ q ∈ locs, free q.base) → W p l e R s m args below meth c H locs mc ms (MQ below Qc args s mc ms free) (F0 m pc ls (stv.map (cv ad))))
    (hp : Post (.inl v) σ) : V G (QM G mc ms Post) pc lo stv σ k n := by
  obtain ⟨l, p, e, R, s, m, args, below, meth, c', base, bS, D, cA, ad0, σ0⟩ := G
  obtain ⟨hx, hb, -, hown, hts, hlk, -, hr, -, -, rfl, hEv⟩ := hG
  intro ad H locs ls hR hS hlen hlv hol hso hx0
  refine vx_ret (W.widen hc hs (hW ad hx hb hr hlk (fun t ht hW => ?_) hS.2.2))
  exact ⟨v, σ, ad, rfl, hp, ⟨by rw [ht]; exact hR, hx0⟩, hst hso, hS.F ht⟩
theorem V_iret {x : Int32} (hG : CX L9 G y cc mL (some .int) hh rm) (d : decode cc pc = .ok (.ireturn, 1)) (hc : k ≤ mc) (hs : n ≤ ms) (hp : Post (.inl (some (.int x))) σ) : V G (QM G mc ms Post) pc lo [.int x] σ k n :=
  V_end (v := some (.int x)) hG hc hs (fun h => h) (fun ad hx hb hr hlk hq hf => W.iret hx hb hr hq hf d hlk) hp
theorem V_zret {x : Int32} (hG : CX L9 G y cc mL (some .boolean) hh rm) (d : decode cc pc = .ok (.ireturn, 1)) (hz : b01 x) (hc : k ≤ mc) (hs : n ≤ ms) (hp : Post (.inl (some (.int x))) σ) : V G (QM G mc ms Post) pc lo [.int x] σ k n :=
  V_end (v := some (.int x)) hG hc hs (fun h => h) (fun ad hx hb hr hlk hq hf => W.zret hx hb hr (nar_b hz) hq hf d hlk) hp
theorem V_lret {x : Int64} (hG : CX L9 G y cc mL (some .long) hh rm) (d : decode cc pc = .ok (.lreturn, 1)) (hc : k ≤ mc) (hs : n ≤ ms) (hp : Post (.inl (some (.long x))) σ) : V G (QM G mc ms Post) pc lo [.long x] σ k n :=
  V_end (v := some (.long x)) hG hc hs (fun h => h) (fun ad hx hb hr hlk hq hf => W.lret hx hb hr hq hf d hlk) hp
theorem V_vret (hG : CX L9 G y cc mL none hh rm) (d : decode cc pc = .ok (.return_, 1)) (hc : k ≤ mc) (hs : n ≤ ms) (hp : Post (.inl none) σ) : V G (QM G mc ms Post) pc lo [] σ k n :=
  V_end (v := none) hG hc hs (fun _ => oks_nil) (fun ad hx hb hr hlk hq hf => W.vret hx hb hr hq hf d hlk) hp
theorem V_aret {C : String} {v : Value} (hG : CX L9 G y cc mL (some (.object C)) hh rm) (d : decode cc pc = .ok (.areturn, 1)) (hv : v.isRef = true) (hc : k ≤ mc) (hs : n ≤ ms) (hp : Post (.inl (some v)) σ) : V G (QM G mc ms Post) pc lo [v] σ k n := by
  refine V_end (v := some v) hG hc hs (fun h => h) (fun ad hx hb hr hlk hq hf => ?_) hp
  cases v with
  | ref t => exact W.aret hx hb hr (Or.inl ⟨_, rfl⟩) (Or.inr ⟨_, rfl⟩) hq hf d hlk
  | null => exact W.aret hx hb hr (Or.inl ⟨_, rfl⟩) (Or.inl rfl) hq hf d hlk
  | _ => cases hv
/-- a thrown thing over the frame -/
def VX (G : Cx) (Q : State → Prop) (E : String) (pc : Nat) (lo : Lo) (st : List Value) (σ : Sg) (k n : Nat) : Prop :=
  match G with
  | (l, p, e, R, s, m, args, below, meth, c, base, bS, D, cA, ad0, σ0) =>
    ∀ (ad : Nat → Nat) (H : Heap) (locs : List Loc) (ls : Array Slot) (q : Addr) (ce : Cell), Rp D cA base bS ad σ H → va_S (fun q => base ≤ q) s.heap H locs → lo.length = c.maxLocals → lv_has ls c.maxLocals (asl ad 0 lo) → okl σ lo → oks σ st →
      (∀ t, sX σ0 t = true → sX σ t = true ∧ ad t = ad0 t) → H[q]? = some ce → ce.vm = .none → s.vm.findClass E = some ce.cls → vx_W p l e R s m args below meth c H locs k n Q (F0 m pc ls (st.map (cv ad))) q
theorem VX_out {E : String} (hG : CX L9 G y cc mL ret [] rm) (hc : k ≤ mc) (hs : n ≤ ms) (hp : Post (.inr E) σ) : VX G (QM G mc ms Post) E pc lo st σ k n := by
  obtain ⟨l, p, e, R, s, m, args, below, meth, c', base, bS, D, cA, ad0, σ0⟩ := G
  obtain ⟨hx, hb, -, hown, hts, hlk, -, hr, -, htab, rfl, hEv⟩ := hG
  intro ad H locs ls q ce hR hS hlen hlv hol hso hx0 hq hv hcl
  refine vx_out (fun x hx9 => ?_) hlk hq hv hcl (fun t ht hal => ⟨σ, ad, hp, ⟨by rw [ht]; exact hR, hx0⟩, hS.F ht⟩) hS.2.2 hc hs
  rw [htab] at hx9
  cases hx9
/-- behind a call -/
theorem V_after {As : Array Value} {Pm : Rs → Sg → Prop} {mc9 ms9 : Nat} {stc rest : List Value}
    (hr : ∀ {l : Launch} {p : Program} {e : Jvm.Env} {R : Room} {s : State} {m : MethodId} {args : Array Value} {below : List Frame} {meth : Method} {c : Code} {base bS : Nat} {D : va_G} {cA : Nat → ClassId} {ad0 : Nat → Nat} {σ0 : Sg}, G = (l, p, e, R, s, m, args, below, meth, c, base, bS, D, cA, ad0, σ0) → ∀ (ad : Nat → Nat) (H : Heap) (locs : List Loc) (ls : Array Slot), Rp D cA base bS ad σ H → va_S (fun q => base ≤ q) s.heap H locs → lv_has ls c.maxLocals (asl ad 0 lo) → oks σ stc →
      vx_Run p l e R s m args below meth c H locs k n mc9 ms9 (F0 m pc ls (stc.map (cv ad))) (rest.map (cv ad)) (QcC base bS D cA ad σ Pm As) (XcC base bS D cA ad σ Pm) (fun q => base ≤ q))
    (hst : oks σ stc → oks σ rest) (kx : ∀ E σ', Pm (.inr E) σ' → VX G Q E pc lo rest σ' (k + mc9) (n + ms9)) (kk : ∀ v σ', Pm (.inl v) σ' → V G Q (pc + 3) lo (v.toList ++ rest) σ' (k + mc9) (n + ms9)) : V G Q pc lo stc σ k n := by
  obtain ⟨l, p, e, R, s, m, args, below, meth, c', base, bS, D, cA, ad0, σ0⟩ := G
  intro ad H locs ls hR hS hlen hlv hol hso hx0 T hT X
  rcases hr rfl ad H locs ls hR hS hlv hso T hT X with ⟨v9, st₀, t, T', L, h0, X', hL, e1, e2, ⟨v, σ', ad', hv, hpm, ⟨hR', hE'⟩, hov, hF⟩, stp⟩ | ⟨q, st₀, t, T', L, E, ce, h0, X', hL, e1, e2, ⟨σ', ad', hpm, ⟨hR', hE'⟩, hF⟩, hce, hcv, hcl, stp⟩
  · cases hv
    obtain ⟨k1, k2, k3⟩ := vx_keep h0 e1 hS (fun _ _ h => h) (fun _ h => h) hL hF
    have ha : ∀ t, sX σ t = true → ad' t = ad t := fun t ht => (hE' t ht).2
    have hX : ∀ t, sX σ t = true → sX σ' t = true := fun t ht => (hE' t ht).1
    have h9 := kk v σ' hpm ad' T'.heap (locs ++ L) ls (by rw [e1]; exact hR') k3 hlen (by rw [asl_ad ha lo 0 hol]; exact hlv) (okl_mono hol hX) (oks_app hov (oks_mono (hst hso) hX)) (fun t ht => ⟨hX t (hx0 t ht).1, (ha t (hx0 t ht).1).trans (hx0 t ht).2⟩)
    rw [List.map_append, oks_map (hst hso) ha] at h9
    obtain ⟨t2, a1, b1⟩ := h9 T' rfl X'
    refine ⟨t2, stp t2 ?_, b1⟩
    cases v <;> exact a1
  · obtain ⟨k1, k2, k3⟩ := vx_keep h0 e1 hS (fun _ _ h => h) (fun _ h => h) hL hF
    have ha : ∀ t, sX σ t = true → ad' t = ad t := fun t ht => (hE' t ht).2
    have hX : ∀ t, sX σ t = true → sX σ' t = true := fun t ht => (hE' t ht).1
    have h9 := kx E σ' hpm ad' T'.heap (locs ++ L) ls q ce (by rw [e1]; exact hR') k3 hlen (by rw [asl_ad ha lo 0 hol]; exact hlv) (okl_mono hol hX) (oks_mono (hst hso) hX) (fun t ht => ⟨hX t (hx0 t ht).1, (ha t (hx0 t ht).1).trans (hx0 t ht).2⟩) (by rw [e1]; exact hce) hcv hcl
    rw [oks_map (hst hso) ha] at h9
    obtain ⟨t2, a1, b1⟩ := h9 T' rfl X'
    exact ⟨t2, stp.trans a1, b1⟩
/-- what the tables say of a method: by its code, its number of arguments -/
def MV (y : MethodName) (bytes : ByteArray) (maxL : Nat) (ret : Option FieldType) (na : Nat) : Prop := Cond.code y bytes maxL ret ∈ GW ∧ Cond.initialized y.cls ∈ GW ∧ (y.cls ≠ "java/lang/invoke/MethodHandle" ∧ y.cls ≠ "java/lang/invoke/VarHandle") ∧ (parseMethodDescriptor y.desc).map (fun d => d.parameters.length) = some na
theorem ws_ok {args : Array Value} {s : State} {cw : Cond} (hts : ∀ w ∈ GW, w.before args s = true) (h : cw ∈ GW) : ∀ w ∈ cw :: GW, ∀ (a' : Array Value) (U : State), s.WarmedH U.vm → w.before a' U = true := fun w hw a' U hW => (List.mem_cons.mp hw).elim (fun e => by rw [e]; exact GW_ok hts hW cw h) (GW_ok hts hW w)
theorem callB_ok {R : Room} {s : State} {args : Array Value} {own : String} {index : Nat} {y : MethodName} {bytes : ByteArray} {maxL : Nat} {ret : Option FieldType} {fr lc mc ms na : Nat} (hts : ∀ w ∈ GW, w.before args s = true) (hM : MV y bytes maxL ret na) (hl : Cond.methodLink own index y ∈ GW) (hf : fr + 1 ≤ R.frames) (hlo : maxL + 19 + lc ≤ R.locals) :
    CallB R s args own index y bytes maxL ret (Cond.code y bytes maxL ret :: GW) { frames := fr, cells := mc, slots := ms, locals := lc } mc ms na := by
  refine ⟨rfl, rfl, hf, by show 8 + (maxL + 11) + lc ≤ _; omega, ws_ok hts hM.1, List.mem_cons_self, hts _ hM.1, hts _ hM.2.1, hM.2.2.1, fun sig h => ?_, hts _ hl⟩
  have h2 := hM.2.2.2
  rw [h] at h2
  exact (Option.some.inj h2).symm
theorem PcC_blind {base bS : Nat} {D : va_G} {cA : Nat → ClassId} {ad : Nat → Nat} {av : List Value} : FrameBlind (PcC base bS D cA ad av σ) := fun a U g mk h => ⟨h.1, Ev_call h.2.1 g mk a, h.2.2⟩
theorem cat_ok {ad : Nat → Nat} {rest : List Value} (h : (rest.map fun v => v.category).sum ≤ 8) : ((rest.map (cv ad)).map fun v => v.category).sum ≤ 8 := by
  have hcat : ((rest.map (cv ad)).map fun v => v.category).sum = (rest.map fun v => v.category).sum := by rw [List.map_map]; congr 1; exact List.map_congr_left fun v _ => cv_cat ad v
  rw [hcat]; exact h
theorem V_callV {idx t fr lc mc9 ms9 na maxL9 : Nat} {y9 : MethodName} {b9 : ByteArray} {ret9 : Option FieldType} {As rest stc : List Value} {Pm : Rs → Sg → Prop} {r9 : vw_C} (hG : CX L9 G y cc mL ret hh rm) (d : decode cc pc = .ok (.invokevirtual idx, 3)) (hC : Ct L9 y9 (.code y9 b9 maxL9 ret9) fr lc mc9 ms9 (.ref t :: As) σ Pm) (hM : MV y9 b9 maxL9 ret9 na) (hI : Cond.instanceMethod y9 ∈ GW) (hS9 : Cond.selects y9.cls y9 y9 ∈ GW) (hlk : Cond.methodLink y.cls idx y9 ∈ GW)
    (hr : vwCl[t % 32]? = some r9) (hcl : r9.1 = y9.cls) (hn : As.length = na) (hst : stc = As.reverse ++ .ref t :: rest) (hcat : (rest.map fun v => v.category).sum ≤ 8) (hf : fr + 1 ≤ rm.frames) (hlo : maxL9 + 19 + lc ≤ rm.locals) (hc : k + mc9 ≤ rm.cells) (hs : n + ms9 ≤ rm.slots)
    (kx : ∀ E σ', Pm (.inr E) σ' → VX G Q E pc lo rest σ' (k + mc9) (n + ms9)) (kk : ∀ v σ', Pm (.inl v) σ' → V G Q (pc + 3) lo (v.toList ++ rest) σ' (k + mc9) (n + ms9)) : V G Q pc lo stc σ k n := by
  subst hst
  have hoA : oks σ (As.reverse ++ .ref t :: rest) → oks σ As ∧ sX σ t = true ∧ oks σ rest := fun h => ⟨fun v hv => h v (List.mem_append.mpr (Or.inl (List.mem_reverse.mpr hv))), h (.ref t) (List.mem_append.mpr (Or.inr List.mem_cons_self)), fun v hv => h v (List.mem_append.mpr (Or.inr (List.mem_cons_of_mem _ hv)))⟩
  refine V_after (As := #[]) (Pm := Pm) (mc9 := mc9) (ms9 := ms9) (rest := rest) ?_ (fun h => (hoA h).2.2) kx kk
  intro l1 p e R s m args below meth c' base bS D cA ad0 σ0 hGe ad H locs ls hR hS hlv hso
  rw [hGe] at hG
  obtain ⟨hx, hb, -, hown, hts, -, ⟨rfl, -⟩, -, -, -, rfl, hEv⟩ := hG
  obtain ⟨ho1, ho2, ho3⟩ := hoA hso
  obtain ⟨-, -, h3, -⟩ := hR.1 t ho2
  obtain ⟨cellB, q1, q2, q3, -⟩ := h3 r9 hr
  have hcB : s.vm.findClass y9.cls = some cellB.cls := by rw [q2, ← hcl]; exact (hEv.1 _ _ hr).2.1
  have h9 := vx_runV (As := As.map (cv ad)) (rest := rest.map (cv ad)) (H := H) (locs := locs) (g := F0 m pc ls ((As.reverse ++ .ref t :: rest).map (cv ad))) (e := e) (below := below) (meth := meth) (cells := k) (slots := n) (nL := c'.maxLocals) ⟨hx, hb, rfl, hown, hts⟩ (hC base bS D cA ad) ⟨callB_ok (na := na) (index := idx) (own := y.cls) hts hM hlk hf hlo, hts _ hI, hts _ hS9⟩
    ⟨PcC_blind, ⟨cellB, q1, by rw [q3]; rfl, hcB⟩, fun U hU hW => ⟨rfl, Ev_warm hEv hW (by rw [hU]; exact hS.1) (fun q a b => by rw [hU]; exact hS.2.1 q a b), by rw [hU]; exact hR, oks_c ho2 ho1⟩⟩ rfl (by rw [List.length_map]; exact hn) hlv.1 (by simp [List.map_reverse]; rfl) (lv_room (cat_ok hcat)) d ⟨hc, hs⟩
  exact h9
theorem V_callI {idx t fr lc mc9 ms9 na maxL9 : Nat} {y9 : MethodName} {b9 : ByteArray} {As rest stc : List Value} {Pm : Rs → Sg → Prop} (hG : CX L9 G y cc mL ret hh rm) (d : decode cc pc = .ok (.invokespecial idx, 3)) (hC : Ct L9 y9 (.code y9 b9 maxL9 none) fr lc mc9 ms9 (.ref t :: As) σ Pm) (hM : MV y9 b9 maxL9 none na) (hI : Cond.instanceMethod y9 ∈ GW) (hnm : y9.name = "<init>") (hlk : Cond.methodLink y.cls idx y9 ∈ GW)
    (hn : As.length = na) (hst : stc = As.reverse ++ .ref t :: rest) (hcat : (rest.map fun v => v.category).sum ≤ 8) (hf : fr + 1 ≤ rm.frames) (hlo : maxL9 + 19 + lc ≤ rm.locals) (hc : k + mc9 ≤ rm.cells) (hs : n + ms9 ≤ rm.slots)
    (kx : ∀ E σ', Pm (.inr E) σ' → VX G Q E pc lo rest σ' (k + mc9) (n + ms9)) (kk : ∀ v σ', Pm (.inl v) σ' → V G Q (pc + 3) lo (v.toList ++ rest) σ' (k + mc9) (n + ms9)) : V G Q pc lo stc σ k n := by
  subst hst
  have hoA : oks σ (As.reverse ++ .ref t :: rest) → oks σ As ∧ sX σ t = true ∧ oks σ rest := fun h => ⟨fun v hv => h v (List.mem_append.mpr (Or.inl (List.mem_reverse.mpr hv))), h (.ref t) (List.mem_append.mpr (Or.inr List.mem_cons_self)), fun v hv => h v (List.mem_append.mpr (Or.inr (List.mem_cons_of_mem _ hv)))⟩
  refine V_after (As := #[]) (Pm := Pm) (mc9 := mc9) (ms9 := ms9) (rest := rest) ?_ (fun h => (hoA h).2.2) kx kk
  intro l1 p e R s m args below meth c' base bS D cA ad0 σ0 hGe ad H locs ls hR hS hlv hso
  rw [hGe] at hG
  obtain ⟨hx, hb, -, hown, hts, -, ⟨rfl, -⟩, -, -, -, rfl, hEv⟩ := hG
  obtain ⟨ho1, ho2, ho3⟩ := hoA hso
  have h9 := vx_runI (b := ad t) (As := As.map (cv ad)) (rest := rest.map (cv ad)) (H := H) (locs := locs) (g := F0 m pc ls ((As.reverse ++ .ref t :: rest).map (cv ad))) (e := e) (below := below) (meth := meth) (cells := k) (slots := n) (nL := c'.maxLocals) ⟨hx, hb, rfl, hown, hts⟩ (hC base bS D cA ad) ⟨callB_ok (na := na) (index := idx) (own := y.cls) hts hM hlk hf hlo, hnm, hts _ hI⟩
    ⟨PcC_blind, fun U hU hW => ⟨rfl, Ev_warm hEv hW (by rw [hU]; exact hS.1) (fun q a b => by rw [hU]; exact hS.2.1 q a b), by rw [hU]; exact hR, oks_c ho2 ho1⟩⟩ rfl (by rw [List.length_map]; exact hn) hlv.1 (by simp [List.map_reverse]; rfl) (lv_room (cat_ok hcat)) d ⟨hc, hs⟩
  exact h9
theorem V_callS {idx fr lc mc9 ms9 na maxL9 : Nat} {y9 : MethodName} {b9 : ByteArray} {ret9 : Option FieldType} {As rest stc : List Value} {Pm : Rs → Sg → Prop} (hG : CX L9 G y cc mL ret hh rm) (d : decode cc pc = .ok (.invokestatic idx, 3)) (hC : Ct L9 y9 (.code y9 b9 maxL9 ret9) fr lc mc9 ms9 As σ Pm) (hM : MV y9 b9 maxL9 ret9 na) (hI : Cond.static y9 ∈ GW) (hlk : Cond.methodLink y.cls idx y9 ∈ GW)
    (hn : As.length = na) (hst : stc = As.reverse ++ rest) (hcat : (rest.map fun v => v.category).sum ≤ 8) (hf : fr + 1 ≤ rm.frames) (hlo : maxL9 + 19 + lc ≤ rm.locals) (hc : k + mc9 ≤ rm.cells) (hs : n + ms9 ≤ rm.slots)
    (kx : ∀ E σ', Pm (.inr E) σ' → VX G Q E pc lo rest σ' (k + mc9) (n + ms9)) (kk : ∀ v σ', Pm (.inl v) σ' → V G Q (pc + 3) lo (v.toList ++ rest) σ' (k + mc9) (n + ms9)) : V G Q pc lo stc σ k n := by
  subst hst
  have hoA : oks σ (As.reverse ++ rest) → oks σ As ∧ oks σ rest := fun h => ⟨fun v hv => h v (List.mem_append.mpr (Or.inl (List.mem_reverse.mpr hv))), fun v hv => h v (List.mem_append.mpr (Or.inr hv))⟩
  refine V_after (As := #[]) (Pm := Pm) (mc9 := mc9) (ms9 := ms9) (rest := rest) ?_ (fun h => (hoA h).2) kx kk
  intro l1 p e R s m args below meth c' base bS D cA ad0 σ0 hGe ad H locs ls hR hS hlv hso
  rw [hGe] at hG
  obtain ⟨hx, hb, -, hown, hts, -, ⟨rfl, -⟩, -, -, -, rfl, hEv⟩ := hG
  obtain ⟨ho1, ho3⟩ := hoA hso
  have h9 := vx_runS (As := As.map (cv ad)) (rest := rest.map (cv ad)) (H := H) (locs := locs) (g := F0 m pc ls ((As.reverse ++ rest).map (cv ad))) (e := e) (below := below) (meth := meth) (cells := k) (slots := n) (nL := c'.maxLocals) ⟨hx, hb, rfl, hown, hts⟩ (hC base bS D cA ad) ⟨callB_ok (na := na) (index := idx) (own := y.cls) hts hM hlk hf hlo, hts _ hI⟩
    ⟨PcC_blind, fun U hU hW => ⟨rfl, Ev_warm hEv hW (by rw [hU]; exact hS.1) (fun q a b => by rw [hU]; exact hS.2.1 q a b), by rw [hU]; exact hR, ho1⟩⟩ rfl (by rw [List.length_map]; exact hn) hlv.1 (by simp [List.map_reverse]) (lv_room (cat_ok hcat)) d ⟨hc, hs⟩
  exact h9
theorem V_callIN {idx t fr lc mc9 ms9 na maxL9 : Nat} {y9 : MethodName} {b9 : ByteArray} {As rest stc : List Value} {Pm : Rs → Sg → Prop} (hG : CX L9 G y cc mL ret hh rm) (d : decode cc pc = .ok (.invokespecial idx, 3)) (hC : Ct L9 y9 (.code y9 b9 maxL9 none) fr lc mc9 ms9 (.ref t :: As) σ Pm) (hM : MV y9 b9 maxL9 none na) (hI : Cond.instanceMethod y9 ∈ GW) (hnm : y9.name = "<init>") (hlk : Cond.methodLinkNest y.cls idx y9 "Millrace" = nestW)
    (hn : As.length = na) (hst : stc = As.reverse ++ .ref t :: rest) (hcat : (rest.map fun v => v.category).sum ≤ 8) (hf : fr + 1 ≤ rm.frames) (hlo : maxL9 + 19 + lc ≤ rm.locals) (hc : k + mc9 ≤ rm.cells) (hs : n + ms9 ≤ rm.slots)
    (kx : ∀ E σ', Pm (.inr E) σ' → VX G Q E pc lo rest σ' (k + mc9) (n + ms9)) (kk : ∀ v σ', Pm (.inl v) σ' → V G Q (pc + 3) lo (v.toList ++ rest) σ' (k + mc9) (n + ms9)) : V G Q pc lo stc σ k n := by
  subst hst
  have hoA : oks σ (As.reverse ++ .ref t :: rest) → oks σ As ∧ sX σ t = true ∧ oks σ rest := fun h => ⟨fun v hv => h v (List.mem_append.mpr (Or.inl (List.mem_reverse.mpr hv))), h (.ref t) (List.mem_append.mpr (Or.inr List.mem_cons_self)), fun v hv => h v (List.mem_append.mpr (Or.inr (List.mem_cons_of_mem _ hv)))⟩
  refine V_after (As := #[]) (Pm := Pm) (mc9 := mc9) (ms9 := ms9) (rest := rest) ?_ (fun h => (hoA h).2.2) kx kk
  intro l1 p e R s m args below meth c' base bS D cA ad0 σ0 hGe ad H locs ls hR hS hlv hso
  rw [hGe] at hG
  obtain ⟨hx, hb, -, hown, hts, -, ⟨rfl, -⟩, -, -, -, rfl, hEv⟩ := hG
  obtain ⟨ho1, ho2, ho3⟩ := hoA hso
  have hnw := hEv.2.2.2.2.2.1
  rw [← hlk] at hnw
  have h9 := vx_runIN (b := ad t) (As := As.map (cv ad)) (rest := rest.map (cv ad)) (H := H) (locs := locs) (g := F0 m pc ls ((As.reverse ++ .ref t :: rest).map (cv ad))) (e := e) (below := below) (meth := meth) (cells := k) (slots := n) (nL := c'.maxLocals) ⟨hx, hb, rfl, hown, hts⟩ (hC base bS D cA ad) ⟨va_cnB (rm := { frames := fr, cells := mc9, slots := ms9, locals := lc }) na hts (fun w hw => ⟨(List.mem_cons.mp hw).elim (fun e => e ▸ hM.1) id, (List.mem_cons.mp hw).elim (fun e => e ▸ good_of_word (List.mem_filter.mp hM.1).2) (fun h => good_of_word (List.mem_filter.mp h).2)⟩) rfl rfl rfl hnw (hts _ hM.2.1) ⟨hM.2.2.1.1, hM.2.2.1.2, hM.2.2.2⟩ ⟨hf, by show 8 + (maxL9 + 11) + lc ≤ _; omega⟩, hnm, hts _ hI⟩
    ⟨PcC_blind, fun U hU hW => ⟨rfl, Ev_warm hEv hW (by rw [hU]; exact hS.1) (fun q a b => by rw [hU]; exact hS.2.1 q a b), by rw [hU]; exact hR, oks_c ho2 ho1⟩⟩ rfl (by rw [List.length_map]; exact hn) hlv.1 (by simp [List.map_reverse]; rfl) (lv_room (cat_ok hcat)) d ⟨hc, hs⟩
  exact h9
/-- a static method with handlers of its own -/
theorem V_callSX {idx fr lc mc9 ms9 na maxL9 : Nat} {y9 : MethodName} {b9 : ByteArray} {ret9 : Option FieldType} {hh9 : List (Nat × Nat × Nat × Nat)} {As rest stc : List Value} {Pm : Rs → Sg → Prop} (hG : CX L9 G y cc mL ret hh rm) (d : decode cc pc = .ok (.invokestatic idx, 3)) (hC : Ct L9 y9 (.codeWith y9 b9 maxL9 ret9 hh9) fr lc mc9 ms9 As σ Pm) (hM : Cond.codeWith y9 b9 maxL9 ret9 hh9 ∈ GW ∧ Cond.initialized y9.cls ∈ GW ∧ (y9.cls ≠ "java/lang/invoke/MethodHandle" ∧ y9.cls ≠ "java/lang/invoke/VarHandle") ∧ (parseMethodDescriptor y9.desc).map (fun d => d.parameters.length) = some na) (hI : Cond.static y9 ∈ GW) (hlk : Cond.methodLink y.cls idx y9 ∈ GW)
    (hn : As.length = na) (hst : stc = As.reverse ++ rest) (hcat : (rest.map fun v => v.category).sum ≤ 8) (hf : fr + 1 ≤ rm.frames) (hlo : maxL9 + 19 + lc ≤ rm.locals) (hc : k + mc9 ≤ rm.cells) (hs : n + ms9 ≤ rm.slots)
    (kx : ∀ E σ', Pm (.inr E) σ' → VX G Q E pc lo rest σ' (k + mc9) (n + ms9)) (kk : ∀ v σ', Pm (.inl v) σ' → V G Q (pc + 3) lo (v.toList ++ rest) σ' (k + mc9) (n + ms9)) : V G Q pc lo stc σ k n := by
  subst hst
  have hoA : oks σ (As.reverse ++ rest) → oks σ As ∧ oks σ rest := fun h => ⟨fun v hv => h v (List.mem_append.mpr (Or.inl (List.mem_reverse.mpr hv))), fun v hv => h v (List.mem_append.mpr (Or.inr hv))⟩
  refine V_after (As := #[]) (Pm := Pm) (mc9 := mc9) (ms9 := ms9) (rest := rest) ?_ (fun h => (hoA h).2) kx kk
  intro l1 p e R s m args below meth c' base bS D cA ad0 σ0 hGe ad H locs ls hR hS hlv hso
  rw [hGe] at hG
  obtain ⟨hx, hb, -, hown, hts, -, ⟨rfl, -⟩, -, -, -, rfl, hEv⟩ := hG
  obtain ⟨ho1, ho3⟩ := hoA hso
  have h9 := vx_runSX (rm := { frames := fr, cells := mc9, slots := ms9, locals := lc }) (n := na) (As := As.map (cv ad)) (rest := rest.map (cv ad)) (H := H) (locs := locs) (g := F0 m pc ls ((As.reverse ++ rest).map (cv ad))) (e := e) (below := below) (meth := meth) (cells := k) (slots := n) (nL := c'.maxLocals) ⟨hx, hb, rfl, hown, hts⟩ (hC base bS D cA ad)
    ⟨⟨rfl, rfl, hf, by show 8 + (maxL9 + 11) + lc ≤ _; omega, ws_ok hts hM.1, List.mem_cons_self⟩, hts _ hM.1, hts _ hM.2.1, hM.2.2.1, fun sig h => by
      have h2 := hM.2.2.2
      rw [h] at h2
      exact (Option.some.inj h2).symm, hts _ hlk, hts _ hI⟩
    ⟨PcC_blind, fun U hU hW => ⟨rfl, Ev_warm hEv hW (by rw [hU]; exact hS.1) (fun q a b => by rw [hU]; exact hS.2.1 q a b), by rw [hU]; exact hR, ho1⟩⟩ rfl (by rw [List.length_map]; exact hn) hlv.1 (by simp [List.map_reverse]) (lv_room (cat_ok hcat)) d ⟨hc, hs⟩
  exact h9
/-- Math.max, Math.min of ints -/
theorem V_mmax {idx : Nat} {a b : Int32} (hG : CX L9 G y cc mL ret hh rm) (d : decode cc pc = .ok (.invokestatic idx, 3)) (h1 : Cond.methodLink y.cls idx Lib.Math.max.name ∈ GW) (h2 : Cond.static Lib.Math.max.name ∈ GW) (h3 : Cond.initialized "java/lang/Math" ∈ GW) (h4 : Cond.code Lib.Math.max.name Lib.Math.max.code 2 (some .int) ∈ GW) (hf : 1 ≤ rm.frames) (hlo : (r.map fun v => v.category).sum + 13 ≤ rm.locals) (hc : k ≤ rm.cells) (hs : n ≤ rm.slots)
    (kk : V G Q (pc + 3) lo (.int (if a < b then b else a) :: r) σ k n) : V G Q pc lo (.int b :: .int a :: r) σ k n := by
  obtain ⟨l, p, e, R, s, m, args, below, meth, c', base, bS, D, cA, ad0, σ0⟩ := G
  obtain ⟨hx, hb, -, hown, hts, -, -, -, -, -, rfl, hEv⟩ := hG
  intro ad H locs ls hR hS hlen hlv hol hso hx0
  have hcat : ((r.map (cv ad)).map fun v => v.category).sum = (r.map fun v => v.category).sum := by rw [List.map_map]; congr 1; exact List.map_congr_left fun v _ => cv_cat ad v
  exact va_mmax hx hb hlv.1.symm hown (hts _ h1) (hts _ h2) (hts _ h3) (hts _ h4) hf (by rw [hcat]; exact hlo) hc hs d (kk ad H locs ls hR hS hlen hlv hol (oks_ci (oks_tl (oks_tl hso))) hx0)
theorem V_mmin {idx : Nat} {a b : Int32} (hG : CX L9 G y cc mL ret hh rm) (d : decode cc pc = .ok (.invokestatic idx, 3)) (h1 : Cond.methodLink y.cls idx Lib.Math.min.name ∈ GW) (h2 : Cond.static Lib.Math.min.name ∈ GW) (h3 : Cond.initialized "java/lang/Math" ∈ GW) (h4 : Cond.code Lib.Math.min.name Lib.Math.min.code 2 (some .int) ∈ GW) (hf : 1 ≤ rm.frames) (hlo : (r.map fun v => v.category).sum + 13 ≤ rm.locals) (hc : k ≤ rm.cells) (hs : n ≤ rm.slots)
    (kk : V G Q (pc + 3) lo (.int (if b < a then b else a) :: r) σ k n) : V G Q pc lo (.int b :: .int a :: r) σ k n := by
  obtain ⟨l, p, e, R, s, m, args, below, meth, c', base, bS, D, cA, ad0, σ0⟩ := G
  obtain ⟨hx, hb, -, hown, hts, -, -, -, -, -, rfl, hEv⟩ := hG
  intro ad H locs ls hR hS hlen hlv hol hso hx0
  have hcat : ((r.map (cv ad)).map fun v => v.category).sum = (r.map fun v => v.category).sum := by rw [List.map_map]; congr 1; exact List.map_congr_left fun v _ => cv_cat ad v
  exact va_mmin hx hb hlv.1.symm hown (hts _ h1) (hts _ h2) (hts _ h3) (hts _ h4) hf (by rw [hcat]; exact hlo) hc hs d (kk ad H locs ls hR hS hlen hlv hol (oks_ci (oks_tl (oks_tl hso))) hx0)
/-- throw new E(text) -/
def exN : List String := ["java/lang/RuntimeException", "java/lang/Exception"]
def thB (E : String) : List Cond := Cond.castable E E :: dcL.map fun Y => .declares ⟨Y, "<init>", "(Ljava/lang/String;)V"⟩
theorem V_throw {ik is ic : Nat} {text : String} (E : String) (hG : CX L9 G y cc mL ret [] rm) (d0 : decode cc pc = .ok (.new ik, 3)) (d3 : decode cc (pc + 3) = .ok (.dup, 1)) (d4 : decode cc (pc + 4) = .ok (.ldc is, 2)) (d6 : decode cc (pc + 6) = .ok (.invokespecial ic, 3)) (d9 : decode cc (pc + 9) = .ok (.athrow, 1))
    (hE : E ∈ exL) (hfit : Bundle.fit E = true) (hk : Cond.classLink y.cls ik E ∈ GW) (hini : Cond.initialized E ∈ GW) (hstr : (y.cls, is, text) ∈ strL) (hat : ∀ w ∈ (vx_atS y.cls ic E exN).filter goodWord, w ∈ GW) (hnb : ∀ w ∈ (vx_atS y.cls ic E exN).filter (fun w => !goodWord w), w ∈ thB E)
    (hot : ∀ w ∈ vx_atS y.cls ic E exN, vx_ot w = true) (hf : 5 < rm.frames) (hlo : (st.map fun v => v.category).sum + 82 ≤ rm.locals) (hrc : k + 1 ≤ rm.cells) (hrs : n + 6 ≤ rm.slots) (hc : k + 1 ≤ mc) (hs : n + 6 ≤ ms) (hp : Post (.inr E) σ) : V G (QM G mc ms Post) pc lo st σ k n := by
  obtain ⟨l, p, e, R, s, m, args, below, meth, c', base, bS, D, cA, ad0, σ0⟩ := G
  obtain ⟨hx, hb, -, hown, hts, hlk, ⟨-, hl⟩, hr, -, htab, rfl, hEv⟩ := hG
  intro ad H locs ls hR hS hlen hlv hol hso hx0
  have hcat : ((st.map (cv ad)).map fun v => v.category).sum = (st.map fun v => v.category).sum := by rw [List.map_map]; congr 1; exact List.map_congr_left fun v _ => cv_cat ad v
  obtain ⟨sa, hsa⟩ := hEv.2.2.2.2.2.2.2.2.1 _ hstr
  refine vx_throwS (sa := sa) (text := text) (cls := E) (names := exN) (own := y.cls) (A := fun q => base ≤ q) hx hb hl hown hfit (fun n hn => ?_) (hts _ hk) (hts _ hini) hsa (vx_hat (fun w hw => hts w (hat w hw)) hnb (fun w hw => ?_)) (fun w hw => ?_) hEv.2.2.2.1 hEv.2.2.2.2.1 hS hlv.1 d0 d3 d4 d6 d9 (fun x hx9 => ?_) hf (by rw [hcat]; exact hlo) hrc hrs hlk (fun t hal hz hk9 => ?_) hS.2.2 hc hs
  · rcases List.mem_cons.mp hn with rfl | hn
    · decide
    · rcases List.mem_cons.mp hn with rfl | hn
      · decide
      · cases hn
  · rcases List.mem_cons.mp hw with rfl | hw
    · exact va_Nw.use rfl (hEv.2.2.2.2.2.2.1 E hE)
    · obtain ⟨Y, hY, rfl⟩ := List.mem_map.mp hw
      exact va_Nw.use rfl (hEv.2.2.2.2.2.2.2.2.2.2 Y hY)
  · rcases List.mem_cons.mp hw with rfl | hw
    · rfl
    · rcases List.mem_cons.mp hw with rfl | hw
      · rfl
      · exact hot w hw
  · rw [htab] at hx9
    cases hx9
  · exact ⟨σ, ad, hp, ⟨Rp_kept hR hz hk9, hx0⟩, Nat.le_trans hS.1 hz, fun q q1 q2 => (hk9 q (Nat.lt_of_lt_of_le q1 hS.1)).trans (hS.2.1 q q1 q2)⟩
theorem V_throwW {ik is ic : Nat} {text : String} (E : String) (hG : CX L9 G y cc mL ret [] rm) (d0 : decode cc pc = .ok (.new ik, 3)) (d3 : decode cc (pc + 3) = .ok (.dup, 1)) (d4 : decode cc (pc + 4) = .ok (.ldc_w is, 3)) (d7 : decode cc (pc + 7) = .ok (.invokespecial ic, 3)) (d10 : decode cc (pc + 10) = .ok (.athrow, 1))
    (hE : E ∈ exL) (hfit : Bundle.fit E = true) (hk : Cond.classLink y.cls ik E ∈ GW) (hini : Cond.initialized E ∈ GW) (hstr : (y.cls, is, text) ∈ strL) (hat : ∀ w ∈ (vx_atS y.cls ic E exN).filter goodWord, w ∈ GW) (hnb : ∀ w ∈ (vx_atS y.cls ic E exN).filter (fun w => !goodWord w), w ∈ thB E)
    (hot : ∀ w ∈ vx_atS y.cls ic E exN, vx_ot w = true) (hf : 5 < rm.frames) (hlo : (st.map fun v => v.category).sum + 82 ≤ rm.locals) (hrc : k + 1 ≤ rm.cells) (hrs : n + 6 ≤ rm.slots) (hc : k + 1 ≤ mc) (hs : n + 6 ≤ ms) (hp : Post (.inr E) σ) : V G (QM G mc ms Post) pc lo st σ k n := by
  obtain ⟨l, p, e, R, s, m, args, below, meth, c', base, bS, D, cA, ad0, σ0⟩ := G
  obtain ⟨hx, hb, -, hown, hts, hlk, ⟨-, hl⟩, hr, -, htab, rfl, hEv⟩ := hG
  intro ad H locs ls hR hS hlen hlv hol hso hx0
  have hcat : ((st.map (cv ad)).map fun v => v.category).sum = (st.map fun v => v.category).sum := by rw [List.map_map]; congr 1; exact List.map_congr_left fun v _ => cv_cat ad v
  obtain ⟨sa, hsa⟩ := hEv.2.2.2.2.2.2.2.2.1 _ hstr
  refine vx_throwSW (sa := sa) (text := text) (cls := E) (names := exN) (own := y.cls) (A := fun q => base ≤ q) hx hb hl hown hfit (fun n hn => ?_) (hts _ hk) (hts _ hini) hsa (vx_hat (fun w hw => hts w (hat w hw)) hnb (fun w hw => ?_)) (fun w hw => ?_) hEv.2.2.2.1 hEv.2.2.2.2.1 hS hlv.1 d0 d3 d4 d7 d10 (fun x hx9 => ?_) hf (by rw [hcat]; exact hlo) hrc hrs hlk (fun t hal hz hk9 => ?_) hS.2.2 hc hs
  · rcases List.mem_cons.mp hn with rfl | hn
    · decide
    · rcases List.mem_cons.mp hn with rfl | hn
      · decide
      · cases hn
  · rcases List.mem_cons.mp hw with rfl | hw
    · exact va_Nw.use rfl (hEv.2.2.2.2.2.2.1 E hE)
    · obtain ⟨Y, hY, rfl⟩ := List.mem_map.mp hw
      exact va_Nw.use rfl (hEv.2.2.2.2.2.2.2.2.2.2 Y hY)
  · rcases List.mem_cons.mp hw with rfl | hw
    · rfl
    · rcases List.mem_cons.mp hw with rfl | hw
      · rfl
      · exact hot w hw
  · rw [htab] at hx9
    cases hx9
  · exact ⟨σ, ad, hp, ⟨Rp_kept hR hz hk9, hx0⟩, Nat.le_trans hS.1 hz, fun q q1 q2 => (hk9 q (Nat.lt_of_lt_of_le q1 hS.1)).trans (hS.2.1 q q1 q2)⟩
/-- caught here by a handler that hands back a number -/
theorem VX_catch {E : String} {a9 b9 hpc ct hp2 : Nat} {z : Int} {v : Int32} {pre suf : List (Nat × Nat × Nat × Nat)} (hG : CX L9 G y cc mL (some .int) hh rm) (hsplit : hh = pre ++ (a9, b9, hpc, ct) :: suf) (hE : E ∈ exL) (hpass : ∀ q ∈ pre, q.2.2.2 ≠ 0 ∧ ∃ X ∈ exL, E ≠ X ∧ Cond.classLink y.cls q.2.2.2 X ∈ GW) (hcov : covers ⟨a9, b9, hpc, ct⟩ pc = true) (h0 : ct ≠ 0) (hlk : Cond.classLink y.cls ct E ∈ GW)
    (hst : (∃ i : Fin 4, decode cc hpc = .ok (.astore_n i, 1) ∧ (i : Nat) < mL ∧ hp2 = hpc + 1) ∨ (∃ i : Nat, decode cc hpc = .ok (.astore i, 2) ∧ i < mL ∧ hp2 = hpc + 2)) (d2 : decode cc hp2 = .ok (.iconst z, 1)) (hv : Int32.ofInt z = v) (d3 : decode cc (hp2 + 1) = .ok (.ireturn, 1)) (hc : k ≤ mc) (hs : n ≤ ms) (hp : Post (.inl (some (.int v))) σ) : VX G (QM G mc ms Post) E pc lo st σ k n := by
  obtain ⟨l, p, e, R, s, m, args, below, meth, c', base, bS, D, cA, ad0, σ0⟩ := G
  obtain ⟨hx, hb, hmL, hown, hts, hlock, -, hr, -, htab, rfl, hEv⟩ := hG
  intro ad H locs ls q ce hR hS hlen hlv hol hso hx0 hq hcv hcl
  have fin : ∀ ls' : Array Slot, W p l e R s m args below meth c' H locs k n (QM (l, p, e, R, s, m, args, below, meth, c', base, bS, D, cA, ad0, σ0) mc ms Post) (F0 m hp2 ls' []) := fun ls' =>
    lv_iconst hx hb d2 hv (vx_ret (W.widen hc hs (W.iret hx hb hr (fun t ht hW => ⟨some (.int v), σ, ad, rfl, hp, ⟨by rw [ht]; exact hR, hx0⟩, oks_ci oks_nil, hS.F ht⟩) hS.2.2 d3 hlock)))
  refine vx_catch hown (tableOf pre) ⟨a9, b9, hpc, ct⟩ (tableOf suf) (by rw [htab, hsplit]; simp [tableOf]) (fun z hz => ?_) hcov h0 (hts _ hlk) (va_Nw.use rfl (hEv.2.2.2.2.2.2.1 E hE)) hq hcv hcl ?_
  · obtain ⟨q9, hq9, rfl⟩ := List.mem_map.mp hz
    obtain ⟨g1, X, g2, g3, g4⟩ := hpass q9 hq9
    exact Or.inr ⟨g1, X, hts _ g4, hEv.2.2.2.2.2.2.2.1 E hE X g2 g3⟩
  · rcases hst with ⟨i, hd, hi, rfl⟩ | ⟨i, hd, hi, rfl⟩
    · exact lv_astore_n hx hb hd rfl hlv (hmL ▸ hi) rfl fun ls' _ => fin ls'
    · exact lv_astore hx hb hd hlv (hmL ▸ hi) rfl fun ls' _ => fin ls'
end ENDS
