/-! Fields, rows, new things; a method's contract Ct; its end; calls; throws. -/
def fva (σ : Sg) (t k : Nat) (ty : FieldType) : Value := if isR ty then va_rf (sP σ t k) else if isJ ty then .long (sL σ t k) else .int (sI σ t k)
theorem cv_fva (ad : Nat → Nat) (σ : Sg) (t k : Nat) (ty : FieldType) : cv ad (fva σ t k ty) = fvl ad σ t k ty := by
  unfold fva fvl
  split
  · exact cv_rf _ _
  · split <;> rfl
theorem okv_fva {σ : Sg} {t k : Nat} (ty : FieldType) (h : ∀ u, sP σ t k = some u → sX σ u = true) : okv σ (fva σ t k ty) := by
  unfold fva
  split
  · exact okv_rf h
  · split <;> trivial
def FL (own : String) (idx c k : Nat) : Prop := ∃ r : vw_C, vwCl[c]? = some r ∧ k < r.2.2 ∧ Cond.fieldLink own idx r.1 (r.2.1 k).2.1 (r.2.1 k).2.2.1 ∈ GW ∧ (r.2.1 k).1 = r.1
def b01 (x : Int32) : Prop := x = 0 ∨ x = 1
theorem nar_b {x : Int32} (h : b01 x) : narrow .boolean (.int x) = .int x := by rcases h with rfl | rfl <;> rfl
theorem fit_b {x : Int32} (h : b01 x) : fits .boolean (.int x) = true := by rcases h with rfl | rfl <;> rfl
theorem aln_le (t : Nat) : aln t ≤ 60 := by
  have h : ∀ i, mlen.getD i 0 ≤ 60 := by
    intro i
    by_cases hi : i < 62
    · exact (by decide : ∀ i : Fin 62, mlen.getD i 0 ≤ 60) ⟨i, hi⟩
    · rw [List.getD_eq_getElem?_getD, List.getElem?_eq_none (by show 62 ≤ i; omega)]; exact Nat.zero_le _
  unfold aln
  split <;> first | exact h _ | decide
section HP
variable {L9 : Launch} {G : Cx} {Q : State → Prop} {pc : Nat} {lo lo' : Lo} {st r : List Value} {σ : Sg} {k n : Nat} {y : MethodName} {cc : ByteArray} {mL : Nat} {ret : Option FieldType} {hh : List (Nat × Nat × Nat × Nat)} {rm : Room}
theorem V_get {idx c kf t : Nat} (hG : CX L9 G y cc mL ret hh rm) (d : decode cc pc = .ok (.getfield idx, 3)) (f : FL y.cls idx c kf) (ht : t % 32 = c) (kk : V G Q (pc + 3) lo (fva σ t kf (oty c kf) :: r) σ k n) : V G Q pc lo (.ref t :: r) σ k n := by
  obtain ⟨l, p, e, R, s, m, args, below, meth, c', base, bS, D, cA, ad0, σ0⟩ := G
  obtain ⟨hx, hb, -, hown, hts, -, -, -, -, -, -, hEv⟩ := hG
  intro ad H locs ls hR hS hlen hl ho hs hx0
  have hta : sX σ t = true := oks_hd hs
  obtain ⟨-, -, h3, -⟩ := hR.1 t hta
  obtain ⟨r9, hr, hk, hw, hd⟩ := f
  subst ht
  obtain ⟨cell, q1, q2, q3, q4⟩ := h3 r9 hr
  obtain ⟨-, -, hin⟩ := vcl hr
  obtain ⟨hSl, hfc, kC, hkC, hkind⟩ := hEv.1 _ _ hr
  obtain ⟨cf, kf', fi, fd, hi, hsl⟩ := hSl kf hk
  have hst := (u_facts hfc hkC (u_lays hts hin hk) hi).1
  rw [hd] at hi
  have h9 := kk ad H locs ls hR hS hlen hl ho (oks_c (okv_fva _ (hR.2.2.1 t kf)) (oks_tl hs)) hx0
  rw [List.map_cons, cv_fva] at h9
  exact W.getf hx hb hown (hts _ hw) hi hst q1 (by rw [q3]; exact fun h => by cases h) (v := fvl ad σ t kf (oty (t % 32) kf)) (by rw [hsl]; exact q4 kf hk) rfl rfl d h9
theorem V_getI {idx c kf t : Nat} (hG : CX L9 G y cc mL ret hh rm) (d : decode cc pc = .ok (.getfield idx, 3)) (f : FL y.cls idx c kf) (hy : isI (oty c kf) = true) (ht : t % 32 = c) (kk : V G Q (pc + 3) lo (.int (sI σ t kf) :: r) σ k n) : V G Q pc lo (.ref t :: r) σ k n := by
  refine V_get hG d f ht ?_
  have : fva σ t kf (oty c kf) = .int (sI σ t kf) := by cases e : oty c kf <;> rw [e] at hy <;> first | rfl | cases hy
  rw [this]; exact kk
theorem V_getP {idx c kf t : Nat} (hG : CX L9 G y cc mL ret hh rm) (d : decode cc pc = .ok (.getfield idx, 3)) (f : FL y.cls idx c kf) (hy : isR (oty c kf) = true) (ht : t % 32 = c) (kk : V G Q (pc + 3) lo (va_rf (sP σ t kf) :: r) σ k n) : V G Q pc lo (.ref t :: r) σ k n := by
  refine V_get hG d f ht ?_
  have : fva σ t kf (oty c kf) = va_rf (sP σ t kf) := by unfold fva; rw [if_pos hy]
  rw [this]; exact kk
theorem V_getS {idx c kf t u : Nat} (hG : CX L9 G y cc mL ret hh rm) (d : decode cc pc = .ok (.getfield idx, 3)) (f : FL y.cls idx c kf) (hy : isR (oty c kf) = true) (ht : t % 32 = c) (hp : sP σ t kf = some u) (kk : V G Q (pc + 3) lo (.ref u :: r) σ k n) : V G Q pc lo (.ref t :: r) σ k n := by
  refine V_getP hG d f hy ht ?_
  rw [hp]; exact kk
theorem V_getJ {idx c kf t : Nat} (hG : CX L9 G y cc mL ret hh rm) (d : decode cc pc = .ok (.getfield idx, 3)) (f : FL y.cls idx c kf) (hy : isJ (oty c kf) = true) (ht : t % 32 = c) (kk : V G Q (pc + 3) lo (.long (sL σ t kf) :: r) σ k n) : V G Q pc lo (.ref t :: r) σ k n := by
  refine V_get hG d f ht ?_
  have : fva σ t kf (oty c kf) = .long (sL σ t kf) := by cases e : oty c kf <;> rw [e] at hy <;> first | rfl | cases hy
  rw [this]; exact kk
theorem V_put {idx c kf t : Nat} {v : Value} {σ' : Sg} (hG : CX L9 G y cc mL ret hh rm) (d : decode cc pc = .ok (.putfield idx, 3)) (f : FL y.cls idx c kf) (ht : t % 32 = c) (hfin : ∀ r9 : vw_C, vwCl[c]? = some r9 → (r9.2.1 kf).2.2.2 = false ∨ (y.name = "<init>" ∧ r9.1 = y.cls))
    (hX : ∀ a, sX σ' a = sX σ a) (hcl : okv σ v → (∀ a b u, sP σ a b = some u → sX σ u = true) → ∀ a b u, sP σ' a b = some u → sX σ u = true) (ho : ∀ a b, ¬ (a = t ∧ b = kf) → sI σ' a b = sI σ a b ∧ sP σ' a b = sP σ a b ∧ sL σ' a b = sL σ a b)
    (hv : ∀ ad, fvl ad σ' t kf (oty c kf) = cv ad v) (hn : ∀ ad, narrow (oty c kf) (cv ad v) = cv ad v) (hf : ∀ ad, fits (oty c kf) (cv ad v) = true)
    (kk : V G Q (pc + 3) lo r σ' k n) : V G Q pc lo (v :: .ref t :: r) σ k n := by
  obtain ⟨l, p, e, R, s, m, args, below, meth, c', base, bS, D, cA, ad0, σ0⟩ := G
  obtain ⟨hx, hb, -, hown, hts, -, -, -, hnm0, -, -, hEv⟩ := hG
  intro ad H locs ls hR hS hlen hl hol hs hx0
  have hta : sX σ t = true := oks_hd (oks_tl hs)
  obtain ⟨h1, h2, h3, -⟩ := hR.1 t hta
  obtain ⟨r9, hr, hk, hw, hd⟩ := f
  subst ht
  obtain ⟨cell, q1, q2, q3, q4⟩ := h3 r9 hr
  obtain ⟨hty, hnm, hin⟩ := vcl hr
  have hu := hEv.1 _ _ hr
  have hap : ∀ a b, a < r9.2.2 → b < r9.2.2 → a ≠ b → D.2 (t % 32) a ≠ D.2 (t % 32) b := by
    intro a b ha hb9 hne
    obtain ⟨_, _, _, fa, hia, ea⟩ := hu.1 a ha
    obtain ⟨_, _, _, fb, hib, eb⟩ := hu.1 b hb9
    rw [← ea, ← eb]
    refine u_apart (u_lays hts hin ha) (u_lays hts hin hb9) hia hib ?_
    rw [(State.fieldFound?_type hia (hty a ha)).1, (State.fieldFound?_type hib (hty b hb9)).1]
    exact hnm a ha b hb9 hne
  obtain ⟨hSl, hfc, kC, hkC, hkind⟩ := hu
  obtain ⟨cf, kf', fi, fd, hi, hsl⟩ := hSl kf hk
  have hst := (u_facts hfc hkC (u_lays hts hin hk) hi).1
  have hbase : base ≤ ad t := by
    rcases h2 with h2 | h2
    · exact h2
    · have h9 := (List.getElem?_eq_some_iff.mp hr).1
      have h8 : vwCl.length = 11 := rfl
      omega
  have fin : ∀ H' : Heap, H'[ad t]? = some (cell.setSlot fd.slot (cv ad v)) → H'.size = H.size → (∀ q, q ≠ ad t → H'[q]? = H[q]?) → W p l e R s m args below meth c' H' (locs ++ [⟨ad t, fd.slot⟩]) k n Q (F0 m (pc + 3) ls (r.map (cv ad))) := by
    intro H' e1 e2 e3
    rw [hsl] at e1
    refine kk ad H' _ ls ?_ (hS.put e2 e3 hbase) hlen hl (okl_mono hol fun a ha => by rw [hX]; exact ha) (oks_mono (oks_tl (oks_tl hs)) fun a ha => by rw [hX]; exact ha) (fun a ha => ⟨by rw [hX]; exact (hx0 a ha).1, (hx0 a ha).2⟩)
    refine Rp_upd hR hta hX (hcl (oks_hd hs) hR.2.2.1) (fun u hu9 k9 ty => ?_) e2 e3 (fun r8 hr8 => ?_) (fun ty hty9 => ?_)
    · obtain ⟨a1, a2, a3⟩ := ho u k9 (fun z => hu9 z.1)
      exact fvl_same ty a1 a2 a3
    · cases hr.symm.trans hr8
      refine t_OB.to (V := updV (fun k => fvl ad σ t k (oty (t % 32) k)) kf (cv ad v)) ⟨_, e1, q2, q3, t_set q4 hap hk (cv ad v)⟩ fun j hj => ?_
      show updV _ _ _ _ = _
      unfold updV
      by_cases ej : j = kf
      · rw [if_pos ej, ej, hv]
      · rw [if_neg ej]
        obtain ⟨a1, a2, a3⟩ := ho t j (fun z => ej z.2)
        exact (fvl_same _ a1 a2 a3).symm
    · rw [vcl_aty hr] at hty9; cases hty9
  rcases hfin r9 hr with hf9 | ⟨hi9, hd9⟩
  · have hlay := hts _ (hin _ (u_in_lay hk))
    unfold u_lay at hlay
    rw [if_neg (by rw [hf9]; decide)] at hlay
    have h6 := u_store hfc hkC hkind hlay hi (hty kf hk) (hn ad) (hf ad)
    have hi2 := hi
    rw [hd] at hi2
    exact W.putK hx hb (f := fd) ⟨hown, hts _ hw, ⟨_, _, _, hi2⟩, hst⟩ (by rw [q2]; exact h6) q1 q3 (by rw [hsl]; exact k2_hasslot (q4 kf hk)) rfl rfl d fin
  · have hlays := u_lays hts hin hk
    have hi2 := hi
    rw [hd] at hi2
    have h6 := u_fits hfc hkC hkind hlays hi (hty kf hk) (hn ad) (hf ad)
    by_cases hf9 : (r9.2.1 kf).2.2.2 = true
    · have hlay := hts _ (hin _ (u_in_lay hk))
      unfold u_lay at hlay
      rw [if_pos hf9] at hlay
      have hcf : m.cls = cf := by
        obtain ⟨_, _, c9, _, _, _, -, -, hf', -, -, -, hown2, -⟩ := Cond.laysFinal_spec hlay
        have e1 : c9 = cf := by have := hi.symm.trans hf'; simp at this; exact this.1.symm
        rw [hd, hd9] at hown2
        rw [← e1]; exact Option.some.inj (hown.symm.trans hown2)
      exact W.putFinK hx hb hown (hts _ hw) hi2 hst hcf (hnm0.trans hi9) (by rw [q2]; exact h6) q1 q3 (by rw [hsl]; exact k2_hasslot (q4 kf hk)) rfl rfl d fin
    · have hlay := hts _ (hin _ (u_in_lay hk))
      unfold u_lay at hlay
      rw [if_neg hf9] at hlay
      have h6 := u_store hfc hkC hkind hlay hi (hty kf hk) (hn ad) (hf ad)
      exact W.putK hx hb (f := fd) ⟨hown, hts _ hw, ⟨_, _, _, hi2⟩, hst⟩ (by rw [q2]; exact h6) q1 q3 (by rw [hsl]; exact k2_hasslot (q4 kf hk)) rfl rfl d fin
def nfin (y : MethodName) (c kf : Nat) : Bool := match vwCl[c]? with
  | some r => !(r.2.1 kf).2.2.2 || (y.name == "<init>" && r.1 == y.cls)
  | none => true
theorem nfin_ok {c kf : Nat} (h : nfin y c kf = true) : ∀ r9 : vw_C, vwCl[c]? = some r9 → (r9.2.1 kf).2.2.2 = false ∨ (y.name = "<init>" ∧ r9.1 = y.cls) := by
  intro r9 hr
  unfold nfin at h
  rw [hr] at h
  simp only [Bool.or_eq_true, Bool.not_eq_true', Bool.and_eq_true, beq_iff_eq] at h
  exact h
theorem V_putI {idx c kf t : Nat} {x : Int32} (hG : CX L9 G y cc mL ret hh rm) (d : decode cc pc = .ok (.putfield idx, 3)) (f : FL y.cls idx c kf) (hy : isI (oty c kf) = true) (hz : oty c kf = .boolean → b01 x) (hfin : nfin y c kf = true) (ht : t % 32 = c) (kk : V G Q (pc + 3) lo r (wI σ t kf x) k n) : V G Q pc lo (.int x :: .ref t :: r) σ k n := by
  refine V_put (v := .int x) (σ' := wI σ t kf x) hG d f ht (nfin_ok hfin) (fun a => rfl) (fun _ h a b u hu => h a b u hu) (fun a b h => ⟨by rw [sI_wI, if_neg h], rfl, rfl⟩) (fun ad => ?_) (fun ad => ?_) (fun ad => ?_) kk
  · rw [fvl_I hy, sI_wI, if_pos ⟨rfl, rfl⟩]; rfl
  · cases e : oty c kf <;> rw [e] at hy <;> first | exact nar_b (hz e) | rfl | cases hy
  · cases e : oty c kf <;> rw [e] at hy <;> first | exact fit_b (hz e) | rfl | cases hy
theorem V_putP {idx c kf t : Nat} {v : Option Nat} (hG : CX L9 G y cc mL ret hh rm) (d : decode cc pc = .ok (.putfield idx, 3)) (f : FL y.cls idx c kf) (hy : isR (oty c kf) = true) (hfin : nfin y c kf = true) (ht : t % 32 = c) (kk : V G Q (pc + 3) lo r (wP σ t kf v) k n) : V G Q pc lo (va_rf v :: .ref t :: r) σ k n := by
  refine V_put (v := va_rf v) (σ' := wP σ t kf v) hG d f ht (nfin_ok hfin) (fun a => rfl) (fun hv h a b u hu => ?_) (fun a b h => ⟨rfl, by rw [sP_wP, if_neg h], rfl⟩) (fun ad => ?_) (fun ad => ?_) (fun ad => ?_) kk
  · rw [sP_wP] at hu
    by_cases h9 : a = t ∧ b = kf
    · rw [if_pos h9] at hu
      rw [hu] at hv
      exact hv
    · rw [if_neg h9] at hu
      exact h a b u hu
  · rw [fvl_R hy, sP_wP, if_pos ⟨rfl, rfl⟩, cv_rf]
  · rw [cv_rf]
    cases e : oty c kf <;> rw [e] at hy <;> first | (cases v <;> rfl) | cases hy
  · rw [cv_rf]
    cases e : oty c kf <;> rw [e] at hy <;> first | (cases v <;> rfl) | cases hy
theorem V_putS {idx c kf t u : Nat} (hG : CX L9 G y cc mL ret hh rm) (d : decode cc pc = .ok (.putfield idx, 3)) (f : FL y.cls idx c kf) (hy : isR (oty c kf) = true) (hfin : nfin y c kf = true) (ht : t % 32 = c) (kk : V G Q (pc + 3) lo r (wP σ t kf (some u)) k n) : V G Q pc lo (.ref u :: .ref t :: r) σ k n := V_putP (v := some u) hG d f hy hfin ht kk
theorem V_putN {idx c kf t : Nat} (hG : CX L9 G y cc mL ret hh rm) (d : decode cc pc = .ok (.putfield idx, 3)) (f : FL y.cls idx c kf) (hy : isR (oty c kf) = true) (hfin : nfin y c kf = true) (ht : t % 32 = c) (kk : V G Q (pc + 3) lo r (wP σ t kf none) k n) : V G Q pc lo (.null :: .ref t :: r) σ k n := V_putP (v := none) hG d f hy hfin ht kk
theorem V_putJ {idx c kf t : Nat} {x : Int64} (hG : CX L9 G y cc mL ret hh rm) (d : decode cc pc = .ok (.putfield idx, 3)) (f : FL y.cls idx c kf) (hy : isJ (oty c kf) = true) (hfin : nfin y c kf = true) (ht : t % 32 = c) (kk : V G Q (pc + 3) lo r (wL σ t kf x) k n) : V G Q pc lo (.long x :: .ref t :: r) σ k n := by
  refine V_put (v := .long x) (σ' := wL σ t kf x) hG d f ht (nfin_ok hfin) (fun a => rfl) (fun _ h a b u hu => h a b u hu) (fun a b h => ⟨rfl, rfl, by rw [sL_wL, if_neg h]⟩) (fun ad => ?_) (fun ad => ?_) (fun ad => ?_) kk
  · rw [fvl_J hy, sL_wL, if_pos ⟨rfl, rfl⟩]; rfl
  · cases e : oty c kf <;> rw [e] at hy <;> first | rfl | cases hy
  · cases e : oty c kf <;> rw [e] at hy <;> first | rfl | cases hy

theorem in_aln {t j : Nat} (h : j < aln t) : vp_in (nI j) (aln t) := vp_in_nI h (Nat.lt_of_le_of_lt (aln_le t) (by decide))
theorem cl_aln {t j : Nat} (h : j < aln t) : (nI j).toNatClampNeg = j := nI_clamp (Nat.lt_trans h (Nat.lt_of_le_of_lt (aln_le t) (by decide)))
theorem in_arr {cI : ClassId} {t j : Nat} {f : Nat → Value} (h : j < aln t) : ¬ (nI j < 0 ∨ (arrV cI (aln t) f).slots.size ≤ (nI j).toNatClampNeg) := by rw [arrV_size]; exact in_aln h
theorem at_arr {cI : ClassId} {t j : Nat} {f : Nat → Value} (h : j < aln t) : (arrV cI (aln t) f).slots[(nI j).toNatClampNeg]? = some (f j) := by rw [cl_aln h, arrV_read _ _ h]

theorem V_iald {t j : Nat} {i : Int32} (hG : CX L9 G y cc mL ret hh rm) (d : decode cc pc = .ok (.iaload, 1)) (hy : aty (t % 32) = some .int) (hi : i = nI j) (hj : j < aln t) (kk : V G Q (pc + 1) lo (.int (sI σ t j) :: r) σ k n) : V G Q pc lo (.int i :: .ref t :: r) σ k n := by
  obtain ⟨l, p, e, R, s, m, args, below, meth, c', base, bS, D, cA, ad0, σ0⟩ := G
  obtain ⟨hx, hb, -, hown, hts, -, -, -, -, -, -, hEv⟩ := hG
  intro ad H locs ls hR hS hlen hl ho hs hx0
  have hta : sX σ t = true := oks_hd (oks_tl hs)
  obtain ⟨-, -, -, h4⟩ := hR.1 t hta
  subst hi
  have h9 := kk ad H locs ls hR hS hlen hl ho (oks_c trivial (oks_tl (oks_tl hs))) hx0
  exact W.iald hx hb (h4 _ hy) ((hEv.2.1 _ _ hy).1 _ _) (fun q => by cases q) (in_arr hj) (at_arr hj) rfl rfl d h9
theorem V_lald {t j : Nat} {i : Int32} (hG : CX L9 G y cc mL ret hh rm) (d : decode cc pc = .ok (.laload, 1)) (hy : aty (t % 32) = some .long) (hi : i = nI j) (hj : j < aln t) (kk : V G Q (pc + 1) lo (.long (sL σ t j) :: r) σ k n) : V G Q pc lo (.int i :: .ref t :: r) σ k n := by
  obtain ⟨l, p, e, R, s, m, args, below, meth, c', base, bS, D, cA, ad0, σ0⟩ := G
  obtain ⟨hx, hb, -, hown, hts, -, -, -, -, -, -, hEv⟩ := hG
  intro ad H locs ls hR hS hlen hl ho hs hx0
  have hta : sX σ t = true := oks_hd (oks_tl hs)
  obtain ⟨-, -, -, h4⟩ := hR.1 t hta
  subst hi
  have h9 := kk ad H locs ls hR hS hlen hl ho (oks_c trivial (oks_tl (oks_tl hs))) hx0
  exact W.lald hx hb (h4 _ hy) ((hEv.2.1 _ _ hy).1 _ _) (fun q => by cases q) (in_arr hj) (at_arr hj) rfl rfl d h9
theorem V_zald {t j : Nat} {i : Int32} (hG : CX L9 G y cc mL ret hh rm) (d : decode cc pc = .ok (.baload, 1)) (hy : aty (t % 32) = some .boolean) (hi : i = nI j) (hj : j < aln t) (kk : V G Q (pc + 1) lo (.int (sI σ t j) :: r) σ k n) : V G Q pc lo (.int i :: .ref t :: r) σ k n := by
  obtain ⟨l, p, e, R, s, m, args, below, meth, c', base, bS, D, cA, ad0, σ0⟩ := G
  obtain ⟨hx, hb, -, hown, hts, -, -, -, -, -, -, hEv⟩ := hG
  intro ad H locs ls hR hS hlen hl ho hs hx0
  have hta : sX σ t = true := oks_hd (oks_tl hs)
  obtain ⟨-, -, -, h4⟩ := hR.1 t hta
  subst hi
  have h9 := kk ad H locs ls hR hS hlen hl ho (oks_c trivial (oks_tl (oks_tl hs))) hx0
  exact W.zald hx hb (h4 _ hy) ((hEv.2.1 _ _ hy).1 _ _) (fun q => by cases q) (in_arr hj) (at_arr hj) rfl rfl d h9
theorem V_aaldP {t j : Nat} {i : Int32} {C : String} (hG : CX L9 G y cc mL ret hh rm) (d : decode cc pc = .ok (.aaload, 1)) (hy : aty (t % 32) = some (.object C)) (hi : i = nI j) (hj : j < aln t) (kk : V G Q (pc + 1) lo (va_rf (sP σ t j) :: r) σ k n) : V G Q pc lo (.int i :: .ref t :: r) σ k n := by
  obtain ⟨l, p, e, R, s, m, args, below, meth, c', base, bS, D, cA, ad0, σ0⟩ := G
  obtain ⟨hx, hb, -, hown, hts, -, -, -, -, -, -, hEv⟩ := hG
  intro ad H locs ls hR hS hlen hl ho hs hx0
  have hta : sX σ t = true := oks_hd (oks_tl hs)
  obtain ⟨-, -, -, h4⟩ := hR.1 t hta
  subst hi
  have h9 := kk ad H locs ls hR hS hlen hl ho (oks_c (okv_rf (hR.2.2.1 t j)) (oks_tl (oks_tl hs))) hx0
  rw [List.map_cons, cv_rf] at h9
  exact W.aald hx hb (h4 _ hy) ((hEv.2.1 _ _ hy).1 _ _) rfl (fun q => by cases q) (in_arr hj) (at_arr hj) rfl rfl d h9
theorem V_aald {t j u : Nat} {i : Int32} {C : String} (hG : CX L9 G y cc mL ret hh rm) (d : decode cc pc = .ok (.aaload, 1)) (hy : aty (t % 32) = some (.object C)) (hi : i = nI j) (hj : j < aln t) (hp : sP σ t j = some u) (kk : V G Q (pc + 1) lo (.ref u :: r) σ k n) : V G Q pc lo (.int i :: .ref t :: r) σ k n := by
  refine V_aaldP hG d hy hi hj ?_
  rw [hp]; exact kk
theorem V_alen {t : Nat} {ty : FieldType} (hG : CX L9 G y cc mL ret hh rm) (d : decode cc pc = .ok (.arraylength, 1)) (hy : aty (t % 32) = some ty) (kk : V G Q (pc + 1) lo (.int (nI (aln t)) :: r) σ k n) : V G Q pc lo (.ref t :: r) σ k n := by
  obtain ⟨l, p, e, R, s, m, args, below, meth, c', base, bS, D, cA, ad0, σ0⟩ := G
  obtain ⟨hx, hb, -, hown, hts, -, -, -, -, -, -, hEv⟩ := hG
  intro ad H locs ls hR hS hlen hl ho hs hx0
  have hta : sX σ t = true := oks_hd hs
  obtain ⟨-, -, -, h4⟩ := hR.1 t hta
  exact W.alen hx hb (h4 _ hy) ((hEv.2.1 _ _ hy).1 _ _) (by rw [arrV_size]; rfl) rfl rfl d (kk ad H locs ls hR hS hlen hl ho (oks_ci (oks_tl hs)) hx0)
/-- a store into a row -/
theorem V_ast {t j : Nat} {v : Value} {σ' : Sg} {ty : FieldType} (hG : CX L9 G y cc mL ret hh rm) (hy : aty (t % 32) = some ty)
    (hX : ∀ a, sX σ' a = sX σ a) (hcl : okv σ v → (∀ a b u, sP σ a b = some u → sX σ u = true) → ∀ a b u, sP σ' a b = some u → sX σ u = true) (ho : ∀ a b, ¬ (a = t ∧ b = j) → sI σ' a b = sI σ a b ∧ sP σ' a b = sP σ a b ∧ sL σ' a b = sL σ a b) (hv : ∀ ad, fvl ad σ' t j ty = cv ad v)
    (hW : ∀ {p : Program} {l : Launch} {e : Jvm.Env} {R : Room} {s : State} {m : MethodId} {args : Array Value} {below : List Frame} {meth : Method} {c : Code} {H : Heap} {locs : List Loc} {ls : Array Slot} {cI : ClassId} {f : Nat → Value} {D : va_G} {cA : Nat → ClassId} {base bS : Nat} (ad : Nat → Nat), p.tables.exec = Jvm.exec → c.code = cc → H[ad t]? = some (arrV cI (aln t) f) → ArrOfT s cI ty → va_RA s cI ty → Ev base D cA s → Rp D cA base bS ad σ H → oks σ (v :: .int (nI j) :: .ref t :: r) →
      (∀ H' : Heap, H'[ad t]? = some ((arrV cI (aln t) f).setSlot (nI j).toNatClampNeg (cv ad v)) → H'.size = H.size → (∀ q, q ≠ ad t → H'[q]? = H[q]?) → W p l e R s m args below meth c H' (locs ++ [⟨ad t, (nI j).toNatClampNeg⟩]) k n Q (F0 m (pc + 1) ls (r.map (cv ad)))) → W p l e R s m args below meth c H locs k n Q (F0 m pc ls ((v :: .int (nI j) :: .ref t :: r).map (cv ad))))
    (hj : j < aln t) (kk : V G Q (pc + 1) lo r σ' k n) : V G Q pc lo (v :: .int (nI j) :: .ref t :: r) σ k n := by
  obtain ⟨l, p, e, R, s, m, args, below, meth, c', base, bS, D, cA, ad0, σ0⟩ := G
  obtain ⟨hx, hb, -, hown, hts, -, -, -, -, -, -, hEv⟩ := hG
  intro ad H locs ls hR hS hlen hl hol hs hx0
  have hta : sX σ t = true := oks_hd (oks_tl (oks_tl hs))
  obtain ⟨h1, h2, -, h4⟩ := hR.1 t hta
  have hbase : base ≤ ad t := by
    rcases h2 with h2 | h2
    · exact h2
    · rw [h2] at hy; cases hy
  refine hW ad hx hb (h4 _ hy) (hEv.2.1 _ _ hy).1 (hEv.2.1 _ _ hy).2 hEv hR hs fun H' e1 e2 e3 => ?_
  refine kk ad H' _ ls ?_ (hS.put e2 e3 hbase) hlen hl (okl_mono hol fun a ha => by rw [hX]; exact ha) (oks_mono (oks_tl (oks_tl (oks_tl hs))) fun a ha => by rw [hX]; exact ha) (fun a ha => ⟨by rw [hX]; exact (hx0 a ha).1, (hx0 a ha).2⟩)
  refine Rp_upd hR hta hX (hcl (oks_hd hs) hR.2.2.1) (fun u hu9 k9 ty => ?_) e2 e3 (fun r8 hr8 => ?_) (fun ty9 hty9 => ?_)
  · obtain ⟨a1, a2, a3⟩ := ho u k9 (fun z => hu9 z.1)
    exact fvl_same ty a1 a2 a3
  · rw [aty_vcl hy] at hr8; cases hr8
  · cases hy.symm.trans hty9
    rw [e1, arrV_store, cl_aln hj]
    congr 2
    funext q
    unfold updV
    by_cases eq : q = j
    · rw [if_pos eq, eq, hv]
    · rw [if_neg eq]
      obtain ⟨a1, a2, a3⟩ := ho t q (fun z => eq z.2)
      exact (fvl_same _ a1 a2 a3).symm
theorem V_iast {t j : Nat} {i x : Int32} (hG : CX L9 G y cc mL ret hh rm) (d : decode cc pc = .ok (.iastore, 1)) (hy : aty (t % 32) = some .int) (hi : i = nI j) (hj : j < aln t) (kk : V G Q (pc + 1) lo r (wI σ t j x) k n) : V G Q pc lo (.int x :: .int i :: .ref t :: r) σ k n := by
  subst hi
  refine V_ast (v := .int x) (σ' := wI σ t j x) hG hy (fun a => rfl) (fun _ h a b u hu => h a b u hu) (fun a b h => ⟨by rw [sI_wI, if_neg h], rfl, rfl⟩) (fun ad => by rw [fvl_I rfl, sI_wI, if_pos ⟨rfl, rfl⟩]; rfl) (fun ad hx hb hc ha _ _ _ _ h => ?_) hj kk
  exact W.iast hx hb hc (ha _ _) (fun q => by cases q) (in_arr hj) rfl rfl d h
theorem V_zast {t j : Nat} {i x : Int32} (hG : CX L9 G y cc mL ret hh rm) (d : decode cc pc = .ok (.bastore, 1)) (hy : aty (t % 32) = some .boolean) (hz : b01 x) (hi : i = nI j) (hj : j < aln t) (kk : V G Q (pc + 1) lo r (wI σ t j x) k n) : V G Q pc lo (.int x :: .int i :: .ref t :: r) σ k n := by
  subst hi
  refine V_ast (v := .int x) (σ' := wI σ t j x) hG hy (fun a => rfl) (fun _ h a b u hu => h a b u hu) (fun a b h => ⟨by rw [sI_wI, if_neg h], rfl, rfl⟩) (fun ad => by rw [fvl_I rfl, sI_wI, if_pos ⟨rfl, rfl⟩]; rfl) (fun ad hx hb hc ha _ _ _ _ h => ?_) hj kk
  exact W.zast hx hb hc (ha _ _) (fun q => by cases q) (in_arr hj) rfl rfl d (by rw [nar_b hz]; exact h)
theorem V_last {t j : Nat} {i : Int32} {x : Int64} (hG : CX L9 G y cc mL ret hh rm) (d : decode cc pc = .ok (.lastore, 1)) (hy : aty (t % 32) = some .long) (hi : i = nI j) (hj : j < aln t) (kk : V G Q (pc + 1) lo r (wL σ t j x) k n) : V G Q pc lo (.long x :: .int i :: .ref t :: r) σ k n := by
  subst hi
  refine V_ast (v := .long x) (σ' := wL σ t j x) hG hy (fun a => rfl) (fun _ h a b u hu => h a b u hu) (fun a b h => ⟨rfl, rfl, by rw [sL_wL, if_neg h]⟩) (fun ad => by rw [fvl_J rfl, sL_wL, if_pos ⟨rfl, rfl⟩]; rfl) (fun ad hx hb hc ha _ _ _ _ h => ?_) hj kk
  exact W.last hx hb hc (ha _ _) (fun q => by cases q) (in_arr hj) rfl rfl d h
theorem V_aast {t j u : Nat} {i : Int32} {r9 : vw_C} (hG : CX L9 G y cc mL ret hh rm) (d : decode cc pc = .ok (.aastore, 1)) (hy : aty (t % 32) = some (.object r9.1)) (hu : vwCl[u % 32]? = some r9) (hi : i = nI j) (hj : j < aln t) (kk : V G Q (pc + 1) lo r (wP σ t j (some u)) k n) : V G Q pc lo (.ref u :: .int i :: .ref t :: r) σ k n := by
  subst hi
  refine V_ast (v := .ref u) (σ' := wP σ t j (some u)) hG hy (fun a => rfl) (fun hv h a b w hw => ?_) (fun a b h => ⟨rfl, by rw [sP_wP, if_neg h], rfl⟩) (fun ad => by rw [fvl_R rfl, sP_wP, if_pos ⟨rfl, rfl⟩]; rfl) (fun {_ _ _ _ s} {_ _ _ _ _ _ _ _ _ _ _ _ _ _} ad hx hb hc ha hra hE hR hs h => ?_) hj kk
  · rw [sP_wP] at hw
    by_cases h9 : a = t ∧ b = j
    · rw [if_pos h9] at hw
      cases hw
      exact hv
    · rw [if_neg h9] at hw
      exact h a b w hw
  · obtain ⟨-, -, h3, -⟩ := hR.1 u (oks_hd hs)
    obtain ⟨cellV, g1, g2, g3, -⟩ := h3 r9 hu
    have hcls := (hE.1 _ _ hu).2
    obtain ⟨kA, comp, k1, k2, k3, -⟩ := hra
    have hcomp : comp = _ := Option.some.inj (k3.symm.trans hcls.1)
    subst hcomp
    obtain ⟨kC, hkC, -⟩ := hcls.2
    have hin := in_arr (cI := 0) (f := fun _ => .null) hj
    exact W.aast hx hb hc (fun q h => by cases h) (fun h => by cases h) k1 k2 rfl hkC ⟨fun q => hin (Or.inl q), by rw [arrV_size, cl_aln hj]; exact hj⟩ g1 (fun q h => by rw [g3] at h; cases h) (by rw [g2]; exact hkC) (by rw [g2]; exact va_assign hcls) rfl rfl d h
end HP
