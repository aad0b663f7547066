/-! From the entry to the walk. -/
/-! THE CLAIM OUT OF ONE WALK OF THE LAW'S BODY. Your part is whole_start (and what it stands on); all else here is the same for every law, but numbers. -/
def R_law : String := "MillraceLaw"
def lw_P (b : Addr) (xs : List Int32) (args : Array Value) (s : State) : Prop := args = #[.ref b] ∧ s.IntsAt b xs ∧ xs.length ≤ 3584 ∧ (Jvm.Cond.and given_1 narrow_1).before args s = true
def lw_Q (_ : Array Value) (s : State) (o : Outcome) (t : State) : Prop := o = .returned (some (.int 1)) ∧ Framed s o t [] 700684 6994052
def lw_Z (below : List Frame) (a : Array Value) (s : State) : State → Prop := fun t => ∃ o, t.status = .running ∧ Ended t below o ∧ lw_Q a s o t
/-- the law's own end, with 1 on the stack, nothing written that was there before, its room as the claim has it -/
theorem lw_ret {p : Program} {l : Launch} {e : Env} {s : State} {m : MethodId} {below : List Frame} {meth : Method} {c : Code} {b : Nat} (hx : p.tables.exec = Jvm.exec) (hb : c.code = code) (hr : meth.sig.returnType = ret) (hlocks : meth.locks = false) {pc : Nat} {H : Heap} {ls : Array Slot} (hdg : decode code pc = .ok (.ireturn, 1)) : W p l e room_1 s m #[Value.ref b] below meth c H [] 700684 6994052 (lw_Z below #[Value.ref b] s) (F0 m pc ls [.int 1]) := by
  intro T hT X
  obtain ⟨fs, hret, hrun, hended, hW, hframe⟩ := X.leave (v := some (.int 1)) (hlocks := hlocks) (fun h => by rw [hr] at h; cases h)
  have hmeth' : T.vm.method? m = some meth := X.method'
  refine ⟨T.setFrames fs, ?_, .returned (some (.int 1)), hrun, hended, rfl, ⟨_, rfl⟩, hW, hframe⟩
  jvm_step X.here [X.here.top, hx, hb, hdg, hmeth', hr, ret, narrow_b1]
  (try refine ⟨rfl, ?_⟩); (try refine ⟨rfl, ?_⟩)
  first | (intro acts; rw [hret _ acts rfl rfl rfl]) | rw [hret _ _ rfl rfl rfl]
  exact Steps.refl _
/-- what holds at the law's entry: the machine, the code, the tables' words (any of lw_tbl by 'hts w (by decide +kernel)'), the script of L ints xs at the cell b, what the Statement gives of the start (any of its parts by flat_of_before) -/
def lw_At (p : Program) (s : State) (m : MethodId) (meth : Method) (c : Code) (b L : Nat) (xs : Nat → Int32) : Prop :=
  p.tables.exec = Jvm.exec ∧ c.code = code ∧ meth.sig.returnType = ret ∧ c.maxLocals = 7 ∧ s.vm.findClass R_law = some m.cls ∧ (∀ w ∈ lw_tbl, w.before #[Value.ref b] s = true) ∧ va_X b L xs s s.heap ∧ b < s.heap.size ∧ meth.locks = false ∧ (Jvm.Cond.and given_1 narrow_1).before #[Value.ref b] s = true
def sg0 : Sg := (fun _ _ => 0, fun _ _ => none, fun _ _ => 0, fun t => t == 25)
theorem arr_of {s : State} {ty : FieldType} {args : Array Value} (h : (Cond.arrayClass ty).before args s = true) (hp : ∀ C, ty ≠ .object C) : ∃ cA, ArrOfT s cA ty ∧ va_RA s cA ty := by
  obtain ⟨cA, kA, comp, h1, h2, h3⟩ := Cond.arrayClass_spec h
  refine ⟨cA, fun N z => ⟨(fun k h => by cases h), kA, h2, comp, h3⟩, ?_⟩
  cases ty <;> first | exact h1 | exact absurd rfl (hp _)
theorem arr_over {s : State} {C : String} {args : Array Value} (h : (Cond.arrayOver (.object C)).before args s = true) : ∃ cA, ArrOfT s cA (.object C) ∧ va_RA s cA (.object C) := by
  obtain ⟨comp, cA, kA, h1, -, h2, h3, h4⟩ := Cond.arrayOver_spec h
  exact ⟨cA, fun N z => ⟨(fun k h => by cases h), kA, h2, comp, h3⟩, kA, comp, h2, h3, h1, h4⟩
theorem str_of {s : State} {own tx : String} {k : Nat} {args : Array Value} (h : (Cond.stringRef own k tx).before args s = true) : ∃ a, vk_R own k tx a s := by
  have hcur : ∃ cur, s.vm.findClass own = some cur := by
    have h1 := h
    simp only [Cond.before, Cond.holds, Cond.value] at h1
    cases hc : s.vm.findClass own with
    | none => simp [hc] at h1
    | some cur => exact ⟨cur, rfl⟩
  obtain ⟨cur, hcur⟩ := hcur
  obtain ⟨k9, cf, i, a, -, -, -, -, -, hev⟩ := Cond.stringRef_spec hcur h
  exact ⟨a, vk_R.of h hev⟩
set_option maxRecDepth 100000 in
set_option maxHeartbeats 4000000 in
theorem ev_start {s : State} {b : Nat} (hts : ∀ w ∈ lw_tbl, w.before #[Value.ref b] s = true) (hgv : (Jvm.Cond.and given_1 narrow_1).before #[Value.ref b] s = true) : ∃ (D : va_G) (cA : Nat → ClassId), Ev s.heap.size D cA s := by
  have hs := flat_of_before _ hgv
  have hg : ∀ w ∈ GW, w.before #[Value.ref b] s = true := fun w hw => hts w (List.mem_filter.mp hw).1
  have hA : ∀ a : Nat, a < s.heap.size → ¬ s.heap.size ≤ a := fun a h => Nat.not_le.mpr h
  have hcl : ∀ c : Nat, ∃ (cC : ClassId) (iS : Nat → Nat), ∀ q : vw_C, vwCl[c]? = some q → u_Kn s q.1 q.2.1 q.2.2 cC iS := by
    intro c
    by_cases hc : c < 11
    · have h9 : c = 0 ∨ c = 1 ∨ c = 2 ∨ c = 3 ∨ c = 4 ∨ c = 5 ∨ c = 6 ∨ c = 7 ∨ c = 8 ∨ c = 9 ∨ c = 10 := by omega
      rcases h9 with rfl | rfl | rfl | rfl | rfl | rfl | rfl | rfl | rfl | rfl | rfl
      · obtain ⟨cC, iS, h⟩ := u_known (C := RX0) (T := TX0) (N := 12) (n := 12) hg inGW0 (hts (.instantiable RX0 12) (List.mem_of_getElem? (i := 623) (by decide +kernel)))
        exact ⟨cC, iS, fun q hq => by cases hq; exact h⟩
      · obtain ⟨cC, iS, h⟩ := u_known (C := RX1) (T := TX1) (N := 7) (n := 7) hg inGW1 (hts (.instantiable RX1 7) (List.mem_of_getElem? (i := 83) (by decide +kernel)))
        exact ⟨cC, iS, fun q hq => by cases hq; exact h⟩
      · obtain ⟨cC, iS, h⟩ := u_known (C := RX2) (T := TX2) (N := 14) (n := 14) hg inGW2 (hts (.instantiable RX2 14) (List.mem_of_getElem? (i := 155) (by decide +kernel)))
        exact ⟨cC, iS, fun q hq => by cases hq; exact h⟩
      · obtain ⟨cC, iS, h⟩ := u_known (C := RX3) (T := TX3) (N := 3) (n := 3) hg inGW3 (hts (.instantiable RX3 3) (List.mem_of_getElem? (i := 401) (by decide +kernel)))
        exact ⟨cC, iS, fun q hq => by cases hq; exact h⟩
      · obtain ⟨cC, iS, h⟩ := u_known (C := RX4) (T := TX4) (N := 15) (n := 15) hg inGW4 (hts (.instantiable RX4 15) (List.mem_of_getElem? (i := 481) (by decide +kernel)))
        exact ⟨cC, iS, fun q hq => by cases hq; exact h⟩
      · obtain ⟨cC, iS, h⟩ := u_known (C := RX5) (T := TX5) (N := 3) (n := 3) hg inGW5 (hts (.instantiable RX5 3) (List.mem_of_getElem? (i := 432) (by decide +kernel)))
        exact ⟨cC, iS, fun q hq => by cases hq; exact h⟩
      · obtain ⟨cC, iS, h⟩ := u_known (C := RX6) (T := TX6) (N := 6) (n := 6) hg inGW6 (hts (.instantiable RX6 6) (List.mem_of_getElem? (i := 808) (by decide +kernel)))
        exact ⟨cC, iS, fun q hq => by cases hq; exact h⟩
      · obtain ⟨cC, iS, h⟩ := u_known (C := RX7) (T := TX7) (N := 7) (n := 7) hg inGW7 (hts (.instantiable RX7 7) (List.mem_of_getElem? (i := 555) (by decide +kernel)))
        exact ⟨cC, iS, fun q hq => by cases hq; exact h⟩
      · obtain ⟨cC, iS, h⟩ := u_known (C := RX8) (T := TX8) (N := 5) (n := 5) hg inGW8 (hts (.instantiable RX8 5) (List.mem_of_getElem? (i := 89) (by decide +kernel)))
        exact ⟨cC, iS, fun q hq => by cases hq; exact h⟩
      · obtain ⟨cC, iS, h⟩ := u_known (C := RX9) (T := TX9) (N := 6) (n := 6) hg inGW9 (hts (.instantiable RX9 6) (List.mem_of_getElem? (i := 73) (by decide +kernel)))
        exact ⟨cC, iS, fun q hq => by cases hq; exact h⟩
      · obtain ⟨cC, iS, h⟩ := u_known (C := RX10) (T := TX10) (N := 62) (n := 62) hg inGW10 (hts (.instantiable RX10 62) (List.mem_of_getElem? (i := 1175) (by decide +kernel)))
        exact ⟨cC, iS, fun q hq => by cases hq; exact h⟩
    · exact ⟨0, fun _ => 0, fun q hq => absurd (List.getElem?_eq_some_iff.mp hq).1 hc⟩
  obtain ⟨aI, hI⟩ := arr_of (ty := .int) (hts (.arrayClass .int) (List.mem_of_getElem? (i := 121) (by decide +kernel))) (fun C h => by cases h)
  obtain ⟨aJ, hJ⟩ := arr_of (ty := .long) (hts (.arrayClass .long) (List.mem_of_getElem? (i := 1368) (by decide +kernel))) (fun C h => by cases h)
  obtain ⟨aZ, hZ⟩ := arr_of (ty := .boolean) (hts (.arrayClass .boolean) (List.mem_of_getElem? (i := 1367) (by decide +kernel))) (fun C h => by cases h)
  obtain ⟨aBatch, hBatch⟩ := arr_over (hts (.arrayOver (.object "Millrace$Batch")) (List.mem_of_getElem? (i := 95) (by decide +kernel)))
  obtain ⟨aKind, hKind⟩ := arr_over (hts (.arrayOver (.object "Millrace$Kind")) (List.mem_of_getElem? (i := 81) (by decide +kernel)))
  obtain ⟨aLine, hLine⟩ := arr_over (hts (.arrayOver (.object "Millrace$Line")) (List.mem_of_getElem? (i := 161) (by decide +kernel)))
  obtain ⟨aMachine, hMachine⟩ := arr_over (hts (.arrayOver (.object "Millrace$Machine")) (List.mem_of_getElem? (i := 123) (by decide +kernel)))
  obtain ⟨aOperation, hOperation⟩ := arr_over (hts (.arrayOver (.object "Millrace$Operation")) (List.mem_of_getElem? (i := 163) (by decide +kernel)))
  obtain ⟨aOrder, hOrder⟩ := arr_over (hts (.arrayOver (.object "Millrace$Order")) (List.mem_of_getElem? (i := 97) (by decide +kernel)))
  obtain ⟨aPerson, hPerson⟩ := arr_over (hts (.arrayOver (.object "Millrace$Person")) (List.mem_of_getElem? (i := 125) (by decide +kernel)))
  have harr : ∀ c : Nat, ∃ cA : ClassId, ∀ ty : FieldType, aty c = some ty → ArrOfT s cA ty ∧ va_RA s cA ty := by
    intro c
    by_cases hc : 11 ≤ c ∧ c ≤ 24
    · have h9 : c = 11 ∨ c = 12 ∨ c = 13 ∨ c = 14 ∨ c = 15 ∨ c = 16 ∨ c = 17 ∨ c = 18 ∨ c = 19 ∨ c = 20 ∨ c = 21 ∨ c = 22 ∨ c = 23 ∨ c = 24 := by omega
      rcases h9 with rfl | rfl | rfl | rfl | rfl | rfl | rfl | rfl | rfl | rfl | rfl | rfl | rfl | rfl
      · exact ⟨aI, fun ty h => by cases h; exact hI⟩
      · exact ⟨aJ, fun ty h => by cases h; exact hJ⟩
      · exact ⟨aZ, fun ty h => by cases h; exact hZ⟩
      · exact ⟨aBatch, fun ty h => by cases h; exact hBatch⟩
      · exact ⟨aKind, fun ty h => by cases h; exact hKind⟩
      · exact ⟨aLine, fun ty h => by cases h; exact hLine⟩
      · exact ⟨aMachine, fun ty h => by cases h; exact hMachine⟩
      · exact ⟨aOperation, fun ty h => by cases h; exact hOperation⟩
      · exact ⟨aOrder, fun ty h => by cases h; exact hOrder⟩
      · exact ⟨aPerson, fun ty h => by cases h; exact hPerson⟩
      · exact ⟨aI, fun ty h => by cases h; exact hI⟩
      · exact ⟨aI, fun ty h => by cases h; exact hI⟩
      · exact ⟨aI, fun ty h => by cases h; exact hI⟩
      · exact ⟨aJ, fun ty h => by cases h; exact hJ⟩
    · refine ⟨0, fun ty h => ?_⟩
      exfalso
      unfold aty at h
      split at h <;> first | (cases h; done) | omega
  refine ⟨(fun c => (hcl c).choose, fun c => (hcl c).choose_spec.choose), fun c => (harr c).choose, fun c q hq => (hcl c).choose_spec.choose_spec q hq, fun c ty hty => (harr c).choose_spec ty hty, Nat.le_refl _, ?_, ?_, ?_, ?_, ?_, ?_, ?_, ?_⟩
  · exact vx_Zqof (hts (.laysStatic "java/lang/Throwable" "UNASSIGNED_STACK" "[Ljava/lang/StackTraceElement;") (List.mem_of_getElem? (i := 303) (by decide +kernel))) (hts (.initialized "java/lang/Throwable") (List.mem_of_getElem? (i := 58) (by decide +kernel))) (hs (.isRef (.static "java/lang/Throwable" "UNASSIGNED_STACK" "[Ljava/lang/StackTraceElement;")) (by decide +kernel)) hA
  · exact vx_Zqof (hts (.laysStatic "java/lang/Throwable" "SUPPRESSED_SENTINEL" "Ljava/util/List;") (List.mem_of_getElem? (i := 305) (by decide +kernel))) (hts (.initialized "java/lang/Throwable") (List.mem_of_getElem? (i := 58) (by decide +kernel))) (hs (.isRef (.static "java/lang/Throwable" "SUPPRESSED_SENTINEL" "Ljava/util/List;")) (by decide +kernel)) hA
  · exact va_Nw.of rfl (hts nestW (List.mem_of_getElem? (i := 84) (by decide +kernel)))
  · intro X hX
    rcases List.mem_cons.mp hX with rfl | hX
    · exact va_Nw.of rfl (hts (.castable "java/lang/IndexOutOfBoundsException" "java/lang/IndexOutOfBoundsException") (List.mem_of_getElem? (i := 278) (by decide +kernel)))
    rcases List.mem_cons.mp hX with rfl | hX
    · exact va_Nw.of rfl (hts (.castable "java/lang/IllegalArgumentException" "java/lang/IllegalArgumentException") (List.mem_of_getElem? (i := 352) (by decide +kernel)))
    rcases List.mem_cons.mp hX with rfl | hX
    · exact va_Nw.of rfl (hts (.castable "java/lang/IllegalStateException" "java/lang/IllegalStateException") (List.mem_of_getElem? (i := 371) (by decide +kernel)))
    cases hX
  · intro X hX Y hY hne
    rcases List.mem_cons.mp hX with rfl | hX
    · rcases List.mem_cons.mp hY with rfl | hY
      · exact absurd rfl hne
      rcases List.mem_cons.mp hY with rfl | hY
      · exact va_Nc.of (hs (.not (.castable "java/lang/IndexOutOfBoundsException" "java/lang/IllegalArgumentException")) (by decide +kernel))
      rcases List.mem_cons.mp hY with rfl | hY
      · exact va_Nc.of (hs (.not (.castable "java/lang/IndexOutOfBoundsException" "java/lang/IllegalStateException")) (by decide +kernel))
      cases hY
    rcases List.mem_cons.mp hX with rfl | hX
    · rcases List.mem_cons.mp hY with rfl | hY
      · exact va_Nc.of (hs (.not (.castable "java/lang/IllegalArgumentException" "java/lang/IndexOutOfBoundsException")) (by decide +kernel))
      rcases List.mem_cons.mp hY with rfl | hY
      · exact absurd rfl hne
      rcases List.mem_cons.mp hY with rfl | hY
      · exact va_Nc.of (hs (.not (.castable "java/lang/IllegalArgumentException" "java/lang/IllegalStateException")) (by decide +kernel))
      cases hY
    rcases List.mem_cons.mp hX with rfl | hX
    · rcases List.mem_cons.mp hY with rfl | hY
      · exact va_Nc.of (hs (.not (.castable "java/lang/IllegalStateException" "java/lang/IndexOutOfBoundsException")) (by decide +kernel))
      rcases List.mem_cons.mp hY with rfl | hY
      · exact va_Nc.of (hs (.not (.castable "java/lang/IllegalStateException" "java/lang/IllegalArgumentException")) (by decide +kernel))
      rcases List.mem_cons.mp hY with rfl | hY
      · exact absurd rfl hne
      cases hY
    cases hX
  · intro q hq
    rcases List.mem_cons.mp hq with rfl | hq
    · exact str_of (hts (.stringRef "Millrace" 333 "there is no such one") (List.mem_of_getElem? (i := 317) (by decide +kernel)))
    rcases List.mem_cons.mp hq with rfl | hq
    · exact str_of (hts (.stringRef "Millrace" 340 "an argument is out of range") (List.mem_of_getElem? (i := 359) (by decide +kernel)))
    rcases List.mem_cons.mp hq with rfl | hq
    · exact str_of (hts (.stringRef "Millrace" 345 "this cannot be done now") (List.mem_of_getElem? (i := 378) (by decide +kernel)))
    rcases List.mem_cons.mp hq with rfl | hq
    · exact str_of (hts (.stringRef "Millrace$Kind" 42 "the bill has 3 lines") (List.mem_of_getElem? (i := 422) (by decide +kernel)))
    rcases List.mem_cons.mp hq with rfl | hq
    · exact str_of (hts (.stringRef "Millrace$Kind" 50 "the route has 4 operations") (List.mem_of_getElem? (i := 458) (by decide +kernel)))
    rcases List.mem_cons.mp hq with rfl | hq
    · exact str_of (hts (.stringRef "Millrace$Floor" 36 "there are 6 machines") (List.mem_of_getElem? (i := 545) (by decide +kernel)))
    rcases List.mem_cons.mp hq with rfl | hq
    · exact str_of (hts (.stringRef "Millrace$Floor" 44 "there are 6 people") (List.mem_of_getElem? (i := 593) (by decide +kernel)))
    rcases List.mem_cons.mp hq with rfl | hq
    · exact str_of (hts (.stringRef "Millrace$Stock" 33 "60 batches were made") (List.mem_of_getElem? (i := 621) (by decide +kernel)))
    rcases List.mem_cons.mp hq with rfl | hq
    · exact str_of (hts (.stringRef "Millrace$Stock" 50 "there are 10 orders") (List.mem_of_getElem? (i := 844) (by decide +kernel)))
    cases hq
  · intro C hC
    rcases List.mem_cons.mp hC with rfl | hC
    · exact va_AO.of (hts (.arrayOver (.object "Millrace$Batch")) (List.mem_of_getElem? (i := 95) (by decide +kernel)))
    rcases List.mem_cons.mp hC with rfl | hC
    · exact va_AO.of (hts (.arrayOver (.object "Millrace$Kind")) (List.mem_of_getElem? (i := 81) (by decide +kernel)))
    rcases List.mem_cons.mp hC with rfl | hC
    · exact va_AO.of (hts (.arrayOver (.object "Millrace$Line")) (List.mem_of_getElem? (i := 161) (by decide +kernel)))
    rcases List.mem_cons.mp hC with rfl | hC
    · exact va_AO.of (hts (.arrayOver (.object "Millrace$Machine")) (List.mem_of_getElem? (i := 123) (by decide +kernel)))
    rcases List.mem_cons.mp hC with rfl | hC
    · exact va_AO.of (hts (.arrayOver (.object "Millrace$Operation")) (List.mem_of_getElem? (i := 163) (by decide +kernel)))
    rcases List.mem_cons.mp hC with rfl | hC
    · exact va_AO.of (hts (.arrayOver (.object "Millrace$Order")) (List.mem_of_getElem? (i := 97) (by decide +kernel)))
    rcases List.mem_cons.mp hC with rfl | hC
    · exact va_AO.of (hts (.arrayOver (.object "Millrace$Person")) (List.mem_of_getElem? (i := 125) (by decide +kernel)))
    cases hC
  · intro Y hY
    rcases List.mem_cons.mp hY with rfl | hY
    · exact va_Nw.of rfl (hts (.declares ⟨"java/lang/RuntimeException", "<init>", "(Ljava/lang/String;)V"⟩) (List.mem_of_getElem? (i := 280) (by decide +kernel)))
    rcases List.mem_cons.mp hY with rfl | hY
    · exact va_Nw.of rfl (hts (.declares ⟨"java/lang/Exception", "<init>", "(Ljava/lang/String;)V"⟩) (List.mem_of_getElem? (i := 282) (by decide +kernel)))
    rcases List.mem_cons.mp hY with rfl | hY
    · exact va_Nw.of rfl (hts (.declares ⟨"java/lang/Throwable", "<init>", "(Ljava/lang/String;)V"⟩) (List.mem_of_getElem? (i := 284) (by decide +kernel)))
    cases hY
set_option maxRecDepth 100000 in
set_option maxHeartbeats 4000000 in
theorem whole_of {p : Program} {e : Jvm.Env} {s : State} {m : MethodId} {below : List Frame} {meth : Method} {c : Code} (l : Launch) (hflags : l.flags = flags0) {b L : Nat} {xs : Nat → Int32} (hL : L ≤ 3584) (C0 : lw_At p s m meth c b L xs) (hname : meth.name = "law") (htab : c.exceptionTable.toList = []) (hp : wp_L_law L xs sg0) : W p l e room_1 s m #[Value.ref b] below meth c s.heap [] 0 0 (lw_Z below #[Value.ref b] s) (entryFrame m ([Value.ref b] : List Value).toArray 7) := by
  obtain ⟨hx, hb, hr, hml, hown, hts, hX, hbl, hlocks, hgv⟩ := C0
  obtain ⟨D, cA, hEv⟩ := ev_start hts hgv
  have hst : l.stackTraces = false := by unfold Launch.stackTraces; rw [hflags]; decide
  have hG : CX l (l, p, e, room_1, s, m, #[Value.ref b], below, meth, c, s.heap.size, b, D, cA, (fun _ => b), sg0) yL_law cL_law 7 (some .boolean) [] { frames := 13, cells := 700684, slots := 6994052, locals := 496 } :=
    ⟨hx, hb, hml, hown, fun w hw => hts w (List.mem_filter.mp hw).1, hlocks, ⟨rfl, hst⟩, hr, hname, htab, rfl, hEv⟩
  have hLX : LX (l, p, e, room_1, s, m, #[Value.ref b], below, meth, c, s.heap.size, b, D, cA, (fun _ => b), sg0) L xs := ⟨hX, hbl, hbl, by omega⟩
  have hret : HRT (l, p, e, room_1, s, m, #[Value.ref b], below, meth, c, s.heap.size, b, D, cA, (fun _ => b), sg0) (lw_Z below #[Value.ref b] s) := by
    intro pc lo σ k n d hk hn ad H locs ls hR hS hlen hl ho hs hx0
    refine va_forget (fun q hq => hS.2.2 q hq) ?_
    exact W.widen hk hn (lw_ret hx hb hr hlocks d)
  have h9 := wv_L_law hst hG hLX hret hp
  have hR : Rp D cA s.heap.size b (fun _ => b) sg0 s.heap := by
    refine ⟨fun t ht => ?_, fun t u ht hu _ => ?_, fun t k u h => (by cases h), rfl, rfl⟩
    · have e : t = 25 := by simpa [sX, sg0] using ht
      subst e
      exact ⟨hbl, Or.inr rfl, fun r hr => (by cases hr), fun ty hty => (by cases hty)⟩
    · have e1 : t = 25 := by simpa [sX, sg0] using ht
      have e2 : u = 25 := by simpa [sX, sg0] using hu
      rw [e1, e2]
  have hle := lv_entry ([Value.ref b]) (n := 7) (Nat.le_of_ble_eq_true rfl)
  rw [lg_entry_eq]
  exact h9 (fun _ => b) s.heap [] _ hR va_S.rf (hml.symm) (by rw [hml]; exact hle) (fun v hv => by
    rcases List.mem_cons.mp hv with h | hv
    · cases h; rfl
    · simp at hv) oks_nil (fun t ht => ⟨ht, rfl⟩)
