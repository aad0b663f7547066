/-! The law's loop. -/
theorem cg_I {W : (Rs → Sg → Prop) → Prop} {F G : Int32 → Sg → Prop} {p : String → Sg → Prop} (h : ∀ x σ, F x σ ↔ G x σ) : W (KI F p) ↔ W (KI G p) := by
  rw [show F = G from funext fun x => funext fun σ => propext (h x σ)]
theorem cg_V {W : (Rs → Sg → Prop) → Prop} {F G : Sg → Prop} {p : String → Sg → Prop} (h : ∀ σ, F σ ↔ G σ) : W (KV F p) ↔ W (KV G p) := by
  rw [show F = G from funext fun σ => propext (h σ)]
theorem law_01 {c : Prop} : (c → (0 : Int32) = 1) ↔ ¬ c := ⟨fun h z => absurd (h z) (by decide), fun h z => absurd z h⟩
theorem law_o (P : Nat → Prop) : (aty (tk 24 0 % 32) = some .long ∧ ∃ j, (0 : Int32) = nI j ∧ j < aln (tk 24 0) ∧ P j) ↔ P 0 := by
  rw [tkm 24 0 (by decide), al_24, ex_0 (by decide)]
  exact ⟨fun z => z.2.2, fun z => ⟨rfl, by decide, z⟩⟩
theorem law_10 (P : Prop) : (tk 10 0 % 32 = 10 ∧ P) ↔ P := ⟨fun z => z.2, fun z => ⟨tkm 10 0 (by decide), z⟩⟩
theorem law_9 (P : Prop) : (tk 9 0 % 32 = 9 ∧ P) ↔ P := ⟨fun z => z.2, fun z => ⟨tkm 9 0 (by decide), z⟩⟩
theorem law_lg {y z : Int64} {k : Prop} : ((lg_cmp y z = 0 → k) ∧ (¬ lg_cmp y z = 0 → (0 : Int32) = 1)) ↔ (y = z ∧ k) := by
  rw [law_01, Classical.not_not, lg_cmp_eq]
  exact ⟨fun h => ⟨h.2, h.1 h.2⟩, fun h => ⟨fun _ => h.2, h.1⟩⟩
theorem law_eq {t x : Int32} {k : Prop} : ((t = x → k) ∧ (¬ t = x → (0 : Int32) = 1)) ↔ (t = x ∧ k) := by
  rw [law_01, Classical.not_not]
  exact ⟨fun h => ⟨h.2, h.1 h.2⟩, fun h => ⟨fun _ => h.2, h.1⟩⟩
theorem law_pq {t x : Int32} {σ : Sg} {z : Int64} {k : Prop} : ((t = x → ((¬ x = 0 → k) ∧ (x = 0 → aty (tk 24 0 % 32) = some .long ∧ ∃ j, (0 : Int32) = nI j ∧ j < aln (tk 24 0) ∧ ((lg_cmp (sL σ (tk 24 0) j) z = 0 → k) ∧ (¬ lg_cmp (sL σ (tk 24 0) j) z = 0 → (0 : Int32) = 1))))) ∧ (¬ t = x → (0 : Int32) = 1)) ↔ (t = x ∧ (x = 0 → sL σ (tk 24 0) 0 = z) ∧ k) := by
  rw [law_o (fun j => (lg_cmp (sL σ (tk 24 0) j) z = 0 → k) ∧ (¬ lg_cmp (sL σ (tk 24 0) j) z = 0 → (0 : Int32) = 1)), law_eq, law_lg]
  refine and_congr_right fun _ => ?_
  by_cases c : x = 0
  · exact ⟨fun h => ⟨fun _ => (h.2 c).1, (h.2 c).2⟩, fun h => ⟨fun q => absurd c q, fun _ => ⟨h.1 c, h.2⟩⟩⟩
  · exact ⟨fun h => ⟨fun q => absurd q c, h.1 c⟩, fun h => ⟨fun _ => h.2, fun q => absurd q c⟩⟩
theorem law_pr {t x b : Int32} {σ : Sg} {k : Prop} : ((t = x → ((¬ x = 0 → k) ∧ (x = 0 → aty (tk 24 0 % 32) = some .long ∧ ∃ j, (0 : Int32) = nI j ∧ j < aln (tk 24 0) ∧ ((b = 0 → ((lg_cmp (sL σ (tk 24 0) j) 0 = 0 → k) ∧ (¬ lg_cmp (sL σ (tk 24 0) j) 0 = 0 → (0 : Int32) = 1))) ∧ (¬ b = 0 → ((lg_cmp (sL σ (tk 24 0) j) 1 = 0 → k) ∧ (¬ lg_cmp (sL σ (tk 24 0) j) 1 = 0 → (0 : Int32) = 1))))))) ∧ (¬ t = x → (0 : Int32) = 1)) ↔ (t = x ∧ (x = 0 → (b = 0 → sL σ (tk 24 0) 0 = 0) ∧ (¬ b = 0 → sL σ (tk 24 0) 0 = 1)) ∧ k) := by
  rw [law_o (fun j => (b = 0 → ((lg_cmp (sL σ (tk 24 0) j) 0 = 0 → k) ∧ (¬ lg_cmp (sL σ (tk 24 0) j) 0 = 0 → (0 : Int32) = 1))) ∧ (¬ b = 0 → ((lg_cmp (sL σ (tk 24 0) j) 1 = 0 → k) ∧ (¬ lg_cmp (sL σ (tk 24 0) j) 1 = 0 → (0 : Int32) = 1)))), law_eq, law_lg, law_lg]
  refine and_congr_right fun _ => ?_
  by_cases c : x = 0
  · by_cases cb : b = 0
    · exact ⟨fun h => ⟨fun _ => ⟨fun _ => ((h.2 c).1 cb).1, fun q => absurd cb q⟩, ((h.2 c).1 cb).2⟩, fun h => ⟨fun q => absurd c q, fun _ => ⟨fun _ => ⟨(h.1 c).1 cb, h.2⟩, fun q => absurd cb q⟩⟩⟩
    · exact ⟨fun h => ⟨fun _ => ⟨fun q => absurd q cb, fun _ => ((h.2 c).2 cb).1⟩, ((h.2 c).2 cb).2⟩, fun h => ⟨fun q => absurd c q, fun _ => ⟨fun q => absurd q cb, fun _ => ⟨(h.1 c).2 cb, h.2⟩⟩⟩⟩
  · exact ⟨fun h => ⟨fun q => absurd q c, h.1 c⟩, fun h => ⟨fun _ => h.2, fun q => absurd q c⟩⟩
theorem law_ix {i c L : Nat} {x : Int32} (hx : x = nI (i + c)) (hc : c ≤ 6) (h : i + 7 ≤ L) (hL : L ≤ 3584) (P : Nat → Prop) : (∃ j, x = nI j ∧ j < L ∧ P j) ↔ P (i + c) := by
  subst hx
  rw [ex_ix (by omega) (by omega)]
  exact ⟨fun z => z.2, fun z => ⟨by omega, z⟩⟩
theorem law_ix0 {i L : Nat} (h : i + 7 ≤ L) (hL : L ≤ 3584) (P : Nat → Prop) : (∃ j, nI i = nI j ∧ j < L ∧ P j) ↔ P i := law_ix (c := 0) rfl (by omega) h hL P
theorem law_e7 {i L : Nat} (hL : L ≤ 3584) (h2 : i ≤ 3591) : nI L - 7 < nI i ↔ ¬ i + 7 ≤ L := by
  rcases Nat.lt_or_ge L 7 with q | q
  · have h : ∀ n : Nat, n < 7 → (nI n - 7).toInt < 0 := by decide +kernel
    have h9 := h L q
    rw [Int32.lt_iff_toInt_lt, nI_toInt (by omega)]
    omega
  · rw [show (7 : Int32) = nI 7 from rfl, nI_sub q, nI_ltI (by omega) (by omega)]
    omega
def KL (L : Nat) (xs : Nat → Int32) (f i : Nat) (σ : Sg) : Prop := wp_L_law_23 L xs f (tk 9 0) (tk 10 0) (tk 24 0) (nI i + 7) σ
section LL
variable {L : Nat} {xs : Nat → Int32} {f i : Nat} {a : Sg} {M : MS}
theorem lwc_setBought (hL : L ≤ 3584) (c : i + 7 ≤ L) (R : Rel 0 a M) (zr : Zr M) (k9 : ∀ a' M', Rel 0 a' M' → (Zr M → Zr M') → KL L xs f i (put a' M')) : ∃ j2, ((nI i) + (1 : Int32)) = nI j2 ∧ j2 < L ∧ ∃ j3, ((nI i) + (2 : Int32)) = nI j3 ∧ j3 < L ∧ ∃ j4, ((nI i) + (3 : Int32)) = nI j4 ∧ j4 < L ∧ wp_L_setBought (some (tk 9 0)) (xs j2) (xs j3) (xs j4) (put a M) (KI (fun x6 σ5 => ∃ j7, ((nI i) + (1 : Int32)) = nI j7 ∧ j7 < L ∧ ∃ j8, ((nI i) + (2 : Int32)) = nI j8 ∧ j8 < L ∧ ∃ j9, ((nI i) + (3 : Int32)) = nI j9 ∧ j9 < L ∧ (tk 10 0) % 32 = 10 ∧ wp_X10_setBought (tk 10 0) (xs j7) (xs j8) (xs j9) σ5 (KV (fun σ10 => (tk 10 0) % 32 = 10 ∧ wp_X10_thrown (tk 10 0) σ10 (KI (fun x12 σ11 => ((x12 = x6 → (wp_L_law_2588 L xs (fun z0 z1 z2 z3 ζ => wp_L_law_23 L xs f z0 z1 z2 z3 ζ) (tk 9 0) (tk 10 0) (tk 24 0) (nI i) σ11)) ∧ (¬ x12 = x6 → (0 : Int32) = 1))) (fun _ _ => False))) (fun _ _ => False))) (fun _ _ => False)) := by
  have x1 := law_ix (i := i) (c := 1) (L := L) (nI_add i 1) (by omega) c hL
  have x2 := law_ix (i := i) (c := 2) (L := L) (nI_add i 2) (by omega) c hL
  have x3 := law_ix (i := i) (c := 3) (L := L) (nI_add i 3) (by omega) c hL
  have x4 := law_ix (i := i) (c := 4) (L := L) (nI_add i 4) (by omega) c hL
  have x5 := law_ix (i := i) (c := 5) (L := L) (nI_add i 5) (by omega) c hL
  have x6 := law_ix (i := i) (c := 6) (L := L) (nI_add i 6) (by omega) c hL
  simp only [show nI 1 = 1 from rfl, show nI 2 = 2 from rfl, show nI 3 = 3 from rfl, show nI 4 = 4 from rfl, show nI 5 = 5 from rfl, show nI 6 = 6 from rfl] at x1 x2 x3 x4 x5 x6
  refine (x1 _).mpr ?_
  refine (x2 _).mpr ?_
  refine (x3 _).mpr ?_
  refine (cg_I (W := fun P => wp_L_setBought (some (tk 9 0)) (xs (i + 1)) (xs (i + 2)) (xs (i + 3)) (put a M) P) (fun x σ => ?_)).mpr (opz_setBought R (xs (i + 1)) (xs (i + 2)) (xs (i + 3)) (KL L xs f i) k9)
  refine Iff.trans (x1 _) ?_
  refine Iff.trans (x2 _) ?_
  refine Iff.trans (x3 _) ?_
  refine Iff.trans (law_10 _) ?_
  refine cg_V (W := fun P => wp_X10_setBought (tk 10 0) (xs (i + 1)) (xs (i + 2)) (xs (i + 3)) σ P) (fun σ1 => ?_)
  refine Iff.trans (law_10 _) ?_
  refine cg_I (W := fun P => wp_X10_thrown (tk 10 0) σ1 P) (fun t σ2 => ?_)
  exact law_eq
theorem lwc_addLine (hL : L ≤ 3584) (c : i + 7 ≤ L) (R : Rel 0 a M) (zr : Zr M) (k9 : ∀ a' M', Rel 0 a' M' → (Zr M → Zr M') → KL L xs f i (put a' M')) : ∃ j13, ((nI i) + (1 : Int32)) = nI j13 ∧ j13 < L ∧ ∃ j14, ((nI i) + (2 : Int32)) = nI j14 ∧ j14 < L ∧ ∃ j15, ((nI i) + (3 : Int32)) = nI j15 ∧ j15 < L ∧ ∃ j16, ((nI i) + (4 : Int32)) = nI j16 ∧ j16 < L ∧ wp_L_addLine (some (tk 9 0)) (xs j13) (xs j14) (xs j15) (xs j16) (some (tk 24 0)) (put a M) (KI (fun x18 σ17 => ∃ j19, ((nI i) + (1 : Int32)) = nI j19 ∧ j19 < L ∧ ∃ j20, ((nI i) + (2 : Int32)) = nI j20 ∧ j20 < L ∧ ∃ j21, ((nI i) + (3 : Int32)) = nI j21 ∧ j21 < L ∧ ∃ j22, ((nI i) + (4 : Int32)) = nI j22 ∧ j22 < L ∧ (tk 10 0) % 32 = 10 ∧ wp_X10_addLine (tk 10 0) (xs j19) (xs j20) (xs j21) (xs j22) σ17 (KI (fun x24 σ23 => (tk 10 0) % 32 = 10 ∧ wp_X10_thrown (tk 10 0) σ23 (KI (fun x26 σ25 => ((x26 = x18 → ((¬ x18 = 0 → (wp_L_law_349 L xs (fun z0 z1 z2 z3 ζ => wp_L_law_23 L xs f z0 z1 z2 z3 ζ) (tk 9 0) (tk 10 0) (tk 24 0) (nI i) σ25)) ∧ (x18 = 0 → aty ((tk 24 0) % 32) = some .long ∧ ∃ j27, (0 : Int32) = nI j27 ∧ j27 < aln (tk 24 0) ∧ (((lg_cmp (sL σ25 (tk 24 0) j27) (Int32.toInt64 x24)) = 0 → (wp_L_law_349 L xs (fun z0 z1 z2 z3 ζ => wp_L_law_23 L xs f z0 z1 z2 z3 ζ) (tk 9 0) (tk 10 0) (tk 24 0) (nI i) σ25)) ∧ (¬ (lg_cmp (sL σ25 (tk 24 0) j27) (Int32.toInt64 x24)) = 0 → (0 : Int32) = 1))))) ∧ (¬ x26 = x18 → (0 : Int32) = 1))) (fun _ _ => False))) (fun _ _ => False))) (fun _ _ => False)) := by
  have x1 := law_ix (i := i) (c := 1) (L := L) (nI_add i 1) (by omega) c hL
  have x2 := law_ix (i := i) (c := 2) (L := L) (nI_add i 2) (by omega) c hL
  have x3 := law_ix (i := i) (c := 3) (L := L) (nI_add i 3) (by omega) c hL
  have x4 := law_ix (i := i) (c := 4) (L := L) (nI_add i 4) (by omega) c hL
  have x5 := law_ix (i := i) (c := 5) (L := L) (nI_add i 5) (by omega) c hL
  have x6 := law_ix (i := i) (c := 6) (L := L) (nI_add i 6) (by omega) c hL
  simp only [show nI 1 = 1 from rfl, show nI 2 = 2 from rfl, show nI 3 = 3 from rfl, show nI 4 = 4 from rfl, show nI 5 = 5 from rfl, show nI 6 = 6 from rfl] at x1 x2 x3 x4 x5 x6
  refine (x1 _).mpr ?_
  refine (x2 _).mpr ?_
  refine (x3 _).mpr ?_
  refine (x4 _).mpr ?_
  refine (cg_I (W := fun P => wp_L_addLine (some (tk 9 0)) (xs (i + 1)) (xs (i + 2)) (xs (i + 3)) (xs (i + 4)) (some (tk 24 0)) (put a M) P) (fun x σ => ?_)).mpr (opz_addLine R (xs (i + 1)) (xs (i + 2)) (xs (i + 3)) (xs (i + 4)) (KL L xs f i) k9)
  refine Iff.trans (x1 _) ?_
  refine Iff.trans (x2 _) ?_
  refine Iff.trans (x3 _) ?_
  refine Iff.trans (x4 _) ?_
  refine Iff.trans (law_10 _) ?_
  refine cg_I (W := fun P => wp_X10_addLine (tk 10 0) (xs (i + 1)) (xs (i + 2)) (xs (i + 3)) (xs (i + 4)) σ P) (fun b σ1 => ?_)
  refine Iff.trans (law_10 _) ?_
  refine cg_I (W := fun P => wp_X10_thrown (tk 10 0) σ1 P) (fun t σ2 => ?_)
  exact law_pq
theorem lwc_addOperation (hL : L ≤ 3584) (c : i + 7 ≤ L) (R : Rel 0 a M) (zr : Zr M) (k9 : ∀ a' M', Rel 0 a' M' → (Zr M → Zr M') → KL L xs f i (put a' M')) : ∃ j28, ((nI i) + (1 : Int32)) = nI j28 ∧ j28 < L ∧ ∃ j29, ((nI i) + (2 : Int32)) = nI j29 ∧ j29 < L ∧ ∃ j30, ((nI i) + (3 : Int32)) = nI j30 ∧ j30 < L ∧ ∃ j31, ((nI i) + (4 : Int32)) = nI j31 ∧ j31 < L ∧ wp_L_addOperation (some (tk 9 0)) (xs j28) (xs j29) (xs j30) (xs j31) (some (tk 24 0)) (put a M) (KI (fun x33 σ32 => ∃ j34, ((nI i) + (1 : Int32)) = nI j34 ∧ j34 < L ∧ ∃ j35, ((nI i) + (2 : Int32)) = nI j35 ∧ j35 < L ∧ ∃ j36, ((nI i) + (3 : Int32)) = nI j36 ∧ j36 < L ∧ ∃ j37, ((nI i) + (4 : Int32)) = nI j37 ∧ j37 < L ∧ (tk 10 0) % 32 = 10 ∧ wp_X10_addOperation (tk 10 0) (xs j34) (xs j35) (xs j36) (xs j37) σ32 (KI (fun x39 σ38 => (tk 10 0) % 32 = 10 ∧ wp_X10_thrown (tk 10 0) σ38 (KI (fun x41 σ40 => ((x41 = x33 → ((¬ x33 = 0 → (wp_L_law_441 L xs (fun z0 z1 z2 z3 ζ => wp_L_law_23 L xs f z0 z1 z2 z3 ζ) (tk 9 0) (tk 10 0) (tk 24 0) (nI i) σ40)) ∧ (x33 = 0 → aty ((tk 24 0) % 32) = some .long ∧ ∃ j42, (0 : Int32) = nI j42 ∧ j42 < aln (tk 24 0) ∧ (((lg_cmp (sL σ40 (tk 24 0) j42) (Int32.toInt64 x39)) = 0 → (wp_L_law_441 L xs (fun z0 z1 z2 z3 ζ => wp_L_law_23 L xs f z0 z1 z2 z3 ζ) (tk 9 0) (tk 10 0) (tk 24 0) (nI i) σ40)) ∧ (¬ (lg_cmp (sL σ40 (tk 24 0) j42) (Int32.toInt64 x39)) = 0 → (0 : Int32) = 1))))) ∧ (¬ x41 = x33 → (0 : Int32) = 1))) (fun _ _ => False))) (fun _ _ => False))) (fun _ _ => False)) := by
  have x1 := law_ix (i := i) (c := 1) (L := L) (nI_add i 1) (by omega) c hL
  have x2 := law_ix (i := i) (c := 2) (L := L) (nI_add i 2) (by omega) c hL
  have x3 := law_ix (i := i) (c := 3) (L := L) (nI_add i 3) (by omega) c hL
  have x4 := law_ix (i := i) (c := 4) (L := L) (nI_add i 4) (by omega) c hL
  have x5 := law_ix (i := i) (c := 5) (L := L) (nI_add i 5) (by omega) c hL
  have x6 := law_ix (i := i) (c := 6) (L := L) (nI_add i 6) (by omega) c hL
  simp only [show nI 1 = 1 from rfl, show nI 2 = 2 from rfl, show nI 3 = 3 from rfl, show nI 4 = 4 from rfl, show nI 5 = 5 from rfl, show nI 6 = 6 from rfl] at x1 x2 x3 x4 x5 x6
  refine (x1 _).mpr ?_
  refine (x2 _).mpr ?_
  refine (x3 _).mpr ?_
  refine (x4 _).mpr ?_
  refine (cg_I (W := fun P => wp_L_addOperation (some (tk 9 0)) (xs (i + 1)) (xs (i + 2)) (xs (i + 3)) (xs (i + 4)) (some (tk 24 0)) (put a M) P) (fun x σ => ?_)).mpr (opz_addOperation R (xs (i + 1)) (xs (i + 2)) (xs (i + 3)) (xs (i + 4)) (KL L xs f i) k9)
  refine Iff.trans (x1 _) ?_
  refine Iff.trans (x2 _) ?_
  refine Iff.trans (x3 _) ?_
  refine Iff.trans (x4 _) ?_
  refine Iff.trans (law_10 _) ?_
  refine cg_I (W := fun P => wp_X10_addOperation (tk 10 0) (xs (i + 1)) (xs (i + 2)) (xs (i + 3)) (xs (i + 4)) σ P) (fun b σ1 => ?_)
  refine Iff.trans (law_10 _) ?_
  refine cg_I (W := fun P => wp_X10_thrown (tk 10 0) σ1 P) (fun t σ2 => ?_)
  exact law_pq
theorem lwc_setStore (hL : L ≤ 3584) (c : i + 7 ≤ L) (R : Rel 0 a M) (zr : Zr M) (k9 : ∀ a' M', Rel 0 a' M' → (Zr M → Zr M') → KL L xs f i (put a' M')) : ∃ j43, ((nI i) + (1 : Int32)) = nI j43 ∧ j43 < L ∧ ∃ j44, ((nI i) + (2 : Int32)) = nI j44 ∧ j44 < L ∧ wp_L_setStore (some (tk 9 0)) (xs j43) (xs j44) (some (tk 24 0)) (put a M) (KI (fun x46 σ45 => ∃ j47, ((nI i) + (1 : Int32)) = nI j47 ∧ j47 < L ∧ ∃ j48, ((nI i) + (2 : Int32)) = nI j48 ∧ j48 < L ∧ (tk 10 0) % 32 = 10 ∧ wp_X10_setStore (tk 10 0) (xs j47) (xs j48) σ45 (KI (fun x50 σ49 => (tk 10 0) % 32 = 10 ∧ wp_X10_thrown (tk 10 0) σ49 (KI (fun x52 σ51 => ((x52 = x46 → ((¬ x46 = 0 → (wp_L_law_509 L xs (fun z0 z1 z2 z3 ζ => wp_L_law_23 L xs f z0 z1 z2 z3 ζ) (tk 9 0) (tk 10 0) (tk 24 0) (nI i) σ51)) ∧ (x46 = 0 → aty ((tk 24 0) % 32) = some .long ∧ ∃ j53, (0 : Int32) = nI j53 ∧ j53 < aln (tk 24 0) ∧ (((lg_cmp (sL σ51 (tk 24 0) j53) (Int32.toInt64 x50)) = 0 → (wp_L_law_509 L xs (fun z0 z1 z2 z3 ζ => wp_L_law_23 L xs f z0 z1 z2 z3 ζ) (tk 9 0) (tk 10 0) (tk 24 0) (nI i) σ51)) ∧ (¬ (lg_cmp (sL σ51 (tk 24 0) j53) (Int32.toInt64 x50)) = 0 → (0 : Int32) = 1))))) ∧ (¬ x52 = x46 → (0 : Int32) = 1))) (fun _ _ => False))) (fun _ _ => False))) (fun _ _ => False)) := by
  have x1 := law_ix (i := i) (c := 1) (L := L) (nI_add i 1) (by omega) c hL
  have x2 := law_ix (i := i) (c := 2) (L := L) (nI_add i 2) (by omega) c hL
  have x3 := law_ix (i := i) (c := 3) (L := L) (nI_add i 3) (by omega) c hL
  have x4 := law_ix (i := i) (c := 4) (L := L) (nI_add i 4) (by omega) c hL
  have x5 := law_ix (i := i) (c := 5) (L := L) (nI_add i 5) (by omega) c hL
  have x6 := law_ix (i := i) (c := 6) (L := L) (nI_add i 6) (by omega) c hL
  simp only [show nI 1 = 1 from rfl, show nI 2 = 2 from rfl, show nI 3 = 3 from rfl, show nI 4 = 4 from rfl, show nI 5 = 5 from rfl, show nI 6 = 6 from rfl] at x1 x2 x3 x4 x5 x6
  refine (x1 _).mpr ?_
  refine (x2 _).mpr ?_
  refine (cg_I (W := fun P => wp_L_setStore (some (tk 9 0)) (xs (i + 1)) (xs (i + 2)) (some (tk 24 0)) (put a M) P) (fun x σ => ?_)).mpr (opz_setStore R (xs (i + 1)) (xs (i + 2)) (KL L xs f i) k9)
  refine Iff.trans (x1 _) ?_
  refine Iff.trans (x2 _) ?_
  refine Iff.trans (law_10 _) ?_
  refine cg_I (W := fun P => wp_X10_setStore (tk 10 0) (xs (i + 1)) (xs (i + 2)) σ P) (fun b σ1 => ?_)
  refine Iff.trans (law_10 _) ?_
  refine cg_I (W := fun P => wp_X10_thrown (tk 10 0) σ1 P) (fun t σ2 => ?_)
  exact law_pq
theorem lwc_setQueue (hL : L ≤ 3584) (c : i + 7 ≤ L) (R : Rel 0 a M) (zr : Zr M) (k9 : ∀ a' M', Rel 0 a' M' → (Zr M → Zr M') → KL L xs f i (put a' M')) : ∃ j54, ((nI i) + (1 : Int32)) = nI j54 ∧ j54 < L ∧ ∃ j55, ((nI i) + (2 : Int32)) = nI j55 ∧ j55 < L ∧ wp_L_setQueue (some (tk 9 0)) (xs j54) (xs j55) (some (tk 24 0)) (put a M) (KI (fun x57 σ56 => ∃ j58, ((nI i) + (1 : Int32)) = nI j58 ∧ j58 < L ∧ ∃ j59, ((nI i) + (2 : Int32)) = nI j59 ∧ j59 < L ∧ (tk 10 0) % 32 = 10 ∧ wp_X10_setQueue (tk 10 0) (xs j58) (xs j59) σ56 (KI (fun x61 σ60 => (tk 10 0) % 32 = 10 ∧ wp_X10_thrown (tk 10 0) σ60 (KI (fun x63 σ62 => ((x63 = x57 → ((¬ x57 = 0 → (wp_L_law_577 L xs (fun z0 z1 z2 z3 ζ => wp_L_law_23 L xs f z0 z1 z2 z3 ζ) (tk 9 0) (tk 10 0) (tk 24 0) (nI i) σ62)) ∧ (x57 = 0 → aty ((tk 24 0) % 32) = some .long ∧ ∃ j64, (0 : Int32) = nI j64 ∧ j64 < aln (tk 24 0) ∧ (((lg_cmp (sL σ62 (tk 24 0) j64) (Int32.toInt64 x61)) = 0 → (wp_L_law_577 L xs (fun z0 z1 z2 z3 ζ => wp_L_law_23 L xs f z0 z1 z2 z3 ζ) (tk 9 0) (tk 10 0) (tk 24 0) (nI i) σ62)) ∧ (¬ (lg_cmp (sL σ62 (tk 24 0) j64) (Int32.toInt64 x61)) = 0 → (0 : Int32) = 1))))) ∧ (¬ x63 = x57 → (0 : Int32) = 1))) (fun _ _ => False))) (fun _ _ => False))) (fun _ _ => False)) := by
  have x1 := law_ix (i := i) (c := 1) (L := L) (nI_add i 1) (by omega) c hL
  have x2 := law_ix (i := i) (c := 2) (L := L) (nI_add i 2) (by omega) c hL
  have x3 := law_ix (i := i) (c := 3) (L := L) (nI_add i 3) (by omega) c hL
  have x4 := law_ix (i := i) (c := 4) (L := L) (nI_add i 4) (by omega) c hL
  have x5 := law_ix (i := i) (c := 5) (L := L) (nI_add i 5) (by omega) c hL
  have x6 := law_ix (i := i) (c := 6) (L := L) (nI_add i 6) (by omega) c hL
  simp only [show nI 1 = 1 from rfl, show nI 2 = 2 from rfl, show nI 3 = 3 from rfl, show nI 4 = 4 from rfl, show nI 5 = 5 from rfl, show nI 6 = 6 from rfl] at x1 x2 x3 x4 x5 x6
  refine (x1 _).mpr ?_
  refine (x2 _).mpr ?_
  refine (cg_I (W := fun P => wp_L_setQueue (some (tk 9 0)) (xs (i + 1)) (xs (i + 2)) (some (tk 24 0)) (put a M) P) (fun x σ => ?_)).mpr (opz_setQueue R (xs (i + 1)) (xs (i + 2)) (KL L xs f i) k9)
  refine Iff.trans (x1 _) ?_
  refine Iff.trans (x2 _) ?_
  refine Iff.trans (law_10 _) ?_
  refine cg_I (W := fun P => wp_X10_setQueue (tk 10 0) (xs (i + 1)) (xs (i + 2)) σ P) (fun b σ1 => ?_)
  refine Iff.trans (law_10 _) ?_
  refine cg_I (W := fun P => wp_X10_thrown (tk 10 0) σ1 P) (fun t σ2 => ?_)
  exact law_pq
theorem lwc_addMachine (hL : L ≤ 3584) (c : i + 7 ≤ L) (R : Rel 0 a M) (zr : Zr M) (k9 : ∀ a' M', Rel 0 a' M' → (Zr M → Zr M') → KL L xs f i (put a' M')) : ∃ j65, ((nI i) + (1 : Int32)) = nI j65 ∧ j65 < L ∧ ∃ j66, ((nI i) + (2 : Int32)) = nI j66 ∧ j66 < L ∧ ∃ j67, ((nI i) + (3 : Int32)) = nI j67 ∧ j67 < L ∧ ∃ j68, ((nI i) + (4 : Int32)) = nI j68 ∧ j68 < L ∧ ∃ j69, ((nI i) + (5 : Int32)) = nI j69 ∧ j69 < L ∧ ∃ j70, ((nI i) + (6 : Int32)) = nI j70 ∧ j70 < L ∧ wp_L_addMachine (some (tk 9 0)) (xs j65) (xs j66) (xs j67) (xs j68) (xs j69) (xs j70) (some (tk 24 0)) (put a M) (KI (fun x72 σ71 => ∃ j73, ((nI i) + (1 : Int32)) = nI j73 ∧ j73 < L ∧ ∃ j74, ((nI i) + (2 : Int32)) = nI j74 ∧ j74 < L ∧ ∃ j75, ((nI i) + (3 : Int32)) = nI j75 ∧ j75 < L ∧ ∃ j76, ((nI i) + (4 : Int32)) = nI j76 ∧ j76 < L ∧ ∃ j77, ((nI i) + (5 : Int32)) = nI j77 ∧ j77 < L ∧ ∃ j78, ((nI i) + (6 : Int32)) = nI j78 ∧ j78 < L ∧ (tk 10 0) % 32 = 10 ∧ wp_X10_addMachine (tk 10 0) (xs j73) (xs j74) (xs j75) (xs j76) (xs j77) (xs j78) σ71 (KI (fun x80 σ79 => (tk 10 0) % 32 = 10 ∧ wp_X10_thrown (tk 10 0) σ79 (KI (fun x82 σ81 => ((x82 = x72 → ((¬ x72 = 0 → (wp_L_law_695 L xs (fun z0 z1 z2 z3 ζ => wp_L_law_23 L xs f z0 z1 z2 z3 ζ) (tk 9 0) (tk 10 0) (tk 24 0) (nI i) σ81)) ∧ (x72 = 0 → aty ((tk 24 0) % 32) = some .long ∧ ∃ j83, (0 : Int32) = nI j83 ∧ j83 < aln (tk 24 0) ∧ (((lg_cmp (sL σ81 (tk 24 0) j83) (Int32.toInt64 x80)) = 0 → (wp_L_law_695 L xs (fun z0 z1 z2 z3 ζ => wp_L_law_23 L xs f z0 z1 z2 z3 ζ) (tk 9 0) (tk 10 0) (tk 24 0) (nI i) σ81)) ∧ (¬ (lg_cmp (sL σ81 (tk 24 0) j83) (Int32.toInt64 x80)) = 0 → (0 : Int32) = 1))))) ∧ (¬ x82 = x72 → (0 : Int32) = 1))) (fun _ _ => False))) (fun _ _ => False))) (fun _ _ => False)) := by
  have x1 := law_ix (i := i) (c := 1) (L := L) (nI_add i 1) (by omega) c hL
  have x2 := law_ix (i := i) (c := 2) (L := L) (nI_add i 2) (by omega) c hL
  have x3 := law_ix (i := i) (c := 3) (L := L) (nI_add i 3) (by omega) c hL
  have x4 := law_ix (i := i) (c := 4) (L := L) (nI_add i 4) (by omega) c hL
  have x5 := law_ix (i := i) (c := 5) (L := L) (nI_add i 5) (by omega) c hL
  have x6 := law_ix (i := i) (c := 6) (L := L) (nI_add i 6) (by omega) c hL
  simp only [show nI 1 = 1 from rfl, show nI 2 = 2 from rfl, show nI 3 = 3 from rfl, show nI 4 = 4 from rfl, show nI 5 = 5 from rfl, show nI 6 = 6 from rfl] at x1 x2 x3 x4 x5 x6
  refine (x1 _).mpr ?_
  refine (x2 _).mpr ?_
  refine (x3 _).mpr ?_
  refine (x4 _).mpr ?_
  refine (x5 _).mpr ?_
  refine (x6 _).mpr ?_
  refine (cg_I (W := fun P => wp_L_addMachine (some (tk 9 0)) (xs (i + 1)) (xs (i + 2)) (xs (i + 3)) (xs (i + 4)) (xs (i + 5)) (xs (i + 6)) (some (tk 24 0)) (put a M) P) (fun x σ => ?_)).mpr (opz_addMachine R (xs (i + 1)) (xs (i + 2)) (xs (i + 3)) (xs (i + 4)) (xs (i + 5)) (xs (i + 6)) zr (KL L xs f i) k9)
  refine Iff.trans (x1 _) ?_
  refine Iff.trans (x2 _) ?_
  refine Iff.trans (x3 _) ?_
  refine Iff.trans (x4 _) ?_
  refine Iff.trans (x5 _) ?_
  refine Iff.trans (x6 _) ?_
  refine Iff.trans (law_10 _) ?_
  refine cg_I (W := fun P => wp_X10_addMachine (tk 10 0) (xs (i + 1)) (xs (i + 2)) (xs (i + 3)) (xs (i + 4)) (xs (i + 5)) (xs (i + 6)) σ P) (fun b σ1 => ?_)
  refine Iff.trans (law_10 _) ?_
  refine cg_I (W := fun P => wp_X10_thrown (tk 10 0) σ1 P) (fun t σ2 => ?_)
  exact law_pq
theorem lwc_addPerson (hL : L ≤ 3584) (c : i + 7 ≤ L) (R : Rel 0 a M) (zr : Zr M) (k9 : ∀ a' M', Rel 0 a' M' → (Zr M → Zr M') → KL L xs f i (put a' M')) : ∃ j84, ((nI i) + (1 : Int32)) = nI j84 ∧ j84 < L ∧ ∃ j85, ((nI i) + (2 : Int32)) = nI j85 ∧ j85 < L ∧ ∃ j86, ((nI i) + (3 : Int32)) = nI j86 ∧ j86 < L ∧ wp_L_addPerson (some (tk 9 0)) (xs j84) (xs j85) (xs j86) (some (tk 24 0)) (put a M) (KI (fun x88 σ87 => ∃ j89, ((nI i) + (1 : Int32)) = nI j89 ∧ j89 < L ∧ ∃ j90, ((nI i) + (2 : Int32)) = nI j90 ∧ j90 < L ∧ ∃ j91, ((nI i) + (3 : Int32)) = nI j91 ∧ j91 < L ∧ (tk 10 0) % 32 = 10 ∧ wp_X10_addPerson (tk 10 0) (xs j89) (xs j90) (xs j91) σ87 (KI (fun x93 σ92 => (tk 10 0) % 32 = 10 ∧ wp_X10_thrown (tk 10 0) σ92 (KI (fun x95 σ94 => ((x95 = x88 → ((¬ x88 = 0 → (wp_L_law_775 L xs (fun z0 z1 z2 z3 ζ => wp_L_law_23 L xs f z0 z1 z2 z3 ζ) (tk 9 0) (tk 10 0) (tk 24 0) (nI i) σ94)) ∧ (x88 = 0 → aty ((tk 24 0) % 32) = some .long ∧ ∃ j96, (0 : Int32) = nI j96 ∧ j96 < aln (tk 24 0) ∧ (((lg_cmp (sL σ94 (tk 24 0) j96) (Int32.toInt64 x93)) = 0 → (wp_L_law_775 L xs (fun z0 z1 z2 z3 ζ => wp_L_law_23 L xs f z0 z1 z2 z3 ζ) (tk 9 0) (tk 10 0) (tk 24 0) (nI i) σ94)) ∧ (¬ (lg_cmp (sL σ94 (tk 24 0) j96) (Int32.toInt64 x93)) = 0 → (0 : Int32) = 1))))) ∧ (¬ x95 = x88 → (0 : Int32) = 1))) (fun _ _ => False))) (fun _ _ => False))) (fun _ _ => False)) := by
  have x1 := law_ix (i := i) (c := 1) (L := L) (nI_add i 1) (by omega) c hL
  have x2 := law_ix (i := i) (c := 2) (L := L) (nI_add i 2) (by omega) c hL
  have x3 := law_ix (i := i) (c := 3) (L := L) (nI_add i 3) (by omega) c hL
  have x4 := law_ix (i := i) (c := 4) (L := L) (nI_add i 4) (by omega) c hL
  have x5 := law_ix (i := i) (c := 5) (L := L) (nI_add i 5) (by omega) c hL
  have x6 := law_ix (i := i) (c := 6) (L := L) (nI_add i 6) (by omega) c hL
  simp only [show nI 1 = 1 from rfl, show nI 2 = 2 from rfl, show nI 3 = 3 from rfl, show nI 4 = 4 from rfl, show nI 5 = 5 from rfl, show nI 6 = 6 from rfl] at x1 x2 x3 x4 x5 x6
  refine (x1 _).mpr ?_
  refine (x2 _).mpr ?_
  refine (x3 _).mpr ?_
  refine (cg_I (W := fun P => wp_L_addPerson (some (tk 9 0)) (xs (i + 1)) (xs (i + 2)) (xs (i + 3)) (some (tk 24 0)) (put a M) P) (fun x σ => ?_)).mpr (opz_addPerson R (xs (i + 1)) (xs (i + 2)) (xs (i + 3)) zr (KL L xs f i) k9)
  refine Iff.trans (x1 _) ?_
  refine Iff.trans (x2 _) ?_
  refine Iff.trans (x3 _) ?_
  refine Iff.trans (law_10 _) ?_
  refine cg_I (W := fun P => wp_X10_addPerson (tk 10 0) (xs (i + 1)) (xs (i + 2)) (xs (i + 3)) σ P) (fun b σ1 => ?_)
  refine Iff.trans (law_10 _) ?_
  refine cg_I (W := fun P => wp_X10_thrown (tk 10 0) σ1 P) (fun t σ2 => ?_)
  exact law_pq
theorem lwc_setLevel (hL : L ≤ 3584) (c : i + 7 ≤ L) (R : Rel 0 a M) (zr : Zr M) (k9 : ∀ a' M', Rel 0 a' M' → (Zr M → Zr M') → KL L xs f i (put a' M')) : ∃ j97, ((nI i) + (1 : Int32)) = nI j97 ∧ j97 < L ∧ ∃ j98, ((nI i) + (2 : Int32)) = nI j98 ∧ j98 < L ∧ ∃ j99, ((nI i) + (3 : Int32)) = nI j99 ∧ j99 < L ∧ wp_L_setLevel (some (tk 9 0)) (xs j97) (xs j98) (xs j99) (some (tk 24 0)) (put a M) (KI (fun x101 σ100 => ∃ j102, ((nI i) + (1 : Int32)) = nI j102 ∧ j102 < L ∧ ∃ j103, ((nI i) + (2 : Int32)) = nI j103 ∧ j103 < L ∧ ∃ j104, ((nI i) + (3 : Int32)) = nI j104 ∧ j104 < L ∧ (tk 10 0) % 32 = 10 ∧ wp_X10_setLevel (tk 10 0) (xs j102) (xs j103) (xs j104) σ100 (KI (fun x106 σ105 => (tk 10 0) % 32 = 10 ∧ wp_X10_thrown (tk 10 0) σ105 (KI (fun x108 σ107 => ((x108 = x101 → ((¬ x101 = 0 → (wp_L_law_855 L xs (fun z0 z1 z2 z3 ζ => wp_L_law_23 L xs f z0 z1 z2 z3 ζ) (tk 9 0) (tk 10 0) (tk 24 0) (nI i) σ107)) ∧ (x101 = 0 → aty ((tk 24 0) % 32) = some .long ∧ ∃ j109, (0 : Int32) = nI j109 ∧ j109 < aln (tk 24 0) ∧ (((lg_cmp (sL σ107 (tk 24 0) j109) (Int32.toInt64 x106)) = 0 → (wp_L_law_855 L xs (fun z0 z1 z2 z3 ζ => wp_L_law_23 L xs f z0 z1 z2 z3 ζ) (tk 9 0) (tk 10 0) (tk 24 0) (nI i) σ107)) ∧ (¬ (lg_cmp (sL σ107 (tk 24 0) j109) (Int32.toInt64 x106)) = 0 → (0 : Int32) = 1))))) ∧ (¬ x108 = x101 → (0 : Int32) = 1))) (fun _ _ => False))) (fun _ _ => False))) (fun _ _ => False)) := by
  have x1 := law_ix (i := i) (c := 1) (L := L) (nI_add i 1) (by omega) c hL
  have x2 := law_ix (i := i) (c := 2) (L := L) (nI_add i 2) (by omega) c hL
  have x3 := law_ix (i := i) (c := 3) (L := L) (nI_add i 3) (by omega) c hL
  have x4 := law_ix (i := i) (c := 4) (L := L) (nI_add i 4) (by omega) c hL
  have x5 := law_ix (i := i) (c := 5) (L := L) (nI_add i 5) (by omega) c hL
  have x6 := law_ix (i := i) (c := 6) (L := L) (nI_add i 6) (by omega) c hL
  simp only [show nI 1 = 1 from rfl, show nI 2 = 2 from rfl, show nI 3 = 3 from rfl, show nI 4 = 4 from rfl, show nI 5 = 5 from rfl, show nI 6 = 6 from rfl] at x1 x2 x3 x4 x5 x6
  refine (x1 _).mpr ?_
  refine (x2 _).mpr ?_
  refine (x3 _).mpr ?_
  refine (cg_I (W := fun P => wp_L_setLevel (some (tk 9 0)) (xs (i + 1)) (xs (i + 2)) (xs (i + 3)) (some (tk 24 0)) (put a M) P) (fun x σ => ?_)).mpr (opz_setLevel R (xs (i + 1)) (xs (i + 2)) (xs (i + 3)) (KL L xs f i) k9)
  refine Iff.trans (x1 _) ?_
  refine Iff.trans (x2 _) ?_
  refine Iff.trans (x3 _) ?_
  refine Iff.trans (law_10 _) ?_
  refine cg_I (W := fun P => wp_X10_setLevel (tk 10 0) (xs (i + 1)) (xs (i + 2)) (xs (i + 3)) σ P) (fun b σ1 => ?_)
  refine Iff.trans (law_10 _) ?_
  refine cg_I (W := fun P => wp_X10_thrown (tk 10 0) σ1 P) (fun t σ2 => ?_)
  exact law_pq
theorem lwc_buy (hL : L ≤ 3584) (c : i + 7 ≤ L) (R : Rel 0 a M) (zr : Zr M) (k9 : ∀ a' M', Rel 0 a' M' → (Zr M → Zr M') → KL L xs f i (put a' M')) : ∃ j110, ((nI i) + (1 : Int32)) = nI j110 ∧ j110 < L ∧ ∃ j111, ((nI i) + (2 : Int32)) = nI j111 ∧ j111 < L ∧ wp_L_buy (some (tk 9 0)) (xs j110) (xs j111) (some (tk 24 0)) (put a M) (KI (fun x113 σ112 => ∃ j114, ((nI i) + (1 : Int32)) = nI j114 ∧ j114 < L ∧ ∃ j115, ((nI i) + (2 : Int32)) = nI j115 ∧ j115 < L ∧ (tk 10 0) % 32 = 10 ∧ wp_X10_buy (tk 10 0) (xs j114) (xs j115) σ112 (KI (fun x117 σ116 => (tk 10 0) % 32 = 10 ∧ wp_X10_thrown (tk 10 0) σ116 (KI (fun x119 σ118 => ((x119 = x113 → ((¬ x113 = 0 → (wp_L_law_923 L xs (fun z0 z1 z2 z3 ζ => wp_L_law_23 L xs f z0 z1 z2 z3 ζ) (tk 9 0) (tk 10 0) (tk 24 0) (nI i) σ118)) ∧ (x113 = 0 → aty ((tk 24 0) % 32) = some .long ∧ ∃ j120, (0 : Int32) = nI j120 ∧ j120 < aln (tk 24 0) ∧ (((lg_cmp (sL σ118 (tk 24 0) j120) (Int32.toInt64 x117)) = 0 → (wp_L_law_923 L xs (fun z0 z1 z2 z3 ζ => wp_L_law_23 L xs f z0 z1 z2 z3 ζ) (tk 9 0) (tk 10 0) (tk 24 0) (nI i) σ118)) ∧ (¬ (lg_cmp (sL σ118 (tk 24 0) j120) (Int32.toInt64 x117)) = 0 → (0 : Int32) = 1))))) ∧ (¬ x119 = x113 → (0 : Int32) = 1))) (fun _ _ => False))) (fun _ _ => False))) (fun _ _ => False)) := by
  have x1 := law_ix (i := i) (c := 1) (L := L) (nI_add i 1) (by omega) c hL
  have x2 := law_ix (i := i) (c := 2) (L := L) (nI_add i 2) (by omega) c hL
  have x3 := law_ix (i := i) (c := 3) (L := L) (nI_add i 3) (by omega) c hL
  have x4 := law_ix (i := i) (c := 4) (L := L) (nI_add i 4) (by omega) c hL
  have x5 := law_ix (i := i) (c := 5) (L := L) (nI_add i 5) (by omega) c hL
  have x6 := law_ix (i := i) (c := 6) (L := L) (nI_add i 6) (by omega) c hL
  simp only [show nI 1 = 1 from rfl, show nI 2 = 2 from rfl, show nI 3 = 3 from rfl, show nI 4 = 4 from rfl, show nI 5 = 5 from rfl, show nI 6 = 6 from rfl] at x1 x2 x3 x4 x5 x6
  refine (x1 _).mpr ?_
  refine (x2 _).mpr ?_
  refine (cg_I (W := fun P => wp_L_buy (some (tk 9 0)) (xs (i + 1)) (xs (i + 2)) (some (tk 24 0)) (put a M) P) (fun x σ => ?_)).mpr (opz_buy R (xs (i + 1)) (xs (i + 2)) (KL L xs f i) k9)
  refine Iff.trans (x1 _) ?_
  refine Iff.trans (x2 _) ?_
  refine Iff.trans (law_10 _) ?_
  refine cg_I (W := fun P => wp_X10_buy (tk 10 0) (xs (i + 1)) (xs (i + 2)) σ P) (fun b σ1 => ?_)
  refine Iff.trans (law_10 _) ?_
  refine cg_I (W := fun P => wp_X10_thrown (tk 10 0) σ1 P) (fun t σ2 => ?_)
  exact law_pq
theorem lwc_late (hL : L ≤ 3584) (c : i + 7 ≤ L) (R : Rel 0 a M) (zr : Zr M) (k9 : ∀ a' M', Rel 0 a' M' → (Zr M → Zr M') → KL L xs f i (put a' M')) : ∃ j121, ((nI i) + (1 : Int32)) = nI j121 ∧ j121 < L ∧ ∃ j122, ((nI i) + (2 : Int32)) = nI j122 ∧ j122 < L ∧ wp_L_late (some (tk 9 0)) (xs j121) (xs j122) (some (tk 24 0)) (put a M) (KI (fun x124 σ123 => ∃ j125, ((nI i) + (1 : Int32)) = nI j125 ∧ j125 < L ∧ ∃ j126, ((nI i) + (2 : Int32)) = nI j126 ∧ j126 < L ∧ (tk 10 0) % 32 = 10 ∧ wp_X10_late (tk 10 0) (xs j125) (xs j126) σ123 (KI (fun x128 σ127 => (tk 10 0) % 32 = 10 ∧ wp_X10_thrown (tk 10 0) σ127 (KI (fun x130 σ129 => ((x130 = x124 → ((¬ x124 = 0 → (wp_L_law_991 L xs (fun z0 z1 z2 z3 ζ => wp_L_law_23 L xs f z0 z1 z2 z3 ζ) (tk 9 0) (tk 10 0) (tk 24 0) (nI i) σ129)) ∧ (x124 = 0 → aty ((tk 24 0) % 32) = some .long ∧ ∃ j131, (0 : Int32) = nI j131 ∧ j131 < aln (tk 24 0) ∧ (((lg_cmp (sL σ129 (tk 24 0) j131) (Int32.toInt64 x128)) = 0 → (wp_L_law_991 L xs (fun z0 z1 z2 z3 ζ => wp_L_law_23 L xs f z0 z1 z2 z3 ζ) (tk 9 0) (tk 10 0) (tk 24 0) (nI i) σ129)) ∧ (¬ (lg_cmp (sL σ129 (tk 24 0) j131) (Int32.toInt64 x128)) = 0 → (0 : Int32) = 1))))) ∧ (¬ x130 = x124 → (0 : Int32) = 1))) (fun _ _ => False))) (fun _ _ => False))) (fun _ _ => False)) := by
  have x1 := law_ix (i := i) (c := 1) (L := L) (nI_add i 1) (by omega) c hL
  have x2 := law_ix (i := i) (c := 2) (L := L) (nI_add i 2) (by omega) c hL
  have x3 := law_ix (i := i) (c := 3) (L := L) (nI_add i 3) (by omega) c hL
  have x4 := law_ix (i := i) (c := 4) (L := L) (nI_add i 4) (by omega) c hL
  have x5 := law_ix (i := i) (c := 5) (L := L) (nI_add i 5) (by omega) c hL
  have x6 := law_ix (i := i) (c := 6) (L := L) (nI_add i 6) (by omega) c hL
  simp only [show nI 1 = 1 from rfl, show nI 2 = 2 from rfl, show nI 3 = 3 from rfl, show nI 4 = 4 from rfl, show nI 5 = 5 from rfl, show nI 6 = 6 from rfl] at x1 x2 x3 x4 x5 x6
  refine (x1 _).mpr ?_
  refine (x2 _).mpr ?_
  refine (cg_I (W := fun P => wp_L_late (some (tk 9 0)) (xs (i + 1)) (xs (i + 2)) (some (tk 24 0)) (put a M) P) (fun x σ => ?_)).mpr (opz_late R (xs (i + 1)) (xs (i + 2)) (KL L xs f i) k9)
  refine Iff.trans (x1 _) ?_
  refine Iff.trans (x2 _) ?_
  refine Iff.trans (law_10 _) ?_
  refine cg_I (W := fun P => wp_X10_late (tk 10 0) (xs (i + 1)) (xs (i + 2)) σ P) (fun b σ1 => ?_)
  refine Iff.trans (law_10 _) ?_
  refine cg_I (W := fun P => wp_X10_thrown (tk 10 0) σ1 P) (fun t σ2 => ?_)
  exact law_pq
theorem lwc_make (hL : L ≤ 3584) (c : i + 7 ≤ L) (R : Rel 0 a M) (zr : Zr M) (k9 : ∀ a' M', Rel 0 a' M' → (Zr M → Zr M') → KL L xs f i (put a' M')) : ∃ j132, ((nI i) + (1 : Int32)) = nI j132 ∧ j132 < L ∧ ∃ j133, ((nI i) + (2 : Int32)) = nI j133 ∧ j133 < L ∧ ∃ j134, ((nI i) + (3 : Int32)) = nI j134 ∧ j134 < L ∧ wp_L_make (some (tk 9 0)) (xs j132) (xs j133) (xs j134) (some (tk 24 0)) (put a M) (KI (fun x136 σ135 => ∃ j137, ((nI i) + (1 : Int32)) = nI j137 ∧ j137 < L ∧ ∃ j138, ((nI i) + (2 : Int32)) = nI j138 ∧ j138 < L ∧ ∃ j139, ((nI i) + (3 : Int32)) = nI j139 ∧ j139 < L ∧ (tk 10 0) % 32 = 10 ∧ wp_X10_make (tk 10 0) (xs j137) (xs j138) (xs j139) σ135 (KI (fun x141 σ140 => (tk 10 0) % 32 = 10 ∧ wp_X10_thrown (tk 10 0) σ140 (KI (fun x143 σ142 => ((x143 = x136 → ((¬ x136 = 0 → (wp_L_law_1071 L xs (fun z0 z1 z2 z3 ζ => wp_L_law_23 L xs f z0 z1 z2 z3 ζ) (tk 9 0) (tk 10 0) (tk 24 0) (nI i) σ142)) ∧ (x136 = 0 → aty ((tk 24 0) % 32) = some .long ∧ ∃ j144, (0 : Int32) = nI j144 ∧ j144 < aln (tk 24 0) ∧ (((lg_cmp (sL σ142 (tk 24 0) j144) (Int32.toInt64 x141)) = 0 → (wp_L_law_1071 L xs (fun z0 z1 z2 z3 ζ => wp_L_law_23 L xs f z0 z1 z2 z3 ζ) (tk 9 0) (tk 10 0) (tk 24 0) (nI i) σ142)) ∧ (¬ (lg_cmp (sL σ142 (tk 24 0) j144) (Int32.toInt64 x141)) = 0 → (0 : Int32) = 1))))) ∧ (¬ x143 = x136 → (0 : Int32) = 1))) (fun _ _ => False))) (fun _ _ => False))) (fun _ _ => False)) := by
  have x1 := law_ix (i := i) (c := 1) (L := L) (nI_add i 1) (by omega) c hL
  have x2 := law_ix (i := i) (c := 2) (L := L) (nI_add i 2) (by omega) c hL
  have x3 := law_ix (i := i) (c := 3) (L := L) (nI_add i 3) (by omega) c hL
  have x4 := law_ix (i := i) (c := 4) (L := L) (nI_add i 4) (by omega) c hL
  have x5 := law_ix (i := i) (c := 5) (L := L) (nI_add i 5) (by omega) c hL
  have x6 := law_ix (i := i) (c := 6) (L := L) (nI_add i 6) (by omega) c hL
  simp only [show nI 1 = 1 from rfl, show nI 2 = 2 from rfl, show nI 3 = 3 from rfl, show nI 4 = 4 from rfl, show nI 5 = 5 from rfl, show nI 6 = 6 from rfl] at x1 x2 x3 x4 x5 x6
  refine (x1 _).mpr ?_
  refine (x2 _).mpr ?_
  refine (x3 _).mpr ?_
  refine (cg_I (W := fun P => wp_L_make (some (tk 9 0)) (xs (i + 1)) (xs (i + 2)) (xs (i + 3)) (some (tk 24 0)) (put a M) P) (fun x σ => ?_)).mpr (opz_make R (xs (i + 1)) (xs (i + 2)) (xs (i + 3)) (KL L xs f i) k9)
  refine Iff.trans (x1 _) ?_
  refine Iff.trans (x2 _) ?_
  refine Iff.trans (x3 _) ?_
  refine Iff.trans (law_10 _) ?_
  refine cg_I (W := fun P => wp_X10_make (tk 10 0) (xs (i + 1)) (xs (i + 2)) (xs (i + 3)) σ P) (fun b σ1 => ?_)
  refine Iff.trans (law_10 _) ?_
  refine cg_I (W := fun P => wp_X10_thrown (tk 10 0) σ1 P) (fun t σ2 => ?_)
  exact law_pq
theorem lwc_rank (hL : L ≤ 3584) (c : i + 7 ≤ L) (R : Rel 0 a M) (zr : Zr M) (k9 : ∀ a' M', Rel 0 a' M' → (Zr M → Zr M') → KL L xs f i (put a' M')) : ∃ j145, ((nI i) + (1 : Int32)) = nI j145 ∧ j145 < L ∧ ∃ j146, ((nI i) + (2 : Int32)) = nI j146 ∧ j146 < L ∧ ∃ j147, ((nI i) + (3 : Int32)) = nI j147 ∧ j147 < L ∧ (((xs j147) = 0 → (wp_L_law_1101 L xs (fun z0 z1 z2 z3 ζ => wp_L_law_23 L xs f z0 z1 z2 z3 ζ) (tk 9 0) (tk 10 0) (tk 24 0) (nI i) (tk 9 0) (xs j145) (xs j146) (0 : Int32) (put a M))) ∧ (¬ (xs j147) = 0 → (wp_L_law_1101 L xs (fun z0 z1 z2 z3 ζ => wp_L_law_23 L xs f z0 z1 z2 z3 ζ) (tk 9 0) (tk 10 0) (tk 24 0) (nI i) (tk 9 0) (xs j145) (xs j146) (1 : Int32) (put a M)))) := by
  have x1 := law_ix (i := i) (c := 1) (L := L) (nI_add i 1) (by omega) c hL
  have x2 := law_ix (i := i) (c := 2) (L := L) (nI_add i 2) (by omega) c hL
  have x3 := law_ix (i := i) (c := 3) (L := L) (nI_add i 3) (by omega) c hL
  have x4 := law_ix (i := i) (c := 4) (L := L) (nI_add i 4) (by omega) c hL
  have x5 := law_ix (i := i) (c := 5) (L := L) (nI_add i 5) (by omega) c hL
  have x6 := law_ix (i := i) (c := 6) (L := L) (nI_add i 6) (by omega) c hL
  simp only [show nI 1 = 1 from rfl, show nI 2 = 2 from rfl, show nI 3 = 3 from rfl, show nI 4 = 4 from rfl, show nI 5 = 5 from rfl, show nI 6 = 6 from rfl] at x1 x2 x3 x4 x5 x6
  refine (x1 _).mpr ?_
  refine (x2 _).mpr ?_
  refine (x3 _).mpr ?_
  refine ⟨fun h9 => ?_, fun h9 => ?_⟩
  · refine (cg_I (W := fun P => wp_L_rank (some (tk 9 0)) (xs (i + 1)) (xs (i + 2)) 0 (some (tk 24 0)) (put a M) P) (fun x σ => ?_)).mpr (opr_rank R (xs (i + 1)) (xs (i + 2)) 0 (b01_0.mpr trivial) (KL L xs f i) k9)
    refine Iff.trans (x1 _) ?_
    refine Iff.trans (x2 _) ?_
    refine Iff.trans (x3 _) ?_
    refine Iff.trans ⟨fun z => z.1 h9, fun z => ⟨fun _ => z, fun q => absurd h9 q⟩⟩ ?_
    refine Iff.trans (law_10 _) ?_
    refine cg_I (W := fun P => wp_X10_rank (tk 10 0) (xs (i + 1)) (xs (i + 2)) 0 σ P) (fun b σ1 => ?_)
    refine Iff.trans (law_10 _) ?_
    refine cg_I (W := fun P => wp_X10_thrown (tk 10 0) σ1 P) (fun t σ2 => ?_)
    exact law_pr
  · refine (cg_I (W := fun P => wp_L_rank (some (tk 9 0)) (xs (i + 1)) (xs (i + 2)) 1 (some (tk 24 0)) (put a M) P) (fun x σ => ?_)).mpr (opr_rank R (xs (i + 1)) (xs (i + 2)) 1 (b01_1.mpr trivial) (KL L xs f i) k9)
    refine Iff.trans (x1 _) ?_
    refine Iff.trans (x2 _) ?_
    refine Iff.trans (x3 _) ?_
    refine Iff.trans ⟨fun z => z.2 h9, fun z => ⟨fun q => absurd q h9, fun _ => z⟩⟩ ?_
    refine Iff.trans (law_10 _) ?_
    refine cg_I (W := fun P => wp_X10_rank (tk 10 0) (xs (i + 1)) (xs (i + 2)) 1 σ P) (fun b σ1 => ?_)
    refine Iff.trans (law_10 _) ?_
    refine cg_I (W := fun P => wp_X10_thrown (tk 10 0) σ1 P) (fun t σ2 => ?_)
    exact law_pr
theorem lwc_split (hL : L ≤ 3584) (c : i + 7 ≤ L) (R : Rel 0 a M) (zr : Zr M) (k9 : ∀ a' M', Rel 0 a' M' → (Zr M → Zr M') → KL L xs f i (put a' M')) : ∃ j148, ((nI i) + (1 : Int32)) = nI j148 ∧ j148 < L ∧ ∃ j149, ((nI i) + (2 : Int32)) = nI j149 ∧ j149 < L ∧ wp_L_split (some (tk 9 0)) (xs j148) (xs j149) (some (tk 24 0)) (put a M) (KI (fun x151 σ150 => ∃ j152, ((nI i) + (1 : Int32)) = nI j152 ∧ j152 < L ∧ ∃ j153, ((nI i) + (2 : Int32)) = nI j153 ∧ j153 < L ∧ (tk 10 0) % 32 = 10 ∧ wp_X10_split (tk 10 0) (xs j152) (xs j153) σ150 (KI (fun x155 σ154 => (tk 10 0) % 32 = 10 ∧ wp_X10_thrown (tk 10 0) σ154 (KI (fun x157 σ156 => ((x157 = x151 → ((¬ x151 = 0 → (wp_L_law_1242 L xs (fun z0 z1 z2 z3 ζ => wp_L_law_23 L xs f z0 z1 z2 z3 ζ) (tk 9 0) (tk 10 0) (tk 24 0) (nI i) σ156)) ∧ (x151 = 0 → aty ((tk 24 0) % 32) = some .long ∧ ∃ j158, (0 : Int32) = nI j158 ∧ j158 < aln (tk 24 0) ∧ (((lg_cmp (sL σ156 (tk 24 0) j158) (Int32.toInt64 x155)) = 0 → (wp_L_law_1242 L xs (fun z0 z1 z2 z3 ζ => wp_L_law_23 L xs f z0 z1 z2 z3 ζ) (tk 9 0) (tk 10 0) (tk 24 0) (nI i) σ156)) ∧ (¬ (lg_cmp (sL σ156 (tk 24 0) j158) (Int32.toInt64 x155)) = 0 → (0 : Int32) = 1))))) ∧ (¬ x157 = x151 → (0 : Int32) = 1))) (fun _ _ => False))) (fun _ _ => False))) (fun _ _ => False)) := by
  have x1 := law_ix (i := i) (c := 1) (L := L) (nI_add i 1) (by omega) c hL
  have x2 := law_ix (i := i) (c := 2) (L := L) (nI_add i 2) (by omega) c hL
  have x3 := law_ix (i := i) (c := 3) (L := L) (nI_add i 3) (by omega) c hL
  have x4 := law_ix (i := i) (c := 4) (L := L) (nI_add i 4) (by omega) c hL
  have x5 := law_ix (i := i) (c := 5) (L := L) (nI_add i 5) (by omega) c hL
  have x6 := law_ix (i := i) (c := 6) (L := L) (nI_add i 6) (by omega) c hL
  simp only [show nI 1 = 1 from rfl, show nI 2 = 2 from rfl, show nI 3 = 3 from rfl, show nI 4 = 4 from rfl, show nI 5 = 5 from rfl, show nI 6 = 6 from rfl] at x1 x2 x3 x4 x5 x6
  refine (x1 _).mpr ?_
  refine (x2 _).mpr ?_
  refine (cg_I (W := fun P => wp_L_split (some (tk 9 0)) (xs (i + 1)) (xs (i + 2)) (some (tk 24 0)) (put a M) P) (fun x σ => ?_)).mpr (opz_split R (xs (i + 1)) (xs (i + 2)) (KL L xs f i) k9)
  refine Iff.trans (x1 _) ?_
  refine Iff.trans (x2 _) ?_
  refine Iff.trans (law_10 _) ?_
  refine cg_I (W := fun P => wp_X10_split (tk 10 0) (xs (i + 1)) (xs (i + 2)) σ P) (fun b σ1 => ?_)
  refine Iff.trans (law_10 _) ?_
  refine cg_I (W := fun P => wp_X10_thrown (tk 10 0) σ1 P) (fun t σ2 => ?_)
  exact law_pq
theorem lwc_join (hL : L ≤ 3584) (c : i + 7 ≤ L) (R : Rel 0 a M) (zr : Zr M) (k9 : ∀ a' M', Rel 0 a' M' → (Zr M → Zr M') → KL L xs f i (put a' M')) : ∃ j159, ((nI i) + (1 : Int32)) = nI j159 ∧ j159 < L ∧ ∃ j160, ((nI i) + (2 : Int32)) = nI j160 ∧ j160 < L ∧ wp_L_join (some (tk 9 0)) (xs j159) (xs j160) (some (tk 24 0)) (put a M) (KI (fun x162 σ161 => ∃ j163, ((nI i) + (1 : Int32)) = nI j163 ∧ j163 < L ∧ ∃ j164, ((nI i) + (2 : Int32)) = nI j164 ∧ j164 < L ∧ (tk 10 0) % 32 = 10 ∧ wp_X10_join (tk 10 0) (xs j163) (xs j164) σ161 (KI (fun x166 σ165 => (tk 10 0) % 32 = 10 ∧ wp_X10_thrown (tk 10 0) σ165 (KI (fun x168 σ167 => ((x168 = x162 → ((¬ x162 = 0 → (wp_L_law_1310 L xs (fun z0 z1 z2 z3 ζ => wp_L_law_23 L xs f z0 z1 z2 z3 ζ) (tk 9 0) (tk 10 0) (tk 24 0) (nI i) σ167)) ∧ (x162 = 0 → aty ((tk 24 0) % 32) = some .long ∧ ∃ j169, (0 : Int32) = nI j169 ∧ j169 < aln (tk 24 0) ∧ (((lg_cmp (sL σ167 (tk 24 0) j169) (Int32.toInt64 x166)) = 0 → (wp_L_law_1310 L xs (fun z0 z1 z2 z3 ζ => wp_L_law_23 L xs f z0 z1 z2 z3 ζ) (tk 9 0) (tk 10 0) (tk 24 0) (nI i) σ167)) ∧ (¬ (lg_cmp (sL σ167 (tk 24 0) j169) (Int32.toInt64 x166)) = 0 → (0 : Int32) = 1))))) ∧ (¬ x168 = x162 → (0 : Int32) = 1))) (fun _ _ => False))) (fun _ _ => False))) (fun _ _ => False)) := by
  have x1 := law_ix (i := i) (c := 1) (L := L) (nI_add i 1) (by omega) c hL
  have x2 := law_ix (i := i) (c := 2) (L := L) (nI_add i 2) (by omega) c hL
  have x3 := law_ix (i := i) (c := 3) (L := L) (nI_add i 3) (by omega) c hL
  have x4 := law_ix (i := i) (c := 4) (L := L) (nI_add i 4) (by omega) c hL
  have x5 := law_ix (i := i) (c := 5) (L := L) (nI_add i 5) (by omega) c hL
  have x6 := law_ix (i := i) (c := 6) (L := L) (nI_add i 6) (by omega) c hL
  simp only [show nI 1 = 1 from rfl, show nI 2 = 2 from rfl, show nI 3 = 3 from rfl, show nI 4 = 4 from rfl, show nI 5 = 5 from rfl, show nI 6 = 6 from rfl] at x1 x2 x3 x4 x5 x6
  refine (x1 _).mpr ?_
  refine (x2 _).mpr ?_
  refine (cg_I (W := fun P => wp_L_join (some (tk 9 0)) (xs (i + 1)) (xs (i + 2)) (some (tk 24 0)) (put a M) P) (fun x σ => ?_)).mpr (opz_join R (xs (i + 1)) (xs (i + 2)) (KL L xs f i) k9)
  refine Iff.trans (x1 _) ?_
  refine Iff.trans (x2 _) ?_
  refine Iff.trans (law_10 _) ?_
  refine cg_I (W := fun P => wp_X10_join (tk 10 0) (xs (i + 1)) (xs (i + 2)) σ P) (fun b σ1 => ?_)
  refine Iff.trans (law_10 _) ?_
  refine cg_I (W := fun P => wp_X10_thrown (tk 10 0) σ1 P) (fun t σ2 => ?_)
  exact law_pq
theorem lwc_recall (hL : L ≤ 3584) (c : i + 7 ≤ L) (R : Rel 0 a M) (zr : Zr M) (k9 : ∀ a' M', Rel 0 a' M' → (Zr M → Zr M') → KL L xs f i (put a' M')) : ∃ j170, ((nI i) + (1 : Int32)) = nI j170 ∧ j170 < L ∧ wp_L_recall (some (tk 9 0)) (xs j170) (some (tk 24 0)) (put a M) (KI (fun x172 σ171 => ∃ j173, ((nI i) + (1 : Int32)) = nI j173 ∧ j173 < L ∧ (tk 10 0) % 32 = 10 ∧ wp_X10_recall (tk 10 0) (xs j173) σ171 (KI (fun x175 σ174 => (tk 10 0) % 32 = 10 ∧ wp_X10_thrown (tk 10 0) σ174 (KI (fun x177 σ176 => ((x177 = x172 → ((¬ x172 = 0 → (wp_L_law_1366 L xs (fun z0 z1 z2 z3 ζ => wp_L_law_23 L xs f z0 z1 z2 z3 ζ) (tk 9 0) (tk 10 0) (tk 24 0) (nI i) σ176)) ∧ (x172 = 0 → aty ((tk 24 0) % 32) = some .long ∧ ∃ j178, (0 : Int32) = nI j178 ∧ j178 < aln (tk 24 0) ∧ (((lg_cmp (sL σ176 (tk 24 0) j178) (Int32.toInt64 x175)) = 0 → (wp_L_law_1366 L xs (fun z0 z1 z2 z3 ζ => wp_L_law_23 L xs f z0 z1 z2 z3 ζ) (tk 9 0) (tk 10 0) (tk 24 0) (nI i) σ176)) ∧ (¬ (lg_cmp (sL σ176 (tk 24 0) j178) (Int32.toInt64 x175)) = 0 → (0 : Int32) = 1))))) ∧ (¬ x177 = x172 → (0 : Int32) = 1))) (fun _ _ => False))) (fun _ _ => False))) (fun _ _ => False)) := by
  have x1 := law_ix (i := i) (c := 1) (L := L) (nI_add i 1) (by omega) c hL
  have x2 := law_ix (i := i) (c := 2) (L := L) (nI_add i 2) (by omega) c hL
  have x3 := law_ix (i := i) (c := 3) (L := L) (nI_add i 3) (by omega) c hL
  have x4 := law_ix (i := i) (c := 4) (L := L) (nI_add i 4) (by omega) c hL
  have x5 := law_ix (i := i) (c := 5) (L := L) (nI_add i 5) (by omega) c hL
  have x6 := law_ix (i := i) (c := 6) (L := L) (nI_add i 6) (by omega) c hL
  simp only [show nI 1 = 1 from rfl, show nI 2 = 2 from rfl, show nI 3 = 3 from rfl, show nI 4 = 4 from rfl, show nI 5 = 5 from rfl, show nI 6 = 6 from rfl] at x1 x2 x3 x4 x5 x6
  refine (x1 _).mpr ?_
  refine (cg_I (W := fun P => wp_L_recall (some (tk 9 0)) (xs (i + 1)) (some (tk 24 0)) (put a M) P) (fun x σ => ?_)).mpr (opz_recall R (xs (i + 1)) (KL L xs f i) k9)
  refine Iff.trans (x1 _) ?_
  refine Iff.trans (law_10 _) ?_
  refine cg_I (W := fun P => wp_X10_recall (tk 10 0) (xs (i + 1)) σ P) (fun b σ1 => ?_)
  refine Iff.trans (law_10 _) ?_
  refine cg_I (W := fun P => wp_X10_thrown (tk 10 0) σ1 P) (fun t σ2 => ?_)
  exact law_pq
theorem lwc_order (hL : L ≤ 3584) (c : i + 7 ≤ L) (R : Rel 0 a M) (zr : Zr M) (k9 : ∀ a' M', Rel 0 a' M' → (Zr M → Zr M') → KL L xs f i (put a' M')) : ∃ j179, ((nI i) + (1 : Int32)) = nI j179 ∧ j179 < L ∧ ∃ j180, ((nI i) + (2 : Int32)) = nI j180 ∧ j180 < L ∧ ∃ j181, ((nI i) + (3 : Int32)) = nI j181 ∧ j181 < L ∧ wp_L_order (some (tk 9 0)) (xs j179) (xs j180) (xs j181) (some (tk 24 0)) (put a M) (KI (fun x183 σ182 => ∃ j184, ((nI i) + (1 : Int32)) = nI j184 ∧ j184 < L ∧ ∃ j185, ((nI i) + (2 : Int32)) = nI j185 ∧ j185 < L ∧ ∃ j186, ((nI i) + (3 : Int32)) = nI j186 ∧ j186 < L ∧ (tk 10 0) % 32 = 10 ∧ wp_X10_order (tk 10 0) (xs j184) (xs j185) (xs j186) σ182 (KI (fun x188 σ187 => (tk 10 0) % 32 = 10 ∧ wp_X10_thrown (tk 10 0) σ187 (KI (fun x190 σ189 => ((x190 = x183 → ((¬ x183 = 0 → (wp_L_law_1446 L xs (fun z0 z1 z2 z3 ζ => wp_L_law_23 L xs f z0 z1 z2 z3 ζ) (tk 9 0) (tk 10 0) (tk 24 0) (nI i) σ189)) ∧ (x183 = 0 → aty ((tk 24 0) % 32) = some .long ∧ ∃ j191, (0 : Int32) = nI j191 ∧ j191 < aln (tk 24 0) ∧ (((lg_cmp (sL σ189 (tk 24 0) j191) (Int32.toInt64 x188)) = 0 → (wp_L_law_1446 L xs (fun z0 z1 z2 z3 ζ => wp_L_law_23 L xs f z0 z1 z2 z3 ζ) (tk 9 0) (tk 10 0) (tk 24 0) (nI i) σ189)) ∧ (¬ (lg_cmp (sL σ189 (tk 24 0) j191) (Int32.toInt64 x188)) = 0 → (0 : Int32) = 1))))) ∧ (¬ x190 = x183 → (0 : Int32) = 1))) (fun _ _ => False))) (fun _ _ => False))) (fun _ _ => False)) := by
  have x1 := law_ix (i := i) (c := 1) (L := L) (nI_add i 1) (by omega) c hL
  have x2 := law_ix (i := i) (c := 2) (L := L) (nI_add i 2) (by omega) c hL
  have x3 := law_ix (i := i) (c := 3) (L := L) (nI_add i 3) (by omega) c hL
  have x4 := law_ix (i := i) (c := 4) (L := L) (nI_add i 4) (by omega) c hL
  have x5 := law_ix (i := i) (c := 5) (L := L) (nI_add i 5) (by omega) c hL
  have x6 := law_ix (i := i) (c := 6) (L := L) (nI_add i 6) (by omega) c hL
  simp only [show nI 1 = 1 from rfl, show nI 2 = 2 from rfl, show nI 3 = 3 from rfl, show nI 4 = 4 from rfl, show nI 5 = 5 from rfl, show nI 6 = 6 from rfl] at x1 x2 x3 x4 x5 x6
  refine (x1 _).mpr ?_
  refine (x2 _).mpr ?_
  refine (x3 _).mpr ?_
  refine (cg_I (W := fun P => wp_L_order (some (tk 9 0)) (xs (i + 1)) (xs (i + 2)) (xs (i + 3)) (some (tk 24 0)) (put a M) P) (fun x σ => ?_)).mpr (opz_order R (xs (i + 1)) (xs (i + 2)) (xs (i + 3)) zr (KL L xs f i) k9)
  refine Iff.trans (x1 _) ?_
  refine Iff.trans (x2 _) ?_
  refine Iff.trans (x3 _) ?_
  refine Iff.trans (law_10 _) ?_
  refine cg_I (W := fun P => wp_X10_order (tk 10 0) (xs (i + 1)) (xs (i + 2)) (xs (i + 3)) σ P) (fun b σ1 => ?_)
  refine Iff.trans (law_10 _) ?_
  refine cg_I (W := fun P => wp_X10_thrown (tk 10 0) σ1 P) (fun t σ2 => ?_)
  exact law_pq
theorem lwc_promise (hL : L ≤ 3584) (c : i + 7 ≤ L) (R : Rel 0 a M) (zr : Zr M) (k9 : ∀ a' M', Rel 0 a' M' → (Zr M → Zr M') → KL L xs f i (put a' M')) : ∃ j192, ((nI i) + (1 : Int32)) = nI j192 ∧ j192 < L ∧ wp_L_promise (some (tk 9 0)) (xs j192) (some (tk 24 0)) (put a M) (KI (fun x194 σ193 => ∃ j195, ((nI i) + (1 : Int32)) = nI j195 ∧ j195 < L ∧ (tk 10 0) % 32 = 10 ∧ wp_X10_promise (tk 10 0) (xs j195) σ193 (KI (fun x197 σ196 => (tk 10 0) % 32 = 10 ∧ wp_X10_thrown (tk 10 0) σ196 (KI (fun x199 σ198 => ((x199 = x194 → ((¬ x194 = 0 → (wp_L_law_1502 L xs (fun z0 z1 z2 z3 ζ => wp_L_law_23 L xs f z0 z1 z2 z3 ζ) (tk 9 0) (tk 10 0) (tk 24 0) (nI i) σ198)) ∧ (x194 = 0 → aty ((tk 24 0) % 32) = some .long ∧ ∃ j200, (0 : Int32) = nI j200 ∧ j200 < aln (tk 24 0) ∧ (((lg_cmp (sL σ198 (tk 24 0) j200) (Int32.toInt64 x197)) = 0 → (wp_L_law_1502 L xs (fun z0 z1 z2 z3 ζ => wp_L_law_23 L xs f z0 z1 z2 z3 ζ) (tk 9 0) (tk 10 0) (tk 24 0) (nI i) σ198)) ∧ (¬ (lg_cmp (sL σ198 (tk 24 0) j200) (Int32.toInt64 x197)) = 0 → (0 : Int32) = 1))))) ∧ (¬ x199 = x194 → (0 : Int32) = 1))) (fun _ _ => False))) (fun _ _ => False))) (fun _ _ => False)) := by
  have x1 := law_ix (i := i) (c := 1) (L := L) (nI_add i 1) (by omega) c hL
  have x2 := law_ix (i := i) (c := 2) (L := L) (nI_add i 2) (by omega) c hL
  have x3 := law_ix (i := i) (c := 3) (L := L) (nI_add i 3) (by omega) c hL
  have x4 := law_ix (i := i) (c := 4) (L := L) (nI_add i 4) (by omega) c hL
  have x5 := law_ix (i := i) (c := 5) (L := L) (nI_add i 5) (by omega) c hL
  have x6 := law_ix (i := i) (c := 6) (L := L) (nI_add i 6) (by omega) c hL
  simp only [show nI 1 = 1 from rfl, show nI 2 = 2 from rfl, show nI 3 = 3 from rfl, show nI 4 = 4 from rfl, show nI 5 = 5 from rfl, show nI 6 = 6 from rfl] at x1 x2 x3 x4 x5 x6
  refine (x1 _).mpr ?_
  refine (cg_I (W := fun P => wp_L_promise (some (tk 9 0)) (xs (i + 1)) (some (tk 24 0)) (put a M) P) (fun x σ => ?_)).mpr (opz_promise R (xs (i + 1)) (KL L xs f i) k9)
  refine Iff.trans (x1 _) ?_
  refine Iff.trans (law_10 _) ?_
  refine cg_I (W := fun P => wp_X10_promise (tk 10 0) (xs (i + 1)) σ P) (fun b σ1 => ?_)
  refine Iff.trans (law_10 _) ?_
  refine cg_I (W := fun P => wp_X10_thrown (tk 10 0) σ1 P) (fun t σ2 => ?_)
  exact law_pq
theorem lwc_ship (hL : L ≤ 3584) (c : i + 7 ≤ L) (R : Rel 0 a M) (zr : Zr M) (k9 : ∀ a' M', Rel 0 a' M' → (Zr M → Zr M') → KL L xs f i (put a' M')) : ∃ j201, ((nI i) + (1 : Int32)) = nI j201 ∧ j201 < L ∧ wp_L_ship (some (tk 9 0)) (xs j201) (some (tk 24 0)) (put a M) (KI (fun x203 σ202 => ∃ j204, ((nI i) + (1 : Int32)) = nI j204 ∧ j204 < L ∧ (tk 10 0) % 32 = 10 ∧ wp_X10_ship (tk 10 0) (xs j204) σ202 (KI (fun x206 σ205 => (tk 10 0) % 32 = 10 ∧ wp_X10_thrown (tk 10 0) σ205 (KI (fun x208 σ207 => ((x208 = x203 → ((¬ x203 = 0 → (wp_L_law_1558 L xs (fun z0 z1 z2 z3 ζ => wp_L_law_23 L xs f z0 z1 z2 z3 ζ) (tk 9 0) (tk 10 0) (tk 24 0) (nI i) σ207)) ∧ (x203 = 0 → aty ((tk 24 0) % 32) = some .long ∧ ∃ j209, (0 : Int32) = nI j209 ∧ j209 < aln (tk 24 0) ∧ (((lg_cmp (sL σ207 (tk 24 0) j209) (Int32.toInt64 x206)) = 0 → (wp_L_law_1558 L xs (fun z0 z1 z2 z3 ζ => wp_L_law_23 L xs f z0 z1 z2 z3 ζ) (tk 9 0) (tk 10 0) (tk 24 0) (nI i) σ207)) ∧ (¬ (lg_cmp (sL σ207 (tk 24 0) j209) (Int32.toInt64 x206)) = 0 → (0 : Int32) = 1))))) ∧ (¬ x208 = x203 → (0 : Int32) = 1))) (fun _ _ => False))) (fun _ _ => False))) (fun _ _ => False)) := by
  have x1 := law_ix (i := i) (c := 1) (L := L) (nI_add i 1) (by omega) c hL
  have x2 := law_ix (i := i) (c := 2) (L := L) (nI_add i 2) (by omega) c hL
  have x3 := law_ix (i := i) (c := 3) (L := L) (nI_add i 3) (by omega) c hL
  have x4 := law_ix (i := i) (c := 4) (L := L) (nI_add i 4) (by omega) c hL
  have x5 := law_ix (i := i) (c := 5) (L := L) (nI_add i 5) (by omega) c hL
  have x6 := law_ix (i := i) (c := 6) (L := L) (nI_add i 6) (by omega) c hL
  simp only [show nI 1 = 1 from rfl, show nI 2 = 2 from rfl, show nI 3 = 3 from rfl, show nI 4 = 4 from rfl, show nI 5 = 5 from rfl, show nI 6 = 6 from rfl] at x1 x2 x3 x4 x5 x6
  refine (x1 _).mpr ?_
  refine (cg_I (W := fun P => wp_L_ship (some (tk 9 0)) (xs (i + 1)) (some (tk 24 0)) (put a M) P) (fun x σ => ?_)).mpr (opz_ship R (xs (i + 1)) (KL L xs f i) k9)
  refine Iff.trans (x1 _) ?_
  refine Iff.trans (law_10 _) ?_
  refine cg_I (W := fun P => wp_X10_ship (tk 10 0) (xs (i + 1)) σ P) (fun b σ1 => ?_)
  refine Iff.trans (law_10 _) ?_
  refine cg_I (W := fun P => wp_X10_thrown (tk 10 0) σ1 P) (fun t σ2 => ?_)
  exact law_pq
theorem lwc_stand (hL : L ≤ 3584) (c : i + 7 ≤ L) (R : Rel 0 a M) (zr : Zr M) (k9 : ∀ a' M', Rel 0 a' M' → (Zr M → Zr M') → KL L xs f i (put a' M')) : ∃ j210, ((nI i) + (1 : Int32)) = nI j210 ∧ j210 < L ∧ (((xs j210) = 0 → (wp_L_law_1576 L xs (fun z0 z1 z2 z3 ζ => wp_L_law_23 L xs f z0 z1 z2 z3 ζ) (tk 9 0) (tk 10 0) (tk 24 0) (nI i) (tk 9 0) (0 : Int32) (put a M))) ∧ (¬ (xs j210) = 0 → (wp_L_law_1576 L xs (fun z0 z1 z2 z3 ζ => wp_L_law_23 L xs f z0 z1 z2 z3 ζ) (tk 9 0) (tk 10 0) (tk 24 0) (nI i) (tk 9 0) (1 : Int32) (put a M)))) := by
  have x1 := law_ix (i := i) (c := 1) (L := L) (nI_add i 1) (by omega) c hL
  have x2 := law_ix (i := i) (c := 2) (L := L) (nI_add i 2) (by omega) c hL
  have x3 := law_ix (i := i) (c := 3) (L := L) (nI_add i 3) (by omega) c hL
  have x4 := law_ix (i := i) (c := 4) (L := L) (nI_add i 4) (by omega) c hL
  have x5 := law_ix (i := i) (c := 5) (L := L) (nI_add i 5) (by omega) c hL
  have x6 := law_ix (i := i) (c := 6) (L := L) (nI_add i 6) (by omega) c hL
  simp only [show nI 1 = 1 from rfl, show nI 2 = 2 from rfl, show nI 3 = 3 from rfl, show nI 4 = 4 from rfl, show nI 5 = 5 from rfl, show nI 6 = 6 from rfl] at x1 x2 x3 x4 x5 x6
  refine (x1 _).mpr ?_
  refine ⟨fun h9 => ?_, fun h9 => ?_⟩
  · refine (law_9 _).mpr ?_
    refine (cg_I (W := fun P => wp_X9_stand (tk 9 0) 0 (put a M) P) (fun y σ1 => ?_)).mpr (op_stand R (b01_0.mpr trivial) (KL L xs f i) k9)
    refine Iff.trans (x1 _) ?_
    refine Iff.trans ⟨fun z => z.1 h9, fun z => ⟨fun _ => z, fun q => absurd h9 q⟩⟩ ?_
    refine Iff.trans (law_10 _) ?_
    refine cg_I (W := fun P => wp_X10_stand (tk 10 0) 0 σ1 P) (fun z σ2 => ?_)
    exact law_eq
  · refine (law_9 _).mpr ?_
    refine (cg_I (W := fun P => wp_X9_stand (tk 9 0) 1 (put a M) P) (fun y σ1 => ?_)).mpr (op_stand R (b01_1.mpr trivial) (KL L xs f i) k9)
    refine Iff.trans (x1 _) ?_
    refine Iff.trans ⟨fun z => z.2 h9, fun z => ⟨fun q => absurd q h9, fun _ => z⟩⟩ ?_
    refine Iff.trans (law_10 _) ?_
    refine cg_I (W := fun P => wp_X10_stand (tk 10 0) 1 σ1 P) (fun z σ2 => ?_)
    exact law_eq
theorem lwc_run (hL : L ≤ 3584) (c : i + 7 ≤ L) (R : Rel 0 a M) (zr : Zr M) (k9 : ∀ a' M', Rel 0 a' M' → (Zr M → Zr M') → KL L xs f i (put a' M')) : ∃ j211, ((nI i) + (1 : Int32)) = nI j211 ∧ j211 < L ∧ wp_L_run (some (tk 9 0)) (xs j211) (some (tk 24 0)) (put a M) (KI (fun x213 σ212 => ∃ j214, ((nI i) + (1 : Int32)) = nI j214 ∧ j214 < L ∧ (tk 10 0) % 32 = 10 ∧ wp_X10_run (tk 10 0) (xs j214) σ212 (KI (fun x216 σ215 => (tk 10 0) % 32 = 10 ∧ wp_X10_thrown (tk 10 0) σ215 (KI (fun x218 σ217 => ((x218 = x213 → ((¬ x213 = 0 → (wp_L_law_1655 L xs (fun z0 z1 z2 z3 ζ => wp_L_law_23 L xs f z0 z1 z2 z3 ζ) (tk 9 0) (tk 10 0) (tk 24 0) (nI i) σ217)) ∧ (x213 = 0 → aty ((tk 24 0) % 32) = some .long ∧ ∃ j219, (0 : Int32) = nI j219 ∧ j219 < aln (tk 24 0) ∧ (((lg_cmp (sL σ217 (tk 24 0) j219) (Int32.toInt64 x216)) = 0 → (wp_L_law_1655 L xs (fun z0 z1 z2 z3 ζ => wp_L_law_23 L xs f z0 z1 z2 z3 ζ) (tk 9 0) (tk 10 0) (tk 24 0) (nI i) σ217)) ∧ (¬ (lg_cmp (sL σ217 (tk 24 0) j219) (Int32.toInt64 x216)) = 0 → (0 : Int32) = 1))))) ∧ (¬ x218 = x213 → (0 : Int32) = 1))) (fun _ _ => False))) (fun _ _ => False))) (fun _ _ => False)) := by
  have x1 := law_ix (i := i) (c := 1) (L := L) (nI_add i 1) (by omega) c hL
  have x2 := law_ix (i := i) (c := 2) (L := L) (nI_add i 2) (by omega) c hL
  have x3 := law_ix (i := i) (c := 3) (L := L) (nI_add i 3) (by omega) c hL
  have x4 := law_ix (i := i) (c := 4) (L := L) (nI_add i 4) (by omega) c hL
  have x5 := law_ix (i := i) (c := 5) (L := L) (nI_add i 5) (by omega) c hL
  have x6 := law_ix (i := i) (c := 6) (L := L) (nI_add i 6) (by omega) c hL
  simp only [show nI 1 = 1 from rfl, show nI 2 = 2 from rfl, show nI 3 = 3 from rfl, show nI 4 = 4 from rfl, show nI 5 = 5 from rfl, show nI 6 = 6 from rfl] at x1 x2 x3 x4 x5 x6
  refine (x1 _).mpr ?_
  refine (cg_I (W := fun P => wp_L_run (some (tk 9 0)) (xs (i + 1)) (some (tk 24 0)) (put a M) P) (fun x σ => ?_)).mpr (opz_run R (xs (i + 1)) (KL L xs f i) k9)
  refine Iff.trans (x1 _) ?_
  refine Iff.trans (law_10 _) ?_
  refine cg_I (W := fun P => wp_X10_run (tk 10 0) (xs (i + 1)) σ P) (fun b σ1 => ?_)
  refine Iff.trans (law_10 _) ?_
  refine cg_I (W := fun P => wp_X10_thrown (tk 10 0) σ1 P) (fun t σ2 => ?_)
  exact law_pq
theorem lwc_hour (hL : L ≤ 3584) (c : i + 7 ≤ L) (R : Rel 0 a M) (zr : Zr M) (k9 : ∀ a' M', Rel 0 a' M' → (Zr M → Zr M') → KL L xs f i (put a' M')) : (tk 9 0) % 32 = 9 ∧ wp_X9_hour (tk 9 0) (put a M) (KI (fun x221 σ220 => (tk 10 0) % 32 = 10 ∧ wp_X10_hour (tk 10 0) σ220 (KI (fun x223 σ222 => ((x221 = x223 → (wp_L_law_2588 L xs (fun z0 z1 z2 z3 ζ => wp_L_law_23 L xs f z0 z1 z2 z3 ζ) (tk 9 0) (tk 10 0) (tk 24 0) (nI i) σ222)) ∧ (¬ x221 = x223 → (0 : Int32) = 1))) (fun _ _ => False))) (fun _ _ => False)) := by
  refine (law_9 _).mpr ?_
  refine (cg_I (W := fun P => wp_X9_hour (tk 9 0) (put a M) P) (fun y σ1 => ?_)).mpr (op_hour R (KL L xs f i) k9)
  refine Iff.trans (law_10 _) ?_
  refine cg_I (W := fun P => wp_X10_hour (tk 10 0) σ1 P) (fun z σ2 => ?_)
  exact law_eq
theorem lwc_batches (hL : L ≤ 3584) (c : i + 7 ≤ L) (R : Rel 0 a M) (zr : Zr M) (k9 : ∀ a' M', Rel 0 a' M' → (Zr M → Zr M') → KL L xs f i (put a' M')) : (tk 9 0) % 32 = 9 ∧ wp_X9_batches (tk 9 0) (put a M) (KI (fun x225 σ224 => (tk 10 0) % 32 = 10 ∧ wp_X10_batches (tk 10 0) σ224 (KI (fun x227 σ226 => ((x225 = x227 → (wp_L_law_2588 L xs (fun z0 z1 z2 z3 ζ => wp_L_law_23 L xs f z0 z1 z2 z3 ζ) (tk 9 0) (tk 10 0) (tk 24 0) (nI i) σ226)) ∧ (¬ x225 = x227 → (0 : Int32) = 1))) (fun _ _ => False))) (fun _ _ => False)) := by
  refine (law_9 _).mpr ?_
  refine (cg_I (W := fun P => wp_X9_batches (tk 9 0) (put a M) P) (fun y σ1 => ?_)).mpr (op_batches R (KL L xs f i) k9)
  refine Iff.trans (law_10 _) ?_
  refine cg_I (W := fun P => wp_X10_batches (tk 10 0) σ1 P) (fun z σ2 => ?_)
  exact law_eq
theorem lwc_batch (hL : L ≤ 3584) (c : i + 7 ≤ L) (R : Rel 0 a M) (zr : Zr M) (k9 : ∀ a' M', Rel 0 a' M' → (Zr M → Zr M') → KL L xs f i (put a' M')) : ∃ j228, ((nI i) + (1 : Int32)) = nI j228 ∧ j228 < L ∧ ∃ j229, ((nI i) + (2 : Int32)) = nI j229 ∧ j229 < L ∧ wp_L_batch (some (tk 9 0)) (xs j228) (xs j229) (some (tk 24 0)) (put a M) (KI (fun x231 σ230 => ∃ j232, ((nI i) + (1 : Int32)) = nI j232 ∧ j232 < L ∧ ∃ j233, ((nI i) + (2 : Int32)) = nI j233 ∧ j233 < L ∧ (tk 10 0) % 32 = 10 ∧ wp_X10_batch (tk 10 0) (xs j232) (xs j233) σ230 (KI (fun x235 σ234 => (tk 10 0) % 32 = 10 ∧ wp_X10_thrown (tk 10 0) σ234 (KI (fun x237 σ236 => ((x237 = x231 → ((¬ x231 = 0 → (wp_L_law_1749 L xs (fun z0 z1 z2 z3 ζ => wp_L_law_23 L xs f z0 z1 z2 z3 ζ) (tk 9 0) (tk 10 0) (tk 24 0) (nI i) σ236)) ∧ (x231 = 0 → aty ((tk 24 0) % 32) = some .long ∧ ∃ j238, (0 : Int32) = nI j238 ∧ j238 < aln (tk 24 0) ∧ (((lg_cmp (sL σ236 (tk 24 0) j238) (Int32.toInt64 x235)) = 0 → (wp_L_law_1749 L xs (fun z0 z1 z2 z3 ζ => wp_L_law_23 L xs f z0 z1 z2 z3 ζ) (tk 9 0) (tk 10 0) (tk 24 0) (nI i) σ236)) ∧ (¬ (lg_cmp (sL σ236 (tk 24 0) j238) (Int32.toInt64 x235)) = 0 → (0 : Int32) = 1))))) ∧ (¬ x237 = x231 → (0 : Int32) = 1))) (fun _ _ => False))) (fun _ _ => False))) (fun _ _ => False)) := by
  have x1 := law_ix (i := i) (c := 1) (L := L) (nI_add i 1) (by omega) c hL
  have x2 := law_ix (i := i) (c := 2) (L := L) (nI_add i 2) (by omega) c hL
  have x3 := law_ix (i := i) (c := 3) (L := L) (nI_add i 3) (by omega) c hL
  have x4 := law_ix (i := i) (c := 4) (L := L) (nI_add i 4) (by omega) c hL
  have x5 := law_ix (i := i) (c := 5) (L := L) (nI_add i 5) (by omega) c hL
  have x6 := law_ix (i := i) (c := 6) (L := L) (nI_add i 6) (by omega) c hL
  simp only [show nI 1 = 1 from rfl, show nI 2 = 2 from rfl, show nI 3 = 3 from rfl, show nI 4 = 4 from rfl, show nI 5 = 5 from rfl, show nI 6 = 6 from rfl] at x1 x2 x3 x4 x5 x6
  refine (x1 _).mpr ?_
  refine (x2 _).mpr ?_
  refine (cg_I (W := fun P => wp_L_batch (some (tk 9 0)) (xs (i + 1)) (xs (i + 2)) (some (tk 24 0)) (put a M) P) (fun x σ => ?_)).mpr (opz_batch R (xs (i + 1)) (xs (i + 2)) (KL L xs f i) k9)
  refine Iff.trans (x1 _) ?_
  refine Iff.trans (x2 _) ?_
  refine Iff.trans (law_10 _) ?_
  refine cg_I (W := fun P => wp_X10_batch (tk 10 0) (xs (i + 1)) (xs (i + 2)) σ P) (fun b σ1 => ?_)
  refine Iff.trans (law_10 _) ?_
  refine cg_I (W := fun P => wp_X10_thrown (tk 10 0) σ1 P) (fun t σ2 => ?_)
  exact law_pq
theorem lwc_parent (hL : L ≤ 3584) (c : i + 7 ≤ L) (R : Rel 0 a M) (zr : Zr M) (k9 : ∀ a' M', Rel 0 a' M' → (Zr M → Zr M') → KL L xs f i (put a' M')) : ∃ j239, ((nI i) + (1 : Int32)) = nI j239 ∧ j239 < L ∧ ∃ j240, ((nI i) + (2 : Int32)) = nI j240 ∧ j240 < L ∧ wp_L_parent (some (tk 9 0)) (xs j239) (xs j240) (some (tk 24 0)) (put a M) (KI (fun x242 σ241 => ∃ j243, ((nI i) + (1 : Int32)) = nI j243 ∧ j243 < L ∧ ∃ j244, ((nI i) + (2 : Int32)) = nI j244 ∧ j244 < L ∧ (tk 10 0) % 32 = 10 ∧ wp_X10_parent (tk 10 0) (xs j243) (xs j244) σ241 (KI (fun x246 σ245 => (tk 10 0) % 32 = 10 ∧ wp_X10_thrown (tk 10 0) σ245 (KI (fun x248 σ247 => ((x248 = x242 → ((¬ x242 = 0 → (wp_L_law_1817 L xs (fun z0 z1 z2 z3 ζ => wp_L_law_23 L xs f z0 z1 z2 z3 ζ) (tk 9 0) (tk 10 0) (tk 24 0) (nI i) σ247)) ∧ (x242 = 0 → aty ((tk 24 0) % 32) = some .long ∧ ∃ j249, (0 : Int32) = nI j249 ∧ j249 < aln (tk 24 0) ∧ (((lg_cmp (sL σ247 (tk 24 0) j249) (Int32.toInt64 x246)) = 0 → (wp_L_law_1817 L xs (fun z0 z1 z2 z3 ζ => wp_L_law_23 L xs f z0 z1 z2 z3 ζ) (tk 9 0) (tk 10 0) (tk 24 0) (nI i) σ247)) ∧ (¬ (lg_cmp (sL σ247 (tk 24 0) j249) (Int32.toInt64 x246)) = 0 → (0 : Int32) = 1))))) ∧ (¬ x248 = x242 → (0 : Int32) = 1))) (fun _ _ => False))) (fun _ _ => False))) (fun _ _ => False)) := by
  have x1 := law_ix (i := i) (c := 1) (L := L) (nI_add i 1) (by omega) c hL
  have x2 := law_ix (i := i) (c := 2) (L := L) (nI_add i 2) (by omega) c hL
  have x3 := law_ix (i := i) (c := 3) (L := L) (nI_add i 3) (by omega) c hL
  have x4 := law_ix (i := i) (c := 4) (L := L) (nI_add i 4) (by omega) c hL
  have x5 := law_ix (i := i) (c := 5) (L := L) (nI_add i 5) (by omega) c hL
  have x6 := law_ix (i := i) (c := 6) (L := L) (nI_add i 6) (by omega) c hL
  simp only [show nI 1 = 1 from rfl, show nI 2 = 2 from rfl, show nI 3 = 3 from rfl, show nI 4 = 4 from rfl, show nI 5 = 5 from rfl, show nI 6 = 6 from rfl] at x1 x2 x3 x4 x5 x6
  refine (x1 _).mpr ?_
  refine (x2 _).mpr ?_
  refine (cg_I (W := fun P => wp_L_parent (some (tk 9 0)) (xs (i + 1)) (xs (i + 2)) (some (tk 24 0)) (put a M) P) (fun x σ => ?_)).mpr (opz_parent R (xs (i + 1)) (xs (i + 2)) (KL L xs f i) k9)
  refine Iff.trans (x1 _) ?_
  refine Iff.trans (x2 _) ?_
  refine Iff.trans (law_10 _) ?_
  refine cg_I (W := fun P => wp_X10_parent (tk 10 0) (xs (i + 1)) (xs (i + 2)) σ P) (fun b σ1 => ?_)
  refine Iff.trans (law_10 _) ?_
  refine cg_I (W := fun P => wp_X10_thrown (tk 10 0) σ1 P) (fun t σ2 => ?_)
  exact law_pq
theorem lwc_origin (hL : L ≤ 3584) (c : i + 7 ≤ L) (R : Rel 0 a M) (zr : Zr M) (k9 : ∀ a' M', Rel 0 a' M' → (Zr M → Zr M') → KL L xs f i (put a' M')) : ∃ j250, ((nI i) + (1 : Int32)) = nI j250 ∧ j250 < L ∧ ∃ j251, ((nI i) + (2 : Int32)) = nI j251 ∧ j251 < L ∧ wp_L_origin (some (tk 9 0)) (xs j250) (xs j251) (some (tk 24 0)) (put a M) (KI (fun x253 σ252 => ∃ j254, ((nI i) + (1 : Int32)) = nI j254 ∧ j254 < L ∧ ∃ j255, ((nI i) + (2 : Int32)) = nI j255 ∧ j255 < L ∧ (tk 10 0) % 32 = 10 ∧ wp_X10_origin (tk 10 0) (xs j254) (xs j255) σ252 (KI (fun x257 σ256 => (tk 10 0) % 32 = 10 ∧ wp_X10_thrown (tk 10 0) σ256 (KI (fun x259 σ258 => ((x259 = x253 → ((¬ x253 = 0 → (wp_L_law_1885 L xs (fun z0 z1 z2 z3 ζ => wp_L_law_23 L xs f z0 z1 z2 z3 ζ) (tk 9 0) (tk 10 0) (tk 24 0) (nI i) σ258)) ∧ (x253 = 0 → aty ((tk 24 0) % 32) = some .long ∧ ∃ j260, (0 : Int32) = nI j260 ∧ j260 < aln (tk 24 0) ∧ (((lg_cmp (sL σ258 (tk 24 0) j260) (Int32.toInt64 x257)) = 0 → (wp_L_law_1885 L xs (fun z0 z1 z2 z3 ζ => wp_L_law_23 L xs f z0 z1 z2 z3 ζ) (tk 9 0) (tk 10 0) (tk 24 0) (nI i) σ258)) ∧ (¬ (lg_cmp (sL σ258 (tk 24 0) j260) (Int32.toInt64 x257)) = 0 → (0 : Int32) = 1))))) ∧ (¬ x259 = x253 → (0 : Int32) = 1))) (fun _ _ => False))) (fun _ _ => False))) (fun _ _ => False)) := by
  have x1 := law_ix (i := i) (c := 1) (L := L) (nI_add i 1) (by omega) c hL
  have x2 := law_ix (i := i) (c := 2) (L := L) (nI_add i 2) (by omega) c hL
  have x3 := law_ix (i := i) (c := 3) (L := L) (nI_add i 3) (by omega) c hL
  have x4 := law_ix (i := i) (c := 4) (L := L) (nI_add i 4) (by omega) c hL
  have x5 := law_ix (i := i) (c := 5) (L := L) (nI_add i 5) (by omega) c hL
  have x6 := law_ix (i := i) (c := 6) (L := L) (nI_add i 6) (by omega) c hL
  simp only [show nI 1 = 1 from rfl, show nI 2 = 2 from rfl, show nI 3 = 3 from rfl, show nI 4 = 4 from rfl, show nI 5 = 5 from rfl, show nI 6 = 6 from rfl] at x1 x2 x3 x4 x5 x6
  refine (x1 _).mpr ?_
  refine (x2 _).mpr ?_
  refine (cg_I (W := fun P => wp_L_origin (some (tk 9 0)) (xs (i + 1)) (xs (i + 2)) (some (tk 24 0)) (put a M) P) (fun x σ => ?_)).mpr (opz_origin R (xs (i + 1)) (xs (i + 2)) (KL L xs f i) k9)
  refine Iff.trans (x1 _) ?_
  refine Iff.trans (x2 _) ?_
  refine Iff.trans (law_10 _) ?_
  refine cg_I (W := fun P => wp_X10_origin (tk 10 0) (xs (i + 1)) (xs (i + 2)) σ P) (fun b σ1 => ?_)
  refine Iff.trans (law_10 _) ?_
  refine cg_I (W := fun P => wp_X10_thrown (tk 10 0) σ1 P) (fun t σ2 => ?_)
  exact law_pq
theorem lwc_machine (hL : L ≤ 3584) (c : i + 7 ≤ L) (R : Rel 0 a M) (zr : Zr M) (k9 : ∀ a' M', Rel 0 a' M' → (Zr M → Zr M') → KL L xs f i (put a' M')) : ∃ j261, ((nI i) + (1 : Int32)) = nI j261 ∧ j261 < L ∧ ∃ j262, ((nI i) + (2 : Int32)) = nI j262 ∧ j262 < L ∧ wp_L_machine (some (tk 9 0)) (xs j261) (xs j262) (some (tk 24 0)) (put a M) (KI (fun x264 σ263 => ∃ j265, ((nI i) + (1 : Int32)) = nI j265 ∧ j265 < L ∧ ∃ j266, ((nI i) + (2 : Int32)) = nI j266 ∧ j266 < L ∧ (tk 10 0) % 32 = 10 ∧ wp_X10_machine (tk 10 0) (xs j265) (xs j266) σ263 (KI (fun x268 σ267 => (tk 10 0) % 32 = 10 ∧ wp_X10_thrown (tk 10 0) σ267 (KI (fun x270 σ269 => ((x270 = x264 → ((¬ x264 = 0 → (wp_L_law_1953 L xs (fun z0 z1 z2 z3 ζ => wp_L_law_23 L xs f z0 z1 z2 z3 ζ) (tk 9 0) (tk 10 0) (tk 24 0) (nI i) σ269)) ∧ (x264 = 0 → aty ((tk 24 0) % 32) = some .long ∧ ∃ j271, (0 : Int32) = nI j271 ∧ j271 < aln (tk 24 0) ∧ (((lg_cmp (sL σ269 (tk 24 0) j271) (Int32.toInt64 x268)) = 0 → (wp_L_law_1953 L xs (fun z0 z1 z2 z3 ζ => wp_L_law_23 L xs f z0 z1 z2 z3 ζ) (tk 9 0) (tk 10 0) (tk 24 0) (nI i) σ269)) ∧ (¬ (lg_cmp (sL σ269 (tk 24 0) j271) (Int32.toInt64 x268)) = 0 → (0 : Int32) = 1))))) ∧ (¬ x270 = x264 → (0 : Int32) = 1))) (fun _ _ => False))) (fun _ _ => False))) (fun _ _ => False)) := by
  have x1 := law_ix (i := i) (c := 1) (L := L) (nI_add i 1) (by omega) c hL
  have x2 := law_ix (i := i) (c := 2) (L := L) (nI_add i 2) (by omega) c hL
  have x3 := law_ix (i := i) (c := 3) (L := L) (nI_add i 3) (by omega) c hL
  have x4 := law_ix (i := i) (c := 4) (L := L) (nI_add i 4) (by omega) c hL
  have x5 := law_ix (i := i) (c := 5) (L := L) (nI_add i 5) (by omega) c hL
  have x6 := law_ix (i := i) (c := 6) (L := L) (nI_add i 6) (by omega) c hL
  simp only [show nI 1 = 1 from rfl, show nI 2 = 2 from rfl, show nI 3 = 3 from rfl, show nI 4 = 4 from rfl, show nI 5 = 5 from rfl, show nI 6 = 6 from rfl] at x1 x2 x3 x4 x5 x6
  refine (x1 _).mpr ?_
  refine (x2 _).mpr ?_
  refine (cg_I (W := fun P => wp_L_machine (some (tk 9 0)) (xs (i + 1)) (xs (i + 2)) (some (tk 24 0)) (put a M) P) (fun x σ => ?_)).mpr (opz_machine R (xs (i + 1)) (xs (i + 2)) (KL L xs f i) k9)
  refine Iff.trans (x1 _) ?_
  refine Iff.trans (x2 _) ?_
  refine Iff.trans (law_10 _) ?_
  refine cg_I (W := fun P => wp_X10_machine (tk 10 0) (xs (i + 1)) (xs (i + 2)) σ P) (fun b σ1 => ?_)
  refine Iff.trans (law_10 _) ?_
  refine cg_I (W := fun P => wp_X10_thrown (tk 10 0) σ1 P) (fun t σ2 => ?_)
  exact law_pq
theorem lwc_level (hL : L ≤ 3584) (c : i + 7 ≤ L) (R : Rel 0 a M) (zr : Zr M) (k9 : ∀ a' M', Rel 0 a' M' → (Zr M → Zr M') → KL L xs f i (put a' M')) : ∃ j272, ((nI i) + (1 : Int32)) = nI j272 ∧ j272 < L ∧ ∃ j273, ((nI i) + (2 : Int32)) = nI j273 ∧ j273 < L ∧ wp_L_level (some (tk 9 0)) (xs j272) (xs j273) (some (tk 24 0)) (put a M) (KI (fun x275 σ274 => ∃ j276, ((nI i) + (1 : Int32)) = nI j276 ∧ j276 < L ∧ ∃ j277, ((nI i) + (2 : Int32)) = nI j277 ∧ j277 < L ∧ (tk 10 0) % 32 = 10 ∧ wp_X10_level (tk 10 0) (xs j276) (xs j277) σ274 (KI (fun x279 σ278 => (tk 10 0) % 32 = 10 ∧ wp_X10_thrown (tk 10 0) σ278 (KI (fun x281 σ280 => ((x281 = x275 → ((¬ x275 = 0 → (wp_L_law_2021 L xs (fun z0 z1 z2 z3 ζ => wp_L_law_23 L xs f z0 z1 z2 z3 ζ) (tk 9 0) (tk 10 0) (tk 24 0) (nI i) σ280)) ∧ (x275 = 0 → aty ((tk 24 0) % 32) = some .long ∧ ∃ j282, (0 : Int32) = nI j282 ∧ j282 < aln (tk 24 0) ∧ (((lg_cmp (sL σ280 (tk 24 0) j282) (Int32.toInt64 x279)) = 0 → (wp_L_law_2021 L xs (fun z0 z1 z2 z3 ζ => wp_L_law_23 L xs f z0 z1 z2 z3 ζ) (tk 9 0) (tk 10 0) (tk 24 0) (nI i) σ280)) ∧ (¬ (lg_cmp (sL σ280 (tk 24 0) j282) (Int32.toInt64 x279)) = 0 → (0 : Int32) = 1))))) ∧ (¬ x281 = x275 → (0 : Int32) = 1))) (fun _ _ => False))) (fun _ _ => False))) (fun _ _ => False)) := by
  have x1 := law_ix (i := i) (c := 1) (L := L) (nI_add i 1) (by omega) c hL
  have x2 := law_ix (i := i) (c := 2) (L := L) (nI_add i 2) (by omega) c hL
  have x3 := law_ix (i := i) (c := 3) (L := L) (nI_add i 3) (by omega) c hL
  have x4 := law_ix (i := i) (c := 4) (L := L) (nI_add i 4) (by omega) c hL
  have x5 := law_ix (i := i) (c := 5) (L := L) (nI_add i 5) (by omega) c hL
  have x6 := law_ix (i := i) (c := 6) (L := L) (nI_add i 6) (by omega) c hL
  simp only [show nI 1 = 1 from rfl, show nI 2 = 2 from rfl, show nI 3 = 3 from rfl, show nI 4 = 4 from rfl, show nI 5 = 5 from rfl, show nI 6 = 6 from rfl] at x1 x2 x3 x4 x5 x6
  refine (x1 _).mpr ?_
  refine (x2 _).mpr ?_
  refine (cg_I (W := fun P => wp_L_level (some (tk 9 0)) (xs (i + 1)) (xs (i + 2)) (some (tk 24 0)) (put a M) P) (fun x σ => ?_)).mpr (opz_level R (xs (i + 1)) (xs (i + 2)) (KL L xs f i) k9)
  refine Iff.trans (x1 _) ?_
  refine Iff.trans (x2 _) ?_
  refine Iff.trans (law_10 _) ?_
  refine cg_I (W := fun P => wp_X10_level (tk 10 0) (xs (i + 1)) (xs (i + 2)) σ P) (fun b σ1 => ?_)
  refine Iff.trans (law_10 _) ?_
  refine cg_I (W := fun P => wp_X10_thrown (tk 10 0) σ1 P) (fun t σ2 => ?_)
  exact law_pq
theorem lwc_machineOf (hL : L ≤ 3584) (c : i + 7 ≤ L) (R : Rel 0 a M) (zr : Zr M) (k9 : ∀ a' M', Rel 0 a' M' → (Zr M → Zr M') → KL L xs f i (put a' M')) : ∃ j283, ((nI i) + (1 : Int32)) = nI j283 ∧ j283 < L ∧ wp_L_machineOf (some (tk 9 0)) (xs j283) (some (tk 24 0)) (put a M) (KI (fun x285 σ284 => ∃ j286, ((nI i) + (1 : Int32)) = nI j286 ∧ j286 < L ∧ (tk 10 0) % 32 = 10 ∧ wp_X10_machineOf (tk 10 0) (xs j286) σ284 (KI (fun x288 σ287 => (tk 10 0) % 32 = 10 ∧ wp_X10_thrown (tk 10 0) σ287 (KI (fun x290 σ289 => ((x290 = x285 → ((¬ x285 = 0 → (wp_L_law_2077 L xs (fun z0 z1 z2 z3 ζ => wp_L_law_23 L xs f z0 z1 z2 z3 ζ) (tk 9 0) (tk 10 0) (tk 24 0) (nI i) σ289)) ∧ (x285 = 0 → aty ((tk 24 0) % 32) = some .long ∧ ∃ j291, (0 : Int32) = nI j291 ∧ j291 < aln (tk 24 0) ∧ (((lg_cmp (sL σ289 (tk 24 0) j291) (Int32.toInt64 x288)) = 0 → (wp_L_law_2077 L xs (fun z0 z1 z2 z3 ζ => wp_L_law_23 L xs f z0 z1 z2 z3 ζ) (tk 9 0) (tk 10 0) (tk 24 0) (nI i) σ289)) ∧ (¬ (lg_cmp (sL σ289 (tk 24 0) j291) (Int32.toInt64 x288)) = 0 → (0 : Int32) = 1))))) ∧ (¬ x290 = x285 → (0 : Int32) = 1))) (fun _ _ => False))) (fun _ _ => False))) (fun _ _ => False)) := by
  have x1 := law_ix (i := i) (c := 1) (L := L) (nI_add i 1) (by omega) c hL
  have x2 := law_ix (i := i) (c := 2) (L := L) (nI_add i 2) (by omega) c hL
  have x3 := law_ix (i := i) (c := 3) (L := L) (nI_add i 3) (by omega) c hL
  have x4 := law_ix (i := i) (c := 4) (L := L) (nI_add i 4) (by omega) c hL
  have x5 := law_ix (i := i) (c := 5) (L := L) (nI_add i 5) (by omega) c hL
  have x6 := law_ix (i := i) (c := 6) (L := L) (nI_add i 6) (by omega) c hL
  simp only [show nI 1 = 1 from rfl, show nI 2 = 2 from rfl, show nI 3 = 3 from rfl, show nI 4 = 4 from rfl, show nI 5 = 5 from rfl, show nI 6 = 6 from rfl] at x1 x2 x3 x4 x5 x6
  refine (x1 _).mpr ?_
  refine (cg_I (W := fun P => wp_L_machineOf (some (tk 9 0)) (xs (i + 1)) (some (tk 24 0)) (put a M) P) (fun x σ => ?_)).mpr (opz_machineOf R (xs (i + 1)) (KL L xs f i) k9)
  refine Iff.trans (x1 _) ?_
  refine Iff.trans (law_10 _) ?_
  refine cg_I (W := fun P => wp_X10_machineOf (tk 10 0) (xs (i + 1)) σ P) (fun b σ1 => ?_)
  refine Iff.trans (law_10 _) ?_
  refine cg_I (W := fun P => wp_X10_thrown (tk 10 0) σ1 P) (fun t σ2 => ?_)
  exact law_pq
theorem lwc_store (hL : L ≤ 3584) (c : i + 7 ≤ L) (R : Rel 0 a M) (zr : Zr M) (k9 : ∀ a' M', Rel 0 a' M' → (Zr M → Zr M') → KL L xs f i (put a' M')) : ∃ j292, ((nI i) + (1 : Int32)) = nI j292 ∧ j292 < L ∧ ∃ j293, ((nI i) + (2 : Int32)) = nI j293 ∧ j293 < L ∧ wp_L_store (some (tk 9 0)) (xs j292) (xs j293) (some (tk 24 0)) (put a M) (KI (fun x295 σ294 => ∃ j296, ((nI i) + (1 : Int32)) = nI j296 ∧ j296 < L ∧ ∃ j297, ((nI i) + (2 : Int32)) = nI j297 ∧ j297 < L ∧ (tk 10 0) % 32 = 10 ∧ wp_X10_store (tk 10 0) (xs j296) (xs j297) σ294 (KI (fun x299 σ298 => (tk 10 0) % 32 = 10 ∧ wp_X10_thrown (tk 10 0) σ298 (KI (fun x301 σ300 => ((x301 = x295 → ((¬ x295 = 0 → (wp_L_law_2145 L xs (fun z0 z1 z2 z3 ζ => wp_L_law_23 L xs f z0 z1 z2 z3 ζ) (tk 9 0) (tk 10 0) (tk 24 0) (nI i) σ300)) ∧ (x295 = 0 → aty ((tk 24 0) % 32) = some .long ∧ ∃ j302, (0 : Int32) = nI j302 ∧ j302 < aln (tk 24 0) ∧ (((lg_cmp (sL σ300 (tk 24 0) j302) (Int32.toInt64 x299)) = 0 → (wp_L_law_2145 L xs (fun z0 z1 z2 z3 ζ => wp_L_law_23 L xs f z0 z1 z2 z3 ζ) (tk 9 0) (tk 10 0) (tk 24 0) (nI i) σ300)) ∧ (¬ (lg_cmp (sL σ300 (tk 24 0) j302) (Int32.toInt64 x299)) = 0 → (0 : Int32) = 1))))) ∧ (¬ x301 = x295 → (0 : Int32) = 1))) (fun _ _ => False))) (fun _ _ => False))) (fun _ _ => False)) := by
  have x1 := law_ix (i := i) (c := 1) (L := L) (nI_add i 1) (by omega) c hL
  have x2 := law_ix (i := i) (c := 2) (L := L) (nI_add i 2) (by omega) c hL
  have x3 := law_ix (i := i) (c := 3) (L := L) (nI_add i 3) (by omega) c hL
  have x4 := law_ix (i := i) (c := 4) (L := L) (nI_add i 4) (by omega) c hL
  have x5 := law_ix (i := i) (c := 5) (L := L) (nI_add i 5) (by omega) c hL
  have x6 := law_ix (i := i) (c := 6) (L := L) (nI_add i 6) (by omega) c hL
  simp only [show nI 1 = 1 from rfl, show nI 2 = 2 from rfl, show nI 3 = 3 from rfl, show nI 4 = 4 from rfl, show nI 5 = 5 from rfl, show nI 6 = 6 from rfl] at x1 x2 x3 x4 x5 x6
  refine (x1 _).mpr ?_
  refine (x2 _).mpr ?_
  refine (cg_I (W := fun P => wp_L_store (some (tk 9 0)) (xs (i + 1)) (xs (i + 2)) (some (tk 24 0)) (put a M) P) (fun x σ => ?_)).mpr (opz_store R (xs (i + 1)) (xs (i + 2)) (KL L xs f i) k9)
  refine Iff.trans (x1 _) ?_
  refine Iff.trans (x2 _) ?_
  refine Iff.trans (law_10 _) ?_
  refine cg_I (W := fun P => wp_X10_store (tk 10 0) (xs (i + 1)) (xs (i + 2)) σ P) (fun b σ1 => ?_)
  refine Iff.trans (law_10 _) ?_
  refine cg_I (W := fun P => wp_X10_thrown (tk 10 0) σ1 P) (fun t σ2 => ?_)
  exact law_pq
theorem lwc_queue (hL : L ≤ 3584) (c : i + 7 ≤ L) (R : Rel 0 a M) (zr : Zr M) (k9 : ∀ a' M', Rel 0 a' M' → (Zr M → Zr M') → KL L xs f i (put a' M')) : ∃ j303, ((nI i) + (1 : Int32)) = nI j303 ∧ j303 < L ∧ wp_L_queue (some (tk 9 0)) (xs j303) (some (tk 24 0)) (put a M) (KI (fun x305 σ304 => ∃ j306, ((nI i) + (1 : Int32)) = nI j306 ∧ j306 < L ∧ (tk 10 0) % 32 = 10 ∧ wp_X10_queue (tk 10 0) (xs j306) σ304 (KI (fun x308 σ307 => (tk 10 0) % 32 = 10 ∧ wp_X10_thrown (tk 10 0) σ307 (KI (fun x310 σ309 => ((x310 = x305 → ((¬ x305 = 0 → (wp_L_law_2201 L xs (fun z0 z1 z2 z3 ζ => wp_L_law_23 L xs f z0 z1 z2 z3 ζ) (tk 9 0) (tk 10 0) (tk 24 0) (nI i) σ309)) ∧ (x305 = 0 → aty ((tk 24 0) % 32) = some .long ∧ ∃ j311, (0 : Int32) = nI j311 ∧ j311 < aln (tk 24 0) ∧ (((lg_cmp (sL σ309 (tk 24 0) j311) (Int32.toInt64 x308)) = 0 → (wp_L_law_2201 L xs (fun z0 z1 z2 z3 ζ => wp_L_law_23 L xs f z0 z1 z2 z3 ζ) (tk 9 0) (tk 10 0) (tk 24 0) (nI i) σ309)) ∧ (¬ (lg_cmp (sL σ309 (tk 24 0) j311) (Int32.toInt64 x308)) = 0 → (0 : Int32) = 1))))) ∧ (¬ x310 = x305 → (0 : Int32) = 1))) (fun _ _ => False))) (fun _ _ => False))) (fun _ _ => False)) := by
  have x1 := law_ix (i := i) (c := 1) (L := L) (nI_add i 1) (by omega) c hL
  have x2 := law_ix (i := i) (c := 2) (L := L) (nI_add i 2) (by omega) c hL
  have x3 := law_ix (i := i) (c := 3) (L := L) (nI_add i 3) (by omega) c hL
  have x4 := law_ix (i := i) (c := 4) (L := L) (nI_add i 4) (by omega) c hL
  have x5 := law_ix (i := i) (c := 5) (L := L) (nI_add i 5) (by omega) c hL
  have x6 := law_ix (i := i) (c := 6) (L := L) (nI_add i 6) (by omega) c hL
  simp only [show nI 1 = 1 from rfl, show nI 2 = 2 from rfl, show nI 3 = 3 from rfl, show nI 4 = 4 from rfl, show nI 5 = 5 from rfl, show nI 6 = 6 from rfl] at x1 x2 x3 x4 x5 x6
  refine (x1 _).mpr ?_
  refine (cg_I (W := fun P => wp_L_queue (some (tk 9 0)) (xs (i + 1)) (some (tk 24 0)) (put a M) P) (fun x σ => ?_)).mpr (opz_queue R (xs (i + 1)) (KL L xs f i) k9)
  refine Iff.trans (x1 _) ?_
  refine Iff.trans (law_10 _) ?_
  refine cg_I (W := fun P => wp_X10_queue (tk 10 0) (xs (i + 1)) σ P) (fun b σ1 => ?_)
  refine Iff.trans (law_10 _) ?_
  refine cg_I (W := fun P => wp_X10_thrown (tk 10 0) σ1 P) (fun t σ2 => ?_)
  exact law_pq
theorem lwc_queued (hL : L ≤ 3584) (c : i + 7 ≤ L) (R : Rel 0 a M) (zr : Zr M) (k9 : ∀ a' M', Rel 0 a' M' → (Zr M → Zr M') → KL L xs f i (put a' M')) : ∃ j312, ((nI i) + (1 : Int32)) = nI j312 ∧ j312 < L ∧ ∃ j313, ((nI i) + (2 : Int32)) = nI j313 ∧ j313 < L ∧ wp_L_queued (some (tk 9 0)) (xs j312) (xs j313) (some (tk 24 0)) (put a M) (KI (fun x315 σ314 => ∃ j316, ((nI i) + (1 : Int32)) = nI j316 ∧ j316 < L ∧ ∃ j317, ((nI i) + (2 : Int32)) = nI j317 ∧ j317 < L ∧ (tk 10 0) % 32 = 10 ∧ wp_X10_queued (tk 10 0) (xs j316) (xs j317) σ314 (KI (fun x319 σ318 => (tk 10 0) % 32 = 10 ∧ wp_X10_thrown (tk 10 0) σ318 (KI (fun x321 σ320 => ((x321 = x315 → ((¬ x315 = 0 → (wp_L_law_2269 L xs (fun z0 z1 z2 z3 ζ => wp_L_law_23 L xs f z0 z1 z2 z3 ζ) (tk 9 0) (tk 10 0) (tk 24 0) (nI i) σ320)) ∧ (x315 = 0 → aty ((tk 24 0) % 32) = some .long ∧ ∃ j322, (0 : Int32) = nI j322 ∧ j322 < aln (tk 24 0) ∧ (((lg_cmp (sL σ320 (tk 24 0) j322) (Int32.toInt64 x319)) = 0 → (wp_L_law_2269 L xs (fun z0 z1 z2 z3 ζ => wp_L_law_23 L xs f z0 z1 z2 z3 ζ) (tk 9 0) (tk 10 0) (tk 24 0) (nI i) σ320)) ∧ (¬ (lg_cmp (sL σ320 (tk 24 0) j322) (Int32.toInt64 x319)) = 0 → (0 : Int32) = 1))))) ∧ (¬ x321 = x315 → (0 : Int32) = 1))) (fun _ _ => False))) (fun _ _ => False))) (fun _ _ => False)) := by
  have x1 := law_ix (i := i) (c := 1) (L := L) (nI_add i 1) (by omega) c hL
  have x2 := law_ix (i := i) (c := 2) (L := L) (nI_add i 2) (by omega) c hL
  have x3 := law_ix (i := i) (c := 3) (L := L) (nI_add i 3) (by omega) c hL
  have x4 := law_ix (i := i) (c := 4) (L := L) (nI_add i 4) (by omega) c hL
  have x5 := law_ix (i := i) (c := 5) (L := L) (nI_add i 5) (by omega) c hL
  have x6 := law_ix (i := i) (c := 6) (L := L) (nI_add i 6) (by omega) c hL
  simp only [show nI 1 = 1 from rfl, show nI 2 = 2 from rfl, show nI 3 = 3 from rfl, show nI 4 = 4 from rfl, show nI 5 = 5 from rfl, show nI 6 = 6 from rfl] at x1 x2 x3 x4 x5 x6
  refine (x1 _).mpr ?_
  refine (x2 _).mpr ?_
  refine (cg_I (W := fun P => wp_L_queued (some (tk 9 0)) (xs (i + 1)) (xs (i + 2)) (some (tk 24 0)) (put a M) P) (fun x σ => ?_)).mpr (opz_queued R (xs (i + 1)) (xs (i + 2)) (KL L xs f i) k9)
  refine Iff.trans (x1 _) ?_
  refine Iff.trans (x2 _) ?_
  refine Iff.trans (law_10 _) ?_
  refine cg_I (W := fun P => wp_X10_queued (tk 10 0) (xs (i + 1)) (xs (i + 2)) σ P) (fun b σ1 => ?_)
  refine Iff.trans (law_10 _) ?_
  refine cg_I (W := fun P => wp_X10_thrown (tk 10 0) σ1 P) (fun t σ2 => ?_)
  exact law_pq
theorem lwc_told (hL : L ≤ 3584) (c : i + 7 ≤ L) (R : Rel 0 a M) (zr : Zr M) (k9 : ∀ a' M', Rel 0 a' M' → (Zr M → Zr M') → KL L xs f i (put a' M')) : ∃ j323, ((nI i) + (1 : Int32)) = nI j323 ∧ j323 < L ∧ ∃ j324, ((nI i) + (2 : Int32)) = nI j324 ∧ j324 < L ∧ wp_L_told (some (tk 9 0)) (xs j323) (xs j324) (some (tk 24 0)) (put a M) (KI (fun x326 σ325 => ∃ j327, ((nI i) + (1 : Int32)) = nI j327 ∧ j327 < L ∧ ∃ j328, ((nI i) + (2 : Int32)) = nI j328 ∧ j328 < L ∧ (tk 10 0) % 32 = 10 ∧ wp_X10_told (tk 10 0) (xs j327) (xs j328) σ325 (KI (fun x330 σ329 => (tk 10 0) % 32 = 10 ∧ wp_X10_thrown (tk 10 0) σ329 (KI (fun x332 σ331 => ((x332 = x326 → ((¬ x326 = 0 → (wp_L_law_2337 L xs (fun z0 z1 z2 z3 ζ => wp_L_law_23 L xs f z0 z1 z2 z3 ζ) (tk 9 0) (tk 10 0) (tk 24 0) (nI i) σ331)) ∧ (x326 = 0 → aty ((tk 24 0) % 32) = some .long ∧ ∃ j333, (0 : Int32) = nI j333 ∧ j333 < aln (tk 24 0) ∧ (((lg_cmp (sL σ331 (tk 24 0) j333) (Int32.toInt64 x330)) = 0 → (wp_L_law_2337 L xs (fun z0 z1 z2 z3 ζ => wp_L_law_23 L xs f z0 z1 z2 z3 ζ) (tk 9 0) (tk 10 0) (tk 24 0) (nI i) σ331)) ∧ (¬ (lg_cmp (sL σ331 (tk 24 0) j333) (Int32.toInt64 x330)) = 0 → (0 : Int32) = 1))))) ∧ (¬ x332 = x326 → (0 : Int32) = 1))) (fun _ _ => False))) (fun _ _ => False))) (fun _ _ => False)) := by
  have x1 := law_ix (i := i) (c := 1) (L := L) (nI_add i 1) (by omega) c hL
  have x2 := law_ix (i := i) (c := 2) (L := L) (nI_add i 2) (by omega) c hL
  have x3 := law_ix (i := i) (c := 3) (L := L) (nI_add i 3) (by omega) c hL
  have x4 := law_ix (i := i) (c := 4) (L := L) (nI_add i 4) (by omega) c hL
  have x5 := law_ix (i := i) (c := 5) (L := L) (nI_add i 5) (by omega) c hL
  have x6 := law_ix (i := i) (c := 6) (L := L) (nI_add i 6) (by omega) c hL
  simp only [show nI 1 = 1 from rfl, show nI 2 = 2 from rfl, show nI 3 = 3 from rfl, show nI 4 = 4 from rfl, show nI 5 = 5 from rfl, show nI 6 = 6 from rfl] at x1 x2 x3 x4 x5 x6
  refine (x1 _).mpr ?_
  refine (x2 _).mpr ?_
  refine (cg_I (W := fun P => wp_L_told (some (tk 9 0)) (xs (i + 1)) (xs (i + 2)) (some (tk 24 0)) (put a M) P) (fun x σ => ?_)).mpr (opz_told R (xs (i + 1)) (xs (i + 2)) (KL L xs f i) k9)
  refine Iff.trans (x1 _) ?_
  refine Iff.trans (x2 _) ?_
  refine Iff.trans (law_10 _) ?_
  refine cg_I (W := fun P => wp_X10_told (tk 10 0) (xs (i + 1)) (xs (i + 2)) σ P) (fun b σ1 => ?_)
  refine Iff.trans (law_10 _) ?_
  refine cg_I (W := fun P => wp_X10_thrown (tk 10 0) σ1 P) (fun t σ2 => ?_)
  exact law_pq
theorem lwc_why (hL : L ≤ 3584) (c : i + 7 ≤ L) (R : Rel 0 a M) (zr : Zr M) (k9 : ∀ a' M', Rel 0 a' M' → (Zr M → Zr M') → KL L xs f i (put a' M')) : ∃ j334, ((nI i) + (1 : Int32)) = nI j334 ∧ j334 < L ∧ ∃ j335, ((nI i) + (2 : Int32)) = nI j335 ∧ j335 < L ∧ wp_L_why (some (tk 9 0)) (xs j334) (xs j335) (some (tk 24 0)) (put a M) (KI (fun x337 σ336 => ∃ j338, ((nI i) + (1 : Int32)) = nI j338 ∧ j338 < L ∧ ∃ j339, ((nI i) + (2 : Int32)) = nI j339 ∧ j339 < L ∧ (tk 10 0) % 32 = 10 ∧ wp_X10_why (tk 10 0) (xs j338) (xs j339) σ336 (KI (fun x341 σ340 => (tk 10 0) % 32 = 10 ∧ wp_X10_thrown (tk 10 0) σ340 (KI (fun x343 σ342 => ((x343 = x337 → ((¬ x337 = 0 → (wp_L_law_2405 L xs (fun z0 z1 z2 z3 ζ => wp_L_law_23 L xs f z0 z1 z2 z3 ζ) (tk 9 0) (tk 10 0) (tk 24 0) (nI i) σ342)) ∧ (x337 = 0 → aty ((tk 24 0) % 32) = some .long ∧ ∃ j344, (0 : Int32) = nI j344 ∧ j344 < aln (tk 24 0) ∧ (((lg_cmp (sL σ342 (tk 24 0) j344) (Int32.toInt64 x341)) = 0 → (wp_L_law_2405 L xs (fun z0 z1 z2 z3 ζ => wp_L_law_23 L xs f z0 z1 z2 z3 ζ) (tk 9 0) (tk 10 0) (tk 24 0) (nI i) σ342)) ∧ (¬ (lg_cmp (sL σ342 (tk 24 0) j344) (Int32.toInt64 x341)) = 0 → (0 : Int32) = 1))))) ∧ (¬ x343 = x337 → (0 : Int32) = 1))) (fun _ _ => False))) (fun _ _ => False))) (fun _ _ => False)) := by
  have x1 := law_ix (i := i) (c := 1) (L := L) (nI_add i 1) (by omega) c hL
  have x2 := law_ix (i := i) (c := 2) (L := L) (nI_add i 2) (by omega) c hL
  have x3 := law_ix (i := i) (c := 3) (L := L) (nI_add i 3) (by omega) c hL
  have x4 := law_ix (i := i) (c := 4) (L := L) (nI_add i 4) (by omega) c hL
  have x5 := law_ix (i := i) (c := 5) (L := L) (nI_add i 5) (by omega) c hL
  have x6 := law_ix (i := i) (c := 6) (L := L) (nI_add i 6) (by omega) c hL
  simp only [show nI 1 = 1 from rfl, show nI 2 = 2 from rfl, show nI 3 = 3 from rfl, show nI 4 = 4 from rfl, show nI 5 = 5 from rfl, show nI 6 = 6 from rfl] at x1 x2 x3 x4 x5 x6
  refine (x1 _).mpr ?_
  refine (x2 _).mpr ?_
  refine (cg_I (W := fun P => wp_L_why (some (tk 9 0)) (xs (i + 1)) (xs (i + 2)) (some (tk 24 0)) (put a M) P) (fun x σ => ?_)).mpr (opz_why R (xs (i + 1)) (xs (i + 2)) (KL L xs f i) k9)
  refine Iff.trans (x1 _) ?_
  refine Iff.trans (x2 _) ?_
  refine Iff.trans (law_10 _) ?_
  refine cg_I (W := fun P => wp_X10_why (tk 10 0) (xs (i + 1)) (xs (i + 2)) σ P) (fun b σ1 => ?_)
  refine Iff.trans (law_10 _) ?_
  refine cg_I (W := fun P => wp_X10_thrown (tk 10 0) σ1 P) (fun t σ2 => ?_)
  exact law_pq
theorem lwc_latest (hL : L ≤ 3584) (c : i + 7 ≤ L) (R : Rel 0 a M) (zr : Zr M) (k9 : ∀ a' M', Rel 0 a' M' → (Zr M → Zr M') → KL L xs f i (put a' M')) : ∃ j345, ((nI i) + (1 : Int32)) = nI j345 ∧ j345 < L ∧ ∃ j346, ((nI i) + (2 : Int32)) = nI j346 ∧ j346 < L ∧ wp_L_latest (some (tk 9 0)) (xs j345) (xs j346) (some (tk 24 0)) (put a M) (KI (fun x348 σ347 => ∃ j349, ((nI i) + (1 : Int32)) = nI j349 ∧ j349 < L ∧ ∃ j350, ((nI i) + (2 : Int32)) = nI j350 ∧ j350 < L ∧ (tk 10 0) % 32 = 10 ∧ wp_X10_latest (tk 10 0) (xs j349) (xs j350) σ347 (KI (fun x352 σ351 => (tk 10 0) % 32 = 10 ∧ wp_X10_thrown (tk 10 0) σ351 (KI (fun x354 σ353 => ((x354 = x348 → ((¬ x348 = 0 → (wp_L_law_2473 L xs (fun z0 z1 z2 z3 ζ => wp_L_law_23 L xs f z0 z1 z2 z3 ζ) (tk 9 0) (tk 10 0) (tk 24 0) (nI i) σ353)) ∧ (x348 = 0 → aty ((tk 24 0) % 32) = some .long ∧ ∃ j355, (0 : Int32) = nI j355 ∧ j355 < aln (tk 24 0) ∧ (((lg_cmp (sL σ353 (tk 24 0) j355) (Int32.toInt64 x352)) = 0 → (wp_L_law_2473 L xs (fun z0 z1 z2 z3 ζ => wp_L_law_23 L xs f z0 z1 z2 z3 ζ) (tk 9 0) (tk 10 0) (tk 24 0) (nI i) σ353)) ∧ (¬ (lg_cmp (sL σ353 (tk 24 0) j355) (Int32.toInt64 x352)) = 0 → (0 : Int32) = 1))))) ∧ (¬ x354 = x348 → (0 : Int32) = 1))) (fun _ _ => False))) (fun _ _ => False))) (fun _ _ => False)) := by
  have x1 := law_ix (i := i) (c := 1) (L := L) (nI_add i 1) (by omega) c hL
  have x2 := law_ix (i := i) (c := 2) (L := L) (nI_add i 2) (by omega) c hL
  have x3 := law_ix (i := i) (c := 3) (L := L) (nI_add i 3) (by omega) c hL
  have x4 := law_ix (i := i) (c := 4) (L := L) (nI_add i 4) (by omega) c hL
  have x5 := law_ix (i := i) (c := 5) (L := L) (nI_add i 5) (by omega) c hL
  have x6 := law_ix (i := i) (c := 6) (L := L) (nI_add i 6) (by omega) c hL
  simp only [show nI 1 = 1 from rfl, show nI 2 = 2 from rfl, show nI 3 = 3 from rfl, show nI 4 = 4 from rfl, show nI 5 = 5 from rfl, show nI 6 = 6 from rfl] at x1 x2 x3 x4 x5 x6
  refine (x1 _).mpr ?_
  refine (x2 _).mpr ?_
  refine (cg_I (W := fun P => wp_L_latest (some (tk 9 0)) (xs (i + 1)) (xs (i + 2)) (some (tk 24 0)) (put a M) P) (fun x σ => ?_)).mpr (opz_latest R (xs (i + 1)) (xs (i + 2)) (KL L xs f i) k9)
  refine Iff.trans (x1 _) ?_
  refine Iff.trans (x2 _) ?_
  refine Iff.trans (law_10 _) ?_
  refine cg_I (W := fun P => wp_X10_latest (tk 10 0) (xs (i + 1)) (xs (i + 2)) σ P) (fun b σ1 => ?_)
  refine Iff.trans (law_10 _) ?_
  refine cg_I (W := fun P => wp_X10_thrown (tk 10 0) σ1 P) (fun t σ2 => ?_)
  exact law_pq
theorem lwc_earliest (hL : L ≤ 3584) (c : i + 7 ≤ L) (R : Rel 0 a M) (zr : Zr M) (k9 : ∀ a' M', Rel 0 a' M' → (Zr M → Zr M') → KL L xs f i (put a' M')) : ∃ j356, ((nI i) + (1 : Int32)) = nI j356 ∧ j356 < L ∧ wp_L_earliest (some (tk 9 0)) (xs j356) (some (tk 24 0)) (put a M) (KI (fun x358 σ357 => ∃ j359, ((nI i) + (1 : Int32)) = nI j359 ∧ j359 < L ∧ (tk 10 0) % 32 = 10 ∧ wp_X10_earliest (tk 10 0) (xs j359) σ357 (KI (fun x361 σ360 => (tk 10 0) % 32 = 10 ∧ wp_X10_thrown (tk 10 0) σ360 (KI (fun x363 σ362 => ((x363 = x358 → ((¬ x358 = 0 → (wp_L_law_2529 L xs (fun z0 z1 z2 z3 ζ => wp_L_law_23 L xs f z0 z1 z2 z3 ζ) (tk 9 0) (tk 10 0) (tk 24 0) (nI i) σ362)) ∧ (x358 = 0 → aty ((tk 24 0) % 32) = some .long ∧ ∃ j364, (0 : Int32) = nI j364 ∧ j364 < aln (tk 24 0) ∧ (((lg_cmp (sL σ362 (tk 24 0) j364) (Int32.toInt64 x361)) = 0 → (wp_L_law_2529 L xs (fun z0 z1 z2 z3 ζ => wp_L_law_23 L xs f z0 z1 z2 z3 ζ) (tk 9 0) (tk 10 0) (tk 24 0) (nI i) σ362)) ∧ (¬ (lg_cmp (sL σ362 (tk 24 0) j364) (Int32.toInt64 x361)) = 0 → (0 : Int32) = 1))))) ∧ (¬ x363 = x358 → (0 : Int32) = 1))) (fun _ _ => False))) (fun _ _ => False))) (fun _ _ => False)) := by
  have x1 := law_ix (i := i) (c := 1) (L := L) (nI_add i 1) (by omega) c hL
  have x2 := law_ix (i := i) (c := 2) (L := L) (nI_add i 2) (by omega) c hL
  have x3 := law_ix (i := i) (c := 3) (L := L) (nI_add i 3) (by omega) c hL
  have x4 := law_ix (i := i) (c := 4) (L := L) (nI_add i 4) (by omega) c hL
  have x5 := law_ix (i := i) (c := 5) (L := L) (nI_add i 5) (by omega) c hL
  have x6 := law_ix (i := i) (c := 6) (L := L) (nI_add i 6) (by omega) c hL
  simp only [show nI 1 = 1 from rfl, show nI 2 = 2 from rfl, show nI 3 = 3 from rfl, show nI 4 = 4 from rfl, show nI 5 = 5 from rfl, show nI 6 = 6 from rfl] at x1 x2 x3 x4 x5 x6
  refine (x1 _).mpr ?_
  refine (cg_I (W := fun P => wp_L_earliest (some (tk 9 0)) (xs (i + 1)) (some (tk 24 0)) (put a M) P) (fun x σ => ?_)).mpr (opz_earliest R (xs (i + 1)) (KL L xs f i) k9)
  refine Iff.trans (x1 _) ?_
  refine Iff.trans (law_10 _) ?_
  refine cg_I (W := fun P => wp_X10_earliest (tk 10 0) (xs (i + 1)) σ P) (fun b σ1 => ?_)
  refine Iff.trans (law_10 _) ?_
  refine cg_I (W := fun P => wp_X10_thrown (tk 10 0) σ1 P) (fun t σ2 => ?_)
  exact law_pq
theorem lwc_ledger (hL : L ≤ 3584) (c : i + 7 ≤ L) (R : Rel 0 a M) (zr : Zr M) (k9 : ∀ a' M', Rel 0 a' M' → (Zr M → Zr M') → KL L xs f i (put a' M')) : ∃ j365, ((nI i) + (1 : Int32)) = nI j365 ∧ j365 < L ∧ wp_L_ledger (some (tk 9 0)) (xs j365) (some (tk 24 0)) (put a M) (KI (fun x367 σ366 => ∃ j368, ((nI i) + (1 : Int32)) = nI j368 ∧ j368 < L ∧ (tk 10 0) % 32 = 10 ∧ wp_X10_ledger (tk 10 0) (xs j368) σ366 (KI (fun x370 σ369 => (tk 10 0) % 32 = 10 ∧ wp_X10_thrown (tk 10 0) σ369 (KI (fun x372 σ371 => ((x372 = x367 → ((¬ x367 = 0 → (wp_L_law_2585 L xs (fun z0 z1 z2 z3 ζ => wp_L_law_23 L xs f z0 z1 z2 z3 ζ) (tk 9 0) (tk 10 0) (tk 24 0) (nI i) σ371)) ∧ (x367 = 0 → aty ((tk 24 0) % 32) = some .long ∧ ∃ j373, (0 : Int32) = nI j373 ∧ j373 < aln (tk 24 0) ∧ (((lg_cmp (sL σ371 (tk 24 0) j373) (Int32.toInt64 x370)) = 0 → (wp_L_law_2585 L xs (fun z0 z1 z2 z3 ζ => wp_L_law_23 L xs f z0 z1 z2 z3 ζ) (tk 9 0) (tk 10 0) (tk 24 0) (nI i) σ371)) ∧ (¬ (lg_cmp (sL σ371 (tk 24 0) j373) (Int32.toInt64 x370)) = 0 → (0 : Int32) = 1))))) ∧ (¬ x372 = x367 → (0 : Int32) = 1))) (fun _ _ => False))) (fun _ _ => False))) (fun _ _ => False)) := by
  have x1 := law_ix (i := i) (c := 1) (L := L) (nI_add i 1) (by omega) c hL
  have x2 := law_ix (i := i) (c := 2) (L := L) (nI_add i 2) (by omega) c hL
  have x3 := law_ix (i := i) (c := 3) (L := L) (nI_add i 3) (by omega) c hL
  have x4 := law_ix (i := i) (c := 4) (L := L) (nI_add i 4) (by omega) c hL
  have x5 := law_ix (i := i) (c := 5) (L := L) (nI_add i 5) (by omega) c hL
  have x6 := law_ix (i := i) (c := 6) (L := L) (nI_add i 6) (by omega) c hL
  simp only [show nI 1 = 1 from rfl, show nI 2 = 2 from rfl, show nI 3 = 3 from rfl, show nI 4 = 4 from rfl, show nI 5 = 5 from rfl, show nI 6 = 6 from rfl] at x1 x2 x3 x4 x5 x6
  refine (x1 _).mpr ?_
  refine (cg_I (W := fun P => wp_L_ledger (some (tk 9 0)) (xs (i + 1)) (some (tk 24 0)) (put a M) P) (fun x σ => ?_)).mpr (opz_ledger R (xs (i + 1)) (KL L xs f i) k9)
  refine Iff.trans (x1 _) ?_
  refine Iff.trans (law_10 _) ?_
  refine cg_I (W := fun P => wp_X10_ledger (tk 10 0) (xs (i + 1)) σ P) (fun b σ1 => ?_)
  refine Iff.trans (law_10 _) ?_
  refine cg_I (W := fun P => wp_X10_thrown (tk 10 0) σ1 P) (fun t σ2 => ?_)
  exact law_pq
end LL
set_option maxHeartbeats 4000000 in
theorem law_loop {L : Nat} {xs : Nat → Int32} (hL : L ≤ 3584) : ∀ f i a M, Rel 0 a M → Zr M → L + 7 ≤ i + 7 * f → i ≤ L → wp_L_law_23 L xs f (tk 9 0) (tk 10 0) (tk 24 0) (nI i) (put a M) := by
  intro f
  induction f with
  | zero => intro i a M _ _ h1 h2; omega
  | succ f ih =>
    intro i a M R zr h1 h2
    have e7 := law_e7 (i := i) hL (by omega)
    unfold wp_L_law_23
    by_cases c : i + 7 ≤ L
    · have k9 : ∀ a' M', Rel 0 a' M' → (Zr M → Zr M') → KL L xs f i (put a' M') := fun a' M' R' hz => by
        unfold KL
        rw [show nI i + 7 = nI (i + 7) from nI_add i 7]
        exact ih (i + 7) a' M' R' (hz zr) (by omega) (by omega)
      refine ⟨fun q => absurd c (e7.mp q), fun _ => (law_ix0 c hL _).mpr ?_⟩
      refine ⟨fun _ => k9 a M R id, fun _ => lwc_setBought hL c R zr k9, fun _ => lwc_addLine hL c R zr k9, fun _ => lwc_addOperation hL c R zr k9, fun _ => lwc_setStore hL c R zr k9, fun _ => lwc_setQueue hL c R zr k9, fun _ => lwc_addMachine hL c R zr k9, fun _ => lwc_addPerson hL c R zr k9, fun _ => lwc_setLevel hL c R zr k9, fun _ => lwc_buy hL c R zr k9, fun _ => lwc_late hL c R zr k9, fun _ => lwc_make hL c R zr k9, fun _ => lwc_rank hL c R zr k9, fun _ => lwc_split hL c R zr k9, fun _ => lwc_join hL c R zr k9, fun _ => lwc_recall hL c R zr k9, fun _ => lwc_order hL c R zr k9, fun _ => lwc_promise hL c R zr k9, fun _ => lwc_ship hL c R zr k9, fun _ => lwc_stand hL c R zr k9, fun _ => lwc_run hL c R zr k9, fun _ => lwc_hour hL c R zr k9, fun _ => lwc_batches hL c R zr k9, fun _ => lwc_batch hL c R zr k9, fun _ => lwc_parent hL c R zr k9, fun _ => lwc_origin hL c R zr k9, fun _ => lwc_machine hL c R zr k9, fun _ => lwc_level hL c R zr k9, fun _ => lwc_machineOf hL c R zr k9, fun _ => lwc_store hL c R zr k9, fun _ => lwc_queue hL c R zr k9, fun _ => lwc_queued hL c R zr k9, fun _ => lwc_told hL c R zr k9, fun _ => lwc_why hL c R zr k9, fun _ => lwc_latest hL c R zr k9, fun _ => lwc_earliest hL c R zr k9, fun _ => lwc_ledger hL c R zr k9⟩
    · exact ⟨fun _ => rfl, fun q => absurd (e7.mpr c) q⟩
