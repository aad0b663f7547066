/-! Bits of longs; how many of them. -/
def bt (x : Int64) (i : Nat) : Bool := x.toBitVec.getLsbD i
theorem sh_amt : ∀ i : Nat, i < 64 → ((Int32.toInt64 (nI i) &&& 63).toBitVec.smod (64 : BitVec 64)).toNat = i := by decide +kernel
theorem bt_one (x : Int64) {i : Nat} (h : i < 64) : ((x >>> (Int32.toInt64 (nI i) &&& 63)) &&& 1) = if bt x i then 1 else 0 := by
  refine Int64.toBitVec_inj.mp ?_
  rw [Int64.toBitVec_and, Int64.toBitVec_shiftRight, show ((1 : Int64)).toBitVec = 1#64 from rfl, BitVec.and_one_eq_setWidth_ofBool_getLsbD, BitVec.sshiftRight_eq', BitVec.getLsbD_sshiftRight]
  have e := sh_amt i h
  rw [e]
  have e2 : bt x i = x.toBitVec.getLsbD i := rfl
  rw [e2]
  simp only [Nat.add_zero, h, if_true, show decide (64 ≤ 0) = false from rfl, Bool.not_false, Bool.true_and]
  cases x.toBitVec.getLsbD i <;> rfl
theorem bt_t (x : Int64) {i : Nat} (h : i < 64) (hb : bt x i = true) : (lg_cmp ((x >>> (Int32.toInt64 (nI i) &&& 63)) &&& 1) 1 = 0) ∧ ¬ (lg_cmp ((x >>> (Int32.toInt64 (nI i) &&& 63)) &&& 1) 0 = 0) := by
  rw [bt_one x h, hb, lg_cmp_eq, lg_cmp_eq]
  decide
theorem bt_f (x : Int64) {i : Nat} (h : i < 64) (hb : bt x i = false) : ¬ (lg_cmp ((x >>> (Int32.toInt64 (nI i) &&& 63)) &&& 1) 1 = 0) ∧ (lg_cmp ((x >>> (Int32.toInt64 (nI i) &&& 63)) &&& 1) 0 = 0) := by
  rw [bt_one x h, hb, lg_cmp_eq, lg_cmp_eq]
  decide
theorem bt_or (x y : Int64) (i : Nat) : bt (x ||| y) i = (bt x i || bt y i) := by
  unfold bt
  rw [Int64.toBitVec_or, BitVec.getLsbD_or]
theorem bt_and (x y : Int64) (i : Nat) : bt (x &&& y) i = (bt x i && bt y i) := by
  unfold bt
  rw [Int64.toBitVec_and, BitVec.getLsbD_and]
theorem bt_bit {j i : Nat} (h : j < 60) (hi : i < 64) : bt (bit j) i = decide (i = j) := bit_get j h i hi
theorem bt_0 (i : Nat) : bt 0 i = false := by
  unfold bt
  rw [show ((0 : Int64)).toBitVec = 0#64 from rfl, BitVec.getLsbD_zero]
theorem bt_ext {x y : Int64} (h : ∀ i, i < 64 → bt x i = bt y i) : x = y :=
  Int64.toBitVec_inj.mp (BitVec.eq_of_getLsbD_eq fun i hi => h i hi)
theorem bit_lt {j : Nat} : (1 : Int64) <<< (Int32.toInt64 (nI j) &&& 63) = bit j := rfl
theorem and_bit (x : Int64) {j : Nat} (h : j < 60) : (x &&& bit j = 0) ↔ bt x j = false := by
  constructor
  · intro e
    have h2 := congrArg (fun z => bt z j) e
    simp only [bt_and, bt_bit h (show j < 64 by omega), bt_0, decide_true, Bool.and_true] at h2
    exact h2
  · intro e
    refine bt_ext fun i hi => ?_
    rw [bt_and, bt_bit h hi, bt_0]
    by_cases c : i = j
    · subst c; rw [e]; rfl
    · rw [decide_eq_false c, Bool.and_false]
/-- counting -/
def U (x : Int64) : Nat := x.toBitVec.toNat
theorem U_lt (x : Int64) : U x < 18446744073709551616 := x.toBitVec.isLt
theorem U_sub (x y : Int64) : U (x - y) = (18446744073709551616 - U y + U x) % 18446744073709551616 := by
  unfold U
  rw [Int64.toBitVec_sub, BitVec.toNat_sub]
theorem U_add (x y : Int64) : U (x + y) = (U x + U y) % 18446744073709551616 := by
  unfold U
  rw [Int64.toBitVec_add, BitVec.toNat_add]
theorem U_and (x y : Int64) : U (x &&& y) = U x &&& U y := by
  unfold U
  rw [Int64.toBitVec_and, BitVec.toNat_and]
theorem U_shr (x : Int64) (c : UInt64) (k : Nat) (h : c.toNat % 64 = k) : U ((Int64.toUInt64 x >>> c).toInt64) = U x / 2 ^ k := by
  unfold U
  rw [UInt64.toBitVec_toInt64]
  show (Int64.toUInt64 x >>> c).toNat = _
  rw [UInt64.toNat_shiftRight, h, Nat.shiftRight_eq_div_pow]
  rfl
/-- byte by byte -/
def bW (f : Nat → Nat) : Nat → Nat → Nat
  | 0, _ => 0
  | k + 1, x => f (x % 256) + 256 * bW f k (x / 256)
def bM (c : Nat) : Nat → Nat
  | 0 => 0
  | k + 1 => c + 256 * bM c k
theorem bW_congr {f g : Nat → Nat} (h : ∀ c, c < 256 → f c = g c) : ∀ k x, bW f k x = bW g k x := by
  intro k
  induction k with
  | zero => intro x; rfl
  | succ k ih => intro x; show f (x % 256) + 256 * bW f k (x / 256) = g (x % 256) + 256 * bW g k (x / 256); rw [ih, h _ (Nat.mod_lt _ (by decide))]
theorem bW_add (f g : Nat → Nat) : ∀ k x, bW f k x + bW g k x = bW (fun c => f c + g c) k x := by
  intro k
  induction k with
  | zero => intro x; rfl
  | succ k ih =>
    intro x
    have := ih (x / 256)
    show f (x % 256) + 256 * bW f k (x / 256) + (g (x % 256) + 256 * bW g k (x / 256)) = (f (x % 256) + g (x % 256)) + 256 * bW (fun c => f c + g c) k (x / 256)
    omega
theorem bW_id : ∀ k x, x < 256 ^ k → bW (fun c => c) k x = x := by
  intro k
  induction k with
  | zero => intro x h; rw [Nat.pow_zero] at h; show 0 = x; omega
  | succ k ih =>
    intro x h
    show x % 256 + 256 * bW (fun c => c) k (x / 256) = x
    rw [ih _ (by rw [Nat.pow_succ] at h; omega)]
    omega
theorem bW_comp (f d : Nat → Nat) (h : ∀ c, c < 256 → d c < 256) : ∀ k x, bW f k (bW d k x) = bW (fun c => f (d c)) k x := by
  intro k
  induction k with
  | zero => intro x; rfl
  | succ k ih =>
    intro x
    have h1 := h (x % 256) (Nat.mod_lt _ (by decide))
    show f ((d (x % 256) + 256 * bW d k (x / 256)) % 256) + 256 * bW f k ((d (x % 256) + 256 * bW d k (x / 256)) / 256) = f (d (x % 256)) + 256 * bW (fun c => f (d c)) k (x / 256)
    rw [show (d (x % 256) + 256 * bW d k (x / 256)) % 256 = d (x % 256) by omega, show (d (x % 256) + 256 * bW d k (x / 256)) / 256 = bW d k (x / 256) by omega, ih]
theorem and_256 {p q m n : Nat} (hp : p < 256) (hm : m < 256) : (p + 256 * q) &&& (m + 256 * n) = (p &&& m) + 256 * (q &&& n) := by
  have h1 : ((p + 256 * q) &&& (m + 256 * n)) % 256 = p &&& m := by
    have := Nat.and_mod_two_pow (a := p + 256 * q) (b := m + 256 * n) (n := 8)
    rw [show (2 : Nat) ^ 8 = 256 from rfl] at this
    rw [this, show (p + 256 * q) % 256 = p by omega, show (m + 256 * n) % 256 = m by omega]
  have h2 : ((p + 256 * q) &&& (m + 256 * n)) / 256 = q &&& n := by
    have := Nat.and_div_two_pow (a := p + 256 * q) (b := m + 256 * n) (n := 8)
    rw [show (2 : Nat) ^ 8 = 256 from rfl] at this
    rw [this, show (p + 256 * q) / 256 = q by omega, show (m + 256 * n) / 256 = n by omega]
  omega
theorem bW_and (m : Nat) (hm : m < 256) : ∀ k x, x &&& bM m k = bW (fun c => c &&& m) k x := by
  intro k
  induction k with
  | zero => intro x; exact Nat.and_zero x
  | succ k ih =>
    intro x
    show x &&& (m + 256 * bM m k) = (x % 256 &&& m) + 256 * bW (fun c => c &&& m) k (x / 256)
    rw [← ih]
    have h := and_256 (p := x % 256) (q := x / 256) (n := bM m k) (Nat.mod_lt _ (by decide)) hm
    rw [show x % 256 + 256 * (x / 256) = x by omega] at h
    exact h
theorem k2a : ∀ c, c < 256 → ∀ t, t < 2 → (c / 2 + 128 * t) &&& 85 = c / 2 &&& 85 := by decide +kernel
theorem k4a : ∀ c, c < 256 → ∀ t, t < 4 → (c / 4 + 64 * t) &&& 51 = c / 4 &&& 51 := by decide +kernel
theorem bW_and2 : ∀ k x, x / 2 &&& bM 85 k = bW (fun c => c / 2 &&& 85) k x := by
  intro k
  induction k with
  | zero => intro x; exact Nat.and_zero _
  | succ k ih =>
    intro x
    show x / 2 &&& (85 + 256 * bM 85 k) = (x % 256 / 2 &&& 85) + 256 * bW (fun c => c / 2 &&& 85) k (x / 256)
    rw [← ih]
    have h := and_256 (p := x % 256 / 2 + 128 * (x / 256 % 2)) (q := x / 256 / 2) (m := 85) (n := bM 85 k) (by omega) (by decide)
    rw [show x % 256 / 2 + 128 * (x / 256 % 2) + 256 * (x / 256 / 2) = x / 2 by omega, k2a _ (Nat.mod_lt _ (by decide)) _ (Nat.mod_lt _ (by decide))] at h
    exact h
theorem bW_and4 : ∀ k x, x / 4 &&& bM 51 k = bW (fun c => c / 4 &&& 51) k x := by
  intro k
  induction k with
  | zero => intro x; exact Nat.and_zero _
  | succ k ih =>
    intro x
    show x / 4 &&& (51 + 256 * bM 51 k) = (x % 256 / 4 &&& 51) + 256 * bW (fun c => c / 4 &&& 51) k (x / 256)
    rw [← ih]
    have h := and_256 (p := x % 256 / 4 + 64 * (x / 256 % 4)) (q := x / 256 / 4) (m := 51) (n := bM 51 k) (by omega) (by decide)
    rw [show x % 256 / 4 + 64 * (x / 256 % 4) + 256 * (x / 256 / 4) = x / 4 by omega, k4a _ (Nat.mod_lt _ (by decide)) _ (Nat.mod_lt _ (by decide))] at h
    exact h
def pd (c : Nat) : Nat := c - (c / 2 &&& 85)
def pg (c : Nat) : Nat := (pd c &&& 51) + (pd c / 4 &&& 51)
def pb (c : Nat) : Nat := c % 2 + c / 2 % 2 + c / 4 % 2 + c / 8 % 2 + c / 16 % 2 + c / 32 % 2 + c / 64 % 2 + c / 128 % 2
theorem pd_ok : ∀ c, c < 256 → (c / 2 &&& 85) ≤ c ∧ pd c < 256 := by decide +kernel
theorem pg_ok : ∀ c, c < 256 → pg c ≤ 68 ∧ pg c % 16 ≤ 4 ∧ pg c < 256 := by decide +kernel
theorem pb_ok : ∀ c, c < 256 → (pg c + pg c / 16 &&& 15) = pb c ∧ pb c ≤ 8 := by decide +kernel
theorem kfa : ∀ c, c < 69 → ∀ t, t < 5 → (c + c / 16 + 16 * t) &&& 15 = (c + c / 16 &&& 15) := by decide +kernel
theorem bW_low : ∀ k x, bW pg k x % 16 ≤ 4 := by
  intro k
  cases k with
  | zero => intro x; exact Nat.zero_le _
  | succ k =>
    intro x
    have := (pg_ok (x % 256) (Nat.mod_lt _ (by decide))).2.1
    show (pg (x % 256) + 256 * bW pg k (x / 256)) % 16 ≤ 4
    omega
theorem bW_andf : ∀ k x, (bW pg k x + bW pg k x / 16) &&& bM 15 k = bW pb k x := by
  intro k
  induction k with
  | zero => intro x; exact Nat.and_zero _
  | succ k ih =>
    intro x
    have hg := pg_ok (x % 256) (Nat.mod_lt _ (by decide))
    have hb := pb_ok (x % 256) (Nat.mod_lt _ (by decide))
    have hl := bW_low k (x / 256)
    show ((pg (x % 256) + 256 * bW pg k (x / 256)) + (pg (x % 256) + 256 * bW pg k (x / 256)) / 16) &&& (15 + 256 * bM 15 k) = pb (x % 256) + 256 * bW pb k (x / 256)
    rw [← ih, ← hb.1, ← kfa (pg (x % 256)) (by omega) (bW pg k (x / 256) % 16) (by omega)]
    have h := and_256 (p := pg (x % 256) + pg (x % 256) / 16 + 16 * (bW pg k (x / 256) % 16)) (q := bW pg k (x / 256) + bW pg k (x / 256) / 16) (m := 15) (n := bM 15 k) (by omega) (by decide)
    rw [show pg (x % 256) + pg (x % 256) / 16 + 16 * (bW pg k (x / 256) % 16) + 256 * (bW pg k (x / 256) + bW pg k (x / 256) / 16) = (pg (x % 256) + 256 * bW pg k (x / 256)) + (pg (x % 256) + 256 * bW pg k (x / 256)) / 16 by omega] at h
    exact h
theorem st1 {x : Nat} (h : x < 18446744073709551616) : x - (x / 2 &&& 6148914691236517205) = bW pd 8 x ∧ (x / 2 &&& 6148914691236517205) ≤ x := by
  have e1 := bW_and2 8 x
  rw [show bM 85 8 = 6148914691236517205 from rfl] at e1
  have e2 := bW_add pd (fun c => c / 2 &&& 85) 8 x
  rw [bW_congr (f := fun c => pd c + (c / 2 &&& 85)) (g := fun c => c) (fun c hc => by have := (pd_ok c hc).1; show pd c + (c / 2 &&& 85) = c; unfold pd; omega), bW_id 8 x h] at e2
  omega
theorem st2 (x : Nat) : (bW pd 8 x &&& 3689348814741910323) + (bW pd 8 x / 4 &&& 3689348814741910323) = bW pg 8 x := by
  have e1 := bW_and 51 (by decide) 8 (bW pd 8 x)
  have e2 := bW_and4 8 (bW pd 8 x)
  rw [show bM 51 8 = 3689348814741910323 from rfl] at e1 e2
  rw [e1, e2, bW_comp _ _ (fun c hc => (pd_ok c hc).2), bW_comp _ _ (fun c hc => (pd_ok c hc).2), bW_add]
  rfl
theorem st3 (x : Nat) : (bW pg 8 x + bW pg 8 x / 16) &&& 1085102592571150095 = bW pb 8 x := by
  have e1 := bW_andf 8 x
  rw [show bM 15 8 = 1085102592571150095 from rfl] at e1
  exact e1
theorem bW_bd (f : Nat → Nat) (m : Nat) (h : ∀ c, c < 256 → f c ≤ m) : ∀ k x, bW f k x ≤ bM m k := by
  intro k
  induction k with
  | zero => intro x; exact Nat.le_refl _
  | succ k ih =>
    intro x
    have := h (x % 256) (Nat.mod_lt _ (by decide))
    have := ih (x / 256)
    show f (x % 256) + 256 * bW f k (x / 256) ≤ m + 256 * bM m k
    omega
def pS (x : Nat) : Nat := pb (x % 256) + (pb (x / 256 % 256) + (pb (x / 65536 % 256) + (pb (x / 16777216 % 256) + (pb (x / 4294967296 % 256) + (pb (x / 1099511627776 % 256) + (pb (x / 281474976710656 % 256) + pb (x / 72057594037927936 % 256)))))))
theorem dv {m x l s : Nat} (h : s = l + m * x) (hl : l < m) : s / m = x := by
  subst h
  rw [Nat.add_mul_div_left _ _ (by omega), Nat.div_eq_of_lt hl, Nat.zero_add]
theorem dg8 {b0 b1 b2 b3 b4 b5 b6 b7 w : Nat} (h0 : b0 ≤ 8) (h1 : b1 ≤ 8) (h2 : b2 ≤ 8) (h3 : b3 ≤ 8) (h4 : b4 ≤ 8) (h5 : b5 ≤ 8) (h6 : b6 ≤ 8) (h7 : b7 ≤ 8) (hw : w = b0 + 256 * (b1 + 256 * (b2 + 256 * (b3 + 256 * (b4 + 256 * (b5 + 256 * (b6 + 256 * b7))))))) : ((((w + w / 256) + (w + w / 256) / 65536) + ((w + w / 256) + (w + w / 256) / 65536) / 4294967296) % 4294967296) % 128 = b0 + (b1 + (b2 + (b3 + (b4 + (b5 + (b6 + b7)))))) := by
  have d1 : w / 256 = b1 + 256 * (b2 + 256 * (b3 + 256 * (b4 + 256 * (b5 + 256 * (b6 + 256 * b7))))) := dv hw (by omega)
  rw [d1]
  have e4 : w + (b1 + 256 * (b2 + 256 * (b3 + 256 * (b4 + 256 * (b5 + 256 * (b6 + 256 * b7)))))) = (b0 + b1 + 256 * (b1 + b2)) + 65536 * (b2 + b3 + 256 * (b3 + b4) + 65536 * (b4 + b5 + 256 * (b5 + b6) + 65536 * (b6 + b7 + 256 * b7))) := by rw [hw]; clear d1 hw h0 h1 h2 h3 h4 h5 h6 h7; omega
  have d2 := dv e4 (by clear e4 d1 hw; omega)
  rw [d2, e4]
  clear d1 d2 e4 hw
  have e5 : (b0 + b1 + 256 * (b1 + b2)) + 65536 * (b2 + b3 + 256 * (b3 + b4) + 65536 * (b4 + b5 + 256 * (b5 + b6) + 65536 * (b6 + b7 + 256 * b7))) + (b2 + b3 + 256 * (b3 + b4) + 65536 * (b4 + b5 + 256 * (b5 + b6) + 65536 * (b6 + b7 + 256 * b7))) = (b0 + b1 + b2 + b3 + 256 * (b1 + b2 + b3 + b4) + 65536 * (b2 + b3 + b4 + b5 + 256 * (b3 + b4 + b5 + b6))) + 4294967296 * (b4 + b5 + b6 + b7 + 256 * (b5 + b6 + b7) + 65536 * (b6 + b7 + 256 * b7)) := by clear h0 h1 h2 h3 h4 h5 h6 h7; omega
  have d3 := dv e5 (by clear e5; omega)
  rw [d3, e5]
  clear d3 e5
  have e6 : (b0 + b1 + b2 + b3 + 256 * (b1 + b2 + b3 + b4) + 65536 * (b2 + b3 + b4 + b5 + 256 * (b3 + b4 + b5 + b6))) + 4294967296 * (b4 + b5 + b6 + b7 + 256 * (b5 + b6 + b7) + 65536 * (b6 + b7 + 256 * b7)) + (b4 + b5 + b6 + b7 + 256 * (b5 + b6 + b7) + 65536 * (b6 + b7 + 256 * b7)) = (b0 + (b1 + (b2 + (b3 + (b4 + (b5 + (b6 + b7))))))) + 128 * (2 * (b1 + b2 + b3 + b4 + b5 + b6 + b7) + 512 * (b2 + b3 + b4 + b5 + b6 + b7 + 256 * (b3 + b4 + b5 + b6 + b7)) + 33554432 * (b4 + b5 + b6 + b7 + 256 * (b5 + b6 + b7) + 65536 * (b6 + b7 + 256 * b7))) := by clear h0 h1 h2 h3 h4 h5 h6 h7; omega
  rw [e6]
  have d4 : ∀ n : Nat, n % 4294967296 % 128 = n % 128 := fun n => Nat.mod_mod_of_dvd n (by decide)
  rw [d4, Nat.add_mul_mod_self_left]
  exact Nat.mod_eq_of_lt (by omega)
theorem st4 (x : Nat) : ((((bW pb 8 x + bW pb 8 x / 256) + (bW pb 8 x + bW pb 8 x / 256) / 65536) + ((bW pb 8 x + bW pb 8 x / 256) + (bW pb 8 x + bW pb 8 x / 256) / 65536) / 4294967296) % 4294967296) % 128 = pS x := by
  have e : bW pb 8 x = pb (x % 256) + 256 * (pb (x / 256 % 256) + 256 * (pb (x / 256 / 256 % 256) + 256 * (pb (x / 256 / 256 / 256 % 256) + 256 * (pb (x / 256 / 256 / 256 / 256 % 256) + 256 * (pb (x / 256 / 256 / 256 / 256 / 256 % 256) + 256 * (pb (x / 256 / 256 / 256 / 256 / 256 / 256 % 256) + 256 * (pb (x / 256 / 256 / 256 / 256 / 256 / 256 / 256 % 256) + 256 * 0))))))) := rfl
  simp only [Nat.div_div_eq_div_mul, Nat.reduceMul] at e
  unfold pS
  have hb : ∀ c, pb (c % 256) ≤ 8 := fun c => (pb_ok _ (Nat.mod_lt _ (by decide))).2
  have h0 := hb x
  have h1 := hb (x / 256)
  have h2 := hb (x / 65536)
  have h3 := hb (x / 16777216)
  have h4 := hb (x / 4294967296)
  have h5 := hb (x / 1099511627776)
  have h6 := hb (x / 281474976710656)
  have h7 := hb (x / 72057594037927936)
  generalize pb (x % 256) = b0 at *
  generalize pb (x / 256 % 256) = b1 at *
  generalize pb (x / 65536 % 256) = b2 at *
  generalize pb (x / 16777216 % 256) = b3 at *
  generalize pb (x / 4294967296 % 256) = b4 at *
  generalize pb (x / 1099511627776 % 256) = b5 at *
  generalize pb (x / 281474976710656 % 256) = b6 at *
  generalize pb (x / 72057594037927936 % 256) = b7 at *
  generalize bW pb 8 x = w at *
  clear hb
  exact dg8 h0 h1 h2 h3 h4 h5 h6 h7 (by rw [e, Nat.add_zero])
def pn : Nat → Nat → Nat
  | 0, _ => 0
  | f + 1, n => n % 2 + pn f (n / 2)
theorem pn_8 (f n : Nat) : pn (f + 8) n = pb (n % 256) + pn f (n / 256) := by
  show n % 2 + (n / 2 % 2 + (n / 2 / 2 % 2 + (n / 2 / 2 / 2 % 2 + (n / 2 / 2 / 2 / 2 % 2 + (n / 2 / 2 / 2 / 2 / 2 % 2 + (n / 2 / 2 / 2 / 2 / 2 / 2 % 2 + (n / 2 / 2 / 2 / 2 / 2 / 2 / 2 % 2 + pn f (n / 2 / 2 / 2 / 2 / 2 / 2 / 2 / 2)))))))) = _
  simp only [Nat.div_div_eq_div_mul, Nat.reduceMul]
  unfold pb
  omega
theorem pn_64 (n : Nat) : pn 64 n = pS n := by
  rw [pn_8 56, pn_8 48, pn_8 40, pn_8 32, pn_8 24, pn_8 16, pn_8 8, pn_8 0]
  show _ + (_ + (_ + (_ + (_ + (_ + (_ + (_ + 0))))))) = _
  simp only [Nat.div_div_eq_div_mul, Nat.reduceMul, Nat.add_zero]
  rfl
theorem toI32_U (x : Int64) : Int64.toInt32 x = nI (U x % 4294967296) := by
  refine Int32.toBitVec_inj.mp ?_
  rw [Int64.toBitVec_toInt32]
  refine BitVec.eq_of_toNat_eq ?_
  rw [BitVec.signExtend_eq_setWidth_of_le _ (by decide), BitVec.toNat_setWidth]
  show _ = (Int32.ofNat (U x % 4294967296)).toBitVec.toNat
  rw [Int32.toBitVec_ofNat']
  rw [BitVec.toNat_ofNat]
  unfold U
  omega
theorem and127 (n : Nat) (h : n < 4294967296) : nI n &&& 127 = nI (n % 128) := by
  refine Int32.toBitVec_inj.mp (BitVec.eq_of_toNat_eq ?_)
  rw [Int32.toBitVec_and, BitVec.toNat_and]
  show (Int32.ofNat n).toBitVec.toNat &&& 127 = (Int32.ofNat (n % 128)).toBitVec.toNat
  rw [Int32.toBitVec_ofNat', Int32.toBitVec_ofNat', BitVec.toNat_ofNat, BitVec.toNat_ofNat, Nat.mod_eq_of_lt (show n < 2 ^ 32 by omega), Nat.mod_eq_of_lt (show n % 128 < 2 ^ 32 by omega)]
  exact Nat.and_two_pow_sub_one_eq_mod n 7
theorem sp_count (x : Int64) (σ : Sg) (Post : Rs → Sg → Prop) : wp_J13_bitCount_95d88 x σ Post ↔ Post (.inl (some (.int (nI (pn 64 (U x)))))) σ := by
  unfold wp_J13_bitCount_95d88
  have hx := U_lt x
  have k1 : ∀ y, U ((Int64.toUInt64 y >>> ((Int32.toInt64 1).toUInt64 &&& Int64.toUInt64 63)).toInt64) = U y / 2 := fun y => U_shr y _ 1 (by decide +kernel)
  have k2 : ∀ y, U ((Int64.toUInt64 y >>> ((Int32.toInt64 2).toUInt64 &&& Int64.toUInt64 63)).toInt64) = U y / 4 := fun y => U_shr y _ 2 (by decide +kernel)
  have k4 : ∀ y, U ((Int64.toUInt64 y >>> ((Int32.toInt64 4).toUInt64 &&& Int64.toUInt64 63)).toInt64) = U y / 16 := fun y => U_shr y _ 4 (by decide +kernel)
  have k8 : ∀ y, U ((Int64.toUInt64 y >>> ((Int32.toInt64 8).toUInt64 &&& Int64.toUInt64 63)).toInt64) = U y / 256 := fun y => U_shr y _ 8 (by decide +kernel)
  have k16 : ∀ y, U ((Int64.toUInt64 y >>> ((Int32.toInt64 16).toUInt64 &&& Int64.toUInt64 63)).toInt64) = U y / 65536 := fun y => U_shr y _ 16 (by decide +kernel)
  have k32 : ∀ y, U ((Int64.toUInt64 y >>> ((Int32.toInt64 32).toUInt64 &&& Int64.toUInt64 63)).toInt64) = U y / 4294967296 := fun y => U_shr y _ 32 (by decide +kernel)
  generalize e1 : x - (((Int64.toUInt64 x >>> ((Int32.toInt64 1).toUInt64 &&& Int64.toUInt64 63)).toInt64) &&& (6148914691236517205 : Int64)) = s1
  generalize e2 : (s1 &&& (3689348814741910323 : Int64)) + (((Int64.toUInt64 s1 >>> ((Int32.toInt64 2).toUInt64 &&& Int64.toUInt64 63)).toInt64) &&& (3689348814741910323 : Int64)) = s2
  generalize e3 : ((s2 + ((Int64.toUInt64 s2 >>> ((Int32.toInt64 4).toUInt64 &&& Int64.toUInt64 63)).toInt64)) &&& (1085102592571150095 : Int64)) = s3
  generalize e4 : s3 + ((Int64.toUInt64 s3 >>> ((Int32.toInt64 8).toUInt64 &&& Int64.toUInt64 63)).toInt64) = s4
  generalize e5 : s4 + ((Int64.toUInt64 s4 >>> ((Int32.toInt64 16).toUInt64 &&& Int64.toUInt64 63)).toInt64) = s5
  generalize e6 : s5 + ((Int64.toUInt64 s5 >>> ((Int32.toInt64 32).toUInt64 &&& Int64.toUInt64 63)).toInt64) = s6
  have u1 : U s1 = bW pd 8 (U x) := by
    obtain ⟨q1, q2⟩ := st1 hx
    rw [← e1, U_sub, U_and, k1, ← q1]
    rw [show U (6148914691236517205 : Int64) = 6148914691236517205 by decide +kernel]
    omega
  have b2 := bW_bd pg 68 (fun c hc => (pg_ok c hc).1) 8 (U x)
  rw [show bM 68 8 = 4919131752989213764 from rfl] at b2
  have b3 := bW_bd pb 8 (fun c hc => (pb_ok c hc).2) 8 (U x)
  rw [show bM 8 8 = 578721382704613384 from rfl] at b3
  have u2 : U s2 = bW pg 8 (U x) := by
    have q := st2 (U x)
    rw [← e2, U_add, U_and, U_and, k2, u1]
    rw [show U (3689348814741910323 : Int64) = 3689348814741910323 by decide +kernel, q]
    omega
  have u3 : U s3 = bW pb 8 (U x) := by
    have q := st3 (U x)
    rw [← e3, U_and, U_add, k4, u2]
    rw [show U (1085102592571150095 : Int64) = 1085102592571150095 by decide +kernel, Nat.mod_eq_of_lt (by omega), q]
  have u4 : U s4 = bW pb 8 (U x) + bW pb 8 (U x) / 256 := by
    rw [← e4, U_add, k8, u3, Nat.mod_eq_of_lt (by omega)]
  have u5 : U s5 = (bW pb 8 (U x) + bW pb 8 (U x) / 256) + (bW pb 8 (U x) + bW pb 8 (U x) / 256) / 65536 := by
    rw [← e5, U_add, k16, u4, Nat.mod_eq_of_lt (by omega)]
  have u6 : U s6 = ((bW pb 8 (U x) + bW pb 8 (U x) / 256) + (bW pb 8 (U x) + bW pb 8 (U x) / 256) / 65536) + ((bW pb 8 (U x) + bW pb 8 (U x) / 256) + (bW pb 8 (U x) + bW pb 8 (U x) / 256) / 65536) / 4294967296 := by
    rw [← e6, U_add, k32, u5, Nat.mod_eq_of_lt (by omega)]
  rw [toI32_U, and127 _ (Nat.mod_lt _ (by decide)), u6, st4, pn_64]
theorem U_nn {x : Int64} (h : U x < 9223372036854775808) : U (x >>> (Int32.toInt64 1 &&& 63)) = U x / 2 ∧ Int64.toInt32 (x &&& 1) = nI (U x % 2) := by
  constructor
  · unfold U at h ⊢
    rw [Int64.toBitVec_shiftRight, BitVec.sshiftRight_eq', show ((Int32.toInt64 1 &&& 63).toBitVec.smod (64 : BitVec 64)).toNat = 1 by decide +kernel, BitVec.sshiftRight_eq_of_msb_false (by rw [BitVec.msb_eq_decide]; exact decide_eq_false (by omega)), BitVec.toNat_ushiftRight, Nat.shiftRight_eq_div_pow]
  · rw [toI32_U, U_and, show U (1 : Int64) = 1 from rfl, Nat.and_one_is_mod, Nat.mod_eq_of_lt (show U x % 2 < 4294967296 by omega)]
theorem U_z {x : Int64} : (lg_cmp x 0 = 0) ↔ U x = 0 := by
  rw [lg_cmp_eq]
  constructor
  · rintro rfl; rfl
  · intro h
    exact Int64.toBitVec_inj.mp (BitVec.eq_of_toNat_eq h)
theorem pn_z : ∀ f, pn f 0 = 0 := by
  intro f
  induction f with
  | zero => rfl
  | succ f ih => show 0 % 2 + pn f (0 / 2) = 0; rw [ih]
theorem lp_many (σ : Sg) (Post : Rs → Sg → Prop) : ∀ f (x : Int64) (acc : Int32), U x < 2 ^ f → f ≤ 63 → ((∃ g, wp_X10_manyOf_4 g acc x σ Post) ↔ Post (.inl (some (.int (acc + nI (pn f (U x)))))) σ) := by
  intro f
  induction f with
  | zero =>
    intro x acc h hf
    have hz : U x = 0 := by rw [Nat.pow_zero] at h; omega
    rw [exg (fun h => h)]
    have c := U_z.mpr hz
    rw [hz]
    simp only [wp_X10_manyOf_4, c, not_true_eq_false, false_implies, true_implies, and_true, pn, nI_0, Int32.add_zero]
    exact exC
  | succ f ih =>
    intro x acc h hf
    rw [exg (fun h => h)]
    by_cases hz : U x = 0
    · have c := U_z.mpr hz
      rw [hz, pn_z]
      simp only [wp_X10_manyOf_4, c, not_true_eq_false, false_implies, true_implies, and_true, nI_0, Int32.add_zero]
      exact exC
    · have c : ¬ (lg_cmp x 0 = 0) := fun q => hz (U_z.mp q)
      have h63 : U x < 9223372036854775808 := Nat.lt_of_lt_of_le h (Nat.pow_le_pow_right (by decide) (show f + 1 ≤ 63 by omega))
      obtain ⟨v1, v2⟩ := U_nn h63
      have h9 := ih (x >>> (Int32.toInt64 1 &&& 63)) (acc + Int64.toInt32 (x &&& 1)) (by rw [v1]; rw [Nat.pow_succ] at h; omega) (by omega)
      simp only [wp_X10_manyOf_4, c, not_false_eq_true, false_implies, true_implies, true_and]
      rw [h9, v1, v2, show pn (f + 1) (U x) = U x % 2 + pn f (U x / 2) from rfl, ← nI_add, Int32.add_assoc]
theorem sp_many {x : Int64} (h : U x < 9223372036854775808) (σ : Sg) (Post : Rs → Sg → Prop) : wp_X10_manyOf x σ Post ↔ Post (.inl (some (.int (nI (pn 64 (U x)))))) σ := by
  have e : pn 64 (U x) = pn 63 (U x) := by
    have h2 : ∀ f n, n < 2 ^ f → pn (f + 1) n = pn f n := by
      intro f
      induction f with
      | zero => intro n hn; rw [Nat.pow_zero] at hn; have : n = 0 := by omega
                subst this; rfl
      | succ f ih => intro n hn; show n % 2 + pn (f + 1) (n / 2) = n % 2 + pn f (n / 2); rw [ih _ (by rw [Nat.pow_succ] at hn; omega)]
    exact h2 63 _ h
  have h9 := lp_many σ Post 63 x 0 h (Nat.le_refl _)
  rw [Int32.zero_add] at h9
  rw [e]
  exact h9
theorem U_par {e : Nat} {a : Sg} {M : MS} (R : Rel e a M) {j : Nat} (hj : j < nB M) : U (gL M j) < 9223372036854775808 := by
  have hB := r_nBx R
  have h := r_bp R j 63 hj (by omega) (by decide)
  have h2 : (gL M j).toBitVec.msb = false := by rw [BitVec.msb_eq_getLsbD_last]; exact h
  rw [BitVec.msb_eq_decide] at h2
  have h3 := of_decide_eq_false h2
  unfold U
  omega
