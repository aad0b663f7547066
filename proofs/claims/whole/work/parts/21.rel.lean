/-! The relation between the class' part a of the store and the model's state M. -/
def nB (M : MS) : Nat := (gI M 214 0).toNatClampNeg
def nM (M : MS) : Nat := (gI M 227 0).toNatClampNeg
def nP (M : MS) : Nat := (gI M 241 0).toNatClampNeg
def nO (M : MS) : Nat := (gI M 247 0).toNatClampNeg
def hN (M : MS) : Nat := (gI M 255 0).toNatClampNeg
def nLn (M : MS) (i : Nat) : Nat := (gI M 3 i).toNatClampNeg
def nOp (M : MS) (i : Nat) : Nat := (gI M 7 i).toNatClampNeg
def lnP (M : MS) (i : Nat) : Nat := (gI M 4 i).toNatClampNeg
def pc (M : MS) (j : Nat) : Nat := (gI M 16 j).toNatClampNeg
/-- what all batches cost so far -/
def tot (M : MS) : Nat → Int
  | 0 => 0
  | n + 1 => tot M n + (gI M 17 n).toInt
def kp (x : Int32) : Option Nat := if x = -1 then none else some (tk 2 x.toNatClampNeg)
def tp (c : Nat) (x : Int32) : Option Nat := if x = -1 then none else some (tk c x.toNatClampNeg)
def pr (M : MS) (j : Nat) : Nat := (gI M 51 j).toNatClampNeg
def sumT (f : Nat → Nat) : Nat → Nat
  | 0 => 0
  | n + 1 => sumT f n + f n
def totp (M : MS) : Nat → Nat := sumT (pc M)
def nInSt (M : MS) (k : Nat) : Nat → Nat := sumT fun j => if gI M 18 j = 3 ∧ gI M 15 j = nI k then pc M j else 0
def nProm (M : MS) (k : Nat) : Nat → Nat := sumT fun j => if gI M 48 j = nI k ∧ gI M 52 j = -1 then pr M j else 0
theorem sumT_congr {f h : Nat → Nat} {n : Nat} (e : ∀ j, j < n → f j = h j) : sumT f n = sumT h n := by
  induction n with
  | zero => rfl
  | succ n ih => show sumT f n + f n = sumT h n + h n; rw [ih fun j hj => e j (Nat.lt_succ_of_lt hj), e n (Nat.lt_succ_self n)]
/-- the first place from i on, of d, where p holds -/
def fst (p : Nat → Bool) : Nat → Nat → Int32
  | _, 0 => -1
  | i, d + 1 => if p i then nI i else fst p (i + 1) d
def Cshm (e : Nat) (a : Sg) (M : MS) : Prop := ∀ k, sP a (tk 10 0) k = mp k
def Cpx0 (e : Nat) (a : Sg) (M : MS) : Prop := sP a (tk 9 0) 0 = some (tk 15 0)
def Cpx1 (e : Nat) (a : Sg) (M : MS) : Prop := sP a (tk 9 0) 1 = some (tk 1 0)
def Cpx2 (e : Nat) (a : Sg) (M : MS) : Prop := sP a (tk 9 0) 2 = some (tk 8 0)
def Cpf0 (e : Nat) (a : Sg) (M : MS) : Prop := sP a (tk 1 0) 0 = some (tk 8 0)
def Cpf1 (e : Nat) (a : Sg) (M : MS) : Prop := sP a (tk 1 0) 1 = some (tk 17 0)
def Cpf3 (e : Nat) (a : Sg) (M : MS) : Prop := sP a (tk 1 0) 3 = some (tk 20 0)
def Cps0 (e : Nat) (a : Sg) (M : MS) : Prop := sP a (tk 8 0) 0 = some (tk 14 0)
def Cps2 (e : Nat) (a : Sg) (M : MS) : Prop := sP a (tk 8 0) 2 = some (tk 19 0)
def Cps4 (e : Nat) (a : Sg) (M : MS) : Prop := sP a (tk 8 0) 4 = some (tk 23 0)
def Cpk (e : Nat) (a : Sg) (M : MS) : Prop := ∀ i, i < 12 → sP a (tk 15 0) i = some (tk 2 i)
def Cpkl (e : Nat) (a : Sg) (M : MS) : Prop := ∀ i, i < 12 → sP a (tk 2 i) 4 = some (tk 16 i)
def Cpko (e : Nat) (a : Sg) (M : MS) : Prop := ∀ i, i < 12 → sP a (tk 2 i) 6 = some (tk 18 i)
def Cghour (e : Nat) (a : Sg) (M : MS) : Prop := sI a (tk 9 0) 3 = gI M 255 0
def Cgstand (e : Nat) (a : Sg) (M : MS) : Prop := sI a (tk 9 0) 4 = gI M 254 0
def Cgbought (e : Nat) (a : Sg) (M : MS) : Prop := sI a (tk 9 0) 5 = gI M 256 0
def Cgmach (e : Nat) (a : Sg) (M : MS) : Prop := sI a (tk 1 0) 2 = gI M 227 0
def Cgpers (e : Nat) (a : Sg) (M : MS) : Prop := sI a (tk 1 0) 4 = gI M 241 0
def Cgworked (e : Nat) (a : Sg) (M : MS) : Prop := sI a (tk 1 0) 5 = gI M 257 0
def Cgrep (e : Nat) (a : Sg) (M : MS) : Prop := sI a (tk 1 0) 6 = gI M 258 0
def Cgbat (e : Nat) (a : Sg) (M : MS) : Prop := sI a (tk 8 0) 1 = gI M 214 0
def Cgord (e : Nat) (a : Sg) (M : MS) : Prop := sI a (tk 8 0) 3 = gI M 247 0
def Cgq (e : Nat) (a : Sg) (M : MS) : Prop := ∀ w, w < 4 → sI a (tk 23 0) w = gI M 12 w
def CnB (e : Nat) (a : Sg) (M : MS) : Prop := gI M 214 0 = nI (nB M)
def CnBx (e : Nat) (a : Sg) (M : MS) : Prop := nB M ≤ 60
def CnM (e : Nat) (a : Sg) (M : MS) : Prop := gI M 227 0 = nI (nM M)
def CnMx (e : Nat) (a : Sg) (M : MS) : Prop := nM M ≤ 6
def CnP (e : Nat) (a : Sg) (M : MS) : Prop := gI M 241 0 = nI (nP M)
def CnPx (e : Nat) (a : Sg) (M : MS) : Prop := nP M ≤ 6
def CnO (e : Nat) (a : Sg) (M : MS) : Prop := gI M 247 0 = nI (nO M)
def CnOx (e : Nat) (a : Sg) (M : MS) : Prop := nO M ≤ 10
def Chr (e : Nat) (a : Sg) (M : MS) : Prop := gI M 255 0 = nI (hN M)
def Chrx (e : Nat) (a : Sg) (M : MS) : Prop := hN M ≤ 2000
def Cstb (e : Nat) (a : Sg) (M : MS) : Prop := b01 (gI M 254 0)
def Cex (e : Nat) (a : Sg) (M : MS) : Prop := e ≤ 7
def Ck0 (e : Nat) (a : Sg) (M : MS) : Prop := ∀ i, i < 12 → sI a (tk 2 i) 0 = nI i
def Ck1 (e : Nat) (a : Sg) (M : MS) : Prop := ∀ i, i < 12 → sI a (tk 2 i) 1 = bi (decide (gI M 0 i = 1))
def Ck2 (e : Nat) (a : Sg) (M : MS) : Prop := ∀ i, i < 12 → sI a (tk 2 i) 2 = gI M 1 i
def Ck3 (e : Nat) (a : Sg) (M : MS) : Prop := ∀ i, i < 12 → sI a (tk 2 i) 3 = gI M 2 i
def Ck5 (e : Nat) (a : Sg) (M : MS) : Prop := ∀ i, i < 12 → sI a (tk 2 i) 5 = gI M 3 i
def Ck7 (e : Nat) (a : Sg) (M : MS) : Prop := ∀ i, i < 12 → sI a (tk 2 i) 7 = gI M 7 i
def Ck8 (e : Nat) (a : Sg) (M : MS) : Prop := ∀ i, i < 12 → sI a (tk 2 i) 8 = gI M 11 i
def Ck9 (e : Nat) (a : Sg) (M : MS) : Prop := ∀ i, i < 12 → sI a (tk 2 i) 9 = gI M 113 i
def Ck10 (e : Nat) (a : Sg) (M : MS) : Prop := ∀ i, i < 12 → sI a (tk 2 i) 10 = mInSt M (nI i) (nB M)
def Ck11 (e : Nat) (a : Sg) (M : MS) : Prop := ∀ i, i < 12 → sI a (tk 2 i) 11 = mProm M (nI i) (nO M)
def Ck12 (e : Nat) (a : Sg) (M : MS) : Prop := ∀ i, i < 12 → sI a (tk 2 i) 12 = 0
def Cksa (e : Nat) (a : Sg) (M : MS) : Prop := ∀ i, i < 12 → (gI M 0 i = 0 ∨ gI M 0 i = 1 ∨ gI M 0 i = 2)
def Cksb (e : Nat) (a : Sg) (M : MS) : Prop := ∀ i, i < 12 → (gI M 0 i = 2 ↔ 0 < nOp M i)
def Cksc (e : Nat) (a : Sg) (M : MS) : Prop := ∀ i, i < 12 → (gI M 0 i = 1 → nLn M i = 0 ∧ nOp M i = 0)
def Ckw (e : Nat) (a : Sg) (M : MS) : Prop := ∀ i, i < 12 → b01 (gI M 113 i)
def Ckl (e : Nat) (a : Sg) (M : MS) : Prop := ∀ i, i < 12 → gI M 3 i = nI (nLn M i) ∧ nLn M i ≤ 3
def Cko (e : Nat) (a : Sg) (M : MS) : Prop := ∀ i, i < 12 → gI M 7 i = nI (nOp M i) ∧ nOp M i ≤ 4
def Ckp (e : Nat) (a : Sg) (M : MS) : Prop := ∀ i, i < 12 → ∃ p h : Nat, gI M 1 i = nI p ∧ p ≤ 99 ∧ gI M 2 i = nI h ∧ h ≤ 30
def Cl0 (e : Nat) (a : Sg) (M : MS) : Prop := ∀ i k, i < 12 → k < nLn M i → sP a (tk 16 i) k = some (tk 3 (3 * i + k))
def Cl1 (e : Nat) (a : Sg) (M : MS) : Prop := ∀ i k, i < 12 → k < nLn M i → sP a (tk 3 (3 * i + k)) 0 = some (tk 2 (lnP M (3 * i + k)))
def Cl2 (e : Nat) (a : Sg) (M : MS) : Prop := ∀ i k, i < 12 → k < nLn M i → sI a (tk 3 (3 * i + k)) 1 = gI M 5 (3 * i + k)
def Cl3 (e : Nat) (a : Sg) (M : MS) : Prop := ∀ i k, i < 12 → k < nLn M i → sP a (tk 3 (3 * i + k)) 2 = kp (gI M 6 (3 * i + k))
def Clm (e : Nat) (a : Sg) (M : MS) : Prop := ∀ i k, i < 12 → k < nLn M i → gI M 4 (3 * i + k) = nI (lnP M (3 * i + k)) ∧ lnP M (3 * i + k) < i ∧ (∃ q : Nat, gI M 5 (3 * i + k) = nI q ∧ 1 ≤ q ∧ q ≤ 3) ∧ (gI M 6 (3 * i + k) = -1 ∨ ∃ q : Nat, gI M 6 (3 * i + k) = nI q ∧ q < i ∧ q ≠ lnP M (3 * i + k))
def Co0 (e : Nat) (a : Sg) (M : MS) : Prop := ∀ i k, i < 12 → k < nOp M i → sP a (tk 18 i) k = some (tk 5 (4 * i + k))
def Co1 (e : Nat) (a : Sg) (M : MS) : Prop := ∀ i k, i < 12 → k < nOp M i → sI a (tk 5 (4 * i + k)) 0 = gI M 8 (4 * i + k)
def Co2 (e : Nat) (a : Sg) (M : MS) : Prop := ∀ i k, i < 12 → k < nOp M i → sI a (tk 5 (4 * i + k)) 1 = gI M 9 (4 * i + k)
def Co3 (e : Nat) (a : Sg) (M : MS) : Prop := ∀ i k, i < 12 → k < nOp M i → sI a (tk 5 (4 * i + k)) 2 = gI M 10 (4 * i + k)
def Com (e : Nat) (a : Sg) (M : MS) : Prop := ∀ i k, i < 12 → k < nOp M i → ∃ w s h : Nat, gI M 8 (4 * i + k) = nI w ∧ w < 4 ∧ gI M 9 (4 * i + k) = nI s ∧ s < 4 ∧ gI M 10 (4 * i + k) = nI h ∧ 1 ≤ h ∧ h ≤ 9
def Cb0 (e : Nat) (a : Sg) (M : MS) : Prop := ∀ j, j < nB M → sP a (tk 14 0) j = some (tk 0 j)
def Cbn (e : Nat) (a : Sg) (M : MS) : Prop := ∀ j, j < nB M → sI a (tk 0 j) 0 = nI j
def Cbk (e : Nat) (a : Sg) (M : MS) : Prop := ∀ j, j < nB M → sP a (tk 0 j) 1 = some (tk 2 (kd M j))
def Cb2 (e : Nat) (a : Sg) (M : MS) : Prop := ∀ j, j < nB M → sI a (tk 0 j) 2 = gI M 16 j
def Cb3 (e : Nat) (a : Sg) (M : MS) : Prop := ∀ j, j < nB M → sI a (tk 0 j) 3 = gI M 17 j
def Cb4 (e : Nat) (a : Sg) (M : MS) : Prop := ∀ j, j < nB M → sI a (tk 0 j) 4 = gI M 18 j
def Cb5 (e : Nat) (a : Sg) (M : MS) : Prop := ∀ j, j < nB M → sI a (tk 0 j) 5 = gI M 19 j
def Cb6 (e : Nat) (a : Sg) (M : MS) : Prop := ∀ j, j < nB M → sI a (tk 0 j) 6 = gI M 20 j
def Cb7 (e : Nat) (a : Sg) (M : MS) : Prop := ∀ j, j < nB M → sI a (tk 0 j) 7 = gI M 121 j
def Cb8 (e : Nat) (a : Sg) (M : MS) : Prop := ∀ j, j < nB M → sI a (tk 0 j) 8 = gI M 122 j
def Cb9 (e : Nat) (a : Sg) (M : MS) : Prop := ∀ j, j < nB M → sI a (tk 0 j) 9 = gI M 25 j
def Cb10 (e : Nat) (a : Sg) (M : MS) : Prop := ∀ j, j < nB M → sI a (tk 0 j) 10 = gI M 23 j
def Cb11 (e : Nat) (a : Sg) (M : MS) : Prop := ∀ j, j < nB M → sL a (tk 0 j) 11 = gL M j
def CbK (e : Nat) (a : Sg) (M : MS) : Prop := ∀ j, j < nB M → gI M 15 j = nI (kd M j) ∧ kd M j < 12
def CbP (e : Nat) (a : Sg) (M : MS) : Prop := ∀ j, j < nB M → gI M 16 j = nI (pc M j)
def CbO (e : Nat) (a : Sg) (M : MS) : Prop := ∀ j, j < nB M → gI M 19 j = nI (op M j) ∧ op M j ≤ 4
def CbW (e : Nat) (a : Sg) (M : MS) : Prop := ∀ j, j < nB M → gI M 18 j = 1 ∨ gI M 18 j = 2 → op M j < nOp M (kd M j)
def CbZ (e : Nat) (a : Sg) (M : MS) : Prop := ∀ j, j < nB M → (gI M 18 j = 4 ↔ pc M j = 0)
def CbF (e : Nat) (a : Sg) (M : MS) : Prop := ∀ j, j < nB M → b01 (gI M 121 j)
def CbS (e : Nat) (a : Sg) (M : MS) : Prop := ∀ j, j < nB M → b01 (gI M 122 j)
def CbC (e : Nat) (a : Sg) (M : MS) : Prop := ∀ j, j < nB M → 0 ≤ (gI M 17 j).toInt
def CbT (e : Nat) (a : Sg) (M : MS) : Prop := ∀ j, j < nB M → ∃ s : Nat, gI M 18 j = nI s ∧ s ≤ 6
def CbU (e : Nat) (a : Sg) (M : MS) : Prop := ∀ j, j < nB M → gI M 113 (kd M j) = 1
def Cbq (e : Nat) (a : Sg) (M : MS) : Prop := totp M (nB M) ≤ 20 * nB M
def Cps (e : Nat) (a : Sg) (M : MS) : Prop := e < 7 → ∀ i, i < 12 → nProm M i (nO M) ≤ nInSt M i (nB M)
def Cbp (e : Nat) (a : Sg) (M : MS) : Prop := ∀ j b, j < nB M → nB M ≤ b → b < 64 → (gL M j).toBitVec.getLsbD b = false
def Cbc (e : Nat) (a : Sg) (M : MS) : Prop := tot M (nB M) ≤ 1980 * (nB M : Int) + 108 * (hN M : Int) + 18 * ((e % 7 : Nat) : Int)
def CfB (e : Nat) (a : Sg) (M : MS) : Prop := ∀ j, nB M ≤ j → j < 60 → sX a (tk 0 j) = false
def CfL (e : Nat) (a : Sg) (M : MS) : Prop := ∀ i k, i < 12 → k < 3 → nLn M i ≤ k → sX a (tk 3 (3 * i + k)) = false
def CfO (e : Nat) (a : Sg) (M : MS) : Prop := ∀ i k, i < 12 → k < 4 → nOp M i ≤ k → sX a (tk 5 (4 * i + k)) = false
def CfM (e : Nat) (a : Sg) (M : MS) : Prop := ∀ m, nM M ≤ m → m < 6 → sX a (tk 4 m) = false
def CfP (e : Nat) (a : Sg) (M : MS) : Prop := ∀ p, nP M ≤ p → p < 6 → sX a (tk 7 p) = false ∧ sX a (tk 21 p) = false ∧ sX a (tk 22 p) = false
def CfR (e : Nat) (a : Sg) (M : MS) : Prop := ∀ r, nO M ≤ r → r < 10 → sX a (tk 6 r) = false
def CfG (e : Nat) (a : Sg) (M : MS) : Prop := ∃ N, 64 ≤ N ∧ ∀ c i, N ≤ i → sX a (tk c i) = false
def Cm0 (e : Nat) (a : Sg) (M : MS) : Prop := ∀ m, m < nM M → sP a (tk 17 0) m = some (tk 4 m)
def Cmn (e : Nat) (a : Sg) (M : MS) : Prop := ∀ m, m < nM M → sI a (tk 4 m) 0 = nI m
def Cm1 (e : Nat) (a : Sg) (M : MS) : Prop := ∀ m, m < nM M → sI a (tk 4 m) 1 = gI M 28 m
def Cm2 (e : Nat) (a : Sg) (M : MS) : Prop := ∀ m, m < nM M → sI a (tk 4 m) 2 = gI M 29 m
def Cm3 (e : Nat) (a : Sg) (M : MS) : Prop := ∀ m, m < nM M → sI a (tk 4 m) 3 = gI M 30 m
def Cm4 (e : Nat) (a : Sg) (M : MS) : Prop := ∀ m, m < nM M → sI a (tk 4 m) 4 = gI M 31 m
def Cm5 (e : Nat) (a : Sg) (M : MS) : Prop := ∀ m, m < nM M → sI a (tk 4 m) 5 = gI M 32 m
def Cm9 (e : Nat) (a : Sg) (M : MS) : Prop := ∀ m, m < nM M → sI a (tk 4 m) 9 = gI M 35 m
def Cm11 (e : Nat) (a : Sg) (M : MS) : Prop := ∀ m, m < nM M → sI a (tk 4 m) 11 = gI M 37 m
def Cm13 (e : Nat) (a : Sg) (M : MS) : Prop := ∀ m, m < nM M → sI a (tk 4 m) 13 = gI M 39 m
def Cm14 (e : Nat) (a : Sg) (M : MS) : Prop := ∀ m, m < nM M → sI a (tk 4 m) 14 = gI M 40 m
def Cm6 (e : Nat) (a : Sg) (M : MS) : Prop := ∀ m, m < nM M → sP a (tk 4 m) 6 = kp (gI M 33 m)
def Cm7 (e : Nat) (a : Sg) (M : MS) : Prop := ∀ m, m < nM M → sP a (tk 4 m) 7 = tp 0 (gI M 34 m)
def Cm8 (e : Nat) (a : Sg) (M : MS) : Prop := ∀ m, m < nM M → sP a (tk 4 m) 8 = tp 7 (gI M 36 m)
def Cm12 (e : Nat) (a : Sg) (M : MS) : Prop := ∀ m, m < nM M → sP a (tk 4 m) 12 = kp (gI M 38 m)
def Cm10 (e : Nat) (a : Sg) (M : MS) : Prop := ∀ m j, m < nM M → j < nB M → gI M 34 m = nI j → sI a (tk 4 m) 10 = gI M 124 j
def Cmma (e : Nat) (a : Sg) (M : MS) : Prop := ∀ m, m < nM M → (gI M 33 m = -1 ∨ ∃ q : Nat, gI M 33 m = nI q ∧ q < 12)
def Cmmb (e : Nat) (a : Sg) (M : MS) : Prop := ∀ m, m < nM M → (gI M 34 m = -1 ∧ gI M 36 m = -1 ∧ gI M 35 m = 0 ∨ ∃ j p : Nat, gI M 34 m = nI j ∧ j < nB M ∧ gI M 18 j = 2 ∧ gI M 36 m = nI p ∧ p < nP M)
def Cmmc (e : Nat) (a : Sg) (M : MS) : Prop := ∀ m, m < nM M → (gI M 38 m = -1 ∨ ∃ q : Nat, gI M 38 m = nI q ∧ q < 12)
def Cmr29 (e : Nat) (a : Sg) (M : MS) : Prop := ∀ m, m < nM M → ∃ s : Nat, gI M 29 m = nI s ∧ s ≤ 5
def Cmr30 (e : Nat) (a : Sg) (M : MS) : Prop := ∀ m, m < nM M → ∃ s : Nat, gI M 30 m = nI s ∧ s ≤ 9
def Cmr31 (e : Nat) (a : Sg) (M : MS) : Prop := ∀ m, m < nM M → ∃ s : Nat, gI M 31 m = nI s ∧ 1 ≤ s ∧ s ≤ 50
def Cmr32 (e : Nat) (a : Sg) (M : MS) : Prop := ∀ m, m < nM M → ∃ s : Nat, gI M 32 m = nI s ∧ 1 ≤ s ∧ s ≤ 9
def Cmr35 (e : Nat) (a : Sg) (M : MS) : Prop := ∀ m, m < nM M → ∃ s : Nat, gI M 35 m = nI s ∧ s ≤ 20
def Cmr39 (e : Nat) (a : Sg) (M : MS) : Prop := ∀ m, m < nM M → ∃ s : Nat, gI M 39 m = nI s ∧ s ≤ 2
def Cmr40 (e : Nat) (a : Sg) (M : MS) : Prop := ∀ m, m < nM M → gI M 39 m = 2 → ∃ s : Nat, gI M 40 m = nI s ∧ 1 ≤ s ∧ s ≤ 9
def Cmd (e : Nat) (a : Sg) (M : MS) : Prop := ∀ m n, m < nM M → n < nM M → m ≠ n → gI M 34 m = gI M 34 n → gI M 34 m = -1
def Cmw (e : Nat) (a : Sg) (M : MS) : Prop := ∀ m n, m < nM M → n < nM M → m ≠ n → gI M 36 m = gI M 36 n → gI M 36 m = -1
def Cq0 (e : Nat) (a : Sg) (M : MS) : Prop := ∀ p, p < nP M → sP a (tk 20 0) p = some (tk 7 p)
def Cqn (e : Nat) (a : Sg) (M : MS) : Prop := ∀ p, p < nP M → sI a (tk 7 p) 0 = nI p
def Cq1 (e : Nat) (a : Sg) (M : MS) : Prop := ∀ p, p < nP M → sI a (tk 7 p) 1 = gI M 42 p
def Cq2 (e : Nat) (a : Sg) (M : MS) : Prop := ∀ p, p < nP M → sI a (tk 7 p) 2 = gI M 43 p
def Cq3 (e : Nat) (a : Sg) (M : MS) : Prop := ∀ p, p < nP M → sI a (tk 7 p) 3 = gI M 44 p
def Cq4 (e : Nat) (a : Sg) (M : MS) : Prop := ∀ p, p < nP M → sP a (tk 7 p) 4 = some (tk 21 p)
def Cq5 (e : Nat) (a : Sg) (M : MS) : Prop := ∀ p, p < nP M → sP a (tk 7 p) 5 = some (tk 22 p)
def Cq6 (e : Nat) (a : Sg) (M : MS) : Prop := ∀ p, p < nP M → (sI a (tk 7 p) 6 = -1 ∧ ∀ m, m < nM M → gI M 36 m ≠ nI p) ∨ ∃ m, m < nM M ∧ sI a (tk 7 p) 6 = nI m ∧ gI M 36 m = nI p
def Cql (e : Nat) (a : Sg) (M : MS) : Prop := ∀ p s, p < nP M → s < 4 → sI a (tk 21 p) s = gI M 45 (4 * p + s)
def Cqw (e : Nat) (a : Sg) (M : MS) : Prop := ∀ p s, p < nP M → s < 4 → gI M 45 (4 * p + s) < 3 → sI a (tk 22 p) s = gI M 46 (4 * p + s)
def Cqm (e : Nat) (a : Sg) (M : MS) : Prop := ∀ p, p < nP M → ∃ w b h : Nat, gI M 42 p = nI w ∧ w ≤ 9 ∧ gI M 43 p = nI b ∧ b ≤ 23 ∧ gI M 44 p = nI h ∧ 1 ≤ h ∧ h ≤ 24
def Cqr (e : Nat) (a : Sg) (M : MS) : Prop := ∀ p s, p < nP M → s < 4 → ∃ l w : Nat, gI M 45 (4 * p + s) = nI l ∧ l ≤ 3 ∧ gI M 46 (4 * p + s) = nI w ∧ w ≤ 7
def Cr0 (e : Nat) (a : Sg) (M : MS) : Prop := ∀ r, r < nO M → sP a (tk 19 0) r = some (tk 6 r)
def Cr1 (e : Nat) (a : Sg) (M : MS) : Prop := ∀ r, r < nO M → sP a (tk 6 r) 0 = kp (gI M 48 r)
def Cr2 (e : Nat) (a : Sg) (M : MS) : Prop := ∀ r, r < nO M → sI a (tk 6 r) 1 = gI M 49 r
def Cr3 (e : Nat) (a : Sg) (M : MS) : Prop := ∀ r, r < nO M → sI a (tk 6 r) 2 = gI M 50 r
def Cr4 (e : Nat) (a : Sg) (M : MS) : Prop := ∀ r, r < nO M → sI a (tk 6 r) 3 = gI M 51 r
def Cr5 (e : Nat) (a : Sg) (M : MS) : Prop := ∀ r, r < nO M → sP a (tk 6 r) 4 = tp 0 (gI M 52 r)
def Cr6 (e : Nat) (a : Sg) (M : MS) : Prop := ∀ r, r < nO M → gI M 52 r ≠ -1 → sI a (tk 6 r) 5 = gI M 53 r
def Crk (e : Nat) (a : Sg) (M : MS) : Prop := ∀ r, r < nO M → ∃ k : Nat, gI M 48 r = nI k ∧ k < 12
def Crp (e : Nat) (a : Sg) (M : MS) : Prop := ∀ r, r < nO M → ∃ p : Nat, gI M 49 r = nI p ∧ 1 ≤ p ∧ p ≤ 20
def Crq (e : Nat) (a : Sg) (M : MS) : Prop := ∀ r, r < nO M → gI M 51 r = nI (pr M r)
def Crr (e : Nat) (a : Sg) (M : MS) : Prop := ∀ r, r < nO M → pr M r ≤ (gI M 49 r).toNatClampNeg
def Crs (e : Nat) (a : Sg) (M : MS) : Prop := ∀ r, r < nO M → (gI M 52 r = -1 ∨ ∃ j : Nat, gI M 52 r = nI j ∧ j < nB M)
def Rel (e : Nat) (a : Sg) (M : MS) : Prop :=
  Cshm e a M ∧
  Cpx0 e a M ∧
  Cpx1 e a M ∧
  Cpx2 e a M ∧
  Cpf0 e a M ∧
  Cpf1 e a M ∧
  Cpf3 e a M ∧
  Cps0 e a M ∧
  Cps2 e a M ∧
  Cps4 e a M ∧
  Cpk e a M ∧
  Cpkl e a M ∧
  Cpko e a M ∧
  Cghour e a M ∧
  Cgstand e a M ∧
  Cgbought e a M ∧
  Cgmach e a M ∧
  Cgpers e a M ∧
  Cgworked e a M ∧
  Cgrep e a M ∧
  Cgbat e a M ∧
  Cgord e a M ∧
  Cgq e a M ∧
  CnB e a M ∧
  CnBx e a M ∧
  CnM e a M ∧
  CnMx e a M ∧
  CnP e a M ∧
  CnPx e a M ∧
  CnO e a M ∧
  CnOx e a M ∧
  Chr e a M ∧
  Chrx e a M ∧
  Cstb e a M ∧
  Cex e a M ∧
  Ck0 e a M ∧
  Ck1 e a M ∧
  Ck2 e a M ∧
  Ck3 e a M ∧
  Ck5 e a M ∧
  Ck7 e a M ∧
  Ck8 e a M ∧
  Ck9 e a M ∧
  Ck10 e a M ∧
  Ck11 e a M ∧
  Ck12 e a M ∧
  Cksa e a M ∧
  Cksb e a M ∧
  Cksc e a M ∧
  Ckw e a M ∧
  Ckl e a M ∧
  Cko e a M ∧
  Ckp e a M ∧
  Cl0 e a M ∧
  Cl1 e a M ∧
  Cl2 e a M ∧
  Cl3 e a M ∧
  Clm e a M ∧
  Co0 e a M ∧
  Co1 e a M ∧
  Co2 e a M ∧
  Co3 e a M ∧
  Com e a M ∧
  Cb0 e a M ∧
  Cbn e a M ∧
  Cbk e a M ∧
  Cb2 e a M ∧
  Cb3 e a M ∧
  Cb4 e a M ∧
  Cb5 e a M ∧
  Cb6 e a M ∧
  Cb7 e a M ∧
  Cb8 e a M ∧
  Cb9 e a M ∧
  Cb10 e a M ∧
  Cb11 e a M ∧
  CbK e a M ∧
  CbP e a M ∧
  CbO e a M ∧
  CbW e a M ∧
  CbZ e a M ∧
  CbF e a M ∧
  CbS e a M ∧
  CbC e a M ∧
  CbT e a M ∧
  CbU e a M ∧
  Cbq e a M ∧
  Cps e a M ∧
  Cbp e a M ∧
  Cbc e a M ∧
  CfB e a M ∧
  CfL e a M ∧
  CfO e a M ∧
  CfM e a M ∧
  CfP e a M ∧
  CfR e a M ∧
  CfG e a M ∧
  Cm0 e a M ∧
  Cmn e a M ∧
  Cm1 e a M ∧
  Cm2 e a M ∧
  Cm3 e a M ∧
  Cm4 e a M ∧
  Cm5 e a M ∧
  Cm9 e a M ∧
  Cm11 e a M ∧
  Cm13 e a M ∧
  Cm14 e a M ∧
  Cm6 e a M ∧
  Cm7 e a M ∧
  Cm8 e a M ∧
  Cm12 e a M ∧
  Cm10 e a M ∧
  Cmma e a M ∧
  Cmmb e a M ∧
  Cmmc e a M ∧
  Cmr29 e a M ∧
  Cmr30 e a M ∧
  Cmr31 e a M ∧
  Cmr32 e a M ∧
  Cmr35 e a M ∧
  Cmr39 e a M ∧
  Cmr40 e a M ∧
  Cmd e a M ∧
  Cmw e a M ∧
  Cq0 e a M ∧
  Cqn e a M ∧
  Cq1 e a M ∧
  Cq2 e a M ∧
  Cq3 e a M ∧
  Cq4 e a M ∧
  Cq5 e a M ∧
  Cq6 e a M ∧
  Cql e a M ∧
  Cqw e a M ∧
  Cqm e a M ∧
  Cqr e a M ∧
  Cr0 e a M ∧
  Cr1 e a M ∧
  Cr2 e a M ∧
  Cr3 e a M ∧
  Cr4 e a M ∧
  Cr5 e a M ∧
  Cr6 e a M ∧
  Crk e a M ∧
  Crp e a M ∧
  Crq e a M ∧
  Crr e a M ∧
  Crs e a M
theorem r_shm {e : Nat} {a : Sg} {M : MS} (h : Rel e a M) : ∀ k, sP a (tk 10 0) k = mp k := h.1
theorem r_px0 {e : Nat} {a : Sg} {M : MS} (h : Rel e a M) : sP a (tk 9 0) 0 = some (tk 15 0) := h.2.1
theorem r_px1 {e : Nat} {a : Sg} {M : MS} (h : Rel e a M) : sP a (tk 9 0) 1 = some (tk 1 0) := h.2.2.1
theorem r_px2 {e : Nat} {a : Sg} {M : MS} (h : Rel e a M) : sP a (tk 9 0) 2 = some (tk 8 0) := h.2.2.2.1
theorem r_pf0 {e : Nat} {a : Sg} {M : MS} (h : Rel e a M) : sP a (tk 1 0) 0 = some (tk 8 0) := h.2.2.2.2.1
theorem r_pf1 {e : Nat} {a : Sg} {M : MS} (h : Rel e a M) : sP a (tk 1 0) 1 = some (tk 17 0) := h.2.2.2.2.2.1
theorem r_pf3 {e : Nat} {a : Sg} {M : MS} (h : Rel e a M) : sP a (tk 1 0) 3 = some (tk 20 0) := h.2.2.2.2.2.2.1
theorem r_ps0 {e : Nat} {a : Sg} {M : MS} (h : Rel e a M) : sP a (tk 8 0) 0 = some (tk 14 0) := h.2.2.2.2.2.2.2.1
theorem r_ps2 {e : Nat} {a : Sg} {M : MS} (h : Rel e a M) : sP a (tk 8 0) 2 = some (tk 19 0) := h.2.2.2.2.2.2.2.2.1
theorem r_ps4 {e : Nat} {a : Sg} {M : MS} (h : Rel e a M) : sP a (tk 8 0) 4 = some (tk 23 0) := h.2.2.2.2.2.2.2.2.2.1
theorem r_pk {e : Nat} {a : Sg} {M : MS} (h : Rel e a M) : ∀ i, i < 12 → sP a (tk 15 0) i = some (tk 2 i) := h.2.2.2.2.2.2.2.2.2.2.1
theorem r_pkl {e : Nat} {a : Sg} {M : MS} (h : Rel e a M) : ∀ i, i < 12 → sP a (tk 2 i) 4 = some (tk 16 i) := h.2.2.2.2.2.2.2.2.2.2.2.1
theorem r_pko {e : Nat} {a : Sg} {M : MS} (h : Rel e a M) : ∀ i, i < 12 → sP a (tk 2 i) 6 = some (tk 18 i) := h.2.2.2.2.2.2.2.2.2.2.2.2.1
theorem r_ghour {e : Nat} {a : Sg} {M : MS} (h : Rel e a M) : sI a (tk 9 0) 3 = gI M 255 0 := h.2.2.2.2.2.2.2.2.2.2.2.2.2.1
theorem r_gstand {e : Nat} {a : Sg} {M : MS} (h : Rel e a M) : sI a (tk 9 0) 4 = gI M 254 0 := h.2.2.2.2.2.2.2.2.2.2.2.2.2.2.1
theorem r_gbought {e : Nat} {a : Sg} {M : MS} (h : Rel e a M) : sI a (tk 9 0) 5 = gI M 256 0 := h.2.2.2.2.2.2.2.2.2.2.2.2.2.2.2.1
theorem r_gmach {e : Nat} {a : Sg} {M : MS} (h : Rel e a M) : sI a (tk 1 0) 2 = gI M 227 0 := h.2.2.2.2.2.2.2.2.2.2.2.2.2.2.2.2.1
theorem r_gpers {e : Nat} {a : Sg} {M : MS} (h : Rel e a M) : sI a (tk 1 0) 4 = gI M 241 0 := h.2.2.2.2.2.2.2.2.2.2.2.2.2.2.2.2.2.1
theorem r_gworked {e : Nat} {a : Sg} {M : MS} (h : Rel e a M) : sI a (tk 1 0) 5 = gI M 257 0 := h.2.2.2.2.2.2.2.2.2.2.2.2.2.2.2.2.2.2.1
theorem r_grep {e : Nat} {a : Sg} {M : MS} (h : Rel e a M) : sI a (tk 1 0) 6 = gI M 258 0 := h.2.2.2.2.2.2.2.2.2.2.2.2.2.2.2.2.2.2.2.1
theorem r_gbat {e : Nat} {a : Sg} {M : MS} (h : Rel e a M) : sI a (tk 8 0) 1 = gI M 214 0 := h.2.2.2.2.2.2.2.2.2.2.2.2.2.2.2.2.2.2.2.2.1
theorem r_gord {e : Nat} {a : Sg} {M : MS} (h : Rel e a M) : sI a (tk 8 0) 3 = gI M 247 0 := h.2.2.2.2.2.2.2.2.2.2.2.2.2.2.2.2.2.2.2.2.2.1
theorem r_gq {e : Nat} {a : Sg} {M : MS} (h : Rel e a M) : ∀ w, w < 4 → sI a (tk 23 0) w = gI M 12 w := h.2.2.2.2.2.2.2.2.2.2.2.2.2.2.2.2.2.2.2.2.2.2.1
theorem r_nB {e : Nat} {a : Sg} {M : MS} (h : Rel e a M) : gI M 214 0 = nI (nB M) := h.2.2.2.2.2.2.2.2.2.2.2.2.2.2.2.2.2.2.2.2.2.2.2.1
theorem r_nBx {e : Nat} {a : Sg} {M : MS} (h : Rel e a M) : nB M ≤ 60 := h.2.2.2.2.2.2.2.2.2.2.2.2.2.2.2.2.2.2.2.2.2.2.2.2.1
theorem r_nM {e : Nat} {a : Sg} {M : MS} (h : Rel e a M) : gI M 227 0 = nI (nM M) := h.2.2.2.2.2.2.2.2.2.2.2.2.2.2.2.2.2.2.2.2.2.2.2.2.2.1
theorem r_nMx {e : Nat} {a : Sg} {M : MS} (h : Rel e a M) : nM M ≤ 6 := h.2.2.2.2.2.2.2.2.2.2.2.2.2.2.2.2.2.2.2.2.2.2.2.2.2.2.1
theorem r_nP {e : Nat} {a : Sg} {M : MS} (h : Rel e a M) : gI M 241 0 = nI (nP M) := h.2.2.2.2.2.2.2.2.2.2.2.2.2.2.2.2.2.2.2.2.2.2.2.2.2.2.2.1
theorem r_nPx {e : Nat} {a : Sg} {M : MS} (h : Rel e a M) : nP M ≤ 6 := h.2.2.2.2.2.2.2.2.2.2.2.2.2.2.2.2.2.2.2.2.2.2.2.2.2.2.2.2.1
theorem r_nO {e : Nat} {a : Sg} {M : MS} (h : Rel e a M) : gI M 247 0 = nI (nO M) := h.2.2.2.2.2.2.2.2.2.2.2.2.2.2.2.2.2.2.2.2.2.2.2.2.2.2.2.2.2.1
theorem r_nOx {e : Nat} {a : Sg} {M : MS} (h : Rel e a M) : nO M ≤ 10 := h.2.2.2.2.2.2.2.2.2.2.2.2.2.2.2.2.2.2.2.2.2.2.2.2.2.2.2.2.2.2.1
theorem r_hr {e : Nat} {a : Sg} {M : MS} (h : Rel e a M) : gI M 255 0 = nI (hN M) := h.2.2.2.2.2.2.2.2.2.2.2.2.2.2.2.2.2.2.2.2.2.2.2.2.2.2.2.2.2.2.2.1
theorem r_hrx {e : Nat} {a : Sg} {M : MS} (h : Rel e a M) : hN M ≤ 2000 := h.2.2.2.2.2.2.2.2.2.2.2.2.2.2.2.2.2.2.2.2.2.2.2.2.2.2.2.2.2.2.2.2.1
theorem r_stb {e : Nat} {a : Sg} {M : MS} (h : Rel e a M) : b01 (gI M 254 0) := h.2.2.2.2.2.2.2.2.2.2.2.2.2.2.2.2.2.2.2.2.2.2.2.2.2.2.2.2.2.2.2.2.2.1
theorem r_ex {e : Nat} {a : Sg} {M : MS} (h : Rel e a M) : e ≤ 7 := h.2.2.2.2.2.2.2.2.2.2.2.2.2.2.2.2.2.2.2.2.2.2.2.2.2.2.2.2.2.2.2.2.2.2.1
theorem r_k0 {e : Nat} {a : Sg} {M : MS} (h : Rel e a M) : ∀ i, i < 12 → sI a (tk 2 i) 0 = nI i := h.2.2.2.2.2.2.2.2.2.2.2.2.2.2.2.2.2.2.2.2.2.2.2.2.2.2.2.2.2.2.2.2.2.2.2.1
theorem r_k1 {e : Nat} {a : Sg} {M : MS} (h : Rel e a M) : ∀ i, i < 12 → sI a (tk 2 i) 1 = bi (decide (gI M 0 i = 1)) := h.2.2.2.2.2.2.2.2.2.2.2.2.2.2.2.2.2.2.2.2.2.2.2.2.2.2.2.2.2.2.2.2.2.2.2.2.1
theorem r_k2 {e : Nat} {a : Sg} {M : MS} (h : Rel e a M) : ∀ i, i < 12 → sI a (tk 2 i) 2 = gI M 1 i := h.2.2.2.2.2.2.2.2.2.2.2.2.2.2.2.2.2.2.2.2.2.2.2.2.2.2.2.2.2.2.2.2.2.2.2.2.2.1
theorem r_k3 {e : Nat} {a : Sg} {M : MS} (h : Rel e a M) : ∀ i, i < 12 → sI a (tk 2 i) 3 = gI M 2 i := h.2.2.2.2.2.2.2.2.2.2.2.2.2.2.2.2.2.2.2.2.2.2.2.2.2.2.2.2.2.2.2.2.2.2.2.2.2.2.1
theorem r_k5 {e : Nat} {a : Sg} {M : MS} (h : Rel e a M) : ∀ i, i < 12 → sI a (tk 2 i) 5 = gI M 3 i := h.2.2.2.2.2.2.2.2.2.2.2.2.2.2.2.2.2.2.2.2.2.2.2.2.2.2.2.2.2.2.2.2.2.2.2.2.2.2.2.1
theorem r_k7 {e : Nat} {a : Sg} {M : MS} (h : Rel e a M) : ∀ i, i < 12 → sI a (tk 2 i) 7 = gI M 7 i := h.2.2.2.2.2.2.2.2.2.2.2.2.2.2.2.2.2.2.2.2.2.2.2.2.2.2.2.2.2.2.2.2.2.2.2.2.2.2.2.2.1
theorem r_k8 {e : Nat} {a : Sg} {M : MS} (h : Rel e a M) : ∀ i, i < 12 → sI a (tk 2 i) 8 = gI M 11 i := h.2.2.2.2.2.2.2.2.2.2.2.2.2.2.2.2.2.2.2.2.2.2.2.2.2.2.2.2.2.2.2.2.2.2.2.2.2.2.2.2.2.1
theorem r_k9 {e : Nat} {a : Sg} {M : MS} (h : Rel e a M) : ∀ i, i < 12 → sI a (tk 2 i) 9 = gI M 113 i := h.2.2.2.2.2.2.2.2.2.2.2.2.2.2.2.2.2.2.2.2.2.2.2.2.2.2.2.2.2.2.2.2.2.2.2.2.2.2.2.2.2.2.1
theorem r_k10 {e : Nat} {a : Sg} {M : MS} (h : Rel e a M) : ∀ i, i < 12 → sI a (tk 2 i) 10 = mInSt M (nI i) (nB M) := h.2.2.2.2.2.2.2.2.2.2.2.2.2.2.2.2.2.2.2.2.2.2.2.2.2.2.2.2.2.2.2.2.2.2.2.2.2.2.2.2.2.2.2.1
theorem r_k11 {e : Nat} {a : Sg} {M : MS} (h : Rel e a M) : ∀ i, i < 12 → sI a (tk 2 i) 11 = mProm M (nI i) (nO M) := h.2.2.2.2.2.2.2.2.2.2.2.2.2.2.2.2.2.2.2.2.2.2.2.2.2.2.2.2.2.2.2.2.2.2.2.2.2.2.2.2.2.2.2.2.1
theorem r_k12 {e : Nat} {a : Sg} {M : MS} (h : Rel e a M) : ∀ i, i < 12 → sI a (tk 2 i) 12 = 0 := h.2.2.2.2.2.2.2.2.2.2.2.2.2.2.2.2.2.2.2.2.2.2.2.2.2.2.2.2.2.2.2.2.2.2.2.2.2.2.2.2.2.2.2.2.2.1
theorem r_ksa {e : Nat} {a : Sg} {M : MS} (h : Rel e a M) : ∀ i, i < 12 → (gI M 0 i = 0 ∨ gI M 0 i = 1 ∨ gI M 0 i = 2) := h.2.2.2.2.2.2.2.2.2.2.2.2.2.2.2.2.2.2.2.2.2.2.2.2.2.2.2.2.2.2.2.2.2.2.2.2.2.2.2.2.2.2.2.2.2.2.1
theorem r_ksb {e : Nat} {a : Sg} {M : MS} (h : Rel e a M) : ∀ i, i < 12 → (gI M 0 i = 2 ↔ 0 < nOp M i) := h.2.2.2.2.2.2.2.2.2.2.2.2.2.2.2.2.2.2.2.2.2.2.2.2.2.2.2.2.2.2.2.2.2.2.2.2.2.2.2.2.2.2.2.2.2.2.2.1
theorem r_ksc {e : Nat} {a : Sg} {M : MS} (h : Rel e a M) : ∀ i, i < 12 → (gI M 0 i = 1 → nLn M i = 0 ∧ nOp M i = 0) := h.2.2.2.2.2.2.2.2.2.2.2.2.2.2.2.2.2.2.2.2.2.2.2.2.2.2.2.2.2.2.2.2.2.2.2.2.2.2.2.2.2.2.2.2.2.2.2.2.1
theorem r_kw {e : Nat} {a : Sg} {M : MS} (h : Rel e a M) : ∀ i, i < 12 → b01 (gI M 113 i) := h.2.2.2.2.2.2.2.2.2.2.2.2.2.2.2.2.2.2.2.2.2.2.2.2.2.2.2.2.2.2.2.2.2.2.2.2.2.2.2.2.2.2.2.2.2.2.2.2.2.1
theorem r_kl {e : Nat} {a : Sg} {M : MS} (h : Rel e a M) : ∀ i, i < 12 → gI M 3 i = nI (nLn M i) ∧ nLn M i ≤ 3 := h.2.2.2.2.2.2.2.2.2.2.2.2.2.2.2.2.2.2.2.2.2.2.2.2.2.2.2.2.2.2.2.2.2.2.2.2.2.2.2.2.2.2.2.2.2.2.2.2.2.2.1
theorem r_ko {e : Nat} {a : Sg} {M : MS} (h : Rel e a M) : ∀ i, i < 12 → gI M 7 i = nI (nOp M i) ∧ nOp M i ≤ 4 := h.2.2.2.2.2.2.2.2.2.2.2.2.2.2.2.2.2.2.2.2.2.2.2.2.2.2.2.2.2.2.2.2.2.2.2.2.2.2.2.2.2.2.2.2.2.2.2.2.2.2.2.1
theorem r_kp {e : Nat} {a : Sg} {M : MS} (h : Rel e a M) : ∀ i, i < 12 → ∃ p h : Nat, gI M 1 i = nI p ∧ p ≤ 99 ∧ gI M 2 i = nI h ∧ h ≤ 30 := h.2.2.2.2.2.2.2.2.2.2.2.2.2.2.2.2.2.2.2.2.2.2.2.2.2.2.2.2.2.2.2.2.2.2.2.2.2.2.2.2.2.2.2.2.2.2.2.2.2.2.2.2.1
theorem r_l0 {e : Nat} {a : Sg} {M : MS} (h : Rel e a M) : ∀ i k, i < 12 → k < nLn M i → sP a (tk 16 i) k = some (tk 3 (3 * i + k)) := h.2.2.2.2.2.2.2.2.2.2.2.2.2.2.2.2.2.2.2.2.2.2.2.2.2.2.2.2.2.2.2.2.2.2.2.2.2.2.2.2.2.2.2.2.2.2.2.2.2.2.2.2.2.1
theorem r_l1 {e : Nat} {a : Sg} {M : MS} (h : Rel e a M) : ∀ i k, i < 12 → k < nLn M i → sP a (tk 3 (3 * i + k)) 0 = some (tk 2 (lnP M (3 * i + k))) := h.2.2.2.2.2.2.2.2.2.2.2.2.2.2.2.2.2.2.2.2.2.2.2.2.2.2.2.2.2.2.2.2.2.2.2.2.2.2.2.2.2.2.2.2.2.2.2.2.2.2.2.2.2.2.1
theorem r_l2 {e : Nat} {a : Sg} {M : MS} (h : Rel e a M) : ∀ i k, i < 12 → k < nLn M i → sI a (tk 3 (3 * i + k)) 1 = gI M 5 (3 * i + k) := h.2.2.2.2.2.2.2.2.2.2.2.2.2.2.2.2.2.2.2.2.2.2.2.2.2.2.2.2.2.2.2.2.2.2.2.2.2.2.2.2.2.2.2.2.2.2.2.2.2.2.2.2.2.2.2.1
theorem r_l3 {e : Nat} {a : Sg} {M : MS} (h : Rel e a M) : ∀ i k, i < 12 → k < nLn M i → sP a (tk 3 (3 * i + k)) 2 = kp (gI M 6 (3 * i + k)) := h.2.2.2.2.2.2.2.2.2.2.2.2.2.2.2.2.2.2.2.2.2.2.2.2.2.2.2.2.2.2.2.2.2.2.2.2.2.2.2.2.2.2.2.2.2.2.2.2.2.2.2.2.2.2.2.2.1
theorem r_lm {e : Nat} {a : Sg} {M : MS} (h : Rel e a M) : ∀ i k, i < 12 → k < nLn M i → gI M 4 (3 * i + k) = nI (lnP M (3 * i + k)) ∧ lnP M (3 * i + k) < i ∧ (∃ q : Nat, gI M 5 (3 * i + k) = nI q ∧ 1 ≤ q ∧ q ≤ 3) ∧ (gI M 6 (3 * i + k) = -1 ∨ ∃ q : Nat, gI M 6 (3 * i + k) = nI q ∧ q < i ∧ q ≠ lnP M (3 * i + k)) := h.2.2.2.2.2.2.2.2.2.2.2.2.2.2.2.2.2.2.2.2.2.2.2.2.2.2.2.2.2.2.2.2.2.2.2.2.2.2.2.2.2.2.2.2.2.2.2.2.2.2.2.2.2.2.2.2.2.1
theorem r_o0 {e : Nat} {a : Sg} {M : MS} (h : Rel e a M) : ∀ i k, i < 12 → k < nOp M i → sP a (tk 18 i) k = some (tk 5 (4 * i + k)) := h.2.2.2.2.2.2.2.2.2.2.2.2.2.2.2.2.2.2.2.2.2.2.2.2.2.2.2.2.2.2.2.2.2.2.2.2.2.2.2.2.2.2.2.2.2.2.2.2.2.2.2.2.2.2.2.2.2.2.1
theorem r_o1 {e : Nat} {a : Sg} {M : MS} (h : Rel e a M) : ∀ i k, i < 12 → k < nOp M i → sI a (tk 5 (4 * i + k)) 0 = gI M 8 (4 * i + k) := h.2.2.2.2.2.2.2.2.2.2.2.2.2.2.2.2.2.2.2.2.2.2.2.2.2.2.2.2.2.2.2.2.2.2.2.2.2.2.2.2.2.2.2.2.2.2.2.2.2.2.2.2.2.2.2.2.2.2.2.1
theorem r_o2 {e : Nat} {a : Sg} {M : MS} (h : Rel e a M) : ∀ i k, i < 12 → k < nOp M i → sI a (tk 5 (4 * i + k)) 1 = gI M 9 (4 * i + k) := h.2.2.2.2.2.2.2.2.2.2.2.2.2.2.2.2.2.2.2.2.2.2.2.2.2.2.2.2.2.2.2.2.2.2.2.2.2.2.2.2.2.2.2.2.2.2.2.2.2.2.2.2.2.2.2.2.2.2.2.2.1
theorem r_o3 {e : Nat} {a : Sg} {M : MS} (h : Rel e a M) : ∀ i k, i < 12 → k < nOp M i → sI a (tk 5 (4 * i + k)) 2 = gI M 10 (4 * i + k) := h.2.2.2.2.2.2.2.2.2.2.2.2.2.2.2.2.2.2.2.2.2.2.2.2.2.2.2.2.2.2.2.2.2.2.2.2.2.2.2.2.2.2.2.2.2.2.2.2.2.2.2.2.2.2.2.2.2.2.2.2.2.1
theorem r_om {e : Nat} {a : Sg} {M : MS} (h : Rel e a M) : ∀ i k, i < 12 → k < nOp M i → ∃ w s h : Nat, gI M 8 (4 * i + k) = nI w ∧ w < 4 ∧ gI M 9 (4 * i + k) = nI s ∧ s < 4 ∧ gI M 10 (4 * i + k) = nI h ∧ 1 ≤ h ∧ h ≤ 9 := h.2.2.2.2.2.2.2.2.2.2.2.2.2.2.2.2.2.2.2.2.2.2.2.2.2.2.2.2.2.2.2.2.2.2.2.2.2.2.2.2.2.2.2.2.2.2.2.2.2.2.2.2.2.2.2.2.2.2.2.2.2.2.1
theorem r_b0 {e : Nat} {a : Sg} {M : MS} (h : Rel e a M) : ∀ j, j < nB M → sP a (tk 14 0) j = some (tk 0 j) := h.2.2.2.2.2.2.2.2.2.2.2.2.2.2.2.2.2.2.2.2.2.2.2.2.2.2.2.2.2.2.2.2.2.2.2.2.2.2.2.2.2.2.2.2.2.2.2.2.2.2.2.2.2.2.2.2.2.2.2.2.2.2.2.1
theorem r_bn {e : Nat} {a : Sg} {M : MS} (h : Rel e a M) : ∀ j, j < nB M → sI a (tk 0 j) 0 = nI j := h.2.2.2.2.2.2.2.2.2.2.2.2.2.2.2.2.2.2.2.2.2.2.2.2.2.2.2.2.2.2.2.2.2.2.2.2.2.2.2.2.2.2.2.2.2.2.2.2.2.2.2.2.2.2.2.2.2.2.2.2.2.2.2.2.1
theorem r_bk {e : Nat} {a : Sg} {M : MS} (h : Rel e a M) : ∀ j, j < nB M → sP a (tk 0 j) 1 = some (tk 2 (kd M j)) := h.2.2.2.2.2.2.2.2.2.2.2.2.2.2.2.2.2.2.2.2.2.2.2.2.2.2.2.2.2.2.2.2.2.2.2.2.2.2.2.2.2.2.2.2.2.2.2.2.2.2.2.2.2.2.2.2.2.2.2.2.2.2.2.2.2.1
theorem r_b2 {e : Nat} {a : Sg} {M : MS} (h : Rel e a M) : ∀ j, j < nB M → sI a (tk 0 j) 2 = gI M 16 j := h.2.2.2.2.2.2.2.2.2.2.2.2.2.2.2.2.2.2.2.2.2.2.2.2.2.2.2.2.2.2.2.2.2.2.2.2.2.2.2.2.2.2.2.2.2.2.2.2.2.2.2.2.2.2.2.2.2.2.2.2.2.2.2.2.2.2.1
theorem r_b3 {e : Nat} {a : Sg} {M : MS} (h : Rel e a M) : ∀ j, j < nB M → sI a (tk 0 j) 3 = gI M 17 j := h.2.2.2.2.2.2.2.2.2.2.2.2.2.2.2.2.2.2.2.2.2.2.2.2.2.2.2.2.2.2.2.2.2.2.2.2.2.2.2.2.2.2.2.2.2.2.2.2.2.2.2.2.2.2.2.2.2.2.2.2.2.2.2.2.2.2.2.1
theorem r_b4 {e : Nat} {a : Sg} {M : MS} (h : Rel e a M) : ∀ j, j < nB M → sI a (tk 0 j) 4 = gI M 18 j := h.2.2.2.2.2.2.2.2.2.2.2.2.2.2.2.2.2.2.2.2.2.2.2.2.2.2.2.2.2.2.2.2.2.2.2.2.2.2.2.2.2.2.2.2.2.2.2.2.2.2.2.2.2.2.2.2.2.2.2.2.2.2.2.2.2.2.2.2.1
theorem r_b5 {e : Nat} {a : Sg} {M : MS} (h : Rel e a M) : ∀ j, j < nB M → sI a (tk 0 j) 5 = gI M 19 j := h.2.2.2.2.2.2.2.2.2.2.2.2.2.2.2.2.2.2.2.2.2.2.2.2.2.2.2.2.2.2.2.2.2.2.2.2.2.2.2.2.2.2.2.2.2.2.2.2.2.2.2.2.2.2.2.2.2.2.2.2.2.2.2.2.2.2.2.2.2.1
theorem r_b6 {e : Nat} {a : Sg} {M : MS} (h : Rel e a M) : ∀ j, j < nB M → sI a (tk 0 j) 6 = gI M 20 j := h.2.2.2.2.2.2.2.2.2.2.2.2.2.2.2.2.2.2.2.2.2.2.2.2.2.2.2.2.2.2.2.2.2.2.2.2.2.2.2.2.2.2.2.2.2.2.2.2.2.2.2.2.2.2.2.2.2.2.2.2.2.2.2.2.2.2.2.2.2.2.1
theorem r_b7 {e : Nat} {a : Sg} {M : MS} (h : Rel e a M) : ∀ j, j < nB M → sI a (tk 0 j) 7 = gI M 121 j := h.2.2.2.2.2.2.2.2.2.2.2.2.2.2.2.2.2.2.2.2.2.2.2.2.2.2.2.2.2.2.2.2.2.2.2.2.2.2.2.2.2.2.2.2.2.2.2.2.2.2.2.2.2.2.2.2.2.2.2.2.2.2.2.2.2.2.2.2.2.2.2.1
theorem r_b8 {e : Nat} {a : Sg} {M : MS} (h : Rel e a M) : ∀ j, j < nB M → sI a (tk 0 j) 8 = gI M 122 j := h.2.2.2.2.2.2.2.2.2.2.2.2.2.2.2.2.2.2.2.2.2.2.2.2.2.2.2.2.2.2.2.2.2.2.2.2.2.2.2.2.2.2.2.2.2.2.2.2.2.2.2.2.2.2.2.2.2.2.2.2.2.2.2.2.2.2.2.2.2.2.2.2.1
theorem r_b9 {e : Nat} {a : Sg} {M : MS} (h : Rel e a M) : ∀ j, j < nB M → sI a (tk 0 j) 9 = gI M 25 j := h.2.2.2.2.2.2.2.2.2.2.2.2.2.2.2.2.2.2.2.2.2.2.2.2.2.2.2.2.2.2.2.2.2.2.2.2.2.2.2.2.2.2.2.2.2.2.2.2.2.2.2.2.2.2.2.2.2.2.2.2.2.2.2.2.2.2.2.2.2.2.2.2.2.1
theorem r_b10 {e : Nat} {a : Sg} {M : MS} (h : Rel e a M) : ∀ j, j < nB M → sI a (tk 0 j) 10 = gI M 23 j := h.2.2.2.2.2.2.2.2.2.2.2.2.2.2.2.2.2.2.2.2.2.2.2.2.2.2.2.2.2.2.2.2.2.2.2.2.2.2.2.2.2.2.2.2.2.2.2.2.2.2.2.2.2.2.2.2.2.2.2.2.2.2.2.2.2.2.2.2.2.2.2.2.2.2.1
theorem r_b11 {e : Nat} {a : Sg} {M : MS} (h : Rel e a M) : ∀ j, j < nB M → sL a (tk 0 j) 11 = gL M j := h.2.2.2.2.2.2.2.2.2.2.2.2.2.2.2.2.2.2.2.2.2.2.2.2.2.2.2.2.2.2.2.2.2.2.2.2.2.2.2.2.2.2.2.2.2.2.2.2.2.2.2.2.2.2.2.2.2.2.2.2.2.2.2.2.2.2.2.2.2.2.2.2.2.2.2.1
theorem r_bK {e : Nat} {a : Sg} {M : MS} (h : Rel e a M) : ∀ j, j < nB M → gI M 15 j = nI (kd M j) ∧ kd M j < 12 := h.2.2.2.2.2.2.2.2.2.2.2.2.2.2.2.2.2.2.2.2.2.2.2.2.2.2.2.2.2.2.2.2.2.2.2.2.2.2.2.2.2.2.2.2.2.2.2.2.2.2.2.2.2.2.2.2.2.2.2.2.2.2.2.2.2.2.2.2.2.2.2.2.2.2.2.2.1
theorem r_bP {e : Nat} {a : Sg} {M : MS} (h : Rel e a M) : ∀ j, j < nB M → gI M 16 j = nI (pc M j) := h.2.2.2.2.2.2.2.2.2.2.2.2.2.2.2.2.2.2.2.2.2.2.2.2.2.2.2.2.2.2.2.2.2.2.2.2.2.2.2.2.2.2.2.2.2.2.2.2.2.2.2.2.2.2.2.2.2.2.2.2.2.2.2.2.2.2.2.2.2.2.2.2.2.2.2.2.2.1
theorem r_bO {e : Nat} {a : Sg} {M : MS} (h : Rel e a M) : ∀ j, j < nB M → gI M 19 j = nI (op M j) ∧ op M j ≤ 4 := h.2.2.2.2.2.2.2.2.2.2.2.2.2.2.2.2.2.2.2.2.2.2.2.2.2.2.2.2.2.2.2.2.2.2.2.2.2.2.2.2.2.2.2.2.2.2.2.2.2.2.2.2.2.2.2.2.2.2.2.2.2.2.2.2.2.2.2.2.2.2.2.2.2.2.2.2.2.2.1
theorem r_bW {e : Nat} {a : Sg} {M : MS} (h : Rel e a M) : ∀ j, j < nB M → gI M 18 j = 1 ∨ gI M 18 j = 2 → op M j < nOp M (kd M j) := h.2.2.2.2.2.2.2.2.2.2.2.2.2.2.2.2.2.2.2.2.2.2.2.2.2.2.2.2.2.2.2.2.2.2.2.2.2.2.2.2.2.2.2.2.2.2.2.2.2.2.2.2.2.2.2.2.2.2.2.2.2.2.2.2.2.2.2.2.2.2.2.2.2.2.2.2.2.2.2.1
theorem r_bZ {e : Nat} {a : Sg} {M : MS} (h : Rel e a M) : ∀ j, j < nB M → (gI M 18 j = 4 ↔ pc M j = 0) := h.2.2.2.2.2.2.2.2.2.2.2.2.2.2.2.2.2.2.2.2.2.2.2.2.2.2.2.2.2.2.2.2.2.2.2.2.2.2.2.2.2.2.2.2.2.2.2.2.2.2.2.2.2.2.2.2.2.2.2.2.2.2.2.2.2.2.2.2.2.2.2.2.2.2.2.2.2.2.2.2.1
theorem r_bF {e : Nat} {a : Sg} {M : MS} (h : Rel e a M) : ∀ j, j < nB M → b01 (gI M 121 j) := h.2.2.2.2.2.2.2.2.2.2.2.2.2.2.2.2.2.2.2.2.2.2.2.2.2.2.2.2.2.2.2.2.2.2.2.2.2.2.2.2.2.2.2.2.2.2.2.2.2.2.2.2.2.2.2.2.2.2.2.2.2.2.2.2.2.2.2.2.2.2.2.2.2.2.2.2.2.2.2.2.2.1
theorem r_bS {e : Nat} {a : Sg} {M : MS} (h : Rel e a M) : ∀ j, j < nB M → b01 (gI M 122 j) := h.2.2.2.2.2.2.2.2.2.2.2.2.2.2.2.2.2.2.2.2.2.2.2.2.2.2.2.2.2.2.2.2.2.2.2.2.2.2.2.2.2.2.2.2.2.2.2.2.2.2.2.2.2.2.2.2.2.2.2.2.2.2.2.2.2.2.2.2.2.2.2.2.2.2.2.2.2.2.2.2.2.2.1
theorem r_bC {e : Nat} {a : Sg} {M : MS} (h : Rel e a M) : ∀ j, j < nB M → 0 ≤ (gI M 17 j).toInt := h.2.2.2.2.2.2.2.2.2.2.2.2.2.2.2.2.2.2.2.2.2.2.2.2.2.2.2.2.2.2.2.2.2.2.2.2.2.2.2.2.2.2.2.2.2.2.2.2.2.2.2.2.2.2.2.2.2.2.2.2.2.2.2.2.2.2.2.2.2.2.2.2.2.2.2.2.2.2.2.2.2.2.2.1
theorem r_bT {e : Nat} {a : Sg} {M : MS} (h : Rel e a M) : ∀ j, j < nB M → ∃ s : Nat, gI M 18 j = nI s ∧ s ≤ 6 := h.2.2.2.2.2.2.2.2.2.2.2.2.2.2.2.2.2.2.2.2.2.2.2.2.2.2.2.2.2.2.2.2.2.2.2.2.2.2.2.2.2.2.2.2.2.2.2.2.2.2.2.2.2.2.2.2.2.2.2.2.2.2.2.2.2.2.2.2.2.2.2.2.2.2.2.2.2.2.2.2.2.2.2.2.1
theorem r_bU {e : Nat} {a : Sg} {M : MS} (h : Rel e a M) : ∀ j, j < nB M → gI M 113 (kd M j) = 1 := h.2.2.2.2.2.2.2.2.2.2.2.2.2.2.2.2.2.2.2.2.2.2.2.2.2.2.2.2.2.2.2.2.2.2.2.2.2.2.2.2.2.2.2.2.2.2.2.2.2.2.2.2.2.2.2.2.2.2.2.2.2.2.2.2.2.2.2.2.2.2.2.2.2.2.2.2.2.2.2.2.2.2.2.2.2.1
theorem r_bq {e : Nat} {a : Sg} {M : MS} (h : Rel e a M) : totp M (nB M) ≤ 20 * nB M := h.2.2.2.2.2.2.2.2.2.2.2.2.2.2.2.2.2.2.2.2.2.2.2.2.2.2.2.2.2.2.2.2.2.2.2.2.2.2.2.2.2.2.2.2.2.2.2.2.2.2.2.2.2.2.2.2.2.2.2.2.2.2.2.2.2.2.2.2.2.2.2.2.2.2.2.2.2.2.2.2.2.2.2.2.2.2.1
theorem r_ps {e : Nat} {a : Sg} {M : MS} (h : Rel e a M) : e < 7 → ∀ i, i < 12 → nProm M i (nO M) ≤ nInSt M i (nB M) := h.2.2.2.2.2.2.2.2.2.2.2.2.2.2.2.2.2.2.2.2.2.2.2.2.2.2.2.2.2.2.2.2.2.2.2.2.2.2.2.2.2.2.2.2.2.2.2.2.2.2.2.2.2.2.2.2.2.2.2.2.2.2.2.2.2.2.2.2.2.2.2.2.2.2.2.2.2.2.2.2.2.2.2.2.2.2.2.1
theorem r_bp {e : Nat} {a : Sg} {M : MS} (h : Rel e a M) : ∀ j b, j < nB M → nB M ≤ b → b < 64 → (gL M j).toBitVec.getLsbD b = false := h.2.2.2.2.2.2.2.2.2.2.2.2.2.2.2.2.2.2.2.2.2.2.2.2.2.2.2.2.2.2.2.2.2.2.2.2.2.2.2.2.2.2.2.2.2.2.2.2.2.2.2.2.2.2.2.2.2.2.2.2.2.2.2.2.2.2.2.2.2.2.2.2.2.2.2.2.2.2.2.2.2.2.2.2.2.2.2.2.1
theorem r_bc {e : Nat} {a : Sg} {M : MS} (h : Rel e a M) : tot M (nB M) ≤ 1980 * (nB M : Int) + 108 * (hN M : Int) + 18 * ((e % 7 : Nat) : Int) := h.2.2.2.2.2.2.2.2.2.2.2.2.2.2.2.2.2.2.2.2.2.2.2.2.2.2.2.2.2.2.2.2.2.2.2.2.2.2.2.2.2.2.2.2.2.2.2.2.2.2.2.2.2.2.2.2.2.2.2.2.2.2.2.2.2.2.2.2.2.2.2.2.2.2.2.2.2.2.2.2.2.2.2.2.2.2.2.2.2.1
theorem r_fB {e : Nat} {a : Sg} {M : MS} (h : Rel e a M) : ∀ j, nB M ≤ j → j < 60 → sX a (tk 0 j) = false := h.2.2.2.2.2.2.2.2.2.2.2.2.2.2.2.2.2.2.2.2.2.2.2.2.2.2.2.2.2.2.2.2.2.2.2.2.2.2.2.2.2.2.2.2.2.2.2.2.2.2.2.2.2.2.2.2.2.2.2.2.2.2.2.2.2.2.2.2.2.2.2.2.2.2.2.2.2.2.2.2.2.2.2.2.2.2.2.2.2.2.1
theorem r_fL {e : Nat} {a : Sg} {M : MS} (h : Rel e a M) : ∀ i k, i < 12 → k < 3 → nLn M i ≤ k → sX a (tk 3 (3 * i + k)) = false := h.2.2.2.2.2.2.2.2.2.2.2.2.2.2.2.2.2.2.2.2.2.2.2.2.2.2.2.2.2.2.2.2.2.2.2.2.2.2.2.2.2.2.2.2.2.2.2.2.2.2.2.2.2.2.2.2.2.2.2.2.2.2.2.2.2.2.2.2.2.2.2.2.2.2.2.2.2.2.2.2.2.2.2.2.2.2.2.2.2.2.2.1
theorem r_fO {e : Nat} {a : Sg} {M : MS} (h : Rel e a M) : ∀ i k, i < 12 → k < 4 → nOp M i ≤ k → sX a (tk 5 (4 * i + k)) = false := h.2.2.2.2.2.2.2.2.2.2.2.2.2.2.2.2.2.2.2.2.2.2.2.2.2.2.2.2.2.2.2.2.2.2.2.2.2.2.2.2.2.2.2.2.2.2.2.2.2.2.2.2.2.2.2.2.2.2.2.2.2.2.2.2.2.2.2.2.2.2.2.2.2.2.2.2.2.2.2.2.2.2.2.2.2.2.2.2.2.2.2.2.1
theorem r_fM {e : Nat} {a : Sg} {M : MS} (h : Rel e a M) : ∀ m, nM M ≤ m → m < 6 → sX a (tk 4 m) = false := h.2.2.2.2.2.2.2.2.2.2.2.2.2.2.2.2.2.2.2.2.2.2.2.2.2.2.2.2.2.2.2.2.2.2.2.2.2.2.2.2.2.2.2.2.2.2.2.2.2.2.2.2.2.2.2.2.2.2.2.2.2.2.2.2.2.2.2.2.2.2.2.2.2.2.2.2.2.2.2.2.2.2.2.2.2.2.2.2.2.2.2.2.2.1
theorem r_fP {e : Nat} {a : Sg} {M : MS} (h : Rel e a M) : ∀ p, nP M ≤ p → p < 6 → sX a (tk 7 p) = false ∧ sX a (tk 21 p) = false ∧ sX a (tk 22 p) = false := h.2.2.2.2.2.2.2.2.2.2.2.2.2.2.2.2.2.2.2.2.2.2.2.2.2.2.2.2.2.2.2.2.2.2.2.2.2.2.2.2.2.2.2.2.2.2.2.2.2.2.2.2.2.2.2.2.2.2.2.2.2.2.2.2.2.2.2.2.2.2.2.2.2.2.2.2.2.2.2.2.2.2.2.2.2.2.2.2.2.2.2.2.2.2.1
theorem r_fR {e : Nat} {a : Sg} {M : MS} (h : Rel e a M) : ∀ r, nO M ≤ r → r < 10 → sX a (tk 6 r) = false := h.2.2.2.2.2.2.2.2.2.2.2.2.2.2.2.2.2.2.2.2.2.2.2.2.2.2.2.2.2.2.2.2.2.2.2.2.2.2.2.2.2.2.2.2.2.2.2.2.2.2.2.2.2.2.2.2.2.2.2.2.2.2.2.2.2.2.2.2.2.2.2.2.2.2.2.2.2.2.2.2.2.2.2.2.2.2.2.2.2.2.2.2.2.2.2.1
theorem r_fG {e : Nat} {a : Sg} {M : MS} (h : Rel e a M) : ∃ N, 64 ≤ N ∧ ∀ c i, N ≤ i → sX a (tk c i) = false := h.2.2.2.2.2.2.2.2.2.2.2.2.2.2.2.2.2.2.2.2.2.2.2.2.2.2.2.2.2.2.2.2.2.2.2.2.2.2.2.2.2.2.2.2.2.2.2.2.2.2.2.2.2.2.2.2.2.2.2.2.2.2.2.2.2.2.2.2.2.2.2.2.2.2.2.2.2.2.2.2.2.2.2.2.2.2.2.2.2.2.2.2.2.2.2.2.1
theorem r_m0 {e : Nat} {a : Sg} {M : MS} (h : Rel e a M) : ∀ m, m < nM M → sP a (tk 17 0) m = some (tk 4 m) := h.2.2.2.2.2.2.2.2.2.2.2.2.2.2.2.2.2.2.2.2.2.2.2.2.2.2.2.2.2.2.2.2.2.2.2.2.2.2.2.2.2.2.2.2.2.2.2.2.2.2.2.2.2.2.2.2.2.2.2.2.2.2.2.2.2.2.2.2.2.2.2.2.2.2.2.2.2.2.2.2.2.2.2.2.2.2.2.2.2.2.2.2.2.2.2.2.2.1
theorem r_mn {e : Nat} {a : Sg} {M : MS} (h : Rel e a M) : ∀ m, m < nM M → sI a (tk 4 m) 0 = nI m := h.2.2.2.2.2.2.2.2.2.2.2.2.2.2.2.2.2.2.2.2.2.2.2.2.2.2.2.2.2.2.2.2.2.2.2.2.2.2.2.2.2.2.2.2.2.2.2.2.2.2.2.2.2.2.2.2.2.2.2.2.2.2.2.2.2.2.2.2.2.2.2.2.2.2.2.2.2.2.2.2.2.2.2.2.2.2.2.2.2.2.2.2.2.2.2.2.2.2.1
theorem r_m1 {e : Nat} {a : Sg} {M : MS} (h : Rel e a M) : ∀ m, m < nM M → sI a (tk 4 m) 1 = gI M 28 m := h.2.2.2.2.2.2.2.2.2.2.2.2.2.2.2.2.2.2.2.2.2.2.2.2.2.2.2.2.2.2.2.2.2.2.2.2.2.2.2.2.2.2.2.2.2.2.2.2.2.2.2.2.2.2.2.2.2.2.2.2.2.2.2.2.2.2.2.2.2.2.2.2.2.2.2.2.2.2.2.2.2.2.2.2.2.2.2.2.2.2.2.2.2.2.2.2.2.2.2.1
theorem r_m2 {e : Nat} {a : Sg} {M : MS} (h : Rel e a M) : ∀ m, m < nM M → sI a (tk 4 m) 2 = gI M 29 m := h.2.2.2.2.2.2.2.2.2.2.2.2.2.2.2.2.2.2.2.2.2.2.2.2.2.2.2.2.2.2.2.2.2.2.2.2.2.2.2.2.2.2.2.2.2.2.2.2.2.2.2.2.2.2.2.2.2.2.2.2.2.2.2.2.2.2.2.2.2.2.2.2.2.2.2.2.2.2.2.2.2.2.2.2.2.2.2.2.2.2.2.2.2.2.2.2.2.2.2.2.1
theorem r_m3 {e : Nat} {a : Sg} {M : MS} (h : Rel e a M) : ∀ m, m < nM M → sI a (tk 4 m) 3 = gI M 30 m := h.2.2.2.2.2.2.2.2.2.2.2.2.2.2.2.2.2.2.2.2.2.2.2.2.2.2.2.2.2.2.2.2.2.2.2.2.2.2.2.2.2.2.2.2.2.2.2.2.2.2.2.2.2.2.2.2.2.2.2.2.2.2.2.2.2.2.2.2.2.2.2.2.2.2.2.2.2.2.2.2.2.2.2.2.2.2.2.2.2.2.2.2.2.2.2.2.2.2.2.2.2.1
theorem r_m4 {e : Nat} {a : Sg} {M : MS} (h : Rel e a M) : ∀ m, m < nM M → sI a (tk 4 m) 4 = gI M 31 m := h.2.2.2.2.2.2.2.2.2.2.2.2.2.2.2.2.2.2.2.2.2.2.2.2.2.2.2.2.2.2.2.2.2.2.2.2.2.2.2.2.2.2.2.2.2.2.2.2.2.2.2.2.2.2.2.2.2.2.2.2.2.2.2.2.2.2.2.2.2.2.2.2.2.2.2.2.2.2.2.2.2.2.2.2.2.2.2.2.2.2.2.2.2.2.2.2.2.2.2.2.2.2.1
theorem r_m5 {e : Nat} {a : Sg} {M : MS} (h : Rel e a M) : ∀ m, m < nM M → sI a (tk 4 m) 5 = gI M 32 m := h.2.2.2.2.2.2.2.2.2.2.2.2.2.2.2.2.2.2.2.2.2.2.2.2.2.2.2.2.2.2.2.2.2.2.2.2.2.2.2.2.2.2.2.2.2.2.2.2.2.2.2.2.2.2.2.2.2.2.2.2.2.2.2.2.2.2.2.2.2.2.2.2.2.2.2.2.2.2.2.2.2.2.2.2.2.2.2.2.2.2.2.2.2.2.2.2.2.2.2.2.2.2.2.1
theorem r_m9 {e : Nat} {a : Sg} {M : MS} (h : Rel e a M) : ∀ m, m < nM M → sI a (tk 4 m) 9 = gI M 35 m := h.2.2.2.2.2.2.2.2.2.2.2.2.2.2.2.2.2.2.2.2.2.2.2.2.2.2.2.2.2.2.2.2.2.2.2.2.2.2.2.2.2.2.2.2.2.2.2.2.2.2.2.2.2.2.2.2.2.2.2.2.2.2.2.2.2.2.2.2.2.2.2.2.2.2.2.2.2.2.2.2.2.2.2.2.2.2.2.2.2.2.2.2.2.2.2.2.2.2.2.2.2.2.2.2.1
theorem r_m11 {e : Nat} {a : Sg} {M : MS} (h : Rel e a M) : ∀ m, m < nM M → sI a (tk 4 m) 11 = gI M 37 m := h.2.2.2.2.2.2.2.2.2.2.2.2.2.2.2.2.2.2.2.2.2.2.2.2.2.2.2.2.2.2.2.2.2.2.2.2.2.2.2.2.2.2.2.2.2.2.2.2.2.2.2.2.2.2.2.2.2.2.2.2.2.2.2.2.2.2.2.2.2.2.2.2.2.2.2.2.2.2.2.2.2.2.2.2.2.2.2.2.2.2.2.2.2.2.2.2.2.2.2.2.2.2.2.2.2.1
theorem r_m13 {e : Nat} {a : Sg} {M : MS} (h : Rel e a M) : ∀ m, m < nM M → sI a (tk 4 m) 13 = gI M 39 m := h.2.2.2.2.2.2.2.2.2.2.2.2.2.2.2.2.2.2.2.2.2.2.2.2.2.2.2.2.2.2.2.2.2.2.2.2.2.2.2.2.2.2.2.2.2.2.2.2.2.2.2.2.2.2.2.2.2.2.2.2.2.2.2.2.2.2.2.2.2.2.2.2.2.2.2.2.2.2.2.2.2.2.2.2.2.2.2.2.2.2.2.2.2.2.2.2.2.2.2.2.2.2.2.2.2.2.1
theorem r_m14 {e : Nat} {a : Sg} {M : MS} (h : Rel e a M) : ∀ m, m < nM M → sI a (tk 4 m) 14 = gI M 40 m := h.2.2.2.2.2.2.2.2.2.2.2.2.2.2.2.2.2.2.2.2.2.2.2.2.2.2.2.2.2.2.2.2.2.2.2.2.2.2.2.2.2.2.2.2.2.2.2.2.2.2.2.2.2.2.2.2.2.2.2.2.2.2.2.2.2.2.2.2.2.2.2.2.2.2.2.2.2.2.2.2.2.2.2.2.2.2.2.2.2.2.2.2.2.2.2.2.2.2.2.2.2.2.2.2.2.2.2.1
theorem r_m6 {e : Nat} {a : Sg} {M : MS} (h : Rel e a M) : ∀ m, m < nM M → sP a (tk 4 m) 6 = kp (gI M 33 m) := h.2.2.2.2.2.2.2.2.2.2.2.2.2.2.2.2.2.2.2.2.2.2.2.2.2.2.2.2.2.2.2.2.2.2.2.2.2.2.2.2.2.2.2.2.2.2.2.2.2.2.2.2.2.2.2.2.2.2.2.2.2.2.2.2.2.2.2.2.2.2.2.2.2.2.2.2.2.2.2.2.2.2.2.2.2.2.2.2.2.2.2.2.2.2.2.2.2.2.2.2.2.2.2.2.2.2.2.2.1
theorem r_m7 {e : Nat} {a : Sg} {M : MS} (h : Rel e a M) : ∀ m, m < nM M → sP a (tk 4 m) 7 = tp 0 (gI M 34 m) := h.2.2.2.2.2.2.2.2.2.2.2.2.2.2.2.2.2.2.2.2.2.2.2.2.2.2.2.2.2.2.2.2.2.2.2.2.2.2.2.2.2.2.2.2.2.2.2.2.2.2.2.2.2.2.2.2.2.2.2.2.2.2.2.2.2.2.2.2.2.2.2.2.2.2.2.2.2.2.2.2.2.2.2.2.2.2.2.2.2.2.2.2.2.2.2.2.2.2.2.2.2.2.2.2.2.2.2.2.2.1
theorem r_m8 {e : Nat} {a : Sg} {M : MS} (h : Rel e a M) : ∀ m, m < nM M → sP a (tk 4 m) 8 = tp 7 (gI M 36 m) := h.2.2.2.2.2.2.2.2.2.2.2.2.2.2.2.2.2.2.2.2.2.2.2.2.2.2.2.2.2.2.2.2.2.2.2.2.2.2.2.2.2.2.2.2.2.2.2.2.2.2.2.2.2.2.2.2.2.2.2.2.2.2.2.2.2.2.2.2.2.2.2.2.2.2.2.2.2.2.2.2.2.2.2.2.2.2.2.2.2.2.2.2.2.2.2.2.2.2.2.2.2.2.2.2.2.2.2.2.2.2.1
theorem r_m12 {e : Nat} {a : Sg} {M : MS} (h : Rel e a M) : ∀ m, m < nM M → sP a (tk 4 m) 12 = kp (gI M 38 m) := h.2.2.2.2.2.2.2.2.2.2.2.2.2.2.2.2.2.2.2.2.2.2.2.2.2.2.2.2.2.2.2.2.2.2.2.2.2.2.2.2.2.2.2.2.2.2.2.2.2.2.2.2.2.2.2.2.2.2.2.2.2.2.2.2.2.2.2.2.2.2.2.2.2.2.2.2.2.2.2.2.2.2.2.2.2.2.2.2.2.2.2.2.2.2.2.2.2.2.2.2.2.2.2.2.2.2.2.2.2.2.2.1
theorem r_m10 {e : Nat} {a : Sg} {M : MS} (h : Rel e a M) : ∀ m j, m < nM M → j < nB M → gI M 34 m = nI j → sI a (tk 4 m) 10 = gI M 124 j := h.2.2.2.2.2.2.2.2.2.2.2.2.2.2.2.2.2.2.2.2.2.2.2.2.2.2.2.2.2.2.2.2.2.2.2.2.2.2.2.2.2.2.2.2.2.2.2.2.2.2.2.2.2.2.2.2.2.2.2.2.2.2.2.2.2.2.2.2.2.2.2.2.2.2.2.2.2.2.2.2.2.2.2.2.2.2.2.2.2.2.2.2.2.2.2.2.2.2.2.2.2.2.2.2.2.2.2.2.2.2.2.2.1
theorem r_mma {e : Nat} {a : Sg} {M : MS} (h : Rel e a M) : ∀ m, m < nM M → (gI M 33 m = -1 ∨ ∃ q : Nat, gI M 33 m = nI q ∧ q < 12) := h.2.2.2.2.2.2.2.2.2.2.2.2.2.2.2.2.2.2.2.2.2.2.2.2.2.2.2.2.2.2.2.2.2.2.2.2.2.2.2.2.2.2.2.2.2.2.2.2.2.2.2.2.2.2.2.2.2.2.2.2.2.2.2.2.2.2.2.2.2.2.2.2.2.2.2.2.2.2.2.2.2.2.2.2.2.2.2.2.2.2.2.2.2.2.2.2.2.2.2.2.2.2.2.2.2.2.2.2.2.2.2.2.2.1
theorem r_mmb {e : Nat} {a : Sg} {M : MS} (h : Rel e a M) : ∀ m, m < nM M → (gI M 34 m = -1 ∧ gI M 36 m = -1 ∧ gI M 35 m = 0 ∨ ∃ j p : Nat, gI M 34 m = nI j ∧ j < nB M ∧ gI M 18 j = 2 ∧ gI M 36 m = nI p ∧ p < nP M) := h.2.2.2.2.2.2.2.2.2.2.2.2.2.2.2.2.2.2.2.2.2.2.2.2.2.2.2.2.2.2.2.2.2.2.2.2.2.2.2.2.2.2.2.2.2.2.2.2.2.2.2.2.2.2.2.2.2.2.2.2.2.2.2.2.2.2.2.2.2.2.2.2.2.2.2.2.2.2.2.2.2.2.2.2.2.2.2.2.2.2.2.2.2.2.2.2.2.2.2.2.2.2.2.2.2.2.2.2.2.2.2.2.2.2.1
theorem r_mmc {e : Nat} {a : Sg} {M : MS} (h : Rel e a M) : ∀ m, m < nM M → (gI M 38 m = -1 ∨ ∃ q : Nat, gI M 38 m = nI q ∧ q < 12) := h.2.2.2.2.2.2.2.2.2.2.2.2.2.2.2.2.2.2.2.2.2.2.2.2.2.2.2.2.2.2.2.2.2.2.2.2.2.2.2.2.2.2.2.2.2.2.2.2.2.2.2.2.2.2.2.2.2.2.2.2.2.2.2.2.2.2.2.2.2.2.2.2.2.2.2.2.2.2.2.2.2.2.2.2.2.2.2.2.2.2.2.2.2.2.2.2.2.2.2.2.2.2.2.2.2.2.2.2.2.2.2.2.2.2.2.1
theorem r_mr29 {e : Nat} {a : Sg} {M : MS} (h : Rel e a M) : ∀ m, m < nM M → ∃ s : Nat, gI M 29 m = nI s ∧ s ≤ 5 := h.2.2.2.2.2.2.2.2.2.2.2.2.2.2.2.2.2.2.2.2.2.2.2.2.2.2.2.2.2.2.2.2.2.2.2.2.2.2.2.2.2.2.2.2.2.2.2.2.2.2.2.2.2.2.2.2.2.2.2.2.2.2.2.2.2.2.2.2.2.2.2.2.2.2.2.2.2.2.2.2.2.2.2.2.2.2.2.2.2.2.2.2.2.2.2.2.2.2.2.2.2.2.2.2.2.2.2.2.2.2.2.2.2.2.2.2.1
theorem r_mr30 {e : Nat} {a : Sg} {M : MS} (h : Rel e a M) : ∀ m, m < nM M → ∃ s : Nat, gI M 30 m = nI s ∧ s ≤ 9 := h.2.2.2.2.2.2.2.2.2.2.2.2.2.2.2.2.2.2.2.2.2.2.2.2.2.2.2.2.2.2.2.2.2.2.2.2.2.2.2.2.2.2.2.2.2.2.2.2.2.2.2.2.2.2.2.2.2.2.2.2.2.2.2.2.2.2.2.2.2.2.2.2.2.2.2.2.2.2.2.2.2.2.2.2.2.2.2.2.2.2.2.2.2.2.2.2.2.2.2.2.2.2.2.2.2.2.2.2.2.2.2.2.2.2.2.2.2.1
theorem r_mr31 {e : Nat} {a : Sg} {M : MS} (h : Rel e a M) : ∀ m, m < nM M → ∃ s : Nat, gI M 31 m = nI s ∧ 1 ≤ s ∧ s ≤ 50 := h.2.2.2.2.2.2.2.2.2.2.2.2.2.2.2.2.2.2.2.2.2.2.2.2.2.2.2.2.2.2.2.2.2.2.2.2.2.2.2.2.2.2.2.2.2.2.2.2.2.2.2.2.2.2.2.2.2.2.2.2.2.2.2.2.2.2.2.2.2.2.2.2.2.2.2.2.2.2.2.2.2.2.2.2.2.2.2.2.2.2.2.2.2.2.2.2.2.2.2.2.2.2.2.2.2.2.2.2.2.2.2.2.2.2.2.2.2.2.1
theorem r_mr32 {e : Nat} {a : Sg} {M : MS} (h : Rel e a M) : ∀ m, m < nM M → ∃ s : Nat, gI M 32 m = nI s ∧ 1 ≤ s ∧ s ≤ 9 := h.2.2.2.2.2.2.2.2.2.2.2.2.2.2.2.2.2.2.2.2.2.2.2.2.2.2.2.2.2.2.2.2.2.2.2.2.2.2.2.2.2.2.2.2.2.2.2.2.2.2.2.2.2.2.2.2.2.2.2.2.2.2.2.2.2.2.2.2.2.2.2.2.2.2.2.2.2.2.2.2.2.2.2.2.2.2.2.2.2.2.2.2.2.2.2.2.2.2.2.2.2.2.2.2.2.2.2.2.2.2.2.2.2.2.2.2.2.2.2.1
theorem r_mr35 {e : Nat} {a : Sg} {M : MS} (h : Rel e a M) : ∀ m, m < nM M → ∃ s : Nat, gI M 35 m = nI s ∧ s ≤ 20 := h.2.2.2.2.2.2.2.2.2.2.2.2.2.2.2.2.2.2.2.2.2.2.2.2.2.2.2.2.2.2.2.2.2.2.2.2.2.2.2.2.2.2.2.2.2.2.2.2.2.2.2.2.2.2.2.2.2.2.2.2.2.2.2.2.2.2.2.2.2.2.2.2.2.2.2.2.2.2.2.2.2.2.2.2.2.2.2.2.2.2.2.2.2.2.2.2.2.2.2.2.2.2.2.2.2.2.2.2.2.2.2.2.2.2.2.2.2.2.2.2.1
theorem r_mr39 {e : Nat} {a : Sg} {M : MS} (h : Rel e a M) : ∀ m, m < nM M → ∃ s : Nat, gI M 39 m = nI s ∧ s ≤ 2 := h.2.2.2.2.2.2.2.2.2.2.2.2.2.2.2.2.2.2.2.2.2.2.2.2.2.2.2.2.2.2.2.2.2.2.2.2.2.2.2.2.2.2.2.2.2.2.2.2.2.2.2.2.2.2.2.2.2.2.2.2.2.2.2.2.2.2.2.2.2.2.2.2.2.2.2.2.2.2.2.2.2.2.2.2.2.2.2.2.2.2.2.2.2.2.2.2.2.2.2.2.2.2.2.2.2.2.2.2.2.2.2.2.2.2.2.2.2.2.2.2.2.1
theorem r_mr40 {e : Nat} {a : Sg} {M : MS} (h : Rel e a M) : ∀ m, m < nM M → gI M 39 m = 2 → ∃ s : Nat, gI M 40 m = nI s ∧ 1 ≤ s ∧ s ≤ 9 := h.2.2.2.2.2.2.2.2.2.2.2.2.2.2.2.2.2.2.2.2.2.2.2.2.2.2.2.2.2.2.2.2.2.2.2.2.2.2.2.2.2.2.2.2.2.2.2.2.2.2.2.2.2.2.2.2.2.2.2.2.2.2.2.2.2.2.2.2.2.2.2.2.2.2.2.2.2.2.2.2.2.2.2.2.2.2.2.2.2.2.2.2.2.2.2.2.2.2.2.2.2.2.2.2.2.2.2.2.2.2.2.2.2.2.2.2.2.2.2.2.2.2.1
theorem r_md {e : Nat} {a : Sg} {M : MS} (h : Rel e a M) : ∀ m n, m < nM M → n < nM M → m ≠ n → gI M 34 m = gI M 34 n → gI M 34 m = -1 := h.2.2.2.2.2.2.2.2.2.2.2.2.2.2.2.2.2.2.2.2.2.2.2.2.2.2.2.2.2.2.2.2.2.2.2.2.2.2.2.2.2.2.2.2.2.2.2.2.2.2.2.2.2.2.2.2.2.2.2.2.2.2.2.2.2.2.2.2.2.2.2.2.2.2.2.2.2.2.2.2.2.2.2.2.2.2.2.2.2.2.2.2.2.2.2.2.2.2.2.2.2.2.2.2.2.2.2.2.2.2.2.2.2.2.2.2.2.2.2.2.2.2.2.1
theorem r_mw {e : Nat} {a : Sg} {M : MS} (h : Rel e a M) : ∀ m n, m < nM M → n < nM M → m ≠ n → gI M 36 m = gI M 36 n → gI M 36 m = -1 := h.2.2.2.2.2.2.2.2.2.2.2.2.2.2.2.2.2.2.2.2.2.2.2.2.2.2.2.2.2.2.2.2.2.2.2.2.2.2.2.2.2.2.2.2.2.2.2.2.2.2.2.2.2.2.2.2.2.2.2.2.2.2.2.2.2.2.2.2.2.2.2.2.2.2.2.2.2.2.2.2.2.2.2.2.2.2.2.2.2.2.2.2.2.2.2.2.2.2.2.2.2.2.2.2.2.2.2.2.2.2.2.2.2.2.2.2.2.2.2.2.2.2.2.2.1
theorem r_q0 {e : Nat} {a : Sg} {M : MS} (h : Rel e a M) : ∀ p, p < nP M → sP a (tk 20 0) p = some (tk 7 p) := h.2.2.2.2.2.2.2.2.2.2.2.2.2.2.2.2.2.2.2.2.2.2.2.2.2.2.2.2.2.2.2.2.2.2.2.2.2.2.2.2.2.2.2.2.2.2.2.2.2.2.2.2.2.2.2.2.2.2.2.2.2.2.2.2.2.2.2.2.2.2.2.2.2.2.2.2.2.2.2.2.2.2.2.2.2.2.2.2.2.2.2.2.2.2.2.2.2.2.2.2.2.2.2.2.2.2.2.2.2.2.2.2.2.2.2.2.2.2.2.2.2.2.2.2.2.1
theorem r_qn {e : Nat} {a : Sg} {M : MS} (h : Rel e a M) : ∀ p, p < nP M → sI a (tk 7 p) 0 = nI p := h.2.2.2.2.2.2.2.2.2.2.2.2.2.2.2.2.2.2.2.2.2.2.2.2.2.2.2.2.2.2.2.2.2.2.2.2.2.2.2.2.2.2.2.2.2.2.2.2.2.2.2.2.2.2.2.2.2.2.2.2.2.2.2.2.2.2.2.2.2.2.2.2.2.2.2.2.2.2.2.2.2.2.2.2.2.2.2.2.2.2.2.2.2.2.2.2.2.2.2.2.2.2.2.2.2.2.2.2.2.2.2.2.2.2.2.2.2.2.2.2.2.2.2.2.2.2.1
theorem r_q1 {e : Nat} {a : Sg} {M : MS} (h : Rel e a M) : ∀ p, p < nP M → sI a (tk 7 p) 1 = gI M 42 p := h.2.2.2.2.2.2.2.2.2.2.2.2.2.2.2.2.2.2.2.2.2.2.2.2.2.2.2.2.2.2.2.2.2.2.2.2.2.2.2.2.2.2.2.2.2.2.2.2.2.2.2.2.2.2.2.2.2.2.2.2.2.2.2.2.2.2.2.2.2.2.2.2.2.2.2.2.2.2.2.2.2.2.2.2.2.2.2.2.2.2.2.2.2.2.2.2.2.2.2.2.2.2.2.2.2.2.2.2.2.2.2.2.2.2.2.2.2.2.2.2.2.2.2.2.2.2.2.1
theorem r_q2 {e : Nat} {a : Sg} {M : MS} (h : Rel e a M) : ∀ p, p < nP M → sI a (tk 7 p) 2 = gI M 43 p := h.2.2.2.2.2.2.2.2.2.2.2.2.2.2.2.2.2.2.2.2.2.2.2.2.2.2.2.2.2.2.2.2.2.2.2.2.2.2.2.2.2.2.2.2.2.2.2.2.2.2.2.2.2.2.2.2.2.2.2.2.2.2.2.2.2.2.2.2.2.2.2.2.2.2.2.2.2.2.2.2.2.2.2.2.2.2.2.2.2.2.2.2.2.2.2.2.2.2.2.2.2.2.2.2.2.2.2.2.2.2.2.2.2.2.2.2.2.2.2.2.2.2.2.2.2.2.2.2.1
theorem r_q3 {e : Nat} {a : Sg} {M : MS} (h : Rel e a M) : ∀ p, p < nP M → sI a (tk 7 p) 3 = gI M 44 p := h.2.2.2.2.2.2.2.2.2.2.2.2.2.2.2.2.2.2.2.2.2.2.2.2.2.2.2.2.2.2.2.2.2.2.2.2.2.2.2.2.2.2.2.2.2.2.2.2.2.2.2.2.2.2.2.2.2.2.2.2.2.2.2.2.2.2.2.2.2.2.2.2.2.2.2.2.2.2.2.2.2.2.2.2.2.2.2.2.2.2.2.2.2.2.2.2.2.2.2.2.2.2.2.2.2.2.2.2.2.2.2.2.2.2.2.2.2.2.2.2.2.2.2.2.2.2.2.2.2.1
theorem r_q4 {e : Nat} {a : Sg} {M : MS} (h : Rel e a M) : ∀ p, p < nP M → sP a (tk 7 p) 4 = some (tk 21 p) := h.2.2.2.2.2.2.2.2.2.2.2.2.2.2.2.2.2.2.2.2.2.2.2.2.2.2.2.2.2.2.2.2.2.2.2.2.2.2.2.2.2.2.2.2.2.2.2.2.2.2.2.2.2.2.2.2.2.2.2.2.2.2.2.2.2.2.2.2.2.2.2.2.2.2.2.2.2.2.2.2.2.2.2.2.2.2.2.2.2.2.2.2.2.2.2.2.2.2.2.2.2.2.2.2.2.2.2.2.2.2.2.2.2.2.2.2.2.2.2.2.2.2.2.2.2.2.2.2.2.2.1
theorem r_q5 {e : Nat} {a : Sg} {M : MS} (h : Rel e a M) : ∀ p, p < nP M → sP a (tk 7 p) 5 = some (tk 22 p) := h.2.2.2.2.2.2.2.2.2.2.2.2.2.2.2.2.2.2.2.2.2.2.2.2.2.2.2.2.2.2.2.2.2.2.2.2.2.2.2.2.2.2.2.2.2.2.2.2.2.2.2.2.2.2.2.2.2.2.2.2.2.2.2.2.2.2.2.2.2.2.2.2.2.2.2.2.2.2.2.2.2.2.2.2.2.2.2.2.2.2.2.2.2.2.2.2.2.2.2.2.2.2.2.2.2.2.2.2.2.2.2.2.2.2.2.2.2.2.2.2.2.2.2.2.2.2.2.2.2.2.2.1
theorem r_q6 {e : Nat} {a : Sg} {M : MS} (h : Rel e a M) : ∀ p, p < nP M → (sI a (tk 7 p) 6 = -1 ∧ ∀ m, m < nM M → gI M 36 m ≠ nI p) ∨ ∃ m, m < nM M ∧ sI a (tk 7 p) 6 = nI m ∧ gI M 36 m = nI p := h.2.2.2.2.2.2.2.2.2.2.2.2.2.2.2.2.2.2.2.2.2.2.2.2.2.2.2.2.2.2.2.2.2.2.2.2.2.2.2.2.2.2.2.2.2.2.2.2.2.2.2.2.2.2.2.2.2.2.2.2.2.2.2.2.2.2.2.2.2.2.2.2.2.2.2.2.2.2.2.2.2.2.2.2.2.2.2.2.2.2.2.2.2.2.2.2.2.2.2.2.2.2.2.2.2.2.2.2.2.2.2.2.2.2.2.2.2.2.2.2.2.2.2.2.2.2.2.2.2.2.2.2.1
theorem r_ql {e : Nat} {a : Sg} {M : MS} (h : Rel e a M) : ∀ p s, p < nP M → s < 4 → sI a (tk 21 p) s = gI M 45 (4 * p + s) := h.2.2.2.2.2.2.2.2.2.2.2.2.2.2.2.2.2.2.2.2.2.2.2.2.2.2.2.2.2.2.2.2.2.2.2.2.2.2.2.2.2.2.2.2.2.2.2.2.2.2.2.2.2.2.2.2.2.2.2.2.2.2.2.2.2.2.2.2.2.2.2.2.2.2.2.2.2.2.2.2.2.2.2.2.2.2.2.2.2.2.2.2.2.2.2.2.2.2.2.2.2.2.2.2.2.2.2.2.2.2.2.2.2.2.2.2.2.2.2.2.2.2.2.2.2.2.2.2.2.2.2.2.2.1
theorem r_qw {e : Nat} {a : Sg} {M : MS} (h : Rel e a M) : ∀ p s, p < nP M → s < 4 → gI M 45 (4 * p + s) < 3 → sI a (tk 22 p) s = gI M 46 (4 * p + s) := h.2.2.2.2.2.2.2.2.2.2.2.2.2.2.2.2.2.2.2.2.2.2.2.2.2.2.2.2.2.2.2.2.2.2.2.2.2.2.2.2.2.2.2.2.2.2.2.2.2.2.2.2.2.2.2.2.2.2.2.2.2.2.2.2.2.2.2.2.2.2.2.2.2.2.2.2.2.2.2.2.2.2.2.2.2.2.2.2.2.2.2.2.2.2.2.2.2.2.2.2.2.2.2.2.2.2.2.2.2.2.2.2.2.2.2.2.2.2.2.2.2.2.2.2.2.2.2.2.2.2.2.2.2.2.1
theorem r_qm {e : Nat} {a : Sg} {M : MS} (h : Rel e a M) : ∀ p, p < nP M → ∃ w b h : Nat, gI M 42 p = nI w ∧ w ≤ 9 ∧ gI M 43 p = nI b ∧ b ≤ 23 ∧ gI M 44 p = nI h ∧ 1 ≤ h ∧ h ≤ 24 := h.2.2.2.2.2.2.2.2.2.2.2.2.2.2.2.2.2.2.2.2.2.2.2.2.2.2.2.2.2.2.2.2.2.2.2.2.2.2.2.2.2.2.2.2.2.2.2.2.2.2.2.2.2.2.2.2.2.2.2.2.2.2.2.2.2.2.2.2.2.2.2.2.2.2.2.2.2.2.2.2.2.2.2.2.2.2.2.2.2.2.2.2.2.2.2.2.2.2.2.2.2.2.2.2.2.2.2.2.2.2.2.2.2.2.2.2.2.2.2.2.2.2.2.2.2.2.2.2.2.2.2.2.2.2.2.1
theorem r_qr {e : Nat} {a : Sg} {M : MS} (h : Rel e a M) : ∀ p s, p < nP M → s < 4 → ∃ l w : Nat, gI M 45 (4 * p + s) = nI l ∧ l ≤ 3 ∧ gI M 46 (4 * p + s) = nI w ∧ w ≤ 7 := h.2.2.2.2.2.2.2.2.2.2.2.2.2.2.2.2.2.2.2.2.2.2.2.2.2.2.2.2.2.2.2.2.2.2.2.2.2.2.2.2.2.2.2.2.2.2.2.2.2.2.2.2.2.2.2.2.2.2.2.2.2.2.2.2.2.2.2.2.2.2.2.2.2.2.2.2.2.2.2.2.2.2.2.2.2.2.2.2.2.2.2.2.2.2.2.2.2.2.2.2.2.2.2.2.2.2.2.2.2.2.2.2.2.2.2.2.2.2.2.2.2.2.2.2.2.2.2.2.2.2.2.2.2.2.2.2.1
theorem r_r0 {e : Nat} {a : Sg} {M : MS} (h : Rel e a M) : ∀ r, r < nO M → sP a (tk 19 0) r = some (tk 6 r) := h.2.2.2.2.2.2.2.2.2.2.2.2.2.2.2.2.2.2.2.2.2.2.2.2.2.2.2.2.2.2.2.2.2.2.2.2.2.2.2.2.2.2.2.2.2.2.2.2.2.2.2.2.2.2.2.2.2.2.2.2.2.2.2.2.2.2.2.2.2.2.2.2.2.2.2.2.2.2.2.2.2.2.2.2.2.2.2.2.2.2.2.2.2.2.2.2.2.2.2.2.2.2.2.2.2.2.2.2.2.2.2.2.2.2.2.2.2.2.2.2.2.2.2.2.2.2.2.2.2.2.2.2.2.2.2.2.2.1
theorem r_r1 {e : Nat} {a : Sg} {M : MS} (h : Rel e a M) : ∀ r, r < nO M → sP a (tk 6 r) 0 = kp (gI M 48 r) := h.2.2.2.2.2.2.2.2.2.2.2.2.2.2.2.2.2.2.2.2.2.2.2.2.2.2.2.2.2.2.2.2.2.2.2.2.2.2.2.2.2.2.2.2.2.2.2.2.2.2.2.2.2.2.2.2.2.2.2.2.2.2.2.2.2.2.2.2.2.2.2.2.2.2.2.2.2.2.2.2.2.2.2.2.2.2.2.2.2.2.2.2.2.2.2.2.2.2.2.2.2.2.2.2.2.2.2.2.2.2.2.2.2.2.2.2.2.2.2.2.2.2.2.2.2.2.2.2.2.2.2.2.2.2.2.2.2.2.1
theorem r_r2 {e : Nat} {a : Sg} {M : MS} (h : Rel e a M) : ∀ r, r < nO M → sI a (tk 6 r) 1 = gI M 49 r := h.2.2.2.2.2.2.2.2.2.2.2.2.2.2.2.2.2.2.2.2.2.2.2.2.2.2.2.2.2.2.2.2.2.2.2.2.2.2.2.2.2.2.2.2.2.2.2.2.2.2.2.2.2.2.2.2.2.2.2.2.2.2.2.2.2.2.2.2.2.2.2.2.2.2.2.2.2.2.2.2.2.2.2.2.2.2.2.2.2.2.2.2.2.2.2.2.2.2.2.2.2.2.2.2.2.2.2.2.2.2.2.2.2.2.2.2.2.2.2.2.2.2.2.2.2.2.2.2.2.2.2.2.2.2.2.2.2.2.2.1
theorem r_r3 {e : Nat} {a : Sg} {M : MS} (h : Rel e a M) : ∀ r, r < nO M → sI a (tk 6 r) 2 = gI M 50 r := h.2.2.2.2.2.2.2.2.2.2.2.2.2.2.2.2.2.2.2.2.2.2.2.2.2.2.2.2.2.2.2.2.2.2.2.2.2.2.2.2.2.2.2.2.2.2.2.2.2.2.2.2.2.2.2.2.2.2.2.2.2.2.2.2.2.2.2.2.2.2.2.2.2.2.2.2.2.2.2.2.2.2.2.2.2.2.2.2.2.2.2.2.2.2.2.2.2.2.2.2.2.2.2.2.2.2.2.2.2.2.2.2.2.2.2.2.2.2.2.2.2.2.2.2.2.2.2.2.2.2.2.2.2.2.2.2.2.2.2.2.1
theorem r_r4 {e : Nat} {a : Sg} {M : MS} (h : Rel e a M) : ∀ r, r < nO M → sI a (tk 6 r) 3 = gI M 51 r := h.2.2.2.2.2.2.2.2.2.2.2.2.2.2.2.2.2.2.2.2.2.2.2.2.2.2.2.2.2.2.2.2.2.2.2.2.2.2.2.2.2.2.2.2.2.2.2.2.2.2.2.2.2.2.2.2.2.2.2.2.2.2.2.2.2.2.2.2.2.2.2.2.2.2.2.2.2.2.2.2.2.2.2.2.2.2.2.2.2.2.2.2.2.2.2.2.2.2.2.2.2.2.2.2.2.2.2.2.2.2.2.2.2.2.2.2.2.2.2.2.2.2.2.2.2.2.2.2.2.2.2.2.2.2.2.2.2.2.2.2.2.1
theorem r_r5 {e : Nat} {a : Sg} {M : MS} (h : Rel e a M) : ∀ r, r < nO M → sP a (tk 6 r) 4 = tp 0 (gI M 52 r) := h.2.2.2.2.2.2.2.2.2.2.2.2.2.2.2.2.2.2.2.2.2.2.2.2.2.2.2.2.2.2.2.2.2.2.2.2.2.2.2.2.2.2.2.2.2.2.2.2.2.2.2.2.2.2.2.2.2.2.2.2.2.2.2.2.2.2.2.2.2.2.2.2.2.2.2.2.2.2.2.2.2.2.2.2.2.2.2.2.2.2.2.2.2.2.2.2.2.2.2.2.2.2.2.2.2.2.2.2.2.2.2.2.2.2.2.2.2.2.2.2.2.2.2.2.2.2.2.2.2.2.2.2.2.2.2.2.2.2.2.2.2.2.1
theorem r_r6 {e : Nat} {a : Sg} {M : MS} (h : Rel e a M) : ∀ r, r < nO M → gI M 52 r ≠ -1 → sI a (tk 6 r) 5 = gI M 53 r := h.2.2.2.2.2.2.2.2.2.2.2.2.2.2.2.2.2.2.2.2.2.2.2.2.2.2.2.2.2.2.2.2.2.2.2.2.2.2.2.2.2.2.2.2.2.2.2.2.2.2.2.2.2.2.2.2.2.2.2.2.2.2.2.2.2.2.2.2.2.2.2.2.2.2.2.2.2.2.2.2.2.2.2.2.2.2.2.2.2.2.2.2.2.2.2.2.2.2.2.2.2.2.2.2.2.2.2.2.2.2.2.2.2.2.2.2.2.2.2.2.2.2.2.2.2.2.2.2.2.2.2.2.2.2.2.2.2.2.2.2.2.2.2.1
theorem r_rk {e : Nat} {a : Sg} {M : MS} (h : Rel e a M) : ∀ r, r < nO M → ∃ k : Nat, gI M 48 r = nI k ∧ k < 12 := h.2.2.2.2.2.2.2.2.2.2.2.2.2.2.2.2.2.2.2.2.2.2.2.2.2.2.2.2.2.2.2.2.2.2.2.2.2.2.2.2.2.2.2.2.2.2.2.2.2.2.2.2.2.2.2.2.2.2.2.2.2.2.2.2.2.2.2.2.2.2.2.2.2.2.2.2.2.2.2.2.2.2.2.2.2.2.2.2.2.2.2.2.2.2.2.2.2.2.2.2.2.2.2.2.2.2.2.2.2.2.2.2.2.2.2.2.2.2.2.2.2.2.2.2.2.2.2.2.2.2.2.2.2.2.2.2.2.2.2.2.2.2.2.2.1
theorem r_rp {e : Nat} {a : Sg} {M : MS} (h : Rel e a M) : ∀ r, r < nO M → ∃ p : Nat, gI M 49 r = nI p ∧ 1 ≤ p ∧ p ≤ 20 := h.2.2.2.2.2.2.2.2.2.2.2.2.2.2.2.2.2.2.2.2.2.2.2.2.2.2.2.2.2.2.2.2.2.2.2.2.2.2.2.2.2.2.2.2.2.2.2.2.2.2.2.2.2.2.2.2.2.2.2.2.2.2.2.2.2.2.2.2.2.2.2.2.2.2.2.2.2.2.2.2.2.2.2.2.2.2.2.2.2.2.2.2.2.2.2.2.2.2.2.2.2.2.2.2.2.2.2.2.2.2.2.2.2.2.2.2.2.2.2.2.2.2.2.2.2.2.2.2.2.2.2.2.2.2.2.2.2.2.2.2.2.2.2.2.2.1
theorem r_rq {e : Nat} {a : Sg} {M : MS} (h : Rel e a M) : ∀ r, r < nO M → gI M 51 r = nI (pr M r) := h.2.2.2.2.2.2.2.2.2.2.2.2.2.2.2.2.2.2.2.2.2.2.2.2.2.2.2.2.2.2.2.2.2.2.2.2.2.2.2.2.2.2.2.2.2.2.2.2.2.2.2.2.2.2.2.2.2.2.2.2.2.2.2.2.2.2.2.2.2.2.2.2.2.2.2.2.2.2.2.2.2.2.2.2.2.2.2.2.2.2.2.2.2.2.2.2.2.2.2.2.2.2.2.2.2.2.2.2.2.2.2.2.2.2.2.2.2.2.2.2.2.2.2.2.2.2.2.2.2.2.2.2.2.2.2.2.2.2.2.2.2.2.2.2.2.2.1
theorem r_rr {e : Nat} {a : Sg} {M : MS} (h : Rel e a M) : ∀ r, r < nO M → pr M r ≤ (gI M 49 r).toNatClampNeg := h.2.2.2.2.2.2.2.2.2.2.2.2.2.2.2.2.2.2.2.2.2.2.2.2.2.2.2.2.2.2.2.2.2.2.2.2.2.2.2.2.2.2.2.2.2.2.2.2.2.2.2.2.2.2.2.2.2.2.2.2.2.2.2.2.2.2.2.2.2.2.2.2.2.2.2.2.2.2.2.2.2.2.2.2.2.2.2.2.2.2.2.2.2.2.2.2.2.2.2.2.2.2.2.2.2.2.2.2.2.2.2.2.2.2.2.2.2.2.2.2.2.2.2.2.2.2.2.2.2.2.2.2.2.2.2.2.2.2.2.2.2.2.2.2.2.2.2.1
theorem r_rs {e : Nat} {a : Sg} {M : MS} (h : Rel e a M) : ∀ r, r < nO M → (gI M 52 r = -1 ∨ ∃ j : Nat, gI M 52 r = nI j ∧ j < nB M) := h.2.2.2.2.2.2.2.2.2.2.2.2.2.2.2.2.2.2.2.2.2.2.2.2.2.2.2.2.2.2.2.2.2.2.2.2.2.2.2.2.2.2.2.2.2.2.2.2.2.2.2.2.2.2.2.2.2.2.2.2.2.2.2.2.2.2.2.2.2.2.2.2.2.2.2.2.2.2.2.2.2.2.2.2.2.2.2.2.2.2.2.2.2.2.2.2.2.2.2.2.2.2.2.2.2.2.2.2.2.2.2.2.2.2.2.2.2.2.2.2.2.2.2.2.2.2.2.2.2.2.2.2.2.2.2.2.2.2.2.2.2.2.2.2.2.2.2.2
theorem nB_u (M : MS) (s j : Nat) (v : Int32) (h : s ≠ 214) : nB (uI M s j v) = nB M := by unfold nB; rw [gI_uI, if_neg (fun e => h e.1.symm)]
theorem nB_l (M : MS) (j : Nat) (v : Int64) : nB (uL M j v) = nB M := rfl
theorem nM_u (M : MS) (s j : Nat) (v : Int32) (h : s ≠ 227) : nM (uI M s j v) = nM M := by unfold nM; rw [gI_uI, if_neg (fun e => h e.1.symm)]
theorem nM_l (M : MS) (j : Nat) (v : Int64) : nM (uL M j v) = nM M := rfl
theorem nP_u (M : MS) (s j : Nat) (v : Int32) (h : s ≠ 241) : nP (uI M s j v) = nP M := by unfold nP; rw [gI_uI, if_neg (fun e => h e.1.symm)]
theorem nP_l (M : MS) (j : Nat) (v : Int64) : nP (uL M j v) = nP M := rfl
theorem nO_u (M : MS) (s j : Nat) (v : Int32) (h : s ≠ 247) : nO (uI M s j v) = nO M := by unfold nO; rw [gI_uI, if_neg (fun e => h e.1.symm)]
theorem nO_l (M : MS) (j : Nat) (v : Int64) : nO (uL M j v) = nO M := rfl
theorem hN_u (M : MS) (s j : Nat) (v : Int32) (h : s ≠ 255) : hN (uI M s j v) = hN M := by unfold hN; rw [gI_uI, if_neg (fun e => h e.1.symm)]
theorem hN_l (M : MS) (j : Nat) (v : Int64) : hN (uL M j v) = hN M := rfl
theorem nLn_u (M : MS) (s j : Nat) (v : Int32) (i : Nat) (h : s ≠ 3) : nLn (uI M s j v) i = nLn M i := by unfold nLn; rw [gI_uI, if_neg (fun e => h e.1.symm)]
theorem nLn_l (M : MS) (j : Nat) (v : Int64) (i : Nat) : nLn (uL M j v) i = nLn M i := rfl
theorem nOp_u (M : MS) (s j : Nat) (v : Int32) (i : Nat) (h : s ≠ 7) : nOp (uI M s j v) i = nOp M i := by unfold nOp; rw [gI_uI, if_neg (fun e => h e.1.symm)]
theorem nOp_l (M : MS) (j : Nat) (v : Int64) (i : Nat) : nOp (uL M j v) i = nOp M i := rfl
theorem lnP_u (M : MS) (s j : Nat) (v : Int32) (i : Nat) (h : s ≠ 4) : lnP (uI M s j v) i = lnP M i := by unfold lnP; rw [gI_uI, if_neg (fun e => h e.1.symm)]
theorem lnP_l (M : MS) (j : Nat) (v : Int64) (i : Nat) : lnP (uL M j v) i = lnP M i := rfl
theorem pc_u (M : MS) (s j : Nat) (v : Int32) (i : Nat) (h : s ≠ 16) : pc (uI M s j v) i = pc M i := by unfold pc; rw [gI_uI, if_neg (fun e => h e.1.symm)]
theorem pc_l (M : MS) (j : Nat) (v : Int64) (i : Nat) : pc (uL M j v) i = pc M i := rfl
theorem kd_u (M : MS) (s j : Nat) (v : Int32) (i : Nat) (h : s ≠ 15) : kd (uI M s j v) i = kd M i := by unfold kd; rw [gI_uI, if_neg (fun e => h e.1.symm)]
theorem kd_l (M : MS) (j : Nat) (v : Int64) (i : Nat) : kd (uL M j v) i = kd M i := rfl
theorem op_u (M : MS) (s j : Nat) (v : Int32) (i : Nat) (h : s ≠ 19) : op (uI M s j v) i = op M i := by unfold op; rw [gI_uI, if_neg (fun e => h e.1.symm)]
theorem op_l (M : MS) (j : Nat) (v : Int64) (i : Nat) : op (uL M j v) i = op M i := rfl
theorem pr_u (M : MS) (s j : Nat) (v : Int32) (i : Nat) (h : s ≠ 51) : pr (uI M s j v) i = pr M i := by unfold pr; rw [gI_uI, if_neg (fun e => h e.1.symm)]
theorem pr_l (M : MS) (j : Nat) (v : Int64) (i : Nat) : pr (uL M j v) i = pr M i := rfl
theorem gI_ne {M : MS} {s j t i : Nat} {v : Int32} (h : s ≠ t) : gI (uI M s j v) t i = gI M t i := by rw [gI_uI, if_neg (fun e => h e.1.symm)]
theorem mInSt_u (M : MS) (s j : Nat) (v k : Int32) (n : Nat) (h : s ≠ 18) (h1 : s ≠ 15) (h2 : s ≠ 16) : mInSt (uI M s j v) k n = mInSt M k n := by
  unfold mInSt
  refine sumN_congr fun q _ => ?_
  rw [gI_ne h, gI_ne h1, gI_ne h2]
theorem mProm_u (M : MS) (s j : Nat) (v k : Int32) (n : Nat) (h : s ≠ 48) (h1 : s ≠ 52) (h2 : s ≠ 51) : mProm (uI M s j v) k n = mProm M k n := by
  unfold mProm
  refine sumN_congr fun q _ => ?_
  rw [gI_ne h, gI_ne h1, gI_ne h2]
theorem nInSt_u (M : MS) (s j : Nat) (v : Int32) (k : Nat) (n : Nat) (h : s ≠ 18) (h1 : s ≠ 15) (h2 : s ≠ 16) : nInSt (uI M s j v) k n = nInSt M k n := by
  unfold nInSt
  refine sumT_congr fun q _ => ?_
  rw [gI_ne h, gI_ne h1, pc_u _ _ _ _ _ h2]
theorem nProm_u (M : MS) (s j : Nat) (v : Int32) (k : Nat) (n : Nat) (h : s ≠ 48) (h1 : s ≠ 52) (h2 : s ≠ 51) : nProm (uI M s j v) k n = nProm M k n := by
  unfold nProm
  refine sumT_congr fun q _ => ?_
  rw [gI_ne h, gI_ne h1, pr_u _ _ _ _ _ h2]
theorem totp_u (M : MS) (s j : Nat) (v : Int32) (n : Nat) (h : s ≠ 16) : totp (uI M s j v) n = totp M n := by
  unfold totp
  exact sumT_congr fun q _ => pc_u _ _ _ _ _ h
theorem nInSt_l (M : MS) (j : Nat) (v : Int64) (k : Nat) (n : Nat) : nInSt (uL M j v) k n = nInSt M k n := rfl
theorem nProm_l (M : MS) (j : Nat) (v : Int64) (k : Nat) (n : Nat) : nProm (uL M j v) k n = nProm M k n := rfl
theorem totp_l (M : MS) (j : Nat) (v : Int64) (n : Nat) : totp (uL M j v) n = totp M n := rfl
theorem mInSt_l (M : MS) (j : Nat) (v : Int64) (k : Int32) (n : Nat) : mInSt (uL M j v) k n = mInSt M k n := rfl
theorem mProm_l (M : MS) (j : Nat) (v : Int64) (k : Int32) (n : Nat) : mProm (uL M j v) k n = mProm M k n := rfl
theorem tot_u (M : MS) (s j : Nat) (v : Int32) (n : Nat) (h : s ≠ 17) : tot (uI M s j v) n = tot M n := by
  induction n with
  | zero => rfl
  | succ n ih =>
    show tot (uI M s j v) n + (gI (uI M s j v) 17 n).toInt = tot M n + (gI M 17 n).toInt
    rw [ih, gI_uI, if_neg (fun e => h e.1.symm)]
theorem tot_l (M : MS) (j : Nat) (v : Int64) (n : Nat) : tot (uL M j v) n = tot M n := by
  induction n with
  | zero => rfl
  | succ n ih =>
    show tot (uL M j v) n + (gI (uL M j v) 17 n).toInt = tot M n + (gI M 17 n).toInt
    rw [ih]
    rfl
