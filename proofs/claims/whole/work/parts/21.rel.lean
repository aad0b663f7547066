/-! The relation between the class' part a of the store and the model's state M. -/
def nB (M : MS) : Nat := (gI M 214 0).toNatClampNeg
def nM (M : MS) : Nat := (gI M 227 0).toNatClampNeg
def nP (M : MS) : Nat := (gI M 241 0).toNatClampNeg
def nO (M : MS) : Nat := (gI M 247 0).toNatClampNeg
def hN (M : MS) : Nat := (gI M 255 0).toNatClampNeg
def nLn (M : MS) (i : Nat) : Nat := (gI M 3 i).toNatClampNeg
def nOp (M : MS) (i : Nat) : Nat := (gI M 7 i).toNatClampNeg
def lnP (M : MS) (i : Nat) : Nat := (gI M 4 i).toNatClampNeg
def pc (M : MS) (j : Nat) : Nat := (gI M 16 j).toNatClampNeg
/-- what all batches cost so far -/
def tot (M : MS) : Nat → Int
  | 0 => 0
  | n + 1 => tot M n + (gI M 17 n).toInt
def kp (x : Int32) : Option Nat := if x = -1 then none else some (tk 2 x.toNatClampNeg)
def tp (c : Nat) (x : Int32) : Option Nat := if x = -1 then none else some (tk c x.toNatClampNeg)
/-- the first place from i on, of d, where p holds -/
def fst (p : Nat → Bool) : Nat → Nat → Int32
  | _, 0 => -1
  | i, d + 1 => if p i then nI i else fst p (i + 1) d
def Cshm (a : Sg) (M : MS) : Prop := ∀ k, sP a (tk 10 0) k = mp k
def Cpx0 (a : Sg) (M : MS) : Prop := sP a (tk 9 0) 0 = some (tk 15 0)
def Cpx1 (a : Sg) (M : MS) : Prop := sP a (tk 9 0) 1 = some (tk 1 0)
def Cpx2 (a : Sg) (M : MS) : Prop := sP a (tk 9 0) 2 = some (tk 8 0)
def Cpf0 (a : Sg) (M : MS) : Prop := sP a (tk 1 0) 0 = some (tk 8 0)
def Cpf1 (a : Sg) (M : MS) : Prop := sP a (tk 1 0) 1 = some (tk 17 0)
def Cpf3 (a : Sg) (M : MS) : Prop := sP a (tk 1 0) 3 = some (tk 20 0)
def Cps0 (a : Sg) (M : MS) : Prop := sP a (tk 8 0) 0 = some (tk 14 0)
def Cps2 (a : Sg) (M : MS) : Prop := sP a (tk 8 0) 2 = some (tk 19 0)
def Cps4 (a : Sg) (M : MS) : Prop := sP a (tk 8 0) 4 = some (tk 23 0)
def Cpk (a : Sg) (M : MS) : Prop := ∀ i, i < 12 → sP a (tk 15 0) i = some (tk 2 i)
def Cpkl (a : Sg) (M : MS) : Prop := ∀ i, i < 12 → sP a (tk 2 i) 4 = some (tk 16 i)
def Cpko (a : Sg) (M : MS) : Prop := ∀ i, i < 12 → sP a (tk 2 i) 6 = some (tk 18 i)
def Cghour (a : Sg) (M : MS) : Prop := sI a (tk 9 0) 3 = gI M 255 0
def Cgstand (a : Sg) (M : MS) : Prop := sI a (tk 9 0) 4 = gI M 254 0
def Cgbought (a : Sg) (M : MS) : Prop := sI a (tk 9 0) 5 = gI M 256 0
def Cgmach (a : Sg) (M : MS) : Prop := sI a (tk 1 0) 2 = gI M 227 0
def Cgpers (a : Sg) (M : MS) : Prop := sI a (tk 1 0) 4 = gI M 241 0
def Cgworked (a : Sg) (M : MS) : Prop := sI a (tk 1 0) 5 = gI M 257 0
def Cgrep (a : Sg) (M : MS) : Prop := sI a (tk 1 0) 6 = gI M 258 0
def Cgbat (a : Sg) (M : MS) : Prop := sI a (tk 8 0) 1 = gI M 214 0
def Cgord (a : Sg) (M : MS) : Prop := sI a (tk 8 0) 3 = gI M 247 0
def Cgq (a : Sg) (M : MS) : Prop := ∀ w, w < 4 → sI a (tk 23 0) w = gI M 12 w
def CnB (a : Sg) (M : MS) : Prop := gI M 214 0 = nI (nB M)
def CnBx (a : Sg) (M : MS) : Prop := nB M ≤ 60
def CnM (a : Sg) (M : MS) : Prop := gI M 227 0 = nI (nM M)
def CnMx (a : Sg) (M : MS) : Prop := nM M ≤ 6
def CnP (a : Sg) (M : MS) : Prop := gI M 241 0 = nI (nP M)
def CnPx (a : Sg) (M : MS) : Prop := nP M ≤ 6
def CnO (a : Sg) (M : MS) : Prop := gI M 247 0 = nI (nO M)
def CnOx (a : Sg) (M : MS) : Prop := nO M ≤ 10
def Chr (a : Sg) (M : MS) : Prop := gI M 255 0 = nI (hN M)
def Chrx (a : Sg) (M : MS) : Prop := hN M ≤ 2000
def Cstb (a : Sg) (M : MS) : Prop := b01 (gI M 254 0)
def Ck0 (a : Sg) (M : MS) : Prop := ∀ i, i < 12 → sI a (tk 2 i) 0 = nI i
def Ck1 (a : Sg) (M : MS) : Prop := ∀ i, i < 12 → sI a (tk 2 i) 1 = bi (decide (gI M 0 i = 1))
def Ck2 (a : Sg) (M : MS) : Prop := ∀ i, i < 12 → sI a (tk 2 i) 2 = gI M 1 i
def Ck3 (a : Sg) (M : MS) : Prop := ∀ i, i < 12 → sI a (tk 2 i) 3 = gI M 2 i
def Ck5 (a : Sg) (M : MS) : Prop := ∀ i, i < 12 → sI a (tk 2 i) 5 = gI M 3 i
def Ck7 (a : Sg) (M : MS) : Prop := ∀ i, i < 12 → sI a (tk 2 i) 7 = gI M 7 i
def Ck8 (a : Sg) (M : MS) : Prop := ∀ i, i < 12 → sI a (tk 2 i) 8 = gI M 11 i
def Ck9 (a : Sg) (M : MS) : Prop := ∀ i, i < 12 → sI a (tk 2 i) 9 = gI M 113 i
def Ck10 (a : Sg) (M : MS) : Prop := ∀ i, i < 12 → sI a (tk 2 i) 10 = mInSt M (nI i) (nB M)
def Ck11 (a : Sg) (M : MS) : Prop := ∀ i, i < 12 → sI a (tk 2 i) 11 = mProm M (nI i) (nO M)
def Ck12 (a : Sg) (M : MS) : Prop := ∀ i, i < 12 → sI a (tk 2 i) 12 = 0
def Cks (a : Sg) (M : MS) : Prop := ∀ i, i < 12 → (gI M 0 i = 0 ∨ gI M 0 i = 1 ∨ gI M 0 i = 2) ∧ (gI M 0 i = 2 ↔ 0 < nOp M i) ∧ (gI M 0 i = 1 → nLn M i = 0 ∧ nOp M i = 0)
def Ckw (a : Sg) (M : MS) : Prop := ∀ i, i < 12 → b01 (gI M 113 i)
def Ckl (a : Sg) (M : MS) : Prop := ∀ i, i < 12 → gI M 3 i = nI (nLn M i) ∧ nLn M i ≤ 3
def Cko (a : Sg) (M : MS) : Prop := ∀ i, i < 12 → gI M 7 i = nI (nOp M i) ∧ nOp M i ≤ 4
def Ckp (a : Sg) (M : MS) : Prop := ∀ i, i < 12 → ∃ p h : Nat, gI M 1 i = nI p ∧ p ≤ 99 ∧ gI M 2 i = nI h ∧ h ≤ 30
def Cl0 (a : Sg) (M : MS) : Prop := ∀ i k, i < 12 → k < nLn M i → sP a (tk 16 i) k = some (tk 3 (3 * i + k))
def Cl1 (a : Sg) (M : MS) : Prop := ∀ i k, i < 12 → k < nLn M i → sP a (tk 3 (3 * i + k)) 0 = some (tk 2 (lnP M (3 * i + k)))
def Cl2 (a : Sg) (M : MS) : Prop := ∀ i k, i < 12 → k < nLn M i → sI a (tk 3 (3 * i + k)) 1 = gI M 5 (3 * i + k)
def Cl3 (a : Sg) (M : MS) : Prop := ∀ i k, i < 12 → k < nLn M i → sP a (tk 3 (3 * i + k)) 2 = kp (gI M 6 (3 * i + k))
def Clm (a : Sg) (M : MS) : Prop := ∀ i k, i < 12 → k < nLn M i → gI M 4 (3 * i + k) = nI (lnP M (3 * i + k)) ∧ lnP M (3 * i + k) < i ∧ (∃ q : Nat, gI M 5 (3 * i + k) = nI q ∧ 1 ≤ q ∧ q ≤ 3) ∧ (gI M 6 (3 * i + k) = -1 ∨ ∃ q : Nat, gI M 6 (3 * i + k) = nI q ∧ q < i ∧ q ≠ lnP M (3 * i + k))
def Co0 (a : Sg) (M : MS) : Prop := ∀ i k, i < 12 → k < nOp M i → sP a (tk 18 i) k = some (tk 5 (4 * i + k))
def Co1 (a : Sg) (M : MS) : Prop := ∀ i k, i < 12 → k < nOp M i → sI a (tk 5 (4 * i + k)) 0 = gI M 8 (4 * i + k)
def Co2 (a : Sg) (M : MS) : Prop := ∀ i k, i < 12 → k < nOp M i → sI a (tk 5 (4 * i + k)) 1 = gI M 9 (4 * i + k)
def Co3 (a : Sg) (M : MS) : Prop := ∀ i k, i < 12 → k < nOp M i → sI a (tk 5 (4 * i + k)) 2 = gI M 10 (4 * i + k)
def Com (a : Sg) (M : MS) : Prop := ∀ i k, i < 12 → k < nOp M i → ∃ w s h : Nat, gI M 8 (4 * i + k) = nI w ∧ w < 4 ∧ gI M 9 (4 * i + k) = nI s ∧ s < 4 ∧ gI M 10 (4 * i + k) = nI h ∧ 1 ≤ h ∧ h ≤ 9
def Cb0 (a : Sg) (M : MS) : Prop := ∀ j, j < nB M → sP a (tk 14 0) j = some (tk 0 j)
def Cbn (a : Sg) (M : MS) : Prop := ∀ j, j < nB M → sI a (tk 0 j) 0 = nI j
def Cbk (a : Sg) (M : MS) : Prop := ∀ j, j < nB M → sP a (tk 0 j) 1 = some (tk 2 (kd M j))
def Cb2 (a : Sg) (M : MS) : Prop := ∀ j, j < nB M → sI a (tk 0 j) 2 = gI M 16 j
def Cb3 (a : Sg) (M : MS) : Prop := ∀ j, j < nB M → sI a (tk 0 j) 3 = gI M 17 j
def Cb4 (a : Sg) (M : MS) : Prop := ∀ j, j < nB M → sI a (tk 0 j) 4 = gI M 18 j
def Cb5 (a : Sg) (M : MS) : Prop := ∀ j, j < nB M → sI a (tk 0 j) 5 = gI M 19 j
def Cb6 (a : Sg) (M : MS) : Prop := ∀ j, j < nB M → sI a (tk 0 j) 6 = gI M 20 j
def Cb7 (a : Sg) (M : MS) : Prop := ∀ j, j < nB M → sI a (tk 0 j) 7 = gI M 121 j
def Cb8 (a : Sg) (M : MS) : Prop := ∀ j, j < nB M → sI a (tk 0 j) 8 = gI M 122 j
def Cb9 (a : Sg) (M : MS) : Prop := ∀ j, j < nB M → sI a (tk 0 j) 9 = gI M 25 j
def Cb10 (a : Sg) (M : MS) : Prop := ∀ j, j < nB M → sI a (tk 0 j) 10 = gI M 23 j
def Cb11 (a : Sg) (M : MS) : Prop := ∀ j, j < nB M → sL a (tk 0 j) 11 = gL M j
def Cbm (a : Sg) (M : MS) : Prop := ∀ j, j < nB M → gI M 15 j = nI (kd M j) ∧ kd M j < 12 ∧ gI M 16 j = nI (pc M j) ∧ pc M j ≤ 1200 ∧ gI M 19 j = nI (op M j) ∧ op M j ≤ 4 ∧ (gI M 18 j = 1 ∨ gI M 18 j = 2 → op M j < nOp M (kd M j)) ∧ (gI M 18 j = 4 ↔ pc M j = 0) ∧ b01 (gI M 121 j) ∧ b01 (gI M 122 j) ∧ 0 ≤ (gI M 17 j).toInt ∧ (∃ s : Nat, gI M 18 j = nI s ∧ s ≤ 6) ∧ (gI M 113 (kd M j) = 1)
def Cbp (a : Sg) (M : MS) : Prop := ∀ j b, j < nB M → nB M ≤ b → b < 64 → (gL M j).toBitVec.getLsbD b = false
def Cbc (a : Sg) (M : MS) : Prop := tot M (nB M) ≤ 1980 * nB M + 108 * hN M
def CfB (a : Sg) (M : MS) : Prop := ∀ j, nB M ≤ j → j < 60 → sX a (tk 0 j) = false
def CfL (a : Sg) (M : MS) : Prop := ∀ i k, i < 12 → k < 3 → nLn M i ≤ k → sX a (tk 3 (3 * i + k)) = false
def CfO (a : Sg) (M : MS) : Prop := ∀ i k, i < 12 → k < 4 → nOp M i ≤ k → sX a (tk 5 (4 * i + k)) = false
def CfM (a : Sg) (M : MS) : Prop := ∀ m, nM M ≤ m → m < 6 → sX a (tk 4 m) = false
def CfP (a : Sg) (M : MS) : Prop := ∀ p, nP M ≤ p → p < 6 → sX a (tk 7 p) = false ∧ sX a (tk 21 p) = false ∧ sX a (tk 22 p) = false
def CfR (a : Sg) (M : MS) : Prop := ∀ r, nO M ≤ r → r < 10 → sX a (tk 6 r) = false
def CfG (a : Sg) (M : MS) : Prop := ∃ N, 64 ≤ N ∧ ∀ c i, N ≤ i → sX a (tk c i) = false
def Cm0 (a : Sg) (M : MS) : Prop := ∀ m, m < nM M → sP a (tk 17 0) m = some (tk 4 m)
def Cmn (a : Sg) (M : MS) : Prop := ∀ m, m < nM M → sI a (tk 4 m) 0 = nI m
def Cm1 (a : Sg) (M : MS) : Prop := ∀ m, m < nM M → sI a (tk 4 m) 1 = gI M 28 m
def Cm2 (a : Sg) (M : MS) : Prop := ∀ m, m < nM M → sI a (tk 4 m) 2 = gI M 29 m
def Cm3 (a : Sg) (M : MS) : Prop := ∀ m, m < nM M → sI a (tk 4 m) 3 = gI M 30 m
def Cm4 (a : Sg) (M : MS) : Prop := ∀ m, m < nM M → sI a (tk 4 m) 4 = gI M 31 m
def Cm5 (a : Sg) (M : MS) : Prop := ∀ m, m < nM M → sI a (tk 4 m) 5 = gI M 32 m
def Cm9 (a : Sg) (M : MS) : Prop := ∀ m, m < nM M → sI a (tk 4 m) 9 = gI M 35 m
def Cm11 (a : Sg) (M : MS) : Prop := ∀ m, m < nM M → sI a (tk 4 m) 11 = gI M 37 m
def Cm13 (a : Sg) (M : MS) : Prop := ∀ m, m < nM M → sI a (tk 4 m) 13 = gI M 39 m
def Cm14 (a : Sg) (M : MS) : Prop := ∀ m, m < nM M → sI a (tk 4 m) 14 = gI M 40 m
def Cm6 (a : Sg) (M : MS) : Prop := ∀ m, m < nM M → sP a (tk 4 m) 6 = kp (gI M 33 m)
def Cm7 (a : Sg) (M : MS) : Prop := ∀ m, m < nM M → sP a (tk 4 m) 7 = tp 0 (gI M 34 m)
def Cm8 (a : Sg) (M : MS) : Prop := ∀ m, m < nM M → sP a (tk 4 m) 8 = tp 7 (gI M 36 m)
def Cm12 (a : Sg) (M : MS) : Prop := ∀ m, m < nM M → sP a (tk 4 m) 12 = kp (gI M 38 m)
def Cm10 (a : Sg) (M : MS) : Prop := ∀ m j, m < nM M → j < nB M → gI M 34 m = nI j → sI a (tk 4 m) 10 = gI M 124 j
def Cmm (a : Sg) (M : MS) : Prop := ∀ m, m < nM M → (gI M 33 m = -1 ∨ ∃ q : Nat, gI M 33 m = nI q ∧ q < 12) ∧ (gI M 34 m = -1 ∧ gI M 36 m = -1 ∧ gI M 35 m = 0 ∨ ∃ j p : Nat, gI M 34 m = nI j ∧ j < nB M ∧ gI M 18 j = 2 ∧ gI M 36 m = nI p ∧ p < nP M) ∧ (gI M 38 m = -1 ∨ ∃ q : Nat, gI M 38 m = nI q ∧ q < 12)
def Cmr (a : Sg) (M : MS) : Prop := ∀ m, m < nM M → ∃ s c l r f w n q : Nat, gI M 29 m = nI s ∧ s ≤ 5 ∧ gI M 30 m = nI c ∧ c ≤ 9 ∧ gI M 31 m = nI l ∧ 1 ≤ l ∧ l ≤ 50 ∧ gI M 32 m = nI r ∧ 1 ≤ r ∧ r ≤ 9 ∧ gI M 35 m = nI f ∧ f ≤ 15 ∧ gI M 37 m = nI w ∧ w ≤ hN M ∧ gI M 39 m = nI n ∧ n ≤ 2 ∧ gI M 40 m = nI q ∧ q ≤ 9 ∧ (n = 2 → 1 ≤ q)
def Cmd (a : Sg) (M : MS) : Prop := ∀ m n, m < nM M → n < nM M → m ≠ n → gI M 34 m = gI M 34 n → gI M 34 m = -1
def Cmw (a : Sg) (M : MS) : Prop := ∀ m n, m < nM M → n < nM M → m ≠ n → gI M 36 m = gI M 36 n → gI M 36 m = -1
def Cq0 (a : Sg) (M : MS) : Prop := ∀ p, p < nP M → sP a (tk 20 0) p = some (tk 7 p)
def Cqn (a : Sg) (M : MS) : Prop := ∀ p, p < nP M → sI a (tk 7 p) 0 = nI p
def Cq1 (a : Sg) (M : MS) : Prop := ∀ p, p < nP M → sI a (tk 7 p) 1 = gI M 42 p
def Cq2 (a : Sg) (M : MS) : Prop := ∀ p, p < nP M → sI a (tk 7 p) 2 = gI M 43 p
def Cq3 (a : Sg) (M : MS) : Prop := ∀ p, p < nP M → sI a (tk 7 p) 3 = gI M 44 p
def Cq4 (a : Sg) (M : MS) : Prop := ∀ p, p < nP M → sP a (tk 7 p) 4 = some (tk 21 p)
def Cq5 (a : Sg) (M : MS) : Prop := ∀ p, p < nP M → sP a (tk 7 p) 5 = some (tk 22 p)
def Cq6 (a : Sg) (M : MS) : Prop := ∀ p, p < nP M → sI a (tk 7 p) 6 = fst (fun m => decide (gI M 36 m = nI p)) 0 (nM M)
def Cql (a : Sg) (M : MS) : Prop := ∀ p s, p < nP M → s < 4 → sI a (tk 21 p) s = gI M 45 (4 * p + s)
def Cqw (a : Sg) (M : MS) : Prop := ∀ p s, p < nP M → s < 4 → gI M 45 (4 * p + s) < 3 → sI a (tk 22 p) s = gI M 46 (4 * p + s)
def Cqm (a : Sg) (M : MS) : Prop := ∀ p, p < nP M → ∃ w b h : Nat, gI M 42 p = nI w ∧ w ≤ 9 ∧ gI M 43 p = nI b ∧ b ≤ 23 ∧ gI M 44 p = nI h ∧ 1 ≤ h ∧ h ≤ 24
def Cqr (a : Sg) (M : MS) : Prop := ∀ p s, p < nP M → s < 4 → ∃ l w : Nat, gI M 45 (4 * p + s) = nI l ∧ l ≤ 3 ∧ gI M 46 (4 * p + s) = nI w ∧ w ≤ 7
def Cr0 (a : Sg) (M : MS) : Prop := ∀ r, r < nO M → sP a (tk 19 0) r = some (tk 6 r)
def Cr1 (a : Sg) (M : MS) : Prop := ∀ r, r < nO M → sP a (tk 6 r) 0 = kp (gI M 48 r)
def Cr2 (a : Sg) (M : MS) : Prop := ∀ r, r < nO M → sI a (tk 6 r) 1 = gI M 49 r
def Cr3 (a : Sg) (M : MS) : Prop := ∀ r, r < nO M → sI a (tk 6 r) 2 = gI M 50 r
def Cr4 (a : Sg) (M : MS) : Prop := ∀ r, r < nO M → sI a (tk 6 r) 3 = gI M 51 r
def Cr5 (a : Sg) (M : MS) : Prop := ∀ r, r < nO M → sP a (tk 6 r) 4 = tp 0 (gI M 52 r)
def Cr6 (a : Sg) (M : MS) : Prop := ∀ r, r < nO M → gI M 52 r ≠ -1 → sI a (tk 6 r) 5 = gI M 53 r
def Crm (a : Sg) (M : MS) : Prop := ∀ r, r < nO M → ∃ k p d q : Nat, gI M 48 r = nI k ∧ k < 12 ∧ gI M 49 r = nI p ∧ 1 ≤ p ∧ p ≤ 20 ∧ gI M 50 r = nI d ∧ d ≤ 999 ∧ gI M 51 r = nI q ∧ q ≤ p ∧ (gI M 52 r = -1 ∨ ∃ j : Nat, gI M 52 r = nI j ∧ j < nB M)
def Rel (a : Sg) (M : MS) : Prop :=
  Cshm a M ∧
  Cpx0 a M ∧
  Cpx1 a M ∧
  Cpx2 a M ∧
  Cpf0 a M ∧
  Cpf1 a M ∧
  Cpf3 a M ∧
  Cps0 a M ∧
  Cps2 a M ∧
  Cps4 a M ∧
  Cpk a M ∧
  Cpkl a M ∧
  Cpko a M ∧
  Cghour a M ∧
  Cgstand a M ∧
  Cgbought a M ∧
  Cgmach a M ∧
  Cgpers a M ∧
  Cgworked a M ∧
  Cgrep a M ∧
  Cgbat a M ∧
  Cgord a M ∧
  Cgq a M ∧
  CnB a M ∧
  CnBx a M ∧
  CnM a M ∧
  CnMx a M ∧
  CnP a M ∧
  CnPx a M ∧
  CnO a M ∧
  CnOx a M ∧
  Chr a M ∧
  Chrx a M ∧
  Cstb a M ∧
  Ck0 a M ∧
  Ck1 a M ∧
  Ck2 a M ∧
  Ck3 a M ∧
  Ck5 a M ∧
  Ck7 a M ∧
  Ck8 a M ∧
  Ck9 a M ∧
  Ck10 a M ∧
  Ck11 a M ∧
  Ck12 a M ∧
  Cks a M ∧
  Ckw a M ∧
  Ckl a M ∧
  Cko a M ∧
  Ckp a M ∧
  Cl0 a M ∧
  Cl1 a M ∧
  Cl2 a M ∧
  Cl3 a M ∧
  Clm a M ∧
  Co0 a M ∧
  Co1 a M ∧
  Co2 a M ∧
  Co3 a M ∧
  Com a M ∧
  Cb0 a M ∧
  Cbn a M ∧
  Cbk a M ∧
  Cb2 a M ∧
  Cb3 a M ∧
  Cb4 a M ∧
  Cb5 a M ∧
  Cb6 a M ∧
  Cb7 a M ∧
  Cb8 a M ∧
  Cb9 a M ∧
  Cb10 a M ∧
  Cb11 a M ∧
  Cbm a M ∧
  Cbp a M ∧
  Cbc a M ∧
  CfB a M ∧
  CfL a M ∧
  CfO a M ∧
  CfM a M ∧
  CfP a M ∧
  CfR a M ∧
  CfG a M ∧
  Cm0 a M ∧
  Cmn a M ∧
  Cm1 a M ∧
  Cm2 a M ∧
  Cm3 a M ∧
  Cm4 a M ∧
  Cm5 a M ∧
  Cm9 a M ∧
  Cm11 a M ∧
  Cm13 a M ∧
  Cm14 a M ∧
  Cm6 a M ∧
  Cm7 a M ∧
  Cm8 a M ∧
  Cm12 a M ∧
  Cm10 a M ∧
  Cmm a M ∧
  Cmr a M ∧
  Cmd a M ∧
  Cmw a M ∧
  Cq0 a M ∧
  Cqn a M ∧
  Cq1 a M ∧
  Cq2 a M ∧
  Cq3 a M ∧
  Cq4 a M ∧
  Cq5 a M ∧
  Cq6 a M ∧
  Cql a M ∧
  Cqw a M ∧
  Cqm a M ∧
  Cqr a M ∧
  Cr0 a M ∧
  Cr1 a M ∧
  Cr2 a M ∧
  Cr3 a M ∧
  Cr4 a M ∧
  Cr5 a M ∧
  Cr6 a M ∧
  Crm a M
theorem r_shm {a : Sg} {M : MS} (h : Rel a M) : ∀ k, sP a (tk 10 0) k = mp k := h.1
theorem r_px0 {a : Sg} {M : MS} (h : Rel a M) : sP a (tk 9 0) 0 = some (tk 15 0) := h.2.1
theorem r_px1 {a : Sg} {M : MS} (h : Rel a M) : sP a (tk 9 0) 1 = some (tk 1 0) := h.2.2.1
theorem r_px2 {a : Sg} {M : MS} (h : Rel a M) : sP a (tk 9 0) 2 = some (tk 8 0) := h.2.2.2.1
theorem r_pf0 {a : Sg} {M : MS} (h : Rel a M) : sP a (tk 1 0) 0 = some (tk 8 0) := h.2.2.2.2.1
theorem r_pf1 {a : Sg} {M : MS} (h : Rel a M) : sP a (tk 1 0) 1 = some (tk 17 0) := h.2.2.2.2.2.1
theorem r_pf3 {a : Sg} {M : MS} (h : Rel a M) : sP a (tk 1 0) 3 = some (tk 20 0) := h.2.2.2.2.2.2.1
theorem r_ps0 {a : Sg} {M : MS} (h : Rel a M) : sP a (tk 8 0) 0 = some (tk 14 0) := h.2.2.2.2.2.2.2.1
theorem r_ps2 {a : Sg} {M : MS} (h : Rel a M) : sP a (tk 8 0) 2 = some (tk 19 0) := h.2.2.2.2.2.2.2.2.1
theorem r_ps4 {a : Sg} {M : MS} (h : Rel a M) : sP a (tk 8 0) 4 = some (tk 23 0) := h.2.2.2.2.2.2.2.2.2.1
theorem r_pk {a : Sg} {M : MS} (h : Rel a M) : ∀ i, i < 12 → sP a (tk 15 0) i = some (tk 2 i) := h.2.2.2.2.2.2.2.2.2.2.1
theorem r_pkl {a : Sg} {M : MS} (h : Rel a M) : ∀ i, i < 12 → sP a (tk 2 i) 4 = some (tk 16 i) := h.2.2.2.2.2.2.2.2.2.2.2.1
theorem r_pko {a : Sg} {M : MS} (h : Rel a M) : ∀ i, i < 12 → sP a (tk 2 i) 6 = some (tk 18 i) := h.2.2.2.2.2.2.2.2.2.2.2.2.1
theorem r_ghour {a : Sg} {M : MS} (h : Rel a M) : sI a (tk 9 0) 3 = gI M 255 0 := h.2.2.2.2.2.2.2.2.2.2.2.2.2.1
theorem r_gstand {a : Sg} {M : MS} (h : Rel a M) : sI a (tk 9 0) 4 = gI M 254 0 := h.2.2.2.2.2.2.2.2.2.2.2.2.2.2.1
theorem r_gbought {a : Sg} {M : MS} (h : Rel a M) : sI a (tk 9 0) 5 = gI M 256 0 := h.2.2.2.2.2.2.2.2.2.2.2.2.2.2.2.1
theorem r_gmach {a : Sg} {M : MS} (h : Rel a M) : sI a (tk 1 0) 2 = gI M 227 0 := h.2.2.2.2.2.2.2.2.2.2.2.2.2.2.2.2.1
theorem r_gpers {a : Sg} {M : MS} (h : Rel a M) : sI a (tk 1 0) 4 = gI M 241 0 := h.2.2.2.2.2.2.2.2.2.2.2.2.2.2.2.2.2.1
theorem r_gworked {a : Sg} {M : MS} (h : Rel a M) : sI a (tk 1 0) 5 = gI M 257 0 := h.2.2.2.2.2.2.2.2.2.2.2.2.2.2.2.2.2.2.1
theorem r_grep {a : Sg} {M : MS} (h : Rel a M) : sI a (tk 1 0) 6 = gI M 258 0 := h.2.2.2.2.2.2.2.2.2.2.2.2.2.2.2.2.2.2.2.1
theorem r_gbat {a : Sg} {M : MS} (h : Rel a M) : sI a (tk 8 0) 1 = gI M 214 0 := h.2.2.2.2.2.2.2.2.2.2.2.2.2.2.2.2.2.2.2.2.1
theorem r_gord {a : Sg} {M : MS} (h : Rel a M) : sI a (tk 8 0) 3 = gI M 247 0 := h.2.2.2.2.2.2.2.2.2.2.2.2.2.2.2.2.2.2.2.2.2.1
theorem r_gq {a : Sg} {M : MS} (h : Rel a M) : ∀ w, w < 4 → sI a (tk 23 0) w = gI M 12 w := h.2.2.2.2.2.2.2.2.2.2.2.2.2.2.2.2.2.2.2.2.2.2.1
theorem r_nB {a : Sg} {M : MS} (h : Rel a M) : gI M 214 0 = nI (nB M) := h.2.2.2.2.2.2.2.2.2.2.2.2.2.2.2.2.2.2.2.2.2.2.2.1
theorem r_nBx {a : Sg} {M : MS} (h : Rel a M) : nB M ≤ 60 := h.2.2.2.2.2.2.2.2.2.2.2.2.2.2.2.2.2.2.2.2.2.2.2.2.1
theorem r_nM {a : Sg} {M : MS} (h : Rel a M) : gI M 227 0 = nI (nM M) := h.2.2.2.2.2.2.2.2.2.2.2.2.2.2.2.2.2.2.2.2.2.2.2.2.2.1
theorem r_nMx {a : Sg} {M : MS} (h : Rel a M) : nM M ≤ 6 := h.2.2.2.2.2.2.2.2.2.2.2.2.2.2.2.2.2.2.2.2.2.2.2.2.2.2.1
theorem r_nP {a : Sg} {M : MS} (h : Rel a M) : gI M 241 0 = nI (nP M) := h.2.2.2.2.2.2.2.2.2.2.2.2.2.2.2.2.2.2.2.2.2.2.2.2.2.2.2.1
theorem r_nPx {a : Sg} {M : MS} (h : Rel a M) : nP M ≤ 6 := h.2.2.2.2.2.2.2.2.2.2.2.2.2.2.2.2.2.2.2.2.2.2.2.2.2.2.2.2.1
theorem r_nO {a : Sg} {M : MS} (h : Rel a M) : gI M 247 0 = nI (nO M) := h.2.2.2.2.2.2.2.2.2.2.2.2.2.2.2.2.2.2.2.2.2.2.2.2.2.2.2.2.2.1
theorem r_nOx {a : Sg} {M : MS} (h : Rel a M) : nO M ≤ 10 := h.2.2.2.2.2.2.2.2.2.2.2.2.2.2.2.2.2.2.2.2.2.2.2.2.2.2.2.2.2.2.1
theorem r_hr {a : Sg} {M : MS} (h : Rel a M) : gI M 255 0 = nI (hN M) := h.2.2.2.2.2.2.2.2.2.2.2.2.2.2.2.2.2.2.2.2.2.2.2.2.2.2.2.2.2.2.2.1
theorem r_hrx {a : Sg} {M : MS} (h : Rel a M) : hN M ≤ 2000 := h.2.2.2.2.2.2.2.2.2.2.2.2.2.2.2.2.2.2.2.2.2.2.2.2.2.2.2.2.2.2.2.2.1
theorem r_stb {a : Sg} {M : MS} (h : Rel a M) : b01 (gI M 254 0) := h.2.2.2.2.2.2.2.2.2.2.2.2.2.2.2.2.2.2.2.2.2.2.2.2.2.2.2.2.2.2.2.2.2.1
theorem r_k0 {a : Sg} {M : MS} (h : Rel a M) : ∀ i, i < 12 → sI a (tk 2 i) 0 = nI i := h.2.2.2.2.2.2.2.2.2.2.2.2.2.2.2.2.2.2.2.2.2.2.2.2.2.2.2.2.2.2.2.2.2.2.1
theorem r_k1 {a : Sg} {M : MS} (h : Rel a M) : ∀ i, i < 12 → sI a (tk 2 i) 1 = bi (decide (gI M 0 i = 1)) := h.2.2.2.2.2.2.2.2.2.2.2.2.2.2.2.2.2.2.2.2.2.2.2.2.2.2.2.2.2.2.2.2.2.2.2.1
theorem r_k2 {a : Sg} {M : MS} (h : Rel a M) : ∀ i, i < 12 → sI a (tk 2 i) 2 = gI M 1 i := h.2.2.2.2.2.2.2.2.2.2.2.2.2.2.2.2.2.2.2.2.2.2.2.2.2.2.2.2.2.2.2.2.2.2.2.2.1
theorem r_k3 {a : Sg} {M : MS} (h : Rel a M) : ∀ i, i < 12 → sI a (tk 2 i) 3 = gI M 2 i := h.2.2.2.2.2.2.2.2.2.2.2.2.2.2.2.2.2.2.2.2.2.2.2.2.2.2.2.2.2.2.2.2.2.2.2.2.2.1
theorem r_k5 {a : Sg} {M : MS} (h : Rel a M) : ∀ i, i < 12 → sI a (tk 2 i) 5 = gI M 3 i := h.2.2.2.2.2.2.2.2.2.2.2.2.2.2.2.2.2.2.2.2.2.2.2.2.2.2.2.2.2.2.2.2.2.2.2.2.2.2.1
theorem r_k7 {a : Sg} {M : MS} (h : Rel a M) : ∀ i, i < 12 → sI a (tk 2 i) 7 = gI M 7 i := h.2.2.2.2.2.2.2.2.2.2.2.2.2.2.2.2.2.2.2.2.2.2.2.2.2.2.2.2.2.2.2.2.2.2.2.2.2.2.2.1
theorem r_k8 {a : Sg} {M : MS} (h : Rel a M) : ∀ i, i < 12 → sI a (tk 2 i) 8 = gI M 11 i := h.2.2.2.2.2.2.2.2.2.2.2.2.2.2.2.2.2.2.2.2.2.2.2.2.2.2.2.2.2.2.2.2.2.2.2.2.2.2.2.2.1
theorem r_k9 {a : Sg} {M : MS} (h : Rel a M) : ∀ i, i < 12 → sI a (tk 2 i) 9 = gI M 113 i := h.2.2.2.2.2.2.2.2.2.2.2.2.2.2.2.2.2.2.2.2.2.2.2.2.2.2.2.2.2.2.2.2.2.2.2.2.2.2.2.2.2.1
theorem r_k10 {a : Sg} {M : MS} (h : Rel a M) : ∀ i, i < 12 → sI a (tk 2 i) 10 = mInSt M (nI i) (nB M) := h.2.2.2.2.2.2.2.2.2.2.2.2.2.2.2.2.2.2.2.2.2.2.2.2.2.2.2.2.2.2.2.2.2.2.2.2.2.2.2.2.2.2.1
theorem r_k11 {a : Sg} {M : MS} (h : Rel a M) : ∀ i, i < 12 → sI a (tk 2 i) 11 = mProm M (nI i) (nO M) := h.2.2.2.2.2.2.2.2.2.2.2.2.2.2.2.2.2.2.2.2.2.2.2.2.2.2.2.2.2.2.2.2.2.2.2.2.2.2.2.2.2.2.2.1
theorem r_k12 {a : Sg} {M : MS} (h : Rel a M) : ∀ i, i < 12 → sI a (tk 2 i) 12 = 0 := h.2.2.2.2.2.2.2.2.2.2.2.2.2.2.2.2.2.2.2.2.2.2.2.2.2.2.2.2.2.2.2.2.2.2.2.2.2.2.2.2.2.2.2.2.1
theorem r_ks {a : Sg} {M : MS} (h : Rel a M) : ∀ i, i < 12 → (gI M 0 i = 0 ∨ gI M 0 i = 1 ∨ gI M 0 i = 2) ∧ (gI M 0 i = 2 ↔ 0 < nOp M i) ∧ (gI M 0 i = 1 → nLn M i = 0 ∧ nOp M i = 0) := h.2.2.2.2.2.2.2.2.2.2.2.2.2.2.2.2.2.2.2.2.2.2.2.2.2.2.2.2.2.2.2.2.2.2.2.2.2.2.2.2.2.2.2.2.2.1
theorem r_kw {a : Sg} {M : MS} (h : Rel a M) : ∀ i, i < 12 → b01 (gI M 113 i) := h.2.2.2.2.2.2.2.2.2.2.2.2.2.2.2.2.2.2.2.2.2.2.2.2.2.2.2.2.2.2.2.2.2.2.2.2.2.2.2.2.2.2.2.2.2.2.1
theorem r_kl {a : Sg} {M : MS} (h : Rel a M) : ∀ i, i < 12 → gI M 3 i = nI (nLn M i) ∧ nLn M i ≤ 3 := h.2.2.2.2.2.2.2.2.2.2.2.2.2.2.2.2.2.2.2.2.2.2.2.2.2.2.2.2.2.2.2.2.2.2.2.2.2.2.2.2.2.2.2.2.2.2.2.1
theorem r_ko {a : Sg} {M : MS} (h : Rel a M) : ∀ i, i < 12 → gI M 7 i = nI (nOp M i) ∧ nOp M i ≤ 4 := h.2.2.2.2.2.2.2.2.2.2.2.2.2.2.2.2.2.2.2.2.2.2.2.2.2.2.2.2.2.2.2.2.2.2.2.2.2.2.2.2.2.2.2.2.2.2.2.2.1
theorem r_kp {a : Sg} {M : MS} (h : Rel a M) : ∀ i, i < 12 → ∃ p h : Nat, gI M 1 i = nI p ∧ p ≤ 99 ∧ gI M 2 i = nI h ∧ h ≤ 30 := h.2.2.2.2.2.2.2.2.2.2.2.2.2.2.2.2.2.2.2.2.2.2.2.2.2.2.2.2.2.2.2.2.2.2.2.2.2.2.2.2.2.2.2.2.2.2.2.2.2.1
theorem r_l0 {a : Sg} {M : MS} (h : Rel a M) : ∀ i k, i < 12 → k < nLn M i → sP a (tk 16 i) k = some (tk 3 (3 * i + k)) := h.2.2.2.2.2.2.2.2.2.2.2.2.2.2.2.2.2.2.2.2.2.2.2.2.2.2.2.2.2.2.2.2.2.2.2.2.2.2.2.2.2.2.2.2.2.2.2.2.2.2.1
theorem r_l1 {a : Sg} {M : MS} (h : Rel a M) : ∀ i k, i < 12 → k < nLn M i → sP a (tk 3 (3 * i + k)) 0 = some (tk 2 (lnP M (3 * i + k))) := h.2.2.2.2.2.2.2.2.2.2.2.2.2.2.2.2.2.2.2.2.2.2.2.2.2.2.2.2.2.2.2.2.2.2.2.2.2.2.2.2.2.2.2.2.2.2.2.2.2.2.2.1
theorem r_l2 {a : Sg} {M : MS} (h : Rel a M) : ∀ i k, i < 12 → k < nLn M i → sI a (tk 3 (3 * i + k)) 1 = gI M 5 (3 * i + k) := h.2.2.2.2.2.2.2.2.2.2.2.2.2.2.2.2.2.2.2.2.2.2.2.2.2.2.2.2.2.2.2.2.2.2.2.2.2.2.2.2.2.2.2.2.2.2.2.2.2.2.2.2.1
theorem r_l3 {a : Sg} {M : MS} (h : Rel a M) : ∀ i k, i < 12 → k < nLn M i → sP a (tk 3 (3 * i + k)) 2 = kp (gI M 6 (3 * i + k)) := h.2.2.2.2.2.2.2.2.2.2.2.2.2.2.2.2.2.2.2.2.2.2.2.2.2.2.2.2.2.2.2.2.2.2.2.2.2.2.2.2.2.2.2.2.2.2.2.2.2.2.2.2.2.1
theorem r_lm {a : Sg} {M : MS} (h : Rel a M) : ∀ i k, i < 12 → k < nLn M i → gI M 4 (3 * i + k) = nI (lnP M (3 * i + k)) ∧ lnP M (3 * i + k) < i ∧ (∃ q : Nat, gI M 5 (3 * i + k) = nI q ∧ 1 ≤ q ∧ q ≤ 3) ∧ (gI M 6 (3 * i + k) = -1 ∨ ∃ q : Nat, gI M 6 (3 * i + k) = nI q ∧ q < i ∧ q ≠ lnP M (3 * i + k)) := h.2.2.2.2.2.2.2.2.2.2.2.2.2.2.2.2.2.2.2.2.2.2.2.2.2.2.2.2.2.2.2.2.2.2.2.2.2.2.2.2.2.2.2.2.2.2.2.2.2.2.2.2.2.2.1
theorem r_o0 {a : Sg} {M : MS} (h : Rel a M) : ∀ i k, i < 12 → k < nOp M i → sP a (tk 18 i) k = some (tk 5 (4 * i + k)) := h.2.2.2.2.2.2.2.2.2.2.2.2.2.2.2.2.2.2.2.2.2.2.2.2.2.2.2.2.2.2.2.2.2.2.2.2.2.2.2.2.2.2.2.2.2.2.2.2.2.2.2.2.2.2.2.1
theorem r_o1 {a : Sg} {M : MS} (h : Rel a M) : ∀ i k, i < 12 → k < nOp M i → sI a (tk 5 (4 * i + k)) 0 = gI M 8 (4 * i + k) := h.2.2.2.2.2.2.2.2.2.2.2.2.2.2.2.2.2.2.2.2.2.2.2.2.2.2.2.2.2.2.2.2.2.2.2.2.2.2.2.2.2.2.2.2.2.2.2.2.2.2.2.2.2.2.2.2.1
theorem r_o2 {a : Sg} {M : MS} (h : Rel a M) : ∀ i k, i < 12 → k < nOp M i → sI a (tk 5 (4 * i + k)) 1 = gI M 9 (4 * i + k) := h.2.2.2.2.2.2.2.2.2.2.2.2.2.2.2.2.2.2.2.2.2.2.2.2.2.2.2.2.2.2.2.2.2.2.2.2.2.2.2.2.2.2.2.2.2.2.2.2.2.2.2.2.2.2.2.2.2.1
theorem r_o3 {a : Sg} {M : MS} (h : Rel a M) : ∀ i k, i < 12 → k < nOp M i → sI a (tk 5 (4 * i + k)) 2 = gI M 10 (4 * i + k) := h.2.2.2.2.2.2.2.2.2.2.2.2.2.2.2.2.2.2.2.2.2.2.2.2.2.2.2.2.2.2.2.2.2.2.2.2.2.2.2.2.2.2.2.2.2.2.2.2.2.2.2.2.2.2.2.2.2.2.1
theorem r_om {a : Sg} {M : MS} (h : Rel a M) : ∀ i k, i < 12 → k < nOp M i → ∃ w s h : Nat, gI M 8 (4 * i + k) = nI w ∧ w < 4 ∧ gI M 9 (4 * i + k) = nI s ∧ s < 4 ∧ gI M 10 (4 * i + k) = nI h ∧ 1 ≤ h ∧ h ≤ 9 := h.2.2.2.2.2.2.2.2.2.2.2.2.2.2.2.2.2.2.2.2.2.2.2.2.2.2.2.2.2.2.2.2.2.2.2.2.2.2.2.2.2.2.2.2.2.2.2.2.2.2.2.2.2.2.2.2.2.2.2.1
theorem r_b0 {a : Sg} {M : MS} (h : Rel a M) : ∀ j, j < nB M → sP a (tk 14 0) j = some (tk 0 j) := h.2.2.2.2.2.2.2.2.2.2.2.2.2.2.2.2.2.2.2.2.2.2.2.2.2.2.2.2.2.2.2.2.2.2.2.2.2.2.2.2.2.2.2.2.2.2.2.2.2.2.2.2.2.2.2.2.2.2.2.2.1
theorem r_bn {a : Sg} {M : MS} (h : Rel a M) : ∀ j, j < nB M → sI a (tk 0 j) 0 = nI j := h.2.2.2.2.2.2.2.2.2.2.2.2.2.2.2.2.2.2.2.2.2.2.2.2.2.2.2.2.2.2.2.2.2.2.2.2.2.2.2.2.2.2.2.2.2.2.2.2.2.2.2.2.2.2.2.2.2.2.2.2.2.1
theorem r_bk {a : Sg} {M : MS} (h : Rel a M) : ∀ j, j < nB M → sP a (tk 0 j) 1 = some (tk 2 (kd M j)) := h.2.2.2.2.2.2.2.2.2.2.2.2.2.2.2.2.2.2.2.2.2.2.2.2.2.2.2.2.2.2.2.2.2.2.2.2.2.2.2.2.2.2.2.2.2.2.2.2.2.2.2.2.2.2.2.2.2.2.2.2.2.2.1
theorem r_b2 {a : Sg} {M : MS} (h : Rel a M) : ∀ j, j < nB M → sI a (tk 0 j) 2 = gI M 16 j := h.2.2.2.2.2.2.2.2.2.2.2.2.2.2.2.2.2.2.2.2.2.2.2.2.2.2.2.2.2.2.2.2.2.2.2.2.2.2.2.2.2.2.2.2.2.2.2.2.2.2.2.2.2.2.2.2.2.2.2.2.2.2.2.1
theorem r_b3 {a : Sg} {M : MS} (h : Rel a M) : ∀ j, j < nB M → sI a (tk 0 j) 3 = gI M 17 j := h.2.2.2.2.2.2.2.2.2.2.2.2.2.2.2.2.2.2.2.2.2.2.2.2.2.2.2.2.2.2.2.2.2.2.2.2.2.2.2.2.2.2.2.2.2.2.2.2.2.2.2.2.2.2.2.2.2.2.2.2.2.2.2.2.1
theorem r_b4 {a : Sg} {M : MS} (h : Rel a M) : ∀ j, j < nB M → sI a (tk 0 j) 4 = gI M 18 j := h.2.2.2.2.2.2.2.2.2.2.2.2.2.2.2.2.2.2.2.2.2.2.2.2.2.2.2.2.2.2.2.2.2.2.2.2.2.2.2.2.2.2.2.2.2.2.2.2.2.2.2.2.2.2.2.2.2.2.2.2.2.2.2.2.2.1
theorem r_b5 {a : Sg} {M : MS} (h : Rel a M) : ∀ j, j < nB M → sI a (tk 0 j) 5 = gI M 19 j := h.2.2.2.2.2.2.2.2.2.2.2.2.2.2.2.2.2.2.2.2.2.2.2.2.2.2.2.2.2.2.2.2.2.2.2.2.2.2.2.2.2.2.2.2.2.2.2.2.2.2.2.2.2.2.2.2.2.2.2.2.2.2.2.2.2.2.1
theorem r_b6 {a : Sg} {M : MS} (h : Rel a M) : ∀ j, j < nB M → sI a (tk 0 j) 6 = gI M 20 j := h.2.2.2.2.2.2.2.2.2.2.2.2.2.2.2.2.2.2.2.2.2.2.2.2.2.2.2.2.2.2.2.2.2.2.2.2.2.2.2.2.2.2.2.2.2.2.2.2.2.2.2.2.2.2.2.2.2.2.2.2.2.2.2.2.2.2.2.1
theorem r_b7 {a : Sg} {M : MS} (h : Rel a M) : ∀ j, j < nB M → sI a (tk 0 j) 7 = gI M 121 j := h.2.2.2.2.2.2.2.2.2.2.2.2.2.2.2.2.2.2.2.2.2.2.2.2.2.2.2.2.2.2.2.2.2.2.2.2.2.2.2.2.2.2.2.2.2.2.2.2.2.2.2.2.2.2.2.2.2.2.2.2.2.2.2.2.2.2.2.2.1
theorem r_b8 {a : Sg} {M : MS} (h : Rel a M) : ∀ j, j < nB M → sI a (tk 0 j) 8 = gI M 122 j := h.2.2.2.2.2.2.2.2.2.2.2.2.2.2.2.2.2.2.2.2.2.2.2.2.2.2.2.2.2.2.2.2.2.2.2.2.2.2.2.2.2.2.2.2.2.2.2.2.2.2.2.2.2.2.2.2.2.2.2.2.2.2.2.2.2.2.2.2.2.1
theorem r_b9 {a : Sg} {M : MS} (h : Rel a M) : ∀ j, j < nB M → sI a (tk 0 j) 9 = gI M 25 j := h.2.2.2.2.2.2.2.2.2.2.2.2.2.2.2.2.2.2.2.2.2.2.2.2.2.2.2.2.2.2.2.2.2.2.2.2.2.2.2.2.2.2.2.2.2.2.2.2.2.2.2.2.2.2.2.2.2.2.2.2.2.2.2.2.2.2.2.2.2.2.1
theorem r_b10 {a : Sg} {M : MS} (h : Rel a M) : ∀ j, j < nB M → sI a (tk 0 j) 10 = gI M 23 j := h.2.2.2.2.2.2.2.2.2.2.2.2.2.2.2.2.2.2.2.2.2.2.2.2.2.2.2.2.2.2.2.2.2.2.2.2.2.2.2.2.2.2.2.2.2.2.2.2.2.2.2.2.2.2.2.2.2.2.2.2.2.2.2.2.2.2.2.2.2.2.2.1
theorem r_b11 {a : Sg} {M : MS} (h : Rel a M) : ∀ j, j < nB M → sL a (tk 0 j) 11 = gL M j := h.2.2.2.2.2.2.2.2.2.2.2.2.2.2.2.2.2.2.2.2.2.2.2.2.2.2.2.2.2.2.2.2.2.2.2.2.2.2.2.2.2.2.2.2.2.2.2.2.2.2.2.2.2.2.2.2.2.2.2.2.2.2.2.2.2.2.2.2.2.2.2.2.1
theorem r_bm {a : Sg} {M : MS} (h : Rel a M) : ∀ j, j < nB M → gI M 15 j = nI (kd M j) ∧ kd M j < 12 ∧ gI M 16 j = nI (pc M j) ∧ pc M j ≤ 1200 ∧ gI M 19 j = nI (op M j) ∧ op M j ≤ 4 ∧ (gI M 18 j = 1 ∨ gI M 18 j = 2 → op M j < nOp M (kd M j)) ∧ (gI M 18 j = 4 ↔ pc M j = 0) ∧ b01 (gI M 121 j) ∧ b01 (gI M 122 j) ∧ 0 ≤ (gI M 17 j).toInt ∧ (∃ s : Nat, gI M 18 j = nI s ∧ s ≤ 6) ∧ (gI M 113 (kd M j) = 1) := h.2.2.2.2.2.2.2.2.2.2.2.2.2.2.2.2.2.2.2.2.2.2.2.2.2.2.2.2.2.2.2.2.2.2.2.2.2.2.2.2.2.2.2.2.2.2.2.2.2.2.2.2.2.2.2.2.2.2.2.2.2.2.2.2.2.2.2.2.2.2.2.2.2.1
theorem r_bp {a : Sg} {M : MS} (h : Rel a M) : ∀ j b, j < nB M → nB M ≤ b → b < 64 → (gL M j).toBitVec.getLsbD b = false := h.2.2.2.2.2.2.2.2.2.2.2.2.2.2.2.2.2.2.2.2.2.2.2.2.2.2.2.2.2.2.2.2.2.2.2.2.2.2.2.2.2.2.2.2.2.2.2.2.2.2.2.2.2.2.2.2.2.2.2.2.2.2.2.2.2.2.2.2.2.2.2.2.2.2.1
theorem r_bc {a : Sg} {M : MS} (h : Rel a M) : tot M (nB M) ≤ 1980 * nB M + 108 * hN M := h.2.2.2.2.2.2.2.2.2.2.2.2.2.2.2.2.2.2.2.2.2.2.2.2.2.2.2.2.2.2.2.2.2.2.2.2.2.2.2.2.2.2.2.2.2.2.2.2.2.2.2.2.2.2.2.2.2.2.2.2.2.2.2.2.2.2.2.2.2.2.2.2.2.2.2.1
theorem r_fB {a : Sg} {M : MS} (h : Rel a M) : ∀ j, nB M ≤ j → j < 60 → sX a (tk 0 j) = false := h.2.2.2.2.2.2.2.2.2.2.2.2.2.2.2.2.2.2.2.2.2.2.2.2.2.2.2.2.2.2.2.2.2.2.2.2.2.2.2.2.2.2.2.2.2.2.2.2.2.2.2.2.2.2.2.2.2.2.2.2.2.2.2.2.2.2.2.2.2.2.2.2.2.2.2.2.1
theorem r_fL {a : Sg} {M : MS} (h : Rel a M) : ∀ i k, i < 12 → k < 3 → nLn M i ≤ k → sX a (tk 3 (3 * i + k)) = false := h.2.2.2.2.2.2.2.2.2.2.2.2.2.2.2.2.2.2.2.2.2.2.2.2.2.2.2.2.2.2.2.2.2.2.2.2.2.2.2.2.2.2.2.2.2.2.2.2.2.2.2.2.2.2.2.2.2.2.2.2.2.2.2.2.2.2.2.2.2.2.2.2.2.2.2.2.2.1
theorem r_fO {a : Sg} {M : MS} (h : Rel a M) : ∀ i k, i < 12 → k < 4 → nOp M i ≤ k → sX a (tk 5 (4 * i + k)) = false := h.2.2.2.2.2.2.2.2.2.2.2.2.2.2.2.2.2.2.2.2.2.2.2.2.2.2.2.2.2.2.2.2.2.2.2.2.2.2.2.2.2.2.2.2.2.2.2.2.2.2.2.2.2.2.2.2.2.2.2.2.2.2.2.2.2.2.2.2.2.2.2.2.2.2.2.2.2.2.1
theorem r_fM {a : Sg} {M : MS} (h : Rel a M) : ∀ m, nM M ≤ m → m < 6 → sX a (tk 4 m) = false := h.2.2.2.2.2.2.2.2.2.2.2.2.2.2.2.2.2.2.2.2.2.2.2.2.2.2.2.2.2.2.2.2.2.2.2.2.2.2.2.2.2.2.2.2.2.2.2.2.2.2.2.2.2.2.2.2.2.2.2.2.2.2.2.2.2.2.2.2.2.2.2.2.2.2.2.2.2.2.2.1
theorem r_fP {a : Sg} {M : MS} (h : Rel a M) : ∀ p, nP M ≤ p → p < 6 → sX a (tk 7 p) = false ∧ sX a (tk 21 p) = false ∧ sX a (tk 22 p) = false := h.2.2.2.2.2.2.2.2.2.2.2.2.2.2.2.2.2.2.2.2.2.2.2.2.2.2.2.2.2.2.2.2.2.2.2.2.2.2.2.2.2.2.2.2.2.2.2.2.2.2.2.2.2.2.2.2.2.2.2.2.2.2.2.2.2.2.2.2.2.2.2.2.2.2.2.2.2.2.2.2.1
theorem r_fR {a : Sg} {M : MS} (h : Rel a M) : ∀ r, nO M ≤ r → r < 10 → sX a (tk 6 r) = false := h.2.2.2.2.2.2.2.2.2.2.2.2.2.2.2.2.2.2.2.2.2.2.2.2.2.2.2.2.2.2.2.2.2.2.2.2.2.2.2.2.2.2.2.2.2.2.2.2.2.2.2.2.2.2.2.2.2.2.2.2.2.2.2.2.2.2.2.2.2.2.2.2.2.2.2.2.2.2.2.2.2.1
theorem r_fG {a : Sg} {M : MS} (h : Rel a M) : ∃ N, 64 ≤ N ∧ ∀ c i, N ≤ i → sX a (tk c i) = false := h.2.2.2.2.2.2.2.2.2.2.2.2.2.2.2.2.2.2.2.2.2.2.2.2.2.2.2.2.2.2.2.2.2.2.2.2.2.2.2.2.2.2.2.2.2.2.2.2.2.2.2.2.2.2.2.2.2.2.2.2.2.2.2.2.2.2.2.2.2.2.2.2.2.2.2.2.2.2.2.2.2.2.1
theorem r_m0 {a : Sg} {M : MS} (h : Rel a M) : ∀ m, m < nM M → sP a (tk 17 0) m = some (tk 4 m) := h.2.2.2.2.2.2.2.2.2.2.2.2.2.2.2.2.2.2.2.2.2.2.2.2.2.2.2.2.2.2.2.2.2.2.2.2.2.2.2.2.2.2.2.2.2.2.2.2.2.2.2.2.2.2.2.2.2.2.2.2.2.2.2.2.2.2.2.2.2.2.2.2.2.2.2.2.2.2.2.2.2.2.2.1
theorem r_mn {a : Sg} {M : MS} (h : Rel a M) : ∀ m, m < nM M → sI a (tk 4 m) 0 = nI m := h.2.2.2.2.2.2.2.2.2.2.2.2.2.2.2.2.2.2.2.2.2.2.2.2.2.2.2.2.2.2.2.2.2.2.2.2.2.2.2.2.2.2.2.2.2.2.2.2.2.2.2.2.2.2.2.2.2.2.2.2.2.2.2.2.2.2.2.2.2.2.2.2.2.2.2.2.2.2.2.2.2.2.2.2.1
theorem r_m1 {a : Sg} {M : MS} (h : Rel a M) : ∀ m, m < nM M → sI a (tk 4 m) 1 = gI M 28 m := h.2.2.2.2.2.2.2.2.2.2.2.2.2.2.2.2.2.2.2.2.2.2.2.2.2.2.2.2.2.2.2.2.2.2.2.2.2.2.2.2.2.2.2.2.2.2.2.2.2.2.2.2.2.2.2.2.2.2.2.2.2.2.2.2.2.2.2.2.2.2.2.2.2.2.2.2.2.2.2.2.2.2.2.2.2.1
theorem r_m2 {a : Sg} {M : MS} (h : Rel a M) : ∀ m, m < nM M → sI a (tk 4 m) 2 = gI M 29 m := h.2.2.2.2.2.2.2.2.2.2.2.2.2.2.2.2.2.2.2.2.2.2.2.2.2.2.2.2.2.2.2.2.2.2.2.2.2.2.2.2.2.2.2.2.2.2.2.2.2.2.2.2.2.2.2.2.2.2.2.2.2.2.2.2.2.2.2.2.2.2.2.2.2.2.2.2.2.2.2.2.2.2.2.2.2.2.1
theorem r_m3 {a : Sg} {M : MS} (h : Rel a M) : ∀ m, m < nM M → sI a (tk 4 m) 3 = gI M 30 m := h.2.2.2.2.2.2.2.2.2.2.2.2.2.2.2.2.2.2.2.2.2.2.2.2.2.2.2.2.2.2.2.2.2.2.2.2.2.2.2.2.2.2.2.2.2.2.2.2.2.2.2.2.2.2.2.2.2.2.2.2.2.2.2.2.2.2.2.2.2.2.2.2.2.2.2.2.2.2.2.2.2.2.2.2.2.2.2.1
theorem r_m4 {a : Sg} {M : MS} (h : Rel a M) : ∀ m, m < nM M → sI a (tk 4 m) 4 = gI M 31 m := h.2.2.2.2.2.2.2.2.2.2.2.2.2.2.2.2.2.2.2.2.2.2.2.2.2.2.2.2.2.2.2.2.2.2.2.2.2.2.2.2.2.2.2.2.2.2.2.2.2.2.2.2.2.2.2.2.2.2.2.2.2.2.2.2.2.2.2.2.2.2.2.2.2.2.2.2.2.2.2.2.2.2.2.2.2.2.2.2.1
theorem r_m5 {a : Sg} {M : MS} (h : Rel a M) : ∀ m, m < nM M → sI a (tk 4 m) 5 = gI M 32 m := h.2.2.2.2.2.2.2.2.2.2.2.2.2.2.2.2.2.2.2.2.2.2.2.2.2.2.2.2.2.2.2.2.2.2.2.2.2.2.2.2.2.2.2.2.2.2.2.2.2.2.2.2.2.2.2.2.2.2.2.2.2.2.2.2.2.2.2.2.2.2.2.2.2.2.2.2.2.2.2.2.2.2.2.2.2.2.2.2.2.1
theorem r_m9 {a : Sg} {M : MS} (h : Rel a M) : ∀ m, m < nM M → sI a (tk 4 m) 9 = gI M 35 m := h.2.2.2.2.2.2.2.2.2.2.2.2.2.2.2.2.2.2.2.2.2.2.2.2.2.2.2.2.2.2.2.2.2.2.2.2.2.2.2.2.2.2.2.2.2.2.2.2.2.2.2.2.2.2.2.2.2.2.2.2.2.2.2.2.2.2.2.2.2.2.2.2.2.2.2.2.2.2.2.2.2.2.2.2.2.2.2.2.2.2.1
theorem r_m11 {a : Sg} {M : MS} (h : Rel a M) : ∀ m, m < nM M → sI a (tk 4 m) 11 = gI M 37 m := h.2.2.2.2.2.2.2.2.2.2.2.2.2.2.2.2.2.2.2.2.2.2.2.2.2.2.2.2.2.2.2.2.2.2.2.2.2.2.2.2.2.2.2.2.2.2.2.2.2.2.2.2.2.2.2.2.2.2.2.2.2.2.2.2.2.2.2.2.2.2.2.2.2.2.2.2.2.2.2.2.2.2.2.2.2.2.2.2.2.2.2.1
theorem r_m13 {a : Sg} {M : MS} (h : Rel a M) : ∀ m, m < nM M → sI a (tk 4 m) 13 = gI M 39 m := h.2.2.2.2.2.2.2.2.2.2.2.2.2.2.2.2.2.2.2.2.2.2.2.2.2.2.2.2.2.2.2.2.2.2.2.2.2.2.2.2.2.2.2.2.2.2.2.2.2.2.2.2.2.2.2.2.2.2.2.2.2.2.2.2.2.2.2.2.2.2.2.2.2.2.2.2.2.2.2.2.2.2.2.2.2.2.2.2.2.2.2.2.1
theorem r_m14 {a : Sg} {M : MS} (h : Rel a M) : ∀ m, m < nM M → sI a (tk 4 m) 14 = gI M 40 m := h.2.2.2.2.2.2.2.2.2.2.2.2.2.2.2.2.2.2.2.2.2.2.2.2.2.2.2.2.2.2.2.2.2.2.2.2.2.2.2.2.2.2.2.2.2.2.2.2.2.2.2.2.2.2.2.2.2.2.2.2.2.2.2.2.2.2.2.2.2.2.2.2.2.2.2.2.2.2.2.2.2.2.2.2.2.2.2.2.2.2.2.2.2.1
theorem r_m6 {a : Sg} {M : MS} (h : Rel a M) : ∀ m, m < nM M → sP a (tk 4 m) 6 = kp (gI M 33 m) := h.2.2.2.2.2.2.2.2.2.2.2.2.2.2.2.2.2.2.2.2.2.2.2.2.2.2.2.2.2.2.2.2.2.2.2.2.2.2.2.2.2.2.2.2.2.2.2.2.2.2.2.2.2.2.2.2.2.2.2.2.2.2.2.2.2.2.2.2.2.2.2.2.2.2.2.2.2.2.2.2.2.2.2.2.2.2.2.2.2.2.2.2.2.2.1
theorem r_m7 {a : Sg} {M : MS} (h : Rel a M) : ∀ m, m < nM M → sP a (tk 4 m) 7 = tp 0 (gI M 34 m) := h.2.2.2.2.2.2.2.2.2.2.2.2.2.2.2.2.2.2.2.2.2.2.2.2.2.2.2.2.2.2.2.2.2.2.2.2.2.2.2.2.2.2.2.2.2.2.2.2.2.2.2.2.2.2.2.2.2.2.2.2.2.2.2.2.2.2.2.2.2.2.2.2.2.2.2.2.2.2.2.2.2.2.2.2.2.2.2.2.2.2.2.2.2.2.2.1
theorem r_m8 {a : Sg} {M : MS} (h : Rel a M) : ∀ m, m < nM M → sP a (tk 4 m) 8 = tp 7 (gI M 36 m) := h.2.2.2.2.2.2.2.2.2.2.2.2.2.2.2.2.2.2.2.2.2.2.2.2.2.2.2.2.2.2.2.2.2.2.2.2.2.2.2.2.2.2.2.2.2.2.2.2.2.2.2.2.2.2.2.2.2.2.2.2.2.2.2.2.2.2.2.2.2.2.2.2.2.2.2.2.2.2.2.2.2.2.2.2.2.2.2.2.2.2.2.2.2.2.2.2.1
theorem r_m12 {a : Sg} {M : MS} (h : Rel a M) : ∀ m, m < nM M → sP a (tk 4 m) 12 = kp (gI M 38 m) := h.2.2.2.2.2.2.2.2.2.2.2.2.2.2.2.2.2.2.2.2.2.2.2.2.2.2.2.2.2.2.2.2.2.2.2.2.2.2.2.2.2.2.2.2.2.2.2.2.2.2.2.2.2.2.2.2.2.2.2.2.2.2.2.2.2.2.2.2.2.2.2.2.2.2.2.2.2.2.2.2.2.2.2.2.2.2.2.2.2.2.2.2.2.2.2.2.2.1
theorem r_m10 {a : Sg} {M : MS} (h : Rel a M) : ∀ m j, m < nM M → j < nB M → gI M 34 m = nI j → sI a (tk 4 m) 10 = gI M 124 j := h.2.2.2.2.2.2.2.2.2.2.2.2.2.2.2.2.2.2.2.2.2.2.2.2.2.2.2.2.2.2.2.2.2.2.2.2.2.2.2.2.2.2.2.2.2.2.2.2.2.2.2.2.2.2.2.2.2.2.2.2.2.2.2.2.2.2.2.2.2.2.2.2.2.2.2.2.2.2.2.2.2.2.2.2.2.2.2.2.2.2.2.2.2.2.2.2.2.2.1
theorem r_mm {a : Sg} {M : MS} (h : Rel a M) : ∀ m, m < nM M → (gI M 33 m = -1 ∨ ∃ q : Nat, gI M 33 m = nI q ∧ q < 12) ∧ (gI M 34 m = -1 ∧ gI M 36 m = -1 ∧ gI M 35 m = 0 ∨ ∃ j p : Nat, gI M 34 m = nI j ∧ j < nB M ∧ gI M 18 j = 2 ∧ gI M 36 m = nI p ∧ p < nP M) ∧ (gI M 38 m = -1 ∨ ∃ q : Nat, gI M 38 m = nI q ∧ q < 12) := h.2.2.2.2.2.2.2.2.2.2.2.2.2.2.2.2.2.2.2.2.2.2.2.2.2.2.2.2.2.2.2.2.2.2.2.2.2.2.2.2.2.2.2.2.2.2.2.2.2.2.2.2.2.2.2.2.2.2.2.2.2.2.2.2.2.2.2.2.2.2.2.2.2.2.2.2.2.2.2.2.2.2.2.2.2.2.2.2.2.2.2.2.2.2.2.2.2.2.2.1
theorem r_mr {a : Sg} {M : MS} (h : Rel a M) : ∀ m, m < nM M → ∃ s c l r f w n q : Nat, gI M 29 m = nI s ∧ s ≤ 5 ∧ gI M 30 m = nI c ∧ c ≤ 9 ∧ gI M 31 m = nI l ∧ 1 ≤ l ∧ l ≤ 50 ∧ gI M 32 m = nI r ∧ 1 ≤ r ∧ r ≤ 9 ∧ gI M 35 m = nI f ∧ f ≤ 15 ∧ gI M 37 m = nI w ∧ w ≤ hN M ∧ gI M 39 m = nI n ∧ n ≤ 2 ∧ gI M 40 m = nI q ∧ q ≤ 9 ∧ (n = 2 → 1 ≤ q) := h.2.2.2.2.2.2.2.2.2.2.2.2.2.2.2.2.2.2.2.2.2.2.2.2.2.2.2.2.2.2.2.2.2.2.2.2.2.2.2.2.2.2.2.2.2.2.2.2.2.2.2.2.2.2.2.2.2.2.2.2.2.2.2.2.2.2.2.2.2.2.2.2.2.2.2.2.2.2.2.2.2.2.2.2.2.2.2.2.2.2.2.2.2.2.2.2.2.2.2.2.1
theorem r_md {a : Sg} {M : MS} (h : Rel a M) : ∀ m n, m < nM M → n < nM M → m ≠ n → gI M 34 m = gI M 34 n → gI M 34 m = -1 := h.2.2.2.2.2.2.2.2.2.2.2.2.2.2.2.2.2.2.2.2.2.2.2.2.2.2.2.2.2.2.2.2.2.2.2.2.2.2.2.2.2.2.2.2.2.2.2.2.2.2.2.2.2.2.2.2.2.2.2.2.2.2.2.2.2.2.2.2.2.2.2.2.2.2.2.2.2.2.2.2.2.2.2.2.2.2.2.2.2.2.2.2.2.2.2.2.2.2.2.2.2.1
theorem r_mw {a : Sg} {M : MS} (h : Rel a M) : ∀ m n, m < nM M → n < nM M → m ≠ n → gI M 36 m = gI M 36 n → gI M 36 m = -1 := h.2.2.2.2.2.2.2.2.2.2.2.2.2.2.2.2.2.2.2.2.2.2.2.2.2.2.2.2.2.2.2.2.2.2.2.2.2.2.2.2.2.2.2.2.2.2.2.2.2.2.2.2.2.2.2.2.2.2.2.2.2.2.2.2.2.2.2.2.2.2.2.2.2.2.2.2.2.2.2.2.2.2.2.2.2.2.2.2.2.2.2.2.2.2.2.2.2.2.2.2.2.2.1
theorem r_q0 {a : Sg} {M : MS} (h : Rel a M) : ∀ p, p < nP M → sP a (tk 20 0) p = some (tk 7 p) := h.2.2.2.2.2.2.2.2.2.2.2.2.2.2.2.2.2.2.2.2.2.2.2.2.2.2.2.2.2.2.2.2.2.2.2.2.2.2.2.2.2.2.2.2.2.2.2.2.2.2.2.2.2.2.2.2.2.2.2.2.2.2.2.2.2.2.2.2.2.2.2.2.2.2.2.2.2.2.2.2.2.2.2.2.2.2.2.2.2.2.2.2.2.2.2.2.2.2.2.2.2.2.2.1
theorem r_qn {a : Sg} {M : MS} (h : Rel a M) : ∀ p, p < nP M → sI a (tk 7 p) 0 = nI p := h.2.2.2.2.2.2.2.2.2.2.2.2.2.2.2.2.2.2.2.2.2.2.2.2.2.2.2.2.2.2.2.2.2.2.2.2.2.2.2.2.2.2.2.2.2.2.2.2.2.2.2.2.2.2.2.2.2.2.2.2.2.2.2.2.2.2.2.2.2.2.2.2.2.2.2.2.2.2.2.2.2.2.2.2.2.2.2.2.2.2.2.2.2.2.2.2.2.2.2.2.2.2.2.2.1
theorem r_q1 {a : Sg} {M : MS} (h : Rel a M) : ∀ p, p < nP M → sI a (tk 7 p) 1 = gI M 42 p := h.2.2.2.2.2.2.2.2.2.2.2.2.2.2.2.2.2.2.2.2.2.2.2.2.2.2.2.2.2.2.2.2.2.2.2.2.2.2.2.2.2.2.2.2.2.2.2.2.2.2.2.2.2.2.2.2.2.2.2.2.2.2.2.2.2.2.2.2.2.2.2.2.2.2.2.2.2.2.2.2.2.2.2.2.2.2.2.2.2.2.2.2.2.2.2.2.2.2.2.2.2.2.2.2.2.1
theorem r_q2 {a : Sg} {M : MS} (h : Rel a M) : ∀ p, p < nP M → sI a (tk 7 p) 2 = gI M 43 p := h.2.2.2.2.2.2.2.2.2.2.2.2.2.2.2.2.2.2.2.2.2.2.2.2.2.2.2.2.2.2.2.2.2.2.2.2.2.2.2.2.2.2.2.2.2.2.2.2.2.2.2.2.2.2.2.2.2.2.2.2.2.2.2.2.2.2.2.2.2.2.2.2.2.2.2.2.2.2.2.2.2.2.2.2.2.2.2.2.2.2.2.2.2.2.2.2.2.2.2.2.2.2.2.2.2.2.1
theorem r_q3 {a : Sg} {M : MS} (h : Rel a M) : ∀ p, p < nP M → sI a (tk 7 p) 3 = gI M 44 p := h.2.2.2.2.2.2.2.2.2.2.2.2.2.2.2.2.2.2.2.2.2.2.2.2.2.2.2.2.2.2.2.2.2.2.2.2.2.2.2.2.2.2.2.2.2.2.2.2.2.2.2.2.2.2.2.2.2.2.2.2.2.2.2.2.2.2.2.2.2.2.2.2.2.2.2.2.2.2.2.2.2.2.2.2.2.2.2.2.2.2.2.2.2.2.2.2.2.2.2.2.2.2.2.2.2.2.2.1
theorem r_q4 {a : Sg} {M : MS} (h : Rel a M) : ∀ p, p < nP M → sP a (tk 7 p) 4 = some (tk 21 p) := h.2.2.2.2.2.2.2.2.2.2.2.2.2.2.2.2.2.2.2.2.2.2.2.2.2.2.2.2.2.2.2.2.2.2.2.2.2.2.2.2.2.2.2.2.2.2.2.2.2.2.2.2.2.2.2.2.2.2.2.2.2.2.2.2.2.2.2.2.2.2.2.2.2.2.2.2.2.2.2.2.2.2.2.2.2.2.2.2.2.2.2.2.2.2.2.2.2.2.2.2.2.2.2.2.2.2.2.2.1
theorem r_q5 {a : Sg} {M : MS} (h : Rel a M) : ∀ p, p < nP M → sP a (tk 7 p) 5 = some (tk 22 p) := h.2.2.2.2.2.2.2.2.2.2.2.2.2.2.2.2.2.2.2.2.2.2.2.2.2.2.2.2.2.2.2.2.2.2.2.2.2.2.2.2.2.2.2.2.2.2.2.2.2.2.2.2.2.2.2.2.2.2.2.2.2.2.2.2.2.2.2.2.2.2.2.2.2.2.2.2.2.2.2.2.2.2.2.2.2.2.2.2.2.2.2.2.2.2.2.2.2.2.2.2.2.2.2.2.2.2.2.2.2.1
theorem r_q6 {a : Sg} {M : MS} (h : Rel a M) : ∀ p, p < nP M → sI a (tk 7 p) 6 = fst (fun m => decide (gI M 36 m = nI p)) 0 (nM M) := h.2.2.2.2.2.2.2.2.2.2.2.2.2.2.2.2.2.2.2.2.2.2.2.2.2.2.2.2.2.2.2.2.2.2.2.2.2.2.2.2.2.2.2.2.2.2.2.2.2.2.2.2.2.2.2.2.2.2.2.2.2.2.2.2.2.2.2.2.2.2.2.2.2.2.2.2.2.2.2.2.2.2.2.2.2.2.2.2.2.2.2.2.2.2.2.2.2.2.2.2.2.2.2.2.2.2.2.2.2.2.1
theorem r_ql {a : Sg} {M : MS} (h : Rel a M) : ∀ p s, p < nP M → s < 4 → sI a (tk 21 p) s = gI M 45 (4 * p + s) := h.2.2.2.2.2.2.2.2.2.2.2.2.2.2.2.2.2.2.2.2.2.2.2.2.2.2.2.2.2.2.2.2.2.2.2.2.2.2.2.2.2.2.2.2.2.2.2.2.2.2.2.2.2.2.2.2.2.2.2.2.2.2.2.2.2.2.2.2.2.2.2.2.2.2.2.2.2.2.2.2.2.2.2.2.2.2.2.2.2.2.2.2.2.2.2.2.2.2.2.2.2.2.2.2.2.2.2.2.2.2.2.1
theorem r_qw {a : Sg} {M : MS} (h : Rel a M) : ∀ p s, p < nP M → s < 4 → gI M 45 (4 * p + s) < 3 → sI a (tk 22 p) s = gI M 46 (4 * p + s) := h.2.2.2.2.2.2.2.2.2.2.2.2.2.2.2.2.2.2.2.2.2.2.2.2.2.2.2.2.2.2.2.2.2.2.2.2.2.2.2.2.2.2.2.2.2.2.2.2.2.2.2.2.2.2.2.2.2.2.2.2.2.2.2.2.2.2.2.2.2.2.2.2.2.2.2.2.2.2.2.2.2.2.2.2.2.2.2.2.2.2.2.2.2.2.2.2.2.2.2.2.2.2.2.2.2.2.2.2.2.2.2.2.1
theorem r_qm {a : Sg} {M : MS} (h : Rel a M) : ∀ p, p < nP M → ∃ w b h : Nat, gI M 42 p = nI w ∧ w ≤ 9 ∧ gI M 43 p = nI b ∧ b ≤ 23 ∧ gI M 44 p = nI h ∧ 1 ≤ h ∧ h ≤ 24 := h.2.2.2.2.2.2.2.2.2.2.2.2.2.2.2.2.2.2.2.2.2.2.2.2.2.2.2.2.2.2.2.2.2.2.2.2.2.2.2.2.2.2.2.2.2.2.2.2.2.2.2.2.2.2.2.2.2.2.2.2.2.2.2.2.2.2.2.2.2.2.2.2.2.2.2.2.2.2.2.2.2.2.2.2.2.2.2.2.2.2.2.2.2.2.2.2.2.2.2.2.2.2.2.2.2.2.2.2.2.2.2.2.2.1
theorem r_qr {a : Sg} {M : MS} (h : Rel a M) : ∀ p s, p < nP M → s < 4 → ∃ l w : Nat, gI M 45 (4 * p + s) = nI l ∧ l ≤ 3 ∧ gI M 46 (4 * p + s) = nI w ∧ w ≤ 7 := h.2.2.2.2.2.2.2.2.2.2.2.2.2.2.2.2.2.2.2.2.2.2.2.2.2.2.2.2.2.2.2.2.2.2.2.2.2.2.2.2.2.2.2.2.2.2.2.2.2.2.2.2.2.2.2.2.2.2.2.2.2.2.2.2.2.2.2.2.2.2.2.2.2.2.2.2.2.2.2.2.2.2.2.2.2.2.2.2.2.2.2.2.2.2.2.2.2.2.2.2.2.2.2.2.2.2.2.2.2.2.2.2.2.2.1
theorem r_r0 {a : Sg} {M : MS} (h : Rel a M) : ∀ r, r < nO M → sP a (tk 19 0) r = some (tk 6 r) := h.2.2.2.2.2.2.2.2.2.2.2.2.2.2.2.2.2.2.2.2.2.2.2.2.2.2.2.2.2.2.2.2.2.2.2.2.2.2.2.2.2.2.2.2.2.2.2.2.2.2.2.2.2.2.2.2.2.2.2.2.2.2.2.2.2.2.2.2.2.2.2.2.2.2.2.2.2.2.2.2.2.2.2.2.2.2.2.2.2.2.2.2.2.2.2.2.2.2.2.2.2.2.2.2.2.2.2.2.2.2.2.2.2.2.2.1
theorem r_r1 {a : Sg} {M : MS} (h : Rel a M) : ∀ r, r < nO M → sP a (tk 6 r) 0 = kp (gI M 48 r) := h.2.2.2.2.2.2.2.2.2.2.2.2.2.2.2.2.2.2.2.2.2.2.2.2.2.2.2.2.2.2.2.2.2.2.2.2.2.2.2.2.2.2.2.2.2.2.2.2.2.2.2.2.2.2.2.2.2.2.2.2.2.2.2.2.2.2.2.2.2.2.2.2.2.2.2.2.2.2.2.2.2.2.2.2.2.2.2.2.2.2.2.2.2.2.2.2.2.2.2.2.2.2.2.2.2.2.2.2.2.2.2.2.2.2.2.2.1
theorem r_r2 {a : Sg} {M : MS} (h : Rel a M) : ∀ r, r < nO M → sI a (tk 6 r) 1 = gI M 49 r := h.2.2.2.2.2.2.2.2.2.2.2.2.2.2.2.2.2.2.2.2.2.2.2.2.2.2.2.2.2.2.2.2.2.2.2.2.2.2.2.2.2.2.2.2.2.2.2.2.2.2.2.2.2.2.2.2.2.2.2.2.2.2.2.2.2.2.2.2.2.2.2.2.2.2.2.2.2.2.2.2.2.2.2.2.2.2.2.2.2.2.2.2.2.2.2.2.2.2.2.2.2.2.2.2.2.2.2.2.2.2.2.2.2.2.2.2.2.1
theorem r_r3 {a : Sg} {M : MS} (h : Rel a M) : ∀ r, r < nO M → sI a (tk 6 r) 2 = gI M 50 r := h.2.2.2.2.2.2.2.2.2.2.2.2.2.2.2.2.2.2.2.2.2.2.2.2.2.2.2.2.2.2.2.2.2.2.2.2.2.2.2.2.2.2.2.2.2.2.2.2.2.2.2.2.2.2.2.2.2.2.2.2.2.2.2.2.2.2.2.2.2.2.2.2.2.2.2.2.2.2.2.2.2.2.2.2.2.2.2.2.2.2.2.2.2.2.2.2.2.2.2.2.2.2.2.2.2.2.2.2.2.2.2.2.2.2.2.2.2.2.1
theorem r_r4 {a : Sg} {M : MS} (h : Rel a M) : ∀ r, r < nO M → sI a (tk 6 r) 3 = gI M 51 r := h.2.2.2.2.2.2.2.2.2.2.2.2.2.2.2.2.2.2.2.2.2.2.2.2.2.2.2.2.2.2.2.2.2.2.2.2.2.2.2.2.2.2.2.2.2.2.2.2.2.2.2.2.2.2.2.2.2.2.2.2.2.2.2.2.2.2.2.2.2.2.2.2.2.2.2.2.2.2.2.2.2.2.2.2.2.2.2.2.2.2.2.2.2.2.2.2.2.2.2.2.2.2.2.2.2.2.2.2.2.2.2.2.2.2.2.2.2.2.2.1
theorem r_r5 {a : Sg} {M : MS} (h : Rel a M) : ∀ r, r < nO M → sP a (tk 6 r) 4 = tp 0 (gI M 52 r) := h.2.2.2.2.2.2.2.2.2.2.2.2.2.2.2.2.2.2.2.2.2.2.2.2.2.2.2.2.2.2.2.2.2.2.2.2.2.2.2.2.2.2.2.2.2.2.2.2.2.2.2.2.2.2.2.2.2.2.2.2.2.2.2.2.2.2.2.2.2.2.2.2.2.2.2.2.2.2.2.2.2.2.2.2.2.2.2.2.2.2.2.2.2.2.2.2.2.2.2.2.2.2.2.2.2.2.2.2.2.2.2.2.2.2.2.2.2.2.2.2.1
theorem r_r6 {a : Sg} {M : MS} (h : Rel a M) : ∀ r, r < nO M → gI M 52 r ≠ -1 → sI a (tk 6 r) 5 = gI M 53 r := h.2.2.2.2.2.2.2.2.2.2.2.2.2.2.2.2.2.2.2.2.2.2.2.2.2.2.2.2.2.2.2.2.2.2.2.2.2.2.2.2.2.2.2.2.2.2.2.2.2.2.2.2.2.2.2.2.2.2.2.2.2.2.2.2.2.2.2.2.2.2.2.2.2.2.2.2.2.2.2.2.2.2.2.2.2.2.2.2.2.2.2.2.2.2.2.2.2.2.2.2.2.2.2.2.2.2.2.2.2.2.2.2.2.2.2.2.2.2.2.2.2.1
theorem r_rm {a : Sg} {M : MS} (h : Rel a M) : ∀ r, r < nO M → ∃ k p d q : Nat, gI M 48 r = nI k ∧ k < 12 ∧ gI M 49 r = nI p ∧ 1 ≤ p ∧ p ≤ 20 ∧ gI M 50 r = nI d ∧ d ≤ 999 ∧ gI M 51 r = nI q ∧ q ≤ p ∧ (gI M 52 r = -1 ∨ ∃ j : Nat, gI M 52 r = nI j ∧ j < nB M) := h.2.2.2.2.2.2.2.2.2.2.2.2.2.2.2.2.2.2.2.2.2.2.2.2.2.2.2.2.2.2.2.2.2.2.2.2.2.2.2.2.2.2.2.2.2.2.2.2.2.2.2.2.2.2.2.2.2.2.2.2.2.2.2.2.2.2.2.2.2.2.2.2.2.2.2.2.2.2.2.2.2.2.2.2.2.2.2.2.2.2.2.2.2.2.2.2.2.2.2.2.2.2.2.2.2.2.2.2.2.2.2.2.2.2.2.2.2.2.2.2.2.2
theorem nB_u (M : MS) (s j : Nat) (v : Int32) (h : s ≠ 214) : nB (uI M s j v) = nB M := by unfold nB; rw [gI_uI, if_neg (fun e => h e.1.symm)]
theorem nB_l (M : MS) (j : Nat) (v : Int64) : nB (uL M j v) = nB M := rfl
theorem nM_u (M : MS) (s j : Nat) (v : Int32) (h : s ≠ 227) : nM (uI M s j v) = nM M := by unfold nM; rw [gI_uI, if_neg (fun e => h e.1.symm)]
theorem nM_l (M : MS) (j : Nat) (v : Int64) : nM (uL M j v) = nM M := rfl
theorem nP_u (M : MS) (s j : Nat) (v : Int32) (h : s ≠ 241) : nP (uI M s j v) = nP M := by unfold nP; rw [gI_uI, if_neg (fun e => h e.1.symm)]
theorem nP_l (M : MS) (j : Nat) (v : Int64) : nP (uL M j v) = nP M := rfl
theorem nO_u (M : MS) (s j : Nat) (v : Int32) (h : s ≠ 247) : nO (uI M s j v) = nO M := by unfold nO; rw [gI_uI, if_neg (fun e => h e.1.symm)]
theorem nO_l (M : MS) (j : Nat) (v : Int64) : nO (uL M j v) = nO M := rfl
theorem hN_u (M : MS) (s j : Nat) (v : Int32) (h : s ≠ 255) : hN (uI M s j v) = hN M := by unfold hN; rw [gI_uI, if_neg (fun e => h e.1.symm)]
theorem hN_l (M : MS) (j : Nat) (v : Int64) : hN (uL M j v) = hN M := rfl
theorem nLn_u (M : MS) (s j : Nat) (v : Int32) (i : Nat) (h : s ≠ 3) : nLn (uI M s j v) i = nLn M i := by unfold nLn; rw [gI_uI, if_neg (fun e => h e.1.symm)]
theorem nLn_l (M : MS) (j : Nat) (v : Int64) (i : Nat) : nLn (uL M j v) i = nLn M i := rfl
theorem nOp_u (M : MS) (s j : Nat) (v : Int32) (i : Nat) (h : s ≠ 7) : nOp (uI M s j v) i = nOp M i := by unfold nOp; rw [gI_uI, if_neg (fun e => h e.1.symm)]
theorem nOp_l (M : MS) (j : Nat) (v : Int64) (i : Nat) : nOp (uL M j v) i = nOp M i := rfl
theorem lnP_u (M : MS) (s j : Nat) (v : Int32) (i : Nat) (h : s ≠ 4) : lnP (uI M s j v) i = lnP M i := by unfold lnP; rw [gI_uI, if_neg (fun e => h e.1.symm)]
theorem lnP_l (M : MS) (j : Nat) (v : Int64) (i : Nat) : lnP (uL M j v) i = lnP M i := rfl
theorem pc_u (M : MS) (s j : Nat) (v : Int32) (i : Nat) (h : s ≠ 16) : pc (uI M s j v) i = pc M i := by unfold pc; rw [gI_uI, if_neg (fun e => h e.1.symm)]
theorem pc_l (M : MS) (j : Nat) (v : Int64) (i : Nat) : pc (uL M j v) i = pc M i := rfl
theorem kd_u (M : MS) (s j : Nat) (v : Int32) (i : Nat) (h : s ≠ 15) : kd (uI M s j v) i = kd M i := by unfold kd; rw [gI_uI, if_neg (fun e => h e.1.symm)]
theorem kd_l (M : MS) (j : Nat) (v : Int64) (i : Nat) : kd (uL M j v) i = kd M i := rfl
theorem op_u (M : MS) (s j : Nat) (v : Int32) (i : Nat) (h : s ≠ 19) : op (uI M s j v) i = op M i := by unfold op; rw [gI_uI, if_neg (fun e => h e.1.symm)]
theorem op_l (M : MS) (j : Nat) (v : Int64) (i : Nat) : op (uL M j v) i = op M i := rfl
theorem gI_ne {M : MS} {s j t i : Nat} {v : Int32} (h : s ≠ t) : gI (uI M s j v) t i = gI M t i := by rw [gI_uI, if_neg (fun e => h e.1.symm)]
theorem mInSt_u (M : MS) (s j : Nat) (v k : Int32) (n : Nat) (h : s ≠ 18) (h1 : s ≠ 15) (h2 : s ≠ 16) : mInSt (uI M s j v) k n = mInSt M k n := by
  unfold mInSt
  refine sumN_congr fun q _ => ?_
  rw [gI_ne h, gI_ne h1, gI_ne h2]
theorem mProm_u (M : MS) (s j : Nat) (v k : Int32) (n : Nat) (h : s ≠ 48) (h1 : s ≠ 52) (h2 : s ≠ 51) : mProm (uI M s j v) k n = mProm M k n := by
  unfold mProm
  refine sumN_congr fun q _ => ?_
  rw [gI_ne h, gI_ne h1, gI_ne h2]
theorem mInSt_l (M : MS) (j : Nat) (v : Int64) (k : Int32) (n : Nat) : mInSt (uL M j v) k n = mInSt M k n := rfl
theorem mProm_l (M : MS) (j : Nat) (v : Int64) (k : Int32) (n : Nat) : mProm (uL M j v) k n = mProm M k n := rfl
theorem tot_u (M : MS) (s j : Nat) (v : Int32) (n : Nat) (h : s ≠ 17) : tot (uI M s j v) n = tot M n := by
  induction n with
  | zero => rfl
  | succ n ih =>
    show tot (uI M s j v) n + (gI (uI M s j v) 17 n).toInt = tot M n + (gI M 17 n).toInt
    rw [ih, gI_uI, if_neg (fun e => h e.1.symm)]
theorem tot_l (M : MS) (j : Nat) (v : Int64) (n : Nat) : tot (uL M j v) n = tot M n := by
  induction n with
  | zero => rfl
  | succ n ih =>
    show tot (uL M j v) n + (gI (uL M j v) 17 n).toInt = tot M n + (gI M 17 n).toInt
    rw [ih]
    rfl
