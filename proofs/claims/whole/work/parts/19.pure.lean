/-! The pure layer: the model's state M, laid into a store by 'put'; rows to rewrite with. -/
abbrev MS : Type := (Nat → Nat → Int32) × (Nat → Int64)
def gI (M : MS) (s j : Nat) : Int32 := M.1 s j
def gL (M : MS) (j : Nat) : Int64 := M.2 j
def uI (M : MS) (s j : Nat) (v : Int32) : MS := (up2 M.1 s j v, M.2)
def uL (M : MS) (j : Nat) (v : Int64) : MS := (M.1, fun b => if b = j then v else M.2 b)
theorem gI_uI (M : MS) (s j : Nat) (v : Int32) (a b : Nat) : gI (uI M s j v) a b = if a = s ∧ b = j then v else gI M a b := rfl
theorem gI_uL (M : MS) (j : Nat) (v : Int64) (a b : Nat) : gI (uL M j v) a b = gI M a b := rfl
theorem gL_uI (M : MS) (s j : Nat) (v : Int32) (b : Nat) : gL (uI M s j v) b = gL M b := rfl
theorem gL_uL (M : MS) (j : Nat) (v : Int64) (b : Nat) : gL (uL M j v) b = if b = j then v else gL M b := rfl
/-- rows of ints at their slots, rows of truth values at slot + 100, single values at slot + 200, place 0 -/
def put (a : Sg) (M : MS) : Sg := (fun t k => if t % 32 = 11 ∧ t / 32 < 60 then M.1 (t / 32) k else if t % 32 = 13 ∧ t / 32 < 100 then M.1 (t / 32 + 100) k else if t = 10 then M.1 (k + 200) 0 else a.1 t k, a.2.1, fun t k => if t = 844 then M.2 k else a.2.2.1 t k, a.2.2.2)
theorem sP_put (a : Sg) (M : MS) (t k : Nat) : sP (put a M) t k = sP a t k := rfl
theorem sX_put (a : Sg) (M : MS) (t : Nat) : sX (put a M) t = sX a t := rfl
theorem wP_put (a : Sg) (M : MS) (t k : Nat) (v : Option Nat) : wP (put a M) t k v = put (wP a t k v) M := rfl
theorem sI_put11 (a : Sg) (M : MS) (s j : Nat) (h : s < 60) : sI (put a M) (tk 11 s) j = gI M s j := by
  unfold sI put tk gI
  dsimp only
  rw [if_pos (by omega), show (32 * s + 11) / 32 = s by omega]
theorem sI_put13 (a : Sg) (M : MS) (s j : Nat) (h : s < 100) : sI (put a M) (tk 13 s) j = gI M (s + 100) j := by
  unfold sI put tk gI
  dsimp only
  rw [if_neg (by omega), if_pos (by omega), show (32 * s + 13) / 32 = s by omega]
theorem sI_putm (a : Sg) (M : MS) (k : Nat) : sI (put a M) (tk 10 0) k = gI M (k + 200) 0 := by
  unfold sI put tk gI
  dsimp only
  rw [if_neg (by omega), if_neg (by omega), if_pos (by omega)]
theorem sL_put12 (a : Sg) (M : MS) (j : Nat) : sL (put a M) (tk 12 26) j = gL M j := rfl
theorem wI_put11 (a : Sg) (M : MS) (s j : Nat) (v : Int32) (h : s < 60) : wI (put a M) (tk 11 s) j v = put a (uI M s j v) := by
  unfold wI put uI up2 tk
  refine Prod.ext (funext fun t => funext fun k => ?_) rfl
  dsimp only
  repeat' split
  all_goals first | rfl | (exfalso; omega)
theorem wI_put13 (a : Sg) (M : MS) (s j : Nat) (v : Int32) (h : s < 100) : wI (put a M) (tk 13 s) j v = put a (uI M (s + 100) j v) := by
  unfold wI put uI up2 tk
  refine Prod.ext (funext fun t => funext fun k => ?_) rfl
  dsimp only
  repeat' split
  all_goals first | rfl | (exfalso; omega)
theorem wI_putm (a : Sg) (M : MS) (k : Nat) (v : Int32) : wI (put a M) (tk 10 0) k v = put a (uI M (k + 200) 0 v) := by
  unfold wI put uI up2 tk
  refine Prod.ext (funext fun t => funext fun q => ?_) rfl
  dsimp only
  repeat' split
  all_goals first | rfl | (exfalso; omega)
theorem wL_put12 (a : Sg) (M : MS) (j : Nat) (v : Int64) : wL (put a M) (tk 12 26) j v = put a (uL M j v) := by
  unfold wL put uL up2 tk
  refine Prod.ext rfl (Prod.ext rfl (Prod.ext (funext fun t => funext fun k => ?_) rfl))
  dsimp only
  repeat' split
  all_goals first | rfl | (exfalso; omega)
theorem sI_putg (a : Sg) (M : MS) (c i k : Nat) (h : c < 32) (h1 : c ≠ 10) (h2 : c ≠ 11) (h3 : c ≠ 13) : sI (put a M) (tk c i) k = sI a (tk c i) k := by
  unfold sI put tk
  dsimp only
  rw [if_neg (by omega), if_neg (by omega), if_neg (by omega)]
theorem wI_putg (a : Sg) (M : MS) (c i k : Nat) (v : Int32) (h : c < 32) (h1 : c ≠ 10) (h2 : c ≠ 11) (h3 : c ≠ 13) : wI (put a M) (tk c i) k v = put (wI a (tk c i) k v) M := by
  unfold wI put up2 tk
  refine Prod.ext (funext fun t => funext fun q => ?_) rfl
  dsimp only
  repeat' split
  all_goals first | rfl | (exfalso; omega)
theorem sI_putc (a : Sg) (M : MS) (s k : Nat) (h : 60 ≤ s) : sI (put a M) (tk 11 s) k = sI a (tk 11 s) k := by
  unfold sI put tk
  dsimp only
  rw [if_neg (by omega), if_neg (by omega), if_neg (by omega)]
theorem wI_putc (a : Sg) (M : MS) (s k : Nat) (v : Int32) (h : 60 ≤ s) : wI (put a M) (tk 11 s) k v = put (wI a (tk 11 s) k v) M := by
  unfold wI put up2 tk
  refine Prod.ext (funext fun t => funext fun q => ?_) rfl
  dsimp only
  repeat' split
  all_goals first | rfl | (exfalso; omega)
theorem sL_putg (a : Sg) (M : MS) (c i k : Nat) (h : c < 32) (h1 : c ≠ 12) : sL (put a M) (tk c i) k = sL a (tk c i) k := by
  unfold sL put tk
  dsimp only
  rw [if_neg (by omega)]
theorem wL_putg (a : Sg) (M : MS) (c i k : Nat) (v : Int64) (h : c < 32) (h1 : c ≠ 12) : wL (put a M) (tk c i) k v = put (wL a (tk c i) k v) M := by
  unfold wL put up2 tk
  refine Prod.ext rfl (Prod.ext rfl (Prod.ext (funext fun t => funext fun q => ?_) rfl))
  dsimp only
  repeat' split
  all_goals first | rfl | (exfalso; omega)
theorem wN_putg (a : Sg) (M : MS) (c i : Nat) (h : c < 32) (h1 : c ≠ 10) (h2 : c ≠ 11) (h3 : c ≠ 13) (h4 : c ≠ 12) : wN (put a M) (tk c i) = put (wN a (tk c i)) M := by
  unfold wN put tk
  refine Prod.ext (funext fun t => funext fun q => ?_) (Prod.ext rfl (Prod.ext (funext fun t => funext fun q => ?_) rfl))
  all_goals
    dsimp only
    repeat' split
    all_goals first | rfl | (exfalso; omega)
theorem sI_put_0 (a : Sg) (M : MS) (i k : Nat) : sI (put a M) (tk 0 i) k = sI a (tk 0 i) k := sI_putg a M 0 i k (by decide) (by decide) (by decide) (by decide)
theorem wI_put_0 (a : Sg) (M : MS) (i k : Nat) (v : Int32) : wI (put a M) (tk 0 i) k v = put (wI a (tk 0 i) k v) M := wI_putg a M 0 i k v (by decide) (by decide) (by decide) (by decide)
theorem wN_put_0 (a : Sg) (M : MS) (i : Nat) : wN (put a M) (tk 0 i) = put (wN a (tk 0 i)) M := wN_putg a M 0 i (by decide) (by decide) (by decide) (by decide) (by decide)
theorem sI_put_1 (a : Sg) (M : MS) (i k : Nat) : sI (put a M) (tk 1 i) k = sI a (tk 1 i) k := sI_putg a M 1 i k (by decide) (by decide) (by decide) (by decide)
theorem wI_put_1 (a : Sg) (M : MS) (i k : Nat) (v : Int32) : wI (put a M) (tk 1 i) k v = put (wI a (tk 1 i) k v) M := wI_putg a M 1 i k v (by decide) (by decide) (by decide) (by decide)
theorem wN_put_1 (a : Sg) (M : MS) (i : Nat) : wN (put a M) (tk 1 i) = put (wN a (tk 1 i)) M := wN_putg a M 1 i (by decide) (by decide) (by decide) (by decide) (by decide)
theorem sI_put_2 (a : Sg) (M : MS) (i k : Nat) : sI (put a M) (tk 2 i) k = sI a (tk 2 i) k := sI_putg a M 2 i k (by decide) (by decide) (by decide) (by decide)
theorem wI_put_2 (a : Sg) (M : MS) (i k : Nat) (v : Int32) : wI (put a M) (tk 2 i) k v = put (wI a (tk 2 i) k v) M := wI_putg a M 2 i k v (by decide) (by decide) (by decide) (by decide)
theorem wN_put_2 (a : Sg) (M : MS) (i : Nat) : wN (put a M) (tk 2 i) = put (wN a (tk 2 i)) M := wN_putg a M 2 i (by decide) (by decide) (by decide) (by decide) (by decide)
theorem sI_put_3 (a : Sg) (M : MS) (i k : Nat) : sI (put a M) (tk 3 i) k = sI a (tk 3 i) k := sI_putg a M 3 i k (by decide) (by decide) (by decide) (by decide)
theorem wI_put_3 (a : Sg) (M : MS) (i k : Nat) (v : Int32) : wI (put a M) (tk 3 i) k v = put (wI a (tk 3 i) k v) M := wI_putg a M 3 i k v (by decide) (by decide) (by decide) (by decide)
theorem wN_put_3 (a : Sg) (M : MS) (i : Nat) : wN (put a M) (tk 3 i) = put (wN a (tk 3 i)) M := wN_putg a M 3 i (by decide) (by decide) (by decide) (by decide) (by decide)
theorem sI_put_4 (a : Sg) (M : MS) (i k : Nat) : sI (put a M) (tk 4 i) k = sI a (tk 4 i) k := sI_putg a M 4 i k (by decide) (by decide) (by decide) (by decide)
theorem wI_put_4 (a : Sg) (M : MS) (i k : Nat) (v : Int32) : wI (put a M) (tk 4 i) k v = put (wI a (tk 4 i) k v) M := wI_putg a M 4 i k v (by decide) (by decide) (by decide) (by decide)
theorem wN_put_4 (a : Sg) (M : MS) (i : Nat) : wN (put a M) (tk 4 i) = put (wN a (tk 4 i)) M := wN_putg a M 4 i (by decide) (by decide) (by decide) (by decide) (by decide)
theorem sI_put_5 (a : Sg) (M : MS) (i k : Nat) : sI (put a M) (tk 5 i) k = sI a (tk 5 i) k := sI_putg a M 5 i k (by decide) (by decide) (by decide) (by decide)
theorem wI_put_5 (a : Sg) (M : MS) (i k : Nat) (v : Int32) : wI (put a M) (tk 5 i) k v = put (wI a (tk 5 i) k v) M := wI_putg a M 5 i k v (by decide) (by decide) (by decide) (by decide)
theorem wN_put_5 (a : Sg) (M : MS) (i : Nat) : wN (put a M) (tk 5 i) = put (wN a (tk 5 i)) M := wN_putg a M 5 i (by decide) (by decide) (by decide) (by decide) (by decide)
theorem sI_put_6 (a : Sg) (M : MS) (i k : Nat) : sI (put a M) (tk 6 i) k = sI a (tk 6 i) k := sI_putg a M 6 i k (by decide) (by decide) (by decide) (by decide)
theorem wI_put_6 (a : Sg) (M : MS) (i k : Nat) (v : Int32) : wI (put a M) (tk 6 i) k v = put (wI a (tk 6 i) k v) M := wI_putg a M 6 i k v (by decide) (by decide) (by decide) (by decide)
theorem wN_put_6 (a : Sg) (M : MS) (i : Nat) : wN (put a M) (tk 6 i) = put (wN a (tk 6 i)) M := wN_putg a M 6 i (by decide) (by decide) (by decide) (by decide) (by decide)
theorem sI_put_7 (a : Sg) (M : MS) (i k : Nat) : sI (put a M) (tk 7 i) k = sI a (tk 7 i) k := sI_putg a M 7 i k (by decide) (by decide) (by decide) (by decide)
theorem wI_put_7 (a : Sg) (M : MS) (i k : Nat) (v : Int32) : wI (put a M) (tk 7 i) k v = put (wI a (tk 7 i) k v) M := wI_putg a M 7 i k v (by decide) (by decide) (by decide) (by decide)
theorem wN_put_7 (a : Sg) (M : MS) (i : Nat) : wN (put a M) (tk 7 i) = put (wN a (tk 7 i)) M := wN_putg a M 7 i (by decide) (by decide) (by decide) (by decide) (by decide)
theorem sI_put_8 (a : Sg) (M : MS) (i k : Nat) : sI (put a M) (tk 8 i) k = sI a (tk 8 i) k := sI_putg a M 8 i k (by decide) (by decide) (by decide) (by decide)
theorem wI_put_8 (a : Sg) (M : MS) (i k : Nat) (v : Int32) : wI (put a M) (tk 8 i) k v = put (wI a (tk 8 i) k v) M := wI_putg a M 8 i k v (by decide) (by decide) (by decide) (by decide)
theorem wN_put_8 (a : Sg) (M : MS) (i : Nat) : wN (put a M) (tk 8 i) = put (wN a (tk 8 i)) M := wN_putg a M 8 i (by decide) (by decide) (by decide) (by decide) (by decide)
theorem sI_put_9 (a : Sg) (M : MS) (i k : Nat) : sI (put a M) (tk 9 i) k = sI a (tk 9 i) k := sI_putg a M 9 i k (by decide) (by decide) (by decide) (by decide)
theorem wI_put_9 (a : Sg) (M : MS) (i k : Nat) (v : Int32) : wI (put a M) (tk 9 i) k v = put (wI a (tk 9 i) k v) M := wI_putg a M 9 i k v (by decide) (by decide) (by decide) (by decide)
theorem wN_put_9 (a : Sg) (M : MS) (i : Nat) : wN (put a M) (tk 9 i) = put (wN a (tk 9 i)) M := wN_putg a M 9 i (by decide) (by decide) (by decide) (by decide) (by decide)
theorem sI_put_14 (a : Sg) (M : MS) (i k : Nat) : sI (put a M) (tk 14 i) k = sI a (tk 14 i) k := sI_putg a M 14 i k (by decide) (by decide) (by decide) (by decide)
theorem wI_put_14 (a : Sg) (M : MS) (i k : Nat) (v : Int32) : wI (put a M) (tk 14 i) k v = put (wI a (tk 14 i) k v) M := wI_putg a M 14 i k v (by decide) (by decide) (by decide) (by decide)
theorem wN_put_14 (a : Sg) (M : MS) (i : Nat) : wN (put a M) (tk 14 i) = put (wN a (tk 14 i)) M := wN_putg a M 14 i (by decide) (by decide) (by decide) (by decide) (by decide)
theorem sI_put_15 (a : Sg) (M : MS) (i k : Nat) : sI (put a M) (tk 15 i) k = sI a (tk 15 i) k := sI_putg a M 15 i k (by decide) (by decide) (by decide) (by decide)
theorem wI_put_15 (a : Sg) (M : MS) (i k : Nat) (v : Int32) : wI (put a M) (tk 15 i) k v = put (wI a (tk 15 i) k v) M := wI_putg a M 15 i k v (by decide) (by decide) (by decide) (by decide)
theorem wN_put_15 (a : Sg) (M : MS) (i : Nat) : wN (put a M) (tk 15 i) = put (wN a (tk 15 i)) M := wN_putg a M 15 i (by decide) (by decide) (by decide) (by decide) (by decide)
theorem sI_put_16 (a : Sg) (M : MS) (i k : Nat) : sI (put a M) (tk 16 i) k = sI a (tk 16 i) k := sI_putg a M 16 i k (by decide) (by decide) (by decide) (by decide)
theorem wI_put_16 (a : Sg) (M : MS) (i k : Nat) (v : Int32) : wI (put a M) (tk 16 i) k v = put (wI a (tk 16 i) k v) M := wI_putg a M 16 i k v (by decide) (by decide) (by decide) (by decide)
theorem wN_put_16 (a : Sg) (M : MS) (i : Nat) : wN (put a M) (tk 16 i) = put (wN a (tk 16 i)) M := wN_putg a M 16 i (by decide) (by decide) (by decide) (by decide) (by decide)
theorem sI_put_17 (a : Sg) (M : MS) (i k : Nat) : sI (put a M) (tk 17 i) k = sI a (tk 17 i) k := sI_putg a M 17 i k (by decide) (by decide) (by decide) (by decide)
theorem wI_put_17 (a : Sg) (M : MS) (i k : Nat) (v : Int32) : wI (put a M) (tk 17 i) k v = put (wI a (tk 17 i) k v) M := wI_putg a M 17 i k v (by decide) (by decide) (by decide) (by decide)
theorem wN_put_17 (a : Sg) (M : MS) (i : Nat) : wN (put a M) (tk 17 i) = put (wN a (tk 17 i)) M := wN_putg a M 17 i (by decide) (by decide) (by decide) (by decide) (by decide)
theorem sI_put_18 (a : Sg) (M : MS) (i k : Nat) : sI (put a M) (tk 18 i) k = sI a (tk 18 i) k := sI_putg a M 18 i k (by decide) (by decide) (by decide) (by decide)
theorem wI_put_18 (a : Sg) (M : MS) (i k : Nat) (v : Int32) : wI (put a M) (tk 18 i) k v = put (wI a (tk 18 i) k v) M := wI_putg a M 18 i k v (by decide) (by decide) (by decide) (by decide)
theorem wN_put_18 (a : Sg) (M : MS) (i : Nat) : wN (put a M) (tk 18 i) = put (wN a (tk 18 i)) M := wN_putg a M 18 i (by decide) (by decide) (by decide) (by decide) (by decide)
theorem sI_put_19 (a : Sg) (M : MS) (i k : Nat) : sI (put a M) (tk 19 i) k = sI a (tk 19 i) k := sI_putg a M 19 i k (by decide) (by decide) (by decide) (by decide)
theorem wI_put_19 (a : Sg) (M : MS) (i k : Nat) (v : Int32) : wI (put a M) (tk 19 i) k v = put (wI a (tk 19 i) k v) M := wI_putg a M 19 i k v (by decide) (by decide) (by decide) (by decide)
theorem wN_put_19 (a : Sg) (M : MS) (i : Nat) : wN (put a M) (tk 19 i) = put (wN a (tk 19 i)) M := wN_putg a M 19 i (by decide) (by decide) (by decide) (by decide) (by decide)
theorem sI_put_20 (a : Sg) (M : MS) (i k : Nat) : sI (put a M) (tk 20 i) k = sI a (tk 20 i) k := sI_putg a M 20 i k (by decide) (by decide) (by decide) (by decide)
theorem wI_put_20 (a : Sg) (M : MS) (i k : Nat) (v : Int32) : wI (put a M) (tk 20 i) k v = put (wI a (tk 20 i) k v) M := wI_putg a M 20 i k v (by decide) (by decide) (by decide) (by decide)
theorem wN_put_20 (a : Sg) (M : MS) (i : Nat) : wN (put a M) (tk 20 i) = put (wN a (tk 20 i)) M := wN_putg a M 20 i (by decide) (by decide) (by decide) (by decide) (by decide)
theorem sI_put_21 (a : Sg) (M : MS) (i k : Nat) : sI (put a M) (tk 21 i) k = sI a (tk 21 i) k := sI_putg a M 21 i k (by decide) (by decide) (by decide) (by decide)
theorem wI_put_21 (a : Sg) (M : MS) (i k : Nat) (v : Int32) : wI (put a M) (tk 21 i) k v = put (wI a (tk 21 i) k v) M := wI_putg a M 21 i k v (by decide) (by decide) (by decide) (by decide)
theorem wN_put_21 (a : Sg) (M : MS) (i : Nat) : wN (put a M) (tk 21 i) = put (wN a (tk 21 i)) M := wN_putg a M 21 i (by decide) (by decide) (by decide) (by decide) (by decide)
theorem sI_put_22 (a : Sg) (M : MS) (i k : Nat) : sI (put a M) (tk 22 i) k = sI a (tk 22 i) k := sI_putg a M 22 i k (by decide) (by decide) (by decide) (by decide)
theorem wI_put_22 (a : Sg) (M : MS) (i k : Nat) (v : Int32) : wI (put a M) (tk 22 i) k v = put (wI a (tk 22 i) k v) M := wI_putg a M 22 i k v (by decide) (by decide) (by decide) (by decide)
theorem wN_put_22 (a : Sg) (M : MS) (i : Nat) : wN (put a M) (tk 22 i) = put (wN a (tk 22 i)) M := wN_putg a M 22 i (by decide) (by decide) (by decide) (by decide) (by decide)
theorem sI_put_23 (a : Sg) (M : MS) (i k : Nat) : sI (put a M) (tk 23 i) k = sI a (tk 23 i) k := sI_putg a M 23 i k (by decide) (by decide) (by decide) (by decide)
theorem wI_put_23 (a : Sg) (M : MS) (i k : Nat) (v : Int32) : wI (put a M) (tk 23 i) k v = put (wI a (tk 23 i) k v) M := wI_putg a M 23 i k v (by decide) (by decide) (by decide) (by decide)
theorem wN_put_23 (a : Sg) (M : MS) (i : Nat) : wN (put a M) (tk 23 i) = put (wN a (tk 23 i)) M := wN_putg a M 23 i (by decide) (by decide) (by decide) (by decide) (by decide)
theorem sI_put_24 (a : Sg) (M : MS) (i k : Nat) : sI (put a M) (tk 24 i) k = sI a (tk 24 i) k := sI_putg a M 24 i k (by decide) (by decide) (by decide) (by decide)
theorem wI_put_24 (a : Sg) (M : MS) (i k : Nat) (v : Int32) : wI (put a M) (tk 24 i) k v = put (wI a (tk 24 i) k v) M := wI_putg a M 24 i k v (by decide) (by decide) (by decide) (by decide)
theorem wN_put_24 (a : Sg) (M : MS) (i : Nat) : wN (put a M) (tk 24 i) = put (wN a (tk 24 i)) M := wN_putg a M 24 i (by decide) (by decide) (by decide) (by decide) (by decide)
theorem sL_put_0 (a : Sg) (M : MS) (i k : Nat) : sL (put a M) (tk 0 i) k = sL a (tk 0 i) k := sL_putg a M 0 i k (by decide) (by decide)
theorem wL_put_0 (a : Sg) (M : MS) (i k : Nat) (v : Int64) : wL (put a M) (tk 0 i) k v = put (wL a (tk 0 i) k v) M := wL_putg a M 0 i k v (by decide) (by decide)
theorem sL_put_24 (a : Sg) (M : MS) (i k : Nat) : sL (put a M) (tk 24 i) k = sL a (tk 24 i) k := sL_putg a M 24 i k (by decide) (by decide)
theorem wL_put_24 (a : Sg) (M : MS) (i k : Nat) (v : Int64) : wL (put a M) (tk 24 i) k v = put (wL a (tk 24 i) k v) M := wL_putg a M 24 i k v (by decide) (by decide)
theorem tm_0 (i : Nat) : tk 0 i % 32 = 0 := tkm 0 i (by decide)
theorem tm_1 (i : Nat) : tk 1 i % 32 = 1 := tkm 1 i (by decide)
theorem tm_2 (i : Nat) : tk 2 i % 32 = 2 := tkm 2 i (by decide)
theorem tm_3 (i : Nat) : tk 3 i % 32 = 3 := tkm 3 i (by decide)
theorem tm_4 (i : Nat) : tk 4 i % 32 = 4 := tkm 4 i (by decide)
theorem tm_5 (i : Nat) : tk 5 i % 32 = 5 := tkm 5 i (by decide)
theorem tm_6 (i : Nat) : tk 6 i % 32 = 6 := tkm 6 i (by decide)
theorem tm_7 (i : Nat) : tk 7 i % 32 = 7 := tkm 7 i (by decide)
theorem tm_8 (i : Nat) : tk 8 i % 32 = 8 := tkm 8 i (by decide)
theorem tm_9 (i : Nat) : tk 9 i % 32 = 9 := tkm 9 i (by decide)
theorem tm_10 (i : Nat) : tk 10 i % 32 = 10 := tkm 10 i (by decide)
theorem tm_11 (i : Nat) : tk 11 i % 32 = 11 := tkm 11 i (by decide)
theorem tm_12 (i : Nat) : tk 12 i % 32 = 12 := tkm 12 i (by decide)
theorem tm_13 (i : Nat) : tk 13 i % 32 = 13 := tkm 13 i (by decide)
theorem tm_14 (i : Nat) : tk 14 i % 32 = 14 := tkm 14 i (by decide)
theorem tm_15 (i : Nat) : tk 15 i % 32 = 15 := tkm 15 i (by decide)
theorem tm_16 (i : Nat) : tk 16 i % 32 = 16 := tkm 16 i (by decide)
theorem tm_17 (i : Nat) : tk 17 i % 32 = 17 := tkm 17 i (by decide)
theorem tm_18 (i : Nat) : tk 18 i % 32 = 18 := tkm 18 i (by decide)
theorem tm_19 (i : Nat) : tk 19 i % 32 = 19 := tkm 19 i (by decide)
theorem tm_20 (i : Nat) : tk 20 i % 32 = 20 := tkm 20 i (by decide)
theorem tm_21 (i : Nat) : tk 21 i % 32 = 21 := tkm 21 i (by decide)
theorem tm_22 (i : Nat) : tk 22 i % 32 = 22 := tkm 22 i (by decide)
theorem tm_23 (i : Nat) : tk 23 i % 32 = 23 := tkm 23 i (by decide)
theorem tm_24 (i : Nat) : tk 24 i % 32 = 24 := tkm 24 i (by decide)
theorem at_11 : aty 11 = some .int := rfl
theorem at_12 : aty 12 = some .long := rfl
theorem at_13 : aty 13 = some .boolean := rfl
theorem at_14 : aty 14 = some (.object "Millrace$Batch") := rfl
theorem at_15 : aty 15 = some (.object "Millrace$Kind") := rfl
theorem at_16 : aty 16 = some (.object "Millrace$Line") := rfl
theorem at_17 : aty 17 = some (.object "Millrace$Machine") := rfl
theorem at_18 : aty 18 = some (.object "Millrace$Operation") := rfl
theorem at_19 : aty 19 = some (.object "Millrace$Order") := rfl
theorem at_20 : aty 20 = some (.object "Millrace$Person") := rfl
theorem at_21 : aty 21 = some .int := rfl
theorem at_22 : aty 22 = some .int := rfl
theorem at_23 : aty 23 = some .int := rfl
theorem at_24 : aty 24 = some .long := rfl
theorem al_14 (i : Nat) : aln (tk 14 i) = 60 := by unfold aln; rw [tm_14]; rfl
theorem al_15 (i : Nat) : aln (tk 15 i) = 12 := by unfold aln; rw [tm_15]; rfl
theorem al_16 (i : Nat) : aln (tk 16 i) = 3 := by unfold aln; rw [tm_16]; rfl
theorem al_17 (i : Nat) : aln (tk 17 i) = 6 := by unfold aln; rw [tm_17]; rfl
theorem al_18 (i : Nat) : aln (tk 18 i) = 4 := by unfold aln; rw [tm_18]; rfl
theorem al_19 (i : Nat) : aln (tk 19 i) = 10 := by unfold aln; rw [tm_19]; rfl
theorem al_20 (i : Nat) : aln (tk 20 i) = 6 := by unfold aln; rw [tm_20]; rfl
theorem al_21 (i : Nat) : aln (tk 21 i) = 4 := by unfold aln; rw [tm_21]; rfl
theorem al_22 (i : Nat) : aln (tk 22 i) = 4 := by unfold aln; rw [tm_22]; rfl
theorem al_23 (i : Nat) : aln (tk 23 i) = 4 := by unfold aln; rw [tm_23]; rfl
theorem al_24 (i : Nat) : aln (tk 24 i) = 1 := by unfold aln; rw [tm_24]; rfl
theorem al_m0 : aln (tk 11 0) = 12 := rfl
theorem al_m1 : aln (tk 11 1) = 12 := rfl
theorem al_m2 : aln (tk 11 2) = 12 := rfl
theorem al_m3 : aln (tk 11 3) = 12 := rfl
theorem al_m4 : aln (tk 11 4) = 36 := rfl
theorem al_m5 : aln (tk 11 5) = 36 := rfl
theorem al_m6 : aln (tk 11 6) = 36 := rfl
theorem al_m7 : aln (tk 11 7) = 12 := rfl
theorem al_m8 : aln (tk 11 8) = 48 := rfl
theorem al_m9 : aln (tk 11 9) = 48 := rfl
theorem al_m10 : aln (tk 11 10) = 48 := rfl
theorem al_m11 : aln (tk 11 11) = 12 := rfl
theorem al_m12 : aln (tk 11 12) = 4 := rfl
theorem al_m13 : aln (tk 13 13) = 12 := rfl
theorem al_m15 : aln (tk 11 15) = 60 := rfl
theorem al_m16 : aln (tk 11 16) = 60 := rfl
theorem al_m17 : aln (tk 11 17) = 60 := rfl
theorem al_m18 : aln (tk 11 18) = 60 := rfl
theorem al_m19 : aln (tk 11 19) = 60 := rfl
theorem al_m20 : aln (tk 11 20) = 60 := rfl
theorem al_m21 : aln (tk 13 21) = 60 := rfl
theorem al_m22 : aln (tk 13 22) = 60 := rfl
theorem al_m23 : aln (tk 11 23) = 60 := rfl
theorem al_m24 : aln (tk 13 24) = 60 := rfl
theorem al_m25 : aln (tk 11 25) = 60 := rfl
theorem al_m26 : aln (tk 12 26) = 60 := rfl
theorem al_m28 : aln (tk 11 28) = 6 := rfl
theorem al_m29 : aln (tk 11 29) = 6 := rfl
theorem al_m30 : aln (tk 11 30) = 6 := rfl
theorem al_m31 : aln (tk 11 31) = 6 := rfl
theorem al_m32 : aln (tk 11 32) = 6 := rfl
theorem al_m33 : aln (tk 11 33) = 6 := rfl
theorem al_m34 : aln (tk 11 34) = 6 := rfl
theorem al_m35 : aln (tk 11 35) = 6 := rfl
theorem al_m36 : aln (tk 11 36) = 6 := rfl
theorem al_m37 : aln (tk 11 37) = 6 := rfl
theorem al_m38 : aln (tk 11 38) = 6 := rfl
theorem al_m39 : aln (tk 11 39) = 6 := rfl
theorem al_m40 : aln (tk 11 40) = 6 := rfl
theorem al_m42 : aln (tk 11 42) = 6 := rfl
theorem al_m43 : aln (tk 11 43) = 6 := rfl
theorem al_m44 : aln (tk 11 44) = 6 := rfl
theorem al_m45 : aln (tk 11 45) = 24 := rfl
theorem al_m46 : aln (tk 11 46) = 24 := rfl
theorem al_m48 : aln (tk 11 48) = 10 := rfl
theorem al_m49 : aln (tk 11 49) = 10 := rfl
theorem al_m50 : aln (tk 11 50) = 10 := rfl
theorem al_m51 : aln (tk 11 51) = 10 := rfl
theorem al_m52 : aln (tk 11 52) = 10 := rfl
theorem al_m53 : aln (tk 11 53) = 10 := rfl
theorem al_m60 : aln (tk 11 60) = 3 := rfl
theorem al_m61 : aln (tk 11 61) = 12 := rfl
def mp (k : Nat) : Option Nat := match k with
  | 0 => some (tk 11 0)
  | 1 => some (tk 11 1)
  | 2 => some (tk 11 2)
  | 3 => some (tk 11 3)
  | 4 => some (tk 11 4)
  | 5 => some (tk 11 5)
  | 6 => some (tk 11 6)
  | 7 => some (tk 11 7)
  | 8 => some (tk 11 8)
  | 9 => some (tk 11 9)
  | 10 => some (tk 11 10)
  | 11 => some (tk 11 11)
  | 12 => some (tk 11 12)
  | 13 => some (tk 13 13)
  | 15 => some (tk 11 15)
  | 16 => some (tk 11 16)
  | 17 => some (tk 11 17)
  | 18 => some (tk 11 18)
  | 19 => some (tk 11 19)
  | 20 => some (tk 11 20)
  | 21 => some (tk 13 21)
  | 22 => some (tk 13 22)
  | 23 => some (tk 11 23)
  | 24 => some (tk 13 24)
  | 25 => some (tk 11 25)
  | 26 => some (tk 12 26)
  | 28 => some (tk 11 28)
  | 29 => some (tk 11 29)
  | 30 => some (tk 11 30)
  | 31 => some (tk 11 31)
  | 32 => some (tk 11 32)
  | 33 => some (tk 11 33)
  | 34 => some (tk 11 34)
  | 35 => some (tk 11 35)
  | 36 => some (tk 11 36)
  | 37 => some (tk 11 37)
  | 38 => some (tk 11 38)
  | 39 => some (tk 11 39)
  | 40 => some (tk 11 40)
  | 42 => some (tk 11 42)
  | 43 => some (tk 11 43)
  | 44 => some (tk 11 44)
  | 45 => some (tk 11 45)
  | 46 => some (tk 11 46)
  | 48 => some (tk 11 48)
  | 49 => some (tk 11 49)
  | 50 => some (tk 11 50)
  | 51 => some (tk 11 51)
  | 52 => some (tk 11 52)
  | 53 => some (tk 11 53)
  | 60 => some (tk 11 60)
  | 61 => some (tk 11 61)
  | _ => none
theorem mp_0 : mp 0 = some (tk 11 0) := rfl
theorem mp_1 : mp 1 = some (tk 11 1) := rfl
theorem mp_2 : mp 2 = some (tk 11 2) := rfl
theorem mp_3 : mp 3 = some (tk 11 3) := rfl
theorem mp_4 : mp 4 = some (tk 11 4) := rfl
theorem mp_5 : mp 5 = some (tk 11 5) := rfl
theorem mp_6 : mp 6 = some (tk 11 6) := rfl
theorem mp_7 : mp 7 = some (tk 11 7) := rfl
theorem mp_8 : mp 8 = some (tk 11 8) := rfl
theorem mp_9 : mp 9 = some (tk 11 9) := rfl
theorem mp_10 : mp 10 = some (tk 11 10) := rfl
theorem mp_11 : mp 11 = some (tk 11 11) := rfl
theorem mp_12 : mp 12 = some (tk 11 12) := rfl
theorem mp_13 : mp 13 = some (tk 13 13) := rfl
theorem mp_15 : mp 15 = some (tk 11 15) := rfl
theorem mp_16 : mp 16 = some (tk 11 16) := rfl
theorem mp_17 : mp 17 = some (tk 11 17) := rfl
theorem mp_18 : mp 18 = some (tk 11 18) := rfl
theorem mp_19 : mp 19 = some (tk 11 19) := rfl
theorem mp_20 : mp 20 = some (tk 11 20) := rfl
theorem mp_21 : mp 21 = some (tk 13 21) := rfl
theorem mp_22 : mp 22 = some (tk 13 22) := rfl
theorem mp_23 : mp 23 = some (tk 11 23) := rfl
theorem mp_24 : mp 24 = some (tk 13 24) := rfl
theorem mp_25 : mp 25 = some (tk 11 25) := rfl
theorem mp_26 : mp 26 = some (tk 12 26) := rfl
theorem mp_28 : mp 28 = some (tk 11 28) := rfl
theorem mp_29 : mp 29 = some (tk 11 29) := rfl
theorem mp_30 : mp 30 = some (tk 11 30) := rfl
theorem mp_31 : mp 31 = some (tk 11 31) := rfl
theorem mp_32 : mp 32 = some (tk 11 32) := rfl
theorem mp_33 : mp 33 = some (tk 11 33) := rfl
theorem mp_34 : mp 34 = some (tk 11 34) := rfl
theorem mp_35 : mp 35 = some (tk 11 35) := rfl
theorem mp_36 : mp 36 = some (tk 11 36) := rfl
theorem mp_37 : mp 37 = some (tk 11 37) := rfl
theorem mp_38 : mp 38 = some (tk 11 38) := rfl
theorem mp_39 : mp 39 = some (tk 11 39) := rfl
theorem mp_40 : mp 40 = some (tk 11 40) := rfl
theorem mp_42 : mp 42 = some (tk 11 42) := rfl
theorem mp_43 : mp 43 = some (tk 11 43) := rfl
theorem mp_44 : mp 44 = some (tk 11 44) := rfl
theorem mp_45 : mp 45 = some (tk 11 45) := rfl
theorem mp_46 : mp 46 = some (tk 11 46) := rfl
theorem mp_48 : mp 48 = some (tk 11 48) := rfl
theorem mp_49 : mp 49 = some (tk 11 49) := rfl
theorem mp_50 : mp 50 = some (tk 11 50) := rfl
theorem mp_51 : mp 51 = some (tk 11 51) := rfl
theorem mp_52 : mp 52 = some (tk 11 52) := rfl
theorem mp_53 : mp 53 = some (tk 11 53) := rfl
theorem mp_60 : mp 60 = some (tk 11 60) := rfl
theorem mp_61 : mp 61 = some (tk 11 61) := rfl
/-- the model's rows lie where they should -/
def ShM (a : Sg) : Prop := ∀ k, sP a (tk 10 0) k = mp k
theorem row_14 (i : Nat) : isRow (tk 14 i) ↔ True := ⟨fun _ => trivial, fun _ => ⟨_, congrArg aty (tm_14 i)⟩⟩
theorem row_15 (i : Nat) : isRow (tk 15 i) ↔ True := ⟨fun _ => trivial, fun _ => ⟨_, congrArg aty (tm_15 i)⟩⟩
theorem row_16 (i : Nat) : isRow (tk 16 i) ↔ True := ⟨fun _ => trivial, fun _ => ⟨_, congrArg aty (tm_16 i)⟩⟩
theorem row_17 (i : Nat) : isRow (tk 17 i) ↔ True := ⟨fun _ => trivial, fun _ => ⟨_, congrArg aty (tm_17 i)⟩⟩
theorem row_18 (i : Nat) : isRow (tk 18 i) ↔ True := ⟨fun _ => trivial, fun _ => ⟨_, congrArg aty (tm_18 i)⟩⟩
theorem row_19 (i : Nat) : isRow (tk 19 i) ↔ True := ⟨fun _ => trivial, fun _ => ⟨_, congrArg aty (tm_19 i)⟩⟩
theorem row_20 (i : Nat) : isRow (tk 20 i) ↔ True := ⟨fun _ => trivial, fun _ => ⟨_, congrArg aty (tm_20 i)⟩⟩
theorem ar_11 (i : Nat) : isArr (tk 11 i) ↔ True := ⟨fun _ => trivial, fun _ => ⟨_, congrArg aty (tm_11 i)⟩⟩
theorem ar_12 (i : Nat) : isArr (tk 12 i) ↔ True := ⟨fun _ => trivial, fun _ => ⟨_, congrArg aty (tm_12 i)⟩⟩
theorem ar_13 (i : Nat) : isArr (tk 13 i) ↔ True := ⟨fun _ => trivial, fun _ => ⟨_, congrArg aty (tm_13 i)⟩⟩
theorem ar_14 (i : Nat) : isArr (tk 14 i) ↔ True := ⟨fun _ => trivial, fun _ => ⟨_, congrArg aty (tm_14 i)⟩⟩
theorem ar_15 (i : Nat) : isArr (tk 15 i) ↔ True := ⟨fun _ => trivial, fun _ => ⟨_, congrArg aty (tm_15 i)⟩⟩
theorem ar_16 (i : Nat) : isArr (tk 16 i) ↔ True := ⟨fun _ => trivial, fun _ => ⟨_, congrArg aty (tm_16 i)⟩⟩
theorem ar_17 (i : Nat) : isArr (tk 17 i) ↔ True := ⟨fun _ => trivial, fun _ => ⟨_, congrArg aty (tm_17 i)⟩⟩
theorem ar_18 (i : Nat) : isArr (tk 18 i) ↔ True := ⟨fun _ => trivial, fun _ => ⟨_, congrArg aty (tm_18 i)⟩⟩
theorem ar_19 (i : Nat) : isArr (tk 19 i) ↔ True := ⟨fun _ => trivial, fun _ => ⟨_, congrArg aty (tm_19 i)⟩⟩
theorem ar_20 (i : Nat) : isArr (tk 20 i) ↔ True := ⟨fun _ => trivial, fun _ => ⟨_, congrArg aty (tm_20 i)⟩⟩
theorem ar_21 (i : Nat) : isArr (tk 21 i) ↔ True := ⟨fun _ => trivial, fun _ => ⟨_, congrArg aty (tm_21 i)⟩⟩
theorem ar_22 (i : Nat) : isArr (tk 22 i) ↔ True := ⟨fun _ => trivial, fun _ => ⟨_, congrArg aty (tm_22 i)⟩⟩
theorem ar_23 (i : Nat) : isArr (tk 23 i) ↔ True := ⟨fun _ => trivial, fun _ => ⟨_, congrArg aty (tm_23 i)⟩⟩
theorem ar_24 (i : Nat) : isArr (tk 24 i) ↔ True := ⟨fun _ => trivial, fun _ => ⟨_, congrArg aty (tm_24 i)⟩⟩
theorem cs_14 (i j : Nat) : canSt (tk 14 i) (tk 0 j) ↔ True := ⟨fun _ => trivial, fun _ => ⟨(RX0, TX0, 12), congrArg aty (tm_14 i), by rw [tm_0]; rfl⟩⟩
theorem cs_15 (i j : Nat) : canSt (tk 15 i) (tk 2 j) ↔ True := ⟨fun _ => trivial, fun _ => ⟨(RX2, TX2, 14), congrArg aty (tm_15 i), by rw [tm_2]; rfl⟩⟩
theorem cs_16 (i j : Nat) : canSt (tk 16 i) (tk 3 j) ↔ True := ⟨fun _ => trivial, fun _ => ⟨(RX3, TX3, 3), congrArg aty (tm_16 i), by rw [tm_3]; rfl⟩⟩
theorem cs_17 (i j : Nat) : canSt (tk 17 i) (tk 4 j) ↔ True := ⟨fun _ => trivial, fun _ => ⟨(RX4, TX4, 15), congrArg aty (tm_17 i), by rw [tm_4]; rfl⟩⟩
theorem cs_18 (i j : Nat) : canSt (tk 18 i) (tk 5 j) ↔ True := ⟨fun _ => trivial, fun _ => ⟨(RX5, TX5, 3), congrArg aty (tm_18 i), by rw [tm_5]; rfl⟩⟩
theorem cs_19 (i j : Nat) : canSt (tk 19 i) (tk 6 j) ↔ True := ⟨fun _ => trivial, fun _ => ⟨(RX6, TX6, 6), congrArg aty (tm_19 i), by rw [tm_6]; rfl⟩⟩
theorem cs_20 (i j : Nat) : canSt (tk 20 i) (tk 7 j) ↔ True := ⟨fun _ => trivial, fun _ => ⟨(RX7, TX7, 7), congrArg aty (tm_20 i), by rw [tm_7]; rfl⟩⟩
theorem ex_ix {i n : Nat} {P : Nat → Prop} (h : i < 2 ^ 31) (hn : n ≤ 2 ^ 31) : (∃ j, nI i = nI j ∧ j < n ∧ P j) ↔ i < n ∧ P i := by
  constructor
  · rintro ⟨j, e, h1, h2⟩
    have e9 := (nI_eq h (Nat.lt_of_lt_of_le h1 hn)).mp e
    subst e9
    exact ⟨h1, h2⟩
  · exact fun h9 => ⟨i, rfl, h9⟩
theorem ex_0 {n : Nat} {P : Nat → Prop} (hn : n ≤ 2 ^ 31) : (∃ j, (0 : Int32) = nI j ∧ j < n ∧ P j) ↔ 0 < n ∧ P 0 := by
  rw [show (0 : Int32) = nI 0 from nI_0.symm]
  exact ex_ix (by decide) hn
theorem ex_ix1 {i n : Nat} {Q R : Prop} {P : Nat → Prop} (h : i < 2 ^ 31) (hn : n ≤ 2 ^ 31) : (∃ j, nI i = nI j ∧ j < n ∧ P j) ↔ i < n ∧ P i := ex_ix h hn
theorem b01_0 : b01 0 ↔ True := ⟨fun _ => trivial, fun _ => Or.inl rfl⟩
theorem b01_1 : b01 1 ↔ True := ⟨fun _ => trivial, fun _ => Or.inr rfl⟩
theorem KI_i {f : Int32 → Sg → Prop} {px : String → Sg → Prop} {x : Int32} {σ : Sg} : KI f px (.inl (some (.int x))) σ = f x σ := rfl
theorem KI_x {f : Int32 → Sg → Prop} {px : String → Sg → Prop} {E : String} {σ : Sg} : KI f px (.inr E) σ = px E σ := rfl
theorem KJ_j {f : Int64 → Sg → Prop} {px : String → Sg → Prop} {x : Int64} {σ : Sg} : KJ f px (.inl (some (.long x))) σ = f x σ := rfl
theorem KJ_x {f : Int64 → Sg → Prop} {px : String → Sg → Prop} {E : String} {σ : Sg} : KJ f px (.inr E) σ = px E σ := rfl
theorem KV_v {f : Sg → Prop} {px : String → Sg → Prop} {σ : Sg} : KV f px (.inl none) σ = f σ := rfl
theorem KV_x {f : Sg → Prop} {px : String → Sg → Prop} {E : String} {σ : Sg} : KV f px (.inr E) σ = px E σ := rfl
theorem KO_t {f : Option Nat → Sg → Prop} {px : String → Sg → Prop} {t : Nat} {σ : Sg} : KO f px (.inl (some (.ref t))) σ = f (some t) σ := rfl
theorem KO_n {f : Option Nat → Sg → Prop} {px : String → Sg → Prop} {σ : Sg} : KO f px (.inl (some .null)) σ = f none σ := rfl
theorem KO_x {f : Option Nat → Sg → Prop} {px : String → Sg → Prop} {E : String} {σ : Sg} : KO f px (.inr E) σ = px E σ := rfl
theorem tk_ne9 {c d i j : Nat} (h : c ≠ d) (hc : c < 32) (hd : d < 32) : tk c i = tk d j ↔ False := ⟨fun e => tk_ne hc hd h e, False.elim⟩
theorem i1e : (1 : Int32) = 0 ↔ False := by decide
theorem i2e : (2 : Int32) = 0 ↔ False := by decide
theorem i3e : (3 : Int32) = 0 ↔ False := by decide
theorem i1_0 : (1 : Int32) ≤ 0 ↔ False := by decide
theorem i2_0 : (2 : Int32) ≤ 0 ↔ False := by decide
theorem i3_0 : (3 : Int32) ≤ 0 ↔ False := by decide
theorem n4 (a : Nat) : (4 : Int32) * nI a = nI (4 * a) := (Int32.ofNat_mul 4 a).symm
theorem n3 (a : Nat) : (3 : Int32) * nI a = nI (3 * a) := (Int32.ofNat_mul 3 a).symm
/-- sums -/
def sumN (f : Nat → Int32) : Nat → Int32
  | 0 => 0
  | n + 1 => sumN f n + f n
theorem sumN_1 (f : Nat → Int32) (n : Nat) : sumN f (n + 1) = sumN f n + f n := rfl
theorem sumN_congr {f h : Nat → Int32} {n : Nat} (e : ∀ j, j < n → f j = h j) : sumN f n = sumN h n := by
  induction n with
  | zero => rfl
  | succ n ih => rw [sumN_1, sumN_1, ih fun j hj => e j (Nat.lt_succ_of_lt hj), e n (Nat.lt_succ_self n)]
