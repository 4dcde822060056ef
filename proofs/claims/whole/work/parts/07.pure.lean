/-! THE NUMBERS THEMSELVES: what both sides reckon. -/
def pIter (v : UInt64) : Nat → UInt64
  | 0 => FP.dadd FP.dconst1 v
  | n + 1 => FP.ddiv (FP.dadd (pIter v n) (FP.ddiv v (pIter v n))) 4611686018427387904
/-- ROOT -/
def pRoot (v : UInt64) : UInt64 := if xgt v FP.dconst0 = true then pIter v 40 else FP.dconst0
theorem pIter_vq {x z : UInt64} (h : vq x z) (n : Nat) : pIter x n = pIter z n := by
  induction n with
  | zero => exact vq_add (vq_rf _) h
  | succ n ih =>
    show FP.ddiv (FP.dadd (pIter x n) (FP.ddiv x (pIter x n))) _ = FP.ddiv (FP.dadd (pIter z n) (FP.ddiv z (pIter z n))) _
    rw [ih, vq_div h (vq_rf _)]
theorem pRoot_vq {x z : UInt64} (h : vq x z) : pRoot x = pRoot z := by
  unfold pRoot
  rw [vq_gt h (vq_rf _), pIter_vq h]
/-- a length -/
def pLen (x y : UInt64) : UInt64 := pRoot (FP.dadd (FP.dmul x x) (FP.dmul y y))
/-- DISTANCE from the first place to the other -/
def pDist (x0 y0 z0 x1 y1 z1 : UInt64) : UInt64 := pRoot (FP.dadd (FP.dadd (FP.dmul (FP.dsub x1 x0) (FP.dsub x1 x0)) (FP.dmul (FP.dsub y1 y0) (FP.dsub y1 y0))) (FP.dmul (FP.dsub z1 z0) (FP.dsub z1 z0)))
def pBetween (v a b : UInt64) : Bool := xge v a && xle v b
def pSize (v : UInt64) : UInt64 := if xlt v FP.dconst0 = true then FP.dneg v else v
def xB (b : Bool) : Int32 := if b then 1 else 0
theorem pLen_vq {x y a b : UInt64} (h1 : vq x a) (h2 : vq y b) : pLen x y = pLen a b := by
  unfold pLen
  rw [vq_mul h1 h1, vq_mul h2 h2]
theorem pSize_vq {x z : UInt64} (h : vq x z) : vq (pSize x) (pSize z) := by
  unfold pSize
  rw [vq_lt h (vq_rf _)]
  split
  · exact vq_neg h
  · exact h
theorem pBetween_t {v a b : UInt64} (h1 : xge v a = true) (h2 : xle v b = true) : xB (pBetween v a b) = 1 := by unfold pBetween; rw [h1, h2]; rfl
theorem pBetween_f1 {v a b : UInt64} (h1 : xge v a = false) : xB (pBetween v a b) = 0 := by unfold pBetween; rw [h1]; rfl
theorem pBetween_f2 {v a b : UInt64} (h1 : xge v a = true) (h2 : xle v b = false) : xB (pBetween v a b) = 0 := by unfold pBetween; rw [h1, h2]; rfl
