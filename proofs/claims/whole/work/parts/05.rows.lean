/-! NUMBERS: two doubles that stand for the same number, or are both none; rows of the arithmetic over it; comparisons with their branch. -/
section XNum
abbrev xv (x : UInt64) : Jvm.FP.Core.Datum := Jvm.FP.Core.val64 x
/-- x stands for the same number as e (zeros with their signs), or both are none -/
abbrev vq (x e : UInt64) : Prop := xv x = xv e
theorem xnan {b : UInt64} (h : isNaN64 b = true) : xv b = .nan := by
  have h1 : b &&& 0x7fffffffffffffff > 0x7ff0000000000000 := by
    unfold isNaN64 at h
    exact of_decide_eq_true h
  have h2 : (0x7ff0000000000000 : UInt64).toNat < (b &&& 0x7fffffffffffffff).toNat := UInt64.lt_iff_toNat_lt.mp h1
  have h3 : (b &&& 0x7fffffffffffffff).toNat = b.toNat % 2 ^ 63 := by
    rw [UInt64.toNat_and, show (0x7fffffffffffffff : UInt64).toNat = 2 ^ 63 - 1 from rfl, Nat.and_two_pow_sub_one_eq_mod]
  rw [h3] at h2
  have h4 : Jvm.FP.Core.dIsNaN b = true := (Jvm.FP.Core.isNaN_bits b).mpr h2
  unfold Jvm.FP.Core.dIsNaN Jvm.FP.Core.isNaN at h4
  exact of_decide_eq_true h4
theorem vq_al {x y : UInt64} (h : alike64 x y = true) : vq x y := by
  unfold alike64 at h
  rcases Bool.or_eq_true_iff.mp h with h | h
  · rw [of_decide_eq_true h]
  · obtain ⟨h1, h2⟩ := Bool.and_eq_true_iff.mp h
    rw [vq, xnan h1, xnan h2]
theorem vq_rf (x : UInt64) : vq x x := rfl
theorem xadd_def (x y : UInt64) : FP.dadd x y = .ofNat (Jvm.FP.Core.encode Jvm.FP.Core.b64 (Jvm.FP.Core.round Jvm.FP.Core.b64 (Jvm.FP.Core.exactSum (xv x) (xv y)))) := rfl
theorem xsub_def (x y : UInt64) : FP.dsub x y = .ofNat (Jvm.FP.Core.encode Jvm.FP.Core.b64 (Jvm.FP.Core.round Jvm.FP.Core.b64 (Jvm.FP.Core.exactSum (xv x) (Jvm.FP.Core.negate (xv y))))) := rfl
theorem xmul_def (x y : UInt64) : FP.dmul x y = .ofNat (Jvm.FP.Core.encode Jvm.FP.Core.b64 (Jvm.FP.Core.round Jvm.FP.Core.b64 (Jvm.FP.Core.exactProduct (xv x) (xv y)))) := rfl
theorem xdiv_def (x y : UInt64) : FP.ddiv x y = .ofNat (Jvm.FP.Core.encode Jvm.FP.Core.b64 (Jvm.FP.Core.quotient Jvm.FP.Core.b64 (xv x) (xv y))) := rfl
theorem xcmp_def (x y : UInt64) : FP.dcmp x y = Jvm.FP.Core.order (xv x) (xv y) := rfl
theorem xd2i_def (x : UInt64) : FP.d2i x = Jvm.FP.Core.toI (xv x) := rfl
theorem vq_add {x y a b : UInt64} (h1 : vq x a) (h2 : vq y b) : FP.dadd x y = FP.dadd a b := by
  have h1 : xv x = xv a := h1
  have h2 : xv y = xv b := h2
  rw [xadd_def, xadd_def, h1, h2]
theorem vq_sub {x y a b : UInt64} (h1 : vq x a) (h2 : vq y b) : FP.dsub x y = FP.dsub a b := by
  have h1 : xv x = xv a := h1
  have h2 : xv y = xv b := h2
  rw [xsub_def, xsub_def, h1, h2]
theorem vq_mul {x y a b : UInt64} (h1 : vq x a) (h2 : vq y b) : FP.dmul x y = FP.dmul a b := by
  have h1 : xv x = xv a := h1
  have h2 : xv y = xv b := h2
  rw [xmul_def, xmul_def, h1, h2]
theorem vq_div {x y a b : UInt64} (h1 : vq x a) (h2 : vq y b) : FP.ddiv x y = FP.ddiv a b := by
  have h1 : xv x = xv a := h1
  have h2 : xv y = xv b := h2
  rw [xdiv_def, xdiv_def, h1, h2]
theorem vq_cmp {x y a b : UInt64} (h1 : vq x a) (h2 : vq y b) : FP.dcmp x y = FP.dcmp a b := by
  have h1 : xv x = xv a := h1
  have h2 : xv y = xv b := h2
  rw [xcmp_def, xcmp_def, h1, h2]
theorem vq_d2i {x a : UInt64} (h1 : vq x a) : FP.d2i x = FP.d2i a := by
  have h1 : xv x = xv a := h1
  rw [xd2i_def, xd2i_def, h1]
theorem vq_neg {x a : UInt64} (h1 : vq x a) : vq (FP.dneg x) (FP.dneg a) := by
  show Jvm.FP.Core.val64 (FP.dneg x) = Jvm.FP.Core.val64 (FP.dneg a)
  rw [Jvm.FP.val64_dneg, Jvm.FP.val64_dneg]
  exact congrArg _ h1
/-- x > y, x >= y, x < y, x <= y, x == y, as Java asks it: false where one is none -/
def xgt (x y : UInt64) : Bool := decide (FP.dcmp x y = some .gt)
def xge (x y : UInt64) : Bool := decide (FP.dcmp x y = some .gt) || decide (FP.dcmp x y = some .eq)
def xlt (x y : UInt64) : Bool := decide (FP.dcmp x y = some .lt)
def xle (x y : UInt64) : Bool := decide (FP.dcmp x y = some .lt) || decide (FP.dcmp x y = some .eq)
def xeq (x y : UInt64) : Bool := decide (FP.dcmp x y = some .eq)
theorem vq_gt {x y a b : UInt64} (h1 : vq x a) (h2 : vq y b) : xgt x y = xgt a b := by
  unfold xgt
  rw [vq_cmp h1 h2]
theorem vq_ge {x y a b : UInt64} (h1 : vq x a) (h2 : vq y b) : xge x y = xge a b := by
  unfold xge
  rw [vq_cmp h1 h2]
theorem vq_lt {x y a b : UInt64} (h1 : vq x a) (h2 : vq y b) : xlt x y = xlt a b := by
  unfold xlt
  rw [vq_cmp h1 h2]
theorem vq_le {x y a b : UInt64} (h1 : vq x a) (h2 : vq y b) : xle x y = xle a b := by
  unfold xle
  rw [vq_cmp h1 h2]
theorem vq_eq {x y a b : UInt64} (h1 : vq x a) (h2 : vq y b) : xeq x y = xeq a b := by
  unfold xeq
  rw [vq_cmp h1 h2]
variable {p : Program} {l : Launch} {e : Env} {R : Room} {s : State} {m : MethodId} {args : Array Value} {below : List Frame} {meth : Method} {c : Code} {H : Heap} {locs : List Loc} {cells slots : Nat} {Q : State → Prop}
variable {cc : ByteArray} {pc : Nat} {ls : Array Slot} {rest : List Value} {d0 : Drawn}
theorem xdadd (hd0 : s.drawn.sameBut d0 lw_cs) (hexec : p.tables.exec = Jvm.exec) (hb : c.code = cc) {x y a b : UInt64} (hx : vq x a) (hy : vq y b) (hdg : decode cc pc = .ok (.dadd, 1))
    (k : ∀ (r : UInt64) (d' : Drawn), vq r (FP.dadd a b) → s.drawn.sameBut d' lw_cs → W p l e R (s.setDrawn d') m args below meth c H locs cells slots Q (F0 m (pc + 1) ls (.double r :: rest))) : W p l e R (s.setDrawn d0) m args below meth c H locs cells slots Q (F0 m pc ls (.double y :: .double x :: rest)) :=
  lv_dadd_any hd0 lw_bits hexec hb hdg fun r d' hal hd => k r d' (by rw [← vq_add hx hy]; exact vq_al hal) hd
theorem xdsub (hd0 : s.drawn.sameBut d0 lw_cs) (hexec : p.tables.exec = Jvm.exec) (hb : c.code = cc) {x y a b : UInt64} (hx : vq x a) (hy : vq y b) (hdg : decode cc pc = .ok (.dsub, 1))
    (k : ∀ (r : UInt64) (d' : Drawn), vq r (FP.dsub a b) → s.drawn.sameBut d' lw_cs → W p l e R (s.setDrawn d') m args below meth c H locs cells slots Q (F0 m (pc + 1) ls (.double r :: rest))) : W p l e R (s.setDrawn d0) m args below meth c H locs cells slots Q (F0 m pc ls (.double y :: .double x :: rest)) :=
  lv_dsub_any hd0 lw_bits hexec hb hdg fun r d' hal hd => k r d' (by rw [← vq_sub hx hy]; exact vq_al hal) hd
theorem xdmul (hd0 : s.drawn.sameBut d0 lw_cs) (hexec : p.tables.exec = Jvm.exec) (hb : c.code = cc) {x y a b : UInt64} (hx : vq x a) (hy : vq y b) (hdg : decode cc pc = .ok (.dmul, 1))
    (k : ∀ (r : UInt64) (d' : Drawn), vq r (FP.dmul a b) → s.drawn.sameBut d' lw_cs → W p l e R (s.setDrawn d') m args below meth c H locs cells slots Q (F0 m (pc + 1) ls (.double r :: rest))) : W p l e R (s.setDrawn d0) m args below meth c H locs cells slots Q (F0 m pc ls (.double y :: .double x :: rest)) :=
  lv_dmul_any hd0 lw_bits hexec hb hdg fun r d' hal hd => k r d' (by rw [← vq_mul hx hy]; exact vq_al hal) hd
theorem xddiv (hd0 : s.drawn.sameBut d0 lw_cs) (hexec : p.tables.exec = Jvm.exec) (hb : c.code = cc) {x y a b : UInt64} (hx : vq x a) (hy : vq y b) (hdg : decode cc pc = .ok (.ddiv, 1))
    (k : ∀ (r : UInt64) (d' : Drawn), vq r (FP.ddiv a b) → s.drawn.sameBut d' lw_cs → W p l e R (s.setDrawn d') m args below meth c H locs cells slots Q (F0 m (pc + 1) ls (.double r :: rest))) : W p l e R (s.setDrawn d0) m args below meth c H locs cells slots Q (F0 m pc ls (.double y :: .double x :: rest)) :=
  lv_ddiv_any hd0 lw_bits hexec hb hdg fun r d' hal hd => k r d' (by rw [← vq_div hx hy]; exact vq_al hal) hd
theorem xcmp_l_le (hexec : p.tables.exec = Jvm.exec) (hb : c.code = cc) {x y a b : UInt64} (hx : vq x a) (hy : vq y b) {off : Int} {tgt : Nat} (hdg : decode cc pc = .ok (.dcmp .l, 1)) (hdg2 : decode cc (pc + 1) = .ok (.ifCond .le off, 3)) (ht : ((pc + 1 : Nat) : Int) + off = (tgt : Int))
    (kt : xgt a b = false → W p l e R s m args below meth c H locs cells slots Q (F0 m tgt ls rest)) (kf : xgt a b = true → W p l e R s m args below meth c H locs cells slots Q (F0 m (pc + 1 + 3) ls rest)) : W p l e R s m args below meth c H locs cells slots Q (F0 m pc ls (.double y :: .double x :: rest)) := by
  refine lv_dcmp hexec hb hdg ?_
  rw [vq_cmp hx hy]
  unfold xgt at kt kf
  generalize FP.dcmp a b = o at kt kf ⊢
  refine lv_if_le (tgt := tgt) hexec hb hdg2 ht (fun h => kt ?_) (fun h => kf ?_)
  · revert h
    rcases o with _ | o
    · decide
    · cases o <;> decide
  · revert h
    rcases o with _ | o
    · decide
    · cases o <;> decide
theorem xcmp_l_gt (hexec : p.tables.exec = Jvm.exec) (hb : c.code = cc) {x y a b : UInt64} (hx : vq x a) (hy : vq y b) {off : Int} {tgt : Nat} (hdg : decode cc pc = .ok (.dcmp .l, 1)) (hdg2 : decode cc (pc + 1) = .ok (.ifCond .gt off, 3)) (ht : ((pc + 1 : Nat) : Int) + off = (tgt : Int))
    (kt : xgt a b = true → W p l e R s m args below meth c H locs cells slots Q (F0 m tgt ls rest)) (kf : xgt a b = false → W p l e R s m args below meth c H locs cells slots Q (F0 m (pc + 1 + 3) ls rest)) : W p l e R s m args below meth c H locs cells slots Q (F0 m pc ls (.double y :: .double x :: rest)) := by
  refine lv_dcmp hexec hb hdg ?_
  rw [vq_cmp hx hy]
  unfold xgt at kt kf
  generalize FP.dcmp a b = o at kt kf ⊢
  refine lv_if_gt (tgt := tgt) hexec hb hdg2 ht (fun h => kt ?_) (fun h => kf ?_)
  · revert h
    rcases o with _ | o
    · decide
    · cases o <;> decide
  · revert h
    rcases o with _ | o
    · decide
    · cases o <;> decide
theorem xcmp_l_lt (hexec : p.tables.exec = Jvm.exec) (hb : c.code = cc) {x y a b : UInt64} (hx : vq x a) (hy : vq y b) {off : Int} {tgt : Nat} (hdg : decode cc pc = .ok (.dcmp .l, 1)) (hdg2 : decode cc (pc + 1) = .ok (.ifCond .lt off, 3)) (ht : ((pc + 1 : Nat) : Int) + off = (tgt : Int))
    (kt : xge a b = false → W p l e R s m args below meth c H locs cells slots Q (F0 m tgt ls rest)) (kf : xge a b = true → W p l e R s m args below meth c H locs cells slots Q (F0 m (pc + 1 + 3) ls rest)) : W p l e R s m args below meth c H locs cells slots Q (F0 m pc ls (.double y :: .double x :: rest)) := by
  refine lv_dcmp hexec hb hdg ?_
  rw [vq_cmp hx hy]
  unfold xge at kt kf
  generalize FP.dcmp a b = o at kt kf ⊢
  refine lv_if_lt (tgt := tgt) hexec hb hdg2 ht (fun h => kt ?_) (fun h => kf ?_)
  · revert h
    rcases o with _ | o
    · decide
    · cases o <;> decide
  · revert h
    rcases o with _ | o
    · decide
    · cases o <;> decide
theorem xcmp_l_ge (hexec : p.tables.exec = Jvm.exec) (hb : c.code = cc) {x y a b : UInt64} (hx : vq x a) (hy : vq y b) {off : Int} {tgt : Nat} (hdg : decode cc pc = .ok (.dcmp .l, 1)) (hdg2 : decode cc (pc + 1) = .ok (.ifCond .ge off, 3)) (ht : ((pc + 1 : Nat) : Int) + off = (tgt : Int))
    (kt : xge a b = true → W p l e R s m args below meth c H locs cells slots Q (F0 m tgt ls rest)) (kf : xge a b = false → W p l e R s m args below meth c H locs cells slots Q (F0 m (pc + 1 + 3) ls rest)) : W p l e R s m args below meth c H locs cells slots Q (F0 m pc ls (.double y :: .double x :: rest)) := by
  refine lv_dcmp hexec hb hdg ?_
  rw [vq_cmp hx hy]
  unfold xge at kt kf
  generalize FP.dcmp a b = o at kt kf ⊢
  refine lv_if_ge (tgt := tgt) hexec hb hdg2 ht (fun h => kt ?_) (fun h => kf ?_)
  · revert h
    rcases o with _ | o
    · decide
    · cases o <;> decide
  · revert h
    rcases o with _ | o
    · decide
    · cases o <;> decide
theorem xcmp_l_ne (hexec : p.tables.exec = Jvm.exec) (hb : c.code = cc) {x y a b : UInt64} (hx : vq x a) (hy : vq y b) {off : Int} {tgt : Nat} (hdg : decode cc pc = .ok (.dcmp .l, 1)) (hdg2 : decode cc (pc + 1) = .ok (.ifCond .ne off, 3)) (ht : ((pc + 1 : Nat) : Int) + off = (tgt : Int))
    (kt : xeq a b = false → W p l e R s m args below meth c H locs cells slots Q (F0 m tgt ls rest)) (kf : xeq a b = true → W p l e R s m args below meth c H locs cells slots Q (F0 m (pc + 1 + 3) ls rest)) : W p l e R s m args below meth c H locs cells slots Q (F0 m pc ls (.double y :: .double x :: rest)) := by
  refine lv_dcmp hexec hb hdg ?_
  rw [vq_cmp hx hy]
  unfold xeq at kt kf
  generalize FP.dcmp a b = o at kt kf ⊢
  refine lv_if_ne (tgt := tgt) hexec hb hdg2 ht (fun h => kt ?_) (fun h => kf ?_)
  · revert h
    rcases o with _ | o
    · decide
    · cases o <;> decide
  · revert h
    rcases o with _ | o
    · decide
    · cases o <;> decide
theorem xcmp_l_eq (hexec : p.tables.exec = Jvm.exec) (hb : c.code = cc) {x y a b : UInt64} (hx : vq x a) (hy : vq y b) {off : Int} {tgt : Nat} (hdg : decode cc pc = .ok (.dcmp .l, 1)) (hdg2 : decode cc (pc + 1) = .ok (.ifCond .eq off, 3)) (ht : ((pc + 1 : Nat) : Int) + off = (tgt : Int))
    (kt : xeq a b = true → W p l e R s m args below meth c H locs cells slots Q (F0 m tgt ls rest)) (kf : xeq a b = false → W p l e R s m args below meth c H locs cells slots Q (F0 m (pc + 1 + 3) ls rest)) : W p l e R s m args below meth c H locs cells slots Q (F0 m pc ls (.double y :: .double x :: rest)) := by
  refine lv_dcmp hexec hb hdg ?_
  rw [vq_cmp hx hy]
  unfold xeq at kt kf
  generalize FP.dcmp a b = o at kt kf ⊢
  refine lv_if_eq (tgt := tgt) hexec hb hdg2 ht (fun h => kt ?_) (fun h => kf ?_)
  · revert h
    rcases o with _ | o
    · decide
    · cases o <;> decide
  · revert h
    rcases o with _ | o
    · decide
    · cases o <;> decide
theorem xcmp_g_ge (hexec : p.tables.exec = Jvm.exec) (hb : c.code = cc) {x y a b : UInt64} (hx : vq x a) (hy : vq y b) {off : Int} {tgt : Nat} (hdg : decode cc pc = .ok (.dcmp .g, 1)) (hdg2 : decode cc (pc + 1) = .ok (.ifCond .ge off, 3)) (ht : ((pc + 1 : Nat) : Int) + off = (tgt : Int))
    (kt : xlt a b = false → W p l e R s m args below meth c H locs cells slots Q (F0 m tgt ls rest)) (kf : xlt a b = true → W p l e R s m args below meth c H locs cells slots Q (F0 m (pc + 1 + 3) ls rest)) : W p l e R s m args below meth c H locs cells slots Q (F0 m pc ls (.double y :: .double x :: rest)) := by
  refine lv_dcmp hexec hb hdg ?_
  rw [vq_cmp hx hy]
  unfold xlt at kt kf
  generalize FP.dcmp a b = o at kt kf ⊢
  refine lv_if_ge (tgt := tgt) hexec hb hdg2 ht (fun h => kt ?_) (fun h => kf ?_)
  · revert h
    rcases o with _ | o
    · decide
    · cases o <;> decide
  · revert h
    rcases o with _ | o
    · decide
    · cases o <;> decide
theorem xcmp_g_lt (hexec : p.tables.exec = Jvm.exec) (hb : c.code = cc) {x y a b : UInt64} (hx : vq x a) (hy : vq y b) {off : Int} {tgt : Nat} (hdg : decode cc pc = .ok (.dcmp .g, 1)) (hdg2 : decode cc (pc + 1) = .ok (.ifCond .lt off, 3)) (ht : ((pc + 1 : Nat) : Int) + off = (tgt : Int))
    (kt : xlt a b = true → W p l e R s m args below meth c H locs cells slots Q (F0 m tgt ls rest)) (kf : xlt a b = false → W p l e R s m args below meth c H locs cells slots Q (F0 m (pc + 1 + 3) ls rest)) : W p l e R s m args below meth c H locs cells slots Q (F0 m pc ls (.double y :: .double x :: rest)) := by
  refine lv_dcmp hexec hb hdg ?_
  rw [vq_cmp hx hy]
  unfold xlt at kt kf
  generalize FP.dcmp a b = o at kt kf ⊢
  refine lv_if_lt (tgt := tgt) hexec hb hdg2 ht (fun h => kt ?_) (fun h => kf ?_)
  · revert h
    rcases o with _ | o
    · decide
    · cases o <;> decide
  · revert h
    rcases o with _ | o
    · decide
    · cases o <;> decide
theorem xcmp_g_gt (hexec : p.tables.exec = Jvm.exec) (hb : c.code = cc) {x y a b : UInt64} (hx : vq x a) (hy : vq y b) {off : Int} {tgt : Nat} (hdg : decode cc pc = .ok (.dcmp .g, 1)) (hdg2 : decode cc (pc + 1) = .ok (.ifCond .gt off, 3)) (ht : ((pc + 1 : Nat) : Int) + off = (tgt : Int))
    (kt : xle a b = false → W p l e R s m args below meth c H locs cells slots Q (F0 m tgt ls rest)) (kf : xle a b = true → W p l e R s m args below meth c H locs cells slots Q (F0 m (pc + 1 + 3) ls rest)) : W p l e R s m args below meth c H locs cells slots Q (F0 m pc ls (.double y :: .double x :: rest)) := by
  refine lv_dcmp hexec hb hdg ?_
  rw [vq_cmp hx hy]
  unfold xle at kt kf
  generalize FP.dcmp a b = o at kt kf ⊢
  refine lv_if_gt (tgt := tgt) hexec hb hdg2 ht (fun h => kt ?_) (fun h => kf ?_)
  · revert h
    rcases o with _ | o
    · decide
    · cases o <;> decide
  · revert h
    rcases o with _ | o
    · decide
    · cases o <;> decide
theorem xcmp_g_le (hexec : p.tables.exec = Jvm.exec) (hb : c.code = cc) {x y a b : UInt64} (hx : vq x a) (hy : vq y b) {off : Int} {tgt : Nat} (hdg : decode cc pc = .ok (.dcmp .g, 1)) (hdg2 : decode cc (pc + 1) = .ok (.ifCond .le off, 3)) (ht : ((pc + 1 : Nat) : Int) + off = (tgt : Int))
    (kt : xle a b = true → W p l e R s m args below meth c H locs cells slots Q (F0 m tgt ls rest)) (kf : xle a b = false → W p l e R s m args below meth c H locs cells slots Q (F0 m (pc + 1 + 3) ls rest)) : W p l e R s m args below meth c H locs cells slots Q (F0 m pc ls (.double y :: .double x :: rest)) := by
  refine lv_dcmp hexec hb hdg ?_
  rw [vq_cmp hx hy]
  unfold xle at kt kf
  generalize FP.dcmp a b = o at kt kf ⊢
  refine lv_if_le (tgt := tgt) hexec hb hdg2 ht (fun h => kt ?_) (fun h => kf ?_)
  · revert h
    rcases o with _ | o
    · decide
    · cases o <;> decide
  · revert h
    rcases o with _ | o
    · decide
    · cases o <;> decide
theorem xcmp_g_ne (hexec : p.tables.exec = Jvm.exec) (hb : c.code = cc) {x y a b : UInt64} (hx : vq x a) (hy : vq y b) {off : Int} {tgt : Nat} (hdg : decode cc pc = .ok (.dcmp .g, 1)) (hdg2 : decode cc (pc + 1) = .ok (.ifCond .ne off, 3)) (ht : ((pc + 1 : Nat) : Int) + off = (tgt : Int))
    (kt : xeq a b = false → W p l e R s m args below meth c H locs cells slots Q (F0 m tgt ls rest)) (kf : xeq a b = true → W p l e R s m args below meth c H locs cells slots Q (F0 m (pc + 1 + 3) ls rest)) : W p l e R s m args below meth c H locs cells slots Q (F0 m pc ls (.double y :: .double x :: rest)) := by
  refine lv_dcmp hexec hb hdg ?_
  rw [vq_cmp hx hy]
  unfold xeq at kt kf
  generalize FP.dcmp a b = o at kt kf ⊢
  refine lv_if_ne (tgt := tgt) hexec hb hdg2 ht (fun h => kt ?_) (fun h => kf ?_)
  · revert h
    rcases o with _ | o
    · decide
    · cases o <;> decide
  · revert h
    rcases o with _ | o
    · decide
    · cases o <;> decide
theorem xcmp_g_eq (hexec : p.tables.exec = Jvm.exec) (hb : c.code = cc) {x y a b : UInt64} (hx : vq x a) (hy : vq y b) {off : Int} {tgt : Nat} (hdg : decode cc pc = .ok (.dcmp .g, 1)) (hdg2 : decode cc (pc + 1) = .ok (.ifCond .eq off, 3)) (ht : ((pc + 1 : Nat) : Int) + off = (tgt : Int))
    (kt : xeq a b = true → W p l e R s m args below meth c H locs cells slots Q (F0 m tgt ls rest)) (kf : xeq a b = false → W p l e R s m args below meth c H locs cells slots Q (F0 m (pc + 1 + 3) ls rest)) : W p l e R s m args below meth c H locs cells slots Q (F0 m pc ls (.double y :: .double x :: rest)) := by
  refine lv_dcmp hexec hb hdg ?_
  rw [vq_cmp hx hy]
  unfold xeq at kt kf
  generalize FP.dcmp a b = o at kt kf ⊢
  refine lv_if_eq (tgt := tgt) hexec hb hdg2 ht (fun h => kt ?_) (fun h => kf ?_)
  · revert h
    rcases o with _ | o
    · decide
    · cases o <;> decide
  · revert h
    rcases o with _ | o
    · decide
    · cases o <;> decide
end XNum
section XHeap
variable {p : Program} {l : Launch} {e : Env} {R : Room} {s : State} {m : MethodId} {args : Array Value} {below : List Frame} {meth : Method} {c : Code} {H : Heap} {locs : List Loc} {cells slots : Nat} {Q : State → Prop}
variable {cc : ByteArray} {pc : Nat} {ls : Array Slot} {rest : List Value} {G : va_G} {tys : List (ClassId × FieldType)} {a b0 : Nat} {H0 : Heap}
/-- the heap H1 is H but for the cell a, which is e now -/
abbrev xset (G : va_G) (a : Nat) (e : va_E) (H H1 : Heap) : Prop := xc G a e H1 ∧ H1.size = H.size ∧ ∀ q : Nat, q ≠ a → H1[q]? = H[q]?
theorem xput (hexec : p.tables.exec = Jvm.exec) (hb : c.code = cc) {own ref C : String} {T : u_T} {N ci index : Nat} {Ts : List Cond} (hts : ∀ w ∈ Ts, w.before args s = true) (hin : ∀ w ∈ u_ws C T N, w ∈ Ts) (ty0 : Nat → FieldType) (hty : ∀ k, k < N → parseFieldDescriptor (T k).2.2.1 = some (ty0 k)) (hnm : ∀ a, a < N → ∀ b, b < N → a ≠ b → (T a).2.1 ≠ (T b).2.1) (hown : s.vm.findClass own = some m.cls) (hK : va_K G vwCl tys s) {fs : List Value} (hP : xc G a (.inr (ci, fs)) H) (hS : va_S (xA b0) H0 H locs) (ha : b0 ≤ a) (hc : vwCl[ci]? = some (C, T, N)) (k : Nat) (hk : k < N) (hlink : (Cond.fieldLink own index ref (T k).2.1 (T k).2.2.1).before args s = true) (hsame : ∀ x, s.fieldFound? (T k).1 (T k).2.1 (T k).2.2.1 = some x → s.fieldFound? ref (T k).2.1 (T k).2.2.1 = some x) (hfin : (T k).2.2.2 = false) {ty : FieldType} {v : Value} (hd : parseFieldDescriptor (T k).2.2.1 = some ty) (hn : narrow ty v = v) (hfit : fits ty v = true) (hl : k < fs.length)
    (hdg : decode cc pc = .ok (.putfield index, 3)) (kk : ∀ (H1 : Heap) (locs1 : List Loc), xset G a (.inr (ci, fs.set k v)) H H1 → va_S (xA b0) H0 H1 locs1 → W p l e R s m args below meth c H1 locs1 cells slots Q (F0 m (pc + 3) ls rest)) : W p l e R s m args below meth c H locs cells slots Q (F0 m pc ls (v :: .ref a :: rest)) := by
  have hap := va_apart (own := own) hts hin ty0 hty hnm hK hc
  have hP0 := hP
  obtain ⟨r, h1, cell, q1, q2, q3, q4⟩ := hP
  have hr : r = (C, T, N) := Option.some.inj (h1.symm.trans hc)
  subst hr
  obtain ⟨hSS, hfc, kC, hkC, hkind⟩ := hK.1 ci _ hc
  obtain ⟨cf, kf, fi, f, hi, hsl⟩ := hSS k hk
  have hlay := hts _ (hin _ (u_in_lay hk))
  unfold u_lay at hlay
  rw [if_neg (by rw [hfin]; decide)] at hlay
  have hst := (u_facts hfc hkC (u_lays hts hin hk) hi).1
  have h6 := u_store hfc hkC hkind hlay hi hd hn hfit
  refine W.putK hexec hb (f := f) ⟨hown, hlink, ⟨_, _, _, hsame _ hi⟩, hst⟩ (by rw [q2]; exact h6) q1 q3 (by rw [hsl]; exact k2_hasslot (q4 k hk)) rfl rfl hdg fun H' e1 e2 e3 => ?_
  rw [hsl] at e1 ⊢
  exact kk H' _ ⟨⟨_, hc, t_OB.to (V := updV (vp_V fs) k v) ⟨_, e1, q2, q3, t_set q4 hap hk v⟩ (fun j _ => vp_updV_set hl v j)⟩, e2, e3⟩ (hS.put e2 e3 ha)
theorem xputF (hexec : p.tables.exec = Jvm.exec) (hb : c.code = cc) {own ref C : String} {T : u_T} {N ci index : Nat} {Ts : List Cond} (hts : ∀ w ∈ Ts, w.before args s = true) (hin : ∀ w ∈ u_ws C T N, w ∈ Ts) (ty0 : Nat → FieldType) (hty : ∀ k, k < N → parseFieldDescriptor (T k).2.2.1 = some (ty0 k)) (hnm : ∀ a, a < N → ∀ b, b < N → a ≠ b → (T a).2.1 ≠ (T b).2.1) (hown : s.vm.findClass own = some m.cls) (hK : va_K G vwCl tys s) {fs : List Value} (hP : xc G a (.inr (ci, fs)) H) (hS : va_S (xA b0) H0 H locs) (ha : b0 ≤ a) (hc : vwCl[ci]? = some (C, T, N)) (k : Nat) (hk : k < N) (hlink : (Cond.fieldLink own index ref (T k).2.1 (T k).2.2.1).before args s = true) (hsame : ∀ x, s.fieldFound? (T k).1 (T k).2.1 (T k).2.2.1 = some x → s.fieldFound? ref (T k).2.1 (T k).2.2.1 = some x) (hfin : (T k).2.2.2 = true) (hin2 : meth.name = "<init>") (hdecl : (T k).1 = own) {ty : FieldType} {v : Value} (hd : parseFieldDescriptor (T k).2.2.1 = some ty) (hn : narrow ty v = v) (hfit : fits ty v = true) (hl : k < fs.length)
    (hdg : decode cc pc = .ok (.putfield index, 3)) (kk : ∀ (H1 : Heap) (locs1 : List Loc), xset G a (.inr (ci, fs.set k v)) H H1 → va_S (xA b0) H0 H1 locs1 → W p l e R s m args below meth c H1 locs1 cells slots Q (F0 m (pc + 3) ls rest)) : W p l e R s m args below meth c H locs cells slots Q (F0 m pc ls (v :: .ref a :: rest)) := by
  have hap := va_apart (own := own) hts hin ty0 hty hnm hK hc
  obtain ⟨r, h1, cell, q1, q2, q3, q4⟩ := hP
  have hr : r = (C, T, N) := Option.some.inj (h1.symm.trans hc)
  subst hr
  obtain ⟨hSS, hfc, kC, hkC, hkind⟩ := hK.1 ci _ hc
  obtain ⟨cf, kf, fi, f, hi, hsl⟩ := hSS k hk
  have hlay := hts _ (hin _ (u_in_lay hk))
  unfold u_lay at hlay
  rw [if_pos hfin] at hlay
  have hst := (u_facts hfc hkC (u_lays hts hin hk) hi).1
  have hcf : m.cls = cf := by
    obtain ⟨_, _, c', _, _, _, -, -, hf', -, -, -, hown2, -⟩ := Cond.laysFinal_spec hlay
    have e1 : c' = cf := by have := hi.symm.trans hf'; simp at this; exact this.1.symm
    rw [hdecl] at hown2
    rw [← e1]; exact Option.some.inj (hown.symm.trans hown2)
  have h6 := u_fits hfc hkC hkind (Or.inr hlay) hi hd hn hfit
  refine W.putFinK hexec hb hown hlink (hsame _ hi) hst hcf hin2 (by rw [q2]; exact h6) q1 q3 (by rw [hsl]; exact k2_hasslot (q4 k hk)) rfl rfl hdg fun H' e1 e2 e3 => ?_
  rw [hsl] at e1 ⊢
  exact kk H' _ ⟨⟨_, hc, t_OB.to (V := updV (vp_V fs) k v) ⟨_, e1, q2, q3, t_set q4 hap hk v⟩ (fun j _ => vp_updV_set hl v j)⟩, e2, e3⟩ (hS.put e2 e3 ha)
theorem xdast (hexec : p.tables.exec = Jvm.exec) (hb : c.code = cc) (hK : va_K G vwCl tys s) (t0 : Nat) {cA : ClassId} {n : Nat} {f : Nat → UInt64} (hP : xc G a (.inl (cA, n, .inr (.inr (.inr (.inl f))))) H) (hS : va_S (xA b0) H0 H locs) (ha : b0 ≤ a) (ht : tys[t0]? = some (cA, .double)) {i : Int32} {x : UInt64} (hin : vp_in i n) (hdg : decode cc pc = .ok (.dastore, 1))
    (kk : ∀ (H1 : Heap) (locs1 : List Loc), xset G a (.inl (cA, n, .inr (.inr (.inr (.inl (vf_upd f i.toNatClampNeg x)))))) H H1 → va_S (xA b0) H0 H1 locs1 → W p l e R s m args below meth c H1 locs1 cells slots Q (F0 m (pc + 1) ls rest)) : W p l e R s m args below meth c H locs cells slots Q (F0 m pc ls (.double x :: .int i :: .ref a :: rest)) := by
  refine W.dast hexec hb hP ((hK.2 t0 _ ht).1 n (fun j => .double (f j))) (fun q => by cases q) (by show ¬ (i < 0 ∨ (arrV _ _ _).slots.size ≤ _); rw [arrV_size]; exact hin) rfl rfl hdg fun H1 e1 z oq => ?_
  refine kk H1 _ ⟨?_, z, oq⟩ (hS.put z oq ha)
  show H1[a]? = some (vp_cell _ _)
  rw [e1]
  rw [vp_cell_d, vp_cell_d, arrV_store]
  congr 2
  funext q
  by_cases hq : q = i.toNatClampNeg
  · subst hq
    simp [updV, vf_upd]
    
  · simp [updV, vf_upd, hq]
theorem xiast (hexec : p.tables.exec = Jvm.exec) (hb : c.code = cc) (hK : va_K G vwCl tys s) (t0 : Nat) {cA : ClassId} {n : Nat} {f : Nat → Int32} (hP : xc G a (.inl (cA, n, .inl f)) H) (hS : va_S (xA b0) H0 H locs) (ha : b0 ≤ a) (ht : tys[t0]? = some (cA, .int)) {i : Int32} {x : Int32} (hin : vp_in i n) (hdg : decode cc pc = .ok (.iastore, 1))
    (kk : ∀ (H1 : Heap) (locs1 : List Loc), xset G a (.inl (cA, n, .inl (upd f i.toNatClampNeg x))) H H1 → va_S (xA b0) H0 H1 locs1 → W p l e R s m args below meth c H1 locs1 cells slots Q (F0 m (pc + 1) ls rest)) : W p l e R s m args below meth c H locs cells slots Q (F0 m pc ls (.int x :: .int i :: .ref a :: rest)) := by
  refine W.iast hexec hb hP ((hK.2 t0 _ ht).1 n (fun j => .int (f j))) (fun q => by cases q) (by show ¬ (i < 0 ∨ (arrV _ _ _).slots.size ≤ _); rw [arrV_size]; exact hin) rfl rfl hdg fun H1 e1 z oq => ?_
  refine kk H1 _ ⟨?_, z, oq⟩ (hS.put z oq ha)
  show H1[a]? = some (vp_cell _ _)
  rw [e1]
  rw [vp_cell_i, vp_cell_i, arrV_store]
  congr 2
  funext q
  by_cases hq : q = i.toNatClampNeg
  · subst hq
    simp [updV, upd]
    
  · simp [updV, upd, hq]
theorem xzast (hexec : p.tables.exec = Jvm.exec) (hb : c.code = cc) (hK : va_K G vwCl tys s) (t0 : Nat) {cA : ClassId} {n : Nat} {f : Nat → Int32} (hP : xc G a (.inl (cA, n, .inl f)) H) (hS : va_S (xA b0) H0 H locs) (ha : b0 ≤ a) (ht : tys[t0]? = some (cA, .boolean)) {i : Int32} {x : Int32} (hin : vp_in i n) (hdg : decode cc pc = .ok (.bastore, 1))
    (kk : ∀ (H1 : Heap) (locs1 : List Loc), xset G a (.inl (cA, n, .inl (upd f i.toNatClampNeg (vp_nar .boolean x)))) H H1 → va_S (xA b0) H0 H1 locs1 → W p l e R s m args below meth c H1 locs1 cells slots Q (F0 m (pc + 1) ls rest)) : W p l e R s m args below meth c H locs cells slots Q (F0 m pc ls (.int x :: .int i :: .ref a :: rest)) := by
  refine W.zast hexec hb hP ((hK.2 t0 _ ht).1 n (fun j => .int (f j))) (fun q => by cases q) (by show ¬ (i < 0 ∨ (arrV _ _ _).slots.size ≤ _); rw [arrV_size]; exact hin) rfl rfl hdg fun H1 e1 z oq => ?_
  refine kk H1 _ ⟨?_, z, oq⟩ (hS.put z oq ha)
  show H1[a]? = some (vp_cell _ _)
  rw [e1]
  rw [vp_cell_i, vp_cell_i, arrV_store]
  congr 2
  funext q
  by_cases hq : q = i.toNatClampNeg
  · subst hq
    simp [updV, upd, vp_nar]
    try rfl
  · simp [updV, upd, vp_nar, hq]
theorem xlast (hexec : p.tables.exec = Jvm.exec) (hb : c.code = cc) (hK : va_K G vwCl tys s) (t0 : Nat) {cA : ClassId} {n : Nat} {f : Nat → Int64} (hP : xc G a (.inl (cA, n, .inr (.inl f))) H) (hS : va_S (xA b0) H0 H locs) (ha : b0 ≤ a) (ht : tys[t0]? = some (cA, .long)) {i : Int32} {x : Int64} (hin : vp_in i n) (hdg : decode cc pc = .ok (.lastore, 1))
    (kk : ∀ (H1 : Heap) (locs1 : List Loc), xset G a (.inl (cA, n, .inr (.inl (vp_updL f i.toNatClampNeg x)))) H H1 → va_S (xA b0) H0 H1 locs1 → W p l e R s m args below meth c H1 locs1 cells slots Q (F0 m (pc + 1) ls rest)) : W p l e R s m args below meth c H locs cells slots Q (F0 m pc ls (.long x :: .int i :: .ref a :: rest)) := by
  refine W.last hexec hb hP ((hK.2 t0 _ ht).1 n (fun j => .long (f j))) (fun q => by cases q) (by show ¬ (i < 0 ∨ (arrV _ _ _).slots.size ≤ _); rw [arrV_size]; exact hin) rfl rfl hdg fun H1 e1 z oq => ?_
  refine kk H1 _ ⟨?_, z, oq⟩ (hS.put z oq ha)
  show H1[a]? = some (vp_cell _ _)
  rw [e1]
  rw [vp_cell_l, vp_cell_l, arrV_store]
  congr 2
  funext q
  by_cases hq : q = i.toNatClampNeg
  · subst hq
    simp [updV, vp_updL]
    
  · simp [updV, vp_updL, hq]
end XHeap
