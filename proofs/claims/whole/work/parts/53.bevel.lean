/-! BEVEL and staves are the same for both. -/
/-- alike as the law asks it: equal, or both none -/
def pSame (a b : UInt64) : Prop := xeq a b = true ∨ (xv a = .nan ∧ xv b = .nan)
theorem pSame_of {a b : UInt64} (h : vq a b) : pSame a b := by
  by_cases hb : xv b = .nan
  · exact Or.inr ⟨h.trans hb, hb⟩
  · exact Or.inl (xeq_iff.mpr ⟨xNn_vq h hb, hb, zv_vq h⟩)
theorem pSame_vq {a b x y : UInt64} (ha : vq a x) (hb : vq b y) (h : pSame x y) : pSame a b := by
  rcases h with h | ⟨h1, h2⟩
  · exact Or.inl (by rw [vq_eq ha hb]; exact h)
  · exact Or.inr ⟨ha.trans h1, hb.trans h2⟩
abbrev xM0 : UInt64 := FP.Core.dzeroNeg
theorem add0_l {p : UInt64} (h : p ≠ xM0) : vq (FP.dadd FP.dconst0 p) p := by
  by_cases hn : xv p = .nan
  · show xv _ = xv _
    rw [hn]; exact FP.Core.dadd_nan (Or.inr hn)
  · have : FP.dadd FP.dconst0 p = p := (FP.Core.dadd_comm _ _).trans (FP.Core.dadd_zero hn h)
    rw [this]
theorem addm_l {p : UInt64} : vq (FP.dadd xM0 p) p := by
  by_cases hn : xv p = .nan
  · show xv _ = xv _
    rw [hn]; exact FP.Core.dadd_nan (Or.inr hn)
  · have : FP.dadd xM0 p = p := (FP.Core.dadd_comm _ _).trans (FP.Core.dadd_zeroNeg hn)
    rw [this]
theorem add0_m : FP.dadd FP.dconst0 xM0 = FP.dconst0 := by decide +kernel
theorem sgn_round {d : FP.Core.Datum} (h : FP.Core.sgn d = false) : FP.Core.sgn (FP.Core.round FP.Core.b64 d) = false := by
  cases d with
  | nan => rfl
  | inf s => exact h
  | fin s c q => exact (FP.Core.sgn_roundRatio _ _ _ _ _).trans h
theorem sq_nm (a : UInt64) : FP.dmul a a ≠ xM0 := by
  intro z
  have h := FP.Core.val64_dmul a a
  rw [show FP.Core.dmul a a = xM0 from z, FP.Core.val64_dzeroNeg] at h
  have h2 : FP.Core.sgn (FP.Core.round FP.Core.b64 (FP.Core.exactProduct (FP.Core.val64 a) (FP.Core.val64 a))) = false := by
    refine sgn_round ?_
    cases FP.Core.val64 a with
    | nan => rfl
    | inf s => cases s <;> rfl
    | fin s c q => cases s <;> rfl
  rw [← h] at h2
  exact absurd h2 (by decide)
theorem dot_sq (a b c : UInt64) : pDot a b c a b c = pDo3 a b c a b c := by
  unfold pDot pDo3
  rw [vq_add (add0_l (sq_nm a)) (vq_rf (FP.dmul b b))]
theorem dot_eq (a b c d e f : UInt64) : pDot a b c d e f = pDo3 a b c d e f ∨ vq (pDot a b c d e f) (pDo3 a b c d e f) ∨ (pDot a b c d e f = FP.dconst0 ∧ pDo3 a b c d e f = xM0) := by
  unfold pDot pDo3
  generalize FP.dmul a d = p
  generalize FP.dmul b e = q
  generalize FP.dmul c f = r
  by_cases hp : p = xM0
  · subst hp
    rw [add0_m]
    by_cases hq : q = xM0
    · subst hq
      rw [add0_m, show FP.dadd xM0 xM0 = xM0 by decide +kernel]
      by_cases hr : r = xM0
      · subst hr
        exact Or.inr (Or.inr ⟨add0_m, by decide +kernel⟩)
      · exact Or.inr (Or.inl ((add0_l hr).trans addm_l.symm))
    · exact Or.inl (vq_add ((add0_l hq).trans addm_l.symm) (vq_rf r))
  · refine Or.inl ?_
    rw [vq_add (add0_l hp) (vq_rf q)]
theorem div0 {z X : UInt64} (hz : ∃ s : Bool, xv z = .fin s 0 FP.Core.b64.qmin) : (xv (FP.ddiv z X) = .nan ∧ (xv X = .nan ∨ ∃ t r, xv X = .fin t 0 r)) ∨ (∃ s : Bool, xv (FP.ddiv z X) = .fin s 0 FP.Core.b64.qmin) ∧ ¬ (xv X = .nan ∨ ∃ t r, xv X = .fin t 0 r) := by
  obtain ⟨s, e⟩ := hz
  rw [show xv (FP.ddiv z X) = FP.Core.quotient FP.Core.b64 (xv z) (xv X) from FP.Core.val64_ddiv z X, e]
  cases xv X with
  | nan => exact Or.inl ⟨rfl, Or.inl rfl⟩
  | inf t => exact Or.inr ⟨⟨_, rfl⟩, fun h => by rcases h with h | ⟨t, r, h⟩ <;> cases h⟩
  | fin t d r =>
    by_cases hd : d = 0
    · subst hd
      exact Or.inl ⟨rfl, Or.inr ⟨t, r, rfl⟩⟩
    · refine Or.inr ⟨⟨s != t, ?_⟩, fun h => ?_⟩
      · show (if d = 0 then _ else FP.Core.roundRatio FP.Core.b64 (s != t) 0 d _) = _
        rw [if_neg hd]
        unfold FP.Core.roundRatio
        rw [if_pos rfl]
      · rcases h with h | ⟨t, r, h⟩
        · cases h
        · cases h; exact hd rfl
theorem bevel_same (a b c d e f : UInt64) : pSame (pBevC a b c d e f) (pBev a b c d e f) := by
  unfold pBevC pBev
  rw [dot_sq a b c, dot_sq d e f]
  split
  · exact pSame_of (vq_rf _)
  · rcases dot_eq a b c d e f with h | h | ⟨h1, h2⟩
    · rw [h]; exact pSame_of (vq_rf _)
    · rw [vq_div h (vq_rf _)]; exact pSame_of (vq_rf _)
    · rw [h1, h2]
      rcases div0 (z := xM0) (X := FP.dmul (pRoot (pDo3 a b c a b c)) (pRoot (pDo3 d e f d e f))) ⟨_, FP.Core.val64_dzeroNeg⟩ with ⟨g1, g2⟩ | ⟨⟨s, g1⟩, g2⟩ <;> rcases div0 (z := FP.dconst0) (X := FP.dmul (pRoot (pDo3 a b c a b c)) (pRoot (pDo3 d e f d e f))) ⟨_, FP.Core.val64_dconst0⟩ with ⟨k1, k2⟩ | ⟨⟨t, k1⟩, k2⟩
      · exact Or.inr ⟨g1, k1⟩
      · exact absurd g2 k2
      · exact absurd k2 g2
      · have z1 : ∀ {x : UInt64} {s : Bool}, xv x = .fin s 0 FP.Core.b64.qmin → xFin x ∧ zv x = 0 := fun {x s} h => ⟨⟨_, _, _, h⟩, by
          rw [zv_of h]
          rw [show FP.Core.zmag FP.Core.b64 (.fin s 0 FP.Core.b64.qmin) = 0 from Nat.zero_mul _]
          exact FP.Core.signed_zero s⟩
        obtain ⟨a1, a2⟩ := z1 g1
        obtain ⟨b1, b2⟩ := z1 k1
        exact Or.inl (xeq_iff.mpr ⟨a1.nn, b1.nn, by rw [a2, b2]⟩)
theorem bevelC_same (pl : Nat → UInt64) (x f : Nat) : pSame (pBevelC pl x f) (pBevel pl x f) := bevel_same _ _ _ _ _ _
/-- eighths -/
theorem eighth_ex (n : Nat) (h : n < 2 ^ 53) : ∃ V : UInt64, xFin V ∧ zv V = (n : Int) * p2 1071 := by
  obtain ⟨c', q', h1, h2⟩ := FP.Core.round_exact FP.Core.good_b64 false (c := n) (q := -3) h (by decide) (by decide)
  have hv : xv (FP.Core.of64 (FP.Core.round FP.Core.b64 (.fin false n (-3)))) = .fin false c' q' := (FP.Core.val64_of64 (FP.Core.round_fits FP.Core.good_b64 _)).trans h1
  refine ⟨_, ⟨_, _, _, hv⟩, ?_⟩
  rw [zv_of hv]
  show ((FP.Core.inUnits c' q' FP.Core.b64.qmin : Nat) : Int) = _
  rw [h2]
  show ((n * 2 ^ (-3 - FP.Core.b64.qmin).toNat : Nat) : Int) = _
  rw [FP.Core.qmin_b64, Int.natCast_mul]
  rfl
theorem zv_i2d (k : Int32) : xFin (FP.i2d k) ∧ zv (FP.i2d k) = k.toInt * xO := ⟨FP.Core.i2d_fin k, FP.Core.DInt_zval (FP.Core.i2d_int k)⟩
theorem oct_pw : (4593671619917905920 : UInt64) = xpw 1020 := by decide +kernel
theorem zv_oct : xFin 4593671619917905920 ∧ zv 4593671619917905920 = p2 1071 := by
  rw [oct_pw]; exact ⟨xpw_fin (by decide), xpw_zv (by decide) (by decide)⟩
/-- an eighth of a whole number -/
abbrev xE (n : Int32) : UInt64 := FP.dmul (FP.i2d n) 4593671619917905920
theorem xE_fin (n : Int32) : xFin (xE n) ∧ ((zv (xE n)).natAbs : Int) = ((n.toInt.natAbs : Nat) : Int) * p2 1071 := by
  obtain ⟨f1, z1⟩ := zv_i2d n
  obtain ⟨f2, z2⟩ := zv_oct
  have hb : Bd (xE n) 1080 := (bd_mul (K := 1056) (L := 1021) (FP.Core.i2d_mag n) (by rw [oct_pw]; exact xpw_bd (by decide)) (by decide) (by decide)).mono (by decide)
  refine ⟨hb.fin (by decide), ?_⟩
  have hn : n.toInt.natAbs ≤ 2 ^ 31 := FP.Core.int32_abs n
  obtain ⟨V, fV, zV⟩ := eighth_ex n.toInt.natAbs (by omega)
  obtain ⟨s, m, e, h1, h2, -⟩ := zmul_fin_sgn f1 f2
  have eq : (((zv V).natAbs * FP.Core.one64 : Nat) : Int) = (((zv (FP.i2d n)).natAbs * (zv 4593671619917905920).natAbs : Nat) : Int) := by
    rw [z1, z2, zV, Int.natAbs_mul, Int.natAbs_mul, Int.natAbs_natCast]
    rw [show xO.natAbs = FP.Core.one64 from Int.natAbs_natCast _]
    rw [Nat.mul_right_comm]
  have h1 := h1 V fV.nn (Int.le_of_eq eq.symm)
  have h2 := h2 V fV.nn (Int.le_of_eq eq)
  rw [e, FP.Core.natAbs_signed, Nat.le_antisymm h1 h2, zV, Int.natAbs_mul, Int.natAbs_natCast, Int.natCast_mul]
  rw [Int.natAbs_of_nonneg (Int.le_of_lt (p2_pos 1071))]
/-- no zero but the first one -/
def pGz (x : UInt64) : Prop := zv x = 0 → x = FP.dconst0
theorem pGz_0 : pGz FP.dconst0 := fun _ => rfl
theorem pGz_E (n : Int32) : pGz (xE n) := by
  intro h
  have h1 := (xE_fin n).2
  rw [h] at h1
  have p := p2_pos 1071
  have h2 : n.toInt = 0 := by
    rcases Int.mul_eq_zero.mp h1.symm with h | h <;> omega
  have h3 : n = 0 := Int32.toInt.inj (by rw [h2]; rfl)
  subst h3
  decide +kernel
theorem gz_eq {a b : UInt64} (ha : pGz a) (hb : pGz b) (h : xeq a b = true) : a = b := by
  obtain ⟨n1, n2, z⟩ := xeq_iff.mp h
  by_cases hz : zv b = 0
  · rw [ha (z.trans hz), hb hz]
  · refine FP.Core.eq_bits (fun y => hz y.zval) ?_
    unfold xeq at h
    exact of_decide_eq_true h
