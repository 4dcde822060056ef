/-! DOUBLES AS WHOLE NUMBERS of the least number: comparisons, sums in order, quotients and products beside a number. -/
def zv (x : UInt64) : Int := FP.Core.zval FP.Core.b64 (xv x)
abbrev xNn (x : UInt64) : Prop := xv x ≠ .nan
abbrev xFin (x : UInt64) : Prop := FP.Core.DFin x
theorem xFin.nn {x : UInt64} (h : xFin x) : xNn x := FP.Core.DFin.ne_nan h
theorem xlt_iff {a b : UInt64} : xlt a b = true ↔ xNn a ∧ xNn b ∧ zv a < zv b := by
  unfold xlt; rw [decide_eq_true_iff]; exact FP.Core.dcmp_lt
theorem xgt_iff {a b : UInt64} : xgt a b = true ↔ xNn a ∧ xNn b ∧ zv b < zv a := by
  unfold xgt; rw [decide_eq_true_iff]; exact FP.Core.dcmp_gt
theorem xeq_iff {a b : UInt64} : xeq a b = true ↔ xNn a ∧ xNn b ∧ zv a = zv b := by
  unfold xeq; rw [decide_eq_true_iff]; exact FP.Core.dcmp_eq
theorem xge_iff {a b : UInt64} : xge a b = true ↔ xNn a ∧ xNn b ∧ zv b ≤ zv a := by
  unfold xge; rw [Bool.or_eq_true, decide_eq_true_iff, decide_eq_true_iff]; exact FP.Core.dcmp_ge
theorem xle_iff {a b : UInt64} : xle a b = true ↔ xNn a ∧ xNn b ∧ zv a ≤ zv b := by
  unfold xle; rw [Bool.or_eq_true, decide_eq_true_iff, decide_eq_true_iff]; exact FP.Core.dcmp_le
theorem bfalse {b : Bool} : b = false ↔ ¬ b = true := by cases b <;> simp
theorem xgt_lt (a b : UInt64) : xgt a b = xlt b a := by
  rw [Bool.eq_iff_iff, xgt_iff, xlt_iff]
  exact ⟨fun ⟨h1, h2, h3⟩ => ⟨h2, h1, h3⟩, fun ⟨h1, h2, h3⟩ => ⟨h2, h1, h3⟩⟩
theorem zv_vq {a b : UInt64} (h : vq a b) : zv a = zv b := by unfold zv; rw [h]
theorem xNn_vq {a b : UInt64} (h : vq a b) (hb : xNn b) : xNn a := fun z => hb (h ▸ z)
theorem vq_same {a b : UInt64} (h : vq a b) (hb : xNn b) : a = b := (FP.Core.val64_inj hb h.symm).symm
theorem zv_0 : zv FP.dconst0 = 0 := FP.Core.zval64_zero
theorem xFin_0 : xFin FP.dconst0 := ⟨_, _, _, FP.Core.val64_dconst0⟩
theorem zneg_round {x : UInt64} : FP.Core.zval FP.Core.b64 (FP.Core.negate (xv x)) = - zv x := FP.Core.zval_negate _ _
section ZMono
theorem zmag_mono {s : Bool} {c d : Nat} {q r : Int} (hq : FP.Core.b64.qmin ≤ q) (hr : FP.Core.b64.qmin ≤ r) (h : FP.Core.inUnits c q FP.Core.b64.qmin ≤ FP.Core.inUnits d r FP.Core.b64.qmin) :
    FP.Core.zmag FP.Core.b64 (FP.Core.roundRatio FP.Core.b64 s c 1 q) ≤ FP.Core.zmag FP.Core.b64 (FP.Core.roundRatio FP.Core.b64 s d 1 r) := by
  have hf := FP.Core.good_b64
  have fc := FP.Core.roundRatio_fits hf s c (B := 1) (by decide) q
  have fd := FP.Core.roundRatio_fits hf s d (B := 1) (by decide) r
  have nc := FP.Core.roundRatio_ne_nan FP.Core.b64 s c 1 q
  have nd := FP.Core.roundRatio_ne_nan FP.Core.b64 s d 1 r
  refine Nat.le_of_not_lt fun hlt => ?_
  have e0 : (FP.Core.b64.qmin - FP.Core.b64.qmin).toNat = 0 := by rw [Int.sub_self]; rfl
  have h1 : FP.Core.zmag FP.Core.b64 (FP.Core.roundRatio FP.Core.b64 s d 1 r) < FP.Core.inUnits c q FP.Core.b64.qmin := by
    refine Nat.lt_of_not_le fun h1 => ?_
    have := FP.Core.zmag_roundRatio_le hf (s := s) (A := c) (B := 1) (e := q) (e0 := FP.Core.b64.qmin) (by decide) fd nd (Int.le_refl _) hq (by rw [e0, Nat.pow_zero, Nat.mul_one, Nat.mul_one]; exact h1)
    omega
  have h2 : FP.Core.inUnits d r FP.Core.b64.qmin < FP.Core.zmag FP.Core.b64 (FP.Core.roundRatio FP.Core.b64 s c 1 q) := by
    refine Nat.lt_of_not_le fun h2 => ?_
    have := FP.Core.zmag_roundRatio_ge hf (s := s) (A := d) (B := 1) (e := r) (e0 := FP.Core.b64.qmin) (by decide) fc (Int.le_refl _) hr (by rw [e0, Nat.pow_zero, Nat.mul_one, Nat.mul_one]; exact h2)
    omega
  rcases FP.Core.roundRatio_cases FP.Core.b64 s d 1 r with ⟨d', r', hD⟩ | hD
  · rcases FP.Core.roundRatio_cases FP.Core.b64 s c 1 q with ⟨c', q', hC⟩ | hC
    · rw [hC] at fc
      rw [hD] at fd
      have n1 := FP.Core.roundRatio_nearest hf (s := s) (A := c) (B := 1) (e := q) (e0 := FP.Core.b64.qmin) (by decide) hC fd.1 fd.2.1 (Int.le_refl _) hq
      have n2 := FP.Core.roundRatio_nearest hf (s := s) (A := d) (B := 1) (e := r) (e0 := FP.Core.b64.qmin) (by decide) hD fc.1 fc.2.1 (Int.le_refl _) hr
      rw [hC] at h2 hlt
      rw [hD] at h1 hlt
      unfold FP.Core.distance at n1 n2
      have h1 : FP.Core.inUnits d' r' FP.Core.b64.qmin < FP.Core.inUnits c q FP.Core.b64.qmin := h1
      have h2 : FP.Core.inUnits d r FP.Core.b64.qmin < FP.Core.inUnits c' q' FP.Core.b64.qmin := h2
      have hCD : FP.Core.inUnits c q FP.Core.b64.qmin = FP.Core.inUnits d r FP.Core.b64.qmin := by
        generalize FP.Core.inUnits c q FP.Core.b64.qmin = C at *
        generalize FP.Core.inUnits d r FP.Core.b64.qmin = D at *
        generalize FP.Core.inUnits c' q' FP.Core.b64.qmin = zc at *
        generalize FP.Core.inUnits d' r' FP.Core.b64.qmin = zd at *
        omega
      have hcg : FP.Core.roundRatio FP.Core.b64 s c 1 q = FP.Core.roundRatio FP.Core.b64 s d 1 r := by
        refine FP.Core.roundRatio_congr (by decide) (by decide) ?_
        unfold FP.Core.inUnits at hCD
        rcases Int.le_total q r with hqr | hqr
        · rw [show (r - FP.Core.b64.qmin).toNat = (r - q).toNat + (q - FP.Core.b64.qmin).toNat by omega, Nat.pow_add, ← Nat.mul_assoc] at hCD
          have := Nat.eq_of_mul_eq_mul_right (Nat.two_pow_pos _) hCD
          rw [show (q - r).toNat = 0 by omega]
          simpa using this
        · rw [show (q - FP.Core.b64.qmin).toNat = (q - r).toNat + (r - FP.Core.b64.qmin).toNat by omega, Nat.pow_add, ← Nat.mul_assoc] at hCD
          have := Nat.eq_of_mul_eq_mul_right (Nat.two_pow_pos _) hCD
          rw [show (r - q).toNat = 0 by omega]
          simpa using this
      rw [hC, hD] at hcg
      cases hcg
      exact absurd hlt (Nat.lt_irrefl _)
    · have t1 := (FP.Core.roundRatio_inf hf (s := s) (A := c) (B := 1) (e := q) (e0 := FP.Core.b64.qmin - 1) (by decide) (by omega) (by omega)).mp hC
      have t2 := (FP.Core.roundRatio_inf hf (s := s) (A := d) (B := 1) (e := r) (e0 := FP.Core.b64.qmin - 1) (by decide) (by omega) (by omega)).mpr (Nat.le_trans t1 (by
        rw [FP.Core.inUnits_move c (r := FP.Core.b64.qmin) (by omega) hq, FP.Core.inUnits_move d (r := FP.Core.b64.qmin) (by omega) hr]
        exact Nat.mul_le_mul_right _ h))
      rw [hD] at t2
      cases t2
  · rw [hD] at hlt
    exact absurd (FP.Core.zmag_le_top hf fc) (Nat.not_le.mpr hlt)
theorem zmag_none {s : Bool} {c : Nat} {q : Int} (h : FP.Core.inUnits c q FP.Core.b64.qmin = 0) : FP.Core.zmag FP.Core.b64 (FP.Core.roundRatio FP.Core.b64 s c 1 q) = 0 := by
  have hc : c = 0 := by
    rcases Nat.mul_eq_zero.mp (show c * _ = 0 from h) with h | h
    · exact h
    · exact absurd h (Nat.ne_of_gt (Nat.two_pow_pos _))
  subst hc
  unfold FP.Core.roundRatio
  rw [if_pos rfl]
  exact Nat.zero_mul _
theorem zround_mono {s t : Bool} {c d : Nat} {q r : Int} (hq : FP.Core.b64.qmin ≤ q) (hr : FP.Core.b64.qmin ≤ r) (h : FP.Core.signed s (FP.Core.inUnits c q FP.Core.b64.qmin) ≤ FP.Core.signed t (FP.Core.inUnits d r FP.Core.b64.qmin)) :
    FP.Core.zval FP.Core.b64 (FP.Core.round FP.Core.b64 (.fin s c q)) ≤ FP.Core.zval FP.Core.b64 (FP.Core.round FP.Core.b64 (.fin t d r)) := by
  show FP.Core.signed (FP.Core.sgn (FP.Core.roundRatio FP.Core.b64 s c 1 q)) (FP.Core.zmag FP.Core.b64 (FP.Core.roundRatio FP.Core.b64 s c 1 q)) ≤ FP.Core.signed (FP.Core.sgn (FP.Core.roundRatio FP.Core.b64 t d 1 r)) (FP.Core.zmag FP.Core.b64 (FP.Core.roundRatio FP.Core.b64 t d 1 r))
  rw [FP.Core.sgn_roundRatio, FP.Core.sgn_roundRatio]
  cases s <;> cases t <;> simp only [FP.Core.signed, if_true, Bool.false_eq_true, if_false] at h ⊢
  · have := zmag_mono (s := false) (c := c) (d := d) hq hr (by omega)
    omega
  · have h1 := zmag_none (s := false) (c := c) (q := q) (by omega)
    have h2 := zmag_none (s := true) (c := d) (q := r) (by omega)
    omega
  · omega
  · have := zmag_mono (s := true) (c := d) (d := c) hr hq (by omega)
    omega
/-- sums keep the order of the exact ones -/
theorem zadd_mono {a b w x : UInt64} (ha : xFin a) (hw : xFin w) (hb : xFin b) (hx : xFin x) (h : zv a + zv w ≤ zv b + zv x) : zv (FP.dadd a w) ≤ zv (FP.dadd b x) := by
  obtain ⟨s1, c1, q1, e1⟩ := ha
  obtain ⟨s2, c2, q2, e2⟩ := hw
  obtain ⟨s3, c3, q3, e3⟩ := hb
  obtain ⟨s4, c4, q4, e4⟩ := hx
  have f1 := FP.Core.val64_fits a
  have f2 := FP.Core.val64_fits w
  have f3 := FP.Core.val64_fits b
  have f4 := FP.Core.val64_fits x
  rw [e1] at f1; rw [e2] at f2; rw [e3] at f3; rw [e4] at f4
  obtain ⟨sg, n, e, h1, h2, h3⟩ := FP.Core.sum_units f1 f2
  obtain ⟨sg', n', e', h1', h2', h3'⟩ := FP.Core.sum_units f3 f4
  unfold zv at h ⊢
  rw [show xv (FP.dadd a w) = FP.Core.round FP.Core.b64 (FP.Core.exactSum (xv a) (xv w)) from FP.Core.val64_dadd a w, show xv (FP.dadd b x) = FP.Core.round FP.Core.b64 (FP.Core.exactSum (xv b) (xv x)) from FP.Core.val64_dadd b x]
  rw [show xv a = _ from e1, show xv w = _ from e2, show xv b = _ from e3, show xv x = _ from e4] at h ⊢
  rw [h1, h1']
  exact zround_mono h2 h2' (by rw [h3, h3']; exact h)
theorem zadd_le {a w V : UInt64} (ha : xFin a) (hw : xFin w) (hV : xNn V) (h : zv a + zv w ≤ zv V) : zv (FP.dadd a w) ≤ zv V := by
  unfold zv
  rw [show xv (FP.dadd a w) = FP.Core.round FP.Core.b64 (FP.Core.exactSum (xv a) (xv w)) from FP.Core.val64_dadd a w]
  exact FP.Core.sum_le FP.Core.good_b64 ha hw (FP.Core.val64_fits a) (FP.Core.val64_fits w) (FP.Core.val64_fits V) hV h
theorem zadd_ge {a w V : UInt64} (ha : xFin a) (hw : xFin w) (hV : xNn V) (h : zv V ≤ zv a + zv w) : zv V ≤ zv (FP.dadd a w) := by
  unfold zv
  rw [show xv (FP.dadd a w) = FP.Core.round FP.Core.b64 (FP.Core.exactSum (xv a) (xv w)) from FP.Core.val64_dadd a w]
  exact FP.Core.sum_ge FP.Core.good_b64 ha hw (FP.Core.val64_fits a) (FP.Core.val64_fits w) (FP.Core.val64_fits V) hV h
theorem zneg_fin {x : UInt64} (h : xFin x) : ∃ s c q, FP.Core.negate (xv x) = .fin s c q := by
  obtain ⟨s, c, q, e⟩ := h
  exact ⟨!s, c, q, by rw [show xv x = _ from e]; rfl⟩
theorem zsub_le {a w V : UInt64} (ha : xFin a) (hw : xFin w) (hV : xNn V) (h : zv a - zv w ≤ zv V) : zv (FP.dsub a w) ≤ zv V := by
  unfold zv
  rw [show xv (FP.dsub a w) = FP.Core.round FP.Core.b64 (FP.Core.exactSum (xv a) (FP.Core.negate (xv w))) from FP.Core.val64_dsub a w]
  exact FP.Core.sum_le FP.Core.good_b64 ha (zneg_fin hw) (FP.Core.val64_fits a) (FP.Core.negate_fits (FP.Core.val64_fits w)) (FP.Core.val64_fits V) hV (by rw [zneg_round]; show zv a + - zv w ≤ zv V; omega)
theorem zsub_ge {a w V : UInt64} (ha : xFin a) (hw : xFin w) (hV : xNn V) (h : zv V ≤ zv a - zv w) : zv V ≤ zv (FP.dsub a w) := by
  unfold zv
  rw [show xv (FP.dsub a w) = FP.Core.round FP.Core.b64 (FP.Core.exactSum (xv a) (FP.Core.negate (xv w))) from FP.Core.val64_dsub a w]
  exact FP.Core.sum_ge FP.Core.good_b64 ha (zneg_fin hw) (FP.Core.val64_fits a) (FP.Core.negate_fits (FP.Core.val64_fits w)) (FP.Core.val64_fits V) hV (by rw [zneg_round]; show zv V ≤ zv a + - zv w; omega)
end ZMono

/-- products and quotients beside a number -/
def xO : Int := ((FP.Core.one64 : Nat) : Int)
theorem xO_pos : 0 < xO := Int.natCast_pos.mpr FP.Core.one64_pos
section ZMul
theorem sg_le {s : Bool} {m : Nat} {V : Int} (h : (m : Int) ≤ V) : FP.Core.signed s m ≤ V := by
  cases s <;> simp only [FP.Core.signed, if_true, Bool.false_eq_true, if_false] <;> omega
theorem fin_of {x : UInt64} (h : xFin x) : ∃ s c q, xv x = .fin s c q ∧ FP.Core.fits FP.Core.b64 (.fin s c q) := by
  obtain ⟨s, c, q, e⟩ := h
  have f := FP.Core.val64_fits x
  rw [e] at f
  exact ⟨s, c, q, e, f⟩
theorem zv_of {x : UInt64} {s : Bool} {c : Nat} {q : Int} (e : xv x = .fin s c q) : zv x = FP.Core.signed s (FP.Core.zmag FP.Core.b64 (.fin s c q)) := by
  unfold zv; rw [e]; rfl
theorem zv_abs {x : UInt64} (h : xNn x) : (zv x).natAbs = FP.Core.zmag FP.Core.b64 (xv x) := FP.Core.natAbs_signed _ _
theorem pow_one : 2 ^ (FP.Core.b64.qmin - 2 * FP.Core.b64.qmin).toNat = FP.Core.one64 := by
  rw [← FP.Core.pow_qmin64]; congr 2
theorem zmul_fin_sgn {a b : UInt64} (ha : xFin a) (hb : xFin b) : ∃ (s : Bool) (m : Nat), zv (FP.dmul a b) = FP.Core.signed s m ∧ (∀ V : UInt64, xNn V → (((zv a).natAbs * (zv b).natAbs : Nat) : Int) ≤ (((zv V).natAbs * FP.Core.one64 : Nat) : Int) → m ≤ (zv V).natAbs) ∧ (∀ V : UInt64, xNn V → (((zv V).natAbs * FP.Core.one64 : Nat) : Int) ≤ (((zv a).natAbs * (zv b).natAbs : Nat) : Int) → (zv V).natAbs ≤ m) ∧ ((0 < zv a ∧ 0 < zv b) → s = false) ∧ (a = b → s = false) := by
  obtain ⟨s, c, q, e1, f1⟩ := fin_of ha
  obtain ⟨t, d, r, e2, f2⟩ := fin_of hb
  obtain ⟨p1, p2, p3⟩ := FP.Core.product_units f1 f2
  have hq := FP.Core.qmin_neg FP.Core.good_b64
  have hd : xv (FP.dmul a b) = FP.Core.roundRatio FP.Core.b64 (s != t) (c * d) 1 (q + r) := by
    rw [show xv (FP.dmul a b) = FP.Core.round FP.Core.b64 (FP.Core.exactProduct (xv a) (xv b)) from FP.Core.val64_dmul a b, e1, e2, p1]; rfl
  have za := zv_abs ha.nn
  have zb := zv_abs hb.nn
  rw [e1] at za; rw [e2] at zb
  refine ⟨s != t, FP.Core.zmag FP.Core.b64 (FP.Core.roundRatio FP.Core.b64 (s != t) (c * d) 1 (q + r)), ?_, fun V hV h => ?_, fun V hV h => ?_, fun ⟨h1, h2⟩ => ?_, fun h => ?_⟩
  · unfold zv; rw [hd]; unfold FP.Core.zval; rw [FP.Core.sgn_roundRatio]
  · rw [zv_abs hV]
    refine FP.Core.zmag_roundRatio_le FP.Core.good_b64 (e0 := 2 * FP.Core.b64.qmin) (by decide) (FP.Core.val64_fits V) hV (by omega) p2 ?_
    rw [p3, pow_one, Nat.mul_one, ← za, ← zb]
    have h := Int.ofNat_le.mp h
    rw [zv_abs hV] at h
    exact h
  · rw [zv_abs hV]
    refine FP.Core.zmag_roundRatio_ge FP.Core.good_b64 (e0 := 2 * FP.Core.b64.qmin) (by decide) (FP.Core.val64_fits V) (by omega) p2 ?_
    rw [p3, pow_one, Nat.mul_one, ← za, ← zb]
    have h := Int.ofNat_le.mp h
    rw [zv_abs hV] at h
    exact h
  · rw [zv_of e1] at h1
    rw [zv_of e2] at h2
    have e3 := (FP.Core.signed_pos h1).1
    have e4 := (FP.Core.signed_pos h2).1
    cases s <;> cases t <;> simp_all [FP.Core.signed] <;> omega
  · subst h
    rw [e1] at e2
    cases e2
    simp
theorem zmul_le {a b V : UInt64} (ha : xFin a) (hb : xFin b) (hV : xNn V) (h0 : 0 ≤ zv V) (h : zv a * zv b ≤ zv V * xO) (ha0 : 0 ≤ zv a) (hb0 : 0 ≤ zv b) : zv (FP.dmul a b) ≤ zv V := by
  obtain ⟨s, m, e, h1, -⟩ := zmul_fin_sgn ha hb
  rw [e]
  have := h1 V hV (by
    rw [Int.natCast_mul, Int.natCast_mul, Int.natAbs_of_nonneg ha0, Int.natAbs_of_nonneg hb0, Int.natAbs_of_nonneg h0]; exact h)
  exact sg_le (by omega)
theorem zmul_ge {a b V : UInt64} (ha : xFin a) (hb : xFin b) (hV : xNn V) (h0 : 0 ≤ zv V) (h : zv V * xO ≤ zv a * zv b) (ha0 : 0 < zv a) (hb0 : 0 < zv b) : zv V ≤ zv (FP.dmul a b) := by
  obtain ⟨s, m, e, -, h1, h2, -⟩ := zmul_fin_sgn ha hb
  rw [e, h2 ⟨ha0, hb0⟩]
  have := h1 V hV (by
    rw [Int.natCast_mul, Int.natCast_mul, Int.natAbs_of_nonneg (Int.le_of_lt ha0), Int.natAbs_of_nonneg (Int.le_of_lt hb0), Int.natAbs_of_nonneg h0]; exact h)
  show zv V ≤ (m : Int)
  omega
theorem zsq_nonneg {a : UInt64} (ha : xFin a) : 0 ≤ zv (FP.dmul a a) := by
  obtain ⟨s, m, e, -, -, -, h⟩ := zmul_fin_sgn ha ha
  rw [e, h rfl]
  exact Int.natCast_nonneg _
/-- a quotient of numbers from 0 on, above 0 -/
theorem zdiv_sgn {a b : UInt64} (ha : xFin a) (hb : xFin b) (ha0 : 0 ≤ zv a) (hb0 : 0 < zv b) : ∃ (s : Bool) (m : Nat), zv (FP.ddiv a b) = FP.Core.signed s m ∧ xNn (FP.ddiv a b) ∧ (∀ V : UInt64, xNn V → 0 ≤ zv V → zv a * xO ≤ zv V * zv b → (m : Int) ≤ zv V) ∧ (∀ V : UInt64, xNn V → 0 ≤ zv V → zv V * zv b ≤ zv a * xO → zv V ≤ (m : Int)) ∧ (0 < zv a → s = false) ∧ (s = true → m = 0) := by
  obtain ⟨s, c, q, e1, f1⟩ := fin_of ha
  obtain ⟨t, d, r, e2, f2⟩ := fin_of hb
  have hq := FP.Core.qmin_neg FP.Core.good_b64
  have za := zv_abs ha.nn
  have zb := zv_abs hb.nn
  rw [e1] at za; rw [e2] at zb
  have hd0 : d ≠ 0 := by
    intro z
    subst z
    rw [zv_of e2] at hb0
    have : FP.Core.zmag FP.Core.b64 (.fin t 0 r) = 0 := Nat.zero_mul _
    rw [this, FP.Core.signed_zero] at hb0
    exact absurd hb0 (by decide)
  have hd : xv (FP.ddiv a b) = FP.Core.roundRatio FP.Core.b64 (s != t) c d (q - r) := by
    rw [show xv (FP.ddiv a b) = FP.Core.quotient FP.Core.b64 (xv a) (xv b) from FP.Core.val64_ddiv a b, e1, e2]
    show (if d = 0 then _ else _) = _
    rw [if_neg hd0]
  have m1 := f1.2.1
  have m2 := f2.2.1
  have u1 : FP.Core.inUnits c (q - r) (2 * FP.Core.b64.qmin - r) = FP.Core.zmag FP.Core.b64 (.fin s c q) * FP.Core.one64 := by
    show c * 2 ^ (q - r - (2 * FP.Core.b64.qmin - r)).toNat = c * 2 ^ (q - FP.Core.b64.qmin).toNat * _
    rw [show (q - r - (2 * FP.Core.b64.qmin - r)).toNat = (q - FP.Core.b64.qmin).toNat + (-FP.Core.b64.qmin).toNat by omega, Nat.pow_add, FP.Core.pow_qmin64, Nat.mul_assoc]
  have u2 : ∀ z : Nat, z * 2 ^ (FP.Core.b64.qmin - (2 * FP.Core.b64.qmin - r)).toNat * d = z * FP.Core.zmag FP.Core.b64 (.fin t d r) := by
    intro z
    show _ = z * (d * 2 ^ (r - FP.Core.b64.qmin).toNat)
    rw [show FP.Core.b64.qmin - (2 * FP.Core.b64.qmin - r) = r - FP.Core.b64.qmin by omega, Nat.mul_assoc, Nat.mul_comm d]
  refine ⟨s != t, FP.Core.zmag FP.Core.b64 (FP.Core.roundRatio FP.Core.b64 (s != t) c d (q - r)), ?_, ?_, fun V hV h0 h => ?_, fun V hV h0 h => ?_, fun h1 => ?_, fun h => ?_⟩
  · unfold zv; rw [hd]; unfold FP.Core.zval; rw [FP.Core.sgn_roundRatio]
  · show xv _ ≠ _
    rw [hd]; exact FP.Core.roundRatio_ne_nan _ _ _ _ _
  · have h9 : FP.Core.zmag FP.Core.b64 (FP.Core.roundRatio FP.Core.b64 (s != t) c d (q - r)) ≤ FP.Core.zmag FP.Core.b64 (xv V) := by
      refine FP.Core.zmag_roundRatio_le FP.Core.good_b64 (e0 := 2 * FP.Core.b64.qmin - r) (Nat.pos_of_ne_zero hd0) (FP.Core.val64_fits V) hV (by omega) (by omega) ?_
      rw [u1, u2, ← za, ← zb, ← zv_abs hV]
      have : (((zv a).natAbs * FP.Core.one64 : Nat) : Int) ≤ (((zv V).natAbs * (zv b).natAbs : Nat) : Int) := by
        rw [Int.natCast_mul, Int.natCast_mul, Int.natAbs_of_nonneg ha0, Int.natAbs_of_nonneg h0, Int.natAbs_of_nonneg (Int.le_of_lt hb0)]; exact h
      exact Int.ofNat_le.mp this
    rw [← zv_abs hV] at h9
    omega
  · have h9 : FP.Core.zmag FP.Core.b64 (xv V) ≤ FP.Core.zmag FP.Core.b64 (FP.Core.roundRatio FP.Core.b64 (s != t) c d (q - r)) := by
      refine FP.Core.zmag_roundRatio_ge FP.Core.good_b64 (e0 := 2 * FP.Core.b64.qmin - r) (Nat.pos_of_ne_zero hd0) (FP.Core.val64_fits V) (by omega) (by omega) ?_
      rw [u1, u2, ← za, ← zb, ← zv_abs hV]
      have : (((zv V).natAbs * (zv b).natAbs : Nat) : Int) ≤ (((zv a).natAbs * FP.Core.one64 : Nat) : Int) := by
        rw [Int.natCast_mul, Int.natCast_mul, Int.natAbs_of_nonneg ha0, Int.natAbs_of_nonneg h0, Int.natAbs_of_nonneg (Int.le_of_lt hb0)]; exact h
      exact Int.ofNat_le.mp this
    rw [← zv_abs hV] at h9
    omega
  · rw [zv_of e1] at h1
    rw [zv_of e2] at hb0
    have e3 := (FP.Core.signed_pos h1).1
    have e4 := (FP.Core.signed_pos hb0).1
    cases s <;> cases t <;> simp_all [FP.Core.signed] <;> omega
  · by_cases hc : c = 0
    · subst hc
      unfold FP.Core.roundRatio
      rw [if_pos rfl]
      exact Nat.zero_mul _
    · exfalso
      have hp : 0 < zv a := by
        by_cases z : zv a = 0
        · exfalso
          rw [z] at za
          rcases Nat.mul_eq_zero.mp (show c * _ = 0 from za.symm) with h | h
          · exact hc h
          · exact absurd h (Nat.ne_of_gt (Nat.two_pow_pos _))
        · omega
      rw [zv_of e1] at hp
      rw [zv_of e2] at hb0
      have e3 := (FP.Core.signed_pos hp).1
      have e4 := (FP.Core.signed_pos hb0).1
      cases s <;> cases t <;> simp_all [FP.Core.signed] <;> omega
theorem zdiv_le {a b V : UInt64} (ha : xFin a) (hb : xFin b) (ha0 : 0 ≤ zv a) (hb0 : 0 < zv b) (hV : xNn V) (h0 : 0 ≤ zv V) (h : zv a * xO ≤ zv V * zv b) : zv (FP.ddiv a b) ≤ zv V := by
  obtain ⟨s, m, e, -, h1, -⟩ := zdiv_sgn ha hb ha0 hb0
  rw [e]; exact sg_le (h1 V hV h0 h)
theorem zdiv_ge {a b V : UInt64} (ha : xFin a) (hb : xFin b) (ha0 : 0 ≤ zv a) (hb0 : 0 < zv b) (hV : xNn V) (h0 : 0 ≤ zv V) (h : zv V * zv b ≤ zv a * xO) : zv V ≤ zv (FP.ddiv a b) := by
  obtain ⟨s, m, e, -, -, h1, -, h2⟩ := zdiv_sgn ha hb ha0 hb0
  rw [e]
  have := h1 V hV h0 h
  cases s
  · exact this
  · rw [h2 rfl] at this ⊢
    exact this
theorem zdiv_nn {a b : UInt64} (ha : xFin a) (hb : xFin b) (ha0 : 0 ≤ zv a) (hb0 : 0 < zv b) : xNn (FP.ddiv a b) ∧ 0 ≤ zv (FP.ddiv a b) := by
  obtain ⟨s, m, e, h0, -, -, -, h2⟩ := zdiv_sgn ha hb ha0 hb0
  refine ⟨h0, ?_⟩
  rw [e]
  cases s
  · exact Int.natCast_nonneg _
  · rw [h2 rfl]; decide
end ZMul
