/-! nest is the same for both: extents, eighths, what overlaps, what is passed over. -/
theorem ext_hi {co d : Nat → UInt64} {F i ax : Nat} (h : ∀ j : Nat, j < 4 * F → vq (co (32 * i + j)) (d j)) (h0 : d ax = FP.dconst0) (hax : ax < 2) : ∀ k : Nat, k < 2 * F → vq (pHigh co i ax k) (pMx (fun j => d (2 * j + ax)) (k + 1)) := by
  intro k
  induction k with
  | zero =>
    intro hk
    show vq (co (32 * i + ax)) (if xgt (d (2 * 0 + ax)) FP.dconst0 = true then d (2 * 0 + ax) else FP.dconst0)
    have e := h ax (by omega)
    rw [h0] at e
    rw [show 2 * 0 + ax = ax by omega, h0]
    split <;> exact e
  | succ k ih =>
    intro hk
    have ih := ih (by omega)
    have e : vq (co (32 * i + 2 * (k + 1) + ax)) (d (2 * (k + 1) + ax)) := by
      rw [Nat.add_assoc]; exact h _ (by omega)
    show vq (if _ then _ else _) (if _ then _ else _)
    rw [vq_gt e ih]
    split
    · exact e
    · exact ih
theorem ext_lo {co d : Nat → UInt64} {F i ax : Nat} (h : ∀ j : Nat, j < 4 * F → vq (co (32 * i + j)) (d j)) (h0 : d ax = FP.dconst0) (hax : ax < 2) : ∀ k : Nat, k < 2 * F → vq (pLow co i ax k) (pMn (fun j => d (2 * j + ax)) (k + 1)) := by
  intro k
  induction k with
  | zero =>
    intro hk
    show vq (co (32 * i + ax)) (if xlt (d (2 * 0 + ax)) FP.dconst0 = true then d (2 * 0 + ax) else FP.dconst0)
    have e := h ax (by omega)
    rw [h0] at e
    rw [show 2 * 0 + ax = ax by omega, h0]
    split <;> exact e
  | succ k ih =>
    intro hk
    have ih := ih (by omega)
    have e : vq (co (32 * i + 2 * (k + 1) + ax)) (d (2 * (k + 1) + ax)) := by
      rw [Nat.add_assoc]; exact h _ (by omega)
    show vq (if _ then _ else _) (if _ then _ else _)
    rw [vq_lt e ih]
    split
    · exact e
    · exact ih
theorem ext_eq {co d : Nat → UInt64} {F i ax : Nat} (h : ∀ j : Nat, j < 4 * F → vq (co (32 * i + j)) (d j)) (h0 : d ax = FP.dconst0) (hax : ax < 2) (hF : 1 ≤ F) : pExt co F i ax = pExtC d (2 * F) ax := by
  have a := ext_hi h h0 hax (2 * F - 1) (by omega)
  have b := ext_lo h h0 hax (2 * F - 1) (by omega)
  rw [show 2 * F - 1 + 1 = 2 * F by omega] at a b
  exact vq_sub a b
theorem mx_nn (g : Nat → UInt64) : ∀ n : Nat, xNn (pMx g n) ∧ 0 ≤ zv (pMx g n) := by
  intro n
  induction n with
  | zero => exact ⟨xFin_0.nn, by show 0 ≤ zv FP.dconst0; rw [zv_0]; decide⟩
  | succ n ih =>
    show xNn (if _ then _ else _) ∧ 0 ≤ zv (if _ then _ else _)
    split
    · rename_i h
      obtain ⟨h1, -, h2⟩ := xgt_iff.mp h
      exact ⟨h1, by omega⟩
    · exact ih
theorem mn_nn (g : Nat → UInt64) : ∀ n : Nat, xNn (pMn g n) ∧ zv (pMn g n) ≤ 0 := by
  intro n
  induction n with
  | zero => exact ⟨xFin_0.nn, by show zv FP.dconst0 ≤ 0; rw [zv_0]; decide⟩
  | succ n ih =>
    show xNn (if _ then _ else _) ∧ zv (if _ then _ else _) ≤ 0
    split
    · rename_i h
      obtain ⟨h1, -, h2⟩ := xlt_iff.mp h
      exact ⟨h1, by omega⟩
    · exact ih
theorem zv_inf {x : UInt64} {s : Bool} (h : xv x = .inf s) : zv x = FP.Core.signed s (FP.Core.b64.tails * 2 ^ (FP.Core.b64.exps - 2)) := by
  unfold zv; rw [h]; rfl
theorem top_pos : 0 < FP.Core.b64.tails * 2 ^ (FP.Core.b64.exps - 2) := Nat.mul_pos (FP.Core.tails_pos _) (Nat.two_pow_pos _)
theorem sub_ge0 {a b : UInt64} (ha : xNn a) (hb : xNn b) (ha0 : 0 ≤ zv a) (hb0 : zv b ≤ 0) : xNn (FP.dsub a b) ∧ 0 ≤ zv (FP.dsub a b) := by
  have hT := top_pos
  have e : xv (FP.dsub a b) = FP.Core.round FP.Core.b64 (FP.Core.exactSum (xv a) (FP.Core.negate (xv b))) := FP.Core.val64_dsub a b
  cases h1 : xv a with
  | nan => exact absurd h1 ha
  | inf s =>
    rw [zv_inf h1] at ha0
    have hs : s = false := by
      cases s
      · rfl
      · exfalso
        have : (0 : Int) ≤ -((FP.Core.b64.tails * 2 ^ (FP.Core.b64.exps - 2) : Nat) : Int) := ha0
        omega
    subst hs
    have e2 : xv (FP.dsub a b) = .inf false := by
      rw [e, h1]
      cases h2 : xv b with
      | nan => exact absurd h2 hb
      | inf t =>
        rw [zv_inf h2] at hb0
        have ht : t = true := by
          cases t
          · exfalso
            have : ((FP.Core.b64.tails * 2 ^ (FP.Core.b64.exps - 2) : Nat) : Int) ≤ 0 := hb0
            omega
          · rfl
        subst ht
        rfl
      | fin t d r => rfl
    exact ⟨fun z => (by rw [e2] at z; cases z), by rw [zv_inf e2]; exact Int.natCast_nonneg _⟩
  | fin s c q =>
    cases h2 : xv b with
    | nan => exact absurd h2 hb
    | inf t =>
      rw [zv_inf h2] at hb0
      have ht : t = true := by
        cases t
        · exfalso
          have : ((FP.Core.b64.tails * 2 ^ (FP.Core.b64.exps - 2) : Nat) : Int) ≤ 0 := hb0
          omega
        · rfl
      subst ht
      have e2 : xv (FP.dsub a b) = .inf false := by rw [e, h1, h2]; rfl
      exact ⟨fun z => (by rw [e2] at z; cases z), by rw [zv_inf e2]; exact Int.natCast_nonneg _⟩
    | fin t d r =>
      have fa : xFin a := ⟨_, _, _, h1⟩
      have fb : xFin b := ⟨_, _, _, h2⟩
      refine ⟨sub_nn fa fb, ?_⟩
      have := zsub_ge fa fb xFin_0.nn (by rw [zv_0]; omega)
      rw [zv_0] at this
      exact this
/-- what a strip takes up is a number from 0 on -/
theorem ext_nn (d : Nat → UInt64) (n ax : Nat) : xNn (pExtC d n ax) ∧ 0 ≤ zv (pExtC d n ax) :=
  sub_ge0 (mx_nn _ n).1 (mn_nn _ n).1 (mx_nn _ n).2 (mn_nn _ n).2
/-- the same number, zeros of either sign -/
def zq (a b : UInt64) : Prop := xNn a ∧ xNn b ∧ zv a = zv b
theorem zq.lt_l {a b : UInt64} (h : zq a b) (c : UInt64) : xlt a c = xlt b c := by
  rw [Bool.eq_iff_iff, xlt_iff, xlt_iff, h.2.2]
  exact ⟨fun z => ⟨h.2.1, z.2⟩, fun z => ⟨h.1, z.2⟩⟩
theorem zq.lt_r {a b : UInt64} (h : zq a b) (c : UInt64) : xlt c a = xlt c b := by
  rw [Bool.eq_iff_iff, xlt_iff, xlt_iff, h.2.2]
  exact ⟨fun z => ⟨z.1, h.2.1, z.2.2⟩, fun z => ⟨z.1, h.1, z.2.2⟩⟩
theorem add0_zq {h : UInt64} (hn : xNn h) : zq (FP.dadd FP.dconst0 h) h := by
  by_cases e : h = xM0
  · subst e
    rw [add0_m]
    exact ⟨xFin_0.nn, hn, by decide +kernel⟩
  · have := add0_l e
    exact ⟨xNn_vq this hn, hn, zv_vq this⟩
/-- eighths along a board -/
theorem zv_8 : xFin 4620693217682128896 ∧ zv 4620693217682128896 = p2 1077 := by
  have e : (4620693217682128896 : UInt64) = xpw 1026 := by decide +kernel
  rw [e]; exact ⟨xpw_fin (by decide), xpw_zv (by decide) (by decide)⟩
theorem pEi_zv {k : Nat} (hk : k < 2 ^ 30) : xFin (pEi k) ∧ zv (pEi k) = (k : Int) * p2 1071 := by
  obtain ⟨f1, z1⟩ := zv_i2d (nI k)
  rw [nI_toInt (by omega)] at z1
  obtain ⟨f8, z8⟩ := zv_8
  obtain ⟨V, fV, zV⟩ := eighth_ex k (by omega)
  have hp := p2_pos 1071
  have hO := xO_pos
  have p1 : 0 ≤ zv (FP.i2d (nI k)) := by rw [z1]; exact Int.mul_nonneg (Int.natCast_nonneg _) (Int.le_of_lt hO)
  have p3 : 0 < zv 4620693217682128896 := by rw [z8]; exact p2_pos _
  have hV : 0 ≤ zv V := by rw [zV]; exact Int.mul_nonneg (Int.natCast_nonneg _) (Int.le_of_lt hp)
  have eq : zv (FP.i2d (nI k)) * xO = zv V * zv 4620693217682128896 := by
    rw [z1, z8, zV, Int.mul_assoc, Int.mul_assoc, ← p2_add, xO_p2, ← p2_add]
  have e : zv (pEi k) = (k : Int) * p2 1071 := by
    rw [← zV]
    exact Int.le_antisymm (zdiv_le f1 f8 p1 p3 fV.nn hV (Int.le_of_eq eq)) (zdiv_ge f1 f8 p1 p3 fV.nn hV (Int.le_of_eq eq.symm))
  obtain ⟨n1, n2⟩ := zdiv_nn f1 f8 p1 p3
  refine ⟨fin_zv (n := 1101) n1 n2 ?_ (by decide), e⟩
  rw [e, show p2 1101 = p2 30 * p2 1071 from p2_add 30 1071]
  refine Int.mul_le_mul_of_nonneg_right ?_ (Int.le_of_lt hp)
  show (k : Int) ≤ ((2 ^ 30 : Nat) : Int)
  omega
theorem pEi_le {k j : Nat} (h : k ≤ j) (hj : j < 2 ^ 30) : zv (pEi k) ≤ zv (pEi j) := by
  rw [(pEi_zv (show k < 2 ^ 30 by omega)).2, (pEi_zv hj).2]
  exact Int.mul_le_mul_of_nonneg_right (Int.ofNat_le.mpr h) (Int.le_of_lt (p2_pos _))
theorem pEi_lt {k j : Nat} (h : k < j) (hj : j < 2 ^ 30) : zv (pEi k) < zv (pEi j) := by
  rw [(pEi_zv (show k < 2 ^ 30 by omega)).2, (pEi_zv hj).2]
  exact Int.mul_lt_mul_of_pos_right (Int.ofNat_lt.mpr h) (p2_pos _)
theorem addw_nn {a w : UInt64} (fa : xFin a) (hw : xNn w) : xNn (FP.dadd a w) := (FP.Core.notNaN_iff _).mp (FP.Core.dadd_out' fa ((FP.Core.notNaN_iff _).mpr hw))
theorem addw_mono {a b w : UInt64} (fa : xFin a) (fb : xFin b) (hw : xNn w) (h : zv a ≤ zv b) : zv (FP.dadd a w) ≤ zv (FP.dadd b w) := by
  cases e : xv w with
  | nan => exact absurd e hw
  | inf s =>
    obtain ⟨s1, c1, q1, e1⟩ := fa
    obtain ⟨s2, c2, q2, e2⟩ := fb
    have x1 : xv (FP.dadd a w) = .inf s := by
      rw [show xv (FP.dadd a w) = FP.Core.round FP.Core.b64 (FP.Core.exactSum (xv a) (xv w)) from FP.Core.val64_dadd a w, show xv a = _ from e1, e]; rfl
    have x2 : xv (FP.dadd b w) = .inf s := by
      rw [show xv (FP.dadd b w) = FP.Core.round FP.Core.b64 (FP.Core.exactSum (xv b) (xv w)) from FP.Core.val64_dadd b w, show xv b = _ from e2, e]; rfl
    rw [zv_inf x1, zv_inf x2]
    exact Int.le_refl _
  | fin s c q => exact zadd_mono fa ⟨_, _, _, e⟩ fb ⟨_, _, _, e⟩ (by omega)
set_option maxHeartbeats 1000000 in
/-- the last eighth before an end -/
theorem last_ok {z : UInt64} (fz : xFin z) (h0 : 0 < zv z) (h4 : zv z ≤ 4000 * xO) : ∃ m : Nat, m ≤ 32000 ∧ pLast z = nI m ∧ ∀ t : Nat, t ≤ m → zv (pEi t) < zv z := by
  obtain ⟨f8, z8⟩ := zv_8
  have hO := xO_pos
  have e8 : p2 1077 = 8 * xO := by decide +kernel
  have ep : xO = 8 * p2 1071 := by decide +kernel
  obtain ⟨V, fV, zV⟩ : ∃ V : UInt64, xFin V ∧ zv V = 8 * zv z := by
    obtain ⟨s, c, q, ez, ff⟩ := fin_of fz
    have hz := zv_of ez
    rw [hz] at h0
    obtain ⟨hs, hm⟩ := FP.Core.signed_pos h0
    rw [hs] at hz
    have hq1 := ff.2.1
    have hc : 1 ≤ c := by
      rcases Nat.eq_zero_or_pos c with h | h
      · subst h
        exact absurd hm (by rw [show FP.Core.zmag FP.Core.b64 (.fin s 0 q) = 0 from Nat.zero_mul _]; decide)
      · exact h
    have hq2 : q ≤ 20 := by
      refine Int.not_lt.mp fun hq => ?_
      have h1 : p2 1094 ≤ zv z := by
        rw [hz]
        refine Int.ofNat_le.mpr ?_
        show 2 ^ 1094 ≤ c * 2 ^ (q - FP.Core.b64.qmin).toNat
        rw [FP.Core.qmin_b64]
        calc 2 ^ 1094 ≤ 2 ^ (q - (-1074)).toNat := Nat.pow_le_pow_right (by decide) (by omega)
          _ = 1 * 2 ^ (q - (-1074)).toNat := (Nat.one_mul _).symm
          _ ≤ c * 2 ^ (q - (-1074)).toNat := Nat.mul_le_mul_right _ hc
      have h2 : 4000 * xO < p2 1094 := by decide +kernel
      omega
    obtain ⟨c', q', r1, r2⟩ := FP.Core.round_exact FP.Core.good_b64 false (c := c) (q := q + 3) ff.1 (by omega) (by
      rw [show FP.Core.b64.qmax = 971 by decide]; omega)
    have hv : xv (FP.Core.of64 (FP.Core.round FP.Core.b64 (.fin false c (q + 3)))) = .fin false c' q' := (FP.Core.val64_of64 (FP.Core.round_fits FP.Core.good_b64 _)).trans r1
    refine ⟨_, ⟨_, _, _, hv⟩, ?_⟩
    rw [zv_of hv, hz]
    show ((FP.Core.inUnits c' q' FP.Core.b64.qmin : Nat) : Int) = 8 * ((FP.Core.inUnits c q FP.Core.b64.qmin : Nat) : Int)
    rw [r2]
    show ((c * 2 ^ (q + 3 - FP.Core.b64.qmin).toNat : Nat) : Int) = 8 * ((c * 2 ^ (q - FP.Core.b64.qmin).toNat : Nat) : Int)
    rw [show (q + 3 - FP.Core.b64.qmin).toNat = (q - FP.Core.b64.qmin).toNat + 3 by omega, Nat.pow_add]
    generalize 2 ^ (q - FP.Core.b64.qmin).toNat = X
    rw [← Nat.mul_assoc, Int.natCast_mul (c * X)]
    omega
  have eq : zv z * zv 4620693217682128896 = zv V * xO := by
    rw [z8, zV, e8, Int.mul_assoc, Int.mul_left_comm]
  have p8 : 0 < zv 4620693217682128896 := by rw [z8]; exact p2_pos _
  have n8 := mul_nn fz f8
  have v8 : zv (FP.dmul z 4620693217682128896) = 8 * zv z := by
    rw [← zV]
    exact Int.le_antisymm (zmul_le fz f8 fV.nn (by omega) (Int.le_of_eq eq) (Int.le_of_lt h0) (Int.le_of_lt p8)) (zmul_ge fz f8 fV.nn (by omega) (Int.le_of_eq eq.symm) h0 p8)
  obtain ⟨j, j1, j2, j3, -⟩ := d2i_nn n8 (by omega) (B := 32000) (by decide) (by rw [v8]; show 8 * zv z ≤ 32000 * xO; omega)
  rw [v8] at j3
  have hj := (pEi_zv (show j < 2 ^ 30 by omega)).2
  have hle : zv (pEi j) ≤ zv z := by
    rw [hj]
    have : (j : Int) * xO = 8 * ((j : Int) * p2 1071) := by rw [ep, Int.mul_left_comm]
    omega
  have fj := (pEi_zv (show j < 2 ^ 30 by omega)).1
  unfold pLast
  rw [j2, show FP.ddiv (FP.i2d (nI j)) 4620693217682128896 = pEi j from rfl]
  by_cases hx : xlt (pEi j) z = true
  · rw [if_pos hx]
    have := (xlt_iff.mp hx).2.2
    exact ⟨j, j1, rfl, fun t ht => Int.lt_of_le_of_lt (pEi_le ht (by omega)) this⟩
  · rw [if_neg hx]
    have he : zv (pEi j) = zv z := by
      have : ¬ zv (pEi j) < zv z := fun y => hx (xlt_iff.mpr ⟨fj.nn, fz.nn, y⟩)
      omega
    have hj0 : j ≠ 0 := by
      intro e
      subst e
      rw [hj] at he
      have : (0 : Int) * p2 1071 = 0 := Int.zero_mul _
      have h9 : ((0 : Nat) : Int) * p2 1071 = 0 := this
      omega
    obtain ⟨t, rfl⟩ : ∃ t : Nat, j = t + 1 := ⟨j - 1, by omega⟩
    refine ⟨t, by omega, ?_, fun u hu => ?_⟩
    · rw [← nI_add, Int32.add_sub_cancel]
    · rw [← he]
      exact pEi_lt (by omega) (by omega)
theorem max_nI {k m : Nat} (hk : k < 2 ^ 30) (hm : m < 2 ^ 30) : (if nI k < nI m then nI m else nI k) = nI (max k m) := by
  by_cases h : k < m
  · rw [if_pos (nI_lt h (by omega)), Nat.max_eq_right (by omega)]
  · rw [if_neg (nI_nlt (by omega) (by omega)), Nat.max_eq_left (by omega)]
theorem pOv_iff {x y w h x2 y2 w2 h2 : UInt64} : pOv x y w h x2 y2 w2 h2 = true ↔ (xlt x (FP.dadd x2 w2) = true ∧ xlt x2 (FP.dadd x w) = true) ∧ xlt y (FP.dadd y2 h2) = true ∧ xlt y2 (FP.dadd y h) = true := by
  unfold pOv
  rw [Bool.and_eq_true, Bool.and_eq_true, Bool.and_eq_true, and_assoc]
/-- what overlaps at one place still does before its end -/
theorem ov_step {k t : Nat} {y w h x2 y2 w2 h2 : UInt64} (hk : k ≤ t) (ht : t < 2 ^ 30) (hw : xNn w) (ho : pOv (pEi k) y w h x2 y2 w2 h2 = true) (hz : zv (pEi t) < zv (FP.dadd x2 w2)) : pOv (pEi t) y w h x2 y2 w2 h2 = true := by
  obtain ⟨⟨a, b⟩, c⟩ := pOv_iff.mp ho
  have fk := (pEi_zv (show k < 2 ^ 30 by omega)).1
  have ft := (pEi_zv ht).1
  obtain ⟨-, n1, -⟩ := xlt_iff.mp a
  obtain ⟨n2, -, z2⟩ := xlt_iff.mp b
  exact pOv_iff.mpr ⟨⟨xlt_iff.mpr ⟨ft.nn, n1, hz⟩, xlt_iff.mpr ⟨n2, addw_nn ft hw, Int.lt_of_lt_of_le z2 (addw_mono fk ft hw (pEi_le hk ht))⟩⟩, c⟩
theorem skip_one {k : Nat} {y w h x2 y2 w2 h2 : UInt64} (hk : k ≤ 8000) (hw : xNn w) (hf : xFin (FP.dadd x2 w2)) (h4 : zv (FP.dadd x2 w2) ≤ 4000 * xO) (ho : pOv (pEi k) y w h x2 y2 w2 h2 = true) :
    ∃ m : Nat, (if nI k < pLast (FP.dadd x2 w2) then pLast (FP.dadd x2 w2) else nI k) = nI m ∧ k ≤ m ∧ m < 2 ^ 29 ∧ ∀ j : Nat, k ≤ j → j ≤ m → pOv (pEi j) y w h x2 y2 w2 h2 = true := by
  have hz := (xlt_iff.mp (pOv_iff.mp ho).1.1).2.2
  have hk0 : 0 ≤ zv (pEi k) := by
    rw [(pEi_zv (show k < 2 ^ 30 by omega)).2]; exact Int.mul_nonneg (Int.natCast_nonneg _) (Int.le_of_lt (p2_pos _))
  obtain ⟨m, m1, m2, m3⟩ := last_ok hf (by omega) h4
  rw [m2]
  refine ⟨max k m, max_nI (by omega) (by omega), Nat.le_max_left _ _, by omega, fun j j1 j2 => ov_step j1 (by omega) hw ho ?_⟩
  by_cases e : j ≤ m
  · exact m3 j e
  · have : j = k := by omega
    rw [this]; exact hz
theorem le2000 {x w : UInt64} (hx : pBetween x FP.dconst0 4652007308841189376 = true) (hw : pBetween w 4593671619917905920 4652007308841189376 = true) : xFin (FP.dadd x w) ∧ zv (FP.dadd x w) ≤ 4000 * xO := by
  obtain ⟨⟨n1, -, x1⟩, -, -, x2⟩ := btw_iff.mp hx
  obtain ⟨⟨n2, -, w1⟩, -, -, w2⟩ := btw_iff.mp hw
  rw [zv_1000] at x2 w2
  rw [zv_0] at x1
  rw [zv_oct.2] at w1
  have hO := xO_pos
  have hp := p2_pos 1071
  have hb : 1000 * xO ≤ p2 1084 := by decide +kernel
  have fx : xFin x := fin_zv (n := 1084) n1 x1 (by omega) (by decide)
  have fw : xFin w := fin_zv (n := 1084) n2 (by omega) (by omega) (by decide)
  obtain ⟨f4, z4⟩ := zv_i2d (nI 4000)
  rw [nI_toInt (by decide)] at z4
  have z4 : zv (FP.i2d (nI 4000)) = 4000 * xO := z4
  have up : zv (FP.dadd x w) ≤ 4000 * xO := by
    rw [← z4]
    exact zadd_le fx fw f4.nn (by rw [z4]; omega)
  have lo := zadd_ge fx fw xFin_0.nn (by rw [zv_0]; omega)
  rw [zv_0] at lo
  have hb2 : 4000 * xO ≤ p2 1087 := by decide +kernel
  exact ⟨fin_zv (n := 1087) (add_nn fx fw) lo (by omega) (by decide), up⟩
/-- on the board: not beyond its end -/
theorem fit_le {k : Nat} {w W : UInt64} (hk : k < 2 ^ 30) (hw : xNn w) (hw0 : 0 ≤ zv w) (hW : pBetween W FP.dconst1 4652007308841189376 = true) (h : xgt (FP.dadd (pEi k) w) W = false) : xFin (FP.dadd (pEi k) w) ∧ zv (FP.dadd (pEi k) w) ≤ 1000 * xO ∧ zv (pEi k) ≤ zv (FP.dadd (pEi k) w) := by
  obtain ⟨⟨n1, -, -⟩, -, -, x2⟩ := btw_iff.mp hW
  rw [zv_1000] at x2
  obtain ⟨fk, zk⟩ := pEi_zv hk
  have hn := addw_nn fk hw
  have hle : zv (FP.dadd (pEi k) w) ≤ zv W := by
    have : ¬ zv W < zv (FP.dadd (pEi k) w) := fun z => absurd (xgt_iff.mpr ⟨hn, n1, z⟩) (by rw [h]; decide)
    omega
  have hge : zv (pEi k) ≤ zv (FP.dadd (pEi k) w) := by
    have h1 := addw_mono fk fk hw (Int.le_refl _)
    cases e : xv w with
    | nan => exact absurd e hw
    | inf s =>
      exfalso
      obtain ⟨s1, c1, q1, e1⟩ := fk
      have x1 : xv (FP.dadd (pEi k) w) = .inf s := by
        rw [show xv (FP.dadd (pEi k) w) = FP.Core.round FP.Core.b64 (FP.Core.exactSum (xv (pEi k)) (xv w)) from FP.Core.val64_dadd _ w, show xv (pEi k) = _ from e1, e]; rfl
      rw [zv_inf e] at hw0
      have hs : s = false := by
        cases s
        · rfl
        · exfalso
          have hT := top_pos
          have : (0 : Int) ≤ -((FP.Core.b64.tails * 2 ^ (FP.Core.b64.exps - 2) : Nat) : Int) := hw0
          omega
      subst hs
      rw [zv_inf x1] at hle
      have : 1000 * xO < FP.Core.signed false (FP.Core.b64.tails * 2 ^ (FP.Core.b64.exps - 2)) := by decide +kernel
      omega
    | fin s c q => exact zadd_ge fk ⟨_, _, _, e⟩ fk.nn (by omega)
  have k0 : 0 ≤ zv (pEi k) := by rw [zk]; exact Int.mul_nonneg (Int.natCast_nonneg _) (Int.le_of_lt (p2_pos _))
  have hb : 1000 * xO ≤ p2 1084 := by decide +kernel
  exact ⟨fin_zv (n := 1084) hn (by omega) (by omega) (by decide), by omega, hge⟩
theorem fit_8000 {k : Nat} {w W : UInt64} (hk : k < 2 ^ 30) (hw : xNn w) (hw0 : 0 ≤ zv w) (hW : pBetween W FP.dconst1 4652007308841189376 = true) (h : xgt (FP.dadd (pEi k) w) W = false) : k ≤ 8000 := by
  obtain ⟨-, h1, h2⟩ := fit_le hk hw hw0 hW h
  rw [(pEi_zv hk).2] at h2
  have ep : xO = 8 * p2 1071 := by decide +kernel
  have hp := p2_pos 1071
  have : (k : Int) * p2 1071 ≤ 8000 * p2 1071 := by omega
  exact Int.ofNat_le.mp (Int.le_of_mul_le_mul_right this hp)
theorem fit_mono {k j : Nat} {w W : UInt64} (hj : j ≤ k) (hk : k < 2 ^ 30) (hw : xNn w) (h : xgt (FP.dadd (pEi k) w) W = false) : xgt (FP.dadd (pEi j) w) W = false := by
  refine bfalse.mpr fun z => ?_
  obtain ⟨a, b, c⟩ := xgt_iff.mp z
  have fk := (pEi_zv hk).1
  have := addw_mono (pEi_zv (show j < 2 ^ 30 by omega)).1 fk hw (pEi_le hj hk)
  exact absurd (xgt_iff.mpr ⟨addw_nn fk hw, b, Int.lt_of_lt_of_le c this⟩) (by rw [h]; decide)
theorem fit_xle {k : Nat} {w W : UInt64} (hk : k < 2 ^ 30) (hw : xNn w) (hW : xNn W) : xle (FP.dadd (pEi k) w) W = true ↔ xgt (FP.dadd (pEi k) w) W = false := by
  have hn := addw_nn (pEi_zv hk).1 hw
  rw [bfalse, xle_iff, xgt_iff]
  exact ⟨fun z y => by have := z.2.2; have := y.2.2; omega, fun z => ⟨hn, hW, Int.not_lt.mp fun y => z ⟨hn, hW, y⟩⟩⟩
