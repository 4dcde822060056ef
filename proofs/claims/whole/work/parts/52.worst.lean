/-! A strip's first cell: its STRETCH is a number. The cell with the greatest one is the same for both. -/
theorem Nat.lt_succ_mul_div_of (n : Nat) : n < (n / 2 ^ 52 + 1) * 2 ^ 52 := by omega
theorem bd_add {a b : UInt64} {K : Nat} (ha : Bd a K) (hb : Bd b K) (hK : K ≤ 2047) : Bd (FP.dadd a b) (K + 2) := FP.Core.dadd_mag ha hb hK
theorem bd_sub {a b : UInt64} {K : Nat} (ha : Bd a K) (hb : Bd b K) (hK : K ≤ 2047) : Bd (FP.dsub a b) (K + 2) := FP.Core.dsub_mag ha hb hK
theorem bd_mul {a b : UInt64} {K L : Nat} (ha : Bd a K) (hb : Bd b L) (hK : K ≤ 2047) (hL : L ≤ 2047) : Bd (FP.dmul a b) (K + L - 1025 + 3) := FP.Core.dmul_mag ha hb hK hL
theorem bd_div {a b : UInt64} {K L : Nat} (ha : Bd a K) (hb : L * 2 ^ 52 ≤ b.toNat % 2 ^ 63) (hb2 : Bd b 2047) (hK : K ≤ 2047) (hL : 1 ≤ L) : Bd (FP.ddiv a b) (K + 1021 - L + 3) := FP.Core.ddiv_mag ha hb hb2 hK hL
theorem bd_0 {K : Nat} (h : 1 ≤ K) : Bd FP.dconst0 K := Nat.lt_of_lt_of_le (show FP.dconst0.toNat % 2 ^ 63 < 1 * 2 ^ 52 by decide) (Nat.mul_le_mul_right _ h)
theorem bd_le {x y : UInt64} {K : Nat} (hx : xNn x) (hy : xNn y) (h0 : 0 ≤ zv x) (h : zv x ≤ zv y) (hb : Bd y K) : Bd x K := by
  have h1 : (zv x).natAbs ≤ (zv y).natAbs := by omega
  rw [zv_units hx, zv_units hy] at h1
  exact Nat.lt_of_le_of_lt (FP.Core.unitsOf_le_iff.mp h1) hb
theorem bits_ge {x : UInt64} {L : Nat} (hx : xNn x) (h0 : 0 ≤ zv x) (hL : 1 ≤ L) (h : L * 2 ^ 52 ≤ x.toNat % 2 ^ 63) : p2 (51 + L) ≤ zv x := by
  have h1 := FP.Core.unitsOf_le_iff (f := FP.Core.b64).mpr h
  rw [units_pw hL, ← zv_units hx] at h1
  have := Int.ofNat_le.mpr h1
  unfold p2; omega
theorem dbl_ge {c : UInt64} (hc : xFin c) (h0 : 0 < zv c) : zv c ≤ zv (FP.dmul 4611686018427387904 c) := by
  refine zmul_ge xFin_2 hc hc.nn (Int.le_of_lt h0) ?_ (by rw [zv_2]; exact p2_pos _) h0
  rw [zv_2, Int.mul_comm, xO_p2]
  exact Int.mul_le_mul_of_nonneg_right (p2_le (by decide)) (Int.le_of_lt h0)
/-- a corner that is PUT is not far -/
theorem put_bd {d : Nat → UInt64} {p q : Nat} {r s : UInt64} {B : Nat} (hB : 1054 ≤ B) (hB2 : B ≤ 1200) (h1 : Bd (d (2 * p)) B) (h2 : Bd (d (2 * p + 1)) B) (h3 : Bd (d (2 * q)) B) (h4 : Bd (d (2 * q + 1)) B) (hr : Bd r 1054) (hs : Bd s 1054) (hg : pPutBad d p q = false) : Bd (pPutX d p q r s) (B + 100) ∧ Bd (pPutY d p q r s) (B + 100) := by
  have vx := bd_sub h3 h1 (by omega)
  have vy := bd_sub h4 h2 (by omega)
  have vv := bd_add (bd_mul vx vx (by omega) (by omega)) (bd_mul vy vy (by omega) (by omega)) (by omega)
  obtain ⟨hc, hc0⟩ := Bd_root vv (by omega)
  have hc : Bd (pPutC d p q) (2 * B - 1014) := Bd.mono hc (by omega)
  have hc0 : 0 ≤ zv (pPutC d p q) := hc0
  have fc : xFin (pPutC d p q) := hc.fin (by omega)
  have hg1 : p2 (51 + 1013) ≤ zv (pPutC d p q) := by
    unfold pPutBad at hg
    have e : (4562146422526312448 : UInt64) = xpw 1013 := by decide +kernel
    rw [e] at hg
    have : ¬ zv (pPutC d p q) < zv (xpw 1013) := fun z => absurd (xlt_iff.mpr ⟨fc.nn, (xpw_fin (by decide)).nn, z⟩) (by rw [hg]; decide)
    rw [xpw_zv (by decide) (by decide)] at this
    exact Int.not_lt.mp this
  have hL0 := Bd_ge fc.nn (by decide) hg1
  obtain ⟨bb, hbb⟩ : ∃ bb : Nat, (pPutC d p q).toNat % 2 ^ 63 = bb := ⟨_, rfl⟩
  rw [hbb] at hL0
  obtain ⟨L, hL⟩ : ∃ L : Nat, L = bb / 2 ^ 52 := ⟨_, rfl⟩
  have hL1 : 1013 ≤ L := by omega
  have hL2 : L * 2 ^ 52 ≤ (pPutC d p q).toNat % 2 ^ 63 := by rw [hbb, hL]; exact Nat.div_mul_le_self bb (2 ^ 52)
  have hL3 : Bd (pPutC d p q) (L + 1) := by unfold Bd; rw [hbb, hL]; exact Nat.lt_succ_mul_div_of bb
  have hL4 : L < 2 * B - 1014 := by
    have hc9 := hc
    unfold Bd at hc9
    rw [hbb] at hc9
    have h9 : L * 2 ^ 52 < (2 * B - 1014) * 2 ^ 52 := Nat.lt_of_le_of_lt (hL ▸ Nat.div_mul_le_self bb (2 ^ 52)) hc9
    exact Nat.lt_of_mul_lt_mul_right h9
  have cpos : 0 < zv (pPutC d p q) := Int.lt_of_lt_of_le (p2_pos _) hg1
  have rr := bd_mul hr hr (by decide) (by decide)
  have ss := bd_mul hs hs (by decide) (by decide)
  have cc := bd_mul hL3 hL3 (by omega) (by omega)
  have nm := bd_add ((bd_sub rr ss (by decide)).mono (Nat.le_max_left _ (2 * L - 1020))) (cc.mono (show _ ≤ max 1088 (2 * L - 1020) by omega)) (by omega)
  have b2 : Bd (4611686018427387904 : UInt64) 1025 := by rw [two_pw]; exact xpw_bd (by decide)
  have dc := bd_mul b2 hL3 (by decide) (by omega)
  have dcf : xFin (FP.dmul 4611686018427387904 (pPutC d p q)) := dc.fin (by omega)
  have dcl : L * 2 ^ 52 ≤ (FP.dmul 4611686018427387904 (pPutC d p q)).toNat % 2 ^ 63 := Bd_ge dcf.nn (by omega) (Int.le_trans (bits_ge fc.nn hc0 (by omega) hL2) (dbl_ge fc cpos))
  have tt : Bd (pPutT d p q r s) (max 1088 (2 * L - 1020) + 2 + 1021 - L + 3) := bd_div nm dcl (dc.mono (by omega)) (by omega) (by omega)
  have tt : Bd (pPutT d p q r s) (max (2114 - L) (L + 6)) := tt.mono (by omega)
  have hT : max (2114 - L) (L + 6) ≤ 1400 := by omega
  have t2 := bd_mul tt tt (by omega) (by omega)
  have hh : Bd (pPutH d p q r s) 1088 := by
    unfold pPutH
    by_cases hx : xgt (FP.dsub (FP.dmul r r) (FP.dmul (pPutT d p q r s) (pPutT d p q r s))) FP.dconst0 = true
    · have z := (xgt_iff.mp hx).2.2
      rw [zv_0] at z
      have frr : xFin (FP.dmul r r) := rr.fin (by decide)
      have ftt : xFin (FP.dmul (pPutT d p q r s) (pPutT d p q r s)) := t2.fin (by omega)
      have le := zsub_le frr ftt frr.nn (by have := zsq_nonneg (tt.fin (by omega)); omega)
      exact (Bd_root (bd_le (sub_nn frr ftt) frr.nn (Int.le_of_lt z) le rr) (by decide)).1.mono (by omega)
    · unfold pRoot
      rw [if_neg hx]
      exact bd_0 (by decide)
  have cb : Bd (pPutC d p q) 2047 := hc.mono (by omega)
  have tx := bd_div (bd_mul tt vx (by omega) (by omega)) hL2 cb (by omega) (by omega)
  have ty := bd_div (bd_mul tt vy (by omega) (by omega)) hL2 cb (by omega) (by omega)
  have gx := bd_div (bd_mul hh vx (by omega) (by omega)) hL2 cb (by omega) (by omega)
  have gy := bd_div (bd_mul hh vy (by omega) (by omega)) hL2 cb (by omega) (by omega)
  have tx : Bd _ (B + 94) := tx.mono (by omega)
  have ty : Bd _ (B + 94) := ty.mono (by omega)
  have gx : Bd _ (B + 96) := gx.mono (by omega)
  have gy : Bd _ (B + 96) := gy.mono (by omega)
  exact ⟨(bd_add (bd_add (h1.mono (by omega)) tx (by omega)) gy (by omega)).mono (by omega), (bd_sub (bd_add (h2.mono (by omega)) ty (by omega)) gx (by omega)).mono (by omega)⟩
/-- the places told are within the document's numbers -/
def pGd (pl : Nat → UInt64) (F R : Nat) : Prop := ∀ f : Nat, f < F → ∀ r : Nat, r < R → ∀ k : Nat, k < 3 → Bd (pAt pl f r k) 1033
theorem far_bd {pl : Nat → UInt64} {F R f r g q : Nat} (h : pGd pl F R) (hf : f < F) (hr : r < R) (hg : g < F) (hq : q < R) : Bd (pFar pl f r g q) 1054 := by
  have dx := bd_sub (h g hg q hq 0 (by decide)) (h f hf r hr 0 (by decide)) (by decide)
  have dy := bd_sub (h g hg q hq 1 (by decide)) (h f hf r hr 1 (by decide)) (by decide)
  have dz := bd_sub (h g hg q hq 2 (by decide)) (h f hf r hr 2 (by decide)) (by decide)
  have sx := bd_mul dx dx (by decide) (by decide)
  have sy := bd_mul dy dy (by decide) (by decide)
  have sz := bd_mul dz dz (by decide) (by decide)
  exact (Bd_root (bd_add (bd_add sx sy (by decide)) (sz.mono (by decide)) (by decide)) (by decide)).1
/-- the corners of the first cell stay as they were put -/
theorem unr_keep {pd : Nat → Nat → Nat → Nat → UInt64} {x : Nat} : ∀ (k : Nat) (d : Nat → UInt64), pUnr pd x (k + 1) = some d → ∃ d1 : Nat → UInt64, pStep pd x (pD0 pd x) 1 = some d1 ∧ ∀ j : Nat, j < 8 → d j = d1 j := by
  intro k
  induction k with
  | zero =>
    intro d h
    exact ⟨d, h, fun _ _ => rfl⟩
  | succ k ih =>
    intro d h
    have h : (pUnr pd x (k + 1)).bind (fun d => pStep pd x d (k + 1 + 1)) = some d := h
    obtain ⟨d2, e2, h2⟩ := Option.bind_eq_some_iff.mp h
    obtain ⟨d1, e1, h1⟩ := ih d2 e2
    refine ⟨d1, e1, fun j hj => ?_⟩
    rw [← h1 j hj]
    unfold pStep at h2
    split at h2
    · cases h2
    · split at h2
      · cases h2
      · have e := Option.some.inj h2
        rw [← e]
        unfold pStep2 pStep1 pPutF
        rw [if_neg (by omega), if_neg (by omega), if_neg (by omega), if_neg (by omega)]
theorem step1_of {pd : Nat → Nat → Nat → Nat → UInt64} {x : Nat} {d1 : Nat → UInt64} (h : pStep pd x (pD0 pd x) 1 = some d1) : pPutBad (pD0 pd x) 0 1 = false ∧ pPutBad (pStep1 pd x (pD0 pd x) 1) 2 1 = false ∧ d1 = pStep2 pd x (pD0 pd x) 1 := by
  unfold pStep at h
  split at h
  · cases h
  · split at h
    · cases h
    · rename_i a b
      exact ⟨bfalse.mpr a, bfalse.mpr b, (Option.some.inj h).symm⟩
theorem unr_0 {pd : Nat → Nat → Nat → Nat → UInt64} {x k : Nat} {d : Nat → UInt64} (h : pUnr pd x (k + 1) = some d) : d 0 = FP.dconst0 ∧ d 1 = FP.dconst0 := by
  obtain ⟨d1, h1, h2⟩ := unr_keep k d h
  obtain ⟨-, -, e⟩ := step1_of h1
  rw [h2 0 (by decide), h2 1 (by decide), e]
  exact ⟨rfl, rfl⟩
/-- STRETCH out of the reckoned corners -/
def pOffD (d pl : Nat → UInt64) (i f : Nat) : UInt64 := FP.dsub (pLen (FP.dsub (d (4 * f + 6)) (d (4 * f))) (FP.dsub (d (4 * f + 7)) (d (4 * f + 1)))) (pFar pl f i (f + 1) (i + 1))
theorem offC_D {x y d pl : Nat → UInt64} {i f n : Nat} (h : xCo x y d n) (hf : 2 * f + 3 < n) : pOffC x y pl i f = pOffD d pl i f := by
  unfold pOffC pOffD
  have h1 := h (2 * f + 3) hf
  have h2 := h (2 * f) (by omega)
  rw [vq_sub h1.1 h2.1, vq_sub h1.2 h2.2, show 2 * (2 * f + 3) = 4 * f + 6 by omega, show 2 * (2 * f) = 4 * f by omega]
theorem offR_D {co d pl : Nat → UInt64} {i f F : Nat} (h : ∀ j : Nat, j < 4 * F → vq (co (32 * i + j)) (d j)) (hf : f + 1 < F) : pOff co pl i f = pOffD d pl i f := by
  unfold pOff pOffD
  rw [show 32 * i + 4 * f + 6 + 1 = 32 * i + (4 * f + 7) by omega, show 32 * i + 4 * f + 6 = 32 * i + (4 * f + 6) by omega, show 32 * i + 4 * f + 1 = 32 * i + (4 * f + 1) by omega, show 32 * i + 4 * f = 32 * i + (4 * f) by omega]
  rw [vq_sub (h (4 * f + 6) (by omega)) (h (4 * f) (by omega)), vq_sub (h (4 * f + 7) (by omega)) (h (4 * f + 1) (by omega))]
theorem off_nn {pl d : Nat → UInt64} {F R x : Nat} (hF : 2 ≤ F) (hx : x + 1 < R) (h : pGd pl F R) (hu : pUnr (pFar pl) x (F - 1) = some d) : xNn (pOffD d pl x 0) := by
  have hu : pUnr (pFar pl) x (F - 2 + 1) = some d := by rw [show F - 2 + 1 = F - 1 by omega]; exact hu
  obtain ⟨d0, dl⟩ := unr_0 hu
  obtain ⟨d1, h1, h2⟩ := unr_keep _ d hu
  obtain ⟨g1, g2, e⟩ := step1_of h1
  have fr : ∀ f r g q : Nat, f < 2 → r < R → g < 2 → q < R → Bd (pFar pl f r g q) 1054 := fun f r g q a b c e => far_bd h (by omega) b (by omega) e
  have D0 : ∀ j : Nat, Bd (pD0 (pFar pl) x j) 1054 := fun j => by
    unfold pD0
    split
    · exact fr _ _ _ _ (by decide) (by omega) (by decide) (by omega)
    · exact bd_0 (by decide)
  obtain ⟨x2, y2⟩ := put_bd (d := pD0 (pFar pl) x) (p := 0) (q := 1) (B := 1054) (by decide) (by decide) (D0 _) (D0 _) (D0 _) (D0 _) (fr 0 x 1 x (by decide) (by omega) (by decide) (by omega)) (fr 0 (x + 1) 1 x (by decide) (by omega) (by decide) (by omega)) g1
  have S1 : ∀ j : Nat, Bd (pStep1 (pFar pl) x (pD0 (pFar pl) x) 1 j) 1154 := fun j => by
    unfold pStep1 pPutF
    split
    · exact x2
    · split
      · exact y2
      · exact (D0 j).mono (by decide)
  obtain ⟨x3, y3⟩ := put_bd (d := pStep1 (pFar pl) x (pD0 (pFar pl) x) 1) (p := 2) (q := 1) (B := 1154) (by decide) (by decide) (S1 _) (S1 _) (S1 _) (S1 _) (fr 1 x 1 (x + 1) (by decide) (by omega) (by decide) (by omega)) (fr 0 (x + 1) 1 (x + 1) (by decide) (by omega) (by decide) (by omega)) g2
  have b6 : Bd (d 6) 1254 := by rw [h2 6 (by decide), e]; exact x3
  have b7 : Bd (d 7) 1254 := by rw [h2 7 (by decide), e]; exact y3
  have b0 : Bd (d 0) 1254 := by rw [d0]; exact bd_0 (by decide)
  have b1 : Bd (d 1) 1254 := by rw [dl]; exact bd_0 (by decide)
  have vx := bd_sub b6 b0 (by decide)
  have vy := bd_sub b7 b1 (by decide)
  have ln := (Bd_root (bd_add (bd_mul vx vx (by decide) (by decide)) (bd_mul vy vy (by decide) (by decide)) (by decide)) (by decide)).1
  exact sub_nn (ln.fin (by decide)) ((fr 0 x 1 (x + 1) (by decide) (by omega) (by decide) (by omega)).fin (by decide))
theorem zv_neg (v : UInt64) : zv (FP.dneg v) = - zv v := by
  unfold zv
  rw [show xv (FP.dneg v) = FP.Core.negate (xv v) from FP.val64_dneg v]
  exact FP.Core.zval_negate _ _
theorem neg_nn {v : UInt64} (h : xNn v) : xNn (FP.dneg v) := by
  show xv _ ≠ _
  rw [show xv (FP.dneg v) = FP.Core.negate (xv v) from FP.val64_dneg v]
  exact FP.Core.negate_ne_nan h
theorem size_gt {v : UInt64} (h : xNn v) : xgt (pSize v) 13830554455654793216 = true := by
  have hm : xlt 13830554455654793216 FP.dconst0 = true := by decide +kernel
  obtain ⟨n1, -, z⟩ := xlt_iff.mp hm
  rw [zv_0] at z
  unfold pSize
  split
  · rename_i hx
    have := (xlt_iff.mp hx).2.2
    rw [zv_0] at this
    exact xgt_iff.mpr ⟨neg_nn h, n1, by rw [zv_neg]; omega⟩
  · rename_i hx
    have : ¬ zv v < 0 := fun y => hx (xlt_iff.mpr ⟨h, xFin_0.nn, by rw [zv_0]; exact y⟩)
    exact xgt_iff.mpr ⟨h, n1, by omega⟩
/-- worst is the same for both -/
theorem worst_eq {co x y d pl : Nat → UInt64} {F R i : Nat} (hF : 2 ≤ F) (hi : i + 1 < R) (h : pGd pl F R) (hu : pUnr (pFar pl) i (F - 1) = some d) (hc : xCo x y d (2 * F)) (hr : ∀ j : Nat, j < 4 * F → vq (co (32 * i + j)) (d j)) : pWor co pl i (F - 1) = pWoC x y pl i (F - 2) := by
  have hb : ∀ f : Nat, f + 1 < F → pSize (pOff co pl i f) = pSize (pOffC x y pl i f) := fun f hf => by rw [offR_D hr hf, offC_D hc (by omega)]
  have K : ∀ k : Nat, k + 1 < F → pWor co pl i (k + 1) = pWoC x y pl i k := by
    intro k
    induction k with
    | zero =>
      intro _
      have hn := off_nn hF hi h hu
      rw [pWor_t (show xgt (pSize (pOff co pl i 0)) (pWor co pl i 0).2 = true by rw [offR_D hr (by omega)]; exact size_gt hn), hb 0 (by omega)]
      rfl
    | succ k ih =>
      intro hk
      have ih := ih (by omega)
      cases hx : xgt (pSize (pOffC x y pl i (k + 1))) (pWoC x y pl i k).2
      · rw [pWoC_f hx, pWor_f (by rw [ih, hb (k + 1) hk]; exact hx), ih]
      · rw [pWoC_t hx, pWor_t (by rw [ih, hb (k + 1) hk]; exact hx), hb (k + 1) hk]
  have := K (F - 2) (by omega)
  rw [show F - 2 + 1 = F - 1 by omega] at this
  exact this
