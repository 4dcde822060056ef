/-! ROOT between powers of two. -/
def p2 (n : Nat) : Int := ((2 ^ n : Nat) : Int)
theorem p2_add (a b : Nat) : p2 (a + b) = p2 a * p2 b := by unfold p2; rw [Nat.pow_add, Int.natCast_mul]
theorem p2_s (n : Nat) : p2 (n + 1) = 2 * p2 n := by unfold p2; rw [Nat.pow_succ, Int.natCast_mul]; omega
theorem p2_pos (n : Nat) : 0 < p2 n := Int.natCast_pos.mpr (Nat.two_pow_pos n)
theorem p2_le {a b : Nat} (h : a ≤ b) : p2 a ≤ p2 b := Int.ofNat_le.mpr (Nat.pow_le_pow_right (by decide) h)
theorem p2_inj {a b : Nat} (h : p2 a < p2 b) : a < b := Nat.lt_of_not_le fun z => absurd h (Int.not_lt.mpr (p2_le z))
theorem xO_p2 : xO = p2 1074 := rfl
theorem zv_units {x : UInt64} (h : xNn x) : (zv x).natAbs = FP.Core.unitsOf FP.Core.b64 (x.toNat % 2 ^ 63) := (zv_abs h).trans (FP.Core.zmag_bits h)
theorem units_pw {K : Nat} (h : 1 ≤ K) : FP.Core.unitsOf FP.Core.b64 (K * 2 ^ 52) = 2 ^ (51 + K) := by
  rw [← FP.Core.tails_b64, FP.Core.unitsOf_start h, FP.Core.tails_b64, ← Nat.pow_add]
  congr 1; omega
/-- how large a double is, by its bits -/
def Bd (x : UInt64) (K : Nat) : Prop := x.toNat % 2 ^ 63 < K * 2 ^ 52
theorem Bd.mono {x : UInt64} {K L : Nat} (h : Bd x K) (hL : K ≤ L) : Bd x L := Nat.lt_of_lt_of_le h (Nat.mul_le_mul_right _ hL)
theorem Bd.fin {x : UInt64} {K : Nat} (h : Bd x K) (hK : K ≤ 2047) : xFin x := FP.Core.fin_of_lt h hK
theorem Bd.lt {x : UInt64} {K : Nat} (h : Bd x K) (hK : 1 ≤ K) (hK2 : K ≤ 2047) : ((zv x).natAbs : Int) < p2 (51 + K) := by
  rw [zv_units (h.fin hK2).nn, p2, ← units_pw hK]
  exact Int.ofNat_lt.mpr (FP.Core.unitsOf_lt h)
theorem Bd_of {x : UInt64} {K : Nat} (hn : xNn x) (h0 : 0 ≤ zv x) (hK : 1 ≤ K) (h : zv x ≤ p2 (51 + K)) : Bd x (K + 1) := by
  have h1 : (zv x).natAbs ≤ 2 ^ (51 + K) := by
    have : ((zv x).natAbs : Int) ≤ p2 (51 + K) := by omega
    exact Int.ofNat_le.mp this
  rw [zv_units hn, ← units_pw hK] at h1
  have := FP.Core.unitsOf_le_iff.mp h1
  unfold Bd; omega
theorem Bd_ge {x : UInt64} {K : Nat} (hn : xNn x) (hK : 1 ≤ K) (h : p2 (51 + K) ≤ zv x) : K * 2 ^ 52 ≤ x.toNat % 2 ^ 63 := by
  have h1 : 2 ^ (51 + K) ≤ (zv x).natAbs := by
    have : p2 (51 + K) ≤ ((zv x).natAbs : Int) := by omega
    exact Int.ofNat_le.mp this
  rw [zv_units hn, ← units_pw hK] at h1
  exact FP.Core.unitsOf_le_iff.mp h1
theorem fin_zv {x : UInt64} {n : Nat} (hn : xNn x) (h0 : 0 ≤ zv x) (h : zv x ≤ p2 n) (h2 : n ≤ 2090) : xFin x := by
  have := Bd_of (K := 2039) hn h0 (by decide) (Int.le_trans h (p2_le (by omega)))
  exact this.fin (by decide)
/-- a power of two -/
def xpw (K : Nat) : UInt64 := UInt64.ofNat (K * 2 ^ 52)
theorem xpw_nat {K : Nat} (h : K ≤ 2046) : (xpw K).toNat = K * 2 ^ 52 := by
  unfold xpw
  rw [UInt64.toNat_ofNat']
  exact Nat.mod_eq_of_lt (by omega)
theorem xpw_bd {K : Nat} (h : K ≤ 2046) : Bd (xpw K) (K + 1) := by
  unfold Bd; rw [xpw_nat h]; omega
theorem xpw_fin {K : Nat} (h : K ≤ 2046) : xFin (xpw K) := (xpw_bd h).fin (by omega)
theorem xpw_zv {K : Nat} (h1 : 1 ≤ K) (h : K ≤ 2046) : zv (xpw K) = p2 (51 + K) := by
  have h0 : 0 ≤ zv (xpw K) := FP.Core.zval_nonneg (xpw_fin h).nn (by rw [xpw_nat h]; omega)
  have h2 := zv_units (xpw_fin h).nn
  rw [xpw_nat h, show K * 2 ^ 52 % 2 ^ 63 = K * 2 ^ 52 from Nat.mod_eq_of_lt (by omega), units_pw h1] at h2
  unfold p2
  omega
theorem zv_1 : zv FP.dconst1 = xO := by
  have : FP.dconst1 = xpw 1023 := by decide +kernel
  rw [this, xpw_zv (by decide) (by decide), xO_p2]
theorem xFin_1 : xFin FP.dconst1 := ⟨_, _, _, FP.Core.val64_dconst1⟩
theorem two_pw : (4611686018427387904 : UInt64) = xpw 1024 := by decide +kernel
theorem zv_2 : zv 4611686018427387904 = p2 1075 := by rw [two_pw, xpw_zv (by decide) (by decide)]
theorem xFin_2 : xFin 4611686018427387904 := by rw [two_pw]; exact xpw_fin (by decide)
theorem add_nn {a b : UInt64} (ha : xFin a) (hb : xFin b) : xNn (FP.dadd a b) := (FP.Core.notNaN_iff _).mp (FP.Core.dadd_out ha.notNaN hb)
theorem sub_nn {a b : UInt64} (ha : xFin a) (hb : xFin b) : xNn (FP.dsub a b) := (FP.Core.notNaN_iff _).mp (FP.Core.dsub_out ha.notNaN hb)
theorem mul_nn {a b : UInt64} (ha : xFin a) (hb : xFin b) : xNn (FP.dmul a b) := (FP.Core.notNaN_iff _).mp (FP.Core.dmul_out ha hb)
/-- Newton's steps stay between powers of two -/
theorem root_up {P : Nat → Int} (hP9 : P = p2) {v : UInt64} (hv : xFin v) (h0 : 0 < zv v) {M : Nat} (hM : 4 ≤ M) (hM2 : M ≤ 900) (hU : zv v + xO ≤ P (1074 + M)) : ∀ k : Nat, k ≤ 40 → xFin (pIter v k) ∧ zv (pIter v k) ≤ P (1074 + M) ∧ P (1074 - k) ≤ zv (pIter v k) ∧ ∀ e : Nat, 1030 ≤ e → P e ≤ zv v → zv v < P (e + 1) → P (e + 1 - M) ≤ zv (pIter v k) := by
  have Padd : ∀ a b : Nat, P (a + b) = P a * P b := by intro a b; rw [hP9]; exact p2_add a b
  have Ps : ∀ n : Nat, P (n + 1) = 2 * P n := by intro n; rw [hP9]; exact p2_s n
  have Ppos : ∀ n : Nat, 0 < P n := by intro n; rw [hP9]; exact p2_pos n
  have Ple : ∀ {a b : Nat}, a ≤ b → P a ≤ P b := by intro a b h; rw [hP9]; exact p2_le h
  have Pinj : ∀ {a b : Nat}, P a < P b → a < b := by intro a b h; rw [hP9] at h; exact p2_inj h
  have xOP : xO = P 1074 := by rw [hP9]; exact xO_p2
  have z2P : zv 4611686018427387904 = P 1075 := by rw [hP9]; exact zv_2
  have finP : ∀ {x : UInt64} {n : Nat}, xNn x → 0 ≤ zv x → zv x ≤ P n → n ≤ 2090 → xFin x := by intro x n h1 h2 h3 h4; rw [hP9] at h3; exact fin_zv h1 h2 h3 h4
  have hO := xO_pos
  have eU : zv (xpw (M + 1023)) = P (1074 + M) := by rw [hP9, xpw_zv (by omega) (by omega)]; congr 1; omega
  have fU : xFin (xpw (M + 1023)) := xpw_fin (by omega)
  have e2U : zv (xpw (M + 1024)) = P (1074 + M + 1) := by rw [hP9, xpw_zv (by omega) (by omega)]; congr 1; omega
  have f2U : xFin (xpw (M + 1024)) := xpw_fin (by omega)
  have pU := Ppos (1074 + M)
  have heM : ∀ e : Nat, P e ≤ zv v → e < 1074 + M := fun e h => Pinj (by omega)
  intro k
  induction k with
  | zero =>
    intro _
    have hup : zv (pIter v 0) ≤ P (1074 + M) := by
      rw [← eU]
      exact zadd_le xFin_1 hv fU.nn (by rw [eU, zv_1]; omega)
    have hlo : P 1074 ≤ zv (pIter v 0) := by
      rw [← xOP, ← zv_1]
      exact zadd_ge xFin_1 hv xFin_1.nn (by omega)
    have p0 := Ppos 1074
    exact ⟨finP (add_nn xFin_1 hv) (by omega) hup (by omega), hup, hlo, fun e he h1 h2 => Int.le_trans (Ple (by have := heM e h1; omega)) hlo⟩
  | succ k ih =>
    intro hk
    obtain ⟨fr, hru, hrl, hrP⟩ := ih (by omega)
    show xFin (FP.ddiv (FP.dadd (pIter v k) (FP.ddiv v (pIter v k))) 4611686018427387904) ∧ zv (FP.ddiv (FP.dadd (pIter v k) (FP.ddiv v (pIter v k))) 4611686018427387904) ≤ _ ∧ _ ≤ zv (FP.ddiv (FP.dadd (pIter v k) (FP.ddiv v (pIter v k))) 4611686018427387904) ∧ ∀ e : Nat, 1030 ≤ e → P e ≤ zv v → zv v < P (e + 1) → _ ≤ zv (FP.ddiv (FP.dadd (pIter v k) (FP.ddiv v (pIter v k))) 4611686018427387904)
    generalize pIter v k = r at fr hru hrl hrP ⊢
    have r0 : 0 < zv r := Int.lt_of_lt_of_le (Ppos _) hrl
    obtain ⟨qn, q0⟩ := zdiv_nn hv fr (Int.le_of_lt h0) r0
    have hqu : zv (FP.ddiv v r) ≤ P (1074 + M) := by
      rw [← eU]
      refine zdiv_le hv fr (Int.le_of_lt h0) r0 fU.nn (by rw [eU]; omega) ?_
      rw [eU, xOP]
      by_cases hs : zv v < P 1030
      · have h1 : P 1034 ≤ zv r := Int.le_trans (Ple (by omega)) hrl
        calc zv v * P 1074 ≤ P 1030 * P 1074 := Int.mul_le_mul_of_nonneg_right (Int.le_of_lt hs) (Int.le_of_lt (Ppos _))
          _ = P (1030 + 1074) := (Padd _ _).symm
          _ ≤ P (1074 + M + 1034) := Ple (by omega)
          _ = P (1074 + M) * P 1034 := Padd _ _
          _ ≤ P (1074 + M) * zv r := Int.mul_le_mul_of_nonneg_left h1 (Int.le_of_lt (Ppos _))
      · have hn0 : (zv v).toNat ≠ 0 := by omega
        have l1 : P (zv v).toNat.log2 ≤ zv v := by
          have := Int.ofNat_le.mpr (Nat.log2_self_le hn0)
          rw [hP9]; unfold p2; omega
        have l2 : zv v < P ((zv v).toNat.log2 + 1) := by
          have := Int.ofNat_lt.mpr (Nat.lt_log2_self (n := (zv v).toNat))
          rw [hP9]; unfold p2; omega
        have l3 : 1030 ≤ (zv v).toNat.log2 := by
          have := Pinj (show P 1030 < P ((zv v).toNat.log2 + 1) by omega)
          omega
        have l4 := heM _ l1
        generalize (zv v).toNat.log2 = e at l1 l2 l3 l4
        have hP := hrP e l3 l1 l2
        calc zv v * P 1074 ≤ P (e + 1) * P 1074 := Int.mul_le_mul_of_nonneg_right (Int.le_of_lt l2) (Int.le_of_lt (Ppos _))
          _ = P (e + 1 + 1074) := (Padd _ _).symm
          _ = P (1074 + M + (e + 1 - M)) := by congr 1; omega
          _ = P (1074 + M) * P (e + 1 - M) := Padd _ _
          _ ≤ P (1074 + M) * zv r := Int.mul_le_mul_of_nonneg_left hP (Int.le_of_lt (Ppos _))
    have fq : xFin (FP.ddiv v r) := finP qn q0 hqu (by omega)
    have hsu : zv (FP.dadd r (FP.ddiv v r)) ≤ P (1074 + M + 1) := by
      rw [← e2U]
      refine zadd_le fr fq f2U.nn ?_
      rw [e2U, Ps]; omega
    have hsr : zv r ≤ zv (FP.dadd r (FP.ddiv v r)) := zadd_ge fr fq fr.nn (by omega)
    have hsq : zv (FP.ddiv v r) ≤ zv (FP.dadd r (FP.ddiv v r)) := zadd_ge fr fq fq.nn (by omega)
    have fs : xFin (FP.dadd r (FP.ddiv v r)) := finP (add_nn fr fq) (by omega) hsu (by omega)
    have hP2 : ∀ e : Nat, 1030 ≤ e → P e ≤ zv v → zv v < P (e + 1) → P (e + 1 - M + 1) ≤ zv (FP.dadd r (FP.ddiv v r)) := by
      intro e he l1 l2
      by_cases hr2 : P (e + 1 - M + 1) ≤ zv r
      · omega
      · refine Int.le_trans ?_ hsq
        have l4 := heM e l1
        have eV : zv (xpw (e + 1 - M + 1 - 51)) = P (e + 1 - M + 1) := by rw [hP9, xpw_zv (by omega) (by omega)]; congr 1; omega
        rw [← eV]
        refine zdiv_ge hv fr (Int.le_of_lt h0) r0 (xpw_fin (by omega)).nn (by rw [eV]; exact Int.le_of_lt (Ppos _)) ?_
        rw [eV, xOP]
        calc P (e + 1 - M + 1) * zv r ≤ P (e + 1 - M + 1) * P (e + 1 - M + 1) := Int.mul_le_mul_of_nonneg_left (Int.le_of_lt (Int.not_le.mp hr2)) (Int.le_of_lt (Ppos _))
          _ = P (e + 1 - M + 1 + (e + 1 - M + 1)) := (Padd _ _).symm
          _ ≤ P (e + 1074) := Ple (by omega)
          _ = P e * P 1074 := Padd _ _
          _ ≤ zv v * P 1074 := Int.mul_le_mul_of_nonneg_right l1 (Int.le_of_lt (Ppos _))
    generalize FP.dadd r (FP.ddiv v r) = s at hsu hsr fs hP2 ⊢
    have z2 : 0 < zv 4611686018427387904 := by rw [z2P]; exact Ppos _
    obtain ⟨tn, t0⟩ := zdiv_nn fs xFin_2 (by omega) z2
    have htu : zv (FP.ddiv s 4611686018427387904) ≤ P (1074 + M) := by
      rw [← eU]
      refine zdiv_le fs xFin_2 (by omega) z2 fU.nn (by rw [eU]; omega) ?_
      rw [eU, z2P, xOP]
      calc zv s * P 1074 ≤ P (1074 + M + 1) * P 1074 := Int.mul_le_mul_of_nonneg_right hsu (Int.le_of_lt (Ppos _))
        _ = P (1074 + M + 1 + 1074) := (Padd _ _).symm
        _ = P (1074 + M + 1075) := rfl
        _ = P (1074 + M) * P 1075 := Padd _ _
    have half : ∀ n : Nat, 52 ≤ n → n ≤ 2000 → P (n + 1) ≤ zv s → P n ≤ zv (FP.ddiv s 4611686018427387904) := by
      intro n n1 n2 hn
      have eV : zv (xpw (n - 51)) = P n := by rw [hP9, xpw_zv (by omega) (by omega)]; congr 1; omega
      rw [← eV]
      refine zdiv_ge fs xFin_2 (by omega) z2 (xpw_fin (by omega)).nn (by rw [eV]; exact Int.le_of_lt (Ppos _)) ?_
      rw [eV, z2P, xOP]
      calc P n * P 1075 = P (n + 1075) := (Padd _ _).symm
        _ = P (n + 1 + 1074) := by rw [show n + 1075 = n + 1 + 1074 by omega]
        _ = P (n + 1) * P 1074 := Padd _ _
        _ ≤ zv s * P 1074 := Int.mul_le_mul_of_nonneg_right hn (Int.le_of_lt (Ppos _))
    refine ⟨finP tn t0 htu (by omega), htu, half _ (by omega) (by omega) ?_, fun e he l1 l2 => half _ (by have := heM e l1; omega) (by have := heM e l1; omega) (hP2 e he l1 l2)⟩
    rw [show 1074 - (k + 1) + 1 = 1074 - k by omega]
    omega
theorem pRoot_up {v : UInt64} (hv : xFin v) {M : Nat} (hM : 4 ≤ M) (hM2 : M ≤ 900) (hU : zv v + xO ≤ p2 (1074 + M)) : xFin (pRoot v) ∧ 0 ≤ zv (pRoot v) ∧ zv (pRoot v) ≤ p2 (1074 + M) := by
  unfold pRoot
  by_cases h : xgt v FP.dconst0 = true
  · rw [if_pos h]
    have h0 := (xgt_iff.mp h).2.2
    rw [zv_0] at h0
    obtain ⟨h1, h2, h3, -⟩ := root_up rfl hv h0 hM hM2 hU 40 (by decide)
    exact ⟨h1, Int.le_trans (Int.le_of_lt (p2_pos _)) h3, h2⟩
  · rw [if_neg h]
    exact ⟨xFin_0, by rw [zv_0]; decide, by rw [zv_0]; exact Int.le_of_lt (p2_pos _)⟩
theorem Bd_root {v : UInt64} {K : Nat} (h : Bd v K) (hK : K ≤ 1900) : Bd (pRoot v) (max K 1026 + 2) ∧ 0 ≤ zv (pRoot v) := by
  have h1 : Bd v (max K 1026) := h.mono (Nat.le_max_left _ _)
  have hmx : max K 1026 ≤ 1900 := by omega
  have hmn : 1026 ≤ max K 1026 := by omega
  generalize max K 1026 = L at h1 hmx hmn ⊢
  have h2 := h1.lt (by omega) (by omega)
  obtain ⟨f, n0, up⟩ := pRoot_up (v := v) (h1.fin (by omega)) (M := L - 1022) (by omega) (by omega) (by
    rw [show 1074 + (L - 1022) = 51 + L + 1 by omega, p2_s, xO_p2]
    have := p2_le (show 1074 ≤ 51 + L by omega)
    omega)
  exact ⟨Bd_of f.nn n0 (by omega) (by rw [show 51 + (L + 1) = 1074 + (L - 1022) by omega]; exact up), n0⟩
