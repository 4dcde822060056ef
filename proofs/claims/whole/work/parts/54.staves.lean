/-! staves: the least number is the same for both. -/
theorem least_of {P : Nat → Prop} : ∀ b : Nat, 1 ≤ b → P b → ∃ N : Nat, 1 ≤ N ∧ N ≤ b ∧ P N ∧ ∀ n : Nat, 1 ≤ n → n < N → ¬ P n := by
  intro b
  induction b using Nat.strongRecOn with
  | _ b ih =>
    intro hb h
    by_cases hx : ∃ m : Nat, 1 ≤ m ∧ m < b ∧ P m
    · obtain ⟨m, h1, h2, h3⟩ := hx
      obtain ⟨N, a1, a2, a3⟩ := ih m h2 h1 h3
      exact ⟨N, a1, by omega, a3⟩
    · exact ⟨b, hb, Nat.le_refl _, h, fun n h1 h2 h3 => hx ⟨n, h1, h2, h3⟩⟩
theorem btw_iff {v a b : UInt64} : pBetween v a b = true ↔ (xNn v ∧ xNn a ∧ zv a ≤ zv v) ∧ (xNn v ∧ xNn b ∧ zv v ≤ zv b) := by
  unfold pBetween
  rw [Bool.and_eq_true, xge_iff, xle_iff]
theorem zv_1000 : zv 4652007308841189376 = 1000 * xO := by decide +kernel
theorem zv_pi : 0 < zv 4614256656552045848 ∧ zv 4614256656552045848 ≤ 4 * xO := by decide +kernel
theorem fin_pi : xFin 4614256656552045848 := Bd.fin (K := 1025) (show (4614256656552045848 : UInt64).toNat % 2 ^ 63 < 1025 * 2 ^ 52 by decide) (by decide)
theorem zmul_nn {a b : UInt64} (ha : xFin a) (hb : xFin b) (ha0 : 0 ≤ zv a) (hb0 : 0 ≤ zv b) : 0 ≤ zv (FP.dmul a b) := by
  obtain ⟨s, m, e, h1, -, h2, -⟩ := zmul_fin_sgn ha hb
  rw [e]
  by_cases hp : 0 < zv a ∧ 0 < zv b
  · rw [h2 hp]; exact Int.natCast_nonneg _
  · have z : (zv a).natAbs * (zv b).natAbs = 0 := by
      by_cases h : zv a = 0
      · rw [h]; exact Nat.zero_mul _
      · have : zv b = 0 := by omega
        rw [this]; exact Nat.mul_zero _
    have := h1 FP.dconst0 xFin_0.nn (by rw [z]; exact Int.natCast_nonneg _)
    rw [zv_0] at this
    have hm : m = 0 := by omega
    rw [hm, FP.Core.signed_zero]; exact Int.le_refl _
theorem d2i_nn {q : UInt64} (hn : xNn q) (h0 : 0 ≤ zv q) {B : Nat} (hB : B < 2 ^ 30) (h : zv q ≤ (B : Int) * xO) : ∃ j : Nat, j ≤ B ∧ FP.d2i q = nI j ∧ (j : Int) * xO ≤ zv q ∧ zv q < ((j : Int) + 1) * xO := by
  have hz := zv_abs hn
  have hv := FP.Core.d2i_val hn
  have hO := FP.Core.one64_pos
  have hqa : zv q = (((zv q).natAbs : Nat) : Int) := (Int.natAbs_of_nonneg h0).symm
  have hd := Nat.div_add_mod (zv q).natAbs FP.Core.one64
  have hm := Nat.mod_lt (zv q).natAbs hO
  have hj : (zv q).natAbs / FP.Core.one64 ≤ B := by
    refine Nat.div_le_of_le_mul ?_
    have : (((zv q).natAbs : Nat) : Int) ≤ ((B * FP.Core.one64 : Nat) : Int) := by rw [← hqa, Int.natCast_mul]; exact h
    rw [Nat.mul_comm]
    exact Int.ofNat_le.mp this
  have hsg : FP.Core.signed (FP.Core.sgn (FP.Core.val64 q)) (FP.Core.zmag FP.Core.b64 (FP.Core.val64 q) / FP.Core.one64) = (((zv q).natAbs / FP.Core.one64 : Nat) : Int) := by
    rw [hz]
    cases hs : FP.Core.sgn (FP.Core.val64 q)
    · rfl
    · have : zv q = FP.Core.signed true (FP.Core.zmag FP.Core.b64 (xv q)) := by unfold zv FP.Core.zval; rw [show FP.Core.sgn (xv q) = true from hs]
      have h2 : zv q = - ((FP.Core.zmag FP.Core.b64 (xv q) : Nat) : Int) := this
      have h3 : FP.Core.zmag FP.Core.b64 (xv q) = 0 := by omega
      rw [show FP.Core.zmag FP.Core.b64 (FP.Core.val64 q) = 0 from h3, Nat.zero_div]; rfl
  refine ⟨(zv q).natAbs / FP.Core.one64, hj, ?_, ?_, ?_⟩
  · refine Int32.toInt.inj ?_
    rw [nI_toInt (by omega)]
    refine hv.trans ?_
    rw [hsg]
    clear hv hsg hd hm hqa hz
    generalize (zv q).natAbs / FP.Core.one64 = j at hj ⊢
    have hj : j < 1073741824 := by omega
    show max (-2147483648) (min (2147483648 - 1) (j : Int)) = (j : Int)
    omega
  · rw [Int.mul_comm]
    have : ((FP.Core.one64 * ((zv q).natAbs / FP.Core.one64) : Nat) : Int) ≤ (((zv q).natAbs : Nat) : Int) := Int.ofNat_le.mpr (by omega)
    rw [Int.natCast_mul, ← hqa] at this
    exact this
  · have : (((zv q).natAbs : Nat) : Int) < ((FP.Core.one64 * ((zv q).natAbs / FP.Core.one64 + 1) : Nat) : Int) := Int.ofNat_lt.mpr (by rw [Nat.mul_add, Nat.mul_one]; omega)
    rw [← hqa, Int.natCast_mul, Int.mul_comm] at this
    exact this
/-- a whole number times a number of eighths -/
theorem kw_eq {W : UInt64} (fW : xFin W) {a k : Nat} (zW : zv W = (a : Int) * p2 1071) (ha : 1 ≤ a) (hk : 1 ≤ k) (hak : k * a < 2 ^ 53) (hk2 : k < 2 ^ 31) : xNn (FP.dmul (FP.i2d (nI k)) W) ∧ zv (FP.dmul (FP.i2d (nI k)) W) = ((k * a : Nat) : Int) * p2 1071 := by
  obtain ⟨f1, z1⟩ := zv_i2d (nI k)
  rw [nI_toInt hk2] at z1
  obtain ⟨V, fV, zV⟩ := eighth_ex (k * a) hak
  have hp := p2_pos 1071
  have hO := xO_pos
  have p1 : 0 < zv (FP.i2d (nI k)) := by rw [z1]; exact Int.mul_pos (by omega) hO
  have p3 : 0 < zv W := by rw [zW]; exact Int.mul_pos (by omega) hp
  have eq : zv (FP.i2d (nI k)) * zv W = zv V * xO := by
    rw [z1, zW, zV, Int.natCast_mul]
    generalize p2 1071 = P
    generalize xO = O
    rw [Int.mul_assoc, Int.mul_assoc, Int.mul_assoc, Int.mul_left_comm O, Int.mul_comm O]
  have h0 : 0 ≤ zv V := by rw [zV]; exact Int.mul_nonneg (Int.natCast_nonneg _) (Int.le_of_lt hp)
  exact ⟨mul_nn f1 fW, by rw [← zV]; exact Int.le_antisymm (zmul_le f1 fW fV.nn h0 (Int.le_of_eq eq) (Int.le_of_lt p1) (Int.le_of_lt p3)) (zmul_ge f1 fW fV.nn h0 (Int.le_of_eq eq.symm) p1 p3)⟩
set_option maxHeartbeats 1000000 in
theorem staves_ok (n m : Int32) (h : pStav (xE n) (xE m) = true) : ∃ N f9 : Nat,
    (1 ≤ N ∧ N < 2 ^ 30 ∧ (∀ k : Nat, 1 ≤ k → k < N → xlt (FP.dmul (FP.i2d (nI k)) (xE n)) (FP.dmul (xE m) 4614256656552045848) = true) ∧ xlt (FP.dmul (FP.i2d (nI N)) (xE n)) (FP.dmul (xE m) 4614256656552045848) = false) ∧
    ((if nI 1 < FP.d2i (FP.ddiv (FP.dmul (xE m) 4614256656552045848) (xE n)) - nI 2 then FP.d2i (FP.ddiv (FP.dmul (xE m) 4614256656552045848) (xE n)) - nI 2 else nI 1) = nI f9 ∧ 1 ≤ f9 ∧ f9 ≤ N ∧ N < 100000 ∧ (∀ k : Nat, f9 ≤ k → k < N → xge (FP.dmul (FP.i2d (nI k)) (xE n)) (FP.dmul (xE m) 4614256656552045848) = false) ∧ xge (FP.dmul (FP.i2d (nI N)) (xE n)) (FP.dmul (xE m) 4614256656552045848) = true) := by
  unfold pStav at h
  rw [Bool.and_eq_true] at h
  obtain ⟨h1, h2⟩ := h
  obtain ⟨⟨-, -, w1⟩, -, -, w2⟩ := btw_iff.mp h1
  obtain ⟨⟨-, -, d1⟩, -, -, d2⟩ := btw_iff.mp h2
  obtain ⟨fW, aW⟩ := xE_fin n
  obtain ⟨fD, -⟩ := xE_fin m
  rw [zv_1000] at w2 d2
  rw [zv_0] at d1
  rw [zv_oct.2] at w1
  obtain ⟨P, hP⟩ : ∃ P : Int, P = p2 1071 := ⟨_, rfl⟩
  have hp : 0 < P := by rw [hP]; exact p2_pos _
  have hO := xO_pos
  have hOP : xO = 8 * P := by rw [hP]; decide +kernel
  have wpos : 0 < zv (xE n) := by rw [← hP] at w1; omega
  have zW : zv (xE n) = ((n.toInt.natAbs : Nat) : Int) * p2 1071 := by omega
  generalize hW : xE n = W at *
  generalize n.toInt.natAbs = a at zW
  generalize xE m = D at *
  have fC : xFin (FP.dmul D 4614256656552045848) := (bd_mul (K := 1034) (L := 1025) (Bd_of (K := 1033) fD.nn d1 (by decide) (by
    refine Int.le_trans d2 ?_
    decide +kernel)) (show (4614256656552045848 : UInt64).toNat % 2 ^ 63 < 1025 * 2 ^ 52 by decide) (by decide) (by decide)).fin (by decide)
  have cnn := zmul_nn fD fin_pi d1 (Int.le_of_lt zv_pi.1)
  have cle : zv (FP.dmul D 4614256656552045848) ≤ 4000 * xO := by
    obtain ⟨f4, z4⟩ := zv_i2d (nI 4000)
    rw [nI_toInt (by decide)] at z4
    have z4 : zv (FP.i2d (nI 4000)) = 4000 * xO := z4
    rw [← z4]
    refine zmul_le fD fin_pi f4.nn (by omega) ?_ d1 (Int.le_of_lt zv_pi.1)
    rw [z4]
    calc zv D * zv 4614256656552045848 ≤ (1000 * xO) * zv 4614256656552045848 := Int.mul_le_mul_of_nonneg_right d2 (Int.le_of_lt zv_pi.1)
      _ ≤ (1000 * xO) * (4 * xO) := Int.mul_le_mul_of_nonneg_left zv_pi.2 (by omega)
      _ = 4000 * xO * xO := by rw [Int.mul_assoc 1000, Int.mul_left_comm xO, ← Int.mul_assoc, Int.mul_assoc 4000]; rfl
  generalize FP.dmul D 4614256656552045848 = C at *
  rw [← hP] at zW
  have ha : 1 ≤ a := by
    by_cases z : a = 0
    · subst z; rw [zW] at wpos; simp at wpos
    · omega
  have ha2 : a ≤ 8000 := by
    have : (a : Int) * P ≤ 8000 * P := by rw [← zW]; omega
    exact Int.ofNat_le.mp (Int.le_of_mul_le_mul_right this hp)
  have K : ∀ k : Nat, 1 ≤ k → k ≤ 32000 → xNn (FP.dmul (FP.i2d (nI k)) W) ∧ zv (FP.dmul (FP.i2d (nI k)) W) = ((k * a : Nat) : Int) * P := fun k k1 k2 => by
    rw [hP] at zW ⊢
    refine kw_eq fW zW ha k1 ?_ (by omega)
    calc k * a ≤ 32000 * 8000 := Nat.mul_le_mul k2 ha2
      _ < 2 ^ 53 := by decide
  obtain ⟨N, N1, N2, hN, hmin⟩ := least_of (P := fun k => zv C ≤ ((k * a : Nat) : Int) * P) 32000 (by decide) (by
    show zv C ≤ ((32000 * a : Nat) : Int) * P
    rw [Int.natCast_mul, Int.mul_assoc]
    have : P ≤ (a : Int) * P := by
      calc P = 1 * P := (Int.one_mul _).symm
        _ ≤ (a : Int) * P := Int.mul_le_mul_of_nonneg_right (by omega) (Int.le_of_lt hp)
    omega)
  have hlt : ∀ k : Nat, 1 ≤ k → k < N → xlt (FP.dmul (FP.i2d (nI k)) W) C = true := fun k k1 k2 => by
    obtain ⟨a1, a2⟩ := K k k1 (by omega)
    exact xlt_iff.mpr ⟨a1, fC.nn, by rw [a2]; exact Int.not_le.mp (hmin k k1 k2)⟩
  obtain ⟨Nn, Nz⟩ := K N N1 N2
  obtain ⟨qn, q0⟩ := zdiv_nn fC fW cnn wpos
  have hq : ∀ k : Nat, 1 ≤ k → k ≤ 32000 → zv C ≤ ((k * a : Nat) : Int) * P → zv (FP.ddiv C W) ≤ (k : Int) * xO := fun k k1 k2 hk => by
    obtain ⟨fk, zk⟩ := zv_i2d (nI k)
    rw [nI_toInt (by omega)] at zk
    rw [← zk]
    refine zdiv_le fC fW cnn wpos fk.nn (by rw [zk]; exact Int.mul_nonneg (by omega) (Int.le_of_lt hO)) ?_
    rw [zk, zW]
    calc zv C * xO ≤ ((k * a : Nat) : Int) * P * xO := Int.mul_le_mul_of_nonneg_right hk (Int.le_of_lt hO)
      _ = (k : Int) * xO * ((a : Int) * P) := by
        rw [Int.natCast_mul]
        generalize xO = O
        rw [Int.mul_assoc, Int.mul_assoc, Int.mul_assoc, Int.mul_comm P O, Int.mul_left_comm (a : Int)]
  obtain ⟨j, j1, j2, j3, -⟩ := d2i_nn qn q0 (B := N) (by omega) (hq N N1 N2 hN)
  rw [j2]
  have hge : xge (FP.dmul (FP.i2d (nI N)) W) C = true := xge_iff.mpr ⟨Nn, fC.nn, by rw [Nz]; exact hN⟩
  have hnge : ∀ k : Nat, 1 ≤ k → k < N → xge (FP.dmul (FP.i2d (nI k)) W) C = false := fun k k1 k2 => bfalse.mpr fun z => by
    have h1 := (xlt_iff.mp (hlt k k1 k2)).2.2
    have h2 := (xge_iff.mp z).2.2
    omega
  have href : 1 ≤ N ∧ N < 2 ^ 30 ∧ (∀ k : Nat, 1 ≤ k → k < N → xlt (FP.dmul (FP.i2d (nI k)) W) C = true) ∧ xlt (FP.dmul (FP.i2d (nI N)) W) C = false := ⟨N1, by omega, hlt, bfalse.mpr fun z => by
    have h1 := (xlt_iff.mp z).2.2
    rw [Nz] at h1
    omega⟩
  by_cases h4 : 4 ≤ j
  · obtain ⟨t, rfl⟩ : ∃ t : Nat, j = t + 2 := ⟨j - 2, by omega⟩
    have e : nI (t + 2) - nI 2 = nI t := by rw [← nI_add, Int32.add_sub_cancel]
    refine ⟨N, t, href, ?_, by omega, by omega, by omega, fun k k1 k2 => hnge k (by omega) k2, hge⟩
    rw [e, if_pos (nI_lt (by omega) (by omega))]
  · refine ⟨N, 1, href, ?_, by omega, N1, by omega, fun k k1 k2 => hnge k k1 k2, hge⟩
    rcases (show j = 0 ∨ j = 1 ∨ j = 2 ∨ j = 3 by omega) with rfl | rfl | rfl | rfl <;> decide
