/-! THE REFERENCE: what it is made of. -/
theorem xin_of {x : Int32} {n : Nat} (h0 : ¬ x < 0) (h1 : ¬ nI n ≤ x) (hn : n < 2 ^ 31) : vp_in x n := by
  rcases pk_ix x hn with h | h | ⟨j, hj, rfl⟩
  · exact absurd h h0
  · exact absurd h h1
  · exact vp_in_nI hj hn
theorem xin_no0 {x : Int32} {n : Nat} (h0 : x < 0) : ¬ vp_in x n := fun h => h (Or.inl h0)
theorem xin_no1 {x : Int32} {n : Nat} (h1 : nI n ≤ x) (hn : n < 2 ^ 31) : ¬ vp_in x n := by
  intro h
  obtain ⟨j, hj, rfl⟩ := vp_in_of h hn
  exact nI_ge hj hn h1
/-- a truth as a whole number -/
noncomputable def xP (p : Prop) : Int32 := @ite Int32 p (Classical.propDecidable p) 1 0
theorem xP_t {p : Prop} (h : p) : xP p = 1 := by unfold xP; exact if_pos h
theorem xP_f {p : Prop} (h : ¬ p) : xP p = 0 := by unfold xP; exact if_neg h
theorem xP_ne {p : Prop} : ¬ xP p = 0 ↔ p := by
  by_cases h : p
  · rw [xP_t h]; exact ⟨fun _ => h, fun _ => by decide⟩
  · rw [xP_f h]; exact ⟨fun z => absurd rfl z, fun z => absurd z h⟩
theorem xP_eq {p : Prop} : xP p = 0 ↔ ¬ p := by
  by_cases h : p
  · rw [xP_t h]; exact ⟨fun z => absurd z (by decide), fun z => absurd h z⟩
  · rw [xP_f h]; exact ⟨fun _ => h, fun _ => rfl⟩
theorem xz1 {p : Prop} (h : p) : some (Value.int (nI 1)) = some (Value.int (xP p)) := by rw [xP_t h]; rfl
theorem xz0 {p : Prop} (h : ¬ p) : some (Value.int (nI 0)) = some (Value.int (xP p)) := by rw [xP_f h]; rfl
theorem xP_cg {p q : Prop} (h : p ↔ q) : xP p = xP q := by rw [propext h]
/-- the reference's cells: the object, its eleven arrays -/
def xRef (G : va_G) (ty : Nat → ClassId) (m0 : Nat) (A : Nat → Nat) (th : Int32) (F R : Nat) (pl : Nat → UInt64) (un : Nat → Int32) (co dr : Nat → UInt64) (bu : Nat → Int32) (nb : Nat) (wi hi : Nat → UInt64) (fc : Nat → Int32) (fa : Nat → UInt64) (lo la : Nat → Int32) (px py pz : UInt64) (H : Heap) : Prop :=
  xc G m0 (.inr (8, [.int th, .int (nI F), .int (nI R), .ref (A 0), .ref (A 1), .ref (A 2), .ref (A 3), .ref (A 4), .int (nI nb), .ref (A 5), .ref (A 6), .ref (A 7), .ref (A 8), .ref (A 9), .ref (A 10), .double px, .double py, .double pz])) H ∧
  xc G (A 0) (.inl (ty 0, 192, .inr (.inr (.inr (.inl pl))))) H ∧ xc G (A 1) (.inl (ty 2, 8, .inl un)) H ∧ xc G (A 2) (.inl (ty 0, 256, .inr (.inr (.inr (.inl co))))) H ∧ xc G (A 3) (.inl (ty 0, 32, .inr (.inr (.inr (.inl dr))))) H ∧ xc G (A 4) (.inl (ty 2, 64, .inl bu)) H ∧
  xc G (A 5) (.inl (ty 0, 4, .inr (.inr (.inr (.inl wi))))) H ∧ xc G (A 6) (.inl (ty 0, 4, .inr (.inr (.inr (.inl hi))))) H ∧ xc G (A 7) (.inl (ty 1, 4, .inl fc)) H ∧ xc G (A 8) (.inl (ty 0, 128, .inr (.inr (.inr (.inl fa))))) H ∧ xc G (A 9) (.inl (ty 1, 8, .inl lo)) H ∧ xc G (A 10) (.inl (ty 1, 8, .inl la)) H
/-- the reference's sizes -/
abbrev xSz (F R : Nat) : Prop := (2 ≤ F ∧ F ≤ 8) ∧ (2 ≤ R ∧ R ≤ 8)
def pAt (pl : Nat → UInt64) (f r k : Nat) : UInt64 := pl (3 * (8 * f + r) + k)
def pFar (pl : Nat → UInt64) (f r g q : Nat) : UInt64 := pDist (pAt pl f r 0) (pAt pl f r 1) (pAt pl f r 2) (pAt pl g q 0) (pAt pl g q 1) (pAt pl g q 2)
/-- STRETCH, out of the corners -/
def pOff (co pl : Nat → UInt64) (s f : Nat) : UInt64 := FP.dsub (pLen (FP.dsub (co (32 * s + 4 * f + 6)) (co (32 * s + 4 * f))) (FP.dsub (co (32 * s + 4 * f + 6 + 1)) (co (32 * s + 4 * f + 1)))) (pFar pl f s (f + 1) (s + 1))
