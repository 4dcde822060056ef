/-! THE CLASS BESIDE THE REFERENCE: what ties the one's state to the other's. -/
theorem Bd_abs {x : UInt64} {K : Nat} (hn : xNn x) (hK : 1 ≤ K) (h : ((zv x).natAbs : Int) < p2 (51 + K)) : Bd x K := by
  have h1 : (zv x).natAbs < 2 ^ (51 + K) := Int.ofNat_lt.mp h
  rw [zv_units hn, ← units_pw hK] at h1
  exact FP.Core.unitsOf_lt_iff.mp h1
theorem zv_m1000 : zv 13875379345695965184 = -(1000 * xO) := by decide +kernel
theorem btw_bd {x : UInt64} (h : pBetween x 13875379345695965184 4652007308841189376 = true) : Bd x 1033 := by
  obtain ⟨⟨n1, -, x1⟩, -, -, x2⟩ := btw_iff.mp h
  rw [zv_m1000] at x1
  rw [zv_1000] at x2
  have hb : 1000 * xO < p2 1084 := by decide +kernel
  exact Bd_abs n1 (by decide) (by show _ < p2 1084; omega)
def pLaid (F : Nat) (pl : Nat → UInt64) (cx cy bx : Nat → Nat → UInt64) (co : Nat → UInt64) (j : Nat) : Prop := ∃ d : Nat → UInt64, pUnr (pFar pl) j (F - 1) = some d ∧ xCo (cx j) (cy j) d (2 * F) ∧ (∀ k : Nat, k < 4 * F → vq (co (32 * j + k)) (d k)) ∧ vq (bx j 2) (pExtC d (2 * F) 0) ∧ vq (bx j 3) (pExtC d (2 * F) 1)
def pNest (un lo la : Nat → Int32) (bx : Nat → Nat → UInt64) (wi : Nat → UInt64) (nb j : Nat) : Prop := ∃ b k : Nat, b < nb ∧ k ≤ 8000 ∧ lo j = nI b ∧ la j = nI k ∧ ¬ un j = 0 ∧ vq (bx j 0) (pEi k) ∧ xgt (FP.dadd (pEi k) (bx j 2)) (wi b) = false
/-- the state of the class beside the reference's; places, butts, boards and faults are the same rows -/
def xRel (F R nb : Nat) (pl : Nat → UInt64) (un : Nat → Int32) (cx cy : Nat → Nat → UInt64) (wi : Nat → UInt64) (nf : Nat → Nat) (fa : Nat → UInt64) (lo la : Nat → Int32) (bx : Nat → Nat → UInt64) (un2 : Nat → Int32) (co : Nat → UInt64) (fc lo2 la2 : Nat → Int32) : Prop :=
  (pGd pl F R ∧ ∀ f : Nat, f < F → ∀ r : Nat, r < R → ∀ k : Nat, k < 3 → pGz (pAt pl f r k)) ∧
  (∀ j : Nat, j < R - 1 → (un2 j = 0 ↔ un j = 0) ∧ lo2 j = lo j ∧ la2 j = la j ∧ bx j 1 = FP.dconst0) ∧
  (∀ j : Nat, j < R - 1 → ¬ un j = 0 → pLaid F pl cx cy bx co j) ∧
  (∀ b : Nat, b < nb → pBetween (wi b) FP.dconst1 4652007308841189376 = true ∧ fc b = nI (nf b)) ∧
  (∀ b : Nat, b < nb → ∀ k : Nat, k < nf b → pBetween (fa (32 * b + 4 * k)) FP.dconst0 4652007308841189376 = true ∧ pBetween (fa (32 * b + 4 * k + 2)) 4593671619917905920 4652007308841189376 = true) ∧
  (∀ j : Nat, j < R - 1 → lo j = (-1) ∨ pNest un lo la bx wi nb j) ∧
  (∀ b : Nat, nb ≤ b → fc b = nI 0)
section Rel
variable {F R nb : Nat} {pl : Nat → UInt64} {un : Nat → Int32} {cx cy : Nat → Nat → UInt64} {wi : Nat → UInt64} {nf : Nat → Nat} {fa : Nat → UInt64} {lo la : Nat → Int32} {bx : Nat → Nat → UInt64} {un2 : Nat → Int32} {co : Nat → UInt64} {fc lo2 la2 : Nat → Int32}
theorem rel_0 {lo2 la2 : Nat → Int32} (hR : R ≤ 8) (hl : xN8 lo2) (ha : xN8 la2) : xRel F R 0 (fun _ => FP.dconst0) (fun _ => nI 0) cx cy wi nf fa (fun _ => -1) (fun _ => -1) (fun _ _ => FP.dconst0) (fun _ => nI 0) co (fun _ => nI 0) lo2 la2 :=
  ⟨⟨fun _ _ _ _ _ _ => bd_0 (by decide), fun _ _ _ _ _ _ => pGz_0⟩, fun j hj => ⟨Iff.rfl, hl j (by omega), ha j (by omega), rfl⟩, fun j hj h => absurd rfl h, fun b h => absurd h (Nat.not_lt_zero _), fun b h => absurd h (Nat.not_lt_zero _), fun j hj => Or.inl rfl, fun b _ => rfl⟩
theorem in_lt {x : Int32} {n : Nat} (h : vp_in x n) : x.toNatClampNeg < n := Nat.lt_of_not_le fun z => h (Or.inr z)
/-- another place -/
theorem vf_cases {f : Nat → UInt64} {P : UInt64 → Prop} {i : Nat} {x y z : UInt64} (hf : ∀ j : Nat, P (f j) ∨ j = i ∨ j = i + 1 ∨ j = i + 2) (hx : P x) (hy : P y) (hz : P z) (j : Nat) : P (vf_upd (vf_upd (vf_upd f i x) (i + 1) y) (i + 2) z j) := by
  unfold vf_upd
  by_cases h2 : j = i + 2
  · rw [if_pos h2]; exact hz
  · rw [if_neg h2]
    by_cases h1 : j = i + 1
    · rw [if_pos h1]; exact hy
    · rw [if_neg h1]
      by_cases h0 : j = i
      · rw [if_pos h0]; exact hx
      · rw [if_neg h0]
        exact (hf j).resolve_right fun z => z.elim h0 fun z => z.elim h1 h2
theorem vf_pt {f : Nat → UInt64} {P : UInt64 → Prop} {i j : Nat} {x y z : UInt64} (hf : P (f j)) (hx : P x) (hy : P y) (hz : P z) : P (vf_upd (vf_upd (vf_upd f i x) (i + 1) y) (i + 2) z j) := by
  unfold vf_upd
  by_cases h2 : j = i + 2
  · rw [if_pos h2]; exact hz
  · rw [if_neg h2]
    by_cases h1 : j = i + 1
    · rw [if_pos h1]; exact hy
    · rw [if_neg h1]
      by_cases h0 : j = i
      · rw [if_pos h0]; exact hx
      · rw [if_neg h0]; exact hf
theorem rel_point (h : xRel F R nb pl un cx cy wi nf fa lo la bx un2 co fc lo2 la2) (hR8 : R ≤ 8) {i : Nat} {x y z : UInt64} {un1 lo1 la1 un3 lo3 la3 : Nat → Int32} (bx1 : pBetween x 13875379345695965184 4652007308841189376 = true ∧ pBetween y 13875379345695965184 4652007308841189376 = true ∧ pBetween z 13875379345695965184 4652007308841189376 = true) (gx : pGz x) (gy : pGz y) (gz : pGz z) (hc : ∀ j : Nat, j < R - 1 → un1 j = nI 0 ∧ lo1 j = (-1) ∧ la1 j = (-1)) (hr : ∀ j : Nat, j < 8 → un3 j = nI 0 ∧ lo3 j = (-1) ∧ la3 j = (-1)) : xRel F R nb (vf_upd (vf_upd (vf_upd pl i x) (i + 1) y) (i + 2) z) un1 cx cy wi nf fa lo1 la1 bx un3 co fc lo3 la3 := by
  obtain ⟨⟨h1, h2⟩, h3, h4, h5, h6, h7, h8⟩ := h
  refine ⟨⟨fun f hf r hr k hk => vf_pt (P := fun v => Bd v 1033) (h1 f hf r hr k hk) (btw_bd bx1.1) (btw_bd bx1.2.1) (btw_bd bx1.2.2), fun f hf r hr k hk => vf_pt (P := pGz) (h2 f hf r hr k hk) gx gy gz⟩, fun j hj => ?_, fun j hj z => absurd (hc j hj).1 z, h5, h6, fun j hj => Or.inl (hc j hj).2.1, h8⟩
  obtain ⟨a, b, c⟩ := hc j hj
  obtain ⟨a2, b2, c2⟩ := hr j (by omega)
  exact ⟨by rw [a, a2], by rw [b, b2], by rw [c, c2], (h3 j hj).2.2.2⟩
theorem point_same (h : xRel F R nb pl un cx cy wi nf fa lo la bx un2 co fc lo2 la2) {f r : Nat} (hf : f < F) (hr : r < R) {x y z : UInt64} (gx : pGz x) (gy : pGz y) (gz : pGz z) (hn : ¬ pNew pl f r x y z) : vf_upd (vf_upd (vf_upd pl (3 * (8 * f + r)) x) (3 * (8 * f + r) + 1) y) (3 * (8 * f + r) + 2) z = pl := by
  obtain ⟨⟨-, h2⟩, -⟩ := h
  obtain ⟨ex, ey, ez⟩ := Classical.not_not.mp hn
  have ax := gz_eq (h2 f hf r hr 0 (by decide)) gx ex
  have ay := gz_eq (h2 f hf r hr 1 (by decide)) gy ey
  have az := gz_eq (h2 f hf r hr 2 (by decide)) gz ez
  funext j
  unfold vf_upd
  unfold pAt at ax ay az
  by_cases e2 : j = 3 * (8 * f + r) + 2
  · rw [if_pos e2, e2, az]
  · rw [if_neg e2]
    by_cases e1 : j = 3 * (8 * f + r) + 1
    · rw [if_pos e1, e1, ay]
    · rw [if_neg e1]
      by_cases e0 : j = 3 * (8 * f + r)
      · rw [if_pos e0, e0, ← ax]; rfl
      · rw [if_neg e0]
/-- unroll -/
theorem rel_unrollA (h : xRel F R nb pl un cx cy wi nf fa lo la bx un2 co fc lo2 la2) {i : Nat} (hi : i < R - 1) (hF : F ≤ 8) {d : Nat → UInt64} {co1 : Nat → UInt64} (hu : ¬ un i = 0) (hd : pUnr (pFar pl) i (F - 1) = some d) (hc : ∀ j : Nat, j < 4 * F → vq (co1 (32 * i + j)) (d j)) (ho : ∀ j : Nat, (j < 32 * i ∨ 32 * i + 4 * F ≤ j) → co1 j = co j) : xRel F R nb pl un cx cy wi nf fa lo la bx (upd un2 i (nI 1)) co1 fc lo2 la2 := by
  obtain ⟨h1, h3, h4, h5, h6, h7, h8⟩ := h
  refine ⟨h1, fun j hj => ?_, fun j hj z => ?_, h5, h6, h7, h8⟩
  · refine ⟨?_, (h3 j hj).2⟩
    by_cases e : j = i
    · subst e
      rw [xupd_s]
      exact ⟨fun z => absurd z (by decide), fun z => absurd z hu⟩
    · rw [xupd_n e]; exact (h3 j hj).1
  · obtain ⟨d1, a1, a2, a3, a4⟩ := h4 j hj z
    by_cases e : j = i
    · subst e
      rw [hd] at a1
      cases a1
      exact ⟨d, hd, a2, hc, a4⟩
    · refine ⟨d1, a1, a2, fun k hk => ?_, a4⟩
      rw [ho _ (by omega)]
      exact a3 k hk
theorem rel_unrollB (h : xRel F R nb pl un cx cy wi nf fa lo la bx un2 co fc lo2 la2) {i : Nat} (hi : i < R - 1) (hF : F ≤ 8) {d : Nat → UInt64} {co1 : Nat → UInt64} {cx1 cy1 bx1 : Nat → Nat → UInt64} {u9 h9 : UInt64} (hu : un i = 0) (hd : pUnr (pFar pl) i (F - 1) = some d) (hc : ∀ j : Nat, j < 4 * F → vq (co1 (32 * i + j)) (d j)) (ho : ∀ j : Nat, (j < 32 * i ∨ 32 * i + 4 * F ≤ j) → co1 j = co j)
    (hx : xOth cx cy cx1 cy1 i) (hco : xCo (cx1 i) (cy1 i) d (2 * F)) (hb : bx1 = xup2 (xup2 bx i 2 u9) i 3 h9) (q1 : vq u9 (pExtC d (2 * F) 0)) (q2 : vq h9 (pExtC d (2 * F) 1)) : xRel F R nb pl (upd un i (nI 1)) cx1 cy1 wi nf fa lo la bx1 (upd un2 i (nI 1)) co1 fc lo2 la2 := by
  obtain ⟨h1, h3, h4, h5, h6, h7, h8⟩ := h
  subst hb
  have b0 : xup2 (xup2 bx i 2 u9) i 3 h9 i 0 = bx i 0 := by rw [xup2_s, vupd_n (by decide), xup2_s, vupd_n (by decide)]
  have b1 : xup2 (xup2 bx i 2 u9) i 3 h9 i 1 = bx i 1 := by rw [xup2_s, vupd_n (by decide), xup2_s, vupd_n (by decide)]
  have b2 : xup2 (xup2 bx i 2 u9) i 3 h9 i 2 = u9 := by rw [xup2_s, vupd_n (by decide), xup2_s, vupd_s]
  have b3 : xup2 (xup2 bx i 2 u9) i 3 h9 i 3 = h9 := by rw [xup2_s, vupd_s]
  have bn : ∀ j : Nat, ¬ j = i → xup2 (xup2 bx i 2 u9) i 3 h9 j = bx j := fun j e => by rw [xup2_n e, xup2_n e]
  refine ⟨h1, fun j hj => ?_, fun j hj z => ?_, h5, h6, fun j hj => ?_, h8⟩
  · obtain ⟨a1, a2, a3, a4⟩ := h3 j hj
    by_cases e : j = i
    · subst e
      rw [xupd_s, xupd_s, b1]
      exact ⟨Iff.rfl, a2, a3, a4⟩
    · rw [xupd_n e, xupd_n e, bn j e]; exact ⟨a1, a2, a3, a4⟩
  · by_cases e : j = i
    · subst e
      exact ⟨d, hd, hco, hc, by rw [b2]; exact q1, by rw [b3]; exact q2⟩
    · rw [xupd_n e] at z
      obtain ⟨d1, a1, a2, a3, a4⟩ := h4 j hj z
      obtain ⟨e1, e2⟩ := hx j e
      refine ⟨d1, a1, by rw [e1, e2]; exact a2, fun k hk => ?_, by rw [bn j e]; exact a4⟩
      rw [ho _ (by omega)]
      exact a3 k hk
  · rcases h7 j hj with h | ⟨b, k, c1, c2, c3, c4, c5, c6, c7⟩
    · exact Or.inl h
    · refine Or.inr ⟨b, k, c1, c2, c3, c4, ?_⟩
      by_cases e : j = i
      · subst e; exact absurd hu c5
      · rw [xupd_n e, bn j e]; exact ⟨c5, c6, c7⟩
theorem rel_unrollX (h : xRel F R nb pl un cx cy wi nf fa lo la bx un2 co fc lo2 la2) {i : Nat} {cx1 cy1 : Nat → Nat → UInt64} (hu : un i = 0) (hx : xOth cx cy cx1 cy1 i) : xRel F R nb pl un cx1 cy1 wi nf fa lo la bx un2 co fc lo2 la2 := by
  obtain ⟨h1, h3, h4, h5, h6, h7, h8⟩ := h
  refine ⟨h1, h3, fun j hj z => ?_, h5, h6, h7, h8⟩
  have e : ¬ j = i := fun e => z (e ▸ hu)
  obtain ⟨d1, a1, a2, a3⟩ := h4 j hj z
  obtain ⟨e1, e2⟩ := hx j e
  exact ⟨d1, a1, by rw [e1, e2]; exact a2, a3⟩
/-- a board more, a fault more -/
theorem rel_board (h : xRel F R nb pl un cx cy wi nf fa lo la bx un2 co fc lo2 la2) {x : UInt64} (hx : pBetween x FP.dconst1 4652007308841189376 = true) : xRel F R (nb + 1) pl un cx cy (vf_upd wi nb x) (xnf nf nb) fa lo la bx un2 co fc lo2 la2 := by
  obtain ⟨h1, h3, h4, h5, h6, h7, h8⟩ := h
  refine ⟨h1, h3, h4, fun b hb => ?_, fun b hb k hk => ?_, fun j hj => ?_, fun b hb => h8 b (by omega)⟩
  · by_cases e : b = nb
    · subst e
      rw [vupd_s, xnf_s]
      exact ⟨hx, h8 b (Nat.le_refl _)⟩
    · rw [vupd_n e, xnf_n e]; exact h5 b (by omega)
  · by_cases e : b = nb
    · subst e
      rw [xnf_s] at hk
      exact absurd hk (Nat.not_lt_zero _)
    · rw [xnf_n e] at hk; exact h6 b (by omega) k hk
  · rcases h7 j hj with h | ⟨b, k, c1, c2, c3, c4, c5, c6, c7⟩
    · exact Or.inl h
    · refine Or.inr ⟨b, k, by omega, c2, c3, c4, c5, c6, ?_⟩
      rw [vupd_n (by omega)]; exact c7
theorem rel_fault (h : xRel F R nb pl un cx cy wi nf fa lo la bx un2 co fc lo2 la2) {b : Nat} {x y u h9 : UInt64} (hb : b < nb) (h8n : ∀ b : Nat, b < nb → nf b ≤ 8) (hb8 : ¬ nf b = 8) (hx : pBetween x FP.dconst0 4652007308841189376 = true) (hu : pBetween u 4593671619917905920 4652007308841189376 = true) :
    xRel F R nb pl un cx cy wi (xnfi nf b) (vf_upd (vf_upd (vf_upd (vf_upd fa (32 * b + 4 * nf b) x) (32 * b + 4 * nf b + 1) y) (32 * b + 4 * nf b + 2) u) (32 * b + 4 * nf b + 3) h9) lo la bx un2 co (upd fc b (nI (nf b + 1))) lo2 la2 := by
  obtain ⟨h1, h3, h4, h5, h6, h7, h8⟩ := h
  have hn := h8n b hb
  refine ⟨h1, h3, h4, fun b1 hb1 => ?_, fun b1 hb1 k hk => ?_, h7, fun b1 hb1 => ?_⟩
  · refine ⟨(h5 b1 hb1).1, ?_⟩
    by_cases e : b1 = b
    · subst e; rw [xupd_s, xnfi_s]
    · rw [xupd_n e, xnfi_n e]; exact (h5 b1 hb1).2
  · by_cases e : b1 = b ∧ k = nf b
    · obtain ⟨rfl, rfl⟩ := e
      obtain ⟨e1, -, e3, -⟩ := xfa_s (fa := fa) (i := 32 * b1 + 4 * nf b1) (x := x) (y := y) (u := u) (h := h9)
      rw [e1, e3]; exact ⟨hx, hu⟩
    · have hk2 : k < nf b1 := by
        by_cases e1 : b1 = b
        · subst e1; rw [xnfi_s] at hk; omega
        · rw [xnfi_n e1] at hk; exact hk
      have h81 := h8n b1 hb1
      rw [xfa_n (by omega), xfa_n (by omega)]
      exact h6 b1 hb1 k hk2
  · rw [xupd_n (by omega)]; exact h8 b1 hb1
end Rel
