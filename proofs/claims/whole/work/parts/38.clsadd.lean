/-! THE CLASS: boards and faults are added. -/
theorem xc_fq {G : va_G} {a n : Nat} {cA : ClassId} {f g : Nat → Option Nat} {H : Heap} (h : xc G a (.inl (cA, n, .inr (.inr (.inr (.inr f))))) H) (e : ∀ j : Nat, j < n → f j = g j) : xc G a (.inl (cA, n, .inr (.inr (.inr (.inr g))))) H := by
  show H[a]? = some (vp_cell _ _)
  rw [show H[a]? = some (vp_cell cA (n, .inr (.inr (.inr (.inr f))))) from h]
  rw [vp_cell_q, vp_cell_q]
  unfold arrV
  congr 2
  apply Array.ext
  · simp
  · intro j h1 h2
    simp at h1
    simp [e j h1]
/-- the codes whose cells a list's growth changes -/
def xLc (k : Nat) : Prop := k = 3 ∨ k = 6 ∨ (210 ≤ k ∧ k < 300)

/-- the class's cells but for its lists, at other addresses that agree, in a heap that kept them -/
def xBas (G : va_G) (ty : Nat → ClassId) (a1 : Nat → Nat) (F R : Nat) (pl : Nat → UInt64) (un : Nat → Int32) (cx cy : Nat → Nat → UInt64) (bu : Nat → Int32) (nb : Nat) (wi hi : Nat → UInt64) (nf : Nat → Nat) (fa : Nat → UInt64) (lo la : Nat → Int32) (bx : Nat → Nat → UInt64) (H : Heap) : Prop :=
  (∀ (K0 : Heap), xL G ty (a1 3) (a1 6) nb (fun b => a1 (200 + b)) H → (∀ b : Nat, b < nb → xL G ty (a1 (210 + b)) (a1 (220 + b)) (nf b) (fun k => a1 (300 + 8 * b + k)) H) → K0.size ≤ H.size → (∀ q : Nat, q < K0.size → (∀ k : Nat, xU F R nb nf k → q ≠ a1 k) → H[q]? = K0[q]?) → xCla G ty a1 F R pl un cx cy bu nb wi hi nf fa lo la bx K0 H) ∧
  (∀ b : Nat, b < nb → xc G (a1 (200 + b)) (.inr (1, [.double (wi b), .double (hi b), .ref (a1 (210 + b))])) H) ∧
  (∀ b : Nat, b < nb → ∀ k : Nat, k < nf b → xc G (a1 (300 + 8 * b + k)) (.inr (2, [.double (fa (32 * b + 4 * k)), .double (fa (32 * b + 4 * k + 1)), .double (fa (32 * b + 4 * k + 2)), .double (fa (32 * b + 4 * k + 3))])) H)
set_option maxHeartbeats 1000000 in
/-- nb1, nf1, wi1, hi1, fa1: the boards and faults afterwards; what is said of them is given -/
theorem xCla.bas {G : va_G} {ty : Nat → ClassId} {ad : Nat → Nat} {F R nb : Nat} {pl wi hi fa : Nat → UInt64} {un bu lo la : Nat → Int32} {cx cy bx : Nat → Nat → UInt64} {nf : Nat → Nat} {K0 H : Heap} {b0 nb1 : Nat} {nf1 : Nat → Nat} {wi1 hi1 fa1 : Nat → UInt64} {a1 : Nat → Nat} {H3 : Heap} (h : xCla G ty ad F R pl un cx cy bu nb wi hi nf fa lo la bx K0 H) (hw : xWf F R nb nf ad b0) (eo : ∀ k : Nat, xU F R nb nf k → a1 k = ad k)
    (hkc : ∀ (k : Nat) {e : va_E}, xU F R nb nf k → ¬ (k = 3 ∨ k = 6 ∨ (210 ≤ k ∧ k < 300)) → xc G (ad k) e H → H3[ad k]? = H[ad k]?)
    (hb : ∀ b : Nat, b < nb1 → xc G (a1 (200 + b)) (.inr (1, [.double (wi1 b), .double (hi1 b), .ref (a1 (210 + b))])) H3)
    (hf : ∀ b : Nat, b < nb1 → ∀ k : Nat, k < nf1 b → xc G (a1 (300 + 8 * b + k)) (.inr (2, [.double (fa1 (32 * b + 4 * k)), .double (fa1 (32 * b + 4 * k + 1)), .double (fa1 (32 * b + 4 * k + 2)), .double (fa1 (32 * b + 4 * k + 3))])) H3)
    (hL : xL G ty (a1 3) (a1 6) nb1 (fun b => a1 (200 + b)) H3) (hM : ∀ b : Nat, b < nb1 → xL G ty (a1 (210 + b)) (a1 (220 + b)) (nf1 b) (fun k => a1 (300 + 8 * b + k)) H3) (hs : K0.size ≤ H3.size) (hfr : ∀ q : Nat, q < K0.size → (∀ k : Nat, xU F R nb1 nf1 k → q ≠ a1 k) → H3[q]? = K0[q]?) : xCla G ty a1 F R pl un cx cy bu nb1 wi1 hi1 nf1 fa1 lo la bx K0 H3 := by
  obtain ⟨⟨zF2, zF8⟩, ⟨zR2, zR8⟩⟩ := hw.1
  have hB := hw.2.1
  exact ⟨(by
      have y9 := h.o_.kept (hkc 0 (xU_6 (by decide)) (by decide) h.o_)
      rw [eo _ (xU_6 (by decide)), eo _ (xU_6 (by decide)), eo _ (xU_6 (by decide)), eo _ (xU_6 (by decide)), eo _ (xU_6 (by decide)), eo _ (xU_6 (by decide))]; exact y9),
    (by
      have y9 := h.rows_.kept (hkc 1 (xU_6 (by decide)) (by decide) h.rows_)
      rw [eo _ (xU_6 (by decide))]; exact xc_fq y9 (fun r z => by rw [eo _ (xU_row z)])),
    (by
      have y9 := h.strips_.kept (hkc 2 (xU_6 (by decide)) (by decide) h.strips_)
      rw [eo _ (xU_6 (by decide))]; exact xc_fq y9 (fun r z => by rw [eo _ (xU_strip z)])),
    (by
      obtain ⟨u, v, w, g⟩ := h.near_
      exact ⟨u, v, w, by rw [eo _ (xU_6 (by decide))]; exact g.kept (hkc 4 (xU_6 (by decide)) (by decide) g)⟩),
    (by
      obtain ⟨u, v, w, g⟩ := h.far_
      exact ⟨u, v, w, by rw [eo _ (xU_6 (by decide))]; exact g.kept (hkc 5 (xU_6 (by decide)) (by decide) g)⟩),
    (fun r z => by
      have y9 := (h.row_ r z).kept (hkc _ (xU_row z) (by omega) (h.row_ r z))
      rw [eo _ (xU_row z), eo _ (xU_parr z)]; exact y9),
    (fun r z => by
      have y9 := (h.parr_ r z).kept (hkc _ (xU_parr z) (by omega) (h.parr_ r z))
      rw [eo _ (xU_parr z)]; exact xc_fq y9 (fun f y => by rw [eo _ (xU_place z y)])),
    (fun r z f y => by
      have y9 := (h.place_ r z f y).kept (hkc _ (xU_place z y) (by omega) (h.place_ r z f y))
      rw [eo _ (xU_place z y)]; exact y9),
    (fun r z => by
      have y9 := (h.strip_ r z).kept (hkc _ (xU_strip z) (by omega) (h.strip_ r z))
      rw [eo _ (xU_strip z), eo _ (xU_row (r := r) (by omega)), eo _ (xU_row (r := r + 1) (by omega)), eo _ (xU_cx z), eo _ (xU_cy z), eo _ (xU_bt z), eo _ (xU_box z)]; exact y9),
    (fun r z => by
      have y9 := (h.cx_ r z).kept (hkc _ (xU_cx z) (by omega) (h.cx_ r z))
      rw [eo _ (xU_cx z)]; exact y9),
    (fun r z => by
      have y9 := (h.cy_ r z).kept (hkc _ (xU_cy z) (by omega) (h.cy_ r z))
      rw [eo _ (xU_cy z)]; exact y9),
    (fun r z => by
      have y9 := (h.bt_ r z).kept (hkc _ (xU_bt z) (by omega) (h.bt_ r z))
      rw [eo _ (xU_bt z)]; exact y9),
    (fun r z => by
      have y9 := (h.box_ r z).kept (hkc _ (xU_box z) (by omega) (h.box_ r z))
      rw [eo _ (xU_box z)]; exact y9),
    hL, hb, hM, hf, hs, hfr⟩
/-- the old boards and faults, kept -/
theorem xCla.bas_b {G : va_G} {ty : Nat → ClassId} {ad : Nat → Nat} {F R nb : Nat} {pl wi hi fa : Nat → UInt64} {un bu lo la : Nat → Int32} {cx cy bx : Nat → Nat → UInt64} {nf : Nat → Nat} {K0 H : Heap} {b0 : Nat} {a1 : Nat → Nat} {H3 : Heap} (h : xCla G ty ad F R pl un cx cy bu nb wi hi nf fa lo la bx K0 H) (hw : xWf F R nb nf ad b0) (eo : ∀ k : Nat, xU F R nb nf k → a1 k = ad k) (hkc : ∀ (k : Nat) {e : va_E}, xU F R nb nf k → ¬ (k = 3 ∨ k = 6 ∨ (210 ≤ k ∧ k < 300)) → xc G (ad k) e H → H3[ad k]? = H[ad k]?) : ∀ b : Nat, b < nb → xc G (a1 (200 + b)) (.inr (1, [.double (wi b), .double (hi b), .ref (a1 (210 + b))])) H3 := by
  have hB := hw.2.1
  exact (fun b z => by
      have y9 := (h.board_ b z).kept (hkc _ (xU_board z) (by omega) (h.board_ b z))
      rw [eo _ (xU_board z), eo _ (xU_fls z)]; exact y9)
theorem xCla.bas_f {G : va_G} {ty : Nat → ClassId} {ad : Nat → Nat} {F R nb : Nat} {pl wi hi fa : Nat → UInt64} {un bu lo la : Nat → Int32} {cx cy bx : Nat → Nat → UInt64} {nf : Nat → Nat} {K0 H : Heap} {b0 : Nat} {a1 : Nat → Nat} {H3 : Heap} (h : xCla G ty ad F R pl un cx cy bu nb wi hi nf fa lo la bx K0 H) (hw : xWf F R nb nf ad b0) (eo : ∀ k : Nat, xU F R nb nf k → a1 k = ad k) (hkc : ∀ (k : Nat) {e : va_E}, xU F R nb nf k → ¬ (k = 3 ∨ k = 6 ∨ (210 ≤ k ∧ k < 300)) → xc G (ad k) e H → H3[ad k]? = H[ad k]?) : ∀ b : Nat, b < nb → ∀ k : Nat, k < nf b → xc G (a1 (300 + 8 * b + k)) (.inr (2, [.double (fa (32 * b + 4 * k)), .double (fa (32 * b + 4 * k + 1)), .double (fa (32 * b + 4 * k + 2)), .double (fa (32 * b + 4 * k + 3))])) H3 := by
  have hB := hw.2.1
  exact (fun b z k y => by
      have y9 := (h.flt_ b z k y).kept (hkc _ (xU_flt z y) (by have := hw.2.2.1 b z; omega) (h.flt_ b z k y))
      rw [eo _ (xU_flt z y)]; exact y9)
/-- a list, kept, at addresses that agree -/
theorem xL.mv {G : va_G} {ty : Nat → ClassId} {a d a' d' n : Nat} {f g : Nat → Nat} {H H1 : Heap} (h : xL G ty a d n f H) (ea : a' = a) (ed : 0 < n → d' = d) (ef : ∀ j : Nat, j < n → f j = g j) (h1 : H1[a]? = H[a]?) (h2 : 0 < n → H1[d]? = H[d]?) : xL G ty a' d' n g H1 := by
  obtain ⟨mc, g1, g2⟩ := h
  subst ea
  by_cases e : n = 0
  · subst e
    exact ⟨mc, g1.kept h1, fun z => absurd z (Nat.lt_irrefl _)⟩
  · have hn : 0 < n := Nat.pos_of_ne_zero e
    have e2 := ed hn
    subst e2
    refine ⟨mc, g1.kept h1, fun z => xc_fq ((g2 z).kept (h2 z)) (fun j hj => ?_)⟩
    by_cases e3 : j < n
    · rw [if_pos e3, if_pos e3, ef j e3]
    · rw [if_neg e3, if_neg e3]
