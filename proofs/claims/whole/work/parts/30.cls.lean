/-! THE CLASS: what it is made of; what a write to one of its cells makes of it. -/
/-- the places of the class's cells that are there: 0 the object, 1 its rows, 2 its strips, 3 its boards (6 their row), 4 and 5 the two triangles, 10 a row, 20 its places' row, 100 a place, 30 a strip, 40 and 50 its corners, 60 its butts, 70 its box, 200 a board, 210 its faults (220 their row), 300 a fault -/
def xU (F R nb : Nat) (nf : Nat → Nat) (c : Nat) : Prop := c < 6 ∨ (c = 6 ∧ 0 < nb) ∨ (∃ r : Nat, r < R ∧ (c = 10 + r ∨ c = 20 + r)) ∨ (∃ r : Nat, r < R ∧ ∃ f : Nat, f < F ∧ c = 100 + 8 * r + f) ∨ (∃ i : Nat, i < R - 1 ∧ (c = 30 + i ∨ c = 40 + i ∨ c = 50 + i ∨ c = 60 + i ∨ c = 70 + i)) ∨ (∃ b : Nat, b < nb ∧ (c = 200 + b ∨ c = 210 + b ∨ (c = 220 + b ∧ 0 < nf b))) ∨ (∃ b : Nat, b < nb ∧ ∃ k : Nat, k < nf b ∧ c = 300 + 8 * b + k)
/-- the addresses are new, and apart -/
def xI (U : Nat → Prop) (ad : Nat → Nat) (b0 : Nat) : Prop := (∀ k : Nat, U k → b0 ≤ ad k) ∧ ∀ k j : Nat, U k → U j → ad k = ad j → k = j
/-- the sizes of the class -/
def xWf (F R nb : Nat) (nf : Nat → Nat) (ad : Nat → Nat) (b0 : Nat) : Prop := xSz F R ∧ nb ≤ 4 ∧ (∀ b : Nat, b < nb → nf b ≤ 8) ∧ xI (xU F R nb nf) ad b0
/-- a list of objects -/
def xL (G : va_G) (ty : Nat → ClassId) (a d n : Nat) (f : Nat → Nat) (H : Heap) : Prop := ∃ mc : Int32, xc G a (.inr (0, [.int mc, .ref (if n = 0 then ty 8 else d), .int (nI n)])) H ∧ (0 < n → xc G d (.inl (ty 7, 10, .inr (.inr (.inr (.inr (fun j => if j < n then some (f j) else none)))))) H)
/-- one of the two triangles -/
def xN3 (G : va_G) (a : Nat) (H : Heap) : Prop := ∃ u v w : UInt64, xc G a (.inr (3, [.double u, .double v, .double w])) H
/-- the class's cells -/
def xCla (G : va_G) (ty : Nat → ClassId) (ad : Nat → Nat) (F R : Nat) (pl : Nat → UInt64) (un : Nat → Int32) (cx cy : Nat → Nat → UInt64) (bu : Nat → Int32) (nb : Nat) (wi hi : Nat → UInt64) (nf : Nat → Nat) (fa : Nat → UInt64) (lo la : Nat → Int32) (bx : Nat → Nat → UInt64) (K0 H : Heap) : Prop :=
  xc G (ad 0) (.inr (7, [.int (nI F), .ref (ad 1), .ref (ad 2), .ref (ad 3), .ref (ad 4), .ref (ad 5)])) H ∧
  xc G (ad 1) (.inl (ty 5, R, .inr (.inr (.inr (.inr (fun r => some (ad (10 + r)))))))) H ∧
  xc G (ad 2) (.inl (ty 6, R - 1, .inr (.inr (.inr (.inr (fun i => some (ad (30 + i)))))))) H ∧
  xN3 G (ad 4) H ∧ xN3 G (ad 5) H ∧
  (∀ r : Nat, r < R → xc G (ad (10 + r)) (.inr (5, [.ref (ad (20 + r))])) H) ∧
  (∀ r : Nat, r < R → xc G (ad (20 + r)) (.inl (ty 4, F, .inr (.inr (.inr (.inr (fun f => some (ad (100 + 8 * r + f)))))))) H) ∧
  (∀ r : Nat, r < R → ∀ f : Nat, f < F → xc G (ad (100 + 8 * r + f)) (.inr (4, [.double (pAt pl f r 0), .double (pAt pl f r 1), .double (pAt pl f r 2)])) H) ∧
  (∀ i : Nat, i < R - 1 → xc G (ad (30 + i)) (.inr (6, [.ref (ad (10 + i)), .ref (ad (10 + (i + 1))), .ref (ad (40 + i)), .ref (ad (50 + i)), .ref (ad (60 + i)), .ref (ad (70 + i)), .int (un i), .int (lo i), .int (la i)])) H) ∧
  (∀ i : Nat, i < R - 1 → xc G (ad (40 + i)) (.inl (ty 0, 2 * F, .inr (.inr (.inr (.inl (cx i)))))) H) ∧
  (∀ i : Nat, i < R - 1 → xc G (ad (50 + i)) (.inl (ty 0, 2 * F, .inr (.inr (.inr (.inl (cy i)))))) H) ∧
  (∀ i : Nat, i < R - 1 → xc G (ad (60 + i)) (.inl (ty 2, F, .inl (fun f => bu (8 * i + f)))) H) ∧
  (∀ i : Nat, i < R - 1 → xc G (ad (70 + i)) (.inr (2, [.double (bx i 0), .double (bx i 1), .double (bx i 2), .double (bx i 3)])) H) ∧
  xL G ty (ad 3) (ad 6) nb (fun b => ad (200 + b)) H ∧
  (∀ b : Nat, b < nb → xc G (ad (200 + b)) (.inr (1, [.double (wi b), .double (hi b), .ref (ad (210 + b))])) H) ∧
  (∀ b : Nat, b < nb → xL G ty (ad (210 + b)) (ad (220 + b)) (nf b) (fun k => ad (300 + 8 * b + k)) H) ∧
  (∀ b : Nat, b < nb → ∀ k : Nat, k < nf b → xc G (ad (300 + 8 * b + k)) (.inr (2, [.double (fa (32 * b + 4 * k)), .double (fa (32 * b + 4 * k + 1)), .double (fa (32 * b + 4 * k + 2)), .double (fa (32 * b + 4 * k + 3))])) H) ∧
  K0.size ≤ H.size ∧ ∀ q : Nat, q < K0.size → (∀ k : Nat, xU F R nb nf k → q ≠ ad k) → H[q]? = K0[q]?
theorem xCla.o_ {G : va_G} {ty : Nat → ClassId} {ad : Nat → Nat} {F R nb : Nat} {pl wi hi fa : Nat → UInt64} {un bu lo la : Nat → Int32} {cx cy bx : Nat → Nat → UInt64} {nf : Nat → Nat} {K0 H : Heap} (h : xCla G ty ad F R pl un cx cy bu nb wi hi nf fa lo la bx K0 H) : type_of% (h.1) := h.1
theorem xCla.rows_ {G : va_G} {ty : Nat → ClassId} {ad : Nat → Nat} {F R nb : Nat} {pl wi hi fa : Nat → UInt64} {un bu lo la : Nat → Int32} {cx cy bx : Nat → Nat → UInt64} {nf : Nat → Nat} {K0 H : Heap} (h : xCla G ty ad F R pl un cx cy bu nb wi hi nf fa lo la bx K0 H) : type_of% (h.2.1) := h.2.1
theorem xCla.strips_ {G : va_G} {ty : Nat → ClassId} {ad : Nat → Nat} {F R nb : Nat} {pl wi hi fa : Nat → UInt64} {un bu lo la : Nat → Int32} {cx cy bx : Nat → Nat → UInt64} {nf : Nat → Nat} {K0 H : Heap} (h : xCla G ty ad F R pl un cx cy bu nb wi hi nf fa lo la bx K0 H) : type_of% (h.2.2.1) := h.2.2.1
theorem xCla.near_ {G : va_G} {ty : Nat → ClassId} {ad : Nat → Nat} {F R nb : Nat} {pl wi hi fa : Nat → UInt64} {un bu lo la : Nat → Int32} {cx cy bx : Nat → Nat → UInt64} {nf : Nat → Nat} {K0 H : Heap} (h : xCla G ty ad F R pl un cx cy bu nb wi hi nf fa lo la bx K0 H) : type_of% (h.2.2.2.1) := h.2.2.2.1
theorem xCla.far_ {G : va_G} {ty : Nat → ClassId} {ad : Nat → Nat} {F R nb : Nat} {pl wi hi fa : Nat → UInt64} {un bu lo la : Nat → Int32} {cx cy bx : Nat → Nat → UInt64} {nf : Nat → Nat} {K0 H : Heap} (h : xCla G ty ad F R pl un cx cy bu nb wi hi nf fa lo la bx K0 H) : type_of% (h.2.2.2.2.1) := h.2.2.2.2.1
theorem xCla.row_ {G : va_G} {ty : Nat → ClassId} {ad : Nat → Nat} {F R nb : Nat} {pl wi hi fa : Nat → UInt64} {un bu lo la : Nat → Int32} {cx cy bx : Nat → Nat → UInt64} {nf : Nat → Nat} {K0 H : Heap} (h : xCla G ty ad F R pl un cx cy bu nb wi hi nf fa lo la bx K0 H) : type_of% (h.2.2.2.2.2.1) := h.2.2.2.2.2.1
theorem xCla.parr_ {G : va_G} {ty : Nat → ClassId} {ad : Nat → Nat} {F R nb : Nat} {pl wi hi fa : Nat → UInt64} {un bu lo la : Nat → Int32} {cx cy bx : Nat → Nat → UInt64} {nf : Nat → Nat} {K0 H : Heap} (h : xCla G ty ad F R pl un cx cy bu nb wi hi nf fa lo la bx K0 H) : type_of% (h.2.2.2.2.2.2.1) := h.2.2.2.2.2.2.1
theorem xCla.place_ {G : va_G} {ty : Nat → ClassId} {ad : Nat → Nat} {F R nb : Nat} {pl wi hi fa : Nat → UInt64} {un bu lo la : Nat → Int32} {cx cy bx : Nat → Nat → UInt64} {nf : Nat → Nat} {K0 H : Heap} (h : xCla G ty ad F R pl un cx cy bu nb wi hi nf fa lo la bx K0 H) : type_of% (h.2.2.2.2.2.2.2.1) := h.2.2.2.2.2.2.2.1
theorem xCla.strip_ {G : va_G} {ty : Nat → ClassId} {ad : Nat → Nat} {F R nb : Nat} {pl wi hi fa : Nat → UInt64} {un bu lo la : Nat → Int32} {cx cy bx : Nat → Nat → UInt64} {nf : Nat → Nat} {K0 H : Heap} (h : xCla G ty ad F R pl un cx cy bu nb wi hi nf fa lo la bx K0 H) : type_of% (h.2.2.2.2.2.2.2.2.1) := h.2.2.2.2.2.2.2.2.1
theorem xCla.cx_ {G : va_G} {ty : Nat → ClassId} {ad : Nat → Nat} {F R nb : Nat} {pl wi hi fa : Nat → UInt64} {un bu lo la : Nat → Int32} {cx cy bx : Nat → Nat → UInt64} {nf : Nat → Nat} {K0 H : Heap} (h : xCla G ty ad F R pl un cx cy bu nb wi hi nf fa lo la bx K0 H) : type_of% (h.2.2.2.2.2.2.2.2.2.1) := h.2.2.2.2.2.2.2.2.2.1
theorem xCla.cy_ {G : va_G} {ty : Nat → ClassId} {ad : Nat → Nat} {F R nb : Nat} {pl wi hi fa : Nat → UInt64} {un bu lo la : Nat → Int32} {cx cy bx : Nat → Nat → UInt64} {nf : Nat → Nat} {K0 H : Heap} (h : xCla G ty ad F R pl un cx cy bu nb wi hi nf fa lo la bx K0 H) : type_of% (h.2.2.2.2.2.2.2.2.2.2.1) := h.2.2.2.2.2.2.2.2.2.2.1
theorem xCla.bt_ {G : va_G} {ty : Nat → ClassId} {ad : Nat → Nat} {F R nb : Nat} {pl wi hi fa : Nat → UInt64} {un bu lo la : Nat → Int32} {cx cy bx : Nat → Nat → UInt64} {nf : Nat → Nat} {K0 H : Heap} (h : xCla G ty ad F R pl un cx cy bu nb wi hi nf fa lo la bx K0 H) : type_of% (h.2.2.2.2.2.2.2.2.2.2.2.1) := h.2.2.2.2.2.2.2.2.2.2.2.1
theorem xCla.box_ {G : va_G} {ty : Nat → ClassId} {ad : Nat → Nat} {F R nb : Nat} {pl wi hi fa : Nat → UInt64} {un bu lo la : Nat → Int32} {cx cy bx : Nat → Nat → UInt64} {nf : Nat → Nat} {K0 H : Heap} (h : xCla G ty ad F R pl un cx cy bu nb wi hi nf fa lo la bx K0 H) : type_of% (h.2.2.2.2.2.2.2.2.2.2.2.2.1) := h.2.2.2.2.2.2.2.2.2.2.2.2.1
theorem xCla.list_ {G : va_G} {ty : Nat → ClassId} {ad : Nat → Nat} {F R nb : Nat} {pl wi hi fa : Nat → UInt64} {un bu lo la : Nat → Int32} {cx cy bx : Nat → Nat → UInt64} {nf : Nat → Nat} {K0 H : Heap} (h : xCla G ty ad F R pl un cx cy bu nb wi hi nf fa lo la bx K0 H) : type_of% (h.2.2.2.2.2.2.2.2.2.2.2.2.2.1) := h.2.2.2.2.2.2.2.2.2.2.2.2.2.1
theorem xCla.board_ {G : va_G} {ty : Nat → ClassId} {ad : Nat → Nat} {F R nb : Nat} {pl wi hi fa : Nat → UInt64} {un bu lo la : Nat → Int32} {cx cy bx : Nat → Nat → UInt64} {nf : Nat → Nat} {K0 H : Heap} (h : xCla G ty ad F R pl un cx cy bu nb wi hi nf fa lo la bx K0 H) : type_of% (h.2.2.2.2.2.2.2.2.2.2.2.2.2.2.1) := h.2.2.2.2.2.2.2.2.2.2.2.2.2.2.1
theorem xCla.fls_ {G : va_G} {ty : Nat → ClassId} {ad : Nat → Nat} {F R nb : Nat} {pl wi hi fa : Nat → UInt64} {un bu lo la : Nat → Int32} {cx cy bx : Nat → Nat → UInt64} {nf : Nat → Nat} {K0 H : Heap} (h : xCla G ty ad F R pl un cx cy bu nb wi hi nf fa lo la bx K0 H) : type_of% (h.2.2.2.2.2.2.2.2.2.2.2.2.2.2.2.1) := h.2.2.2.2.2.2.2.2.2.2.2.2.2.2.2.1
theorem xCla.flt_ {G : va_G} {ty : Nat → ClassId} {ad : Nat → Nat} {F R nb : Nat} {pl wi hi fa : Nat → UInt64} {un bu lo la : Nat → Int32} {cx cy bx : Nat → Nat → UInt64} {nf : Nat → Nat} {K0 H : Heap} (h : xCla G ty ad F R pl un cx cy bu nb wi hi nf fa lo la bx K0 H) : type_of% (h.2.2.2.2.2.2.2.2.2.2.2.2.2.2.2.2.1) := h.2.2.2.2.2.2.2.2.2.2.2.2.2.2.2.2.1
theorem xCla.siz_ {G : va_G} {ty : Nat → ClassId} {ad : Nat → Nat} {F R nb : Nat} {pl wi hi fa : Nat → UInt64} {un bu lo la : Nat → Int32} {cx cy bx : Nat → Nat → UInt64} {nf : Nat → Nat} {K0 H : Heap} (h : xCla G ty ad F R pl un cx cy bu nb wi hi nf fa lo la bx K0 H) : type_of% (h.2.2.2.2.2.2.2.2.2.2.2.2.2.2.2.2.2.1) := h.2.2.2.2.2.2.2.2.2.2.2.2.2.2.2.2.2.1
theorem xCla.fr_ {G : va_G} {ty : Nat → ClassId} {ad : Nat → Nat} {F R nb : Nat} {pl wi hi fa : Nat → UInt64} {un bu lo la : Nat → Int32} {cx cy bx : Nat → Nat → UInt64} {nf : Nat → Nat} {K0 H : Heap} (h : xCla G ty ad F R pl un cx cy bu nb wi hi nf fa lo la bx K0 H) : type_of% (h.2.2.2.2.2.2.2.2.2.2.2.2.2.2.2.2.2.2) := h.2.2.2.2.2.2.2.2.2.2.2.2.2.2.2.2.2.2
theorem xU_6 {F R nb : Nat} {nf : Nat → Nat} {k : Nat} (h : k < 6) : xU F R nb nf k := Or.inl h
theorem xU_l {F R nb : Nat} {nf : Nat → Nat} (h : 0 < nb) : xU F R nb nf 6 := Or.inr (Or.inl ⟨rfl, h⟩)
theorem xU_row {F R nb r : Nat} {nf : Nat → Nat} (h : r < R) : xU F R nb nf (10 + r) := Or.inr (Or.inr (Or.inl ⟨r, h, Or.inl rfl⟩))
theorem xU_parr {F R nb r : Nat} {nf : Nat → Nat} (h : r < R) : xU F R nb nf (20 + r) := Or.inr (Or.inr (Or.inl ⟨r, h, Or.inr rfl⟩))
theorem xU_place {F R nb r f : Nat} {nf : Nat → Nat} (h : r < R) (h2 : f < F) : xU F R nb nf (100 + 8 * r + f) := Or.inr (Or.inr (Or.inr (Or.inl ⟨r, h, f, h2, rfl⟩)))
theorem xU_strip {F R nb i : Nat} {nf : Nat → Nat} (h : i < R - 1) : xU F R nb nf (30 + i) := Or.inr (Or.inr (Or.inr (Or.inr (Or.inl ⟨i, h, Or.inl rfl⟩))))
theorem xU_cx {F R nb i : Nat} {nf : Nat → Nat} (h : i < R - 1) : xU F R nb nf (40 + i) := Or.inr (Or.inr (Or.inr (Or.inr (Or.inl ⟨i, h, Or.inr (Or.inl rfl)⟩))))
theorem xU_cy {F R nb i : Nat} {nf : Nat → Nat} (h : i < R - 1) : xU F R nb nf (50 + i) := Or.inr (Or.inr (Or.inr (Or.inr (Or.inl ⟨i, h, Or.inr (Or.inr (Or.inl rfl))⟩))))
theorem xU_bt {F R nb i : Nat} {nf : Nat → Nat} (h : i < R - 1) : xU F R nb nf (60 + i) := Or.inr (Or.inr (Or.inr (Or.inr (Or.inl ⟨i, h, Or.inr (Or.inr (Or.inr (Or.inl rfl)))⟩))))
theorem xU_box {F R nb i : Nat} {nf : Nat → Nat} (h : i < R - 1) : xU F R nb nf (70 + i) := Or.inr (Or.inr (Or.inr (Or.inr (Or.inl ⟨i, h, Or.inr (Or.inr (Or.inr (Or.inr rfl)))⟩))))
theorem xU_board {F R nb b : Nat} {nf : Nat → Nat} (h : b < nb) : xU F R nb nf (200 + b) := Or.inr (Or.inr (Or.inr (Or.inr (Or.inr (Or.inl ⟨b, h, Or.inl rfl⟩)))))
theorem xU_fls {F R nb b : Nat} {nf : Nat → Nat} (h : b < nb) : xU F R nb nf (210 + b) := Or.inr (Or.inr (Or.inr (Or.inr (Or.inr (Or.inl ⟨b, h, Or.inr (Or.inl rfl)⟩)))))
theorem xU_fld {F R nb b : Nat} {nf : Nat → Nat} (h : b < nb) (h2 : 0 < nf b) : xU F R nb nf (220 + b) := Or.inr (Or.inr (Or.inr (Or.inr (Or.inr (Or.inl ⟨b, h, Or.inr (Or.inr ⟨rfl, h2⟩)⟩)))))
theorem xU_flt {F R nb b k : Nat} {nf : Nat → Nat} (h : b < nb) (h2 : k < nf b) : xU F R nb nf (300 + 8 * b + k) := Or.inr (Or.inr (Or.inr (Or.inr (Or.inr (Or.inr ⟨b, h, k, h2, rfl⟩)))))
def xup2 (f : Nat → Nat → UInt64) (i k : Nat) (v : UInt64) : Nat → Nat → UInt64 := fun i9 => if i9 = i then vf_upd (f i) k v else f i9
theorem xup2_s {f : Nat → Nat → UInt64} {i k : Nat} {v : UInt64} : xup2 f i k v i = vf_upd (f i) k v := by unfold xup2; exact if_pos rfl
theorem xup2_n {f : Nat → Nat → UInt64} {i k j : Nat} {v : UInt64} (h : j ≠ i) : xup2 f i k v j = f j := by unfold xup2; exact if_neg h
theorem xupd_n {f : Nat → Int32} {i j : Nat} {v : Int32} (h : j ≠ i) : upd f i v j = f j := by unfold upd; exact if_neg h
theorem xupd_s {f : Nat → Int32} {i : Nat} {v : Int32} : upd f i v i = v := by unfold upd; exact if_pos rfl
theorem vupd_n {f : Nat → UInt64} {i j : Nat} {v : UInt64} (h : j ≠ i) : vf_upd f i v j = f j := by unfold vf_upd; exact if_neg h
theorem vupd_s {f : Nat → UInt64} {i : Nat} {v : UInt64} : vf_upd f i v i = v := by unfold vf_upd; exact if_pos rfl
theorem xL.kept {G : va_G} {ty : Nat → ClassId} {a d n : Nat} {f : Nat → Nat} {H H1 : Heap} (h : xL G ty a d n f H) (h1 : H1[a]? = H[a]?) (h2 : 0 < n → H1[d]? = H[d]?) : xL G ty a d n f H1 := by
  obtain ⟨mc, g1, g2⟩ := h
  exact ⟨mc, g1.kept h1, fun z => (g2 z).kept (h2 z)⟩
theorem xN3.kept {G : va_G} {a : Nat} {H H1 : Heap} (h : xN3 G a H) (h1 : H1[a]? = H[a]?) : xN3 G a H1 := by
  obtain ⟨u, v, w, g⟩ := h
  exact ⟨u, v, w, g.kept h1⟩
/-- the other places keep what they hold -/
def xKeep (U : Nat → Prop) (ad : Nat → Nat) (k : Nat) (H H1 : Heap) : Prop := ∀ j : Nat, U j → j ≠ k → H1[ad j]? = H[ad j]?
theorem xKeep.of {G : va_G} {U : Nat → Prop} {ad : Nat → Nat} {b0 k : Nat} {e : va_E} {H H1 : Heap} (hI : xI U ad b0) (hk : U k) (hs : xset G (ad k) e H H1) : xKeep U ad k H H1 := fun j hj hne => hs.2.2 _ (fun z => hne (hI.2 j k hj hk z))
set_option maxHeartbeats 1000000 in
theorem xCla.put_un {G : va_G} {ty : Nat → ClassId} {ad : Nat → Nat} {F R nb : Nat} {pl wi hi fa : Nat → UInt64} {un bu lo la : Nat → Int32} {cx cy bx : Nat → Nat → UInt64} {nf : Nat → Nat} {K0 H : Heap} {b0 : Nat} {H1 : Heap} {i : Nat} {v : Int32} (hi9 : i < R - 1) (h : xCla G ty ad F R pl un cx cy bu nb wi hi nf fa lo la bx K0 H) (hw : xWf F R nb nf ad b0) (hs : xset G (ad (30 + i)) (.inr (6, [.ref (ad (10 + i)), .ref (ad (10 + (i + 1))), .ref (ad (40 + i)), .ref (ad (50 + i)), .ref (ad (60 + i)), .ref (ad (70 + i)), .int (v), .int (lo i), .int (la i)])) H H1) : xCla G ty ad F R pl (upd un i v) cx cy bu nb wi hi nf fa lo la bx K0 H1 := by
  have hnf := hw.2.2.1
  have hnb := hw.2.1
  obtain ⟨⟨zF2, zF8⟩, ⟨zR2, zR8⟩⟩ := hw.1
  have hu : xU F R nb nf (30 + i) := xU_strip hi9
  have hk := xKeep.of hw.2.2.2 hu hs
  exact ⟨(h.o_.kept (hk 0 (xU_6 (by decide)) (by omega))), 
    (h.rows_.kept (hk 1 (xU_6 (by decide)) (by omega))), 
    (h.strips_.kept (hk 2 (xU_6 (by decide)) (by omega))), 
    (h.near_.kept (hk 4 (xU_6 (by decide)) (by omega))), 
    (h.far_.kept (hk 5 (xU_6 (by decide)) (by omega))), 
    (fun r9 z9 => (h.row_ r9 z9).kept (hk _ (xU_row z9) (by omega))), 
    (fun r9 z9 => (h.parr_ r9 z9).kept (hk _ (xU_parr z9) (by omega))), 
    (fun r9 z9 f9 y9 => (h.place_ r9 z9 f9 y9).kept (hk _ (xU_place z9 y9) (by omega))), 
    (fun r9 z9 => by
      by_cases e9 : r9 = i
      · subst e9; rw [xupd_s]; exact hs.1
      · rw [xupd_n e9]; exact (h.strip_ r9 z9).kept (hk _ (xU_strip z9) (by omega))), 
    (fun r9 z9 => (h.cx_ r9 z9).kept (hk _ (xU_cx z9) (by omega))), 
    (fun r9 z9 => (h.cy_ r9 z9).kept (hk _ (xU_cy z9) (by omega))), 
    (fun r9 z9 => (h.bt_ r9 z9).kept (hk _ (xU_bt z9) (by omega))), 
    (fun r9 z9 => (h.box_ r9 z9).kept (hk _ (xU_box z9) (by omega))), 
    (h.list_.kept (hk 3 (xU_6 (by decide)) (by omega)) (fun z8 => hk 6 (xU_l z8) (by omega))), 
    (fun r9 z9 => (h.board_ r9 z9).kept (hk _ (xU_board z9) (by omega))), 
    (fun r9 z9 => (h.fls_ r9 z9).kept (hk _ (xU_fls z9) (by omega)) (fun z8 => hk _ (xU_fld z9 z8) (by omega))), 
    (fun r9 z9 k9 y9 => (h.flt_ r9 z9 k9 y9).kept (hk _ (xU_flt z9 y9) (by omega))),
    (by rw [hs.2.1]; exact h.siz_), fun q9 z9 y9 => (hs.2.2 q9 (y9 _ hu)).trans (h.fr_ q9 z9 y9)⟩
set_option maxHeartbeats 1000000 in
theorem xCla.put_lo {G : va_G} {ty : Nat → ClassId} {ad : Nat → Nat} {F R nb : Nat} {pl wi hi fa : Nat → UInt64} {un bu lo la : Nat → Int32} {cx cy bx : Nat → Nat → UInt64} {nf : Nat → Nat} {K0 H : Heap} {b0 : Nat} {H1 : Heap} {i : Nat} {v : Int32} (hi9 : i < R - 1) (h : xCla G ty ad F R pl un cx cy bu nb wi hi nf fa lo la bx K0 H) (hw : xWf F R nb nf ad b0) (hs : xset G (ad (30 + i)) (.inr (6, [.ref (ad (10 + i)), .ref (ad (10 + (i + 1))), .ref (ad (40 + i)), .ref (ad (50 + i)), .ref (ad (60 + i)), .ref (ad (70 + i)), .int (un i), .int (v), .int (la i)])) H H1) : xCla G ty ad F R pl un cx cy bu nb wi hi nf fa (upd lo i v) la bx K0 H1 := by
  have hnf := hw.2.2.1
  have hnb := hw.2.1
  obtain ⟨⟨zF2, zF8⟩, ⟨zR2, zR8⟩⟩ := hw.1
  have hu : xU F R nb nf (30 + i) := xU_strip hi9
  have hk := xKeep.of hw.2.2.2 hu hs
  exact ⟨(h.o_.kept (hk 0 (xU_6 (by decide)) (by omega))), 
    (h.rows_.kept (hk 1 (xU_6 (by decide)) (by omega))), 
    (h.strips_.kept (hk 2 (xU_6 (by decide)) (by omega))), 
    (h.near_.kept (hk 4 (xU_6 (by decide)) (by omega))), 
    (h.far_.kept (hk 5 (xU_6 (by decide)) (by omega))), 
    (fun r9 z9 => (h.row_ r9 z9).kept (hk _ (xU_row z9) (by omega))), 
    (fun r9 z9 => (h.parr_ r9 z9).kept (hk _ (xU_parr z9) (by omega))), 
    (fun r9 z9 f9 y9 => (h.place_ r9 z9 f9 y9).kept (hk _ (xU_place z9 y9) (by omega))), 
    (fun r9 z9 => by
      by_cases e9 : r9 = i
      · subst e9; rw [xupd_s]; exact hs.1
      · rw [xupd_n e9]; exact (h.strip_ r9 z9).kept (hk _ (xU_strip z9) (by omega))), 
    (fun r9 z9 => (h.cx_ r9 z9).kept (hk _ (xU_cx z9) (by omega))), 
    (fun r9 z9 => (h.cy_ r9 z9).kept (hk _ (xU_cy z9) (by omega))), 
    (fun r9 z9 => (h.bt_ r9 z9).kept (hk _ (xU_bt z9) (by omega))), 
    (fun r9 z9 => (h.box_ r9 z9).kept (hk _ (xU_box z9) (by omega))), 
    (h.list_.kept (hk 3 (xU_6 (by decide)) (by omega)) (fun z8 => hk 6 (xU_l z8) (by omega))), 
    (fun r9 z9 => (h.board_ r9 z9).kept (hk _ (xU_board z9) (by omega))), 
    (fun r9 z9 => (h.fls_ r9 z9).kept (hk _ (xU_fls z9) (by omega)) (fun z8 => hk _ (xU_fld z9 z8) (by omega))), 
    (fun r9 z9 k9 y9 => (h.flt_ r9 z9 k9 y9).kept (hk _ (xU_flt z9 y9) (by omega))),
    (by rw [hs.2.1]; exact h.siz_), fun q9 z9 y9 => (hs.2.2 q9 (y9 _ hu)).trans (h.fr_ q9 z9 y9)⟩
set_option maxHeartbeats 1000000 in
theorem xCla.put_la {G : va_G} {ty : Nat → ClassId} {ad : Nat → Nat} {F R nb : Nat} {pl wi hi fa : Nat → UInt64} {un bu lo la : Nat → Int32} {cx cy bx : Nat → Nat → UInt64} {nf : Nat → Nat} {K0 H : Heap} {b0 : Nat} {H1 : Heap} {i : Nat} {v : Int32} (hi9 : i < R - 1) (h : xCla G ty ad F R pl un cx cy bu nb wi hi nf fa lo la bx K0 H) (hw : xWf F R nb nf ad b0) (hs : xset G (ad (30 + i)) (.inr (6, [.ref (ad (10 + i)), .ref (ad (10 + (i + 1))), .ref (ad (40 + i)), .ref (ad (50 + i)), .ref (ad (60 + i)), .ref (ad (70 + i)), .int (un i), .int (lo i), .int (v)])) H H1) : xCla G ty ad F R pl un cx cy bu nb wi hi nf fa lo (upd la i v) bx K0 H1 := by
  have hnf := hw.2.2.1
  have hnb := hw.2.1
  obtain ⟨⟨zF2, zF8⟩, ⟨zR2, zR8⟩⟩ := hw.1
  have hu : xU F R nb nf (30 + i) := xU_strip hi9
  have hk := xKeep.of hw.2.2.2 hu hs
  exact ⟨(h.o_.kept (hk 0 (xU_6 (by decide)) (by omega))), 
    (h.rows_.kept (hk 1 (xU_6 (by decide)) (by omega))), 
    (h.strips_.kept (hk 2 (xU_6 (by decide)) (by omega))), 
    (h.near_.kept (hk 4 (xU_6 (by decide)) (by omega))), 
    (h.far_.kept (hk 5 (xU_6 (by decide)) (by omega))), 
    (fun r9 z9 => (h.row_ r9 z9).kept (hk _ (xU_row z9) (by omega))), 
    (fun r9 z9 => (h.parr_ r9 z9).kept (hk _ (xU_parr z9) (by omega))), 
    (fun r9 z9 f9 y9 => (h.place_ r9 z9 f9 y9).kept (hk _ (xU_place z9 y9) (by omega))), 
    (fun r9 z9 => by
      by_cases e9 : r9 = i
      · subst e9; rw [xupd_s]; exact hs.1
      · rw [xupd_n e9]; exact (h.strip_ r9 z9).kept (hk _ (xU_strip z9) (by omega))), 
    (fun r9 z9 => (h.cx_ r9 z9).kept (hk _ (xU_cx z9) (by omega))), 
    (fun r9 z9 => (h.cy_ r9 z9).kept (hk _ (xU_cy z9) (by omega))), 
    (fun r9 z9 => (h.bt_ r9 z9).kept (hk _ (xU_bt z9) (by omega))), 
    (fun r9 z9 => (h.box_ r9 z9).kept (hk _ (xU_box z9) (by omega))), 
    (h.list_.kept (hk 3 (xU_6 (by decide)) (by omega)) (fun z8 => hk 6 (xU_l z8) (by omega))), 
    (fun r9 z9 => (h.board_ r9 z9).kept (hk _ (xU_board z9) (by omega))), 
    (fun r9 z9 => (h.fls_ r9 z9).kept (hk _ (xU_fls z9) (by omega)) (fun z8 => hk _ (xU_fld z9 z8) (by omega))), 
    (fun r9 z9 k9 y9 => (h.flt_ r9 z9 k9 y9).kept (hk _ (xU_flt z9 y9) (by omega))),
    (by rw [hs.2.1]; exact h.siz_), fun q9 z9 y9 => (hs.2.2 q9 (y9 _ hu)).trans (h.fr_ q9 z9 y9)⟩
set_option maxHeartbeats 1000000 in
theorem xCla.put_cx {G : va_G} {ty : Nat → ClassId} {ad : Nat → Nat} {F R nb : Nat} {pl wi hi fa : Nat → UInt64} {un bu lo la : Nat → Int32} {cx cy bx : Nat → Nat → UInt64} {nf : Nat → Nat} {K0 H : Heap} {b0 : Nat} {H1 : Heap} {i j : Nat} {v : UInt64} (hi9 : i < R - 1) (h : xCla G ty ad F R pl un cx cy bu nb wi hi nf fa lo la bx K0 H) (hw : xWf F R nb nf ad b0) (hs : xset G (ad (40 + i)) (.inl (ty 0, 2 * F, .inr (.inr (.inr (.inl (vf_upd (cx i) j v)))))) H H1) : xCla G ty ad F R pl un (xup2 cx i j v) cy bu nb wi hi nf fa lo la bx K0 H1 := by
  have hnf := hw.2.2.1
  have hnb := hw.2.1
  obtain ⟨⟨zF2, zF8⟩, ⟨zR2, zR8⟩⟩ := hw.1
  have hu : xU F R nb nf (40 + i) := xU_cx hi9
  have hk := xKeep.of hw.2.2.2 hu hs
  exact ⟨(h.o_.kept (hk 0 (xU_6 (by decide)) (by omega))), 
    (h.rows_.kept (hk 1 (xU_6 (by decide)) (by omega))), 
    (h.strips_.kept (hk 2 (xU_6 (by decide)) (by omega))), 
    (h.near_.kept (hk 4 (xU_6 (by decide)) (by omega))), 
    (h.far_.kept (hk 5 (xU_6 (by decide)) (by omega))), 
    (fun r9 z9 => (h.row_ r9 z9).kept (hk _ (xU_row z9) (by omega))), 
    (fun r9 z9 => (h.parr_ r9 z9).kept (hk _ (xU_parr z9) (by omega))), 
    (fun r9 z9 f9 y9 => (h.place_ r9 z9 f9 y9).kept (hk _ (xU_place z9 y9) (by omega))), 
    (fun r9 z9 => (h.strip_ r9 z9).kept (hk _ (xU_strip z9) (by omega))), 
    (fun r9 z9 => by
      by_cases e9 : r9 = i
      · subst e9; rw [xup2_s]; exact hs.1
      · rw [xup2_n e9]; exact (h.cx_ r9 z9).kept (hk _ (xU_cx z9) (by omega))), 
    (fun r9 z9 => (h.cy_ r9 z9).kept (hk _ (xU_cy z9) (by omega))), 
    (fun r9 z9 => (h.bt_ r9 z9).kept (hk _ (xU_bt z9) (by omega))), 
    (fun r9 z9 => (h.box_ r9 z9).kept (hk _ (xU_box z9) (by omega))), 
    (h.list_.kept (hk 3 (xU_6 (by decide)) (by omega)) (fun z8 => hk 6 (xU_l z8) (by omega))), 
    (fun r9 z9 => (h.board_ r9 z9).kept (hk _ (xU_board z9) (by omega))), 
    (fun r9 z9 => (h.fls_ r9 z9).kept (hk _ (xU_fls z9) (by omega)) (fun z8 => hk _ (xU_fld z9 z8) (by omega))), 
    (fun r9 z9 k9 y9 => (h.flt_ r9 z9 k9 y9).kept (hk _ (xU_flt z9 y9) (by omega))),
    (by rw [hs.2.1]; exact h.siz_), fun q9 z9 y9 => (hs.2.2 q9 (y9 _ hu)).trans (h.fr_ q9 z9 y9)⟩
set_option maxHeartbeats 1000000 in
theorem xCla.put_cy {G : va_G} {ty : Nat → ClassId} {ad : Nat → Nat} {F R nb : Nat} {pl wi hi fa : Nat → UInt64} {un bu lo la : Nat → Int32} {cx cy bx : Nat → Nat → UInt64} {nf : Nat → Nat} {K0 H : Heap} {b0 : Nat} {H1 : Heap} {i j : Nat} {v : UInt64} (hi9 : i < R - 1) (h : xCla G ty ad F R pl un cx cy bu nb wi hi nf fa lo la bx K0 H) (hw : xWf F R nb nf ad b0) (hs : xset G (ad (50 + i)) (.inl (ty 0, 2 * F, .inr (.inr (.inr (.inl (vf_upd (cy i) j v)))))) H H1) : xCla G ty ad F R pl un cx (xup2 cy i j v) bu nb wi hi nf fa lo la bx K0 H1 := by
  have hnf := hw.2.2.1
  have hnb := hw.2.1
  obtain ⟨⟨zF2, zF8⟩, ⟨zR2, zR8⟩⟩ := hw.1
  have hu : xU F R nb nf (50 + i) := xU_cy hi9
  have hk := xKeep.of hw.2.2.2 hu hs
  exact ⟨(h.o_.kept (hk 0 (xU_6 (by decide)) (by omega))), 
    (h.rows_.kept (hk 1 (xU_6 (by decide)) (by omega))), 
    (h.strips_.kept (hk 2 (xU_6 (by decide)) (by omega))), 
    (h.near_.kept (hk 4 (xU_6 (by decide)) (by omega))), 
    (h.far_.kept (hk 5 (xU_6 (by decide)) (by omega))), 
    (fun r9 z9 => (h.row_ r9 z9).kept (hk _ (xU_row z9) (by omega))), 
    (fun r9 z9 => (h.parr_ r9 z9).kept (hk _ (xU_parr z9) (by omega))), 
    (fun r9 z9 f9 y9 => (h.place_ r9 z9 f9 y9).kept (hk _ (xU_place z9 y9) (by omega))), 
    (fun r9 z9 => (h.strip_ r9 z9).kept (hk _ (xU_strip z9) (by omega))), 
    (fun r9 z9 => (h.cx_ r9 z9).kept (hk _ (xU_cx z9) (by omega))), 
    (fun r9 z9 => by
      by_cases e9 : r9 = i
      · subst e9; rw [xup2_s]; exact hs.1
      · rw [xup2_n e9]; exact (h.cy_ r9 z9).kept (hk _ (xU_cy z9) (by omega))), 
    (fun r9 z9 => (h.bt_ r9 z9).kept (hk _ (xU_bt z9) (by omega))), 
    (fun r9 z9 => (h.box_ r9 z9).kept (hk _ (xU_box z9) (by omega))), 
    (h.list_.kept (hk 3 (xU_6 (by decide)) (by omega)) (fun z8 => hk 6 (xU_l z8) (by omega))), 
    (fun r9 z9 => (h.board_ r9 z9).kept (hk _ (xU_board z9) (by omega))), 
    (fun r9 z9 => (h.fls_ r9 z9).kept (hk _ (xU_fls z9) (by omega)) (fun z8 => hk _ (xU_fld z9 z8) (by omega))), 
    (fun r9 z9 k9 y9 => (h.flt_ r9 z9 k9 y9).kept (hk _ (xU_flt z9 y9) (by omega))),
    (by rw [hs.2.1]; exact h.siz_), fun q9 z9 y9 => (hs.2.2 q9 (y9 _ hu)).trans (h.fr_ q9 z9 y9)⟩
theorem xc_fn {G : va_G} {a n : Nat} {cA : ClassId} {f g : Nat → Int32} {H : Heap} (h : xc G a (.inl (cA, n, .inl f)) H) (e : ∀ j : Nat, j < n → f j = g j) : xc G a (.inl (cA, n, .inl g)) H := by
  show H[a]? = some (vp_cell _ _)
  rw [show H[a]? = some (vp_cell cA (n, .inl f)) from h]
  rw [vp_cell_i, vp_cell_i]
  unfold arrV
  congr 2
  apply Array.ext
  · simp
  · intro j h1 h2
    simp at h1
    simp [e j h1]
set_option maxHeartbeats 1000000 in
theorem xCla.put_bt {G : va_G} {ty : Nat → ClassId} {ad : Nat → Nat} {F R nb : Nat} {pl wi hi fa : Nat → UInt64} {un bu lo la : Nat → Int32} {cx cy bx : Nat → Nat → UInt64} {nf : Nat → Nat} {K0 H : Heap} {b0 : Nat} {H1 : Heap} {i j : Nat} {v : Int32} (hi9 : i < R - 1) (hj9 : j < F) (h : xCla G ty ad F R pl un cx cy bu nb wi hi nf fa lo la bx K0 H) (hw : xWf F R nb nf ad b0) (hs : xset G (ad (60 + i)) (.inl (ty 2, F, .inl (upd (fun f => bu (8 * i + f)) j v))) H H1) : xCla G ty ad F R pl un cx cy (upd bu (8 * i + j) v) nb wi hi nf fa lo la bx K0 H1 := by

  have hnf := hw.2.2.1
  have hnb := hw.2.1
  obtain ⟨⟨zF2, zF8⟩, ⟨zR2, zR8⟩⟩ := hw.1
  have hu : xU F R nb nf (60 + i) := xU_bt hi9
  have hk := xKeep.of hw.2.2.2 hu hs
  exact ⟨(h.o_.kept (hk 0 (xU_6 (by decide)) (by omega))), 
    (h.rows_.kept (hk 1 (xU_6 (by decide)) (by omega))), 
    (h.strips_.kept (hk 2 (xU_6 (by decide)) (by omega))), 
    (h.near_.kept (hk 4 (xU_6 (by decide)) (by omega))), 
    (h.far_.kept (hk 5 (xU_6 (by decide)) (by omega))), 
    (fun r9 z9 => (h.row_ r9 z9).kept (hk _ (xU_row z9) (by omega))), 
    (fun r9 z9 => (h.parr_ r9 z9).kept (hk _ (xU_parr z9) (by omega))), 
    (fun r9 z9 f9 y9 => (h.place_ r9 z9 f9 y9).kept (hk _ (xU_place z9 y9) (by omega))), 
    (fun r9 z9 => (h.strip_ r9 z9).kept (hk _ (xU_strip z9) (by omega))), 
    (fun r9 z9 => (h.cx_ r9 z9).kept (hk _ (xU_cx z9) (by omega))), 
    (fun r9 z9 => (h.cy_ r9 z9).kept (hk _ (xU_cy z9) (by omega))), 
    (fun r9 z9 => by
      by_cases e9 : r9 = i
      · subst e9
        refine xc_fn hs.1 (fun f9 y9 => ?_)
        by_cases e8 : f9 = j
        · subst e8; rw [xupd_s, xupd_s]
        · rw [xupd_n e8, xupd_n (by omega)]
      · exact xc_fn ((h.bt_ r9 z9).kept (hk _ (xU_bt z9) (by omega))) (fun f9 y9 => (xupd_n (by omega)).symm)), 
    (fun r9 z9 => (h.box_ r9 z9).kept (hk _ (xU_box z9) (by omega))), 
    (h.list_.kept (hk 3 (xU_6 (by decide)) (by omega)) (fun z8 => hk 6 (xU_l z8) (by omega))), 
    (fun r9 z9 => (h.board_ r9 z9).kept (hk _ (xU_board z9) (by omega))), 
    (fun r9 z9 => (h.fls_ r9 z9).kept (hk _ (xU_fls z9) (by omega)) (fun z8 => hk _ (xU_fld z9 z8) (by omega))), 
    (fun r9 z9 k9 y9 => (h.flt_ r9 z9 k9 y9).kept (hk _ (xU_flt z9 y9) (by omega))),
    (by rw [hs.2.1]; exact h.siz_), fun q9 z9 y9 => (hs.2.2 q9 (y9 _ hu)).trans (h.fr_ q9 z9 y9)⟩
set_option maxHeartbeats 1000000 in
theorem xCla.put_box0 {G : va_G} {ty : Nat → ClassId} {ad : Nat → Nat} {F R nb : Nat} {pl wi hi fa : Nat → UInt64} {un bu lo la : Nat → Int32} {cx cy bx : Nat → Nat → UInt64} {nf : Nat → Nat} {K0 H : Heap} {b0 : Nat} {H1 : Heap} {i : Nat} {v : UInt64} (hi9 : i < R - 1) (h : xCla G ty ad F R pl un cx cy bu nb wi hi nf fa lo la bx K0 H) (hw : xWf F R nb nf ad b0) (hs : xset G (ad (70 + i)) (.inr (2, [.double (v), .double (bx i 1), .double (bx i 2), .double (bx i 3)])) H H1) : xCla G ty ad F R pl un cx cy bu nb wi hi nf fa lo la (xup2 bx i 0 v) K0 H1 := by
  have hnf := hw.2.2.1
  have hnb := hw.2.1
  obtain ⟨⟨zF2, zF8⟩, ⟨zR2, zR8⟩⟩ := hw.1
  have hu : xU F R nb nf (70 + i) := xU_box hi9
  have hk := xKeep.of hw.2.2.2 hu hs
  exact ⟨(h.o_.kept (hk 0 (xU_6 (by decide)) (by omega))), 
    (h.rows_.kept (hk 1 (xU_6 (by decide)) (by omega))), 
    (h.strips_.kept (hk 2 (xU_6 (by decide)) (by omega))), 
    (h.near_.kept (hk 4 (xU_6 (by decide)) (by omega))), 
    (h.far_.kept (hk 5 (xU_6 (by decide)) (by omega))), 
    (fun r9 z9 => (h.row_ r9 z9).kept (hk _ (xU_row z9) (by omega))), 
    (fun r9 z9 => (h.parr_ r9 z9).kept (hk _ (xU_parr z9) (by omega))), 
    (fun r9 z9 f9 y9 => (h.place_ r9 z9 f9 y9).kept (hk _ (xU_place z9 y9) (by omega))), 
    (fun r9 z9 => (h.strip_ r9 z9).kept (hk _ (xU_strip z9) (by omega))), 
    (fun r9 z9 => (h.cx_ r9 z9).kept (hk _ (xU_cx z9) (by omega))), 
    (fun r9 z9 => (h.cy_ r9 z9).kept (hk _ (xU_cy z9) (by omega))), 
    (fun r9 z9 => (h.bt_ r9 z9).kept (hk _ (xU_bt z9) (by omega))), 
    (fun r9 z9 => by
      by_cases e9 : r9 = i
      · subst e9; rw [xup2_s]; exact hs.1
      · rw [xup2_n e9]; exact (h.box_ r9 z9).kept (hk _ (xU_box z9) (by omega))), 
    (h.list_.kept (hk 3 (xU_6 (by decide)) (by omega)) (fun z8 => hk 6 (xU_l z8) (by omega))), 
    (fun r9 z9 => (h.board_ r9 z9).kept (hk _ (xU_board z9) (by omega))), 
    (fun r9 z9 => (h.fls_ r9 z9).kept (hk _ (xU_fls z9) (by omega)) (fun z8 => hk _ (xU_fld z9 z8) (by omega))), 
    (fun r9 z9 k9 y9 => (h.flt_ r9 z9 k9 y9).kept (hk _ (xU_flt z9 y9) (by omega))),
    (by rw [hs.2.1]; exact h.siz_), fun q9 z9 y9 => (hs.2.2 q9 (y9 _ hu)).trans (h.fr_ q9 z9 y9)⟩
set_option maxHeartbeats 1000000 in
theorem xCla.put_box1 {G : va_G} {ty : Nat → ClassId} {ad : Nat → Nat} {F R nb : Nat} {pl wi hi fa : Nat → UInt64} {un bu lo la : Nat → Int32} {cx cy bx : Nat → Nat → UInt64} {nf : Nat → Nat} {K0 H : Heap} {b0 : Nat} {H1 : Heap} {i : Nat} {v : UInt64} (hi9 : i < R - 1) (h : xCla G ty ad F R pl un cx cy bu nb wi hi nf fa lo la bx K0 H) (hw : xWf F R nb nf ad b0) (hs : xset G (ad (70 + i)) (.inr (2, [.double (bx i 0), .double (v), .double (bx i 2), .double (bx i 3)])) H H1) : xCla G ty ad F R pl un cx cy bu nb wi hi nf fa lo la (xup2 bx i 1 v) K0 H1 := by
  have hnf := hw.2.2.1
  have hnb := hw.2.1
  obtain ⟨⟨zF2, zF8⟩, ⟨zR2, zR8⟩⟩ := hw.1
  have hu : xU F R nb nf (70 + i) := xU_box hi9
  have hk := xKeep.of hw.2.2.2 hu hs
  exact ⟨(h.o_.kept (hk 0 (xU_6 (by decide)) (by omega))), 
    (h.rows_.kept (hk 1 (xU_6 (by decide)) (by omega))), 
    (h.strips_.kept (hk 2 (xU_6 (by decide)) (by omega))), 
    (h.near_.kept (hk 4 (xU_6 (by decide)) (by omega))), 
    (h.far_.kept (hk 5 (xU_6 (by decide)) (by omega))), 
    (fun r9 z9 => (h.row_ r9 z9).kept (hk _ (xU_row z9) (by omega))), 
    (fun r9 z9 => (h.parr_ r9 z9).kept (hk _ (xU_parr z9) (by omega))), 
    (fun r9 z9 f9 y9 => (h.place_ r9 z9 f9 y9).kept (hk _ (xU_place z9 y9) (by omega))), 
    (fun r9 z9 => (h.strip_ r9 z9).kept (hk _ (xU_strip z9) (by omega))), 
    (fun r9 z9 => (h.cx_ r9 z9).kept (hk _ (xU_cx z9) (by omega))), 
    (fun r9 z9 => (h.cy_ r9 z9).kept (hk _ (xU_cy z9) (by omega))), 
    (fun r9 z9 => (h.bt_ r9 z9).kept (hk _ (xU_bt z9) (by omega))), 
    (fun r9 z9 => by
      by_cases e9 : r9 = i
      · subst e9; rw [xup2_s]; exact hs.1
      · rw [xup2_n e9]; exact (h.box_ r9 z9).kept (hk _ (xU_box z9) (by omega))), 
    (h.list_.kept (hk 3 (xU_6 (by decide)) (by omega)) (fun z8 => hk 6 (xU_l z8) (by omega))), 
    (fun r9 z9 => (h.board_ r9 z9).kept (hk _ (xU_board z9) (by omega))), 
    (fun r9 z9 => (h.fls_ r9 z9).kept (hk _ (xU_fls z9) (by omega)) (fun z8 => hk _ (xU_fld z9 z8) (by omega))), 
    (fun r9 z9 k9 y9 => (h.flt_ r9 z9 k9 y9).kept (hk _ (xU_flt z9 y9) (by omega))),
    (by rw [hs.2.1]; exact h.siz_), fun q9 z9 y9 => (hs.2.2 q9 (y9 _ hu)).trans (h.fr_ q9 z9 y9)⟩
set_option maxHeartbeats 1000000 in
theorem xCla.put_box2 {G : va_G} {ty : Nat → ClassId} {ad : Nat → Nat} {F R nb : Nat} {pl wi hi fa : Nat → UInt64} {un bu lo la : Nat → Int32} {cx cy bx : Nat → Nat → UInt64} {nf : Nat → Nat} {K0 H : Heap} {b0 : Nat} {H1 : Heap} {i : Nat} {v : UInt64} (hi9 : i < R - 1) (h : xCla G ty ad F R pl un cx cy bu nb wi hi nf fa lo la bx K0 H) (hw : xWf F R nb nf ad b0) (hs : xset G (ad (70 + i)) (.inr (2, [.double (bx i 0), .double (bx i 1), .double (v), .double (bx i 3)])) H H1) : xCla G ty ad F R pl un cx cy bu nb wi hi nf fa lo la (xup2 bx i 2 v) K0 H1 := by
  have hnf := hw.2.2.1
  have hnb := hw.2.1
  obtain ⟨⟨zF2, zF8⟩, ⟨zR2, zR8⟩⟩ := hw.1
  have hu : xU F R nb nf (70 + i) := xU_box hi9
  have hk := xKeep.of hw.2.2.2 hu hs
  exact ⟨(h.o_.kept (hk 0 (xU_6 (by decide)) (by omega))), 
    (h.rows_.kept (hk 1 (xU_6 (by decide)) (by omega))), 
    (h.strips_.kept (hk 2 (xU_6 (by decide)) (by omega))), 
    (h.near_.kept (hk 4 (xU_6 (by decide)) (by omega))), 
    (h.far_.kept (hk 5 (xU_6 (by decide)) (by omega))), 
    (fun r9 z9 => (h.row_ r9 z9).kept (hk _ (xU_row z9) (by omega))), 
    (fun r9 z9 => (h.parr_ r9 z9).kept (hk _ (xU_parr z9) (by omega))), 
    (fun r9 z9 f9 y9 => (h.place_ r9 z9 f9 y9).kept (hk _ (xU_place z9 y9) (by omega))), 
    (fun r9 z9 => (h.strip_ r9 z9).kept (hk _ (xU_strip z9) (by omega))), 
    (fun r9 z9 => (h.cx_ r9 z9).kept (hk _ (xU_cx z9) (by omega))), 
    (fun r9 z9 => (h.cy_ r9 z9).kept (hk _ (xU_cy z9) (by omega))), 
    (fun r9 z9 => (h.bt_ r9 z9).kept (hk _ (xU_bt z9) (by omega))), 
    (fun r9 z9 => by
      by_cases e9 : r9 = i
      · subst e9; rw [xup2_s]; exact hs.1
      · rw [xup2_n e9]; exact (h.box_ r9 z9).kept (hk _ (xU_box z9) (by omega))), 
    (h.list_.kept (hk 3 (xU_6 (by decide)) (by omega)) (fun z8 => hk 6 (xU_l z8) (by omega))), 
    (fun r9 z9 => (h.board_ r9 z9).kept (hk _ (xU_board z9) (by omega))), 
    (fun r9 z9 => (h.fls_ r9 z9).kept (hk _ (xU_fls z9) (by omega)) (fun z8 => hk _ (xU_fld z9 z8) (by omega))), 
    (fun r9 z9 k9 y9 => (h.flt_ r9 z9 k9 y9).kept (hk _ (xU_flt z9 y9) (by omega))),
    (by rw [hs.2.1]; exact h.siz_), fun q9 z9 y9 => (hs.2.2 q9 (y9 _ hu)).trans (h.fr_ q9 z9 y9)⟩
set_option maxHeartbeats 1000000 in
theorem xCla.put_box3 {G : va_G} {ty : Nat → ClassId} {ad : Nat → Nat} {F R nb : Nat} {pl wi hi fa : Nat → UInt64} {un bu lo la : Nat → Int32} {cx cy bx : Nat → Nat → UInt64} {nf : Nat → Nat} {K0 H : Heap} {b0 : Nat} {H1 : Heap} {i : Nat} {v : UInt64} (hi9 : i < R - 1) (h : xCla G ty ad F R pl un cx cy bu nb wi hi nf fa lo la bx K0 H) (hw : xWf F R nb nf ad b0) (hs : xset G (ad (70 + i)) (.inr (2, [.double (bx i 0), .double (bx i 1), .double (bx i 2), .double (v)])) H H1) : xCla G ty ad F R pl un cx cy bu nb wi hi nf fa lo la (xup2 bx i 3 v) K0 H1 := by
  have hnf := hw.2.2.1
  have hnb := hw.2.1
  obtain ⟨⟨zF2, zF8⟩, ⟨zR2, zR8⟩⟩ := hw.1
  have hu : xU F R nb nf (70 + i) := xU_box hi9
  have hk := xKeep.of hw.2.2.2 hu hs
  exact ⟨(h.o_.kept (hk 0 (xU_6 (by decide)) (by omega))), 
    (h.rows_.kept (hk 1 (xU_6 (by decide)) (by omega))), 
    (h.strips_.kept (hk 2 (xU_6 (by decide)) (by omega))), 
    (h.near_.kept (hk 4 (xU_6 (by decide)) (by omega))), 
    (h.far_.kept (hk 5 (xU_6 (by decide)) (by omega))), 
    (fun r9 z9 => (h.row_ r9 z9).kept (hk _ (xU_row z9) (by omega))), 
    (fun r9 z9 => (h.parr_ r9 z9).kept (hk _ (xU_parr z9) (by omega))), 
    (fun r9 z9 f9 y9 => (h.place_ r9 z9 f9 y9).kept (hk _ (xU_place z9 y9) (by omega))), 
    (fun r9 z9 => (h.strip_ r9 z9).kept (hk _ (xU_strip z9) (by omega))), 
    (fun r9 z9 => (h.cx_ r9 z9).kept (hk _ (xU_cx z9) (by omega))), 
    (fun r9 z9 => (h.cy_ r9 z9).kept (hk _ (xU_cy z9) (by omega))), 
    (fun r9 z9 => (h.bt_ r9 z9).kept (hk _ (xU_bt z9) (by omega))), 
    (fun r9 z9 => by
      by_cases e9 : r9 = i
      · subst e9; rw [xup2_s]; exact hs.1
      · rw [xup2_n e9]; exact (h.box_ r9 z9).kept (hk _ (xU_box z9) (by omega))), 
    (h.list_.kept (hk 3 (xU_6 (by decide)) (by omega)) (fun z8 => hk 6 (xU_l z8) (by omega))), 
    (fun r9 z9 => (h.board_ r9 z9).kept (hk _ (xU_board z9) (by omega))), 
    (fun r9 z9 => (h.fls_ r9 z9).kept (hk _ (xU_fls z9) (by omega)) (fun z8 => hk _ (xU_fld z9 z8) (by omega))), 
    (fun r9 z9 k9 y9 => (h.flt_ r9 z9 k9 y9).kept (hk _ (xU_flt z9 y9) (by omega))),
    (by rw [hs.2.1]; exact h.siz_), fun q9 z9 y9 => (hs.2.2 q9 (y9 _ hu)).trans (h.fr_ q9 z9 y9)⟩
set_option maxHeartbeats 1000000 in
theorem xCla.put_near {G : va_G} {ty : Nat → ClassId} {ad : Nat → Nat} {F R nb : Nat} {pl wi hi fa : Nat → UInt64} {un bu lo la : Nat → Int32} {cx cy bx : Nat → Nat → UInt64} {nf : Nat → Nat} {K0 H : Heap} {b0 : Nat} {H1 : Heap} {u v w : UInt64} (h : xCla G ty ad F R pl un cx cy bu nb wi hi nf fa lo la bx K0 H) (hw : xWf F R nb nf ad b0) (hs : xset G (ad (4)) (.inr (3, [.double u, .double v, .double w])) H H1) : xCla G ty ad F R pl un cx cy bu nb wi hi nf fa lo la bx K0 H1 := by
  have hnf := hw.2.2.1
  have hnb := hw.2.1
  obtain ⟨⟨zF2, zF8⟩, ⟨zR2, zR8⟩⟩ := hw.1
  have hu : xU F R nb nf (4) := xU_6 (by decide)
  have hk := xKeep.of hw.2.2.2 hu hs
  exact ⟨(h.o_.kept (hk 0 (xU_6 (by decide)) (by omega))), 
    (h.rows_.kept (hk 1 (xU_6 (by decide)) (by omega))), 
    (h.strips_.kept (hk 2 (xU_6 (by decide)) (by omega))), 
    ⟨u, v, w, hs.1⟩, 
    (h.far_.kept (hk 5 (xU_6 (by decide)) (by omega))), 
    (fun r9 z9 => (h.row_ r9 z9).kept (hk _ (xU_row z9) (by omega))), 
    (fun r9 z9 => (h.parr_ r9 z9).kept (hk _ (xU_parr z9) (by omega))), 
    (fun r9 z9 f9 y9 => (h.place_ r9 z9 f9 y9).kept (hk _ (xU_place z9 y9) (by omega))), 
    (fun r9 z9 => (h.strip_ r9 z9).kept (hk _ (xU_strip z9) (by omega))), 
    (fun r9 z9 => (h.cx_ r9 z9).kept (hk _ (xU_cx z9) (by omega))), 
    (fun r9 z9 => (h.cy_ r9 z9).kept (hk _ (xU_cy z9) (by omega))), 
    (fun r9 z9 => (h.bt_ r9 z9).kept (hk _ (xU_bt z9) (by omega))), 
    (fun r9 z9 => (h.box_ r9 z9).kept (hk _ (xU_box z9) (by omega))), 
    (h.list_.kept (hk 3 (xU_6 (by decide)) (by omega)) (fun z8 => hk 6 (xU_l z8) (by omega))), 
    (fun r9 z9 => (h.board_ r9 z9).kept (hk _ (xU_board z9) (by omega))), 
    (fun r9 z9 => (h.fls_ r9 z9).kept (hk _ (xU_fls z9) (by omega)) (fun z8 => hk _ (xU_fld z9 z8) (by omega))), 
    (fun r9 z9 k9 y9 => (h.flt_ r9 z9 k9 y9).kept (hk _ (xU_flt z9 y9) (by omega))),
    (by rw [hs.2.1]; exact h.siz_), fun q9 z9 y9 => (hs.2.2 q9 (y9 _ hu)).trans (h.fr_ q9 z9 y9)⟩
set_option maxHeartbeats 1000000 in
theorem xCla.put_far {G : va_G} {ty : Nat → ClassId} {ad : Nat → Nat} {F R nb : Nat} {pl wi hi fa : Nat → UInt64} {un bu lo la : Nat → Int32} {cx cy bx : Nat → Nat → UInt64} {nf : Nat → Nat} {K0 H : Heap} {b0 : Nat} {H1 : Heap} {u v w : UInt64} (h : xCla G ty ad F R pl un cx cy bu nb wi hi nf fa lo la bx K0 H) (hw : xWf F R nb nf ad b0) (hs : xset G (ad (5)) (.inr (3, [.double u, .double v, .double w])) H H1) : xCla G ty ad F R pl un cx cy bu nb wi hi nf fa lo la bx K0 H1 := by
  have hnf := hw.2.2.1
  have hnb := hw.2.1
  obtain ⟨⟨zF2, zF8⟩, ⟨zR2, zR8⟩⟩ := hw.1
  have hu : xU F R nb nf (5) := xU_6 (by decide)
  have hk := xKeep.of hw.2.2.2 hu hs
  exact ⟨(h.o_.kept (hk 0 (xU_6 (by decide)) (by omega))), 
    (h.rows_.kept (hk 1 (xU_6 (by decide)) (by omega))), 
    (h.strips_.kept (hk 2 (xU_6 (by decide)) (by omega))), 
    (h.near_.kept (hk 4 (xU_6 (by decide)) (by omega))), 
    ⟨u, v, w, hs.1⟩, 
    (fun r9 z9 => (h.row_ r9 z9).kept (hk _ (xU_row z9) (by omega))), 
    (fun r9 z9 => (h.parr_ r9 z9).kept (hk _ (xU_parr z9) (by omega))), 
    (fun r9 z9 f9 y9 => (h.place_ r9 z9 f9 y9).kept (hk _ (xU_place z9 y9) (by omega))), 
    (fun r9 z9 => (h.strip_ r9 z9).kept (hk _ (xU_strip z9) (by omega))), 
    (fun r9 z9 => (h.cx_ r9 z9).kept (hk _ (xU_cx z9) (by omega))), 
    (fun r9 z9 => (h.cy_ r9 z9).kept (hk _ (xU_cy z9) (by omega))), 
    (fun r9 z9 => (h.bt_ r9 z9).kept (hk _ (xU_bt z9) (by omega))), 
    (fun r9 z9 => (h.box_ r9 z9).kept (hk _ (xU_box z9) (by omega))), 
    (h.list_.kept (hk 3 (xU_6 (by decide)) (by omega)) (fun z8 => hk 6 (xU_l z8) (by omega))), 
    (fun r9 z9 => (h.board_ r9 z9).kept (hk _ (xU_board z9) (by omega))), 
    (fun r9 z9 => (h.fls_ r9 z9).kept (hk _ (xU_fls z9) (by omega)) (fun z8 => hk _ (xU_fld z9 z8) (by omega))), 
    (fun r9 z9 k9 y9 => (h.flt_ r9 z9 k9 y9).kept (hk _ (xU_flt z9 y9) (by omega))),
    (by rw [hs.2.1]; exact h.siz_), fun q9 z9 y9 => (hs.2.2 q9 (y9 _ hu)).trans (h.fr_ q9 z9 y9)⟩
set_option maxHeartbeats 1000000 in
theorem xCla.put_p0 {G : va_G} {ty : Nat → ClassId} {ad : Nat → Nat} {F R nb : Nat} {pl wi hi fa : Nat → UInt64} {un bu lo la : Nat → Int32} {cx cy bx : Nat → Nat → UInt64} {nf : Nat → Nat} {K0 H : Heap} {b0 : Nat} {H1 : Heap} {i j : Nat} {v : UInt64} (hi9 : i < R) (hj9 : j < F) (h : xCla G ty ad F R pl un cx cy bu nb wi hi nf fa lo la bx K0 H) (hw : xWf F R nb nf ad b0) (hs : xset G (ad (100 + 8 * i + j)) (.inr (4, [.double (v), .double (pAt pl j i 1), .double (pAt pl j i 2)])) H H1) : xCla G ty ad F R (vf_upd pl (3 * (8 * j + i) + 0) v) un cx cy bu nb wi hi nf fa lo la bx K0 H1 := by
  have hnf := hw.2.2.1
  have hnb := hw.2.1
  obtain ⟨⟨zF2, zF8⟩, ⟨zR2, zR8⟩⟩ := hw.1
  have hu : xU F R nb nf (100 + 8 * i + j) := xU_place hi9 hj9
  have hk := xKeep.of hw.2.2.2 hu hs
  exact ⟨(h.o_.kept (hk 0 (xU_6 (by decide)) (by omega))), 
    (h.rows_.kept (hk 1 (xU_6 (by decide)) (by omega))), 
    (h.strips_.kept (hk 2 (xU_6 (by decide)) (by omega))), 
    (h.near_.kept (hk 4 (xU_6 (by decide)) (by omega))), 
    (h.far_.kept (hk 5 (xU_6 (by decide)) (by omega))), 
    (fun r9 z9 => (h.row_ r9 z9).kept (hk _ (xU_row z9) (by omega))), 
    (fun r9 z9 => (h.parr_ r9 z9).kept (hk _ (xU_parr z9) (by omega))), 
    (fun r9 z9 f9 y9 => by
      by_cases e9 : r9 = i ∧ f9 = j
      · obtain ⟨rfl, rfl⟩ := e9
        have e0 := hs.1
        unfold pAt at e0 ⊢
        rw [vupd_s, vupd_n (i := 3 * (8 * f9 + r9) + 0) (j := 3 * (8 * f9 + r9) + 1) (by omega), vupd_n (i := 3 * (8 * f9 + r9) + 0) (j := 3 * (8 * f9 + r9) + 2) (by omega)]
        exact e0
      · have e0 := (h.place_ r9 z9 f9 y9).kept (hk _ (xU_place z9 y9) (by omega))
        unfold pAt at e0 ⊢
        rw [vupd_n (by omega), vupd_n (by omega), vupd_n (by omega)]
        exact e0), 
    (fun r9 z9 => (h.strip_ r9 z9).kept (hk _ (xU_strip z9) (by omega))), 
    (fun r9 z9 => (h.cx_ r9 z9).kept (hk _ (xU_cx z9) (by omega))), 
    (fun r9 z9 => (h.cy_ r9 z9).kept (hk _ (xU_cy z9) (by omega))), 
    (fun r9 z9 => (h.bt_ r9 z9).kept (hk _ (xU_bt z9) (by omega))), 
    (fun r9 z9 => (h.box_ r9 z9).kept (hk _ (xU_box z9) (by omega))), 
    (h.list_.kept (hk 3 (xU_6 (by decide)) (by omega)) (fun z8 => hk 6 (xU_l z8) (by omega))), 
    (fun r9 z9 => (h.board_ r9 z9).kept (hk _ (xU_board z9) (by omega))), 
    (fun r9 z9 => (h.fls_ r9 z9).kept (hk _ (xU_fls z9) (by omega)) (fun z8 => hk _ (xU_fld z9 z8) (by omega))), 
    (fun r9 z9 k9 y9 => (h.flt_ r9 z9 k9 y9).kept (hk _ (xU_flt z9 y9) (by omega))),
    (by rw [hs.2.1]; exact h.siz_), fun q9 z9 y9 => (hs.2.2 q9 (y9 _ hu)).trans (h.fr_ q9 z9 y9)⟩
set_option maxHeartbeats 1000000 in
theorem xCla.put_p1 {G : va_G} {ty : Nat → ClassId} {ad : Nat → Nat} {F R nb : Nat} {pl wi hi fa : Nat → UInt64} {un bu lo la : Nat → Int32} {cx cy bx : Nat → Nat → UInt64} {nf : Nat → Nat} {K0 H : Heap} {b0 : Nat} {H1 : Heap} {i j : Nat} {v : UInt64} (hi9 : i < R) (hj9 : j < F) (h : xCla G ty ad F R pl un cx cy bu nb wi hi nf fa lo la bx K0 H) (hw : xWf F R nb nf ad b0) (hs : xset G (ad (100 + 8 * i + j)) (.inr (4, [.double (pAt pl j i 0), .double (v), .double (pAt pl j i 2)])) H H1) : xCla G ty ad F R (vf_upd pl (3 * (8 * j + i) + 1) v) un cx cy bu nb wi hi nf fa lo la bx K0 H1 := by
  have hnf := hw.2.2.1
  have hnb := hw.2.1
  obtain ⟨⟨zF2, zF8⟩, ⟨zR2, zR8⟩⟩ := hw.1
  have hu : xU F R nb nf (100 + 8 * i + j) := xU_place hi9 hj9
  have hk := xKeep.of hw.2.2.2 hu hs
  exact ⟨(h.o_.kept (hk 0 (xU_6 (by decide)) (by omega))), 
    (h.rows_.kept (hk 1 (xU_6 (by decide)) (by omega))), 
    (h.strips_.kept (hk 2 (xU_6 (by decide)) (by omega))), 
    (h.near_.kept (hk 4 (xU_6 (by decide)) (by omega))), 
    (h.far_.kept (hk 5 (xU_6 (by decide)) (by omega))), 
    (fun r9 z9 => (h.row_ r9 z9).kept (hk _ (xU_row z9) (by omega))), 
    (fun r9 z9 => (h.parr_ r9 z9).kept (hk _ (xU_parr z9) (by omega))), 
    (fun r9 z9 f9 y9 => by
      by_cases e9 : r9 = i ∧ f9 = j
      · obtain ⟨rfl, rfl⟩ := e9
        have e0 := hs.1
        unfold pAt at e0 ⊢
        rw [vupd_n (i := 3 * (8 * f9 + r9) + 1) (j := 3 * (8 * f9 + r9) + 0) (by omega), vupd_s, vupd_n (i := 3 * (8 * f9 + r9) + 1) (j := 3 * (8 * f9 + r9) + 2) (by omega)]
        exact e0
      · have e0 := (h.place_ r9 z9 f9 y9).kept (hk _ (xU_place z9 y9) (by omega))
        unfold pAt at e0 ⊢
        rw [vupd_n (by omega), vupd_n (by omega), vupd_n (by omega)]
        exact e0), 
    (fun r9 z9 => (h.strip_ r9 z9).kept (hk _ (xU_strip z9) (by omega))), 
    (fun r9 z9 => (h.cx_ r9 z9).kept (hk _ (xU_cx z9) (by omega))), 
    (fun r9 z9 => (h.cy_ r9 z9).kept (hk _ (xU_cy z9) (by omega))), 
    (fun r9 z9 => (h.bt_ r9 z9).kept (hk _ (xU_bt z9) (by omega))), 
    (fun r9 z9 => (h.box_ r9 z9).kept (hk _ (xU_box z9) (by omega))), 
    (h.list_.kept (hk 3 (xU_6 (by decide)) (by omega)) (fun z8 => hk 6 (xU_l z8) (by omega))), 
    (fun r9 z9 => (h.board_ r9 z9).kept (hk _ (xU_board z9) (by omega))), 
    (fun r9 z9 => (h.fls_ r9 z9).kept (hk _ (xU_fls z9) (by omega)) (fun z8 => hk _ (xU_fld z9 z8) (by omega))), 
    (fun r9 z9 k9 y9 => (h.flt_ r9 z9 k9 y9).kept (hk _ (xU_flt z9 y9) (by omega))),
    (by rw [hs.2.1]; exact h.siz_), fun q9 z9 y9 => (hs.2.2 q9 (y9 _ hu)).trans (h.fr_ q9 z9 y9)⟩
set_option maxHeartbeats 1000000 in
theorem xCla.put_p2 {G : va_G} {ty : Nat → ClassId} {ad : Nat → Nat} {F R nb : Nat} {pl wi hi fa : Nat → UInt64} {un bu lo la : Nat → Int32} {cx cy bx : Nat → Nat → UInt64} {nf : Nat → Nat} {K0 H : Heap} {b0 : Nat} {H1 : Heap} {i j : Nat} {v : UInt64} (hi9 : i < R) (hj9 : j < F) (h : xCla G ty ad F R pl un cx cy bu nb wi hi nf fa lo la bx K0 H) (hw : xWf F R nb nf ad b0) (hs : xset G (ad (100 + 8 * i + j)) (.inr (4, [.double (pAt pl j i 0), .double (pAt pl j i 1), .double (v)])) H H1) : xCla G ty ad F R (vf_upd pl (3 * (8 * j + i) + 2) v) un cx cy bu nb wi hi nf fa lo la bx K0 H1 := by
  have hnf := hw.2.2.1
  have hnb := hw.2.1
  obtain ⟨⟨zF2, zF8⟩, ⟨zR2, zR8⟩⟩ := hw.1
  have hu : xU F R nb nf (100 + 8 * i + j) := xU_place hi9 hj9
  have hk := xKeep.of hw.2.2.2 hu hs
  exact ⟨(h.o_.kept (hk 0 (xU_6 (by decide)) (by omega))), 
    (h.rows_.kept (hk 1 (xU_6 (by decide)) (by omega))), 
    (h.strips_.kept (hk 2 (xU_6 (by decide)) (by omega))), 
    (h.near_.kept (hk 4 (xU_6 (by decide)) (by omega))), 
    (h.far_.kept (hk 5 (xU_6 (by decide)) (by omega))), 
    (fun r9 z9 => (h.row_ r9 z9).kept (hk _ (xU_row z9) (by omega))), 
    (fun r9 z9 => (h.parr_ r9 z9).kept (hk _ (xU_parr z9) (by omega))), 
    (fun r9 z9 f9 y9 => by
      by_cases e9 : r9 = i ∧ f9 = j
      · obtain ⟨rfl, rfl⟩ := e9
        have e0 := hs.1
        unfold pAt at e0 ⊢
        rw [vupd_n (i := 3 * (8 * f9 + r9) + 2) (j := 3 * (8 * f9 + r9) + 0) (by omega), vupd_n (i := 3 * (8 * f9 + r9) + 2) (j := 3 * (8 * f9 + r9) + 1) (by omega), vupd_s]
        exact e0
      · have e0 := (h.place_ r9 z9 f9 y9).kept (hk _ (xU_place z9 y9) (by omega))
        unfold pAt at e0 ⊢
        rw [vupd_n (by omega), vupd_n (by omega), vupd_n (by omega)]
        exact e0), 
    (fun r9 z9 => (h.strip_ r9 z9).kept (hk _ (xU_strip z9) (by omega))), 
    (fun r9 z9 => (h.cx_ r9 z9).kept (hk _ (xU_cx z9) (by omega))), 
    (fun r9 z9 => (h.cy_ r9 z9).kept (hk _ (xU_cy z9) (by omega))), 
    (fun r9 z9 => (h.bt_ r9 z9).kept (hk _ (xU_bt z9) (by omega))), 
    (fun r9 z9 => (h.box_ r9 z9).kept (hk _ (xU_box z9) (by omega))), 
    (h.list_.kept (hk 3 (xU_6 (by decide)) (by omega)) (fun z8 => hk 6 (xU_l z8) (by omega))), 
    (fun r9 z9 => (h.board_ r9 z9).kept (hk _ (xU_board z9) (by omega))), 
    (fun r9 z9 => (h.fls_ r9 z9).kept (hk _ (xU_fls z9) (by omega)) (fun z8 => hk _ (xU_fld z9 z8) (by omega))), 
    (fun r9 z9 k9 y9 => (h.flt_ r9 z9 k9 y9).kept (hk _ (xU_flt z9 y9) (by omega))),
    (by rw [hs.2.1]; exact h.siz_), fun q9 z9 y9 => (hs.2.2 q9 (y9 _ hu)).trans (h.fr_ q9 z9 y9)⟩
theorem xCla.re {G : va_G} {ty : Nat → ClassId} {ad : Nat → Nat} {F R nb : Nat} {pl wi hi fa : Nat → UInt64} {un bu lo la : Nat → Int32} {cx cy bx : Nat → Nat → UInt64} {nf : Nat → Nat} {K0 H : Heap} (h : xCla G ty ad F R pl un cx cy bu nb wi hi nf fa lo la bx K0 H) : xCla G ty ad F R pl un cx cy bu nb wi hi nf fa lo la bx H H := ⟨h.o_, h.rows_, h.strips_, h.near_, h.far_, h.row_, h.parr_, h.place_, h.strip_, h.cx_, h.cy_, h.bt_, h.box_, h.list_, h.board_, h.fls_, h.flt_, Nat.le_refl _, fun _ _ _ => rfl⟩
theorem xCla.tr {G : va_G} {ty : Nat → ClassId} {ad : Nat → Nat} {F R nb : Nat} {pl wi hi fa : Nat → UInt64} {un bu lo la : Nat → Int32} {cx cy bx : Nat → Nat → UInt64} {nf : Nat → Nat} {K0 H : Heap} {K9 : Heap} (h0 : K9.size ≤ K0.size) (h1 : ∀ q : Nat, q < K9.size → (∀ k : Nat, xU F R nb nf k → q ≠ ad k) → K0[q]? = K9[q]?) (h : xCla G ty ad F R pl un cx cy bu nb wi hi nf fa lo la bx K0 H) : xCla G ty ad F R pl un cx cy bu nb wi hi nf fa lo la bx K9 H := ⟨h.o_, h.rows_, h.strips_, h.near_, h.far_, h.row_, h.parr_, h.place_, h.strip_, h.cx_, h.cy_, h.bt_, h.box_, h.list_, h.board_, h.fls_, h.flt_, Nat.le_trans h0 h.siz_, fun q a b => (h.fr_ q (Nat.lt_of_lt_of_le a h0) b).trans (h1 q a b)⟩
