/-! THE LAW'S STATE: both objects beside each other, and the rows of one answer. -/
/-- a cell of the reference -/
def xM (m0 : Nat) (A : Nat → Nat) (q : Nat) : Prop := q = m0 ∨ ∃ i : Nat, i < 11 ∧ q = A i
/-- the addresses of the law's own -/
def xAo (b0 m0 : Nat) (A : Nat → Nat) (o1 o2 : Nat) : Prop := xAp m0 A ∧ xNw b0 m0 A ∧ b0 ≤ o1 ∧ b0 ≤ o2 ∧ o1 ≠ o2 ∧ ∀ q : Nat, xM m0 A q → q ≠ o1 ∧ q ≠ o2
/-- the class's half, the rows of one answer -/
def xT (G : va_G) (ty : Nat → ClassId) (b0 m0 : Nat) (A : Nat → Nat) (o1 o2 : Nat) (ad : Nat → Nat) (F R : Nat) (pl : Nat → UInt64) (un : Nat → Int32) (cx cy : Nat → Nat → UInt64) (bu : Nat → Int32) (nb : Nat) (wi hi : Nat → UInt64) (nf : Nat → Nat) (fa : Nat → UInt64) (lo la : Nat → Int32) (bx : Nat → Nat → UInt64) (f1 : Nat → Int64) (f2 : Nat → UInt64) (H : Heap) : Prop :=
  xWf F R nb nf ad b0 ∧ xCla G ty ad F R pl un cx cy bu nb wi hi nf fa lo la bx H H ∧ (∀ k : Nat, xU F R nb nf k → ¬ xM m0 A (ad k) ∧ ad k ≠ o1 ∧ ad k ≠ o2) ∧ xc G o1 (.inl (ty 3, 1, .inr (.inl f1))) H ∧ xc G o2 (.inl (ty 0, 1, .inr (.inr (.inr (.inl f2))))) H
section Beside
variable {G : va_G} {ty : Nat → ClassId} {b0 m0 o1 o2 : Nat} {A ad : Nat → Nat} {F R nb : Nat} {pl wi hi fa : Nat → UInt64} {un bu lo la : Nat → Int32} {cx cy bx : Nat → Nat → UInt64} {nf : Nat → Nat} {f1 : Nat → Int64} {f2 : Nat → UInt64} {K0 H H0 H1 : Heap}
variable {th : Int32} {nbr : Nat} {plr co dr wir hir far : Nat → UInt64} {unr bur fc lor lar : Nat → Int32} {px py pz : UInt64}
theorem xCla.kp (h : xCla G ty ad F R pl un cx cy bu nb wi hi nf fa lo la bx K0 H) (hk : ∀ k : Nat, xU F R nb nf k → H1[ad k]? = H[ad k]?) : xCla G ty ad F R pl un cx cy bu nb wi hi nf fa lo la bx H1 H1 :=
  ⟨h.o_.kept (hk 0 (xU_6 (by decide))), h.rows_.kept (hk 1 (xU_6 (by decide))), h.strips_.kept (hk 2 (xU_6 (by decide))), h.near_.kept (hk 4 (xU_6 (by decide))), h.far_.kept (hk 5 (xU_6 (by decide))), fun r z => (h.row_ r z).kept (hk _ (xU_row z)), fun r z => (h.parr_ r z).kept (hk _ (xU_parr z)), fun r z f y => (h.place_ r z f y).kept (hk _ (xU_place z y)), fun r z => (h.strip_ r z).kept (hk _ (xU_strip z)), fun r z => (h.cx_ r z).kept (hk _ (xU_cx z)), fun r z => (h.cy_ r z).kept (hk _ (xU_cy z)), fun r z => (h.bt_ r z).kept (hk _ (xU_bt z)), fun r z => (h.box_ r z).kept (hk _ (xU_box z)), h.list_.kept (hk 3 (xU_6 (by decide))) (fun z => hk 6 (xU_l z)), fun r z => (h.board_ r z).kept (hk _ (xU_board z)), fun r z => (h.fls_ r z).kept (hk _ (xU_fls z)) (fun y => hk _ (xU_fld z y)), fun r z k y => (h.flt_ r z k y).kept (hk _ (xU_flt z y)), Nat.le_refl _, fun _ _ _ => rfl⟩
theorem xRef.kp (h : xRef G ty m0 A th F R plr unr co dr bur nbr wir hir fc far lor lar px py pz H) (hk : ∀ q : Nat, xM m0 A q → H1[q]? = H[q]?) : xRef G ty m0 A th F R plr unr co dr bur nbr wir hir fc far lor lar px py pz H1 := by
  have ha : ∀ i : Nat, i < 11 → H1[A i]? = H[A i]? := fun i hi => hk _ (Or.inr ⟨i, hi, rfl⟩)
  obtain ⟨a, a0, a1, a2, a3, a4, a5, a6, a7, a8, a9, a10⟩ := h
  exact ⟨a.kept (hk _ (Or.inl rfl)), a0.kept (ha 0 (by decide)), a1.kept (ha 1 (by decide)), a2.kept (ha 2 (by decide)), a3.kept (ha 3 (by decide)), a4.kept (ha 4 (by decide)), a5.kept (ha 5 (by decide)), a6.kept (ha 6 (by decide)), a7.kept (ha 7 (by decide)), a8.kept (ha 8 (by decide)), a9.kept (ha 9 (by decide)), a10.kept (ha 10 (by decide))⟩
theorem xRef.lt (h : xRef G ty m0 A th F R plr unr co dr bur nbr wir hir fc far lor lar px py pz H) : ∀ q : Nat, xM m0 A q → q < H.size := by
  obtain ⟨a, a0, a1, a2, a3, a4, a5, a6, a7, a8, a9, a10⟩ := h
  rintro q (rfl | ⟨i, hi, rfl⟩)
  · exact a.lt
  · rcases (show i = 0 ∨ i = 1 ∨ i = 2 ∨ i = 3 ∨ i = 4 ∨ i = 5 ∨ i = 6 ∨ i = 7 ∨ i = 8 ∨ i = 9 ∨ i = 10 by omega) with rfl | rfl | rfl | rfl | rfl | rfl | rfl | rfl | rfl | rfl | rfl
    · exact a0.lt
    · exact a1.lt
    · exact a2.lt
    · exact a3.lt
    · exact a4.lt
    · exact a5.lt
    · exact a6.lt
    · exact a7.lt
    · exact a8.lt
    · exact a9.lt
    · exact a10.lt
section Keep
variable {ad1 : Nat → Nat} {nb1 : Nat} {pl1 wi1 hi1 fa1 : Nat → UInt64} {un1 bu1 lo1 la1 : Nat → Int32} {cx1 cy1 bx1 : Nat → Nat → UInt64} {nf1 : Nat → Nat}
/-- what the class leaves alone -/
theorem keepF (hO : xAo b0 m0 A o1 o2) (hT : xT G ty b0 m0 A o1 o2 ad F R pl un cx cy bu nb wi hi nf fa lo la bx f1 f2 H) (hY : xRef G ty m0 A th F R plr unr co dr bur nbr wir hir fc far lor lar px py pz H)
    (hX1 : xCla G ty ad1 F R pl1 un1 cx1 cy1 bu1 nb1 wi1 hi1 nf1 fa1 lo1 la1 bx1 H H0) (hU : ∀ k : Nat, xU F R nb1 nf1 k → (xU F R nb nf k ∧ ad1 k = ad k) ∨ H.size ≤ ad1 k) :
    (∀ q : Nat, xM m0 A q ∨ q = o1 ∨ q = o2 → H0[q]? = H[q]?) ∧ ∀ k : Nat, xU F R nb1 nf1 k → ¬ xM m0 A (ad1 k) ∧ ad1 k ≠ o1 ∧ ad1 k ≠ o2 := by
  obtain ⟨-, -, hap, h1, h2⟩ := hT
  have hlt : ∀ q : Nat, xM m0 A q ∨ q = o1 ∨ q = o2 → q < H.size := by
    rintro q (h | rfl | rfl)
    · exact hY.lt q h
    · exact h1.lt
    · exact h2.lt
  have hne : ∀ k : Nat, xU F R nb1 nf1 k → ∀ q : Nat, xM m0 A q ∨ q = o1 ∨ q = o2 → q ≠ ad1 k := by
    intro k hk q hq e
    subst e
    rcases hU k hk with ⟨h, e⟩ | h
    · obtain ⟨b1, b2, b3⟩ := hap k h
      rw [e] at hq
      rcases hq with h | h | h
      · exact b1 h
      · exact b2 h
      · exact b3 h
    · exact absurd (hlt _ hq) (Nat.not_lt.mpr h)
  exact ⟨fun q hq => hX1.fr_ q (hlt q hq) (fun k hk => hne k hk q hq), fun k hk => ⟨fun z => hne k hk _ (Or.inl z) rfl, fun z => hne k hk _ (Or.inr (Or.inl z)) rfl, fun z => hne k hk _ (Or.inr (Or.inr z)) rfl⟩⟩
/-- a whole number was answered -/
theorem keepL (hO : xAo b0 m0 A o1 o2) (hT : xT G ty b0 m0 A o1 o2 ad F R pl un cx cy bu nb wi hi nf fa lo la bx f1 f2 H) (hY : xRef G ty m0 A th F R plr unr co dr bur nbr wir hir fc far lor lar px py pz H)
    (hW1 : xWf F R nb1 nf1 ad1 b0) (hX1 : xCla G ty ad1 F R pl1 un1 cx1 cy1 bu1 nb1 wi1 hi1 nf1 fa1 lo1 la1 bx1 H H0) (hU : ∀ k : Nat, xU F R nb1 nf1 k → (xU F R nb nf k ∧ ad1 k = ad k) ∨ H.size ≤ ad1 k) {g1 : Nat → Int64} (hs : xset G o1 (.inl (ty 3, 1, .inr (.inl g1))) H0 H1) :
    xT G ty b0 m0 A o1 o2 ad1 F R pl1 un1 cx1 cy1 bu1 nb1 wi1 hi1 nf1 fa1 lo1 la1 bx1 g1 f2 H1 ∧ xRef G ty m0 A th F R plr unr co dr bur nbr wir hir fc far lor lar px py pz H1 := by
  obtain ⟨hk, ha⟩ := keepF hO hT hY hX1 hU
  obtain ⟨-, -, -, -, ho, hm⟩ := hO
  exact ⟨⟨hW1, hX1.kp (fun k z => hs.2.2 _ (ha k z).2.1), ha, hs.1, (hT.2.2.2.2.kept (hk _ (Or.inr (Or.inr rfl)))).kept (hs.2.2 _ (Ne.symm ho))⟩, hY.kp fun q z => (hs.2.2 _ (hm q z).1).trans (hk _ (Or.inl z))⟩
/-- a double was answered -/
theorem keepD (hO : xAo b0 m0 A o1 o2) (hT : xT G ty b0 m0 A o1 o2 ad F R pl un cx cy bu nb wi hi nf fa lo la bx f1 f2 H) (hY : xRef G ty m0 A th F R plr unr co dr bur nbr wir hir fc far lor lar px py pz H)
    (hW1 : xWf F R nb1 nf1 ad1 b0) (hX1 : xCla G ty ad1 F R pl1 un1 cx1 cy1 bu1 nb1 wi1 hi1 nf1 fa1 lo1 la1 bx1 H H0) (hU : ∀ k : Nat, xU F R nb1 nf1 k → (xU F R nb nf k ∧ ad1 k = ad k) ∨ H.size ≤ ad1 k) {g2 : Nat → UInt64} (hs : xset G o2 (.inl (ty 0, 1, .inr (.inr (.inr (.inl g2))))) H0 H1) :
    xT G ty b0 m0 A o1 o2 ad1 F R pl1 un1 cx1 cy1 bu1 nb1 wi1 hi1 nf1 fa1 lo1 la1 bx1 f1 g2 H1 ∧ xRef G ty m0 A th F R plr unr co dr bur nbr wir hir fc far lor lar px py pz H1 := by
  obtain ⟨hk, ha⟩ := keepF hO hT hY hX1 hU
  obtain ⟨-, -, -, -, ho, hm⟩ := hO
  exact ⟨⟨hW1, hX1.kp (fun k z => hs.2.2 _ (ha k z).2.2), ha, (hT.2.2.2.1.kept (hk _ (Or.inr (Or.inl rfl)))).kept (hs.2.2 _ ho), hs.1⟩, hY.kp fun q z => (hs.2.2 _ (hm q z).2).trans (hk _ (Or.inl z))⟩
theorem keepX (hT : xT G ty b0 m0 A o1 o2 ad F R pl un cx cy bu nb wi hi nf fa lo la bx f1 f2 H) (hY : xRef G ty m0 A th F R plr unr co dr bur nbr wir hir fc far lor lar px py pz H) (hx : xext H H1) :
    xT G ty b0 m0 A o1 o2 ad F R pl un cx cy bu nb wi hi nf fa lo la bx f1 f2 H1 ∧ xRef G ty m0 A th F R plr unr co dr bur nbr wir hir fc far lor lar px py pz H1 :=
  ⟨⟨hT.1, (hT.2.1.ext hx).re, hT.2.2.1, hT.2.2.2.1.ext hx, hT.2.2.2.2.ext hx⟩, hY.kp fun q z => hx q (hY.lt q z)⟩
theorem xRfr_kept (h : xRfr m0 A H H1) {q : Nat} (hq : ¬ xM m0 A q) : H1[q]? = H[q]? := h.2 q (fun e => hq (Or.inl e)) (fun i hi e => hq (Or.inr ⟨i, hi, e⟩))
/-- the reference leaves the class alone -/
theorem xT.kpR (hO : xAo b0 m0 A o1 o2) (hT : xT G ty b0 m0 A o1 o2 ad F R pl un cx cy bu nb wi hi nf fa lo la bx f1 f2 H) (h : xRfr m0 A H H1) : xT G ty b0 m0 A o1 o2 ad F R pl un cx cy bu nb wi hi nf fa lo la bx f1 f2 H1 := by
  obtain ⟨-, -, -, -, -, hm⟩ := hO
  exact ⟨hT.1, hT.2.1.kp fun k z => xRfr_kept h (hT.2.2.1 k z).1, hT.2.2.1, hT.2.2.2.1.kept (xRfr_kept h fun z => (hm _ z).1 rfl), hT.2.2.2.2.kept (xRfr_kept h fun z => (hm _ z).2 rfl)⟩
end Keep
theorem xRel.u {F R nb : Nat} {pl : Nat → UInt64} {un : Nat → Int32} {cx cy : Nat → Nat → UInt64} {wi : Nat → UInt64} {nf : Nat → Nat} {fa : Nat → UInt64} {lo la : Nat → Int32} {bx : Nat → Nat → UInt64} {un2 : Nat → Int32} {co : Nat → UInt64} {fc lo2 la2 : Nat → Int32} (h : xRel F R nb pl un cx cy wi nf fa lo la bx un2 co fc lo2 la2) {x : Int32} (hx : vp_in x (R - 1)) : un2 x.toNatClampNeg = 0 ↔ un x.toNatClampNeg = 0 := (h.2.1 _ (in_lt hx)).1
theorem same_U {F R nb : Nat} {nf ad : Nat → Nat} {n : Nat} : ∀ k : Nat, xU F R nb nf k → (xU F R nb nf k ∧ ad k = ad k) ∨ n ≤ ad k := fun _ hk => Or.inl ⟨hk, rfl⟩
/-- THE STATE between two operations: th is what the reference's last one told, f1 and f2 the rows of one answer -/
def xJ (G : va_G) (ty : Nat → ClassId) (b0 F R m0 : Nat) (A : Nat → Nat) (o1 o2 q0 : Nat) (th : Int32) (f1 : Nat → Int64) (f2 : Nat → UInt64) (H : Heap) : Prop :=
  ∃ (ad : Nat → Nat) (nb : Nat) (pl wi hi fa : Nat → UInt64) (un bu lo la : Nat → Int32) (cx cy bx : Nat → Nat → UInt64) (nf : Nat → Nat) (co dr : Nat → UInt64) (un2 fc lo2 la2 : Nat → Int32) (px py pz : UInt64), ad 0 = q0 ∧
    xT G ty b0 m0 A o1 o2 ad F R pl un cx cy bu nb wi hi nf fa lo la bx f1 f2 H ∧ xRef G ty m0 A th F R pl un2 co dr bu nb wi hi fc fa lo2 la2 px py pz H ∧ xRel F R nb pl un cx cy wi nf fa lo la bx un2 co fc lo2 la2
theorem xJ.mk {un2 lo2 la2 : Nat → Int32} {q0 : Nat} (hq : ad 0 = q0) (hT : xT G ty b0 m0 A o1 o2 ad F R pl un cx cy bu nb wi hi nf fa lo la bx f1 f2 H) (hY : xRef G ty m0 A th F R pl un2 co dr bu nb wi hi fc fa lo2 la2 px py pz H) (hR : xRel F R nb pl un cx cy wi nf fa lo la bx un2 co fc lo2 la2) : xJ G ty b0 F R m0 A o1 o2 q0 th f1 f2 H :=
  ⟨ad, nb, pl, wi, hi, fa, un, bu, lo, la, cx, cy, bx, nf, co, dr, un2, fc, lo2, la2, px, py, pz, hq, hT, hY, hR⟩
end Beside
