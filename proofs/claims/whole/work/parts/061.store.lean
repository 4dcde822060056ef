/-! ARRAY STORES BY PLACES, a place as a natural number. -/
section XStore
variable {p : Program} {l : Launch} {e : Env} {R : Room} {s : State} {m : MethodId} {args : Array Value} {below : List Frame} {meth : Method} {c : Code} {H : Heap} {locs : List Loc} {cells slots : Nat} {Q : State → Prop}
variable {cc : ByteArray} {pc : Nat} {ls : Array Slot} {rest : List Value} {G : va_G} {tys : List (ClassId × FieldType)} {a b0 n j : Nat} {H0 : Heap} {cA : ClassId} {i : Int32}
theorem xdastN (hexec : p.tables.exec = Jvm.exec) (hb : c.code = cc) (hK : va_K G vwCl tys s) (t0 : Nat) {f : Nat → UInt64} (hP : xc G a (.inl (cA, n, .inr (.inr (.inr (.inl f))))) H) (hS : va_S (xA b0) H0 H locs) (ha : b0 ≤ a) (ht : tys[t0]? = some (cA, .double)) {x : UInt64} (hi : xix i j n) (hdg : decode cc pc = .ok (.dastore, 1))
    (kk : ∀ (H1 : Heap) (locs1 : List Loc), xset G a (.inl (cA, n, .inr (.inr (.inr (.inl (vf_upd f j x)))))) H H1 → va_S (xA b0) H0 H1 locs1 → W p l e R s m args below meth c H1 locs1 cells slots Q (F0 m (pc + 1) ls rest)) : W p l e R s m args below meth c H locs cells slots Q (F0 m pc ls (.double x :: .int i :: .ref a :: rest)) :=
  xdast hexec hb hK t0 hP hS ha ht hi.1 hdg fun H1 l1 h => kk H1 l1 (by rw [hi.2] at h; exact h)
theorem xiastN (hexec : p.tables.exec = Jvm.exec) (hb : c.code = cc) (hK : va_K G vwCl tys s) (t0 : Nat) {f : Nat → Int32} (hP : xc G a (.inl (cA, n, .inl f)) H) (hS : va_S (xA b0) H0 H locs) (ha : b0 ≤ a) (ht : tys[t0]? = some (cA, .int)) {x : Int32} (hi : xix i j n) (hdg : decode cc pc = .ok (.iastore, 1))
    (kk : ∀ (H1 : Heap) (locs1 : List Loc), xset G a (.inl (cA, n, .inl (upd f j x))) H H1 → va_S (xA b0) H0 H1 locs1 → W p l e R s m args below meth c H1 locs1 cells slots Q (F0 m (pc + 1) ls rest)) : W p l e R s m args below meth c H locs cells slots Q (F0 m pc ls (.int x :: .int i :: .ref a :: rest)) :=
  xiast hexec hb hK t0 hP hS ha ht hi.1 hdg fun H1 l1 h => kk H1 l1 (by rw [hi.2] at h; exact h)
theorem xzastN (hexec : p.tables.exec = Jvm.exec) (hb : c.code = cc) (hK : va_K G vwCl tys s) (t0 : Nat) {f : Nat → Int32} (hP : xc G a (.inl (cA, n, .inl f)) H) (hS : va_S (xA b0) H0 H locs) (ha : b0 ≤ a) (ht : tys[t0]? = some (cA, .boolean)) {x : Int32} (hi : xix i j n) (hz : vp_nar .boolean x = x) (hdg : decode cc pc = .ok (.bastore, 1))
    (kk : ∀ (H1 : Heap) (locs1 : List Loc), xset G a (.inl (cA, n, .inl (upd f j x))) H H1 → va_S (xA b0) H0 H1 locs1 → W p l e R s m args below meth c H1 locs1 cells slots Q (F0 m (pc + 1) ls rest)) : W p l e R s m args below meth c H locs cells slots Q (F0 m pc ls (.int x :: .int i :: .ref a :: rest)) :=
  xzast hexec hb hK t0 hP hS ha ht hi.1 hdg fun H1 l1 h => kk H1 l1 (by rw [hi.2, hz] at h; exact h)
theorem xlastN (hexec : p.tables.exec = Jvm.exec) (hb : c.code = cc) (hK : va_K G vwCl tys s) (t0 : Nat) {f : Nat → Int64} (hP : xc G a (.inl (cA, n, .inr (.inl f))) H) (hS : va_S (xA b0) H0 H locs) (ha : b0 ≤ a) (ht : tys[t0]? = some (cA, .long)) {x : Int64} (hi : xix i j n) (hdg : decode cc pc = .ok (.lastore, 1))
    (kk : ∀ (H1 : Heap) (locs1 : List Loc), xset G a (.inl (cA, n, .inr (.inl (vp_updL f j x)))) H H1 → va_S (xA b0) H0 H1 locs1 → W p l e R s m args below meth c H1 locs1 cells slots Q (F0 m (pc + 1) ls rest)) : W p l e R s m args below meth c H locs cells slots Q (F0 m pc ls (.long x :: .int i :: .ref a :: rest)) :=
  xlast hexec hb hK t0 hP hS ha ht hi.1 hdg fun H1 l1 h => kk H1 l1 (by rw [hi.2] at h; exact h)
end XStore
theorem nN_nI {j : Nat} (h : j < 2 ^ 31) : (nI j).toNatClampNeg = j := nI_clamp h
theorem zNar0 : vp_nar .boolean (nI 0) = nI 0 := by decide
theorem zNar1 : vp_nar .boolean (nI 1) = nI 1 := by decide
theorem zNar {x : Int32} (h : x = 0 ∨ x = 1) : vp_nar .boolean x = x := by rcases h with rfl | rfl <;> decide
/-- the same heap but for the reference's cells -/
def xRfr (m0 : Nat) (A : Nat → Nat) (H H1 : Heap) : Prop := H1.size = H.size ∧ ∀ q : Nat, q ≠ m0 → (∀ i : Nat, i < 11 → q ≠ A i) → H1[q]? = H[q]?
theorem xRfr.rf {m0 : Nat} {A : Nat → Nat} {H : Heap} : xRfr m0 A H H := ⟨rfl, fun _ _ _ => rfl⟩
theorem xRfr.put0 {G : va_G} {m0 : Nat} {A : Nat → Nat} {e : va_E} {H H1 H2 : Heap} (h : xRfr m0 A H H1) (h2 : xset G m0 e H1 H2) : xRfr m0 A H H2 := ⟨h2.2.1.trans h.1, fun q a b => (h2.2.2 q a).trans (h.2 q a b)⟩
theorem xRfr.putA {G : va_G} {m0 : Nat} {A : Nat → Nat} {e : va_E} {H H1 H2 : Heap} (h : xRfr m0 A H H1) (i : Nat) (hi : i < 11) (h2 : xset G (A i) e H1 H2) : xRfr m0 A H H2 := ⟨h2.2.1.trans h.1, fun q a b => (h2.2.2 q (b i hi)).trans (h.2 q a b)⟩
theorem xRfr.tr {m0 : Nat} {A : Nat → Nat} {H H1 H2 : Heap} (h : xRfr m0 A H H1) (h2 : xRfr m0 A H1 H2) : xRfr m0 A H H2 := ⟨h2.1.trans h.1, fun q a b => (h2.2 q a b).trans (h.2 q a b)⟩
/-- the reference's addresses are apart, and new -/
def xAp (m0 : Nat) (A : Nat → Nat) : Prop := (∀ i : Nat, i < 11 → A i ≠ m0) ∧ ∀ i j : Nat, i < 11 → j < 11 → A i = A j → i = j
def xNw (b0 m0 : Nat) (A : Nat → Nat) : Prop := b0 ≤ m0 ∧ ∀ i : Nat, i < 11 → b0 ≤ A i
