/-! THE LAW: what its cases stand on. -/
theorem in_L_law_X6 : ∀ w ∈ wsX60, w ∈ wsL_law := inlX6
theorem in_L_law_X7 : ∀ w ∈ wsX70, w ∈ wsL_law := inlX7
abbrev rm_L_law : Room := room_1
theorem lg_self (x : Int64) : lg_cmp x x = 0 := by unfold lg_cmp; simp
theorem xeq_nan {a : UInt64} (h : xv a = .nan) : xeq a a = false := by
  cases e : xeq a a with
  | false => rfl
  | true => exact absurd h (xeq_iff.mp e).1
theorem pSame_no1 {a z : UInt64} (h : pSame a z) (h1 : xeq a z = false) (h2 : xeq a a = true) : False := by
  rcases h with h | ⟨h, -⟩
  · rw [h] at h1; cases h1
  · rw [xeq_nan h] at h2; cases h2
theorem pSame_no2 {a z : UInt64} (h : pSame a z) (h1 : xeq a z = false) (h2 : xeq z z = true) : False := by
  rcases h with h | ⟨-, h⟩
  · rw [h] at h1; cases h1
  · rw [xeq_nan h] at h2; cases h2
theorem staves_all (n m : Int32) : ∃ N f9 : Nat,
    (pStav (xE n) (xE m) = true → 1 ≤ N ∧ N < 2 ^ 30 ∧ (∀ k : Nat, 1 ≤ k → k < N → xlt (FP.dmul (FP.i2d (nI k)) (xE n)) (FP.dmul (xE m) 4614256656552045848) = true) ∧ xlt (FP.dmul (FP.i2d (nI N)) (xE n)) (FP.dmul (xE m) 4614256656552045848) = false) ∧
    (pStav (xE n) (xE m) = true → (if nI 1 < FP.d2i (FP.ddiv (FP.dmul (xE m) 4614256656552045848) (xE n)) - nI 2 then FP.d2i (FP.ddiv (FP.dmul (xE m) 4614256656552045848) (xE n)) - nI 2 else nI 1) = nI f9 ∧ 1 ≤ f9 ∧ f9 ≤ N ∧ N < 100000 ∧ (∀ k : Nat, f9 ≤ k → k < N → xge (FP.dmul (FP.i2d (nI k)) (xE n)) (FP.dmul (xE m) 4614256656552045848) = false) ∧ xge (FP.dmul (FP.i2d (nI N)) (xE n)) (FP.dmul (xE m) 4614256656552045848) = true) := by
  by_cases h : pStav (xE n) (xE m) = true
  · obtain ⟨N, f9, h1, h2⟩ := staves_ok n m h
    exact ⟨N, f9, fun _ => h1, fun _ => h2⟩
  · exact ⟨0, 0, fun z => absurd z h, fun z => absurd z h⟩
section LawRows
variable {p : Program} {l : Launch} {e : Env} {R : Room} {s : State} {m : MethodId} {args : Array Value} {below : List Frame} {meth : Method} {c : Code} {H : Heap} {locs : List Loc} {cells slots : Nat} {Q : State → Prop} {d0 : Drawn} {cc : ByteArray} {pc : Nat} {ls : Array Slot} {rest : List Value} {b0 b L j : Nat} {xs : Nat → Int32}
theorem xsld (hexec : p.tables.exec = Jvm.exec) (hb : c.code = cc) (hX : va_X b L xs s s.heap) (hbl : b < s.heap.size) (hbA : ¬ xA b0 b) (hS : va_S (xA b0) s.heap H locs) (hL : L ≤ 3074) (hj : j < L) (hdg : decode cc pc = .ok (.iaload, 1))
    (kk : W p l e R (s.setDrawn d0) m args below meth c H locs cells slots Q (F0 m (pc + 1) ls (.int (xs j) :: rest))) : W p l e R (s.setDrawn d0) m args below meth c H locs cells slots Q (F0 m pc ls (.int (nI j) :: .ref b :: rest)) :=
  va_sld (s := s.setDrawn d0) (H0 := s.heap) hexec hb (va_X.moved (u := s) (Vm.Alike.refl _) hX) hbl hbA hS (vp_in_nI hj (by omega)) hdg (by rw [nI_clamp (by omega)]; exact kk)
end LawRows
/-- what every piece of the law stands on -/
def lwC (p : Program) (s : State) (m : MethodId) (c : Code) (b L : Nat) (xs : Nat → Int32) (G : va_G) (ty : Nat → ClassId) (b0 : Nat) : Prop :=
  p.tables.exec = Jvm.exec ∧ c.code = cL_law ∧ c.maxLocals = 9 ∧ s.vm.findClass RL = some m.cls ∧ (∀ w ∈ wsL_law, w.before #[Value.ref b] s = true) ∧ va_X b L xs s s.heap ∧ b < s.heap.size ∧ ¬ xA b0 b ∧ L ≤ 3074 ∧ xK G ty b0 s ∧ b0 ≤ s.heap.size
