/-! NEW CELLS; references in rows; Object's beginning; the list's own static. -/
section XAlloc
variable {p : Program} {l : Launch} {e : Env} {R : Room} {s : State} {m : MethodId} {args : Array Value} {below : List Frame} {meth : Method} {c : Code} {H : Heap} {locs : List Loc} {cells slots : Nat} {Q : State → Prop}
variable {cc : ByteArray} {pc : Nat} {ls : Array Slot} {rest : List Value} {G : va_G} {tys : List (ClassId × FieldType)} {a b0 n j : Nat} {H0 : Heap} {cA : ClassId} {i : Int32} {ty : Nat → ClassId} {d0 : Drawn}
/-- the heap H1 is H and one new cell, at q -/
def xgrow (G : va_G) (q : Nat) (e : va_E) (H H1 : Heap) : Prop := xc G q e H1 ∧ H.size = q ∧ H1.size = q + 1 ∧ ∀ x : Nat, x < q → H1[x]? = H[x]?
theorem xgrow.keep {q a : Nat} {e e2 : va_E} {H H1 : Heap} (h : xgrow G q e H H1) (h2 : xc G a e2 H) : xc G a e2 H1 := h2.kept (h.2.2.2 a (by have := h2.lt; rw [h.2.1] at this; exact this))
theorem xgrow.ne {q a : Nat} {e e2 : va_E} {H H1 : Heap} (h : xgrow G q e H H1) (h2 : xc G a e2 H) : a ≠ q := by
  have := h2.lt
  rw [h.2.1] at this
  exact Nat.ne_of_lt this
theorem xgrow.S {q : Nat} {e : va_E} {H H1 : Heap} {A : Nat → Prop} (h : xgrow G q e H H1) (hS : va_S A H0 H locs) : va_S A H0 H1 locs :=
  ⟨Nat.le_trans hS.1 (by rw [h.2.1, h.2.2.1]; omega), fun x h1 h2 => (h.2.2.2 x (by have := hS.1; rw [h.2.1] at this; omega)).trans (hS.2.1 x h1 h2), hS.2.2⟩
/-- an object is made -/
theorem xnew {own C : String} {T : u_T} {N ci index : Nat} {Ts : List Cond} (hexec : p.tables.exec = Jvm.exec) (hb : c.code = cc) (hts : ∀ w ∈ Ts, w.before args s = true) (hin : ∀ w ∈ u_ws C T N, w ∈ Ts) (ty0 : Nat → FieldType) (hty : ∀ k, k < N → parseFieldDescriptor (T k).2.2.1 = some (ty0 k)) (hown : s.vm.findClass own = some m.cls) (hcl : (Cond.classLink own index C).before args s = true) (hinst : (Cond.instantiable C N).before args s = true) (hini : (Cond.initialized C).before args s = true)
    (hK : va_K G vwCl tys s) (hS : va_S (xA b0) H0 H locs) (hc : vwCl[ci]? = some (C, T, N)) {fs : List Value} (hfs : ∀ j, j < N → defaultValue (ty0 j) = vp_V fs j) (hcells : cells + 1 ≤ R.cells) (hslots : slots + N ≤ R.slots) (hdg : decode cc pc = .ok (.new index, 3))
    (kk : ∀ (q : Nat) (H1 : Heap), xgrow G q (.inr (ci, fs)) H H1 → va_S (xA b0) H0 H1 locs → W p l e R s m args below meth c H1 locs (cells + 1) (slots + N) Q (F0 m (pc + 3) ls (.ref q :: rest))) : W p l e R s m args below meth c H locs cells slots Q (F0 m pc ls rest) := by
  have hKn := hK.1 ci _ hc
  refine W.newcK hexec hb hown hcl hinst hini rfl hdg hcells hslots hKn.2.1 rfl fun H1 kC hkC e1 z1 o1 => ?_
  have hg : xgrow G H.size (.inr (ci, fs)) H H1 := ⟨⟨_, hc, (u_born ty0 hts hin hKn hkC e1 hty).to hfs⟩, rfl, z1, o1⟩
  exact kk H.size H1 hg (hg.S hS)
theorem xnewa0 (hexec : p.tables.exec = Jvm.exec) (hb : c.code = cc) {atype : ArrayType} (harr : (Cond.arrayClass (newarray.typeOf atype)).before args s = true) (hK : va_K G vwCl tys s) {cB : ClassId} (t0 : Nat) (ht : tys[t0]? = some (cB, newarray.typeOf atype)) (hR : va_RA s cB (newarray.typeOf atype) → s.vm.findClass ("[" ++ (newarray.typeOf atype).toString) = some cB) (hS : va_S (xA b0) H0 H locs)
    {N : Nat} {a0 : vp_A} (ha : ∀ cA : ClassId, vp_cell cA a0 = arrV cA N (fun _ => defaultValue (newarray.typeOf atype))) (hN : N < 2 ^ 20) (hb8 : componentBytes (newarray.typeOf atype) ≤ 8) (hcells : cells + 1 ≤ R.cells) (hslots : slots + N ≤ R.slots) (hdg : decode cc pc = .ok (.newarray atype, 2))
    (kk : ∀ (q : Nat) (H1 : Heap), xgrow G q (.inl (cB, a0)) H H1 → va_S (xA b0) H0 H1 locs → W p l e R s m args below meth c H1 locs (cells + 1) (slots + N) Q (F0 m (pc + 2) ls (.ref q :: rest))) : W p l e R s m args below meth c H locs cells slots Q (F0 m pc ls (.int (nI N) :: rest)) := by
  refine va_newaK hexec hb harr rfl hdg rfl (nI_pos (by omega)) (nI_clamp (by omega)) (Nat.le_trans (Nat.mul_le_mul (Nat.le_of_lt hN) hb8) (Nat.le_of_ble_eq_true rfl)) hcells hslots rfl fun H1 cA e1 z1 o1 hAr hNm => ?_
  have hcA : cA = cB := Option.some.inj (hNm.symm.trans (hR (hK.2 t0 _ ht).2))
  subst hcA
  have hg : xgrow G H.size (.inl (cA, a0)) H H1 := ⟨by show H1[H.size]? = some (vp_cell _ _); rw [ha]; exact e1, rfl, z1, o1⟩
  exact kk H.size H1 hg (hg.S hS)
theorem xnewaD (hexec : p.tables.exec = Jvm.exec) (hb : c.code = cc) (harr : (Cond.arrayClass .double).before args s = true) (hK : va_K G vwCl tys s) {cB : ClassId} (t0 : Nat) (ht : tys[t0]? = some (cB, .double)) (hS : va_S (xA b0) H0 H locs) {N : Nat} (hN : N < 2 ^ 20) (hcells : cells + 1 ≤ R.cells) (hslots : slots + N ≤ R.slots) (hdg : decode cc pc = .ok (.newarray .double, 2))
    (kk : ∀ (q : Nat) (H1 : Heap), xgrow G q (.inl (cB, N, .inr (.inr (.inr (.inl (fun _ => FP.dconst0)))))) H H1 → va_S (xA b0) H0 H1 locs → W p l e R s m args below meth c H1 locs (cells + 1) (slots + N) Q (F0 m (pc + 2) ls (.ref q :: rest))) : W p l e R s m args below meth c H locs cells slots Q (F0 m pc ls (.int (nI N) :: rest)) :=
  xnewa0 (atype := .double) hexec hb harr hK t0 ht (fun h => h) hS (a0 := (N, .inr (.inr (.inr (.inl (fun _ => FP.dconst0)))))) (fun cA => rfl) hN (by decide) hcells hslots hdg kk
theorem xnewaI (hexec : p.tables.exec = Jvm.exec) (hb : c.code = cc) (harr : (Cond.arrayClass .int).before args s = true) (hK : va_K G vwCl tys s) {cB : ClassId} (t0 : Nat) (ht : tys[t0]? = some (cB, .int)) (hS : va_S (xA b0) H0 H locs) {N : Nat} (hN : N < 2 ^ 20) (hcells : cells + 1 ≤ R.cells) (hslots : slots + N ≤ R.slots) (hdg : decode cc pc = .ok (.newarray .int, 2))
    (kk : ∀ (q : Nat) (H1 : Heap), xgrow G q (.inl (cB, N, .inl (fun _ => nI 0))) H H1 → va_S (xA b0) H0 H1 locs → W p l e R s m args below meth c H1 locs (cells + 1) (slots + N) Q (F0 m (pc + 2) ls (.ref q :: rest))) : W p l e R s m args below meth c H locs cells slots Q (F0 m pc ls (.int (nI N) :: rest)) :=
  xnewa0 (atype := .int) hexec hb harr hK t0 ht (fun h => h) hS (a0 := (N, .inl (fun _ => nI 0))) (fun cA => rfl) hN (by decide) hcells hslots hdg kk
theorem xnewaZ (hexec : p.tables.exec = Jvm.exec) (hb : c.code = cc) (harr : (Cond.arrayClass .boolean).before args s = true) (hK : va_K G vwCl tys s) {cB : ClassId} (t0 : Nat) (ht : tys[t0]? = some (cB, .boolean)) (hS : va_S (xA b0) H0 H locs) {N : Nat} (hN : N < 2 ^ 20) (hcells : cells + 1 ≤ R.cells) (hslots : slots + N ≤ R.slots) (hdg : decode cc pc = .ok (.newarray .boolean, 2))
    (kk : ∀ (q : Nat) (H1 : Heap), xgrow G q (.inl (cB, N, .inl (fun _ => nI 0))) H H1 → va_S (xA b0) H0 H1 locs → W p l e R s m args below meth c H1 locs (cells + 1) (slots + N) Q (F0 m (pc + 2) ls (.ref q :: rest))) : W p l e R s m args below meth c H locs cells slots Q (F0 m pc ls (.int (nI N) :: rest)) :=
  xnewa0 (atype := .boolean) hexec hb harr hK t0 ht (fun h => h) hS (a0 := (N, .inl (fun _ => nI 0))) (fun cA => rfl) hN (by decide) hcells hslots hdg kk
theorem xnewaL (hexec : p.tables.exec = Jvm.exec) (hb : c.code = cc) (harr : (Cond.arrayClass .long).before args s = true) (hK : va_K G vwCl tys s) {cB : ClassId} (t0 : Nat) (ht : tys[t0]? = some (cB, .long)) (hS : va_S (xA b0) H0 H locs) {N : Nat} (hN : N < 2 ^ 20) (hcells : cells + 1 ≤ R.cells) (hslots : slots + N ≤ R.slots) (hdg : decode cc pc = .ok (.newarray .long, 2))
    (kk : ∀ (q : Nat) (H1 : Heap), xgrow G q (.inl (cB, N, .inr (.inl (fun _ => (0 : Int64))))) H H1 → va_S (xA b0) H0 H1 locs → W p l e R s m args below meth c H1 locs (cells + 1) (slots + N) Q (F0 m (pc + 2) ls (.ref q :: rest))) : W p l e R s m args below meth c H locs cells slots Q (F0 m pc ls (.int (nI N) :: rest)) :=
  xnewa0 (atype := .long) hexec hb harr hK t0 ht (fun h => h) hS (a0 := (N, .inr (.inl (fun _ => (0 : Int64))))) (fun cA => rfl) hN (by decide) hcells hslots hdg kk
/-- a row of references is made -/
theorem xnewq (hexec : p.tables.exec = Jvm.exec) (hb : c.code = cc) {own C : String} {index : Nat} (hown : s.vm.findClass own = some m.cls) (hclink : (Cond.classLink own index C).before args s = true) (hover : va_AO C s) (hK : va_K G vwCl tys s) {cB : ClassId} (t0 : Nat) (ht : tys[t0]? = some (cB, .object C)) (hS : va_S (xA b0) H0 H locs)
    {N : Nat} (hN : N < 2 ^ 20) (hcells : cells + 1 ≤ R.cells) (hslots : slots + N ≤ R.slots) (hdg : decode cc pc = .ok (.anewarray index, 3))
    (kk : ∀ (q : Nat) (H1 : Heap), xgrow G q (.inl (cB, N, .inr (.inr (.inr (.inr (fun _ => none)))))) H H1 → va_S (xA b0) H0 H1 locs → W p l e R s m args below meth c H1 locs (cells + 1) (slots + N) Q (F0 m (pc + 3) ls (.ref q :: rest))) : W p l e R s m args below meth c H locs cells slots Q (F0 m pc ls (.int (nI N) :: rest)) := by
  have hc : (nI N).toNatClampNeg = N := nI_clamp (by omega)
  refine W.anew hexec hb hown hclink (va_AO.use hover) rfl hdg rfl (nI_pos (by omega)) (by rw [hc]; omega) hcells (by rw [hc]; exact hslots) fun cA kA comp f1 f2 f3 f4 => ?_
  rw [hc]
  obtain ⟨kA', comp', g1, g2, g3, g4⟩ := (hK.2 t0 _ ht).2
  have hcA : cA = cB := Option.some.inj (f1.symm.trans g4)
  subst hcA
  generalize hH1 : H.push ({ cls := cA, slots := Array.replicate N .null, vm := .none } : Cell) = H1
  have hg : xgrow G H.size (.inl (cA, N, .inr (.inr (.inr (.inr (fun _ => none)))))) H H1 := by
    refine ⟨?_, rfl, by rw [← hH1, Array.size_push], fun q hq => by rw [← hH1, Array.getElem?_push, if_neg (Nat.ne_of_lt hq)]⟩
    show H1[H.size]? = some (vp_cell _ _)
    rw [← hH1, Array.getElem?_push_size, vp_cell_q, ← arrV_new]
    rfl
  exact kk H.size H1 hg (hg.S hS)
/-- a reference into a row of its own class -/
theorem xaast (hexec : p.tables.exec = Jvm.exec) (hb : c.code = cc) (hK : va_K G vwCl tys s) (t0 ci : Nat) {v : Nat} {vs : List Value} {r : vw_C} {f : Nat → Option Nat} (hP : xc G a (.inl (cA, n, .inr (.inr (.inr (.inr f))))) H) (hV : xc G v (.inr (ci, vs)) H) (hS : va_S (xA b0) H0 H locs) (ha : b0 ≤ a) (ht : tys[t0]? = some (cA, .object r.1)) (hc : vwCl[ci]? = some r) (hi : xix i j n) (hdg : decode cc pc = .ok (.aastore, 1))
    (kk : ∀ (H1 : Heap) (locs1 : List Loc), xset G a (.inl (cA, n, .inr (.inr (.inr (.inr (va_up f j (some v))))))) H H1 → va_S (xA b0) H0 H1 locs1 → W p l e R s m args below meth c H1 locs1 cells slots Q (F0 m (pc + 1) ls rest)) : W p l e R s m args below meth c H locs cells slots Q (F0 m pc ls (.ref v :: .int i :: .ref a :: rest)) := by
  obtain ⟨hin, rfl⟩ := hi
  have hlt : i.toNatClampNeg < n := Nat.not_le.mp fun q => hin (Or.inr q)
  have h0 : ¬ i < 0 := fun q => hin (Or.inl q)
  obtain ⟨r', hr', cellV, g1, g2, g3, -⟩ := hV
  have hcls := (hK.1 ci r hc).2
  obtain ⟨kA, comp, k1, k2, k3, -⟩ := (hK.2 t0 _ ht).2
  have hcomp : comp = G.1 ci := Option.some.inj (k3.symm.trans hcls.1)
  subst hcomp
  obtain ⟨kC, hkC, -⟩ := hcls.2
  refine W.aast hexec hb hP (fun q h => by cases h) (fun h => by cases h) k1 k2 rfl hkC ⟨h0, by show _ < (arrV _ _ _).slots.size; rw [arrV_size]; exact hlt⟩ g1 (fun q h => by rw [g3] at h; cases h) (by rw [g2]; exact hkC) (by rw [g2]; exact va_assign hcls) rfl rfl hdg fun H1 e z oq => ?_
  refine kk H1 _ ⟨?_, z, oq⟩ (hS.put z oq ha)
  show H1[a]? = some (vp_cell _ _)
  rw [e]
  rw [vp_cell_q, vp_cell_q, arrV_store]
  congr 2
  funext q
  by_cases hq : q = i.toNatClampNeg
  · subst hq
    simp [updV, va_up, va_rf]
  · simp [updV, va_up, hq]
/-- a reference into a row of a wider class -/
theorem xaastO (hexec : p.tables.exec = Jvm.exec) (hb : c.code = cc) (hK : va_K G vwCl tys s) (t0 : Nat) {v : Nat} {E : String} {f : Nat → Option Nat} (hP : xc G a (.inl (cA, n, .inr (.inr (.inr (.inr f))))) H) (hr : va_Any E s H v) (hS : va_S (xA b0) H0 H locs) (ha : b0 ≤ a) (ht : tys[t0]? = some (cA, .object E)) (hi : xix i j n) (hdg : decode cc pc = .ok (.aastore, 1))
    (kk : ∀ (H1 : Heap) (locs1 : List Loc), xset G a (.inl (cA, n, .inr (.inr (.inr (.inr (va_up f j (some v))))))) H H1 → va_S (xA b0) H0 H1 locs1 → W p l e R s m args below meth c H1 locs1 cells slots Q (F0 m (pc + 1) ls rest)) : W p l e R s m args below meth c H locs cells slots Q (F0 m pc ls (.ref v :: .int i :: .ref a :: rest)) := by
  obtain ⟨hin, rfl⟩ := hi
  have hlt : i.toNatClampNeg < n := Nat.not_le.mp fun q => hin (Or.inr q)
  have h0 : ¬ i < 0 := fun q => hin (Or.inl q)
  obtain ⟨cellV, g1, g3, ⟨kC, hkC⟩, hasg⟩ := hr
  obtain ⟨kA, comp, k1, k2, k3, -⟩ := (hK.2 t0 _ ht).2
  obtain ⟨kE, hkE, -⟩ := Vm.findClass_spec k3
  refine W.aast hexec hb hP (fun q h => by cases h) (fun h => by cases h) k1 k2 rfl hkE ⟨h0, by show _ < (arrV _ _ _).slots.size; rw [arrV_size]; exact hlt⟩ g1 (fun q h => by rw [h] at g3; cases g3) hkC (hasg _ k3) rfl rfl hdg fun H1 e z oq => ?_
  refine kk H1 _ ⟨?_, z, oq⟩ (hS.put z oq ha)
  show H1[a]? = some (vp_cell _ _)
  rw [e]
  rw [vp_cell_q, vp_cell_q, arrV_store]
  congr 2
  funext q
  by_cases hq : q = i.toNatClampNeg
  · subst hq
    simp [updV, va_up, va_rf]
  · simp [updV, va_up, hq]
theorem xAny {v ci : Nat} {vs : List Value} {r : vw_C} (hK : va_K G vwCl tys s) (hV : xc G v (.inr (ci, vs)) H) (hc : vwCl[ci]? = some r) (hca : va_Nw (.castable r.1 "java/lang/Object") s) : va_Any "java/lang/Object" s H v := by
  obtain ⟨c0, t0, f1, f2, f3⟩ := Cond.castable_spec (va_Nw.use (A := #[]) rfl hca)
  exact va_rAny hK (x1 hV) (q0 := 0) rfl hc (fun comp c9 h1 h2 => by
    have e1 : c9 = c0 := Option.some.inj (h2.symm.trans f1)
    have e2 : comp = t0 := Option.some.inj (h1.symm.trans f2)
    rw [e1, e2]; exact f3)
/-- Object's own beginning -/
theorem xobj (hexec : p.tables.exec = Jvm.exec) (hb : c.code = cc) {own : String} (hown : s.vm.findClass own = some m.cls) {idx nL : Nat} (hml : c.maxLocals = nL) (hsz : ls.size = nL)
    (hlink : (Cond.methodLink own idx objectInit).before args s = true) (hinst : (Cond.instanceMethod objectInit).before args s = true) (hcode : (Cond.code objectInit ⟨#[0xb1]⟩ 1 none).before args s = true) (hdg : decode cc pc = .ok (.invokespecial idx, 3)) (hframes : 1 ≤ R.frames) (hlocals : (rest.map fun v => v.category).sum + 12 ≤ R.locals)
    (kk : W p l e R s m args below meth c H locs cells slots Q (F0 m (pc + 3) ls rest)) : W p l e R s m args below meth c H locs cells slots Q (F0 m pc ls (.ref a :: rest)) :=
  W.objInit hexec hb hown hlink hinst hcode (g := F0 m pc ls (.ref a :: rest)) rfl (by rw [hml]; exact hsz) rfl hdg hframes (by show 2 * 0 + _ + 12 ≤ _; omega) kk
/-- what the list begins with -/
theorem xgets (hexec : p.tables.exec = Jvm.exec) (hb : c.code = cc) {own : String} {index : Nat} (hK : xK G ty b0 s) (hS : va_S (xA b0) s.heap H locs) (hown : s.vm.findClass own = some m.cls) (hlink : (Cond.fieldLink own index "java/util/ArrayList" "DEFAULTCAPACITY_EMPTY_ELEMENTDATA" "[Ljava/lang/Object;").before args (s.setDrawn d0) = true) (hdg : decode cc pc = .ok (.getstatic index, 3))
    (kk : W p l e R (s.setDrawn d0) m args below meth c H locs cells slots Q (F0 m (pc + 3) ls (.ref (ty 8) :: rest))) : W p l e R (s.setDrawn d0) m args below meth c H locs cells slots Q (F0 m pc ls rest) :=
  va_gets (s := s.setDrawn d0) hexec hb (va_Z.moved (Vm.Alike.refl _) hK.2.2.2.2.2.2.1) hS hown hlink (fun _ h => h) hdg kk
theorem xK.nil {U : State} (hK : xK G ty b0 U) : va_T (.object "java/lang/Object") (ty 8) 0 (fun _ => .null) (xA b0) U U.heap := hK.2.2.2.2.2.2.2.1
end XAlloc
