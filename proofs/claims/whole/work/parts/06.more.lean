/-! MORE ROWS: a body's beginning, array reads by whole numbers, whole numbers as places, throws. -/
section XMore
/-- a body, with all that a walk needs at its head -/
theorem xbody {l : Launch} {y : MethodName} {ws ws' : List Cond} {rm : Room} {G : va_G} {ty : Nat → ClassId} {b0 : Nat} {av : List Value} {H : Heap} {post : Option Value → Heap → Prop} {px : String → Heap → Prop} {cc : ByteArray} {maxL : Nat} {ret : Option FieldType} {C : String} {lv : List (Nat × Value)}
    (hy : plainName y.cls = true) (hw : ws = Cond.code y cc maxL ret :: ws') (hC : y.cls = C) (hlen : (lg_sl av).length ≤ maxL) (hlv : lv_args 0 av = lv)
    (body : ∀ (p : Program) (e : Env) (s : State) (m : MethodId) (below : List Frame) (meth : Method) (c : Code) (d0 : Drawn), p.tables.exec = Jvm.exec → c.code = cc → meth.sig.returnType = ret → (∀ d : Drawn, ∀ w ∈ ws, w.before av.toArray (s.setDrawn d) = true) → s.vm.findClass C = some m.cls → meth.locks = false → c.maxLocals = maxL → (∀ x ∈ c.exceptionTable.toList, False) → meth.name = y.name → xK G ty b0 s → b0 ≤ s.heap.size → s.heap = H → va_S (xA b0) s.heap H [] → s.drawn.sameBut d0 lw_cs → ∀ ls : Array Slot, lv_has ls maxL lv →
      W p l e rm (s.setDrawn d0) m av.toArray below meth c H [] 0 0 (xMQ below post px av.toArray s rm b0) (F0 m 0 ls [])) : xMet l y ws rm G ty b0 av H post px := by
  refine xofW (cc := cc) (maxL := maxL) (ret := ret) hy hw ?_
  intro p e s m below meth c s₁ B hml hxt hH hK hb0 hd0
  have hl := lv_entry av (n := maxL) hlen
  rw [hlv] at hl
  rw [lg_entry_eq]
  generalize (lg_sl av ++ List.replicate (maxL - (lg_sl av).length) Slot.unset).toArray = ls at hl ⊢
  exact body p e s m below meth c s.drawn B.exec B.bytes B.returns (fun d => dr_words (atoms_spec (ws := ws) B.pre) d) (by rw [← hC]; exact findClass_of_methodNamed B.named) B.notSynchronized hml hxt (name_of_methodNamed B.named B.method).1 hK (by rw [hH]; exact hb0) hH (by rw [hH]; exact va_S.rf) hd0 ls hl
/-- place i of n, as a whole number -/
def xix (i : Int32) (j n : Nat) : Prop := vp_in i n ∧ i.toNatClampNeg = j
theorem xix_of {j n : Nat} (h : j < n) (hn : n < 2 ^ 31) : xix (nI j) j n := ⟨vp_in_nI h hn, nI_clamp (Nat.lt_trans h hn)⟩
variable {p : Program} {l : Launch} {e : Env} {R : Room} {s : State} {m : MethodId} {args : Array Value} {below : List Frame} {meth : Method} {c : Code} {H : Heap} {locs : List Loc} {cells slots : Nat} {Q : State → Prop}
variable {cc : ByteArray} {pc : Nat} {ls : Array Slot} {rest : List Value} {d0 : Drawn} {G : va_G} {tys : List (ClassId × FieldType)} {a b0 n j : Nat} {H0 : Heap} {cA : ClassId} {i : Int32}
theorem xdald (hexec : p.tables.exec = Jvm.exec) (hb : c.code = cc) (hK : va_K G vwCl tys s) (t0 : Nat) {f : Nat → UInt64} (hP : xc G a (.inl (cA, n, .inr (.inr (.inr (.inl f))))) H) (ht : tys[t0]? = some (cA, .double)) (hi : xix i j n) (hdg : decode cc pc = .ok (.daload, 1))
    (kk : W p l e R s m args below meth c H locs cells slots Q (F0 m (pc + 1) ls (.double (f j) :: rest))) : W p l e R s m args below meth c H locs cells slots Q (F0 m pc ls (.int i :: .ref a :: rest)) :=
  va_dald hexec hb hK (x1 hP) 0 t0 rfl ht hi.1 hdg (by rw [hi.2]; exact kk)
theorem xiald (hexec : p.tables.exec = Jvm.exec) (hb : c.code = cc) (hK : va_K G vwCl tys s) (t0 : Nat) {f : Nat → Int32} (hP : xc G a (.inl (cA, n, .inl f)) H) (ht : tys[t0]? = some (cA, .int)) (hi : xix i j n) (hdg : decode cc pc = .ok (.iaload, 1))
    (kk : W p l e R s m args below meth c H locs cells slots Q (F0 m (pc + 1) ls (.int (f j) :: rest))) : W p l e R s m args below meth c H locs cells slots Q (F0 m pc ls (.int i :: .ref a :: rest)) :=
  va_iald hexec hb hK (x1 hP) 0 t0 rfl ht hi.1 hdg (by rw [hi.2]; exact kk)
theorem xzald (hexec : p.tables.exec = Jvm.exec) (hb : c.code = cc) (hK : va_K G vwCl tys s) (t0 : Nat) {f : Nat → Int32} (hP : xc G a (.inl (cA, n, .inl f)) H) (ht : tys[t0]? = some (cA, .boolean)) (hi : xix i j n) (hdg : decode cc pc = .ok (.baload, 1))
    (kk : W p l e R s m args below meth c H locs cells slots Q (F0 m (pc + 1) ls (.int (f j) :: rest))) : W p l e R s m args below meth c H locs cells slots Q (F0 m pc ls (.int i :: .ref a :: rest)) :=
  va_zald hexec hb hK (x1 hP) 0 t0 rfl ht hi.1 hdg (by rw [hi.2]; exact kk)
theorem xlald (hexec : p.tables.exec = Jvm.exec) (hb : c.code = cc) (hK : va_K G vwCl tys s) (t0 : Nat) {f : Nat → Int64} (hP : xc G a (.inl (cA, n, .inr (.inl f))) H) (ht : tys[t0]? = some (cA, .long)) (hi : xix i j n) (hdg : decode cc pc = .ok (.laload, 1))
    (kk : W p l e R s m args below meth c H locs cells slots Q (F0 m (pc + 1) ls (.long (f j) :: rest))) : W p l e R s m args below meth c H locs cells slots Q (F0 m pc ls (.int i :: .ref a :: rest)) :=
  va_lald hexec hb hK (x1 hP) 0 t0 rfl ht hi.1 hdg (by rw [hi.2]; exact kk)
theorem xaald (hexec : p.tables.exec = Jvm.exec) (hb : c.code = cc) (hK : va_K G vwCl tys s) (t0 : Nat) {C : String} {f : Nat → Option Nat} (hP : xc G a (.inl (cA, n, .inr (.inr (.inr (.inr f))))) H) (ht : tys[t0]? = some (cA, .object C)) (hi : xix i j n) {q : Nat} (hq : f j = some q) (hdg : decode cc pc = .ok (.aaload, 1))
    (kk : W p l e R s m args below meth c H locs cells slots Q (F0 m (pc + 1) ls (.ref q :: rest))) : W p l e R s m args below meth c H locs cells slots Q (F0 m pc ls (.int i :: .ref a :: rest)) :=
  va_aldq hexec hb hK (x1 hP) 0 t0 rfl ht hi.1 hdg (by rw [hi.2, hq]; exact kk)
theorem xalen (hexec : p.tables.exec = Jvm.exec) (hb : c.code = cc) (hK : va_K G vwCl tys s) (t0 : Nat) {x : vp_A} (hP : xc G a (.inl (cA, x)) H) {ty : FieldType} (ht : tys[t0]? = some (cA, ty)) (hdg : decode cc pc = .ok (.arraylength, 1))
    (kk : W p l e R s m args below meth c H locs cells slots Q (F0 m (pc + 1) ls (.int (nI x.1) :: rest))) : W p l e R s m args below meth c H locs cells slots Q (F0 m pc ls (.ref a :: rest)) :=
  va_alen hexec hb hK (x1 hP) 0 t0 rfl ht rfl hdg kk
theorem xd2i (hexec : p.tables.exec = Jvm.exec) (hb : c.code = cc) {x z : UInt64} (hx : vq x z) (hdg : decode cc pc = .ok (.d2i, 1))
    (k : W p l e R s m args below meth c H locs cells slots Q (F0 m (pc + 1) ls (.int (FP.d2i z) :: rest))) : W p l e R s m args below meth c H locs cells slots Q (F0 m pc ls (.double x :: rest)) :=
  lv_d2i hexec hb hdg (by rw [vq_d2i hx]; exact k)
theorem xiaddN (hexec : p.tables.exec = Jvm.exec) (hb : c.code = cc) {x y : Nat} (hdg : decode cc pc = .ok (.iadd, 1))
    (k : W p l e R s m args below meth c H locs cells slots Q (F0 m (pc + 1) ls (.int (nI (x + y)) :: rest))) : W p l e R s m args below meth c H locs cells slots Q (F0 m pc ls (.int (nI y) :: .int (nI x) :: rest)) :=
  lv_iadd hexec hb hdg (by rw [nI_add]; exact k)
theorem xisubN (hexec : p.tables.exec = Jvm.exec) (hb : c.code = cc) {x y : Nat} (hxy : y ≤ x) (hdg : decode cc pc = .ok (.isub, 1))
    (k : W p l e R s m args below meth c H locs cells slots Q (F0 m (pc + 1) ls (.int (nI (x - y)) :: rest))) : W p l e R s m args below meth c H locs cells slots Q (F0 m pc ls (.int (nI y) :: .int (nI x) :: rest)) :=
  lv_isub hexec hb hdg (by rw [pk_sub hxy]; exact k)
theorem ximulN (hexec : p.tables.exec = Jvm.exec) (hb : c.code = cc) {x y : Nat} (hdg : decode cc pc = .ok (.imul, 1))
    (k : W p l e R s m args below meth c H locs cells slots Q (F0 m (pc + 1) ls (.int (nI (x * y)) :: rest))) : W p l e R s m args below meth c H locs cells slots Q (F0 m pc ls (.int (nI y) :: .int (nI x) :: rest)) :=
  lv_imul hexec hb hdg (by rw [pk_mul]; exact k)
theorem xiincN (hexec : p.tables.exec = Jvm.exec) (hb : c.code = cc) {i nL k x y : Nat} {n : Int} {lv lv' : List (Nat × Value)} (hdg : decode cc pc = .ok (.iinc i n, 3)) (h : lv_has ls nL lv) (hk : lv[k]? = some (i, .int (nI x))) (hv : Int32.ofInt n = nI y) (hn : i < nL) (hl : (i, Value.int (nI (x + y))) :: lv.filter (fun q => !(q.1 == i) && !(q.1 + 1 == i && q.2.category == 2)) = lv')
    (kk : ∀ ls' : Array Slot, lv_has ls' nL lv' → W p l e R s m args below meth c H locs cells slots Q (F0 m (pc + 3) ls' rest)) : W p l e R s m args below meth c H locs cells slots Q (F0 m pc ls rest) :=
  lv_iinc hexec hb hdg h hk (by rw [hv, nI_add]) hn hl kk
theorem xicmpN_lt (hexec : p.tables.exec = Jvm.exec) (hb : c.code = cc) {x z : Nat} {off : Int} {tgt : Nat} (ha : x < 2 ^ 31) (hb2 : z < 2 ^ 31) (hdg : decode cc pc = .ok (.if_icmp .lt off, 3)) (ht : (pc : Int) + off = (tgt : Int))
    (kt : x < z → W p l e R s m args below meth c H locs cells slots Q (F0 m tgt ls rest)) (kf : z ≤ x → W p l e R s m args below meth c H locs cells slots Q (F0 m (pc + 3) ls rest)) : W p l e R s m args below meth c H locs cells slots Q (F0 m pc ls (.int (nI z) :: .int (nI x) :: rest)) :=
  lv_icmp_lt hexec hb hdg ht (fun h => kt ((nI_ltI ha hb2).mp h)) (fun h => kf (Nat.not_lt.mp fun z => h ((nI_ltI ha hb2).mpr z)))
theorem xicmpN_le (hexec : p.tables.exec = Jvm.exec) (hb : c.code = cc) {x z : Nat} {off : Int} {tgt : Nat} (ha : x < 2 ^ 31) (hb2 : z < 2 ^ 31) (hdg : decode cc pc = .ok (.if_icmp .le off, 3)) (ht : (pc : Int) + off = (tgt : Int))
    (kt : x ≤ z → W p l e R s m args below meth c H locs cells slots Q (F0 m tgt ls rest)) (kf : z < x → W p l e R s m args below meth c H locs cells slots Q (F0 m (pc + 3) ls rest)) : W p l e R s m args below meth c H locs cells slots Q (F0 m pc ls (.int (nI z) :: .int (nI x) :: rest)) :=
  lv_icmp_le hexec hb hdg ht (fun h => kt ((nI_leI ha hb2).mp h)) (fun h => kf (Nat.not_le.mp fun z => h ((nI_leI ha hb2).mpr z)))
theorem xicmpN_ge (hexec : p.tables.exec = Jvm.exec) (hb : c.code = cc) {x z : Nat} {off : Int} {tgt : Nat} (ha : x < 2 ^ 31) (hb2 : z < 2 ^ 31) (hdg : decode cc pc = .ok (.if_icmp .ge off, 3)) (ht : (pc : Int) + off = (tgt : Int))
    (kt : z ≤ x → W p l e R s m args below meth c H locs cells slots Q (F0 m tgt ls rest)) (kf : x < z → W p l e R s m args below meth c H locs cells slots Q (F0 m (pc + 3) ls rest)) : W p l e R s m args below meth c H locs cells slots Q (F0 m pc ls (.int (nI z) :: .int (nI x) :: rest)) :=
  lv_icmp_ge hexec hb hdg ht (fun h => kt ((nI_leI hb2 ha).mp h)) (fun h => kf (Nat.not_le.mp fun z => h ((nI_leI hb2 ha).mpr z)))
theorem xicmpN_gt (hexec : p.tables.exec = Jvm.exec) (hb : c.code = cc) {x z : Nat} {off : Int} {tgt : Nat} (ha : x < 2 ^ 31) (hb2 : z < 2 ^ 31) (hdg : decode cc pc = .ok (.if_icmp .gt off, 3)) (ht : (pc : Int) + off = (tgt : Int))
    (kt : z < x → W p l e R s m args below meth c H locs cells slots Q (F0 m tgt ls rest)) (kf : x ≤ z → W p l e R s m args below meth c H locs cells slots Q (F0 m (pc + 3) ls rest)) : W p l e R s m args below meth c H locs cells slots Q (F0 m pc ls (.int (nI z) :: .int (nI x) :: rest)) :=
  lv_icmp_gt hexec hb hdg ht (fun h => kt ((nI_ltI hb2 ha).mp h)) (fun h => kf (Nat.not_lt.mp fun z => h ((nI_ltI hb2 ha).mpr z)))
theorem xicmpN_eq (hexec : p.tables.exec = Jvm.exec) (hb : c.code = cc) {x z : Nat} {off : Int} {tgt : Nat} (ha : x < 2 ^ 31) (hb2 : z < 2 ^ 31) (hdg : decode cc pc = .ok (.if_icmp .eq off, 3)) (ht : (pc : Int) + off = (tgt : Int))
    (kt : x = z → W p l e R s m args below meth c H locs cells slots Q (F0 m tgt ls rest)) (kf : ¬ x = z → W p l e R s m args below meth c H locs cells slots Q (F0 m (pc + 3) ls rest)) : W p l e R s m args below meth c H locs cells slots Q (F0 m pc ls (.int (nI z) :: .int (nI x) :: rest)) :=
  lv_icmp_eq hexec hb hdg ht (fun h => kt ((nI_eq ha hb2).mp h)) (fun h => kf (fun z => h ((nI_eq ha hb2).mpr z)))
theorem xicmpN_ne (hexec : p.tables.exec = Jvm.exec) (hb : c.code = cc) {x z : Nat} {off : Int} {tgt : Nat} (ha : x < 2 ^ 31) (hb2 : z < 2 ^ 31) (hdg : decode cc pc = .ok (.if_icmp .ne off, 3)) (ht : (pc : Int) + off = (tgt : Int))
    (kt : ¬ x = z → W p l e R s m args below meth c H locs cells slots Q (F0 m tgt ls rest)) (kf : x = z → W p l e R s m args below meth c H locs cells slots Q (F0 m (pc + 3) ls rest)) : W p l e R s m args below meth c H locs cells slots Q (F0 m pc ls (.int (nI z) :: .int (nI x) :: rest)) :=
  lv_icmp_ne hexec hb hdg ht (fun h => kt (fun z => h ((nI_eq ha hb2).mpr z))) (fun h => kf ((nI_eq ha hb2).mp h))
end XMore
/-- no cell that was there has changed -/
abbrev xext (H H1 : Heap) : Prop := ∀ q : Nat, q < H.size → H1[q]? = H[q]?
theorem xthrow_ok0 : ∀ w ∈ (vx_atS RX6 111 "java/lang/IndexOutOfBoundsException" ["java/lang/RuntimeException", "java/lang/Exception"]).filter (fun w => !goodWord w), w ∈ xFaceL := by decide +kernel
theorem xthrow_ok1 : ∀ w ∈ (vx_atS RX6 68 "java/lang/IllegalArgumentException" ["java/lang/RuntimeException", "java/lang/Exception"]).filter (fun w => !goodWord w), w ∈ xFaceL := by decide +kernel
theorem xthrow_ok2 : ∀ w ∈ (vx_atS RX6 106 "java/lang/IllegalStateException" ["java/lang/RuntimeException", "java/lang/Exception"]).filter (fun w => !goodWord w), w ∈ xFaceL := by decide +kernel
theorem xthrow_gd0 : ∀ w ∈ Cond.classLink RX6 107 "java/lang/IndexOutOfBoundsException" :: Cond.initialized "java/lang/IndexOutOfBoundsException" :: vx_atS RX6 111 "java/lang/IndexOutOfBoundsException" ["java/lang/RuntimeException", "java/lang/Exception"], vx_ot w = true := by decide +kernel
theorem xthrow_gd1 : ∀ w ∈ Cond.classLink RX6 64 "java/lang/IllegalArgumentException" :: Cond.initialized "java/lang/IllegalArgumentException" :: vx_atS RX6 68 "java/lang/IllegalArgumentException" ["java/lang/RuntimeException", "java/lang/Exception"], vx_ot w = true := by decide +kernel
theorem xthrow_gd2 : ∀ w ∈ Cond.classLink RX6 102 "java/lang/IllegalStateException" :: Cond.initialized "java/lang/IllegalStateException" :: vx_atS RX6 106 "java/lang/IllegalStateException" ["java/lang/RuntimeException", "java/lang/Exception"], vx_ot w = true := by decide +kernel
section XThrow
variable {p : Program} {l : Launch} {e : Env} {R : Room} {s : State} {m : MethodId} {args : Array Value} {below : List Frame} {meth : Method} {c : Code} {H : Heap} {locs : List Loc} {cells slots : Nat}
variable {rm : Room} {b0 : Nat} {post : Option Value → Heap → Prop} {px : String → Heap → Prop} {d0 : Drawn} {cc : ByteArray} {pc : Nat} {ls : Array Slot} {rest : List Value} {G : va_G} {ty : Nat → ClassId} {ws : List Cond} {cls text : String} {ik is ic nL : Nat}
theorem xthrow_hat {args : Array Value} {s : State} (hts : ∀ w ∈ ws, w.before args s = true) (hin : ∀ w ∈ (vx_atS RX6 ic cls ["java/lang/RuntimeException", "java/lang/Exception"]).filter goodWord, w ∈ ws) (hok : ∀ w ∈ (vx_atS RX6 ic cls ["java/lang/RuntimeException", "java/lang/Exception"]).filter (fun w => !goodWord w), w ∈ xFaceL) (hF : ∀ w ∈ xFaceL, va_Nw w s) : ∀ w ∈ vx_atS RX6 ic cls ["java/lang/RuntimeException", "java/lang/Exception"], w.before args s = true :=
  vx_hat (B := xFaceL) (fun w h => hts w (hin w h)) hok (fun w h => va_Nw.use (xFace_tabs w h) (hF w h))
theorem xthrowS (hfl : l.stackTraces = false) (hd0 : s.drawn.sameBut d0 lw_cs) (hexec : p.tables.exec = Jvm.exec) (hb : c.code = cc) (hown : s.vm.findClass RX6 = some m.cls) (hlocks : meth.locks = false) (hxt : ∀ x ∈ c.exceptionTable.toList, False) (hml : c.maxLocals = nL) (hsz : ls.size = nL) (hts : ∀ d : Drawn, ∀ w ∈ ws, w.before args (s.setDrawn d) = true)
    (hcls : Bundle.fit cls = true) (hk : Cond.classLink RX6 ik cls ∈ ws) (hini : Cond.initialized cls ∈ ws) (hin : ∀ w ∈ (vx_atS RX6 ic cls ["java/lang/RuntimeException", "java/lang/Exception"]).filter goodWord, w ∈ ws) (hok : ∀ w ∈ (vx_atS RX6 ic cls ["java/lang/RuntimeException", "java/lang/Exception"]).filter (fun w => !goodWord w), w ∈ xFaceL)
    (hgood : ∀ w ∈ Cond.classLink RX6 ik cls :: Cond.initialized cls :: vx_atS RX6 ic cls ["java/lang/RuntimeException", "java/lang/Exception"], vx_ot w = true) (htx : (is, text) ∈ xTexts) (hK : xK G ty b0 s) (hS : va_S (xA b0) s.heap H locs)
    (d0' : decode cc pc = .ok (.new ik, 3)) (d3 : decode cc (pc + 3) = .ok (.dup, 1)) (d4 : decode cc (pc + 4) = .ok (.ldc is, 2)) (d6 : decode cc (pc + 6) = .ok (.invokespecial ic, 3)) (d9 : decode cc (pc + 9) = .ok (.athrow, 1))
    (hRframes : 5 < R.frames) (hRlocals : (rest.map fun v => v.category).sum + 82 ≤ R.locals) (hRcells : cells + 1 ≤ R.cells) (hRslots : slots + 6 ≤ R.slots) (hc : cells + 1 ≤ rm.cells) (hs : slots + 6 ≤ rm.slots)
    (hp : ∀ H1 : Heap, xext H H1 → px cls H1) :
    W p l e R (s.setDrawn d0) m args below meth c H locs cells slots (xMQ below post px args s rm b0) (F0 m pc ls rest) := by
  obtain ⟨hK1, hU, hN, -, hT, hF, -⟩ := hK
  obtain ⟨sa, hsa⟩ := hT _ htx
  refine xend hd0 (vx_throwS (s := s.setDrawn d0) (cls := cls) (text := text) (ik := ik) (is := is) (ic := ic) (sa := sa) (A := xA b0) (names := ["java/lang/RuntimeException", "java/lang/Exception"]) hexec hb hfl hown hcls (by decide +kernel) (hts d0 _ hk) (hts d0 _ hini) (vk_R.same (u := s) rfl hsa) (xthrow_hat (hts d0) hin hok (fun w h => va_Nw.same (u := s) (xFace_tabs w h) rfl (hF w h))) hgood hU hN hS (hsz.trans hml.symm) d0' d3 d4 d6 d9 (fun x hx => (hxt x hx).elim) hRframes hRlocals hRcells hRslots hlocks ?_ hS.2.2 hc hs)
  intro t hA hz hq
  exact ⟨hp _ (fun q h => hq q h), ⟨Nat.le_trans hS.1 hz, fun q h1 h2 => (hq q (Nat.lt_of_lt_of_le h1 hS.1)).trans (hS.2.1 q h1 h2)⟩⟩
theorem xthrowSW (hfl : l.stackTraces = false) (hd0 : s.drawn.sameBut d0 lw_cs) (hexec : p.tables.exec = Jvm.exec) (hb : c.code = cc) (hown : s.vm.findClass RX6 = some m.cls) (hlocks : meth.locks = false) (hxt : ∀ x ∈ c.exceptionTable.toList, False) (hml : c.maxLocals = nL) (hsz : ls.size = nL) (hts : ∀ d : Drawn, ∀ w ∈ ws, w.before args (s.setDrawn d) = true)
    (hcls : Bundle.fit cls = true) (hk : Cond.classLink RX6 ik cls ∈ ws) (hini : Cond.initialized cls ∈ ws) (hin : ∀ w ∈ (vx_atS RX6 ic cls ["java/lang/RuntimeException", "java/lang/Exception"]).filter goodWord, w ∈ ws) (hok : ∀ w ∈ (vx_atS RX6 ic cls ["java/lang/RuntimeException", "java/lang/Exception"]).filter (fun w => !goodWord w), w ∈ xFaceL)
    (hgood : ∀ w ∈ Cond.classLink RX6 ik cls :: Cond.initialized cls :: vx_atS RX6 ic cls ["java/lang/RuntimeException", "java/lang/Exception"], vx_ot w = true) (htx : (is, text) ∈ xTexts) (hK : xK G ty b0 s) (hS : va_S (xA b0) s.heap H locs)
    (d0' : decode cc pc = .ok (.new ik, 3)) (d3 : decode cc (pc + 3) = .ok (.dup, 1)) (d4 : decode cc (pc + 4) = .ok (.ldc_w is, 3)) (d7 : decode cc (pc + 7) = .ok (.invokespecial ic, 3)) (d10 : decode cc (pc + 10) = .ok (.athrow, 1))
    (hRframes : 5 < R.frames) (hRlocals : (rest.map fun v => v.category).sum + 82 ≤ R.locals) (hRcells : cells + 1 ≤ R.cells) (hRslots : slots + 6 ≤ R.slots) (hc : cells + 1 ≤ rm.cells) (hs : slots + 6 ≤ rm.slots)
    (hp : ∀ H1 : Heap, xext H H1 → px cls H1) :
    W p l e R (s.setDrawn d0) m args below meth c H locs cells slots (xMQ below post px args s rm b0) (F0 m pc ls rest) := by
  obtain ⟨hK1, hU, hN, -, hT, hF, -⟩ := hK
  obtain ⟨sa, hsa⟩ := hT _ htx
  refine xend hd0 (vx_throwSW (s := s.setDrawn d0) (cls := cls) (text := text) (ik := ik) (is := is) (ic := ic) (sa := sa) (A := xA b0) (names := ["java/lang/RuntimeException", "java/lang/Exception"]) hexec hb hfl hown hcls (by decide +kernel) (hts d0 _ hk) (hts d0 _ hini) (vk_R.same (u := s) rfl hsa) (xthrow_hat (hts d0) hin hok (fun w h => va_Nw.same (u := s) (xFace_tabs w h) rfl (hF w h))) hgood hU hN hS (hsz.trans hml.symm) d0' d3 d4 d7 d10 (fun x hx => (hxt x hx).elim) hRframes hRlocals hRcells hRslots hlocks ?_ hS.2.2 hc hs)
  intro t hA hz hq
  exact ⟨hp _ (fun q h => hq q h), ⟨Nat.le_trans hS.1 hz, fun q h1 h2 => (hq q (Nat.lt_of_lt_of_le h1 hS.1)).trans (hS.2.1 q h1 h2)⟩⟩
end XThrow
