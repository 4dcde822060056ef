/-! THE BASE OF ALL WALKS: one kind of contract for every method (it may throw, and it may draw), its calls, its ends, its heap. -/
section XBase
abbrev xc (G : va_G) (a : Nat) (e : va_E) (H : Heap) : Prop := va_at G vwCl (a, e) H
theorem x1 {G : va_G} {a : Nat} {e : va_E} {H : Heap} (h : xc G a e H) : va_P G vwCl [(a, e)] H := by
  intro k q hk
  match k, hk with
  | 0, hk => cases hk; exact h
  | k + 1, hk => simp at hk
theorem xc.kept {G : va_G} {a : Nat} {e : va_E} {H H1 : Heap} (h : xc G a e H) (hq : H1[a]? = H[a]?) : xc G a e H1 := (x1 h).kept (fun k q hk => by
  match k, hk with
  | 0, hk => cases hk; exact hq
  | k + 1, hk => simp at hk) 0 _ rfl
theorem xc.lt {G : va_G} {a : Nat} {e : va_E} {H : Heap} (h : xc G a e H) : a < H.size := vx_lt (x1 h) (k := 0) rfl
/-- what is new since the law's start -/
abbrev xA (b0 : Nat) : Nat → Prop := fun q => b0 ≤ q
/-- the array classes, in one order for all walks -/
abbrev xTy (ty : Nat → ClassId) : List (ClassId × FieldType) := [(ty 0, .double), (ty 1, .int), (ty 2, .boolean), (ty 3, .long), (ty 4, .object "PlankUnroll$Place"), (ty 5, .object "PlankUnroll$Row"), (ty 6, .object "PlankUnroll$Strip"), (ty 7, .object "java/lang/Object")]
/-- the nest mates' private methods that are called -/
def xNest : List (String × Nat × MethodName) := [(RX5, 55, yX6_apart), (RX5, 78, yX6_root), (RX6, 44, yX2_init), (RX4, 15, yX3_init)]
/-- the texts of the exceptions -/
def xTexts : List (Nat × String) := [(66, "a number of a place is not -1000 .. 1000"), (104, "two corners lie too near for a triangle on them"), (109, "no such corne\x72"), (112, "no such axis"), (168, "a span is not 1 .. 8"), (178, "a side of a board is not 1 .. 1000"), (184, "there are 4 boards"), (199, "a fault does not lie at 0 .. 1000"), (203, "a side of a fault is not 0.125 .. 1000"), (216, "the strip lies on a board"), (229, "neither the board nor its k is asked fo\x72"), (244, "a number of staves is not 1 .. 100000"), (253, "no such frame"), (255, "no such cell"), (257, "no such row"), (259, "no such strip"), (261, "no such board"), (267, "the strip was not unrolled since a place was told"), (269, "a stave's width is not 0.125 .. 1000"), (271, "a diameter is not 0 .. 1000")]
/-- the words of a throw that the methods' lists don't hold -/
def xFaceL : List Cond := [.castable "java/lang/IndexOutOfBoundsException" "java/lang/IndexOutOfBoundsException", .castable "java/lang/IllegalArgumentException" "java/lang/IllegalArgumentException", .castable "java/lang/IllegalStateException" "java/lang/IllegalStateException", .declares ⟨"java/lang/RuntimeException", "<init>", "(Ljava/lang/String;)V"⟩, .declares ⟨"java/lang/Exception", "<init>", "(Ljava/lang/String;)V"⟩, .declares ⟨"java/lang/Throwable", "<init>", "(Ljava/lang/String;)V"⟩]
/-- exceptions that a handler for another one lets pass -/
def xNcL : List (String × String) := [("java/lang/IllegalArgumentException", "java/lang/IndexOutOfBoundsException"), ("java/lang/IllegalStateException", "java/lang/IndexOutOfBoundsException"), ("java/lang/IllegalStateException", "java/lang/IllegalArgumentException")]
/-- the list's own beginning, an empty row; the rows of references that are made; what may lie in a row of objects -/
def xKC (G : va_G) (ty : Nat → ClassId) (b0 : Nat) (U : State) : Prop :=
  va_Z "java/util/ArrayList" "DEFAULTCAPACITY_EMPTY_ELEMENTDATA" "[Ljava/lang/Object;" (.ref (ty 8)) (xA b0) U U.heap ∧ va_T (.object "java/lang/Object") (ty 8) 0 (fun _ => .null) (xA b0) U U.heap ∧ ty 8 < b0 ∧
  (∀ C ∈ ["PlankUnroll$Place", "PlankUnroll$Row", "PlankUnroll$Strip", "java/lang/Object"], va_AO C U) ∧ (∀ C ∈ ["PlankUnroll$Board", "PlankUnroll$Box"], va_Nw (.castable C "java/lang/Object") U) ∧ ∀ q ∈ xNcL, va_Nc q.1 q.2 U
theorem xKC.to {G : va_G} {ty : Nat → ClassId} {b0 : Nat} {s U : State} {locs : List Loc} (hW : s.WarmedH U.vm) (hS : va_S (xA b0) s.heap U.heap locs) (h : xKC G ty b0 s) : xKC G ty b0 U := by
  obtain ⟨h1, h2, h3, h4, h5, h6⟩ := h
  exact ⟨va_Z.moved hW.alike (h1.kept hS.2.1), va_T.moved hW.alike (h2.kept hS.2.1), h3, fun C hC => va_AO.moved hW.alike (h4 C hC), fun C hC => va_Nw.warmC hW (h5 C hC), fun q hq => va_Nc.moved hW.alike (h6 q hq)⟩
theorem xKC.at {G : va_G} {ty : Nat → ClassId} {b0 : Nat} {s U : State} (hv : U.vm = s.vm) (hh : U.heap = s.heap) (h : xKC G ty b0 s) : xKC G ty b0 U := by
  have hA : s.vm.Alike U.vm := by rw [hv]; exact Vm.Alike.refl _
  obtain ⟨h1, h2, h3, h4, h5, h6⟩ := h
  refine ⟨by rw [hh]; exact va_Z.moved hA h1, by rw [hh]; exact va_T.moved hA h2, h3, fun C hC => va_AO.moved hA (h4 C hC), fun C hC => va_Nw.same rfl hv.symm (h5 C hC), fun q hq => va_Nc.moved hA (h6 q hq)⟩
/-- what every walk knows of the world around it -/
def xK (G : va_G) (ty : Nat → ClassId) (b0 : Nat) (U : State) : Prop :=
  va_K G vwCl (xTy ty) U ∧ vx_Zq Bundle.tN "UNASSIGNED_STACK" Bundle.steD (xA b0) U U.heap ∧ vx_Zq Bundle.tN "SUPPRESSED_SENTINEL" Bundle.listD (xA b0) U U.heap ∧
  (∀ q ∈ xNest, va_Nw (.methodLinkNest q.1 q.2.1 q.2.2 RX6) U) ∧ (∀ q ∈ xTexts, ∃ a, vk_R RX6 q.1 q.2 a U) ∧ (∀ w ∈ xFaceL, va_Nw w U) ∧ xKC G ty b0 U
theorem xFace_keeps : ∀ w ∈ xFaceL, w.keepsFace = true := by decide +kernel
theorem xFace_tabs : ∀ w ∈ xFaceL, w.onTables = true := by decide +kernel
theorem xNw_face {w : Cond} (h1 : w.keepsFace = true) (h2 : w.onTables = true) {s U : State} (hW : s.WarmedH U.vm) (h : va_Nw w s) : va_Nw w U :=
  va_tabs h2 (rfl : (s.setVm U.vm).vm = U.vm) (Cond.before_shiftedFace (args := #[]) (State.Shifted.of_warmed hW) w h1 h)
theorem xK.to {G : va_G} {ty : Nat → ClassId} {b0 : Nat} {s U : State} {locs : List Loc} (hW : s.WarmedH U.vm) (hS : va_S (xA b0) s.heap U.heap locs) (h : xK G ty b0 s) : xK G ty b0 U := by
  obtain ⟨h1, h2, h3, h4, h5, h6, h7⟩ := h
  exact ⟨va_K.moved hW.alike h1, vx_Zq.moved hW.alike (h2.kept hS.2.1), vx_Zq.moved hW.alike (h3.kept hS.2.1), fun q hq => va_Nw.warmM hW (h4 q hq), fun q hq => (h5 q hq).elim fun a ha => ⟨a, vk_R.warm hW ha⟩, fun w hw => xNw_face (xFace_keeps w hw) (xFace_tabs w hw) hW (h6 w hw), h7.to hW hS⟩
theorem xK.calling {G : va_G} {ty : Nat → ClassId} {b0 : Nat} {U : State} {g : JFrame} {mk : MethodId} {a : Array Value} (h : xK G ty b0 U) : xK G ty b0 (U.calling g mk a) := by
  have hh : (U.calling g mk a).heap = U.heap := rfl
  have hv : (U.calling g mk a).vm = U.vm := rfl
  obtain ⟨h1, h2, h3, h4, h5, h6, h7⟩ := h
  exact ⟨va_K.moved (Vm.Alike.refl U.vm) h1, vx_Zq.moved (Vm.Alike.refl U.vm) h2, vx_Zq.moved (Vm.Alike.refl U.vm) h3, fun q hq => va_Nw.same rfl hv.symm (h4 q hq), fun q hq => (h5 q hq).elim fun a ha => ⟨a, vk_R.same hv ha⟩, fun w hw => va_Nw.same (xFace_tabs w hw) hv.symm (h6 w hw), h7.at hv hh⟩
theorem xK.drawn {G : va_G} {ty : Nat → ClassId} {b0 : Nat} {U : State} (h : xK G ty b0 U) (d : Drawn) : xK G ty b0 (U.setDrawn d) := by
  obtain ⟨h1, h2, h3, h4, h5, h6, h7⟩ := h
  exact ⟨va_K.moved (Vm.Alike.refl U.vm) h1, vx_Zq.moved (Vm.Alike.refl U.vm) h2, vx_Zq.moved (Vm.Alike.refl U.vm) h3, fun q hq => va_Nw.same (u := U) rfl rfl (h4 q hq), fun q hq => (h5 q hq).elim fun a ha => ⟨a, vk_R.same (u := U) rfl ha⟩, fun w hw => va_Nw.same (u := U) (xFace_tabs w hw) rfl (h6 w hw), h7.at rfl rfl⟩
/-- the premise of a contract: the arguments, the heap, the world around -/
def xPc (G : va_G) (ty : Nat → ClassId) (b0 : Nat) (av : List Value) (H : Heap) : Array Value → State → Prop := fun a U => a = av.toArray ∧ U.heap = H ∧ xK G ty b0 U ∧ b0 ≤ H.size
theorem xPc.blind (G : va_G) (ty : Nat → ClassId) (b0 : Nat) (av : List Value) (H : Heap) : FrameBlind (xPc G ty b0 av H) := fun a U g mk h => ⟨h.1, h.2.1, xK.calling h.2.2.1, h.2.2.2⟩
def xQ (b0 : Nat) (post : Option Value → Heap → Prop) : Array Value → State → Outcome → State → Prop := fun _ st oc t => (∃ v, oc = .returned v ∧ post v t.heap) ∧ va_F (xA b0) st t
def xX (b0 : Nat) (px : String → Heap → Prop) : String → State → State → Prop := fun E st t => px E t.heap ∧ va_F (xA b0) st t
/-- A METHOD'S CONTRACT: from the heap H it returns with post, or throws with px; it may draw -/
def xMet (l : Launch) (y : MethodName) (ws : List Cond) (rm : Room) (G : va_G) (ty : Nat → ClassId) (b0 : Nat) (av : List Value) (H : Heap) (post : Option Value → Heap → Prop) (px : String → Heap → Prop) : Prop :=
  MetFree l y (headSpec ws rm) (xPc G ty b0 av H) (fun _ _ _ _ _ => True) (fun a st o t => ∃ d : Drawn, st.drawn.sameBut d lw_cs ∧ vx_Q (xQ b0 post) (xX b0 px) rm.cells rm.slots (xA b0) a (st.setDrawn d) o t)
/-- what a body owes at its end -/
def xMQ (below : List Frame) (post : Option Value → Heap → Prop) (px : String → Heap → Prop) (a : Array Value) (s : State) (rm : Room) (b0 : Nat) : State → Prop := fun t =>
  ∃ d : Drawn, s.drawn.sameBut d lw_cs ∧ vx_MQ below (xQ b0 post) (xX b0 px) a (s.setDrawn d) rm.cells rm.slots (xA b0) t
theorem xofW {l : Launch} {y : MethodName} {ws ws' : List Cond} {rm : Room} {G : va_G} {ty : Nat → ClassId} {b0 : Nat} {av : List Value} {H : Heap} {post : Option Value → Heap → Prop} {px : String → Heap → Prop} {cc : ByteArray} {maxL : Nat} {ret : Option FieldType}
    (hy : plainName y.cls = true) (hw : ws = Cond.code y cc maxL ret :: ws')
    (body : ∀ p e s m below meth c s₁, BodyLoose p l y (headSpec ws rm) cc maxL ret e s m av.toArray below meth c s₁ → c.maxLocals = maxL → (∀ x ∈ c.exceptionTable.toList, False) → s.heap = H → xK G ty b0 s → b0 ≤ H.size → s.drawn.sameBut s.drawn lw_cs →
      W p l e (headSpec ws rm).room (s.setDrawn s.drawn) m av.toArray below meth c H [] 0 0 (xMQ below post px av.toArray s rm b0) (entryFrame m av.toArray maxL)) : xMet l y ws rm G ty b0 av H post px := by
  refine MetFree.of_bodyS (code := cc) (maxLocals := maxL) (ret := ret) hy ?_ ?_
  · intro args s m h hn
    obtain ⟨meth, c, h1, h2, h3, h4, h5, h6, -, -⟩ := Cond.code_spec hn (atoms_spec (ws := ws) h _ (by rw [hw]; exact List.mem_cons_self))
    exact ⟨meth, c, h1, h2, h3, h4, h5, h6⟩
  · intro p e s m args below meth c s₁ B hml hP _
    obtain ⟨rfl, hH, hK, hb0⟩ := hP
    have hh0 : s₁.heap = H := by rw [← hH, B.state]; rfl
    have ht : ∀ x ∈ c.exceptionTable.toList, False := by
      obtain ⟨meth9, c9, h1, h2, -, -, -, -, h7, -⟩ := Cond.code_spec B.named (atoms_spec (ws := ws) B.pre _ (by rw [hw]; exact List.mem_cons_self))
      cases Option.some.inj (h1.symm.trans B.method)
      cases Option.some.inj (h2.symm.trans (Stand.of_body B).code)
      intro x hx
      rw [Array.isEmpty_iff.mp h7] at hx
      cases hx
    have X0 : Stand p l e (headSpec ws rm).room (s.setDrawn s.drawn) m av.toArray below meth c s₁ [] 0 0 := Stand.of_body B
    obtain ⟨t, a1, d, hd, o, b1, b2, b3⟩ := body p e s m below meth c s₁ B hml ht hH hK hb0 (Drawn.sameBut.refl _ _) s₁ hh0 X0
    exact ⟨t, o, a1, b1, b2, d, hd, b3⟩
end XBase
section XEnds
variable {p : Program} {l : Launch} {e : Env} {R : Room} {s : State} {m : MethodId} {args : Array Value} {below : List Frame} {meth : Method} {c : Code} {H : Heap} {locs : List Loc} {cells slots : Nat} {Q : State → Prop}
variable {rm : Room} {b0 : Nat} {post : Option Value → Heap → Prop} {px : String → Heap → Prop} {d0 : Drawn} {cc : ByteArray} {pc : Nat} {ls : Array Slot} {rest : List Value}
theorem xend {g : JFrame} (hd0 : s.drawn.sameBut d0 lw_cs) (k : W p l e R (s.setDrawn d0) m args below meth c H locs cells slots (vx_MQ below (xQ b0 post) (xX b0 px) args (s.setDrawn d0) rm.cells rm.slots (xA b0)) g) : W p l e R (s.setDrawn d0) m args below meth c H locs cells slots (xMQ below post px args s rm b0) g := by
  intro T hT X
  obtain ⟨t, a, b⟩ := k T hT X
  exact ⟨t, a, d0, hd0, b⟩
theorem xend_x {g : JFrame} {q : Addr} (hd0 : s.drawn.sameBut d0 lw_cs) (k : vx_W p l e R (s.setDrawn d0) m args below meth c H locs cells slots (vx_MQ below (xQ b0 post) (xX b0 px) args (s.setDrawn d0) rm.cells rm.slots (xA b0)) g q) : vx_W p l e R (s.setDrawn d0) m args below meth c H locs cells slots (xMQ below post px args s rm b0) g q := by
  intro T hT X
  obtain ⟨t, a, b⟩ := k T hT X
  exact ⟨t, a, d0, hd0, b⟩
theorem xq_of {t : State} {v : Option Value} (ht : t.heap = H) (hS : va_S (xA b0) s.heap H locs) (hp : post v H) : xQ b0 post args s (.returned v) t := ⟨⟨v, rfl, by rw [ht]; exact hp⟩, hS.F ht⟩
theorem xiret {v : Int32} (hd0 : s.drawn.sameBut d0 lw_cs) (hexec : p.tables.exec = Jvm.exec) (hb : c.code = cc) (hr : meth.sig.returnType = some .int) (hlocks : meth.locks = false) (hS : va_S (xA b0) s.heap H locs) (hc : cells ≤ rm.cells) (hs : slots ≤ rm.slots) (hdg : decode cc pc = .ok (.ireturn, 1)) (hp : post (some (.int v)) H) : W p l e R (s.setDrawn d0) m args below meth c H locs cells slots (xMQ below post px args s rm b0) (F0 m pc ls [.int v]) :=
  xend hd0 (W.widen hc hs (vx_ret (W.iret hexec hb hr (fun _ ht _ => xq_of (s := s.setDrawn d0) ht hS hp) hS.2.2 hdg hlocks)))
theorem xzret {v : Int32} {rt : FieldType} (hn : narrow rt (.int v) = .int v) (hd0 : s.drawn.sameBut d0 lw_cs) (hexec : p.tables.exec = Jvm.exec) (hb : c.code = cc) (hr : meth.sig.returnType = some rt) (hlocks : meth.locks = false) (hS : va_S (xA b0) s.heap H locs) (hc : cells ≤ rm.cells) (hs : slots ≤ rm.slots) (hdg : decode cc pc = .ok (.ireturn, 1)) (hp : post (some (.int v)) H) : W p l e R (s.setDrawn d0) m args below meth c H locs cells slots (xMQ below post px args s rm b0) (F0 m pc ls [.int v]) :=
  xend hd0 (W.widen hc hs (vx_ret (W.zret hexec hb hr hn (fun _ ht _ => xq_of (s := s.setDrawn d0) ht hS hp) hS.2.2 hdg hlocks)))
theorem xdret {v : UInt64} (hd0 : s.drawn.sameBut d0 lw_cs) (hexec : p.tables.exec = Jvm.exec) (hb : c.code = cc) (hr : meth.sig.returnType = some .double) (hlocks : meth.locks = false) (hS : va_S (xA b0) s.heap H locs) (hc : cells ≤ rm.cells) (hs : slots ≤ rm.slots) (hdg : decode cc pc = .ok (.dreturn, 1)) (hp : post (some (.double v)) H) : W p l e R (s.setDrawn d0) m args below meth c H locs cells slots (xMQ below post px args s rm b0) (F0 m pc ls [.double v]) :=
  xend hd0 (W.widen hc hs (vx_ret (W.dret hexec hb hr (fun _ ht _ => xq_of (s := s.setDrawn d0) ht hS hp) hS.2.2 hdg hlocks)))
theorem xvret (hd0 : s.drawn.sameBut d0 lw_cs) (hexec : p.tables.exec = Jvm.exec) (hb : c.code = cc) (hr : meth.sig.returnType = none) (hlocks : meth.locks = false) (hS : va_S (xA b0) s.heap H locs) (hc : cells ≤ rm.cells) (hs : slots ≤ rm.slots) (hdg : decode cc pc = .ok (.return_, 1)) (hp : post none H) : W p l e R (s.setDrawn d0) m args below meth c H locs cells slots (xMQ below post px args s rm b0) (F0 m pc ls []) :=
  xend hd0 (W.widen hc hs (vx_ret (W.vret hexec hb hr (fun _ ht _ => xq_of (s := s.setDrawn d0) ht hS hp) hS.2.2 hdg hlocks)))
theorem xaret {v : Value} {rt : FieldType} (hrt : (∃ n, rt = .object n) ∨ ∃ t, rt = .array t) (hv : v = .null ∨ ∃ a, v = .ref a) (hd0 : s.drawn.sameBut d0 lw_cs) (hexec : p.tables.exec = Jvm.exec) (hb : c.code = cc) (hr : meth.sig.returnType = some rt) (hlocks : meth.locks = false) (hS : va_S (xA b0) s.heap H locs) (hc : cells ≤ rm.cells) (hs : slots ≤ rm.slots) (hdg : decode cc pc = .ok (.areturn, 1)) (hp : post (some v) H) : W p l e R (s.setDrawn d0) m args below meth c H locs cells slots (xMQ below post px args s rm b0) (F0 m pc ls [v]) :=
  xend hd0 (W.widen hc hs (vx_ret (W.aret hexec hb hr hrt hv (fun _ ht _ => xq_of (s := s.setDrawn d0) ht hS hp) hS.2.2 hdg hlocks)))
/-- thrown by a callee, not caught here -/
theorem xout {E : String} {ce : Cell} {q : Addr} (hd0 : s.drawn.sameBut d0 lw_cs) (hout : ∀ x ∈ c.exceptionTable.toList, False) (hlocks : meth.locks = false) (hcell : H[q]? = some ce) (hv : ce.vm = .none) (hcl : s.vm.findClass E = some ce.cls) (hS : va_S (xA b0) s.heap H locs) (hc : cells ≤ rm.cells) (hs : slots ≤ rm.slots) (hp : px E H) : vx_W p l e R (s.setDrawn d0) m args below meth c H locs cells slots (xMQ below post px args s rm b0) (F0 m pc ls rest) q :=
  xend_x hd0 (vx_out (fun x hx => (hout x hx).elim) hlocks hcell hv hcl (fun t ht _ => ⟨by rw [ht]; exact hp, va_S.F (s := s.setDrawn d0) hS ht⟩) hS.2.2 hc hs)
end XEnds
section XBack
variable {l : Launch} {R : Room} {p : Program} {e : Env} {below : List Frame} {s : State} {sargs : Array Value} {y : MethodName} {len W9 : Nat}
/-- a callee that returns or throws, over another record of draws -/
def xBack (l : Launch) (R : Room) (p : Program) (e : Env) (below : List Frame) (s : State) (sargs : Array Value) (y : MethodName) (len W9 : Nat)
    (Pre : Pt → Array Value → Prop) (Post : Pt → Array Value → Option Value → Pt → Prop) (PostX : Pt → Array Value → Addr → Pt → Prop) : Prop :=
  ∀ (m : MethodId) (meth : Method) (c : Code) (A : Pt) (g : JFrame) (ig : Instr) (mk : MethodId) (a : Array Value),
    Stand p l e R s m sargs below meth c A.U A.locs A.cells A.slots → g.method = m → g.locals.size = c.maxLocals → decode c.code g.pc = .ok (ig, len) →
    2 * g.monitorRoom + (g.stack.map fun v => v.category).sum ≤ W9 → A.U.methodNamed? y = some mk → Pre A a →
    (∃ (v : Option Value) (B : Pt) (d : Drawn), s.drawn.sameBut d lw_cs ∧ Stand p l e R (s.setDrawn d) m sargs below meth c B.U B.locs B.cells B.slots ∧ Post ⟨A.U.setDrawn d, A.locs, A.cells, A.slots⟩ a v B ∧
      Steps p.tables e below (doInvoke e (A.U.setTop g) [] mk a).1 (B.U.setTop { g with pc := g.pc + len, stack := v.toList ++ g.stack })) ∨
    (∃ (q : Addr) (B : Pt) (d : Drawn), s.drawn.sameBut d lw_cs ∧ Stand p l e R (s.setDrawn d) m sargs below meth c B.U B.locs B.cells B.slots ∧ PostX ⟨A.U.setDrawn d, A.locs, A.cells, A.slots⟩ a q B ∧
      Steps p.tables e below (doInvoke e (A.U.setTop g) [] mk a).1 ((B.U.setTop g).pushFrame (.throwing q)))
theorem xback {ws : List Cond} {rm : Room} {G : va_G} {ty : Nat → ClassId} {b0 : Nat} {av : List Value} {H : Heap} {post : Option Value → Heap → Prop} {px : String → Heap → Prop} {bytes : ByteArray} {maxL : Nat} {ret : Option FieldType}
    (hM : xMet l y ws rm G ty b0 av H post px)
    (hframes : rm.frames + 1 ≤ R.frames) (hlocals : W9 + (maxL + 11) + rm.locals ≤ R.locals)
    (hws : ∀ w ∈ ws, ∀ a' U, s.WarmedH U.vm → w.before a' U = true) (hcode : Cond.code y bytes maxL ret ∈ ws) (hinit : ∀ a' U, s.WarmedH U.vm → (Cond.initialized y.cls).before a' U = true) :
    xBack l R p e below s sargs y len W9 (PreOf R rm.cells rm.slots (xPc G ty b0 av H)) (PostOf (xQ b0 post) rm.cells rm.slots (xA b0)) (vx_Post (xX b0 px) rm.cells rm.slots (xA b0)) := by
  intro m meth c A g ig mk a X hg hsize hdg hW hn hp
  have h1 : (headSpec ws rm).pre.before a A.U = true := atoms_intro fun w hw => hws w hw _ _ X.warmed
  have h2 : (Cond.code y bytes maxL ret).before a A.U = true := hws _ hcode _ _ X.warmed
  have h3 : (Cond.initialized y.cls).before a A.U = true := hinit _ _ X.warmed
  have h4 : A.cells + (headSpec ws rm).room.cells ≤ R.cells := hp.1
  have h5 : A.slots + (headSpec ws rm).room.slots ≤ R.slots := hp.2.1
  have hPc : xPc G ty b0 av H a (A.U.calling g mk a) := xPc.blind G ty b0 av H _ _ _ _ hp.2.2
  obtain ⟨U, Ls, c0, s0⟩ := A
  dsimp only [Pt.U, Pt.locs, Pt.cells, Pt.slots] at h1 h2 h3 h4 h5 X hn hPc ⊢
  obtain ⟨methY, cY, hmY, hcY, -, hlY, -, -, -, -⟩ := Cond.code_spec hn h2
  obtain ⟨kY, hkY, -⟩ := className_of_methodNamed hn
  have hinitY : kY.init = .initialized := Cond.initialized_spec (findClass_of_methodNamed hn) hkY h3
  have h : At U g.method c below := by rw [hg]; exact X.here
  have hlocals9 : W9 + (maxL + 11) + (headSpec ws rm).room.locals ≤ R.locals := hlocals
  have happ : (headSpec ws rm).appliesLoose y e.platform (U.calling g mk a) = true :=
    Spec.appliesLoose_calling (g := g) h hdg hn hkY hinitY
      (X.room_calling (g := g) (R' := (headSpec ws rm).room) hsize hmY hcY hframes (by rw [hlY]; omega) h4 h5) h1
  obtain ⟨mid, hmid⟩ := h.above
  have hfr : (U.setTop g).frames = (.java g :: mid) ++ below := by rw [State.frames_setTop' g h.top, hmid]; rfl
  obtain ⟨o, s₂, hsteps, -, hend, hq⟩ := Steps.callFree hM p X.admits X.cas X.clock (acts := []) hfr happ hPc trivial
  have hq' : ∃ d : Drawn, (U.calling g mk a).drawn.sameBut d lw_cs ∧ vx_Q (xQ b0 post) (xX b0 px) rm.cells rm.slots (xA b0) a ((U.calling g mk a).setDrawn d) o s₂ := hq
  rw [State.frames_setTop' g h.top] at hend
  obtain ⟨d, hd, hqd⟩ := hq'
  have hcdr : (U.calling g mk a).drawn = s.drawn := by
    rw [State.calling_eq h.top]
    exact X.drawn_eq
  rw [hcdr] at hd
  have h' : At (U.setDrawn d) g.method c below := h.setDrawn d
  have X' : Stand p l e R (s.setDrawn d) m sargs below meth c (U.setDrawn d) Ls c0 s0 := X.drew d
  have hcd : (U.calling g mk a).setDrawn d = (U.setDrawn d).calling g mk a := by
    rw [State.calling_eq h.top, State.calling_eq h'.top]
    rfl
  rw [hcd] at hqd
  obtain ⟨g₀, hg0⟩ := Option.isSome_iff_exists.mp h.top
  obtain ⟨r, hr⟩ := State.topJava?_eq_some.mp hg0
  have hrV : (U.setDrawn d).frames = .java g₀ :: r := hr
  have hr' : (({ U.setDrawn d with heap := s₂.heap, slotsUsed := s₂.slotsUsed } : State).setVm s₂.vm).frames = .java g₀ :: r := hr
  rcases hqd with ⟨hqc, L, hfe, hL⟩ | ⟨q, rfl, E, ce, L, hx, hce, hcv, hcl, hW₂, hsm, hL⟩
  · obtain ⟨⟨v, rfl⟩, hW₂, e2, q2, q3, q4, q5, q6⟩ := id hfe
    have e3 : s₂ = ({ ((U.setDrawn d).calling g mk a).setFrames s₂.frames with heap := s₂.heap, slotsUsed := s₂.slotsUsed } : State).setVm s₂.vm := by
      have : s₂ = ({ s₂ with vm := ((U.setDrawn d).calling g mk a).vm } : State).setVm s₂.vm := rfl
      rw [e2] at this
      exact this
    obtain ⟨c₂, i₂, len₂, hc₂, hd₂, hf₂⟩ := hend
    have hW' : (U.setDrawn d).WarmedH s₂.vm := hW₂
    have hcc : c₂ = c := by
      have h1 : s₂.code? g.method = (U.setDrawn d).code? g.method := by
        rw [State.code?_eq, State.code?_eq, hW'.alike.method?]
      exact Option.some.inj (hc₂.symm.trans (h1.trans h'.code))
    subst hcc
    have hlen : len₂ = len := by rw [hdg] at hd₂; cases hd₂; rfl
    subst hlen
    have hs₂ : s₂ = (({ U.setDrawn d with heap := s₂.heap, slotsUsed := s₂.slotsUsed } : State).setVm s₂.vm).setTop { g with pc := g.pc + len₂, stack := v.toList ++ g.stack } := by
      refine e3.trans ?_
      rw [hf₂, State.calling_eq h'.top, State.setFrames_setFrames, State.setTop_of_frames _ hr', hr]
      rfl
    have hsame : (U.setDrawn d).sameButNew ({ U.setDrawn d with heap := s₂.heap, slotsUsed := s₂.slotsUsed } : State) L rm.cells rm.slots := by
      refine ⟨?_, q2, q3, q4, q5, q6⟩
      obtain ⟨t, ht, -⟩ := State.frames_cons hrV
      show ({ U.setDrawn d with heap := s₂.heap, slotsUsed := s₂.slotsUsed } : State) = { (U.setDrawn d).setFrames (U.setDrawn d).frames with heap := s₂.heap, slotsUsed := s₂.slotsUsed }
      rw [State.setFrames_self ht]
    subst hg
    refine Or.inl ⟨v, ⟨(({ U.setDrawn d with heap := s₂.heap, slotsUsed := s₂.slotsUsed } : State).setVm s₂.vm), Ls ++ L, c0 + rm.cells, s0 + rm.slots⟩, d, hd,
      ⟨X'.admits, X'.cas, X'.clock, X'.frames, X'.room, X'.hears, X'.method, X'.code, (X'.here.setHeapUsed s₂.heap s₂.slotsUsed).setVm hW'.alike, X'.tail, State.WarmedH.trans X'.warmed hW', X'.limits, X'.bytes, X'.same.trans (hsame.setVm (s.setDrawn d).vm)⟩,
      ⟨g, mk, s₂, L, rfl, rfl, hqc, rfl, hL, rfl, rfl⟩, ?_⟩
    show Steps p.tables e below _ ((({ U.setDrawn d with heap := s₂.heap, slotsUsed := s₂.slotsUsed } : State).setVm s₂.vm).setTop { g with pc := g.pc + len₂, stack := v.toList ++ g.stack })
    rw [← hs₂]
    exact hsteps
  · obtain ⟨e2, q2, q3, q4, q5, q6⟩ := id hsm
    have e3 : s₂ = ({ ((U.setDrawn d).calling g mk a).setFrames s₂.frames with heap := s₂.heap, slotsUsed := s₂.slotsUsed } : State).setVm s₂.vm := by
      have : s₂ = ({ s₂ with vm := ((U.setDrawn d).calling g mk a).vm } : State).setVm s₂.vm := rfl
      rw [e2] at this
      exact this
    have hf₂ : s₂.frames = .throwing q :: .java g :: (U.setDrawn d).frames.tail := hend
    have hW' : (U.setDrawn d).WarmedH s₂.vm := hW₂
    have hs₂ : s₂ = ((({ U.setDrawn d with heap := s₂.heap, slotsUsed := s₂.slotsUsed } : State).setVm s₂.vm).setTop g).pushFrame (.throwing q) := by
      refine e3.trans ?_
      rw [hf₂, State.calling_eq h'.top, State.setFrames_setFrames, State.pushFrame, State.frames_setTop _ hr', State.setTop_of_frames _ hr', State.setFrames_setFrames, hrV]
      rfl
    have hsame : (U.setDrawn d).sameButNew ({ U.setDrawn d with heap := s₂.heap, slotsUsed := s₂.slotsUsed } : State) L rm.cells rm.slots := by
      refine ⟨?_, q2, q3, q4, q5, q6⟩
      obtain ⟨t, ht, -⟩ := State.frames_cons hrV
      show ({ U.setDrawn d with heap := s₂.heap, slotsUsed := s₂.slotsUsed } : State) = { (U.setDrawn d).setFrames (U.setDrawn d).frames with heap := s₂.heap, slotsUsed := s₂.slotsUsed }
      rw [State.setFrames_self ht]
    subst hg
    refine Or.inr ⟨q, ⟨(({ U.setDrawn d with heap := s₂.heap, slotsUsed := s₂.slotsUsed } : State).setVm s₂.vm), Ls ++ L, c0 + rm.cells, s0 + rm.slots⟩, d, hd,
      ⟨X'.admits, X'.cas, X'.clock, X'.frames, X'.room, X'.hears, X'.method, X'.code, (X'.here.setHeapUsed s₂.heap s₂.slotsUsed).setVm hW'.alike, X'.tail, State.WarmedH.trans X'.warmed hW', X'.limits, X'.bytes, X'.same.trans (hsame.setVm (s.setDrawn d).vm)⟩,
      ⟨g, mk, s₂, L, E, ce, rfl, rfl, hx, hce, hcv, hcl, rfl, hL, rfl, rfl⟩, ?_⟩
    show Steps p.tables e below _ (((({ U.setDrawn d with heap := s₂.heap, slotsUsed := s₂.slotsUsed } : State).setVm s₂.vm).setTop g).pushFrame (.throwing q))
    rw [← hs₂]
    exact hsteps
end XBack
section XCalls
variable {p : Program} {l : Launch} {e : Env} {R : Room} {s : State} {m : MethodId} {args : Array Value} {below : List Frame} {meth : Method} {c : Code} {H : Heap} {locs : List Loc} {cells slots : Nat} {Q : State → Prop} {d0 : Drawn}
variable {y : MethodName} {bytes cc : ByteArray} {maxL nL n index : Nat} {ret : Option FieldType} {ws : List Cond} {rm : Room} {Ts : List Cond} {own C host : String} {b : Addr} {As rest : List Value} {g : JFrame}
variable {G : va_G} {ty : Nat → ClassId} {b0 : Nat} {av : List Value} {post : Option Value → Heap → Prop} {px : String → Heap → Prop}
/-- the step into a callee, whatever its kind -/
def xInto (p : Program) (l : Launch) (e : Env) (R : Room) (s : State) (m : MethodId) (args : Array Value) (below : List Frame) (meth : Method) (c : Code) (H : Heap) (locs : List Loc) (cells slots : Nat) (y : MethodName) (g : JFrame) (rest : List Value) (av : List Value) (ig : Instr) : Prop :=
  g.method = m ∧ g.locals.size = c.maxLocals ∧ decode c.code g.pc = .ok (ig, 3) ∧ 2 * g.monitorRoom + (rest.map fun v => v.category).sum ≤ 8 ∧
  ∀ T : State, T.heap = H → Stand p l e R s m args below meth c T locs cells slots → ∃ (vm₁ : Vm) (mk : MethodId), s.WarmedH vm₁ ∧ Stand p l e R s m args below meth c (T.setVm vm₁) locs cells slots ∧ (T.setVm vm₁).methodNamed? y = some mk ∧
    ∀ target, Steps p.tables e below (doInvoke e ((T.setVm vm₁).setTop { g with stack := rest }) [] mk av.toArray).1 target → Steps p.tables e below (T.setTop g) target
theorem xintoV (S : CallFix p m c cc nL s args Ts own) (cw : CallW R s args own C index y bytes maxL ret ws rm rm.cells rm.slots n) (hrecv : ∃ cellB : Cell, H[b]? = some cellB ∧ cellB.vm.isStatics = false ∧ s.vm.findClass C = some cellB.cls)
    (hg : g.method = m) (hn : As.length = n) (hsize : g.locals.size = nL) (hstack : g.stack = As.reverse ++ .ref b :: rest) (hW : 2 * g.monitorRoom + (rest.map fun v => v.category).sum ≤ 8) (hdg : decode cc g.pc = .ok (.invokevirtual index, 3)) :
    xInto p l e R s m args below meth c H locs cells slots y g rest (.ref b :: As) (.invokevirtual index) := by
  obtain ⟨⟨-, -, -, -, -, -, hcode, -, hy, hlen, hlink⟩, hinst, hsel⟩ := cw
  obtain ⟨hexec, hb, hml, hown, -⟩ := S
  obtain ⟨cellB, hcell, hobj, hcls⟩ := hrecv
  refine ⟨hg, hsize.trans hml.symm, by rw [hb]; exact hdg, hW, ?_⟩
  intro T hT X
  obtain ⟨mk, methM, hnamed, hmethM, hstM, habM⟩ := Cond.instanceMethod_spec hinst
  obtain ⟨methM', cM, hmethM', -, -, -, -, -, -, hsigM⟩ := Cond.code_spec hnamed hcode
  cases hmethM.symm.trans hmethM'
  obtain ⟨c2, r2, m2, q1, q2, q3, q4, kP, hkP, hkPi⟩ := Cond.selects_spec hsel
  cases hcls.symm.trans q1
  cases (State.methodFound?_of_named hnamed hy).symm.trans q2
  cases hnamed.symm.trans q3
  have hselP : selectMethod e.platform s.vm cellB.cls mk = .method mk := by rw [Launch.admits_selectMethod X.admits]; exact q4
  obtain ⟨vm₁, X₁, hstep₁⟩ := X.invokevirtual hexec hown hlink hnamed hmethM hstM hkP hkPi hy (a := b) (cell := cellB) (by rw [hT]; exact hcell)
    (fun z h => by rw [h] at hobj; cases hobj) hselP hmethM habM hkP hkPi (g := g) hg (argsL := As) (rest := rest) (hn.trans (hlen _ hsigM)) hstack (by rw [hb]; exact hdg)
  exact ⟨vm₁, mk, X₁.warmed, X₁, X₁.named hnamed, fun target h => hstep₁ _ fun acts => by rw [doInvoke_state]; exact h⟩
theorem xintoS (S : CallFix p m c cc nL s args Ts own) (cw : CallB R s args own index y bytes maxL ret ws rm rm.cells rm.slots n ∧ (Cond.static y).before args s = true)
    (hg : g.method = m) (hn : As.length = n) (hsize : g.locals.size = nL) (hstack : g.stack = As.reverse ++ rest) (hW : 2 * g.monitorRoom + (rest.map fun v => v.category).sum ≤ 8) (hdg : decode cc g.pc = .ok (.invokestatic index, 3)) :
    xInto p l e R s m args below meth c H locs cells slots y g rest As (.invokestatic index) := by
  obtain ⟨⟨-, -, -, -, -, -, hcode, hinit, hy, hlen, hlink⟩, hstat⟩ := cw
  obtain ⟨hexec, hb, hml, hown, -⟩ := S
  refine ⟨hg, hsize.trans hml.symm, by rw [hb]; exact hdg, hW, ?_⟩
  intro T hT X
  obtain ⟨mk, hnamed⟩ := Cond.code_named hcode
  obtain ⟨methM, cM, hmethM, -, -, -, -, -, -, hsigM⟩ := Cond.code_spec hnamed hcode
  have hstatic : methM.isStatic = true := Cond.static_spec hnamed hmethM hstat
  obtain ⟨kP, hkP, -⟩ := className_of_methodNamed hnamed
  have hinitP : kP.init = .initialized := Cond.initialized_spec (findClass_of_methodNamed hnamed) hkP hinit
  obtain ⟨vm₁, X₁, hstep₁⟩ := X.invokestatic hexec hown hlink hnamed hmethM hstatic hkP hinitP hy (g := g) hg (argsL := As) (rest := rest) (hn.trans (hlen _ hsigM)) hstack (by rw [hb]; exact hdg)
  exact ⟨vm₁, mk, X₁.warmed, X₁, X₁.named hnamed, fun target h => hstep₁ _ fun acts => by rw [doInvoke_state]; exact h⟩
theorem xintoSN (S : CallFix p m c cc nL s args Ts own) (cw : va_CN R s args own index y host bytes maxL ret ws rm rm.cells rm.slots n ∧ (Cond.static y).before args s = true ∧ True)
    (hg : g.method = m) (hn : As.length = n) (hsize : g.locals.size = nL) (hstack : g.stack = As.reverse ++ rest) (hW : 2 * g.monitorRoom + (rest.map fun v => v.category).sum ≤ 8) (hdg : decode cc g.pc = .ok (.invokestatic index, 3)) :
    xInto p l e R s m args below meth c H locs cells slots y g rest As (.invokestatic index) := by
  obtain ⟨⟨-, hcode, hinit, hy, hlen, hlink⟩, hstat, -⟩ := cw
  obtain ⟨hexec, hb, hml, hown, -⟩ := S
  refine ⟨hg, hsize.trans hml.symm, by rw [hb]; exact hdg, hW, ?_⟩
  intro T hT X
  obtain ⟨mk, hnamed⟩ := Cond.code_named hcode
  obtain ⟨methM, cM, hmethM, -, -, -, -, -, -, hsigM⟩ := Cond.code_spec hnamed hcode
  have hstatic : methM.isStatic = true := Cond.static_spec hnamed hmethM hstat
  obtain ⟨kP, hkP, -⟩ := className_of_methodNamed hnamed
  have hinitP : kP.init = .initialized := Cond.initialized_spec (findClass_of_methodNamed hnamed) hkP hinit
  obtain ⟨vm₁, X₁, hstep₁⟩ := X.invokestaticNest hexec hown hlink hnamed hmethM hstatic hkP hinitP hy (g := g) hg (argsL := As) (rest := rest) (hn.trans (hlen _ hsigM)) hstack (by rw [hb]; exact hdg)
  exact ⟨vm₁, mk, X₁.warmed, X₁, X₁.named hnamed, fun target h => hstep₁ _ fun acts => by rw [doInvoke_state]; exact h⟩
theorem xintoI (S : CallFix p m c cc nL s args Ts own) (cw : CallB R s args own index y bytes maxL none ws rm rm.cells rm.slots n ∧ y.name = "<init>" ∧ (Cond.instanceMethod y).before args s = true)
    (hg : g.method = m) (hn : As.length = n) (hsize : g.locals.size = nL) (hstack : g.stack = As.reverse ++ .ref b :: rest) (hW : 2 * g.monitorRoom + (rest.map fun v => v.category).sum ≤ 8) (hdg : decode cc g.pc = .ok (.invokespecial index, 3)) :
    xInto p l e R s m args below meth c H locs cells slots y g rest (.ref b :: As) (.invokespecial index) := by
  obtain ⟨⟨-, -, -, -, -, -, hcode, -, hy, hlen, hlink⟩, hy1, hinst⟩ := cw
  obtain ⟨hexec, hb, hml, hown, -⟩ := S
  refine ⟨hg, hsize.trans hml.symm, by rw [hb]; exact hdg, hW, ?_⟩
  intro T hT X
  subst hg
  have hpl : e.platform.magicAccessors = ({} : Platform).magicAccessors := by rw [X.admits.platform]
  obtain ⟨mk, methM, cM, kP, vm₁, hnamed, hmethM, hcodeM, -, hlocalsM, -, hkP, -, hW₁, hstep₁⟩ := Steps.initColdArgs (e := e) X.here hexec X.warmed hpl hown hy1 hy hlink hinst hcode (f := g) rfl (argsL := As) (rest := rest) (fun sig h => hn.trans (hlen sig h)) hstack (by rw [hb]; exact hdg)
  have X₁ := X.noted hW₁
  exact ⟨vm₁, mk, X₁.warmed, X₁, X₁.named hnamed, fun target h => hstep₁ _ fun acts => by rw [doInvoke_state]; exact h⟩
theorem xintoIN (S : CallFix p m c cc nL s args Ts own) (cw : va_CN R s args own index y host bytes maxL none ws rm rm.cells rm.slots n ∧ y.name = "<init>" ∧ (Cond.instanceMethod y).before args s = true)
    (hg : g.method = m) (hn : As.length = n) (hsize : g.locals.size = nL) (hstack : g.stack = As.reverse ++ .ref b :: rest) (hW : 2 * g.monitorRoom + (rest.map fun v => v.category).sum ≤ 8) (hdg : decode cc g.pc = .ok (.invokespecial index, 3)) :
    xInto p l e R s m args below meth c H locs cells slots y g rest (.ref b :: As) (.invokespecial index) := by
  obtain ⟨⟨-, hcode, -, hy, hlen, hlink⟩, hy1, hinst⟩ := cw
  obtain ⟨hexec, hb, hml, hown, -⟩ := S
  refine ⟨hg, hsize.trans hml.symm, by rw [hb]; exact hdg, hW, ?_⟩
  intro T hT X
  subst hg
  have hpl : e.platform.magicAccessors = ({} : Platform).magicAccessors := by rw [X.admits.platform]
  obtain ⟨mk, methM, cM, kP, vm₁, hnamed, hmethM, hcodeM, -, hlocalsM, -, hkP, -, hW₁, hstep₁⟩ := Steps.initColdArgsNest (e := e) X.here hexec X.warmed hpl hown hy1 hy hlink hinst hcode (f := g) rfl (argsL := As) (rest := rest) (fun sig h => hn.trans (hlen sig h)) hstack (by rw [hb]; exact hdg)
  have X₁ := X.noted hW₁
  exact ⟨vm₁, mk, X₁.warmed, X₁, X₁.named hnamed, fun target h => hstep₁ _ fun acts => by rw [doInvoke_state]; exact h⟩
/-- what a call owes besides: the callee's words, its room -/
abbrev xOwe (R : Room) (s : State) (y : MethodName) (ws : List Cond) (bytes : ByteArray) (maxL : Nat) (ret : Option FieldType) (rm : Room) : Prop :=
  rm.frames + 1 ≤ R.frames ∧ 8 + (maxL + 11) + rm.locals ≤ R.locals ∧ (∀ w ∈ ws, ∀ (a' : Array Value) (U : State), s.WarmedH U.vm → w.before a' U = true) ∧ Cond.code y bytes maxL ret ∈ ws ∧ (∀ (a' : Array Value) (U : State), s.WarmedH U.vm → (Cond.initialized y.cls).before a' U = true)
theorem xoweB (cb : CallB R s args own index y bytes maxL ret ws rm rm.cells rm.slots n) : xOwe R s y ws bytes maxL ret rm := by
  obtain ⟨-, -, hfr, hlo, hws, hcw, -, hini, -⟩ := cb
  exact ⟨hfr, hlo, hws, hcw, fun a' U hW => word_at hW (Or.inl (by first | rfl | simp [Cond.onTables, Cond.keeps, Cond.steady])) hini⟩
theorem xoweN (cb : va_CN R s args own index y host bytes maxL ret ws rm rm.cells rm.slots n) : xOwe R s y ws bytes maxL ret rm := by
  obtain ⟨⟨-, -, hfr, hlo, hws, hcw⟩, -, hini, -⟩ := cb
  exact ⟨hfr, hlo, hws, hcw, fun a' U hW => word_at hW (Or.inl (by first | rfl | simp [Cond.onTables, Cond.keeps, Cond.steady])) hini⟩
/-- THE CALL: where it throws, where it comes back -/
theorem xcall {pc : Nat} {ls : Array Slot} {st0 : List Value} {ig : Instr} (hd0 : s.drawn.sameBut d0 lw_cs) (hI : xInto p l e R (s.setDrawn d0) m args below meth c H locs cells slots y (F0 m pc ls st0) rest av ig) (hM : xMet l y ws rm G ty b0 av H post px) (ho : xOwe R (s.setDrawn d0) y ws bytes maxL ret rm)
    (hK : xK G ty b0 s) (hb0 : b0 ≤ s.heap.size) (hS : va_S (xA b0) s.heap H locs) (hc : cells + rm.cells ≤ R.cells) (hs : slots + rm.slots ≤ R.slots)
    (kx : ∀ (E : String) (ce : Cell) (q9 : Addr) (H1 : Heap) (locs1 : List Loc) (d1 : Drawn), s.drawn.sameBut d1 lw_cs → px E H1 → va_S (xA b0) s.heap H1 locs1 → H1[q9]? = some ce → ce.vm = .none → s.vm.findClass E = some ce.cls → vx_W p l e R (s.setDrawn d1) m args below meth c H1 locs1 (cells + rm.cells) (slots + rm.slots) Q (F0 m pc ls rest) q9)
    (kk : ∀ (v : Option Value) (H1 : Heap) (locs1 : List Loc) (d1 : Drawn), s.drawn.sameBut d1 lw_cs → post v H1 → va_S (xA b0) s.heap H1 locs1 → W p l e R (s.setDrawn d1) m args below meth c H1 locs1 (cells + rm.cells) (slots + rm.slots) Q (F0 m (pc + 3) ls (v.toList ++ rest))) : W p l e R (s.setDrawn d0) m args below meth c H locs cells slots Q (F0 m pc ls st0) := by
  obtain ⟨hg, hsize, hdg, hW, hI⟩ := hI
  obtain ⟨hfr, hlo, hws, hcw, hini⟩ := ho
  intro T hT X
  obtain ⟨vm₁, mk, hW₁, X₁, hn, hst⟩ := hI T hT X
  have hB := xback (R := R) (p := p) (e := e) (below := below) (s := s.setDrawn d0) (sargs := args) (len := 3) (W9 := 8) hM hfr hlo hws hcw hini
  have hSd : va_S (xA b0) (s.setDrawn d0).heap (T.setVm vm₁).heap locs := by
    show va_S (xA b0) s.heap T.heap locs
    rw [hT]; exact hS
  have hKd : xK G ty b0 (s.setDrawn d0) := hK.drawn d0
  have hKT : xK G ty b0 (T.setVm vm₁) := xK.to (s := s.setDrawn d0) hW₁ hSd hKd
  have hpre : PreOf R rm.cells rm.slots (xPc G ty b0 av H) ⟨T.setVm vm₁, locs, cells, slots⟩ av.toArray := ⟨hc, hs, rfl, hT, hKT, Nat.le_trans hb0 hS.1⟩
  have keep : ∀ {st t T' : State} {L : List Loc}, st.heap = H → T'.heap = t.heap → (∀ q ∈ L, xA b0 q.base) → va_F (xA b0) st t → va_S (xA b0) s.heap T'.heap (locs ++ L) := by
    intro st t T' L h0 e1 hL hF
    exact (vx_keep h0 e1 hS (fun _ _ h => h) (fun _ h => h) hL hF).2.2
  rcases hB m meth c ⟨T.setVm vm₁, locs, cells, slots⟩ { F0 m pc ls st0 with stack := rest } ig mk av.toArray X₁ hg hsize hdg hW hn hpre with ⟨v, ⟨U', l2, c2, s2⟩, d, hd, X', ⟨g', mk', t, L, e1, e2, ⟨⟨v', hv', hp⟩, hF⟩, h1, hL, h2, h3⟩, st⟩ | ⟨q, ⟨U', l2, c2, s2⟩, d, hd, X', ⟨g', mk', t, L, E, ce, e1, e2, ⟨hp, hF⟩, hce, hcv, hcl, h1, hL, h2, h3⟩, st⟩
  · dsimp only [Pt.U, Pt.locs, Pt.cells, Pt.slots] at X' e1 e2 h1 h2 h3 st hF
    subst h1; subst h2; subst h3
    cases hv'
    have hS1 := keep (st := (((T.setVm vm₁).setDrawn d).calling g' mk' av.toArray)) (T' := U') hT e1 hL hF
    obtain ⟨t2, a1, b1⟩ := kk v U'.heap (locs ++ L) d (hd0.trans hd) (by rw [e1]; exact hp) hS1 U' rfl X'
    exact ⟨t2, hst _ (st.trans a1), b1⟩
  · dsimp only [Pt.U, Pt.locs, Pt.cells, Pt.slots] at X' e1 e2 h1 h2 h3 st hF hcl
    subst h1; subst h2; subst h3
    have hS1 := keep (st := (((T.setVm vm₁).setDrawn d).calling g' mk' av.toArray)) (T' := U') hT e1 hL hF
    have hcl' : s.vm.findClass E = some ce.cls := by
      have h9 : vm₁.findClass E = some ce.cls := hcl
      rw [hW₁.alike.findClass] at h9
      exact h9
    obtain ⟨t2, a1, b1⟩ := kx E ce q U'.heap (locs ++ L) d (hd0.trans hd) (by rw [e1]; exact hp) hS1 (by rw [e1]; exact hce) hcv hcl' U' rfl X'
    exact ⟨t2, hst _ (st.trans a1), b1⟩
end XCalls
