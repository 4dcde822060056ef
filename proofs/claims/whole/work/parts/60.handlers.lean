/-! BODIES WITH HANDLERS, and their calls. -/
section XBackW
variable {l : Launch} {R : Room} {p : Program} {e : Env} {below : List Frame} {s : State} {sargs : Array Value} {y : MethodName} {len W9 : Nat}
theorem xbackW {hh : List (Nat × Nat × Nat × Nat)} {ws : List Cond} {rm : Room} {G : va_G} {ty : Nat → ClassId} {b0 : Nat} {av : List Value} {H : Heap} {post : Option Value → Heap → Prop} {px : String → Heap → Prop} {bytes : ByteArray} {maxL : Nat} {ret : Option FieldType}
    (hM : xMet l y ws rm G ty b0 av H post px)
    (hframes : rm.frames + 1 ≤ R.frames) (hlocals : W9 + (maxL + 11) + rm.locals ≤ R.locals)
    (hws : ∀ w ∈ ws, ∀ a' U, s.WarmedH U.vm → w.before a' U = true) (hcode : Cond.codeWith y bytes maxL ret hh ∈ ws) (hinit : ∀ a' U, s.WarmedH U.vm → (Cond.initialized y.cls).before a' U = true) :
    xBack l R p e below s sargs y len W9 (PreOf R rm.cells rm.slots (xPc G ty b0 av H)) (PostOf (xQ b0 post) rm.cells rm.slots (xA b0)) (vx_Post (xX b0 px) rm.cells rm.slots (xA b0)) := by
  intro m meth c A g ig mk a X hg hsize hdg hW hn hp
  have h1 : (headSpec ws rm).pre.before a A.U = true := atoms_intro fun w hw => hws w hw _ _ X.warmed
  have h2 : (Cond.codeWith y bytes maxL ret hh).before a A.U = true := hws _ hcode _ _ X.warmed
  have h3 : (Cond.initialized y.cls).before a A.U = true := hinit _ _ X.warmed
  have h4 : A.cells + (headSpec ws rm).room.cells ≤ R.cells := hp.1
  have h5 : A.slots + (headSpec ws rm).room.slots ≤ R.slots := hp.2.1
  have hPc : xPc G ty b0 av H a (A.U.calling g mk a) := xPc.blind G ty b0 av H _ _ _ _ hp.2.2
  obtain ⟨U, Ls, c0, s0⟩ := A
  dsimp only [Pt.U, Pt.locs, Pt.cells, Pt.slots] at h1 h2 h3 h4 h5 X hn hPc ⊢
  obtain ⟨m9, methY, cY, hn9, hmY, hcY, -, hlY, -⟩ := Cond.codeWith_spec h2
  cases Option.some.inj (hn9.symm.trans hn)
  obtain ⟨kY, hkY, -⟩ := className_of_methodNamed hn
  have hinitY : kY.init = .initialized := Cond.initialized_spec (findClass_of_methodNamed hn) hkY h3
  have h : At U g.method c below := by rw [hg]; exact X.here
  have hlocals9 : W9 + (maxL + 11) + (headSpec ws rm).room.locals ≤ R.locals := hlocals
  have happ : (headSpec ws rm).appliesLoose y e.platform (U.calling g mk a) = true :=
    Spec.appliesLoose_calling (g := g) h hdg hn hkY hinitY
      (X.room_calling (g := g) (R' := (headSpec ws rm).room) hsize hmY hcY hframes (by rw [hlY]; omega) h4 h5) h1
  obtain ⟨mid, hmid⟩ := h.above
  have hfr : (U.setTop g).frames = (.java g :: mid) ++ below := by rw [State.frames_setTop' g h.top, hmid]; rfl
  obtain ⟨o, s₂, hsteps, -, hend, hq⟩ := Steps.callFree hM p X.admits X.cas X.clock (acts := []) hfr happ hPc trivial
  have hq' : ∃ d : Drawn, (U.calling g mk a).drawn.sameBut d lw_cs ∧ vx_Q (xQ b0 post) (xX b0 px) rm.cells rm.slots (xA b0) a ((U.calling g mk a).setDrawn d) o s₂ := hq
  rw [State.frames_setTop' g h.top] at hend
  obtain ⟨d, hd, hqd⟩ := hq'
  have hcdr : (U.calling g mk a).drawn = s.drawn := by
    rw [State.calling_eq h.top]
    exact X.drawn_eq
  rw [hcdr] at hd
  have h' : At (U.setDrawn d) g.method c below := h.setDrawn d
  have X' : Stand p l e R (s.setDrawn d) m sargs below meth c (U.setDrawn d) Ls c0 s0 := X.drew d
  have hcd : (U.calling g mk a).setDrawn d = (U.setDrawn d).calling g mk a := by
    rw [State.calling_eq h.top, State.calling_eq h'.top]
    rfl
  rw [hcd] at hqd
  obtain ⟨g₀, hg0⟩ := Option.isSome_iff_exists.mp h.top
  obtain ⟨r, hr⟩ := State.topJava?_eq_some.mp hg0
  have hrV : (U.setDrawn d).frames = .java g₀ :: r := hr
  have hr' : (({ U.setDrawn d with heap := s₂.heap, slotsUsed := s₂.slotsUsed } : State).setVm s₂.vm).frames = .java g₀ :: r := hr
  rcases hqd with ⟨hqc, L, hfe, hL⟩ | ⟨q, rfl, E, ce, L, hx, hce, hcv, hcl, hW₂, hsm, hL⟩
  · obtain ⟨⟨v, rfl⟩, hW₂, e2, q2, q3, q4, q5, q6⟩ := id hfe
    have e3 : s₂ = ({ ((U.setDrawn d).calling g mk a).setFrames s₂.frames with heap := s₂.heap, slotsUsed := s₂.slotsUsed } : State).setVm s₂.vm := by
      have : s₂ = ({ s₂ with vm := ((U.setDrawn d).calling g mk a).vm } : State).setVm s₂.vm := rfl
      rw [e2] at this
      exact this
    obtain ⟨c₂, i₂, len₂, hc₂, hd₂, hf₂⟩ := hend
    have hW' : (U.setDrawn d).WarmedH s₂.vm := hW₂
    have hcc : c₂ = c := by
      have h1 : s₂.code? g.method = (U.setDrawn d).code? g.method := by
        rw [State.code?_eq, State.code?_eq, hW'.alike.method?]
      exact Option.some.inj (hc₂.symm.trans (h1.trans h'.code))
    subst hcc
    have hlen : len₂ = len := by rw [hdg] at hd₂; cases hd₂; rfl
    subst hlen
    have hs₂ : s₂ = (({ U.setDrawn d with heap := s₂.heap, slotsUsed := s₂.slotsUsed } : State).setVm s₂.vm).setTop { g with pc := g.pc + len₂, stack := v.toList ++ g.stack } := by
      refine e3.trans ?_
      rw [hf₂, State.calling_eq h'.top, State.setFrames_setFrames, State.setTop_of_frames _ hr', hr]
      rfl
    have hsame : (U.setDrawn d).sameButNew ({ U.setDrawn d with heap := s₂.heap, slotsUsed := s₂.slotsUsed } : State) L rm.cells rm.slots := by
      refine ⟨?_, q2, q3, q4, q5, q6⟩
      obtain ⟨t, ht, -⟩ := State.frames_cons hrV
      show ({ U.setDrawn d with heap := s₂.heap, slotsUsed := s₂.slotsUsed } : State) = { (U.setDrawn d).setFrames (U.setDrawn d).frames with heap := s₂.heap, slotsUsed := s₂.slotsUsed }
      rw [State.setFrames_self ht]
    subst hg
    refine Or.inl ⟨v, ⟨(({ U.setDrawn d with heap := s₂.heap, slotsUsed := s₂.slotsUsed } : State).setVm s₂.vm), Ls ++ L, c0 + rm.cells, s0 + rm.slots⟩, d, hd,
      ⟨X'.admits, X'.cas, X'.clock, X'.frames, X'.room, X'.hears, X'.method, X'.code, (X'.here.setHeapUsed s₂.heap s₂.slotsUsed).setVm hW'.alike, X'.tail, State.WarmedH.trans X'.warmed hW', X'.limits, X'.bytes, X'.same.trans (hsame.setVm (s.setDrawn d).vm)⟩,
      ⟨g, mk, s₂, L, rfl, rfl, hqc, rfl, hL, rfl, rfl⟩, ?_⟩
    show Steps p.tables e below _ ((({ U.setDrawn d with heap := s₂.heap, slotsUsed := s₂.slotsUsed } : State).setVm s₂.vm).setTop { g with pc := g.pc + len₂, stack := v.toList ++ g.stack })
    rw [← hs₂]
    exact hsteps
  · obtain ⟨e2, q2, q3, q4, q5, q6⟩ := id hsm
    have e3 : s₂ = ({ ((U.setDrawn d).calling g mk a).setFrames s₂.frames with heap := s₂.heap, slotsUsed := s₂.slotsUsed } : State).setVm s₂.vm := by
      have : s₂ = ({ s₂ with vm := ((U.setDrawn d).calling g mk a).vm } : State).setVm s₂.vm := rfl
      rw [e2] at this
      exact this
    have hf₂ : s₂.frames = .throwing q :: .java g :: (U.setDrawn d).frames.tail := hend
    have hW' : (U.setDrawn d).WarmedH s₂.vm := hW₂
    have hs₂ : s₂ = ((({ U.setDrawn d with heap := s₂.heap, slotsUsed := s₂.slotsUsed } : State).setVm s₂.vm).setTop g).pushFrame (.throwing q) := by
      refine e3.trans ?_
      rw [hf₂, State.calling_eq h'.top, State.setFrames_setFrames, State.pushFrame, State.frames_setTop _ hr', State.setTop_of_frames _ hr', State.setFrames_setFrames, hrV]
      rfl
    have hsame : (U.setDrawn d).sameButNew ({ U.setDrawn d with heap := s₂.heap, slotsUsed := s₂.slotsUsed } : State) L rm.cells rm.slots := by
      refine ⟨?_, q2, q3, q4, q5, q6⟩
      obtain ⟨t, ht, -⟩ := State.frames_cons hrV
      show ({ U.setDrawn d with heap := s₂.heap, slotsUsed := s₂.slotsUsed } : State) = { (U.setDrawn d).setFrames (U.setDrawn d).frames with heap := s₂.heap, slotsUsed := s₂.slotsUsed }
      rw [State.setFrames_self ht]
    subst hg
    refine Or.inr ⟨q, ⟨(({ U.setDrawn d with heap := s₂.heap, slotsUsed := s₂.slotsUsed } : State).setVm s₂.vm), Ls ++ L, c0 + rm.cells, s0 + rm.slots⟩, d, hd,
      ⟨X'.admits, X'.cas, X'.clock, X'.frames, X'.room, X'.hears, X'.method, X'.code, (X'.here.setHeapUsed s₂.heap s₂.slotsUsed).setVm hW'.alike, X'.tail, State.WarmedH.trans X'.warmed hW', X'.limits, X'.bytes, X'.same.trans (hsame.setVm (s.setDrawn d).vm)⟩,
      ⟨g, mk, s₂, L, E, ce, rfl, rfl, hx, hce, hcv, hcl, rfl, hL, rfl, rfl⟩, ?_⟩
    show Steps p.tables e below _ (((({ U.setDrawn d with heap := s₂.heap, slotsUsed := s₂.slotsUsed } : State).setVm s₂.vm).setTop g).pushFrame (.throwing q))
    rw [← hs₂]
    exact hsteps
end XBackW
section XOfW
theorem xofWH {hh : List (Nat × Nat × Nat × Nat)} {l : Launch} {y : MethodName} {ws ws' : List Cond} {rm : Room} {G : va_G} {ty : Nat → ClassId} {b0 : Nat} {av : List Value} {H : Heap} {post : Option Value → Heap → Prop} {px : String → Heap → Prop} {cc : ByteArray} {maxL : Nat} {ret : Option FieldType}
    (hy : plainName y.cls = true) (hw : ws = Cond.codeWith y cc maxL ret hh :: ws')
    (body : ∀ p e s m below meth c s₁, BodyLoose p l y (headSpec ws rm) cc maxL ret e s m av.toArray below meth c s₁ → c.maxLocals = maxL → c.exceptionTable.toList = tableOf hh → s.heap = H → xK G ty b0 s → b0 ≤ H.size → s.drawn.sameBut s.drawn lw_cs →
      W p l e (headSpec ws rm).room (s.setDrawn s.drawn) m av.toArray below meth c H [] 0 0 (xMQ below post px av.toArray s rm b0) (entryFrame m av.toArray maxL)) : xMet l y ws rm G ty b0 av H post px := by
  refine MetFree.of_bodyS (code := cc) (maxLocals := maxL) (ret := ret) hy ?_ ?_
  · intro args s m h hn
    obtain ⟨m9, meth, c, hn9, h1, h2, h3, h4, -, h5, h6, -⟩ := Cond.codeWith_spec (atoms_spec (ws := ws) h _ (by rw [hw]; exact List.mem_cons_self))
    cases Option.some.inj (hn9.symm.trans hn)
    exact ⟨meth, c, h1, h2, h3, h4, h5, h6⟩
  · intro p e s m args below meth c s₁ B hml hP _
    obtain ⟨rfl, hH, hK, hb0⟩ := hP
    have hh0 : s₁.heap = H := by rw [← hH, B.state]; rfl
    have ht : c.exceptionTable.toList = tableOf hh := vx_table (x := y) B (atoms_spec (ws := ws) B.pre _ (by rw [hw]; exact List.mem_cons_self))
    have X0 : Stand p l e (headSpec ws rm).room (s.setDrawn s.drawn) m av.toArray below meth c s₁ [] 0 0 := Stand.of_body B
    obtain ⟨t, a1, d, hd, o, b1, b2, b3⟩ := body p e s m below meth c s₁ B hml ht hH hK hb0 (Drawn.sameBut.refl _ _) s₁ hh0 X0
    exact ⟨t, o, a1, b1, b2, d, hd, b3⟩
theorem xbodyH {hh : List (Nat × Nat × Nat × Nat)} {l : Launch} {y : MethodName} {ws ws' : List Cond} {rm : Room} {G : va_G} {ty : Nat → ClassId} {b0 : Nat} {av : List Value} {H : Heap} {post : Option Value → Heap → Prop} {px : String → Heap → Prop} {cc : ByteArray} {maxL : Nat} {ret : Option FieldType} {C : String} {lv : List (Nat × Value)}
    (hy : plainName y.cls = true) (hw : ws = Cond.codeWith y cc maxL ret hh :: ws') (hC : y.cls = C) (hlen : (lg_sl av).length ≤ maxL) (hlv : lv_args 0 av = lv)
    (body : ∀ (p : Program) (e : Env) (s : State) (m : MethodId) (below : List Frame) (meth : Method) (c : Code) (d0 : Drawn), p.tables.exec = Jvm.exec → c.code = cc → meth.sig.returnType = ret → (∀ d : Drawn, ∀ w ∈ ws, w.before av.toArray (s.setDrawn d) = true) → s.vm.findClass C = some m.cls → meth.locks = false → c.maxLocals = maxL → c.exceptionTable.toList = tableOf hh → meth.name = y.name → xK G ty b0 s → b0 ≤ s.heap.size → s.heap = H → va_S (xA b0) s.heap H [] → s.drawn.sameBut d0 lw_cs → ∀ ls : Array Slot, lv_has ls maxL lv →
      W p l e rm (s.setDrawn d0) m av.toArray below meth c H [] 0 0 (xMQ below post px av.toArray s rm b0) (F0 m 0 ls [])) : xMet l y ws rm G ty b0 av H post px := by
  refine xofWH (hh := hh) (cc := cc) (maxL := maxL) (ret := ret) hy hw ?_
  intro p e s m below meth c s₁ B hml hxt hH hK hb0 hd0
  have hl := lv_entry av (n := maxL) hlen
  rw [hlv] at hl
  rw [lg_entry_eq]
  generalize (lg_sl av ++ List.replicate (maxL - (lg_sl av).length) Slot.unset).toArray = ls at hl ⊢
  exact body p e s m below meth c s.drawn B.exec B.bytes B.returns (fun d => dr_words (atoms_spec (ws := ws) B.pre) d) (by rw [← hC]; exact findClass_of_methodNamed B.named) B.notSynchronized hml hxt (name_of_methodNamed B.named B.method).1 hK (by rw [hH]; exact hb0) hH (by rw [hH]; exact va_S.rf) hd0 ls hl
end XOfW
section XCallsW
variable {p : Program} {l : Launch} {e : Env} {R : Room} {s : State} {m : MethodId} {args : Array Value} {below : List Frame} {meth : Method} {c : Code} {H : Heap} {locs : List Loc} {cells slots : Nat} {Q : State → Prop} {d0 : Drawn}
variable {y : MethodName} {bytes cc : ByteArray} {maxL nL n index : Nat} {ret : Option FieldType} {ws : List Cond} {rm : Room} {Ts : List Cond} {own C host : String} {b : Addr} {As rest : List Value} {g : JFrame}
variable {G : va_G} {ty : Nat → ClassId} {b0 : Nat} {av : List Value} {post : Option Value → Heap → Prop} {px : String → Heap → Prop}
theorem xintoSW {hh : List (Nat × Nat × Nat × Nat)} (S : CallFix p m c cc nL s args Ts own) (cw : vx_CSW R s args own index y bytes maxL ret hh ws rm rm.cells rm.slots n)
    (hg : g.method = m) (hn : As.length = n) (hsize : g.locals.size = nL) (hstack : g.stack = As.reverse ++ rest) (hW : 2 * g.monitorRoom + (rest.map fun v => v.category).sum ≤ 8) (hdg : decode cc g.pc = .ok (.invokestatic index, 3)) :
    xInto p l e R s m args below meth c H locs cells slots y g rest As (.invokestatic index) := by
  obtain ⟨-, hcode, hinit, hy, hlen, hlink, hstat⟩ := cw
  obtain ⟨hexec, hb, hml, hown, -⟩ := S
  refine ⟨hg, hsize.trans hml.symm, by rw [hb]; exact hdg, hW, ?_⟩
  intro T hT X
  obtain ⟨mk, methM, cM, hnamed, hmethM, -, -, -, -, -, -, hsigM⟩ := Cond.codeWith_spec hcode
  have hstatic : methM.isStatic = true := Cond.static_spec hnamed hmethM hstat
  obtain ⟨kP, hkP, -⟩ := className_of_methodNamed hnamed
  have hinitP : kP.init = .initialized := Cond.initialized_spec (findClass_of_methodNamed hnamed) hkP hinit
  obtain ⟨vm₁, X₁, hstep₁⟩ := X.invokestatic hexec hown hlink hnamed hmethM hstatic hkP hinitP hy (g := g) hg (argsL := As) (rest := rest) (hn.trans (hlen _ hsigM)) hstack (by rw [hb]; exact hdg)
  exact ⟨vm₁, mk, X₁.warmed, X₁, X₁.named hnamed, fun target h => hstep₁ _ fun acts => by rw [doInvoke_state]; exact h⟩
/-- what a call owes besides: the callee's words, its room -/
abbrev xOweW (hh : List (Nat × Nat × Nat × Nat)) (R : Room) (s : State) (y : MethodName) (ws : List Cond) (bytes : ByteArray) (maxL : Nat) (ret : Option FieldType) (rm : Room) : Prop :=
  rm.frames + 1 ≤ R.frames ∧ 8 + (maxL + 11) + rm.locals ≤ R.locals ∧ (∀ w ∈ ws, ∀ (a' : Array Value) (U : State), s.WarmedH U.vm → w.before a' U = true) ∧ Cond.codeWith y bytes maxL ret hh ∈ ws ∧ (∀ (a' : Array Value) (U : State), s.WarmedH U.vm → (Cond.initialized y.cls).before a' U = true)
theorem xoweW {hh : List (Nat × Nat × Nat × Nat)} (cb : vx_CSW R s args own index y bytes maxL ret hh ws rm rm.cells rm.slots n) : xOweW hh R s y ws bytes maxL ret rm := by
  obtain ⟨⟨-, -, hfr, hlo, hws, hcw⟩, -, hini, -⟩ := cb
  exact ⟨hfr, hlo, hws, hcw, fun a' U hW => word_at hW (Or.inl (by first | rfl | simp [Cond.onTables, Cond.keeps, Cond.steady])) hini⟩
theorem xcallW {hh : List (Nat × Nat × Nat × Nat)} {pc : Nat} {ls : Array Slot} {st0 : List Value} {ig : Instr} (hd0 : s.drawn.sameBut d0 lw_cs) (hI : xInto p l e R (s.setDrawn d0) m args below meth c H locs cells slots y (F0 m pc ls st0) rest av ig) (hM : xMet l y ws rm G ty b0 av H post px) (ho : xOweW hh R (s.setDrawn d0) y ws bytes maxL ret rm)
    (hK : xK G ty b0 s) (hb0 : b0 ≤ s.heap.size) (hS : va_S (xA b0) s.heap H locs) (hc : cells + rm.cells ≤ R.cells) (hs : slots + rm.slots ≤ R.slots)
    (kx : ∀ (E : String) (ce : Cell) (q9 : Addr) (H1 : Heap) (locs1 : List Loc) (d1 : Drawn), s.drawn.sameBut d1 lw_cs → px E H1 → va_S (xA b0) s.heap H1 locs1 → H1[q9]? = some ce → ce.vm = .none → s.vm.findClass E = some ce.cls → vx_W p l e R (s.setDrawn d1) m args below meth c H1 locs1 (cells + rm.cells) (slots + rm.slots) Q (F0 m pc ls rest) q9)
    (kk : ∀ (v : Option Value) (H1 : Heap) (locs1 : List Loc) (d1 : Drawn), s.drawn.sameBut d1 lw_cs → post v H1 → va_S (xA b0) s.heap H1 locs1 → W p l e R (s.setDrawn d1) m args below meth c H1 locs1 (cells + rm.cells) (slots + rm.slots) Q (F0 m (pc + 3) ls (v.toList ++ rest))) : W p l e R (s.setDrawn d0) m args below meth c H locs cells slots Q (F0 m pc ls st0) := by
  obtain ⟨hg, hsize, hdg, hW, hI⟩ := hI
  obtain ⟨hfr, hlo, hws, hcw, hini⟩ := ho
  intro T hT X
  obtain ⟨vm₁, mk, hW₁, X₁, hn, hst⟩ := hI T hT X
  have hB := xbackW (hh := hh) (R := R) (p := p) (e := e) (below := below) (s := s.setDrawn d0) (sargs := args) (len := 3) (W9 := 8) hM hfr hlo hws hcw hini
  have hSd : va_S (xA b0) (s.setDrawn d0).heap (T.setVm vm₁).heap locs := by
    show va_S (xA b0) s.heap T.heap locs
    rw [hT]; exact hS
  have hKd : xK G ty b0 (s.setDrawn d0) := hK.drawn d0
  have hKT : xK G ty b0 (T.setVm vm₁) := xK.to (s := s.setDrawn d0) hW₁ hSd hKd
  have hpre : PreOf R rm.cells rm.slots (xPc G ty b0 av H) ⟨T.setVm vm₁, locs, cells, slots⟩ av.toArray := ⟨hc, hs, rfl, hT, hKT, Nat.le_trans hb0 hS.1⟩
  have keep : ∀ {st t T' : State} {L : List Loc}, st.heap = H → T'.heap = t.heap → (∀ q ∈ L, xA b0 q.base) → va_F (xA b0) st t → va_S (xA b0) s.heap T'.heap (locs ++ L) := by
    intro st t T' L h0 e1 hL hF
    exact (vx_keep h0 e1 hS (fun _ _ h => h) (fun _ h => h) hL hF).2.2
  rcases hB m meth c ⟨T.setVm vm₁, locs, cells, slots⟩ { F0 m pc ls st0 with stack := rest } ig mk av.toArray X₁ hg hsize hdg hW hn hpre with ⟨v, ⟨U', l2, c2, s2⟩, d, hd, X', ⟨g', mk', t, L, e1, e2, ⟨⟨v', hv', hp⟩, hF⟩, h1, hL, h2, h3⟩, st⟩ | ⟨q, ⟨U', l2, c2, s2⟩, d, hd, X', ⟨g', mk', t, L, E, ce, e1, e2, ⟨hp, hF⟩, hce, hcv, hcl, h1, hL, h2, h3⟩, st⟩
  · dsimp only [Pt.U, Pt.locs, Pt.cells, Pt.slots] at X' e1 e2 h1 h2 h3 st hF
    subst h1; subst h2; subst h3
    cases hv'
    have hS1 := keep (st := (((T.setVm vm₁).setDrawn d).calling g' mk' av.toArray)) (T' := U') hT e1 hL hF
    obtain ⟨t2, a1, b1⟩ := kk v U'.heap (locs ++ L) d (hd0.trans hd) (by rw [e1]; exact hp) hS1 U' rfl X'
    exact ⟨t2, hst _ (st.trans a1), b1⟩
  · dsimp only [Pt.U, Pt.locs, Pt.cells, Pt.slots] at X' e1 e2 h1 h2 h3 st hF hcl
    subst h1; subst h2; subst h3
    have hS1 := keep (st := (((T.setVm vm₁).setDrawn d).calling g' mk' av.toArray)) (T' := U') hT e1 hL hF
    have hcl' : s.vm.findClass E = some ce.cls := by
      have h9 : vm₁.findClass E = some ce.cls := hcl
      rw [hW₁.alike.findClass] at h9
      exact h9
    obtain ⟨t2, a1, b1⟩ := kx E ce q U'.heap (locs ++ L) d (hd0.trans hd) (by rw [e1]; exact hp) hS1 (by rw [e1]; exact hce) hcv hcl' U' rfl X'
    exact ⟨t2, hst _ (st.trans a1), b1⟩
/-- a handler takes it: the entries before let it pass -/
theorem xcatch {name : String} {E : String} {ce : Cell} {q : Addr} {pc : Nat} {ls : Array Slot} {hh : List (Nat × Nat × Nat × Nat)} (hown : s.vm.findClass own = some m.cls) (hxt : c.exceptionTable.toList = tableOf hh) (pre : List ExceptionTableEntry) (x : ExceptionTableEntry) (suf : List ExceptionTableEntry) (hsplit : tableOf hh = pre ++ x :: suf)
    (hpass : ∀ z ∈ pre, z.catchType ≠ 0 ∧ ∃ nm : String, (Cond.classLink own z.catchType nm).before args (s.setDrawn d0) = true ∧ (E, nm) ∈ xNcL) (hx : covers x pc = true) (h0 : x.catchType ≠ 0)
    (hlink : (Cond.classLink own x.catchType name).before args (s.setDrawn d0) = true) (hE : Cond.castable E name ∈ xFaceL) (hK : xK G ty b0 s) (hcell : H[q]? = some ce) (hv : ce.vm = .none) (hcl : s.vm.findClass E = some ce.cls)
    (kk : W p l e R (s.setDrawn d0) m args below meth c H locs cells slots Q (F0 m x.handlerPc ls [.ref q])) : vx_W p l e R (s.setDrawn d0) m args below meth c H locs cells slots Q (F0 m pc ls rest) q := by
  refine vx_catch (s := s.setDrawn d0) hown pre x suf (hxt.trans hsplit) (fun z hz => ?_) hx h0 hlink (va_Nw.use (xFace_tabs _ hE) (va_Nw.same (u := s) (xFace_tabs _ hE) rfl (hK.2.2.2.2.2.1 _ hE))) hcell hv hcl kk
  obtain ⟨h1, nm, h2, h3⟩ := hpass z hz
  exact Or.inr ⟨h1, nm, h2, va_Nc.moved (Vm.Alike.refl _) (hK.2.2.2.2.2.2.2.2.2.2.2 _ h3)⟩
end XCallsW
