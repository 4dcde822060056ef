section
-- ===== PART A: goes FIRST, ahead of the names: the tables' words, and 'selects' of the private methods out of them =====
/-- a private method of a class that the tables say can be made, by its rows of tables_1 -/
def lw_okq (q : MethodName × Nat) : Prop := (q.1.cls ≠ "java/lang/invoke/MethodHandle" ∧ q.1.cls ≠ "java/lang/invoke/VarHandle") ∧ Cond.instantiable q.1.cls q.2 ∈ tables_1 ∧ Cond.privateMethod q.1 ∈ tables_1 ∧ Cond.instanceMethod q.1 ∈ tables_1
theorem lw_p0 : lw_okq (⟨"PlankUnroll", "placeAt", "(II)LPlankUnroll$Place;"⟩, 6) := ⟨⟨by decide +kernel, by decide +kernel⟩, List.mem_of_getElem? (i := 25) (by decide +kernel), List.mem_of_getElem? (i := 219) (by decide +kernel), List.mem_of_getElem? (i := 220) (by decide +kernel)⟩
theorem lw_p1 : lw_okq (⟨"PlankUnroll", "checkFrame", "(I)V"⟩, 6) := ⟨⟨by decide +kernel, by decide +kernel⟩, List.mem_of_getElem? (i := 25) (by decide +kernel), List.mem_of_getElem? (i := 223) (by decide +kernel), List.mem_of_getElem? (i := 224) (by decide +kernel)⟩
theorem lw_p2 : lw_okq (⟨"java/lang/Throwable", "fillInStackTrace", "(I)Ljava/lang/Throwable;"⟩, 6) := ⟨⟨by decide +kernel, by decide +kernel⟩, List.mem_of_getElem? (i := 265) (by decide +kernel), List.mem_of_getElem? (i := 263) (by decide +kernel), List.mem_of_getElem? (i := 264) (by decide +kernel)⟩
theorem lw_p3 : lw_okq (⟨"PlankUnroll", "stripAt", "(I)LPlankUnroll$Strip;"⟩, 6) := ⟨⟨by decide +kernel, by decide +kernel⟩, List.mem_of_getElem? (i := 25) (by decide +kernel), List.mem_of_getElem? (i := 343) (by decide +kernel), List.mem_of_getElem? (i := 344) (by decide +kernel)⟩
theorem lw_p4 : lw_okq (⟨"PlankUnroll$Strip", "put", "(IIIDD)Z"⟩, 9) := ⟨⟨by decide +kernel, by decide +kernel⟩, List.mem_of_getElem? (i := 76) (by decide +kernel), List.mem_of_getElem? (i := 357) (by decide +kernel), List.mem_of_getElem? (i := 358) (by decide +kernel)⟩
theorem lw_p5 : lw_okq (⟨"PlankUnroll", "checkCell", "(I)V"⟩, 6) := ⟨⟨by decide +kernel, by decide +kernel⟩, List.mem_of_getElem? (i := 25) (by decide +kernel), List.mem_of_getElem? (i := 403) (by decide +kernel), List.mem_of_getElem? (i := 404) (by decide +kernel)⟩
theorem lw_p6 : lw_okq (⟨"java/util/ArrayList", "add", "(Ljava/lang/Object;[Ljava/lang/Object;I)V"⟩, 3) := ⟨⟨by decide +kernel, by decide +kernel⟩, List.mem_of_getElem? (i := 146) (by decide +kernel), List.mem_of_getElem? (i := 516) (by decide +kernel), List.mem_of_getElem? (i := 517) (by decide +kernel)⟩
theorem lw_p7 : lw_okq (⟨"java/util/ArrayList", "grow", "()[Ljava/lang/Object;"⟩, 3) := ⟨⟨by decide +kernel, by decide +kernel⟩, List.mem_of_getElem? (i := 146) (by decide +kernel), List.mem_of_getElem? (i := 520) (by decide +kernel), List.mem_of_getElem? (i := 521) (by decide +kernel)⟩
theorem lw_p8 : lw_okq (⟨"java/util/ArrayList", "grow", "(I)[Ljava/lang/Object;"⟩, 3) := ⟨⟨by decide +kernel, by decide +kernel⟩, List.mem_of_getElem? (i := 146) (by decide +kernel), List.mem_of_getElem? (i := 524) (by decide +kernel), List.mem_of_getElem? (i := 525) (by decide +kernel)⟩
theorem lw_p9 : lw_okq (⟨"PlankUnroll", "boardAt", "(I)LPlankUnroll$Board;"⟩, 6) := ⟨⟨by decide +kernel, by decide +kernel⟩, List.mem_of_getElem? (i := 25) (by decide +kernel), List.mem_of_getElem? (i := 574) (by decide +kernel), List.mem_of_getElem? (i := 575) (by decide +kernel)⟩
theorem lw_p10 : lw_okq (⟨"PlankUnroll", "leastEighths", "(LPlankUnroll$Board;ILPlankUnroll$Box;)I"⟩, 6) := ⟨⟨by decide +kernel, by decide +kernel⟩, List.mem_of_getElem? (i := 25) (by decide +kernel), List.mem_of_getElem? (i := 606) (by decide +kernel), List.mem_of_getElem? (i := 607) (by decide +kernel)⟩
theorem lw_p11 : lw_okq (⟨"PlankUnroll", "overlapped", "(LPlankUnroll$Board;ILPlankUnroll$Box;)LPlankUnroll$Box;"⟩, 6) := ⟨⟨by decide +kernel, by decide +kernel⟩, List.mem_of_getElem? (i := 25) (by decide +kernel), List.mem_of_getElem? (i := 611) (by decide +kernel), List.mem_of_getElem? (i := 612) (by decide +kernel)⟩
theorem lw_p12 : lw_okq (⟨"PlankUnrollModel", "noPlace", "(II)Z"⟩, 18) := ⟨⟨by decide +kernel, by decide +kernel⟩, List.mem_of_getElem? (i := 655) (by decide +kernel), List.mem_of_getElem? (i := 730) (by decide +kernel), List.mem_of_getElem? (i := 731) (by decide +kernel)⟩
theorem lw_p13 : lw_okq (⟨"PlankUnrollModel", "at", "(III)D"⟩, 18) := ⟨⟨by decide +kernel, by decide +kernel⟩, List.mem_of_getElem? (i := 655) (by decide +kernel), List.mem_of_getElem? (i := 734) (by decide +kernel), List.mem_of_getElem? (i := 735) (by decide +kernel)⟩
theorem lw_p14 : lw_okq (⟨"PlankUnrollModel", "far", "(IIII)D"⟩, 18) := ⟨⟨by decide +kernel, by decide +kernel⟩, List.mem_of_getElem? (i := 655) (by decide +kernel), List.mem_of_getElem? (i := 742) (by decide +kernel), List.mem_of_getElem? (i := 743) (by decide +kernel)⟩
theorem lw_p15 : lw_okq (⟨"PlankUnrollModel", "noStrip", "(I)Z"⟩, 18) := ⟨⟨by decide +kernel, by decide +kernel⟩, List.mem_of_getElem? (i := 655) (by decide +kernel), List.mem_of_getElem? (i := 754) (by decide +kernel), List.mem_of_getElem? (i := 755) (by decide +kernel)⟩
def lw_privs_1 : List (MethodName × Nat) := [(⟨"PlankUnroll", "placeAt", "(II)LPlankUnroll$Place;"⟩, 6), (⟨"PlankUnroll", "checkFrame", "(I)V"⟩, 6), (⟨"java/lang/Throwable", "fillInStackTrace", "(I)Ljava/lang/Throwable;"⟩, 6), (⟨"PlankUnroll", "stripAt", "(I)LPlankUnroll$Strip;"⟩, 6), (⟨"PlankUnroll$Strip", "put", "(IIIDD)Z"⟩, 9), (⟨"PlankUnroll", "checkCell", "(I)V"⟩, 6), (⟨"java/util/ArrayList", "add", "(Ljava/lang/Object;[Ljava/lang/Object;I)V"⟩, 3), (⟨"java/util/ArrayList", "grow", "()[Ljava/lang/Object;"⟩, 3), (⟨"java/util/ArrayList", "grow", "(I)[Ljava/lang/Object;"⟩, 3), (⟨"PlankUnroll", "boardAt", "(I)LPlankUnroll$Board;"⟩, 6), (⟨"PlankUnroll", "leastEighths", "(LPlankUnroll$Board;ILPlankUnroll$Box;)I"⟩, 6), (⟨"PlankUnroll", "overlapped", "(LPlankUnroll$Board;ILPlankUnroll$Box;)LPlankUnroll$Box;"⟩, 6), (⟨"PlankUnrollModel", "noPlace", "(II)Z"⟩, 18), (⟨"PlankUnrollModel", "at", "(III)D"⟩, 18), (⟨"PlankUnrollModel", "far", "(IIII)D"⟩, 18), (⟨"PlankUnrollModel", "noStrip", "(I)Z"⟩, 18)]
theorem lw_r1 : ∀ q ∈ lw_privs_1, lw_okq q := List.forall_mem_cons.mpr ⟨lw_p0, List.forall_mem_cons.mpr ⟨lw_p1, List.forall_mem_cons.mpr ⟨lw_p2, List.forall_mem_cons.mpr ⟨lw_p3, List.forall_mem_cons.mpr ⟨lw_p4, List.forall_mem_cons.mpr ⟨lw_p5, List.forall_mem_cons.mpr ⟨lw_p6, List.forall_mem_cons.mpr ⟨lw_p7, List.forall_mem_cons.mpr ⟨lw_p8, List.forall_mem_cons.mpr ⟨lw_p9, List.forall_mem_cons.mpr ⟨lw_p10, List.forall_mem_cons.mpr ⟨lw_p11, List.forall_mem_cons.mpr ⟨lw_p12, List.forall_mem_cons.mpr ⟨lw_p13, List.forall_mem_cons.mpr ⟨lw_p14, List.forall_mem_cons.mpr ⟨lw_p15, fun _ h => absurd h List.not_mem_nil⟩⟩⟩⟩⟩⟩⟩⟩⟩⟩⟩⟩⟩⟩⟩⟩
theorem lw_p16 : lw_okq (⟨"PlankUnrollModel", "put", "(IIIDD)Z"⟩, 18) := ⟨⟨by decide +kernel, by decide +kernel⟩, List.mem_of_getElem? (i := 655) (by decide +kernel), List.mem_of_getElem? (i := 758) (by decide +kernel), List.mem_of_getElem? (i := 759) (by decide +kernel)⟩
theorem lw_p17 : lw_okq (⟨"PlankUnrollModel", "noCell", "(II)Z"⟩, 18) := ⟨⟨by decide +kernel, by decide +kernel⟩, List.mem_of_getElem? (i := 655) (by decide +kernel), List.mem_of_getElem? (i := 774) (by decide +kernel), List.mem_of_getElem? (i := 775) (by decide +kernel)⟩
theorem lw_p18 : lw_okq (⟨"PlankUnrollModel", "off", "(II)D"⟩, 18) := ⟨⟨by decide +kernel, by decide +kernel⟩, List.mem_of_getElem? (i := 655) (by decide +kernel), List.mem_of_getElem? (i := 778) (by decide +kernel), List.mem_of_getElem? (i := 779) (by decide +kernel)⟩
theorem lw_p19 : lw_okq (⟨"PlankUnrollModel", "cross", "(IIIIII)V"⟩, 18) := ⟨⟨by decide +kernel, by decide +kernel⟩, List.mem_of_getElem? (i := 655) (by decide +kernel), List.mem_of_getElem? (i := 791) (by decide +kernel), List.mem_of_getElem? (i := 792) (by decide +kernel)⟩
theorem lw_p20 : lw_okq (⟨"PlankUnrollModel", "keeps", "(III)Z"⟩, 18) := ⟨⟨by decide +kernel, by decide +kernel⟩, List.mem_of_getElem? (i := 655) (by decide +kernel), List.mem_of_getElem? (i := 811) (by decide +kernel), List.mem_of_getElem? (i := 812) (by decide +kernel)⟩
theorem lw_p21 : lw_okq (⟨"PlankUnrollModel", "size", "(II)D"⟩, 18) := ⟨⟨by decide +kernel, by decide +kernel⟩, List.mem_of_getElem? (i := 655) (by decide +kernel), List.mem_of_getElem? (i := 828) (by decide +kernel), List.mem_of_getElem? (i := 829) (by decide +kernel)⟩
theorem lw_p22 : lw_okq (⟨"PlankUnrollModel", "isOpen", "(IDDD)Z"⟩, 18) := ⟨⟨by decide +kernel, by decide +kernel⟩, List.mem_of_getElem? (i := 655) (by decide +kernel), List.mem_of_getElem? (i := 833) (by decide +kernel), List.mem_of_getElem? (i := 834) (by decide +kernel)⟩
def lw_privs_2 : List (MethodName × Nat) := [(⟨"PlankUnrollModel", "put", "(IIIDD)Z"⟩, 18), (⟨"PlankUnrollModel", "noCell", "(II)Z"⟩, 18), (⟨"PlankUnrollModel", "off", "(II)D"⟩, 18), (⟨"PlankUnrollModel", "cross", "(IIIIII)V"⟩, 18), (⟨"PlankUnrollModel", "keeps", "(III)Z"⟩, 18), (⟨"PlankUnrollModel", "size", "(II)D"⟩, 18), (⟨"PlankUnrollModel", "isOpen", "(IDDD)Z"⟩, 18)]
theorem lw_r2 : ∀ q ∈ lw_privs_2, lw_okq q := List.forall_mem_cons.mpr ⟨lw_p16, List.forall_mem_cons.mpr ⟨lw_p17, List.forall_mem_cons.mpr ⟨lw_p18, List.forall_mem_cons.mpr ⟨lw_p19, List.forall_mem_cons.mpr ⟨lw_p20, List.forall_mem_cons.mpr ⟨lw_p21, List.forall_mem_cons.mpr ⟨lw_p22, fun _ h => absurd h List.not_mem_nil⟩⟩⟩⟩⟩⟩⟩
def lw_privs : List (MethodName × Nat) := lw_privs_1 ++ (lw_privs_2)
def lw_tbl : List Cond := k2_sels lw_privs ++ tables_1
theorem lw_privs_ok : ∀ q ∈ lw_privs, lw_okq q := by
  show ∀ q ∈ lw_privs_1 ++ (lw_privs_2), lw_okq q
  exact List.forall_mem_append.mpr ⟨lw_r1, lw_r2⟩
/-- the streams that the claim lets the run draw from -/
abbrev lw_cs : List Choice := [Jvm.Choice.named "NaN.bits"]
theorem lw_bits : nanBits ∈ lw_cs := by first | decide | exact List.mem_cons_self | simp [lw_cs, nanBits]
end
section
/-! ===== BEGIN words of one list among another's, by their places ===== -/
theorem goodIn_r {big : List Cond} (ws : List Cond) (ps : List Nat) (hp : ws = ps.filterMap (fun i => big[i]?)) (h : ws.all goodWord = true) : GoodIn big ws := by
  intro w hw
  have h1 := List.all_eq_true.mp h w hw
  rw [hp] at hw
  obtain ⟨i, -, hi⟩ := List.mem_filterMap.mp hw
  have hm : w ∈ big := by first | exact List.mem_of_getElem? hi | exact List.getElem?_mem hi
  exact ⟨hm, good_of_word h1⟩
theorem goodIn_app {big a b : List Cond} (ha : GoodIn big a) (hb : GoodIn big b) : GoodIn big (a ++ b) := fun w h => (List.mem_append.mp h).elim (ha w) (hb w)
theorem goodIn_ca {big a b : List Cond} {c : Cond} (ha : GoodIn big (c :: a)) (hb : GoodIn big b) : GoodIn big (c :: (a ++ b)) := fun w h => (List.mem_cons.mp h).elim (fun e => ha w (List.mem_cons.mpr (Or.inl e))) (fun h => (List.mem_append.mp h).elim (fun h => ha w (List.mem_cons.mpr (Or.inr h))) (hb w))
theorem goodIn_sub {big ws : List Cond} (hm : ∀ w ∈ ws, w ∈ big) (h : ws.all goodWord = true) : GoodIn big ws := fun w hw => ⟨hm w hw, good_of_word (List.all_eq_true.mp h w hw)⟩
/-! ===== END ===== -/

/-! ===== BEGIN exceptions that leave a method, and their catching by the caller (launches without stack traces) ===== -/
section VXA
/-! The laws vx_back, vx_callV, vx_callS, vx_callSW, vx_throw0, vx_throwS follow proofs of the library, with one case more: JvmDerived/Free/Laws.lean (Back.of_free), Shelf42/LK1.lean (callV, callS), Shelf/KitTraced.lean (throwNew0V, throwNewS). -/
/-- where a method has thrown q: the class by its name, the cell, what was written, the world -/
def vx_T (XC : String → State → State → Prop) (st : State) (q : Addr) (t : State) (mc ms : Nat) (free : Addr → Prop) : Prop :=
  ∃ (E : String) (ce : Cell) (L : List Loc), XC E st t ∧ t.heap[q]? = some ce ∧ ce.vm = .none ∧ st.vm.findClass E = some ce.cls ∧ st.WarmedH t.vm ∧ st.sameButNew ({ t with vm := st.vm } : State) L mc ms ∧ ∀ z ∈ L, free z.base
def vx_Q (Qc : Array Value → State → Outcome → State → Prop) (XC : String → State → State → Prop) (mc ms : Nat) (free : Addr → Prop) : Array Value → State → Outcome → State → Prop := fun a st o t =>
  (Qc a st o t ∧ ∃ L, FrameEnd st o t L mc ms ∧ ∀ q ∈ L, free q.base) ∨ ∃ q, o = .threw q ∧ vx_T XC st q t mc ms free
/-- a callee that returns or throws -/
def vx_Met (l : Launch) (y : MethodName) (ws : List Cond) (rm : Room) (Pc : Array Value → State → Prop) (Qc : Array Value → State → Outcome → State → Prop) (XC : String → State → State → Prop) (mc ms : Nat) (free : Addr → Prop) : Prop :=
  MetFree l y (headSpec ws rm) Pc (fun _ _ _ _ _ => True) (vx_Q Qc XC mc ms free)
def vx_Post (XC : String → State → State → Prop) (mc ms : Nat) (free : Addr → Prop) : Pt → Array Value → Addr → Pt → Prop := fun A a q B =>
  ∃ (g : JFrame) (mk : MethodId) (t : State) (L : List Loc) (E : String) (ce : Cell), B.U.heap = t.heap ∧ B.U.vm = t.vm ∧ XC E (A.U.calling g mk a) t ∧ t.heap[q]? = some ce ∧ ce.vm = .none ∧ A.U.vm.findClass E = some ce.cls ∧ B.locs = A.locs ++ L ∧ (∀ z ∈ L, free z.base) ∧ B.cells = A.cells + mc ∧ B.slots = A.slots + ms
def vx_Back (l : Launch) (R : Room) (p : Program) (e : Env) (below : List Frame) (s : State) (sargs : Array Value) (y : MethodName) (len W9 : Nat)
    (Pre : Pt → Array Value → Prop) (Post : Pt → Array Value → Option Value → Pt → Prop) (PostX : Pt → Array Value → Addr → Pt → Prop) : Prop :=
  ∀ (m : MethodId) (meth : Method) (c : Code) (A : Pt) (g : JFrame) (ig : Instr) (mk : MethodId) (a : Array Value),
    Stand p l e R s m sargs below meth c A.U A.locs A.cells A.slots → g.method = m → g.locals.size = c.maxLocals → decode c.code g.pc = .ok (ig, len) →
    2 * g.monitorRoom + (g.stack.map fun v => v.category).sum ≤ W9 → A.U.methodNamed? y = some mk → Pre A a →
    (∃ (v : Option Value) (B : Pt), Stand p l e R s m sargs below meth c B.U B.locs B.cells B.slots ∧ Post A a v B ∧
      Steps p.tables e below (doInvoke e (A.U.setTop g) [] mk a).1 (B.U.setTop { g with pc := g.pc + len, stack := v.toList ++ g.stack })) ∨
    (∃ (q : Addr) (B : Pt), Stand p l e R s m sargs below meth c B.U B.locs B.cells B.slots ∧ PostX A a q B ∧
      Steps p.tables e below (doInvoke e (A.U.setTop g) [] mk a).1 ((B.U.setTop g).pushFrame (.throwing q)))
section Payer
variable {l : Launch} {R : Room} {p : Program} {e : Env} {below : List Frame} {s : State} {sargs : Array Value} {y : MethodName} {len W9 : Nat}
theorem vx_back {ws : List Cond} {rm : Room} {Pc : Array Value → State → Prop} {Qc : Array Value → State → Outcome → State → Prop} {XC : String → State → State → Prop} {mc ms : Nat} {free : Addr → Prop} {bytes : ByteArray} {maxL : Nat} {ret : Option FieldType}
    (hM : vx_Met l y ws rm Pc Qc XC mc ms free) (hblind : FrameBlind Pc) (hrc : rm.cells = mc) (hrs : rm.slots = ms)
    (hframes : rm.frames + 1 ≤ R.frames) (hlocals : W9 + (maxL + 11) + rm.locals ≤ R.locals)
    (hws : ∀ w ∈ ws, ∀ a' U, s.WarmedH U.vm → w.before a' U = true) (hcode : Cond.code y bytes maxL ret ∈ ws) (hinit : ∀ a' U, s.WarmedH U.vm → (Cond.initialized y.cls).before a' U = true) :
    vx_Back l R p e below s sargs y len W9 (PreOf R mc ms Pc) (PostOf Qc mc ms free) (vx_Post XC mc ms free) := by
  intro m meth c A g ig mk a X hg hsize hdg hW hn hp
  have h1 : (headSpec ws rm).pre.before a A.U = true := atoms_intro fun w hw => hws w hw _ _ X.warmed
  have h2 : (Cond.code y bytes maxL ret).before a A.U = true := hws _ hcode _ _ X.warmed
  have h3 : (Cond.initialized y.cls).before a A.U = true := hinit _ _ X.warmed
  have h4 : A.cells + (headSpec ws rm).room.cells ≤ R.cells := by rw [show (headSpec ws rm).room.cells = mc from hrc]; exact hp.1
  have h5 : A.slots + (headSpec ws rm).room.slots ≤ R.slots := by rw [show (headSpec ws rm).room.slots = ms from hrs]; exact hp.2.1
  have hPc : Pc a (A.U.calling g mk a) := hblind _ _ _ _ hp.2.2
  obtain ⟨U, Ls, c0, s0⟩ := A
  dsimp only [Pt.U, Pt.locs, Pt.cells, Pt.slots] at h1 h2 h3 h4 h5 X hn hPc ⊢
  obtain ⟨methY, cY, hmY, hcY, -, hlY, -, -, -, -⟩ := Cond.code_spec hn h2
  obtain ⟨kY, hkY, -⟩ := className_of_methodNamed hn
  have hinitY : kY.init = .initialized := Cond.initialized_spec (findClass_of_methodNamed hn) hkY h3
  have h : At U g.method c below := by rw [hg]; exact X.here
  have hlocals9 : W9 + (maxL + 11) + (headSpec ws rm).room.locals ≤ R.locals := hlocals
  have happ : (headSpec ws rm).appliesLoose y e.platform (U.calling g mk a) = true :=
    Spec.appliesLoose_calling (g := g) h hdg hn hkY hinitY
      (X.room_calling (g := g) (R' := (headSpec ws rm).room) hsize hmY hcY hframes (by rw [hlY]; omega) h4 h5) h1
  obtain ⟨mid, hmid⟩ := h.above
  have hfr : (U.setTop g).frames = (.java g :: mid) ++ below := by rw [State.frames_setTop' g h.top, hmid]; rfl
  obtain ⟨o, s₂, hsteps, -, hend, hq⟩ := Steps.callFree hM p X.admits X.cas X.clock (acts := []) hfr happ hPc trivial
  have hq' : vx_Q Qc XC mc ms free a (U.calling g mk a) o s₂ := hq
  rw [State.frames_setTop' g h.top] at hend
  obtain ⟨g₀, hg0⟩ := Option.isSome_iff_exists.mp h.top
  obtain ⟨r, hr⟩ := State.topJava?_eq_some.mp hg0
  have hr' : (({ U with heap := s₂.heap, slotsUsed := s₂.slotsUsed } : State).setVm s₂.vm).frames = .java g₀ :: r := hr
  rcases hq' with ⟨hqc, L, hfe, hL⟩ | ⟨q, rfl, E, ce, L, hx, hce, hcv, hcl, hW₂, hsm, hL⟩
  · obtain ⟨⟨v, rfl⟩, hW₂, e2, q2, q3, q4, q5, q6⟩ := id hfe
    have e3 : s₂ = ({ (U.calling g mk a).setFrames s₂.frames with heap := s₂.heap, slotsUsed := s₂.slotsUsed } : State).setVm s₂.vm := by
      have : s₂ = ({ s₂ with vm := (U.calling g mk a).vm } : State).setVm s₂.vm := rfl
      rw [e2] at this
      exact this
    obtain ⟨c₂, i₂, len₂, hc₂, hd₂, hf₂⟩ := hend
    have hW' : U.WarmedH s₂.vm := hW₂
    have hcc : c₂ = c := by
      have h1 : s₂.code? g.method = U.code? g.method := by
        rw [State.code?_eq, State.code?_eq, hW'.alike.method?]
      exact Option.some.inj (hc₂.symm.trans (h1.trans h.code))
    subst hcc
    have hlen : len₂ = len := by rw [hdg] at hd₂; cases hd₂; rfl
    subst hlen
    have hs₂ : s₂ = (({ U with heap := s₂.heap, slotsUsed := s₂.slotsUsed } : State).setVm s₂.vm).setTop { g with pc := g.pc + len₂, stack := v.toList ++ g.stack } := by
      refine e3.trans ?_
      rw [hf₂, State.calling_eq h.top, State.setFrames_setFrames, State.setTop_of_frames _ hr', hr]
      rfl
    have hsame : U.sameButNew ({ U with heap := s₂.heap, slotsUsed := s₂.slotsUsed } : State) L mc ms := by
      refine ⟨?_, q2, q3, q4, q5, q6⟩
      obtain ⟨t, ht, -⟩ := State.frames_cons hr
      show ({ U with heap := s₂.heap, slotsUsed := s₂.slotsUsed } : State) = { U.setFrames U.frames with heap := s₂.heap, slotsUsed := s₂.slotsUsed }
      rw [State.setFrames_self ht]
    subst hg
    refine Or.inl ⟨v, ⟨(({ U with heap := s₂.heap, slotsUsed := s₂.slotsUsed } : State).setVm s₂.vm), Ls ++ L, c0 + mc, s0 + ms⟩,
      ⟨X.admits, X.cas, X.clock, X.frames, X.room, X.hears, X.method, X.code, (X.here.setHeapUsed s₂.heap s₂.slotsUsed).setVm hW'.alike, X.tail, State.WarmedH.trans X.warmed hW', X.limits, X.bytes, X.same.trans (hsame.setVm s.vm)⟩,
      ⟨g, mk, s₂, L, rfl, rfl, hqc, rfl, hL, rfl, rfl⟩, ?_⟩
    show Steps p.tables e below _ ((({ U with heap := s₂.heap, slotsUsed := s₂.slotsUsed } : State).setVm s₂.vm).setTop { g with pc := g.pc + len₂, stack := v.toList ++ g.stack })
    rw [← hs₂]
    exact hsteps
  · obtain ⟨e2, q2, q3, q4, q5, q6⟩ := id hsm
    have e3 : s₂ = ({ (U.calling g mk a).setFrames s₂.frames with heap := s₂.heap, slotsUsed := s₂.slotsUsed } : State).setVm s₂.vm := by
      have : s₂ = ({ s₂ with vm := (U.calling g mk a).vm } : State).setVm s₂.vm := rfl
      rw [e2] at this
      exact this
    have hf₂ : s₂.frames = .throwing q :: .java g :: U.frames.tail := hend
    have hW' : U.WarmedH s₂.vm := hW₂
    have hs₂ : s₂ = ((({ U with heap := s₂.heap, slotsUsed := s₂.slotsUsed } : State).setVm s₂.vm).setTop g).pushFrame (.throwing q) := by
      refine e3.trans ?_
      rw [hf₂, State.calling_eq h.top, State.setFrames_setFrames, State.pushFrame, State.frames_setTop _ hr', State.setTop_of_frames _ hr', State.setFrames_setFrames, hr]
      rfl
    have hsame : U.sameButNew ({ U with heap := s₂.heap, slotsUsed := s₂.slotsUsed } : State) L mc ms := by
      refine ⟨?_, q2, q3, q4, q5, q6⟩
      obtain ⟨t, ht, -⟩ := State.frames_cons hr
      show ({ U with heap := s₂.heap, slotsUsed := s₂.slotsUsed } : State) = { U.setFrames U.frames with heap := s₂.heap, slotsUsed := s₂.slotsUsed }
      rw [State.setFrames_self ht]
    subst hg
    refine Or.inr ⟨q, ⟨(({ U with heap := s₂.heap, slotsUsed := s₂.slotsUsed } : State).setVm s₂.vm), Ls ++ L, c0 + mc, s0 + ms⟩,
      ⟨X.admits, X.cas, X.clock, X.frames, X.room, X.hears, X.method, X.code, (X.here.setHeapUsed s₂.heap s₂.slotsUsed).setVm hW'.alike, X.tail, State.WarmedH.trans X.warmed hW', X.limits, X.bytes, X.same.trans (hsame.setVm s.vm)⟩,
      ⟨g, mk, s₂, L, E, ce, rfl, rfl, hx, hce, hcv, hcl, rfl, hL, rfl, rfl⟩, ?_⟩
    show Steps p.tables e below _ (((({ U with heap := s₂.heap, slotsUsed := s₂.slotsUsed } : State).setVm s₂.vm).setTop g).pushFrame (.throwing q))
    rw [← hs₂]
    exact hsteps
end Payer
section Calls
variable {p : Program} {l : Launch} {e : Env} {R : Room} {s : State} {m : MethodId} {args : Array Value} {below : List Frame} {meth : Method} {c : Code} {T : State} {locs : List Loc} {cells slots : Nat}
theorem vx_callV (X : Stand p l e R s m args below meth c T locs cells slots) (hexec : p.tables.exec = Jvm.exec) {own C : String} {index : Nat} {y : MethodName} {bytes : ByteArray} {maxL : Nat} {ret : Option FieldType}
    (hown : s.vm.findClass own = some m.cls) (hlink : (Cond.methodLink own index y).before args s = true) (hinst : (Cond.instanceMethod y).before args s = true) (hsel : (Cond.selects C y y).before args s = true)
    (hcode : (Cond.code y bytes maxL ret).before args s = true) (hy : y.cls ≠ "java/lang/invoke/MethodHandle" ∧ y.cls ≠ "java/lang/invoke/VarHandle")
    {W9 : Nat} {Pre : Pt → Array Value → Prop} {Post : Pt → Array Value → Option Value → Pt → Prop} {PostX : Pt → Array Value → Addr → Pt → Prop} (hK : vx_Back l R p e below s args y 3 W9 Pre Post PostX)
    {b : Addr} {cellB : Cell} (hcell : T.heap[b]? = some cellB) (hobj : cellB.vm.isStatics = false) (hcls : s.vm.findClass C = some cellB.cls)
    {g : JFrame} (hg : g.method = m) (hsize : g.locals.size = c.maxLocals) {argsL rest : List Value} (hlen : ∀ sig, parseMethodDescriptor y.desc = some sig → argsL.length = sig.parameters.length)
    (hstack : g.stack = argsL.reverse ++ .ref b :: rest) (hW : 2 * g.monitorRoom + (rest.map fun v => v.category).sum ≤ W9) (hdg : decode c.code g.pc = .ok (.invokevirtual index, 3))
    (hpre : ∀ vm₁, s.WarmedH vm₁ → Pre ⟨T.setVm vm₁, locs, cells, slots⟩ (Value.ref b :: argsL).toArray) :
    (∃ (v : Option Value) (vm₁ : Vm) (B : Pt), s.WarmedH vm₁ ∧ Stand p l e R s m args below meth c B.U B.locs B.cells B.slots ∧ Post ⟨T.setVm vm₁, locs, cells, slots⟩ (Value.ref b :: argsL).toArray v B ∧
      ∀ target, Steps p.tables e below (B.U.setTop { g with pc := g.pc + 3, stack := v.toList ++ rest }) target → Steps p.tables e below (T.setTop g) target) ∨
    (∃ (q : Addr) (vm₁ : Vm) (B : Pt), s.WarmedH vm₁ ∧ Stand p l e R s m args below meth c B.U B.locs B.cells B.slots ∧ PostX ⟨T.setVm vm₁, locs, cells, slots⟩ (Value.ref b :: argsL).toArray q B ∧
      Steps p.tables e below (T.setTop g) ((B.U.setTop { g with stack := rest }).pushFrame (.throwing q))) := by
  obtain ⟨mk, methM, hnamed, hmethM, hstM, habM⟩ := Cond.instanceMethod_spec hinst
  obtain ⟨methM', cM, hmethM', -, -, -, -, -, -, hsigM⟩ := Cond.code_spec hnamed hcode
  cases hmethM.symm.trans hmethM'
  obtain ⟨c2, r2, m2, q1, q2, q3, q4, kP, hkP, hkPi⟩ := Cond.selects_spec hsel
  cases hcls.symm.trans q1
  cases (State.methodFound?_of_named hnamed hy).symm.trans q2
  cases hnamed.symm.trans q3
  have hselP : selectMethod e.platform s.vm cellB.cls mk = .method mk := by rw [Launch.admits_selectMethod X.admits]; exact q4
  obtain ⟨vm₁, X₁, hstep₁⟩ := X.invokevirtual hexec hown hlink hnamed hmethM hstM hkP hkPi hy (a := b) (cell := cellB) hcell
    (fun z h => by rw [h] at hobj; cases hobj) hselP hmethM habM hkP hkPi (g := g) hg (argsL := argsL) (rest := rest) (hlen _ hsigM) hstack hdg
  rcases hK m meth c ⟨T.setVm vm₁, locs, cells, slots⟩ { g with stack := rest } (.invokevirtual index) mk (Value.ref b :: argsL).toArray X₁ hg hsize hdg hW (X₁.named hnamed) (hpre vm₁ X₁.warmed) with ⟨v, B, X', hpost, hsteps⟩ | ⟨q, B, X', hpost, hsteps⟩
  · exact Or.inl ⟨v, vm₁, B, X₁.warmed, X', hpost, fun target h => hstep₁ _ fun acts => by rw [doInvoke_state]; exact hsteps.trans h⟩
  · exact Or.inr ⟨q, vm₁, B, X₁.warmed, X', hpost, hstep₁ _ fun acts => by rw [doInvoke_state]; exact hsteps⟩
theorem vx_callS (X : Stand p l e R s m args below meth c T locs cells slots) (hexec : p.tables.exec = Jvm.exec) {own : String} {index : Nat} {y : MethodName} {bytes : ByteArray} {maxL : Nat} {ret : Option FieldType}
    (hown : s.vm.findClass own = some m.cls) (hlink : (Cond.methodLink own index y).before args s = true) (hstat : (Cond.static y).before args s = true) (hinit : (Cond.initialized y.cls).before args s = true)
    (hcode : (Cond.code y bytes maxL ret).before args s = true) (hy : y.cls ≠ "java/lang/invoke/MethodHandle" ∧ y.cls ≠ "java/lang/invoke/VarHandle")
    {W9 : Nat} {Pre : Pt → Array Value → Prop} {Post : Pt → Array Value → Option Value → Pt → Prop} {PostX : Pt → Array Value → Addr → Pt → Prop} (hK : vx_Back l R p e below s args y 3 W9 Pre Post PostX)
    {g : JFrame} (hg : g.method = m) (hsize : g.locals.size = c.maxLocals) {argsL rest : List Value} (hlen : ∀ sig, parseMethodDescriptor y.desc = some sig → argsL.length = sig.parameters.length)
    (hstack : g.stack = argsL.reverse ++ rest) (hW : 2 * g.monitorRoom + (rest.map fun v => v.category).sum ≤ W9) (hdg : decode c.code g.pc = .ok (.invokestatic index, 3))
    (hpre : ∀ vm₁, s.WarmedH vm₁ → Pre ⟨T.setVm vm₁, locs, cells, slots⟩ argsL.toArray) :
    (∃ (v : Option Value) (vm₁ : Vm) (B : Pt), s.WarmedH vm₁ ∧ Stand p l e R s m args below meth c B.U B.locs B.cells B.slots ∧ Post ⟨T.setVm vm₁, locs, cells, slots⟩ argsL.toArray v B ∧
      ∀ target, Steps p.tables e below (B.U.setTop { g with pc := g.pc + 3, stack := v.toList ++ rest }) target → Steps p.tables e below (T.setTop g) target) ∨
    (∃ (q : Addr) (vm₁ : Vm) (B : Pt), s.WarmedH vm₁ ∧ Stand p l e R s m args below meth c B.U B.locs B.cells B.slots ∧ PostX ⟨T.setVm vm₁, locs, cells, slots⟩ argsL.toArray q B ∧
      Steps p.tables e below (T.setTop g) ((B.U.setTop { g with stack := rest }).pushFrame (.throwing q))) := by
  obtain ⟨mk, hnamed⟩ := Cond.code_named hcode
  obtain ⟨methM, cM, hmethM, -, -, -, -, -, -, hsigM⟩ := Cond.code_spec hnamed hcode
  have hstatic : methM.isStatic = true := Cond.static_spec hnamed hmethM hstat
  obtain ⟨kP, hkP, -⟩ := className_of_methodNamed hnamed
  have hinitP : kP.init = .initialized := Cond.initialized_spec (findClass_of_methodNamed hnamed) hkP hinit
  obtain ⟨vm₁, X₁, hstep₁⟩ := X.invokestatic hexec hown hlink hnamed hmethM hstatic hkP hinitP hy (g := g) hg (argsL := argsL) (rest := rest) (hlen _ hsigM) hstack hdg
  rcases hK m meth c ⟨T.setVm vm₁, locs, cells, slots⟩ { g with stack := rest } (.invokestatic index) mk argsL.toArray X₁ hg hsize hdg hW (X₁.named hnamed) (hpre vm₁ X₁.warmed) with ⟨v, B, X', hpost, hsteps⟩ | ⟨q, B, X', hpost, hsteps⟩
  · exact Or.inl ⟨v, vm₁, B, X₁.warmed, X', hpost, fun target h => hstep₁ _ fun acts => by rw [doInvoke_state]; exact hsteps.trans h⟩
  · exact Or.inr ⟨q, vm₁, B, X₁.warmed, X', hpost, hstep₁ _ fun acts => by rw [doInvoke_state]; exact hsteps⟩
end Calls
theorem vx_cls {s : State} {T : State} {vm₁ : Vm} {E : String} {k : ClassId} (hW : s.WarmedH vm₁) (h : (T.setVm vm₁).vm.findClass E = some k) : s.vm.findClass E = some k := by
  have h1 : vm₁.findClass E = some k := h
  rw [hW.alike.findClass] at h1
  exact h1
/-- the method's frame g, with q thrown over it -/
def vx_W (p : Program) (l : Launch) (e : Env) (R : Room) (s : State) (m : MethodId) (args : Array Value) (below : List Frame) (meth : Method) (c : Code) (H : Heap) (locs : List Loc) (cells slots : Nat) (Q : State → Prop) (g : JFrame) (q : Addr) : Prop :=
  ∀ T : State, T.heap = H → Stand p l e R s m args below meth c T locs cells slots → ∃ t, Steps p.tables e below ((T.setTop g).pushFrame (.throwing q)) t ∧ Q t
def vx_Run (p : Program) (l : Launch) (e : Env) (R : Room) (s : State) (m : MethodId) (args : Array Value) (below : List Frame) (meth : Method) (c : Code) (H : Heap) (locs : List Loc) (cells slots mc ms : Nat) (g : JFrame) (rest : List Value) (Qa : State → Outcome → State → Prop) (XC : String → State → State → Prop) (free : Addr → Prop) : Prop :=
  ∀ T : State, T.heap = H → Stand p l e R s m args below meth c T locs cells slots →
    (∃ (v : Option Value) (st₀ t T' : State) (L : List Loc), st₀.heap = H ∧ Stand p l e R s m args below meth c T' (locs ++ L) (cells + mc) (slots + ms) ∧ (∀ q ∈ L, free q.base) ∧ T'.heap = t.heap ∧ T'.vm = t.vm ∧ Qa st₀ (.returned v) t ∧
      Goes p e below T g T' { g with pc := g.pc + 3, stack := v.toList ++ rest }) ∨
    (∃ (q : Addr) (st₀ t T' : State) (L : List Loc) (E : String) (ce : Cell), st₀.heap = H ∧ Stand p l e R s m args below meth c T' (locs ++ L) (cells + mc) (slots + ms) ∧ (∀ z ∈ L, free z.base) ∧ T'.heap = t.heap ∧ T'.vm = t.vm ∧ XC E st₀ t ∧ t.heap[q]? = some ce ∧ ce.vm = .none ∧ s.vm.findClass E = some ce.cls ∧
      Steps p.tables e below (T.setTop g) ((T'.setTop { g with stack := rest }).pushFrame (.throwing q)))
def vx_X {S : Type} (px : S → Prop) (B : String → S → State → Prop) (A : Nat → Prop) : String → State → State → Prop := fun E st t => ∃ u : S, px u ∧ B E u t ∧ va_F A st t
section Runs
variable {p : Program} {l : Launch} {e : Env} {R : Room} {s : State} {m : MethodId} {args : Array Value} {below : List Frame} {meth : Method} {c : Code} {H : Heap} {locs : List Loc} {cells slots : Nat}
variable {y : MethodName} {bytes cc : ByteArray} {maxL nL mc ms n index : Nat} {ret : Option FieldType} {ws : List Cond} {rm : Room} {Pc : Array Value → State → Prop} {Qc : Array Value → State → Outcome → State → Prop} {XC : String → State → State → Prop} {free : Addr → Prop} {Ts : List Cond} {own C : String} {b : Addr} {As rest : List Value} {g : JFrame}
theorem vx_callBack (cb : CallB R s args own index y bytes maxL ret ws rm mc ms n) (hM : vx_Met l y ws rm Pc Qc XC mc ms free) (hbl : FrameBlind Pc) : vx_Back l R p e below s args y 3 8 (PreOf R mc ms Pc) (PostOf Qc mc ms free) (vx_Post XC mc ms free) := by
  obtain ⟨hrc, hrs, hfr, hlo, hws, hcw, -, hini, -⟩ := cb
  exact vx_back (bytes := bytes) (maxL := maxL) (ret := ret) hM hbl hrc hrs hfr hlo hws hcw (fun a' U hW => word_at hW (Or.inl (by first | rfl | simp [Cond.onTables, Cond.keeps, Cond.steady])) hini)
theorem vx_runV (S : CallFix p m c cc nL s args Ts own) (hM : vx_Met l y ws rm Pc Qc XC mc ms free) (cw : CallW R s args own C index y bytes maxL ret ws rm mc ms n) (hp : PreV s H C b Pc As)
    (hg : g.method = m) (hn : As.length = n) (hsize : g.locals.size = nL) (hstack : g.stack = As.reverse ++ .ref b :: rest) (hW : 2 * g.monitorRoom + (rest.map fun v => v.category).sum ≤ 8) (hdg : decode cc g.pc = .ok (.invokevirtual index, 3)) (hf : cells + mc ≤ R.cells ∧ slots + ms ≤ R.slots) :
    vx_Run p l e R s m args below meth c H locs cells slots mc ms g rest (Qc (Value.ref b :: As).toArray) XC free := by
  have hK : vx_Back l R p e below s args y 3 8 (PreOf R mc ms Pc) (PostOf Qc mc ms free) (vx_Post XC mc ms free) := vx_callBack cw.1 hM hp.1
  obtain ⟨⟨-, -, -, -, -, -, hcode, -, hy, hlen, hl⟩, hin, hse⟩ := cw
  obtain ⟨hx, hb, hml, ho, -⟩ := S
  obtain ⟨-, ⟨cellB, hcB, hoB, hclB⟩, hPc⟩ := hp
  intro T hT X
  rcases vx_callV X hx (C := C) (bytes := bytes) (maxL := maxL) (ret := ret) ho hl hin hse hcode hy hK (by rw [hT]; exact hcB) hoB hclB hg (hsize.trans hml.symm) (argsL := As) (rest := rest) (fun sig h => hn.trans (hlen sig h)) hstack hW (by rw [hb]; exact hdg)
    (fun vm₁ hW₁ => ⟨hf.1, hf.2, hPc (T.setVm vm₁) hT hW₁⟩) with ⟨v, vm₁, ⟨U', l2, c2, s2⟩, hW₁, X', ⟨g', mk, t, L, e1, e2, hq, h1, hL, h2, h3⟩, st⟩ | ⟨q, vm₁, ⟨U', l2, c2, s2⟩, hW₁, X', ⟨g', mk, t, L, E, ce, e1, e2, hq, hce, hcv, hcl, h1, hL, h2, h3⟩, st⟩
  · dsimp only [Pt.U, Pt.locs, Pt.cells, Pt.slots] at X' e1 e2 h1 h2 h3 st
    subst h1; subst h2; subst h3
    exact Or.inl ⟨v, (T.setVm vm₁).calling g' mk (Value.ref b :: As).toArray, t, U', L, hT, X', hL, e1, e2, hq, st⟩
  · dsimp only [Pt.U, Pt.locs, Pt.cells, Pt.slots] at X' e1 e2 h1 h2 h3 st hcl
    subst h1; subst h2; subst h3
    exact Or.inr ⟨q, (T.setVm vm₁).calling g' mk (Value.ref b :: As).toArray, t, U', L, E, ce, hT, X', hL, e1, e2, hq, hce, hcv, vx_cls hW₁ hcl, st⟩
theorem vx_runS (S : CallFix p m c cc nL s args Ts own) (hM : vx_Met l y ws rm Pc Qc XC mc ms free) (cw : CallB R s args own index y bytes maxL ret ws rm mc ms n ∧ (Cond.static y).before args s = true) (hp : PreS s H Pc As)
    (hg : g.method = m) (hn : As.length = n) (hsize : g.locals.size = nL) (hstack : g.stack = As.reverse ++ rest) (hW : 2 * g.monitorRoom + (rest.map fun v => v.category).sum ≤ 8) (hdg : decode cc g.pc = .ok (.invokestatic index, 3)) (hf : cells + mc ≤ R.cells ∧ slots + ms ≤ R.slots) :
    vx_Run p l e R s m args below meth c H locs cells slots mc ms g rest (Qc As.toArray) XC free := by
  have hK : vx_Back l R p e below s args y 3 8 (PreOf R mc ms Pc) (PostOf Qc mc ms free) (vx_Post XC mc ms free) := vx_callBack cw.1 hM hp.1
  obtain ⟨⟨-, -, -, -, -, -, hcode, hini, hy, hlen, hl⟩, hstt⟩ := cw
  obtain ⟨hx, hb, hml, ho, -⟩ := S
  intro T hT X
  rcases vx_callS X hx (bytes := bytes) (maxL := maxL) (ret := ret) ho hl hstt hini hcode hy hK hg (hsize.trans hml.symm) (argsL := As) (rest := rest) (fun sig h => hn.trans (hlen sig h)) hstack hW (by rw [hb]; exact hdg)
    (fun vm₁ hW₁ => ⟨hf.1, hf.2, hp.2 (T.setVm vm₁) hT hW₁⟩) with ⟨v, vm₁, ⟨U', l2, c2, s2⟩, hW₁, X', ⟨g', mk, t, L, e1, e2, hq, h1, hL, h2, h3⟩, st⟩ | ⟨q, vm₁, ⟨U', l2, c2, s2⟩, hW₁, X', ⟨g', mk, t, L, E, ce, e1, e2, hq, hce, hcv, hcl, h1, hL, h2, h3⟩, st⟩
  · dsimp only [Pt.U, Pt.locs, Pt.cells, Pt.slots] at X' e1 e2 h1 h2 h3 st
    subst h1; subst h2; subst h3
    exact Or.inl ⟨v, (T.setVm vm₁).calling g' mk As.toArray, t, U', L, hT, X', hL, e1, e2, hq, st⟩
  · dsimp only [Pt.U, Pt.locs, Pt.cells, Pt.slots] at X' e1 e2 h1 h2 h3 st hcl
    subst h1; subst h2; subst h3
    exact Or.inr ⟨q, (T.setVm vm₁).calling g' mk As.toArray, t, U', L, E, ce, hT, X', hL, e1, e2, hq, hce, hcv, vx_cls hW₁ hcl, st⟩
end Runs
section Rows
variable {p : Program} {l : Launch} {e : Env} {R : Room} {s : State} {m : MethodId} {args : Array Value} {below : List Frame} {meth : Method} {c : Code} {H : Heap} {locs : List Loc} {cells slots : Nat} {Q : State → Prop}
variable {mc ms : Nat} {free : Addr → Prop} {A0 A1 : Nat → Prop} {H0 : Heap} {a : Array Value} {pc : Nat} {ls : Array Slot} {st0 rest : List Value}
theorem vx_keep {st₀ t T' : State} {L : List Loc} (h0 : st₀.heap = H) (e1 : T'.heap = t.heap) (hS : va_S A0 H0 H locs) (hA : ∀ q, q < H.size → A1 q → A0 q) (hf : ∀ q, free q → A0 q) (hL : ∀ q ∈ L, free q.base) (hF : va_F A1 st₀ t) :
    H.size ≤ T'.heap.size ∧ (∀ q : Nat, q < H.size → ¬ A1 q → T'.heap[q]? = H[q]?) ∧ va_S A0 H0 T'.heap (locs ++ L) := by
  obtain ⟨hz, hk⟩ := hF
  rw [h0] at hz hk
  exact ⟨by rw [e1]; exact hz, fun q h1 h2 => by rw [e1]; exact hk q h1 h2,
    ⟨Nat.le_trans hS.1 (by rw [e1]; exact hz), fun q h1 h2 => by rw [e1, hk q (Nat.lt_of_lt_of_le h1 hS.1) (fun z => h2 (hA q (Nat.lt_of_lt_of_le h1 hS.1) z))]; exact hS.2.1 q h1 h2, fun q hq => by
      rcases List.mem_append.mp hq with h | h
      · exact hS.2.2 q h
      · exact hf _ (hL q h)⟩⟩
theorem vx_calli {S SX : Type} {post : Int32 → S → Prop} {px : SX → Prop} {B : S → State → Prop} {BX : String → SX → State → Prop} {AX : Nat → Prop} (hr : vx_Run p l e R s m args below meth c H locs cells slots mc ms (F0 m pc ls st0) rest (va_Qi post B A1 a) (vx_X px BX AX) free) (hS : va_S A0 H0 H locs) (hA : ∀ q, q < H.size → A1 q → A0 q) (hf : ∀ q, free q → A0 q) (hAX : ∀ q, q < H.size → AX q → A0 q)
    (kx : ∀ (E : String) (ce : Cell) (q9 : Addr) (u : SX) (t : State) (H1 : Heap) (locs1 : List Loc), t.heap = H1 → s.vm.Alike t.vm → px u → BX E u t → H.size ≤ H1.size → (∀ q : Nat, q < H.size → ¬ AX q → H1[q]? = H[q]?) → va_S A0 H0 H1 locs1 → H1[q9]? = some ce → ce.vm = .none → s.vm.findClass E = some ce.cls → vx_W p l e R s m args below meth c H1 locs1 (cells + mc) (slots + ms) Q (F0 m pc ls rest) q9)
    (kk : ∀ (r : Int32) (u : S) (t : State) (H1 : Heap) (locs1 : List Loc), t.heap = H1 → s.vm.Alike t.vm → post r u → B u t → H.size ≤ H1.size → (∀ q : Nat, q < H.size → ¬ A1 q → H1[q]? = H[q]?) → va_S A0 H0 H1 locs1 → W p l e R s m args below meth c H1 locs1 (cells + mc) (slots + ms) Q (F0 m (pc + 3) ls (.int r :: rest))) : W p l e R s m args below meth c H locs cells slots Q (F0 m pc ls st0) := by
  intro T hT X
  rcases hr T hT X with ⟨v, st₀, t, T', L, h0, X', hL, e1, e2, ⟨⟨r, u, hv, hp, hb⟩, hF⟩, st⟩ | ⟨q, st₀, t, T', L, E, ce, h0, X', hL, e1, e2, ⟨u, hp, hb, hF⟩, hce, hcv, hcl, st⟩
  · cases hv
    obtain ⟨k1, k2, k3⟩ := vx_keep h0 e1 hS hA hf hL hF
    obtain ⟨t2, a1, b1⟩ := kk r u t T'.heap (locs ++ L) e1.symm (by rw [← e2]; exact X'.warmed.alike) hp hb k1 k2 k3 T' rfl X'
    exact ⟨t2, st t2 a1, b1⟩
  · obtain ⟨k1, k2, k3⟩ := vx_keep h0 e1 hS hAX hf hL hF
    obtain ⟨t2, a1, b1⟩ := kx E ce q u t T'.heap (locs ++ L) e1.symm (by rw [← e2]; exact X'.warmed.alike) hp hb k1 k2 k3 (by rw [e1]; exact hce) hcv hcl T' rfl X'
    exact ⟨t2, st.trans a1, b1⟩
theorem vx_calll {S SX : Type} {post : Int64 → S → Prop} {px : SX → Prop} {B : S → State → Prop} {BX : String → SX → State → Prop} {AX : Nat → Prop} (hr : vx_Run p l e R s m args below meth c H locs cells slots mc ms (F0 m pc ls st0) rest (va_Ql post B A1 a) (vx_X px BX AX) free) (hS : va_S A0 H0 H locs) (hA : ∀ q, q < H.size → A1 q → A0 q) (hf : ∀ q, free q → A0 q) (hAX : ∀ q, q < H.size → AX q → A0 q)
    (kx : ∀ (E : String) (ce : Cell) (q9 : Addr) (u : SX) (t : State) (H1 : Heap) (locs1 : List Loc), t.heap = H1 → s.vm.Alike t.vm → px u → BX E u t → H.size ≤ H1.size → (∀ q : Nat, q < H.size → ¬ AX q → H1[q]? = H[q]?) → va_S A0 H0 H1 locs1 → H1[q9]? = some ce → ce.vm = .none → s.vm.findClass E = some ce.cls → vx_W p l e R s m args below meth c H1 locs1 (cells + mc) (slots + ms) Q (F0 m pc ls rest) q9)
    (kk : ∀ (r : Int64) (u : S) (t : State) (H1 : Heap) (locs1 : List Loc), t.heap = H1 → s.vm.Alike t.vm → post r u → B u t → H.size ≤ H1.size → (∀ q : Nat, q < H.size → ¬ A1 q → H1[q]? = H[q]?) → va_S A0 H0 H1 locs1 → W p l e R s m args below meth c H1 locs1 (cells + mc) (slots + ms) Q (F0 m (pc + 3) ls (.long r :: rest))) : W p l e R s m args below meth c H locs cells slots Q (F0 m pc ls st0) := by
  intro T hT X
  rcases hr T hT X with ⟨v, st₀, t, T', L, h0, X', hL, e1, e2, ⟨⟨r, u, hv, hp, hb⟩, hF⟩, st⟩ | ⟨q, st₀, t, T', L, E, ce, h0, X', hL, e1, e2, ⟨u, hp, hb, hF⟩, hce, hcv, hcl, st⟩
  · cases hv
    obtain ⟨k1, k2, k3⟩ := vx_keep h0 e1 hS hA hf hL hF
    obtain ⟨t2, a1, b1⟩ := kk r u t T'.heap (locs ++ L) e1.symm (by rw [← e2]; exact X'.warmed.alike) hp hb k1 k2 k3 T' rfl X'
    exact ⟨t2, st t2 a1, b1⟩
  · obtain ⟨k1, k2, k3⟩ := vx_keep h0 e1 hS hAX hf hL hF
    obtain ⟨t2, a1, b1⟩ := kx E ce q u t T'.heap (locs ++ L) e1.symm (by rw [← e2]; exact X'.warmed.alike) hp hb k1 k2 k3 (by rw [e1]; exact hce) hcv hcl T' rfl X'
    exact ⟨t2, st.trans a1, b1⟩
theorem vx_callf {S SX : Type} {post : UInt32 → S → Prop} {px : SX → Prop} {B : S → State → Prop} {BX : String → SX → State → Prop} {AX : Nat → Prop} (hr : vx_Run p l e R s m args below meth c H locs cells slots mc ms (F0 m pc ls st0) rest (va_Qf post B A1 a) (vx_X px BX AX) free) (hS : va_S A0 H0 H locs) (hA : ∀ q, q < H.size → A1 q → A0 q) (hf : ∀ q, free q → A0 q) (hAX : ∀ q, q < H.size → AX q → A0 q)
    (kx : ∀ (E : String) (ce : Cell) (q9 : Addr) (u : SX) (t : State) (H1 : Heap) (locs1 : List Loc), t.heap = H1 → s.vm.Alike t.vm → px u → BX E u t → H.size ≤ H1.size → (∀ q : Nat, q < H.size → ¬ AX q → H1[q]? = H[q]?) → va_S A0 H0 H1 locs1 → H1[q9]? = some ce → ce.vm = .none → s.vm.findClass E = some ce.cls → vx_W p l e R s m args below meth c H1 locs1 (cells + mc) (slots + ms) Q (F0 m pc ls rest) q9)
    (kk : ∀ (r : UInt32) (u : S) (t : State) (H1 : Heap) (locs1 : List Loc), t.heap = H1 → s.vm.Alike t.vm → post r u → B u t → H.size ≤ H1.size → (∀ q : Nat, q < H.size → ¬ A1 q → H1[q]? = H[q]?) → va_S A0 H0 H1 locs1 → W p l e R s m args below meth c H1 locs1 (cells + mc) (slots + ms) Q (F0 m (pc + 3) ls (.float r :: rest))) : W p l e R s m args below meth c H locs cells slots Q (F0 m pc ls st0) := by
  intro T hT X
  rcases hr T hT X with ⟨v, st₀, t, T', L, h0, X', hL, e1, e2, ⟨⟨r, u, hv, hp, hb⟩, hF⟩, st⟩ | ⟨q, st₀, t, T', L, E, ce, h0, X', hL, e1, e2, ⟨u, hp, hb, hF⟩, hce, hcv, hcl, st⟩
  · cases hv
    obtain ⟨k1, k2, k3⟩ := vx_keep h0 e1 hS hA hf hL hF
    obtain ⟨t2, a1, b1⟩ := kk r u t T'.heap (locs ++ L) e1.symm (by rw [← e2]; exact X'.warmed.alike) hp hb k1 k2 k3 T' rfl X'
    exact ⟨t2, st t2 a1, b1⟩
  · obtain ⟨k1, k2, k3⟩ := vx_keep h0 e1 hS hAX hf hL hF
    obtain ⟨t2, a1, b1⟩ := kx E ce q u t T'.heap (locs ++ L) e1.symm (by rw [← e2]; exact X'.warmed.alike) hp hb k1 k2 k3 (by rw [e1]; exact hce) hcv hcl T' rfl X'
    exact ⟨t2, st.trans a1, b1⟩
theorem vx_calld {S SX : Type} {post : UInt64 → S → Prop} {px : SX → Prop} {B : S → State → Prop} {BX : String → SX → State → Prop} {AX : Nat → Prop} (hr : vx_Run p l e R s m args below meth c H locs cells slots mc ms (F0 m pc ls st0) rest (va_Qd post B A1 a) (vx_X px BX AX) free) (hS : va_S A0 H0 H locs) (hA : ∀ q, q < H.size → A1 q → A0 q) (hf : ∀ q, free q → A0 q) (hAX : ∀ q, q < H.size → AX q → A0 q)
    (kx : ∀ (E : String) (ce : Cell) (q9 : Addr) (u : SX) (t : State) (H1 : Heap) (locs1 : List Loc), t.heap = H1 → s.vm.Alike t.vm → px u → BX E u t → H.size ≤ H1.size → (∀ q : Nat, q < H.size → ¬ AX q → H1[q]? = H[q]?) → va_S A0 H0 H1 locs1 → H1[q9]? = some ce → ce.vm = .none → s.vm.findClass E = some ce.cls → vx_W p l e R s m args below meth c H1 locs1 (cells + mc) (slots + ms) Q (F0 m pc ls rest) q9)
    (kk : ∀ (r : UInt64) (u : S) (t : State) (H1 : Heap) (locs1 : List Loc), t.heap = H1 → s.vm.Alike t.vm → post r u → B u t → H.size ≤ H1.size → (∀ q : Nat, q < H.size → ¬ A1 q → H1[q]? = H[q]?) → va_S A0 H0 H1 locs1 → W p l e R s m args below meth c H1 locs1 (cells + mc) (slots + ms) Q (F0 m (pc + 3) ls (.double r :: rest))) : W p l e R s m args below meth c H locs cells slots Q (F0 m pc ls st0) := by
  intro T hT X
  rcases hr T hT X with ⟨v, st₀, t, T', L, h0, X', hL, e1, e2, ⟨⟨r, u, hv, hp, hb⟩, hF⟩, st⟩ | ⟨q, st₀, t, T', L, E, ce, h0, X', hL, e1, e2, ⟨u, hp, hb, hF⟩, hce, hcv, hcl, st⟩
  · cases hv
    obtain ⟨k1, k2, k3⟩ := vx_keep h0 e1 hS hA hf hL hF
    obtain ⟨t2, a1, b1⟩ := kk r u t T'.heap (locs ++ L) e1.symm (by rw [← e2]; exact X'.warmed.alike) hp hb k1 k2 k3 T' rfl X'
    exact ⟨t2, st t2 a1, b1⟩
  · obtain ⟨k1, k2, k3⟩ := vx_keep h0 e1 hS hAX hf hL hF
    obtain ⟨t2, a1, b1⟩ := kx E ce q u t T'.heap (locs ++ L) e1.symm (by rw [← e2]; exact X'.warmed.alike) hp hb k1 k2 k3 (by rw [e1]; exact hce) hcv hcl T' rfl X'
    exact ⟨t2, st.trans a1, b1⟩
theorem vx_callv {S SX : Type} {post : S → Prop} {px : SX → Prop} {B : S → State → Prop} {BX : String → SX → State → Prop} {AX : Nat → Prop} (hr : vx_Run p l e R s m args below meth c H locs cells slots mc ms (F0 m pc ls st0) rest (va_Qv post B A1 a) (vx_X px BX AX) free) (hS : va_S A0 H0 H locs) (hA : ∀ q, q < H.size → A1 q → A0 q) (hf : ∀ q, free q → A0 q) (hAX : ∀ q, q < H.size → AX q → A0 q)
    (kx : ∀ (E : String) (ce : Cell) (q9 : Addr) (u : SX) (t : State) (H1 : Heap) (locs1 : List Loc), t.heap = H1 → s.vm.Alike t.vm → px u → BX E u t → H.size ≤ H1.size → (∀ q : Nat, q < H.size → ¬ AX q → H1[q]? = H[q]?) → va_S A0 H0 H1 locs1 → H1[q9]? = some ce → ce.vm = .none → s.vm.findClass E = some ce.cls → vx_W p l e R s m args below meth c H1 locs1 (cells + mc) (slots + ms) Q (F0 m pc ls rest) q9)
    (kk : ∀ (u : S) (t : State) (H1 : Heap) (locs1 : List Loc), t.heap = H1 → s.vm.Alike t.vm → post u → B u t → H.size ≤ H1.size → (∀ q : Nat, q < H.size → ¬ A1 q → H1[q]? = H[q]?) → va_S A0 H0 H1 locs1 → W p l e R s m args below meth c H1 locs1 (cells + mc) (slots + ms) Q (F0 m (pc + 3) ls (rest))) : W p l e R s m args below meth c H locs cells slots Q (F0 m pc ls st0) := by
  intro T hT X
  rcases hr T hT X with ⟨v, st₀, t, T', L, h0, X', hL, e1, e2, ⟨⟨u, hv, hp, hb⟩, hF⟩, st⟩ | ⟨q, st₀, t, T', L, E, ce, h0, X', hL, e1, e2, ⟨u, hp, hb, hF⟩, hce, hcv, hcl, st⟩
  · cases hv
    obtain ⟨k1, k2, k3⟩ := vx_keep h0 e1 hS hA hf hL hF
    obtain ⟨t2, a1, b1⟩ := kk u t T'.heap (locs ++ L) e1.symm (by rw [← e2]; exact X'.warmed.alike) hp hb k1 k2 k3 T' rfl X'
    exact ⟨t2, st t2 a1, b1⟩
  · obtain ⟨k1, k2, k3⟩ := vx_keep h0 e1 hS hAX hf hL hF
    obtain ⟨t2, a1, b1⟩ := kx E ce q u t T'.heap (locs ++ L) e1.symm (by rw [← e2]; exact X'.warmed.alike) hp hb k1 k2 k3 (by rw [e1]; exact hce) hcv hcl T' rfl X'
    exact ⟨t2, st.trans a1, b1⟩
/-- caught by the row x of this method's table; the rows ahead don't take it -/
theorem vx_catch {own name : String} {E : String} {ce : Cell} {q : Addr} (hown : s.vm.findClass own = some m.cls) (pre : List ExceptionTableEntry) (x : ExceptionTableEntry) (suf : List ExceptionTableEntry) (hsplit : c.exceptionTable.toList = pre ++ x :: suf)
    (hpass : ∀ z ∈ pre, covers z pc = false ∨ (z.catchType ≠ 0 ∧ ∃ nm : String, (Cond.classLink own z.catchType nm).before args s = true ∧ va_Nc E nm s)) (hx : covers x pc = true) (h0 : x.catchType ≠ 0)
    (hlink : (Cond.classLink own x.catchType name).before args s = true) (hcast : (Cond.castable E name).before args s = true) (hcell : H[q]? = some ce) (hv : ce.vm = .none) (hcl : s.vm.findClass E = some ce.cls)
    (kk : W p l e R s m args below meth c H locs cells slots Q (F0 m x.handlerPc ls [.ref q])) : vx_W p l e R s m args below meth c H locs cells slots Q (F0 m pc ls rest) q := by
  intro T hT X
  have hpl : e.platform.magicAccessors = ({} : Platform).magicAccessors := by rw [X.admits.platform]
  obtain ⟨c3, c4, hc3, hc4, hasg⟩ := Cond.castable_spec hcast
  cases Option.some.inj (hc3.symm.trans hcl)
  obtain ⟨c5, hc5, hcl5⟩ := Cond.classLink_spec hown hlink e.platform hpl
  cases Option.some.inj (hc4.symm.trans hc5)
  obtain ⟨vm', X', st⟩ := X.thenCaughtThrough q (g := F0 m pc ls rest) rfl (Steps.refl _) (by rw [hT]; exact hcell) (by rw [hv]; rfl) (by obtain ⟨k9, h9, -⟩ := Vm.findClass_spec hcl; exact ⟨k9, h9⟩) pre x suf hsplit
    (fun z hz => by
      rcases hpass z hz with h | ⟨hz0, nm, hl1, hn1⟩
      · exact Or.inl h
      · obtain ⟨c6, hc6, hcl6⟩ := Cond.classLink_spec hown hl1 e.platform hpl
        obtain ⟨a8, b8, h1, h2, h3⟩ := hn1
        cases Option.some.inj (h1.symm.trans hcl)
        cases Option.some.inj (h2.symm.trans hc6)
        exact Or.inr ⟨hz0, _, hcl6, h3⟩) hx (Or.inr ⟨h0, c4, hcl5, hasg⟩)
  obtain ⟨t, a1, b1⟩ := kk (T.setVm vm') hT X'
  exact ⟨t, st.trans a1, b1⟩
end Rows
section Ends
variable {p : Program} {l : Launch} {e : Env} {R : Room} {s : State} {m : MethodId} {args : Array Value} {below : List Frame} {meth : Method} {c : Code} {H : Heap} {locs : List Loc} {cells slots : Nat} {Q : State → Prop}
variable {mc ms : Nat} {free : Addr → Prop} {A0 A1 : Nat → Prop} {H0 : Heap} {a : Array Value} {ls : Array Slot} {st0 rest : List Value}
variable {Qc : Array Value → State → Outcome → State → Prop} {XC : String → State → State → Prop}
/-- what a body that may throw owes at its end -/
def vx_MQ (below : List Frame) (Qc : Array Value → State → Outcome → State → Prop) (XC : String → State → State → Prop) (a : Array Value) (s : State) (mc ms : Nat) (free : Addr → Prop) : State → Prop := fun t =>
  ∃ o, t.status = .running ∧ Ended t below o ∧ vx_Q Qc XC mc ms free a s o t
theorem vx_ret {g : JFrame} {mc ms : Nat} (k : W p l e R s m args below meth c H locs cells slots (MQ below Qc args s mc ms free) g) : W p l e R s m args below meth c H locs cells slots (vx_MQ below Qc XC args s mc ms free) g := by
  intro T hT X
  obtain ⟨t, a1, o, b1, b2, b3, b4⟩ := k T hT X
  exact ⟨t, a1, o, b1, b2, Or.inl ⟨b3, b4⟩⟩
/-- not caught here: it goes on to the caller -/
theorem vx_widen {g : JFrame} {q : Addr} {k n : Nat} (h1 : cells ≤ k) (h2 : slots ≤ n) (kk : vx_W p l e R s m args below meth c H locs k n Q g q) : vx_W p l e R s m args below meth c H locs cells slots Q g q := fun T hT X => kk T hT (stand_widen X h1 h2)
theorem vx_out {pc : Nat} {E : String} {ce : Cell} {q : Addr} {mc ms : Nat} (hout : ∀ x ∈ c.exceptionTable.toList, covers x pc = false) (hlocks : meth.locks = false) (hcell : H[q]? = some ce) (hv : ce.vm = .none) (hcl : s.vm.findClass E = some ce.cls)
    (hx : ∀ t : State, t.heap = H → s.vm.Alike t.vm → XC E s t) (hf : ∀ z ∈ locs, free z.base) (hc : cells ≤ mc) (hs : slots ≤ ms) :
    vx_W p l e R s m args below meth c H locs cells slots (vx_MQ below Qc XC args s mc ms free) (F0 m pc ls rest) q := by
  intro T hT X
  obtain ⟨st1, hrun, hend, hW, hsm⟩ := X.leaveThrown q (g := F0 m pc ls rest) rfl rfl rfl hout hlocks
  have hcell9 : (T.setFrames (.throwing q :: below)).heap[q]? = some ce := by
    show T.heap[q]? = some ce
    rw [hT]; exact hcell
  exact ⟨_, st1, .threw q, hrun, hend, Or.inr ⟨q, rfl, E, ce, locs, hx _ hT hW.alike, hcell9, hv, hcl, hW, hsm.mono hc hs, hf⟩⟩
theorem vx_frame {U : State} {k n : Nat} (h : s.sameButNew ({ U with vm := s.vm } : State) locs k n) : s.heap.size ≤ U.heap.size ∧ ∀ q : Nat, q < s.heap.size → (∀ z ∈ locs, z.base ≠ q) → U.heap[q]? = s.heap[q]? := by
  obtain ⟨-, h2, -, -, -, h6⟩ := h
  refine ⟨h2, fun q hq hz => ?_⟩
  obtain ⟨c9, e1, e2, e3, e4⟩ := h6 q _ (Array.getElem?_eq_getElem hq)
  have hs : c9.slots = (s.heap[q]).slots := Array.ext_getElem? fun i => e4 i fun hm => hz _ hm rfl
  have h9 : c9 = s.heap[q] := by
    rw [hs] at e2
    exact e2
  have e5 : U.heap[q]? = some c9 := e1
  rw [e5, h9, Array.getElem?_eq_getElem hq]
/-- the words of a throw but the four that speak of the heap -/
def vx_no (w : Cond) : Bool := decide (w ≠ .isRef (.static Bundle.tN "UNASSIGNED_STACK" Bundle.steD)) && decide (w ≠ .isRef (.static Bundle.tN "SUPPRESSED_SENTINEL" Bundle.listD)) && decide (w ≠ .laysStatic Bundle.tN "UNASSIGNED_STACK" Bundle.steD) && decide (w ≠ .laysStatic Bundle.tN "SUPPRESSED_SENTINEL" Bundle.listD)
def vx_at0 (own : String) (ic : Nat) (X : String) (names : List String) : List Cond := (Bundle.ownAtoms0 own ic X names).filter vx_no
def vx_atS (own : String) (ic : Nat) (X : String) (names : List String) : List Cond := (Bundle.ownAtoms own ic X names).filter vx_no
/-- a word that the tables alone decide, or a good one -/
def vx_ot (w : Cond) : Bool := w.onTables || goodWord w
theorem vx_ot_at {args a' : Array Value} {s U : State} {w : Cond} (hW : s.WarmedH U.vm) (hvm : s.vm = U.vm) (hg : vx_ot w = true) (h : w.before args s = true) : w.before a' U = true := by
  simp only [vx_ot, Bool.or_eq_true] at hg
  rcases hg with hg | hg
  · exact va_tabs hg hvm h
  · exact word_at hW (good_of_word hg) h
/-- a list's words: the good ones out of the method's own list, the others by premises of their own -/
theorem vx_hat {args : Array Value} {s : State} {L B : List Cond} (h1 : ∀ w ∈ L.filter goodWord, w.before args s = true) (h2 : ∀ w ∈ L.filter (fun w => !goodWord w), w ∈ B) (h3 : ∀ w ∈ B, w.before args s = true) : ∀ w ∈ L, w.before args s = true := by
  intro w hw
  by_cases g : goodWord w = true
  · exact h1 w (List.mem_filter.mpr ⟨hw, g⟩)
  · refine h3 w (h2 w (List.mem_filter.mpr ⟨hw, ?_⟩))
    show (!goodWord w) = true
    cases hgw : goodWord w
    · rfl
    · exact absurd hgw g
theorem vx_c {args : Array Value} {s : State} {w : Cond} {B : List Cond} (h : w.before args s = true) (t : ∀ w ∈ B, w.before args s = true) : ∀ w' ∈ w :: B, w'.before args s = true := fun w' h' => (List.mem_cons.mp h').elim (fun e => by rw [e]; exact h) (t w')
theorem vx_n {args : Array Value} {s : State} : ∀ w ∈ ([] : List Cond), w.before args s = true := fun _ h => nomatch h
theorem vx_own {args : Array Value} {s : State} {L : List Cond} (h1 : ∀ w ∈ L.filter vx_no, w.before args s = true)
    (hU : (Cond.isRef (.static Bundle.tN "UNASSIGNED_STACK" Bundle.steD)).before args s = true) (hN : (Cond.isRef (.static Bundle.tN "SUPPRESSED_SENTINEL" Bundle.listD)).before args s = true)
    (lU : (Cond.laysStatic Bundle.tN "UNASSIGNED_STACK" Bundle.steD).before args s = true) (lN : (Cond.laysStatic Bundle.tN "SUPPRESSED_SENTINEL" Bundle.listD).before args s = true) : ∀ w ∈ L, w.before args s = true := by
  intro w hw
  by_cases e1 : w = .isRef (.static Bundle.tN "UNASSIGNED_STACK" Bundle.steD)
  · rw [e1]; exact hU
  · by_cases e2 : w = .isRef (.static Bundle.tN "SUPPRESSED_SENTINEL" Bundle.listD)
    · rw [e2]; exact hN
    · by_cases e3 : w = .laysStatic Bundle.tN "UNASSIGNED_STACK" Bundle.steD
      · rw [e3]; exact lU
      · by_cases e4 : w = .laysStatic Bundle.tN "SUPPRESSED_SENTINEL" Bundle.listD
        · rw [e4]; exact lN
        · exact h1 w (List.mem_filter.mpr ⟨hw, by unfold vx_no; rw [decide_eq_true e1, decide_eq_true e2, decide_eq_true e3, decide_eq_true e4]; rfl⟩)
/-- where a static field lies, its class's statics cell in H -/
def vx_L (C n d : String) (A : Nat → Prop) (U : State) (H : Heap) : Prop := ∃ (c : ClassId) (k : Class) (i : Nat) (f : Field) (a : Nat) (cell : Cell), U.vm.findClass C = some c ∧ U.fieldFound? C n d = some (c, k, i, f) ∧ f.isStatic = true ∧ k.statics = some a ∧ H[a]? = some cell ∧ cell.vm.isStatics = true ∧ cell.cls = c ∧ f.slot < cell.slots.size ∧ k.staticTypes[f.slot]? = some f.type ∧ ¬ A a
theorem vx_L.moved {C n d : String} {A : Nat → Prop} {u U : State} {H : Heap} (hvm : u.vm.Alike U.vm) (h : vx_L C n d A u H) : vx_L C n d A U H := by
  obtain ⟨c, k, i, f, a, cell, h1, h2, h3, h4, h5, h6, h7, h8, h9, h10⟩ := h
  obtain ⟨k', hi', he⟩ := State.fieldFound?_setVm hvm h2
  exact ⟨c, k', i, f, a, cell, by rw [hvm.findClass]; exact h1, hi', h3, by rw [he]; exact h4, h5, h6, h7, h8, by rw [he]; exact h9, h10⟩
theorem vx_L.kept {C n d : String} {A : Nat → Prop} {U : State} {H H1 : Heap} (h : vx_L C n d A U H) (hq : ∀ a : Nat, a < H.size → ¬ A a → H1[a]? = H[a]?) : vx_L C n d A U H1 := by
  obtain ⟨c, k, i, f, a, cell, h1, h2, h3, h4, h5, h6, h7, h8, h9, h10⟩ := h
  exact ⟨c, k, i, f, a, cell, h1, h2, h3, h4, by rw [hq a (Array.getElem?_eq_some_iff.mp h5).1 h10]; exact h5, h6, h7, h8, h9, h10⟩
theorem vx_L.narrow {C n d : String} {A B : Nat → Prop} {U : State} {H : Heap} (h : vx_L C n d A U H) (hAB : ∀ q, B q → A q) : vx_L C n d B U H := by
  obtain ⟨c, k, i, f, a, cell, h1, h2, h3, h4, h5, h6, h7, h8, h9, h10⟩ := h
  exact ⟨c, k, i, f, a, cell, h1, h2, h3, h4, h5, h6, h7, h8, h9, fun z => h10 (hAB _ z)⟩
theorem vx_L.word {C n d : String} {A : Nat → Prop} {s : State} {args : Array Value} (h : vx_L C n d A s s.heap) : (Cond.laysStatic C n d).before args s = true := by
  obtain ⟨c, k, i, f, a, cell, h1, h2, h3, h4, h5, h6, h7, h8, h9, -⟩ := h
  show (Cond.laysStatic C n d).holds args s none s [] = true
  exact Cond.laysStatic_of h1 h2 h3 h4 h5 h6 h7 h8 h9
/-- .. and what it holds: null or some reference -/
def vx_Zq (C n d : String) (A : Nat → Prop) (U : State) (H : Heap) : Prop := va_Zq C n d A U H ∧ vx_L C n d A U H
theorem vx_Zq.moved {C n d : String} {A : Nat → Prop} {u U : State} {H : Heap} (hvm : u.vm.Alike U.vm) (h : vx_Zq C n d A u H) : vx_Zq C n d A U H := ⟨va_Zq.moved hvm h.1, vx_L.moved hvm h.2⟩
theorem vx_Zq.kept {C n d : String} {A : Nat → Prop} {U : State} {H H1 : Heap} (h : vx_Zq C n d A U H) (hq : ∀ a : Nat, a < H.size → ¬ A a → H1[a]? = H[a]?) : vx_Zq C n d A U H1 := ⟨va_Zq.kept h.1 hq, vx_L.kept h.2 hq⟩
theorem vx_Zq.narrow {C n d : String} {A B : Nat → Prop} {U : State} {H : Heap} (h : vx_Zq C n d A U H) (hAB : ∀ q, B q → A q) : vx_Zq C n d B U H := ⟨va_Zq.narrow h.1 hAB, vx_L.narrow h.2 hAB⟩
theorem vx_Zqof {args : Array Value} {s : State} {C n d : String} {A : Nat → Prop} (hl : (Cond.laysStatic C n d).before args s = true) (hini : (Cond.initialized C).before args s = true) (h : (Cond.isRef (.static C n d)).before args s = true) (hA : ∀ a : Nat, a < s.heap.size → ¬ A a) : vx_Zq C n d A s s.heap := by
  refine ⟨va_Zqof hl hini h hA, ?_⟩
  obtain ⟨c, k, i, f, a, cell, h1, h2, h3, h4, h5, h6, h7, h8, h9⟩ := Cond.laysStatic_spec hl
  exact ⟨c, k, i, f, a, cell, h1, h2, h3, h4, h5, h6, h7, h8, h9, hA a (Array.getElem?_eq_some_iff.mp h5).1⟩
theorem vx_isRef {C n d : String} {v : Value} {A : Nat → Prop} {s : State} {args : Array Value} (h : va_Z C n d v A s s.heap) (hv : v.isRef = true) : (Cond.isRef (.static C n d)).before args s = true := by
  obtain ⟨cf, kf, fi, f, a, cell, h1, h2, h3, h4, h5, h6, h7, -⟩ := h
  have he : (Term.static C n d).eval args s none [] s = some v := by
    simp [Term.eval, State.fieldNamed?, h1, h2, h4, h5, h6, h7]
  simp only [Cond.before, Cond.holds, Cond.value, he]
  cases v <;> simp_all [Value.isRef]
theorem vx_isRefq {C n d : String} {A : Nat → Prop} {s : State} {args : Array Value} (h : va_Zq C n d A s s.heap) : (Cond.isRef (.static C n d)).before args s = true := by
  rcases h with h | ⟨t, h⟩
  · exact vx_isRef h rfl
  · exact vx_isRef h rfl
/-- the same frame, seen from here: as if the method were called anew in this heap -/
theorem vx_rebase {T : State} (X : Stand p l e R s m args below meth c T locs cells slots) {R' : Room} (hf : R'.frames ≤ R.frames) (hl : R'.locals ≤ R.locals) (hc : cells + R'.cells ≤ R.cells) (hs : slots + R'.slots ≤ R.slots) :
    Stand p l e R' ((T.setVm s.vm).setFrames (.invoking m args :: below)) m args below meth c T [] 0 0 := by
  have htop : (T.setVm s.vm).topJava?.isSome := X.here.top
  have hF : ((T.setVm s.vm).setFrames (.invoking m args :: below)).frames = .invoking m args :: below := State.frames_setFrames _ (State.cur_lt_of_top htop)
  obtain ⟨g₀, hg0⟩ := Option.isSome_iff_exists.mp htop
  obtain ⟨r, hr⟩ := State.topJava?_eq_some.mp hg0
  have hl9 : e.platform.stackLimits (T.setVm s.vm).me = e.platform.stackLimits s.me := X.limits
  have hb9 : (T.setVm s.vm).me.stackBytes = s.me.stackBytes := X.bytes
  refine ⟨X.admits, X.cas, X.clock, hF, ?_, X.hears, X.method, X.code, X.here, X.tail, X.warmed, ?_, ?_, ?_⟩
  · have h := X.room
    have hU : ((T.setVm s.vm).setFrames (.invoking m args :: below)).localsInUse = s.localsInUse := by
      rw [State.localsInUse_invoking hF (meth := meth) (c := c) X.method X.code, State.localsInUse_invoking X.frames X.method X.code]
    simp only [State.hasRoom, Bool.and_eq_true, decide_eq_true_eq] at h ⊢
    obtain ⟨⟨⟨⟨h1, h2, h3, h4, h5, h6⟩, h7⟩, h8⟩, h9⟩ := h
    rw [X.frames, List.length_cons] at h2 h3
    have q1 := X.heapSize
    have q2 := X.used
    simp only [hF, hU, List.length_cons, State.stackLimits_setFrames, State.stackBytes_setFrames, hl9, hb9]
    refine ⟨⟨⟨⟨by omega, by omega, by omega, by omega, by omega, h6⟩, ?_⟩, ?_⟩, X.book⟩
    · show T.heap.size + R'.cells ≤ e.platform.maxCells
      omega
    · show T.slotsUsed + R'.slots ≤ e.platform.maxSlots
      omega
  · rw [State.stackLimits_setFrames]; rfl
  · rw [State.stackBytes_setFrames]; rfl
  · refine ⟨?_, Nat.le_refl _, Nat.le_refl _, ?_, ?_, fun a c9 h9 => ⟨c9, h9, rfl, rfl, fun _ _ => rfl⟩⟩
    · obtain ⟨t, ht, -⟩ := State.frames_cons hr
      show T.setVm s.vm = { ((T.setVm s.vm).setFrames (.invoking m args :: below)).setFrames (T.setVm s.vm).frames with heap := T.heap, slotsUsed := T.slotsUsed }
      rw [State.setFrames_setFrames, State.setFrames_self ht]
      rfl
    · show T.slotsUsed = T.slotsUsed + ((T.heap.toList.drop T.heap.size).map (·.slots.size)).sum
      rw [List.drop_eq_nil_of_le (Nat.le_of_eq Array.length_toList)]
      rfl
    · show ((T.heap.toList.drop T.heap.size).map (·.slots.size)).sum ≤ 0
      rw [List.drop_eq_nil_of_le (Nat.le_of_eq Array.length_toList)]
      exact Nat.le_refl _
/-- 'throw new E()': new; dup; invokespecial; athrow -/
theorem vx_throw0 {cc : ByteArray} {pc : Nat} (hexec : p.tables.exec = Jvm.exec) (hb : c.code = cc) (hl : l.stackTraces = false) {own cls : String} {names : List String} {ik ic mc ms : Nat} {A : Nat → Prop}
    (hown : s.vm.findClass own = some m.cls) (hcls : Bundle.fit cls = true) (hnames : ∀ n ∈ names, Bundle.fit n = true)
    (hk : (Cond.classLink own ik cls).before args s = true) (hini : (Cond.initialized cls).before args s = true) (hat : ∀ w ∈ vx_at0 own ic cls names, w.before args s = true)
    (hgood : ∀ w ∈ Cond.classLink own ik cls :: Cond.initialized cls :: vx_at0 own ic cls names, vx_ot w = true)
    (hU : vx_Zq Bundle.tN "UNASSIGNED_STACK" Bundle.steD A s s.heap) (hN : vx_Zq Bundle.tN "SUPPRESSED_SENTINEL" Bundle.listD A s s.heap) (hS : va_S A s.heap H locs) (hsize : ls.size = c.maxLocals)
    (d0 : decode cc pc = .ok (.new ik, 3)) (d3 : decode cc (pc + 3) = .ok (.dup, 1)) (d4 : decode cc (pc + 4) = .ok (.invokespecial ic, 3)) (d7 : decode cc (pc + 7) = .ok (.athrow, 1))
    (hout : ∀ x ∈ c.exceptionTable.toList, covers x (pc + 7) = false)
    (hRframes : names.length + 3 < R.frames) (hRlocals : (rest.map fun v => v.category).sum + (13 * (names.length + 1) + 42) ≤ R.locals) (hRcells : cells + 1 ≤ R.cells) (hRslots : slots + 6 ≤ R.slots) (hlocks : meth.locks = false)
    (hx : ∀ t : State, s.vm.Alike t.vm → H.size ≤ t.heap.size → (∀ q : Nat, q < H.size → t.heap[q]? = H[q]?) → XC cls s t)
    (hf : ∀ z ∈ locs, free z.base) (hc : cells + 1 ≤ mc) (hs : slots + 6 ≤ ms) :
    W p l e R s m args below meth c H locs cells slots (vx_MQ below Qc XC args s mc ms free) (F0 m pc ls rest) := by
  intro T hT X
  have htr : e.platform.stackTraces = false := (show e.platform.stackTraces = l.stackTraces by rw [X.admits.platform]).trans hl
  have Y := vx_rebase X (R' := { frames := R.frames, locals := R.locals, cells := 1, slots := 6 }) (Nat.le_refl _) (Nat.le_refl _) hRcells hRslots
  obtain ⟨s', hA⟩ : ∃ z, z = (T.setVm s.vm).setFrames (.invoking m args :: below) := ⟨_, rfl⟩
  rw [← hA] at Y
  have hvm : s'.vm = s.vm := by rw [hA]; rfl
  have hhp : s'.heap = H := by rw [hA]; exact hT
  have hW0 : s.WarmedH s'.vm := by rw [hvm]; exact State.WarmedH.refl s
  have hat' : ∀ w ∈ vx_at0 own ic cls names, w.before args s' = true := fun w hw => vx_ot_at hW0 hvm.symm (hgood w (List.mem_cons_of_mem _ (List.mem_cons_of_mem _ hw))) (hat w hw)
  have hk' : (Cond.classLink own ik cls).before args s' = true := vx_ot_at hW0 hvm.symm (hgood _ List.mem_cons_self) hk
  have hini' : (Cond.initialized cls).before args s' = true := vx_ot_at hW0 hvm.symm (hgood _ (List.mem_cons_of_mem _ List.mem_cons_self)) hini
  have hU' : vx_Zq Bundle.tN "UNASSIGNED_STACK" Bundle.steD A s' s'.heap := by rw [hhp]; exact vx_Zq.moved hW0.alike (hU.kept hS.2.1)
  have hN' : vx_Zq Bundle.tN "SUPPRESSED_SENTINEL" Bundle.listD A s' s'.heap := by rw [hhp]; exact vx_Zq.moved hW0.alike (hN.kept hS.2.1)
  have h : ∀ w ∈ Bundle.ownAtoms0 own ic cls names, w.before args s' = true := vx_own hat' (vx_isRefq hU'.1) (vx_isRefq hN'.1) hU'.2.word hN'.2.word
  have hown' : s'.vm.findClass own = some m.cls := by rw [hvm]; exact hown
  have hins : (Cond.instantiable cls 6).before args s' = true := h _ (by simp [Bundle.ownAtoms0])
  obtain ⟨vm₁, cX, kX, hfX, hkX, -, -, X₁, st1⟩ := Y.newCold hexec (own := own) (C := cls) (index := ik) (n := 6) hown' hk' hins hini'
    (g := F0 m pc ls rest) rfl (by rw [hb]; exact d0) (Nat.le_refl _) (Nat.le_refl _)
  generalize hT1 : (T.setVm vm₁).pushCell { cls := cX, slots := kX.instanceTypes.map defaultValue, vm := .none } = T1 at X₁ st1
  have hcat : (Value.ref T.heap.size).category = 1 := rfl
  have hcellA : T1.heap[T.heap.size]? = some (freshCell cX kX) := by rw [← hT1]; exact State.heap_pushCell_size _ _
  have d3' : decode c.code (pc + 3) = .ok (.dup, 1) := by rw [hb]; exact d3
  obtain ⟨U, hsteps, hrun, hend, hW, hsame, ce, hce, hO⟩ := X₁.ctorThrow0 hexec htr (own := own) (cls := cls) (names := names) (ic := ic) hown' hcls hnames h (fun x hx => nomatch hx) hfX hkX hcellA (by rw [hhp, hT]; exact Nat.le_refl _)
    (g := { method := m, pc := pc + 4, locals := ls, stack := .ref T.heap.size :: .ref T.heap.size :: rest, locked := none }) rfl hsize rfl rfl (rest := rest) rfl
    (by rw [hb]; exact d4) (by rw [hb]; exact d7) hout hRframes (by simp only [List.map_cons, List.sum_cons, hcat]; omega) hlocks
  obtain ⟨f1, f2⟩ := vx_frame hsame
  rw [hhp] at f1 f2
  have hWs : s.WarmedH U.vm := State.WarmedH.trans hW0 hW
  have hcl : s.vm.findClass cls = some ce.cls := by
    have h9 := hO.cls
    rw [hvm] at h9
    exact h9
  have hall : s.sameButNew ({ U with vm := s.vm } : State) locs mc ms := by
    subst hA
    obtain ⟨e1, e2⟩ := hsame
    rw [State.setFrames_setFrames] at e1
    have h2 : (T.setVm s.vm).sameButNew ({ U with vm := s.vm } : State) [] (0 + 1) (0 + 6) := ⟨e1, e2⟩
    have h3 := X.same.trans h2
    rw [List.append_nil] at h3
    exact h3.mono hc hs
  refine ⟨U, ?_, .threw T.heap.size, hrun, hend, Or.inr ⟨T.heap.size, rfl, cls, ce, locs, hx U hWs.alike f1 (fun q hq => f2 q hq (fun z hz => nomatch hz)), hce, hO.vm, hcl, hWs, hall, hf⟩⟩
  refine st1 _ ?_
  show Steps p.tables e below (T1.setTop { method := m, pc := pc + 3, locals := ls, stack := .ref T.heap.size :: rest, locked := none }) _
  jvm_step X₁.here [X₁.here.top, hexec, d3', Value.category]
  exact hsteps
/-- 'throw new E("text")': new; dup; ldc; invokespecial; athrow -/
theorem vx_throwS {cc : ByteArray} {pc : Nat} (hexec : p.tables.exec = Jvm.exec) (hb : c.code = cc) (hl : l.stackTraces = false) {own cls text : String} {names : List String} {ik is ic mc ms sa : Nat} {A : Nat → Prop}
    (hown : s.vm.findClass own = some m.cls) (hcls : Bundle.fit cls = true) (hnames : ∀ n ∈ names, Bundle.fit n = true)
    (hk : (Cond.classLink own ik cls).before args s = true) (hini : (Cond.initialized cls).before args s = true) (hstr : vk_R own is text sa s) (hat : ∀ w ∈ vx_atS own ic cls names, w.before args s = true)
    (hgood : ∀ w ∈ Cond.classLink own ik cls :: Cond.initialized cls :: vx_atS own ic cls names, vx_ot w = true)
    (hU : vx_Zq Bundle.tN "UNASSIGNED_STACK" Bundle.steD A s s.heap) (hN : vx_Zq Bundle.tN "SUPPRESSED_SENTINEL" Bundle.listD A s s.heap) (hS : va_S A s.heap H locs) (hsize : ls.size = c.maxLocals)
    (d0 : decode cc pc = .ok (.new ik, 3)) (d3 : decode cc (pc + 3) = .ok (.dup, 1)) (d4 : decode cc (pc + 4) = .ok (.ldc is, 2)) (d6 : decode cc (pc + 6) = .ok (.invokespecial ic, 3)) (d9 : decode cc (pc + 9) = .ok (.athrow, 1))
    (hout : ∀ x ∈ c.exceptionTable.toList, covers x (pc + 9) = false)
    (hRframes : names.length + 3 < R.frames) (hRlocals : (rest.map fun v => v.category).sum + (13 * (names.length + 1) + 43) ≤ R.locals) (hRcells : cells + 1 ≤ R.cells) (hRslots : slots + 6 ≤ R.slots) (hlocks : meth.locks = false)
    (hx : ∀ t : State, s.vm.Alike t.vm → H.size ≤ t.heap.size → (∀ q : Nat, q < H.size → t.heap[q]? = H[q]?) → XC cls s t)
    (hf : ∀ z ∈ locs, free z.base) (hc : cells + 1 ≤ mc) (hs : slots + 6 ≤ ms) :
    W p l e R s m args below meth c H locs cells slots (vx_MQ below Qc XC args s mc ms free) (F0 m pc ls rest) := by
  intro T hT X
  have htr : e.platform.stackTraces = false := (show e.platform.stackTraces = l.stackTraces by rw [X.admits.platform]).trans hl
  have Y := vx_rebase X (R' := { frames := R.frames, locals := R.locals, cells := 1, slots := 6 }) (Nat.le_refl _) (Nat.le_refl _) hRcells hRslots
  obtain ⟨s', hA⟩ : ∃ z, z = (T.setVm s.vm).setFrames (.invoking m args :: below) := ⟨_, rfl⟩
  rw [← hA] at Y
  have hvm : s'.vm = s.vm := by rw [hA]; rfl
  have hhp : s'.heap = H := by rw [hA]; exact hT
  have hW0 : s.WarmedH s'.vm := by rw [hvm]; exact State.WarmedH.refl s
  have hat' : ∀ w ∈ vx_atS own ic cls names, w.before args s' = true := fun w hw => vx_ot_at hW0 hvm.symm (hgood w (List.mem_cons_of_mem _ (List.mem_cons_of_mem _ hw))) (hat w hw)
  have hk' : (Cond.classLink own ik cls).before args s' = true := vx_ot_at hW0 hvm.symm (hgood _ List.mem_cons_self) hk
  have hini' : (Cond.initialized cls).before args s' = true := vx_ot_at hW0 hvm.symm (hgood _ (List.mem_cons_of_mem _ List.mem_cons_self)) hini
  have hU' : vx_Zq Bundle.tN "UNASSIGNED_STACK" Bundle.steD A s' s'.heap := by rw [hhp]; exact vx_Zq.moved hW0.alike (hU.kept hS.2.1)
  have hN' : vx_Zq Bundle.tN "SUPPRESSED_SENTINEL" Bundle.listD A s' s'.heap := by rw [hhp]; exact vx_Zq.moved hW0.alike (hN.kept hS.2.1)
  have h : ∀ w ∈ Bundle.ownAtoms own ic cls names, w.before args s' = true := vx_own hat' (vx_isRefq hU'.1) (vx_isRefq hN'.1) hU'.2.word hN'.2.word
  have hown' : s'.vm.findClass own = some m.cls := by rw [hvm]; exact hown
  have hins : (Cond.instantiable cls 6).before args s' = true := h _ (by simp [Bundle.ownAtoms])
  obtain ⟨vm₁, cX, kX, hfX, hkX, -, -, X₁, st1⟩ := Y.newCold hexec (own := own) (C := cls) (index := ik) (n := 6) hown' hk' hins hini'
    (g := F0 m pc ls rest) rfl (by rw [hb]; exact d0) (Nat.le_refl _) (Nat.le_refl _)
  generalize hT1 : (T.setVm vm₁).pushCell { cls := cX, slots := kX.instanceTypes.map defaultValue, vm := .none } = T1 at X₁ st1
  have hcat : (Value.ref T.heap.size).category = 1 := rfl
  have hcellA : T1.heap[T.heap.size]? = some (freshCell cX kX) := by rw [← hT1]; exact State.heap_pushCell_size _ _
  have d3' : decode c.code (pc + 3) = .ok (.dup, 1) := by rw [hb]; exact d3
  have d4' : decode c.code (pc + 4) = .ok (.ldc is, 2) := by rw [hb]; exact d4
  have hstr' : vk_R own is text sa s' := vk_R.warm hW0 hstr
  obtain ⟨U, hsteps, hrun, hend, hW, hsame, ce, hce, hO⟩ := X₁.ctorThrowS hexec htr (own := own) (cls := cls) (names := names) (ic := ic) hown' hcls hnames h (fun x hx => nomatch hx) hfX hkX hcellA (by rw [hhp, hT]; exact Nat.le_refl _) (msg := .ref sa) rfl
    (g := { method := m, pc := pc + 6, locals := ls, stack := .ref sa :: .ref T.heap.size :: .ref T.heap.size :: rest, locked := none }) rfl hsize rfl rfl (rest := rest) rfl
    (by rw [hb]; exact d6) (by rw [hb]; exact d9) hout hRframes (by simp only [List.map_cons, List.sum_cons, hcat]; omega) hlocks
  obtain ⟨f1, f2⟩ := vx_frame hsame
  rw [hhp] at f1 f2
  have hWs : s.WarmedH U.vm := State.WarmedH.trans hW0 hW
  have hcl : s.vm.findClass cls = some ce.cls := by
    have h9 := hO.cls
    rw [hvm] at h9
    exact h9
  have hall : s.sameButNew ({ U with vm := s.vm } : State) locs mc ms := by
    subst hA
    obtain ⟨e1, e2⟩ := hsame
    rw [State.setFrames_setFrames] at e1
    have h2 : (T.setVm s.vm).sameButNew ({ U with vm := s.vm } : State) [] (0 + 1) (0 + 6) := ⟨e1, e2⟩
    have h3 := X.same.trans h2
    rw [List.append_nil] at h3
    exact h3.mono hc hs
  refine ⟨U, ?_, .threw T.heap.size, hrun, hend, Or.inr ⟨T.heap.size, rfl, cls, ce, locs, hx U hWs.alike f1 (fun q hq => f2 q hq (fun z hz => nomatch hz)), hce, hO.vm, hcl, hWs, hall, hf⟩⟩
  refine st1 _ ?_
  show Steps p.tables e below (T1.setTop { method := m, pc := pc + 3, locals := ls, stack := .ref T.heap.size :: rest, locked := none }) _
  jvm_step X₁.here [X₁.here.top, hexec, d3', Value.category]
  exact X₁.ldcString hexec (own := own) (text := text) (index := is) (a := sa) hown' hstr'.1 hstr'.2
    (g := { method := m, pc := pc + 4, locals := ls, stack := .ref T.heap.size :: .ref T.heap.size :: rest, locked := none }) rfl d4' _ hsteps
/-- 'throw new E("text")', the text by a wide index -/
theorem vx_throwSW {cc : ByteArray} {pc : Nat} (hexec : p.tables.exec = Jvm.exec) (hb : c.code = cc) (hl : l.stackTraces = false) {own cls text : String} {names : List String} {ik is ic mc ms sa : Nat} {A : Nat → Prop}
    (hown : s.vm.findClass own = some m.cls) (hcls : Bundle.fit cls = true) (hnames : ∀ n ∈ names, Bundle.fit n = true)
    (hk : (Cond.classLink own ik cls).before args s = true) (hini : (Cond.initialized cls).before args s = true) (hstr : vk_R own is text sa s) (hat : ∀ w ∈ vx_atS own ic cls names, w.before args s = true)
    (hgood : ∀ w ∈ Cond.classLink own ik cls :: Cond.initialized cls :: vx_atS own ic cls names, vx_ot w = true)
    (hU : vx_Zq Bundle.tN "UNASSIGNED_STACK" Bundle.steD A s s.heap) (hN : vx_Zq Bundle.tN "SUPPRESSED_SENTINEL" Bundle.listD A s s.heap) (hS : va_S A s.heap H locs) (hsize : ls.size = c.maxLocals)
    (d0 : decode cc pc = .ok (.new ik, 3)) (d3 : decode cc (pc + 3) = .ok (.dup, 1)) (d4 : decode cc (pc + 4) = .ok (.ldc_w is, 3)) (d7 : decode cc (pc + 7) = .ok (.invokespecial ic, 3)) (d10 : decode cc (pc + 10) = .ok (.athrow, 1))
    (hout : ∀ x ∈ c.exceptionTable.toList, covers x (pc + 10) = false)
    (hRframes : names.length + 3 < R.frames) (hRlocals : (rest.map fun v => v.category).sum + (13 * (names.length + 1) + 43) ≤ R.locals) (hRcells : cells + 1 ≤ R.cells) (hRslots : slots + 6 ≤ R.slots) (hlocks : meth.locks = false)
    (hx : ∀ t : State, s.vm.Alike t.vm → H.size ≤ t.heap.size → (∀ q : Nat, q < H.size → t.heap[q]? = H[q]?) → XC cls s t)
    (hf : ∀ z ∈ locs, free z.base) (hc : cells + 1 ≤ mc) (hs : slots + 6 ≤ ms) :
    W p l e R s m args below meth c H locs cells slots (vx_MQ below Qc XC args s mc ms free) (F0 m pc ls rest) := by
  intro T hT X
  have htr : e.platform.stackTraces = false := (show e.platform.stackTraces = l.stackTraces by rw [X.admits.platform]).trans hl
  have Y := vx_rebase X (R' := { frames := R.frames, locals := R.locals, cells := 1, slots := 6 }) (Nat.le_refl _) (Nat.le_refl _) hRcells hRslots
  obtain ⟨s', hA⟩ : ∃ z, z = (T.setVm s.vm).setFrames (.invoking m args :: below) := ⟨_, rfl⟩
  rw [← hA] at Y
  have hvm : s'.vm = s.vm := by rw [hA]; rfl
  have hhp : s'.heap = H := by rw [hA]; exact hT
  have hW0 : s.WarmedH s'.vm := by rw [hvm]; exact State.WarmedH.refl s
  have hat' : ∀ w ∈ vx_atS own ic cls names, w.before args s' = true := fun w hw => vx_ot_at hW0 hvm.symm (hgood w (List.mem_cons_of_mem _ (List.mem_cons_of_mem _ hw))) (hat w hw)
  have hk' : (Cond.classLink own ik cls).before args s' = true := vx_ot_at hW0 hvm.symm (hgood _ List.mem_cons_self) hk
  have hini' : (Cond.initialized cls).before args s' = true := vx_ot_at hW0 hvm.symm (hgood _ (List.mem_cons_of_mem _ List.mem_cons_self)) hini
  have hU' : vx_Zq Bundle.tN "UNASSIGNED_STACK" Bundle.steD A s' s'.heap := by rw [hhp]; exact vx_Zq.moved hW0.alike (hU.kept hS.2.1)
  have hN' : vx_Zq Bundle.tN "SUPPRESSED_SENTINEL" Bundle.listD A s' s'.heap := by rw [hhp]; exact vx_Zq.moved hW0.alike (hN.kept hS.2.1)
  have h : ∀ w ∈ Bundle.ownAtoms own ic cls names, w.before args s' = true := vx_own hat' (vx_isRefq hU'.1) (vx_isRefq hN'.1) hU'.2.word hN'.2.word
  have hown' : s'.vm.findClass own = some m.cls := by rw [hvm]; exact hown
  have hins : (Cond.instantiable cls 6).before args s' = true := h _ (by simp [Bundle.ownAtoms])
  obtain ⟨vm₁, cX, kX, hfX, hkX, -, -, X₁, st1⟩ := Y.newCold hexec (own := own) (C := cls) (index := ik) (n := 6) hown' hk' hins hini'
    (g := F0 m pc ls rest) rfl (by rw [hb]; exact d0) (Nat.le_refl _) (Nat.le_refl _)
  generalize hT1 : (T.setVm vm₁).pushCell { cls := cX, slots := kX.instanceTypes.map defaultValue, vm := .none } = T1 at X₁ st1
  have hcat : (Value.ref T.heap.size).category = 1 := rfl
  have hcellA : T1.heap[T.heap.size]? = some (freshCell cX kX) := by rw [← hT1]; exact State.heap_pushCell_size _ _
  have d3' : decode c.code (pc + 3) = .ok (.dup, 1) := by rw [hb]; exact d3
  have d4' : decode c.code (pc + 4) = .ok (.ldc_w is, 3) := by rw [hb]; exact d4
  have hstr' : vk_R own is text sa s' := vk_R.warm hW0 hstr
  obtain ⟨U, hsteps, hrun, hend, hW, hsame, ce, hce, hO⟩ := X₁.ctorThrowS hexec htr (own := own) (cls := cls) (names := names) (ic := ic) hown' hcls hnames h (fun x hx => nomatch hx) hfX hkX hcellA (by rw [hhp, hT]; exact Nat.le_refl _) (msg := .ref sa) rfl
    (g := { method := m, pc := pc + 7, locals := ls, stack := .ref sa :: .ref T.heap.size :: .ref T.heap.size :: rest, locked := none }) rfl hsize rfl rfl (rest := rest) rfl
    (by rw [hb]; exact d7) (by rw [hb]; exact d10) hout hRframes (by simp only [List.map_cons, List.sum_cons, hcat]; omega) hlocks
  obtain ⟨f1, f2⟩ := vx_frame hsame
  rw [hhp] at f1 f2
  have hWs : s.WarmedH U.vm := State.WarmedH.trans hW0 hW
  have hcl : s.vm.findClass cls = some ce.cls := by
    have h9 := hO.cls
    rw [hvm] at h9
    exact h9
  have hall : s.sameButNew ({ U with vm := s.vm } : State) locs mc ms := by
    subst hA
    obtain ⟨e1, e2⟩ := hsame
    rw [State.setFrames_setFrames] at e1
    have h2 : (T.setVm s.vm).sameButNew ({ U with vm := s.vm } : State) [] (0 + 1) (0 + 6) := ⟨e1, e2⟩
    have h3 := X.same.trans h2
    rw [List.append_nil] at h3
    exact h3.mono hc hs
  refine ⟨U, ?_, .threw T.heap.size, hrun, hend, Or.inr ⟨T.heap.size, rfl, cls, ce, locs, hx U hWs.alike f1 (fun q hq => f2 q hq (fun z hz => nomatch hz)), hce, hO.vm, hcl, hWs, hall, hf⟩⟩
  refine st1 _ ?_
  show Steps p.tables e below (T1.setTop { method := m, pc := pc + 3, locals := ls, stack := .ref T.heap.size :: rest, locked := none }) _
  jvm_step X₁.here [X₁.here.top, hexec, d3', Value.category]
  exact X₁.ldcStringW hexec (own := own) (text := text) (index := is) (a := sa) hown' hstr'.1 hstr'.2
    (g := { method := m, pc := pc + 4, locals := ls, stack := .ref T.heap.size :: .ref T.heap.size :: rest, locked := none }) rfl d4' _ hsteps
end Ends
section Bodies
variable {l : Launch}
theorem vx_ofW {y : MethodName} {ws ws' : List Cond} {rm : Room} {Pc : Array Value → State → Prop} {Qc : Array Value → State → Outcome → State → Prop} {XC : String → State → State → Prop} {mc ms : Nat} {free : Addr → Prop} {cc : ByteArray} {maxL : Nat} {ret : Option FieldType}
    (hy : plainName y.cls = true) (hw : ws = Cond.code y cc maxL ret :: ws')
    (body : ∀ p e s m args below meth c s₁, BodyLoose p l y (headSpec ws rm) cc maxL ret e s m args below meth c s₁ → c.maxLocals = maxL → (∀ x ∈ c.exceptionTable.toList, False) → Pc args s →
      W p l e (headSpec ws rm).room s m args below meth c s.heap [] 0 0 (vx_MQ below Qc XC args s mc ms free) (entryFrame m args maxL)) : vx_Met l y ws rm Pc Qc XC mc ms free := by
  refine MetFree.of_bodyS (code := cc) (maxLocals := maxL) (ret := ret) hy ?_ ?_
  · intro args s m h hn
    obtain ⟨meth, c, h1, h2, h3, h4, h5, h6, -, -⟩ := Cond.code_spec hn (atoms_spec (ws := ws) h _ (by rw [hw]; exact List.mem_cons_self))
    exact ⟨meth, c, h1, h2, h3, h4, h5, h6⟩
  · intro p e s m args below meth c s₁ B hml hP _
    have hh0 : s₁.heap = s.heap := by rw [B.state]; rfl
    have ht : ∀ x ∈ c.exceptionTable.toList, False := by
      obtain ⟨meth9, c9, h1, h2, -, -, -, -, h7, -⟩ := Cond.code_spec B.named (atoms_spec (ws := ws) B.pre _ (by rw [hw]; exact List.mem_cons_self))
      cases Option.some.inj (h1.symm.trans B.method)
      cases Option.some.inj (h2.symm.trans (Stand.of_body B).code)
      intro x hx
      rw [Array.isEmpty_iff.mp h7] at hx
      cases hx
    obtain ⟨t, a1, o, b1, b2, b3⟩ := body p e s m args below meth c s₁ B hml ht hP s₁ hh0 (Stand.of_body B)
    exact ⟨t, o, a1, b1, b2, b3⟩
/-- the table of a body with handlers -/
theorem vx_table {p : Program} {x y : MethodName} {S : Spec} {cc bytes : ByteArray} {maxL maxL' : Nat} {ret ret' : Option FieldType} {e : Env} {s s₁ : State} {m : MethodId} {args : Array Value} {below : List Frame} {meth : Method} {c : Code} {hh : List (Nat × Nat × Nat × Nat)}
    (B : BodyLoose p l y S cc maxL ret e s m args below meth c s₁) (h : (Cond.codeWith y bytes maxL' ret' hh).before args s = true) : c.exceptionTable.toList = tableOf hh := by
  obtain ⟨m9, meth9, c9, hn9, h1, h2, -, -, h6, -⟩ := Cond.codeWith_spec h
  cases Option.some.inj (hn9.symm.trans B.named)
  cases Option.some.inj (h1.symm.trans B.method)
  cases Option.some.inj (h2.symm.trans (Stand.of_body B).code)
  rw [← h6, table_eq]
end Bodies
end VXA
/-! ===== END ===== -/
/-! ===== BEGIN a static call of a method with an exception table ===== -/
section VXS
variable {p : Program} {l : Launch} {e : Env} {R : Room} {s : State} {m : MethodId} {args : Array Value} {below : List Frame} {meth : Method} {c : Code} {T : State} {H : Heap} {locs : List Loc} {cells slots : Nat}
abbrev vx_CSW (R : Room) (s : State) (args : Array Value) (own : String) (index : Nat) (y : MethodName) (bytes : ByteArray) (maxL : Nat) (ret : Option FieldType) (hh : List (Nat × Nat × Nat × Nat)) (ws : List Cond) (rm : Room) (mc ms n : Nat) : Prop :=
  (rm.cells = mc ∧ rm.slots = ms ∧ rm.frames + 1 ≤ R.frames ∧ 8 + (maxL + 11) + rm.locals ≤ R.locals ∧ (∀ w ∈ ws, ∀ (a' : Array Value) (U : State), s.WarmedH U.vm → w.before a' U = true) ∧ Cond.codeWith y bytes maxL ret hh ∈ ws) ∧
  (Cond.codeWith y bytes maxL ret hh).before args s = true ∧ (Cond.initialized y.cls).before args s = true ∧ (y.cls ≠ "java/lang/invoke/MethodHandle" ∧ y.cls ≠ "java/lang/invoke/VarHandle") ∧
  (∀ sig, parseMethodDescriptor y.desc = some sig → n = sig.parameters.length) ∧ (Cond.methodLink own index y).before args s = true ∧ (Cond.static y).before args s = true
theorem vx_cwSW {own : String} {index maxL mc ms : Nat} {y : MethodName} {bytes : ByteArray} {ret : Option FieldType} {hh : List (Nat × Nat × Nat × Nat)} {Ts ws ws' : List Cond} {rm : Room} (n : Nat) (ht : ∀ w ∈ Ts, w.before args s = true) (hT : GoodIn Ts (va_wsS own index y ws)) (hw : ws = Cond.codeWith y bytes maxL ret hh :: ws') (hrc : rm.cells = mc) (hrs : rm.slots = ms)
    (hd : y.cls ≠ "java/lang/invoke/MethodHandle" ∧ y.cls ≠ "java/lang/invoke/VarHandle" ∧ (parseMethodDescriptor y.desc).map (fun d => d.parameters.length) = some n) (hR : rm.frames + 1 ≤ R.frames ∧ 8 + (maxL + 11) + rm.locals ≤ R.locals) :
    vx_CSW R s args own index y bytes maxL ret hh ws rm mc ms n := by
  have ok : ∀ w ∈ va_wsS own index y ws, w.before args s = true := fun w h => ht w (hT w h).1
  have hG : GoodIn Ts ws := fun w h => hT w (by unfold va_wsS; exact List.mem_append_right _ h)
  have hc : Cond.codeWith y bytes maxL ret hh ∈ ws := by rw [hw]; exact List.mem_cons_self
  refine ⟨⟨hrc, hrs, hR.1, hR.2, pay_in ht hG, hc⟩, ht _ (hG _ hc).1, ok _ (by simp [va_wsS]), ⟨hd.1, hd.2.1⟩, fun sig h => ?_, ok _ (by simp [va_wsS]), ok _ (by simp [va_wsS])⟩
  have h2 := hd.2.2
  rw [h] at h2
  exact (Option.some.inj h2).symm
theorem vx_callSW (X : Stand p l e R s m args below meth c T locs cells slots) (hexec : p.tables.exec = Jvm.exec) {own : String} {index : Nat} {y : MethodName} {bytes : ByteArray} {maxL : Nat} {ret : Option FieldType} {hh : List (Nat × Nat × Nat × Nat)}
    (hown : s.vm.findClass own = some m.cls) (hlink : (Cond.methodLink own index y).before args s = true) (hstat : (Cond.static y).before args s = true) (hinit : (Cond.initialized y.cls).before args s = true)
    (hcode : (Cond.codeWith y bytes maxL ret hh).before args s = true) (hy : y.cls ≠ "java/lang/invoke/MethodHandle" ∧ y.cls ≠ "java/lang/invoke/VarHandle")
    {W9 : Nat} {Pre : Pt → Array Value → Prop} {Post : Pt → Array Value → Option Value → Pt → Prop} (hK : Back l R p e below s args y 3 W9 Pre Post)
    {g : JFrame} (hg : g.method = m) (hsize : g.locals.size = c.maxLocals) {argsL rest : List Value} (hlen : ∀ sig, parseMethodDescriptor y.desc = some sig → argsL.length = sig.parameters.length)
    (hstack : g.stack = argsL.reverse ++ rest) (hW : 2 * g.monitorRoom + (rest.map fun v => v.category).sum ≤ W9) (hdg : decode c.code g.pc = .ok (.invokestatic index, 3))
    (hpre : ∀ vm₁, s.WarmedH vm₁ → Pre ⟨T.setVm vm₁, locs, cells, slots⟩ argsL.toArray) :
    ∃ (v : Option Value) (vm₁ : Vm) (B : Pt), s.WarmedH vm₁ ∧ Stand p l e R s m args below meth c B.U B.locs B.cells B.slots ∧ Post ⟨T.setVm vm₁, locs, cells, slots⟩ argsL.toArray v B ∧
      ∀ target, Steps p.tables e below (B.U.setTop { g with pc := g.pc + 3, stack := v.toList ++ rest }) target → Steps p.tables e below (T.setTop g) target := by
  obtain ⟨mk, methM, cM, hnamed, hmethM, -, -, -, -, -, -, hsigM⟩ := Cond.codeWith_spec hcode
  have hstatic : methM.isStatic = true := Cond.static_spec hnamed hmethM hstat
  obtain ⟨kP, hkP, -⟩ := className_of_methodNamed hnamed
  have hinitP : kP.init = .initialized := Cond.initialized_spec (findClass_of_methodNamed hnamed) hkP hinit
  obtain ⟨vm₁, X₁, hstep₁⟩ := X.invokestatic hexec hown hlink hnamed hmethM hstatic hkP hinitP hy (g := g) hg (argsL := argsL) (rest := rest) (hlen _ hsigM) hstack hdg
  obtain ⟨v, B, X', hpost, hsteps⟩ := hK m meth c ⟨T.setVm vm₁, locs, cells, slots⟩ { g with stack := rest } (.invokestatic index) mk argsL.toArray X₁ hg hsize hdg hW (X₁.named hnamed) (hpre vm₁ X₁.warmed)
  exact ⟨v, vm₁, B, X₁.warmed, X', hpost, fun target h => hstep₁ _ fun acts => by rw [doInvoke_state]; exact hsteps.trans h⟩
theorem vx_runSW {y : MethodName} {bytes cc : ByteArray} {maxL nL mc ms n index : Nat} {ret : Option FieldType} {hh : List (Nat × Nat × Nat × Nat)} {ws : List Cond} {rm : Room} {Pc : Array Value → State → Prop} {Qc : Array Value → State → Outcome → State → Prop} {free : Addr → Prop} {Ts : List Cond} {own : String} {As rest : List Value} {g : JFrame}
    (S : CallFix p m c cc nL s args Ts own) (hM : Met l y ws rm Pc Qc mc ms free) (cw : vx_CSW R s args own index y bytes maxL ret hh ws rm mc ms n) (hp : PreS s H Pc As)
    (hg : g.method = m) (hn : As.length = n) (hsize : g.locals.size = nL) (hstack : g.stack = As.reverse ++ rest) (hW : 2 * g.monitorRoom + (rest.map fun v => v.category).sum ≤ 8) (hdg : decode cc g.pc = .ok (.invokestatic index, 3)) (hf : cells + mc ≤ R.cells ∧ slots + ms ≤ R.slots) :
    va_Run p l e R s m args below meth c H locs cells slots mc ms g rest (Qc As.toArray) (free) := by
  obtain ⟨⟨hrc, hrs, hfr, hlo, hws, hcw⟩, hcode, hini, hy, hlen, hl, hstt⟩ := cw
  have hK : Back l R p e below s args y 3 8 (PreOf R mc ms Pc) (PostOf Qc mc ms free) := va_backW (hh := hh) (bytes := bytes) (maxL := maxL) (ret := ret) hM hp.1 hrc hrs hfr hlo hws hcw (fun a' U hW => word_at hW (Or.inl (by first | rfl | simp [Cond.onTables, Cond.keeps, Cond.steady])) hini)
  obtain ⟨hx, hb, hml, ho, -⟩ := S
  intro T hT X
  obtain ⟨v, vm₁, ⟨U', l2, c2, s2⟩, hW₁, X', ⟨g', mk, t, L, e1, e2, hq, h1, hL, h2, h3⟩, st⟩ := vx_callSW X hx (hh := hh) (bytes := bytes) (maxL := maxL) (ret := ret) ho hl hstt hini hcode hy hK hg (hsize.trans hml.symm) (argsL := As) (rest := rest) (fun sig h => hn.trans (hlen sig h)) hstack hW (by rw [hb]; exact hdg)
    (fun vm₁ hW₁ => ⟨hf.1, hf.2, hp.2 (T.setVm vm₁) hT hW₁⟩)
  dsimp only [Pt.U, Pt.locs, Pt.cells, Pt.slots] at X' e1 e2 h1 h2 h3 st
  subst h1; subst h2; subst h3
  exact ⟨v, (T.setVm vm₁).calling g' mk As.toArray, t, U', L, hT, X', hL, e1, e2, hq, st⟩
/-- not caught here, past rows that name other classes: it goes on to the caller -/
theorem vx_outP {p : Program} {l : Launch} {e : Env} {R : Room} {s : State} {m : MethodId} {args : Array Value} {below : List Frame} {meth : Method} {c : Code} {H : Heap} {locs : List Loc} {cells slots : Nat} {free : Addr → Prop} {ls : Array Slot} {rest : List Value} {Qc : Array Value → State → Outcome → State → Prop} {XC : String → State → State → Prop}
    {pc : Nat} {own E : String} {ce : Cell} {q : Addr} {mc ms : Nat} (hown : s.vm.findClass own = some m.cls) (hlocks : meth.locks = false)
    (hpass : ∀ z ∈ c.exceptionTable.toList, covers z pc = false ∨ (z.catchType ≠ 0 ∧ ∃ nm : String, (Cond.classLink own z.catchType nm).before args s = true ∧ va_Nc E nm s)) (hcell : H[q]? = some ce) (hv : ce.vm = .none) (hcl : s.vm.findClass E = some ce.cls)
    (hx : ∀ t : State, t.heap = H → s.vm.Alike t.vm → XC E s t) (hf : ∀ z ∈ locs, free z.base) (hc : cells ≤ mc) (hs : slots ≤ ms) :
    vx_W p l e R s m args below meth c H locs cells slots (vx_MQ below Qc XC args s mc ms free) (F0 m pc ls rest) q := by
  intro T hT X
  have hpl : e.platform.magicAccessors = ({} : Platform).magicAccessors := by rw [X.admits.platform]
  obtain ⟨vm', hW', X', st⟩ := X.outThrough hlocks q (g := F0 m pc ls rest) rfl rfl rfl (cell := ce) (by rw [hT]; exact hcell) (by rw [hv]; rfl)
    (by obtain ⟨k9, h9, -⟩ := Vm.findClass_spec hcl; exact ⟨k9, h9⟩) (fun z hz => by
      rcases hpass z hz with h | ⟨hz0, nm, hl1, hn1⟩
      · exact Or.inl h
      · obtain ⟨c6, hc6, hcl6⟩ := Cond.classLink_spec hown hl1 e.platform hpl
        obtain ⟨a8, b8, h1, h2, h3⟩ := hn1
        cases Option.some.inj (h1.symm.trans hcl)
        cases Option.some.inj (h2.symm.trans hc6)
        exact Or.inr ⟨hz0, _, hcl6, h3⟩)
  obtain ⟨g₀, hfr⟩ := X'.frames_eq
  have hcell9 : ((T.setVm vm').setFrames (.throwing q :: below)).heap[q]? = some ce := by
    show T.heap[q]? = some ce
    rw [hT]; exact hcell
  have hend : Ended ((T.setVm vm').setFrames (.throwing q :: below)) below (.threw q) := State.frames_setFrames _ (State.cur_lt_of_frames hfr)
  refine ⟨(T.setVm vm').setFrames (.throwing q :: below), ?_, .threw q, X'.here.running, hend, Or.inr ⟨q, rfl, E, ce, locs, hx _ hT (X'.ends _).1.alike, hcell9, hv, hcl, (X'.ends _).1, (X'.ends _).2.mono hc hs, hf⟩⟩
  rw [X.pushThrowing_eq]
  exact st
/-- a thing of a world lies in the heap -/
theorem vx_lt {D : va_G} {cl : List vw_C} {ws : va_W} {H1 : Heap} (h : va_P D cl ws H1) {k : Nat} {q : Nat × va_E} (hk : ws[k]? = some q) : q.1 < H1.size := (h k q hk).lt
end VXS
/-! ===== END ===== -/
/-! ===== BEGIN methods with a table of their own: called by a name, returning or throwing ===== -/
section VXH
/-! vx_backW, vx_callVX, vx_callSX, vx_callVW, vx_runVW, vx_runVX, vx_runSX, vx_ofWH follow the same proofs as their sisters above (Free/Laws.lean, Shelf42/LK1.lean); vx_outP calls Shelf42/NT130.lean (outThrough). -/
section
variable {l : Launch} {R : Room} {p : Program} {e : Env} {below : List Frame} {s : State} {sargs : Array Value} {y : MethodName} {len W9 : Nat}
theorem vx_backW {ws : List Cond} {rm : Room} {Pc : Array Value → State → Prop} {Qc : Array Value → State → Outcome → State → Prop} {XC : String → State → State → Prop} {mc ms : Nat} {free : Addr → Prop} {bytes : ByteArray} {maxL : Nat} {ret : Option FieldType} {hh : List (Nat × Nat × Nat × Nat)}
    (hM : vx_Met l y ws rm Pc Qc XC mc ms free) (hblind : FrameBlind Pc) (hrc : rm.cells = mc) (hrs : rm.slots = ms)
    (hframes : rm.frames + 1 ≤ R.frames) (hlocals : W9 + (maxL + 11) + rm.locals ≤ R.locals)
    (hws : ∀ w ∈ ws, ∀ a' U, s.WarmedH U.vm → w.before a' U = true) (hcode : Cond.codeWith y bytes maxL ret hh ∈ ws) (hinit : ∀ a' U, s.WarmedH U.vm → (Cond.initialized y.cls).before a' U = true) :
    vx_Back l R p e below s sargs y len W9 (PreOf R mc ms Pc) (PostOf Qc mc ms free) (vx_Post XC mc ms free) := by
  intro m meth c A g ig mk a X hg hsize hdg hW hn hp
  have h1 : (headSpec ws rm).pre.before a A.U = true := atoms_intro fun w hw => hws w hw _ _ X.warmed
  have h2 : (Cond.codeWith y bytes maxL ret hh).before a A.U = true := hws _ hcode _ _ X.warmed
  have h3 : (Cond.initialized y.cls).before a A.U = true := hinit _ _ X.warmed
  have h4 : A.cells + (headSpec ws rm).room.cells ≤ R.cells := by rw [show (headSpec ws rm).room.cells = mc from hrc]; exact hp.1
  have h5 : A.slots + (headSpec ws rm).room.slots ≤ R.slots := by rw [show (headSpec ws rm).room.slots = ms from hrs]; exact hp.2.1
  have hPc : Pc a (A.U.calling g mk a) := hblind _ _ _ _ hp.2.2
  obtain ⟨U, Ls, c0, s0⟩ := A
  dsimp only [Pt.U, Pt.locs, Pt.cells, Pt.slots] at h1 h2 h3 h4 h5 X hn hPc ⊢
  obtain ⟨m9, methY, cY, hn9, hmY, hcY, -, hlY, -⟩ := Cond.codeWith_spec h2
  cases Option.some.inj (hn9.symm.trans hn)
  obtain ⟨kY, hkY, -⟩ := className_of_methodNamed hn
  have hinitY : kY.init = .initialized := Cond.initialized_spec (findClass_of_methodNamed hn) hkY h3
  have h : At U g.method c below := by rw [hg]; exact X.here
  have hlocals9 : W9 + (maxL + 11) + (headSpec ws rm).room.locals ≤ R.locals := hlocals
  have happ : (headSpec ws rm).appliesLoose y e.platform (U.calling g mk a) = true :=
    Spec.appliesLoose_calling (g := g) h hdg hn hkY hinitY
      (X.room_calling (g := g) (R' := (headSpec ws rm).room) hsize hmY hcY hframes (by rw [hlY]; omega) h4 h5) h1
  obtain ⟨mid, hmid⟩ := h.above
  have hfr : (U.setTop g).frames = (.java g :: mid) ++ below := by rw [State.frames_setTop' g h.top, hmid]; rfl
  obtain ⟨o, s₂, hsteps, -, hend, hq⟩ := Steps.callFree hM p X.admits X.cas X.clock (acts := []) hfr happ hPc trivial
  have hq' : vx_Q Qc XC mc ms free a (U.calling g mk a) o s₂ := hq
  rw [State.frames_setTop' g h.top] at hend
  obtain ⟨g₀, hg0⟩ := Option.isSome_iff_exists.mp h.top
  obtain ⟨r, hr⟩ := State.topJava?_eq_some.mp hg0
  have hr' : (({ U with heap := s₂.heap, slotsUsed := s₂.slotsUsed } : State).setVm s₂.vm).frames = .java g₀ :: r := hr
  rcases hq' with ⟨hqc, L, hfe, hL⟩ | ⟨q, rfl, E, ce, L, hx, hce, hcv, hcl, hW₂, hsm, hL⟩
  · obtain ⟨⟨v, rfl⟩, hW₂, e2, q2, q3, q4, q5, q6⟩ := id hfe
    have e3 : s₂ = ({ (U.calling g mk a).setFrames s₂.frames with heap := s₂.heap, slotsUsed := s₂.slotsUsed } : State).setVm s₂.vm := by
      have : s₂ = ({ s₂ with vm := (U.calling g mk a).vm } : State).setVm s₂.vm := rfl
      rw [e2] at this
      exact this
    obtain ⟨c₂, i₂, len₂, hc₂, hd₂, hf₂⟩ := hend
    have hW' : U.WarmedH s₂.vm := hW₂
    have hcc : c₂ = c := by
      have h1 : s₂.code? g.method = U.code? g.method := by
        rw [State.code?_eq, State.code?_eq, hW'.alike.method?]
      exact Option.some.inj (hc₂.symm.trans (h1.trans h.code))
    subst hcc
    have hlen : len₂ = len := by rw [hdg] at hd₂; cases hd₂; rfl
    subst hlen
    have hs₂ : s₂ = (({ U with heap := s₂.heap, slotsUsed := s₂.slotsUsed } : State).setVm s₂.vm).setTop { g with pc := g.pc + len₂, stack := v.toList ++ g.stack } := by
      refine e3.trans ?_
      rw [hf₂, State.calling_eq h.top, State.setFrames_setFrames, State.setTop_of_frames _ hr', hr]
      rfl
    have hsame : U.sameButNew ({ U with heap := s₂.heap, slotsUsed := s₂.slotsUsed } : State) L mc ms := by
      refine ⟨?_, q2, q3, q4, q5, q6⟩
      obtain ⟨t, ht, -⟩ := State.frames_cons hr
      show ({ U with heap := s₂.heap, slotsUsed := s₂.slotsUsed } : State) = { U.setFrames U.frames with heap := s₂.heap, slotsUsed := s₂.slotsUsed }
      rw [State.setFrames_self ht]
    subst hg
    refine Or.inl ⟨v, ⟨(({ U with heap := s₂.heap, slotsUsed := s₂.slotsUsed } : State).setVm s₂.vm), Ls ++ L, c0 + mc, s0 + ms⟩,
      ⟨X.admits, X.cas, X.clock, X.frames, X.room, X.hears, X.method, X.code, (X.here.setHeapUsed s₂.heap s₂.slotsUsed).setVm hW'.alike, X.tail, State.WarmedH.trans X.warmed hW', X.limits, X.bytes, X.same.trans (hsame.setVm s.vm)⟩,
      ⟨g, mk, s₂, L, rfl, rfl, hqc, rfl, hL, rfl, rfl⟩, ?_⟩
    show Steps p.tables e below _ ((({ U with heap := s₂.heap, slotsUsed := s₂.slotsUsed } : State).setVm s₂.vm).setTop { g with pc := g.pc + len₂, stack := v.toList ++ g.stack })
    rw [← hs₂]
    exact hsteps
  · obtain ⟨e2, q2, q3, q4, q5, q6⟩ := id hsm
    have e3 : s₂ = ({ (U.calling g mk a).setFrames s₂.frames with heap := s₂.heap, slotsUsed := s₂.slotsUsed } : State).setVm s₂.vm := by
      have : s₂ = ({ s₂ with vm := (U.calling g mk a).vm } : State).setVm s₂.vm := rfl
      rw [e2] at this
      exact this
    have hf₂ : s₂.frames = .throwing q :: .java g :: U.frames.tail := hend
    have hW' : U.WarmedH s₂.vm := hW₂
    have hs₂ : s₂ = ((({ U with heap := s₂.heap, slotsUsed := s₂.slotsUsed } : State).setVm s₂.vm).setTop g).pushFrame (.throwing q) := by
      refine e3.trans ?_
      rw [hf₂, State.calling_eq h.top, State.setFrames_setFrames, State.pushFrame, State.frames_setTop _ hr', State.setTop_of_frames _ hr', State.setFrames_setFrames, hr]
      rfl
    have hsame : U.sameButNew ({ U with heap := s₂.heap, slotsUsed := s₂.slotsUsed } : State) L mc ms := by
      refine ⟨?_, q2, q3, q4, q5, q6⟩
      obtain ⟨t, ht, -⟩ := State.frames_cons hr
      show ({ U with heap := s₂.heap, slotsUsed := s₂.slotsUsed } : State) = { U.setFrames U.frames with heap := s₂.heap, slotsUsed := s₂.slotsUsed }
      rw [State.setFrames_self ht]
    subst hg
    refine Or.inr ⟨q, ⟨(({ U with heap := s₂.heap, slotsUsed := s₂.slotsUsed } : State).setVm s₂.vm), Ls ++ L, c0 + mc, s0 + ms⟩,
      ⟨X.admits, X.cas, X.clock, X.frames, X.room, X.hears, X.method, X.code, (X.here.setHeapUsed s₂.heap s₂.slotsUsed).setVm hW'.alike, X.tail, State.WarmedH.trans X.warmed hW', X.limits, X.bytes, X.same.trans (hsame.setVm s.vm)⟩,
      ⟨g, mk, s₂, L, E, ce, rfl, rfl, hx, hce, hcv, hcl, rfl, hL, rfl, rfl⟩, ?_⟩
    show Steps p.tables e below _ (((({ U with heap := s₂.heap, slotsUsed := s₂.slotsUsed } : State).setVm s₂.vm).setTop g).pushFrame (.throwing q))
    rw [← hs₂]
    exact hsteps
end
variable {p : Program} {l : Launch} {e : Env} {R : Room} {s : State} {m : MethodId} {args : Array Value} {below : List Frame} {meth : Method} {c : Code} {T : State} {H : Heap} {locs : List Loc} {cells slots : Nat}
theorem vx_callVX (X : Stand p l e R s m args below meth c T locs cells slots) (hexec : p.tables.exec = Jvm.exec) {own C : String} {index : Nat} {y : MethodName} {bytes : ByteArray} {maxL : Nat} {ret : Option FieldType} {hh : List (Nat × Nat × Nat × Nat)}
    (hown : s.vm.findClass own = some m.cls) (hlink : (Cond.methodLink own index y).before args s = true) (hinst : (Cond.instanceMethod y).before args s = true) (hsel : (Cond.selects C y y).before args s = true)
    (hcode : (Cond.codeWith y bytes maxL ret hh).before args s = true) (hy : y.cls ≠ "java/lang/invoke/MethodHandle" ∧ y.cls ≠ "java/lang/invoke/VarHandle")
    {W9 : Nat} {Pre : Pt → Array Value → Prop} {Post : Pt → Array Value → Option Value → Pt → Prop} {PostX : Pt → Array Value → Addr → Pt → Prop} (hK : vx_Back l R p e below s args y 3 W9 Pre Post PostX)
    {b : Addr} {cellB : Cell} (hcell : T.heap[b]? = some cellB) (hobj : cellB.vm.isStatics = false) (hcls : s.vm.findClass C = some cellB.cls)
    {g : JFrame} (hg : g.method = m) (hsize : g.locals.size = c.maxLocals) {argsL rest : List Value} (hlen : ∀ sig, parseMethodDescriptor y.desc = some sig → argsL.length = sig.parameters.length)
    (hstack : g.stack = argsL.reverse ++ .ref b :: rest) (hW : 2 * g.monitorRoom + (rest.map fun v => v.category).sum ≤ W9) (hdg : decode c.code g.pc = .ok (.invokevirtual index, 3))
    (hpre : ∀ vm₁, s.WarmedH vm₁ → Pre ⟨T.setVm vm₁, locs, cells, slots⟩ (Value.ref b :: argsL).toArray) :
    (∃ (v : Option Value) (vm₁ : Vm) (B : Pt), s.WarmedH vm₁ ∧ Stand p l e R s m args below meth c B.U B.locs B.cells B.slots ∧ Post ⟨T.setVm vm₁, locs, cells, slots⟩ (Value.ref b :: argsL).toArray v B ∧
      ∀ target, Steps p.tables e below (B.U.setTop { g with pc := g.pc + 3, stack := v.toList ++ rest }) target → Steps p.tables e below (T.setTop g) target) ∨
    (∃ (q : Addr) (vm₁ : Vm) (B : Pt), s.WarmedH vm₁ ∧ Stand p l e R s m args below meth c B.U B.locs B.cells B.slots ∧ PostX ⟨T.setVm vm₁, locs, cells, slots⟩ (Value.ref b :: argsL).toArray q B ∧
      Steps p.tables e below (T.setTop g) ((B.U.setTop { g with stack := rest }).pushFrame (.throwing q))) := by
  obtain ⟨mk, methM, hnamed, hmethM, hstM, habM⟩ := Cond.instanceMethod_spec hinst
  obtain ⟨m8, methM', cM, hn8, hmethM', -, -, -, -, -, -, hsigM⟩ := Cond.codeWith_spec hcode
  cases Option.some.inj (hn8.symm.trans hnamed)
  cases hmethM.symm.trans hmethM'
  obtain ⟨c2, r2, m2, q1, q2, q3, q4, kP, hkP, hkPi⟩ := Cond.selects_spec hsel
  cases hcls.symm.trans q1
  cases (State.methodFound?_of_named hnamed hy).symm.trans q2
  cases hnamed.symm.trans q3
  have hselP : selectMethod e.platform s.vm cellB.cls mk = .method mk := by rw [Launch.admits_selectMethod X.admits]; exact q4
  obtain ⟨vm₁, X₁, hstep₁⟩ := X.invokevirtual hexec hown hlink hnamed hmethM hstM hkP hkPi hy (a := b) (cell := cellB) hcell
    (fun z h => by rw [h] at hobj; cases hobj) hselP hmethM habM hkP hkPi (g := g) hg (argsL := argsL) (rest := rest) (hlen _ hsigM) hstack hdg
  rcases hK m meth c ⟨T.setVm vm₁, locs, cells, slots⟩ { g with stack := rest } (.invokevirtual index) mk (Value.ref b :: argsL).toArray X₁ hg hsize hdg hW (X₁.named hnamed) (hpre vm₁ X₁.warmed) with ⟨v, B, X', hpost, hsteps⟩ | ⟨q, B, X', hpost, hsteps⟩
  · exact Or.inl ⟨v, vm₁, B, X₁.warmed, X', hpost, fun target h => hstep₁ _ fun acts => by rw [doInvoke_state]; exact hsteps.trans h⟩
  · exact Or.inr ⟨q, vm₁, B, X₁.warmed, X', hpost, hstep₁ _ fun acts => by rw [doInvoke_state]; exact hsteps⟩
theorem vx_callSX (X : Stand p l e R s m args below meth c T locs cells slots) (hexec : p.tables.exec = Jvm.exec) {own : String} {index : Nat} {y : MethodName} {bytes : ByteArray} {maxL : Nat} {ret : Option FieldType} {hh : List (Nat × Nat × Nat × Nat)}
    (hown : s.vm.findClass own = some m.cls) (hlink : (Cond.methodLink own index y).before args s = true) (hstat : (Cond.static y).before args s = true) (hinit : (Cond.initialized y.cls).before args s = true)
    (hcode : (Cond.codeWith y bytes maxL ret hh).before args s = true) (hy : y.cls ≠ "java/lang/invoke/MethodHandle" ∧ y.cls ≠ "java/lang/invoke/VarHandle")
    {W9 : Nat} {Pre : Pt → Array Value → Prop} {Post : Pt → Array Value → Option Value → Pt → Prop} {PostX : Pt → Array Value → Addr → Pt → Prop} (hK : vx_Back l R p e below s args y 3 W9 Pre Post PostX)
    {g : JFrame} (hg : g.method = m) (hsize : g.locals.size = c.maxLocals) {argsL rest : List Value} (hlen : ∀ sig, parseMethodDescriptor y.desc = some sig → argsL.length = sig.parameters.length)
    (hstack : g.stack = argsL.reverse ++ rest) (hW : 2 * g.monitorRoom + (rest.map fun v => v.category).sum ≤ W9) (hdg : decode c.code g.pc = .ok (.invokestatic index, 3))
    (hpre : ∀ vm₁, s.WarmedH vm₁ → Pre ⟨T.setVm vm₁, locs, cells, slots⟩ argsL.toArray) :
    (∃ (v : Option Value) (vm₁ : Vm) (B : Pt), s.WarmedH vm₁ ∧ Stand p l e R s m args below meth c B.U B.locs B.cells B.slots ∧ Post ⟨T.setVm vm₁, locs, cells, slots⟩ argsL.toArray v B ∧
      ∀ target, Steps p.tables e below (B.U.setTop { g with pc := g.pc + 3, stack := v.toList ++ rest }) target → Steps p.tables e below (T.setTop g) target) ∨
    (∃ (q : Addr) (vm₁ : Vm) (B : Pt), s.WarmedH vm₁ ∧ Stand p l e R s m args below meth c B.U B.locs B.cells B.slots ∧ PostX ⟨T.setVm vm₁, locs, cells, slots⟩ argsL.toArray q B ∧
      Steps p.tables e below (T.setTop g) ((B.U.setTop { g with stack := rest }).pushFrame (.throwing q))) := by
  obtain ⟨mk, methM, cM, hnamed, hmethM, -, -, -, -, -, -, hsigM⟩ := Cond.codeWith_spec hcode
  have hstatic : methM.isStatic = true := Cond.static_spec hnamed hmethM hstat
  obtain ⟨kP, hkP, -⟩ := className_of_methodNamed hnamed
  have hinitP : kP.init = .initialized := Cond.initialized_spec (findClass_of_methodNamed hnamed) hkP hinit
  obtain ⟨vm₁, X₁, hstep₁⟩ := X.invokestatic hexec hown hlink hnamed hmethM hstatic hkP hinitP hy (g := g) hg (argsL := argsL) (rest := rest) (hlen _ hsigM) hstack hdg
  rcases hK m meth c ⟨T.setVm vm₁, locs, cells, slots⟩ { g with stack := rest } (.invokestatic index) mk argsL.toArray X₁ hg hsize hdg hW (X₁.named hnamed) (hpre vm₁ X₁.warmed) with ⟨v, B, X', hpost, hsteps⟩ | ⟨q, B, X', hpost, hsteps⟩
  · exact Or.inl ⟨v, vm₁, B, X₁.warmed, X', hpost, fun target h => hstep₁ _ fun acts => by rw [doInvoke_state]; exact hsteps.trans h⟩
  · exact Or.inr ⟨q, vm₁, B, X₁.warmed, X', hpost, hstep₁ _ fun acts => by rw [doInvoke_state]; exact hsteps⟩
theorem vx_callVW (X : Stand p l e R s m args below meth c T locs cells slots) (hexec : p.tables.exec = Jvm.exec) {own C : String} {index : Nat} {y : MethodName} {bytes : ByteArray} {maxL : Nat} {ret : Option FieldType} {hh : List (Nat × Nat × Nat × Nat)}
    (hown : s.vm.findClass own = some m.cls) (hlink : (Cond.methodLink own index y).before args s = true) (hinst : (Cond.instanceMethod y).before args s = true) (hsel : (Cond.selects C y y).before args s = true)
    (hcode : (Cond.codeWith y bytes maxL ret hh).before args s = true) (hy : y.cls ≠ "java/lang/invoke/MethodHandle" ∧ y.cls ≠ "java/lang/invoke/VarHandle")
    {W9 : Nat} {Pre : Pt → Array Value → Prop} {Post : Pt → Array Value → Option Value → Pt → Prop} (hK : Back l R p e below s args y 3 W9 Pre Post)
    {b : Addr} {cellB : Cell} (hcell : T.heap[b]? = some cellB) (hobj : cellB.vm.isStatics = false) (hcls : s.vm.findClass C = some cellB.cls)
    {g : JFrame} (hg : g.method = m) (hsize : g.locals.size = c.maxLocals) {argsL rest : List Value} (hlen : ∀ sig, parseMethodDescriptor y.desc = some sig → argsL.length = sig.parameters.length)
    (hstack : g.stack = argsL.reverse ++ .ref b :: rest) (hW : 2 * g.monitorRoom + (rest.map fun v => v.category).sum ≤ W9) (hdg : decode c.code g.pc = .ok (.invokevirtual index, 3))
    (hpre : ∀ vm₁, s.WarmedH vm₁ → Pre ⟨T.setVm vm₁, locs, cells, slots⟩ (Value.ref b :: argsL).toArray) :
    ∃ (v : Option Value) (vm₁ : Vm) (B : Pt), s.WarmedH vm₁ ∧ Stand p l e R s m args below meth c B.U B.locs B.cells B.slots ∧ Post ⟨T.setVm vm₁, locs, cells, slots⟩ (Value.ref b :: argsL).toArray v B ∧
      ∀ target, Steps p.tables e below (B.U.setTop { g with pc := g.pc + 3, stack := v.toList ++ rest }) target → Steps p.tables e below (T.setTop g) target := by
  obtain ⟨mk, methM, hnamed, hmethM, hstM, habM⟩ := Cond.instanceMethod_spec hinst
  obtain ⟨m8, methM', cM, hn8, hmethM', -, -, -, -, -, -, hsigM⟩ := Cond.codeWith_spec hcode
  cases Option.some.inj (hn8.symm.trans hnamed)
  cases hmethM.symm.trans hmethM'
  obtain ⟨c2, r2, m2, q1, q2, q3, q4, kP, hkP, hkPi⟩ := Cond.selects_spec hsel
  cases hcls.symm.trans q1
  cases (State.methodFound?_of_named hnamed hy).symm.trans q2
  cases hnamed.symm.trans q3
  have hselP : selectMethod e.platform s.vm cellB.cls mk = .method mk := by rw [Launch.admits_selectMethod X.admits]; exact q4
  obtain ⟨vm₁, X₁, hstep₁⟩ := X.invokevirtual hexec hown hlink hnamed hmethM hstM hkP hkPi hy (a := b) (cell := cellB) hcell
    (fun z h => by rw [h] at hobj; cases hobj) hselP hmethM habM hkP hkPi (g := g) hg (argsL := argsL) (rest := rest) (hlen _ hsigM) hstack hdg
  obtain ⟨v, B, X', hpost, hsteps⟩ := hK m meth c ⟨T.setVm vm₁, locs, cells, slots⟩ { g with stack := rest } (.invokevirtual index) mk (Value.ref b :: argsL).toArray X₁ hg hsize hdg hW (X₁.named hnamed) (hpre vm₁ X₁.warmed)
  exact ⟨v, vm₁, B, X₁.warmed, X', hpost, fun target h => hstep₁ _ fun acts => by rw [doInvoke_state]; exact hsteps.trans h⟩
abbrev vx_CVW (R : Room) (s : State) (args : Array Value) (own C : String) (index : Nat) (y : MethodName) (bytes : ByteArray) (maxL : Nat) (ret : Option FieldType) (hh : List (Nat × Nat × Nat × Nat)) (ws : List Cond) (rm : Room) (mc ms n : Nat) : Prop :=
  (rm.cells = mc ∧ rm.slots = ms ∧ rm.frames + 1 ≤ R.frames ∧ 8 + (maxL + 11) + rm.locals ≤ R.locals ∧ (∀ w ∈ ws, ∀ (a' : Array Value) (U : State), s.WarmedH U.vm → w.before a' U = true) ∧ Cond.codeWith y bytes maxL ret hh ∈ ws) ∧
  (Cond.codeWith y bytes maxL ret hh).before args s = true ∧ (Cond.initialized y.cls).before args s = true ∧ (y.cls ≠ "java/lang/invoke/MethodHandle" ∧ y.cls ≠ "java/lang/invoke/VarHandle") ∧
  (∀ sig, parseMethodDescriptor y.desc = some sig → n = sig.parameters.length) ∧ (Cond.methodLink own index y).before args s = true ∧ (Cond.instanceMethod y).before args s = true ∧ (Cond.selects C y y).before args s = true
theorem vx_cwVW {own C : String} {index maxL mc ms : Nat} {y : MethodName} {bytes : ByteArray} {ret : Option FieldType} {hh : List (Nat × Nat × Nat × Nat)} {Ts ws ws' : List Cond} {rm : Room} (n : Nat) (ht : ∀ w ∈ Ts, w.before args s = true) (hT : GoodIn Ts (wsV own index C y ws)) (hw : ws = Cond.codeWith y bytes maxL ret hh :: ws') (hrc : rm.cells = mc) (hrs : rm.slots = ms)
    (hd : y.cls = C ∧ y.cls ≠ "java/lang/invoke/MethodHandle" ∧ y.cls ≠ "java/lang/invoke/VarHandle" ∧ (parseMethodDescriptor y.desc).map (fun d => d.parameters.length) = some n) (hR : rm.frames + 1 ≤ R.frames ∧ 8 + (maxL + 11) + rm.locals ≤ R.locals) :
    vx_CVW R s args own C index y bytes maxL ret hh ws rm mc ms n := by
  obtain ⟨hC, hd⟩ := hd
  subst hC
  have ok : ∀ w ∈ wsV own index y.cls y ws, w.before args s = true := fun w h => ht w (hT w h).1
  have hG : GoodIn Ts ws := fun w h => hT w (by unfold wsV; exact List.mem_append_right _ h)
  have hc : Cond.codeWith y bytes maxL ret hh ∈ ws := by rw [hw]; exact List.mem_cons_self
  refine ⟨⟨hrc, hrs, hR.1, hR.2, pay_in ht hG, hc⟩, ht _ (hG _ hc).1, ok _ (by simp [wsV]), ⟨hd.1, hd.2.1⟩, fun sig h => ?_, ok _ (by simp [wsV]), ok _ (by simp [wsV]), ok _ (by simp [wsV])⟩
  have h2 := hd.2.2
  rw [h] at h2
  exact (Option.some.inj h2).symm
theorem vx_runVW {y : MethodName} {bytes cc : ByteArray} {maxL nL mc ms n index : Nat} {ret : Option FieldType} {hh : List (Nat × Nat × Nat × Nat)} {ws : List Cond} {rm : Room} {Pc : Array Value → State → Prop} {Qc : Array Value → State → Outcome → State → Prop} {free : Addr → Prop} {Ts : List Cond} {own C : String} {b : Addr} {As rest : List Value} {g : JFrame}
    (S : CallFix p m c cc nL s args Ts own) (hM : Met l y ws rm Pc Qc mc ms free) (cw : vx_CVW R s args own C index y bytes maxL ret hh ws rm mc ms n) (hp : PreV s H C b Pc As)
    (hg : g.method = m) (hn : As.length = n) (hsize : g.locals.size = nL) (hstack : g.stack = As.reverse ++ .ref b :: rest) (hW : 2 * g.monitorRoom + (rest.map fun v => v.category).sum ≤ 8) (hdg : decode cc g.pc = .ok (.invokevirtual index, 3)) (hf : cells + mc ≤ R.cells ∧ slots + ms ≤ R.slots) :
    va_Run p l e R s m args below meth c H locs cells slots mc ms g rest (Qc (Value.ref b :: As).toArray) free := by
  obtain ⟨⟨hrc, hrs, hfr, hlo, hws, hcw⟩, hcode, hini, hy, hlen, hl, hin, hse⟩ := cw
  have hK : Back l R p e below s args y 3 8 (PreOf R mc ms Pc) (PostOf Qc mc ms free) := va_backW (hh := hh) (bytes := bytes) (maxL := maxL) (ret := ret) hM hp.1 hrc hrs hfr hlo hws hcw (fun a' U hW => word_at hW (Or.inl (by first | rfl | simp [Cond.onTables, Cond.keeps, Cond.steady])) hini)
  obtain ⟨hx, hb, hml, ho, -⟩ := S
  obtain ⟨-, ⟨cellB, hcB, hoB, hclB⟩, hPc⟩ := hp
  intro T hT X
  obtain ⟨v, vm₁, ⟨U', l2, c2, s2⟩, hW₁, X', ⟨g', mk, t, L, e1, e2, hq, h1, hL, h2, h3⟩, st⟩ := vx_callVW X hx (C := C) (hh := hh) (bytes := bytes) (maxL := maxL) (ret := ret) ho hl hin hse hcode hy hK (by rw [hT]; exact hcB) hoB hclB hg (hsize.trans hml.symm) (argsL := As) (rest := rest) (fun sig h => hn.trans (hlen sig h)) hstack hW (by rw [hb]; exact hdg)
    (fun vm₁ hW₁ => ⟨hf.1, hf.2, hPc (T.setVm vm₁) hT hW₁⟩)
  dsimp only [Pt.U, Pt.locs, Pt.cells, Pt.slots] at X' e1 e2 h1 h2 h3 st
  subst h1; subst h2; subst h3
  exact ⟨v, (T.setVm vm₁).calling g' mk (Value.ref b :: As).toArray, t, U', L, hT, X', hL, e1, e2, hq, st⟩
section
variable {y : MethodName} {bytes cc : ByteArray} {maxL nL mc ms n index : Nat} {ret : Option FieldType} {ws : List Cond} {rm : Room} {Pc : Array Value → State → Prop} {Qc : Array Value → State → Outcome → State → Prop} {XC : String → State → State → Prop} {free : Addr → Prop} {Ts : List Cond} {own C : String} {b : Addr} {As rest : List Value} {g : JFrame}
theorem vx_runVX {hh : List (Nat × Nat × Nat × Nat)} (S : CallFix p m c cc nL s args Ts own) (hM : vx_Met l y ws rm Pc Qc XC mc ms free) (cw : vx_CVW R s args own C index y bytes maxL ret hh ws rm mc ms n) (hp : PreV s H C b Pc As)
    (hg : g.method = m) (hn : As.length = n) (hsize : g.locals.size = nL) (hstack : g.stack = As.reverse ++ .ref b :: rest) (hW : 2 * g.monitorRoom + (rest.map fun v => v.category).sum ≤ 8) (hdg : decode cc g.pc = .ok (.invokevirtual index, 3)) (hf : cells + mc ≤ R.cells ∧ slots + ms ≤ R.slots) :
    vx_Run p l e R s m args below meth c H locs cells slots mc ms g rest (Qc (Value.ref b :: As).toArray) XC free := by
  obtain ⟨⟨hrc, hrs, hfr, hlo, hws, hcw⟩, hcode, hini, hy, hlen, hl, hin, hse⟩ := cw
  have hK : vx_Back l R p e below s args y 3 8 (PreOf R mc ms Pc) (PostOf Qc mc ms free) (vx_Post XC mc ms free) := vx_backW (hh := hh) (bytes := bytes) (maxL := maxL) (ret := ret) hM hp.1 hrc hrs hfr hlo hws hcw (fun a' U hW => word_at hW (Or.inl (by first | rfl | simp [Cond.onTables, Cond.keeps, Cond.steady])) hini)
  obtain ⟨hx, hb, hml, ho, -⟩ := S
  obtain ⟨-, ⟨cellB, hcB, hoB, hclB⟩, hPc⟩ := hp
  intro T hT X
  rcases vx_callVX X hx (C := C) (hh := hh) (bytes := bytes) (maxL := maxL) (ret := ret) ho hl hin hse hcode hy hK (by rw [hT]; exact hcB) hoB hclB hg (hsize.trans hml.symm) (argsL := As) (rest := rest) (fun sig h => hn.trans (hlen sig h)) hstack hW (by rw [hb]; exact hdg)
    (fun vm₁ hW₁ => ⟨hf.1, hf.2, hPc (T.setVm vm₁) hT hW₁⟩) with ⟨v, vm₁, ⟨U', l2, c2, s2⟩, hW₁, X', ⟨g', mk, t, L, e1, e2, hq, h1, hL, h2, h3⟩, st⟩ | ⟨q, vm₁, ⟨U', l2, c2, s2⟩, hW₁, X', ⟨g', mk, t, L, E, ce, e1, e2, hq, hce, hcv, hcl, h1, hL, h2, h3⟩, st⟩
  · dsimp only [Pt.U, Pt.locs, Pt.cells, Pt.slots] at X' e1 e2 h1 h2 h3 st
    subst h1; subst h2; subst h3
    exact Or.inl ⟨v, (T.setVm vm₁).calling g' mk (Value.ref b :: As).toArray, t, U', L, hT, X', hL, e1, e2, hq, st⟩
  · dsimp only [Pt.U, Pt.locs, Pt.cells, Pt.slots] at X' e1 e2 h1 h2 h3 st hcl
    subst h1; subst h2; subst h3
    exact Or.inr ⟨q, (T.setVm vm₁).calling g' mk (Value.ref b :: As).toArray, t, U', L, E, ce, hT, X', hL, e1, e2, hq, hce, hcv, vx_cls hW₁ hcl, st⟩
theorem vx_runSX {hh : List (Nat × Nat × Nat × Nat)} (S : CallFix p m c cc nL s args Ts own) (hM : vx_Met l y ws rm Pc Qc XC mc ms free) (cw : vx_CSW R s args own index y bytes maxL ret hh ws rm mc ms n) (hp : PreS s H Pc As)
    (hg : g.method = m) (hn : As.length = n) (hsize : g.locals.size = nL) (hstack : g.stack = As.reverse ++ rest) (hW : 2 * g.monitorRoom + (rest.map fun v => v.category).sum ≤ 8) (hdg : decode cc g.pc = .ok (.invokestatic index, 3)) (hf : cells + mc ≤ R.cells ∧ slots + ms ≤ R.slots) :
    vx_Run p l e R s m args below meth c H locs cells slots mc ms g rest (Qc As.toArray) XC free := by
  obtain ⟨⟨hrc, hrs, hfr, hlo, hws, hcw⟩, hcode, hini, hy, hlen, hl, hstt⟩ := cw
  have hK : vx_Back l R p e below s args y 3 8 (PreOf R mc ms Pc) (PostOf Qc mc ms free) (vx_Post XC mc ms free) := vx_backW (hh := hh) (bytes := bytes) (maxL := maxL) (ret := ret) hM hp.1 hrc hrs hfr hlo hws hcw (fun a' U hW => word_at hW (Or.inl (by first | rfl | simp [Cond.onTables, Cond.keeps, Cond.steady])) hini)
  obtain ⟨hx, hb, hml, ho, -⟩ := S
  intro T hT X
  rcases vx_callSX X hx (hh := hh) (bytes := bytes) (maxL := maxL) (ret := ret) ho hl hstt hini hcode hy hK hg (hsize.trans hml.symm) (argsL := As) (rest := rest) (fun sig h => hn.trans (hlen sig h)) hstack hW (by rw [hb]; exact hdg)
    (fun vm₁ hW₁ => ⟨hf.1, hf.2, hp.2 (T.setVm vm₁) hT hW₁⟩) with ⟨v, vm₁, ⟨U', l2, c2, s2⟩, hW₁, X', ⟨g', mk, t, L, e1, e2, hq, h1, hL, h2, h3⟩, st⟩ | ⟨q, vm₁, ⟨U', l2, c2, s2⟩, hW₁, X', ⟨g', mk, t, L, E, ce, e1, e2, hq, hce, hcv, hcl, h1, hL, h2, h3⟩, st⟩
  · dsimp only [Pt.U, Pt.locs, Pt.cells, Pt.slots] at X' e1 e2 h1 h2 h3 st
    subst h1; subst h2; subst h3
    exact Or.inl ⟨v, (T.setVm vm₁).calling g' mk As.toArray, t, U', L, hT, X', hL, e1, e2, hq, st⟩
  · dsimp only [Pt.U, Pt.locs, Pt.cells, Pt.slots] at X' e1 e2 h1 h2 h3 st hcl
    subst h1; subst h2; subst h3
    exact Or.inr ⟨q, (T.setVm vm₁).calling g' mk As.toArray, t, U', L, E, ce, hT, X', hL, e1, e2, hq, hce, hcv, vx_cls hW₁ hcl, st⟩
end
end VXH
theorem vx_ofWH {l : Launch} {y : MethodName} {ws ws' : List Cond} {rm : Room} {Pc : Array Value → State → Prop} {Qc : Array Value → State → Outcome → State → Prop} {XC : String → State → State → Prop} {mc ms : Nat} {free : Addr → Prop} {cc : ByteArray} {maxL : Nat} {ret : Option FieldType} {hh : List (Nat × Nat × Nat × Nat)}
    (hy : plainName y.cls = true) (hw : ws = Cond.codeWith y cc maxL ret hh :: ws')
    (body : ∀ p e s m args below meth c s₁, BodyLoose p l y (headSpec ws rm) cc maxL ret e s m args below meth c s₁ → c.maxLocals = maxL → Pc args s →
      W p l e (headSpec ws rm).room s m args below meth c s.heap [] 0 0 (vx_MQ below Qc XC args s mc ms free) (entryFrame m args maxL)) : vx_Met l y ws rm Pc Qc XC mc ms free := by
  refine MetFree.of_bodyS (code := cc) (maxLocals := maxL) (ret := ret) hy ?_ ?_
  · intro args s m h hn
    obtain ⟨m9, meth, c, hn9, h1, h2, h3, h4, -, h5, h6, -⟩ := Cond.codeWith_spec (atoms_spec (ws := ws) h _ (by rw [hw]; exact List.mem_cons_self))
    cases hn.symm.trans hn9
    exact ⟨meth, c, h1, h2, h3, h4, h5, h6⟩
  · intro p e s m args below meth c s₁ B hml hP _
    have hh0 : s₁.heap = s.heap := by rw [B.state]; rfl
    obtain ⟨t, a1, o, b1, b2, b3⟩ := body p e s m args below meth c s₁ B hml hP s₁ hh0 (Stand.of_body B)
    exact ⟨t, o, a1, b1, b2, b3⟩
/-! ===== END ===== -/
end
section
/-! ===== BEGIN printed: names, fields, word lists, decode rows ===== -/
def RX0 : String := "PlankUnroll$Board"
def TX0 : u_T := fun k => match k with
  | 0 => ("PlankUnroll$Board", "w", "D", true)
  | 1 => ("PlankUnroll$Board", "h", "D", true)
  | _ => ("PlankUnroll$Board", "faults", "Ljava/util/ArrayList;", true)
def tyX0 : Nat → FieldType := fun k => match k with
  | 0 => .double
  | 1 => .double
  | _ => .object "java/util/ArrayList"
abbrev wsX00 : List Cond := u_ws RX0 TX0 3
theorem nmX0 : ∀ a, a < 3 → ∀ b, b < 3 → a ≠ b → (TX0 a).2.1 ≠ (TX0 b).2.1 := by decide +kernel
theorem tyX0_ok : ∀ k, k < 3 → parseFieldDescriptor (TX0 k).2.2.1 = some (tyX0 k) := by decide +kernel
abbrev cX0_init : ByteArray := prog_2_method_1_code
def yX0_init : MethodName := ⟨RX0, "<init>", "(DD)V"⟩
def RX1 : String := "PlankUnroll$Box"
def TX1 : u_T := fun k => match k with
  | 0 => ("PlankUnroll$Box", "x", "D", false)
  | 1 => ("PlankUnroll$Box", "y", "D", false)
  | 2 => ("PlankUnroll$Box", "w", "D", false)
  | _ => ("PlankUnroll$Box", "h", "D", false)
def tyX1 : Nat → FieldType := fun k => match k with
  | 0 => .double
  | 1 => .double
  | 2 => .double
  | _ => .double
abbrev wsX10 : List Cond := u_ws RX1 TX1 4
theorem nmX1 : ∀ a, a < 4 → ∀ b, b < 4 → a ≠ b → (TX1 a).2.1 ≠ (TX1 b).2.1 := by decide +kernel
theorem tyX1_ok : ∀ k, k < 4 → parseFieldDescriptor (TX1 k).2.2.1 = some (tyX1 k) := by decide +kernel
abbrev cX1_init : ByteArray := prog_3_method_1_code
def yX1_init : MethodName := ⟨RX1, "<init>", "(DDDD)V"⟩
abbrev cX1_overlaps : ByteArray := prog_3_method_2_code
def yX1_overlaps : MethodName := ⟨RX1, "overlaps", "(LPlankUnroll$Box;)Z"⟩
def RX2 : String := "PlankUnroll$Normal"
def TX2 : u_T := fun k => match k with
  | 0 => ("PlankUnroll$Normal", "x", "D", false)
  | 1 => ("PlankUnroll$Normal", "y", "D", false)
  | _ => ("PlankUnroll$Normal", "z", "D", false)
def tyX2 : Nat → FieldType := fun k => match k with
  | 0 => .double
  | 1 => .double
  | _ => .double
abbrev wsX20 : List Cond := u_ws RX2 TX2 3
theorem nmX2 : ∀ a, a < 3 → ∀ b, b < 3 → a ≠ b → (TX2 a).2.1 ≠ (TX2 b).2.1 := by decide +kernel
theorem tyX2_ok : ∀ k, k < 3 → parseFieldDescriptor (TX2 k).2.2.1 = some (tyX2 k) := by decide +kernel
abbrev cX2_init : ByteArray := prog_4_method_1_code
def yX2_init : MethodName := ⟨RX2, "<init>", "()V"⟩
abbrev cX2_cross : ByteArray := prog_4_method_2_code
def yX2_cross : MethodName := ⟨RX2, "cross", "(LPlankUnroll$Place;LPlankUnroll$Place;LPlankUnroll$Place;)V"⟩
abbrev cX2_times : ByteArray := prog_4_method_3_code
def yX2_times : MethodName := ⟨RX2, "times", "(LPlankUnroll$Normal;)D"⟩
def RX3 : String := "PlankUnroll$Place"
def TX3 : u_T := fun k => match k with
  | 0 => ("PlankUnroll$Place", "x", "D", false)
  | 1 => ("PlankUnroll$Place", "y", "D", false)
  | _ => ("PlankUnroll$Place", "z", "D", false)
def tyX3 : Nat → FieldType := fun k => match k with
  | 0 => .double
  | 1 => .double
  | _ => .double
abbrev wsX30 : List Cond := u_ws RX3 TX3 3
theorem nmX3 : ∀ a, a < 3 → ∀ b, b < 3 → a ≠ b → (TX3 a).2.1 ≠ (TX3 b).2.1 := by decide +kernel
theorem tyX3_ok : ∀ k, k < 3 → parseFieldDescriptor (TX3 k).2.2.1 = some (tyX3 k) := by decide +kernel
abbrev cX3_init : ByteArray := prog_5_method_1_code
def yX3_init : MethodName := ⟨RX3, "<init>", "()V"⟩
def RX4 : String := "PlankUnroll$Row"
def TX4 : u_T := fun k => match k with
  | _ => ("PlankUnroll$Row", "places", "[LPlankUnroll$Place;", true)
def tyX4 : Nat → FieldType := fun k => match k with
  | _ => .array (.object "PlankUnroll$Place")
abbrev wsX40 : List Cond := u_ws RX4 TX4 1
theorem nmX4 : ∀ a, a < 1 → ∀ b, b < 1 → a ≠ b → (TX4 a).2.1 ≠ (TX4 b).2.1 := by decide +kernel
theorem tyX4_ok : ∀ k, k < 1 → parseFieldDescriptor (TX4 k).2.2.1 = some (tyX4 k) := by decide +kernel
abbrev cX4_init : ByteArray := prog_6_method_1_code
def yX4_init : MethodName := ⟨RX4, "<init>", "(I)V"⟩
def RX5 : String := "PlankUnroll$Strip"
def TX5 : u_T := fun k => match k with
  | 0 => ("PlankUnroll$Strip", "a", "LPlankUnroll$Row;", true)
  | 1 => ("PlankUnroll$Strip", "b", "LPlankUnroll$Row;", true)
  | 2 => ("PlankUnroll$Strip", "cornerX", "[D", true)
  | 3 => ("PlankUnroll$Strip", "cornerY", "[D", true)
  | 4 => ("PlankUnroll$Strip", "butts", "[Z", true)
  | 5 => ("PlankUnroll$Strip", "box", "LPlankUnroll$Box;", true)
  | 6 => ("PlankUnroll$Strip", "unrolled", "Z", false)
  | 7 => ("PlankUnroll$Strip", "board", "I", false)
  | _ => ("PlankUnroll$Strip", "eighths", "I", false)
def tyX5 : Nat → FieldType := fun k => match k with
  | 0 => .object "PlankUnroll$Row"
  | 1 => .object "PlankUnroll$Row"
  | 2 => .array .double
  | 3 => .array .double
  | 4 => .array .boolean
  | 5 => .object "PlankUnroll$Box"
  | 6 => .boolean
  | 7 => .int
  | _ => .int
abbrev wsX50 : List Cond := u_ws RX5 TX5 9
theorem nmX5 : ∀ a, a < 9 → ∀ b, b < 9 → a ≠ b → (TX5 a).2.1 ≠ (TX5 b).2.1 := by decide +kernel
theorem tyX5_ok : ∀ k, k < 9 → parseFieldDescriptor (TX5 k).2.2.1 = some (tyX5 k) := by decide +kernel
abbrev cX5_init : ByteArray := prog_7_method_1_code
def yX5_init : MethodName := ⟨RX5, "<init>", "(LPlankUnroll$Row;LPlankUnroll$Row;I)V"⟩
abbrev cX5_forget : ByteArray := prog_7_method_2_code
def yX5_forget : MethodName := ⟨RX5, "forget", "()V"⟩
abbrev cX5_across : ByteArray := prog_7_method_3_code
def yX5_across : MethodName := ⟨RX5, "across", "(I)D"⟩
abbrev cX5_layFlat : ByteArray := prog_7_method_4_code
def yX5_layFlat : MethodName := ⟨RX5, "layFlat", "()Z"⟩
abbrev cX5_put : ByteArray := prog_7_method_5_code
def yX5_put : MethodName := ⟨RX5, "put", "(IIIDD)Z"⟩
abbrev cX5_extent : ByteArray := prog_7_method_6_code
def yX5_extent : MethodName := ⟨RX5, "extent", "([D)D"⟩
abbrev cX5_offDiagonal : ByteArray := prog_7_method_7_code
def yX5_offDiagonal : MethodName := ⟨RX5, "offDiagonal", "(I)D"⟩
abbrev cX5_keepsOwn : ByteArray := prog_7_method_8_code
def yX5_keepsOwn : MethodName := ⟨RX5, "keepsOwn", "(I)Z"⟩
abbrev cX5_keepsBeside : ByteArray := prog_7_method_9_code
def yX5_keepsBeside : MethodName := ⟨RX5, "keepsBeside", "(LPlankUnroll$Strip;I)Z"⟩
def RX6 : String := "PlankUnroll"
def TX6 : u_T := fun k => match k with
  | 0 => ("PlankUnroll", "frames", "I", true)
  | 1 => ("PlankUnroll", "rows", "[LPlankUnroll$Row;", true)
  | 2 => ("PlankUnroll", "strips", "[LPlankUnroll$Strip;", true)
  | 3 => ("PlankUnroll", "boards", "Ljava/util/ArrayList;", true)
  | 4 => ("PlankUnroll", "near", "LPlankUnroll$Normal;", true)
  | _ => ("PlankUnroll", "far", "LPlankUnroll$Normal;", true)
def tyX6 : Nat → FieldType := fun k => match k with
  | 0 => .int
  | 1 => .array (.object "PlankUnroll$Row")
  | 2 => .array (.object "PlankUnroll$Strip")
  | 3 => .object "java/util/ArrayList"
  | 4 => .object "PlankUnroll$Normal"
  | _ => .object "PlankUnroll$Normal"
abbrev wsX60 : List Cond := u_ws RX6 TX6 6
theorem nmX6 : ∀ a, a < 6 → ∀ b, b < 6 → a ≠ b → (TX6 a).2.1 ≠ (TX6 b).2.1 := by decide +kernel
theorem tyX6_ok : ∀ k, k < 6 → parseFieldDescriptor (TX6 k).2.2.1 = some (tyX6 k) := by decide +kernel
abbrev cX6_init : ByteArray := prog_1_method_1_code
def yX6_init : MethodName := ⟨RX6, "<init>", "(II)V"⟩
abbrev cX6_point : ByteArray := prog_1_method_2_code
def yX6_point : MethodName := ⟨RX6, "point", "(IIDDD)Z"⟩
abbrev cX6_distance : ByteArray := prog_1_method_3_code
def yX6_distance : MethodName := ⟨RX6, "distance", "(IIII)D"⟩
abbrev cX6_unroll : ByteArray := prog_1_method_4_code
def yX6_unroll : MethodName := ⟨RX6, "unroll", "(I)I"⟩
abbrev cX6_flat : ByteArray := prog_1_method_5_code
def yX6_flat : MethodName := ⟨RX6, "flat", "(III)D"⟩
abbrev cX6_stretch : ByteArray := prog_1_method_6_code
def yX6_stretch : MethodName := ⟨RX6, "stretch", "(II)D"⟩
abbrev cX6_worst : ByteArray := prog_1_method_7_code
def yX6_worst : MethodName := ⟨RX6, "worst", "(I)I"⟩
abbrev cX6_bevel : ByteArray := prog_1_method_8_code
def yX6_bevel : MethodName := ⟨RX6, "bevel", "(II)D"⟩
abbrev cX6_width : ByteArray := prog_1_method_9_code
def yX6_width : MethodName := ⟨RX6, "width", "(II)D"⟩
abbrev cX6_girth : ByteArray := prog_1_method_10_code
def yX6_girth : MethodName := ⟨RX6, "girth", "(I)D"⟩
abbrev cX6_butt : ByteArray := prog_1_method_11_code
def yX6_butt : MethodName := ⟨RX6, "butt", "(IIZ)Z"⟩
abbrev cX6_spans : ByteArray := prog_1_method_12_code
def yX6_spans : MethodName := ⟨RX6, "spans", "(I)Z"⟩
abbrev cX6_board : ByteArray := prog_1_method_13_code
def yX6_board : MethodName := ⟨RX6, "board", "(DD)I"⟩
abbrev cX6_fault : ByteArray := prog_1_method_14_code
def yX6_fault : MethodName := ⟨RX6, "fault", "(IDDDD)Z"⟩
abbrev cX6_nest : ByteArray := prog_1_method_15_code
def yX6_nest : MethodName := ⟨RX6, "nest", "(II)I"⟩
abbrev cX6_lies : ByteArray := prog_1_method_16_code
def yX6_lies : MethodName := ⟨RX6, "lies", "(II)I"⟩
abbrev cX6_staves : ByteArray := prog_1_method_17_code
def yX6_staves : MethodName := ⟨RX6, "staves", "(DD)I"⟩
abbrev cX6_closes : ByteArray := prog_1_method_18_code
def yX6_closes : MethodName := ⟨RX6, "closes", "(IDD)D"⟩
abbrev cX6_nearestSize : ByteArray := prog_1_method_19_code
def yX6_nearestSize : MethodName := ⟨RX6, "nearestSize", "(I)I"⟩
abbrev cX6_within : ByteArray := prog_1_method_20_code
def yX6_within : MethodName := ⟨RX6, "within", "(DDD)Z"⟩
abbrev cX6_sizeOf : ByteArray := prog_1_method_21_code
def yX6_sizeOf : MethodName := ⟨RX6, "sizeOf", "(D)D"⟩
abbrev cX6_root : ByteArray := prog_1_method_22_code
def yX6_root : MethodName := ⟨RX6, "root", "(D)D"⟩
abbrev cX6_apart : ByteArray := prog_1_method_23_code
def yX6_apart : MethodName := ⟨RX6, "apart", "(LPlankUnroll$Place;LPlankUnroll$Place;)D"⟩
abbrev cX6_circleOf : ByteArray := prog_1_method_24_code
def yX6_circleOf : MethodName := ⟨RX6, "circleOf", "(D)D"⟩
abbrev cX6_checkFrame : ByteArray := prog_1_method_25_code
def yX6_checkFrame : MethodName := ⟨RX6, "checkFrame", "(I)V"⟩
abbrev cX6_checkCell : ByteArray := prog_1_method_26_code
def yX6_checkCell : MethodName := ⟨RX6, "checkCell", "(I)V"⟩
abbrev cX6_placeAt : ByteArray := prog_1_method_27_code
def yX6_placeAt : MethodName := ⟨RX6, "placeAt", "(II)LPlankUnroll$Place;"⟩
abbrev cX6_stripAt : ByteArray := prog_1_method_28_code
def yX6_stripAt : MethodName := ⟨RX6, "stripAt", "(I)LPlankUnroll$Strip;"⟩
abbrev cX6_boardAt : ByteArray := prog_1_method_29_code
def yX6_boardAt : MethodName := ⟨RX6, "boardAt", "(I)LPlankUnroll$Board;"⟩
abbrev cX6_needUnrolled : ByteArray := prog_1_method_30_code
def yX6_needUnrolled : MethodName := ⟨RX6, "needUnrolled", "(LPlankUnroll$Strip;)V"⟩
abbrev cX6_checkStaves : ByteArray := prog_1_method_31_code
def yX6_checkStaves : MethodName := ⟨RX6, "checkStaves", "(DD)V"⟩
abbrev cX6_leastEighths : ByteArray := prog_1_method_32_code
def yX6_leastEighths : MethodName := ⟨RX6, "leastEighths", "(LPlankUnroll$Board;ILPlankUnroll$Box;)I"⟩
abbrev cX6_overlapped : ByteArray := prog_1_method_33_code
def yX6_overlapped : MethodName := ⟨RX6, "overlapped", "(LPlankUnroll$Board;ILPlankUnroll$Box;)LPlankUnroll$Box;"⟩
abbrev cX6_lastEighthsBefore : ByteArray := prog_1_method_34_code
def yX6_lastEighthsBefore : MethodName := ⟨RX6, "lastEighthsBefore", "(D)I"⟩
def RX7 : String := "PlankUnrollModel"
def TX7 : u_T := fun k => match k with
  | 0 => ("PlankUnrollModel", "thrown", "I", false)
  | 1 => ("PlankUnrollModel", "frames", "I", false)
  | 2 => ("PlankUnrollModel", "rows", "I", false)
  | 3 => ("PlankUnrollModel", "places", "[D", true)
  | 4 => ("PlankUnrollModel", "unrolled", "[Z", true)
  | 5 => ("PlankUnrollModel", "corners", "[D", true)
  | 6 => ("PlankUnrollModel", "draft", "[D", true)
  | 7 => ("PlankUnrollModel", "butts", "[Z", true)
  | 8 => ("PlankUnrollModel", "boards", "I", false)
  | 9 => ("PlankUnrollModel", "wides", "[D", true)
  | 10 => ("PlankUnrollModel", "highs", "[D", true)
  | 11 => ("PlankUnrollModel", "faultCount", "[I", true)
  | 12 => ("PlankUnrollModel", "faults", "[D", true)
  | 13 => ("PlankUnrollModel", "liesOn", "[I", true)
  | 14 => ("PlankUnrollModel", "liesAt", "[I", true)
  | 15 => ("PlankUnrollModel", "px", "D", false)
  | 16 => ("PlankUnrollModel", "py", "D", false)
  | _ => ("PlankUnrollModel", "pz", "D", false)
def tyX7 : Nat → FieldType := fun k => match k with
  | 0 => .int
  | 1 => .int
  | 2 => .int
  | 3 => .array .double
  | 4 => .array .boolean
  | 5 => .array .double
  | 6 => .array .double
  | 7 => .array .boolean
  | 8 => .int
  | 9 => .array .double
  | 10 => .array .double
  | 11 => .array .int
  | 12 => .array .double
  | 13 => .array .int
  | 14 => .array .int
  | 15 => .double
  | 16 => .double
  | _ => .double
abbrev wsX70 : List Cond := u_ws RX7 TX7 18
theorem nmX7 : ∀ a, a < 18 → ∀ b, b < 18 → a ≠ b → (TX7 a).2.1 ≠ (TX7 b).2.1 := by decide +kernel
theorem tyX7_ok : ∀ k, k < 18 → parseFieldDescriptor (TX7 k).2.2.1 = some (tyX7 k) := by decide +kernel
abbrev cX7_init : ByteArray := prog_9_method_1_code
def yX7_init : MethodName := ⟨RX7, "<init>", "(II)V"⟩
abbrev cX7_thrown : ByteArray := prog_9_method_2_code
def yX7_thrown : MethodName := ⟨RX7, "thrown", "()I"⟩
abbrev cX7_between : ByteArray := prog_9_method_3_code
def yX7_between : MethodName := ⟨RX7, "between", "(DDD)Z"⟩
abbrev cX7_noPlace : ByteArray := prog_9_method_4_code
def yX7_noPlace : MethodName := ⟨RX7, "noPlace", "(II)Z"⟩
abbrev cX7_noStrip : ByteArray := prog_9_method_5_code
def yX7_noStrip : MethodName := ⟨RX7, "noStrip", "(I)Z"⟩
abbrev cX7_root : ByteArray := prog_9_method_6_code
def yX7_root : MethodName := ⟨RX7, "root", "(D)D"⟩
abbrev cX7_at : ByteArray := prog_9_method_7_code
def yX7_at : MethodName := ⟨RX7, "at", "(III)D"⟩
abbrev cX7_point : ByteArray := prog_9_method_8_code
def yX7_point : MethodName := ⟨RX7, "point", "(IIDDD)Z"⟩
abbrev cX7_far : ByteArray := prog_9_method_9_code
def yX7_far : MethodName := ⟨RX7, "far", "(IIII)D"⟩
abbrev cX7_distance : ByteArray := prog_9_method_10_code
def yX7_distance : MethodName := ⟨RX7, "distance", "(IIII)D"⟩
abbrev cX7_length : ByteArray := prog_9_method_11_code
def yX7_length : MethodName := ⟨RX7, "length", "(DD)D"⟩
abbrev cX7_put : ByteArray := prog_9_method_12_code
def yX7_put : MethodName := ⟨RX7, "put", "(IIIDD)Z"⟩
abbrev cX7_unroll : ByteArray := prog_9_method_13_code
def yX7_unroll : MethodName := ⟨RX7, "unroll", "(I)I"⟩
abbrev cX7_flat : ByteArray := prog_9_method_14_code
def yX7_flat : MethodName := ⟨RX7, "flat", "(III)D"⟩
abbrev cX7_noCell : ByteArray := prog_9_method_15_code
def yX7_noCell : MethodName := ⟨RX7, "noCell", "(II)Z"⟩
abbrev cX7_off : ByteArray := prog_9_method_16_code
def yX7_off : MethodName := ⟨RX7, "off", "(II)D"⟩
abbrev cX7_stretch : ByteArray := prog_9_method_17_code
def yX7_stretch : MethodName := ⟨RX7, "stretch", "(II)D"⟩
abbrev cX7_worst : ByteArray := prog_9_method_18_code
def yX7_worst : MethodName := ⟨RX7, "worst", "(I)I"⟩
abbrev cX7_cross : ByteArray := prog_9_method_19_code
def yX7_cross : MethodName := ⟨RX7, "cross", "(IIIIII)V"⟩
abbrev cX7_bevel : ByteArray := prog_9_method_20_code
def yX7_bevel : MethodName := ⟨RX7, "bevel", "(II)D"⟩
abbrev cX7_width : ByteArray := prog_9_method_21_code
def yX7_width : MethodName := ⟨RX7, "width", "(II)D"⟩
abbrev cX7_girth : ByteArray := prog_9_method_22_code
def yX7_girth : MethodName := ⟨RX7, "girth", "(I)D"⟩
abbrev cX7_butt : ByteArray := prog_9_method_23_code
def yX7_butt : MethodName := ⟨RX7, "butt", "(IIZ)Z"⟩
abbrev cX7_keeps : ByteArray := prog_9_method_24_code
def yX7_keeps : MethodName := ⟨RX7, "keeps", "(III)Z"⟩
abbrev cX7_spans : ByteArray := prog_9_method_25_code
def yX7_spans : MethodName := ⟨RX7, "spans", "(I)Z"⟩
abbrev cX7_board : ByteArray := prog_9_method_26_code
def yX7_board : MethodName := ⟨RX7, "board", "(DD)I"⟩
abbrev cX7_fault : ByteArray := prog_9_method_27_code
def yX7_fault : MethodName := ⟨RX7, "fault", "(IDDDD)Z"⟩
abbrev cX7_size : ByteArray := prog_9_method_28_code
def yX7_size : MethodName := ⟨RX7, "size", "(II)D"⟩
abbrev cX7_isOpen : ByteArray := prog_9_method_29_code
def yX7_isOpen : MethodName := ⟨RX7, "isOpen", "(IDDD)Z"⟩
abbrev cX7_nest : ByteArray := prog_9_method_30_code
def yX7_nest : MethodName := ⟨RX7, "nest", "(II)I"⟩
abbrev cX7_lies : ByteArray := prog_9_method_31_code
def yX7_lies : MethodName := ⟨RX7, "lies", "(II)I"⟩
abbrev cX7_areStaves : ByteArray := prog_9_method_32_code
def yX7_areStaves : MethodName := ⟨RX7, "areStaves", "(DD)Z"⟩
abbrev cX7_staves : ByteArray := prog_9_method_33_code
def yX7_staves : MethodName := ⟨RX7, "staves", "(DD)I"⟩
abbrev cX7_closes : ByteArray := prog_9_method_34_code
def yX7_closes : MethodName := ⟨RX7, "closes", "(IDD)D"⟩
def RJx145de : String := "java/io/Serializable"
def TJx145de : u_T := fun k => match k with
  | _ => ("", "", "", false)
def tyJx145de : Nat → FieldType := fun k => match k with
  | _ => .int
abbrev wsJx145de0 : List Cond := u_ws RJx145de TJx145de 0
theorem nmJx145de : ∀ a, a < 0 → ∀ b, b < 0 → a ≠ b → (TJx145de a).2.1 ≠ (TJx145de b).2.1 := by decide +kernel
theorem tyJx145de_ok : ∀ k, k < 0 → parseFieldDescriptor (TJx145de k).2.2.1 = some (tyJx145de k) := by decide +kernel
def RJx8e188 : String := "java/lang/Cloneable"
def TJx8e188 : u_T := fun k => match k with
  | _ => ("", "", "", false)
def tyJx8e188 : Nat → FieldType := fun k => match k with
  | _ => .int
abbrev wsJx8e1880 : List Cond := u_ws RJx8e188 TJx8e188 0
theorem nmJx8e188 : ∀ a, a < 0 → ∀ b, b < 0 → a ≠ b → (TJx8e188 a).2.1 ≠ (TJx8e188 b).2.1 := by decide +kernel
theorem tyJx8e188_ok : ∀ k, k < 0 → parseFieldDescriptor (TJx8e188 k).2.2.1 = some (tyJx8e188 k) := by decide +kernel
def RJxab1ab : String := "java/lang/Iterable"
def TJxab1ab : u_T := fun k => match k with
  | _ => ("", "", "", false)
def tyJxab1ab : Nat → FieldType := fun k => match k with
  | _ => .int
abbrev wsJxab1ab0 : List Cond := u_ws RJxab1ab TJxab1ab 0
theorem nmJxab1ab : ∀ a, a < 0 → ∀ b, b < 0 → a ≠ b → (TJxab1ab a).2.1 ≠ (TJxab1ab b).2.1 := by decide +kernel
theorem tyJxab1ab_ok : ∀ k, k < 0 → parseFieldDescriptor (TJxab1ab k).2.2.1 = some (tyJxab1ab k) := by decide +kernel
def RJ9 : String := "java/lang/Math"
def TJ9 : u_T := fun k => match k with
  | _ => ("", "", "", false)
def tyJ9 : Nat → FieldType := fun k => match k with
  | _ => .int
abbrev wsJ90 : List Cond := u_ws RJ9 TJ9 0
theorem nmJ9 : ∀ a, a < 0 → ∀ b, b < 0 → a ≠ b → (TJ9 a).2.1 ≠ (TJ9 b).2.1 := by decide +kernel
theorem tyJ9_ok : ∀ k, k < 0 → parseFieldDescriptor (TJ9 k).2.2.1 = some (tyJ9 k) := by decide +kernel
abbrev cJ9_abs_0f7a4 : ByteArray := prog_17_method_59_code
def yJ9_abs_0f7a4 : MethodName := ⟨RJ9, "abs", "(I)I"⟩
abbrev cJ9_max_7cf53 : ByteArray := prog_17_method_65_code
def yJ9_max_7cf53 : MethodName := ⟨RJ9, "max", "(II)I"⟩
abbrev cJ9_min_7cf53 : ByteArray := prog_17_method_69_code
def yJ9_min_7cf53 : MethodName := ⟨RJ9, "min", "(II)I"⟩
def RJ0 : String := "java/lang/String"
def TJ0 : u_T := fun k => match k with
  | _ => ("", "", "", false)
def tyJ0 : Nat → FieldType := fun k => match k with
  | _ => .int
abbrev wsJ00 : List Cond := u_ws RJ0 TJ0 0
theorem nmJ0 : ∀ a, a < 0 → ∀ b, b < 0 → a ≠ b → (TJ0 a).2.1 ≠ (TJ0 b).2.1 := by decide +kernel
theorem tyJ0_ok : ∀ k, k < 0 → parseFieldDescriptor (TJ0 k).2.2.1 = some (tyJ0 k) := by decide +kernel
def RJ10 : String := "java/lang/System"
def TJ10 : u_T := fun k => match k with
  | _ => ("", "", "", false)
def tyJ10 : Nat → FieldType := fun k => match k with
  | _ => .int
abbrev wsJ100 : List Cond := u_ws RJ10 TJ10 0
theorem nmJ10 : ∀ a, a < 0 → ∀ b, b < 0 → a ≠ b → (TJ10 a).2.1 ≠ (TJ10 b).2.1 := by decide +kernel
theorem tyJ10_ok : ∀ k, k < 0 → parseFieldDescriptor (TJ10 k).2.2.1 = some (tyJ10 k) := by decide +kernel
def RJxa1e45 : String := "java/util/AbstractCollection"
def TJxa1e45 : u_T := fun k => match k with
  | _ => ("", "", "", false)
def tyJxa1e45 : Nat → FieldType := fun k => match k with
  | _ => .int
abbrev wsJxa1e450 : List Cond := u_ws RJxa1e45 TJxa1e45 0
theorem nmJxa1e45 : ∀ a, a < 0 → ∀ b, b < 0 → a ≠ b → (TJxa1e45 a).2.1 ≠ (TJxa1e45 b).2.1 := by decide +kernel
theorem tyJxa1e45_ok : ∀ k, k < 0 → parseFieldDescriptor (TJxa1e45 k).2.2.1 = some (tyJxa1e45 k) := by decide +kernel
abbrev cJxa1e45_init_da8c8 : ByteArray := prog_22_method_1_code
def yJxa1e45_init_da8c8 : MethodName := ⟨RJxa1e45, "<init>", "()V"⟩
def RJxc12de : String := "java/util/AbstractList"
def TJxc12de : u_T := fun k => match k with
  | _ => ("", "", "", false)
def tyJxc12de : Nat → FieldType := fun k => match k with
  | _ => .int
abbrev wsJxc12de0 : List Cond := u_ws RJxc12de TJxc12de 0
theorem nmJxc12de : ∀ a, a < 0 → ∀ b, b < 0 → a ≠ b → (TJxc12de a).2.1 ≠ (TJxc12de b).2.1 := by decide +kernel
theorem tyJxc12de_ok : ∀ k, k < 0 → parseFieldDescriptor (TJxc12de k).2.2.1 = some (tyJxc12de k) := by decide +kernel
abbrev cJxc12de_init_da8c8 : ByteArray := prog_23_method_1_code
def yJxc12de_init_da8c8 : MethodName := ⟨RJxc12de, "<init>", "()V"⟩
def RJx4a65c : String := "java/util/ArrayList"
def TJx4a65c : u_T := fun k => match k with
  | 0 => ("java/util/AbstractList", "modCount", "I", false)
  | 1 => ("java/util/ArrayList", "elementData", "[Ljava/lang/Object;", false)
  | _ => ("java/util/ArrayList", "size", "I", false)
def tyJx4a65c : Nat → FieldType := fun k => match k with
  | 0 => .int
  | 1 => .array (.object "java/lang/Object")
  | _ => .int
abbrev wsJx4a65c0 : List Cond := u_ws RJx4a65c TJx4a65c 3
theorem nmJx4a65c : ∀ a, a < 3 → ∀ b, b < 3 → a ≠ b → (TJx4a65c a).2.1 ≠ (TJx4a65c b).2.1 := by decide +kernel
theorem tyJx4a65c_ok : ∀ k, k < 3 → parseFieldDescriptor (TJx4a65c k).2.2.1 = some (tyJx4a65c k) := by decide +kernel
abbrev cJx4a65c_init_da8c8 : ByteArray := prog_24_method_2_code
def yJx4a65c_init_da8c8 : MethodName := ⟨RJx4a65c, "<init>", "()V"⟩
abbrev cJx4a65c_grow_92f84 : ByteArray := prog_24_method_6_code
def yJx4a65c_grow_92f84 : MethodName := ⟨RJx4a65c, "grow", "(I)[Ljava/lang/Object;"⟩
abbrev cJx4a65c_grow_d5877 : ByteArray := prog_24_method_7_code
def yJx4a65c_grow_d5877 : MethodName := ⟨RJx4a65c, "grow", "()[Ljava/lang/Object;"⟩
abbrev cJx4a65c_size_8abf5 : ByteArray := prog_24_method_8_code
def yJx4a65c_size_8abf5 : MethodName := ⟨RJx4a65c, "size", "()I"⟩
abbrev cJx4a65c_elementData_915e3 : ByteArray := prog_24_method_18_code
def yJx4a65c_elementData_915e3 : MethodName := ⟨RJx4a65c, "elementData", "(I)Ljava/lang/Object;"⟩
abbrev cJx4a65c_get_915e3 : ByteArray := prog_24_method_20_code
def yJx4a65c_get_915e3 : MethodName := ⟨RJx4a65c, "get", "(I)Ljava/lang/Object;"⟩
abbrev cJx4a65c_add_72be8 : ByteArray := prog_24_method_24_code
def yJx4a65c_add_72be8 : MethodName := ⟨RJx4a65c, "add", "(Ljava/lang/Object;[Ljava/lang/Object;I)V"⟩
abbrev cJx4a65c_add_9ea2d : ByteArray := prog_24_method_25_code
def yJx4a65c_add_9ea2d : MethodName := ⟨RJx4a65c, "add", "(Ljava/lang/Object;)Z"⟩
def RJ7 : String := "java/util/Arrays"
def TJ7 : u_T := fun k => match k with
  | _ => ("", "", "", false)
def tyJ7 : Nat → FieldType := fun k => match k with
  | _ => .int
abbrev wsJ70 : List Cond := u_ws RJ7 TJ7 0
theorem nmJ7 : ∀ a, a < 0 → ∀ b, b < 0 → a ≠ b → (TJ7 a).2.1 ≠ (TJ7 b).2.1 := by decide +kernel
theorem tyJ7_ok : ∀ k, k < 0 → parseFieldDescriptor (TJ7 k).2.2.1 = some (tyJ7 k) := by decide +kernel
abbrev cJ7_copyOf_1904c : ByteArray := prog_25_method_119_code
def yJ7_copyOf_1904c : MethodName := ⟨RJ7, "copyOf", "([Ljava/lang/Object;I)[Ljava/lang/Object;"⟩
abbrev cJ7_copyOf_6403c : ByteArray := prog_25_method_120_code
def yJ7_copyOf_6403c : MethodName := ⟨RJ7, "copyOf", "([Ljava/lang/Object;ILjava/lang/Class;)[Ljava/lang/Object;"⟩
def RJx5ef63 : String := "java/util/Collection"
def TJx5ef63 : u_T := fun k => match k with
  | _ => ("", "", "", false)
def tyJx5ef63 : Nat → FieldType := fun k => match k with
  | _ => .int
abbrev wsJx5ef630 : List Cond := u_ws RJx5ef63 TJx5ef63 0
theorem nmJx5ef63 : ∀ a, a < 0 → ∀ b, b < 0 → a ≠ b → (TJx5ef63 a).2.1 ≠ (TJx5ef63 b).2.1 := by decide +kernel
theorem tyJx5ef63_ok : ∀ k, k < 0 → parseFieldDescriptor (TJx5ef63 k).2.2.1 = some (tyJx5ef63 k) := by decide +kernel
def RJxbd725 : String := "java/util/List"
def TJxbd725 : u_T := fun k => match k with
  | _ => ("", "", "", false)
def tyJxbd725 : Nat → FieldType := fun k => match k with
  | _ => .int
abbrev wsJxbd7250 : List Cond := u_ws RJxbd725 TJxbd725 0
theorem nmJxbd725 : ∀ a, a < 0 → ∀ b, b < 0 → a ≠ b → (TJxbd725 a).2.1 ≠ (TJxbd725 b).2.1 := by decide +kernel
theorem tyJxbd725_ok : ∀ k, k < 0 → parseFieldDescriptor (TJxbd725 k).2.2.1 = some (tyJxbd725 k) := by decide +kernel
def RJ15 : String := "java/util/Objects"
def TJ15 : u_T := fun k => match k with
  | _ => ("", "", "", false)
def tyJ15 : Nat → FieldType := fun k => match k with
  | _ => .int
abbrev wsJ150 : List Cond := u_ws RJ15 TJ15 0
theorem nmJ15 : ∀ a, a < 0 → ∀ b, b < 0 → a ≠ b → (TJ15 a).2.1 ≠ (TJ15 b).2.1 := by decide +kernel
theorem tyJ15_ok : ∀ k, k < 0 → parseFieldDescriptor (TJ15 k).2.2.1 = some (tyJ15 k) := by decide +kernel
abbrev cJ15_checkIndex_7cf53 : ByteArray := prog_28_method_17_code
def yJ15_checkIndex_7cf53 : MethodName := ⟨RJ15, "checkIndex", "(II)I"⟩
def RJxf0a74 : String := "java/util/RandomAccess"
def TJxf0a74 : u_T := fun k => match k with
  | _ => ("", "", "", false)
def tyJxf0a74 : Nat → FieldType := fun k => match k with
  | _ => .int
abbrev wsJxf0a740 : List Cond := u_ws RJxf0a74 TJxf0a74 0
theorem nmJxf0a74 : ∀ a, a < 0 → ∀ b, b < 0 → a ≠ b → (TJxf0a74 a).2.1 ≠ (TJxf0a74 b).2.1 := by decide +kernel
theorem tyJxf0a74_ok : ∀ k, k < 0 → parseFieldDescriptor (TJxf0a74 k).2.2.1 = some (tyJxf0a74 k) := by decide +kernel
def RJxa66e6 : String := "java/util/SequencedCollection"
def TJxa66e6 : u_T := fun k => match k with
  | _ => ("", "", "", false)
def tyJxa66e6 : Nat → FieldType := fun k => match k with
  | _ => .int
abbrev wsJxa66e60 : List Cond := u_ws RJxa66e6 TJxa66e6 0
theorem nmJxa66e6 : ∀ a, a < 0 → ∀ b, b < 0 → a ≠ b → (TJxa66e6 a).2.1 ≠ (TJxa66e6 b).2.1 := by decide +kernel
theorem tyJxa66e6_ok : ∀ k, k < 0 → parseFieldDescriptor (TJxa66e6 k).2.2.1 = some (tyJxa66e6 k) := by decide +kernel
def RJ8 : String := "jdk/internal/util/ArraysSupport"
def TJ8 : u_T := fun k => match k with
  | _ => ("", "", "", false)
def tyJ8 : Nat → FieldType := fun k => match k with
  | _ => .int
abbrev wsJ80 : List Cond := u_ws RJ8 TJ8 0
theorem nmJ8 : ∀ a, a < 0 → ∀ b, b < 0 → a ≠ b → (TJ8 a).2.1 ≠ (TJ8 b).2.1 := by decide +kernel
theorem tyJ8_ok : ∀ k, k < 0 → parseFieldDescriptor (TJ8 k).2.2.1 = some (tyJ8 k) := by decide +kernel
abbrev cJ8_newLength_cabcc : ByteArray := prog_31_method_27_code
def yJ8_newLength_cabcc : MethodName := ⟨RJ8, "newLength", "(III)I"⟩
abbrev cJ8_hugeLength_7cf53 : ByteArray := prog_31_method_28_code
def yJ8_hugeLength_7cf53 : MethodName := ⟨RJ8, "hugeLength", "(II)I"⟩
def RJ3 : String := "jdk/internal/util/Preconditions"
def TJ3 : u_T := fun k => match k with
  | _ => ("", "", "", false)
def tyJ3 : Nat → FieldType := fun k => match k with
  | _ => .int
abbrev wsJ30 : List Cond := u_ws RJ3 TJ3 0
theorem nmJ3 : ∀ a, a < 0 → ∀ b, b < 0 → a ≠ b → (TJ3 a).2.1 ≠ (TJ3 b).2.1 := by decide +kernel
theorem tyJ3_ok : ∀ k, k < 0 → parseFieldDescriptor (TJ3 k).2.2.1 = some (tyJ3 k) := by decide +kernel
abbrev cJ3_checkIndex_8e157 : ByteArray := prog_32_method_11_code
def yJ3_checkIndex_8e157 : MethodName := ⟨RJ3, "checkIndex", "(IILjava/util/function/BiFunction;)I"⟩
def RL : String := "PlankUnrollLaw"
abbrev cL_cell : ByteArray := method_2_code
def yL_cell : MethodName := ⟨RL, "cell", "([II)I"⟩
abbrev cL_point : ByteArray := method_3_code
def yL_point : MethodName := ⟨RL, "point", "(LPlankUnroll;IIDDD[J)I"⟩
abbrev cL_distance : ByteArray := method_4_code
def yL_distance : MethodName := ⟨RL, "distance", "(LPlankUnroll;IIII[D)I"⟩
abbrev cL_unroll : ByteArray := method_5_code
def yL_unroll : MethodName := ⟨RL, "unroll", "(LPlankUnroll;I[J)I"⟩
abbrev cL_flat : ByteArray := method_6_code
def yL_flat : MethodName := ⟨RL, "flat", "(LPlankUnroll;III[D)I"⟩
abbrev cL_stretch : ByteArray := method_7_code
def yL_stretch : MethodName := ⟨RL, "stretch", "(LPlankUnroll;II[D)I"⟩
abbrev cL_worst : ByteArray := method_8_code
def yL_worst : MethodName := ⟨RL, "worst", "(LPlankUnroll;I[J)I"⟩
abbrev cL_bevel : ByteArray := method_9_code
def yL_bevel : MethodName := ⟨RL, "bevel", "(LPlankUnroll;II[D)I"⟩
abbrev cL_width : ByteArray := method_10_code
def yL_width : MethodName := ⟨RL, "width", "(LPlankUnroll;II[D)I"⟩
abbrev cL_girth : ByteArray := method_11_code
def yL_girth : MethodName := ⟨RL, "girth", "(LPlankUnroll;I[D)I"⟩
abbrev cL_butt : ByteArray := method_12_code
def yL_butt : MethodName := ⟨RL, "butt", "(LPlankUnroll;IIZ[J)I"⟩
abbrev cL_spans : ByteArray := method_13_code
def yL_spans : MethodName := ⟨RL, "spans", "(LPlankUnroll;I[J)I"⟩
abbrev cL_board : ByteArray := method_14_code
def yL_board : MethodName := ⟨RL, "board", "(LPlankUnroll;DD[J)I"⟩
abbrev cL_fault : ByteArray := method_15_code
def yL_fault : MethodName := ⟨RL, "fault", "(LPlankUnroll;IDDDD[J)I"⟩
abbrev cL_nest : ByteArray := method_16_code
def yL_nest : MethodName := ⟨RL, "nest", "(LPlankUnroll;II[J)I"⟩
abbrev cL_lies : ByteArray := method_17_code
def yL_lies : MethodName := ⟨RL, "lies", "(LPlankUnroll;II[J)I"⟩
abbrev cL_staves : ByteArray := method_18_code
def yL_staves : MethodName := ⟨RL, "staves", "(LPlankUnroll;DD[J)I"⟩
abbrev cL_closes : ByteArray := method_19_code
def yL_closes : MethodName := ⟨RL, "closes", "(LPlankUnroll;IDD[D)I"⟩
abbrev cL_law : ByteArray := code
def yL_law : MethodName := ⟨RL, "law", "([I)Z"⟩
def wsJxa1e45_init_da8c8 : List Cond := .code yJxa1e45_init_da8c8 cJxa1e45_init_da8c8 1 none :: ([.methodLink RJxa1e45 1 objectInit, .instanceMethod objectInit, .code objectInit ⟨#[0xb1]⟩ 1 none])
def wsJxc12de_init_da8c8 : List Cond := .code yJxc12de_init_da8c8 cJxc12de_init_da8c8 1 none :: ([.fieldLink RJxc12de 7 "java/util/AbstractList" "modCount" "I", .methodLink RJxc12de 1 yJxa1e45_init_da8c8, .instanceMethod yJxa1e45_init_da8c8, .initialized RJxa1e45, .code yJxa1e45_init_da8c8 cJxa1e45_init_da8c8 1 none, .methodLink RJxa1e45 1 objectInit, .instanceMethod objectInit, .code objectInit ⟨#[0xb1]⟩ 1 none] ++ wsJx4a65c0)
def wsJx4a65c_init_da8c8 : List Cond := .code yJx4a65c_init_da8c8 cJx4a65c_init_da8c8 1 none :: ([.fieldLink RJx4a65c 39 "java/util/ArrayList" "DEFAULTCAPACITY_EMPTY_ELEMENTDATA" "[Ljava/lang/Object;", .fieldLink RJx4a65c 9 "java/util/ArrayList" "elementData" "[Ljava/lang/Object;", .methodLink RJx4a65c 1 yJxc12de_init_da8c8, .instanceMethod yJxc12de_init_da8c8, .initialized RJxc12de, .code yJxc12de_init_da8c8 cJxc12de_init_da8c8 1 none, .fieldLink RJxc12de 7 "java/util/AbstractList" "modCount" "I", .methodLink RJxc12de 1 yJxa1e45_init_da8c8, .instanceMethod yJxa1e45_init_da8c8, .initialized RJxa1e45, .code yJxa1e45_init_da8c8 cJxa1e45_init_da8c8 1 none, .methodLink RJxa1e45 1 objectInit, .instanceMethod objectInit, .code objectInit ⟨#[0xb1]⟩ 1 none] ++ wsJx4a65c0)
def wsX0_init : List Cond := .code yX0_init cX0_init 5 none :: ([.methodLink RX0 1 objectInit, .instanceMethod objectInit, .code objectInit ⟨#[0xb1]⟩ 1 none, .fieldLink RX0 7 "PlankUnroll$Board" "w" "D", .fieldLink RX0 13 "PlankUnroll$Board" "h" "D", .classLink RX0 16 RJx4a65c, .instantiable RJx4a65c 3, .initialized RJx4a65c, .fieldLink RX0 19 "PlankUnroll$Board" "faults" "Ljava/util/ArrayList;", .methodLink RX0 18 yJx4a65c_init_da8c8, .instanceMethod yJx4a65c_init_da8c8, .code yJx4a65c_init_da8c8 cJx4a65c_init_da8c8 1 none, .fieldLink RJx4a65c 39 "java/util/ArrayList" "DEFAULTCAPACITY_EMPTY_ELEMENTDATA" "[Ljava/lang/Object;", .fieldLink RJx4a65c 9 "java/util/ArrayList" "elementData" "[Ljava/lang/Object;", .methodLink RJx4a65c 1 yJxc12de_init_da8c8, .instanceMethod yJxc12de_init_da8c8, .initialized RJxc12de, .code yJxc12de_init_da8c8 cJxc12de_init_da8c8 1 none, .fieldLink RJxc12de 7 "java/util/AbstractList" "modCount" "I", .methodLink RJxc12de 1 yJxa1e45_init_da8c8, .instanceMethod yJxa1e45_init_da8c8, .initialized RJxa1e45, .code yJxa1e45_init_da8c8 cJxa1e45_init_da8c8 1 none, .methodLink RJxa1e45 1 objectInit] ++ wsX00 ++ wsJx4a65c0)
def wsX1_init : List Cond := .code yX1_init cX1_init 9 none :: ([.methodLink RX1 1 objectInit, .instanceMethod objectInit, .code objectInit ⟨#[0xb1]⟩ 1 none, .fieldLink RX1 7 "PlankUnroll$Box" "x" "D", .fieldLink RX1 13 "PlankUnroll$Box" "y" "D", .fieldLink RX1 16 "PlankUnroll$Box" "w" "D", .fieldLink RX1 19 "PlankUnroll$Box" "h" "D"] ++ wsX10)
def wsX1_overlaps : List Cond := .code yX1_overlaps cX1_overlaps 2 (some .boolean) :: ([.fieldLink RX1 7 "PlankUnroll$Box" "x" "D", .fieldLink RX1 16 "PlankUnroll$Box" "w" "D", .fieldLink RX1 13 "PlankUnroll$Box" "y" "D", .fieldLink RX1 19 "PlankUnroll$Box" "h" "D"] ++ wsX10)
def wsX2_init : List Cond := .code yX2_init cX2_init 1 none :: ([.methodLink RX2 1 objectInit, .instanceMethod objectInit, .code objectInit ⟨#[0xb1]⟩ 1 none])
def wsX2_cross : List Cond := .code yX2_cross cX2_cross 16 none :: ([.fieldLink RX2 7 "PlankUnroll$Place" "x" "D", .fieldLink RX2 13 "PlankUnroll$Place" "y" "D", .fieldLink RX2 16 "PlankUnroll$Place" "z" "D", .fieldLink RX2 19 "PlankUnroll$Normal" "x" "D", .fieldLink RX2 22 "PlankUnroll$Normal" "y" "D", .fieldLink RX2 23 "PlankUnroll$Normal" "z" "D"] ++ wsX30 ++ wsX20)
def wsX2_times : List Cond := .code yX2_times cX2_times 2 (some .double) :: ([.fieldLink RX2 19 "PlankUnroll$Normal" "x" "D", .fieldLink RX2 22 "PlankUnroll$Normal" "y" "D", .fieldLink RX2 23 "PlankUnroll$Normal" "z" "D"] ++ wsX20)
def wsX3_init : List Cond := .code yX3_init cX3_init 1 none :: ([.methodLink RX3 1 objectInit, .instanceMethod objectInit, .code objectInit ⟨#[0xb1]⟩ 1 none])
def wsX4_init : List Cond := .code yX4_init cX4_init 3 none :: ([.methodLink RX4 1 objectInit, .instanceMethod objectInit, .code objectInit ⟨#[0xb1]⟩ 1 none, .classLink RX4 7 RX3, .fieldLink RX4 9 "PlankUnroll$Row" "places" "[LPlankUnroll$Place;", .instantiable RX3 3, .initialized RX3, .instanceMethod yX3_init, .code yX3_init cX3_init 1 none, .methodLink RX3 1 objectInit] ++ wsX40 ++ wsX30)
def wsX5_init : List Cond := .code yX5_init cX5_init 4 none :: ([.methodLink RX5 3 objectInit, .instanceMethod objectInit, .code objectInit ⟨#[0xb1]⟩ 1 none, .fieldLink RX5 9 "PlankUnroll$Strip" "a" "LPlankUnroll$Row;", .fieldLink RX5 15 "PlankUnroll$Strip" "b" "LPlankUnroll$Row;", .arrayClass .double, .fieldLink RX5 18 "PlankUnroll$Strip" "cornerX" "[D", .fieldLink RX5 22 "PlankUnroll$Strip" "cornerY" "[D", .arrayClass .boolean, .fieldLink RX5 25 "PlankUnroll$Strip" "butts" "[Z", .classLink RX5 29 RX1, .instantiable RX1 4, .initialized RX1, .fieldLink RX5 34 "PlankUnroll$Strip" "box" "LPlankUnroll$Box;", .fieldLink RX5 38 "PlankUnroll$Strip" "board" "I", .fieldLink RX5 42 "PlankUnroll$Strip" "eighths" "I", .methodLink RX5 31 yX1_init, .instanceMethod yX1_init, .code yX1_init cX1_init 9 none, .methodLink RX1 1 objectInit, .fieldLink RX1 7 "PlankUnroll$Box" "x" "D", .fieldLink RX1 13 "PlankUnroll$Box" "y" "D", .fieldLink RX1 16 "PlankUnroll$Box" "w" "D", .fieldLink RX1 19 "PlankUnroll$Box" "h" "D"] ++ wsX50 ++ wsX10)
def wsX5_forget : List Cond := .code yX5_forget cX5_forget 1 none :: ([.fieldLink RX5 45 "PlankUnroll$Strip" "unrolled" "Z", .fieldLink RX5 38 "PlankUnroll$Strip" "board" "I", .fieldLink RX5 42 "PlankUnroll$Strip" "eighths" "I"] ++ wsX50)
def wsX6_root : List Cond := .code yX6_root cX6_root 5 (some .double) :: ([.constantDouble RX6 249 (4611686018427387904)])
def wsX6_apart : List Cond := .code yX6_apart cX6_apart 8 (some .double) :: ([.fieldLink RX6 71 "PlankUnroll$Place" "x" "D", .fieldLink RX6 77 "PlankUnroll$Place" "y" "D", .fieldLink RX6 80 "PlankUnroll$Place" "z" "D", .methodLink RX6 155 yX6_root, .static yX6_root, .initialized RX6, .code yX6_root cX6_root 5 (some .double), .constantDouble RX6 249 (4611686018427387904)] ++ wsX30)
def wsX5_across : List Cond := .code yX5_across cX5_across 2 (some .double) :: ([.fieldLink RX5 9 "PlankUnroll$Strip" "a" "LPlankUnroll$Row;", .fieldLink RX5 49 "PlankUnroll$Row" "places" "[LPlankUnroll$Place;", .fieldLink RX5 15 "PlankUnroll$Strip" "b" "LPlankUnroll$Row;", .static yX6_apart, .initialized RX6, .code yX6_apart cX6_apart 8 (some .double), .fieldLink RX6 71 "PlankUnroll$Place" "x" "D", .fieldLink RX6 77 "PlankUnroll$Place" "y" "D", .fieldLink RX6 80 "PlankUnroll$Place" "z" "D", .methodLink RX6 155 yX6_root, .static yX6_root, .code yX6_root cX6_root 5 (some .double), .constantDouble RX6 249 (4611686018427387904)] ++ wsX50 ++ wsX40 ++ wsX30)
def wsX5_put : List Cond := .code yX5_put cX5_put 18 (some .boolean) :: ([.fieldLink RX5 18 "PlankUnroll$Strip" "cornerX" "[D", .fieldLink RX5 22 "PlankUnroll$Strip" "cornerY" "[D", .constantDouble RX5 82 (4562146422526312448), .constantDouble RX5 84 (4611686018427387904), .static yX6_root, .initialized RX6, .code yX6_root cX6_root 5 (some .double), .constantDouble RX6 249 (4611686018427387904)] ++ wsX50)
def wsX5_extent : List Cond := .code yX5_extent cX5_extent 10 (some .double) :: ([])
def wsX5_layFlat_r1 : List Cond := [Cond.fieldLink RX5 18 "PlankUnroll$Strip" "cornerX" "[D", Cond.fieldLink RX5 22 "PlankUnroll$Strip" "cornerY" "[D", Cond.fieldLink RX5 25 "PlankUnroll$Strip" "butts" "[Z", Cond.fieldLink RX5 9 "PlankUnroll$Strip" "a" "LPlankUnroll$Row;", Cond.fieldLink RX5 49 "PlankUnroll$Row" "places" "[LPlankUnroll$Place;", Cond.fieldLink RX5 15 "PlankUnroll$Strip" "b" "LPlankUnroll$Row;", Cond.fieldLink RX5 34 "PlankUnroll$Strip" "box" "LPlankUnroll$Box;", Cond.fieldLink RX5 71 "PlankUnroll$Box" "w" "D", Cond.fieldLink RX5 75 "PlankUnroll$Box" "h" "D", Cond.fieldLink RX5 45 "PlankUnroll$Strip" "unrolled" "Z", Cond.methodLink RX5 59 yX5_across, Cond.instanceMethod yX5_across, Cond.selects RX5 yX5_across yX5_across, Cond.initialized RX5, Cond.code yX5_across cX5_across 2 (some .double), Cond.static yX6_apart, Cond.initialized RX6, Cond.code yX6_apart cX6_apart 8 (some .double), Cond.fieldLink RX6 71 "PlankUnroll$Place" "x" "D", Cond.fieldLink RX6 77 "PlankUnroll$Place" "y" "D", Cond.fieldLink RX6 80 "PlankUnroll$Place" "z" "D", Cond.methodLink RX6 155 yX6_root, Cond.static yX6_root, Cond.code yX6_root cX6_root 5 (some .double)]
def wsX5_layFlat_r2 : List Cond := [Cond.constantDouble RX6 249 (4611686018427387904), Cond.methodLink RX5 63 yX5_put, Cond.instanceMethod yX5_put, Cond.selects RX5 yX5_put yX5_put, Cond.code yX5_put cX5_put 18 (some .boolean), Cond.constantDouble RX5 82 (4562146422526312448), Cond.constantDouble RX5 84 (4611686018427387904), Cond.methodLink RX5 67 yX5_extent, Cond.static yX5_extent, Cond.code yX5_extent cX5_extent 10 (some .double)]
def wsX5_layFlat : List Cond := .code yX5_layFlat cX5_layFlat 8 (some .boolean) :: ((wsX5_layFlat_r1 ++ wsX5_layFlat_r2) ++ wsX50 ++ wsX40 ++ wsX10 ++ wsX30)
def wsX5_offDiagonal : List Cond := .code yX5_offDiagonal cX5_offDiagonal 8 (some .double) :: ([.fieldLink RX5 18 "PlankUnroll$Strip" "cornerX" "[D", .fieldLink RX5 22 "PlankUnroll$Strip" "cornerY" "[D", .fieldLink RX5 9 "PlankUnroll$Strip" "a" "LPlankUnroll$Row;", .fieldLink RX5 49 "PlankUnroll$Row" "places" "[LPlankUnroll$Place;", .fieldLink RX5 15 "PlankUnroll$Strip" "b" "LPlankUnroll$Row;", .static yX6_root, .initialized RX6, .code yX6_root cX6_root 5 (some .double), .constantDouble RX6 249 (4611686018427387904), .static yX6_apart, .code yX6_apart cX6_apart 8 (some .double), .fieldLink RX6 71 "PlankUnroll$Place" "x" "D", .fieldLink RX6 77 "PlankUnroll$Place" "y" "D", .fieldLink RX6 80 "PlankUnroll$Place" "z" "D", .methodLink RX6 155 yX6_root] ++ wsX50 ++ wsX40 ++ wsX30)
def wsX5_keepsOwn : List Cond := .code yX5_keepsOwn cX5_keepsOwn 4 (some .boolean) :: ([.fieldLink RX5 25 "PlankUnroll$Strip" "butts" "[Z"] ++ wsX50)
def wsX5_keepsBeside : List Cond := .code yX5_keepsBeside cX5_keepsBeside 5 (some .boolean) :: ([.fieldLink RX5 25 "PlankUnroll$Strip" "butts" "[Z", .methodLink RX5 86 Lib.Math.abs.name, .static Lib.Math.abs.name, .initialized "java/lang/Math", .code Lib.Math.abs.name Lib.Math.abs.code 1 (some .int)] ++ wsX50)
def wsX6_nearestSize : List Cond := .code yX6_nearestSize cX6_nearestSize 1 (some .int) :: ([.methodLink RX6 246 Lib.Math.min.name, .static Lib.Math.min.name, .initialized "java/lang/Math", .code Lib.Math.min.name Lib.Math.min.code 2 (some .int), .methodLink RX6 237 Lib.Math.max.name, .static Lib.Math.max.name, .code Lib.Math.max.name Lib.Math.max.code 2 (some .int)])
def wsX6_init_r1 : List Cond := [Cond.methodLink RX6 1 objectInit, Cond.instanceMethod objectInit, Cond.code objectInit ⟨#[0xb1]⟩ 1 none, Cond.fieldLink RX6 13 "PlankUnroll" "frames" "I", Cond.classLink RX6 17 RX4, Cond.fieldLink RX6 19 "PlankUnroll" "rows" "[LPlankUnroll$Row;", Cond.instantiable RX4 1, Cond.initialized RX4, Cond.classLink RX6 26 RX5, Cond.fieldLink RX6 28 "PlankUnroll" "strips" "[LPlankUnroll$Strip;", Cond.instantiable RX5 9, Cond.initialized RX5, Cond.classLink RX6 35 RJx4a65c, Cond.instantiable RJx4a65c 3, Cond.initialized RJx4a65c, Cond.fieldLink RX6 38 "PlankUnroll" "boards" "Ljava/util/ArrayList;", Cond.classLink RX6 42 RX2, Cond.instantiable RX2 3, Cond.initialized RX2, Cond.fieldLink RX6 45 "PlankUnroll" "near" "LPlankUnroll$Normal;", Cond.fieldLink RX6 49 "PlankUnroll" "far" "LPlankUnroll$Normal;", Cond.methodLink RX6 7 yX6_nearestSize, Cond.static yX6_nearestSize, Cond.initialized RX6]
def wsX6_init_r2 : List Cond := [Cond.code yX6_nearestSize cX6_nearestSize 1 (some .int), Cond.methodLink RX6 246 Lib.Math.min.name, Cond.static Lib.Math.min.name, Cond.initialized "java/lang/Math", Cond.code Lib.Math.min.name Lib.Math.min.code 2 (some .int), Cond.methodLink RX6 237 Lib.Math.max.name, Cond.static Lib.Math.max.name, Cond.code Lib.Math.max.name Lib.Math.max.code 2 (some .int), Cond.methodLink RX6 23 yX4_init, Cond.instanceMethod yX4_init, Cond.code yX4_init cX4_init 3 none, Cond.methodLink RX4 1 objectInit, Cond.classLink RX4 7 RX3, Cond.fieldLink RX4 9 "PlankUnroll$Row" "places" "[LPlankUnroll$Place;", Cond.instantiable RX3 3, Cond.initialized RX3, Cond.instanceMethod yX3_init, Cond.code yX3_init cX3_init 1 none, Cond.methodLink RX3 1 objectInit, Cond.methodLink RX6 32 yX5_init, Cond.instanceMethod yX5_init, Cond.code yX5_init cX5_init 4 none, Cond.methodLink RX5 3 objectInit, Cond.fieldLink RX5 9 "PlankUnroll$Strip" "a" "LPlankUnroll$Row;"]
def wsX6_init_r3 : List Cond := [Cond.fieldLink RX5 15 "PlankUnroll$Strip" "b" "LPlankUnroll$Row;", Cond.arrayClass .double, Cond.fieldLink RX5 18 "PlankUnroll$Strip" "cornerX" "[D", Cond.fieldLink RX5 22 "PlankUnroll$Strip" "cornerY" "[D", Cond.arrayClass .boolean, Cond.fieldLink RX5 25 "PlankUnroll$Strip" "butts" "[Z", Cond.classLink RX5 29 RX1, Cond.instantiable RX1 4, Cond.initialized RX1, Cond.fieldLink RX5 34 "PlankUnroll$Strip" "box" "LPlankUnroll$Box;", Cond.fieldLink RX5 38 "PlankUnroll$Strip" "board" "I", Cond.fieldLink RX5 42 "PlankUnroll$Strip" "eighths" "I", Cond.methodLink RX5 31 yX1_init, Cond.instanceMethod yX1_init, Cond.code yX1_init cX1_init 9 none, Cond.methodLink RX1 1 objectInit, Cond.fieldLink RX1 7 "PlankUnroll$Box" "x" "D", Cond.fieldLink RX1 13 "PlankUnroll$Box" "y" "D", Cond.fieldLink RX1 16 "PlankUnroll$Box" "w" "D", Cond.fieldLink RX1 19 "PlankUnroll$Box" "h" "D", Cond.methodLink RX6 37 yJx4a65c_init_da8c8, Cond.instanceMethod yJx4a65c_init_da8c8, Cond.code yJx4a65c_init_da8c8 cJx4a65c_init_da8c8 1 none, Cond.fieldLink RJx4a65c 39 "java/util/ArrayList" "DEFAULTCAPACITY_EMPTY_ELEMENTDATA" "[Ljava/lang/Object;"]
def wsX6_init_r4 : List Cond := [Cond.fieldLink RJx4a65c 9 "java/util/ArrayList" "elementData" "[Ljava/lang/Object;", Cond.methodLink RJx4a65c 1 yJxc12de_init_da8c8, Cond.instanceMethod yJxc12de_init_da8c8, Cond.initialized RJxc12de, Cond.code yJxc12de_init_da8c8 cJxc12de_init_da8c8 1 none, Cond.fieldLink RJxc12de 7 "java/util/AbstractList" "modCount" "I", Cond.methodLink RJxc12de 1 yJxa1e45_init_da8c8, Cond.instanceMethod yJxa1e45_init_da8c8, Cond.initialized RJxa1e45, Cond.code yJxa1e45_init_da8c8 cJxa1e45_init_da8c8 1 none, Cond.methodLink RJxa1e45 1 objectInit, Cond.instanceMethod yX2_init, Cond.code yX2_init cX2_init 1 none, Cond.methodLink RX2 1 objectInit]
def wsX6_init : List Cond := .code yX6_init cX6_init 4 none :: ((wsX6_init_r1 ++ (wsX6_init_r2 ++ (wsX6_init_r3 ++ wsX6_init_r4))) ++ wsX60 ++ wsX40 ++ wsX50 ++ wsJx4a65c0 ++ wsX20 ++ wsX30 ++ wsX10)
def wsX6_checkFrame : List Cond := .code yX6_checkFrame cX6_checkFrame 2 none :: ([.classLink RX6 107 "java/lang/IndexOutOfBoundsException", .initialized "java/lang/IndexOutOfBoundsException", .fieldLink RX6 13 "PlankUnroll" "frames" "I"] ++ wsX60 ++ (vx_atS RX6 111 "java/lang/IndexOutOfBoundsException" ["java/lang/RuntimeException", "java/lang/Exception"]).filter goodWord)
def wsX6_placeAt : List Cond := .code yX6_placeAt cX6_placeAt 3 (some (.object "PlankUnroll$Place")) :: ([.classLink RX6 107 "java/lang/IndexOutOfBoundsException", .initialized "java/lang/IndexOutOfBoundsException", .fieldLink RX6 19 "PlankUnroll" "rows" "[LPlankUnroll$Row;", .fieldLink RX6 140 "PlankUnroll$Row" "places" "[LPlankUnroll$Place;", .methodLink RX6 158 yX6_checkFrame, .instanceMethod yX6_checkFrame, .selects RX6 yX6_checkFrame yX6_checkFrame, .initialized RX6, .code yX6_checkFrame cX6_checkFrame 2 none, .fieldLink RX6 13 "PlankUnroll" "frames" "I"] ++ wsX60 ++ wsX40 ++ (vx_atS RX6 111 "java/lang/IndexOutOfBoundsException" ["java/lang/RuntimeException", "java/lang/Exception"]).filter goodWord)
def wsX6_within : List Cond := .code yX6_within cX6_within 6 (some .boolean) :: ([])
def wsX6_point_r1 : List Cond := [Cond.classLink RX6 64 "java/lang/IllegalArgumentException", Cond.initialized "java/lang/IllegalArgumentException", Cond.constantDouble RX6 56 (13875379345695965184), Cond.constantDouble RX6 58 (4652007308841189376), Cond.fieldLink RX6 71 "PlankUnroll$Place" "x" "D", Cond.fieldLink RX6 77 "PlankUnroll$Place" "y" "D", Cond.fieldLink RX6 80 "PlankUnroll$Place" "z" "D", Cond.fieldLink RX6 28 "PlankUnroll" "strips" "[LPlankUnroll$Strip;", Cond.methodLink RX6 52 yX6_placeAt, Cond.instanceMethod yX6_placeAt, Cond.selects RX6 yX6_placeAt yX6_placeAt, Cond.initialized RX6, Cond.code yX6_placeAt cX6_placeAt 3 (some (.object "PlankUnroll$Place")), Cond.classLink RX6 107 "java/lang/IndexOutOfBoundsException", Cond.initialized "java/lang/IndexOutOfBoundsException", Cond.fieldLink RX6 19 "PlankUnroll" "rows" "[LPlankUnroll$Row;", Cond.fieldLink RX6 140 "PlankUnroll$Row" "places" "[LPlankUnroll$Place;", Cond.methodLink RX6 158 yX6_checkFrame, Cond.instanceMethod yX6_checkFrame, Cond.selects RX6 yX6_checkFrame yX6_checkFrame, Cond.code yX6_checkFrame cX6_checkFrame 2 none, Cond.fieldLink RX6 13 "PlankUnroll" "frames" "I", Cond.methodLink RX6 60 yX6_within, Cond.static yX6_within]
def wsX6_point_r2 : List Cond := [Cond.code yX6_within cX6_within 6 (some .boolean), Cond.methodLink RX6 83 yX5_forget, Cond.instanceMethod yX5_forget, Cond.selects RX5 yX5_forget yX5_forget, Cond.initialized RX5, Cond.code yX5_forget cX5_forget 1 none, Cond.fieldLink RX5 45 "PlankUnroll$Strip" "unrolled" "Z", Cond.fieldLink RX5 38 "PlankUnroll$Strip" "board" "I", Cond.fieldLink RX5 42 "PlankUnroll$Strip" "eighths" "I"]
def wsX6_point : List Cond := .code yX6_point cX6_point 14 (some .boolean) :: ((wsX6_point_r1 ++ wsX6_point_r2) ++ wsX30 ++ wsX60 ++ wsX40 ++ wsX50 ++ (vx_atS RX6 68 "java/lang/IllegalArgumentException" ["java/lang/RuntimeException", "java/lang/Exception"]).filter goodWord ++ (vx_atS RX6 111 "java/lang/IndexOutOfBoundsException" ["java/lang/RuntimeException", "java/lang/Exception"]).filter goodWord)
def wsX6_distance : List Cond := .code yX6_distance cX6_distance 5 (some .double) :: ([.methodLink RX6 52 yX6_placeAt, .instanceMethod yX6_placeAt, .selects RX6 yX6_placeAt yX6_placeAt, .initialized RX6, .code yX6_placeAt cX6_placeAt 3 (some (.object "PlankUnroll$Place")), .classLink RX6 107 "java/lang/IndexOutOfBoundsException", .initialized "java/lang/IndexOutOfBoundsException", .fieldLink RX6 19 "PlankUnroll" "rows" "[LPlankUnroll$Row;", .fieldLink RX6 140 "PlankUnroll$Row" "places" "[LPlankUnroll$Place;", .methodLink RX6 158 yX6_checkFrame, .instanceMethod yX6_checkFrame, .selects RX6 yX6_checkFrame yX6_checkFrame, .code yX6_checkFrame cX6_checkFrame 2 none, .fieldLink RX6 13 "PlankUnroll" "frames" "I", .methodLink RX6 86 yX6_apart, .static yX6_apart, .code yX6_apart cX6_apart 8 (some .double), .fieldLink RX6 71 "PlankUnroll$Place" "x" "D", .fieldLink RX6 77 "PlankUnroll$Place" "y" "D", .fieldLink RX6 80 "PlankUnroll$Place" "z" "D", .methodLink RX6 155 yX6_root, .static yX6_root, .code yX6_root cX6_root 5 (some .double), .constantDouble RX6 249 (4611686018427387904)] ++ wsX60 ++ wsX40 ++ wsX30 ++ (vx_atS RX6 111 "java/lang/IndexOutOfBoundsException" ["java/lang/RuntimeException", "java/lang/Exception"]).filter goodWord)
def wsX6_stripAt : List Cond := .code yX6_stripAt cX6_stripAt 2 (some (.object "PlankUnroll$Strip")) :: ([.classLink RX6 107 "java/lang/IndexOutOfBoundsException", .initialized "java/lang/IndexOutOfBoundsException", .fieldLink RX6 28 "PlankUnroll" "strips" "[LPlankUnroll$Strip;"] ++ wsX60 ++ (vx_atS RX6 111 "java/lang/IndexOutOfBoundsException" ["java/lang/RuntimeException", "java/lang/Exception"]).filter goodWord)
def wsX6_unroll_r1 : List Cond := [Cond.classLink RX6 102 "java/lang/IllegalStateException", Cond.initialized "java/lang/IllegalStateException", Cond.fieldLink RX6 94 "PlankUnroll$Strip" "unrolled" "Z", Cond.fieldLink RX6 13 "PlankUnroll" "frames" "I", Cond.methodLink RX6 90 yX6_stripAt, Cond.instanceMethod yX6_stripAt, Cond.selects RX6 yX6_stripAt yX6_stripAt, Cond.initialized RX6, Cond.code yX6_stripAt cX6_stripAt 2 (some (.object "PlankUnroll$Strip")), Cond.classLink RX6 107 "java/lang/IndexOutOfBoundsException", Cond.initialized "java/lang/IndexOutOfBoundsException", Cond.fieldLink RX6 28 "PlankUnroll" "strips" "[LPlankUnroll$Strip;", Cond.methodLink RX6 98 yX5_layFlat, Cond.instanceMethod yX5_layFlat, Cond.selects RX5 yX5_layFlat yX5_layFlat, Cond.initialized RX5, Cond.code yX5_layFlat cX5_layFlat 8 (some .boolean), Cond.fieldLink RX5 18 "PlankUnroll$Strip" "cornerX" "[D", Cond.fieldLink RX5 22 "PlankUnroll$Strip" "cornerY" "[D", Cond.fieldLink RX5 25 "PlankUnroll$Strip" "butts" "[Z", Cond.fieldLink RX5 9 "PlankUnroll$Strip" "a" "LPlankUnroll$Row;", Cond.fieldLink RX5 49 "PlankUnroll$Row" "places" "[LPlankUnroll$Place;", Cond.fieldLink RX5 15 "PlankUnroll$Strip" "b" "LPlankUnroll$Row;", Cond.fieldLink RX5 34 "PlankUnroll$Strip" "box" "LPlankUnroll$Box;"]
def wsX6_unroll_r2 : List Cond := [Cond.fieldLink RX5 71 "PlankUnroll$Box" "w" "D", Cond.fieldLink RX5 75 "PlankUnroll$Box" "h" "D", Cond.fieldLink RX5 45 "PlankUnroll$Strip" "unrolled" "Z", Cond.methodLink RX5 59 yX5_across, Cond.instanceMethod yX5_across, Cond.selects RX5 yX5_across yX5_across, Cond.code yX5_across cX5_across 2 (some .double), Cond.static yX6_apart, Cond.code yX6_apart cX6_apart 8 (some .double), Cond.fieldLink RX6 71 "PlankUnroll$Place" "x" "D", Cond.fieldLink RX6 77 "PlankUnroll$Place" "y" "D", Cond.fieldLink RX6 80 "PlankUnroll$Place" "z" "D", Cond.methodLink RX6 155 yX6_root, Cond.static yX6_root, Cond.code yX6_root cX6_root 5 (some .double), Cond.constantDouble RX6 249 (4611686018427387904), Cond.methodLink RX5 63 yX5_put, Cond.instanceMethod yX5_put, Cond.selects RX5 yX5_put yX5_put, Cond.code yX5_put cX5_put 18 (some .boolean), Cond.constantDouble RX5 82 (4562146422526312448), Cond.constantDouble RX5 84 (4611686018427387904), Cond.methodLink RX5 67 yX5_extent, Cond.static yX5_extent]
def wsX6_unroll_r3 : List Cond := [Cond.code yX5_extent cX5_extent 10 (some .double)]
def wsX6_unroll : List Cond := .code yX6_unroll cX6_unroll 3 (some .int) :: ((wsX6_unroll_r1 ++ (wsX6_unroll_r2 ++ wsX6_unroll_r3)) ++ wsX50 ++ wsX60 ++ wsX40 ++ wsX10 ++ wsX30 ++ (vx_atS RX6 106 "java/lang/IllegalStateException" ["java/lang/RuntimeException", "java/lang/Exception"]).filter goodWord ++ (vx_atS RX6 111 "java/lang/IndexOutOfBoundsException" ["java/lang/RuntimeException", "java/lang/Exception"]).filter goodWord)
def wsX6_needUnrolled : List Cond := .code yX6_needUnrolled cX6_needUnrolled 1 none :: ([.classLink RX6 102 "java/lang/IllegalStateException", .initialized "java/lang/IllegalStateException", .fieldLink RX6 94 "PlankUnroll$Strip" "unrolled" "Z"] ++ wsX50 ++ (vx_atS RX6 106 "java/lang/IllegalStateException" ["java/lang/RuntimeException", "java/lang/Exception"]).filter goodWord)
def wsX6_flat : List Cond := .code yX6_flat cX6_flat 5 (some .double) :: ([.classLink RX6 107 "java/lang/IndexOutOfBoundsException", .initialized "java/lang/IndexOutOfBoundsException", .fieldLink RX6 13 "PlankUnroll" "frames" "I", .fieldLink RX6 118 "PlankUnroll$Strip" "cornerX" "[D", .fieldLink RX6 122 "PlankUnroll$Strip" "cornerY" "[D", .methodLink RX6 90 yX6_stripAt, .instanceMethod yX6_stripAt, .selects RX6 yX6_stripAt yX6_stripAt, .initialized RX6, .code yX6_stripAt cX6_stripAt 2 (some (.object "PlankUnroll$Strip")), .fieldLink RX6 28 "PlankUnroll" "strips" "[LPlankUnroll$Strip;", .methodLink RX6 114 yX6_needUnrolled, .static yX6_needUnrolled, .code yX6_needUnrolled cX6_needUnrolled 1 none, .classLink RX6 102 "java/lang/IllegalStateException", .initialized "java/lang/IllegalStateException", .fieldLink RX6 94 "PlankUnroll$Strip" "unrolled" "Z"] ++ wsX60 ++ wsX50 ++ (vx_atS RX6 111 "java/lang/IndexOutOfBoundsException" ["java/lang/RuntimeException", "java/lang/Exception"]).filter goodWord ++ (vx_atS RX6 106 "java/lang/IllegalStateException" ["java/lang/RuntimeException", "java/lang/Exception"]).filter goodWord)
def wsX6_checkCell : List Cond := .code yX6_checkCell cX6_checkCell 2 none :: ([.classLink RX6 107 "java/lang/IndexOutOfBoundsException", .initialized "java/lang/IndexOutOfBoundsException", .fieldLink RX6 13 "PlankUnroll" "frames" "I"] ++ wsX60 ++ (vx_atS RX6 111 "java/lang/IndexOutOfBoundsException" ["java/lang/RuntimeException", "java/lang/Exception"]).filter goodWord)
def wsX6_stretch_r1 : List Cond := [Cond.methodLink RX6 90 yX6_stripAt, Cond.instanceMethod yX6_stripAt, Cond.selects RX6 yX6_stripAt yX6_stripAt, Cond.initialized RX6, Cond.code yX6_stripAt cX6_stripAt 2 (some (.object "PlankUnroll$Strip")), Cond.classLink RX6 107 "java/lang/IndexOutOfBoundsException", Cond.initialized "java/lang/IndexOutOfBoundsException", Cond.fieldLink RX6 28 "PlankUnroll" "strips" "[LPlankUnroll$Strip;", Cond.methodLink RX6 125 yX6_checkCell, Cond.instanceMethod yX6_checkCell, Cond.selects RX6 yX6_checkCell yX6_checkCell, Cond.code yX6_checkCell cX6_checkCell 2 none, Cond.fieldLink RX6 13 "PlankUnroll" "frames" "I", Cond.methodLink RX6 114 yX6_needUnrolled, Cond.static yX6_needUnrolled, Cond.code yX6_needUnrolled cX6_needUnrolled 1 none, Cond.classLink RX6 102 "java/lang/IllegalStateException", Cond.initialized "java/lang/IllegalStateException", Cond.fieldLink RX6 94 "PlankUnroll$Strip" "unrolled" "Z", Cond.methodLink RX6 128 yX5_offDiagonal, Cond.instanceMethod yX5_offDiagonal, Cond.selects RX5 yX5_offDiagonal yX5_offDiagonal, Cond.initialized RX5, Cond.code yX5_offDiagonal cX5_offDiagonal 8 (some .double)]
def wsX6_stretch_r2 : List Cond := [Cond.fieldLink RX5 18 "PlankUnroll$Strip" "cornerX" "[D", Cond.fieldLink RX5 22 "PlankUnroll$Strip" "cornerY" "[D", Cond.fieldLink RX5 9 "PlankUnroll$Strip" "a" "LPlankUnroll$Row;", Cond.fieldLink RX5 49 "PlankUnroll$Row" "places" "[LPlankUnroll$Place;", Cond.fieldLink RX5 15 "PlankUnroll$Strip" "b" "LPlankUnroll$Row;", Cond.static yX6_root, Cond.code yX6_root cX6_root 5 (some .double), Cond.constantDouble RX6 249 (4611686018427387904), Cond.static yX6_apart, Cond.code yX6_apart cX6_apart 8 (some .double), Cond.fieldLink RX6 71 "PlankUnroll$Place" "x" "D", Cond.fieldLink RX6 77 "PlankUnroll$Place" "y" "D", Cond.fieldLink RX6 80 "PlankUnroll$Place" "z" "D", Cond.methodLink RX6 155 yX6_root]
def wsX6_stretch : List Cond := .code yX6_stretch cX6_stretch 4 (some .double) :: ((wsX6_stretch_r1 ++ wsX6_stretch_r2) ++ wsX60 ++ wsX50 ++ wsX40 ++ wsX30 ++ (vx_atS RX6 111 "java/lang/IndexOutOfBoundsException" ["java/lang/RuntimeException", "java/lang/Exception"]).filter goodWord ++ (vx_atS RX6 106 "java/lang/IllegalStateException" ["java/lang/RuntimeException", "java/lang/Exception"]).filter goodWord)
def wsX6_sizeOf : List Cond := .code yX6_sizeOf cX6_sizeOf 2 (some .double) :: ([])
def wsX6_worst_r1 : List Cond := [Cond.fieldLink RX6 13 "PlankUnroll" "frames" "I", Cond.methodLink RX6 90 yX6_stripAt, Cond.instanceMethod yX6_stripAt, Cond.selects RX6 yX6_stripAt yX6_stripAt, Cond.initialized RX6, Cond.code yX6_stripAt cX6_stripAt 2 (some (.object "PlankUnroll$Strip")), Cond.classLink RX6 107 "java/lang/IndexOutOfBoundsException", Cond.initialized "java/lang/IndexOutOfBoundsException", Cond.fieldLink RX6 28 "PlankUnroll" "strips" "[LPlankUnroll$Strip;", Cond.methodLink RX6 114 yX6_needUnrolled, Cond.static yX6_needUnrolled, Cond.code yX6_needUnrolled cX6_needUnrolled 1 none, Cond.classLink RX6 102 "java/lang/IllegalStateException", Cond.initialized "java/lang/IllegalStateException", Cond.fieldLink RX6 94 "PlankUnroll$Strip" "unrolled" "Z", Cond.methodLink RX6 128 yX5_offDiagonal, Cond.instanceMethod yX5_offDiagonal, Cond.selects RX5 yX5_offDiagonal yX5_offDiagonal, Cond.initialized RX5, Cond.code yX5_offDiagonal cX5_offDiagonal 8 (some .double), Cond.fieldLink RX5 18 "PlankUnroll$Strip" "cornerX" "[D", Cond.fieldLink RX5 22 "PlankUnroll$Strip" "cornerY" "[D", Cond.fieldLink RX5 9 "PlankUnroll$Strip" "a" "LPlankUnroll$Row;", Cond.fieldLink RX5 49 "PlankUnroll$Row" "places" "[LPlankUnroll$Place;"]
def wsX6_worst_r2 : List Cond := [Cond.fieldLink RX5 15 "PlankUnroll$Strip" "b" "LPlankUnroll$Row;", Cond.static yX6_root, Cond.code yX6_root cX6_root 5 (some .double), Cond.constantDouble RX6 249 (4611686018427387904), Cond.static yX6_apart, Cond.code yX6_apart cX6_apart 8 (some .double), Cond.fieldLink RX6 71 "PlankUnroll$Place" "x" "D", Cond.fieldLink RX6 77 "PlankUnroll$Place" "y" "D", Cond.fieldLink RX6 80 "PlankUnroll$Place" "z" "D", Cond.methodLink RX6 155 yX6_root, Cond.methodLink RX6 132 yX6_sizeOf, Cond.static yX6_sizeOf, Cond.code yX6_sizeOf cX6_sizeOf 2 (some .double)]
def wsX6_worst : List Cond := .code yX6_worst cX6_worst 9 (some .int) :: ((wsX6_worst_r1 ++ wsX6_worst_r2) ++ wsX60 ++ wsX50 ++ wsX40 ++ wsX30 ++ (vx_atS RX6 111 "java/lang/IndexOutOfBoundsException" ["java/lang/RuntimeException", "java/lang/Exception"]).filter goodWord ++ (vx_atS RX6 106 "java/lang/IllegalStateException" ["java/lang/RuntimeException", "java/lang/Exception"]).filter goodWord)
def wsX6_bevel_r1 : List Cond := [Cond.fieldLink RX6 136 "PlankUnroll$Strip" "a" "LPlankUnroll$Row;", Cond.fieldLink RX6 140 "PlankUnroll$Row" "places" "[LPlankUnroll$Place;", Cond.fieldLink RX6 144 "PlankUnroll$Strip" "b" "LPlankUnroll$Row;", Cond.fieldLink RX6 45 "PlankUnroll" "near" "LPlankUnroll$Normal;", Cond.fieldLink RX6 49 "PlankUnroll" "far" "LPlankUnroll$Normal;", Cond.methodLink RX6 90 yX6_stripAt, Cond.instanceMethod yX6_stripAt, Cond.selects RX6 yX6_stripAt yX6_stripAt, Cond.initialized RX6, Cond.code yX6_stripAt cX6_stripAt 2 (some (.object "PlankUnroll$Strip")), Cond.classLink RX6 107 "java/lang/IndexOutOfBoundsException", Cond.initialized "java/lang/IndexOutOfBoundsException", Cond.fieldLink RX6 28 "PlankUnroll" "strips" "[LPlankUnroll$Strip;", Cond.methodLink RX6 125 yX6_checkCell, Cond.instanceMethod yX6_checkCell, Cond.selects RX6 yX6_checkCell yX6_checkCell, Cond.code yX6_checkCell cX6_checkCell 2 none, Cond.fieldLink RX6 13 "PlankUnroll" "frames" "I", Cond.methodLink RX6 147 yX2_cross, Cond.instanceMethod yX2_cross, Cond.selects RX2 yX2_cross yX2_cross, Cond.initialized RX2, Cond.code yX2_cross cX2_cross 16 none, Cond.fieldLink RX2 7 "PlankUnroll$Place" "x" "D"]
def wsX6_bevel_r2 : List Cond := [Cond.fieldLink RX2 13 "PlankUnroll$Place" "y" "D", Cond.fieldLink RX2 16 "PlankUnroll$Place" "z" "D", Cond.fieldLink RX2 19 "PlankUnroll$Normal" "x" "D", Cond.fieldLink RX2 22 "PlankUnroll$Normal" "y" "D", Cond.fieldLink RX2 23 "PlankUnroll$Normal" "z" "D", Cond.methodLink RX6 151 yX2_times, Cond.instanceMethod yX2_times, Cond.selects RX2 yX2_times yX2_times, Cond.code yX2_times cX2_times 2 (some .double), Cond.methodLink RX6 155 yX6_root, Cond.static yX6_root, Cond.code yX6_root cX6_root 5 (some .double), Cond.constantDouble RX6 249 (4611686018427387904)]
def wsX6_bevel : List Cond := .code yX6_bevel cX6_bevel 10 (some .double) :: ((wsX6_bevel_r1 ++ wsX6_bevel_r2) ++ wsX50 ++ wsX40 ++ wsX60 ++ wsX30 ++ wsX20 ++ (vx_atS RX6 111 "java/lang/IndexOutOfBoundsException" ["java/lang/RuntimeException", "java/lang/Exception"]).filter goodWord)
def wsX6_width_r1 : List Cond := [Cond.methodLink RX6 90 yX6_stripAt, Cond.instanceMethod yX6_stripAt, Cond.selects RX6 yX6_stripAt yX6_stripAt, Cond.initialized RX6, Cond.code yX6_stripAt cX6_stripAt 2 (some (.object "PlankUnroll$Strip")), Cond.classLink RX6 107 "java/lang/IndexOutOfBoundsException", Cond.initialized "java/lang/IndexOutOfBoundsException", Cond.fieldLink RX6 28 "PlankUnroll" "strips" "[LPlankUnroll$Strip;", Cond.methodLink RX6 158 yX6_checkFrame, Cond.instanceMethod yX6_checkFrame, Cond.selects RX6 yX6_checkFrame yX6_checkFrame, Cond.code yX6_checkFrame cX6_checkFrame 2 none, Cond.fieldLink RX6 13 "PlankUnroll" "frames" "I", Cond.methodLink RX6 161 yX5_across, Cond.instanceMethod yX5_across, Cond.selects RX5 yX5_across yX5_across, Cond.initialized RX5, Cond.code yX5_across cX5_across 2 (some .double), Cond.fieldLink RX5 9 "PlankUnroll$Strip" "a" "LPlankUnroll$Row;", Cond.fieldLink RX5 49 "PlankUnroll$Row" "places" "[LPlankUnroll$Place;", Cond.fieldLink RX5 15 "PlankUnroll$Strip" "b" "LPlankUnroll$Row;", Cond.static yX6_apart, Cond.code yX6_apart cX6_apart 8 (some .double), Cond.fieldLink RX6 71 "PlankUnroll$Place" "x" "D"]
def wsX6_width_r2 : List Cond := [Cond.fieldLink RX6 77 "PlankUnroll$Place" "y" "D", Cond.fieldLink RX6 80 "PlankUnroll$Place" "z" "D", Cond.methodLink RX6 155 yX6_root, Cond.static yX6_root, Cond.code yX6_root cX6_root 5 (some .double), Cond.constantDouble RX6 249 (4611686018427387904)]
def wsX6_width : List Cond := .code yX6_width cX6_width 4 (some .double) :: ((wsX6_width_r1 ++ wsX6_width_r2) ++ wsX60 ++ wsX50 ++ wsX40 ++ wsX30 ++ (vx_atS RX6 111 "java/lang/IndexOutOfBoundsException" ["java/lang/RuntimeException", "java/lang/Exception"]).filter goodWord)
def wsX6_girth_r1 : List Cond := [Cond.fieldLink RX6 28 "PlankUnroll" "strips" "[LPlankUnroll$Strip;", Cond.methodLink RX6 158 yX6_checkFrame, Cond.instanceMethod yX6_checkFrame, Cond.selects RX6 yX6_checkFrame yX6_checkFrame, Cond.initialized RX6, Cond.code yX6_checkFrame cX6_checkFrame 2 none, Cond.classLink RX6 107 "java/lang/IndexOutOfBoundsException", Cond.initialized "java/lang/IndexOutOfBoundsException", Cond.fieldLink RX6 13 "PlankUnroll" "frames" "I", Cond.methodLink RX6 161 yX5_across, Cond.instanceMethod yX5_across, Cond.selects RX5 yX5_across yX5_across, Cond.initialized RX5, Cond.code yX5_across cX5_across 2 (some .double), Cond.fieldLink RX5 9 "PlankUnroll$Strip" "a" "LPlankUnroll$Row;", Cond.fieldLink RX5 49 "PlankUnroll$Row" "places" "[LPlankUnroll$Place;", Cond.fieldLink RX5 15 "PlankUnroll$Strip" "b" "LPlankUnroll$Row;", Cond.static yX6_apart, Cond.code yX6_apart cX6_apart 8 (some .double), Cond.fieldLink RX6 71 "PlankUnroll$Place" "x" "D", Cond.fieldLink RX6 77 "PlankUnroll$Place" "y" "D", Cond.fieldLink RX6 80 "PlankUnroll$Place" "z" "D", Cond.methodLink RX6 155 yX6_root, Cond.static yX6_root]
def wsX6_girth_r2 : List Cond := [Cond.code yX6_root cX6_root 5 (some .double), Cond.constantDouble RX6 249 (4611686018427387904)]
def wsX6_girth : List Cond := .code yX6_girth cX6_girth 8 (some .double) :: ((wsX6_girth_r1 ++ wsX6_girth_r2) ++ wsX60 ++ wsX50 ++ wsX40 ++ wsX30 ++ (vx_atS RX6 111 "java/lang/IndexOutOfBoundsException" ["java/lang/RuntimeException", "java/lang/Exception"]).filter goodWord)
def wsX6_butt : List Cond := .code yX6_butt cX6_butt 6 (some .boolean) :: ([.fieldLink RX6 164 "PlankUnroll$Strip" "butts" "[Z", .methodLink RX6 90 yX6_stripAt, .instanceMethod yX6_stripAt, .selects RX6 yX6_stripAt yX6_stripAt, .initialized RX6, .code yX6_stripAt cX6_stripAt 2 (some (.object "PlankUnroll$Strip")), .classLink RX6 107 "java/lang/IndexOutOfBoundsException", .initialized "java/lang/IndexOutOfBoundsException", .fieldLink RX6 28 "PlankUnroll" "strips" "[LPlankUnroll$Strip;", .methodLink RX6 158 yX6_checkFrame, .instanceMethod yX6_checkFrame, .selects RX6 yX6_checkFrame yX6_checkFrame, .code yX6_checkFrame cX6_checkFrame 2 none, .fieldLink RX6 13 "PlankUnroll" "frames" "I"] ++ wsX50 ++ wsX60 ++ (vx_atS RX6 111 "java/lang/IndexOutOfBoundsException" ["java/lang/RuntimeException", "java/lang/Exception"]).filter goodWord)
def wsX6_spans : List Cond := .code yX6_spans cX6_spans 3 (some .boolean) :: ([.classLink RX6 64 "java/lang/IllegalArgumentException", .initialized "java/lang/IllegalArgumentException", .fieldLink RX6 28 "PlankUnroll" "strips" "[LPlankUnroll$Strip;", .methodLink RX6 170 yX5_keepsOwn, .instanceMethod yX5_keepsOwn, .selects RX5 yX5_keepsOwn yX5_keepsOwn, .initialized RX5, .code yX5_keepsOwn cX5_keepsOwn 4 (some .boolean), .fieldLink RX5 25 "PlankUnroll$Strip" "butts" "[Z", .methodLink RX6 174 yX5_keepsBeside, .instanceMethod yX5_keepsBeside, .selects RX5 yX5_keepsBeside yX5_keepsBeside, .code yX5_keepsBeside cX5_keepsBeside 5 (some .boolean), .methodLink RX5 86 Lib.Math.abs.name, .static Lib.Math.abs.name, .initialized "java/lang/Math", .code Lib.Math.abs.name Lib.Math.abs.code 1 (some .int)] ++ wsX60 ++ wsX50 ++ (vx_atS RX6 68 "java/lang/IllegalArgumentException" ["java/lang/RuntimeException", "java/lang/Exception"]).filter goodWord)
def wsJx4a65c_size_8abf5 : List Cond := .code yJx4a65c_size_8abf5 cJx4a65c_size_8abf5 1 (some .int) :: ([.fieldLink RJx4a65c 48 "java/util/ArrayList" "size" "I"] ++ wsJx4a65c0)
def wsJ8_hugeLength_7cf53 : List Cond := .code yJ8_hugeLength_7cf53 cJ8_hugeLength_7cf53 3 (some .int) :: ([.constant RJ8 200 (2147483639)])
def wsJ8_newLength_cabcc : List Cond := .code yJ8_newLength_cabcc cJ8_newLength_cabcc 4 (some .int) :: ([.methodLink RJ8 194 Lib.Math.max.name, .static Lib.Math.max.name, .initialized "java/lang/Math", .code Lib.Math.max.name Lib.Math.max.code 2 (some .int), .constant RJ8 200 (2147483639), .methodLink RJ8 201 yJ8_hugeLength_7cf53, .static yJ8_hugeLength_7cf53, .initialized RJ8, .code yJ8_hugeLength_7cf53 cJ8_hugeLength_7cf53 3 (some .int)])
def wsJ7_copyOf_6403c : List Cond := .code yJ7_copyOf_6403c cJ7_copyOf_6403c 4 (some (.array (.object "java/lang/Object"))) :: ([.classLink RJ7 110 "[Ljava/lang/Object;", .classLink RJ7 2 "java/lang/Object", .methodLink RJ7 304 Lib.Math.min.name, .static Lib.Math.min.name, .initialized "java/lang/Math", .code Lib.Math.min.name Lib.Math.min.code 2 (some .int), .methodLink RJ7 150 arraycopyName, .native arraycopyName, .static arraycopyName, .initialized "java/lang/System"])
def wsJ7_copyOf_1904c : List Cond := .code yJ7_copyOf_1904c cJ7_copyOf_1904c 2 (some (.array (.object "java/lang/Object"))) :: ([.methodLink RJ7 86 ⟨"java/lang/Object", "getClass", "()Ljava/lang/Class;"⟩, .selects "[Ljava/lang/Object;" ⟨"java/lang/Object", "getClass", "()Ljava/lang/Class;"⟩ ⟨"java/lang/Object", "getClass", "()Ljava/lang/Class;"⟩, .instanceMethod ⟨"java/lang/Object", "getClass", "()Ljava/lang/Class;"⟩, .native ⟨"java/lang/Object", "getClass", "()Ljava/lang/Class;"⟩, .methodLink RJ7 300 yJ7_copyOf_6403c, .static yJ7_copyOf_6403c, .initialized RJ7, .code yJ7_copyOf_6403c cJ7_copyOf_6403c 4 (some (.array (.object "java/lang/Object"))), .classLink RJ7 110 "[Ljava/lang/Object;", .classLink RJ7 2 "java/lang/Object", .methodLink RJ7 304 Lib.Math.min.name, .static Lib.Math.min.name, .initialized "java/lang/Math", .code Lib.Math.min.name Lib.Math.min.code 2 (some .int), .methodLink RJ7 150 arraycopyName, .native arraycopyName, .static arraycopyName, .initialized "java/lang/System"])
def wsJx4a65c_grow_92f84_r1 : List Cond := [Cond.fieldLink RJx4a65c 9 "java/util/ArrayList" "elementData" "[Ljava/lang/Object;", Cond.fieldLink RJx4a65c 39 "java/util/ArrayList" "DEFAULTCAPACITY_EMPTY_ELEMENTDATA" "[Ljava/lang/Object;", Cond.methodLink RJx4a65c 79 Lib.Math.max.name, Cond.static Lib.Math.max.name, Cond.initialized "java/lang/Math", Cond.code Lib.Math.max.name Lib.Math.max.code 2 (some .int), Cond.classLink RJx4a65c 7 "java/lang/Object", Cond.methodLink RJx4a65c 73 yJ8_newLength_cabcc, Cond.static yJ8_newLength_cabcc, Cond.initialized RJ8, Cond.code yJ8_newLength_cabcc cJ8_newLength_cabcc 4 (some .int), Cond.methodLink RJ8 194 Lib.Math.max.name, Cond.constant RJ8 200 (2147483639), Cond.methodLink RJ8 201 yJ8_hugeLength_7cf53, Cond.static yJ8_hugeLength_7cf53, Cond.code yJ8_hugeLength_7cf53 cJ8_hugeLength_7cf53 3 (some .int), Cond.methodLink RJx4a65c 66 yJ7_copyOf_1904c, Cond.static yJ7_copyOf_1904c, Cond.initialized RJ7, Cond.code yJ7_copyOf_1904c cJ7_copyOf_1904c 2 (some (.array (.object "java/lang/Object"))), Cond.methodLink RJ7 86 ⟨"java/lang/Object", "getClass", "()Ljava/lang/Class;"⟩, Cond.selects "[Ljava/lang/Object;" ⟨"java/lang/Object", "getClass", "()Ljava/lang/Class;"⟩ ⟨"java/lang/Object", "getClass", "()Ljava/lang/Class;"⟩, Cond.instanceMethod ⟨"java/lang/Object", "getClass", "()Ljava/lang/Class;"⟩, Cond.native ⟨"java/lang/Object", "getClass", "()Ljava/lang/Class;"⟩]
def wsJx4a65c_grow_92f84_r2 : List Cond := [Cond.methodLink RJ7 300 yJ7_copyOf_6403c, Cond.static yJ7_copyOf_6403c, Cond.code yJ7_copyOf_6403c cJ7_copyOf_6403c 4 (some (.array (.object "java/lang/Object"))), Cond.classLink RJ7 110 "[Ljava/lang/Object;", Cond.classLink RJ7 2 "java/lang/Object", Cond.methodLink RJ7 304 Lib.Math.min.name, Cond.static Lib.Math.min.name, Cond.code Lib.Math.min.name Lib.Math.min.code 2 (some .int), Cond.methodLink RJ7 150 arraycopyName, Cond.native arraycopyName, Cond.static arraycopyName, Cond.initialized "java/lang/System"]
def wsJx4a65c_grow_92f84 : List Cond := .code yJx4a65c_grow_92f84 cJx4a65c_grow_92f84 4 (some (.array (.object "java/lang/Object"))) :: ((wsJx4a65c_grow_92f84_r1 ++ wsJx4a65c_grow_92f84_r2) ++ wsJx4a65c0)
def wsJx4a65c_grow_d5877_r1 : List Cond := [Cond.fieldLink RJx4a65c 48 "java/util/ArrayList" "size" "I", Cond.methodLink RJx4a65c 69 yJx4a65c_grow_92f84, Cond.instanceMethod yJx4a65c_grow_92f84, Cond.selects RJx4a65c yJx4a65c_grow_92f84 yJx4a65c_grow_92f84, Cond.initialized RJx4a65c, Cond.code yJx4a65c_grow_92f84 cJx4a65c_grow_92f84 4 (some (.array (.object "java/lang/Object"))), Cond.fieldLink RJx4a65c 9 "java/util/ArrayList" "elementData" "[Ljava/lang/Object;", Cond.fieldLink RJx4a65c 39 "java/util/ArrayList" "DEFAULTCAPACITY_EMPTY_ELEMENTDATA" "[Ljava/lang/Object;", Cond.methodLink RJx4a65c 79 Lib.Math.max.name, Cond.static Lib.Math.max.name, Cond.initialized "java/lang/Math", Cond.code Lib.Math.max.name Lib.Math.max.code 2 (some .int), Cond.classLink RJx4a65c 7 "java/lang/Object", Cond.methodLink RJx4a65c 73 yJ8_newLength_cabcc, Cond.static yJ8_newLength_cabcc, Cond.initialized RJ8, Cond.code yJ8_newLength_cabcc cJ8_newLength_cabcc 4 (some .int), Cond.methodLink RJ8 194 Lib.Math.max.name, Cond.constant RJ8 200 (2147483639), Cond.methodLink RJ8 201 yJ8_hugeLength_7cf53, Cond.static yJ8_hugeLength_7cf53, Cond.code yJ8_hugeLength_7cf53 cJ8_hugeLength_7cf53 3 (some .int), Cond.methodLink RJx4a65c 66 yJ7_copyOf_1904c, Cond.static yJ7_copyOf_1904c]
def wsJx4a65c_grow_d5877_r2 : List Cond := [Cond.initialized RJ7, Cond.code yJ7_copyOf_1904c cJ7_copyOf_1904c 2 (some (.array (.object "java/lang/Object"))), Cond.methodLink RJ7 86 ⟨"java/lang/Object", "getClass", "()Ljava/lang/Class;"⟩, Cond.selects "[Ljava/lang/Object;" ⟨"java/lang/Object", "getClass", "()Ljava/lang/Class;"⟩ ⟨"java/lang/Object", "getClass", "()Ljava/lang/Class;"⟩, Cond.instanceMethod ⟨"java/lang/Object", "getClass", "()Ljava/lang/Class;"⟩, Cond.native ⟨"java/lang/Object", "getClass", "()Ljava/lang/Class;"⟩, Cond.methodLink RJ7 300 yJ7_copyOf_6403c, Cond.static yJ7_copyOf_6403c, Cond.code yJ7_copyOf_6403c cJ7_copyOf_6403c 4 (some (.array (.object "java/lang/Object"))), Cond.classLink RJ7 110 "[Ljava/lang/Object;", Cond.classLink RJ7 2 "java/lang/Object", Cond.methodLink RJ7 304 Lib.Math.min.name, Cond.static Lib.Math.min.name, Cond.code Lib.Math.min.name Lib.Math.min.code 2 (some .int), Cond.methodLink RJ7 150 arraycopyName, Cond.native arraycopyName, Cond.static arraycopyName, Cond.initialized "java/lang/System"]
def wsJx4a65c_grow_d5877 : List Cond := .code yJx4a65c_grow_d5877 cJx4a65c_grow_d5877 1 (some (.array (.object "java/lang/Object"))) :: ((wsJx4a65c_grow_d5877_r1 ++ wsJx4a65c_grow_d5877_r2) ++ wsJx4a65c0)
def wsJx4a65c_add_72be8_r1 : List Cond := [Cond.fieldLink RJx4a65c 48 "java/util/ArrayList" "size" "I", Cond.methodLink RJx4a65c 129 yJx4a65c_grow_d5877, Cond.instanceMethod yJx4a65c_grow_d5877, Cond.selects RJx4a65c yJx4a65c_grow_d5877 yJx4a65c_grow_d5877, Cond.initialized RJx4a65c, Cond.code yJx4a65c_grow_d5877 cJx4a65c_grow_d5877 1 (some (.array (.object "java/lang/Object"))), Cond.methodLink RJx4a65c 69 yJx4a65c_grow_92f84, Cond.instanceMethod yJx4a65c_grow_92f84, Cond.selects RJx4a65c yJx4a65c_grow_92f84 yJx4a65c_grow_92f84, Cond.code yJx4a65c_grow_92f84 cJx4a65c_grow_92f84 4 (some (.array (.object "java/lang/Object"))), Cond.fieldLink RJx4a65c 9 "java/util/ArrayList" "elementData" "[Ljava/lang/Object;", Cond.fieldLink RJx4a65c 39 "java/util/ArrayList" "DEFAULTCAPACITY_EMPTY_ELEMENTDATA" "[Ljava/lang/Object;", Cond.methodLink RJx4a65c 79 Lib.Math.max.name, Cond.static Lib.Math.max.name, Cond.initialized "java/lang/Math", Cond.code Lib.Math.max.name Lib.Math.max.code 2 (some .int), Cond.classLink RJx4a65c 7 "java/lang/Object", Cond.methodLink RJx4a65c 73 yJ8_newLength_cabcc, Cond.static yJ8_newLength_cabcc, Cond.initialized RJ8, Cond.code yJ8_newLength_cabcc cJ8_newLength_cabcc 4 (some .int), Cond.methodLink RJ8 194 Lib.Math.max.name, Cond.constant RJ8 200 (2147483639), Cond.methodLink RJ8 201 yJ8_hugeLength_7cf53]
def wsJx4a65c_add_72be8_r2 : List Cond := [Cond.static yJ8_hugeLength_7cf53, Cond.code yJ8_hugeLength_7cf53 cJ8_hugeLength_7cf53 3 (some .int), Cond.methodLink RJx4a65c 66 yJ7_copyOf_1904c, Cond.static yJ7_copyOf_1904c, Cond.initialized RJ7, Cond.code yJ7_copyOf_1904c cJ7_copyOf_1904c 2 (some (.array (.object "java/lang/Object"))), Cond.methodLink RJ7 86 ⟨"java/lang/Object", "getClass", "()Ljava/lang/Class;"⟩, Cond.selects "[Ljava/lang/Object;" ⟨"java/lang/Object", "getClass", "()Ljava/lang/Class;"⟩ ⟨"java/lang/Object", "getClass", "()Ljava/lang/Class;"⟩, Cond.instanceMethod ⟨"java/lang/Object", "getClass", "()Ljava/lang/Class;"⟩, Cond.native ⟨"java/lang/Object", "getClass", "()Ljava/lang/Class;"⟩, Cond.methodLink RJ7 300 yJ7_copyOf_6403c, Cond.static yJ7_copyOf_6403c, Cond.code yJ7_copyOf_6403c cJ7_copyOf_6403c 4 (some (.array (.object "java/lang/Object"))), Cond.classLink RJ7 110 "[Ljava/lang/Object;", Cond.classLink RJ7 2 "java/lang/Object", Cond.methodLink RJ7 304 Lib.Math.min.name, Cond.static Lib.Math.min.name, Cond.code Lib.Math.min.name Lib.Math.min.code 2 (some .int), Cond.methodLink RJ7 150 arraycopyName, Cond.native arraycopyName, Cond.static arraycopyName, Cond.initialized "java/lang/System"]
def wsJx4a65c_add_72be8 : List Cond := .code yJx4a65c_add_72be8 cJx4a65c_add_72be8 4 none :: ((wsJx4a65c_add_72be8_r1 ++ wsJx4a65c_add_72be8_r2) ++ wsJx4a65c0)
def wsJx4a65c_add_9ea2d_r1 : List Cond := [Cond.fieldLink RJx4a65c 63 "java/util/ArrayList" "modCount" "I", Cond.sameField "java/util/ArrayList" "java/util/AbstractList" "modCount" "I", Cond.fieldLink RJx4a65c 9 "java/util/ArrayList" "elementData" "[Ljava/lang/Object;", Cond.fieldLink RJx4a65c 48 "java/util/ArrayList" "size" "I", Cond.methodLink RJx4a65c 131 yJx4a65c_add_72be8, Cond.instanceMethod yJx4a65c_add_72be8, Cond.selects RJx4a65c yJx4a65c_add_72be8 yJx4a65c_add_72be8, Cond.initialized RJx4a65c, Cond.code yJx4a65c_add_72be8 cJx4a65c_add_72be8 4 none, Cond.methodLink RJx4a65c 129 yJx4a65c_grow_d5877, Cond.instanceMethod yJx4a65c_grow_d5877, Cond.selects RJx4a65c yJx4a65c_grow_d5877 yJx4a65c_grow_d5877, Cond.code yJx4a65c_grow_d5877 cJx4a65c_grow_d5877 1 (some (.array (.object "java/lang/Object"))), Cond.methodLink RJx4a65c 69 yJx4a65c_grow_92f84, Cond.instanceMethod yJx4a65c_grow_92f84, Cond.selects RJx4a65c yJx4a65c_grow_92f84 yJx4a65c_grow_92f84, Cond.code yJx4a65c_grow_92f84 cJx4a65c_grow_92f84 4 (some (.array (.object "java/lang/Object"))), Cond.fieldLink RJx4a65c 39 "java/util/ArrayList" "DEFAULTCAPACITY_EMPTY_ELEMENTDATA" "[Ljava/lang/Object;", Cond.methodLink RJx4a65c 79 Lib.Math.max.name, Cond.static Lib.Math.max.name, Cond.initialized "java/lang/Math", Cond.code Lib.Math.max.name Lib.Math.max.code 2 (some .int), Cond.classLink RJx4a65c 7 "java/lang/Object", Cond.methodLink RJx4a65c 73 yJ8_newLength_cabcc]
def wsJx4a65c_add_9ea2d_r2 : List Cond := [Cond.static yJ8_newLength_cabcc, Cond.initialized RJ8, Cond.code yJ8_newLength_cabcc cJ8_newLength_cabcc 4 (some .int), Cond.methodLink RJ8 194 Lib.Math.max.name, Cond.constant RJ8 200 (2147483639), Cond.methodLink RJ8 201 yJ8_hugeLength_7cf53, Cond.static yJ8_hugeLength_7cf53, Cond.code yJ8_hugeLength_7cf53 cJ8_hugeLength_7cf53 3 (some .int), Cond.methodLink RJx4a65c 66 yJ7_copyOf_1904c, Cond.static yJ7_copyOf_1904c, Cond.initialized RJ7, Cond.code yJ7_copyOf_1904c cJ7_copyOf_1904c 2 (some (.array (.object "java/lang/Object"))), Cond.methodLink RJ7 86 ⟨"java/lang/Object", "getClass", "()Ljava/lang/Class;"⟩, Cond.selects "[Ljava/lang/Object;" ⟨"java/lang/Object", "getClass", "()Ljava/lang/Class;"⟩ ⟨"java/lang/Object", "getClass", "()Ljava/lang/Class;"⟩, Cond.instanceMethod ⟨"java/lang/Object", "getClass", "()Ljava/lang/Class;"⟩, Cond.native ⟨"java/lang/Object", "getClass", "()Ljava/lang/Class;"⟩, Cond.methodLink RJ7 300 yJ7_copyOf_6403c, Cond.static yJ7_copyOf_6403c, Cond.code yJ7_copyOf_6403c cJ7_copyOf_6403c 4 (some (.array (.object "java/lang/Object"))), Cond.classLink RJ7 110 "[Ljava/lang/Object;", Cond.classLink RJ7 2 "java/lang/Object", Cond.methodLink RJ7 304 Lib.Math.min.name, Cond.static Lib.Math.min.name, Cond.code Lib.Math.min.name Lib.Math.min.code 2 (some .int)]
def wsJx4a65c_add_9ea2d_r3 : List Cond := [Cond.methodLink RJ7 150 arraycopyName, Cond.native arraycopyName, Cond.static arraycopyName, Cond.initialized "java/lang/System"]
def wsJx4a65c_add_9ea2d : List Cond := .code yJx4a65c_add_9ea2d cJx4a65c_add_9ea2d 2 (some .boolean) :: ((wsJx4a65c_add_9ea2d_r1 ++ (wsJx4a65c_add_9ea2d_r2 ++ wsJx4a65c_add_9ea2d_r3)) ++ wsJx4a65c0)
def wsX6_board_r1 : List Cond := [Cond.classLink RX6 64 "java/lang/IllegalArgumentException", Cond.initialized "java/lang/IllegalArgumentException", Cond.classLink RX6 102 "java/lang/IllegalStateException", Cond.initialized "java/lang/IllegalStateException", Cond.constantDouble RX6 58 (4652007308841189376), Cond.fieldLink RX6 38 "PlankUnroll" "boards" "Ljava/util/ArrayList;", Cond.classLink RX6 186 RX0, Cond.instantiable RX0 3, Cond.initialized RX0, Cond.methodLink RX6 60 yX6_within, Cond.static yX6_within, Cond.initialized RX6, Cond.code yX6_within cX6_within 6 (some .boolean), Cond.methodLink RX6 180 yJx4a65c_size_8abf5, Cond.instanceMethod yJx4a65c_size_8abf5, Cond.selects RJx4a65c yJx4a65c_size_8abf5 yJx4a65c_size_8abf5, Cond.initialized RJx4a65c, Cond.code yJx4a65c_size_8abf5 cJx4a65c_size_8abf5 1 (some .int), Cond.fieldLink RJx4a65c 48 "java/util/ArrayList" "size" "I", Cond.methodLink RX6 188 yX0_init, Cond.instanceMethod yX0_init, Cond.code yX0_init cX0_init 5 none, Cond.methodLink RX0 1 objectInit, Cond.instanceMethod objectInit]
def wsX6_board_r2 : List Cond := [Cond.code objectInit ⟨#[0xb1]⟩ 1 none, Cond.fieldLink RX0 7 "PlankUnroll$Board" "w" "D", Cond.fieldLink RX0 13 "PlankUnroll$Board" "h" "D", Cond.classLink RX0 16 RJx4a65c, Cond.instantiable RJx4a65c 3, Cond.fieldLink RX0 19 "PlankUnroll$Board" "faults" "Ljava/util/ArrayList;", Cond.methodLink RX0 18 yJx4a65c_init_da8c8, Cond.instanceMethod yJx4a65c_init_da8c8, Cond.code yJx4a65c_init_da8c8 cJx4a65c_init_da8c8 1 none, Cond.fieldLink RJx4a65c 39 "java/util/ArrayList" "DEFAULTCAPACITY_EMPTY_ELEMENTDATA" "[Ljava/lang/Object;", Cond.fieldLink RJx4a65c 9 "java/util/ArrayList" "elementData" "[Ljava/lang/Object;", Cond.methodLink RJx4a65c 1 yJxc12de_init_da8c8, Cond.instanceMethod yJxc12de_init_da8c8, Cond.initialized RJxc12de, Cond.code yJxc12de_init_da8c8 cJxc12de_init_da8c8 1 none, Cond.fieldLink RJxc12de 7 "java/util/AbstractList" "modCount" "I", Cond.methodLink RJxc12de 1 yJxa1e45_init_da8c8, Cond.instanceMethod yJxa1e45_init_da8c8, Cond.initialized RJxa1e45, Cond.code yJxa1e45_init_da8c8 cJxa1e45_init_da8c8 1 none, Cond.methodLink RJxa1e45 1 objectInit, Cond.methodLink RX6 191 yJx4a65c_add_9ea2d, Cond.instanceMethod yJx4a65c_add_9ea2d, Cond.selects RJx4a65c yJx4a65c_add_9ea2d yJx4a65c_add_9ea2d]
def wsX6_board_r3 : List Cond := [Cond.code yJx4a65c_add_9ea2d cJx4a65c_add_9ea2d 2 (some .boolean), Cond.fieldLink RJx4a65c 63 "java/util/ArrayList" "modCount" "I", Cond.sameField "java/util/ArrayList" "java/util/AbstractList" "modCount" "I", Cond.methodLink RJx4a65c 131 yJx4a65c_add_72be8, Cond.instanceMethod yJx4a65c_add_72be8, Cond.selects RJx4a65c yJx4a65c_add_72be8 yJx4a65c_add_72be8, Cond.code yJx4a65c_add_72be8 cJx4a65c_add_72be8 4 none, Cond.methodLink RJx4a65c 129 yJx4a65c_grow_d5877, Cond.instanceMethod yJx4a65c_grow_d5877, Cond.selects RJx4a65c yJx4a65c_grow_d5877 yJx4a65c_grow_d5877, Cond.code yJx4a65c_grow_d5877 cJx4a65c_grow_d5877 1 (some (.array (.object "java/lang/Object"))), Cond.methodLink RJx4a65c 69 yJx4a65c_grow_92f84, Cond.instanceMethod yJx4a65c_grow_92f84, Cond.selects RJx4a65c yJx4a65c_grow_92f84 yJx4a65c_grow_92f84, Cond.code yJx4a65c_grow_92f84 cJx4a65c_grow_92f84 4 (some (.array (.object "java/lang/Object"))), Cond.methodLink RJx4a65c 79 Lib.Math.max.name, Cond.static Lib.Math.max.name, Cond.initialized "java/lang/Math", Cond.code Lib.Math.max.name Lib.Math.max.code 2 (some .int), Cond.classLink RJx4a65c 7 "java/lang/Object", Cond.methodLink RJx4a65c 73 yJ8_newLength_cabcc, Cond.static yJ8_newLength_cabcc, Cond.initialized RJ8, Cond.code yJ8_newLength_cabcc cJ8_newLength_cabcc 4 (some .int)]
def wsX6_board_r4 : List Cond := [Cond.methodLink RJ8 194 Lib.Math.max.name, Cond.constant RJ8 200 (2147483639), Cond.methodLink RJ8 201 yJ8_hugeLength_7cf53, Cond.static yJ8_hugeLength_7cf53, Cond.code yJ8_hugeLength_7cf53 cJ8_hugeLength_7cf53 3 (some .int), Cond.methodLink RJx4a65c 66 yJ7_copyOf_1904c, Cond.static yJ7_copyOf_1904c, Cond.initialized RJ7, Cond.code yJ7_copyOf_1904c cJ7_copyOf_1904c 2 (some (.array (.object "java/lang/Object"))), Cond.methodLink RJ7 86 ⟨"java/lang/Object", "getClass", "()Ljava/lang/Class;"⟩, Cond.selects "[Ljava/lang/Object;" ⟨"java/lang/Object", "getClass", "()Ljava/lang/Class;"⟩ ⟨"java/lang/Object", "getClass", "()Ljava/lang/Class;"⟩, Cond.instanceMethod ⟨"java/lang/Object", "getClass", "()Ljava/lang/Class;"⟩, Cond.native ⟨"java/lang/Object", "getClass", "()Ljava/lang/Class;"⟩, Cond.methodLink RJ7 300 yJ7_copyOf_6403c, Cond.static yJ7_copyOf_6403c, Cond.code yJ7_copyOf_6403c cJ7_copyOf_6403c 4 (some (.array (.object "java/lang/Object"))), Cond.classLink RJ7 110 "[Ljava/lang/Object;", Cond.classLink RJ7 2 "java/lang/Object", Cond.methodLink RJ7 304 Lib.Math.min.name, Cond.static Lib.Math.min.name, Cond.code Lib.Math.min.name Lib.Math.min.code 2 (some .int), Cond.methodLink RJ7 150 arraycopyName, Cond.native arraycopyName, Cond.static arraycopyName]
def wsX6_board_r5 : List Cond := [Cond.initialized "java/lang/System"]
def wsX6_board : List Cond := .code yX6_board cX6_board 5 (some .int) :: ((wsX6_board_r1 ++ (wsX6_board_r2 ++ (wsX6_board_r3 ++ (wsX6_board_r4 ++ wsX6_board_r5)))) ++ wsX60 ++ wsX00 ++ wsJx4a65c0 ++ (vx_atS RX6 68 "java/lang/IllegalArgumentException" ["java/lang/RuntimeException", "java/lang/Exception"]).filter goodWord ++ (vx_atS RX6 106 "java/lang/IllegalStateException" ["java/lang/RuntimeException", "java/lang/Exception"]).filter goodWord)
def wsJ3_checkIndex_8e157 : List Cond := .code yJ3_checkIndex_8e157 cJ3_checkIndex_8e157 3 (some .int) :: ([])
def wsJ15_checkIndex_7cf53 : List Cond := .code yJ15_checkIndex_7cf53 cJ15_checkIndex_7cf53 2 (some .int) :: ([.methodLink RJ15 105 yJ3_checkIndex_8e157, .static yJ3_checkIndex_8e157, .initialized RJ3, .code yJ3_checkIndex_8e157 cJ3_checkIndex_8e157 3 (some .int)])
def wsJx4a65c_elementData_915e3 : List Cond := .code yJx4a65c_elementData_915e3 cJx4a65c_elementData_915e3 2 (some (.object "java/lang/Object")) :: ([.fieldLink RJx4a65c 9 "java/util/ArrayList" "elementData" "[Ljava/lang/Object;"] ++ wsJx4a65c0)
def wsJx4a65c_get_915e3 : List Cond := .code yJx4a65c_get_915e3 cJx4a65c_get_915e3 2 (some (.object "java/lang/Object")) :: ([.fieldLink RJx4a65c 48 "java/util/ArrayList" "size" "I", .methodLink RJx4a65c 118 yJ15_checkIndex_7cf53, .static yJ15_checkIndex_7cf53, .initialized RJ15, .code yJ15_checkIndex_7cf53 cJ15_checkIndex_7cf53 2 (some .int), .methodLink RJ15 105 yJ3_checkIndex_8e157, .static yJ3_checkIndex_8e157, .initialized RJ3, .code yJ3_checkIndex_8e157 cJ3_checkIndex_8e157 3 (some .int), .methodLink RJx4a65c 123 yJx4a65c_elementData_915e3, .instanceMethod yJx4a65c_elementData_915e3, .selects RJx4a65c yJx4a65c_elementData_915e3 yJx4a65c_elementData_915e3, .initialized RJx4a65c, .code yJx4a65c_elementData_915e3 cJx4a65c_elementData_915e3 2 (some (.object "java/lang/Object")), .fieldLink RJx4a65c 9 "java/util/ArrayList" "elementData" "[Ljava/lang/Object;"] ++ wsJx4a65c0)
def wsX6_boardAt_r1 : List Cond := [Cond.classLink RX6 107 "java/lang/IndexOutOfBoundsException", Cond.initialized "java/lang/IndexOutOfBoundsException", Cond.fieldLink RX6 38 "PlankUnroll" "boards" "Ljava/util/ArrayList;", Cond.classLink RX6 186 "PlankUnroll$Board", Cond.methodLink RX6 180 yJx4a65c_size_8abf5, Cond.instanceMethod yJx4a65c_size_8abf5, Cond.selects RJx4a65c yJx4a65c_size_8abf5 yJx4a65c_size_8abf5, Cond.initialized RJx4a65c, Cond.code yJx4a65c_size_8abf5 cJx4a65c_size_8abf5 1 (some .int), Cond.fieldLink RJx4a65c 48 "java/util/ArrayList" "size" "I", Cond.methodLink RX6 263 yJx4a65c_get_915e3, Cond.instanceMethod yJx4a65c_get_915e3, Cond.selects RJx4a65c yJx4a65c_get_915e3 yJx4a65c_get_915e3, Cond.code yJx4a65c_get_915e3 cJx4a65c_get_915e3 2 (some (.object "java/lang/Object")), Cond.methodLink RJx4a65c 118 yJ15_checkIndex_7cf53, Cond.static yJ15_checkIndex_7cf53, Cond.initialized RJ15, Cond.code yJ15_checkIndex_7cf53 cJ15_checkIndex_7cf53 2 (some .int), Cond.methodLink RJ15 105 yJ3_checkIndex_8e157, Cond.static yJ3_checkIndex_8e157, Cond.initialized RJ3, Cond.code yJ3_checkIndex_8e157 cJ3_checkIndex_8e157 3 (some .int), Cond.methodLink RJx4a65c 123 yJx4a65c_elementData_915e3, Cond.instanceMethod yJx4a65c_elementData_915e3]
def wsX6_boardAt_r2 : List Cond := [Cond.selects RJx4a65c yJx4a65c_elementData_915e3 yJx4a65c_elementData_915e3, Cond.code yJx4a65c_elementData_915e3 cJx4a65c_elementData_915e3 2 (some (.object "java/lang/Object")), Cond.fieldLink RJx4a65c 9 "java/util/ArrayList" "elementData" "[Ljava/lang/Object;"]
def wsX6_boardAt : List Cond := .code yX6_boardAt cX6_boardAt 2 (some (.object "PlankUnroll$Board")) :: ((wsX6_boardAt_r1 ++ wsX6_boardAt_r2) ++ wsX60 ++ wsJx4a65c0 ++ (vx_atS RX6 111 "java/lang/IndexOutOfBoundsException" ["java/lang/RuntimeException", "java/lang/Exception"]).filter goodWord)
def wsX6_fault_r1 : List Cond := [Cond.classLink RX6 64 "java/lang/IllegalArgumentException", Cond.initialized "java/lang/IllegalArgumentException", Cond.constantDouble RX6 58 (4652007308841189376), Cond.constantDouble RX6 201 (4593671619917905920), Cond.fieldLink RX6 205 "PlankUnroll$Board" "faults" "Ljava/util/ArrayList;", Cond.classLink RX6 208 RX1, Cond.instantiable RX1 4, Cond.initialized RX1, Cond.methodLink RX6 195 yX6_boardAt, Cond.instanceMethod yX6_boardAt, Cond.selects RX6 yX6_boardAt yX6_boardAt, Cond.initialized RX6, Cond.code yX6_boardAt cX6_boardAt 2 (some (.object "PlankUnroll$Board")), Cond.classLink RX6 107 "java/lang/IndexOutOfBoundsException", Cond.initialized "java/lang/IndexOutOfBoundsException", Cond.fieldLink RX6 38 "PlankUnroll" "boards" "Ljava/util/ArrayList;", Cond.classLink RX6 186 "PlankUnroll$Board", Cond.methodLink RX6 180 yJx4a65c_size_8abf5, Cond.instanceMethod yJx4a65c_size_8abf5, Cond.selects RJx4a65c yJx4a65c_size_8abf5 yJx4a65c_size_8abf5, Cond.initialized RJx4a65c, Cond.code yJx4a65c_size_8abf5 cJx4a65c_size_8abf5 1 (some .int), Cond.fieldLink RJx4a65c 48 "java/util/ArrayList" "size" "I", Cond.methodLink RX6 263 yJx4a65c_get_915e3]
def wsX6_fault_r2 : List Cond := [Cond.instanceMethod yJx4a65c_get_915e3, Cond.selects RJx4a65c yJx4a65c_get_915e3 yJx4a65c_get_915e3, Cond.code yJx4a65c_get_915e3 cJx4a65c_get_915e3 2 (some (.object "java/lang/Object")), Cond.methodLink RJx4a65c 118 yJ15_checkIndex_7cf53, Cond.static yJ15_checkIndex_7cf53, Cond.initialized RJ15, Cond.code yJ15_checkIndex_7cf53 cJ15_checkIndex_7cf53 2 (some .int), Cond.methodLink RJ15 105 yJ3_checkIndex_8e157, Cond.static yJ3_checkIndex_8e157, Cond.initialized RJ3, Cond.code yJ3_checkIndex_8e157 cJ3_checkIndex_8e157 3 (some .int), Cond.methodLink RJx4a65c 123 yJx4a65c_elementData_915e3, Cond.instanceMethod yJx4a65c_elementData_915e3, Cond.selects RJx4a65c yJx4a65c_elementData_915e3 yJx4a65c_elementData_915e3, Cond.code yJx4a65c_elementData_915e3 cJx4a65c_elementData_915e3 2 (some (.object "java/lang/Object")), Cond.fieldLink RJx4a65c 9 "java/util/ArrayList" "elementData" "[Ljava/lang/Object;", Cond.methodLink RX6 60 yX6_within, Cond.static yX6_within, Cond.code yX6_within cX6_within 6 (some .boolean), Cond.methodLink RX6 210 yX1_init, Cond.instanceMethod yX1_init, Cond.code yX1_init cX1_init 9 none, Cond.methodLink RX1 1 objectInit, Cond.instanceMethod objectInit]
def wsX6_fault_r3 : List Cond := [Cond.code objectInit ⟨#[0xb1]⟩ 1 none, Cond.fieldLink RX1 7 "PlankUnroll$Box" "x" "D", Cond.fieldLink RX1 13 "PlankUnroll$Box" "y" "D", Cond.fieldLink RX1 16 "PlankUnroll$Box" "w" "D", Cond.fieldLink RX1 19 "PlankUnroll$Box" "h" "D", Cond.methodLink RX6 191 yJx4a65c_add_9ea2d, Cond.instanceMethod yJx4a65c_add_9ea2d, Cond.selects RJx4a65c yJx4a65c_add_9ea2d yJx4a65c_add_9ea2d, Cond.code yJx4a65c_add_9ea2d cJx4a65c_add_9ea2d 2 (some .boolean), Cond.fieldLink RJx4a65c 63 "java/util/ArrayList" "modCount" "I", Cond.sameField "java/util/ArrayList" "java/util/AbstractList" "modCount" "I", Cond.methodLink RJx4a65c 131 yJx4a65c_add_72be8, Cond.instanceMethod yJx4a65c_add_72be8, Cond.selects RJx4a65c yJx4a65c_add_72be8 yJx4a65c_add_72be8, Cond.code yJx4a65c_add_72be8 cJx4a65c_add_72be8 4 none, Cond.methodLink RJx4a65c 129 yJx4a65c_grow_d5877, Cond.instanceMethod yJx4a65c_grow_d5877, Cond.selects RJx4a65c yJx4a65c_grow_d5877 yJx4a65c_grow_d5877, Cond.code yJx4a65c_grow_d5877 cJx4a65c_grow_d5877 1 (some (.array (.object "java/lang/Object"))), Cond.methodLink RJx4a65c 69 yJx4a65c_grow_92f84, Cond.instanceMethod yJx4a65c_grow_92f84, Cond.selects RJx4a65c yJx4a65c_grow_92f84 yJx4a65c_grow_92f84, Cond.code yJx4a65c_grow_92f84 cJx4a65c_grow_92f84 4 (some (.array (.object "java/lang/Object"))), Cond.fieldLink RJx4a65c 39 "java/util/ArrayList" "DEFAULTCAPACITY_EMPTY_ELEMENTDATA" "[Ljava/lang/Object;"]
def wsX6_fault_r4 : List Cond := [Cond.methodLink RJx4a65c 79 Lib.Math.max.name, Cond.static Lib.Math.max.name, Cond.initialized "java/lang/Math", Cond.code Lib.Math.max.name Lib.Math.max.code 2 (some .int), Cond.classLink RJx4a65c 7 "java/lang/Object", Cond.methodLink RJx4a65c 73 yJ8_newLength_cabcc, Cond.static yJ8_newLength_cabcc, Cond.initialized RJ8, Cond.code yJ8_newLength_cabcc cJ8_newLength_cabcc 4 (some .int), Cond.methodLink RJ8 194 Lib.Math.max.name, Cond.constant RJ8 200 (2147483639), Cond.methodLink RJ8 201 yJ8_hugeLength_7cf53, Cond.static yJ8_hugeLength_7cf53, Cond.code yJ8_hugeLength_7cf53 cJ8_hugeLength_7cf53 3 (some .int), Cond.methodLink RJx4a65c 66 yJ7_copyOf_1904c, Cond.static yJ7_copyOf_1904c, Cond.initialized RJ7, Cond.code yJ7_copyOf_1904c cJ7_copyOf_1904c 2 (some (.array (.object "java/lang/Object"))), Cond.methodLink RJ7 86 ⟨"java/lang/Object", "getClass", "()Ljava/lang/Class;"⟩, Cond.selects "[Ljava/lang/Object;" ⟨"java/lang/Object", "getClass", "()Ljava/lang/Class;"⟩ ⟨"java/lang/Object", "getClass", "()Ljava/lang/Class;"⟩, Cond.instanceMethod ⟨"java/lang/Object", "getClass", "()Ljava/lang/Class;"⟩, Cond.native ⟨"java/lang/Object", "getClass", "()Ljava/lang/Class;"⟩, Cond.methodLink RJ7 300 yJ7_copyOf_6403c, Cond.static yJ7_copyOf_6403c]
def wsX6_fault_r5 : List Cond := [Cond.code yJ7_copyOf_6403c cJ7_copyOf_6403c 4 (some (.array (.object "java/lang/Object"))), Cond.classLink RJ7 110 "[Ljava/lang/Object;", Cond.classLink RJ7 2 "java/lang/Object", Cond.methodLink RJ7 304 Lib.Math.min.name, Cond.static Lib.Math.min.name, Cond.code Lib.Math.min.name Lib.Math.min.code 2 (some .int), Cond.methodLink RJ7 150 arraycopyName, Cond.native arraycopyName, Cond.static arraycopyName, Cond.initialized "java/lang/System"]
def wsX6_fault : List Cond := .code yX6_fault cX6_fault 11 (some .boolean) :: ((wsX6_fault_r1 ++ (wsX6_fault_r2 ++ (wsX6_fault_r3 ++ (wsX6_fault_r4 ++ wsX6_fault_r5)))) ++ wsX00 ++ wsX10 ++ wsX60 ++ wsJx4a65c0 ++ (vx_atS RX6 68 "java/lang/IllegalArgumentException" ["java/lang/RuntimeException", "java/lang/Exception"]).filter goodWord ++ (vx_atS RX6 111 "java/lang/IndexOutOfBoundsException" ["java/lang/RuntimeException", "java/lang/Exception"]).filter goodWord)
def wsX6_overlapped_r1 : List Cond := [Cond.fieldLink RX6 205 "PlankUnroll$Board" "faults" "Ljava/util/ArrayList;", Cond.classLink RX6 208 "PlankUnroll$Box", Cond.fieldLink RX6 28 "PlankUnroll" "strips" "[LPlankUnroll$Strip;", Cond.fieldLink RX6 213 "PlankUnroll$Strip" "board" "I", Cond.fieldLink RX6 218 "PlankUnroll$Strip" "box" "LPlankUnroll$Box;", Cond.methodLink RX6 180 yJx4a65c_size_8abf5, Cond.instanceMethod yJx4a65c_size_8abf5, Cond.selects RJx4a65c yJx4a65c_size_8abf5 yJx4a65c_size_8abf5, Cond.initialized RJx4a65c, Cond.code yJx4a65c_size_8abf5 cJx4a65c_size_8abf5 1 (some .int), Cond.fieldLink RJx4a65c 48 "java/util/ArrayList" "size" "I", Cond.methodLink RX6 263 yJx4a65c_get_915e3, Cond.instanceMethod yJx4a65c_get_915e3, Cond.selects RJx4a65c yJx4a65c_get_915e3 yJx4a65c_get_915e3, Cond.code yJx4a65c_get_915e3 cJx4a65c_get_915e3 2 (some (.object "java/lang/Object")), Cond.methodLink RJx4a65c 118 yJ15_checkIndex_7cf53, Cond.static yJ15_checkIndex_7cf53, Cond.initialized RJ15, Cond.code yJ15_checkIndex_7cf53 cJ15_checkIndex_7cf53 2 (some .int), Cond.methodLink RJ15 105 yJ3_checkIndex_8e157, Cond.static yJ3_checkIndex_8e157, Cond.initialized RJ3, Cond.code yJ3_checkIndex_8e157 cJ3_checkIndex_8e157 3 (some .int), Cond.methodLink RJx4a65c 123 yJx4a65c_elementData_915e3]
def wsX6_overlapped_r2 : List Cond := [Cond.instanceMethod yJx4a65c_elementData_915e3, Cond.selects RJx4a65c yJx4a65c_elementData_915e3 yJx4a65c_elementData_915e3, Cond.code yJx4a65c_elementData_915e3 cJx4a65c_elementData_915e3 2 (some (.object "java/lang/Object")), Cond.fieldLink RJx4a65c 9 "java/util/ArrayList" "elementData" "[Ljava/lang/Object;", Cond.methodLink RX6 293 yX1_overlaps, Cond.instanceMethod yX1_overlaps, Cond.selects RX1 yX1_overlaps yX1_overlaps, Cond.initialized RX1, Cond.code yX1_overlaps cX1_overlaps 2 (some .boolean), Cond.fieldLink RX1 7 "PlankUnroll$Box" "x" "D", Cond.fieldLink RX1 16 "PlankUnroll$Box" "w" "D", Cond.fieldLink RX1 13 "PlankUnroll$Box" "y" "D", Cond.fieldLink RX1 19 "PlankUnroll$Box" "h" "D"]
def wsX6_overlapped : List Cond := .code yX6_overlapped cX6_overlapped 8 (some (.object "PlankUnroll$Box")) :: ((wsX6_overlapped_r1 ++ wsX6_overlapped_r2) ++ wsX00 ++ wsX60 ++ wsX50 ++ wsJx4a65c0 ++ wsX10)
def wsX6_lastEighthsBefore : List Cond := .code yX6_lastEighthsBefore cX6_lastEighthsBefore 3 (some .int) :: ([.constantDouble RX6 278 (4620693217682128896)])
def wsX6_leastEighths_r1 : List Cond := [Cond.fieldLink RX6 273 "PlankUnroll$Box" "y" "D", Cond.fieldLink RX6 274 "PlankUnroll$Box" "h" "D", Cond.fieldLink RX6 277 "PlankUnroll$Board" "h" "D", Cond.constantDouble RX6 278 (4620693217682128896), Cond.fieldLink RX6 280 "PlankUnroll$Box" "x" "D", Cond.fieldLink RX6 281 "PlankUnroll$Box" "w" "D", Cond.fieldLink RX6 284 "PlankUnroll$Board" "w" "D", Cond.methodLink RX6 237 Lib.Math.max.name, Cond.static Lib.Math.max.name, Cond.initialized "java/lang/Math", Cond.code Lib.Math.max.name Lib.Math.max.code 2 (some .int), Cond.methodLink RX6 285 yX6_overlapped, Cond.instanceMethod yX6_overlapped, Cond.selects RX6 yX6_overlapped yX6_overlapped, Cond.initialized RX6, Cond.code yX6_overlapped cX6_overlapped 8 (some (.object "PlankUnroll$Box")), Cond.fieldLink RX6 205 "PlankUnroll$Board" "faults" "Ljava/util/ArrayList;", Cond.classLink RX6 208 "PlankUnroll$Box", Cond.fieldLink RX6 28 "PlankUnroll" "strips" "[LPlankUnroll$Strip;", Cond.fieldLink RX6 213 "PlankUnroll$Strip" "board" "I", Cond.fieldLink RX6 218 "PlankUnroll$Strip" "box" "LPlankUnroll$Box;", Cond.methodLink RX6 180 yJx4a65c_size_8abf5, Cond.instanceMethod yJx4a65c_size_8abf5, Cond.selects RJx4a65c yJx4a65c_size_8abf5 yJx4a65c_size_8abf5]
def wsX6_leastEighths_r2 : List Cond := [Cond.initialized RJx4a65c, Cond.code yJx4a65c_size_8abf5 cJx4a65c_size_8abf5 1 (some .int), Cond.fieldLink RJx4a65c 48 "java/util/ArrayList" "size" "I", Cond.methodLink RX6 263 yJx4a65c_get_915e3, Cond.instanceMethod yJx4a65c_get_915e3, Cond.selects RJx4a65c yJx4a65c_get_915e3 yJx4a65c_get_915e3, Cond.code yJx4a65c_get_915e3 cJx4a65c_get_915e3 2 (some (.object "java/lang/Object")), Cond.methodLink RJx4a65c 118 yJ15_checkIndex_7cf53, Cond.static yJ15_checkIndex_7cf53, Cond.initialized RJ15, Cond.code yJ15_checkIndex_7cf53 cJ15_checkIndex_7cf53 2 (some .int), Cond.methodLink RJ15 105 yJ3_checkIndex_8e157, Cond.static yJ3_checkIndex_8e157, Cond.initialized RJ3, Cond.code yJ3_checkIndex_8e157 cJ3_checkIndex_8e157 3 (some .int), Cond.methodLink RJx4a65c 123 yJx4a65c_elementData_915e3, Cond.instanceMethod yJx4a65c_elementData_915e3, Cond.selects RJx4a65c yJx4a65c_elementData_915e3 yJx4a65c_elementData_915e3, Cond.code yJx4a65c_elementData_915e3 cJx4a65c_elementData_915e3 2 (some (.object "java/lang/Object")), Cond.fieldLink RJx4a65c 9 "java/util/ArrayList" "elementData" "[Ljava/lang/Object;", Cond.methodLink RX6 293 yX1_overlaps, Cond.instanceMethod yX1_overlaps, Cond.selects RX1 yX1_overlaps yX1_overlaps, Cond.initialized RX1]
def wsX6_leastEighths_r3 : List Cond := [Cond.code yX1_overlaps cX1_overlaps 2 (some .boolean), Cond.fieldLink RX1 7 "PlankUnroll$Box" "x" "D", Cond.fieldLink RX1 16 "PlankUnroll$Box" "w" "D", Cond.fieldLink RX1 13 "PlankUnroll$Box" "y" "D", Cond.fieldLink RX1 19 "PlankUnroll$Box" "h" "D", Cond.methodLink RX6 289 yX6_lastEighthsBefore, Cond.static yX6_lastEighthsBefore, Cond.code yX6_lastEighthsBefore cX6_lastEighthsBefore 3 (some .int)]
def wsX6_leastEighths : List Cond := .code yX6_leastEighths cX6_leastEighths 6 (some .int) :: ((wsX6_leastEighths_r1 ++ (wsX6_leastEighths_r2 ++ wsX6_leastEighths_r3)) ++ wsX10 ++ wsX00 ++ wsX60 ++ wsX50 ++ wsJx4a65c0)
def wsX6_nest_r1 : List Cond := [Cond.classLink RX6 102 "java/lang/IllegalStateException", Cond.initialized "java/lang/IllegalStateException", Cond.fieldLink RX6 213 "PlankUnroll$Strip" "board" "I", Cond.fieldLink RX6 218 "PlankUnroll$Strip" "box" "LPlankUnroll$Box;", Cond.fieldLink RX6 226 "PlankUnroll$Strip" "eighths" "I", Cond.methodLink RX6 195 yX6_boardAt, Cond.instanceMethod yX6_boardAt, Cond.selects RX6 yX6_boardAt yX6_boardAt, Cond.initialized RX6, Cond.code yX6_boardAt cX6_boardAt 2 (some (.object "PlankUnroll$Board")), Cond.classLink RX6 107 "java/lang/IndexOutOfBoundsException", Cond.initialized "java/lang/IndexOutOfBoundsException", Cond.fieldLink RX6 38 "PlankUnroll" "boards" "Ljava/util/ArrayList;", Cond.classLink RX6 186 "PlankUnroll$Board", Cond.methodLink RX6 180 yJx4a65c_size_8abf5, Cond.instanceMethod yJx4a65c_size_8abf5, Cond.selects RJx4a65c yJx4a65c_size_8abf5 yJx4a65c_size_8abf5, Cond.initialized RJx4a65c, Cond.code yJx4a65c_size_8abf5 cJx4a65c_size_8abf5 1 (some .int), Cond.fieldLink RJx4a65c 48 "java/util/ArrayList" "size" "I", Cond.methodLink RX6 263 yJx4a65c_get_915e3, Cond.instanceMethod yJx4a65c_get_915e3, Cond.selects RJx4a65c yJx4a65c_get_915e3 yJx4a65c_get_915e3, Cond.code yJx4a65c_get_915e3 cJx4a65c_get_915e3 2 (some (.object "java/lang/Object"))]
def wsX6_nest_r2 : List Cond := [Cond.methodLink RJx4a65c 118 yJ15_checkIndex_7cf53, Cond.static yJ15_checkIndex_7cf53, Cond.initialized RJ15, Cond.code yJ15_checkIndex_7cf53 cJ15_checkIndex_7cf53 2 (some .int), Cond.methodLink RJ15 105 yJ3_checkIndex_8e157, Cond.static yJ3_checkIndex_8e157, Cond.initialized RJ3, Cond.code yJ3_checkIndex_8e157 cJ3_checkIndex_8e157 3 (some .int), Cond.methodLink RJx4a65c 123 yJx4a65c_elementData_915e3, Cond.instanceMethod yJx4a65c_elementData_915e3, Cond.selects RJx4a65c yJx4a65c_elementData_915e3 yJx4a65c_elementData_915e3, Cond.code yJx4a65c_elementData_915e3 cJx4a65c_elementData_915e3 2 (some (.object "java/lang/Object")), Cond.fieldLink RJx4a65c 9 "java/util/ArrayList" "elementData" "[Ljava/lang/Object;", Cond.methodLink RX6 90 yX6_stripAt, Cond.instanceMethod yX6_stripAt, Cond.selects RX6 yX6_stripAt yX6_stripAt, Cond.code yX6_stripAt cX6_stripAt 2 (some (.object "PlankUnroll$Strip")), Cond.fieldLink RX6 28 "PlankUnroll" "strips" "[LPlankUnroll$Strip;", Cond.methodLink RX6 114 yX6_needUnrolled, Cond.static yX6_needUnrolled, Cond.code yX6_needUnrolled cX6_needUnrolled 1 none, Cond.fieldLink RX6 94 "PlankUnroll$Strip" "unrolled" "Z", Cond.methodLink RX6 222 yX6_leastEighths, Cond.instanceMethod yX6_leastEighths]
def wsX6_nest_r3 : List Cond := [Cond.selects RX6 yX6_leastEighths yX6_leastEighths, Cond.code yX6_leastEighths cX6_leastEighths 6 (some .int), Cond.fieldLink RX6 273 "PlankUnroll$Box" "y" "D", Cond.fieldLink RX6 274 "PlankUnroll$Box" "h" "D", Cond.fieldLink RX6 277 "PlankUnroll$Board" "h" "D", Cond.constantDouble RX6 278 (4620693217682128896), Cond.fieldLink RX6 280 "PlankUnroll$Box" "x" "D", Cond.fieldLink RX6 281 "PlankUnroll$Box" "w" "D", Cond.fieldLink RX6 284 "PlankUnroll$Board" "w" "D", Cond.methodLink RX6 237 Lib.Math.max.name, Cond.static Lib.Math.max.name, Cond.initialized "java/lang/Math", Cond.code Lib.Math.max.name Lib.Math.max.code 2 (some .int), Cond.methodLink RX6 285 yX6_overlapped, Cond.instanceMethod yX6_overlapped, Cond.selects RX6 yX6_overlapped yX6_overlapped, Cond.code yX6_overlapped cX6_overlapped 8 (some (.object "PlankUnroll$Box")), Cond.fieldLink RX6 205 "PlankUnroll$Board" "faults" "Ljava/util/ArrayList;", Cond.classLink RX6 208 "PlankUnroll$Box", Cond.methodLink RX6 293 yX1_overlaps, Cond.instanceMethod yX1_overlaps, Cond.selects RX1 yX1_overlaps yX1_overlaps, Cond.initialized RX1, Cond.code yX1_overlaps cX1_overlaps 2 (some .boolean)]
def wsX6_nest_r4 : List Cond := [Cond.fieldLink RX1 7 "PlankUnroll$Box" "x" "D", Cond.fieldLink RX1 16 "PlankUnroll$Box" "w" "D", Cond.fieldLink RX1 13 "PlankUnroll$Box" "y" "D", Cond.fieldLink RX1 19 "PlankUnroll$Box" "h" "D", Cond.methodLink RX6 289 yX6_lastEighthsBefore, Cond.static yX6_lastEighthsBefore, Cond.code yX6_lastEighthsBefore cX6_lastEighthsBefore 3 (some .int)]
def wsX6_nest : List Cond := .code yX6_nest cX6_nest 6 (some .int) :: ((wsX6_nest_r1 ++ (wsX6_nest_r2 ++ (wsX6_nest_r3 ++ wsX6_nest_r4))) ++ wsX50 ++ wsX60 ++ wsJx4a65c0 ++ wsX10 ++ wsX00 ++ (vx_atS RX6 106 "java/lang/IllegalStateException" ["java/lang/RuntimeException", "java/lang/Exception"]).filter goodWord ++ (vx_atS RX6 111 "java/lang/IndexOutOfBoundsException" ["java/lang/RuntimeException", "java/lang/Exception"]).filter goodWord)
def wsX6_lies : List Cond := .code yX6_lies cX6_lies 4 (some .int) :: ([.classLink RX6 107 "java/lang/IndexOutOfBoundsException", .initialized "java/lang/IndexOutOfBoundsException", .fieldLink RX6 213 "PlankUnroll$Strip" "board" "I", .fieldLink RX6 226 "PlankUnroll$Strip" "eighths" "I", .methodLink RX6 90 yX6_stripAt, .instanceMethod yX6_stripAt, .selects RX6 yX6_stripAt yX6_stripAt, .initialized RX6, .code yX6_stripAt cX6_stripAt 2 (some (.object "PlankUnroll$Strip")), .fieldLink RX6 28 "PlankUnroll" "strips" "[LPlankUnroll$Strip;"] ++ wsX50 ++ wsX60 ++ (vx_atS RX6 111 "java/lang/IndexOutOfBoundsException" ["java/lang/RuntimeException", "java/lang/Exception"]).filter goodWord)
def wsX6_checkStaves : List Cond := .code yX6_checkStaves cX6_checkStaves 4 none :: ([.classLink RX6 64 "java/lang/IllegalArgumentException", .initialized "java/lang/IllegalArgumentException", .constantDouble RX6 201 (4593671619917905920), .constantDouble RX6 58 (4652007308841189376), .methodLink RX6 60 yX6_within, .static yX6_within, .initialized RX6, .code yX6_within cX6_within 6 (some .boolean)] ++ (vx_atS RX6 68 "java/lang/IllegalArgumentException" ["java/lang/RuntimeException", "java/lang/Exception"]).filter goodWord)
def wsX6_circleOf : List Cond := .code yX6_circleOf cX6_circleOf 2 (some .double) :: ([.constantDouble RX6 251 (4614256656552045848)])
def wsX6_staves : List Cond := .code yX6_staves cX6_staves 9 (some .int) :: ([.methodLink RX6 237 Lib.Math.max.name, .static Lib.Math.max.name, .initialized "java/lang/Math", .code Lib.Math.max.name Lib.Math.max.code 2 (some .int), .constant RX6 243 (100000), .methodLink RX6 231 yX6_checkStaves, .static yX6_checkStaves, .initialized RX6, .code yX6_checkStaves cX6_checkStaves 4 none, .classLink RX6 64 "java/lang/IllegalArgumentException", .initialized "java/lang/IllegalArgumentException", .constantDouble RX6 201 (4593671619917905920), .constantDouble RX6 58 (4652007308841189376), .methodLink RX6 60 yX6_within, .static yX6_within, .code yX6_within cX6_within 6 (some .boolean), .methodLink RX6 234 yX6_circleOf, .static yX6_circleOf, .code yX6_circleOf cX6_circleOf 2 (some .double), .constantDouble RX6 251 (4614256656552045848)] ++ (vx_atS RX6 68 "java/lang/IllegalArgumentException" ["java/lang/RuntimeException", "java/lang/Exception"]).filter goodWord)
def wsX6_closes : List Cond := .code yX6_closes cX6_closes 6 (some .double) :: ([.classLink RX6 64 "java/lang/IllegalArgumentException", .initialized "java/lang/IllegalArgumentException", .constant RX6 243 (100000), .methodLink RX6 231 yX6_checkStaves, .static yX6_checkStaves, .initialized RX6, .code yX6_checkStaves cX6_checkStaves 4 none, .constantDouble RX6 201 (4593671619917905920), .constantDouble RX6 58 (4652007308841189376), .methodLink RX6 60 yX6_within, .static yX6_within, .code yX6_within cX6_within 6 (some .boolean), .methodLink RX6 234 yX6_circleOf, .static yX6_circleOf, .code yX6_circleOf cX6_circleOf 2 (some .double), .constantDouble RX6 251 (4614256656552045848)] ++ (vx_atS RX6 68 "java/lang/IllegalArgumentException" ["java/lang/RuntimeException", "java/lang/Exception"]).filter goodWord)
def wsX7_init : List Cond := .code yX7_init cX7_init 3 none :: ([.methodLink RX7 1 objectInit, .instanceMethod objectInit, .code objectInit ⟨#[0xb1]⟩ 1 none, .arrayClass .double, .fieldLink RX7 7 "PlankUnrollModel" "places" "[D", .arrayClass .boolean, .fieldLink RX7 13 "PlankUnrollModel" "unrolled" "[Z", .fieldLink RX7 17 "PlankUnrollModel" "corners" "[D", .fieldLink RX7 20 "PlankUnrollModel" "draft" "[D", .fieldLink RX7 23 "PlankUnrollModel" "butts" "[Z", .fieldLink RX7 26 "PlankUnrollModel" "wides" "[D", .fieldLink RX7 29 "PlankUnrollModel" "highs" "[D", .arrayClass .int, .fieldLink RX7 32 "PlankUnrollModel" "faultCount" "[I", .fieldLink RX7 36 "PlankUnrollModel" "faults" "[D", .fieldLink RX7 39 "PlankUnrollModel" "liesOn" "[I", .fieldLink RX7 42 "PlankUnrollModel" "liesAt" "[I", .fieldLink RX7 45 "PlankUnrollModel" "frames" "I", .fieldLink RX7 49 "PlankUnrollModel" "rows" "I"] ++ wsX70)
def wsX7_thrown : List Cond := .code yX7_thrown cX7_thrown 1 (some .int) :: ([.fieldLink RX7 52 "PlankUnrollModel" "thrown" "I"] ++ wsX70)
def wsX7_between : List Cond := .code yX7_between cX7_between 6 (some .boolean) :: ([])
def wsX7_noPlace : List Cond := .code yX7_noPlace cX7_noPlace 3 (some .boolean) :: ([.fieldLink RX7 45 "PlankUnrollModel" "frames" "I", .fieldLink RX7 49 "PlankUnrollModel" "rows" "I"] ++ wsX70)
def wsX7_noStrip : List Cond := .code yX7_noStrip cX7_noStrip 2 (some .boolean) :: ([.fieldLink RX7 49 "PlankUnrollModel" "rows" "I"] ++ wsX70)
def wsX7_root : List Cond := .code yX7_root cX7_root 5 (some .double) :: ([.constantDouble RX7 55 (4611686018427387904)])
def wsX7_at : List Cond := .code yX7_at cX7_at 4 (some .double) :: ([.fieldLink RX7 7 "PlankUnrollModel" "places" "[D"] ++ wsX70)
def wsX7_point : List Cond := .code yX7_point cX7_point 13 (some .boolean) :: ([.constantDouble RX7 57 (13875379345695965184), .constantDouble RX7 59 (4652007308841189376), .fieldLink RX7 52 "PlankUnrollModel" "thrown" "I", .fieldLink RX7 7 "PlankUnrollModel" "places" "[D", .fieldLink RX7 13 "PlankUnrollModel" "unrolled" "[Z", .fieldLink RX7 39 "PlankUnrollModel" "liesOn" "[I", .fieldLink RX7 42 "PlankUnrollModel" "liesAt" "[I", .methodLink RX7 61 yX7_between, .static yX7_between, .initialized RX7, .code yX7_between cX7_between 6 (some .boolean), .methodLink RX7 65 yX7_noPlace, .instanceMethod yX7_noPlace, .selects RX7 yX7_noPlace yX7_noPlace, .code yX7_noPlace cX7_noPlace 3 (some .boolean), .fieldLink RX7 45 "PlankUnrollModel" "frames" "I", .fieldLink RX7 49 "PlankUnrollModel" "rows" "I", .methodLink RX7 69 yX7_at, .instanceMethod yX7_at, .selects RX7 yX7_at yX7_at, .code yX7_at cX7_at 4 (some .double)] ++ wsX70)
def wsX7_far : List Cond := .code yX7_far cX7_far 11 (some .double) :: ([.methodLink RX7 69 yX7_at, .instanceMethod yX7_at, .selects RX7 yX7_at yX7_at, .initialized RX7, .code yX7_at cX7_at 4 (some .double), .fieldLink RX7 7 "PlankUnrollModel" "places" "[D", .methodLink RX7 73 yX7_root, .static yX7_root, .code yX7_root cX7_root 5 (some .double), .constantDouble RX7 55 (4611686018427387904)] ++ wsX70)
def wsX7_distance : List Cond := .code yX7_distance cX7_distance 5 (some .double) :: ([.fieldLink RX7 52 "PlankUnrollModel" "thrown" "I", .methodLink RX7 65 yX7_noPlace, .instanceMethod yX7_noPlace, .selects RX7 yX7_noPlace yX7_noPlace, .initialized RX7, .code yX7_noPlace cX7_noPlace 3 (some .boolean), .fieldLink RX7 45 "PlankUnrollModel" "frames" "I", .fieldLink RX7 49 "PlankUnrollModel" "rows" "I", .methodLink RX7 77 yX7_far, .instanceMethod yX7_far, .selects RX7 yX7_far yX7_far, .code yX7_far cX7_far 11 (some .double), .methodLink RX7 69 yX7_at, .instanceMethod yX7_at, .selects RX7 yX7_at yX7_at, .code yX7_at cX7_at 4 (some .double), .fieldLink RX7 7 "PlankUnrollModel" "places" "[D", .methodLink RX7 73 yX7_root, .static yX7_root, .code yX7_root cX7_root 5 (some .double), .constantDouble RX7 55 (4611686018427387904)] ++ wsX70)
def wsX7_length : List Cond := .code yX7_length cX7_length 4 (some .double) :: ([.methodLink RX7 73 yX7_root, .static yX7_root, .initialized RX7, .code yX7_root cX7_root 5 (some .double), .constantDouble RX7 55 (4611686018427387904)])
def wsX7_put : List Cond := .code yX7_put cX7_put 18 (some .boolean) :: ([.fieldLink RX7 20 "PlankUnrollModel" "draft" "[D", .constantDouble RX7 85 (4562146422526312448), .constantDouble RX7 55 (4611686018427387904), .methodLink RX7 81 yX7_length, .static yX7_length, .initialized RX7, .code yX7_length cX7_length 4 (some .double), .methodLink RX7 73 yX7_root, .static yX7_root, .code yX7_root cX7_root 5 (some .double)] ++ wsX70)
def wsX7_unroll_r1 : List Cond := [Cond.fieldLink RX7 52 "PlankUnrollModel" "thrown" "I", Cond.fieldLink RX7 20 "PlankUnrollModel" "draft" "[D", Cond.fieldLink RX7 45 "PlankUnrollModel" "frames" "I", Cond.fieldLink RX7 17 "PlankUnrollModel" "corners" "[D", Cond.fieldLink RX7 13 "PlankUnrollModel" "unrolled" "[Z", Cond.methodLink RX7 87 yX7_noStrip, Cond.instanceMethod yX7_noStrip, Cond.selects RX7 yX7_noStrip yX7_noStrip, Cond.initialized RX7, Cond.code yX7_noStrip cX7_noStrip 2 (some .boolean), Cond.fieldLink RX7 49 "PlankUnrollModel" "rows" "I", Cond.methodLink RX7 77 yX7_far, Cond.instanceMethod yX7_far, Cond.selects RX7 yX7_far yX7_far, Cond.code yX7_far cX7_far 11 (some .double), Cond.methodLink RX7 69 yX7_at, Cond.instanceMethod yX7_at, Cond.selects RX7 yX7_at yX7_at, Cond.code yX7_at cX7_at 4 (some .double), Cond.fieldLink RX7 7 "PlankUnrollModel" "places" "[D", Cond.methodLink RX7 73 yX7_root, Cond.static yX7_root, Cond.code yX7_root cX7_root 5 (some .double), Cond.constantDouble RX7 55 (4611686018427387904)]
def wsX7_unroll_r2 : List Cond := [Cond.methodLink RX7 91 yX7_put, Cond.instanceMethod yX7_put, Cond.selects RX7 yX7_put yX7_put, Cond.code yX7_put cX7_put 18 (some .boolean), Cond.constantDouble RX7 85 (4562146422526312448), Cond.methodLink RX7 81 yX7_length, Cond.static yX7_length, Cond.code yX7_length cX7_length 4 (some .double)]
def wsX7_unroll : List Cond := .code yX7_unroll cX7_unroll 4 (some .int) :: ((wsX7_unroll_r1 ++ wsX7_unroll_r2) ++ wsX70)
def wsX7_flat : List Cond := .code yX7_flat cX7_flat 4 (some .double) :: ([.fieldLink RX7 45 "PlankUnrollModel" "frames" "I", .fieldLink RX7 13 "PlankUnrollModel" "unrolled" "[Z", .fieldLink RX7 52 "PlankUnrollModel" "thrown" "I", .fieldLink RX7 17 "PlankUnrollModel" "corners" "[D", .methodLink RX7 87 yX7_noStrip, .instanceMethod yX7_noStrip, .selects RX7 yX7_noStrip yX7_noStrip, .initialized RX7, .code yX7_noStrip cX7_noStrip 2 (some .boolean), .fieldLink RX7 49 "PlankUnrollModel" "rows" "I"] ++ wsX70)
def wsX7_noCell : List Cond := .code yX7_noCell cX7_noCell 3 (some .boolean) :: ([.fieldLink RX7 45 "PlankUnrollModel" "frames" "I", .methodLink RX7 87 yX7_noStrip, .instanceMethod yX7_noStrip, .selects RX7 yX7_noStrip yX7_noStrip, .initialized RX7, .code yX7_noStrip cX7_noStrip 2 (some .boolean), .fieldLink RX7 49 "PlankUnrollModel" "rows" "I"] ++ wsX70)
def wsX7_off : List Cond := .code yX7_off cX7_off 5 (some .double) :: ([.fieldLink RX7 17 "PlankUnrollModel" "corners" "[D", .methodLink RX7 81 yX7_length, .static yX7_length, .initialized RX7, .code yX7_length cX7_length 4 (some .double), .methodLink RX7 73 yX7_root, .static yX7_root, .code yX7_root cX7_root 5 (some .double), .constantDouble RX7 55 (4611686018427387904), .methodLink RX7 77 yX7_far, .instanceMethod yX7_far, .selects RX7 yX7_far yX7_far, .code yX7_far cX7_far 11 (some .double), .methodLink RX7 69 yX7_at, .instanceMethod yX7_at, .selects RX7 yX7_at yX7_at, .code yX7_at cX7_at 4 (some .double), .fieldLink RX7 7 "PlankUnrollModel" "places" "[D"] ++ wsX70)
def wsX7_stretch_r1 : List Cond := [Cond.fieldLink RX7 13 "PlankUnrollModel" "unrolled" "[Z", Cond.fieldLink RX7 52 "PlankUnrollModel" "thrown" "I", Cond.methodLink RX7 95 yX7_noCell, Cond.instanceMethod yX7_noCell, Cond.selects RX7 yX7_noCell yX7_noCell, Cond.initialized RX7, Cond.code yX7_noCell cX7_noCell 3 (some .boolean), Cond.fieldLink RX7 45 "PlankUnrollModel" "frames" "I", Cond.methodLink RX7 87 yX7_noStrip, Cond.instanceMethod yX7_noStrip, Cond.selects RX7 yX7_noStrip yX7_noStrip, Cond.code yX7_noStrip cX7_noStrip 2 (some .boolean), Cond.fieldLink RX7 49 "PlankUnrollModel" "rows" "I", Cond.methodLink RX7 98 yX7_off, Cond.instanceMethod yX7_off, Cond.selects RX7 yX7_off yX7_off, Cond.code yX7_off cX7_off 5 (some .double), Cond.fieldLink RX7 17 "PlankUnrollModel" "corners" "[D", Cond.methodLink RX7 81 yX7_length, Cond.static yX7_length, Cond.code yX7_length cX7_length 4 (some .double), Cond.methodLink RX7 73 yX7_root, Cond.static yX7_root, Cond.code yX7_root cX7_root 5 (some .double)]
def wsX7_stretch_r2 : List Cond := [Cond.constantDouble RX7 55 (4611686018427387904), Cond.methodLink RX7 77 yX7_far, Cond.instanceMethod yX7_far, Cond.selects RX7 yX7_far yX7_far, Cond.code yX7_far cX7_far 11 (some .double), Cond.methodLink RX7 69 yX7_at, Cond.instanceMethod yX7_at, Cond.selects RX7 yX7_at yX7_at, Cond.code yX7_at cX7_at 4 (some .double), Cond.fieldLink RX7 7 "PlankUnrollModel" "places" "[D"]
def wsX7_stretch : List Cond := .code yX7_stretch cX7_stretch 3 (some .double) :: ((wsX7_stretch_r1 ++ wsX7_stretch_r2) ++ wsX70)
def wsX7_worst_r1 : List Cond := [Cond.fieldLink RX7 13 "PlankUnrollModel" "unrolled" "[Z", Cond.fieldLink RX7 52 "PlankUnrollModel" "thrown" "I", Cond.constantDouble RX7 102 (13830554455654793216), Cond.fieldLink RX7 45 "PlankUnrollModel" "frames" "I", Cond.methodLink RX7 87 yX7_noStrip, Cond.instanceMethod yX7_noStrip, Cond.selects RX7 yX7_noStrip yX7_noStrip, Cond.initialized RX7, Cond.code yX7_noStrip cX7_noStrip 2 (some .boolean), Cond.fieldLink RX7 49 "PlankUnrollModel" "rows" "I", Cond.methodLink RX7 98 yX7_off, Cond.instanceMethod yX7_off, Cond.selects RX7 yX7_off yX7_off, Cond.code yX7_off cX7_off 5 (some .double), Cond.fieldLink RX7 17 "PlankUnrollModel" "corners" "[D", Cond.methodLink RX7 81 yX7_length, Cond.static yX7_length, Cond.code yX7_length cX7_length 4 (some .double), Cond.methodLink RX7 73 yX7_root, Cond.static yX7_root, Cond.code yX7_root cX7_root 5 (some .double), Cond.constantDouble RX7 55 (4611686018427387904), Cond.methodLink RX7 77 yX7_far, Cond.instanceMethod yX7_far]
def wsX7_worst_r2 : List Cond := [Cond.selects RX7 yX7_far yX7_far, Cond.code yX7_far cX7_far 11 (some .double), Cond.methodLink RX7 69 yX7_at, Cond.instanceMethod yX7_at, Cond.selects RX7 yX7_at yX7_at, Cond.code yX7_at cX7_at 4 (some .double), Cond.fieldLink RX7 7 "PlankUnrollModel" "places" "[D"]
def wsX7_worst : List Cond := .code yX7_worst cX7_worst 8 (some .int) :: ((wsX7_worst_r1 ++ wsX7_worst_r2) ++ wsX70)
def wsX7_cross : List Cond := .code yX7_cross cX7_cross 19 none :: ([.fieldLink RX7 104 "PlankUnrollModel" "px" "D", .fieldLink RX7 108 "PlankUnrollModel" "py" "D", .fieldLink RX7 111 "PlankUnrollModel" "pz" "D", .methodLink RX7 69 yX7_at, .instanceMethod yX7_at, .selects RX7 yX7_at yX7_at, .initialized RX7, .code yX7_at cX7_at 4 (some .double), .fieldLink RX7 7 "PlankUnrollModel" "places" "[D"] ++ wsX70)
def wsX7_bevel_r1 : List Cond := [Cond.fieldLink RX7 52 "PlankUnrollModel" "thrown" "I", Cond.fieldLink RX7 104 "PlankUnrollModel" "px" "D", Cond.fieldLink RX7 108 "PlankUnrollModel" "py" "D", Cond.fieldLink RX7 111 "PlankUnrollModel" "pz" "D", Cond.methodLink RX7 95 yX7_noCell, Cond.instanceMethod yX7_noCell, Cond.selects RX7 yX7_noCell yX7_noCell, Cond.initialized RX7, Cond.code yX7_noCell cX7_noCell 3 (some .boolean), Cond.fieldLink RX7 45 "PlankUnrollModel" "frames" "I", Cond.methodLink RX7 87 yX7_noStrip, Cond.instanceMethod yX7_noStrip, Cond.selects RX7 yX7_noStrip yX7_noStrip, Cond.code yX7_noStrip cX7_noStrip 2 (some .boolean), Cond.fieldLink RX7 49 "PlankUnrollModel" "rows" "I", Cond.methodLink RX7 114 yX7_cross, Cond.instanceMethod yX7_cross, Cond.selects RX7 yX7_cross yX7_cross, Cond.code yX7_cross cX7_cross 19 none, Cond.methodLink RX7 69 yX7_at, Cond.instanceMethod yX7_at, Cond.selects RX7 yX7_at yX7_at, Cond.code yX7_at cX7_at 4 (some .double), Cond.fieldLink RX7 7 "PlankUnrollModel" "places" "[D"]
def wsX7_bevel_r2 : List Cond := [Cond.methodLink RX7 73 yX7_root, Cond.static yX7_root, Cond.code yX7_root cX7_root 5 (some .double), Cond.constantDouble RX7 55 (4611686018427387904)]
def wsX7_bevel : List Cond := .code yX7_bevel cX7_bevel 13 (some .double) :: ((wsX7_bevel_r1 ++ wsX7_bevel_r2) ++ wsX70)
def wsX7_width : List Cond := .code yX7_width cX7_width 3 (some .double) :: ([.fieldLink RX7 45 "PlankUnrollModel" "frames" "I", .fieldLink RX7 52 "PlankUnrollModel" "thrown" "I", .methodLink RX7 87 yX7_noStrip, .instanceMethod yX7_noStrip, .selects RX7 yX7_noStrip yX7_noStrip, .initialized RX7, .code yX7_noStrip cX7_noStrip 2 (some .boolean), .fieldLink RX7 49 "PlankUnrollModel" "rows" "I", .methodLink RX7 77 yX7_far, .instanceMethod yX7_far, .selects RX7 yX7_far yX7_far, .code yX7_far cX7_far 11 (some .double), .methodLink RX7 69 yX7_at, .instanceMethod yX7_at, .selects RX7 yX7_at yX7_at, .code yX7_at cX7_at 4 (some .double), .fieldLink RX7 7 "PlankUnrollModel" "places" "[D", .methodLink RX7 73 yX7_root, .static yX7_root, .code yX7_root cX7_root 5 (some .double), .constantDouble RX7 55 (4611686018427387904)] ++ wsX70)
def wsX7_girth : List Cond := .code yX7_girth cX7_girth 5 (some .double) :: ([.fieldLink RX7 45 "PlankUnrollModel" "frames" "I", .fieldLink RX7 52 "PlankUnrollModel" "thrown" "I", .fieldLink RX7 49 "PlankUnrollModel" "rows" "I", .methodLink RX7 77 yX7_far, .instanceMethod yX7_far, .selects RX7 yX7_far yX7_far, .initialized RX7, .code yX7_far cX7_far 11 (some .double), .methodLink RX7 69 yX7_at, .instanceMethod yX7_at, .selects RX7 yX7_at yX7_at, .code yX7_at cX7_at 4 (some .double), .fieldLink RX7 7 "PlankUnrollModel" "places" "[D", .methodLink RX7 73 yX7_root, .static yX7_root, .code yX7_root cX7_root 5 (some .double), .constantDouble RX7 55 (4611686018427387904)] ++ wsX70)
def wsX7_butt : List Cond := .code yX7_butt cX7_butt 5 (some .boolean) :: ([.fieldLink RX7 45 "PlankUnrollModel" "frames" "I", .fieldLink RX7 52 "PlankUnrollModel" "thrown" "I", .fieldLink RX7 23 "PlankUnrollModel" "butts" "[Z", .methodLink RX7 87 yX7_noStrip, .instanceMethod yX7_noStrip, .selects RX7 yX7_noStrip yX7_noStrip, .initialized RX7, .code yX7_noStrip cX7_noStrip 2 (some .boolean), .fieldLink RX7 49 "PlankUnrollModel" "rows" "I"] ++ wsX70)
def wsX7_keeps : List Cond := .code yX7_keeps cX7_keeps 9 (some .boolean) :: ([.fieldLink RX7 45 "PlankUnrollModel" "frames" "I", .fieldLink RX7 23 "PlankUnrollModel" "butts" "[Z"] ++ wsX70)
def wsX7_spans : List Cond := .code yX7_spans cX7_spans 4 (some .boolean) :: ([.fieldLink RX7 52 "PlankUnrollModel" "thrown" "I", .fieldLink RX7 49 "PlankUnrollModel" "rows" "I", .methodLink RX7 118 yX7_keeps, .instanceMethod yX7_keeps, .selects RX7 yX7_keeps yX7_keeps, .initialized RX7, .code yX7_keeps cX7_keeps 9 (some .boolean), .fieldLink RX7 45 "PlankUnrollModel" "frames" "I", .fieldLink RX7 23 "PlankUnrollModel" "butts" "[Z"] ++ wsX70)
def wsX7_board : List Cond := .code yX7_board cX7_board 5 (some .int) :: ([.constantDouble RX7 59 (4652007308841189376), .fieldLink RX7 122 "PlankUnrollModel" "boards" "I", .fieldLink RX7 52 "PlankUnrollModel" "thrown" "I", .fieldLink RX7 26 "PlankUnrollModel" "wides" "[D", .fieldLink RX7 29 "PlankUnrollModel" "highs" "[D", .methodLink RX7 61 yX7_between, .static yX7_between, .initialized RX7, .code yX7_between cX7_between 6 (some .boolean)] ++ wsX70)
def wsX7_fault : List Cond := .code yX7_fault cX7_fault 12 (some .boolean) :: ([.constantDouble RX7 59 (4652007308841189376), .constantDouble RX7 125 (4593671619917905920), .fieldLink RX7 122 "PlankUnrollModel" "boards" "I", .fieldLink RX7 52 "PlankUnrollModel" "thrown" "I", .fieldLink RX7 32 "PlankUnrollModel" "faultCount" "[I", .fieldLink RX7 36 "PlankUnrollModel" "faults" "[D", .methodLink RX7 61 yX7_between, .static yX7_between, .initialized RX7, .code yX7_between cX7_between 6 (some .boolean)] ++ wsX70)
def wsX7_size : List Cond := .code yX7_size cX7_size 10 (some .double) :: ([.fieldLink RX7 17 "PlankUnrollModel" "corners" "[D", .fieldLink RX7 45 "PlankUnrollModel" "frames" "I"] ++ wsX70)
def wsX7_isOpen : List Cond := .code yX7_isOpen cX7_isOpen 12 (some .boolean) :: ([.fieldLink RX7 32 "PlankUnrollModel" "faultCount" "[I", .fieldLink RX7 36 "PlankUnrollModel" "faults" "[D", .fieldLink RX7 49 "PlankUnrollModel" "rows" "I", .fieldLink RX7 42 "PlankUnrollModel" "liesAt" "[I", .constantDouble RX7 127 (4620693217682128896), .fieldLink RX7 39 "PlankUnrollModel" "liesOn" "[I", .methodLink RX7 129 yX7_size, .instanceMethod yX7_size, .selects RX7 yX7_size yX7_size, .initialized RX7, .code yX7_size cX7_size 10 (some .double), .fieldLink RX7 17 "PlankUnrollModel" "corners" "[D", .fieldLink RX7 45 "PlankUnrollModel" "frames" "I"] ++ wsX70)
def wsX7_nest_r1 : List Cond := [Cond.fieldLink RX7 122 "PlankUnrollModel" "boards" "I", Cond.fieldLink RX7 13 "PlankUnrollModel" "unrolled" "[Z", Cond.fieldLink RX7 39 "PlankUnrollModel" "liesOn" "[I", Cond.fieldLink RX7 52 "PlankUnrollModel" "thrown" "I", Cond.fieldLink RX7 29 "PlankUnrollModel" "highs" "[D", Cond.constantDouble RX7 127 (4620693217682128896), Cond.fieldLink RX7 26 "PlankUnrollModel" "wides" "[D", Cond.fieldLink RX7 42 "PlankUnrollModel" "liesAt" "[I", Cond.methodLink RX7 87 yX7_noStrip, Cond.instanceMethod yX7_noStrip, Cond.selects RX7 yX7_noStrip yX7_noStrip, Cond.initialized RX7, Cond.code yX7_noStrip cX7_noStrip 2 (some .boolean), Cond.fieldLink RX7 49 "PlankUnrollModel" "rows" "I", Cond.methodLink RX7 129 yX7_size, Cond.instanceMethod yX7_size, Cond.selects RX7 yX7_size yX7_size, Cond.code yX7_size cX7_size 10 (some .double), Cond.fieldLink RX7 17 "PlankUnrollModel" "corners" "[D", Cond.fieldLink RX7 45 "PlankUnrollModel" "frames" "I", Cond.methodLink RX7 132 yX7_isOpen, Cond.instanceMethod yX7_isOpen, Cond.selects RX7 yX7_isOpen yX7_isOpen, Cond.code yX7_isOpen cX7_isOpen 12 (some .boolean)]
def wsX7_nest_r2 : List Cond := [Cond.fieldLink RX7 32 "PlankUnrollModel" "faultCount" "[I", Cond.fieldLink RX7 36 "PlankUnrollModel" "faults" "[D"]
def wsX7_nest : List Cond := .code yX7_nest cX7_nest 8 (some .int) :: ((wsX7_nest_r1 ++ wsX7_nest_r2) ++ wsX70)
def wsX7_lies : List Cond := .code yX7_lies cX7_lies 3 (some .int) :: ([.fieldLink RX7 52 "PlankUnrollModel" "thrown" "I", .fieldLink RX7 39 "PlankUnrollModel" "liesOn" "[I", .fieldLink RX7 42 "PlankUnrollModel" "liesAt" "[I", .methodLink RX7 87 yX7_noStrip, .instanceMethod yX7_noStrip, .selects RX7 yX7_noStrip yX7_noStrip, .initialized RX7, .code yX7_noStrip cX7_noStrip 2 (some .boolean), .fieldLink RX7 49 "PlankUnrollModel" "rows" "I"] ++ wsX70)
def wsX7_areStaves : List Cond := .code yX7_areStaves cX7_areStaves 4 (some .boolean) :: ([.constantDouble RX7 125 (4593671619917905920), .constantDouble RX7 59 (4652007308841189376), .methodLink RX7 61 yX7_between, .static yX7_between, .initialized RX7, .code yX7_between cX7_between 6 (some .boolean)])
def wsX7_staves : List Cond := .code yX7_staves cX7_staves 6 (some .int) :: ([.fieldLink RX7 52 "PlankUnrollModel" "thrown" "I", .constantDouble RX7 140 (4614256656552045848), .methodLink RX7 136 yX7_areStaves, .static yX7_areStaves, .initialized RX7, .code yX7_areStaves cX7_areStaves 4 (some .boolean), .constantDouble RX7 125 (4593671619917905920), .constantDouble RX7 59 (4652007308841189376), .methodLink RX7 61 yX7_between, .static yX7_between, .code yX7_between cX7_between 6 (some .boolean)] ++ wsX70)
def wsX7_closes : List Cond := .code yX7_closes cX7_closes 6 (some .double) :: ([.constant RX7 142 (100000), .fieldLink RX7 52 "PlankUnrollModel" "thrown" "I", .constantDouble RX7 140 (4614256656552045848), .methodLink RX7 136 yX7_areStaves, .static yX7_areStaves, .initialized RX7, .code yX7_areStaves cX7_areStaves 4 (some .boolean), .constantDouble RX7 125 (4593671619917905920), .constantDouble RX7 59 (4652007308841189376), .methodLink RX7 61 yX7_between, .static yX7_between, .code yX7_between cX7_between 6 (some .boolean)] ++ wsX70)
def wsJ9_abs_0f7a4 : List Cond := .code yJ9_abs_0f7a4 cJ9_abs_0f7a4 1 (some .int) :: ([])
def wsJ9_max_7cf53 : List Cond := .code yJ9_max_7cf53 cJ9_max_7cf53 2 (some .int) :: ([])
def wsJ9_min_7cf53 : List Cond := .code yJ9_min_7cf53 cJ9_min_7cf53 2 (some .int) :: ([])
def wsL_cell : List Cond := .code yL_cell cL_cell 2 (some .int) :: ([])
def wsL_point_r1 : List Cond := [Cond.classLink RL 13 "java/lang/IndexOutOfBoundsException", Cond.classLink RL 15 "java/lang/IllegalArgumentException", Cond.methodLink RL 7 yX6_point, Cond.instanceMethod yX6_point, Cond.selects RX6 yX6_point yX6_point, Cond.initialized RX6, Cond.code yX6_point cX6_point 14 (some .boolean), Cond.classLink RX6 64 "java/lang/IllegalArgumentException", Cond.initialized "java/lang/IllegalArgumentException", Cond.constantDouble RX6 56 (13875379345695965184), Cond.constantDouble RX6 58 (4652007308841189376), Cond.fieldLink RX6 71 "PlankUnroll$Place" "x" "D", Cond.fieldLink RX6 77 "PlankUnroll$Place" "y" "D", Cond.fieldLink RX6 80 "PlankUnroll$Place" "z" "D", Cond.fieldLink RX6 28 "PlankUnroll" "strips" "[LPlankUnroll$Strip;", Cond.methodLink RX6 52 yX6_placeAt, Cond.instanceMethod yX6_placeAt, Cond.selects RX6 yX6_placeAt yX6_placeAt, Cond.code yX6_placeAt cX6_placeAt 3 (some (.object "PlankUnroll$Place")), Cond.classLink RX6 107 "java/lang/IndexOutOfBoundsException", Cond.initialized "java/lang/IndexOutOfBoundsException", Cond.fieldLink RX6 19 "PlankUnroll" "rows" "[LPlankUnroll$Row;", Cond.fieldLink RX6 140 "PlankUnroll$Row" "places" "[LPlankUnroll$Place;", Cond.methodLink RX6 158 yX6_checkFrame]
def wsL_point_r2 : List Cond := [Cond.instanceMethod yX6_checkFrame, Cond.selects RX6 yX6_checkFrame yX6_checkFrame, Cond.code yX6_checkFrame cX6_checkFrame 2 none, Cond.fieldLink RX6 13 "PlankUnroll" "frames" "I", Cond.methodLink RX6 60 yX6_within, Cond.static yX6_within, Cond.code yX6_within cX6_within 6 (some .boolean), Cond.methodLink RX6 83 yX5_forget, Cond.instanceMethod yX5_forget, Cond.selects RX5 yX5_forget yX5_forget, Cond.initialized RX5, Cond.code yX5_forget cX5_forget 1 none, Cond.fieldLink RX5 45 "PlankUnroll$Strip" "unrolled" "Z", Cond.fieldLink RX5 38 "PlankUnroll$Strip" "board" "I", Cond.fieldLink RX5 42 "PlankUnroll$Strip" "eighths" "I"]
def wsL_point : List Cond := .codeWith yL_point cL_point 11 (some .int) [(0, 23, 26, 13), (0, 23, 30, 15)] :: ((wsL_point_r1 ++ wsL_point_r2) ++ wsX30 ++ wsX60 ++ wsX40 ++ wsX50 ++ (vx_atS RX6 68 "java/lang/IllegalArgumentException" ["java/lang/RuntimeException", "java/lang/Exception"]).filter goodWord ++ (vx_atS RX6 111 "java/lang/IndexOutOfBoundsException" ["java/lang/RuntimeException", "java/lang/Exception"]).filter goodWord)
def wsL_distance_r1 : List Cond := [Cond.classLink RL 13 "java/lang/IndexOutOfBoundsException", Cond.methodLink RL 17 yX6_distance, Cond.instanceMethod yX6_distance, Cond.selects RX6 yX6_distance yX6_distance, Cond.initialized RX6, Cond.code yX6_distance cX6_distance 5 (some .double), Cond.methodLink RX6 52 yX6_placeAt, Cond.instanceMethod yX6_placeAt, Cond.selects RX6 yX6_placeAt yX6_placeAt, Cond.code yX6_placeAt cX6_placeAt 3 (some (.object "PlankUnroll$Place")), Cond.classLink RX6 107 "java/lang/IndexOutOfBoundsException", Cond.initialized "java/lang/IndexOutOfBoundsException", Cond.fieldLink RX6 19 "PlankUnroll" "rows" "[LPlankUnroll$Row;", Cond.fieldLink RX6 140 "PlankUnroll$Row" "places" "[LPlankUnroll$Place;", Cond.methodLink RX6 158 yX6_checkFrame, Cond.instanceMethod yX6_checkFrame, Cond.selects RX6 yX6_checkFrame yX6_checkFrame, Cond.code yX6_checkFrame cX6_checkFrame 2 none, Cond.fieldLink RX6 13 "PlankUnroll" "frames" "I", Cond.methodLink RX6 86 yX6_apart, Cond.static yX6_apart, Cond.code yX6_apart cX6_apart 8 (some .double), Cond.fieldLink RX6 71 "PlankUnroll$Place" "x" "D", Cond.fieldLink RX6 77 "PlankUnroll$Place" "y" "D"]
def wsL_distance_r2 : List Cond := [Cond.fieldLink RX6 80 "PlankUnroll$Place" "z" "D", Cond.methodLink RX6 155 yX6_root, Cond.static yX6_root, Cond.code yX6_root cX6_root 5 (some .double), Cond.constantDouble RX6 249 (4611686018427387904)]
def wsL_distance : List Cond := .codeWith yL_distance cL_distance 7 (some .int) [(0, 13, 16, 13)] :: ((wsL_distance_r1 ++ wsL_distance_r2) ++ wsX60 ++ wsX40 ++ wsX30 ++ (vx_atS RX6 111 "java/lang/IndexOutOfBoundsException" ["java/lang/RuntimeException", "java/lang/Exception"]).filter goodWord)
def wsL_unroll_r1 : List Cond := [Cond.classLink RL 13 "java/lang/IndexOutOfBoundsException", Cond.classLink RL 25 "java/lang/IllegalStateException", Cond.methodLink RL 21 yX6_unroll, Cond.instanceMethod yX6_unroll, Cond.selects RX6 yX6_unroll yX6_unroll, Cond.initialized RX6, Cond.code yX6_unroll cX6_unroll 3 (some .int), Cond.classLink RX6 102 "java/lang/IllegalStateException", Cond.initialized "java/lang/IllegalStateException", Cond.fieldLink RX6 94 "PlankUnroll$Strip" "unrolled" "Z", Cond.fieldLink RX6 13 "PlankUnroll" "frames" "I", Cond.methodLink RX6 90 yX6_stripAt, Cond.instanceMethod yX6_stripAt, Cond.selects RX6 yX6_stripAt yX6_stripAt, Cond.code yX6_stripAt cX6_stripAt 2 (some (.object "PlankUnroll$Strip")), Cond.classLink RX6 107 "java/lang/IndexOutOfBoundsException", Cond.initialized "java/lang/IndexOutOfBoundsException", Cond.fieldLink RX6 28 "PlankUnroll" "strips" "[LPlankUnroll$Strip;", Cond.methodLink RX6 98 yX5_layFlat, Cond.instanceMethod yX5_layFlat, Cond.selects RX5 yX5_layFlat yX5_layFlat, Cond.initialized RX5, Cond.code yX5_layFlat cX5_layFlat 8 (some .boolean), Cond.fieldLink RX5 18 "PlankUnroll$Strip" "cornerX" "[D"]
def wsL_unroll_r2 : List Cond := [Cond.fieldLink RX5 22 "PlankUnroll$Strip" "cornerY" "[D", Cond.fieldLink RX5 25 "PlankUnroll$Strip" "butts" "[Z", Cond.fieldLink RX5 9 "PlankUnroll$Strip" "a" "LPlankUnroll$Row;", Cond.fieldLink RX5 49 "PlankUnroll$Row" "places" "[LPlankUnroll$Place;", Cond.fieldLink RX5 15 "PlankUnroll$Strip" "b" "LPlankUnroll$Row;", Cond.fieldLink RX5 34 "PlankUnroll$Strip" "box" "LPlankUnroll$Box;", Cond.fieldLink RX5 71 "PlankUnroll$Box" "w" "D", Cond.fieldLink RX5 75 "PlankUnroll$Box" "h" "D", Cond.fieldLink RX5 45 "PlankUnroll$Strip" "unrolled" "Z", Cond.methodLink RX5 59 yX5_across, Cond.instanceMethod yX5_across, Cond.selects RX5 yX5_across yX5_across, Cond.code yX5_across cX5_across 2 (some .double), Cond.static yX6_apart, Cond.code yX6_apart cX6_apart 8 (some .double), Cond.fieldLink RX6 71 "PlankUnroll$Place" "x" "D", Cond.fieldLink RX6 77 "PlankUnroll$Place" "y" "D", Cond.fieldLink RX6 80 "PlankUnroll$Place" "z" "D", Cond.methodLink RX6 155 yX6_root, Cond.static yX6_root, Cond.code yX6_root cX6_root 5 (some .double), Cond.constantDouble RX6 249 (4611686018427387904), Cond.methodLink RX5 63 yX5_put, Cond.instanceMethod yX5_put]
def wsL_unroll_r3 : List Cond := [Cond.selects RX5 yX5_put yX5_put, Cond.code yX5_put cX5_put 18 (some .boolean), Cond.constantDouble RX5 82 (4562146422526312448), Cond.constantDouble RX5 84 (4611686018427387904), Cond.methodLink RX5 67 yX5_extent, Cond.static yX5_extent, Cond.code yX5_extent cX5_extent 10 (some .double)]
def wsL_unroll : List Cond := .codeWith yL_unroll cL_unroll 4 (some .int) [(0, 9, 12, 13), (0, 9, 15, 25)] :: ((wsL_unroll_r1 ++ (wsL_unroll_r2 ++ wsL_unroll_r3)) ++ wsX50 ++ wsX60 ++ wsX40 ++ wsX10 ++ wsX30 ++ (vx_atS RX6 106 "java/lang/IllegalStateException" ["java/lang/RuntimeException", "java/lang/Exception"]).filter goodWord ++ (vx_atS RX6 111 "java/lang/IndexOutOfBoundsException" ["java/lang/RuntimeException", "java/lang/Exception"]).filter goodWord)
def wsL_flat : List Cond := .codeWith yL_flat cL_flat 6 (some .int) [(0, 11, 14, 13), (0, 11, 18, 25)] :: ([.classLink RL 13 "java/lang/IndexOutOfBoundsException", .classLink RL 25 "java/lang/IllegalStateException", .methodLink RL 27 yX6_flat, .instanceMethod yX6_flat, .selects RX6 yX6_flat yX6_flat, .initialized RX6, .code yX6_flat cX6_flat 5 (some .double), .classLink RX6 107 "java/lang/IndexOutOfBoundsException", .initialized "java/lang/IndexOutOfBoundsException", .fieldLink RX6 13 "PlankUnroll" "frames" "I", .fieldLink RX6 118 "PlankUnroll$Strip" "cornerX" "[D", .fieldLink RX6 122 "PlankUnroll$Strip" "cornerY" "[D", .methodLink RX6 90 yX6_stripAt, .instanceMethod yX6_stripAt, .selects RX6 yX6_stripAt yX6_stripAt, .code yX6_stripAt cX6_stripAt 2 (some (.object "PlankUnroll$Strip")), .fieldLink RX6 28 "PlankUnroll" "strips" "[LPlankUnroll$Strip;", .methodLink RX6 114 yX6_needUnrolled, .static yX6_needUnrolled, .code yX6_needUnrolled cX6_needUnrolled 1 none, .classLink RX6 102 "java/lang/IllegalStateException", .initialized "java/lang/IllegalStateException", .fieldLink RX6 94 "PlankUnroll$Strip" "unrolled" "Z"] ++ wsX60 ++ wsX50 ++ (vx_atS RX6 111 "java/lang/IndexOutOfBoundsException" ["java/lang/RuntimeException", "java/lang/Exception"]).filter goodWord ++ (vx_atS RX6 106 "java/lang/IllegalStateException" ["java/lang/RuntimeException", "java/lang/Exception"]).filter goodWord)
def wsL_stretch_r1 : List Cond := [Cond.classLink RL 13 "java/lang/IndexOutOfBoundsException", Cond.classLink RL 25 "java/lang/IllegalStateException", Cond.methodLink RL 31 yX6_stretch, Cond.instanceMethod yX6_stretch, Cond.selects RX6 yX6_stretch yX6_stretch, Cond.initialized RX6, Cond.code yX6_stretch cX6_stretch 4 (some .double), Cond.methodLink RX6 90 yX6_stripAt, Cond.instanceMethod yX6_stripAt, Cond.selects RX6 yX6_stripAt yX6_stripAt, Cond.code yX6_stripAt cX6_stripAt 2 (some (.object "PlankUnroll$Strip")), Cond.classLink RX6 107 "java/lang/IndexOutOfBoundsException", Cond.initialized "java/lang/IndexOutOfBoundsException", Cond.fieldLink RX6 28 "PlankUnroll" "strips" "[LPlankUnroll$Strip;", Cond.methodLink RX6 125 yX6_checkCell, Cond.instanceMethod yX6_checkCell, Cond.selects RX6 yX6_checkCell yX6_checkCell, Cond.code yX6_checkCell cX6_checkCell 2 none, Cond.fieldLink RX6 13 "PlankUnroll" "frames" "I", Cond.methodLink RX6 114 yX6_needUnrolled, Cond.static yX6_needUnrolled, Cond.code yX6_needUnrolled cX6_needUnrolled 1 none, Cond.classLink RX6 102 "java/lang/IllegalStateException", Cond.initialized "java/lang/IllegalStateException"]
def wsL_stretch_r2 : List Cond := [Cond.fieldLink RX6 94 "PlankUnroll$Strip" "unrolled" "Z", Cond.methodLink RX6 128 yX5_offDiagonal, Cond.instanceMethod yX5_offDiagonal, Cond.selects RX5 yX5_offDiagonal yX5_offDiagonal, Cond.initialized RX5, Cond.code yX5_offDiagonal cX5_offDiagonal 8 (some .double), Cond.fieldLink RX5 18 "PlankUnroll$Strip" "cornerX" "[D", Cond.fieldLink RX5 22 "PlankUnroll$Strip" "cornerY" "[D", Cond.fieldLink RX5 9 "PlankUnroll$Strip" "a" "LPlankUnroll$Row;", Cond.fieldLink RX5 49 "PlankUnroll$Row" "places" "[LPlankUnroll$Place;", Cond.fieldLink RX5 15 "PlankUnroll$Strip" "b" "LPlankUnroll$Row;", Cond.static yX6_root, Cond.code yX6_root cX6_root 5 (some .double), Cond.constantDouble RX6 249 (4611686018427387904), Cond.static yX6_apart, Cond.code yX6_apart cX6_apart 8 (some .double), Cond.fieldLink RX6 71 "PlankUnroll$Place" "x" "D", Cond.fieldLink RX6 77 "PlankUnroll$Place" "y" "D", Cond.fieldLink RX6 80 "PlankUnroll$Place" "z" "D", Cond.methodLink RX6 155 yX6_root]
def wsL_stretch : List Cond := .codeWith yL_stretch cL_stretch 5 (some .int) [(0, 9, 12, 13), (0, 9, 16, 25)] :: ((wsL_stretch_r1 ++ wsL_stretch_r2) ++ wsX60 ++ wsX50 ++ wsX40 ++ wsX30 ++ (vx_atS RX6 111 "java/lang/IndexOutOfBoundsException" ["java/lang/RuntimeException", "java/lang/Exception"]).filter goodWord ++ (vx_atS RX6 106 "java/lang/IllegalStateException" ["java/lang/RuntimeException", "java/lang/Exception"]).filter goodWord)
def wsL_worst_r1 : List Cond := [Cond.classLink RL 13 "java/lang/IndexOutOfBoundsException", Cond.classLink RL 25 "java/lang/IllegalStateException", Cond.methodLink RL 35 yX6_worst, Cond.instanceMethod yX6_worst, Cond.selects RX6 yX6_worst yX6_worst, Cond.initialized RX6, Cond.code yX6_worst cX6_worst 9 (some .int), Cond.fieldLink RX6 13 "PlankUnroll" "frames" "I", Cond.methodLink RX6 90 yX6_stripAt, Cond.instanceMethod yX6_stripAt, Cond.selects RX6 yX6_stripAt yX6_stripAt, Cond.code yX6_stripAt cX6_stripAt 2 (some (.object "PlankUnroll$Strip")), Cond.classLink RX6 107 "java/lang/IndexOutOfBoundsException", Cond.initialized "java/lang/IndexOutOfBoundsException", Cond.fieldLink RX6 28 "PlankUnroll" "strips" "[LPlankUnroll$Strip;", Cond.methodLink RX6 114 yX6_needUnrolled, Cond.static yX6_needUnrolled, Cond.code yX6_needUnrolled cX6_needUnrolled 1 none, Cond.classLink RX6 102 "java/lang/IllegalStateException", Cond.initialized "java/lang/IllegalStateException", Cond.fieldLink RX6 94 "PlankUnroll$Strip" "unrolled" "Z", Cond.methodLink RX6 128 yX5_offDiagonal, Cond.instanceMethod yX5_offDiagonal, Cond.selects RX5 yX5_offDiagonal yX5_offDiagonal]
def wsL_worst_r2 : List Cond := [Cond.initialized RX5, Cond.code yX5_offDiagonal cX5_offDiagonal 8 (some .double), Cond.fieldLink RX5 18 "PlankUnroll$Strip" "cornerX" "[D", Cond.fieldLink RX5 22 "PlankUnroll$Strip" "cornerY" "[D", Cond.fieldLink RX5 9 "PlankUnroll$Strip" "a" "LPlankUnroll$Row;", Cond.fieldLink RX5 49 "PlankUnroll$Row" "places" "[LPlankUnroll$Place;", Cond.fieldLink RX5 15 "PlankUnroll$Strip" "b" "LPlankUnroll$Row;", Cond.static yX6_root, Cond.code yX6_root cX6_root 5 (some .double), Cond.constantDouble RX6 249 (4611686018427387904), Cond.static yX6_apart, Cond.code yX6_apart cX6_apart 8 (some .double), Cond.fieldLink RX6 71 "PlankUnroll$Place" "x" "D", Cond.fieldLink RX6 77 "PlankUnroll$Place" "y" "D", Cond.fieldLink RX6 80 "PlankUnroll$Place" "z" "D", Cond.methodLink RX6 155 yX6_root, Cond.methodLink RX6 132 yX6_sizeOf, Cond.static yX6_sizeOf, Cond.code yX6_sizeOf cX6_sizeOf 2 (some .double)]
def wsL_worst : List Cond := .codeWith yL_worst cL_worst 4 (some .int) [(0, 9, 12, 13), (0, 9, 15, 25)] :: ((wsL_worst_r1 ++ wsL_worst_r2) ++ wsX60 ++ wsX50 ++ wsX40 ++ wsX30 ++ (vx_atS RX6 111 "java/lang/IndexOutOfBoundsException" ["java/lang/RuntimeException", "java/lang/Exception"]).filter goodWord ++ (vx_atS RX6 106 "java/lang/IllegalStateException" ["java/lang/RuntimeException", "java/lang/Exception"]).filter goodWord)
def wsL_bevel_r1 : List Cond := [Cond.classLink RL 13 "java/lang/IndexOutOfBoundsException", Cond.methodLink RL 38 yX6_bevel, Cond.instanceMethod yX6_bevel, Cond.selects RX6 yX6_bevel yX6_bevel, Cond.initialized RX6, Cond.code yX6_bevel cX6_bevel 10 (some .double), Cond.fieldLink RX6 136 "PlankUnroll$Strip" "a" "LPlankUnroll$Row;", Cond.fieldLink RX6 140 "PlankUnroll$Row" "places" "[LPlankUnroll$Place;", Cond.fieldLink RX6 144 "PlankUnroll$Strip" "b" "LPlankUnroll$Row;", Cond.fieldLink RX6 45 "PlankUnroll" "near" "LPlankUnroll$Normal;", Cond.fieldLink RX6 49 "PlankUnroll" "far" "LPlankUnroll$Normal;", Cond.methodLink RX6 90 yX6_stripAt, Cond.instanceMethod yX6_stripAt, Cond.selects RX6 yX6_stripAt yX6_stripAt, Cond.code yX6_stripAt cX6_stripAt 2 (some (.object "PlankUnroll$Strip")), Cond.classLink RX6 107 "java/lang/IndexOutOfBoundsException", Cond.initialized "java/lang/IndexOutOfBoundsException", Cond.fieldLink RX6 28 "PlankUnroll" "strips" "[LPlankUnroll$Strip;", Cond.methodLink RX6 125 yX6_checkCell, Cond.instanceMethod yX6_checkCell, Cond.selects RX6 yX6_checkCell yX6_checkCell, Cond.code yX6_checkCell cX6_checkCell 2 none, Cond.fieldLink RX6 13 "PlankUnroll" "frames" "I", Cond.methodLink RX6 147 yX2_cross]
def wsL_bevel_r2 : List Cond := [Cond.instanceMethod yX2_cross, Cond.selects RX2 yX2_cross yX2_cross, Cond.initialized RX2, Cond.code yX2_cross cX2_cross 16 none, Cond.fieldLink RX2 7 "PlankUnroll$Place" "x" "D", Cond.fieldLink RX2 13 "PlankUnroll$Place" "y" "D", Cond.fieldLink RX2 16 "PlankUnroll$Place" "z" "D", Cond.fieldLink RX2 19 "PlankUnroll$Normal" "x" "D", Cond.fieldLink RX2 22 "PlankUnroll$Normal" "y" "D", Cond.fieldLink RX2 23 "PlankUnroll$Normal" "z" "D", Cond.methodLink RX6 151 yX2_times, Cond.instanceMethod yX2_times, Cond.selects RX2 yX2_times yX2_times, Cond.code yX2_times cX2_times 2 (some .double), Cond.methodLink RX6 155 yX6_root, Cond.static yX6_root, Cond.code yX6_root cX6_root 5 (some .double), Cond.constantDouble RX6 249 (4611686018427387904)]
def wsL_bevel : List Cond := .codeWith yL_bevel cL_bevel 5 (some .int) [(0, 9, 12, 13)] :: ((wsL_bevel_r1 ++ wsL_bevel_r2) ++ wsX50 ++ wsX40 ++ wsX60 ++ wsX30 ++ wsX20 ++ (vx_atS RX6 111 "java/lang/IndexOutOfBoundsException" ["java/lang/RuntimeException", "java/lang/Exception"]).filter goodWord)
def wsL_width_r1 : List Cond := [Cond.classLink RL 13 "java/lang/IndexOutOfBoundsException", Cond.methodLink RL 41 yX6_width, Cond.instanceMethod yX6_width, Cond.selects RX6 yX6_width yX6_width, Cond.initialized RX6, Cond.code yX6_width cX6_width 4 (some .double), Cond.methodLink RX6 90 yX6_stripAt, Cond.instanceMethod yX6_stripAt, Cond.selects RX6 yX6_stripAt yX6_stripAt, Cond.code yX6_stripAt cX6_stripAt 2 (some (.object "PlankUnroll$Strip")), Cond.classLink RX6 107 "java/lang/IndexOutOfBoundsException", Cond.initialized "java/lang/IndexOutOfBoundsException", Cond.fieldLink RX6 28 "PlankUnroll" "strips" "[LPlankUnroll$Strip;", Cond.methodLink RX6 158 yX6_checkFrame, Cond.instanceMethod yX6_checkFrame, Cond.selects RX6 yX6_checkFrame yX6_checkFrame, Cond.code yX6_checkFrame cX6_checkFrame 2 none, Cond.fieldLink RX6 13 "PlankUnroll" "frames" "I", Cond.methodLink RX6 161 yX5_across, Cond.instanceMethod yX5_across, Cond.selects RX5 yX5_across yX5_across, Cond.initialized RX5, Cond.code yX5_across cX5_across 2 (some .double), Cond.fieldLink RX5 9 "PlankUnroll$Strip" "a" "LPlankUnroll$Row;"]
def wsL_width_r2 : List Cond := [Cond.fieldLink RX5 49 "PlankUnroll$Row" "places" "[LPlankUnroll$Place;", Cond.fieldLink RX5 15 "PlankUnroll$Strip" "b" "LPlankUnroll$Row;", Cond.static yX6_apart, Cond.code yX6_apart cX6_apart 8 (some .double), Cond.fieldLink RX6 71 "PlankUnroll$Place" "x" "D", Cond.fieldLink RX6 77 "PlankUnroll$Place" "y" "D", Cond.fieldLink RX6 80 "PlankUnroll$Place" "z" "D", Cond.methodLink RX6 155 yX6_root, Cond.static yX6_root, Cond.code yX6_root cX6_root 5 (some .double), Cond.constantDouble RX6 249 (4611686018427387904)]
def wsL_width : List Cond := .codeWith yL_width cL_width 5 (some .int) [(0, 9, 12, 13)] :: ((wsL_width_r1 ++ wsL_width_r2) ++ wsX60 ++ wsX50 ++ wsX40 ++ wsX30 ++ (vx_atS RX6 111 "java/lang/IndexOutOfBoundsException" ["java/lang/RuntimeException", "java/lang/Exception"]).filter goodWord)
def wsL_girth_r1 : List Cond := [Cond.classLink RL 13 "java/lang/IndexOutOfBoundsException", Cond.methodLink RL 44 yX6_girth, Cond.instanceMethod yX6_girth, Cond.selects RX6 yX6_girth yX6_girth, Cond.initialized RX6, Cond.code yX6_girth cX6_girth 8 (some .double), Cond.fieldLink RX6 28 "PlankUnroll" "strips" "[LPlankUnroll$Strip;", Cond.methodLink RX6 158 yX6_checkFrame, Cond.instanceMethod yX6_checkFrame, Cond.selects RX6 yX6_checkFrame yX6_checkFrame, Cond.code yX6_checkFrame cX6_checkFrame 2 none, Cond.classLink RX6 107 "java/lang/IndexOutOfBoundsException", Cond.initialized "java/lang/IndexOutOfBoundsException", Cond.fieldLink RX6 13 "PlankUnroll" "frames" "I", Cond.methodLink RX6 161 yX5_across, Cond.instanceMethod yX5_across, Cond.selects RX5 yX5_across yX5_across, Cond.initialized RX5, Cond.code yX5_across cX5_across 2 (some .double), Cond.fieldLink RX5 9 "PlankUnroll$Strip" "a" "LPlankUnroll$Row;", Cond.fieldLink RX5 49 "PlankUnroll$Row" "places" "[LPlankUnroll$Place;", Cond.fieldLink RX5 15 "PlankUnroll$Strip" "b" "LPlankUnroll$Row;", Cond.static yX6_apart, Cond.code yX6_apart cX6_apart 8 (some .double)]
def wsL_girth_r2 : List Cond := [Cond.fieldLink RX6 71 "PlankUnroll$Place" "x" "D", Cond.fieldLink RX6 77 "PlankUnroll$Place" "y" "D", Cond.fieldLink RX6 80 "PlankUnroll$Place" "z" "D", Cond.methodLink RX6 155 yX6_root, Cond.static yX6_root, Cond.code yX6_root cX6_root 5 (some .double), Cond.constantDouble RX6 249 (4611686018427387904)]
def wsL_girth : List Cond := .codeWith yL_girth cL_girth 4 (some .int) [(0, 8, 11, 13)] :: ((wsL_girth_r1 ++ wsL_girth_r2) ++ wsX60 ++ wsX50 ++ wsX40 ++ wsX30 ++ (vx_atS RX6 111 "java/lang/IndexOutOfBoundsException" ["java/lang/RuntimeException", "java/lang/Exception"]).filter goodWord)
def wsL_butt : List Cond := .codeWith yL_butt cL_butt 6 (some .int) [(0, 19, 22, 13)] :: ([.classLink RL 13 "java/lang/IndexOutOfBoundsException", .methodLink RL 48 yX6_butt, .instanceMethod yX6_butt, .selects RX6 yX6_butt yX6_butt, .initialized RX6, .code yX6_butt cX6_butt 6 (some .boolean), .fieldLink RX6 164 "PlankUnroll$Strip" "butts" "[Z", .methodLink RX6 90 yX6_stripAt, .instanceMethod yX6_stripAt, .selects RX6 yX6_stripAt yX6_stripAt, .code yX6_stripAt cX6_stripAt 2 (some (.object "PlankUnroll$Strip")), .classLink RX6 107 "java/lang/IndexOutOfBoundsException", .initialized "java/lang/IndexOutOfBoundsException", .fieldLink RX6 28 "PlankUnroll" "strips" "[LPlankUnroll$Strip;", .methodLink RX6 158 yX6_checkFrame, .instanceMethod yX6_checkFrame, .selects RX6 yX6_checkFrame yX6_checkFrame, .code yX6_checkFrame cX6_checkFrame 2 none, .fieldLink RX6 13 "PlankUnroll" "frames" "I"] ++ wsX50 ++ wsX60 ++ (vx_atS RX6 111 "java/lang/IndexOutOfBoundsException" ["java/lang/RuntimeException", "java/lang/Exception"]).filter goodWord)
def wsL_spans : List Cond := .codeWith yL_spans cL_spans 4 (some .int) [(0, 16, 19, 15)] :: ([.classLink RL 15 "java/lang/IllegalArgumentException", .methodLink RL 52 yX6_spans, .instanceMethod yX6_spans, .selects RX6 yX6_spans yX6_spans, .initialized RX6, .code yX6_spans cX6_spans 3 (some .boolean), .classLink RX6 64 "java/lang/IllegalArgumentException", .initialized "java/lang/IllegalArgumentException", .fieldLink RX6 28 "PlankUnroll" "strips" "[LPlankUnroll$Strip;", .methodLink RX6 170 yX5_keepsOwn, .instanceMethod yX5_keepsOwn, .selects RX5 yX5_keepsOwn yX5_keepsOwn, .initialized RX5, .code yX5_keepsOwn cX5_keepsOwn 4 (some .boolean), .fieldLink RX5 25 "PlankUnroll$Strip" "butts" "[Z", .methodLink RX6 174 yX5_keepsBeside, .instanceMethod yX5_keepsBeside, .selects RX5 yX5_keepsBeside yX5_keepsBeside, .code yX5_keepsBeside cX5_keepsBeside 5 (some .boolean), .methodLink RX5 86 Lib.Math.abs.name, .static Lib.Math.abs.name, .initialized "java/lang/Math", .code Lib.Math.abs.name Lib.Math.abs.code 1 (some .int)] ++ wsX60 ++ wsX50 ++ (vx_atS RX6 68 "java/lang/IllegalArgumentException" ["java/lang/RuntimeException", "java/lang/Exception"]).filter goodWord)
def wsL_board_r1 : List Cond := [Cond.classLink RL 15 "java/lang/IllegalArgumentException", Cond.classLink RL 25 "java/lang/IllegalStateException", Cond.methodLink RL 56 yX6_board, Cond.instanceMethod yX6_board, Cond.selects RX6 yX6_board yX6_board, Cond.initialized RX6, Cond.code yX6_board cX6_board 5 (some .int), Cond.classLink RX6 64 "java/lang/IllegalArgumentException", Cond.initialized "java/lang/IllegalArgumentException", Cond.classLink RX6 102 "java/lang/IllegalStateException", Cond.initialized "java/lang/IllegalStateException", Cond.constantDouble RX6 58 (4652007308841189376), Cond.fieldLink RX6 38 "PlankUnroll" "boards" "Ljava/util/ArrayList;", Cond.classLink RX6 186 RX0, Cond.instantiable RX0 3, Cond.initialized RX0, Cond.methodLink RX6 60 yX6_within, Cond.static yX6_within, Cond.code yX6_within cX6_within 6 (some .boolean), Cond.methodLink RX6 180 yJx4a65c_size_8abf5, Cond.instanceMethod yJx4a65c_size_8abf5, Cond.selects RJx4a65c yJx4a65c_size_8abf5 yJx4a65c_size_8abf5, Cond.initialized RJx4a65c, Cond.code yJx4a65c_size_8abf5 cJx4a65c_size_8abf5 1 (some .int)]
def wsL_board_r2 : List Cond := [Cond.fieldLink RJx4a65c 48 "java/util/ArrayList" "size" "I", Cond.methodLink RX6 188 yX0_init, Cond.instanceMethod yX0_init, Cond.code yX0_init cX0_init 5 none, Cond.methodLink RX0 1 objectInit, Cond.instanceMethod objectInit, Cond.code objectInit ⟨#[0xb1]⟩ 1 none, Cond.fieldLink RX0 7 "PlankUnroll$Board" "w" "D", Cond.fieldLink RX0 13 "PlankUnroll$Board" "h" "D", Cond.classLink RX0 16 RJx4a65c, Cond.instantiable RJx4a65c 3, Cond.fieldLink RX0 19 "PlankUnroll$Board" "faults" "Ljava/util/ArrayList;", Cond.methodLink RX0 18 yJx4a65c_init_da8c8, Cond.instanceMethod yJx4a65c_init_da8c8, Cond.code yJx4a65c_init_da8c8 cJx4a65c_init_da8c8 1 none, Cond.fieldLink RJx4a65c 39 "java/util/ArrayList" "DEFAULTCAPACITY_EMPTY_ELEMENTDATA" "[Ljava/lang/Object;", Cond.fieldLink RJx4a65c 9 "java/util/ArrayList" "elementData" "[Ljava/lang/Object;", Cond.methodLink RJx4a65c 1 yJxc12de_init_da8c8, Cond.instanceMethod yJxc12de_init_da8c8, Cond.initialized RJxc12de, Cond.code yJxc12de_init_da8c8 cJxc12de_init_da8c8 1 none, Cond.fieldLink RJxc12de 7 "java/util/AbstractList" "modCount" "I", Cond.methodLink RJxc12de 1 yJxa1e45_init_da8c8, Cond.instanceMethod yJxa1e45_init_da8c8]
def wsL_board_r3 : List Cond := [Cond.initialized RJxa1e45, Cond.code yJxa1e45_init_da8c8 cJxa1e45_init_da8c8 1 none, Cond.methodLink RJxa1e45 1 objectInit, Cond.methodLink RX6 191 yJx4a65c_add_9ea2d, Cond.instanceMethod yJx4a65c_add_9ea2d, Cond.selects RJx4a65c yJx4a65c_add_9ea2d yJx4a65c_add_9ea2d, Cond.code yJx4a65c_add_9ea2d cJx4a65c_add_9ea2d 2 (some .boolean), Cond.fieldLink RJx4a65c 63 "java/util/ArrayList" "modCount" "I", Cond.sameField "java/util/ArrayList" "java/util/AbstractList" "modCount" "I", Cond.methodLink RJx4a65c 131 yJx4a65c_add_72be8, Cond.instanceMethod yJx4a65c_add_72be8, Cond.selects RJx4a65c yJx4a65c_add_72be8 yJx4a65c_add_72be8, Cond.code yJx4a65c_add_72be8 cJx4a65c_add_72be8 4 none, Cond.methodLink RJx4a65c 129 yJx4a65c_grow_d5877, Cond.instanceMethod yJx4a65c_grow_d5877, Cond.selects RJx4a65c yJx4a65c_grow_d5877 yJx4a65c_grow_d5877, Cond.code yJx4a65c_grow_d5877 cJx4a65c_grow_d5877 1 (some (.array (.object "java/lang/Object"))), Cond.methodLink RJx4a65c 69 yJx4a65c_grow_92f84, Cond.instanceMethod yJx4a65c_grow_92f84, Cond.selects RJx4a65c yJx4a65c_grow_92f84 yJx4a65c_grow_92f84, Cond.code yJx4a65c_grow_92f84 cJx4a65c_grow_92f84 4 (some (.array (.object "java/lang/Object"))), Cond.methodLink RJx4a65c 79 Lib.Math.max.name, Cond.static Lib.Math.max.name, Cond.initialized "java/lang/Math"]
def wsL_board_r4 : List Cond := [Cond.code Lib.Math.max.name Lib.Math.max.code 2 (some .int), Cond.classLink RJx4a65c 7 "java/lang/Object", Cond.methodLink RJx4a65c 73 yJ8_newLength_cabcc, Cond.static yJ8_newLength_cabcc, Cond.initialized RJ8, Cond.code yJ8_newLength_cabcc cJ8_newLength_cabcc 4 (some .int), Cond.methodLink RJ8 194 Lib.Math.max.name, Cond.constant RJ8 200 (2147483639), Cond.methodLink RJ8 201 yJ8_hugeLength_7cf53, Cond.static yJ8_hugeLength_7cf53, Cond.code yJ8_hugeLength_7cf53 cJ8_hugeLength_7cf53 3 (some .int), Cond.methodLink RJx4a65c 66 yJ7_copyOf_1904c, Cond.static yJ7_copyOf_1904c, Cond.initialized RJ7, Cond.code yJ7_copyOf_1904c cJ7_copyOf_1904c 2 (some (.array (.object "java/lang/Object"))), Cond.methodLink RJ7 86 ⟨"java/lang/Object", "getClass", "()Ljava/lang/Class;"⟩, Cond.selects "[Ljava/lang/Object;" ⟨"java/lang/Object", "getClass", "()Ljava/lang/Class;"⟩ ⟨"java/lang/Object", "getClass", "()Ljava/lang/Class;"⟩, Cond.instanceMethod ⟨"java/lang/Object", "getClass", "()Ljava/lang/Class;"⟩, Cond.native ⟨"java/lang/Object", "getClass", "()Ljava/lang/Class;"⟩, Cond.methodLink RJ7 300 yJ7_copyOf_6403c, Cond.static yJ7_copyOf_6403c, Cond.code yJ7_copyOf_6403c cJ7_copyOf_6403c 4 (some (.array (.object "java/lang/Object"))), Cond.classLink RJ7 110 "[Ljava/lang/Object;", Cond.classLink RJ7 2 "java/lang/Object"]
def wsL_board_r5 : List Cond := [Cond.methodLink RJ7 304 Lib.Math.min.name, Cond.static Lib.Math.min.name, Cond.code Lib.Math.min.name Lib.Math.min.code 2 (some .int), Cond.methodLink RJ7 150 arraycopyName, Cond.native arraycopyName, Cond.static arraycopyName, Cond.initialized "java/lang/System"]
def wsL_board : List Cond := .codeWith yL_board cL_board 7 (some .int) [(0, 11, 14, 15), (0, 11, 18, 25)] :: ((wsL_board_r1 ++ (wsL_board_r2 ++ (wsL_board_r3 ++ (wsL_board_r4 ++ wsL_board_r5)))) ++ wsX60 ++ wsX00 ++ wsJx4a65c0 ++ (vx_atS RX6 68 "java/lang/IllegalArgumentException" ["java/lang/RuntimeException", "java/lang/Exception"]).filter goodWord ++ (vx_atS RX6 106 "java/lang/IllegalStateException" ["java/lang/RuntimeException", "java/lang/Exception"]).filter goodWord)
def wsL_fault_r1 : List Cond := [Cond.classLink RL 13 "java/lang/IndexOutOfBoundsException", Cond.classLink RL 15 "java/lang/IllegalArgumentException", Cond.methodLink RL 60 yX6_fault, Cond.instanceMethod yX6_fault, Cond.selects RX6 yX6_fault yX6_fault, Cond.initialized RX6, Cond.code yX6_fault cX6_fault 11 (some .boolean), Cond.classLink RX6 64 "java/lang/IllegalArgumentException", Cond.initialized "java/lang/IllegalArgumentException", Cond.constantDouble RX6 58 (4652007308841189376), Cond.constantDouble RX6 201 (4593671619917905920), Cond.fieldLink RX6 205 "PlankUnroll$Board" "faults" "Ljava/util/ArrayList;", Cond.classLink RX6 208 RX1, Cond.instantiable RX1 4, Cond.initialized RX1, Cond.methodLink RX6 195 yX6_boardAt, Cond.instanceMethod yX6_boardAt, Cond.selects RX6 yX6_boardAt yX6_boardAt, Cond.code yX6_boardAt cX6_boardAt 2 (some (.object "PlankUnroll$Board")), Cond.classLink RX6 107 "java/lang/IndexOutOfBoundsException", Cond.initialized "java/lang/IndexOutOfBoundsException", Cond.fieldLink RX6 38 "PlankUnroll" "boards" "Ljava/util/ArrayList;", Cond.classLink RX6 186 "PlankUnroll$Board", Cond.methodLink RX6 180 yJx4a65c_size_8abf5]
def wsL_fault_r2 : List Cond := [Cond.instanceMethod yJx4a65c_size_8abf5, Cond.selects RJx4a65c yJx4a65c_size_8abf5 yJx4a65c_size_8abf5, Cond.initialized RJx4a65c, Cond.code yJx4a65c_size_8abf5 cJx4a65c_size_8abf5 1 (some .int), Cond.fieldLink RJx4a65c 48 "java/util/ArrayList" "size" "I", Cond.methodLink RX6 263 yJx4a65c_get_915e3, Cond.instanceMethod yJx4a65c_get_915e3, Cond.selects RJx4a65c yJx4a65c_get_915e3 yJx4a65c_get_915e3, Cond.code yJx4a65c_get_915e3 cJx4a65c_get_915e3 2 (some (.object "java/lang/Object")), Cond.methodLink RJx4a65c 118 yJ15_checkIndex_7cf53, Cond.static yJ15_checkIndex_7cf53, Cond.initialized RJ15, Cond.code yJ15_checkIndex_7cf53 cJ15_checkIndex_7cf53 2 (some .int), Cond.methodLink RJ15 105 yJ3_checkIndex_8e157, Cond.static yJ3_checkIndex_8e157, Cond.initialized RJ3, Cond.code yJ3_checkIndex_8e157 cJ3_checkIndex_8e157 3 (some .int), Cond.methodLink RJx4a65c 123 yJx4a65c_elementData_915e3, Cond.instanceMethod yJx4a65c_elementData_915e3, Cond.selects RJx4a65c yJx4a65c_elementData_915e3 yJx4a65c_elementData_915e3, Cond.code yJx4a65c_elementData_915e3 cJx4a65c_elementData_915e3 2 (some (.object "java/lang/Object")), Cond.fieldLink RJx4a65c 9 "java/util/ArrayList" "elementData" "[Ljava/lang/Object;", Cond.methodLink RX6 60 yX6_within, Cond.static yX6_within]
def wsL_fault_r3 : List Cond := [Cond.code yX6_within cX6_within 6 (some .boolean), Cond.methodLink RX6 210 yX1_init, Cond.instanceMethod yX1_init, Cond.code yX1_init cX1_init 9 none, Cond.methodLink RX1 1 objectInit, Cond.instanceMethod objectInit, Cond.code objectInit ⟨#[0xb1]⟩ 1 none, Cond.fieldLink RX1 7 "PlankUnroll$Box" "x" "D", Cond.fieldLink RX1 13 "PlankUnroll$Box" "y" "D", Cond.fieldLink RX1 16 "PlankUnroll$Box" "w" "D", Cond.fieldLink RX1 19 "PlankUnroll$Box" "h" "D", Cond.methodLink RX6 191 yJx4a65c_add_9ea2d, Cond.instanceMethod yJx4a65c_add_9ea2d, Cond.selects RJx4a65c yJx4a65c_add_9ea2d yJx4a65c_add_9ea2d, Cond.code yJx4a65c_add_9ea2d cJx4a65c_add_9ea2d 2 (some .boolean), Cond.fieldLink RJx4a65c 63 "java/util/ArrayList" "modCount" "I", Cond.sameField "java/util/ArrayList" "java/util/AbstractList" "modCount" "I", Cond.methodLink RJx4a65c 131 yJx4a65c_add_72be8, Cond.instanceMethod yJx4a65c_add_72be8, Cond.selects RJx4a65c yJx4a65c_add_72be8 yJx4a65c_add_72be8, Cond.code yJx4a65c_add_72be8 cJx4a65c_add_72be8 4 none, Cond.methodLink RJx4a65c 129 yJx4a65c_grow_d5877, Cond.instanceMethod yJx4a65c_grow_d5877, Cond.selects RJx4a65c yJx4a65c_grow_d5877 yJx4a65c_grow_d5877]
def wsL_fault_r4 : List Cond := [Cond.code yJx4a65c_grow_d5877 cJx4a65c_grow_d5877 1 (some (.array (.object "java/lang/Object"))), Cond.methodLink RJx4a65c 69 yJx4a65c_grow_92f84, Cond.instanceMethod yJx4a65c_grow_92f84, Cond.selects RJx4a65c yJx4a65c_grow_92f84 yJx4a65c_grow_92f84, Cond.code yJx4a65c_grow_92f84 cJx4a65c_grow_92f84 4 (some (.array (.object "java/lang/Object"))), Cond.fieldLink RJx4a65c 39 "java/util/ArrayList" "DEFAULTCAPACITY_EMPTY_ELEMENTDATA" "[Ljava/lang/Object;", Cond.methodLink RJx4a65c 79 Lib.Math.max.name, Cond.static Lib.Math.max.name, Cond.initialized "java/lang/Math", Cond.code Lib.Math.max.name Lib.Math.max.code 2 (some .int), Cond.classLink RJx4a65c 7 "java/lang/Object", Cond.methodLink RJx4a65c 73 yJ8_newLength_cabcc, Cond.static yJ8_newLength_cabcc, Cond.initialized RJ8, Cond.code yJ8_newLength_cabcc cJ8_newLength_cabcc 4 (some .int), Cond.methodLink RJ8 194 Lib.Math.max.name, Cond.constant RJ8 200 (2147483639), Cond.methodLink RJ8 201 yJ8_hugeLength_7cf53, Cond.static yJ8_hugeLength_7cf53, Cond.code yJ8_hugeLength_7cf53 cJ8_hugeLength_7cf53 3 (some .int), Cond.methodLink RJx4a65c 66 yJ7_copyOf_1904c, Cond.static yJ7_copyOf_1904c, Cond.initialized RJ7, Cond.code yJ7_copyOf_1904c cJ7_copyOf_1904c 2 (some (.array (.object "java/lang/Object")))]
def wsL_fault_r5 : List Cond := [Cond.methodLink RJ7 86 ⟨"java/lang/Object", "getClass", "()Ljava/lang/Class;"⟩, Cond.selects "[Ljava/lang/Object;" ⟨"java/lang/Object", "getClass", "()Ljava/lang/Class;"⟩ ⟨"java/lang/Object", "getClass", "()Ljava/lang/Class;"⟩, Cond.instanceMethod ⟨"java/lang/Object", "getClass", "()Ljava/lang/Class;"⟩, Cond.native ⟨"java/lang/Object", "getClass", "()Ljava/lang/Class;"⟩, Cond.methodLink RJ7 300 yJ7_copyOf_6403c, Cond.static yJ7_copyOf_6403c, Cond.code yJ7_copyOf_6403c cJ7_copyOf_6403c 4 (some (.array (.object "java/lang/Object"))), Cond.classLink RJ7 110 "[Ljava/lang/Object;", Cond.classLink RJ7 2 "java/lang/Object", Cond.methodLink RJ7 304 Lib.Math.min.name, Cond.static Lib.Math.min.name, Cond.code Lib.Math.min.name Lib.Math.min.code 2 (some .int), Cond.methodLink RJ7 150 arraycopyName, Cond.native arraycopyName, Cond.static arraycopyName, Cond.initialized "java/lang/System"]
def wsL_fault : List Cond := .codeWith yL_fault cL_fault 12 (some .int) [(0, 24, 27, 13), (0, 24, 31, 15)] :: ((wsL_fault_r1 ++ (wsL_fault_r2 ++ (wsL_fault_r3 ++ (wsL_fault_r4 ++ wsL_fault_r5)))) ++ wsX00 ++ wsX10 ++ wsX60 ++ wsJx4a65c0 ++ (vx_atS RX6 68 "java/lang/IllegalArgumentException" ["java/lang/RuntimeException", "java/lang/Exception"]).filter goodWord ++ (vx_atS RX6 111 "java/lang/IndexOutOfBoundsException" ["java/lang/RuntimeException", "java/lang/Exception"]).filter goodWord)
def wsL_nest_r1 : List Cond := [Cond.classLink RL 13 "java/lang/IndexOutOfBoundsException", Cond.classLink RL 25 "java/lang/IllegalStateException", Cond.methodLink RL 64 yX6_nest, Cond.instanceMethod yX6_nest, Cond.selects RX6 yX6_nest yX6_nest, Cond.initialized RX6, Cond.code yX6_nest cX6_nest 6 (some .int), Cond.classLink RX6 102 "java/lang/IllegalStateException", Cond.initialized "java/lang/IllegalStateException", Cond.fieldLink RX6 213 "PlankUnroll$Strip" "board" "I", Cond.fieldLink RX6 218 "PlankUnroll$Strip" "box" "LPlankUnroll$Box;", Cond.fieldLink RX6 226 "PlankUnroll$Strip" "eighths" "I", Cond.methodLink RX6 195 yX6_boardAt, Cond.instanceMethod yX6_boardAt, Cond.selects RX6 yX6_boardAt yX6_boardAt, Cond.code yX6_boardAt cX6_boardAt 2 (some (.object "PlankUnroll$Board")), Cond.classLink RX6 107 "java/lang/IndexOutOfBoundsException", Cond.initialized "java/lang/IndexOutOfBoundsException", Cond.fieldLink RX6 38 "PlankUnroll" "boards" "Ljava/util/ArrayList;", Cond.classLink RX6 186 "PlankUnroll$Board", Cond.methodLink RX6 180 yJx4a65c_size_8abf5, Cond.instanceMethod yJx4a65c_size_8abf5, Cond.selects RJx4a65c yJx4a65c_size_8abf5 yJx4a65c_size_8abf5, Cond.initialized RJx4a65c]
def wsL_nest_r2 : List Cond := [Cond.code yJx4a65c_size_8abf5 cJx4a65c_size_8abf5 1 (some .int), Cond.fieldLink RJx4a65c 48 "java/util/ArrayList" "size" "I", Cond.methodLink RX6 263 yJx4a65c_get_915e3, Cond.instanceMethod yJx4a65c_get_915e3, Cond.selects RJx4a65c yJx4a65c_get_915e3 yJx4a65c_get_915e3, Cond.code yJx4a65c_get_915e3 cJx4a65c_get_915e3 2 (some (.object "java/lang/Object")), Cond.methodLink RJx4a65c 118 yJ15_checkIndex_7cf53, Cond.static yJ15_checkIndex_7cf53, Cond.initialized RJ15, Cond.code yJ15_checkIndex_7cf53 cJ15_checkIndex_7cf53 2 (some .int), Cond.methodLink RJ15 105 yJ3_checkIndex_8e157, Cond.static yJ3_checkIndex_8e157, Cond.initialized RJ3, Cond.code yJ3_checkIndex_8e157 cJ3_checkIndex_8e157 3 (some .int), Cond.methodLink RJx4a65c 123 yJx4a65c_elementData_915e3, Cond.instanceMethod yJx4a65c_elementData_915e3, Cond.selects RJx4a65c yJx4a65c_elementData_915e3 yJx4a65c_elementData_915e3, Cond.code yJx4a65c_elementData_915e3 cJx4a65c_elementData_915e3 2 (some (.object "java/lang/Object")), Cond.fieldLink RJx4a65c 9 "java/util/ArrayList" "elementData" "[Ljava/lang/Object;", Cond.methodLink RX6 90 yX6_stripAt, Cond.instanceMethod yX6_stripAt, Cond.selects RX6 yX6_stripAt yX6_stripAt, Cond.code yX6_stripAt cX6_stripAt 2 (some (.object "PlankUnroll$Strip")), Cond.fieldLink RX6 28 "PlankUnroll" "strips" "[LPlankUnroll$Strip;"]
def wsL_nest_r3 : List Cond := [Cond.methodLink RX6 114 yX6_needUnrolled, Cond.static yX6_needUnrolled, Cond.code yX6_needUnrolled cX6_needUnrolled 1 none, Cond.fieldLink RX6 94 "PlankUnroll$Strip" "unrolled" "Z", Cond.methodLink RX6 222 yX6_leastEighths, Cond.instanceMethod yX6_leastEighths, Cond.selects RX6 yX6_leastEighths yX6_leastEighths, Cond.code yX6_leastEighths cX6_leastEighths 6 (some .int), Cond.fieldLink RX6 273 "PlankUnroll$Box" "y" "D", Cond.fieldLink RX6 274 "PlankUnroll$Box" "h" "D", Cond.fieldLink RX6 277 "PlankUnroll$Board" "h" "D", Cond.constantDouble RX6 278 (4620693217682128896), Cond.fieldLink RX6 280 "PlankUnroll$Box" "x" "D", Cond.fieldLink RX6 281 "PlankUnroll$Box" "w" "D", Cond.fieldLink RX6 284 "PlankUnroll$Board" "w" "D", Cond.methodLink RX6 237 Lib.Math.max.name, Cond.static Lib.Math.max.name, Cond.initialized "java/lang/Math", Cond.code Lib.Math.max.name Lib.Math.max.code 2 (some .int), Cond.methodLink RX6 285 yX6_overlapped, Cond.instanceMethod yX6_overlapped, Cond.selects RX6 yX6_overlapped yX6_overlapped, Cond.code yX6_overlapped cX6_overlapped 8 (some (.object "PlankUnroll$Box")), Cond.fieldLink RX6 205 "PlankUnroll$Board" "faults" "Ljava/util/ArrayList;"]
def wsL_nest_r4 : List Cond := [Cond.classLink RX6 208 "PlankUnroll$Box", Cond.methodLink RX6 293 yX1_overlaps, Cond.instanceMethod yX1_overlaps, Cond.selects RX1 yX1_overlaps yX1_overlaps, Cond.initialized RX1, Cond.code yX1_overlaps cX1_overlaps 2 (some .boolean), Cond.fieldLink RX1 7 "PlankUnroll$Box" "x" "D", Cond.fieldLink RX1 16 "PlankUnroll$Box" "w" "D", Cond.fieldLink RX1 13 "PlankUnroll$Box" "y" "D", Cond.fieldLink RX1 19 "PlankUnroll$Box" "h" "D", Cond.methodLink RX6 289 yX6_lastEighthsBefore, Cond.static yX6_lastEighthsBefore, Cond.code yX6_lastEighthsBefore cX6_lastEighthsBefore 3 (some .int)]
def wsL_nest : List Cond := .codeWith yL_nest cL_nest 5 (some .int) [(0, 10, 13, 13), (0, 10, 17, 25)] :: ((wsL_nest_r1 ++ (wsL_nest_r2 ++ (wsL_nest_r3 ++ wsL_nest_r4))) ++ wsX50 ++ wsX60 ++ wsJx4a65c0 ++ wsX10 ++ wsX00 ++ (vx_atS RX6 106 "java/lang/IllegalStateException" ["java/lang/RuntimeException", "java/lang/Exception"]).filter goodWord ++ (vx_atS RX6 111 "java/lang/IndexOutOfBoundsException" ["java/lang/RuntimeException", "java/lang/Exception"]).filter goodWord)
def wsL_lies : List Cond := .codeWith yL_lies cL_lies 5 (some .int) [(0, 10, 13, 13)] :: ([.classLink RL 13 "java/lang/IndexOutOfBoundsException", .methodLink RL 68 yX6_lies, .instanceMethod yX6_lies, .selects RX6 yX6_lies yX6_lies, .initialized RX6, .code yX6_lies cX6_lies 4 (some .int), .classLink RX6 107 "java/lang/IndexOutOfBoundsException", .initialized "java/lang/IndexOutOfBoundsException", .fieldLink RX6 213 "PlankUnroll$Strip" "board" "I", .fieldLink RX6 226 "PlankUnroll$Strip" "eighths" "I", .methodLink RX6 90 yX6_stripAt, .instanceMethod yX6_stripAt, .selects RX6 yX6_stripAt yX6_stripAt, .code yX6_stripAt cX6_stripAt 2 (some (.object "PlankUnroll$Strip")), .fieldLink RX6 28 "PlankUnroll" "strips" "[LPlankUnroll$Strip;"] ++ wsX50 ++ wsX60 ++ (vx_atS RX6 111 "java/lang/IndexOutOfBoundsException" ["java/lang/RuntimeException", "java/lang/Exception"]).filter goodWord)
def wsL_staves_r1 : List Cond := [Cond.classLink RL 15 "java/lang/IllegalArgumentException", Cond.methodLink RL 71 yX6_staves, Cond.instanceMethod yX6_staves, Cond.selects RX6 yX6_staves yX6_staves, Cond.initialized RX6, Cond.code yX6_staves cX6_staves 9 (some .int), Cond.methodLink RX6 237 Lib.Math.max.name, Cond.static Lib.Math.max.name, Cond.initialized "java/lang/Math", Cond.code Lib.Math.max.name Lib.Math.max.code 2 (some .int), Cond.constant RX6 243 (100000), Cond.methodLink RX6 231 yX6_checkStaves, Cond.static yX6_checkStaves, Cond.code yX6_checkStaves cX6_checkStaves 4 none, Cond.classLink RX6 64 "java/lang/IllegalArgumentException", Cond.initialized "java/lang/IllegalArgumentException", Cond.constantDouble RX6 201 (4593671619917905920), Cond.constantDouble RX6 58 (4652007308841189376), Cond.methodLink RX6 60 yX6_within, Cond.static yX6_within, Cond.code yX6_within cX6_within 6 (some .boolean), Cond.methodLink RX6 234 yX6_circleOf, Cond.static yX6_circleOf, Cond.code yX6_circleOf cX6_circleOf 2 (some .double)]
def wsL_staves_r2 : List Cond := [Cond.constantDouble RX6 251 (4614256656552045848)]
def wsL_staves : List Cond := .codeWith yL_staves cL_staves 7 (some .int) [(0, 11, 14, 15)] :: ((wsL_staves_r1 ++ wsL_staves_r2) ++ (vx_atS RX6 68 "java/lang/IllegalArgumentException" ["java/lang/RuntimeException", "java/lang/Exception"]).filter goodWord)
def wsL_closes : List Cond := .codeWith yL_closes cL_closes 8 (some .int) [(0, 12, 15, 15)] :: ([.classLink RL 15 "java/lang/IllegalArgumentException", .methodLink RL 74 yX6_closes, .instanceMethod yX6_closes, .selects RX6 yX6_closes yX6_closes, .initialized RX6, .code yX6_closes cX6_closes 6 (some .double), .classLink RX6 64 "java/lang/IllegalArgumentException", .initialized "java/lang/IllegalArgumentException", .constant RX6 243 (100000), .methodLink RX6 231 yX6_checkStaves, .static yX6_checkStaves, .code yX6_checkStaves cX6_checkStaves 4 none, .constantDouble RX6 201 (4593671619917905920), .constantDouble RX6 58 (4652007308841189376), .methodLink RX6 60 yX6_within, .static yX6_within, .code yX6_within cX6_within 6 (some .boolean), .methodLink RX6 234 yX6_circleOf, .static yX6_circleOf, .code yX6_circleOf cX6_circleOf 2 (some .double), .constantDouble RX6 251 (4614256656552045848)] ++ (vx_atS RX6 68 "java/lang/IllegalArgumentException" ["java/lang/RuntimeException", "java/lang/Exception"]).filter goodWord)
def wsL_law0_r1 : List Cond := [Cond.classLink RL 8 RX6, Cond.instantiable RX6 6, Cond.initialized RX6, Cond.classLink RL 87 RX7, Cond.instantiable RX7 18, Cond.initialized RX7, Cond.arrayClass .long, Cond.arrayClass .double, Cond.constantDouble RL 90 (4593671619917905920), Cond.methodLink RL 78 yL_cell, Cond.static yL_cell, Cond.initialized RL, Cond.code yL_cell cL_cell 2 (some .int), Cond.methodLink RL 84 yX6_init, Cond.instanceMethod yX6_init, Cond.code yX6_init cX6_init 4 none, Cond.methodLink RX6 1 objectInit, Cond.instanceMethod objectInit, Cond.code objectInit ⟨#[0xb1]⟩ 1 none, Cond.fieldLink RX6 13 "PlankUnroll" "frames" "I", Cond.classLink RX6 17 RX4, Cond.fieldLink RX6 19 "PlankUnroll" "rows" "[LPlankUnroll$Row;", Cond.instantiable RX4 1, Cond.initialized RX4]
def wsL_law0_r2 : List Cond := [Cond.classLink RX6 26 RX5, Cond.fieldLink RX6 28 "PlankUnroll" "strips" "[LPlankUnroll$Strip;", Cond.instantiable RX5 9, Cond.initialized RX5, Cond.classLink RX6 35 RJx4a65c, Cond.instantiable RJx4a65c 3, Cond.initialized RJx4a65c, Cond.fieldLink RX6 38 "PlankUnroll" "boards" "Ljava/util/ArrayList;", Cond.classLink RX6 42 RX2, Cond.instantiable RX2 3, Cond.initialized RX2, Cond.fieldLink RX6 45 "PlankUnroll" "near" "LPlankUnroll$Normal;", Cond.fieldLink RX6 49 "PlankUnroll" "far" "LPlankUnroll$Normal;", Cond.methodLink RX6 7 yX6_nearestSize, Cond.static yX6_nearestSize, Cond.code yX6_nearestSize cX6_nearestSize 1 (some .int), Cond.methodLink RX6 246 Lib.Math.min.name, Cond.static Lib.Math.min.name, Cond.initialized "java/lang/Math", Cond.code Lib.Math.min.name Lib.Math.min.code 2 (some .int), Cond.methodLink RX6 237 Lib.Math.max.name, Cond.static Lib.Math.max.name, Cond.code Lib.Math.max.name Lib.Math.max.code 2 (some .int), Cond.methodLink RX6 23 yX4_init]
def wsL_law0_r3 : List Cond := [Cond.instanceMethod yX4_init, Cond.code yX4_init cX4_init 3 none, Cond.methodLink RX4 1 objectInit, Cond.classLink RX4 7 RX3, Cond.fieldLink RX4 9 "PlankUnroll$Row" "places" "[LPlankUnroll$Place;", Cond.instantiable RX3 3, Cond.initialized RX3, Cond.instanceMethod yX3_init, Cond.code yX3_init cX3_init 1 none, Cond.methodLink RX3 1 objectInit, Cond.methodLink RX6 32 yX5_init, Cond.instanceMethod yX5_init, Cond.code yX5_init cX5_init 4 none, Cond.methodLink RX5 3 objectInit, Cond.fieldLink RX5 9 "PlankUnroll$Strip" "a" "LPlankUnroll$Row;", Cond.fieldLink RX5 15 "PlankUnroll$Strip" "b" "LPlankUnroll$Row;", Cond.fieldLink RX5 18 "PlankUnroll$Strip" "cornerX" "[D", Cond.fieldLink RX5 22 "PlankUnroll$Strip" "cornerY" "[D", Cond.arrayClass .boolean, Cond.fieldLink RX5 25 "PlankUnroll$Strip" "butts" "[Z", Cond.classLink RX5 29 RX1, Cond.instantiable RX1 4, Cond.initialized RX1, Cond.fieldLink RX5 34 "PlankUnroll$Strip" "box" "LPlankUnroll$Box;"]
def wsL_law0_r4 : List Cond := [Cond.fieldLink RX5 38 "PlankUnroll$Strip" "board" "I", Cond.fieldLink RX5 42 "PlankUnroll$Strip" "eighths" "I", Cond.methodLink RX5 31 yX1_init, Cond.instanceMethod yX1_init, Cond.code yX1_init cX1_init 9 none, Cond.methodLink RX1 1 objectInit, Cond.fieldLink RX1 7 "PlankUnroll$Box" "x" "D", Cond.fieldLink RX1 13 "PlankUnroll$Box" "y" "D", Cond.fieldLink RX1 16 "PlankUnroll$Box" "w" "D", Cond.fieldLink RX1 19 "PlankUnroll$Box" "h" "D", Cond.methodLink RX6 37 yJx4a65c_init_da8c8, Cond.instanceMethod yJx4a65c_init_da8c8, Cond.code yJx4a65c_init_da8c8 cJx4a65c_init_da8c8 1 none, Cond.fieldLink RJx4a65c 39 "java/util/ArrayList" "DEFAULTCAPACITY_EMPTY_ELEMENTDATA" "[Ljava/lang/Object;", Cond.fieldLink RJx4a65c 9 "java/util/ArrayList" "elementData" "[Ljava/lang/Object;", Cond.methodLink RJx4a65c 1 yJxc12de_init_da8c8, Cond.instanceMethod yJxc12de_init_da8c8, Cond.initialized RJxc12de, Cond.code yJxc12de_init_da8c8 cJxc12de_init_da8c8 1 none, Cond.fieldLink RJxc12de 7 "java/util/AbstractList" "modCount" "I", Cond.methodLink RJxc12de 1 yJxa1e45_init_da8c8, Cond.instanceMethod yJxa1e45_init_da8c8, Cond.initialized RJxa1e45, Cond.code yJxa1e45_init_da8c8 cJxa1e45_init_da8c8 1 none]
def wsL_law0_r5 : List Cond := [Cond.methodLink RJxa1e45 1 objectInit, Cond.instanceMethod yX2_init, Cond.code yX2_init cX2_init 1 none, Cond.methodLink RX2 1 objectInit, Cond.methodLink RL 89 yX7_init, Cond.instanceMethod yX7_init, Cond.code yX7_init cX7_init 3 none, Cond.methodLink RX7 1 objectInit, Cond.fieldLink RX7 7 "PlankUnrollModel" "places" "[D", Cond.fieldLink RX7 13 "PlankUnrollModel" "unrolled" "[Z", Cond.fieldLink RX7 17 "PlankUnrollModel" "corners" "[D", Cond.fieldLink RX7 20 "PlankUnrollModel" "draft" "[D", Cond.fieldLink RX7 23 "PlankUnrollModel" "butts" "[Z", Cond.fieldLink RX7 26 "PlankUnrollModel" "wides" "[D", Cond.fieldLink RX7 29 "PlankUnrollModel" "highs" "[D", Cond.arrayClass .int, Cond.fieldLink RX7 32 "PlankUnrollModel" "faultCount" "[I", Cond.fieldLink RX7 36 "PlankUnrollModel" "faults" "[D", Cond.fieldLink RX7 39 "PlankUnrollModel" "liesOn" "[I", Cond.fieldLink RX7 42 "PlankUnrollModel" "liesAt" "[I", Cond.fieldLink RX7 45 "PlankUnrollModel" "frames" "I", Cond.fieldLink RX7 49 "PlankUnrollModel" "rows" "I", Cond.methodLink RL 92 yL_point, Cond.static yL_point]
def wsL_law0_r6 : List Cond := [Cond.codeWith yL_point cL_point 11 (some .int) [(0, 23, 26, 13), (0, 23, 30, 15)], Cond.classLink RL 13 "java/lang/IndexOutOfBoundsException", Cond.classLink RL 15 "java/lang/IllegalArgumentException", Cond.methodLink RL 7 yX6_point, Cond.instanceMethod yX6_point, Cond.selects RX6 yX6_point yX6_point, Cond.code yX6_point cX6_point 14 (some .boolean), Cond.classLink RX6 64 "java/lang/IllegalArgumentException", Cond.initialized "java/lang/IllegalArgumentException", Cond.constantDouble RX6 56 (13875379345695965184), Cond.constantDouble RX6 58 (4652007308841189376), Cond.fieldLink RX6 71 "PlankUnroll$Place" "x" "D", Cond.fieldLink RX6 77 "PlankUnroll$Place" "y" "D", Cond.fieldLink RX6 80 "PlankUnroll$Place" "z" "D", Cond.methodLink RX6 52 yX6_placeAt, Cond.instanceMethod yX6_placeAt, Cond.selects RX6 yX6_placeAt yX6_placeAt, Cond.code yX6_placeAt cX6_placeAt 3 (some (.object "PlankUnroll$Place")), Cond.classLink RX6 107 "java/lang/IndexOutOfBoundsException", Cond.initialized "java/lang/IndexOutOfBoundsException", Cond.fieldLink RX6 140 "PlankUnroll$Row" "places" "[LPlankUnroll$Place;", Cond.methodLink RX6 158 yX6_checkFrame, Cond.instanceMethod yX6_checkFrame, Cond.selects RX6 yX6_checkFrame yX6_checkFrame]
def wsL_law0_r7 : List Cond := [Cond.code yX6_checkFrame cX6_checkFrame 2 none, Cond.methodLink RX6 60 yX6_within, Cond.static yX6_within, Cond.code yX6_within cX6_within 6 (some .boolean), Cond.methodLink RX6 83 yX5_forget, Cond.instanceMethod yX5_forget, Cond.selects RX5 yX5_forget yX5_forget, Cond.code yX5_forget cX5_forget 1 none, Cond.fieldLink RX5 45 "PlankUnroll$Strip" "unrolled" "Z", Cond.methodLink RL 95 yX7_point, Cond.instanceMethod yX7_point, Cond.selects RX7 yX7_point yX7_point, Cond.code yX7_point cX7_point 13 (some .boolean), Cond.constantDouble RX7 57 (13875379345695965184), Cond.constantDouble RX7 59 (4652007308841189376), Cond.fieldLink RX7 52 "PlankUnrollModel" "thrown" "I", Cond.methodLink RX7 61 yX7_between, Cond.static yX7_between, Cond.code yX7_between cX7_between 6 (some .boolean), Cond.methodLink RX7 65 yX7_noPlace, Cond.instanceMethod yX7_noPlace, Cond.selects RX7 yX7_noPlace yX7_noPlace, Cond.code yX7_noPlace cX7_noPlace 3 (some .boolean), Cond.methodLink RX7 69 yX7_at]
def wsL_law0_r8 : List Cond := [Cond.instanceMethod yX7_at, Cond.selects RX7 yX7_at yX7_at, Cond.code yX7_at cX7_at 4 (some .double), Cond.methodLink RL 96 yX7_thrown, Cond.instanceMethod yX7_thrown, Cond.selects RX7 yX7_thrown yX7_thrown, Cond.code yX7_thrown cX7_thrown 1 (some .int), Cond.methodLink RL 100 yL_distance, Cond.static yL_distance, Cond.codeWith yL_distance cL_distance 7 (some .int) [(0, 13, 16, 13)], Cond.methodLink RL 17 yX6_distance, Cond.instanceMethod yX6_distance, Cond.selects RX6 yX6_distance yX6_distance, Cond.code yX6_distance cX6_distance 5 (some .double), Cond.methodLink RX6 86 yX6_apart, Cond.static yX6_apart, Cond.code yX6_apart cX6_apart 8 (some .double), Cond.methodLink RX6 155 yX6_root, Cond.static yX6_root, Cond.code yX6_root cX6_root 5 (some .double), Cond.constantDouble RX6 249 (4611686018427387904), Cond.methodLink RL 103 yX7_distance, Cond.instanceMethod yX7_distance, Cond.selects RX7 yX7_distance yX7_distance]
def wsL_law0_r9 : List Cond := [Cond.code yX7_distance cX7_distance 5 (some .double), Cond.methodLink RX7 77 yX7_far, Cond.instanceMethod yX7_far, Cond.selects RX7 yX7_far yX7_far, Cond.code yX7_far cX7_far 11 (some .double), Cond.methodLink RX7 73 yX7_root, Cond.static yX7_root, Cond.code yX7_root cX7_root 5 (some .double), Cond.constantDouble RX7 55 (4611686018427387904), Cond.methodLink RL 104 yL_unroll, Cond.static yL_unroll, Cond.codeWith yL_unroll cL_unroll 4 (some .int) [(0, 9, 12, 13), (0, 9, 15, 25)], Cond.classLink RL 25 "java/lang/IllegalStateException", Cond.methodLink RL 21 yX6_unroll, Cond.instanceMethod yX6_unroll, Cond.selects RX6 yX6_unroll yX6_unroll, Cond.code yX6_unroll cX6_unroll 3 (some .int), Cond.classLink RX6 102 "java/lang/IllegalStateException", Cond.initialized "java/lang/IllegalStateException", Cond.fieldLink RX6 94 "PlankUnroll$Strip" "unrolled" "Z", Cond.methodLink RX6 90 yX6_stripAt, Cond.instanceMethod yX6_stripAt, Cond.selects RX6 yX6_stripAt yX6_stripAt, Cond.code yX6_stripAt cX6_stripAt 2 (some (.object "PlankUnroll$Strip"))]
def wsL_law0_r10 : List Cond := [Cond.methodLink RX6 98 yX5_layFlat, Cond.instanceMethod yX5_layFlat, Cond.selects RX5 yX5_layFlat yX5_layFlat, Cond.code yX5_layFlat cX5_layFlat 8 (some .boolean), Cond.fieldLink RX5 49 "PlankUnroll$Row" "places" "[LPlankUnroll$Place;", Cond.fieldLink RX5 71 "PlankUnroll$Box" "w" "D", Cond.fieldLink RX5 75 "PlankUnroll$Box" "h" "D", Cond.methodLink RX5 59 yX5_across, Cond.instanceMethod yX5_across, Cond.selects RX5 yX5_across yX5_across, Cond.code yX5_across cX5_across 2 (some .double), Cond.methodLink RX5 63 yX5_put, Cond.instanceMethod yX5_put, Cond.selects RX5 yX5_put yX5_put, Cond.code yX5_put cX5_put 18 (some .boolean), Cond.constantDouble RX5 82 (4562146422526312448), Cond.constantDouble RX5 84 (4611686018427387904), Cond.methodLink RX5 67 yX5_extent, Cond.static yX5_extent, Cond.code yX5_extent cX5_extent 10 (some .double), Cond.methodLink RL 107 yX7_unroll, Cond.instanceMethod yX7_unroll, Cond.selects RX7 yX7_unroll yX7_unroll, Cond.code yX7_unroll cX7_unroll 4 (some .int)]
def wsL_law0_r11 : List Cond := [Cond.methodLink RX7 87 yX7_noStrip, Cond.instanceMethod yX7_noStrip, Cond.selects RX7 yX7_noStrip yX7_noStrip, Cond.code yX7_noStrip cX7_noStrip 2 (some .boolean), Cond.methodLink RX7 91 yX7_put, Cond.instanceMethod yX7_put, Cond.selects RX7 yX7_put yX7_put, Cond.code yX7_put cX7_put 18 (some .boolean), Cond.constantDouble RX7 85 (4562146422526312448), Cond.methodLink RX7 81 yX7_length, Cond.static yX7_length, Cond.code yX7_length cX7_length 4 (some .double), Cond.methodLink RL 108 yL_flat, Cond.static yL_flat, Cond.codeWith yL_flat cL_flat 6 (some .int) [(0, 11, 14, 13), (0, 11, 18, 25)], Cond.methodLink RL 27 yX6_flat, Cond.instanceMethod yX6_flat, Cond.selects RX6 yX6_flat yX6_flat, Cond.code yX6_flat cX6_flat 5 (some .double), Cond.fieldLink RX6 118 "PlankUnroll$Strip" "cornerX" "[D", Cond.fieldLink RX6 122 "PlankUnroll$Strip" "cornerY" "[D", Cond.methodLink RX6 114 yX6_needUnrolled, Cond.static yX6_needUnrolled, Cond.code yX6_needUnrolled cX6_needUnrolled 1 none]
def wsL_law0_r12 : List Cond := [Cond.methodLink RL 111 yX7_flat, Cond.instanceMethod yX7_flat, Cond.selects RX7 yX7_flat yX7_flat, Cond.code yX7_flat cX7_flat 4 (some .double), Cond.methodLink RL 112 yL_stretch, Cond.static yL_stretch, Cond.codeWith yL_stretch cL_stretch 5 (some .int) [(0, 9, 12, 13), (0, 9, 16, 25)], Cond.methodLink RL 31 yX6_stretch, Cond.instanceMethod yX6_stretch, Cond.selects RX6 yX6_stretch yX6_stretch, Cond.code yX6_stretch cX6_stretch 4 (some .double), Cond.methodLink RX6 125 yX6_checkCell, Cond.instanceMethod yX6_checkCell, Cond.selects RX6 yX6_checkCell yX6_checkCell, Cond.code yX6_checkCell cX6_checkCell 2 none, Cond.methodLink RX6 128 yX5_offDiagonal, Cond.instanceMethod yX5_offDiagonal, Cond.selects RX5 yX5_offDiagonal yX5_offDiagonal, Cond.code yX5_offDiagonal cX5_offDiagonal 8 (some .double), Cond.methodLink RL 115 yX7_stretch, Cond.instanceMethod yX7_stretch, Cond.selects RX7 yX7_stretch yX7_stretch, Cond.code yX7_stretch cX7_stretch 3 (some .double), Cond.methodLink RX7 95 yX7_noCell]
def wsL_law0_r13 : List Cond := [Cond.instanceMethod yX7_noCell, Cond.selects RX7 yX7_noCell yX7_noCell, Cond.code yX7_noCell cX7_noCell 3 (some .boolean), Cond.methodLink RX7 98 yX7_off, Cond.instanceMethod yX7_off, Cond.selects RX7 yX7_off yX7_off, Cond.code yX7_off cX7_off 5 (some .double), Cond.methodLink RL 116 yL_worst, Cond.static yL_worst, Cond.codeWith yL_worst cL_worst 4 (some .int) [(0, 9, 12, 13), (0, 9, 15, 25)], Cond.methodLink RL 35 yX6_worst, Cond.instanceMethod yX6_worst, Cond.selects RX6 yX6_worst yX6_worst, Cond.code yX6_worst cX6_worst 9 (some .int), Cond.methodLink RX6 132 yX6_sizeOf, Cond.static yX6_sizeOf, Cond.code yX6_sizeOf cX6_sizeOf 2 (some .double), Cond.methodLink RL 118 yX7_worst, Cond.instanceMethod yX7_worst, Cond.selects RX7 yX7_worst yX7_worst, Cond.code yX7_worst cX7_worst 8 (some .int), Cond.constantDouble RX7 102 (13830554455654793216), Cond.methodLink RL 119 yL_bevel, Cond.static yL_bevel]
def wsL_law0_r14 : List Cond := [Cond.codeWith yL_bevel cL_bevel 5 (some .int) [(0, 9, 12, 13)], Cond.methodLink RL 38 yX6_bevel, Cond.instanceMethod yX6_bevel, Cond.selects RX6 yX6_bevel yX6_bevel, Cond.code yX6_bevel cX6_bevel 10 (some .double), Cond.fieldLink RX6 136 "PlankUnroll$Strip" "a" "LPlankUnroll$Row;", Cond.fieldLink RX6 144 "PlankUnroll$Strip" "b" "LPlankUnroll$Row;", Cond.methodLink RX6 147 yX2_cross, Cond.instanceMethod yX2_cross, Cond.selects RX2 yX2_cross yX2_cross, Cond.code yX2_cross cX2_cross 16 none, Cond.fieldLink RX2 7 "PlankUnroll$Place" "x" "D", Cond.fieldLink RX2 13 "PlankUnroll$Place" "y" "D", Cond.fieldLink RX2 16 "PlankUnroll$Place" "z" "D", Cond.fieldLink RX2 19 "PlankUnroll$Normal" "x" "D", Cond.fieldLink RX2 22 "PlankUnroll$Normal" "y" "D", Cond.fieldLink RX2 23 "PlankUnroll$Normal" "z" "D", Cond.methodLink RX6 151 yX2_times, Cond.instanceMethod yX2_times, Cond.selects RX2 yX2_times yX2_times, Cond.code yX2_times cX2_times 2 (some .double), Cond.methodLink RL 121 yX7_bevel, Cond.instanceMethod yX7_bevel, Cond.selects RX7 yX7_bevel yX7_bevel]
def wsL_law0_r15 : List Cond := [Cond.code yX7_bevel cX7_bevel 13 (some .double), Cond.fieldLink RX7 104 "PlankUnrollModel" "px" "D", Cond.fieldLink RX7 108 "PlankUnrollModel" "py" "D", Cond.fieldLink RX7 111 "PlankUnrollModel" "pz" "D", Cond.methodLink RX7 114 yX7_cross, Cond.instanceMethod yX7_cross, Cond.selects RX7 yX7_cross yX7_cross, Cond.code yX7_cross cX7_cross 19 none, Cond.methodLink RL 122 yL_width, Cond.static yL_width, Cond.codeWith yL_width cL_width 5 (some .int) [(0, 9, 12, 13)], Cond.methodLink RL 41 yX6_width, Cond.instanceMethod yX6_width, Cond.selects RX6 yX6_width yX6_width, Cond.code yX6_width cX6_width 4 (some .double), Cond.methodLink RX6 161 yX5_across, Cond.methodLink RL 124 yX7_width, Cond.instanceMethod yX7_width, Cond.selects RX7 yX7_width yX7_width, Cond.code yX7_width cX7_width 3 (some .double), Cond.methodLink RL 125 yL_girth, Cond.static yL_girth, Cond.codeWith yL_girth cL_girth 4 (some .int) [(0, 8, 11, 13)], Cond.methodLink RL 44 yX6_girth]
def wsL_law0_r16 : List Cond := [Cond.instanceMethod yX6_girth, Cond.selects RX6 yX6_girth yX6_girth, Cond.code yX6_girth cX6_girth 8 (some .double), Cond.methodLink RL 128 yX7_girth, Cond.instanceMethod yX7_girth, Cond.selects RX7 yX7_girth yX7_girth, Cond.code yX7_girth cX7_girth 5 (some .double), Cond.methodLink RL 129 yL_butt, Cond.static yL_butt, Cond.codeWith yL_butt cL_butt 6 (some .int) [(0, 19, 22, 13)], Cond.methodLink RL 48 yX6_butt, Cond.instanceMethod yX6_butt, Cond.selects RX6 yX6_butt yX6_butt, Cond.code yX6_butt cX6_butt 6 (some .boolean), Cond.fieldLink RX6 164 "PlankUnroll$Strip" "butts" "[Z", Cond.methodLink RL 132 yX7_butt, Cond.instanceMethod yX7_butt, Cond.selects RX7 yX7_butt yX7_butt, Cond.code yX7_butt cX7_butt 5 (some .boolean), Cond.methodLink RL 133 yL_spans, Cond.static yL_spans, Cond.codeWith yL_spans cL_spans 4 (some .int) [(0, 16, 19, 15)], Cond.methodLink RL 52 yX6_spans, Cond.instanceMethod yX6_spans]
def wsL_law0_r17 : List Cond := [Cond.selects RX6 yX6_spans yX6_spans, Cond.code yX6_spans cX6_spans 3 (some .boolean), Cond.methodLink RX6 170 yX5_keepsOwn, Cond.instanceMethod yX5_keepsOwn, Cond.selects RX5 yX5_keepsOwn yX5_keepsOwn, Cond.code yX5_keepsOwn cX5_keepsOwn 4 (some .boolean), Cond.methodLink RX6 174 yX5_keepsBeside, Cond.instanceMethod yX5_keepsBeside, Cond.selects RX5 yX5_keepsBeside yX5_keepsBeside, Cond.code yX5_keepsBeside cX5_keepsBeside 5 (some .boolean), Cond.methodLink RX5 86 Lib.Math.abs.name, Cond.static Lib.Math.abs.name, Cond.code Lib.Math.abs.name Lib.Math.abs.code 1 (some .int), Cond.methodLink RL 135 yX7_spans, Cond.instanceMethod yX7_spans, Cond.selects RX7 yX7_spans yX7_spans, Cond.code yX7_spans cX7_spans 4 (some .boolean), Cond.methodLink RX7 118 yX7_keeps, Cond.instanceMethod yX7_keeps, Cond.selects RX7 yX7_keeps yX7_keeps, Cond.code yX7_keeps cX7_keeps 9 (some .boolean), Cond.methodLink RL 136 yL_board, Cond.static yL_board, Cond.codeWith yL_board cL_board 7 (some .int) [(0, 11, 14, 15), (0, 11, 18, 25)]]
def wsL_law0_r18 : List Cond := [Cond.methodLink RL 56 yX6_board, Cond.instanceMethod yX6_board, Cond.selects RX6 yX6_board yX6_board, Cond.code yX6_board cX6_board 5 (some .int), Cond.classLink RX6 186 RX0, Cond.instantiable RX0 3, Cond.initialized RX0, Cond.methodLink RX6 180 yJx4a65c_size_8abf5, Cond.instanceMethod yJx4a65c_size_8abf5, Cond.selects RJx4a65c yJx4a65c_size_8abf5 yJx4a65c_size_8abf5, Cond.code yJx4a65c_size_8abf5 cJx4a65c_size_8abf5 1 (some .int), Cond.fieldLink RJx4a65c 48 "java/util/ArrayList" "size" "I", Cond.methodLink RX6 188 yX0_init, Cond.instanceMethod yX0_init, Cond.code yX0_init cX0_init 5 none, Cond.methodLink RX0 1 objectInit, Cond.fieldLink RX0 7 "PlankUnroll$Board" "w" "D", Cond.fieldLink RX0 13 "PlankUnroll$Board" "h" "D", Cond.classLink RX0 16 RJx4a65c, Cond.fieldLink RX0 19 "PlankUnroll$Board" "faults" "Ljava/util/ArrayList;", Cond.methodLink RX0 18 yJx4a65c_init_da8c8, Cond.methodLink RX6 191 yJx4a65c_add_9ea2d, Cond.instanceMethod yJx4a65c_add_9ea2d, Cond.selects RJx4a65c yJx4a65c_add_9ea2d yJx4a65c_add_9ea2d]
def wsL_law0_r19 : List Cond := [Cond.code yJx4a65c_add_9ea2d cJx4a65c_add_9ea2d 2 (some .boolean), Cond.fieldLink RJx4a65c 63 "java/util/ArrayList" "modCount" "I", Cond.sameField "java/util/ArrayList" "java/util/AbstractList" "modCount" "I", Cond.methodLink RJx4a65c 131 yJx4a65c_add_72be8, Cond.instanceMethod yJx4a65c_add_72be8, Cond.selects RJx4a65c yJx4a65c_add_72be8 yJx4a65c_add_72be8, Cond.code yJx4a65c_add_72be8 cJx4a65c_add_72be8 4 none, Cond.methodLink RJx4a65c 129 yJx4a65c_grow_d5877, Cond.instanceMethod yJx4a65c_grow_d5877, Cond.selects RJx4a65c yJx4a65c_grow_d5877 yJx4a65c_grow_d5877, Cond.code yJx4a65c_grow_d5877 cJx4a65c_grow_d5877 1 (some (.array (.object "java/lang/Object"))), Cond.methodLink RJx4a65c 69 yJx4a65c_grow_92f84, Cond.instanceMethod yJx4a65c_grow_92f84, Cond.selects RJx4a65c yJx4a65c_grow_92f84 yJx4a65c_grow_92f84, Cond.code yJx4a65c_grow_92f84 cJx4a65c_grow_92f84 4 (some (.array (.object "java/lang/Object"))), Cond.methodLink RJx4a65c 79 Lib.Math.max.name, Cond.classLink RJx4a65c 7 "java/lang/Object", Cond.methodLink RJx4a65c 73 yJ8_newLength_cabcc, Cond.static yJ8_newLength_cabcc, Cond.initialized RJ8, Cond.code yJ8_newLength_cabcc cJ8_newLength_cabcc 4 (some .int), Cond.methodLink RJ8 194 Lib.Math.max.name, Cond.constant RJ8 200 (2147483639), Cond.methodLink RJ8 201 yJ8_hugeLength_7cf53]
def wsL_law0_r20 : List Cond := [Cond.static yJ8_hugeLength_7cf53, Cond.code yJ8_hugeLength_7cf53 cJ8_hugeLength_7cf53 3 (some .int), Cond.methodLink RJx4a65c 66 yJ7_copyOf_1904c, Cond.static yJ7_copyOf_1904c, Cond.initialized RJ7, Cond.code yJ7_copyOf_1904c cJ7_copyOf_1904c 2 (some (.array (.object "java/lang/Object"))), Cond.methodLink RJ7 86 ⟨"java/lang/Object", "getClass", "()Ljava/lang/Class;"⟩, Cond.selects "[Ljava/lang/Object;" ⟨"java/lang/Object", "getClass", "()Ljava/lang/Class;"⟩ ⟨"java/lang/Object", "getClass", "()Ljava/lang/Class;"⟩, Cond.instanceMethod ⟨"java/lang/Object", "getClass", "()Ljava/lang/Class;"⟩, Cond.native ⟨"java/lang/Object", "getClass", "()Ljava/lang/Class;"⟩, Cond.methodLink RJ7 300 yJ7_copyOf_6403c, Cond.static yJ7_copyOf_6403c, Cond.code yJ7_copyOf_6403c cJ7_copyOf_6403c 4 (some (.array (.object "java/lang/Object"))), Cond.classLink RJ7 110 "[Ljava/lang/Object;", Cond.classLink RJ7 2 "java/lang/Object", Cond.methodLink RJ7 304 Lib.Math.min.name, Cond.methodLink RJ7 150 arraycopyName, Cond.native arraycopyName, Cond.static arraycopyName, Cond.initialized "java/lang/System", Cond.methodLink RL 139 yX7_board, Cond.instanceMethod yX7_board, Cond.selects RX7 yX7_board yX7_board, Cond.code yX7_board cX7_board 5 (some .int)]
def wsL_law0_r21 : List Cond := [Cond.fieldLink RX7 122 "PlankUnrollModel" "boards" "I", Cond.methodLink RL 140 yL_fault, Cond.static yL_fault, Cond.codeWith yL_fault cL_fault 12 (some .int) [(0, 24, 27, 13), (0, 24, 31, 15)], Cond.methodLink RL 60 yX6_fault, Cond.instanceMethod yX6_fault, Cond.selects RX6 yX6_fault yX6_fault, Cond.code yX6_fault cX6_fault 11 (some .boolean), Cond.constantDouble RX6 201 (4593671619917905920), Cond.fieldLink RX6 205 "PlankUnroll$Board" "faults" "Ljava/util/ArrayList;", Cond.classLink RX6 208 RX1, Cond.methodLink RX6 195 yX6_boardAt, Cond.instanceMethod yX6_boardAt, Cond.selects RX6 yX6_boardAt yX6_boardAt, Cond.code yX6_boardAt cX6_boardAt 2 (some (.object "PlankUnroll$Board")), Cond.classLink RX6 186 "PlankUnroll$Board", Cond.methodLink RX6 263 yJx4a65c_get_915e3, Cond.instanceMethod yJx4a65c_get_915e3, Cond.selects RJx4a65c yJx4a65c_get_915e3 yJx4a65c_get_915e3, Cond.code yJx4a65c_get_915e3 cJx4a65c_get_915e3 2 (some (.object "java/lang/Object")), Cond.methodLink RJx4a65c 118 yJ15_checkIndex_7cf53, Cond.static yJ15_checkIndex_7cf53, Cond.initialized RJ15, Cond.code yJ15_checkIndex_7cf53 cJ15_checkIndex_7cf53 2 (some .int)]
def wsL_law0_r22 : List Cond := [Cond.methodLink RJ15 105 yJ3_checkIndex_8e157, Cond.static yJ3_checkIndex_8e157, Cond.initialized RJ3, Cond.code yJ3_checkIndex_8e157 cJ3_checkIndex_8e157 3 (some .int), Cond.methodLink RJx4a65c 123 yJx4a65c_elementData_915e3, Cond.instanceMethod yJx4a65c_elementData_915e3, Cond.selects RJx4a65c yJx4a65c_elementData_915e3 yJx4a65c_elementData_915e3, Cond.code yJx4a65c_elementData_915e3 cJx4a65c_elementData_915e3 2 (some (.object "java/lang/Object")), Cond.methodLink RX6 210 yX1_init, Cond.methodLink RL 143 yX7_fault, Cond.instanceMethod yX7_fault, Cond.selects RX7 yX7_fault yX7_fault, Cond.code yX7_fault cX7_fault 12 (some .boolean), Cond.constantDouble RX7 125 (4593671619917905920), Cond.methodLink RL 144 yL_nest, Cond.static yL_nest, Cond.codeWith yL_nest cL_nest 5 (some .int) [(0, 10, 13, 13), (0, 10, 17, 25)], Cond.methodLink RL 64 yX6_nest, Cond.instanceMethod yX6_nest, Cond.selects RX6 yX6_nest yX6_nest, Cond.code yX6_nest cX6_nest 6 (some .int), Cond.fieldLink RX6 213 "PlankUnroll$Strip" "board" "I", Cond.fieldLink RX6 218 "PlankUnroll$Strip" "box" "LPlankUnroll$Box;", Cond.fieldLink RX6 226 "PlankUnroll$Strip" "eighths" "I"]
def wsL_law0_r23 : List Cond := [Cond.methodLink RX6 222 yX6_leastEighths, Cond.instanceMethod yX6_leastEighths, Cond.selects RX6 yX6_leastEighths yX6_leastEighths, Cond.code yX6_leastEighths cX6_leastEighths 6 (some .int), Cond.fieldLink RX6 273 "PlankUnroll$Box" "y" "D", Cond.fieldLink RX6 274 "PlankUnroll$Box" "h" "D", Cond.fieldLink RX6 277 "PlankUnroll$Board" "h" "D", Cond.constantDouble RX6 278 (4620693217682128896), Cond.fieldLink RX6 280 "PlankUnroll$Box" "x" "D", Cond.fieldLink RX6 281 "PlankUnroll$Box" "w" "D", Cond.fieldLink RX6 284 "PlankUnroll$Board" "w" "D", Cond.methodLink RX6 285 yX6_overlapped, Cond.instanceMethod yX6_overlapped, Cond.selects RX6 yX6_overlapped yX6_overlapped, Cond.code yX6_overlapped cX6_overlapped 8 (some (.object "PlankUnroll$Box")), Cond.classLink RX6 208 "PlankUnroll$Box", Cond.methodLink RX6 293 yX1_overlaps, Cond.instanceMethod yX1_overlaps, Cond.selects RX1 yX1_overlaps yX1_overlaps, Cond.code yX1_overlaps cX1_overlaps 2 (some .boolean), Cond.methodLink RX6 289 yX6_lastEighthsBefore, Cond.static yX6_lastEighthsBefore, Cond.code yX6_lastEighthsBefore cX6_lastEighthsBefore 3 (some .int), Cond.methodLink RL 147 yX7_nest]
def wsL_law0_r24 : List Cond := [Cond.instanceMethod yX7_nest, Cond.selects RX7 yX7_nest yX7_nest, Cond.code yX7_nest cX7_nest 8 (some .int), Cond.constantDouble RX7 127 (4620693217682128896), Cond.methodLink RX7 129 yX7_size, Cond.instanceMethod yX7_size, Cond.selects RX7 yX7_size yX7_size, Cond.code yX7_size cX7_size 10 (some .double), Cond.methodLink RX7 132 yX7_isOpen, Cond.instanceMethod yX7_isOpen, Cond.selects RX7 yX7_isOpen yX7_isOpen, Cond.code yX7_isOpen cX7_isOpen 12 (some .boolean), Cond.methodLink RL 148 yL_lies, Cond.static yL_lies, Cond.codeWith yL_lies cL_lies 5 (some .int) [(0, 10, 13, 13)], Cond.methodLink RL 68 yX6_lies, Cond.instanceMethod yX6_lies, Cond.selects RX6 yX6_lies yX6_lies, Cond.code yX6_lies cX6_lies 4 (some .int), Cond.methodLink RL 150 yX7_lies, Cond.instanceMethod yX7_lies, Cond.selects RX7 yX7_lies yX7_lies, Cond.code yX7_lies cX7_lies 3 (some .int), Cond.methodLink RL 151 yL_staves]
def wsL_law0_r25 : List Cond := [Cond.static yL_staves, Cond.codeWith yL_staves cL_staves 7 (some .int) [(0, 11, 14, 15)], Cond.methodLink RL 71 yX6_staves, Cond.instanceMethod yX6_staves, Cond.selects RX6 yX6_staves yX6_staves, Cond.code yX6_staves cX6_staves 9 (some .int), Cond.constant RX6 243 (100000), Cond.methodLink RX6 231 yX6_checkStaves, Cond.static yX6_checkStaves, Cond.code yX6_checkStaves cX6_checkStaves 4 none, Cond.methodLink RX6 234 yX6_circleOf, Cond.static yX6_circleOf, Cond.code yX6_circleOf cX6_circleOf 2 (some .double), Cond.constantDouble RX6 251 (4614256656552045848), Cond.methodLink RL 153 yX7_staves, Cond.instanceMethod yX7_staves, Cond.selects RX7 yX7_staves yX7_staves, Cond.code yX7_staves cX7_staves 6 (some .int), Cond.constantDouble RX7 140 (4614256656552045848), Cond.methodLink RX7 136 yX7_areStaves, Cond.static yX7_areStaves, Cond.code yX7_areStaves cX7_areStaves 4 (some .boolean), Cond.methodLink RL 154 yL_closes, Cond.static yL_closes]
def wsL_law0_r26 : List Cond := [Cond.codeWith yL_closes cL_closes 8 (some .int) [(0, 12, 15, 15)], Cond.methodLink RL 74 yX6_closes, Cond.instanceMethod yX6_closes, Cond.selects RX6 yX6_closes yX6_closes, Cond.code yX6_closes cX6_closes 6 (some .double), Cond.methodLink RL 157 yX7_closes, Cond.instanceMethod yX7_closes, Cond.selects RX7 yX7_closes yX7_closes, Cond.code yX7_closes cX7_closes 6 (some .double), Cond.constant RX7 142 (100000)]
def wsL_law0 : List Cond := (wsL_law0_r1 ++ (wsL_law0_r2 ++ (wsL_law0_r3 ++ (wsL_law0_r4 ++ (wsL_law0_r5 ++ (wsL_law0_r6 ++ (wsL_law0_r7 ++ (wsL_law0_r8 ++ (wsL_law0_r9 ++ (wsL_law0_r10 ++ (wsL_law0_r11 ++ (wsL_law0_r12 ++ (wsL_law0_r13 ++ (wsL_law0_r14 ++ (wsL_law0_r15 ++ (wsL_law0_r16 ++ (wsL_law0_r17 ++ (wsL_law0_r18 ++ (wsL_law0_r19 ++ (wsL_law0_r20 ++ (wsL_law0_r21 ++ (wsL_law0_r22 ++ (wsL_law0_r23 ++ (wsL_law0_r24 ++ (wsL_law0_r25 ++ wsL_law0_r26))))))))))))))))))))))))) ++ wsX60 ++ wsX70 ++ wsX40 ++ wsX50 ++ wsJx4a65c0 ++ wsX20 ++ wsX30 ++ wsX10 ++ wsX00 ++ ([] : List Cond)
def wsL_law : List Cond := wsL_law0 ++ (vx_atS RX6 68 "java/lang/IllegalArgumentException" ["java/lang/RuntimeException", "java/lang/Exception"]).filter goodWord ++ (vx_atS RX6 111 "java/lang/IndexOutOfBoundsException" ["java/lang/RuntimeException", "java/lang/Exception"]).filter goodWord ++ (vx_atS RX6 106 "java/lang/IllegalStateException" ["java/lang/RuntimeException", "java/lang/Exception"]).filter goodWord
theorem wsL_law_x0 : ∀ w ∈ (vx_atS RX6 68 "java/lang/IllegalArgumentException" ["java/lang/RuntimeException", "java/lang/Exception"]).filter goodWord, w ∈ lw_tbl := by decide +kernel
theorem wsL_law_x1 : ∀ w ∈ (vx_atS RX6 111 "java/lang/IndexOutOfBoundsException" ["java/lang/RuntimeException", "java/lang/Exception"]).filter goodWord, w ∈ lw_tbl := by decide +kernel
theorem wsL_law_x2 : ∀ w ∈ (vx_atS RX6 106 "java/lang/IllegalStateException" ["java/lang/RuntimeException", "java/lang/Exception"]).filter goodWord, w ∈ lw_tbl := by decide +kernel
theorem inlX0 : ∀ w ∈ wsX00, w ∈ wsL_law := fun _ h => List.mem_append_left _ (List.mem_append_left _ (List.mem_append_left _ (List.mem_append_left _ (List.mem_append_right _ h))))
theorem inlX1 : ∀ w ∈ wsX10, w ∈ wsL_law := fun _ h => List.mem_append_left _ (List.mem_append_left _ (List.mem_append_left _ (List.mem_append_left _ (List.mem_append_left _ (List.mem_append_right _ h)))))
theorem inlX2 : ∀ w ∈ wsX20, w ∈ wsL_law := fun _ h => List.mem_append_left _ (List.mem_append_left _ (List.mem_append_left _ (List.mem_append_left _ (List.mem_append_left _ (List.mem_append_left _ (List.mem_append_left _ (List.mem_append_right _ h)))))))
theorem inlX3 : ∀ w ∈ wsX30, w ∈ wsL_law := fun _ h => List.mem_append_left _ (List.mem_append_left _ (List.mem_append_left _ (List.mem_append_left _ (List.mem_append_left _ (List.mem_append_left _ (List.mem_append_right _ h))))))
theorem inlX4 : ∀ w ∈ wsX40, w ∈ wsL_law := fun _ h => List.mem_append_left _ (List.mem_append_left _ (List.mem_append_left _ (List.mem_append_left _ (List.mem_append_left _ (List.mem_append_left _ (List.mem_append_left _ (List.mem_append_left _ (List.mem_append_left _ (List.mem_append_left _ (List.mem_append_right _ h))))))))))
theorem inlX5 : ∀ w ∈ wsX50, w ∈ wsL_law := fun _ h => List.mem_append_left _ (List.mem_append_left _ (List.mem_append_left _ (List.mem_append_left _ (List.mem_append_left _ (List.mem_append_left _ (List.mem_append_left _ (List.mem_append_left _ (List.mem_append_left _ (List.mem_append_right _ h)))))))))
theorem inlX6 : ∀ w ∈ wsX60, w ∈ wsL_law := fun _ h => List.mem_append_left _ (List.mem_append_left _ (List.mem_append_left _ (List.mem_append_left _ (List.mem_append_left _ (List.mem_append_left _ (List.mem_append_left _ (List.mem_append_left _ (List.mem_append_left _ (List.mem_append_left _ (List.mem_append_left _ (List.mem_append_left _ (List.mem_append_right _ h))))))))))))
theorem inlX7 : ∀ w ∈ wsX70, w ∈ wsL_law := fun _ h => List.mem_append_left _ (List.mem_append_left _ (List.mem_append_left _ (List.mem_append_left _ (List.mem_append_left _ (List.mem_append_left _ (List.mem_append_left _ (List.mem_append_left _ (List.mem_append_left _ (List.mem_append_left _ (List.mem_append_left _ (List.mem_append_right _ h)))))))))))
theorem inJx145de : ∀ w ∈ wsJx145de0, w ∈ lw_tbl := by decide +kernel
theorem inJx8e188 : ∀ w ∈ wsJx8e1880, w ∈ lw_tbl := by decide +kernel
theorem inJxab1ab : ∀ w ∈ wsJxab1ab0, w ∈ lw_tbl := by decide +kernel
theorem inJ9 : ∀ w ∈ wsJ90, w ∈ lw_tbl := by decide +kernel
theorem inJ0 : ∀ w ∈ wsJ00, w ∈ lw_tbl := by decide +kernel
theorem inJ10 : ∀ w ∈ wsJ100, w ∈ lw_tbl := by decide +kernel
theorem inJxa1e45 : ∀ w ∈ wsJxa1e450, w ∈ lw_tbl := by decide +kernel
theorem inJxc12de : ∀ w ∈ wsJxc12de0, w ∈ lw_tbl := by decide +kernel
theorem inlJx4a65c : ∀ w ∈ wsJx4a65c0, w ∈ wsL_law := fun _ h => List.mem_append_left _ (List.mem_append_left _ (List.mem_append_left _ (List.mem_append_left _ (List.mem_append_left _ (List.mem_append_left _ (List.mem_append_left _ (List.mem_append_left _ (List.mem_append_right _ h))))))))
theorem inJ7 : ∀ w ∈ wsJ70, w ∈ lw_tbl := by decide +kernel
theorem inJx5ef63 : ∀ w ∈ wsJx5ef630, w ∈ lw_tbl := by decide +kernel
theorem inJxbd725 : ∀ w ∈ wsJxbd7250, w ∈ lw_tbl := by decide +kernel
theorem inJ15 : ∀ w ∈ wsJ150, w ∈ lw_tbl := by decide +kernel
theorem inJxf0a74 : ∀ w ∈ wsJxf0a740, w ∈ lw_tbl := by decide +kernel
theorem inJxa66e6 : ∀ w ∈ wsJxa66e60, w ∈ lw_tbl := by decide +kernel
theorem inJ8 : ∀ w ∈ wsJ80, w ∈ lw_tbl := by decide +kernel
theorem inJ3 : ∀ w ∈ wsJ30, w ∈ lw_tbl := by decide +kernel
abbrev vwCl : List vw_C := [(RJx4a65c, TJx4a65c, 3), (RX0, TX0, 3), (RX1, TX1, 4), (RX2, TX2, 3), (RX3, TX3, 3), (RX4, TX4, 1), (RX5, TX5, 9), (RX6, TX6, 6), (RX7, TX7, 18)]
/-! ===== END ===== -/
end
section
/-! THE BASE OF ALL WALKS: one kind of contract for every method (it may throw, and it may draw), its calls, its ends, its heap. -/
section XBase
abbrev xc (G : va_G) (a : Nat) (e : va_E) (H : Heap) : Prop := va_at G vwCl (a, e) H
theorem x1 {G : va_G} {a : Nat} {e : va_E} {H : Heap} (h : xc G a e H) : va_P G vwCl [(a, e)] H := by
  intro k q hk
  match k, hk with
  | 0, hk => cases hk; exact h
  | k + 1, hk => simp at hk
theorem xc.kept {G : va_G} {a : Nat} {e : va_E} {H H1 : Heap} (h : xc G a e H) (hq : H1[a]? = H[a]?) : xc G a e H1 := (x1 h).kept (fun k q hk => by
  match k, hk with
  | 0, hk => cases hk; exact hq
  | k + 1, hk => simp at hk) 0 _ rfl
theorem xc.lt {G : va_G} {a : Nat} {e : va_E} {H : Heap} (h : xc G a e H) : a < H.size := vx_lt (x1 h) (k := 0) rfl
/-- what is new since the law's start -/
abbrev xA (b0 : Nat) : Nat → Prop := fun q => b0 ≤ q
/-- the array classes, in one order for all walks -/
abbrev xTy (ty : Nat → ClassId) : List (ClassId × FieldType) := [(ty 0, .double), (ty 1, .int), (ty 2, .boolean), (ty 3, .long), (ty 4, .object "PlankUnroll$Place"), (ty 5, .object "PlankUnroll$Row"), (ty 6, .object "PlankUnroll$Strip"), (ty 7, .object "java/lang/Object")]
/-- the nest mates' private methods that are called -/
def xNest : List (String × Nat × MethodName) := [(RX5, 55, yX6_apart), (RX5, 78, yX6_root), (RX6, 44, yX2_init), (RX4, 15, yX3_init)]
/-- the texts of the exceptions -/
def xTexts : List (Nat × String) := [(66, "a number of a place is not -1000 .. 1000"), (104, "two corners lie too near for a triangle on them"), (109, "no such corne\x72"), (112, "no such axis"), (168, "a span is not 1 .. 8"), (178, "a side of a board is not 1 .. 1000"), (184, "there are 4 boards"), (199, "a fault does not lie at 0 .. 1000"), (203, "a side of a fault is not 0.125 .. 1000"), (216, "the strip lies on a board"), (229, "neither the board nor its k is asked fo\x72"), (244, "a number of staves is not 1 .. 100000"), (253, "no such frame"), (255, "no such cell"), (257, "no such row"), (259, "no such strip"), (261, "no such board"), (267, "the strip was not unrolled since a place was told"), (269, "a stave's width is not 0.125 .. 1000"), (271, "a diameter is not 0 .. 1000")]
/-- the words of a throw that the methods' lists don't hold -/
def xFaceL : List Cond := [.castable "java/lang/IndexOutOfBoundsException" "java/lang/IndexOutOfBoundsException", .castable "java/lang/IllegalArgumentException" "java/lang/IllegalArgumentException", .castable "java/lang/IllegalStateException" "java/lang/IllegalStateException", .declares ⟨"java/lang/RuntimeException", "<init>", "(Ljava/lang/String;)V"⟩, .declares ⟨"java/lang/Exception", "<init>", "(Ljava/lang/String;)V"⟩, .declares ⟨"java/lang/Throwable", "<init>", "(Ljava/lang/String;)V"⟩]
/-- what every walk knows of the world around it -/
def xK (G : va_G) (ty : Nat → ClassId) (b0 : Nat) (U : State) : Prop :=
  va_K G vwCl (xTy ty) U ∧ vx_Zq Bundle.tN "UNASSIGNED_STACK" Bundle.steD (xA b0) U U.heap ∧ vx_Zq Bundle.tN "SUPPRESSED_SENTINEL" Bundle.listD (xA b0) U U.heap ∧
  (∀ q ∈ xNest, va_Nw (.methodLinkNest q.1 q.2.1 q.2.2 RX6) U) ∧ (∀ q ∈ xTexts, ∃ a, vk_R RX6 q.1 q.2 a U) ∧ (∀ w ∈ xFaceL, va_Nw w U)
theorem xFace_keeps : ∀ w ∈ xFaceL, w.keepsFace = true := by decide +kernel
theorem xFace_tabs : ∀ w ∈ xFaceL, w.onTables = true := by decide +kernel
theorem xNw_face {w : Cond} (h1 : w.keepsFace = true) (h2 : w.onTables = true) {s U : State} (hW : s.WarmedH U.vm) (h : va_Nw w s) : va_Nw w U :=
  va_tabs h2 (rfl : (s.setVm U.vm).vm = U.vm) (Cond.before_shiftedFace (args := #[]) (State.Shifted.of_warmed hW) w h1 h)
theorem xK.to {G : va_G} {ty : Nat → ClassId} {b0 : Nat} {s U : State} {locs : List Loc} (hW : s.WarmedH U.vm) (hS : va_S (xA b0) s.heap U.heap locs) (h : xK G ty b0 s) : xK G ty b0 U := by
  obtain ⟨h1, h2, h3, h4, h5, h6⟩ := h
  exact ⟨va_K.moved hW.alike h1, vx_Zq.moved hW.alike (h2.kept hS.2.1), vx_Zq.moved hW.alike (h3.kept hS.2.1), fun q hq => va_Nw.warmM hW (h4 q hq), fun q hq => (h5 q hq).elim fun a ha => ⟨a, vk_R.warm hW ha⟩, fun w hw => xNw_face (xFace_keeps w hw) (xFace_tabs w hw) hW (h6 w hw)⟩
theorem xK.calling {G : va_G} {ty : Nat → ClassId} {b0 : Nat} {U : State} {g : JFrame} {mk : MethodId} {a : Array Value} (h : xK G ty b0 U) : xK G ty b0 (U.calling g mk a) := by
  have hh : (U.calling g mk a).heap = U.heap := rfl
  have hv : (U.calling g mk a).vm = U.vm := rfl
  obtain ⟨h1, h2, h3, h4, h5, h6⟩ := h
  exact ⟨va_K.moved (Vm.Alike.refl U.vm) h1, vx_Zq.moved (Vm.Alike.refl U.vm) h2, vx_Zq.moved (Vm.Alike.refl U.vm) h3, fun q hq => va_Nw.same rfl hv.symm (h4 q hq), fun q hq => (h5 q hq).elim fun a ha => ⟨a, vk_R.same hv ha⟩, fun w hw => va_Nw.same (xFace_tabs w hw) hv.symm (h6 w hw)⟩
theorem xK.drawn {G : va_G} {ty : Nat → ClassId} {b0 : Nat} {U : State} (h : xK G ty b0 U) (d : Drawn) : xK G ty b0 (U.setDrawn d) := by
  obtain ⟨h1, h2, h3, h4, h5, h6⟩ := h
  exact ⟨va_K.moved (Vm.Alike.refl U.vm) h1, vx_Zq.moved (Vm.Alike.refl U.vm) h2, vx_Zq.moved (Vm.Alike.refl U.vm) h3, fun q hq => va_Nw.same (u := U) rfl rfl (h4 q hq), fun q hq => (h5 q hq).elim fun a ha => ⟨a, vk_R.same (u := U) rfl ha⟩, fun w hw => va_Nw.same (u := U) (xFace_tabs w hw) rfl (h6 w hw)⟩
/-- the premise of a contract: the arguments, the heap, the world around -/
def xPc (G : va_G) (ty : Nat → ClassId) (b0 : Nat) (av : List Value) (H : Heap) : Array Value → State → Prop := fun a U => a = av.toArray ∧ U.heap = H ∧ xK G ty b0 U ∧ b0 ≤ H.size
theorem xPc.blind (G : va_G) (ty : Nat → ClassId) (b0 : Nat) (av : List Value) (H : Heap) : FrameBlind (xPc G ty b0 av H) := fun a U g mk h => ⟨h.1, h.2.1, xK.calling h.2.2.1, h.2.2.2⟩
def xQ (b0 : Nat) (post : Option Value → Heap → Prop) : Array Value → State → Outcome → State → Prop := fun _ st oc t => (∃ v, oc = .returned v ∧ post v t.heap) ∧ va_F (xA b0) st t
def xX (b0 : Nat) (px : String → Heap → Prop) : String → State → State → Prop := fun E st t => px E t.heap ∧ va_F (xA b0) st t
/-- A METHOD'S CONTRACT: from the heap H it returns with post, or throws with px; it may draw -/
def xMet (l : Launch) (y : MethodName) (ws : List Cond) (rm : Room) (G : va_G) (ty : Nat → ClassId) (b0 : Nat) (av : List Value) (H : Heap) (post : Option Value → Heap → Prop) (px : String → Heap → Prop) : Prop :=
  MetFree l y (headSpec ws rm) (xPc G ty b0 av H) (fun _ _ _ _ _ => True) (fun a st o t => ∃ d : Drawn, st.drawn.sameBut d lw_cs ∧ vx_Q (xQ b0 post) (xX b0 px) rm.cells rm.slots (xA b0) a (st.setDrawn d) o t)
/-- what a body owes at its end -/
def xMQ (below : List Frame) (post : Option Value → Heap → Prop) (px : String → Heap → Prop) (a : Array Value) (s : State) (rm : Room) (b0 : Nat) : State → Prop := fun t =>
  ∃ d : Drawn, s.drawn.sameBut d lw_cs ∧ vx_MQ below (xQ b0 post) (xX b0 px) a (s.setDrawn d) rm.cells rm.slots (xA b0) t
theorem xofW {l : Launch} {y : MethodName} {ws ws' : List Cond} {rm : Room} {G : va_G} {ty : Nat → ClassId} {b0 : Nat} {av : List Value} {H : Heap} {post : Option Value → Heap → Prop} {px : String → Heap → Prop} {cc : ByteArray} {maxL : Nat} {ret : Option FieldType}
    (hy : plainName y.cls = true) (hw : ws = Cond.code y cc maxL ret :: ws')
    (body : ∀ p e s m below meth c s₁, BodyLoose p l y (headSpec ws rm) cc maxL ret e s m av.toArray below meth c s₁ → c.maxLocals = maxL → (∀ x ∈ c.exceptionTable.toList, False) → s.heap = H → xK G ty b0 s → b0 ≤ H.size → s.drawn.sameBut s.drawn lw_cs →
      W p l e (headSpec ws rm).room (s.setDrawn s.drawn) m av.toArray below meth c H [] 0 0 (xMQ below post px av.toArray s rm b0) (entryFrame m av.toArray maxL)) : xMet l y ws rm G ty b0 av H post px := by
  refine MetFree.of_bodyS (code := cc) (maxLocals := maxL) (ret := ret) hy ?_ ?_
  · intro args s m h hn
    obtain ⟨meth, c, h1, h2, h3, h4, h5, h6, -, -⟩ := Cond.code_spec hn (atoms_spec (ws := ws) h _ (by rw [hw]; exact List.mem_cons_self))
    exact ⟨meth, c, h1, h2, h3, h4, h5, h6⟩
  · intro p e s m args below meth c s₁ B hml hP _
    obtain ⟨rfl, hH, hK, hb0⟩ := hP
    have hh0 : s₁.heap = H := by rw [← hH, B.state]; rfl
    have ht : ∀ x ∈ c.exceptionTable.toList, False := by
      obtain ⟨meth9, c9, h1, h2, -, -, -, -, h7, -⟩ := Cond.code_spec B.named (atoms_spec (ws := ws) B.pre _ (by rw [hw]; exact List.mem_cons_self))
      cases Option.some.inj (h1.symm.trans B.method)
      cases Option.some.inj (h2.symm.trans (Stand.of_body B).code)
      intro x hx
      rw [Array.isEmpty_iff.mp h7] at hx
      cases hx
    have X0 : Stand p l e (headSpec ws rm).room (s.setDrawn s.drawn) m av.toArray below meth c s₁ [] 0 0 := Stand.of_body B
    obtain ⟨t, a1, d, hd, o, b1, b2, b3⟩ := body p e s m below meth c s₁ B hml ht hH hK hb0 (Drawn.sameBut.refl _ _) s₁ hh0 X0
    exact ⟨t, o, a1, b1, b2, d, hd, b3⟩
end XBase
section XEnds
variable {p : Program} {l : Launch} {e : Env} {R : Room} {s : State} {m : MethodId} {args : Array Value} {below : List Frame} {meth : Method} {c : Code} {H : Heap} {locs : List Loc} {cells slots : Nat} {Q : State → Prop}
variable {rm : Room} {b0 : Nat} {post : Option Value → Heap → Prop} {px : String → Heap → Prop} {d0 : Drawn} {cc : ByteArray} {pc : Nat} {ls : Array Slot} {rest : List Value}
theorem xend {g : JFrame} (hd0 : s.drawn.sameBut d0 lw_cs) (k : W p l e R (s.setDrawn d0) m args below meth c H locs cells slots (vx_MQ below (xQ b0 post) (xX b0 px) args (s.setDrawn d0) rm.cells rm.slots (xA b0)) g) : W p l e R (s.setDrawn d0) m args below meth c H locs cells slots (xMQ below post px args s rm b0) g := by
  intro T hT X
  obtain ⟨t, a, b⟩ := k T hT X
  exact ⟨t, a, d0, hd0, b⟩
theorem xend_x {g : JFrame} {q : Addr} (hd0 : s.drawn.sameBut d0 lw_cs) (k : vx_W p l e R (s.setDrawn d0) m args below meth c H locs cells slots (vx_MQ below (xQ b0 post) (xX b0 px) args (s.setDrawn d0) rm.cells rm.slots (xA b0)) g q) : vx_W p l e R (s.setDrawn d0) m args below meth c H locs cells slots (xMQ below post px args s rm b0) g q := by
  intro T hT X
  obtain ⟨t, a, b⟩ := k T hT X
  exact ⟨t, a, d0, hd0, b⟩
theorem xq_of {t : State} {v : Option Value} (ht : t.heap = H) (hS : va_S (xA b0) s.heap H locs) (hp : post v H) : xQ b0 post args s (.returned v) t := ⟨⟨v, rfl, by rw [ht]; exact hp⟩, hS.F ht⟩
theorem xiret {v : Int32} (hd0 : s.drawn.sameBut d0 lw_cs) (hexec : p.tables.exec = Jvm.exec) (hb : c.code = cc) (hr : meth.sig.returnType = some .int) (hlocks : meth.locks = false) (hS : va_S (xA b0) s.heap H locs) (hc : cells ≤ rm.cells) (hs : slots ≤ rm.slots) (hdg : decode cc pc = .ok (.ireturn, 1)) (hp : post (some (.int v)) H) : W p l e R (s.setDrawn d0) m args below meth c H locs cells slots (xMQ below post px args s rm b0) (F0 m pc ls [.int v]) :=
  xend hd0 (W.widen hc hs (vx_ret (W.iret hexec hb hr (fun _ ht _ => xq_of (s := s.setDrawn d0) ht hS hp) hS.2.2 hdg hlocks)))
theorem xzret {v : Int32} {rt : FieldType} (hn : narrow rt (.int v) = .int v) (hd0 : s.drawn.sameBut d0 lw_cs) (hexec : p.tables.exec = Jvm.exec) (hb : c.code = cc) (hr : meth.sig.returnType = some rt) (hlocks : meth.locks = false) (hS : va_S (xA b0) s.heap H locs) (hc : cells ≤ rm.cells) (hs : slots ≤ rm.slots) (hdg : decode cc pc = .ok (.ireturn, 1)) (hp : post (some (.int v)) H) : W p l e R (s.setDrawn d0) m args below meth c H locs cells slots (xMQ below post px args s rm b0) (F0 m pc ls [.int v]) :=
  xend hd0 (W.widen hc hs (vx_ret (W.zret hexec hb hr hn (fun _ ht _ => xq_of (s := s.setDrawn d0) ht hS hp) hS.2.2 hdg hlocks)))
theorem xdret {v : UInt64} (hd0 : s.drawn.sameBut d0 lw_cs) (hexec : p.tables.exec = Jvm.exec) (hb : c.code = cc) (hr : meth.sig.returnType = some .double) (hlocks : meth.locks = false) (hS : va_S (xA b0) s.heap H locs) (hc : cells ≤ rm.cells) (hs : slots ≤ rm.slots) (hdg : decode cc pc = .ok (.dreturn, 1)) (hp : post (some (.double v)) H) : W p l e R (s.setDrawn d0) m args below meth c H locs cells slots (xMQ below post px args s rm b0) (F0 m pc ls [.double v]) :=
  xend hd0 (W.widen hc hs (vx_ret (W.dret hexec hb hr (fun _ ht _ => xq_of (s := s.setDrawn d0) ht hS hp) hS.2.2 hdg hlocks)))
theorem xvret (hd0 : s.drawn.sameBut d0 lw_cs) (hexec : p.tables.exec = Jvm.exec) (hb : c.code = cc) (hr : meth.sig.returnType = none) (hlocks : meth.locks = false) (hS : va_S (xA b0) s.heap H locs) (hc : cells ≤ rm.cells) (hs : slots ≤ rm.slots) (hdg : decode cc pc = .ok (.return_, 1)) (hp : post none H) : W p l e R (s.setDrawn d0) m args below meth c H locs cells slots (xMQ below post px args s rm b0) (F0 m pc ls []) :=
  xend hd0 (W.widen hc hs (vx_ret (W.vret hexec hb hr (fun _ ht _ => xq_of (s := s.setDrawn d0) ht hS hp) hS.2.2 hdg hlocks)))
theorem xaret {v : Value} {rt : FieldType} (hrt : (∃ n, rt = .object n) ∨ ∃ t, rt = .array t) (hv : v = .null ∨ ∃ a, v = .ref a) (hd0 : s.drawn.sameBut d0 lw_cs) (hexec : p.tables.exec = Jvm.exec) (hb : c.code = cc) (hr : meth.sig.returnType = some rt) (hlocks : meth.locks = false) (hS : va_S (xA b0) s.heap H locs) (hc : cells ≤ rm.cells) (hs : slots ≤ rm.slots) (hdg : decode cc pc = .ok (.areturn, 1)) (hp : post (some v) H) : W p l e R (s.setDrawn d0) m args below meth c H locs cells slots (xMQ below post px args s rm b0) (F0 m pc ls [v]) :=
  xend hd0 (W.widen hc hs (vx_ret (W.aret hexec hb hr hrt hv (fun _ ht _ => xq_of (s := s.setDrawn d0) ht hS hp) hS.2.2 hdg hlocks)))
/-- thrown by a callee, not caught here -/
theorem xout {E : String} {ce : Cell} {q : Addr} (hd0 : s.drawn.sameBut d0 lw_cs) (hout : ∀ x ∈ c.exceptionTable.toList, False) (hlocks : meth.locks = false) (hcell : H[q]? = some ce) (hv : ce.vm = .none) (hcl : s.vm.findClass E = some ce.cls) (hS : va_S (xA b0) s.heap H locs) (hc : cells ≤ rm.cells) (hs : slots ≤ rm.slots) (hp : px E H) : vx_W p l e R (s.setDrawn d0) m args below meth c H locs cells slots (xMQ below post px args s rm b0) (F0 m pc ls rest) q :=
  xend_x hd0 (vx_out (fun x hx => (hout x hx).elim) hlocks hcell hv hcl (fun t ht _ => ⟨by rw [ht]; exact hp, va_S.F (s := s.setDrawn d0) hS ht⟩) hS.2.2 hc hs)
end XEnds
section XBack
variable {l : Launch} {R : Room} {p : Program} {e : Env} {below : List Frame} {s : State} {sargs : Array Value} {y : MethodName} {len W9 : Nat}
/-- a callee that returns or throws, over another record of draws -/
def xBack (l : Launch) (R : Room) (p : Program) (e : Env) (below : List Frame) (s : State) (sargs : Array Value) (y : MethodName) (len W9 : Nat)
    (Pre : Pt → Array Value → Prop) (Post : Pt → Array Value → Option Value → Pt → Prop) (PostX : Pt → Array Value → Addr → Pt → Prop) : Prop :=
  ∀ (m : MethodId) (meth : Method) (c : Code) (A : Pt) (g : JFrame) (ig : Instr) (mk : MethodId) (a : Array Value),
    Stand p l e R s m sargs below meth c A.U A.locs A.cells A.slots → g.method = m → g.locals.size = c.maxLocals → decode c.code g.pc = .ok (ig, len) →
    2 * g.monitorRoom + (g.stack.map fun v => v.category).sum ≤ W9 → A.U.methodNamed? y = some mk → Pre A a →
    (∃ (v : Option Value) (B : Pt) (d : Drawn), s.drawn.sameBut d lw_cs ∧ Stand p l e R (s.setDrawn d) m sargs below meth c B.U B.locs B.cells B.slots ∧ Post ⟨A.U.setDrawn d, A.locs, A.cells, A.slots⟩ a v B ∧
      Steps p.tables e below (doInvoke e (A.U.setTop g) [] mk a).1 (B.U.setTop { g with pc := g.pc + len, stack := v.toList ++ g.stack })) ∨
    (∃ (q : Addr) (B : Pt) (d : Drawn), s.drawn.sameBut d lw_cs ∧ Stand p l e R (s.setDrawn d) m sargs below meth c B.U B.locs B.cells B.slots ∧ PostX ⟨A.U.setDrawn d, A.locs, A.cells, A.slots⟩ a q B ∧
      Steps p.tables e below (doInvoke e (A.U.setTop g) [] mk a).1 ((B.U.setTop g).pushFrame (.throwing q)))
theorem xback {ws : List Cond} {rm : Room} {G : va_G} {ty : Nat → ClassId} {b0 : Nat} {av : List Value} {H : Heap} {post : Option Value → Heap → Prop} {px : String → Heap → Prop} {bytes : ByteArray} {maxL : Nat} {ret : Option FieldType}
    (hM : xMet l y ws rm G ty b0 av H post px)
    (hframes : rm.frames + 1 ≤ R.frames) (hlocals : W9 + (maxL + 11) + rm.locals ≤ R.locals)
    (hws : ∀ w ∈ ws, ∀ a' U, s.WarmedH U.vm → w.before a' U = true) (hcode : Cond.code y bytes maxL ret ∈ ws) (hinit : ∀ a' U, s.WarmedH U.vm → (Cond.initialized y.cls).before a' U = true) :
    xBack l R p e below s sargs y len W9 (PreOf R rm.cells rm.slots (xPc G ty b0 av H)) (PostOf (xQ b0 post) rm.cells rm.slots (xA b0)) (vx_Post (xX b0 px) rm.cells rm.slots (xA b0)) := by
  intro m meth c A g ig mk a X hg hsize hdg hW hn hp
  have h1 : (headSpec ws rm).pre.before a A.U = true := atoms_intro fun w hw => hws w hw _ _ X.warmed
  have h2 : (Cond.code y bytes maxL ret).before a A.U = true := hws _ hcode _ _ X.warmed
  have h3 : (Cond.initialized y.cls).before a A.U = true := hinit _ _ X.warmed
  have h4 : A.cells + (headSpec ws rm).room.cells ≤ R.cells := hp.1
  have h5 : A.slots + (headSpec ws rm).room.slots ≤ R.slots := hp.2.1
  have hPc : xPc G ty b0 av H a (A.U.calling g mk a) := xPc.blind G ty b0 av H _ _ _ _ hp.2.2
  obtain ⟨U, Ls, c0, s0⟩ := A
  dsimp only [Pt.U, Pt.locs, Pt.cells, Pt.slots] at h1 h2 h3 h4 h5 X hn hPc ⊢
  obtain ⟨methY, cY, hmY, hcY, -, hlY, -, -, -, -⟩ := Cond.code_spec hn h2
  obtain ⟨kY, hkY, -⟩ := className_of_methodNamed hn
  have hinitY : kY.init = .initialized := Cond.initialized_spec (findClass_of_methodNamed hn) hkY h3
  have h : At U g.method c below := by rw [hg]; exact X.here
  have hlocals9 : W9 + (maxL + 11) + (headSpec ws rm).room.locals ≤ R.locals := hlocals
  have happ : (headSpec ws rm).appliesLoose y e.platform (U.calling g mk a) = true :=
    Spec.appliesLoose_calling (g := g) h hdg hn hkY hinitY
      (X.room_calling (g := g) (R' := (headSpec ws rm).room) hsize hmY hcY hframes (by rw [hlY]; omega) h4 h5) h1
  obtain ⟨mid, hmid⟩ := h.above
  have hfr : (U.setTop g).frames = (.java g :: mid) ++ below := by rw [State.frames_setTop' g h.top, hmid]; rfl
  obtain ⟨o, s₂, hsteps, -, hend, hq⟩ := Steps.callFree hM p X.admits X.cas X.clock (acts := []) hfr happ hPc trivial
  have hq' : ∃ d : Drawn, (U.calling g mk a).drawn.sameBut d lw_cs ∧ vx_Q (xQ b0 post) (xX b0 px) rm.cells rm.slots (xA b0) a ((U.calling g mk a).setDrawn d) o s₂ := hq
  rw [State.frames_setTop' g h.top] at hend
  obtain ⟨d, hd, hqd⟩ := hq'
  have hcdr : (U.calling g mk a).drawn = s.drawn := by
    rw [State.calling_eq h.top]
    exact X.drawn_eq
  rw [hcdr] at hd
  have h' : At (U.setDrawn d) g.method c below := h.setDrawn d
  have X' : Stand p l e R (s.setDrawn d) m sargs below meth c (U.setDrawn d) Ls c0 s0 := X.drew d
  have hcd : (U.calling g mk a).setDrawn d = (U.setDrawn d).calling g mk a := by
    rw [State.calling_eq h.top, State.calling_eq h'.top]
    rfl
  rw [hcd] at hqd
  obtain ⟨g₀, hg0⟩ := Option.isSome_iff_exists.mp h.top
  obtain ⟨r, hr⟩ := State.topJava?_eq_some.mp hg0
  have hrV : (U.setDrawn d).frames = .java g₀ :: r := hr
  have hr' : (({ U.setDrawn d with heap := s₂.heap, slotsUsed := s₂.slotsUsed } : State).setVm s₂.vm).frames = .java g₀ :: r := hr
  rcases hqd with ⟨hqc, L, hfe, hL⟩ | ⟨q, rfl, E, ce, L, hx, hce, hcv, hcl, hW₂, hsm, hL⟩
  · obtain ⟨⟨v, rfl⟩, hW₂, e2, q2, q3, q4, q5, q6⟩ := id hfe
    have e3 : s₂ = ({ ((U.setDrawn d).calling g mk a).setFrames s₂.frames with heap := s₂.heap, slotsUsed := s₂.slotsUsed } : State).setVm s₂.vm := by
      have : s₂ = ({ s₂ with vm := ((U.setDrawn d).calling g mk a).vm } : State).setVm s₂.vm := rfl
      rw [e2] at this
      exact this
    obtain ⟨c₂, i₂, len₂, hc₂, hd₂, hf₂⟩ := hend
    have hW' : (U.setDrawn d).WarmedH s₂.vm := hW₂
    have hcc : c₂ = c := by
      have h1 : s₂.code? g.method = (U.setDrawn d).code? g.method := by
        rw [State.code?_eq, State.code?_eq, hW'.alike.method?]
      exact Option.some.inj (hc₂.symm.trans (h1.trans h'.code))
    subst hcc
    have hlen : len₂ = len := by rw [hdg] at hd₂; cases hd₂; rfl
    subst hlen
    have hs₂ : s₂ = (({ U.setDrawn d with heap := s₂.heap, slotsUsed := s₂.slotsUsed } : State).setVm s₂.vm).setTop { g with pc := g.pc + len₂, stack := v.toList ++ g.stack } := by
      refine e3.trans ?_
      rw [hf₂, State.calling_eq h'.top, State.setFrames_setFrames, State.setTop_of_frames _ hr', hr]
      rfl
    have hsame : (U.setDrawn d).sameButNew ({ U.setDrawn d with heap := s₂.heap, slotsUsed := s₂.slotsUsed } : State) L rm.cells rm.slots := by
      refine ⟨?_, q2, q3, q4, q5, q6⟩
      obtain ⟨t, ht, -⟩ := State.frames_cons hrV
      show ({ U.setDrawn d with heap := s₂.heap, slotsUsed := s₂.slotsUsed } : State) = { (U.setDrawn d).setFrames (U.setDrawn d).frames with heap := s₂.heap, slotsUsed := s₂.slotsUsed }
      rw [State.setFrames_self ht]
    subst hg
    refine Or.inl ⟨v, ⟨(({ U.setDrawn d with heap := s₂.heap, slotsUsed := s₂.slotsUsed } : State).setVm s₂.vm), Ls ++ L, c0 + rm.cells, s0 + rm.slots⟩, d, hd,
      ⟨X'.admits, X'.cas, X'.clock, X'.frames, X'.room, X'.hears, X'.method, X'.code, (X'.here.setHeapUsed s₂.heap s₂.slotsUsed).setVm hW'.alike, X'.tail, State.WarmedH.trans X'.warmed hW', X'.limits, X'.bytes, X'.same.trans (hsame.setVm (s.setDrawn d).vm)⟩,
      ⟨g, mk, s₂, L, rfl, rfl, hqc, rfl, hL, rfl, rfl⟩, ?_⟩
    show Steps p.tables e below _ ((({ U.setDrawn d with heap := s₂.heap, slotsUsed := s₂.slotsUsed } : State).setVm s₂.vm).setTop { g with pc := g.pc + len₂, stack := v.toList ++ g.stack })
    rw [← hs₂]
    exact hsteps
  · obtain ⟨e2, q2, q3, q4, q5, q6⟩ := id hsm
    have e3 : s₂ = ({ ((U.setDrawn d).calling g mk a).setFrames s₂.frames with heap := s₂.heap, slotsUsed := s₂.slotsUsed } : State).setVm s₂.vm := by
      have : s₂ = ({ s₂ with vm := ((U.setDrawn d).calling g mk a).vm } : State).setVm s₂.vm := rfl
      rw [e2] at this
      exact this
    have hf₂ : s₂.frames = .throwing q :: .java g :: (U.setDrawn d).frames.tail := hend
    have hW' : (U.setDrawn d).WarmedH s₂.vm := hW₂
    have hs₂ : s₂ = ((({ U.setDrawn d with heap := s₂.heap, slotsUsed := s₂.slotsUsed } : State).setVm s₂.vm).setTop g).pushFrame (.throwing q) := by
      refine e3.trans ?_
      rw [hf₂, State.calling_eq h'.top, State.setFrames_setFrames, State.pushFrame, State.frames_setTop _ hr', State.setTop_of_frames _ hr', State.setFrames_setFrames, hrV]
      rfl
    have hsame : (U.setDrawn d).sameButNew ({ U.setDrawn d with heap := s₂.heap, slotsUsed := s₂.slotsUsed } : State) L rm.cells rm.slots := by
      refine ⟨?_, q2, q3, q4, q5, q6⟩
      obtain ⟨t, ht, -⟩ := State.frames_cons hrV
      show ({ U.setDrawn d with heap := s₂.heap, slotsUsed := s₂.slotsUsed } : State) = { (U.setDrawn d).setFrames (U.setDrawn d).frames with heap := s₂.heap, slotsUsed := s₂.slotsUsed }
      rw [State.setFrames_self ht]
    subst hg
    refine Or.inr ⟨q, ⟨(({ U.setDrawn d with heap := s₂.heap, slotsUsed := s₂.slotsUsed } : State).setVm s₂.vm), Ls ++ L, c0 + rm.cells, s0 + rm.slots⟩, d, hd,
      ⟨X'.admits, X'.cas, X'.clock, X'.frames, X'.room, X'.hears, X'.method, X'.code, (X'.here.setHeapUsed s₂.heap s₂.slotsUsed).setVm hW'.alike, X'.tail, State.WarmedH.trans X'.warmed hW', X'.limits, X'.bytes, X'.same.trans (hsame.setVm (s.setDrawn d).vm)⟩,
      ⟨g, mk, s₂, L, E, ce, rfl, rfl, hx, hce, hcv, hcl, rfl, hL, rfl, rfl⟩, ?_⟩
    show Steps p.tables e below _ (((({ U.setDrawn d with heap := s₂.heap, slotsUsed := s₂.slotsUsed } : State).setVm s₂.vm).setTop g).pushFrame (.throwing q))
    rw [← hs₂]
    exact hsteps
end XBack
section XCalls
variable {p : Program} {l : Launch} {e : Env} {R : Room} {s : State} {m : MethodId} {args : Array Value} {below : List Frame} {meth : Method} {c : Code} {H : Heap} {locs : List Loc} {cells slots : Nat} {Q : State → Prop} {d0 : Drawn}
variable {y : MethodName} {bytes cc : ByteArray} {maxL nL n index : Nat} {ret : Option FieldType} {ws : List Cond} {rm : Room} {Ts : List Cond} {own C host : String} {b : Addr} {As rest : List Value} {g : JFrame}
variable {G : va_G} {ty : Nat → ClassId} {b0 : Nat} {av : List Value} {post : Option Value → Heap → Prop} {px : String → Heap → Prop}
/-- the step into a callee, whatever its kind -/
def xInto (p : Program) (l : Launch) (e : Env) (R : Room) (s : State) (m : MethodId) (args : Array Value) (below : List Frame) (meth : Method) (c : Code) (H : Heap) (locs : List Loc) (cells slots : Nat) (y : MethodName) (g : JFrame) (rest : List Value) (av : List Value) (ig : Instr) : Prop :=
  g.method = m ∧ g.locals.size = c.maxLocals ∧ decode c.code g.pc = .ok (ig, 3) ∧ 2 * g.monitorRoom + (rest.map fun v => v.category).sum ≤ 8 ∧
  ∀ T : State, T.heap = H → Stand p l e R s m args below meth c T locs cells slots → ∃ (vm₁ : Vm) (mk : MethodId), s.WarmedH vm₁ ∧ Stand p l e R s m args below meth c (T.setVm vm₁) locs cells slots ∧ (T.setVm vm₁).methodNamed? y = some mk ∧
    ∀ target, Steps p.tables e below (doInvoke e ((T.setVm vm₁).setTop { g with stack := rest }) [] mk av.toArray).1 target → Steps p.tables e below (T.setTop g) target
theorem xintoV (S : CallFix p m c cc nL s args Ts own) (cw : CallW R s args own C index y bytes maxL ret ws rm rm.cells rm.slots n) (hrecv : ∃ cellB : Cell, H[b]? = some cellB ∧ cellB.vm.isStatics = false ∧ s.vm.findClass C = some cellB.cls)
    (hg : g.method = m) (hn : As.length = n) (hsize : g.locals.size = nL) (hstack : g.stack = As.reverse ++ .ref b :: rest) (hW : 2 * g.monitorRoom + (rest.map fun v => v.category).sum ≤ 8) (hdg : decode cc g.pc = .ok (.invokevirtual index, 3)) :
    xInto p l e R s m args below meth c H locs cells slots y g rest (.ref b :: As) (.invokevirtual index) := by
  obtain ⟨⟨-, -, -, -, -, -, hcode, -, hy, hlen, hlink⟩, hinst, hsel⟩ := cw
  obtain ⟨hexec, hb, hml, hown, -⟩ := S
  obtain ⟨cellB, hcell, hobj, hcls⟩ := hrecv
  refine ⟨hg, hsize.trans hml.symm, by rw [hb]; exact hdg, hW, ?_⟩
  intro T hT X
  obtain ⟨mk, methM, hnamed, hmethM, hstM, habM⟩ := Cond.instanceMethod_spec hinst
  obtain ⟨methM', cM, hmethM', -, -, -, -, -, -, hsigM⟩ := Cond.code_spec hnamed hcode
  cases hmethM.symm.trans hmethM'
  obtain ⟨c2, r2, m2, q1, q2, q3, q4, kP, hkP, hkPi⟩ := Cond.selects_spec hsel
  cases hcls.symm.trans q1
  cases (State.methodFound?_of_named hnamed hy).symm.trans q2
  cases hnamed.symm.trans q3
  have hselP : selectMethod e.platform s.vm cellB.cls mk = .method mk := by rw [Launch.admits_selectMethod X.admits]; exact q4
  obtain ⟨vm₁, X₁, hstep₁⟩ := X.invokevirtual hexec hown hlink hnamed hmethM hstM hkP hkPi hy (a := b) (cell := cellB) (by rw [hT]; exact hcell)
    (fun z h => by rw [h] at hobj; cases hobj) hselP hmethM habM hkP hkPi (g := g) hg (argsL := As) (rest := rest) (hn.trans (hlen _ hsigM)) hstack (by rw [hb]; exact hdg)
  exact ⟨vm₁, mk, X₁.warmed, X₁, X₁.named hnamed, fun target h => hstep₁ _ fun acts => by rw [doInvoke_state]; exact h⟩
theorem xintoS (S : CallFix p m c cc nL s args Ts own) (cw : CallB R s args own index y bytes maxL ret ws rm rm.cells rm.slots n ∧ (Cond.static y).before args s = true)
    (hg : g.method = m) (hn : As.length = n) (hsize : g.locals.size = nL) (hstack : g.stack = As.reverse ++ rest) (hW : 2 * g.monitorRoom + (rest.map fun v => v.category).sum ≤ 8) (hdg : decode cc g.pc = .ok (.invokestatic index, 3)) :
    xInto p l e R s m args below meth c H locs cells slots y g rest As (.invokestatic index) := by
  obtain ⟨⟨-, -, -, -, -, -, hcode, hinit, hy, hlen, hlink⟩, hstat⟩ := cw
  obtain ⟨hexec, hb, hml, hown, -⟩ := S
  refine ⟨hg, hsize.trans hml.symm, by rw [hb]; exact hdg, hW, ?_⟩
  intro T hT X
  obtain ⟨mk, hnamed⟩ := Cond.code_named hcode
  obtain ⟨methM, cM, hmethM, -, -, -, -, -, -, hsigM⟩ := Cond.code_spec hnamed hcode
  have hstatic : methM.isStatic = true := Cond.static_spec hnamed hmethM hstat
  obtain ⟨kP, hkP, -⟩ := className_of_methodNamed hnamed
  have hinitP : kP.init = .initialized := Cond.initialized_spec (findClass_of_methodNamed hnamed) hkP hinit
  obtain ⟨vm₁, X₁, hstep₁⟩ := X.invokestatic hexec hown hlink hnamed hmethM hstatic hkP hinitP hy (g := g) hg (argsL := As) (rest := rest) (hn.trans (hlen _ hsigM)) hstack (by rw [hb]; exact hdg)
  exact ⟨vm₁, mk, X₁.warmed, X₁, X₁.named hnamed, fun target h => hstep₁ _ fun acts => by rw [doInvoke_state]; exact h⟩
theorem xintoSN (S : CallFix p m c cc nL s args Ts own) (cw : va_CN R s args own index y host bytes maxL ret ws rm rm.cells rm.slots n ∧ (Cond.static y).before args s = true ∧ True)
    (hg : g.method = m) (hn : As.length = n) (hsize : g.locals.size = nL) (hstack : g.stack = As.reverse ++ rest) (hW : 2 * g.monitorRoom + (rest.map fun v => v.category).sum ≤ 8) (hdg : decode cc g.pc = .ok (.invokestatic index, 3)) :
    xInto p l e R s m args below meth c H locs cells slots y g rest As (.invokestatic index) := by
  obtain ⟨⟨-, hcode, hinit, hy, hlen, hlink⟩, hstat, -⟩ := cw
  obtain ⟨hexec, hb, hml, hown, -⟩ := S
  refine ⟨hg, hsize.trans hml.symm, by rw [hb]; exact hdg, hW, ?_⟩
  intro T hT X
  obtain ⟨mk, hnamed⟩ := Cond.code_named hcode
  obtain ⟨methM, cM, hmethM, -, -, -, -, -, -, hsigM⟩ := Cond.code_spec hnamed hcode
  have hstatic : methM.isStatic = true := Cond.static_spec hnamed hmethM hstat
  obtain ⟨kP, hkP, -⟩ := className_of_methodNamed hnamed
  have hinitP : kP.init = .initialized := Cond.initialized_spec (findClass_of_methodNamed hnamed) hkP hinit
  obtain ⟨vm₁, X₁, hstep₁⟩ := X.invokestaticNest hexec hown hlink hnamed hmethM hstatic hkP hinitP hy (g := g) hg (argsL := As) (rest := rest) (hn.trans (hlen _ hsigM)) hstack (by rw [hb]; exact hdg)
  exact ⟨vm₁, mk, X₁.warmed, X₁, X₁.named hnamed, fun target h => hstep₁ _ fun acts => by rw [doInvoke_state]; exact h⟩
theorem xintoI (S : CallFix p m c cc nL s args Ts own) (cw : CallB R s args own index y bytes maxL none ws rm rm.cells rm.slots n ∧ y.name = "<init>" ∧ (Cond.instanceMethod y).before args s = true)
    (hg : g.method = m) (hn : As.length = n) (hsize : g.locals.size = nL) (hstack : g.stack = As.reverse ++ .ref b :: rest) (hW : 2 * g.monitorRoom + (rest.map fun v => v.category).sum ≤ 8) (hdg : decode cc g.pc = .ok (.invokespecial index, 3)) :
    xInto p l e R s m args below meth c H locs cells slots y g rest (.ref b :: As) (.invokespecial index) := by
  obtain ⟨⟨-, -, -, -, -, -, hcode, -, hy, hlen, hlink⟩, hy1, hinst⟩ := cw
  obtain ⟨hexec, hb, hml, hown, -⟩ := S
  refine ⟨hg, hsize.trans hml.symm, by rw [hb]; exact hdg, hW, ?_⟩
  intro T hT X
  subst hg
  have hpl : e.platform.magicAccessors = ({} : Platform).magicAccessors := by rw [X.admits.platform]
  obtain ⟨mk, methM, cM, kP, vm₁, hnamed, hmethM, hcodeM, -, hlocalsM, -, hkP, -, hW₁, hstep₁⟩ := Steps.initColdArgs (e := e) X.here hexec X.warmed hpl hown hy1 hy hlink hinst hcode (f := g) rfl (argsL := As) (rest := rest) (fun sig h => hn.trans (hlen sig h)) hstack (by rw [hb]; exact hdg)
  have X₁ := X.noted hW₁
  exact ⟨vm₁, mk, X₁.warmed, X₁, X₁.named hnamed, fun target h => hstep₁ _ fun acts => by rw [doInvoke_state]; exact h⟩
theorem xintoIN (S : CallFix p m c cc nL s args Ts own) (cw : va_CN R s args own index y host bytes maxL none ws rm rm.cells rm.slots n ∧ y.name = "<init>" ∧ (Cond.instanceMethod y).before args s = true)
    (hg : g.method = m) (hn : As.length = n) (hsize : g.locals.size = nL) (hstack : g.stack = As.reverse ++ .ref b :: rest) (hW : 2 * g.monitorRoom + (rest.map fun v => v.category).sum ≤ 8) (hdg : decode cc g.pc = .ok (.invokespecial index, 3)) :
    xInto p l e R s m args below meth c H locs cells slots y g rest (.ref b :: As) (.invokespecial index) := by
  obtain ⟨⟨-, hcode, -, hy, hlen, hlink⟩, hy1, hinst⟩ := cw
  obtain ⟨hexec, hb, hml, hown, -⟩ := S
  refine ⟨hg, hsize.trans hml.symm, by rw [hb]; exact hdg, hW, ?_⟩
  intro T hT X
  subst hg
  have hpl : e.platform.magicAccessors = ({} : Platform).magicAccessors := by rw [X.admits.platform]
  obtain ⟨mk, methM, cM, kP, vm₁, hnamed, hmethM, hcodeM, -, hlocalsM, -, hkP, -, hW₁, hstep₁⟩ := Steps.initColdArgsNest (e := e) X.here hexec X.warmed hpl hown hy1 hy hlink hinst hcode (f := g) rfl (argsL := As) (rest := rest) (fun sig h => hn.trans (hlen sig h)) hstack (by rw [hb]; exact hdg)
  have X₁ := X.noted hW₁
  exact ⟨vm₁, mk, X₁.warmed, X₁, X₁.named hnamed, fun target h => hstep₁ _ fun acts => by rw [doInvoke_state]; exact h⟩
/-- what a call owes besides: the callee's words, its room -/
abbrev xOwe (R : Room) (s : State) (y : MethodName) (ws : List Cond) (bytes : ByteArray) (maxL : Nat) (ret : Option FieldType) (rm : Room) : Prop :=
  rm.frames + 1 ≤ R.frames ∧ 8 + (maxL + 11) + rm.locals ≤ R.locals ∧ (∀ w ∈ ws, ∀ (a' : Array Value) (U : State), s.WarmedH U.vm → w.before a' U = true) ∧ Cond.code y bytes maxL ret ∈ ws ∧ (∀ (a' : Array Value) (U : State), s.WarmedH U.vm → (Cond.initialized y.cls).before a' U = true)
theorem xoweB (cb : CallB R s args own index y bytes maxL ret ws rm rm.cells rm.slots n) : xOwe R s y ws bytes maxL ret rm := by
  obtain ⟨-, -, hfr, hlo, hws, hcw, -, hini, -⟩ := cb
  exact ⟨hfr, hlo, hws, hcw, fun a' U hW => word_at hW (Or.inl (by first | rfl | simp [Cond.onTables, Cond.keeps, Cond.steady])) hini⟩
theorem xoweN (cb : va_CN R s args own index y host bytes maxL ret ws rm rm.cells rm.slots n) : xOwe R s y ws bytes maxL ret rm := by
  obtain ⟨⟨-, -, hfr, hlo, hws, hcw⟩, -, hini, -⟩ := cb
  exact ⟨hfr, hlo, hws, hcw, fun a' U hW => word_at hW (Or.inl (by first | rfl | simp [Cond.onTables, Cond.keeps, Cond.steady])) hini⟩
/-- THE CALL: where it throws, where it comes back -/
theorem xcall {pc : Nat} {ls : Array Slot} {st0 : List Value} {ig : Instr} (hd0 : s.drawn.sameBut d0 lw_cs) (hI : xInto p l e R (s.setDrawn d0) m args below meth c H locs cells slots y (F0 m pc ls st0) rest av ig) (hM : xMet l y ws rm G ty b0 av H post px) (ho : xOwe R (s.setDrawn d0) y ws bytes maxL ret rm)
    (hK : xK G ty b0 s) (hb0 : b0 ≤ s.heap.size) (hS : va_S (xA b0) s.heap H locs) (hc : cells + rm.cells ≤ R.cells) (hs : slots + rm.slots ≤ R.slots)
    (kx : ∀ (E : String) (ce : Cell) (q9 : Addr) (H1 : Heap) (locs1 : List Loc) (d1 : Drawn), s.drawn.sameBut d1 lw_cs → px E H1 → va_S (xA b0) s.heap H1 locs1 → H1[q9]? = some ce → ce.vm = .none → s.vm.findClass E = some ce.cls → vx_W p l e R (s.setDrawn d1) m args below meth c H1 locs1 (cells + rm.cells) (slots + rm.slots) Q (F0 m pc ls rest) q9)
    (kk : ∀ (v : Option Value) (H1 : Heap) (locs1 : List Loc) (d1 : Drawn), s.drawn.sameBut d1 lw_cs → post v H1 → va_S (xA b0) s.heap H1 locs1 → W p l e R (s.setDrawn d1) m args below meth c H1 locs1 (cells + rm.cells) (slots + rm.slots) Q (F0 m (pc + 3) ls (v.toList ++ rest))) : W p l e R (s.setDrawn d0) m args below meth c H locs cells slots Q (F0 m pc ls st0) := by
  obtain ⟨hg, hsize, hdg, hW, hI⟩ := hI
  obtain ⟨hfr, hlo, hws, hcw, hini⟩ := ho
  intro T hT X
  obtain ⟨vm₁, mk, hW₁, X₁, hn, hst⟩ := hI T hT X
  have hB := xback (R := R) (p := p) (e := e) (below := below) (s := s.setDrawn d0) (sargs := args) (len := 3) (W9 := 8) hM hfr hlo hws hcw hini
  have hSd : va_S (xA b0) (s.setDrawn d0).heap (T.setVm vm₁).heap locs := by
    show va_S (xA b0) s.heap T.heap locs
    rw [hT]; exact hS
  have hKd : xK G ty b0 (s.setDrawn d0) := hK.drawn d0
  have hKT : xK G ty b0 (T.setVm vm₁) := xK.to (s := s.setDrawn d0) hW₁ hSd hKd
  have hpre : PreOf R rm.cells rm.slots (xPc G ty b0 av H) ⟨T.setVm vm₁, locs, cells, slots⟩ av.toArray := ⟨hc, hs, rfl, hT, hKT, Nat.le_trans hb0 hS.1⟩
  have keep : ∀ {st t T' : State} {L : List Loc}, st.heap = H → T'.heap = t.heap → (∀ q ∈ L, xA b0 q.base) → va_F (xA b0) st t → va_S (xA b0) s.heap T'.heap (locs ++ L) := by
    intro st t T' L h0 e1 hL hF
    exact (vx_keep h0 e1 hS (fun _ _ h => h) (fun _ h => h) hL hF).2.2
  rcases hB m meth c ⟨T.setVm vm₁, locs, cells, slots⟩ { F0 m pc ls st0 with stack := rest } ig mk av.toArray X₁ hg hsize hdg hW hn hpre with ⟨v, ⟨U', l2, c2, s2⟩, d, hd, X', ⟨g', mk', t, L, e1, e2, ⟨⟨v', hv', hp⟩, hF⟩, h1, hL, h2, h3⟩, st⟩ | ⟨q, ⟨U', l2, c2, s2⟩, d, hd, X', ⟨g', mk', t, L, E, ce, e1, e2, ⟨hp, hF⟩, hce, hcv, hcl, h1, hL, h2, h3⟩, st⟩
  · dsimp only [Pt.U, Pt.locs, Pt.cells, Pt.slots] at X' e1 e2 h1 h2 h3 st hF
    subst h1; subst h2; subst h3
    cases hv'
    have hS1 := keep (st := (((T.setVm vm₁).setDrawn d).calling g' mk' av.toArray)) (T' := U') hT e1 hL hF
    obtain ⟨t2, a1, b1⟩ := kk v U'.heap (locs ++ L) d (hd0.trans hd) (by rw [e1]; exact hp) hS1 U' rfl X'
    exact ⟨t2, hst _ (st.trans a1), b1⟩
  · dsimp only [Pt.U, Pt.locs, Pt.cells, Pt.slots] at X' e1 e2 h1 h2 h3 st hF hcl
    subst h1; subst h2; subst h3
    have hS1 := keep (st := (((T.setVm vm₁).setDrawn d).calling g' mk' av.toArray)) (T' := U') hT e1 hL hF
    have hcl' : s.vm.findClass E = some ce.cls := by
      have h9 : vm₁.findClass E = some ce.cls := hcl
      rw [hW₁.alike.findClass] at h9
      exact h9
    obtain ⟨t2, a1, b1⟩ := kx E ce q U'.heap (locs ++ L) d (hd0.trans hd) (by rw [e1]; exact hp) hS1 (by rw [e1]; exact hce) hcv hcl' U' rfl X'
    exact ⟨t2, hst _ (st.trans a1), b1⟩
end XCalls
end
section
/-! NUMBERS: two doubles that stand for the same number, or are both none; rows of the arithmetic over it; comparisons with their branch. -/
section XNum
abbrev xv (x : UInt64) : Jvm.FP.Core.Datum := Jvm.FP.Core.val64 x
/-- x stands for the same number as e (zeros with their signs), or both are none -/
abbrev vq (x e : UInt64) : Prop := xv x = xv e
theorem xnan {b : UInt64} (h : isNaN64 b = true) : xv b = .nan := by
  have h1 : b &&& 0x7fffffffffffffff > 0x7ff0000000000000 := by
    unfold isNaN64 at h
    exact of_decide_eq_true h
  have h2 : (0x7ff0000000000000 : UInt64).toNat < (b &&& 0x7fffffffffffffff).toNat := UInt64.lt_iff_toNat_lt.mp h1
  have h3 : (b &&& 0x7fffffffffffffff).toNat = b.toNat % 2 ^ 63 := by
    rw [UInt64.toNat_and, show (0x7fffffffffffffff : UInt64).toNat = 2 ^ 63 - 1 from rfl, Nat.and_two_pow_sub_one_eq_mod]
  rw [h3] at h2
  have h4 : Jvm.FP.Core.dIsNaN b = true := (Jvm.FP.Core.isNaN_bits b).mpr h2
  unfold Jvm.FP.Core.dIsNaN Jvm.FP.Core.isNaN at h4
  exact of_decide_eq_true h4
theorem vq_al {x y : UInt64} (h : alike64 x y = true) : vq x y := by
  unfold alike64 at h
  rcases Bool.or_eq_true_iff.mp h with h | h
  · rw [of_decide_eq_true h]
  · obtain ⟨h1, h2⟩ := Bool.and_eq_true_iff.mp h
    rw [vq, xnan h1, xnan h2]
theorem vq_rf (x : UInt64) : vq x x := rfl
theorem xadd_def (x y : UInt64) : FP.dadd x y = .ofNat (Jvm.FP.Core.encode Jvm.FP.Core.b64 (Jvm.FP.Core.round Jvm.FP.Core.b64 (Jvm.FP.Core.exactSum (xv x) (xv y)))) := rfl
theorem xsub_def (x y : UInt64) : FP.dsub x y = .ofNat (Jvm.FP.Core.encode Jvm.FP.Core.b64 (Jvm.FP.Core.round Jvm.FP.Core.b64 (Jvm.FP.Core.exactSum (xv x) (Jvm.FP.Core.negate (xv y))))) := rfl
theorem xmul_def (x y : UInt64) : FP.dmul x y = .ofNat (Jvm.FP.Core.encode Jvm.FP.Core.b64 (Jvm.FP.Core.round Jvm.FP.Core.b64 (Jvm.FP.Core.exactProduct (xv x) (xv y)))) := rfl
theorem xdiv_def (x y : UInt64) : FP.ddiv x y = .ofNat (Jvm.FP.Core.encode Jvm.FP.Core.b64 (Jvm.FP.Core.quotient Jvm.FP.Core.b64 (xv x) (xv y))) := rfl
theorem xcmp_def (x y : UInt64) : FP.dcmp x y = Jvm.FP.Core.order (xv x) (xv y) := rfl
theorem xd2i_def (x : UInt64) : FP.d2i x = Jvm.FP.Core.toI (xv x) := rfl
theorem vq_add {x y a b : UInt64} (h1 : vq x a) (h2 : vq y b) : FP.dadd x y = FP.dadd a b := by
  have h1 : xv x = xv a := h1
  have h2 : xv y = xv b := h2
  rw [xadd_def, xadd_def, h1, h2]
theorem vq_sub {x y a b : UInt64} (h1 : vq x a) (h2 : vq y b) : FP.dsub x y = FP.dsub a b := by
  have h1 : xv x = xv a := h1
  have h2 : xv y = xv b := h2
  rw [xsub_def, xsub_def, h1, h2]
theorem vq_mul {x y a b : UInt64} (h1 : vq x a) (h2 : vq y b) : FP.dmul x y = FP.dmul a b := by
  have h1 : xv x = xv a := h1
  have h2 : xv y = xv b := h2
  rw [xmul_def, xmul_def, h1, h2]
theorem vq_div {x y a b : UInt64} (h1 : vq x a) (h2 : vq y b) : FP.ddiv x y = FP.ddiv a b := by
  have h1 : xv x = xv a := h1
  have h2 : xv y = xv b := h2
  rw [xdiv_def, xdiv_def, h1, h2]
theorem vq_cmp {x y a b : UInt64} (h1 : vq x a) (h2 : vq y b) : FP.dcmp x y = FP.dcmp a b := by
  have h1 : xv x = xv a := h1
  have h2 : xv y = xv b := h2
  rw [xcmp_def, xcmp_def, h1, h2]
theorem vq_d2i {x a : UInt64} (h1 : vq x a) : FP.d2i x = FP.d2i a := by
  have h1 : xv x = xv a := h1
  rw [xd2i_def, xd2i_def, h1]
theorem vq_neg {x a : UInt64} (h1 : vq x a) : vq (FP.dneg x) (FP.dneg a) := by
  show Jvm.FP.Core.val64 (FP.dneg x) = Jvm.FP.Core.val64 (FP.dneg a)
  rw [Jvm.FP.val64_dneg, Jvm.FP.val64_dneg]
  exact congrArg _ h1
/-- x > y, x >= y, x < y, x <= y, x == y, as Java asks it: false where one is none -/
def xgt (x y : UInt64) : Bool := decide (FP.dcmp x y = some .gt)
def xge (x y : UInt64) : Bool := decide (FP.dcmp x y = some .gt) || decide (FP.dcmp x y = some .eq)
def xlt (x y : UInt64) : Bool := decide (FP.dcmp x y = some .lt)
def xle (x y : UInt64) : Bool := decide (FP.dcmp x y = some .lt) || decide (FP.dcmp x y = some .eq)
def xeq (x y : UInt64) : Bool := decide (FP.dcmp x y = some .eq)
theorem vq_gt {x y a b : UInt64} (h1 : vq x a) (h2 : vq y b) : xgt x y = xgt a b := by
  unfold xgt
  rw [vq_cmp h1 h2]
theorem vq_ge {x y a b : UInt64} (h1 : vq x a) (h2 : vq y b) : xge x y = xge a b := by
  unfold xge
  rw [vq_cmp h1 h2]
theorem vq_lt {x y a b : UInt64} (h1 : vq x a) (h2 : vq y b) : xlt x y = xlt a b := by
  unfold xlt
  rw [vq_cmp h1 h2]
theorem vq_le {x y a b : UInt64} (h1 : vq x a) (h2 : vq y b) : xle x y = xle a b := by
  unfold xle
  rw [vq_cmp h1 h2]
theorem vq_eq {x y a b : UInt64} (h1 : vq x a) (h2 : vq y b) : xeq x y = xeq a b := by
  unfold xeq
  rw [vq_cmp h1 h2]
variable {p : Program} {l : Launch} {e : Env} {R : Room} {s : State} {m : MethodId} {args : Array Value} {below : List Frame} {meth : Method} {c : Code} {H : Heap} {locs : List Loc} {cells slots : Nat} {Q : State → Prop}
variable {cc : ByteArray} {pc : Nat} {ls : Array Slot} {rest : List Value} {d0 : Drawn}
theorem xdadd (hd0 : s.drawn.sameBut d0 lw_cs) (hexec : p.tables.exec = Jvm.exec) (hb : c.code = cc) {x y a b : UInt64} (hx : vq x a) (hy : vq y b) (hdg : decode cc pc = .ok (.dadd, 1))
    (k : ∀ (r : UInt64) (d' : Drawn), vq r (FP.dadd a b) → s.drawn.sameBut d' lw_cs → W p l e R (s.setDrawn d') m args below meth c H locs cells slots Q (F0 m (pc + 1) ls (.double r :: rest))) : W p l e R (s.setDrawn d0) m args below meth c H locs cells slots Q (F0 m pc ls (.double y :: .double x :: rest)) :=
  lv_dadd_any hd0 lw_bits hexec hb hdg fun r d' hal hd => k r d' (by rw [← vq_add hx hy]; exact vq_al hal) hd
theorem xdsub (hd0 : s.drawn.sameBut d0 lw_cs) (hexec : p.tables.exec = Jvm.exec) (hb : c.code = cc) {x y a b : UInt64} (hx : vq x a) (hy : vq y b) (hdg : decode cc pc = .ok (.dsub, 1))
    (k : ∀ (r : UInt64) (d' : Drawn), vq r (FP.dsub a b) → s.drawn.sameBut d' lw_cs → W p l e R (s.setDrawn d') m args below meth c H locs cells slots Q (F0 m (pc + 1) ls (.double r :: rest))) : W p l e R (s.setDrawn d0) m args below meth c H locs cells slots Q (F0 m pc ls (.double y :: .double x :: rest)) :=
  lv_dsub_any hd0 lw_bits hexec hb hdg fun r d' hal hd => k r d' (by rw [← vq_sub hx hy]; exact vq_al hal) hd
theorem xdmul (hd0 : s.drawn.sameBut d0 lw_cs) (hexec : p.tables.exec = Jvm.exec) (hb : c.code = cc) {x y a b : UInt64} (hx : vq x a) (hy : vq y b) (hdg : decode cc pc = .ok (.dmul, 1))
    (k : ∀ (r : UInt64) (d' : Drawn), vq r (FP.dmul a b) → s.drawn.sameBut d' lw_cs → W p l e R (s.setDrawn d') m args below meth c H locs cells slots Q (F0 m (pc + 1) ls (.double r :: rest))) : W p l e R (s.setDrawn d0) m args below meth c H locs cells slots Q (F0 m pc ls (.double y :: .double x :: rest)) :=
  lv_dmul_any hd0 lw_bits hexec hb hdg fun r d' hal hd => k r d' (by rw [← vq_mul hx hy]; exact vq_al hal) hd
theorem xddiv (hd0 : s.drawn.sameBut d0 lw_cs) (hexec : p.tables.exec = Jvm.exec) (hb : c.code = cc) {x y a b : UInt64} (hx : vq x a) (hy : vq y b) (hdg : decode cc pc = .ok (.ddiv, 1))
    (k : ∀ (r : UInt64) (d' : Drawn), vq r (FP.ddiv a b) → s.drawn.sameBut d' lw_cs → W p l e R (s.setDrawn d') m args below meth c H locs cells slots Q (F0 m (pc + 1) ls (.double r :: rest))) : W p l e R (s.setDrawn d0) m args below meth c H locs cells slots Q (F0 m pc ls (.double y :: .double x :: rest)) :=
  lv_ddiv_any hd0 lw_bits hexec hb hdg fun r d' hal hd => k r d' (by rw [← vq_div hx hy]; exact vq_al hal) hd
theorem xcmp_l_le (hexec : p.tables.exec = Jvm.exec) (hb : c.code = cc) {x y a b : UInt64} (hx : vq x a) (hy : vq y b) {off : Int} {tgt : Nat} (hdg : decode cc pc = .ok (.dcmp .l, 1)) (hdg2 : decode cc (pc + 1) = .ok (.ifCond .le off, 3)) (ht : ((pc + 1 : Nat) : Int) + off = (tgt : Int))
    (kt : xgt a b = false → W p l e R s m args below meth c H locs cells slots Q (F0 m tgt ls rest)) (kf : xgt a b = true → W p l e R s m args below meth c H locs cells slots Q (F0 m (pc + 1 + 3) ls rest)) : W p l e R s m args below meth c H locs cells slots Q (F0 m pc ls (.double y :: .double x :: rest)) := by
  refine lv_dcmp hexec hb hdg ?_
  rw [vq_cmp hx hy]
  unfold xgt at kt kf
  generalize FP.dcmp a b = o at kt kf ⊢
  refine lv_if_le (tgt := tgt) hexec hb hdg2 ht (fun h => kt ?_) (fun h => kf ?_)
  · revert h
    rcases o with _ | o
    · decide
    · cases o <;> decide
  · revert h
    rcases o with _ | o
    · decide
    · cases o <;> decide
theorem xcmp_l_gt (hexec : p.tables.exec = Jvm.exec) (hb : c.code = cc) {x y a b : UInt64} (hx : vq x a) (hy : vq y b) {off : Int} {tgt : Nat} (hdg : decode cc pc = .ok (.dcmp .l, 1)) (hdg2 : decode cc (pc + 1) = .ok (.ifCond .gt off, 3)) (ht : ((pc + 1 : Nat) : Int) + off = (tgt : Int))
    (kt : xgt a b = true → W p l e R s m args below meth c H locs cells slots Q (F0 m tgt ls rest)) (kf : xgt a b = false → W p l e R s m args below meth c H locs cells slots Q (F0 m (pc + 1 + 3) ls rest)) : W p l e R s m args below meth c H locs cells slots Q (F0 m pc ls (.double y :: .double x :: rest)) := by
  refine lv_dcmp hexec hb hdg ?_
  rw [vq_cmp hx hy]
  unfold xgt at kt kf
  generalize FP.dcmp a b = o at kt kf ⊢
  refine lv_if_gt (tgt := tgt) hexec hb hdg2 ht (fun h => kt ?_) (fun h => kf ?_)
  · revert h
    rcases o with _ | o
    · decide
    · cases o <;> decide
  · revert h
    rcases o with _ | o
    · decide
    · cases o <;> decide
theorem xcmp_l_lt (hexec : p.tables.exec = Jvm.exec) (hb : c.code = cc) {x y a b : UInt64} (hx : vq x a) (hy : vq y b) {off : Int} {tgt : Nat} (hdg : decode cc pc = .ok (.dcmp .l, 1)) (hdg2 : decode cc (pc + 1) = .ok (.ifCond .lt off, 3)) (ht : ((pc + 1 : Nat) : Int) + off = (tgt : Int))
    (kt : xge a b = false → W p l e R s m args below meth c H locs cells slots Q (F0 m tgt ls rest)) (kf : xge a b = true → W p l e R s m args below meth c H locs cells slots Q (F0 m (pc + 1 + 3) ls rest)) : W p l e R s m args below meth c H locs cells slots Q (F0 m pc ls (.double y :: .double x :: rest)) := by
  refine lv_dcmp hexec hb hdg ?_
  rw [vq_cmp hx hy]
  unfold xge at kt kf
  generalize FP.dcmp a b = o at kt kf ⊢
  refine lv_if_lt (tgt := tgt) hexec hb hdg2 ht (fun h => kt ?_) (fun h => kf ?_)
  · revert h
    rcases o with _ | o
    · decide
    · cases o <;> decide
  · revert h
    rcases o with _ | o
    · decide
    · cases o <;> decide
theorem xcmp_l_ge (hexec : p.tables.exec = Jvm.exec) (hb : c.code = cc) {x y a b : UInt64} (hx : vq x a) (hy : vq y b) {off : Int} {tgt : Nat} (hdg : decode cc pc = .ok (.dcmp .l, 1)) (hdg2 : decode cc (pc + 1) = .ok (.ifCond .ge off, 3)) (ht : ((pc + 1 : Nat) : Int) + off = (tgt : Int))
    (kt : xge a b = true → W p l e R s m args below meth c H locs cells slots Q (F0 m tgt ls rest)) (kf : xge a b = false → W p l e R s m args below meth c H locs cells slots Q (F0 m (pc + 1 + 3) ls rest)) : W p l e R s m args below meth c H locs cells slots Q (F0 m pc ls (.double y :: .double x :: rest)) := by
  refine lv_dcmp hexec hb hdg ?_
  rw [vq_cmp hx hy]
  unfold xge at kt kf
  generalize FP.dcmp a b = o at kt kf ⊢
  refine lv_if_ge (tgt := tgt) hexec hb hdg2 ht (fun h => kt ?_) (fun h => kf ?_)
  · revert h
    rcases o with _ | o
    · decide
    · cases o <;> decide
  · revert h
    rcases o with _ | o
    · decide
    · cases o <;> decide
theorem xcmp_l_ne (hexec : p.tables.exec = Jvm.exec) (hb : c.code = cc) {x y a b : UInt64} (hx : vq x a) (hy : vq y b) {off : Int} {tgt : Nat} (hdg : decode cc pc = .ok (.dcmp .l, 1)) (hdg2 : decode cc (pc + 1) = .ok (.ifCond .ne off, 3)) (ht : ((pc + 1 : Nat) : Int) + off = (tgt : Int))
    (kt : xeq a b = false → W p l e R s m args below meth c H locs cells slots Q (F0 m tgt ls rest)) (kf : xeq a b = true → W p l e R s m args below meth c H locs cells slots Q (F0 m (pc + 1 + 3) ls rest)) : W p l e R s m args below meth c H locs cells slots Q (F0 m pc ls (.double y :: .double x :: rest)) := by
  refine lv_dcmp hexec hb hdg ?_
  rw [vq_cmp hx hy]
  unfold xeq at kt kf
  generalize FP.dcmp a b = o at kt kf ⊢
  refine lv_if_ne (tgt := tgt) hexec hb hdg2 ht (fun h => kt ?_) (fun h => kf ?_)
  · revert h
    rcases o with _ | o
    · decide
    · cases o <;> decide
  · revert h
    rcases o with _ | o
    · decide
    · cases o <;> decide
theorem xcmp_l_eq (hexec : p.tables.exec = Jvm.exec) (hb : c.code = cc) {x y a b : UInt64} (hx : vq x a) (hy : vq y b) {off : Int} {tgt : Nat} (hdg : decode cc pc = .ok (.dcmp .l, 1)) (hdg2 : decode cc (pc + 1) = .ok (.ifCond .eq off, 3)) (ht : ((pc + 1 : Nat) : Int) + off = (tgt : Int))
    (kt : xeq a b = true → W p l e R s m args below meth c H locs cells slots Q (F0 m tgt ls rest)) (kf : xeq a b = false → W p l e R s m args below meth c H locs cells slots Q (F0 m (pc + 1 + 3) ls rest)) : W p l e R s m args below meth c H locs cells slots Q (F0 m pc ls (.double y :: .double x :: rest)) := by
  refine lv_dcmp hexec hb hdg ?_
  rw [vq_cmp hx hy]
  unfold xeq at kt kf
  generalize FP.dcmp a b = o at kt kf ⊢
  refine lv_if_eq (tgt := tgt) hexec hb hdg2 ht (fun h => kt ?_) (fun h => kf ?_)
  · revert h
    rcases o with _ | o
    · decide
    · cases o <;> decide
  · revert h
    rcases o with _ | o
    · decide
    · cases o <;> decide
theorem xcmp_g_ge (hexec : p.tables.exec = Jvm.exec) (hb : c.code = cc) {x y a b : UInt64} (hx : vq x a) (hy : vq y b) {off : Int} {tgt : Nat} (hdg : decode cc pc = .ok (.dcmp .g, 1)) (hdg2 : decode cc (pc + 1) = .ok (.ifCond .ge off, 3)) (ht : ((pc + 1 : Nat) : Int) + off = (tgt : Int))
    (kt : xlt a b = false → W p l e R s m args below meth c H locs cells slots Q (F0 m tgt ls rest)) (kf : xlt a b = true → W p l e R s m args below meth c H locs cells slots Q (F0 m (pc + 1 + 3) ls rest)) : W p l e R s m args below meth c H locs cells slots Q (F0 m pc ls (.double y :: .double x :: rest)) := by
  refine lv_dcmp hexec hb hdg ?_
  rw [vq_cmp hx hy]
  unfold xlt at kt kf
  generalize FP.dcmp a b = o at kt kf ⊢
  refine lv_if_ge (tgt := tgt) hexec hb hdg2 ht (fun h => kt ?_) (fun h => kf ?_)
  · revert h
    rcases o with _ | o
    · decide
    · cases o <;> decide
  · revert h
    rcases o with _ | o
    · decide
    · cases o <;> decide
theorem xcmp_g_lt (hexec : p.tables.exec = Jvm.exec) (hb : c.code = cc) {x y a b : UInt64} (hx : vq x a) (hy : vq y b) {off : Int} {tgt : Nat} (hdg : decode cc pc = .ok (.dcmp .g, 1)) (hdg2 : decode cc (pc + 1) = .ok (.ifCond .lt off, 3)) (ht : ((pc + 1 : Nat) : Int) + off = (tgt : Int))
    (kt : xlt a b = true → W p l e R s m args below meth c H locs cells slots Q (F0 m tgt ls rest)) (kf : xlt a b = false → W p l e R s m args below meth c H locs cells slots Q (F0 m (pc + 1 + 3) ls rest)) : W p l e R s m args below meth c H locs cells slots Q (F0 m pc ls (.double y :: .double x :: rest)) := by
  refine lv_dcmp hexec hb hdg ?_
  rw [vq_cmp hx hy]
  unfold xlt at kt kf
  generalize FP.dcmp a b = o at kt kf ⊢
  refine lv_if_lt (tgt := tgt) hexec hb hdg2 ht (fun h => kt ?_) (fun h => kf ?_)
  · revert h
    rcases o with _ | o
    · decide
    · cases o <;> decide
  · revert h
    rcases o with _ | o
    · decide
    · cases o <;> decide
theorem xcmp_g_gt (hexec : p.tables.exec = Jvm.exec) (hb : c.code = cc) {x y a b : UInt64} (hx : vq x a) (hy : vq y b) {off : Int} {tgt : Nat} (hdg : decode cc pc = .ok (.dcmp .g, 1)) (hdg2 : decode cc (pc + 1) = .ok (.ifCond .gt off, 3)) (ht : ((pc + 1 : Nat) : Int) + off = (tgt : Int))
    (kt : xle a b = false → W p l e R s m args below meth c H locs cells slots Q (F0 m tgt ls rest)) (kf : xle a b = true → W p l e R s m args below meth c H locs cells slots Q (F0 m (pc + 1 + 3) ls rest)) : W p l e R s m args below meth c H locs cells slots Q (F0 m pc ls (.double y :: .double x :: rest)) := by
  refine lv_dcmp hexec hb hdg ?_
  rw [vq_cmp hx hy]
  unfold xle at kt kf
  generalize FP.dcmp a b = o at kt kf ⊢
  refine lv_if_gt (tgt := tgt) hexec hb hdg2 ht (fun h => kt ?_) (fun h => kf ?_)
  · revert h
    rcases o with _ | o
    · decide
    · cases o <;> decide
  · revert h
    rcases o with _ | o
    · decide
    · cases o <;> decide
theorem xcmp_g_le (hexec : p.tables.exec = Jvm.exec) (hb : c.code = cc) {x y a b : UInt64} (hx : vq x a) (hy : vq y b) {off : Int} {tgt : Nat} (hdg : decode cc pc = .ok (.dcmp .g, 1)) (hdg2 : decode cc (pc + 1) = .ok (.ifCond .le off, 3)) (ht : ((pc + 1 : Nat) : Int) + off = (tgt : Int))
    (kt : xle a b = true → W p l e R s m args below meth c H locs cells slots Q (F0 m tgt ls rest)) (kf : xle a b = false → W p l e R s m args below meth c H locs cells slots Q (F0 m (pc + 1 + 3) ls rest)) : W p l e R s m args below meth c H locs cells slots Q (F0 m pc ls (.double y :: .double x :: rest)) := by
  refine lv_dcmp hexec hb hdg ?_
  rw [vq_cmp hx hy]
  unfold xle at kt kf
  generalize FP.dcmp a b = o at kt kf ⊢
  refine lv_if_le (tgt := tgt) hexec hb hdg2 ht (fun h => kt ?_) (fun h => kf ?_)
  · revert h
    rcases o with _ | o
    · decide
    · cases o <;> decide
  · revert h
    rcases o with _ | o
    · decide
    · cases o <;> decide
theorem xcmp_g_ne (hexec : p.tables.exec = Jvm.exec) (hb : c.code = cc) {x y a b : UInt64} (hx : vq x a) (hy : vq y b) {off : Int} {tgt : Nat} (hdg : decode cc pc = .ok (.dcmp .g, 1)) (hdg2 : decode cc (pc + 1) = .ok (.ifCond .ne off, 3)) (ht : ((pc + 1 : Nat) : Int) + off = (tgt : Int))
    (kt : xeq a b = false → W p l e R s m args below meth c H locs cells slots Q (F0 m tgt ls rest)) (kf : xeq a b = true → W p l e R s m args below meth c H locs cells slots Q (F0 m (pc + 1 + 3) ls rest)) : W p l e R s m args below meth c H locs cells slots Q (F0 m pc ls (.double y :: .double x :: rest)) := by
  refine lv_dcmp hexec hb hdg ?_
  rw [vq_cmp hx hy]
  unfold xeq at kt kf
  generalize FP.dcmp a b = o at kt kf ⊢
  refine lv_if_ne (tgt := tgt) hexec hb hdg2 ht (fun h => kt ?_) (fun h => kf ?_)
  · revert h
    rcases o with _ | o
    · decide
    · cases o <;> decide
  · revert h
    rcases o with _ | o
    · decide
    · cases o <;> decide
theorem xcmp_g_eq (hexec : p.tables.exec = Jvm.exec) (hb : c.code = cc) {x y a b : UInt64} (hx : vq x a) (hy : vq y b) {off : Int} {tgt : Nat} (hdg : decode cc pc = .ok (.dcmp .g, 1)) (hdg2 : decode cc (pc + 1) = .ok (.ifCond .eq off, 3)) (ht : ((pc + 1 : Nat) : Int) + off = (tgt : Int))
    (kt : xeq a b = true → W p l e R s m args below meth c H locs cells slots Q (F0 m tgt ls rest)) (kf : xeq a b = false → W p l e R s m args below meth c H locs cells slots Q (F0 m (pc + 1 + 3) ls rest)) : W p l e R s m args below meth c H locs cells slots Q (F0 m pc ls (.double y :: .double x :: rest)) := by
  refine lv_dcmp hexec hb hdg ?_
  rw [vq_cmp hx hy]
  unfold xeq at kt kf
  generalize FP.dcmp a b = o at kt kf ⊢
  refine lv_if_eq (tgt := tgt) hexec hb hdg2 ht (fun h => kt ?_) (fun h => kf ?_)
  · revert h
    rcases o with _ | o
    · decide
    · cases o <;> decide
  · revert h
    rcases o with _ | o
    · decide
    · cases o <;> decide
end XNum
section XHeap
variable {p : Program} {l : Launch} {e : Env} {R : Room} {s : State} {m : MethodId} {args : Array Value} {below : List Frame} {meth : Method} {c : Code} {H : Heap} {locs : List Loc} {cells slots : Nat} {Q : State → Prop}
variable {cc : ByteArray} {pc : Nat} {ls : Array Slot} {rest : List Value} {G : va_G} {tys : List (ClassId × FieldType)} {a b0 : Nat} {H0 : Heap}
/-- the heap H1 is H but for the cell a, which is e now -/
abbrev xset (G : va_G) (a : Nat) (e : va_E) (H H1 : Heap) : Prop := xc G a e H1 ∧ H1.size = H.size ∧ ∀ q : Nat, q ≠ a → H1[q]? = H[q]?
theorem xput (hexec : p.tables.exec = Jvm.exec) (hb : c.code = cc) {own ref C : String} {T : u_T} {N ci index : Nat} {Ts : List Cond} (hts : ∀ w ∈ Ts, w.before args s = true) (hin : ∀ w ∈ u_ws C T N, w ∈ Ts) (ty0 : Nat → FieldType) (hty : ∀ k, k < N → parseFieldDescriptor (T k).2.2.1 = some (ty0 k)) (hnm : ∀ a, a < N → ∀ b, b < N → a ≠ b → (T a).2.1 ≠ (T b).2.1) (hown : s.vm.findClass own = some m.cls) (hK : va_K G vwCl tys s) {fs : List Value} (hP : xc G a (.inr (ci, fs)) H) (hS : va_S (xA b0) H0 H locs) (ha : b0 ≤ a) (hc : vwCl[ci]? = some (C, T, N)) (k : Nat) (hk : k < N) (hlink : (Cond.fieldLink own index ref (T k).2.1 (T k).2.2.1).before args s = true) (hsame : ∀ x, s.fieldFound? (T k).1 (T k).2.1 (T k).2.2.1 = some x → s.fieldFound? ref (T k).2.1 (T k).2.2.1 = some x) (hfin : (T k).2.2.2 = false) {ty : FieldType} {v : Value} (hd : parseFieldDescriptor (T k).2.2.1 = some ty) (hn : narrow ty v = v) (hfit : fits ty v = true) (hl : k < fs.length)
    (hdg : decode cc pc = .ok (.putfield index, 3)) (kk : ∀ (H1 : Heap) (locs1 : List Loc), xset G a (.inr (ci, fs.set k v)) H H1 → va_S (xA b0) H0 H1 locs1 → W p l e R s m args below meth c H1 locs1 cells slots Q (F0 m (pc + 3) ls rest)) : W p l e R s m args below meth c H locs cells slots Q (F0 m pc ls (v :: .ref a :: rest)) := by
  have hap := va_apart (own := own) hts hin ty0 hty hnm hK hc
  have hP0 := hP
  obtain ⟨r, h1, cell, q1, q2, q3, q4⟩ := hP
  have hr : r = (C, T, N) := Option.some.inj (h1.symm.trans hc)
  subst hr
  obtain ⟨hSS, hfc, kC, hkC, hkind⟩ := hK.1 ci _ hc
  obtain ⟨cf, kf, fi, f, hi, hsl⟩ := hSS k hk
  have hlay := hts _ (hin _ (u_in_lay hk))
  unfold u_lay at hlay
  rw [if_neg (by rw [hfin]; decide)] at hlay
  have hst := (u_facts hfc hkC (u_lays hts hin hk) hi).1
  have h6 := u_store hfc hkC hkind hlay hi hd hn hfit
  refine W.putK hexec hb (f := f) ⟨hown, hlink, ⟨_, _, _, hsame _ hi⟩, hst⟩ (by rw [q2]; exact h6) q1 q3 (by rw [hsl]; exact k2_hasslot (q4 k hk)) rfl rfl hdg fun H' e1 e2 e3 => ?_
  rw [hsl] at e1 ⊢
  exact kk H' _ ⟨⟨_, hc, t_OB.to (V := updV (vp_V fs) k v) ⟨_, e1, q2, q3, t_set q4 hap hk v⟩ (fun j _ => vp_updV_set hl v j)⟩, e2, e3⟩ (hS.put e2 e3 ha)
theorem xputF (hexec : p.tables.exec = Jvm.exec) (hb : c.code = cc) {own ref C : String} {T : u_T} {N ci index : Nat} {Ts : List Cond} (hts : ∀ w ∈ Ts, w.before args s = true) (hin : ∀ w ∈ u_ws C T N, w ∈ Ts) (ty0 : Nat → FieldType) (hty : ∀ k, k < N → parseFieldDescriptor (T k).2.2.1 = some (ty0 k)) (hnm : ∀ a, a < N → ∀ b, b < N → a ≠ b → (T a).2.1 ≠ (T b).2.1) (hown : s.vm.findClass own = some m.cls) (hK : va_K G vwCl tys s) {fs : List Value} (hP : xc G a (.inr (ci, fs)) H) (hS : va_S (xA b0) H0 H locs) (ha : b0 ≤ a) (hc : vwCl[ci]? = some (C, T, N)) (k : Nat) (hk : k < N) (hlink : (Cond.fieldLink own index ref (T k).2.1 (T k).2.2.1).before args s = true) (hsame : ∀ x, s.fieldFound? (T k).1 (T k).2.1 (T k).2.2.1 = some x → s.fieldFound? ref (T k).2.1 (T k).2.2.1 = some x) (hfin : (T k).2.2.2 = true) (hin2 : meth.name = "<init>") (hdecl : (T k).1 = own) {ty : FieldType} {v : Value} (hd : parseFieldDescriptor (T k).2.2.1 = some ty) (hn : narrow ty v = v) (hfit : fits ty v = true) (hl : k < fs.length)
    (hdg : decode cc pc = .ok (.putfield index, 3)) (kk : ∀ (H1 : Heap) (locs1 : List Loc), xset G a (.inr (ci, fs.set k v)) H H1 → va_S (xA b0) H0 H1 locs1 → W p l e R s m args below meth c H1 locs1 cells slots Q (F0 m (pc + 3) ls rest)) : W p l e R s m args below meth c H locs cells slots Q (F0 m pc ls (v :: .ref a :: rest)) := by
  have hap := va_apart (own := own) hts hin ty0 hty hnm hK hc
  obtain ⟨r, h1, cell, q1, q2, q3, q4⟩ := hP
  have hr : r = (C, T, N) := Option.some.inj (h1.symm.trans hc)
  subst hr
  obtain ⟨hSS, hfc, kC, hkC, hkind⟩ := hK.1 ci _ hc
  obtain ⟨cf, kf, fi, f, hi, hsl⟩ := hSS k hk
  have hlay := hts _ (hin _ (u_in_lay hk))
  unfold u_lay at hlay
  rw [if_pos hfin] at hlay
  have hst := (u_facts hfc hkC (u_lays hts hin hk) hi).1
  have hcf : m.cls = cf := by
    obtain ⟨_, _, c', _, _, _, -, -, hf', -, -, -, hown2, -⟩ := Cond.laysFinal_spec hlay
    have e1 : c' = cf := by have := hi.symm.trans hf'; simp at this; exact this.1.symm
    rw [hdecl] at hown2
    rw [← e1]; exact Option.some.inj (hown.symm.trans hown2)
  have h6 := u_fits hfc hkC hkind (Or.inr hlay) hi hd hn hfit
  refine W.putFinK hexec hb hown hlink (hsame _ hi) hst hcf hin2 (by rw [q2]; exact h6) q1 q3 (by rw [hsl]; exact k2_hasslot (q4 k hk)) rfl rfl hdg fun H' e1 e2 e3 => ?_
  rw [hsl] at e1 ⊢
  exact kk H' _ ⟨⟨_, hc, t_OB.to (V := updV (vp_V fs) k v) ⟨_, e1, q2, q3, t_set q4 hap hk v⟩ (fun j _ => vp_updV_set hl v j)⟩, e2, e3⟩ (hS.put e2 e3 ha)
theorem xdast (hexec : p.tables.exec = Jvm.exec) (hb : c.code = cc) (hK : va_K G vwCl tys s) (t0 : Nat) {cA : ClassId} {n : Nat} {f : Nat → UInt64} (hP : xc G a (.inl (cA, n, .inr (.inr (.inr (.inl f))))) H) (hS : va_S (xA b0) H0 H locs) (ha : b0 ≤ a) (ht : tys[t0]? = some (cA, .double)) {i : Int32} {x : UInt64} (hin : vp_in i n) (hdg : decode cc pc = .ok (.dastore, 1))
    (kk : ∀ (H1 : Heap) (locs1 : List Loc), xset G a (.inl (cA, n, .inr (.inr (.inr (.inl (vf_upd f i.toNatClampNeg x)))))) H H1 → va_S (xA b0) H0 H1 locs1 → W p l e R s m args below meth c H1 locs1 cells slots Q (F0 m (pc + 1) ls rest)) : W p l e R s m args below meth c H locs cells slots Q (F0 m pc ls (.double x :: .int i :: .ref a :: rest)) := by
  refine W.dast hexec hb hP ((hK.2 t0 _ ht).1 n (fun j => .double (f j))) (fun q => by cases q) (by show ¬ (i < 0 ∨ (arrV _ _ _).slots.size ≤ _); rw [arrV_size]; exact hin) rfl rfl hdg fun H1 e1 z oq => ?_
  refine kk H1 _ ⟨?_, z, oq⟩ (hS.put z oq ha)
  show H1[a]? = some (vp_cell _ _)
  rw [e1]
  rw [vp_cell_d, vp_cell_d, arrV_store]
  congr 2
  funext q
  by_cases hq : q = i.toNatClampNeg
  · subst hq
    simp [updV, vf_upd]
    
  · simp [updV, vf_upd, hq]
theorem xiast (hexec : p.tables.exec = Jvm.exec) (hb : c.code = cc) (hK : va_K G vwCl tys s) (t0 : Nat) {cA : ClassId} {n : Nat} {f : Nat → Int32} (hP : xc G a (.inl (cA, n, .inl f)) H) (hS : va_S (xA b0) H0 H locs) (ha : b0 ≤ a) (ht : tys[t0]? = some (cA, .int)) {i : Int32} {x : Int32} (hin : vp_in i n) (hdg : decode cc pc = .ok (.iastore, 1))
    (kk : ∀ (H1 : Heap) (locs1 : List Loc), xset G a (.inl (cA, n, .inl (upd f i.toNatClampNeg x))) H H1 → va_S (xA b0) H0 H1 locs1 → W p l e R s m args below meth c H1 locs1 cells slots Q (F0 m (pc + 1) ls rest)) : W p l e R s m args below meth c H locs cells slots Q (F0 m pc ls (.int x :: .int i :: .ref a :: rest)) := by
  refine W.iast hexec hb hP ((hK.2 t0 _ ht).1 n (fun j => .int (f j))) (fun q => by cases q) (by show ¬ (i < 0 ∨ (arrV _ _ _).slots.size ≤ _); rw [arrV_size]; exact hin) rfl rfl hdg fun H1 e1 z oq => ?_
  refine kk H1 _ ⟨?_, z, oq⟩ (hS.put z oq ha)
  show H1[a]? = some (vp_cell _ _)
  rw [e1]
  rw [vp_cell_i, vp_cell_i, arrV_store]
  congr 2
  funext q
  by_cases hq : q = i.toNatClampNeg
  · subst hq
    simp [updV, upd]
    
  · simp [updV, upd, hq]
theorem xzast (hexec : p.tables.exec = Jvm.exec) (hb : c.code = cc) (hK : va_K G vwCl tys s) (t0 : Nat) {cA : ClassId} {n : Nat} {f : Nat → Int32} (hP : xc G a (.inl (cA, n, .inl f)) H) (hS : va_S (xA b0) H0 H locs) (ha : b0 ≤ a) (ht : tys[t0]? = some (cA, .boolean)) {i : Int32} {x : Int32} (hin : vp_in i n) (hdg : decode cc pc = .ok (.bastore, 1))
    (kk : ∀ (H1 : Heap) (locs1 : List Loc), xset G a (.inl (cA, n, .inl (upd f i.toNatClampNeg (vp_nar .boolean x)))) H H1 → va_S (xA b0) H0 H1 locs1 → W p l e R s m args below meth c H1 locs1 cells slots Q (F0 m (pc + 1) ls rest)) : W p l e R s m args below meth c H locs cells slots Q (F0 m pc ls (.int x :: .int i :: .ref a :: rest)) := by
  refine W.zast hexec hb hP ((hK.2 t0 _ ht).1 n (fun j => .int (f j))) (fun q => by cases q) (by show ¬ (i < 0 ∨ (arrV _ _ _).slots.size ≤ _); rw [arrV_size]; exact hin) rfl rfl hdg fun H1 e1 z oq => ?_
  refine kk H1 _ ⟨?_, z, oq⟩ (hS.put z oq ha)
  show H1[a]? = some (vp_cell _ _)
  rw [e1]
  rw [vp_cell_i, vp_cell_i, arrV_store]
  congr 2
  funext q
  by_cases hq : q = i.toNatClampNeg
  · subst hq
    simp [updV, upd, vp_nar]
    try rfl
  · simp [updV, upd, vp_nar, hq]
theorem xlast (hexec : p.tables.exec = Jvm.exec) (hb : c.code = cc) (hK : va_K G vwCl tys s) (t0 : Nat) {cA : ClassId} {n : Nat} {f : Nat → Int64} (hP : xc G a (.inl (cA, n, .inr (.inl f))) H) (hS : va_S (xA b0) H0 H locs) (ha : b0 ≤ a) (ht : tys[t0]? = some (cA, .long)) {i : Int32} {x : Int64} (hin : vp_in i n) (hdg : decode cc pc = .ok (.lastore, 1))
    (kk : ∀ (H1 : Heap) (locs1 : List Loc), xset G a (.inl (cA, n, .inr (.inl (vp_updL f i.toNatClampNeg x)))) H H1 → va_S (xA b0) H0 H1 locs1 → W p l e R s m args below meth c H1 locs1 cells slots Q (F0 m (pc + 1) ls rest)) : W p l e R s m args below meth c H locs cells slots Q (F0 m pc ls (.long x :: .int i :: .ref a :: rest)) := by
  refine W.last hexec hb hP ((hK.2 t0 _ ht).1 n (fun j => .long (f j))) (fun q => by cases q) (by show ¬ (i < 0 ∨ (arrV _ _ _).slots.size ≤ _); rw [arrV_size]; exact hin) rfl rfl hdg fun H1 e1 z oq => ?_
  refine kk H1 _ ⟨?_, z, oq⟩ (hS.put z oq ha)
  show H1[a]? = some (vp_cell _ _)
  rw [e1]
  rw [vp_cell_l, vp_cell_l, arrV_store]
  congr 2
  funext q
  by_cases hq : q = i.toNatClampNeg
  · subst hq
    simp [updV, vp_updL]
    
  · simp [updV, vp_updL, hq]
end XHeap
end
section
/-! MORE ROWS: a body's beginning, array reads by whole numbers, whole numbers as places, throws. -/
section XMore
/-- a body, with all that a walk needs at its head -/
theorem xbody {l : Launch} {y : MethodName} {ws ws' : List Cond} {rm : Room} {G : va_G} {ty : Nat → ClassId} {b0 : Nat} {av : List Value} {H : Heap} {post : Option Value → Heap → Prop} {px : String → Heap → Prop} {cc : ByteArray} {maxL : Nat} {ret : Option FieldType} {C : String} {lv : List (Nat × Value)}
    (hy : plainName y.cls = true) (hw : ws = Cond.code y cc maxL ret :: ws') (hC : y.cls = C) (hlen : (lg_sl av).length ≤ maxL) (hlv : lv_args 0 av = lv)
    (body : ∀ (p : Program) (e : Env) (s : State) (m : MethodId) (below : List Frame) (meth : Method) (c : Code) (d0 : Drawn), p.tables.exec = Jvm.exec → c.code = cc → meth.sig.returnType = ret → (∀ d : Drawn, ∀ w ∈ ws, w.before av.toArray (s.setDrawn d) = true) → s.vm.findClass C = some m.cls → meth.locks = false → c.maxLocals = maxL → (∀ x ∈ c.exceptionTable.toList, False) → meth.name = y.name → xK G ty b0 s → b0 ≤ s.heap.size → s.heap = H → va_S (xA b0) s.heap H [] → s.drawn.sameBut d0 lw_cs → ∀ ls : Array Slot, lv_has ls maxL lv →
      W p l e rm (s.setDrawn d0) m av.toArray below meth c H [] 0 0 (xMQ below post px av.toArray s rm b0) (F0 m 0 ls [])) : xMet l y ws rm G ty b0 av H post px := by
  refine xofW (cc := cc) (maxL := maxL) (ret := ret) hy hw ?_
  intro p e s m below meth c s₁ B hml hxt hH hK hb0 hd0
  have hl := lv_entry av (n := maxL) hlen
  rw [hlv] at hl
  rw [lg_entry_eq]
  generalize (lg_sl av ++ List.replicate (maxL - (lg_sl av).length) Slot.unset).toArray = ls at hl ⊢
  exact body p e s m below meth c s.drawn B.exec B.bytes B.returns (fun d => dr_words (atoms_spec (ws := ws) B.pre) d) (by rw [← hC]; exact findClass_of_methodNamed B.named) B.notSynchronized hml hxt (name_of_methodNamed B.named B.method).1 hK (by rw [hH]; exact hb0) hH (by rw [hH]; exact va_S.rf) hd0 ls hl
/-- place i of n, as a whole number -/
def xix (i : Int32) (j n : Nat) : Prop := vp_in i n ∧ i.toNatClampNeg = j
theorem xix_of {j n : Nat} (h : j < n) (hn : n < 2 ^ 31) : xix (nI j) j n := ⟨vp_in_nI h hn, nI_clamp (Nat.lt_trans h hn)⟩
variable {p : Program} {l : Launch} {e : Env} {R : Room} {s : State} {m : MethodId} {args : Array Value} {below : List Frame} {meth : Method} {c : Code} {H : Heap} {locs : List Loc} {cells slots : Nat} {Q : State → Prop}
variable {cc : ByteArray} {pc : Nat} {ls : Array Slot} {rest : List Value} {d0 : Drawn} {G : va_G} {tys : List (ClassId × FieldType)} {a b0 n j : Nat} {H0 : Heap} {cA : ClassId} {i : Int32}
theorem xdald (hexec : p.tables.exec = Jvm.exec) (hb : c.code = cc) (hK : va_K G vwCl tys s) (t0 : Nat) {f : Nat → UInt64} (hP : xc G a (.inl (cA, n, .inr (.inr (.inr (.inl f))))) H) (ht : tys[t0]? = some (cA, .double)) (hi : xix i j n) (hdg : decode cc pc = .ok (.daload, 1))
    (kk : W p l e R s m args below meth c H locs cells slots Q (F0 m (pc + 1) ls (.double (f j) :: rest))) : W p l e R s m args below meth c H locs cells slots Q (F0 m pc ls (.int i :: .ref a :: rest)) :=
  va_dald hexec hb hK (x1 hP) 0 t0 rfl ht hi.1 hdg (by rw [hi.2]; exact kk)
theorem xiald (hexec : p.tables.exec = Jvm.exec) (hb : c.code = cc) (hK : va_K G vwCl tys s) (t0 : Nat) {f : Nat → Int32} (hP : xc G a (.inl (cA, n, .inl f)) H) (ht : tys[t0]? = some (cA, .int)) (hi : xix i j n) (hdg : decode cc pc = .ok (.iaload, 1))
    (kk : W p l e R s m args below meth c H locs cells slots Q (F0 m (pc + 1) ls (.int (f j) :: rest))) : W p l e R s m args below meth c H locs cells slots Q (F0 m pc ls (.int i :: .ref a :: rest)) :=
  va_iald hexec hb hK (x1 hP) 0 t0 rfl ht hi.1 hdg (by rw [hi.2]; exact kk)
theorem xzald (hexec : p.tables.exec = Jvm.exec) (hb : c.code = cc) (hK : va_K G vwCl tys s) (t0 : Nat) {f : Nat → Int32} (hP : xc G a (.inl (cA, n, .inl f)) H) (ht : tys[t0]? = some (cA, .boolean)) (hi : xix i j n) (hdg : decode cc pc = .ok (.baload, 1))
    (kk : W p l e R s m args below meth c H locs cells slots Q (F0 m (pc + 1) ls (.int (f j) :: rest))) : W p l e R s m args below meth c H locs cells slots Q (F0 m pc ls (.int i :: .ref a :: rest)) :=
  va_zald hexec hb hK (x1 hP) 0 t0 rfl ht hi.1 hdg (by rw [hi.2]; exact kk)
theorem xlald (hexec : p.tables.exec = Jvm.exec) (hb : c.code = cc) (hK : va_K G vwCl tys s) (t0 : Nat) {f : Nat → Int64} (hP : xc G a (.inl (cA, n, .inr (.inl f))) H) (ht : tys[t0]? = some (cA, .long)) (hi : xix i j n) (hdg : decode cc pc = .ok (.laload, 1))
    (kk : W p l e R s m args below meth c H locs cells slots Q (F0 m (pc + 1) ls (.long (f j) :: rest))) : W p l e R s m args below meth c H locs cells slots Q (F0 m pc ls (.int i :: .ref a :: rest)) :=
  va_lald hexec hb hK (x1 hP) 0 t0 rfl ht hi.1 hdg (by rw [hi.2]; exact kk)
theorem xaald (hexec : p.tables.exec = Jvm.exec) (hb : c.code = cc) (hK : va_K G vwCl tys s) (t0 : Nat) {C : String} {f : Nat → Option Nat} (hP : xc G a (.inl (cA, n, .inr (.inr (.inr (.inr f))))) H) (ht : tys[t0]? = some (cA, .object C)) (hi : xix i j n) {q : Nat} (hq : f j = some q) (hdg : decode cc pc = .ok (.aaload, 1))
    (kk : W p l e R s m args below meth c H locs cells slots Q (F0 m (pc + 1) ls (.ref q :: rest))) : W p l e R s m args below meth c H locs cells slots Q (F0 m pc ls (.int i :: .ref a :: rest)) :=
  va_aldq hexec hb hK (x1 hP) 0 t0 rfl ht hi.1 hdg (by rw [hi.2, hq]; exact kk)
theorem xalen (hexec : p.tables.exec = Jvm.exec) (hb : c.code = cc) (hK : va_K G vwCl tys s) (t0 : Nat) {x : vp_A} (hP : xc G a (.inl (cA, x)) H) {ty : FieldType} (ht : tys[t0]? = some (cA, ty)) (hdg : decode cc pc = .ok (.arraylength, 1))
    (kk : W p l e R s m args below meth c H locs cells slots Q (F0 m (pc + 1) ls (.int (nI x.1) :: rest))) : W p l e R s m args below meth c H locs cells slots Q (F0 m pc ls (.ref a :: rest)) :=
  va_alen hexec hb hK (x1 hP) 0 t0 rfl ht rfl hdg kk
theorem xd2i (hexec : p.tables.exec = Jvm.exec) (hb : c.code = cc) {x z : UInt64} (hx : vq x z) (hdg : decode cc pc = .ok (.d2i, 1))
    (k : W p l e R s m args below meth c H locs cells slots Q (F0 m (pc + 1) ls (.int (FP.d2i z) :: rest))) : W p l e R s m args below meth c H locs cells slots Q (F0 m pc ls (.double x :: rest)) :=
  lv_d2i hexec hb hdg (by rw [vq_d2i hx]; exact k)
theorem xiaddN (hexec : p.tables.exec = Jvm.exec) (hb : c.code = cc) {x y : Nat} (hdg : decode cc pc = .ok (.iadd, 1))
    (k : W p l e R s m args below meth c H locs cells slots Q (F0 m (pc + 1) ls (.int (nI (x + y)) :: rest))) : W p l e R s m args below meth c H locs cells slots Q (F0 m pc ls (.int (nI y) :: .int (nI x) :: rest)) :=
  lv_iadd hexec hb hdg (by rw [nI_add]; exact k)
theorem xisubN (hexec : p.tables.exec = Jvm.exec) (hb : c.code = cc) {x y : Nat} (hxy : y ≤ x) (hdg : decode cc pc = .ok (.isub, 1))
    (k : W p l e R s m args below meth c H locs cells slots Q (F0 m (pc + 1) ls (.int (nI (x - y)) :: rest))) : W p l e R s m args below meth c H locs cells slots Q (F0 m pc ls (.int (nI y) :: .int (nI x) :: rest)) :=
  lv_isub hexec hb hdg (by rw [pk_sub hxy]; exact k)
theorem ximulN (hexec : p.tables.exec = Jvm.exec) (hb : c.code = cc) {x y : Nat} (hdg : decode cc pc = .ok (.imul, 1))
    (k : W p l e R s m args below meth c H locs cells slots Q (F0 m (pc + 1) ls (.int (nI (x * y)) :: rest))) : W p l e R s m args below meth c H locs cells slots Q (F0 m pc ls (.int (nI y) :: .int (nI x) :: rest)) :=
  lv_imul hexec hb hdg (by rw [pk_mul]; exact k)
theorem xiincN (hexec : p.tables.exec = Jvm.exec) (hb : c.code = cc) {i nL k x y : Nat} {n : Int} {lv lv' : List (Nat × Value)} (hdg : decode cc pc = .ok (.iinc i n, 3)) (h : lv_has ls nL lv) (hk : lv[k]? = some (i, .int (nI x))) (hv : Int32.ofInt n = nI y) (hn : i < nL) (hl : (i, Value.int (nI (x + y))) :: lv.filter (fun q => !(q.1 == i) && !(q.1 + 1 == i && q.2.category == 2)) = lv')
    (kk : ∀ ls' : Array Slot, lv_has ls' nL lv' → W p l e R s m args below meth c H locs cells slots Q (F0 m (pc + 3) ls' rest)) : W p l e R s m args below meth c H locs cells slots Q (F0 m pc ls rest) :=
  lv_iinc hexec hb hdg h hk (by rw [hv, nI_add]) hn hl kk
theorem xicmpN_lt (hexec : p.tables.exec = Jvm.exec) (hb : c.code = cc) {x z : Nat} {off : Int} {tgt : Nat} (ha : x < 2 ^ 31) (hb2 : z < 2 ^ 31) (hdg : decode cc pc = .ok (.if_icmp .lt off, 3)) (ht : (pc : Int) + off = (tgt : Int))
    (kt : x < z → W p l e R s m args below meth c H locs cells slots Q (F0 m tgt ls rest)) (kf : z ≤ x → W p l e R s m args below meth c H locs cells slots Q (F0 m (pc + 3) ls rest)) : W p l e R s m args below meth c H locs cells slots Q (F0 m pc ls (.int (nI z) :: .int (nI x) :: rest)) :=
  lv_icmp_lt hexec hb hdg ht (fun h => kt ((nI_ltI ha hb2).mp h)) (fun h => kf (Nat.not_lt.mp fun z => h ((nI_ltI ha hb2).mpr z)))
theorem xicmpN_le (hexec : p.tables.exec = Jvm.exec) (hb : c.code = cc) {x z : Nat} {off : Int} {tgt : Nat} (ha : x < 2 ^ 31) (hb2 : z < 2 ^ 31) (hdg : decode cc pc = .ok (.if_icmp .le off, 3)) (ht : (pc : Int) + off = (tgt : Int))
    (kt : x ≤ z → W p l e R s m args below meth c H locs cells slots Q (F0 m tgt ls rest)) (kf : z < x → W p l e R s m args below meth c H locs cells slots Q (F0 m (pc + 3) ls rest)) : W p l e R s m args below meth c H locs cells slots Q (F0 m pc ls (.int (nI z) :: .int (nI x) :: rest)) :=
  lv_icmp_le hexec hb hdg ht (fun h => kt ((nI_leI ha hb2).mp h)) (fun h => kf (Nat.not_le.mp fun z => h ((nI_leI ha hb2).mpr z)))
theorem xicmpN_ge (hexec : p.tables.exec = Jvm.exec) (hb : c.code = cc) {x z : Nat} {off : Int} {tgt : Nat} (ha : x < 2 ^ 31) (hb2 : z < 2 ^ 31) (hdg : decode cc pc = .ok (.if_icmp .ge off, 3)) (ht : (pc : Int) + off = (tgt : Int))
    (kt : z ≤ x → W p l e R s m args below meth c H locs cells slots Q (F0 m tgt ls rest)) (kf : x < z → W p l e R s m args below meth c H locs cells slots Q (F0 m (pc + 3) ls rest)) : W p l e R s m args below meth c H locs cells slots Q (F0 m pc ls (.int (nI z) :: .int (nI x) :: rest)) :=
  lv_icmp_ge hexec hb hdg ht (fun h => kt ((nI_leI hb2 ha).mp h)) (fun h => kf (Nat.not_le.mp fun z => h ((nI_leI hb2 ha).mpr z)))
theorem xicmpN_gt (hexec : p.tables.exec = Jvm.exec) (hb : c.code = cc) {x z : Nat} {off : Int} {tgt : Nat} (ha : x < 2 ^ 31) (hb2 : z < 2 ^ 31) (hdg : decode cc pc = .ok (.if_icmp .gt off, 3)) (ht : (pc : Int) + off = (tgt : Int))
    (kt : z < x → W p l e R s m args below meth c H locs cells slots Q (F0 m tgt ls rest)) (kf : x ≤ z → W p l e R s m args below meth c H locs cells slots Q (F0 m (pc + 3) ls rest)) : W p l e R s m args below meth c H locs cells slots Q (F0 m pc ls (.int (nI z) :: .int (nI x) :: rest)) :=
  lv_icmp_gt hexec hb hdg ht (fun h => kt ((nI_ltI hb2 ha).mp h)) (fun h => kf (Nat.not_lt.mp fun z => h ((nI_ltI hb2 ha).mpr z)))
theorem xicmpN_eq (hexec : p.tables.exec = Jvm.exec) (hb : c.code = cc) {x z : Nat} {off : Int} {tgt : Nat} (ha : x < 2 ^ 31) (hb2 : z < 2 ^ 31) (hdg : decode cc pc = .ok (.if_icmp .eq off, 3)) (ht : (pc : Int) + off = (tgt : Int))
    (kt : x = z → W p l e R s m args below meth c H locs cells slots Q (F0 m tgt ls rest)) (kf : ¬ x = z → W p l e R s m args below meth c H locs cells slots Q (F0 m (pc + 3) ls rest)) : W p l e R s m args below meth c H locs cells slots Q (F0 m pc ls (.int (nI z) :: .int (nI x) :: rest)) :=
  lv_icmp_eq hexec hb hdg ht (fun h => kt ((nI_eq ha hb2).mp h)) (fun h => kf (fun z => h ((nI_eq ha hb2).mpr z)))
theorem xicmpN_ne (hexec : p.tables.exec = Jvm.exec) (hb : c.code = cc) {x z : Nat} {off : Int} {tgt : Nat} (ha : x < 2 ^ 31) (hb2 : z < 2 ^ 31) (hdg : decode cc pc = .ok (.if_icmp .ne off, 3)) (ht : (pc : Int) + off = (tgt : Int))
    (kt : ¬ x = z → W p l e R s m args below meth c H locs cells slots Q (F0 m tgt ls rest)) (kf : x = z → W p l e R s m args below meth c H locs cells slots Q (F0 m (pc + 3) ls rest)) : W p l e R s m args below meth c H locs cells slots Q (F0 m pc ls (.int (nI z) :: .int (nI x) :: rest)) :=
  lv_icmp_ne hexec hb hdg ht (fun h => kt (fun z => h ((nI_eq ha hb2).mpr z))) (fun h => kf ((nI_eq ha hb2).mp h))
end XMore
/-- no cell that was there has changed -/
abbrev xext (H H1 : Heap) : Prop := ∀ q : Nat, q < H.size → H1[q]? = H[q]?
theorem xthrow_ok0 : ∀ w ∈ (vx_atS RX6 111 "java/lang/IndexOutOfBoundsException" ["java/lang/RuntimeException", "java/lang/Exception"]).filter (fun w => !goodWord w), w ∈ xFaceL := by decide +kernel
theorem xthrow_ok1 : ∀ w ∈ (vx_atS RX6 68 "java/lang/IllegalArgumentException" ["java/lang/RuntimeException", "java/lang/Exception"]).filter (fun w => !goodWord w), w ∈ xFaceL := by decide +kernel
theorem xthrow_ok2 : ∀ w ∈ (vx_atS RX6 106 "java/lang/IllegalStateException" ["java/lang/RuntimeException", "java/lang/Exception"]).filter (fun w => !goodWord w), w ∈ xFaceL := by decide +kernel
theorem xthrow_gd0 : ∀ w ∈ Cond.classLink RX6 107 "java/lang/IndexOutOfBoundsException" :: Cond.initialized "java/lang/IndexOutOfBoundsException" :: vx_atS RX6 111 "java/lang/IndexOutOfBoundsException" ["java/lang/RuntimeException", "java/lang/Exception"], vx_ot w = true := by decide +kernel
theorem xthrow_gd1 : ∀ w ∈ Cond.classLink RX6 64 "java/lang/IllegalArgumentException" :: Cond.initialized "java/lang/IllegalArgumentException" :: vx_atS RX6 68 "java/lang/IllegalArgumentException" ["java/lang/RuntimeException", "java/lang/Exception"], vx_ot w = true := by decide +kernel
theorem xthrow_gd2 : ∀ w ∈ Cond.classLink RX6 102 "java/lang/IllegalStateException" :: Cond.initialized "java/lang/IllegalStateException" :: vx_atS RX6 106 "java/lang/IllegalStateException" ["java/lang/RuntimeException", "java/lang/Exception"], vx_ot w = true := by decide +kernel
section XThrow
variable {p : Program} {l : Launch} {e : Env} {R : Room} {s : State} {m : MethodId} {args : Array Value} {below : List Frame} {meth : Method} {c : Code} {H : Heap} {locs : List Loc} {cells slots : Nat}
variable {rm : Room} {b0 : Nat} {post : Option Value → Heap → Prop} {px : String → Heap → Prop} {d0 : Drawn} {cc : ByteArray} {pc : Nat} {ls : Array Slot} {rest : List Value} {G : va_G} {ty : Nat → ClassId} {ws : List Cond} {cls text : String} {ik is ic nL : Nat}
theorem xthrow_hat {args : Array Value} {s : State} (hts : ∀ w ∈ ws, w.before args s = true) (hin : ∀ w ∈ (vx_atS RX6 ic cls ["java/lang/RuntimeException", "java/lang/Exception"]).filter goodWord, w ∈ ws) (hok : ∀ w ∈ (vx_atS RX6 ic cls ["java/lang/RuntimeException", "java/lang/Exception"]).filter (fun w => !goodWord w), w ∈ xFaceL) (hF : ∀ w ∈ xFaceL, va_Nw w s) : ∀ w ∈ vx_atS RX6 ic cls ["java/lang/RuntimeException", "java/lang/Exception"], w.before args s = true :=
  vx_hat (B := xFaceL) (fun w h => hts w (hin w h)) hok (fun w h => va_Nw.use (xFace_tabs w h) (hF w h))
theorem xthrowS (hfl : l.stackTraces = false) (hd0 : s.drawn.sameBut d0 lw_cs) (hexec : p.tables.exec = Jvm.exec) (hb : c.code = cc) (hown : s.vm.findClass RX6 = some m.cls) (hlocks : meth.locks = false) (hxt : ∀ x ∈ c.exceptionTable.toList, False) (hml : c.maxLocals = nL) (hsz : ls.size = nL) (hts : ∀ d : Drawn, ∀ w ∈ ws, w.before args (s.setDrawn d) = true)
    (hcls : Bundle.fit cls = true) (hk : Cond.classLink RX6 ik cls ∈ ws) (hini : Cond.initialized cls ∈ ws) (hin : ∀ w ∈ (vx_atS RX6 ic cls ["java/lang/RuntimeException", "java/lang/Exception"]).filter goodWord, w ∈ ws) (hok : ∀ w ∈ (vx_atS RX6 ic cls ["java/lang/RuntimeException", "java/lang/Exception"]).filter (fun w => !goodWord w), w ∈ xFaceL)
    (hgood : ∀ w ∈ Cond.classLink RX6 ik cls :: Cond.initialized cls :: vx_atS RX6 ic cls ["java/lang/RuntimeException", "java/lang/Exception"], vx_ot w = true) (htx : (is, text) ∈ xTexts) (hK : xK G ty b0 s) (hS : va_S (xA b0) s.heap H locs)
    (d0' : decode cc pc = .ok (.new ik, 3)) (d3 : decode cc (pc + 3) = .ok (.dup, 1)) (d4 : decode cc (pc + 4) = .ok (.ldc is, 2)) (d6 : decode cc (pc + 6) = .ok (.invokespecial ic, 3)) (d9 : decode cc (pc + 9) = .ok (.athrow, 1))
    (hRframes : 5 < R.frames) (hRlocals : (rest.map fun v => v.category).sum + 82 ≤ R.locals) (hRcells : cells + 1 ≤ R.cells) (hRslots : slots + 6 ≤ R.slots) (hc : cells + 1 ≤ rm.cells) (hs : slots + 6 ≤ rm.slots)
    (hp : ∀ H1 : Heap, xext H H1 → px cls H1) :
    W p l e R (s.setDrawn d0) m args below meth c H locs cells slots (xMQ below post px args s rm b0) (F0 m pc ls rest) := by
  obtain ⟨hK1, hU, hN, -, hT, hF⟩ := hK
  obtain ⟨sa, hsa⟩ := hT _ htx
  refine xend hd0 (vx_throwS (s := s.setDrawn d0) (cls := cls) (text := text) (ik := ik) (is := is) (ic := ic) (sa := sa) (A := xA b0) (names := ["java/lang/RuntimeException", "java/lang/Exception"]) hexec hb hfl hown hcls (by decide +kernel) (hts d0 _ hk) (hts d0 _ hini) (vk_R.same (u := s) rfl hsa) (xthrow_hat (hts d0) hin hok (fun w h => va_Nw.same (u := s) (xFace_tabs w h) rfl (hF w h))) hgood hU hN hS (hsz.trans hml.symm) d0' d3 d4 d6 d9 (fun x hx => (hxt x hx).elim) hRframes hRlocals hRcells hRslots hlocks ?_ hS.2.2 hc hs)
  intro t hA hz hq
  exact ⟨hp _ (fun q h => hq q h), ⟨Nat.le_trans hS.1 hz, fun q h1 h2 => (hq q (Nat.lt_of_lt_of_le h1 hS.1)).trans (hS.2.1 q h1 h2)⟩⟩
theorem xthrowSW (hfl : l.stackTraces = false) (hd0 : s.drawn.sameBut d0 lw_cs) (hexec : p.tables.exec = Jvm.exec) (hb : c.code = cc) (hown : s.vm.findClass RX6 = some m.cls) (hlocks : meth.locks = false) (hxt : ∀ x ∈ c.exceptionTable.toList, False) (hml : c.maxLocals = nL) (hsz : ls.size = nL) (hts : ∀ d : Drawn, ∀ w ∈ ws, w.before args (s.setDrawn d) = true)
    (hcls : Bundle.fit cls = true) (hk : Cond.classLink RX6 ik cls ∈ ws) (hini : Cond.initialized cls ∈ ws) (hin : ∀ w ∈ (vx_atS RX6 ic cls ["java/lang/RuntimeException", "java/lang/Exception"]).filter goodWord, w ∈ ws) (hok : ∀ w ∈ (vx_atS RX6 ic cls ["java/lang/RuntimeException", "java/lang/Exception"]).filter (fun w => !goodWord w), w ∈ xFaceL)
    (hgood : ∀ w ∈ Cond.classLink RX6 ik cls :: Cond.initialized cls :: vx_atS RX6 ic cls ["java/lang/RuntimeException", "java/lang/Exception"], vx_ot w = true) (htx : (is, text) ∈ xTexts) (hK : xK G ty b0 s) (hS : va_S (xA b0) s.heap H locs)
    (d0' : decode cc pc = .ok (.new ik, 3)) (d3 : decode cc (pc + 3) = .ok (.dup, 1)) (d4 : decode cc (pc + 4) = .ok (.ldc_w is, 3)) (d7 : decode cc (pc + 7) = .ok (.invokespecial ic, 3)) (d10 : decode cc (pc + 10) = .ok (.athrow, 1))
    (hRframes : 5 < R.frames) (hRlocals : (rest.map fun v => v.category).sum + 82 ≤ R.locals) (hRcells : cells + 1 ≤ R.cells) (hRslots : slots + 6 ≤ R.slots) (hc : cells + 1 ≤ rm.cells) (hs : slots + 6 ≤ rm.slots)
    (hp : ∀ H1 : Heap, xext H H1 → px cls H1) :
    W p l e R (s.setDrawn d0) m args below meth c H locs cells slots (xMQ below post px args s rm b0) (F0 m pc ls rest) := by
  obtain ⟨hK1, hU, hN, -, hT, hF⟩ := hK
  obtain ⟨sa, hsa⟩ := hT _ htx
  refine xend hd0 (vx_throwSW (s := s.setDrawn d0) (cls := cls) (text := text) (ik := ik) (is := is) (ic := ic) (sa := sa) (A := xA b0) (names := ["java/lang/RuntimeException", "java/lang/Exception"]) hexec hb hfl hown hcls (by decide +kernel) (hts d0 _ hk) (hts d0 _ hini) (vk_R.same (u := s) rfl hsa) (xthrow_hat (hts d0) hin hok (fun w h => va_Nw.same (u := s) (xFace_tabs w h) rfl (hF w h))) hgood hU hN hS (hsz.trans hml.symm) d0' d3 d4 d7 d10 (fun x hx => (hxt x hx).elim) hRframes hRlocals hRcells hRslots hlocks ?_ hS.2.2 hc hs)
  intro t hA hz hq
  exact ⟨hp _ (fun q h => hq q h), ⟨Nat.le_trans hS.1 hz, fun q h1 h2 => (hq q (Nat.lt_of_lt_of_le h1 hS.1)).trans (hS.2.1 q h1 h2)⟩⟩
end XThrow
end
section
/-! ARRAY STORES BY PLACES, a place as a natural number. -/
section XStore
variable {p : Program} {l : Launch} {e : Env} {R : Room} {s : State} {m : MethodId} {args : Array Value} {below : List Frame} {meth : Method} {c : Code} {H : Heap} {locs : List Loc} {cells slots : Nat} {Q : State → Prop}
variable {cc : ByteArray} {pc : Nat} {ls : Array Slot} {rest : List Value} {G : va_G} {tys : List (ClassId × FieldType)} {a b0 n j : Nat} {H0 : Heap} {cA : ClassId} {i : Int32}
theorem xdastN (hexec : p.tables.exec = Jvm.exec) (hb : c.code = cc) (hK : va_K G vwCl tys s) (t0 : Nat) {f : Nat → UInt64} (hP : xc G a (.inl (cA, n, .inr (.inr (.inr (.inl f))))) H) (hS : va_S (xA b0) H0 H locs) (ha : b0 ≤ a) (ht : tys[t0]? = some (cA, .double)) {x : UInt64} (hi : xix i j n) (hdg : decode cc pc = .ok (.dastore, 1))
    (kk : ∀ (H1 : Heap) (locs1 : List Loc), xset G a (.inl (cA, n, .inr (.inr (.inr (.inl (vf_upd f j x)))))) H H1 → va_S (xA b0) H0 H1 locs1 → W p l e R s m args below meth c H1 locs1 cells slots Q (F0 m (pc + 1) ls rest)) : W p l e R s m args below meth c H locs cells slots Q (F0 m pc ls (.double x :: .int i :: .ref a :: rest)) :=
  xdast hexec hb hK t0 hP hS ha ht hi.1 hdg fun H1 l1 h => kk H1 l1 (by rw [hi.2] at h; exact h)
theorem xiastN (hexec : p.tables.exec = Jvm.exec) (hb : c.code = cc) (hK : va_K G vwCl tys s) (t0 : Nat) {f : Nat → Int32} (hP : xc G a (.inl (cA, n, .inl f)) H) (hS : va_S (xA b0) H0 H locs) (ha : b0 ≤ a) (ht : tys[t0]? = some (cA, .int)) {x : Int32} (hi : xix i j n) (hdg : decode cc pc = .ok (.iastore, 1))
    (kk : ∀ (H1 : Heap) (locs1 : List Loc), xset G a (.inl (cA, n, .inl (upd f j x))) H H1 → va_S (xA b0) H0 H1 locs1 → W p l e R s m args below meth c H1 locs1 cells slots Q (F0 m (pc + 1) ls rest)) : W p l e R s m args below meth c H locs cells slots Q (F0 m pc ls (.int x :: .int i :: .ref a :: rest)) :=
  xiast hexec hb hK t0 hP hS ha ht hi.1 hdg fun H1 l1 h => kk H1 l1 (by rw [hi.2] at h; exact h)
theorem xzastN (hexec : p.tables.exec = Jvm.exec) (hb : c.code = cc) (hK : va_K G vwCl tys s) (t0 : Nat) {f : Nat → Int32} (hP : xc G a (.inl (cA, n, .inl f)) H) (hS : va_S (xA b0) H0 H locs) (ha : b0 ≤ a) (ht : tys[t0]? = some (cA, .boolean)) {x : Int32} (hi : xix i j n) (hz : vp_nar .boolean x = x) (hdg : decode cc pc = .ok (.bastore, 1))
    (kk : ∀ (H1 : Heap) (locs1 : List Loc), xset G a (.inl (cA, n, .inl (upd f j x))) H H1 → va_S (xA b0) H0 H1 locs1 → W p l e R s m args below meth c H1 locs1 cells slots Q (F0 m (pc + 1) ls rest)) : W p l e R s m args below meth c H locs cells slots Q (F0 m pc ls (.int x :: .int i :: .ref a :: rest)) :=
  xzast hexec hb hK t0 hP hS ha ht hi.1 hdg fun H1 l1 h => kk H1 l1 (by rw [hi.2, hz] at h; exact h)
theorem xlastN (hexec : p.tables.exec = Jvm.exec) (hb : c.code = cc) (hK : va_K G vwCl tys s) (t0 : Nat) {f : Nat → Int64} (hP : xc G a (.inl (cA, n, .inr (.inl f))) H) (hS : va_S (xA b0) H0 H locs) (ha : b0 ≤ a) (ht : tys[t0]? = some (cA, .long)) {x : Int64} (hi : xix i j n) (hdg : decode cc pc = .ok (.lastore, 1))
    (kk : ∀ (H1 : Heap) (locs1 : List Loc), xset G a (.inl (cA, n, .inr (.inl (vp_updL f j x)))) H H1 → va_S (xA b0) H0 H1 locs1 → W p l e R s m args below meth c H1 locs1 cells slots Q (F0 m (pc + 1) ls rest)) : W p l e R s m args below meth c H locs cells slots Q (F0 m pc ls (.long x :: .int i :: .ref a :: rest)) :=
  xlast hexec hb hK t0 hP hS ha ht hi.1 hdg fun H1 l1 h => kk H1 l1 (by rw [hi.2] at h; exact h)
end XStore
theorem nN_nI {j : Nat} (h : j < 2 ^ 31) : (nI j).toNatClampNeg = j := nI_clamp h
theorem zNar0 : vp_nar .boolean (nI 0) = nI 0 := by decide
theorem zNar1 : vp_nar .boolean (nI 1) = nI 1 := by decide
theorem zNar {x : Int32} (h : x = 0 ∨ x = 1) : vp_nar .boolean x = x := by rcases h with rfl | rfl <;> decide
/-- the same heap but for the reference's cells -/
def xRfr (m0 : Nat) (A : Nat → Nat) (H H1 : Heap) : Prop := H1.size = H.size ∧ ∀ q : Nat, q ≠ m0 → (∀ i : Nat, i < 11 → q ≠ A i) → H1[q]? = H[q]?
theorem xRfr.rf {m0 : Nat} {A : Nat → Nat} {H : Heap} : xRfr m0 A H H := ⟨rfl, fun _ _ _ => rfl⟩
theorem xRfr.put0 {G : va_G} {m0 : Nat} {A : Nat → Nat} {e : va_E} {H H1 H2 : Heap} (h : xRfr m0 A H H1) (h2 : xset G m0 e H1 H2) : xRfr m0 A H H2 := ⟨h2.2.1.trans h.1, fun q a b => (h2.2.2 q a).trans (h.2 q a b)⟩
theorem xRfr.putA {G : va_G} {m0 : Nat} {A : Nat → Nat} {e : va_E} {H H1 H2 : Heap} (h : xRfr m0 A H H1) (i : Nat) (hi : i < 11) (h2 : xset G (A i) e H1 H2) : xRfr m0 A H H2 := ⟨h2.2.1.trans h.1, fun q a b => (h2.2.2 q (b i hi)).trans (h.2 q a b)⟩
theorem xRfr.tr {m0 : Nat} {A : Nat → Nat} {H H1 H2 : Heap} (h : xRfr m0 A H H1) (h2 : xRfr m0 A H1 H2) : xRfr m0 A H H2 := ⟨h2.1.trans h.1, fun q a b => (h2.2 q a b).trans (h.2 q a b)⟩
/-- the reference's addresses are apart, and new -/
def xAp (m0 : Nat) (A : Nat → Nat) : Prop := (∀ i : Nat, i < 11 → A i ≠ m0) ∧ ∀ i j : Nat, i < 11 → j < 11 → A i = A j → i = j
def xNw (b0 m0 : Nat) (A : Nat → Nat) : Prop := b0 ≤ m0 ∧ ∀ i : Nat, i < 11 → b0 ≤ A i
end
section
/-! THE NUMBERS THEMSELVES: what both sides reckon. -/
def pIter (v : UInt64) : Nat → UInt64
  | 0 => FP.dadd FP.dconst1 v
  | n + 1 => FP.ddiv (FP.dadd (pIter v n) (FP.ddiv v (pIter v n))) 4611686018427387904
/-- ROOT -/
def pRoot (v : UInt64) : UInt64 := if xgt v FP.dconst0 = true then pIter v 40 else FP.dconst0
theorem pIter_vq {x z : UInt64} (h : vq x z) (n : Nat) : pIter x n = pIter z n := by
  induction n with
  | zero => exact vq_add (vq_rf _) h
  | succ n ih =>
    show FP.ddiv (FP.dadd (pIter x n) (FP.ddiv x (pIter x n))) _ = FP.ddiv (FP.dadd (pIter z n) (FP.ddiv z (pIter z n))) _
    rw [ih, vq_div h (vq_rf _)]
theorem pRoot_vq {x z : UInt64} (h : vq x z) : pRoot x = pRoot z := by
  unfold pRoot
  rw [vq_gt h (vq_rf _), pIter_vq h]
/-- a length -/
def pLen (x y : UInt64) : UInt64 := pRoot (FP.dadd (FP.dmul x x) (FP.dmul y y))
/-- DISTANCE from the first place to the other -/
def pDist (x0 y0 z0 x1 y1 z1 : UInt64) : UInt64 := pRoot (FP.dadd (FP.dadd (FP.dmul (FP.dsub x1 x0) (FP.dsub x1 x0)) (FP.dmul (FP.dsub y1 y0) (FP.dsub y1 y0))) (FP.dmul (FP.dsub z1 z0) (FP.dsub z1 z0)))
def pBetween (v a b : UInt64) : Bool := xge v a && xle v b
def pSize (v : UInt64) : UInt64 := if xlt v FP.dconst0 = true then FP.dneg v else v
def xB (b : Bool) : Int32 := if b then 1 else 0
theorem pLen_vq {x y a b : UInt64} (h1 : vq x a) (h2 : vq y b) : pLen x y = pLen a b := by
  unfold pLen
  rw [vq_mul h1 h1, vq_mul h2 h2]
theorem pSize_vq {x z : UInt64} (h : vq x z) : vq (pSize x) (pSize z) := by
  unfold pSize
  rw [vq_lt h (vq_rf _)]
  split
  · exact vq_neg h
  · exact h
theorem pBetween_t {v a b : UInt64} (h1 : xge v a = true) (h2 : xle v b = true) : xB (pBetween v a b) = 1 := by unfold pBetween; rw [h1, h2]; rfl
theorem pBetween_f1 {v a b : UInt64} (h1 : xge v a = false) : xB (pBetween v a b) = 0 := by unfold pBetween; rw [h1]; rfl
theorem pBetween_f2 {v a b : UInt64} (h1 : xge v a = true) (h2 : xle v b = false) : xB (pBetween v a b) = 0 := by unfold pBetween; rw [h1, h2]; rfl
end
section
/-! NUMBERS: the methods that only reckon. -/
theorem dX6_root_0 : decode cX6_root 0 = .ok (.dload_n 0, 1) := by decide +kernel
theorem dX6_root_1 : decode cX6_root 1 = .ok (.dconst 0, 1) := by decide +kernel
theorem dX6_root_2 : decode cX6_root 2 = .ok (.dcmp .l, 1) := by decide +kernel
theorem dX6_root_3 : decode cX6_root 3 = .ok (.ifCond .gt 5, 3) := by decide +kernel
theorem dX6_root_6 : decode cX6_root 6 = .ok (.dconst 0, 1) := by decide +kernel
theorem dX6_root_7 : decode cX6_root 7 = .ok (.dreturn, 1) := by decide +kernel
theorem dX6_root_8 : decode cX6_root 8 = .ok (.dconst 1, 1) := by decide +kernel
theorem dX6_root_9 : decode cX6_root 9 = .ok (.dload_n 0, 1) := by decide +kernel
theorem dX6_root_10 : decode cX6_root 10 = .ok (.dadd, 1) := by decide +kernel
theorem dX6_root_11 : decode cX6_root 11 = .ok (.dstore_n 2, 1) := by decide +kernel
theorem dX6_root_12 : decode cX6_root 12 = .ok (.iconst 0, 1) := by decide +kernel
theorem dX6_root_13 : decode cX6_root 13 = .ok (.istore 4, 2) := by decide +kernel
theorem dX6_root_15 : decode cX6_root 15 = .ok (.iload 4, 2) := by decide +kernel
theorem dX6_root_17 : decode cX6_root 17 = .ok (.bipush 40, 2) := by decide +kernel
theorem dX6_root_19 : decode cX6_root 19 = .ok (.if_icmp .ge 19, 3) := by decide +kernel
theorem dX6_root_22 : decode cX6_root 22 = .ok (.dload_n 2, 1) := by decide +kernel
theorem dX6_root_23 : decode cX6_root 23 = .ok (.dload_n 0, 1) := by decide +kernel
theorem dX6_root_24 : decode cX6_root 24 = .ok (.dload_n 2, 1) := by decide +kernel
theorem dX6_root_25 : decode cX6_root 25 = .ok (.ddiv, 1) := by decide +kernel
theorem dX6_root_26 : decode cX6_root 26 = .ok (.dadd, 1) := by decide +kernel
theorem dX6_root_27 : decode cX6_root 27 = .ok (.ldc2_w 249, 3) := by decide +kernel
theorem dX6_root_30 : decode cX6_root 30 = .ok (.ddiv, 1) := by decide +kernel
theorem dX6_root_31 : decode cX6_root 31 = .ok (.dstore_n 2, 1) := by decide +kernel
theorem dX6_root_32 : decode cX6_root 32 = .ok (.iinc 4 1, 3) := by decide +kernel
theorem dX6_root_35 : decode cX6_root 35 = .ok (.goto (-20), 3) := by decide +kernel
theorem dX6_root_38 : decode cX6_root 38 = .ok (.dload_n 2, 1) := by decide +kernel
theorem dX6_root_39 : decode cX6_root 39 = .ok (.dreturn, 1) := by decide +kernel
abbrev rm_X6_root : Room := { frames := 5, cells := 0, slots := 0, locals := 40 }
theorem hw_X6_root_1 : (Cond.constantDouble RX6 249 (4611686018427387904)) ∈ wsX6_root := List.mem_of_getElem? (i := 1) rfl
set_option maxHeartbeats 4000000 in
set_option maxRecDepth 100000 in
/-- ROOT -/
theorem c_X6_root {l : Launch} {G : va_G} {ty : Nat → ClassId} {b0 : Nat} {H : Heap} {x z : UInt64} (hz : vq x z) : xMet l yX6_root wsX6_root rm_X6_root G ty b0 [.double x] H (fun v H1 => H = H1 ∧ ∃ r : UInt64, v = some (.double r) ∧ vq r (pRoot z)) (fun _ _ => False) := by
  refine xbody (cc := cX6_root) (maxL := 5) (ret := (some .double)) (C := RX6) (lv := [(0, .double x)]) (by decide) rfl rfl (Nat.le_of_ble_eq_true rfl) rfl ?_
  intro p e s m below meth c d0 hx hb hr hts hown hlocks hml hxt hnm0 hK hb0 hH0 hS hd0 ls hl
  refine lv_dload_n hx hb dX6_root_0 rfl (lv_at hl 0 rfl) ?_
  refine lv_dconst0 hx hb dX6_root_1 ?_
  refine xcmp_l_gt (tgt := 8) hx hb hz (vq_rf _) dX6_root_2 dX6_root_3 (by decide) (fun c_1 => ?_) (fun c_1 => ?_)
  · refine lv_dconst1 hx hb dX6_root_8 ?_
    refine lv_dload_n hx hb dX6_root_9 rfl (lv_at hl 0 rfl) ?_
    refine xdadd hd0 hx hb (vq_rf _) hz dX6_root_10 (fun r_2 d0 q_2 hd0 => ?_)
    refine lv_dstore_n (lv' := [(2, .double r_2), (0, .double x)]) hx hb dX6_root_11 rfl hl (by decide) rfl (fun ls hl => ?_)
    refine lv_iconst (v := nI 0) hx hb dX6_root_12 (by decide) ?_
    refine lv_istore (lv' := [(4, .int (nI 0)), (2, .double r_2), (0, .double x)]) hx hb dX6_root_13 hl (by decide) rfl (fun ls hl => ?_)
    suffices K : ∀ (n k : Nat) (r : UInt64) (d0 : Drawn) (ls : Array Slot), k + n = 40 → s.drawn.sameBut d0 lw_cs → vq r (pIter z k) → lv_has ls 5 [(4, .int (nI k)), (2, .double r), (0, .double x)] → W p l e rm_X6_root (s.setDrawn d0) m [Value.double x].toArray below meth c H [] 0 0 (xMQ below (fun v H1 => H = H1 ∧ ∃ r : UInt64, v = some (.double r) ∧ vq r (pRoot z)) (fun _ _ => False) [.double x].toArray s rm_X6_root b0) (F0 m 15 ls []) from K 40 0 r_2 d0 ls rfl hd0 q_2 hl
    intro n
    induction n with
    | zero =>
      intro k r d0 ls hk hd0 hr9 hl
      refine lv_iload hx hb dX6_root_15 (lv_at hl 0 rfl) ?_
      refine lv_bipush (v := nI 40) hx hb dX6_root_17 (by decide) ?_
      refine xicmpN_ge (tgt := 38) hx hb (by omega) (by decide) dX6_root_19 (by decide) (fun _ => ?_) (fun h9 => absurd h9 (by omega))
      refine lv_dload_n hx hb dX6_root_38 rfl (lv_at hl 1 rfl) ?_
      exact xdret hd0 hx hb hr hlocks hS (Nat.le_of_ble_eq_true rfl) (Nat.le_of_ble_eq_true rfl) dX6_root_39 ⟨rfl, _, rfl, by have e9 : k = 40 := (by omega); subst e9; rw [pRoot, if_pos c_1]; exact hr9⟩
    | succ n ih =>
      intro k r d0 ls hk hd0 hr9 hl
      refine lv_iload hx hb dX6_root_15 (lv_at hl 0 rfl) ?_
      refine lv_bipush (v := nI 40) hx hb dX6_root_17 (by decide) ?_
      refine xicmpN_ge (tgt := 38) hx hb (by omega) (by decide) dX6_root_19 (by decide) (fun h9 => absurd h9 (by omega)) (fun _ => ?_)
      refine lv_dload_n hx hb dX6_root_22 rfl (lv_at hl 1 rfl) ?_
      refine lv_dload_n hx hb dX6_root_23 rfl (lv_at hl 2 rfl) ?_
      refine lv_dload_n hx hb dX6_root_24 rfl (lv_at hl 1 rfl) ?_
      refine xddiv hd0 hx hb hz hr9 dX6_root_25 (fun r_12 d0 q_12 hd0 => ?_)
      refine xdadd hd0 hx hb hr9 q_12 dX6_root_26 (fun r_13 d0 q_13 hd0 => ?_)
      refine lv_ldc2d hx hb hown (hts _ _ hw_X6_root_1) dX6_root_27 ?_
      refine xddiv hd0 hx hb q_13 (vq_rf _) dX6_root_30 (fun r_14 d0 q_14 hd0 => ?_)
      refine lv_dstore_n (lv' := [(2, .double r_14), (4, .int (nI k)), (0, .double x)]) hx hb dX6_root_31 rfl hl (by decide) rfl (fun ls hl => ?_)
      refine xiincN (x := k) (y := 1) (lv' := [(4, .int (nI (k + 1))), (2, .double r_14), (0, .double x)]) hx hb dX6_root_32 hl (k := 1) rfl (by decide) (by decide) rfl (fun ls hl => ?_)
      refine lv_goto (tgt := 15) hx hb dX6_root_35 (by decide) ?_
      exact ih (k + 1) r_14 d0 ls (by omega) hd0 q_14 (lv_sub hl [0, 1, 2] rfl)
  · refine lv_dconst0 hx hb dX6_root_6 ?_
    exact xdret hd0 hx hb hr hlocks hS (Nat.le_of_ble_eq_true rfl) (Nat.le_of_ble_eq_true rfl) dX6_root_7 ⟨rfl, _, rfl, by rw [pRoot, if_neg (fun h => by rw [c_1] at h; cases h)]⟩
theorem dX7_root_0 : decode cX7_root 0 = .ok (.dload_n 0, 1) := by decide +kernel
theorem dX7_root_1 : decode cX7_root 1 = .ok (.dconst 0, 1) := by decide +kernel
theorem dX7_root_2 : decode cX7_root 2 = .ok (.dcmp .l, 1) := by decide +kernel
theorem dX7_root_3 : decode cX7_root 3 = .ok (.ifCond .gt 5, 3) := by decide +kernel
theorem dX7_root_6 : decode cX7_root 6 = .ok (.dconst 0, 1) := by decide +kernel
theorem dX7_root_7 : decode cX7_root 7 = .ok (.dreturn, 1) := by decide +kernel
theorem dX7_root_8 : decode cX7_root 8 = .ok (.dconst 1, 1) := by decide +kernel
theorem dX7_root_9 : decode cX7_root 9 = .ok (.dload_n 0, 1) := by decide +kernel
theorem dX7_root_10 : decode cX7_root 10 = .ok (.dadd, 1) := by decide +kernel
theorem dX7_root_11 : decode cX7_root 11 = .ok (.dstore_n 2, 1) := by decide +kernel
theorem dX7_root_12 : decode cX7_root 12 = .ok (.iconst 0, 1) := by decide +kernel
theorem dX7_root_13 : decode cX7_root 13 = .ok (.istore 4, 2) := by decide +kernel
theorem dX7_root_15 : decode cX7_root 15 = .ok (.iload 4, 2) := by decide +kernel
theorem dX7_root_17 : decode cX7_root 17 = .ok (.bipush 40, 2) := by decide +kernel
theorem dX7_root_19 : decode cX7_root 19 = .ok (.if_icmp .ge 19, 3) := by decide +kernel
theorem dX7_root_22 : decode cX7_root 22 = .ok (.dload_n 2, 1) := by decide +kernel
theorem dX7_root_23 : decode cX7_root 23 = .ok (.dload_n 0, 1) := by decide +kernel
theorem dX7_root_24 : decode cX7_root 24 = .ok (.dload_n 2, 1) := by decide +kernel
theorem dX7_root_25 : decode cX7_root 25 = .ok (.ddiv, 1) := by decide +kernel
theorem dX7_root_26 : decode cX7_root 26 = .ok (.dadd, 1) := by decide +kernel
theorem dX7_root_27 : decode cX7_root 27 = .ok (.ldc2_w 55, 3) := by decide +kernel
theorem dX7_root_30 : decode cX7_root 30 = .ok (.ddiv, 1) := by decide +kernel
theorem dX7_root_31 : decode cX7_root 31 = .ok (.dstore_n 2, 1) := by decide +kernel
theorem dX7_root_32 : decode cX7_root 32 = .ok (.iinc 4 1, 3) := by decide +kernel
theorem dX7_root_35 : decode cX7_root 35 = .ok (.goto (-20), 3) := by decide +kernel
theorem dX7_root_38 : decode cX7_root 38 = .ok (.dload_n 2, 1) := by decide +kernel
theorem dX7_root_39 : decode cX7_root 39 = .ok (.dreturn, 1) := by decide +kernel
abbrev rm_X7_root : Room := { frames := 5, cells := 0, slots := 0, locals := 40 }
theorem hw_X7_root_1 : (Cond.constantDouble RX7 55 (4611686018427387904)) ∈ wsX7_root := List.mem_of_getElem? (i := 1) rfl
set_option maxHeartbeats 4000000 in
set_option maxRecDepth 100000 in
/-- ROOT -/
theorem c_X7_root {l : Launch} {G : va_G} {ty : Nat → ClassId} {b0 : Nat} {H : Heap} {x z : UInt64} (hz : vq x z) : xMet l yX7_root wsX7_root rm_X7_root G ty b0 [.double x] H (fun v H1 => H = H1 ∧ ∃ r : UInt64, v = some (.double r) ∧ vq r (pRoot z)) (fun _ _ => False) := by
  refine xbody (cc := cX7_root) (maxL := 5) (ret := (some .double)) (C := RX7) (lv := [(0, .double x)]) (by decide) rfl rfl (Nat.le_of_ble_eq_true rfl) rfl ?_
  intro p e s m below meth c d0 hx hb hr hts hown hlocks hml hxt hnm0 hK hb0 hH0 hS hd0 ls hl
  refine lv_dload_n hx hb dX7_root_0 rfl (lv_at hl 0 rfl) ?_
  refine lv_dconst0 hx hb dX7_root_1 ?_
  refine xcmp_l_gt (tgt := 8) hx hb hz (vq_rf _) dX7_root_2 dX7_root_3 (by decide) (fun c_1 => ?_) (fun c_1 => ?_)
  · refine lv_dconst1 hx hb dX7_root_8 ?_
    refine lv_dload_n hx hb dX7_root_9 rfl (lv_at hl 0 rfl) ?_
    refine xdadd hd0 hx hb (vq_rf _) hz dX7_root_10 (fun r_2 d0 q_2 hd0 => ?_)
    refine lv_dstore_n (lv' := [(2, .double r_2), (0, .double x)]) hx hb dX7_root_11 rfl hl (by decide) rfl (fun ls hl => ?_)
    refine lv_iconst (v := nI 0) hx hb dX7_root_12 (by decide) ?_
    refine lv_istore (lv' := [(4, .int (nI 0)), (2, .double r_2), (0, .double x)]) hx hb dX7_root_13 hl (by decide) rfl (fun ls hl => ?_)
    suffices K : ∀ (n k : Nat) (r : UInt64) (d0 : Drawn) (ls : Array Slot), k + n = 40 → s.drawn.sameBut d0 lw_cs → vq r (pIter z k) → lv_has ls 5 [(4, .int (nI k)), (2, .double r), (0, .double x)] → W p l e rm_X7_root (s.setDrawn d0) m [Value.double x].toArray below meth c H [] 0 0 (xMQ below (fun v H1 => H = H1 ∧ ∃ r : UInt64, v = some (.double r) ∧ vq r (pRoot z)) (fun _ _ => False) [.double x].toArray s rm_X7_root b0) (F0 m 15 ls []) from K 40 0 r_2 d0 ls rfl hd0 q_2 hl
    intro n
    induction n with
    | zero =>
      intro k r d0 ls hk hd0 hr9 hl
      refine lv_iload hx hb dX7_root_15 (lv_at hl 0 rfl) ?_
      refine lv_bipush (v := nI 40) hx hb dX7_root_17 (by decide) ?_
      refine xicmpN_ge (tgt := 38) hx hb (by omega) (by decide) dX7_root_19 (by decide) (fun _ => ?_) (fun h9 => absurd h9 (by omega))
      refine lv_dload_n hx hb dX7_root_38 rfl (lv_at hl 1 rfl) ?_
      exact xdret hd0 hx hb hr hlocks hS (Nat.le_of_ble_eq_true rfl) (Nat.le_of_ble_eq_true rfl) dX7_root_39 ⟨rfl, _, rfl, by have e9 : k = 40 := (by omega); subst e9; rw [pRoot, if_pos c_1]; exact hr9⟩
    | succ n ih =>
      intro k r d0 ls hk hd0 hr9 hl
      refine lv_iload hx hb dX7_root_15 (lv_at hl 0 rfl) ?_
      refine lv_bipush (v := nI 40) hx hb dX7_root_17 (by decide) ?_
      refine xicmpN_ge (tgt := 38) hx hb (by omega) (by decide) dX7_root_19 (by decide) (fun h9 => absurd h9 (by omega)) (fun _ => ?_)
      refine lv_dload_n hx hb dX7_root_22 rfl (lv_at hl 1 rfl) ?_
      refine lv_dload_n hx hb dX7_root_23 rfl (lv_at hl 2 rfl) ?_
      refine lv_dload_n hx hb dX7_root_24 rfl (lv_at hl 1 rfl) ?_
      refine xddiv hd0 hx hb hz hr9 dX7_root_25 (fun r_12 d0 q_12 hd0 => ?_)
      refine xdadd hd0 hx hb hr9 q_12 dX7_root_26 (fun r_13 d0 q_13 hd0 => ?_)
      refine lv_ldc2d hx hb hown (hts _ _ hw_X7_root_1) dX7_root_27 ?_
      refine xddiv hd0 hx hb q_13 (vq_rf _) dX7_root_30 (fun r_14 d0 q_14 hd0 => ?_)
      refine lv_dstore_n (lv' := [(2, .double r_14), (4, .int (nI k)), (0, .double x)]) hx hb dX7_root_31 rfl hl (by decide) rfl (fun ls hl => ?_)
      refine xiincN (x := k) (y := 1) (lv' := [(4, .int (nI (k + 1))), (2, .double r_14), (0, .double x)]) hx hb dX7_root_32 hl (k := 1) rfl (by decide) (by decide) rfl (fun ls hl => ?_)
      refine lv_goto (tgt := 15) hx hb dX7_root_35 (by decide) ?_
      exact ih (k + 1) r_14 d0 ls (by omega) hd0 q_14 (lv_sub hl [0, 1, 2] rfl)
  · refine lv_dconst0 hx hb dX7_root_6 ?_
    exact xdret hd0 hx hb hr hlocks hS (Nat.le_of_ble_eq_true rfl) (Nat.le_of_ble_eq_true rfl) dX7_root_7 ⟨rfl, _, rfl, by rw [pRoot, if_neg (fun h => by rw [c_1] at h; cases h)]⟩
theorem dX6_within_0 : decode cX6_within 0 = .ok (.dload_n 0, 1) := by decide +kernel
theorem dX6_within_1 : decode cX6_within 1 = .ok (.dload_n 2, 1) := by decide +kernel
theorem dX6_within_2 : decode cX6_within 2 = .ok (.dcmp .l, 1) := by decide +kernel
theorem dX6_within_3 : decode cX6_within 3 = .ok (.ifCond .lt 14, 3) := by decide +kernel
theorem dX6_within_6 : decode cX6_within 6 = .ok (.dload_n 0, 1) := by decide +kernel
theorem dX6_within_7 : decode cX6_within 7 = .ok (.dload 4, 2) := by decide +kernel
theorem dX6_within_9 : decode cX6_within 9 = .ok (.dcmp .g, 1) := by decide +kernel
theorem dX6_within_10 : decode cX6_within 10 = .ok (.ifCond .gt 7, 3) := by decide +kernel
theorem dX6_within_13 : decode cX6_within 13 = .ok (.iconst 1, 1) := by decide +kernel
theorem dX6_within_14 : decode cX6_within 14 = .ok (.goto 4, 3) := by decide +kernel
theorem dX6_within_17 : decode cX6_within 17 = .ok (.iconst 0, 1) := by decide +kernel
theorem dX6_within_18 : decode cX6_within 18 = .ok (.ireturn, 1) := by decide +kernel
abbrev rm_X6_within : Room := { frames := 5, cells := 0, slots := 0, locals := 40 }
set_option maxHeartbeats 4000000 in
set_option maxRecDepth 100000 in
/-- whether a number lies between two -/
theorem c_X6_within {l : Launch} {G : va_G} {ty : Nat → ClassId} {b0 : Nat} {H : Heap} {x y z a b d : UInt64} (hx9 : vq x a) (hy9 : vq y b) (hz9 : vq z d) : xMet l yX6_within wsX6_within rm_X6_within G ty b0 [.double x, .double y, .double z] H (fun v H1 => H = H1 ∧ v = some (.int (xB (pBetween a b d)))) (fun _ _ => False) := by
  refine xbody (cc := cX6_within) (maxL := 6) (ret := (some .boolean)) (C := RX6) (lv := [(0, .double x), (2, .double y), (4, .double z)]) (by decide) rfl rfl (Nat.le_of_ble_eq_true rfl) rfl ?_
  intro p e s m below meth c d0 hx hb hr hts hown hlocks hml hxt hnm0 hK hb0 hH0 hS hd0 ls hl
  refine lv_dload_n hx hb dX6_within_0 rfl (lv_at hl 0 rfl) ?_
  refine lv_dload_n hx hb dX6_within_1 rfl (lv_at hl 1 rfl) ?_
  refine xcmp_l_lt (tgt := 17) hx hb hx9 hy9 dX6_within_2 dX6_within_3 (by decide) (fun c_1 => ?_) (fun c_1 => ?_)
  · refine lv_iconst (v := nI 0) hx hb dX6_within_17 (by decide) ?_
    exact xzret (by decide) hd0 hx hb hr hlocks hS (Nat.le_of_ble_eq_true rfl) (Nat.le_of_ble_eq_true rfl) dX6_within_18 ⟨rfl, by first | rw [pBetween_t (by assumption) (by assumption)]; rfl | rw [pBetween_f1 (by assumption)]; rfl | rw [pBetween_f2 (by assumption) (by assumption)]; rfl⟩
  · refine lv_dload_n hx hb dX6_within_6 rfl (lv_at hl 0 rfl) ?_
    refine lv_dload hx hb dX6_within_7 (lv_at hl 2 rfl) ?_
    refine xcmp_g_gt (tgt := 17) hx hb hx9 hz9 dX6_within_9 dX6_within_10 (by decide) (fun c_2 => ?_) (fun c_2 => ?_)
    · refine lv_iconst (v := nI 0) hx hb dX6_within_17 (by decide) ?_
      exact xzret (by decide) hd0 hx hb hr hlocks hS (Nat.le_of_ble_eq_true rfl) (Nat.le_of_ble_eq_true rfl) dX6_within_18 ⟨rfl, by first | rw [pBetween_t (by assumption) (by assumption)]; rfl | rw [pBetween_f1 (by assumption)]; rfl | rw [pBetween_f2 (by assumption) (by assumption)]; rfl⟩
    · refine lv_iconst (v := nI 1) hx hb dX6_within_13 (by decide) ?_
      refine lv_goto (tgt := 18) hx hb dX6_within_14 (by decide) ?_
      exact xzret (by decide) hd0 hx hb hr hlocks hS (Nat.le_of_ble_eq_true rfl) (Nat.le_of_ble_eq_true rfl) dX6_within_18 ⟨rfl, by first | rw [pBetween_t (by assumption) (by assumption)]; rfl | rw [pBetween_f1 (by assumption)]; rfl | rw [pBetween_f2 (by assumption) (by assumption)]; rfl⟩
theorem dX7_between_0 : decode cX7_between 0 = .ok (.dload_n 0, 1) := by decide +kernel
theorem dX7_between_1 : decode cX7_between 1 = .ok (.dload_n 2, 1) := by decide +kernel
theorem dX7_between_2 : decode cX7_between 2 = .ok (.dcmp .l, 1) := by decide +kernel
theorem dX7_between_3 : decode cX7_between 3 = .ok (.ifCond .lt 14, 3) := by decide +kernel
theorem dX7_between_6 : decode cX7_between 6 = .ok (.dload_n 0, 1) := by decide +kernel
theorem dX7_between_7 : decode cX7_between 7 = .ok (.dload 4, 2) := by decide +kernel
theorem dX7_between_9 : decode cX7_between 9 = .ok (.dcmp .g, 1) := by decide +kernel
theorem dX7_between_10 : decode cX7_between 10 = .ok (.ifCond .gt 7, 3) := by decide +kernel
theorem dX7_between_13 : decode cX7_between 13 = .ok (.iconst 1, 1) := by decide +kernel
theorem dX7_between_14 : decode cX7_between 14 = .ok (.goto 4, 3) := by decide +kernel
theorem dX7_between_17 : decode cX7_between 17 = .ok (.iconst 0, 1) := by decide +kernel
theorem dX7_between_18 : decode cX7_between 18 = .ok (.ireturn, 1) := by decide +kernel
abbrev rm_X7_between : Room := { frames := 5, cells := 0, slots := 0, locals := 40 }
set_option maxHeartbeats 4000000 in
set_option maxRecDepth 100000 in
/-- whether a number lies between two -/
theorem c_X7_between {l : Launch} {G : va_G} {ty : Nat → ClassId} {b0 : Nat} {H : Heap} {x y z a b d : UInt64} (hx9 : vq x a) (hy9 : vq y b) (hz9 : vq z d) : xMet l yX7_between wsX7_between rm_X7_between G ty b0 [.double x, .double y, .double z] H (fun v H1 => H = H1 ∧ v = some (.int (xB (pBetween a b d)))) (fun _ _ => False) := by
  refine xbody (cc := cX7_between) (maxL := 6) (ret := (some .boolean)) (C := RX7) (lv := [(0, .double x), (2, .double y), (4, .double z)]) (by decide) rfl rfl (Nat.le_of_ble_eq_true rfl) rfl ?_
  intro p e s m below meth c d0 hx hb hr hts hown hlocks hml hxt hnm0 hK hb0 hH0 hS hd0 ls hl
  refine lv_dload_n hx hb dX7_between_0 rfl (lv_at hl 0 rfl) ?_
  refine lv_dload_n hx hb dX7_between_1 rfl (lv_at hl 1 rfl) ?_
  refine xcmp_l_lt (tgt := 17) hx hb hx9 hy9 dX7_between_2 dX7_between_3 (by decide) (fun c_1 => ?_) (fun c_1 => ?_)
  · refine lv_iconst (v := nI 0) hx hb dX7_between_17 (by decide) ?_
    exact xzret (by decide) hd0 hx hb hr hlocks hS (Nat.le_of_ble_eq_true rfl) (Nat.le_of_ble_eq_true rfl) dX7_between_18 ⟨rfl, by first | rw [pBetween_t (by assumption) (by assumption)]; rfl | rw [pBetween_f1 (by assumption)]; rfl | rw [pBetween_f2 (by assumption) (by assumption)]; rfl⟩
  · refine lv_dload_n hx hb dX7_between_6 rfl (lv_at hl 0 rfl) ?_
    refine lv_dload hx hb dX7_between_7 (lv_at hl 2 rfl) ?_
    refine xcmp_g_gt (tgt := 17) hx hb hx9 hz9 dX7_between_9 dX7_between_10 (by decide) (fun c_2 => ?_) (fun c_2 => ?_)
    · refine lv_iconst (v := nI 0) hx hb dX7_between_17 (by decide) ?_
      exact xzret (by decide) hd0 hx hb hr hlocks hS (Nat.le_of_ble_eq_true rfl) (Nat.le_of_ble_eq_true rfl) dX7_between_18 ⟨rfl, by first | rw [pBetween_t (by assumption) (by assumption)]; rfl | rw [pBetween_f1 (by assumption)]; rfl | rw [pBetween_f2 (by assumption) (by assumption)]; rfl⟩
    · refine lv_iconst (v := nI 1) hx hb dX7_between_13 (by decide) ?_
      refine lv_goto (tgt := 18) hx hb dX7_between_14 (by decide) ?_
      exact xzret (by decide) hd0 hx hb hr hlocks hS (Nat.le_of_ble_eq_true rfl) (Nat.le_of_ble_eq_true rfl) dX7_between_18 ⟨rfl, by first | rw [pBetween_t (by assumption) (by assumption)]; rfl | rw [pBetween_f1 (by assumption)]; rfl | rw [pBetween_f2 (by assumption) (by assumption)]; rfl⟩
theorem dX6_sizeOf_0 : decode cX6_sizeOf 0 = .ok (.dload_n 0, 1) := by decide +kernel
theorem dX6_sizeOf_1 : decode cX6_sizeOf 1 = .ok (.dconst 0, 1) := by decide +kernel
theorem dX6_sizeOf_2 : decode cX6_sizeOf 2 = .ok (.dcmp .g, 1) := by decide +kernel
theorem dX6_sizeOf_3 : decode cX6_sizeOf 3 = .ok (.ifCond .ge 8, 3) := by decide +kernel
theorem dX6_sizeOf_6 : decode cX6_sizeOf 6 = .ok (.dload_n 0, 1) := by decide +kernel
theorem dX6_sizeOf_7 : decode cX6_sizeOf 7 = .ok (.dneg, 1) := by decide +kernel
theorem dX6_sizeOf_8 : decode cX6_sizeOf 8 = .ok (.goto 4, 3) := by decide +kernel
theorem dX6_sizeOf_11 : decode cX6_sizeOf 11 = .ok (.dload_n 0, 1) := by decide +kernel
theorem dX6_sizeOf_12 : decode cX6_sizeOf 12 = .ok (.dreturn, 1) := by decide +kernel
abbrev rm_X6_sizeOf : Room := { frames := 5, cells := 0, slots := 0, locals := 40 }
set_option maxHeartbeats 4000000 in
set_option maxRecDepth 100000 in
/-- a number without its sign -/
theorem c_X6_sizeOf {l : Launch} {G : va_G} {ty : Nat → ClassId} {b0 : Nat} {H : Heap} {x a : UInt64} (hx9 : vq x a) : xMet l yX6_sizeOf wsX6_sizeOf rm_X6_sizeOf G ty b0 [.double x] H (fun v H1 => H = H1 ∧ ∃ r : UInt64, v = some (.double r) ∧ vq r (pSize a)) (fun _ _ => False) := by
  refine xbody (cc := cX6_sizeOf) (maxL := 2) (ret := (some .double)) (C := RX6) (lv := [(0, .double x)]) (by decide) rfl rfl (Nat.le_of_ble_eq_true rfl) rfl ?_
  intro p e s m below meth c d0 hx hb hr hts hown hlocks hml hxt hnm0 hK hb0 hH0 hS hd0 ls hl
  refine lv_dload_n hx hb dX6_sizeOf_0 rfl (lv_at hl 0 rfl) ?_
  refine lv_dconst0 hx hb dX6_sizeOf_1 ?_
  refine xcmp_g_ge (tgt := 11) hx hb hx9 (vq_rf _) dX6_sizeOf_2 dX6_sizeOf_3 (by decide) (fun c_1 => ?_) (fun c_1 => ?_)
  · refine lv_dload_n hx hb dX6_sizeOf_11 rfl (lv_at hl 0 rfl) ?_
    exact xdret hd0 hx hb hr hlocks hS (Nat.le_of_ble_eq_true rfl) (Nat.le_of_ble_eq_true rfl) dX6_sizeOf_12 ⟨rfl, _, rfl, by unfold pSize; first | (rw [if_pos c_1]; exact hx9) | (rw [if_neg (by rw [c_1]; decide)]; exact hx9)⟩
  · refine lv_dload_n hx hb dX6_sizeOf_6 rfl (lv_at hl 0 rfl) ?_
    refine lv_dneg hx hb dX6_sizeOf_7 ?_
    refine lv_goto (tgt := 12) hx hb dX6_sizeOf_8 (by decide) ?_
    exact xdret hd0 hx hb hr hlocks hS (Nat.le_of_ble_eq_true rfl) (Nat.le_of_ble_eq_true rfl) dX6_sizeOf_12 ⟨rfl, _, rfl, by unfold pSize; first | (rw [if_pos c_1]; exact (vq_neg hx9)) | (rw [if_neg (by rw [c_1]; decide)]; exact (vq_neg hx9))⟩
theorem dX6_circleOf_0 : decode cX6_circleOf 0 = .ok (.dload_n 0, 1) := by decide +kernel
theorem dX6_circleOf_1 : decode cX6_circleOf 1 = .ok (.ldc2_w 251, 3) := by decide +kernel
theorem dX6_circleOf_4 : decode cX6_circleOf 4 = .ok (.dmul, 1) := by decide +kernel
theorem dX6_circleOf_5 : decode cX6_circleOf 5 = .ok (.dreturn, 1) := by decide +kernel
abbrev rm_X6_circleOf : Room := { frames := 5, cells := 0, slots := 0, locals := 40 }
theorem hw_X6_circleOf_1 : (Cond.constantDouble RX6 251 (4614256656552045848)) ∈ wsX6_circleOf := List.mem_of_getElem? (i := 1) rfl
set_option maxHeartbeats 4000000 in
set_option maxRecDepth 100000 in
/-- a circle -/
theorem c_X6_circleOf {l : Launch} {G : va_G} {ty : Nat → ClassId} {b0 : Nat} {H : Heap} {x a : UInt64} (hx9 : vq x a) : xMet l yX6_circleOf wsX6_circleOf rm_X6_circleOf G ty b0 [.double x] H (fun v H1 => H = H1 ∧ ∃ r : UInt64, v = some (.double r) ∧ vq r (FP.dmul a 4614256656552045848)) (fun _ _ => False) := by
  refine xbody (cc := cX6_circleOf) (maxL := 2) (ret := (some .double)) (C := RX6) (lv := [(0, .double x)]) (by decide) rfl rfl (Nat.le_of_ble_eq_true rfl) rfl ?_
  intro p e s m below meth c d0 hx hb hr hts hown hlocks hml hxt hnm0 hK hb0 hH0 hS hd0 ls hl
  refine lv_dload_n hx hb dX6_circleOf_0 rfl (lv_at hl 0 rfl) ?_
  refine lv_ldc2d hx hb hown (hts _ _ hw_X6_circleOf_1) dX6_circleOf_1 ?_
  refine xdmul hd0 hx hb hx9 (vq_rf _) dX6_circleOf_4 (fun r_1 d0 q_1 hd0 => ?_)
  exact xdret hd0 hx hb hr hlocks hS (Nat.le_of_ble_eq_true rfl) (Nat.le_of_ble_eq_true rfl) dX6_circleOf_5 ⟨rfl, _, rfl, q_1⟩
set_option maxRecDepth 20000 in
theorem ggX7_length_X7_root : GoodIn wsX7_length wsX7_root := goodIn_r _ [4, 5] (by decide +kernel) (by decide +kernel)
set_option maxRecDepth 20000 in
theorem gX7_length_X7_root : GoodIn wsX7_length (va_wsS RX7 73 yX7_root wsX7_root) := goodIn_app (goodIn_of _ (by decide +kernel)) ggX7_length_X7_root
theorem dX7_length_0 : decode cX7_length 0 = .ok (.dload_n 0, 1) := by decide +kernel
theorem dX7_length_1 : decode cX7_length 1 = .ok (.dload_n 0, 1) := by decide +kernel
theorem dX7_length_2 : decode cX7_length 2 = .ok (.dmul, 1) := by decide +kernel
theorem dX7_length_3 : decode cX7_length 3 = .ok (.dload_n 2, 1) := by decide +kernel
theorem dX7_length_4 : decode cX7_length 4 = .ok (.dload_n 2, 1) := by decide +kernel
theorem dX7_length_5 : decode cX7_length 5 = .ok (.dmul, 1) := by decide +kernel
theorem dX7_length_6 : decode cX7_length 6 = .ok (.dadd, 1) := by decide +kernel
theorem dX7_length_7 : decode cX7_length 7 = .ok (.invokestatic 73, 3) := by decide +kernel
theorem dX7_length_10 : decode cX7_length 10 = .ok (.dreturn, 1) := by decide +kernel
abbrev rm_X7_length : Room := { frames := 6, cells := 0, slots := 0, locals := 90 }
set_option maxHeartbeats 4000000 in
set_option maxRecDepth 100000 in
/-- a length -/
theorem c_X7_length {l : Launch} {G : va_G} {ty : Nat → ClassId} {b0 : Nat} {H : Heap} {x y a b : UInt64} (hx9 : vq x a) (hy9 : vq y b) : xMet l yX7_length wsX7_length rm_X7_length G ty b0 [.double x, .double y] H (fun v H1 => H = H1 ∧ ∃ r : UInt64, v = some (.double r) ∧ vq r (pLen a b)) (fun _ _ => False) := by
  refine xbody (cc := cX7_length) (maxL := 4) (ret := (some .double)) (C := RX7) (lv := [(0, .double x), (2, .double y)]) (by decide) rfl rfl (Nat.le_of_ble_eq_true rfl) rfl ?_
  intro p e s m below meth c d0 hx hb hr hts hown hlocks hml hxt hnm0 hK hb0 hH0 hS hd0 ls hl
  refine lv_dload_n hx hb dX7_length_0 rfl (lv_at hl 0 rfl) ?_
  refine lv_dload_n hx hb dX7_length_1 rfl (lv_at hl 0 rfl) ?_
  refine xdmul hd0 hx hb hx9 hx9 dX7_length_2 (fun r_1 d0 q_1 hd0 => ?_)
  refine lv_dload_n hx hb dX7_length_3 rfl (lv_at hl 1 rfl) ?_
  refine lv_dload_n hx hb dX7_length_4 rfl (lv_at hl 1 rfl) ?_
  refine xdmul hd0 hx hb hy9 hy9 dX7_length_5 (fun r_2 d0 q_2 hd0 => ?_)
  refine xdadd hd0 hx hb q_1 q_2 dX7_length_6 (fun r_3 d0 q_3 hd0 => ?_)
  have cw_4 := va_cwS (R := rm_X7_length) (rm := rm_X7_root) 1 (hts d0) gX7_length_X7_root rfl rfl rfl (by decide +kernel) ⟨Nat.le_of_ble_eq_true rfl, Nat.le_of_ble_eq_true rfl⟩
  refine xcall hd0 (xintoS (As := [.double r_3]) (rest := []) ⟨hx, hb, hml, hown, hts _⟩ cw_4 rfl rfl hl.1 rfl (lv_room (Nat.le_of_ble_eq_true rfl)) dX7_length_7) (c_X7_root (l := l) (G := G) (ty := ty) (b0 := b0) q_3) (xoweB cw_4.1) hK hb0 hS (Nat.le_of_ble_eq_true rfl) (Nat.le_of_ble_eq_true rfl) (fun E_4 ce_4 q9_4 H_4 locs_4 d0 hd0 hp_4 hS hce_4 hcv_4 hcl_4 => ?_) (fun v_4 H_4 locs_4 d0 hd0 hp_4 hS => ?_)
  · exact hp_4.elim
  · obtain ⟨rfl, r_4, rfl, q_4⟩ := hp_4
    show W p l e _ (s.setDrawn _) m _ below meth c _ _ _ _ _ (F0 m 10 ls [.double r_4])
    exact xdret hd0 hx hb hr hlocks hS (Nat.le_of_ble_eq_true rfl) (Nat.le_of_ble_eq_true rfl) dX7_length_10 ⟨rfl, _, rfl, q_4⟩
set_option maxRecDepth 20000 in
theorem ggX6_apart_X6_root : GoodIn wsX6_apart wsX6_root := goodIn_r _ [7, 8] (by decide +kernel) (by decide +kernel)
set_option maxRecDepth 20000 in
theorem gX6_apart_X6_root : GoodIn wsX6_apart (va_wsS RX6 155 yX6_root wsX6_root) := goodIn_app (goodIn_of _ (by decide +kernel)) ggX6_apart_X6_root
theorem dX6_apart_0 : decode cX6_apart 0 = .ok (.aload_n 1, 1) := by decide +kernel
theorem dX6_apart_1 : decode cX6_apart 1 = .ok (.getfield 71, 3) := by decide +kernel
theorem dX6_apart_4 : decode cX6_apart 4 = .ok (.aload_n 0, 1) := by decide +kernel
theorem dX6_apart_5 : decode cX6_apart 5 = .ok (.getfield 71, 3) := by decide +kernel
theorem dX6_apart_8 : decode cX6_apart 8 = .ok (.dsub, 1) := by decide +kernel
theorem dX6_apart_9 : decode cX6_apart 9 = .ok (.dstore_n 2, 1) := by decide +kernel
theorem dX6_apart_10 : decode cX6_apart 10 = .ok (.aload_n 1, 1) := by decide +kernel
theorem dX6_apart_11 : decode cX6_apart 11 = .ok (.getfield 77, 3) := by decide +kernel
theorem dX6_apart_14 : decode cX6_apart 14 = .ok (.aload_n 0, 1) := by decide +kernel
theorem dX6_apart_15 : decode cX6_apart 15 = .ok (.getfield 77, 3) := by decide +kernel
theorem dX6_apart_18 : decode cX6_apart 18 = .ok (.dsub, 1) := by decide +kernel
theorem dX6_apart_19 : decode cX6_apart 19 = .ok (.dstore 4, 2) := by decide +kernel
theorem dX6_apart_21 : decode cX6_apart 21 = .ok (.aload_n 1, 1) := by decide +kernel
theorem dX6_apart_22 : decode cX6_apart 22 = .ok (.getfield 80, 3) := by decide +kernel
theorem dX6_apart_25 : decode cX6_apart 25 = .ok (.aload_n 0, 1) := by decide +kernel
theorem dX6_apart_26 : decode cX6_apart 26 = .ok (.getfield 80, 3) := by decide +kernel
theorem dX6_apart_29 : decode cX6_apart 29 = .ok (.dsub, 1) := by decide +kernel
theorem dX6_apart_30 : decode cX6_apart 30 = .ok (.dstore 6, 2) := by decide +kernel
theorem dX6_apart_32 : decode cX6_apart 32 = .ok (.dload_n 2, 1) := by decide +kernel
theorem dX6_apart_33 : decode cX6_apart 33 = .ok (.dload_n 2, 1) := by decide +kernel
theorem dX6_apart_34 : decode cX6_apart 34 = .ok (.dmul, 1) := by decide +kernel
theorem dX6_apart_35 : decode cX6_apart 35 = .ok (.dload 4, 2) := by decide +kernel
theorem dX6_apart_37 : decode cX6_apart 37 = .ok (.dload 4, 2) := by decide +kernel
theorem dX6_apart_39 : decode cX6_apart 39 = .ok (.dmul, 1) := by decide +kernel
theorem dX6_apart_40 : decode cX6_apart 40 = .ok (.dadd, 1) := by decide +kernel
theorem dX6_apart_41 : decode cX6_apart 41 = .ok (.dload 6, 2) := by decide +kernel
theorem dX6_apart_43 : decode cX6_apart 43 = .ok (.dload 6, 2) := by decide +kernel
theorem dX6_apart_45 : decode cX6_apart 45 = .ok (.dmul, 1) := by decide +kernel
theorem dX6_apart_46 : decode cX6_apart 46 = .ok (.dadd, 1) := by decide +kernel
theorem dX6_apart_47 : decode cX6_apart 47 = .ok (.invokestatic 155, 3) := by decide +kernel
theorem dX6_apart_50 : decode cX6_apart 50 = .ok (.dreturn, 1) := by decide +kernel
abbrev rm_X6_apart : Room := { frames := 6, cells := 0, slots := 0, locals := 90 }
theorem hw_X6_apart_1 : (Cond.fieldLink RX6 71 "PlankUnroll$Place" "x" "D") ∈ wsX6_apart := List.mem_of_getElem? (i := 1) rfl
theorem hw_X6_apart_2 : (Cond.fieldLink RX6 77 "PlankUnroll$Place" "y" "D") ∈ wsX6_apart := List.mem_of_getElem? (i := 2) rfl
theorem hw_X6_apart_3 : (Cond.fieldLink RX6 80 "PlankUnroll$Place" "z" "D") ∈ wsX6_apart := List.mem_of_getElem? (i := 3) rfl
theorem in_X6_apart_X3 : ∀ w ∈ wsX30, w ∈ wsX6_apart := by decide +kernel
set_option maxHeartbeats 4000000 in
set_option maxRecDepth 100000 in
/-- DISTANCE -/
theorem c_X6_apart {l : Launch} {G : va_G} {ty : Nat → ClassId} {b0 : Nat} {H : Heap} {q0 q1 : Nat} {u0 v0 w0 u1 v1 w1 a0 a1 a2 a3 a4 a5 : UInt64} (hc0 : xc G q0 (.inr (4, [.double u0, .double v0, .double w0])) H) (hc1 : xc G q1 (.inr (4, [.double u1, .double v1, .double w1])) H) (hx0 : vq u0 a0) (hy0 : vq v0 a1) (hz0 : vq w0 a2) (hx1 : vq u1 a3) (hy1 : vq v1 a4) (hz1 : vq w1 a5) : xMet l yX6_apart wsX6_apart rm_X6_apart G ty b0 [.ref q0, .ref q1] H (fun v H1 => H = H1 ∧ ∃ r : UInt64, v = some (.double r) ∧ vq r (pDist a0 a1 a2 a3 a4 a5)) (fun _ _ => False) := by
  refine xbody (cc := cX6_apart) (maxL := 8) (ret := (some .double)) (C := RX6) (lv := [(0, .ref q0), (1, .ref q1)]) (by decide) rfl rfl (Nat.le_of_ble_eq_true rfl) rfl ?_
  intro p e s m below meth c d0 hx hb hr hts hown hlocks hml hxt hnm0 hK hb0 hH0 hS hd0 ls hl
  refine lv_aload_n hx hb dX6_apart_0 rfl (lv_at hl 1 rfl) ?_
  refine va_get (D := G) (cl := vwCl) (ci := 4) (v := .double u1) (C := RX3) (T := TX3) (N := 3) hx hb (hts _) in_X6_apart_X3 hown hK.1 (x1 hc1) 0 rfl rfl 0 (by decide) (hts _ _ hw_X6_apart_1) (fun _ h9 => h9) rfl dX6_apart_1 ?_
  refine lv_aload_n hx hb dX6_apart_4 rfl (lv_at hl 0 rfl) ?_
  refine va_get (D := G) (cl := vwCl) (ci := 4) (v := .double u0) (C := RX3) (T := TX3) (N := 3) hx hb (hts _) in_X6_apart_X3 hown hK.1 (x1 hc0) 0 rfl rfl 0 (by decide) (hts _ _ hw_X6_apart_1) (fun _ h9 => h9) rfl dX6_apart_5 ?_
  refine xdsub hd0 hx hb hx1 hx0 dX6_apart_8 (fun r_1 d0 q_1 hd0 => ?_)
  refine lv_dstore_n (lv' := [(2, .double r_1), (0, .ref q0), (1, .ref q1)]) hx hb dX6_apart_9 rfl hl (by decide) rfl (fun ls hl => ?_)
  refine lv_aload_n hx hb dX6_apart_10 rfl (lv_at hl 2 rfl) ?_
  refine va_get (D := G) (cl := vwCl) (ci := 4) (v := .double v1) (C := RX3) (T := TX3) (N := 3) hx hb (hts _) in_X6_apart_X3 hown hK.1 (x1 hc1) 0 rfl rfl 1 (by decide) (hts _ _ hw_X6_apart_2) (fun _ h9 => h9) rfl dX6_apart_11 ?_
  refine lv_aload_n hx hb dX6_apart_14 rfl (lv_at hl 1 rfl) ?_
  refine va_get (D := G) (cl := vwCl) (ci := 4) (v := .double v0) (C := RX3) (T := TX3) (N := 3) hx hb (hts _) in_X6_apart_X3 hown hK.1 (x1 hc0) 0 rfl rfl 1 (by decide) (hts _ _ hw_X6_apart_2) (fun _ h9 => h9) rfl dX6_apart_15 ?_
  refine xdsub hd0 hx hb hy1 hy0 dX6_apart_18 (fun r_2 d0 q_2 hd0 => ?_)
  refine lv_dstore (lv' := [(4, .double r_2), (2, .double r_1), (0, .ref q0), (1, .ref q1)]) hx hb dX6_apart_19 hl (by decide) rfl (fun ls hl => ?_)
  refine lv_aload_n hx hb dX6_apart_21 rfl (lv_at hl 3 rfl) ?_
  refine va_get (D := G) (cl := vwCl) (ci := 4) (v := .double w1) (C := RX3) (T := TX3) (N := 3) hx hb (hts _) in_X6_apart_X3 hown hK.1 (x1 hc1) 0 rfl rfl 2 (by decide) (hts _ _ hw_X6_apart_3) (fun _ h9 => h9) rfl dX6_apart_22 ?_
  refine lv_aload_n hx hb dX6_apart_25 rfl (lv_at hl 2 rfl) ?_
  refine va_get (D := G) (cl := vwCl) (ci := 4) (v := .double w0) (C := RX3) (T := TX3) (N := 3) hx hb (hts _) in_X6_apart_X3 hown hK.1 (x1 hc0) 0 rfl rfl 2 (by decide) (hts _ _ hw_X6_apart_3) (fun _ h9 => h9) rfl dX6_apart_26 ?_
  refine xdsub hd0 hx hb hz1 hz0 dX6_apart_29 (fun r_3 d0 q_3 hd0 => ?_)
  refine lv_dstore (lv' := [(6, .double r_3), (4, .double r_2), (2, .double r_1), (0, .ref q0), (1, .ref q1)]) hx hb dX6_apart_30 hl (by decide) rfl (fun ls hl => ?_)
  refine lv_dload_n hx hb dX6_apart_32 rfl (lv_at hl 2 rfl) ?_
  refine lv_dload_n hx hb dX6_apart_33 rfl (lv_at hl 2 rfl) ?_
  refine xdmul hd0 hx hb q_1 q_1 dX6_apart_34 (fun r_4 d0 q_4 hd0 => ?_)
  refine lv_dload hx hb dX6_apart_35 (lv_at hl 1 rfl) ?_
  refine lv_dload hx hb dX6_apart_37 (lv_at hl 1 rfl) ?_
  refine xdmul hd0 hx hb q_2 q_2 dX6_apart_39 (fun r_5 d0 q_5 hd0 => ?_)
  refine xdadd hd0 hx hb q_4 q_5 dX6_apart_40 (fun r_6 d0 q_6 hd0 => ?_)
  refine lv_dload hx hb dX6_apart_41 (lv_at hl 0 rfl) ?_
  refine lv_dload hx hb dX6_apart_43 (lv_at hl 0 rfl) ?_
  refine xdmul hd0 hx hb q_3 q_3 dX6_apart_45 (fun r_7 d0 q_7 hd0 => ?_)
  refine xdadd hd0 hx hb q_6 q_7 dX6_apart_46 (fun r_8 d0 q_8 hd0 => ?_)
  have cw_9 := va_cwS (R := rm_X6_apart) (rm := rm_X6_root) 1 (hts d0) gX6_apart_X6_root rfl rfl rfl (by decide +kernel) ⟨Nat.le_of_ble_eq_true rfl, Nat.le_of_ble_eq_true rfl⟩
  refine xcall hd0 (xintoS (As := [.double r_8]) (rest := []) ⟨hx, hb, hml, hown, hts _⟩ cw_9 rfl rfl hl.1 rfl (lv_room (Nat.le_of_ble_eq_true rfl)) dX6_apart_47) (c_X6_root (l := l) (G := G) (ty := ty) (b0 := b0) q_8) (xoweB cw_9.1) hK hb0 hS (Nat.le_of_ble_eq_true rfl) (Nat.le_of_ble_eq_true rfl) (fun E_9 ce_9 q9_9 H_9 locs_9 d0 hd0 hp_9 hS hce_9 hcv_9 hcl_9 => ?_) (fun v_9 H_9 locs_9 d0 hd0 hp_9 hS => ?_)
  · exact hp_9.elim
  · obtain ⟨rfl, r_9, rfl, q_9⟩ := hp_9
    show W p l e _ (s.setDrawn _) m _ below meth c _ _ _ _ _ (F0 m 50 ls [.double r_9])
    exact xdret hd0 hx hb hr hlocks hS (Nat.le_of_ble_eq_true rfl) (Nat.le_of_ble_eq_true rfl) dX6_apart_50 ⟨rfl, _, rfl, q_9⟩
end
section
/-! THE REFERENCE: what it is made of, and its methods that only read. -/
theorem xin_of {x : Int32} {n : Nat} (h0 : ¬ x < 0) (h1 : ¬ nI n ≤ x) (hn : n < 2 ^ 31) : vp_in x n := by
  rcases pk_ix x hn with h | h | ⟨j, hj, rfl⟩
  · exact absurd h h0
  · exact absurd h h1
  · exact vp_in_nI hj hn
theorem xin_no0 {x : Int32} {n : Nat} (h0 : x < 0) : ¬ vp_in x n := fun h => h (Or.inl h0)
theorem xin_no1 {x : Int32} {n : Nat} (h1 : nI n ≤ x) (hn : n < 2 ^ 31) : ¬ vp_in x n := by
  intro h
  obtain ⟨j, hj, rfl⟩ := vp_in_of h hn
  exact nI_ge hj hn h1
/-- a truth as a whole number -/
noncomputable def xP (p : Prop) : Int32 := @ite Int32 p (Classical.propDecidable p) 1 0
theorem xP_t {p : Prop} (h : p) : xP p = 1 := by unfold xP; exact if_pos h
theorem xP_f {p : Prop} (h : ¬ p) : xP p = 0 := by unfold xP; exact if_neg h
theorem xP_ne {p : Prop} : ¬ xP p = 0 ↔ p := by
  by_cases h : p
  · rw [xP_t h]; exact ⟨fun _ => h, fun _ => by decide⟩
  · rw [xP_f h]; exact ⟨fun z => absurd rfl z, fun z => absurd z h⟩
theorem xP_eq {p : Prop} : xP p = 0 ↔ ¬ p := by
  by_cases h : p
  · rw [xP_t h]; exact ⟨fun z => absurd z (by decide), fun z => absurd h z⟩
  · rw [xP_f h]; exact ⟨fun _ => h, fun _ => rfl⟩
theorem xz1 {p : Prop} (h : p) : some (Value.int (nI 1)) = some (Value.int (xP p)) := by rw [xP_t h]; rfl
theorem xz0 {p : Prop} (h : ¬ p) : some (Value.int (nI 0)) = some (Value.int (xP p)) := by rw [xP_f h]; rfl
theorem xP_cg {p q : Prop} (h : p ↔ q) : xP p = xP q := by rw [propext h]
/-- the reference's cells: the object, its eleven arrays -/
def xRef (G : va_G) (ty : Nat → ClassId) (m0 : Nat) (A : Nat → Nat) (th : Int32) (F R : Nat) (pl : Nat → UInt64) (un : Nat → Int32) (co dr : Nat → UInt64) (bu : Nat → Int32) (nb : Nat) (wi hi : Nat → UInt64) (fc : Nat → Int32) (fa : Nat → UInt64) (lo la : Nat → Int32) (px py pz : UInt64) (H : Heap) : Prop :=
  xc G m0 (.inr (8, [.int th, .int (nI F), .int (nI R), .ref (A 0), .ref (A 1), .ref (A 2), .ref (A 3), .ref (A 4), .int (nI nb), .ref (A 5), .ref (A 6), .ref (A 7), .ref (A 8), .ref (A 9), .ref (A 10), .double px, .double py, .double pz])) H ∧
  xc G (A 0) (.inl (ty 0, 192, .inr (.inr (.inr (.inl pl))))) H ∧ xc G (A 1) (.inl (ty 2, 8, .inl un)) H ∧ xc G (A 2) (.inl (ty 0, 256, .inr (.inr (.inr (.inl co))))) H ∧ xc G (A 3) (.inl (ty 0, 32, .inr (.inr (.inr (.inl dr))))) H ∧ xc G (A 4) (.inl (ty 2, 64, .inl bu)) H ∧
  xc G (A 5) (.inl (ty 0, 4, .inr (.inr (.inr (.inl wi))))) H ∧ xc G (A 6) (.inl (ty 0, 4, .inr (.inr (.inr (.inl hi))))) H ∧ xc G (A 7) (.inl (ty 1, 4, .inl fc)) H ∧ xc G (A 8) (.inl (ty 0, 128, .inr (.inr (.inr (.inl fa))))) H ∧ xc G (A 9) (.inl (ty 1, 8, .inl lo)) H ∧ xc G (A 10) (.inl (ty 1, 8, .inl la)) H
/-- the reference's sizes -/
abbrev xSz (F R : Nat) : Prop := (2 ≤ F ∧ F ≤ 8) ∧ (2 ≤ R ∧ R ≤ 8)
def pAt (pl : Nat → UInt64) (f r k : Nat) : UInt64 := pl (3 * (8 * f + r) + k)
def pFar (pl : Nat → UInt64) (f r g q : Nat) : UInt64 := pDist (pAt pl f r 0) (pAt pl f r 1) (pAt pl f r 2) (pAt pl g q 0) (pAt pl g q 1) (pAt pl g q 2)
/-- STRETCH, out of the corners -/
def pOff (co pl : Nat → UInt64) (s f : Nat) : UInt64 := FP.dsub (pLen (FP.dsub (co (32 * s + 4 * f + 6)) (co (32 * s + 4 * f))) (FP.dsub (co (32 * s + 4 * f + 6 + 1)) (co (32 * s + 4 * f + 1)))) (pFar pl f s (f + 1) (s + 1))
theorem dX7_noPlace_0 : decode cX7_noPlace 0 = .ok (.iload_n 1, 1) := by decide +kernel
theorem dX7_noPlace_1 : decode cX7_noPlace 1 = .ok (.ifCond .lt 23, 3) := by decide +kernel
theorem dX7_noPlace_4 : decode cX7_noPlace 4 = .ok (.iload_n 1, 1) := by decide +kernel
theorem dX7_noPlace_5 : decode cX7_noPlace 5 = .ok (.aload_n 0, 1) := by decide +kernel
theorem dX7_noPlace_6 : decode cX7_noPlace 6 = .ok (.getfield 45, 3) := by decide +kernel
theorem dX7_noPlace_9 : decode cX7_noPlace 9 = .ok (.if_icmp .ge 15, 3) := by decide +kernel
theorem dX7_noPlace_12 : decode cX7_noPlace 12 = .ok (.iload_n 2, 1) := by decide +kernel
theorem dX7_noPlace_13 : decode cX7_noPlace 13 = .ok (.ifCond .lt 11, 3) := by decide +kernel
theorem dX7_noPlace_16 : decode cX7_noPlace 16 = .ok (.iload_n 2, 1) := by decide +kernel
theorem dX7_noPlace_17 : decode cX7_noPlace 17 = .ok (.aload_n 0, 1) := by decide +kernel
theorem dX7_noPlace_18 : decode cX7_noPlace 18 = .ok (.getfield 49, 3) := by decide +kernel
theorem dX7_noPlace_21 : decode cX7_noPlace 21 = .ok (.if_icmp .lt 7, 3) := by decide +kernel
theorem dX7_noPlace_24 : decode cX7_noPlace 24 = .ok (.iconst 1, 1) := by decide +kernel
theorem dX7_noPlace_25 : decode cX7_noPlace 25 = .ok (.goto 4, 3) := by decide +kernel
theorem dX7_noPlace_28 : decode cX7_noPlace 28 = .ok (.iconst 0, 1) := by decide +kernel
theorem dX7_noPlace_29 : decode cX7_noPlace 29 = .ok (.ireturn, 1) := by decide +kernel
abbrev rm_X7_noPlace : Room := { frames := 5, cells := 0, slots := 0, locals := 40 }
theorem hw_X7_noPlace_1 : (Cond.fieldLink RX7 45 "PlankUnrollModel" "frames" "I") ∈ wsX7_noPlace := List.mem_of_getElem? (i := 1) rfl
theorem hw_X7_noPlace_2 : (Cond.fieldLink RX7 49 "PlankUnrollModel" "rows" "I") ∈ wsX7_noPlace := List.mem_of_getElem? (i := 2) rfl
theorem in_X7_noPlace_X7 : ∀ w ∈ wsX70, w ∈ wsX7_noPlace := by decide +kernel
set_option maxHeartbeats 4000000 in
set_option maxRecDepth 100000 in
/-- no such place -/
theorem c_X7_noPlace {l : Launch} {G : va_G} {ty : Nat → ClassId} {b0 : Nat} {H : Heap} {f r : Int32} {m0 : Nat} {A : Nat → Nat} {th : Int32} {F R nb : Nat} {pl co dr wi hi fa : Nat → UInt64} {un bu fc lo la : Nat → Int32} {px py pz : UInt64} (hY : xRef G ty m0 A th F R pl un co dr bu nb wi hi fc fa lo la px py pz H) (hZ : xSz F R) : xMet l yX7_noPlace wsX7_noPlace rm_X7_noPlace G ty b0 [.ref m0, .int (f), .int (r)] H (fun v H1 => H = H1 ∧ v = some (.int (xP (¬ (vp_in f F ∧ vp_in r R))))) (fun _ _ => False) := by
  refine xbody (cc := cX7_noPlace) (maxL := 3) (ret := (some .boolean)) (C := RX7) (lv := [(0, .ref m0), (1, .int (f)), (2, .int (r))]) (by decide) rfl rfl (Nat.le_of_ble_eq_true rfl) rfl ?_
  intro p e s m below meth c d0 hx hb hr hts hown hlocks hml hxt hnm0 hK hb0 hH0 hS hd0 ls hl
  obtain ⟨y_o, y_0, y_1, y_2, y_3, y_4, y_5, y_6, y_7, y_8, y_9, y_10⟩ := id hY
  obtain ⟨⟨zF2, zF8⟩, ⟨zR2, zR8⟩⟩ := id hZ
  refine lv_iload_n hx hb dX7_noPlace_0 rfl (lv_at hl 1 rfl) ?_
  refine lv_if_lt (tgt := 24) hx hb dX7_noPlace_1 (by decide) (fun c_1 => ?_) (fun c_1 => ?_)
  · refine lv_iconst (v := nI 1) hx hb dX7_noPlace_24 (by decide) ?_
    refine lv_goto (tgt := 29) hx hb dX7_noPlace_25 (by decide) ?_
    exact xzret (by decide) hd0 hx hb hr hlocks hS (Nat.le_of_ble_eq_true rfl) (Nat.le_of_ble_eq_true rfl) dX7_noPlace_29 ⟨rfl, by first | exact xz1 (fun h => xin_no0 (by assumption) h.1) | exact xz1 (fun h => xin_no1 (by assumption) (by omega) h.1) | exact xz1 (fun h => xin_no0 (by assumption) h.2) | exact xz1 (fun h => xin_no1 (Int32.not_lt.mp (by assumption)) (by omega) h.2) | exact xz0 (fun h => h ⟨xin_of (by assumption) (by assumption) (by omega), xin_of (by assumption) (Int32.not_le.mpr (by assumption)) (by omega)⟩)⟩
  · refine lv_iload_n hx hb dX7_noPlace_4 rfl (lv_at hl 1 rfl) ?_
    refine lv_aload_n hx hb dX7_noPlace_5 rfl (lv_at hl 0 rfl) ?_
    refine va_get (D := G) (cl := vwCl) (ci := 8) (v := .int (nI F)) (C := RX7) (T := TX7) (N := 18) hx hb (hts _) in_X7_noPlace_X7 hown hK.1 (x1 y_o) 0 rfl rfl 1 (by decide) (hts _ _ hw_X7_noPlace_1) (fun _ h9 => h9) rfl dX7_noPlace_6 ?_
    refine lv_icmp_ge (tgt := 24) hx hb dX7_noPlace_9 (by decide) (fun c_2 => ?_) (fun c_2 => ?_)
    · refine lv_iconst (v := nI 1) hx hb dX7_noPlace_24 (by decide) ?_
      refine lv_goto (tgt := 29) hx hb dX7_noPlace_25 (by decide) ?_
      exact xzret (by decide) hd0 hx hb hr hlocks hS (Nat.le_of_ble_eq_true rfl) (Nat.le_of_ble_eq_true rfl) dX7_noPlace_29 ⟨rfl, by first | exact xz1 (fun h => xin_no0 (by assumption) h.1) | exact xz1 (fun h => xin_no1 (by assumption) (by omega) h.1) | exact xz1 (fun h => xin_no0 (by assumption) h.2) | exact xz1 (fun h => xin_no1 (Int32.not_lt.mp (by assumption)) (by omega) h.2) | exact xz0 (fun h => h ⟨xin_of (by assumption) (by assumption) (by omega), xin_of (by assumption) (Int32.not_le.mpr (by assumption)) (by omega)⟩)⟩
    · refine lv_iload_n hx hb dX7_noPlace_12 rfl (lv_at hl 2 rfl) ?_
      refine lv_if_lt (tgt := 24) hx hb dX7_noPlace_13 (by decide) (fun c_3 => ?_) (fun c_3 => ?_)
      · refine lv_iconst (v := nI 1) hx hb dX7_noPlace_24 (by decide) ?_
        refine lv_goto (tgt := 29) hx hb dX7_noPlace_25 (by decide) ?_
        exact xzret (by decide) hd0 hx hb hr hlocks hS (Nat.le_of_ble_eq_true rfl) (Nat.le_of_ble_eq_true rfl) dX7_noPlace_29 ⟨rfl, by first | exact xz1 (fun h => xin_no0 (by assumption) h.1) | exact xz1 (fun h => xin_no1 (by assumption) (by omega) h.1) | exact xz1 (fun h => xin_no0 (by assumption) h.2) | exact xz1 (fun h => xin_no1 (Int32.not_lt.mp (by assumption)) (by omega) h.2) | exact xz0 (fun h => h ⟨xin_of (by assumption) (by assumption) (by omega), xin_of (by assumption) (Int32.not_le.mpr (by assumption)) (by omega)⟩)⟩
      · refine lv_iload_n hx hb dX7_noPlace_16 rfl (lv_at hl 2 rfl) ?_
        refine lv_aload_n hx hb dX7_noPlace_17 rfl (lv_at hl 0 rfl) ?_
        refine va_get (D := G) (cl := vwCl) (ci := 8) (v := .int (nI R)) (C := RX7) (T := TX7) (N := 18) hx hb (hts _) in_X7_noPlace_X7 hown hK.1 (x1 y_o) 0 rfl rfl 2 (by decide) (hts _ _ hw_X7_noPlace_2) (fun _ h9 => h9) rfl dX7_noPlace_18 ?_
        refine lv_icmp_lt (tgt := 28) hx hb dX7_noPlace_21 (by decide) (fun c_4 => ?_) (fun c_4 => ?_)
        · refine lv_iconst (v := nI 0) hx hb dX7_noPlace_28 (by decide) ?_
          exact xzret (by decide) hd0 hx hb hr hlocks hS (Nat.le_of_ble_eq_true rfl) (Nat.le_of_ble_eq_true rfl) dX7_noPlace_29 ⟨rfl, by first | exact xz1 (fun h => xin_no0 (by assumption) h.1) | exact xz1 (fun h => xin_no1 (by assumption) (by omega) h.1) | exact xz1 (fun h => xin_no0 (by assumption) h.2) | exact xz1 (fun h => xin_no1 (Int32.not_lt.mp (by assumption)) (by omega) h.2) | exact xz0 (fun h => h ⟨xin_of (by assumption) (by assumption) (by omega), xin_of (by assumption) (Int32.not_le.mpr (by assumption)) (by omega)⟩)⟩
        · refine lv_iconst (v := nI 1) hx hb dX7_noPlace_24 (by decide) ?_
          refine lv_goto (tgt := 29) hx hb dX7_noPlace_25 (by decide) ?_
          exact xzret (by decide) hd0 hx hb hr hlocks hS (Nat.le_of_ble_eq_true rfl) (Nat.le_of_ble_eq_true rfl) dX7_noPlace_29 ⟨rfl, by first | exact xz1 (fun h => xin_no0 (by assumption) h.1) | exact xz1 (fun h => xin_no1 (by assumption) (by omega) h.1) | exact xz1 (fun h => xin_no0 (by assumption) h.2) | exact xz1 (fun h => xin_no1 (Int32.not_lt.mp (by assumption)) (by omega) h.2) | exact xz0 (fun h => h ⟨xin_of (by assumption) (by assumption) (by omega), xin_of (by assumption) (Int32.not_le.mpr (by assumption)) (by omega)⟩)⟩
theorem xstr_no {x : Int32} {n : Nat} (h : ¬ x ≤ nI (n - 2)) (hn : 2 ≤ n ∧ n ≤ 8) : ¬ vp_in x (n - 1) := by
  intro z
  obtain ⟨j, hj, rfl⟩ := vp_in_of z (by omega)
  exact h (nI_le (by omega) (by omega))
theorem xstr_of {x : Int32} {n : Nat} (h0 : ¬ x < 0) (h : x ≤ nI (n - 2)) (hn : 2 ≤ n ∧ n ≤ 8) : vp_in x (n - 1) := by
  obtain ⟨j, hj, rfl⟩ := nI_of h0
  exact vp_in_nI (by have := (nI_leI hj (by omega)).mp h; omega) (by omega)
theorem dX7_noStrip_0 : decode cX7_noStrip 0 = .ok (.iload_n 1, 1) := by decide +kernel
theorem dX7_noStrip_1 : decode cX7_noStrip 1 = .ok (.ifCond .lt 13, 3) := by decide +kernel
theorem dX7_noStrip_4 : decode cX7_noStrip 4 = .ok (.iload_n 1, 1) := by decide +kernel
theorem dX7_noStrip_5 : decode cX7_noStrip 5 = .ok (.aload_n 0, 1) := by decide +kernel
theorem dX7_noStrip_6 : decode cX7_noStrip 6 = .ok (.getfield 49, 3) := by decide +kernel
theorem dX7_noStrip_9 : decode cX7_noStrip 9 = .ok (.iconst 2, 1) := by decide +kernel
theorem dX7_noStrip_10 : decode cX7_noStrip 10 = .ok (.isub, 1) := by decide +kernel
theorem dX7_noStrip_11 : decode cX7_noStrip 11 = .ok (.if_icmp .le 7, 3) := by decide +kernel
theorem dX7_noStrip_14 : decode cX7_noStrip 14 = .ok (.iconst 1, 1) := by decide +kernel
theorem dX7_noStrip_15 : decode cX7_noStrip 15 = .ok (.goto 4, 3) := by decide +kernel
theorem dX7_noStrip_18 : decode cX7_noStrip 18 = .ok (.iconst 0, 1) := by decide +kernel
theorem dX7_noStrip_19 : decode cX7_noStrip 19 = .ok (.ireturn, 1) := by decide +kernel
abbrev rm_X7_noStrip : Room := { frames := 5, cells := 0, slots := 0, locals := 40 }
theorem hw_X7_noStrip_1 : (Cond.fieldLink RX7 49 "PlankUnrollModel" "rows" "I") ∈ wsX7_noStrip := List.mem_of_getElem? (i := 1) rfl
theorem in_X7_noStrip_X7 : ∀ w ∈ wsX70, w ∈ wsX7_noStrip := by decide +kernel
set_option maxHeartbeats 4000000 in
set_option maxRecDepth 100000 in
/-- no such strip -/
theorem c_X7_noStrip {l : Launch} {G : va_G} {ty : Nat → ClassId} {b0 : Nat} {H : Heap} {x : Int32} {m0 : Nat} {A : Nat → Nat} {th : Int32} {F R nb : Nat} {pl co dr wi hi fa : Nat → UInt64} {un bu fc lo la : Nat → Int32} {px py pz : UInt64} (hY : xRef G ty m0 A th F R pl un co dr bu nb wi hi fc fa lo la px py pz H) (hZ : xSz F R) : xMet l yX7_noStrip wsX7_noStrip rm_X7_noStrip G ty b0 [.ref m0, .int (x)] H (fun v H1 => H = H1 ∧ v = some (.int (xP (¬ vp_in x (R - 1))))) (fun _ _ => False) := by
  refine xbody (cc := cX7_noStrip) (maxL := 2) (ret := (some .boolean)) (C := RX7) (lv := [(0, .ref m0), (1, .int (x))]) (by decide) rfl rfl (Nat.le_of_ble_eq_true rfl) rfl ?_
  intro p e s m below meth c d0 hx hb hr hts hown hlocks hml hxt hnm0 hK hb0 hH0 hS hd0 ls hl
  obtain ⟨y_o, y_0, y_1, y_2, y_3, y_4, y_5, y_6, y_7, y_8, y_9, y_10⟩ := id hY
  obtain ⟨⟨zF2, zF8⟩, ⟨zR2, zR8⟩⟩ := id hZ
  refine lv_iload_n hx hb dX7_noStrip_0 rfl (lv_at hl 1 rfl) ?_
  refine lv_if_lt (tgt := 14) hx hb dX7_noStrip_1 (by decide) (fun c_1 => ?_) (fun c_1 => ?_)
  · refine lv_iconst (v := nI 1) hx hb dX7_noStrip_14 (by decide) ?_
    refine lv_goto (tgt := 19) hx hb dX7_noStrip_15 (by decide) ?_
    exact xzret (by decide) hd0 hx hb hr hlocks hS (Nat.le_of_ble_eq_true rfl) (Nat.le_of_ble_eq_true rfl) dX7_noStrip_19 ⟨rfl, by first | exact xz1 (fun h => xin_no0 (by assumption) h) | exact xz1 (xstr_no (by assumption) (by omega)) | exact xz0 (fun h => h (xstr_of (by assumption) (by assumption) (by omega)))⟩
  · refine lv_iload_n hx hb dX7_noStrip_4 rfl (lv_at hl 1 rfl) ?_
    refine lv_aload_n hx hb dX7_noStrip_5 rfl (lv_at hl 0 rfl) ?_
    refine va_get (D := G) (cl := vwCl) (ci := 8) (v := .int (nI R)) (C := RX7) (T := TX7) (N := 18) hx hb (hts _) in_X7_noStrip_X7 hown hK.1 (x1 y_o) 0 rfl rfl 2 (by decide) (hts _ _ hw_X7_noStrip_1) (fun _ h9 => h9) rfl dX7_noStrip_6 ?_
    refine lv_iconst (v := nI 2) hx hb dX7_noStrip_9 (by decide) ?_
    refine xisubN hx hb (by omega) dX7_noStrip_10 ?_
    refine lv_icmp_le (tgt := 18) hx hb dX7_noStrip_11 (by decide) (fun c_2 => ?_) (fun c_2 => ?_)
    · refine lv_iconst (v := nI 0) hx hb dX7_noStrip_18 (by decide) ?_
      exact xzret (by decide) hd0 hx hb hr hlocks hS (Nat.le_of_ble_eq_true rfl) (Nat.le_of_ble_eq_true rfl) dX7_noStrip_19 ⟨rfl, by first | exact xz1 (fun h => xin_no0 (by assumption) h) | exact xz1 (xstr_no (by assumption) (by omega)) | exact xz0 (fun h => h (xstr_of (by assumption) (by assumption) (by omega)))⟩
    · refine lv_iconst (v := nI 1) hx hb dX7_noStrip_14 (by decide) ?_
      refine lv_goto (tgt := 19) hx hb dX7_noStrip_15 (by decide) ?_
      exact xzret (by decide) hd0 hx hb hr hlocks hS (Nat.le_of_ble_eq_true rfl) (Nat.le_of_ble_eq_true rfl) dX7_noStrip_19 ⟨rfl, by first | exact xz1 (fun h => xin_no0 (by assumption) h) | exact xz1 (xstr_no (by assumption) (by omega)) | exact xz0 (fun h => h (xstr_of (by assumption) (by assumption) (by omega)))⟩
theorem dX7_at_0 : decode cX7_at 0 = .ok (.aload_n 0, 1) := by decide +kernel
theorem dX7_at_1 : decode cX7_at 1 = .ok (.getfield 7, 3) := by decide +kernel
theorem dX7_at_4 : decode cX7_at 4 = .ok (.iconst 3, 1) := by decide +kernel
theorem dX7_at_5 : decode cX7_at 5 = .ok (.bipush 8, 2) := by decide +kernel
theorem dX7_at_7 : decode cX7_at 7 = .ok (.iload_n 1, 1) := by decide +kernel
theorem dX7_at_8 : decode cX7_at 8 = .ok (.imul, 1) := by decide +kernel
theorem dX7_at_9 : decode cX7_at 9 = .ok (.iload_n 2, 1) := by decide +kernel
theorem dX7_at_10 : decode cX7_at 10 = .ok (.iadd, 1) := by decide +kernel
theorem dX7_at_11 : decode cX7_at 11 = .ok (.imul, 1) := by decide +kernel
theorem dX7_at_12 : decode cX7_at 12 = .ok (.iload_n 3, 1) := by decide +kernel
theorem dX7_at_13 : decode cX7_at 13 = .ok (.iadd, 1) := by decide +kernel
theorem dX7_at_14 : decode cX7_at 14 = .ok (.daload, 1) := by decide +kernel
theorem dX7_at_15 : decode cX7_at 15 = .ok (.dreturn, 1) := by decide +kernel
abbrev rm_X7_at : Room := { frames := 5, cells := 0, slots := 0, locals := 40 }
theorem hw_X7_at_1 : (Cond.fieldLink RX7 7 "PlankUnrollModel" "places" "[D") ∈ wsX7_at := List.mem_of_getElem? (i := 1) rfl
theorem in_X7_at_X7 : ∀ w ∈ wsX70, w ∈ wsX7_at := by decide +kernel
set_option maxHeartbeats 4000000 in
set_option maxRecDepth 100000 in
/-- a number of a place -/
theorem c_X7_at {l : Launch} {G : va_G} {ty : Nat → ClassId} {b0 : Nat} {H : Heap} {f r k : Nat} (hf : f < 8) (hr9 : r < 8) (hk : k < 3) {m0 : Nat} {A : Nat → Nat} {th : Int32} {F R nb : Nat} {pl co dr wi hi fa : Nat → UInt64} {un bu fc lo la : Nat → Int32} {px py pz : UInt64} (hY : xRef G ty m0 A th F R pl un co dr bu nb wi hi fc fa lo la px py pz H) (hZ : xSz F R) : xMet l yX7_at wsX7_at rm_X7_at G ty b0 [.ref m0, .int (nI f), .int (nI r), .int (nI k)] H (fun v H1 => H = H1 ∧ v = some (.double (pAt pl f r k))) (fun _ _ => False) := by
  refine xbody (cc := cX7_at) (maxL := 4) (ret := (some .double)) (C := RX7) (lv := [(0, .ref m0), (1, .int (nI f)), (2, .int (nI r)), (3, .int (nI k))]) (by decide) rfl rfl (Nat.le_of_ble_eq_true rfl) rfl ?_
  intro p e s m below meth c d0 hx hb hr hts hown hlocks hml hxt hnm0 hK hb0 hH0 hS hd0 ls hl
  obtain ⟨y_o, y_0, y_1, y_2, y_3, y_4, y_5, y_6, y_7, y_8, y_9, y_10⟩ := id hY
  obtain ⟨⟨zF2, zF8⟩, ⟨zR2, zR8⟩⟩ := id hZ
  refine lv_aload_n hx hb dX7_at_0 rfl (lv_at hl 0 rfl) ?_
  refine va_get (D := G) (cl := vwCl) (ci := 8) (v := .ref (A 0)) (C := RX7) (T := TX7) (N := 18) hx hb (hts _) in_X7_at_X7 hown hK.1 (x1 y_o) 0 rfl rfl 3 (by decide) (hts _ _ hw_X7_at_1) (fun _ h9 => h9) rfl dX7_at_1 ?_
  refine lv_iconst (v := nI 3) hx hb dX7_at_4 (by decide) ?_
  refine lv_bipush (v := nI 8) hx hb dX7_at_5 (by decide) ?_
  refine lv_iload_n hx hb dX7_at_7 rfl (lv_at hl 1 rfl) ?_
  refine ximulN hx hb dX7_at_8 ?_
  refine lv_iload_n hx hb dX7_at_9 rfl (lv_at hl 2 rfl) ?_
  refine xiaddN hx hb dX7_at_10 ?_
  refine ximulN hx hb dX7_at_11 ?_
  refine lv_iload_n hx hb dX7_at_12 rfl (lv_at hl 3 rfl) ?_
  refine xiaddN hx hb dX7_at_13 ?_
  refine xdald (j := (3 * ((8 * f) + r)) + k) hx hb hK.1 0 y_0 rfl (xix_of (by omega) (by omega)) dX7_at_14 ?_
  exact xdret hd0 hx hb hr hlocks hS (Nat.le_of_ble_eq_true rfl) (Nat.le_of_ble_eq_true rfl) dX7_at_15 ⟨rfl, rfl⟩
set_option maxRecDepth 20000 in
theorem ggX7_far_X7_at : GoodIn wsX7_far wsX7_at := goodIn_r _ [5, 6, 11, 12, 13, 14, 15, 16, 17, 18, 19, 20, 21, 22, 23, 24, 25, 26, 27, 28] (by decide +kernel) (by decide +kernel)
set_option maxRecDepth 20000 in
theorem gX7_far_X7_at : GoodIn wsX7_far (wsV RX7 69 RX7 yX7_at wsX7_at) := goodIn_app (goodIn_of _ (by decide +kernel)) ggX7_far_X7_at
set_option maxRecDepth 20000 in
theorem ggX7_far_X7_root : GoodIn wsX7_far wsX7_root := goodIn_r _ [9, 10] (by decide +kernel) (by decide +kernel)
set_option maxRecDepth 20000 in
theorem gX7_far_X7_root : GoodIn wsX7_far (va_wsS RX7 73 yX7_root wsX7_root) := goodIn_app (goodIn_of _ (by decide +kernel)) ggX7_far_X7_root
theorem dX7_far_0 : decode cX7_far 0 = .ok (.aload_n 0, 1) := by decide +kernel
theorem dX7_far_1 : decode cX7_far 1 = .ok (.iload_n 3, 1) := by decide +kernel
theorem dX7_far_2 : decode cX7_far 2 = .ok (.iload 4, 2) := by decide +kernel
theorem dX7_far_4 : decode cX7_far 4 = .ok (.iconst 0, 1) := by decide +kernel
theorem dX7_far_5 : decode cX7_far 5 = .ok (.invokevirtual 69, 3) := by decide +kernel
theorem dX7_far_8 : decode cX7_far 8 = .ok (.aload_n 0, 1) := by decide +kernel
theorem dX7_far_9 : decode cX7_far 9 = .ok (.iload_n 1, 1) := by decide +kernel
theorem dX7_far_10 : decode cX7_far 10 = .ok (.iload_n 2, 1) := by decide +kernel
theorem dX7_far_11 : decode cX7_far 11 = .ok (.iconst 0, 1) := by decide +kernel
theorem dX7_far_12 : decode cX7_far 12 = .ok (.invokevirtual 69, 3) := by decide +kernel
theorem dX7_far_15 : decode cX7_far 15 = .ok (.dsub, 1) := by decide +kernel
theorem dX7_far_16 : decode cX7_far 16 = .ok (.dstore 5, 2) := by decide +kernel
theorem dX7_far_18 : decode cX7_far 18 = .ok (.aload_n 0, 1) := by decide +kernel
theorem dX7_far_19 : decode cX7_far 19 = .ok (.iload_n 3, 1) := by decide +kernel
theorem dX7_far_20 : decode cX7_far 20 = .ok (.iload 4, 2) := by decide +kernel
theorem dX7_far_22 : decode cX7_far 22 = .ok (.iconst 1, 1) := by decide +kernel
theorem dX7_far_23 : decode cX7_far 23 = .ok (.invokevirtual 69, 3) := by decide +kernel
theorem dX7_far_26 : decode cX7_far 26 = .ok (.aload_n 0, 1) := by decide +kernel
theorem dX7_far_27 : decode cX7_far 27 = .ok (.iload_n 1, 1) := by decide +kernel
theorem dX7_far_28 : decode cX7_far 28 = .ok (.iload_n 2, 1) := by decide +kernel
theorem dX7_far_29 : decode cX7_far 29 = .ok (.iconst 1, 1) := by decide +kernel
theorem dX7_far_30 : decode cX7_far 30 = .ok (.invokevirtual 69, 3) := by decide +kernel
theorem dX7_far_33 : decode cX7_far 33 = .ok (.dsub, 1) := by decide +kernel
theorem dX7_far_34 : decode cX7_far 34 = .ok (.dstore 7, 2) := by decide +kernel
theorem dX7_far_36 : decode cX7_far 36 = .ok (.aload_n 0, 1) := by decide +kernel
theorem dX7_far_37 : decode cX7_far 37 = .ok (.iload_n 3, 1) := by decide +kernel
theorem dX7_far_38 : decode cX7_far 38 = .ok (.iload 4, 2) := by decide +kernel
theorem dX7_far_40 : decode cX7_far 40 = .ok (.iconst 2, 1) := by decide +kernel
theorem dX7_far_41 : decode cX7_far 41 = .ok (.invokevirtual 69, 3) := by decide +kernel
theorem dX7_far_44 : decode cX7_far 44 = .ok (.aload_n 0, 1) := by decide +kernel
theorem dX7_far_45 : decode cX7_far 45 = .ok (.iload_n 1, 1) := by decide +kernel
theorem dX7_far_46 : decode cX7_far 46 = .ok (.iload_n 2, 1) := by decide +kernel
theorem dX7_far_47 : decode cX7_far 47 = .ok (.iconst 2, 1) := by decide +kernel
theorem dX7_far_48 : decode cX7_far 48 = .ok (.invokevirtual 69, 3) := by decide +kernel
theorem dX7_far_51 : decode cX7_far 51 = .ok (.dsub, 1) := by decide +kernel
theorem dX7_far_52 : decode cX7_far 52 = .ok (.dstore 9, 2) := by decide +kernel
theorem dX7_far_54 : decode cX7_far 54 = .ok (.dload 5, 2) := by decide +kernel
theorem dX7_far_56 : decode cX7_far 56 = .ok (.dload 5, 2) := by decide +kernel
theorem dX7_far_58 : decode cX7_far 58 = .ok (.dmul, 1) := by decide +kernel
theorem dX7_far_59 : decode cX7_far 59 = .ok (.dload 7, 2) := by decide +kernel
theorem dX7_far_61 : decode cX7_far 61 = .ok (.dload 7, 2) := by decide +kernel
theorem dX7_far_63 : decode cX7_far 63 = .ok (.dmul, 1) := by decide +kernel
theorem dX7_far_64 : decode cX7_far 64 = .ok (.dadd, 1) := by decide +kernel
theorem dX7_far_65 : decode cX7_far 65 = .ok (.dload 9, 2) := by decide +kernel
theorem dX7_far_67 : decode cX7_far 67 = .ok (.dload 9, 2) := by decide +kernel
theorem dX7_far_69 : decode cX7_far 69 = .ok (.dmul, 1) := by decide +kernel
theorem dX7_far_70 : decode cX7_far 70 = .ok (.dadd, 1) := by decide +kernel
theorem dX7_far_71 : decode cX7_far 71 = .ok (.invokestatic 73, 3) := by decide +kernel
theorem dX7_far_74 : decode cX7_far 74 = .ok (.dreturn, 1) := by decide +kernel
abbrev rm_X7_far : Room := { frames := 6, cells := 0, slots := 0, locals := 90 }
set_option maxHeartbeats 4000000 in
set_option maxRecDepth 100000 in
/-- DISTANCE of two places -/
theorem c_X7_far {l : Launch} {G : va_G} {ty : Nat → ClassId} {b0 : Nat} {H : Heap} {f r g q : Nat} (hf : f < 8) (hr9 : r < 8) (hg : g < 8) (hq : q < 8) {m0 : Nat} {A : Nat → Nat} {th : Int32} {F R nb : Nat} {pl co dr wi hi fa : Nat → UInt64} {un bu fc lo la : Nat → Int32} {px py pz : UInt64} (hY : xRef G ty m0 A th F R pl un co dr bu nb wi hi fc fa lo la px py pz H) (hZ : xSz F R) : xMet l yX7_far wsX7_far rm_X7_far G ty b0 [.ref m0, .int (nI f), .int (nI r), .int (nI g), .int (nI q)] H (fun v H1 => H = H1 ∧ ∃ z9 : UInt64, v = some (.double z9) ∧ vq z9 (pFar pl f r g q)) (fun _ _ => False) := by
  refine xbody (cc := cX7_far) (maxL := 11) (ret := (some .double)) (C := RX7) (lv := [(0, .ref m0), (1, .int (nI f)), (2, .int (nI r)), (3, .int (nI g)), (4, .int (nI q))]) (by decide) rfl rfl (Nat.le_of_ble_eq_true rfl) rfl ?_
  intro p e s m below meth c d0 hx hb hr hts hown hlocks hml hxt hnm0 hK hb0 hH0 hS hd0 ls hl
  obtain ⟨y_o, y_0, y_1, y_2, y_3, y_4, y_5, y_6, y_7, y_8, y_9, y_10⟩ := id hY
  obtain ⟨⟨zF2, zF8⟩, ⟨zR2, zR8⟩⟩ := id hZ
  refine lv_aload_n hx hb dX7_far_0 rfl (lv_at hl 0 rfl) ?_
  refine lv_iload_n hx hb dX7_far_1 rfl (lv_at hl 3 rfl) ?_
  refine lv_iload hx hb dX7_far_2 (lv_at hl 4 rfl) ?_
  refine lv_iconst (v := nI 0) hx hb dX7_far_4 (by decide) ?_
  have cw_1 := cwV (R := rm_X7_far) (rm := rm_X7_at) 3 (hts d0) gX7_far_X7_at rfl rfl rfl (by decide +kernel) ⟨Nat.le_of_ble_eq_true rfl, Nat.le_of_ble_eq_true rfl⟩
  refine xcall hd0 (xintoV (b := m0) (As := [.int (nI g), .int (nI q), .int (nI 0)]) (rest := []) ⟨hx, hb, hml, hown, hts _⟩ cw_1 (va_recv hK.1 (x1 y_o) (ci := 8) (q0 := 0) rfl rfl) rfl rfl hl.1 rfl (lv_room (Nat.le_of_ble_eq_true rfl)) dX7_far_5) (c_X7_at (l := l) (G := G) (ty := ty) (b0 := b0) (f := g) (r := q) (k := 0) (by omega) (by omega) (by omega) hY hZ) (xoweB cw_1.1) hK hb0 hS (Nat.le_of_ble_eq_true rfl) (Nat.le_of_ble_eq_true rfl) (fun E_1 ce_1 q9_1 H_1 locs_1 d0 hd0 hp_1 hS hce_1 hcv_1 hcl_1 => ?_) (fun v_1 H_1 locs_1 d0 hd0 hp_1 hS => ?_)
  · exact hp_1.elim
  · obtain ⟨rfl, rfl⟩ := hp_1
    show W p l e _ (s.setDrawn _) m _ below meth c _ _ _ _ _ (F0 m 8 ls [.double (pAt pl g q 0)])
    refine lv_aload_n hx hb dX7_far_8 rfl (lv_at hl 0 rfl) ?_
    refine lv_iload_n hx hb dX7_far_9 rfl (lv_at hl 1 rfl) ?_
    refine lv_iload_n hx hb dX7_far_10 rfl (lv_at hl 2 rfl) ?_
    refine lv_iconst (v := nI 0) hx hb dX7_far_11 (by decide) ?_
    have cw_2 := cwV (R := rm_X7_far) (rm := rm_X7_at) 3 (hts d0) gX7_far_X7_at rfl rfl rfl (by decide +kernel) ⟨Nat.le_of_ble_eq_true rfl, Nat.le_of_ble_eq_true rfl⟩
    refine xcall hd0 (xintoV (b := m0) (As := [.int (nI f), .int (nI r), .int (nI 0)]) (rest := [.double (pAt pl g q 0)]) ⟨hx, hb, hml, hown, hts _⟩ cw_2 (va_recv hK.1 (x1 y_o) (ci := 8) (q0 := 0) rfl rfl) rfl rfl hl.1 rfl (lv_room (Nat.le_of_ble_eq_true rfl)) dX7_far_12) (c_X7_at (l := l) (G := G) (ty := ty) (b0 := b0) (f := f) (r := r) (k := 0) (by omega) (by omega) (by omega) hY hZ) (xoweB cw_2.1) hK hb0 hS (Nat.le_of_ble_eq_true rfl) (Nat.le_of_ble_eq_true rfl) (fun E_2 ce_2 q9_2 H_2 locs_2 d0 hd0 hp_2 hS hce_2 hcv_2 hcl_2 => ?_) (fun v_2 H_2 locs_2 d0 hd0 hp_2 hS => ?_)
    · exact hp_2.elim
    · obtain ⟨rfl, rfl⟩ := hp_2
      show W p l e _ (s.setDrawn _) m _ below meth c _ _ _ _ _ (F0 m 15 ls [.double (pAt pl f r 0), .double (pAt pl g q 0)])
      refine xdsub hd0 hx hb (vq_rf _) (vq_rf _) dX7_far_15 (fun r_3 d0 q_3 hd0 => ?_)
      refine lv_dstore (lv' := [(5, .double r_3), (0, .ref m0), (1, .int (nI f)), (2, .int (nI r)), (3, .int (nI g)), (4, .int (nI q))]) hx hb dX7_far_16 hl (by decide) rfl (fun ls hl => ?_)
      refine lv_aload_n hx hb dX7_far_18 rfl (lv_at hl 1 rfl) ?_
      refine lv_iload_n hx hb dX7_far_19 rfl (lv_at hl 4 rfl) ?_
      refine lv_iload hx hb dX7_far_20 (lv_at hl 5 rfl) ?_
      refine lv_iconst (v := nI 1) hx hb dX7_far_22 (by decide) ?_
      have cw_4 := cwV (R := rm_X7_far) (rm := rm_X7_at) 3 (hts d0) gX7_far_X7_at rfl rfl rfl (by decide +kernel) ⟨Nat.le_of_ble_eq_true rfl, Nat.le_of_ble_eq_true rfl⟩
      refine xcall hd0 (xintoV (b := m0) (As := [.int (nI g), .int (nI q), .int (nI 1)]) (rest := []) ⟨hx, hb, hml, hown, hts _⟩ cw_4 (va_recv hK.1 (x1 y_o) (ci := 8) (q0 := 0) rfl rfl) rfl rfl hl.1 rfl (lv_room (Nat.le_of_ble_eq_true rfl)) dX7_far_23) (c_X7_at (l := l) (G := G) (ty := ty) (b0 := b0) (f := g) (r := q) (k := 1) (by omega) (by omega) (by omega) hY hZ) (xoweB cw_4.1) hK hb0 hS (Nat.le_of_ble_eq_true rfl) (Nat.le_of_ble_eq_true rfl) (fun E_4 ce_4 q9_4 H_4 locs_4 d0 hd0 hp_4 hS hce_4 hcv_4 hcl_4 => ?_) (fun v_4 H_4 locs_4 d0 hd0 hp_4 hS => ?_)
      · exact hp_4.elim
      · obtain ⟨rfl, rfl⟩ := hp_4
        show W p l e _ (s.setDrawn _) m _ below meth c _ _ _ _ _ (F0 m 26 ls [.double (pAt pl g q 1)])
        refine lv_aload_n hx hb dX7_far_26 rfl (lv_at hl 1 rfl) ?_
        refine lv_iload_n hx hb dX7_far_27 rfl (lv_at hl 2 rfl) ?_
        refine lv_iload_n hx hb dX7_far_28 rfl (lv_at hl 3 rfl) ?_
        refine lv_iconst (v := nI 1) hx hb dX7_far_29 (by decide) ?_
        have cw_5 := cwV (R := rm_X7_far) (rm := rm_X7_at) 3 (hts d0) gX7_far_X7_at rfl rfl rfl (by decide +kernel) ⟨Nat.le_of_ble_eq_true rfl, Nat.le_of_ble_eq_true rfl⟩
        refine xcall hd0 (xintoV (b := m0) (As := [.int (nI f), .int (nI r), .int (nI 1)]) (rest := [.double (pAt pl g q 1)]) ⟨hx, hb, hml, hown, hts _⟩ cw_5 (va_recv hK.1 (x1 y_o) (ci := 8) (q0 := 0) rfl rfl) rfl rfl hl.1 rfl (lv_room (Nat.le_of_ble_eq_true rfl)) dX7_far_30) (c_X7_at (l := l) (G := G) (ty := ty) (b0 := b0) (f := f) (r := r) (k := 1) (by omega) (by omega) (by omega) hY hZ) (xoweB cw_5.1) hK hb0 hS (Nat.le_of_ble_eq_true rfl) (Nat.le_of_ble_eq_true rfl) (fun E_5 ce_5 q9_5 H_5 locs_5 d0 hd0 hp_5 hS hce_5 hcv_5 hcl_5 => ?_) (fun v_5 H_5 locs_5 d0 hd0 hp_5 hS => ?_)
        · exact hp_5.elim
        · obtain ⟨rfl, rfl⟩ := hp_5
          show W p l e _ (s.setDrawn _) m _ below meth c _ _ _ _ _ (F0 m 33 ls [.double (pAt pl f r 1), .double (pAt pl g q 1)])
          refine xdsub hd0 hx hb (vq_rf _) (vq_rf _) dX7_far_33 (fun r_6 d0 q_6 hd0 => ?_)
          refine lv_dstore (lv' := [(7, .double r_6), (5, .double r_3), (0, .ref m0), (1, .int (nI f)), (2, .int (nI r)), (3, .int (nI g)), (4, .int (nI q))]) hx hb dX7_far_34 hl (by decide) rfl (fun ls hl => ?_)
          refine lv_aload_n hx hb dX7_far_36 rfl (lv_at hl 2 rfl) ?_
          refine lv_iload_n hx hb dX7_far_37 rfl (lv_at hl 5 rfl) ?_
          refine lv_iload hx hb dX7_far_38 (lv_at hl 6 rfl) ?_
          refine lv_iconst (v := nI 2) hx hb dX7_far_40 (by decide) ?_
          have cw_7 := cwV (R := rm_X7_far) (rm := rm_X7_at) 3 (hts d0) gX7_far_X7_at rfl rfl rfl (by decide +kernel) ⟨Nat.le_of_ble_eq_true rfl, Nat.le_of_ble_eq_true rfl⟩
          refine xcall hd0 (xintoV (b := m0) (As := [.int (nI g), .int (nI q), .int (nI 2)]) (rest := []) ⟨hx, hb, hml, hown, hts _⟩ cw_7 (va_recv hK.1 (x1 y_o) (ci := 8) (q0 := 0) rfl rfl) rfl rfl hl.1 rfl (lv_room (Nat.le_of_ble_eq_true rfl)) dX7_far_41) (c_X7_at (l := l) (G := G) (ty := ty) (b0 := b0) (f := g) (r := q) (k := 2) (by omega) (by omega) (by omega) hY hZ) (xoweB cw_7.1) hK hb0 hS (Nat.le_of_ble_eq_true rfl) (Nat.le_of_ble_eq_true rfl) (fun E_7 ce_7 q9_7 H_7 locs_7 d0 hd0 hp_7 hS hce_7 hcv_7 hcl_7 => ?_) (fun v_7 H_7 locs_7 d0 hd0 hp_7 hS => ?_)
          · exact hp_7.elim
          · obtain ⟨rfl, rfl⟩ := hp_7
            show W p l e _ (s.setDrawn _) m _ below meth c _ _ _ _ _ (F0 m 44 ls [.double (pAt pl g q 2)])
            refine lv_aload_n hx hb dX7_far_44 rfl (lv_at hl 2 rfl) ?_
            refine lv_iload_n hx hb dX7_far_45 rfl (lv_at hl 3 rfl) ?_
            refine lv_iload_n hx hb dX7_far_46 rfl (lv_at hl 4 rfl) ?_
            refine lv_iconst (v := nI 2) hx hb dX7_far_47 (by decide) ?_
            have cw_8 := cwV (R := rm_X7_far) (rm := rm_X7_at) 3 (hts d0) gX7_far_X7_at rfl rfl rfl (by decide +kernel) ⟨Nat.le_of_ble_eq_true rfl, Nat.le_of_ble_eq_true rfl⟩
            refine xcall hd0 (xintoV (b := m0) (As := [.int (nI f), .int (nI r), .int (nI 2)]) (rest := [.double (pAt pl g q 2)]) ⟨hx, hb, hml, hown, hts _⟩ cw_8 (va_recv hK.1 (x1 y_o) (ci := 8) (q0 := 0) rfl rfl) rfl rfl hl.1 rfl (lv_room (Nat.le_of_ble_eq_true rfl)) dX7_far_48) (c_X7_at (l := l) (G := G) (ty := ty) (b0 := b0) (f := f) (r := r) (k := 2) (by omega) (by omega) (by omega) hY hZ) (xoweB cw_8.1) hK hb0 hS (Nat.le_of_ble_eq_true rfl) (Nat.le_of_ble_eq_true rfl) (fun E_8 ce_8 q9_8 H_8 locs_8 d0 hd0 hp_8 hS hce_8 hcv_8 hcl_8 => ?_) (fun v_8 H_8 locs_8 d0 hd0 hp_8 hS => ?_)
            · exact hp_8.elim
            · obtain ⟨rfl, rfl⟩ := hp_8
              show W p l e _ (s.setDrawn _) m _ below meth c _ _ _ _ _ (F0 m 51 ls [.double (pAt pl f r 2), .double (pAt pl g q 2)])
              refine xdsub hd0 hx hb (vq_rf _) (vq_rf _) dX7_far_51 (fun r_9 d0 q_9 hd0 => ?_)
              refine lv_dstore (lv' := [(9, .double r_9), (7, .double r_6), (5, .double r_3), (0, .ref m0), (1, .int (nI f)), (2, .int (nI r)), (3, .int (nI g)), (4, .int (nI q))]) hx hb dX7_far_52 hl (by decide) rfl (fun ls hl => ?_)
              refine lv_dload hx hb dX7_far_54 (lv_at hl 2 rfl) ?_
              refine lv_dload hx hb dX7_far_56 (lv_at hl 2 rfl) ?_
              refine xdmul hd0 hx hb q_3 q_3 dX7_far_58 (fun r_10 d0 q_10 hd0 => ?_)
              refine lv_dload hx hb dX7_far_59 (lv_at hl 1 rfl) ?_
              refine lv_dload hx hb dX7_far_61 (lv_at hl 1 rfl) ?_
              refine xdmul hd0 hx hb q_6 q_6 dX7_far_63 (fun r_11 d0 q_11 hd0 => ?_)
              refine xdadd hd0 hx hb q_10 q_11 dX7_far_64 (fun r_12 d0 q_12 hd0 => ?_)
              refine lv_dload hx hb dX7_far_65 (lv_at hl 0 rfl) ?_
              refine lv_dload hx hb dX7_far_67 (lv_at hl 0 rfl) ?_
              refine xdmul hd0 hx hb q_9 q_9 dX7_far_69 (fun r_13 d0 q_13 hd0 => ?_)
              refine xdadd hd0 hx hb q_12 q_13 dX7_far_70 (fun r_14 d0 q_14 hd0 => ?_)
              have cw_15 := va_cwS (R := rm_X7_far) (rm := rm_X7_root) 1 (hts d0) gX7_far_X7_root rfl rfl rfl (by decide +kernel) ⟨Nat.le_of_ble_eq_true rfl, Nat.le_of_ble_eq_true rfl⟩
              refine xcall hd0 (xintoS (As := [.double r_14]) (rest := []) ⟨hx, hb, hml, hown, hts _⟩ cw_15 rfl rfl hl.1 rfl (lv_room (Nat.le_of_ble_eq_true rfl)) dX7_far_71) (c_X7_root (l := l) (G := G) (ty := ty) (b0 := b0) q_14) (xoweB cw_15.1) hK hb0 hS (Nat.le_of_ble_eq_true rfl) (Nat.le_of_ble_eq_true rfl) (fun E_15 ce_15 q9_15 H_15 locs_15 d0 hd0 hp_15 hS hce_15 hcv_15 hcl_15 => ?_) (fun v_15 H_15 locs_15 d0 hd0 hp_15 hS => ?_)
              · exact hp_15.elim
              · obtain ⟨rfl, r_15, rfl, q_15⟩ := hp_15
                show W p l e _ (s.setDrawn _) m _ below meth c _ _ _ _ _ (F0 m 74 ls [.double r_15])
                exact xdret hd0 hx hb hr hlocks hS (Nat.le_of_ble_eq_true rfl) (Nat.le_of_ble_eq_true rfl) dX7_far_74 ⟨rfl, _, rfl, q_15⟩
set_option maxRecDepth 20000 in
theorem ggX7_noCell_X7_noStrip : GoodIn wsX7_noCell wsX7_noStrip := goodIn_r _ [6, 7, 8, 9, 10, 11, 12, 13, 14, 15, 16, 17, 18, 19, 20, 21, 22, 23, 24, 25] (by decide +kernel) (by decide +kernel)
set_option maxRecDepth 20000 in
theorem gX7_noCell_X7_noStrip : GoodIn wsX7_noCell (wsV RX7 87 RX7 yX7_noStrip wsX7_noStrip) := goodIn_app (goodIn_of _ (by decide +kernel)) ggX7_noCell_X7_noStrip
theorem dX7_noCell_0 : decode cX7_noCell 0 = .ok (.aload_n 0, 1) := by decide +kernel
theorem dX7_noCell_1 : decode cX7_noCell 1 = .ok (.iload_n 1, 1) := by decide +kernel
theorem dX7_noCell_2 : decode cX7_noCell 2 = .ok (.invokevirtual 87, 3) := by decide +kernel
theorem dX7_noCell_5 : decode cX7_noCell 5 = .ok (.ifCond .ne 17, 3) := by decide +kernel
theorem dX7_noCell_8 : decode cX7_noCell 8 = .ok (.iload_n 2, 1) := by decide +kernel
theorem dX7_noCell_9 : decode cX7_noCell 9 = .ok (.ifCond .lt 13, 3) := by decide +kernel
theorem dX7_noCell_12 : decode cX7_noCell 12 = .ok (.iload_n 2, 1) := by decide +kernel
theorem dX7_noCell_13 : decode cX7_noCell 13 = .ok (.aload_n 0, 1) := by decide +kernel
theorem dX7_noCell_14 : decode cX7_noCell 14 = .ok (.getfield 45, 3) := by decide +kernel
theorem dX7_noCell_17 : decode cX7_noCell 17 = .ok (.iconst 2, 1) := by decide +kernel
theorem dX7_noCell_18 : decode cX7_noCell 18 = .ok (.isub, 1) := by decide +kernel
theorem dX7_noCell_19 : decode cX7_noCell 19 = .ok (.if_icmp .le 7, 3) := by decide +kernel
theorem dX7_noCell_22 : decode cX7_noCell 22 = .ok (.iconst 1, 1) := by decide +kernel
theorem dX7_noCell_23 : decode cX7_noCell 23 = .ok (.goto 4, 3) := by decide +kernel
theorem dX7_noCell_26 : decode cX7_noCell 26 = .ok (.iconst 0, 1) := by decide +kernel
theorem dX7_noCell_27 : decode cX7_noCell 27 = .ok (.ireturn, 1) := by decide +kernel
abbrev rm_X7_noCell : Room := { frames := 6, cells := 0, slots := 0, locals := 90 }
theorem hw_X7_noCell_1 : (Cond.fieldLink RX7 45 "PlankUnrollModel" "frames" "I") ∈ wsX7_noCell := List.mem_of_getElem? (i := 1) rfl
theorem in_X7_noCell_X7 : ∀ w ∈ wsX70, w ∈ wsX7_noCell := by decide +kernel
set_option maxHeartbeats 4000000 in
set_option maxRecDepth 100000 in
/-- no such cell -/
theorem c_X7_noCell {l : Launch} {G : va_G} {ty : Nat → ClassId} {b0 : Nat} {H : Heap} {x f : Int32} {m0 : Nat} {A : Nat → Nat} {th : Int32} {F R nb : Nat} {pl co dr wi hi fa : Nat → UInt64} {un bu fc lo la : Nat → Int32} {px py pz : UInt64} (hY : xRef G ty m0 A th F R pl un co dr bu nb wi hi fc fa lo la px py pz H) (hZ : xSz F R) : xMet l yX7_noCell wsX7_noCell rm_X7_noCell G ty b0 [.ref m0, .int (x), .int (f)] H (fun v H1 => H = H1 ∧ v = some (.int (xP (¬ (vp_in x (R - 1) ∧ vp_in f (F - 1)))))) (fun _ _ => False) := by
  refine xbody (cc := cX7_noCell) (maxL := 3) (ret := (some .boolean)) (C := RX7) (lv := [(0, .ref m0), (1, .int (x)), (2, .int (f))]) (by decide) rfl rfl (Nat.le_of_ble_eq_true rfl) rfl ?_
  intro p e s m below meth c d0 hx hb hr hts hown hlocks hml hxt hnm0 hK hb0 hH0 hS hd0 ls hl
  obtain ⟨y_o, y_0, y_1, y_2, y_3, y_4, y_5, y_6, y_7, y_8, y_9, y_10⟩ := id hY
  obtain ⟨⟨zF2, zF8⟩, ⟨zR2, zR8⟩⟩ := id hZ
  refine lv_aload_n hx hb dX7_noCell_0 rfl (lv_at hl 0 rfl) ?_
  refine lv_iload_n hx hb dX7_noCell_1 rfl (lv_at hl 1 rfl) ?_
  have cw_1 := cwV (R := rm_X7_noCell) (rm := rm_X7_noStrip) 1 (hts d0) gX7_noCell_X7_noStrip rfl rfl rfl (by decide +kernel) ⟨Nat.le_of_ble_eq_true rfl, Nat.le_of_ble_eq_true rfl⟩
  refine xcall hd0 (xintoV (b := m0) (As := [.int (x)]) (rest := []) ⟨hx, hb, hml, hown, hts _⟩ cw_1 (va_recv hK.1 (x1 y_o) (ci := 8) (q0 := 0) rfl rfl) rfl rfl hl.1 rfl (lv_room (Nat.le_of_ble_eq_true rfl)) dX7_noCell_2) (c_X7_noStrip (l := l) (G := G) (ty := ty) (b0 := b0) hY hZ) (xoweB cw_1.1) hK hb0 hS (Nat.le_of_ble_eq_true rfl) (Nat.le_of_ble_eq_true rfl) (fun E_1 ce_1 q9_1 H_1 locs_1 d0 hd0 hp_1 hS hce_1 hcv_1 hcl_1 => ?_) (fun v_1 H_1 locs_1 d0 hd0 hp_1 hS => ?_)
  · exact hp_1.elim
  · obtain ⟨rfl, rfl⟩ := hp_1
    show W p l e _ (s.setDrawn _) m _ below meth c _ _ _ _ _ (F0 m 5 ls [.int (xP (¬ vp_in x (R - 1)))])
    refine lv_if_ne (tgt := 22) hx hb dX7_noCell_5 (by decide) (fun c_2 => ?_) (fun c_2 => ?_)
    · refine lv_iconst (v := nI 1) hx hb dX7_noCell_22 (by decide) ?_
      refine lv_goto (tgt := 27) hx hb dX7_noCell_23 (by decide) ?_
      exact xzret (by decide) hd0 hx hb hr hlocks hS (Nat.le_of_ble_eq_true rfl) (Nat.le_of_ble_eq_true rfl) dX7_noCell_27 ⟨rfl, by first | exact xz1 (fun h => xP_ne.mp c_2 h.1) | exact xz1 (fun h => xin_no0 (by assumption) h.2) | exact xz1 (fun h => xstr_no (by assumption) (by omega) h.2) | exact xz0 (fun h => h ⟨Classical.not_not.mp (xP_eq.mp c_2), xstr_of (by assumption) (by assumption) (by omega)⟩)⟩
    · refine lv_iload_n hx hb dX7_noCell_8 rfl (lv_at hl 2 rfl) ?_
      refine lv_if_lt (tgt := 22) hx hb dX7_noCell_9 (by decide) (fun c_3 => ?_) (fun c_3 => ?_)
      · refine lv_iconst (v := nI 1) hx hb dX7_noCell_22 (by decide) ?_
        refine lv_goto (tgt := 27) hx hb dX7_noCell_23 (by decide) ?_
        exact xzret (by decide) hd0 hx hb hr hlocks hS (Nat.le_of_ble_eq_true rfl) (Nat.le_of_ble_eq_true rfl) dX7_noCell_27 ⟨rfl, by first | exact xz1 (fun h => xP_ne.mp c_2 h.1) | exact xz1 (fun h => xin_no0 (by assumption) h.2) | exact xz1 (fun h => xstr_no (by assumption) (by omega) h.2) | exact xz0 (fun h => h ⟨Classical.not_not.mp (xP_eq.mp c_2), xstr_of (by assumption) (by assumption) (by omega)⟩)⟩
      · refine lv_iload_n hx hb dX7_noCell_12 rfl (lv_at hl 2 rfl) ?_
        refine lv_aload_n hx hb dX7_noCell_13 rfl (lv_at hl 0 rfl) ?_
        refine va_get (D := G) (cl := vwCl) (ci := 8) (v := .int (nI F)) (C := RX7) (T := TX7) (N := 18) hx hb (hts _) in_X7_noCell_X7 hown hK.1 (x1 y_o) 0 rfl rfl 1 (by decide) (hts _ _ hw_X7_noCell_1) (fun _ h9 => h9) rfl dX7_noCell_14 ?_
        refine lv_iconst (v := nI 2) hx hb dX7_noCell_17 (by decide) ?_
        refine xisubN hx hb (by omega) dX7_noCell_18 ?_
        refine lv_icmp_le (tgt := 26) hx hb dX7_noCell_19 (by decide) (fun c_4 => ?_) (fun c_4 => ?_)
        · refine lv_iconst (v := nI 0) hx hb dX7_noCell_26 (by decide) ?_
          exact xzret (by decide) hd0 hx hb hr hlocks hS (Nat.le_of_ble_eq_true rfl) (Nat.le_of_ble_eq_true rfl) dX7_noCell_27 ⟨rfl, by first | exact xz1 (fun h => xP_ne.mp c_2 h.1) | exact xz1 (fun h => xin_no0 (by assumption) h.2) | exact xz1 (fun h => xstr_no (by assumption) (by omega) h.2) | exact xz0 (fun h => h ⟨Classical.not_not.mp (xP_eq.mp c_2), xstr_of (by assumption) (by assumption) (by omega)⟩)⟩
        · refine lv_iconst (v := nI 1) hx hb dX7_noCell_22 (by decide) ?_
          refine lv_goto (tgt := 27) hx hb dX7_noCell_23 (by decide) ?_
          exact xzret (by decide) hd0 hx hb hr hlocks hS (Nat.le_of_ble_eq_true rfl) (Nat.le_of_ble_eq_true rfl) dX7_noCell_27 ⟨rfl, by first | exact xz1 (fun h => xP_ne.mp c_2 h.1) | exact xz1 (fun h => xin_no0 (by assumption) h.2) | exact xz1 (fun h => xstr_no (by assumption) (by omega) h.2) | exact xz0 (fun h => h ⟨Classical.not_not.mp (xP_eq.mp c_2), xstr_of (by assumption) (by assumption) (by omega)⟩)⟩
set_option maxRecDepth 20000 in
theorem ggX7_off_X7_length : GoodIn wsX7_off wsX7_length := goodIn_r _ [5, 6, 7, 4, 8, 9] (by decide +kernel) (by decide +kernel)
set_option maxRecDepth 20000 in
theorem gX7_off_X7_length : GoodIn wsX7_off (va_wsS RX7 81 yX7_length wsX7_length) := goodIn_app (goodIn_of _ (by decide +kernel)) ggX7_off_X7_length
set_option maxRecDepth 20000 in
theorem ggX7_off_X7_far : GoodIn wsX7_off wsX7_far := goodIn_r _ [13, 14, 15, 16, 4, 17, 18, 6, 7, 8, 9, 19, 20, 21, 22, 23, 24, 25, 26, 27, 28, 29, 30, 31, 32, 33, 34, 35, 36] (by decide +kernel) (by decide +kernel)
set_option maxRecDepth 20000 in
theorem gX7_off_X7_far : GoodIn wsX7_off (wsV RX7 77 RX7 yX7_far wsX7_far) := goodIn_app (goodIn_of _ (by decide +kernel)) ggX7_off_X7_far
theorem dX7_off_0 : decode cX7_off 0 = .ok (.bipush 32, 2) := by decide +kernel
theorem dX7_off_2 : decode cX7_off 2 = .ok (.iload_n 1, 1) := by decide +kernel
theorem dX7_off_3 : decode cX7_off 3 = .ok (.imul, 1) := by decide +kernel
theorem dX7_off_4 : decode cX7_off 4 = .ok (.iconst 4, 1) := by decide +kernel
theorem dX7_off_5 : decode cX7_off 5 = .ok (.iload_n 2, 1) := by decide +kernel
theorem dX7_off_6 : decode cX7_off 6 = .ok (.imul, 1) := by decide +kernel
theorem dX7_off_7 : decode cX7_off 7 = .ok (.iadd, 1) := by decide +kernel
theorem dX7_off_8 : decode cX7_off 8 = .ok (.istore_n 3, 1) := by decide +kernel
theorem dX7_off_9 : decode cX7_off 9 = .ok (.iload_n 3, 1) := by decide +kernel
theorem dX7_off_10 : decode cX7_off 10 = .ok (.bipush 6, 2) := by decide +kernel
theorem dX7_off_12 : decode cX7_off 12 = .ok (.iadd, 1) := by decide +kernel
theorem dX7_off_13 : decode cX7_off 13 = .ok (.istore 4, 2) := by decide +kernel
theorem dX7_off_15 : decode cX7_off 15 = .ok (.aload_n 0, 1) := by decide +kernel
theorem dX7_off_16 : decode cX7_off 16 = .ok (.getfield 17, 3) := by decide +kernel
theorem dX7_off_19 : decode cX7_off 19 = .ok (.iload 4, 2) := by decide +kernel
theorem dX7_off_21 : decode cX7_off 21 = .ok (.daload, 1) := by decide +kernel
theorem dX7_off_22 : decode cX7_off 22 = .ok (.aload_n 0, 1) := by decide +kernel
theorem dX7_off_23 : decode cX7_off 23 = .ok (.getfield 17, 3) := by decide +kernel
theorem dX7_off_26 : decode cX7_off 26 = .ok (.iload_n 3, 1) := by decide +kernel
theorem dX7_off_27 : decode cX7_off 27 = .ok (.daload, 1) := by decide +kernel
theorem dX7_off_28 : decode cX7_off 28 = .ok (.dsub, 1) := by decide +kernel
theorem dX7_off_29 : decode cX7_off 29 = .ok (.aload_n 0, 1) := by decide +kernel
theorem dX7_off_30 : decode cX7_off 30 = .ok (.getfield 17, 3) := by decide +kernel
theorem dX7_off_33 : decode cX7_off 33 = .ok (.iload 4, 2) := by decide +kernel
theorem dX7_off_35 : decode cX7_off 35 = .ok (.iconst 1, 1) := by decide +kernel
theorem dX7_off_36 : decode cX7_off 36 = .ok (.iadd, 1) := by decide +kernel
theorem dX7_off_37 : decode cX7_off 37 = .ok (.daload, 1) := by decide +kernel
theorem dX7_off_38 : decode cX7_off 38 = .ok (.aload_n 0, 1) := by decide +kernel
theorem dX7_off_39 : decode cX7_off 39 = .ok (.getfield 17, 3) := by decide +kernel
theorem dX7_off_42 : decode cX7_off 42 = .ok (.iload_n 3, 1) := by decide +kernel
theorem dX7_off_43 : decode cX7_off 43 = .ok (.iconst 1, 1) := by decide +kernel
theorem dX7_off_44 : decode cX7_off 44 = .ok (.iadd, 1) := by decide +kernel
theorem dX7_off_45 : decode cX7_off 45 = .ok (.daload, 1) := by decide +kernel
theorem dX7_off_46 : decode cX7_off 46 = .ok (.dsub, 1) := by decide +kernel
theorem dX7_off_47 : decode cX7_off 47 = .ok (.invokestatic 81, 3) := by decide +kernel
theorem dX7_off_50 : decode cX7_off 50 = .ok (.aload_n 0, 1) := by decide +kernel
theorem dX7_off_51 : decode cX7_off 51 = .ok (.iload_n 2, 1) := by decide +kernel
theorem dX7_off_52 : decode cX7_off 52 = .ok (.iload_n 1, 1) := by decide +kernel
theorem dX7_off_53 : decode cX7_off 53 = .ok (.iload_n 2, 1) := by decide +kernel
theorem dX7_off_54 : decode cX7_off 54 = .ok (.iconst 1, 1) := by decide +kernel
theorem dX7_off_55 : decode cX7_off 55 = .ok (.iadd, 1) := by decide +kernel
theorem dX7_off_56 : decode cX7_off 56 = .ok (.iload_n 1, 1) := by decide +kernel
theorem dX7_off_57 : decode cX7_off 57 = .ok (.iconst 1, 1) := by decide +kernel
theorem dX7_off_58 : decode cX7_off 58 = .ok (.iadd, 1) := by decide +kernel
theorem dX7_off_59 : decode cX7_off 59 = .ok (.invokevirtual 77, 3) := by decide +kernel
theorem dX7_off_62 : decode cX7_off 62 = .ok (.dsub, 1) := by decide +kernel
theorem dX7_off_63 : decode cX7_off 63 = .ok (.dreturn, 1) := by decide +kernel
abbrev rm_X7_off : Room := { frames := 7, cells := 0, slots := 0, locals := 140 }
theorem hw_X7_off_1 : (Cond.fieldLink RX7 17 "PlankUnrollModel" "corners" "[D") ∈ wsX7_off := List.mem_of_getElem? (i := 1) rfl
theorem in_X7_off_X7 : ∀ w ∈ wsX70, w ∈ wsX7_off := by decide +kernel
set_option maxHeartbeats 4000000 in
set_option maxRecDepth 100000 in
/-- STRETCH -/
theorem c_X7_off {l : Launch} {G : va_G} {ty : Nat → ClassId} {b0 : Nat} {H : Heap} {m0 : Nat} {A : Nat → Nat} {th : Int32} {F R nb : Nat} {pl co dr wi hi fa : Nat → UInt64} {un bu fc lo la : Nat → Int32} {px py pz : UInt64} (hY : xRef G ty m0 A th F R pl un co dr bu nb wi hi fc fa lo la px py pz H) (hZ : xSz F R) {x f : Nat} (hs9 : x < R - 1) (hf : f < F - 1) : xMet l yX7_off wsX7_off rm_X7_off G ty b0 [.ref m0, .int (nI x), .int (nI f)] H (fun v H1 => H = H1 ∧ ∃ z9 : UInt64, v = some (.double z9) ∧ vq z9 (pOff co pl x f)) (fun _ _ => False) := by
  refine xbody (cc := cX7_off) (maxL := 5) (ret := (some .double)) (C := RX7) (lv := [(0, .ref m0), (1, .int (nI x)), (2, .int (nI f))]) (by decide) rfl rfl (Nat.le_of_ble_eq_true rfl) rfl ?_
  intro p e s m below meth c d0 hx hb hr hts hown hlocks hml hxt hnm0 hK hb0 hH0 hS hd0 ls hl
  obtain ⟨y_o, y_0, y_1, y_2, y_3, y_4, y_5, y_6, y_7, y_8, y_9, y_10⟩ := id hY
  obtain ⟨⟨zF2, zF8⟩, ⟨zR2, zR8⟩⟩ := id hZ
  refine lv_bipush (v := nI 32) hx hb dX7_off_0 (by decide) ?_
  refine lv_iload_n hx hb dX7_off_2 rfl (lv_at hl 1 rfl) ?_
  refine ximulN hx hb dX7_off_3 ?_
  refine lv_iconst (v := nI 4) hx hb dX7_off_4 (by decide) ?_
  refine lv_iload_n hx hb dX7_off_5 rfl (lv_at hl 2 rfl) ?_
  refine ximulN hx hb dX7_off_6 ?_
  refine xiaddN hx hb dX7_off_7 ?_
  refine lv_istore_n (lv' := [(3, .int (nI ((32 * x) + (4 * f)))), (0, .ref m0), (1, .int (nI x)), (2, .int (nI f))]) hx hb dX7_off_8 rfl hl (by decide) rfl (fun ls hl => ?_)
  refine lv_iload_n hx hb dX7_off_9 rfl (lv_at hl 0 rfl) ?_
  refine lv_bipush (v := nI 6) hx hb dX7_off_10 (by decide) ?_
  refine xiaddN hx hb dX7_off_12 ?_
  refine lv_istore (lv' := [(4, .int (nI (((32 * x) + (4 * f)) + 6))), (3, .int (nI ((32 * x) + (4 * f)))), (0, .ref m0), (1, .int (nI x)), (2, .int (nI f))]) hx hb dX7_off_13 hl (by decide) rfl (fun ls hl => ?_)
  refine lv_aload_n hx hb dX7_off_15 rfl (lv_at hl 2 rfl) ?_
  refine va_get (D := G) (cl := vwCl) (ci := 8) (v := .ref (A 2)) (C := RX7) (T := TX7) (N := 18) hx hb (hts _) in_X7_off_X7 hown hK.1 (x1 y_o) 0 rfl rfl 5 (by decide) (hts _ _ hw_X7_off_1) (fun _ h9 => h9) rfl dX7_off_16 ?_
  refine lv_iload hx hb dX7_off_19 (lv_at hl 0 rfl) ?_
  refine xdald (j := ((32 * x) + (4 * f)) + 6) hx hb hK.1 0 y_2 rfl (xix_of (by omega) (by omega)) dX7_off_21 ?_
  refine lv_aload_n hx hb dX7_off_22 rfl (lv_at hl 2 rfl) ?_
  refine va_get (D := G) (cl := vwCl) (ci := 8) (v := .ref (A 2)) (C := RX7) (T := TX7) (N := 18) hx hb (hts _) in_X7_off_X7 hown hK.1 (x1 y_o) 0 rfl rfl 5 (by decide) (hts _ _ hw_X7_off_1) (fun _ h9 => h9) rfl dX7_off_23 ?_
  refine lv_iload_n hx hb dX7_off_26 rfl (lv_at hl 1 rfl) ?_
  refine xdald (j := (32 * x) + (4 * f)) hx hb hK.1 0 y_2 rfl (xix_of (by omega) (by omega)) dX7_off_27 ?_
  refine xdsub hd0 hx hb (vq_rf _) (vq_rf _) dX7_off_28 (fun r_1 d0 q_1 hd0 => ?_)
  refine lv_aload_n hx hb dX7_off_29 rfl (lv_at hl 2 rfl) ?_
  refine va_get (D := G) (cl := vwCl) (ci := 8) (v := .ref (A 2)) (C := RX7) (T := TX7) (N := 18) hx hb (hts _) in_X7_off_X7 hown hK.1 (x1 y_o) 0 rfl rfl 5 (by decide) (hts _ _ hw_X7_off_1) (fun _ h9 => h9) rfl dX7_off_30 ?_
  refine lv_iload hx hb dX7_off_33 (lv_at hl 0 rfl) ?_
  refine lv_iconst (v := nI 1) hx hb dX7_off_35 (by decide) ?_
  refine xiaddN hx hb dX7_off_36 ?_
  refine xdald (j := (((32 * x) + (4 * f)) + 6) + 1) hx hb hK.1 0 y_2 rfl (xix_of (by omega) (by omega)) dX7_off_37 ?_
  refine lv_aload_n hx hb dX7_off_38 rfl (lv_at hl 2 rfl) ?_
  refine va_get (D := G) (cl := vwCl) (ci := 8) (v := .ref (A 2)) (C := RX7) (T := TX7) (N := 18) hx hb (hts _) in_X7_off_X7 hown hK.1 (x1 y_o) 0 rfl rfl 5 (by decide) (hts _ _ hw_X7_off_1) (fun _ h9 => h9) rfl dX7_off_39 ?_
  refine lv_iload_n hx hb dX7_off_42 rfl (lv_at hl 1 rfl) ?_
  refine lv_iconst (v := nI 1) hx hb dX7_off_43 (by decide) ?_
  refine xiaddN hx hb dX7_off_44 ?_
  refine xdald (j := ((32 * x) + (4 * f)) + 1) hx hb hK.1 0 y_2 rfl (xix_of (by omega) (by omega)) dX7_off_45 ?_
  refine xdsub hd0 hx hb (vq_rf _) (vq_rf _) dX7_off_46 (fun r_2 d0 q_2 hd0 => ?_)
  have cw_3 := va_cwS (R := rm_X7_off) (rm := rm_X7_length) 2 (hts d0) gX7_off_X7_length rfl rfl rfl (by decide +kernel) ⟨Nat.le_of_ble_eq_true rfl, Nat.le_of_ble_eq_true rfl⟩
  refine xcall hd0 (xintoS (As := [.double r_1, .double r_2]) (rest := []) ⟨hx, hb, hml, hown, hts _⟩ cw_3 rfl rfl hl.1 rfl (lv_room (Nat.le_of_ble_eq_true rfl)) dX7_off_47) (c_X7_length (l := l) (G := G) (ty := ty) (b0 := b0) q_1 q_2) (xoweB cw_3.1) hK hb0 hS (Nat.le_of_ble_eq_true rfl) (Nat.le_of_ble_eq_true rfl) (fun E_3 ce_3 q9_3 H_3 locs_3 d0 hd0 hp_3 hS hce_3 hcv_3 hcl_3 => ?_) (fun v_3 H_3 locs_3 d0 hd0 hp_3 hS => ?_)
  · exact hp_3.elim
  · obtain ⟨rfl, r_3, rfl, q_3⟩ := hp_3
    show W p l e _ (s.setDrawn _) m _ below meth c _ _ _ _ _ (F0 m 50 ls [.double r_3])
    refine lv_aload_n hx hb dX7_off_50 rfl (lv_at hl 2 rfl) ?_
    refine lv_iload_n hx hb dX7_off_51 rfl (lv_at hl 4 rfl) ?_
    refine lv_iload_n hx hb dX7_off_52 rfl (lv_at hl 3 rfl) ?_
    refine lv_iload_n hx hb dX7_off_53 rfl (lv_at hl 4 rfl) ?_
    refine lv_iconst (v := nI 1) hx hb dX7_off_54 (by decide) ?_
    refine xiaddN hx hb dX7_off_55 ?_
    refine lv_iload_n hx hb dX7_off_56 rfl (lv_at hl 3 rfl) ?_
    refine lv_iconst (v := nI 1) hx hb dX7_off_57 (by decide) ?_
    refine xiaddN hx hb dX7_off_58 ?_
    have cw_4 := cwV (R := rm_X7_off) (rm := rm_X7_far) 4 (hts d0) gX7_off_X7_far rfl rfl rfl (by decide +kernel) ⟨Nat.le_of_ble_eq_true rfl, Nat.le_of_ble_eq_true rfl⟩
    refine xcall hd0 (xintoV (b := m0) (As := [.int (nI f), .int (nI x), .int (nI (f + 1)), .int (nI (x + 1))]) (rest := [.double r_3]) ⟨hx, hb, hml, hown, hts _⟩ cw_4 (va_recv hK.1 (x1 y_o) (ci := 8) (q0 := 0) rfl rfl) rfl rfl hl.1 rfl (lv_room (Nat.le_of_ble_eq_true rfl)) dX7_off_59) (c_X7_far (l := l) (G := G) (ty := ty) (b0 := b0) (f := f) (r := x) (g := f + 1) (q := x + 1) (by omega) (by omega) (by omega) (by omega) hY hZ) (xoweB cw_4.1) hK hb0 hS (Nat.le_of_ble_eq_true rfl) (Nat.le_of_ble_eq_true rfl) (fun E_4 ce_4 q9_4 H_4 locs_4 d0 hd0 hp_4 hS hce_4 hcv_4 hcl_4 => ?_) (fun v_4 H_4 locs_4 d0 hd0 hp_4 hS => ?_)
    · exact hp_4.elim
    · obtain ⟨rfl, r_4, rfl, q_4⟩ := hp_4
      show W p l e _ (s.setDrawn _) m _ below meth c _ _ _ _ _ (F0 m 62 ls [.double r_4, .double r_3])
      refine xdsub hd0 hx hb q_3 q_4 dX7_off_62 (fun r_5 d0 q_5 hd0 => ?_)
      exact xdret hd0 hx hb hr hlocks hS (Nat.le_of_ble_eq_true rfl) (Nat.le_of_ble_eq_true rfl) dX7_off_63 ⟨rfl, _, rfl, q_5⟩
end
section
/-! THE REFERENCE: extents, staggered butts, free places on boards. -/
def pLow (co : Nat → UInt64) (x ax : Nat) : Nat → UInt64
  | 0 => co (32 * x + ax)
  | k + 1 => if xlt (co (32 * x + 2 * (k + 1) + ax)) (pLow co x ax k) = true then co (32 * x + 2 * (k + 1) + ax) else pLow co x ax k
def pHigh (co : Nat → UInt64) (x ax : Nat) : Nat → UInt64
  | 0 => co (32 * x + ax)
  | k + 1 => if xgt (co (32 * x + 2 * (k + 1) + ax)) (pHigh co x ax k) = true then co (32 * x + 2 * (k + 1) + ax) else pHigh co x ax k
theorem pLow_t {co : Nat → UInt64} {x ax k : Nat} (h : xlt (co (32 * x + 2 * (k + 1) + ax)) (pLow co x ax k) = true) : pLow co x ax (k + 1) = co (32 * x + 2 * (k + 1) + ax) := if_pos h
theorem pLow_f {co : Nat → UInt64} {x ax k : Nat} (h : xlt (co (32 * x + 2 * (k + 1) + ax)) (pLow co x ax k) = false) : pLow co x ax (k + 1) = pLow co x ax k := if_neg (by rw [h]; decide)
theorem pHigh_t {co : Nat → UInt64} {x ax k : Nat} (h : xgt (co (32 * x + 2 * (k + 1) + ax)) (pHigh co x ax k) = true) : pHigh co x ax (k + 1) = co (32 * x + 2 * (k + 1) + ax) := if_pos h
theorem pHigh_f {co : Nat → UInt64} {x ax k : Nat} (h : xgt (co (32 * x + 2 * (k + 1) + ax)) (pHigh co x ax k) = false) : pHigh co x ax (k + 1) = pHigh co x ax k := if_neg (by rw [h]; decide)
/-- what a strip takes up, along (0) or across (1) -/
def pExt (co : Nat → UInt64) (F x ax : Nat) : UInt64 := FP.dsub (pHigh co x ax (2 * F - 1)) (pLow co x ax (2 * F - 1))
theorem dX7_size_0 : decode cX7_size 0 = .ok (.aload_n 0, 1) := by decide +kernel
theorem dX7_size_1 : decode cX7_size 1 = .ok (.getfield 17, 3) := by decide +kernel
theorem dX7_size_4 : decode cX7_size 4 = .ok (.bipush 32, 2) := by decide +kernel
theorem dX7_size_6 : decode cX7_size 6 = .ok (.iload_n 1, 1) := by decide +kernel
theorem dX7_size_7 : decode cX7_size 7 = .ok (.imul, 1) := by decide +kernel
theorem dX7_size_8 : decode cX7_size 8 = .ok (.iload_n 2, 1) := by decide +kernel
theorem dX7_size_9 : decode cX7_size 9 = .ok (.iadd, 1) := by decide +kernel
theorem dX7_size_10 : decode cX7_size 10 = .ok (.daload, 1) := by decide +kernel
theorem dX7_size_11 : decode cX7_size 11 = .ok (.dstore_n 3, 1) := by decide +kernel
theorem dX7_size_12 : decode cX7_size 12 = .ok (.dload_n 3, 1) := by decide +kernel
theorem dX7_size_13 : decode cX7_size 13 = .ok (.dstore 5, 2) := by decide +kernel
theorem dX7_size_15 : decode cX7_size 15 = .ok (.iconst 1, 1) := by decide +kernel
theorem dX7_size_16 : decode cX7_size 16 = .ok (.istore 7, 2) := by decide +kernel
theorem dX7_size_18 : decode cX7_size 18 = .ok (.iload 7, 2) := by decide +kernel
theorem dX7_size_20 : decode cX7_size 20 = .ok (.iconst 2, 1) := by decide +kernel
theorem dX7_size_21 : decode cX7_size 21 = .ok (.aload_n 0, 1) := by decide +kernel
theorem dX7_size_22 : decode cX7_size 22 = .ok (.getfield 45, 3) := by decide +kernel
theorem dX7_size_25 : decode cX7_size 25 = .ok (.imul, 1) := by decide +kernel
theorem dX7_size_26 : decode cX7_size 26 = .ok (.if_icmp .ge 58, 3) := by decide +kernel
theorem dX7_size_29 : decode cX7_size 29 = .ok (.aload_n 0, 1) := by decide +kernel
theorem dX7_size_30 : decode cX7_size 30 = .ok (.getfield 17, 3) := by decide +kernel
theorem dX7_size_33 : decode cX7_size 33 = .ok (.bipush 32, 2) := by decide +kernel
theorem dX7_size_35 : decode cX7_size 35 = .ok (.iload_n 1, 1) := by decide +kernel
theorem dX7_size_36 : decode cX7_size 36 = .ok (.imul, 1) := by decide +kernel
theorem dX7_size_37 : decode cX7_size 37 = .ok (.iconst 2, 1) := by decide +kernel
theorem dX7_size_38 : decode cX7_size 38 = .ok (.iload 7, 2) := by decide +kernel
theorem dX7_size_40 : decode cX7_size 40 = .ok (.imul, 1) := by decide +kernel
theorem dX7_size_41 : decode cX7_size 41 = .ok (.iadd, 1) := by decide +kernel
theorem dX7_size_42 : decode cX7_size 42 = .ok (.iload_n 2, 1) := by decide +kernel
theorem dX7_size_43 : decode cX7_size 43 = .ok (.iadd, 1) := by decide +kernel
theorem dX7_size_44 : decode cX7_size 44 = .ok (.daload, 1) := by decide +kernel
theorem dX7_size_45 : decode cX7_size 45 = .ok (.dstore 8, 2) := by decide +kernel
theorem dX7_size_47 : decode cX7_size 47 = .ok (.dload 8, 2) := by decide +kernel
theorem dX7_size_49 : decode cX7_size 49 = .ok (.dload_n 3, 1) := by decide +kernel
theorem dX7_size_50 : decode cX7_size 50 = .ok (.dcmp .g, 1) := by decide +kernel
theorem dX7_size_51 : decode cX7_size 51 = .ok (.ifCond .ge 8, 3) := by decide +kernel
theorem dX7_size_54 : decode cX7_size 54 = .ok (.dload 8, 2) := by decide +kernel
theorem dX7_size_56 : decode cX7_size 56 = .ok (.goto 4, 3) := by decide +kernel
theorem dX7_size_59 : decode cX7_size 59 = .ok (.dload_n 3, 1) := by decide +kernel
theorem dX7_size_60 : decode cX7_size 60 = .ok (.dstore_n 3, 1) := by decide +kernel
theorem dX7_size_61 : decode cX7_size 61 = .ok (.dload 8, 2) := by decide +kernel
theorem dX7_size_63 : decode cX7_size 63 = .ok (.dload 5, 2) := by decide +kernel
theorem dX7_size_65 : decode cX7_size 65 = .ok (.dcmp .l, 1) := by decide +kernel
theorem dX7_size_66 : decode cX7_size 66 = .ok (.ifCond .le 8, 3) := by decide +kernel
theorem dX7_size_69 : decode cX7_size 69 = .ok (.dload 8, 2) := by decide +kernel
theorem dX7_size_71 : decode cX7_size 71 = .ok (.goto 5, 3) := by decide +kernel
theorem dX7_size_74 : decode cX7_size 74 = .ok (.dload 5, 2) := by decide +kernel
theorem dX7_size_76 : decode cX7_size 76 = .ok (.dstore 5, 2) := by decide +kernel
theorem dX7_size_78 : decode cX7_size 78 = .ok (.iinc 7 1, 3) := by decide +kernel
theorem dX7_size_81 : decode cX7_size 81 = .ok (.goto (-63), 3) := by decide +kernel
theorem dX7_size_84 : decode cX7_size 84 = .ok (.dload 5, 2) := by decide +kernel
theorem dX7_size_86 : decode cX7_size 86 = .ok (.dload_n 3, 1) := by decide +kernel
theorem dX7_size_87 : decode cX7_size 87 = .ok (.dsub, 1) := by decide +kernel
theorem dX7_size_88 : decode cX7_size 88 = .ok (.dreturn, 1) := by decide +kernel
abbrev rm_X7_size : Room := { frames := 5, cells := 0, slots := 0, locals := 40 }
theorem hw_X7_size_1 : (Cond.fieldLink RX7 17 "PlankUnrollModel" "corners" "[D") ∈ wsX7_size := List.mem_of_getElem? (i := 1) rfl
theorem hw_X7_size_2 : (Cond.fieldLink RX7 45 "PlankUnrollModel" "frames" "I") ∈ wsX7_size := List.mem_of_getElem? (i := 2) rfl
theorem in_X7_size_X7 : ∀ w ∈ wsX70, w ∈ wsX7_size := by decide +kernel
set_option maxHeartbeats 4000000 in
set_option maxRecDepth 100000 in
/-- what a strip takes up -/
theorem c_X7_size {l : Launch} {G : va_G} {ty : Nat → ClassId} {b0 : Nat} {H : Heap} {m0 : Nat} {A : Nat → Nat} {th : Int32} {F R nb : Nat} {pl co dr wi hi fa : Nat → UInt64} {un bu fc lo la : Nat → Int32} {px py pz : UInt64} (hY : xRef G ty m0 A th F R pl un co dr bu nb wi hi fc fa lo la px py pz H) (hZ : xSz F R) {x ax : Nat} (hs9 : x < R - 1) (hax : ax < 2) : xMet l yX7_size wsX7_size rm_X7_size G ty b0 [.ref m0, .int (nI x), .int (nI ax)] H (fun v H1 => H = H1 ∧ ∃ z9 : UInt64, v = some (.double z9) ∧ vq z9 (pExt co F x ax)) (fun _ _ => False) := by
  refine xbody (cc := cX7_size) (maxL := 10) (ret := (some .double)) (C := RX7) (lv := [(0, .ref m0), (1, .int (nI x)), (2, .int (nI ax))]) (by decide) rfl rfl (Nat.le_of_ble_eq_true rfl) rfl ?_
  intro p e s m below meth c d0 hx hb hr hts hown hlocks hml hxt hnm0 hK hb0 hH0 hS hd0 ls hl
  obtain ⟨y_o, y_0, y_1, y_2, y_3, y_4, y_5, y_6, y_7, y_8, y_9, y_10⟩ := id hY
  obtain ⟨⟨zF2, zF8⟩, ⟨zR2, zR8⟩⟩ := id hZ
  refine lv_aload_n hx hb dX7_size_0 rfl (lv_at hl 0 rfl) ?_
  refine va_get (D := G) (cl := vwCl) (ci := 8) (v := .ref (A 2)) (C := RX7) (T := TX7) (N := 18) hx hb (hts _) in_X7_size_X7 hown hK.1 (x1 y_o) 0 rfl rfl 5 (by decide) (hts _ _ hw_X7_size_1) (fun _ h9 => h9) rfl dX7_size_1 ?_
  refine lv_bipush (v := nI 32) hx hb dX7_size_4 (by decide) ?_
  refine lv_iload_n hx hb dX7_size_6 rfl (lv_at hl 1 rfl) ?_
  refine ximulN hx hb dX7_size_7 ?_
  refine lv_iload_n hx hb dX7_size_8 rfl (lv_at hl 2 rfl) ?_
  refine xiaddN hx hb dX7_size_9 ?_
  refine xdald (j := (32 * x) + ax) hx hb hK.1 0 y_2 rfl (xix_of (by omega) (by omega)) dX7_size_10 ?_
  refine lv_dstore_n (lv' := [(3, .double (co ((32 * x) + ax))), (0, .ref m0), (1, .int (nI x)), (2, .int (nI ax))]) hx hb dX7_size_11 rfl hl (by decide) rfl (fun ls hl => ?_)
  refine lv_dload_n hx hb dX7_size_12 rfl (lv_at hl 0 rfl) ?_
  refine lv_dstore (lv' := [(5, .double (co ((32 * x) + ax))), (3, .double (co ((32 * x) + ax))), (0, .ref m0), (1, .int (nI x)), (2, .int (nI ax))]) hx hb dX7_size_13 hl (by decide) rfl (fun ls hl => ?_)
  refine lv_iconst (v := nI 1) hx hb dX7_size_15 (by decide) ?_
  refine lv_istore (lv' := [(7, .int (nI 1)), (5, .double (co ((32 * x) + ax))), (3, .double (co ((32 * x) + ax))), (0, .ref m0), (1, .int (nI x)), (2, .int (nI ax))]) hx hb dX7_size_16 hl (by decide) rfl (fun ls hl => ?_)
  suffices K : ∀ (n : Nat) (j : Nat) (locs : List Loc) (d0 : Drawn) (ls : Array Slot), j + 1 + n = 2 * F → va_S (xA b0) s.heap H locs → s.drawn.sameBut d0 lw_cs → lv_has ls 10 [(7, .int (nI (j + 1))), (5, .double (pHigh co x ax j)), (3, .double (pLow co x ax j)), (0, .ref m0), (1, .int (nI x)), (2, .int (nI ax))] → W p l e rm_X7_size (s.setDrawn d0) m [Value.ref m0, Value.int (nI x), Value.int (nI ax)].toArray below meth c H locs (0) (0) (xMQ below (fun v H1 => H = H1 ∧ ∃ z9 : UInt64, v = some (.double z9) ∧ vq z9 (pExt co F x ax)) (fun _ _ => False) [.ref m0, .int (nI x), .int (nI ax)].toArray s rm_X7_size b0) (F0 m 18 ls []) from K (2 * F - 1) 0 _ d0 ls (by omega) hS hd0 (lv_sub hl [0, 1, 2, 3, 4, 5] rfl)
  intro n
  induction n with
  | zero =>
    intro j locs d0 ls hinv hS hd0 hl
    refine lv_iload hx hb dX7_size_18 (lv_at hl 0 rfl) ?_
    refine lv_iconst (v := nI 2) hx hb dX7_size_20 (by decide) ?_
    refine lv_aload_n hx hb dX7_size_21 rfl (lv_at hl 3 rfl) ?_
    refine va_get (D := G) (cl := vwCl) (ci := 8) (v := .int (nI F)) (C := RX7) (T := TX7) (N := 18) hx hb (hts _) in_X7_size_X7 hown hK.1 (x1 y_o) 0 rfl rfl 1 (by decide) (hts _ _ hw_X7_size_2) (fun _ h9 => h9) rfl dX7_size_22 ?_
    refine ximulN hx hb dX7_size_25 ?_
    refine xicmpN_ge (tgt := 84) hx hb (by omega) (by omega) dX7_size_26 (by decide) (fun _ => ?_) (fun h9 => absurd h9 (by omega))
    refine lv_dload hx hb dX7_size_84 (lv_at hl 1 rfl) ?_
    refine lv_dload_n hx hb dX7_size_86 rfl (lv_at hl 2 rfl) ?_
    refine xdsub hd0 hx hb (vq_rf _) (vq_rf _) dX7_size_87 (fun r_2 d0 q_2 hd0 => ?_)
    exact xdret hd0 hx hb hr hlocks hS (Nat.le_of_ble_eq_true rfl) (Nat.le_of_ble_eq_true rfl) dX7_size_88 ⟨rfl, _, rfl, by have e9 : j = 2 * F - 1 := (by omega); subst e9; exact q_2⟩
  | succ n ih =>
    intro j locs d0 ls hinv hS hd0 hl
    refine lv_iload hx hb dX7_size_18 (lv_at hl 0 rfl) ?_
    refine lv_iconst (v := nI 2) hx hb dX7_size_20 (by decide) ?_
    refine lv_aload_n hx hb dX7_size_21 rfl (lv_at hl 3 rfl) ?_
    refine va_get (D := G) (cl := vwCl) (ci := 8) (v := .int (nI F)) (C := RX7) (T := TX7) (N := 18) hx hb (hts _) in_X7_size_X7 hown hK.1 (x1 y_o) 0 rfl rfl 1 (by decide) (hts _ _ hw_X7_size_2) (fun _ h9 => h9) rfl dX7_size_22 ?_
    refine ximulN hx hb dX7_size_25 ?_
    refine xicmpN_ge (tgt := 84) hx hb (by omega) (by omega) dX7_size_26 (by decide) (fun h9 => absurd h9 (by omega)) (fun _ => ?_)
    refine lv_aload_n hx hb dX7_size_29 rfl (lv_at hl 3 rfl) ?_
    refine va_get (D := G) (cl := vwCl) (ci := 8) (v := .ref (A 2)) (C := RX7) (T := TX7) (N := 18) hx hb (hts _) in_X7_size_X7 hown hK.1 (x1 y_o) 0 rfl rfl 5 (by decide) (hts _ _ hw_X7_size_1) (fun _ h9 => h9) rfl dX7_size_30 ?_
    refine lv_bipush (v := nI 32) hx hb dX7_size_33 (by decide) ?_
    refine lv_iload_n hx hb dX7_size_35 rfl (lv_at hl 4 rfl) ?_
    refine ximulN hx hb dX7_size_36 ?_
    refine lv_iconst (v := nI 2) hx hb dX7_size_37 (by decide) ?_
    refine lv_iload hx hb dX7_size_38 (lv_at hl 0 rfl) ?_
    refine ximulN hx hb dX7_size_40 ?_
    refine xiaddN hx hb dX7_size_41 ?_
    refine lv_iload_n hx hb dX7_size_42 rfl (lv_at hl 5 rfl) ?_
    refine xiaddN hx hb dX7_size_43 ?_
    refine xdald (j := ((32 * x) + (2 * (j + 1))) + ax) hx hb hK.1 0 y_2 rfl (xix_of (by omega) (by omega)) dX7_size_44 ?_
    refine lv_dstore (lv' := [(8, .double (co (((32 * x) + (2 * (j + 1))) + ax))), (7, .int (nI (j + 1))), (5, .double (pHigh co x ax j)), (3, .double (pLow co x ax j)), (0, .ref m0), (1, .int (nI x)), (2, .int (nI ax))]) hx hb dX7_size_45 hl (by decide) rfl (fun ls hl => ?_)
    refine lv_dload hx hb dX7_size_47 (lv_at hl 0 rfl) ?_
    refine lv_dload_n hx hb dX7_size_49 rfl (lv_at hl 3 rfl) ?_
    refine xcmp_g_ge (tgt := 59) hx hb (vq_rf _) (vq_rf _) dX7_size_50 dX7_size_51 (by decide) (fun c_4 => ?_) (fun c_4 => ?_)
    · refine lv_dload_n hx hb dX7_size_59 rfl (lv_at hl 3 rfl) ?_
      refine lv_dstore_n (lv' := [(3, .double (pLow co x ax j)), (8, .double (co (((32 * x) + (2 * (j + 1))) + ax))), (7, .int (nI (j + 1))), (5, .double (pHigh co x ax j)), (0, .ref m0), (1, .int (nI x)), (2, .int (nI ax))]) hx hb dX7_size_60 rfl hl (by decide) rfl (fun ls hl => ?_)
      refine lv_dload hx hb dX7_size_61 (lv_at hl 1 rfl) ?_
      refine lv_dload hx hb dX7_size_63 (lv_at hl 3 rfl) ?_
      refine xcmp_l_le (tgt := 74) hx hb (vq_rf _) (vq_rf _) dX7_size_65 dX7_size_66 (by decide) (fun c_5 => ?_) (fun c_5 => ?_)
      · refine lv_dload hx hb dX7_size_74 (lv_at hl 3 rfl) ?_
        refine lv_dstore (lv' := [(5, .double (pHigh co x ax j)), (3, .double (pLow co x ax j)), (8, .double (co (((32 * x) + (2 * (j + 1))) + ax))), (7, .int (nI (j + 1))), (0, .ref m0), (1, .int (nI x)), (2, .int (nI ax))]) hx hb dX7_size_76 hl (by decide) rfl (fun ls hl => ?_)
        refine xiincN (x := j + 1) (y := 1) (lv' := [(7, .int (nI ((j + 1) + 1))), (5, .double (pHigh co x ax j)), (3, .double (pLow co x ax j)), (8, .double (co (((32 * x) + (2 * (j + 1))) + ax))), (0, .ref m0), (1, .int (nI x)), (2, .int (nI ax))]) hx hb dX7_size_78 hl (k := 3) rfl (by decide) (by decide) rfl (fun ls hl => ?_)
        refine lv_goto (tgt := 18) hx hb dX7_size_81 (by decide) ?_
        exact ih (j + 1) _ d0 ls (by omega) hS hd0 (by first | (rw [pLow_t c_4, pHigh_t c_5]; exact lv_sub hl [0, 1, 2, 4, 5, 6] rfl) | (rw [pLow_t c_4, pHigh_f c_5]; exact lv_sub hl [0, 1, 2, 4, 5, 6] rfl) | (rw [pLow_f c_4, pHigh_t c_5]; exact lv_sub hl [0, 1, 2, 4, 5, 6] rfl) | (rw [pLow_f c_4, pHigh_f c_5]; exact lv_sub hl [0, 1, 2, 4, 5, 6] rfl))
      · refine lv_dload hx hb dX7_size_69 (lv_at hl 1 rfl) ?_
        refine lv_goto (tgt := 76) hx hb dX7_size_71 (by decide) ?_
        refine lv_dstore (lv' := [(5, .double (co (((32 * x) + (2 * (j + 1))) + ax))), (3, .double (pLow co x ax j)), (8, .double (co (((32 * x) + (2 * (j + 1))) + ax))), (7, .int (nI (j + 1))), (0, .ref m0), (1, .int (nI x)), (2, .int (nI ax))]) hx hb dX7_size_76 hl (by decide) rfl (fun ls hl => ?_)
        refine xiincN (x := j + 1) (y := 1) (lv' := [(7, .int (nI ((j + 1) + 1))), (5, .double (co (((32 * x) + (2 * (j + 1))) + ax))), (3, .double (pLow co x ax j)), (8, .double (co (((32 * x) + (2 * (j + 1))) + ax))), (0, .ref m0), (1, .int (nI x)), (2, .int (nI ax))]) hx hb dX7_size_78 hl (k := 3) rfl (by decide) (by decide) rfl (fun ls hl => ?_)
        refine lv_goto (tgt := 18) hx hb dX7_size_81 (by decide) ?_
        exact ih (j + 1) _ d0 ls (by omega) hS hd0 (by first | (rw [pLow_t c_4, pHigh_t c_5]; exact lv_sub hl [0, 1, 2, 4, 5, 6] rfl) | (rw [pLow_t c_4, pHigh_f c_5]; exact lv_sub hl [0, 1, 2, 4, 5, 6] rfl) | (rw [pLow_f c_4, pHigh_t c_5]; exact lv_sub hl [0, 1, 2, 4, 5, 6] rfl) | (rw [pLow_f c_4, pHigh_f c_5]; exact lv_sub hl [0, 1, 2, 4, 5, 6] rfl))
    · refine lv_dload hx hb dX7_size_54 (lv_at hl 0 rfl) ?_
      refine lv_goto (tgt := 60) hx hb dX7_size_56 (by decide) ?_
      refine lv_dstore_n (lv' := [(3, .double (co (((32 * x) + (2 * (j + 1))) + ax))), (8, .double (co (((32 * x) + (2 * (j + 1))) + ax))), (7, .int (nI (j + 1))), (5, .double (pHigh co x ax j)), (0, .ref m0), (1, .int (nI x)), (2, .int (nI ax))]) hx hb dX7_size_60 rfl hl (by decide) rfl (fun ls hl => ?_)
      refine lv_dload hx hb dX7_size_61 (lv_at hl 1 rfl) ?_
      refine lv_dload hx hb dX7_size_63 (lv_at hl 3 rfl) ?_
      refine xcmp_l_le (tgt := 74) hx hb (vq_rf _) (vq_rf _) dX7_size_65 dX7_size_66 (by decide) (fun c_6 => ?_) (fun c_6 => ?_)
      · refine lv_dload hx hb dX7_size_74 (lv_at hl 3 rfl) ?_
        refine lv_dstore (lv' := [(5, .double (pHigh co x ax j)), (3, .double (co (((32 * x) + (2 * (j + 1))) + ax))), (8, .double (co (((32 * x) + (2 * (j + 1))) + ax))), (7, .int (nI (j + 1))), (0, .ref m0), (1, .int (nI x)), (2, .int (nI ax))]) hx hb dX7_size_76 hl (by decide) rfl (fun ls hl => ?_)
        refine xiincN (x := j + 1) (y := 1) (lv' := [(7, .int (nI ((j + 1) + 1))), (5, .double (pHigh co x ax j)), (3, .double (co (((32 * x) + (2 * (j + 1))) + ax))), (8, .double (co (((32 * x) + (2 * (j + 1))) + ax))), (0, .ref m0), (1, .int (nI x)), (2, .int (nI ax))]) hx hb dX7_size_78 hl (k := 3) rfl (by decide) (by decide) rfl (fun ls hl => ?_)
        refine lv_goto (tgt := 18) hx hb dX7_size_81 (by decide) ?_
        exact ih (j + 1) _ d0 ls (by omega) hS hd0 (by first | (rw [pLow_t c_4, pHigh_t c_6]; exact lv_sub hl [0, 1, 2, 4, 5, 6] rfl) | (rw [pLow_t c_4, pHigh_f c_6]; exact lv_sub hl [0, 1, 2, 4, 5, 6] rfl) | (rw [pLow_f c_4, pHigh_t c_6]; exact lv_sub hl [0, 1, 2, 4, 5, 6] rfl) | (rw [pLow_f c_4, pHigh_f c_6]; exact lv_sub hl [0, 1, 2, 4, 5, 6] rfl))
      · refine lv_dload hx hb dX7_size_69 (lv_at hl 1 rfl) ?_
        refine lv_goto (tgt := 76) hx hb dX7_size_71 (by decide) ?_
        refine lv_dstore (lv' := [(5, .double (co (((32 * x) + (2 * (j + 1))) + ax))), (3, .double (co (((32 * x) + (2 * (j + 1))) + ax))), (8, .double (co (((32 * x) + (2 * (j + 1))) + ax))), (7, .int (nI (j + 1))), (0, .ref m0), (1, .int (nI x)), (2, .int (nI ax))]) hx hb dX7_size_76 hl (by decide) rfl (fun ls hl => ?_)
        refine xiincN (x := j + 1) (y := 1) (lv' := [(7, .int (nI ((j + 1) + 1))), (5, .double (co (((32 * x) + (2 * (j + 1))) + ax))), (3, .double (co (((32 * x) + (2 * (j + 1))) + ax))), (8, .double (co (((32 * x) + (2 * (j + 1))) + ax))), (0, .ref m0), (1, .int (nI x)), (2, .int (nI ax))]) hx hb dX7_size_78 hl (k := 3) rfl (by decide) (by decide) rfl (fun ls hl => ?_)
        refine lv_goto (tgt := 18) hx hb dX7_size_81 (by decide) ?_
        exact ih (j + 1) _ d0 ls (by omega) hS hd0 (by first | (rw [pLow_t c_4, pHigh_t c_6]; exact lv_sub hl [0, 1, 2, 4, 5, 6] rfl) | (rw [pLow_t c_4, pHigh_f c_6]; exact lv_sub hl [0, 1, 2, 4, 5, 6] rfl) | (rw [pLow_f c_4, pHigh_t c_6]; exact lv_sub hl [0, 1, 2, 4, 5, 6] rfl) | (rw [pLow_f c_4, pHigh_f c_6]; exact lv_sub hl [0, 1, 2, 4, 5, 6] rfl))
/-- butts of two strips (or of one) are at least n frames apart -/
def pKp (bu : Nat → Int32) (x t n f g : Nat) : Prop := ¬ bu (8 * x + f) = 0 → ¬ bu (8 * t + g) = 0 → (¬ x = t ∨ ¬ f = g) → n ≤ (if f < g then g - f else f - g)
def pKeeps (bu : Nat → Int32) (F x t n : Nat) : Prop := ∀ f : Nat, f < F → ∀ g : Nat, g < F → pKp bu x t n f g
theorem pKeeps_s {bu : Nat → Int32} {F x t n f : Nat} (h : ∀ f' : Nat, f' < f → ∀ g : Nat, g < F → pKp bu x t n f' g) (h2 : ∀ g : Nat, g < F → pKp bu x t n f g) : ∀ f' : Nat, f' < f + 1 → ∀ g : Nat, g < F → pKp bu x t n f' g := fun f' hf' => (Nat.lt_succ_iff_lt_or_eq.mp hf').elim (fun z => h f' z) (fun z => by rw [z]; exact h2)
theorem xP_nz (p : Prop) : narrow .boolean (.int (xP p)) = .int (xP p) := by
  by_cases h : p
  · rw [xP_t h]; decide
  · rw [xP_f h]; decide
theorem pAp_lt {f g : Nat} (hf : f < 100) (hg : g < 100) : (if f < g then g - f else f - g) < 2 ^ 31 := by
  split <;> omega
theorem pKp_all1 {bu : Nat → Int32} {F x t n f g : Nat} (h : (∀ f9 : Nat, f9 < f → ∀ g9 : Nat, g9 < F → pKp bu x t n f9 g9) ∧ ∀ g9 : Nat, g9 < g → pKp bu x t n f g9) (h2 : ¬ ((¬ bu (8 * x + f) = 0 ∧ ¬ bu (8 * t + g) = 0) ∧ (¬ x = t ∨ ¬ f = g))) : (∀ f9 : Nat, f9 < f → ∀ g9 : Nat, g9 < F → pKp bu x t n f9 g9) ∧ ∀ g9 : Nat, g9 < g + 1 → pKp bu x t n f g9 :=
  ⟨h.1, fun g9 hg9 => (Nat.lt_succ_iff_lt_or_eq.mp hg9).elim (fun z => h.2 g9 z) (fun z => by rw [z]; exact fun a b e => absurd ⟨⟨a, b⟩, e⟩ h2)⟩
theorem pKp_all2 {bu : Nat → Int32} {F x t n f g : Nat} (h : (∀ f9 : Nat, f9 < f → ∀ g9 : Nat, g9 < F → pKp bu x t n f9 g9) ∧ ∀ g9 : Nat, g9 < g → pKp bu x t n f g9) (h2 : n ≤ (if f < g then g - f else f - g)) : (∀ f9 : Nat, f9 < f → ∀ g9 : Nat, g9 < F → pKp bu x t n f9 g9) ∧ ∀ g9 : Nat, g9 < g + 1 → pKp bu x t n f g9 :=
  ⟨h.1, fun g9 hg9 => (Nat.lt_succ_iff_lt_or_eq.mp hg9).elim (fun z => h.2 g9 z) (fun z => by rw [z]; exact fun _ _ _ => h2)⟩
theorem dX7_keeps_0 : decode cX7_keeps 0 = .ok (.iconst 1, 1) := by decide +kernel
theorem dX7_keeps_1 : decode cX7_keeps 1 = .ok (.istore 4, 2) := by decide +kernel
theorem dX7_keeps_3 : decode cX7_keeps 3 = .ok (.iconst 0, 1) := by decide +kernel
theorem dX7_keeps_4 : decode cX7_keeps 4 = .ok (.istore 5, 2) := by decide +kernel
theorem dX7_keeps_6 : decode cX7_keeps 6 = .ok (.iload 5, 2) := by decide +kernel
theorem dX7_keeps_8 : decode cX7_keeps 8 = .ok (.aload_n 0, 1) := by decide +kernel
theorem dX7_keeps_9 : decode cX7_keeps 9 = .ok (.getfield 45, 3) := by decide +kernel
theorem dX7_keeps_12 : decode cX7_keeps 12 = .ok (.if_icmp .ge 121, 3) := by decide +kernel
theorem dX7_keeps_15 : decode cX7_keeps 15 = .ok (.iconst 0, 1) := by decide +kernel
theorem dX7_keeps_16 : decode cX7_keeps 16 = .ok (.istore 6, 2) := by decide +kernel
theorem dX7_keeps_18 : decode cX7_keeps 18 = .ok (.iload 6, 2) := by decide +kernel
theorem dX7_keeps_20 : decode cX7_keeps 20 = .ok (.aload_n 0, 1) := by decide +kernel
theorem dX7_keeps_21 : decode cX7_keeps 21 = .ok (.getfield 45, 3) := by decide +kernel
theorem dX7_keeps_24 : decode cX7_keeps 24 = .ok (.if_icmp .ge 103, 3) := by decide +kernel
theorem dX7_keeps_27 : decode cX7_keeps 27 = .ok (.aload_n 0, 1) := by decide +kernel
theorem dX7_keeps_28 : decode cX7_keeps 28 = .ok (.getfield 23, 3) := by decide +kernel
theorem dX7_keeps_31 : decode cX7_keeps 31 = .ok (.bipush 8, 2) := by decide +kernel
theorem dX7_keeps_33 : decode cX7_keeps 33 = .ok (.iload_n 1, 1) := by decide +kernel
theorem dX7_keeps_34 : decode cX7_keeps 34 = .ok (.imul, 1) := by decide +kernel
theorem dX7_keeps_35 : decode cX7_keeps 35 = .ok (.iload 5, 2) := by decide +kernel
theorem dX7_keeps_37 : decode cX7_keeps 37 = .ok (.iadd, 1) := by decide +kernel
theorem dX7_keeps_38 : decode cX7_keeps 38 = .ok (.baload, 1) := by decide +kernel
theorem dX7_keeps_39 : decode cX7_keeps 39 = .ok (.ifCond .eq 34, 3) := by decide +kernel
theorem dX7_keeps_42 : decode cX7_keeps 42 = .ok (.aload_n 0, 1) := by decide +kernel
theorem dX7_keeps_43 : decode cX7_keeps 43 = .ok (.getfield 23, 3) := by decide +kernel
theorem dX7_keeps_46 : decode cX7_keeps 46 = .ok (.bipush 8, 2) := by decide +kernel
theorem dX7_keeps_48 : decode cX7_keeps 48 = .ok (.iload_n 2, 1) := by decide +kernel
theorem dX7_keeps_49 : decode cX7_keeps 49 = .ok (.imul, 1) := by decide +kernel
theorem dX7_keeps_50 : decode cX7_keeps 50 = .ok (.iload 6, 2) := by decide +kernel
theorem dX7_keeps_52 : decode cX7_keeps 52 = .ok (.iadd, 1) := by decide +kernel
theorem dX7_keeps_53 : decode cX7_keeps 53 = .ok (.baload, 1) := by decide +kernel
theorem dX7_keeps_54 : decode cX7_keeps 54 = .ok (.ifCond .eq 19, 3) := by decide +kernel
theorem dX7_keeps_57 : decode cX7_keeps 57 = .ok (.iload_n 1, 1) := by decide +kernel
theorem dX7_keeps_58 : decode cX7_keeps 58 = .ok (.iload_n 2, 1) := by decide +kernel
theorem dX7_keeps_59 : decode cX7_keeps 59 = .ok (.if_icmp .ne 10, 3) := by decide +kernel
theorem dX7_keeps_62 : decode cX7_keeps 62 = .ok (.iload 5, 2) := by decide +kernel
theorem dX7_keeps_64 : decode cX7_keeps 64 = .ok (.iload 6, 2) := by decide +kernel
theorem dX7_keeps_66 : decode cX7_keeps 66 = .ok (.if_icmp .eq 7, 3) := by decide +kernel
theorem dX7_keeps_69 : decode cX7_keeps 69 = .ok (.iconst 1, 1) := by decide +kernel
theorem dX7_keeps_70 : decode cX7_keeps 70 = .ok (.goto 4, 3) := by decide +kernel
theorem dX7_keeps_73 : decode cX7_keeps 73 = .ok (.iconst 0, 1) := by decide +kernel
theorem dX7_keeps_74 : decode cX7_keeps 74 = .ok (.istore 7, 2) := by decide +kernel
theorem dX7_keeps_76 : decode cX7_keeps 76 = .ok (.iload 5, 2) := by decide +kernel
theorem dX7_keeps_78 : decode cX7_keeps 78 = .ok (.iload 6, 2) := by decide +kernel
theorem dX7_keeps_80 : decode cX7_keeps 80 = .ok (.if_icmp .ge 11, 3) := by decide +kernel
theorem dX7_keeps_83 : decode cX7_keeps 83 = .ok (.iload 6, 2) := by decide +kernel
theorem dX7_keeps_85 : decode cX7_keeps 85 = .ok (.iload 5, 2) := by decide +kernel
theorem dX7_keeps_87 : decode cX7_keeps 87 = .ok (.isub, 1) := by decide +kernel
theorem dX7_keeps_88 : decode cX7_keeps 88 = .ok (.goto 8, 3) := by decide +kernel
theorem dX7_keeps_91 : decode cX7_keeps 91 = .ok (.iload 5, 2) := by decide +kernel
theorem dX7_keeps_93 : decode cX7_keeps 93 = .ok (.iload 6, 2) := by decide +kernel
theorem dX7_keeps_95 : decode cX7_keeps 95 = .ok (.isub, 1) := by decide +kernel
theorem dX7_keeps_96 : decode cX7_keeps 96 = .ok (.istore 8, 2) := by decide +kernel
theorem dX7_keeps_98 : decode cX7_keeps 98 = .ok (.iload 4, 2) := by decide +kernel
theorem dX7_keeps_100 : decode cX7_keeps 100 = .ok (.ifCond .eq 18, 3) := by decide +kernel
theorem dX7_keeps_103 : decode cX7_keeps 103 = .ok (.iload 7, 2) := by decide +kernel
theorem dX7_keeps_105 : decode cX7_keeps 105 = .ok (.ifCond .eq 9, 3) := by decide +kernel
theorem dX7_keeps_108 : decode cX7_keeps 108 = .ok (.iload 8, 2) := by decide +kernel
theorem dX7_keeps_110 : decode cX7_keeps 110 = .ok (.iload_n 3, 1) := by decide +kernel
theorem dX7_keeps_111 : decode cX7_keeps 111 = .ok (.if_icmp .lt 7, 3) := by decide +kernel
theorem dX7_keeps_114 : decode cX7_keeps 114 = .ok (.iconst 1, 1) := by decide +kernel
theorem dX7_keeps_115 : decode cX7_keeps 115 = .ok (.goto 4, 3) := by decide +kernel
theorem dX7_keeps_118 : decode cX7_keeps 118 = .ok (.iconst 0, 1) := by decide +kernel
theorem dX7_keeps_119 : decode cX7_keeps 119 = .ok (.istore 4, 2) := by decide +kernel
theorem dX7_keeps_121 : decode cX7_keeps 121 = .ok (.iinc 6 1, 3) := by decide +kernel
theorem dX7_keeps_124 : decode cX7_keeps 124 = .ok (.goto (-106), 3) := by decide +kernel
theorem dX7_keeps_127 : decode cX7_keeps 127 = .ok (.iinc 5 1, 3) := by decide +kernel
theorem dX7_keeps_130 : decode cX7_keeps 130 = .ok (.goto (-124), 3) := by decide +kernel
theorem dX7_keeps_133 : decode cX7_keeps 133 = .ok (.iload 4, 2) := by decide +kernel
theorem dX7_keeps_135 : decode cX7_keeps 135 = .ok (.ireturn, 1) := by decide +kernel
abbrev rm_X7_keeps : Room := { frames := 5, cells := 0, slots := 0, locals := 40 }
theorem hw_X7_keeps_1 : (Cond.fieldLink RX7 45 "PlankUnrollModel" "frames" "I") ∈ wsX7_keeps := List.mem_of_getElem? (i := 1) rfl
theorem hw_X7_keeps_2 : (Cond.fieldLink RX7 23 "PlankUnrollModel" "butts" "[Z") ∈ wsX7_keeps := List.mem_of_getElem? (i := 2) rfl
theorem in_X7_keeps_X7 : ∀ w ∈ wsX70, w ∈ wsX7_keeps := by decide +kernel
set_option maxHeartbeats 4000000 in
set_option maxRecDepth 100000 in
/-- whether butts keep a span -/
theorem c_X7_keeps {l : Launch} {G : va_G} {ty : Nat → ClassId} {b0 : Nat} {H : Heap} {m0 : Nat} {A : Nat → Nat} {th : Int32} {F R nb : Nat} {pl co dr wi hi fa : Nat → UInt64} {un bu fc lo la : Nat → Int32} {px py pz : UInt64} (hY : xRef G ty m0 A th F R pl un co dr bu nb wi hi fc fa lo la px py pz H) (hZ : xSz F R) {x t n : Nat} (hx9 : x < R - 1) (ht9 : t < R) (hn : n < 100) : xMet l yX7_keeps wsX7_keeps rm_X7_keeps G ty b0 [.ref m0, .int (nI x), .int (nI t), .int (nI n)] H (fun v H1 => H = H1 ∧ v = some (.int (xP (pKeeps bu F x t n)))) (fun _ _ => False) := by
  refine xbody (cc := cX7_keeps) (maxL := 9) (ret := (some .boolean)) (C := RX7) (lv := [(0, .ref m0), (1, .int (nI x)), (2, .int (nI t)), (3, .int (nI n))]) (by decide) rfl rfl (Nat.le_of_ble_eq_true rfl) rfl ?_
  intro p e s m below meth c d0 hx hb hr hts hown hlocks hml hxt hnm0 hK hb0 hH0 hS hd0 ls hl
  obtain ⟨y_o, y_0, y_1, y_2, y_3, y_4, y_5, y_6, y_7, y_8, y_9, y_10⟩ := id hY
  obtain ⟨⟨zF2, zF8⟩, ⟨zR2, zR8⟩⟩ := id hZ
  refine lv_iconst (v := nI 1) hx hb dX7_keeps_0 (by decide) ?_
  refine lv_istore (lv' := [(4, .int (nI 1)), (0, .ref m0), (1, .int (nI x)), (2, .int (nI t)), (3, .int (nI n))]) hx hb dX7_keeps_1 hl (by decide) rfl (fun ls hl => ?_)
  refine lv_iconst (v := nI 0) hx hb dX7_keeps_3 (by decide) ?_
  refine lv_istore (lv' := [(5, .int (nI 0)), (4, .int (nI 1)), (0, .ref m0), (1, .int (nI x)), (2, .int (nI t)), (3, .int (nI n))]) hx hb dX7_keeps_4 hl (by decide) rfl (fun ls hl => ?_)
  have e0 : nI 1 = xP (∀ f9 : Nat, f9 < 0 → ∀ g9 : Nat, g9 < F → pKp bu x t n f9 g9) := (xP_t (fun _ h => absurd h (Nat.not_lt_zero _))).symm
  suffices K : ∀ (k : Nat) (f : Nat) (locs : List Loc) (d0 : Drawn) (ls : Array Slot), f + k = F → va_S (xA b0) s.heap H locs → s.drawn.sameBut d0 lw_cs → lv_has ls 9 [(5, .int (nI f)), (4, .int (xP (∀ f9 : Nat, f9 < f → ∀ g9 : Nat, g9 < F → pKp bu x t n f9 g9))), (0, .ref m0), (1, .int (nI x)), (2, .int (nI t)), (3, .int (nI n))] → W p l e rm_X7_keeps (s.setDrawn d0) m [Value.ref m0, Value.int (nI x), Value.int (nI t), Value.int (nI n)].toArray below meth c H locs (0) (0) (xMQ below (fun v H1 => H = H1 ∧ v = some (.int (xP (pKeeps bu F x t n)))) (fun _ _ => False) [.ref m0, .int (nI x), .int (nI t), .int (nI n)].toArray s rm_X7_keeps b0) (F0 m 6 ls []) from K F 0 _ d0 ls (by omega) hS hd0 (by rw [← e0]; exact lv_sub hl [0, 1, 2, 3, 4, 5] rfl)
  intro k
  induction k with
  | zero =>
    intro f locs d0 ls hinv hS hd0 hl
    refine lv_iload hx hb dX7_keeps_6 (lv_at hl 0 rfl) ?_
    refine lv_aload_n hx hb dX7_keeps_8 rfl (lv_at hl 2 rfl) ?_
    refine va_get (D := G) (cl := vwCl) (ci := 8) (v := .int (nI F)) (C := RX7) (T := TX7) (N := 18) hx hb (hts _) in_X7_keeps_X7 hown hK.1 (x1 y_o) 0 rfl rfl 1 (by decide) (hts _ _ hw_X7_keeps_1) (fun _ h9 => h9) rfl dX7_keeps_9 ?_
    refine xicmpN_ge (tgt := 133) hx hb (by omega) (by omega) dX7_keeps_12 (by decide) (fun _ => ?_) (fun h9 => absurd h9 (by omega))
    refine lv_iload hx hb dX7_keeps_133 (lv_at hl 1 rfl) ?_
    exact xzret (xP_nz _) hd0 hx hb hr hlocks hS (Nat.le_of_ble_eq_true rfl) (Nat.le_of_ble_eq_true rfl) dX7_keeps_135 ⟨rfl, by have e9 : f = F := (by omega); subst e9; rfl⟩
  | succ k ih =>
    intro f locs d0 ls hinv hS hd0 hl
    refine lv_iload hx hb dX7_keeps_6 (lv_at hl 0 rfl) ?_
    refine lv_aload_n hx hb dX7_keeps_8 rfl (lv_at hl 2 rfl) ?_
    refine va_get (D := G) (cl := vwCl) (ci := 8) (v := .int (nI F)) (C := RX7) (T := TX7) (N := 18) hx hb (hts _) in_X7_keeps_X7 hown hK.1 (x1 y_o) 0 rfl rfl 1 (by decide) (hts _ _ hw_X7_keeps_1) (fun _ h9 => h9) rfl dX7_keeps_9 ?_
    refine xicmpN_ge (tgt := 133) hx hb (by omega) (by omega) dX7_keeps_12 (by decide) (fun h9 => absurd h9 (by omega)) (fun _ => ?_)
    refine lv_iconst (v := nI 0) hx hb dX7_keeps_15 (by decide) ?_
    refine lv_istore (lv' := [(6, .int (nI 0)), (5, .int (nI f)), (4, .int (xP (∀ f9 : Nat, f9 < f → ∀ g9 : Nat, g9 < F → pKp bu x t n f9 g9))), (0, .ref m0), (1, .int (nI x)), (2, .int (nI t)), (3, .int (nI n))]) hx hb dX7_keeps_16 hl (by decide) rfl (fun ls hl => ?_)
    have e1 : xP (∀ f9 : Nat, f9 < f → ∀ g9 : Nat, g9 < F → pKp bu x t n f9 g9) = xP ((∀ f9 : Nat, f9 < f → ∀ g9 : Nat, g9 < F → pKp bu x t n f9 g9) ∧ ∀ g9 : Nat, g9 < 0 → pKp bu x t n f g9) := xP_cg ⟨fun h => ⟨h, fun _ h => absurd h (Nat.not_lt_zero _)⟩, fun h => h.1⟩
    suffices K : ∀ (q : Nat) (g : Nat) (locs : List Loc) (d0 : Drawn) (ls : Array Slot), g + q = F → va_S (xA b0) s.heap H locs → s.drawn.sameBut d0 lw_cs → lv_has ls 9 [(6, .int (nI g)), (4, .int (xP ((∀ f9 : Nat, f9 < f → ∀ g9 : Nat, g9 < F → pKp bu x t n f9 g9) ∧ ∀ g9 : Nat, g9 < g → pKp bu x t n f g9))), (5, .int (nI f)), (0, .ref m0), (1, .int (nI x)), (2, .int (nI t)), (3, .int (nI n))] → W p l e rm_X7_keeps (s.setDrawn d0) m [Value.ref m0, Value.int (nI x), Value.int (nI t), Value.int (nI n)].toArray below meth c H locs (0) (0) (xMQ below (fun v H1 => H = H1 ∧ v = some (.int (xP (pKeeps bu F x t n)))) (fun _ _ => False) [.ref m0, .int (nI x), .int (nI t), .int (nI n)].toArray s rm_X7_keeps b0) (F0 m 18 ls []) from K F 0 _ d0 ls (by omega) hS hd0 (by rw [← e1]; exact lv_sub hl [0, 2, 1, 3, 4, 5, 6] rfl)
    intro q
    induction q with
    | zero =>
      intro g locs d0 ls hinv hS hd0 hl
      refine lv_iload hx hb dX7_keeps_18 (lv_at hl 0 rfl) ?_
      refine lv_aload_n hx hb dX7_keeps_20 rfl (lv_at hl 3 rfl) ?_
      refine va_get (D := G) (cl := vwCl) (ci := 8) (v := .int (nI F)) (C := RX7) (T := TX7) (N := 18) hx hb (hts _) in_X7_keeps_X7 hown hK.1 (x1 y_o) 0 rfl rfl 1 (by decide) (hts _ _ hw_X7_keeps_1) (fun _ h9 => h9) rfl dX7_keeps_21 ?_
      refine xicmpN_ge (tgt := 127) hx hb (by omega) (by omega) dX7_keeps_24 (by decide) (fun _ => ?_) (fun h9 => absurd h9 (by omega))
      refine xiincN (x := f) (y := 1) (lv' := [(5, .int (nI (f + 1))), (6, .int (nI g)), (4, .int (xP ((∀ f9 : Nat, f9 < f → ∀ g9 : Nat, g9 < F → pKp bu x t n f9 g9) ∧ ∀ g9 : Nat, g9 < g → pKp bu x t n f g9))), (0, .ref m0), (1, .int (nI x)), (2, .int (nI t)), (3, .int (nI n))]) hx hb dX7_keeps_127 hl (k := 2) rfl (by decide) (by decide) rfl (fun ls hl => ?_)
      refine lv_goto (tgt := 6) hx hb dX7_keeps_130 (by decide) ?_
      refine ih (f + 1) _ d0 ls (by omega) hS hd0 ?_
      rw [show xP (∀ f9 : Nat, f9 < f + 1 → ∀ g9 : Nat, g9 < F → pKp bu x t n f9 g9) = xP ((∀ f9 : Nat, f9 < f → ∀ g9 : Nat, g9 < F → pKp bu x t n f9 g9) ∧ ∀ g9 : Nat, g9 < g → pKp bu x t n f g9) from xP_cg ⟨fun h => ⟨fun f9 hf9 => h f9 (by omega), fun g9 hg9 => h f (by omega) g9 (by omega)⟩, fun h => pKeeps_s h.1 (fun g9 hg9 => h.2 g9 (by omega))⟩]
      exact lv_sub hl [0, 2, 3, 4, 5, 6] rfl
    | succ q ih2 =>
      intro g locs d0 ls hinv hS hd0 hl
      refine lv_iload hx hb dX7_keeps_18 (lv_at hl 0 rfl) ?_
      refine lv_aload_n hx hb dX7_keeps_20 rfl (lv_at hl 3 rfl) ?_
      refine va_get (D := G) (cl := vwCl) (ci := 8) (v := .int (nI F)) (C := RX7) (T := TX7) (N := 18) hx hb (hts _) in_X7_keeps_X7 hown hK.1 (x1 y_o) 0 rfl rfl 1 (by decide) (hts _ _ hw_X7_keeps_1) (fun _ h9 => h9) rfl dX7_keeps_21 ?_
      refine xicmpN_ge (tgt := 127) hx hb (by omega) (by omega) dX7_keeps_24 (by decide) (fun h9 => absurd h9 (by omega)) (fun _ => ?_)
      have J_5 : ∀ (y : Int32) (locs : List Loc) (d0 : Drawn) (ls : Array Slot), y = (xP ((∀ f9 : Nat, f9 < f → ∀ g9 : Nat, g9 < F → pKp bu x t n f9 g9) ∧ ∀ g9 : Nat, g9 < g + 1 → pKp bu x t n f g9)) → va_S (xA b0) s.heap H locs → s.drawn.sameBut d0 lw_cs → lv_has ls 9 [(6, .int (nI g)), (4, .int (xP ((∀ f9 : Nat, f9 < f → ∀ g9 : Nat, g9 < F → pKp bu x t n f9 g9) ∧ ∀ g9 : Nat, g9 < g → pKp bu x t n f g9))), (5, .int (nI f)), (0, .ref m0), (1, .int (nI x)), (2, .int (nI t)), (3, .int (nI n))] → W p l e rm_X7_keeps (s.setDrawn d0) m [Value.ref m0, Value.int (nI x), Value.int (nI t), Value.int (nI n)].toArray below meth c H locs (0) (0) (xMQ below (fun v H1 => H = H1 ∧ v = some (.int (xP (pKeeps bu F x t n)))) (fun _ _ => False) [.ref m0, .int (nI x), .int (nI t), .int (nI n)].toArray s rm_X7_keeps b0) (F0 m 119 ls [.int (y)]) := by
        intro y locs d0 ls hP_5 hS hd0 hl
        subst hP_5
        refine lv_istore (lv' := [(4, .int ((xP ((∀ f9 : Nat, f9 < f → ∀ g9 : Nat, g9 < F → pKp bu x t n f9 g9) ∧ ∀ g9 : Nat, g9 < g + 1 → pKp bu x t n f g9)))), (6, .int (nI g)), (5, .int (nI f)), (0, .ref m0), (1, .int (nI x)), (2, .int (nI t)), (3, .int (nI n))]) hx hb dX7_keeps_119 hl (by decide) rfl (fun ls hl => ?_)
        refine xiincN (x := g) (y := 1) (lv' := [(6, .int (nI (g + 1))), (4, .int ((xP ((∀ f9 : Nat, f9 < f → ∀ g9 : Nat, g9 < F → pKp bu x t n f9 g9) ∧ ∀ g9 : Nat, g9 < g + 1 → pKp bu x t n f g9)))), (5, .int (nI f)), (0, .ref m0), (1, .int (nI x)), (2, .int (nI t)), (3, .int (nI n))]) hx hb dX7_keeps_121 hl (k := 1) rfl (by decide) (by decide) rfl (fun ls hl => ?_)
        refine lv_goto (tgt := 18) hx hb dX7_keeps_124 (by decide) ?_
        exact ih2 (g + 1) _ d0 ls (by omega) hS hd0 (lv_sub hl [0, 1, 2, 3, 4, 5, 6] rfl)
      have J_6 : ∀ (y : Int32) (locs : List Loc) (d0 : Drawn) (ls : Array Slot), y = (nI (if f < g then g - f else f - g)) → va_S (xA b0) s.heap H locs → s.drawn.sameBut d0 lw_cs → lv_has ls 9 [(7, .int (xP ((¬ bu (8 * x + f) = 0 ∧ ¬ bu (8 * t + g) = 0) ∧ (¬ x = t ∨ ¬ f = g)))), (6, .int (nI g)), (4, .int (xP ((∀ f9 : Nat, f9 < f → ∀ g9 : Nat, g9 < F → pKp bu x t n f9 g9) ∧ ∀ g9 : Nat, g9 < g → pKp bu x t n f g9))), (5, .int (nI f)), (0, .ref m0), (1, .int (nI x)), (2, .int (nI t)), (3, .int (nI n))] → W p l e rm_X7_keeps (s.setDrawn d0) m [Value.ref m0, Value.int (nI x), Value.int (nI t), Value.int (nI n)].toArray below meth c H locs (0) (0) (xMQ below (fun v H1 => H = H1 ∧ v = some (.int (xP (pKeeps bu F x t n)))) (fun _ _ => False) [.ref m0, .int (nI x), .int (nI t), .int (nI n)].toArray s rm_X7_keeps b0) (F0 m 96 ls [.int (y)]) := by
        intro y locs d0 ls hP_6 hS hd0 hl
        subst hP_6
        refine lv_istore (lv' := [(8, .int ((nI (if f < g then g - f else f - g)))), (7, .int (xP ((¬ bu (8 * x + f) = 0 ∧ ¬ bu (8 * t + g) = 0) ∧ (¬ x = t ∨ ¬ f = g)))), (6, .int (nI g)), (4, .int (xP ((∀ f9 : Nat, f9 < f → ∀ g9 : Nat, g9 < F → pKp bu x t n f9 g9) ∧ ∀ g9 : Nat, g9 < g → pKp bu x t n f g9))), (5, .int (nI f)), (0, .ref m0), (1, .int (nI x)), (2, .int (nI t)), (3, .int (nI n))]) hx hb dX7_keeps_96 hl (by decide) rfl (fun ls hl => ?_)
        refine lv_iload hx hb dX7_keeps_98 (lv_at hl 3 rfl) ?_
        refine lv_if_eq (tgt := 118) hx hb dX7_keeps_100 (by decide) (fun c_7 => ?_) (fun c_7 => ?_)
        · refine lv_iconst (v := nI 0) hx hb dX7_keeps_118 (by decide) ?_
          exact J_5 _ _ d0 ls (xP_f (fun h => xP_eq.mp c_7 ⟨h.1, fun g9 hg9 => h.2 g9 (by omega)⟩)).symm hS hd0 (lv_sub hl [2, 3, 4, 5, 6, 7, 8] rfl)
        · refine lv_iload hx hb dX7_keeps_103 (lv_at hl 1 rfl) ?_
          refine lv_if_eq (tgt := 114) hx hb dX7_keeps_105 (by decide) (fun c_8 => ?_) (fun c_8 => ?_)
          · refine lv_iconst (v := nI 1) hx hb dX7_keeps_114 (by decide) ?_
            refine lv_goto (tgt := 119) hx hb dX7_keeps_115 (by decide) ?_
            exact J_5 _ _ d0 ls (xP_t (pKp_all1 (xP_ne.mp c_7) (xP_eq.mp c_8))).symm hS hd0 (lv_sub hl [2, 3, 4, 5, 6, 7, 8] rfl)
          · refine lv_iload hx hb dX7_keeps_108 (lv_at hl 0 rfl) ?_
            refine lv_iload_n hx hb dX7_keeps_110 rfl (lv_at hl 8 rfl) ?_
            refine xicmpN_lt (tgt := 118) hx hb (pAp_lt (by omega) (by omega)) (by omega) dX7_keeps_111 (by decide) (fun c_9 => ?_) (fun c_9 => ?_)
            · refine lv_iconst (v := nI 0) hx hb dX7_keeps_118 (by decide) ?_
              exact J_5 _ _ d0 ls (xP_f (fun h => absurd (h.2 g (by omega) (xP_ne.mp c_8).1.1 (xP_ne.mp c_8).1.2 (xP_ne.mp c_8).2) (Nat.not_le.mpr c_9))).symm hS hd0 (lv_sub hl [2, 3, 4, 5, 6, 7, 8] rfl)
            · refine lv_iconst (v := nI 1) hx hb dX7_keeps_114 (by decide) ?_
              refine lv_goto (tgt := 119) hx hb dX7_keeps_115 (by decide) ?_
              exact J_5 _ _ d0 ls (xP_t (pKp_all2 (xP_ne.mp c_7) c_9)).symm hS hd0 (lv_sub hl [2, 3, 4, 5, 6, 7, 8] rfl)
      have J_10 : ∀ (y : Int32) (locs : List Loc) (d0 : Drawn) (ls : Array Slot), y = (xP ((¬ bu (8 * x + f) = 0 ∧ ¬ bu (8 * t + g) = 0) ∧ (¬ x = t ∨ ¬ f = g))) → va_S (xA b0) s.heap H locs → s.drawn.sameBut d0 lw_cs → lv_has ls 9 [(6, .int (nI g)), (4, .int (xP ((∀ f9 : Nat, f9 < f → ∀ g9 : Nat, g9 < F → pKp bu x t n f9 g9) ∧ ∀ g9 : Nat, g9 < g → pKp bu x t n f g9))), (5, .int (nI f)), (0, .ref m0), (1, .int (nI x)), (2, .int (nI t)), (3, .int (nI n))] → W p l e rm_X7_keeps (s.setDrawn d0) m [Value.ref m0, Value.int (nI x), Value.int (nI t), Value.int (nI n)].toArray below meth c H locs (0) (0) (xMQ below (fun v H1 => H = H1 ∧ v = some (.int (xP (pKeeps bu F x t n)))) (fun _ _ => False) [.ref m0, .int (nI x), .int (nI t), .int (nI n)].toArray s rm_X7_keeps b0) (F0 m 74 ls [.int (y)]) := by
        intro y locs d0 ls hP_10 hS hd0 hl
        subst hP_10
        refine lv_istore (lv' := [(7, .int ((xP ((¬ bu (8 * x + f) = 0 ∧ ¬ bu (8 * t + g) = 0) ∧ (¬ x = t ∨ ¬ f = g))))), (6, .int (nI g)), (4, .int (xP ((∀ f9 : Nat, f9 < f → ∀ g9 : Nat, g9 < F → pKp bu x t n f9 g9) ∧ ∀ g9 : Nat, g9 < g → pKp bu x t n f g9))), (5, .int (nI f)), (0, .ref m0), (1, .int (nI x)), (2, .int (nI t)), (3, .int (nI n))]) hx hb dX7_keeps_74 hl (by decide) rfl (fun ls hl => ?_)
        refine lv_iload hx hb dX7_keeps_76 (lv_at hl 3 rfl) ?_
        refine lv_iload hx hb dX7_keeps_78 (lv_at hl 1 rfl) ?_
        refine xicmpN_ge (tgt := 91) hx hb (by omega) (by omega) dX7_keeps_80 (by decide) (fun c_11 => ?_) (fun c_11 => ?_)
        · refine lv_iload hx hb dX7_keeps_91 (lv_at hl 3 rfl) ?_
          refine lv_iload hx hb dX7_keeps_93 (lv_at hl 1 rfl) ?_
          refine xisubN hx hb (by assumption) dX7_keeps_95 ?_
          exact J_6 _ _ d0 ls (congrArg nI (if_neg (Nat.not_lt.mpr c_11)).symm) hS hd0 (lv_sub hl [0, 1, 2, 3, 4, 5, 6, 7] rfl)
        · refine lv_iload hx hb dX7_keeps_83 (lv_at hl 1 rfl) ?_
          refine lv_iload hx hb dX7_keeps_85 (lv_at hl 3 rfl) ?_
          refine xisubN hx hb (Nat.le_of_lt (by assumption)) dX7_keeps_87 ?_
          refine lv_goto (tgt := 96) hx hb dX7_keeps_88 (by decide) ?_
          exact J_6 _ _ d0 ls (congrArg nI (if_pos c_11).symm) hS hd0 (lv_sub hl [0, 1, 2, 3, 4, 5, 6, 7] rfl)
      refine lv_aload_n hx hb dX7_keeps_27 rfl (lv_at hl 3 rfl) ?_
      refine va_get (D := G) (cl := vwCl) (ci := 8) (v := .ref (A 4)) (C := RX7) (T := TX7) (N := 18) hx hb (hts _) in_X7_keeps_X7 hown hK.1 (x1 y_o) 0 rfl rfl 7 (by decide) (hts _ _ hw_X7_keeps_2) (fun _ h9 => h9) rfl dX7_keeps_28 ?_
      refine lv_bipush (v := nI 8) hx hb dX7_keeps_31 (by decide) ?_
      refine lv_iload_n hx hb dX7_keeps_33 rfl (lv_at hl 4 rfl) ?_
      refine ximulN hx hb dX7_keeps_34 ?_
      refine lv_iload hx hb dX7_keeps_35 (lv_at hl 2 rfl) ?_
      refine xiaddN hx hb dX7_keeps_37 ?_
      refine xzald (j := (8 * x) + f) hx hb hK.1 2 y_4 rfl (xix_of (by omega) (by omega)) dX7_keeps_38 ?_
      refine lv_if_eq (tgt := 73) hx hb dX7_keeps_39 (by decide) (fun c_12 => ?_) (fun c_12 => ?_)
      · refine lv_iconst (v := nI 0) hx hb dX7_keeps_73 (by decide) ?_
        exact J_10 _ _ d0 ls (xP_f (fun h => h.1.1 c_12)).symm hS hd0 (lv_sub hl [0, 1, 2, 3, 4, 5, 6] rfl)
      · refine lv_aload_n hx hb dX7_keeps_42 rfl (lv_at hl 3 rfl) ?_
        refine va_get (D := G) (cl := vwCl) (ci := 8) (v := .ref (A 4)) (C := RX7) (T := TX7) (N := 18) hx hb (hts _) in_X7_keeps_X7 hown hK.1 (x1 y_o) 0 rfl rfl 7 (by decide) (hts _ _ hw_X7_keeps_2) (fun _ h9 => h9) rfl dX7_keeps_43 ?_
        refine lv_bipush (v := nI 8) hx hb dX7_keeps_46 (by decide) ?_
        refine lv_iload_n hx hb dX7_keeps_48 rfl (lv_at hl 5 rfl) ?_
        refine ximulN hx hb dX7_keeps_49 ?_
        refine lv_iload hx hb dX7_keeps_50 (lv_at hl 0 rfl) ?_
        refine xiaddN hx hb dX7_keeps_52 ?_
        refine xzald (j := (8 * t) + g) hx hb hK.1 2 y_4 rfl (xix_of (by omega) (by omega)) dX7_keeps_53 ?_
        refine lv_if_eq (tgt := 73) hx hb dX7_keeps_54 (by decide) (fun c_13 => ?_) (fun c_13 => ?_)
        · refine lv_iconst (v := nI 0) hx hb dX7_keeps_73 (by decide) ?_
          exact J_10 _ _ d0 ls (xP_f (fun h => h.1.2 c_13)).symm hS hd0 (lv_sub hl [0, 1, 2, 3, 4, 5, 6] rfl)
        · refine lv_iload_n hx hb dX7_keeps_57 rfl (lv_at hl 4 rfl) ?_
          refine lv_iload_n hx hb dX7_keeps_58 rfl (lv_at hl 5 rfl) ?_
          refine xicmpN_ne (tgt := 69) hx hb (by omega) (by omega) dX7_keeps_59 (by decide) (fun c_14 => ?_) (fun c_14 => ?_)
          · refine lv_iconst (v := nI 1) hx hb dX7_keeps_69 (by decide) ?_
            refine lv_goto (tgt := 74) hx hb dX7_keeps_70 (by decide) ?_
            exact J_10 _ _ d0 ls (xP_t ⟨⟨c_12, c_13⟩, Or.inl c_14⟩).symm hS hd0 (lv_sub hl [0, 1, 2, 3, 4, 5, 6] rfl)
          · refine lv_iload hx hb dX7_keeps_62 (lv_at hl 2 rfl) ?_
            refine lv_iload hx hb dX7_keeps_64 (lv_at hl 0 rfl) ?_
            refine xicmpN_eq (tgt := 73) hx hb (by omega) (by omega) dX7_keeps_66 (by decide) (fun c_15 => ?_) (fun c_15 => ?_)
            · refine lv_iconst (v := nI 0) hx hb dX7_keeps_73 (by decide) ?_
              exact J_10 _ _ d0 ls (xP_f (fun h => h.2.elim (fun z => z c_14) (fun z => z c_15))).symm hS hd0 (lv_sub hl [0, 1, 2, 3, 4, 5, 6] rfl)
            · refine lv_iconst (v := nI 1) hx hb dX7_keeps_69 (by decide) ?_
              refine lv_goto (tgt := 74) hx hb dX7_keeps_70 (by decide) ?_
              exact J_10 _ _ d0 ls (xP_t ⟨⟨c_12, c_13⟩, Or.inr c_15⟩).symm hS hd0 (lv_sub hl [0, 1, 2, 3, 4, 5, 6] rfl)
end
section
/-! THE REFERENCE: free places on boards. -/
def pHitF (fa : Nat → UInt64) (b k : Nat) (x w h : UInt64) : Prop := xlt x (FP.dadd (fa (32 * b + 4 * k)) (fa (32 * b + 4 * k + 2))) = true ∧ xgt (FP.dadd x w) (fa (32 * b + 4 * k)) = true ∧ xlt FP.dconst0 (FP.dadd (fa (32 * b + 4 * k + 1)) (fa (32 * b + 4 * k + 3))) = true ∧ xgt h (fa (32 * b + 4 * k + 1)) = true
def pAtE (la : Nat → Int32) (t : Nat) : UInt64 := FP.ddiv (FP.i2d (la t)) 4620693217682128896
def pHitS (lo la : Nat → Int32) (co : Nat → UInt64) (F b t : Nat) (x w h : UInt64) : Prop := lo t = nI b ∧ xlt x (FP.dadd (pAtE la t) (pExt co F t 0)) = true ∧ xgt (FP.dadd x w) (pAtE la t) = true ∧ xlt FP.dconst0 (pExt co F t 1) = true ∧ xgt h FP.dconst0 = true
/-- a rectangle of w by h lies free at x on board b -/
def pOpen (fa : Nat → UInt64) (lo la : Nat → Int32) (co : Nat → UInt64) (F R b nf : Nat) (x w h : UInt64) : Prop := (∀ k : Nat, k < nf → ¬ pHitF fa b k x w h) ∧ ∀ t : Nat, t < R - 1 → ¬ pHitS lo la co F b t x w h
theorem xall_s {p : Nat → Prop} {k : Nat} (h : ∀ j : Nat, j < k → p j) (h2 : p k) : ∀ j : Nat, j < k + 1 → p j := fun j hj => (Nat.lt_succ_iff_lt_or_eq.mp hj).elim (h j) (fun z => by rw [z]; exact h2)
theorem xtf {b : Bool} (h1 : b = true) (h2 : b = false) : False := by rw [h1] at h2; cases h2
set_option maxRecDepth 20000 in
theorem ggX7_isOpen_X7_size : GoodIn wsX7_isOpen wsX7_size := goodIn_r _ [11, 12, 13, 14, 15, 16, 17, 18, 19, 20, 21, 22, 23, 24, 25, 26, 27, 28, 29, 30, 31] (by decide +kernel) (by decide +kernel)
set_option maxRecDepth 20000 in
theorem gX7_isOpen_X7_size : GoodIn wsX7_isOpen (wsV RX7 129 RX7 yX7_size wsX7_size) := goodIn_app (goodIn_of _ (by decide +kernel)) ggX7_isOpen_X7_size
theorem dX7_isOpen_0 : decode cX7_isOpen 0 = .ok (.iconst 1, 1) := by decide +kernel
theorem dX7_isOpen_1 : decode cX7_isOpen 1 = .ok (.istore 8, 2) := by decide +kernel
theorem dX7_isOpen_3 : decode cX7_isOpen 3 = .ok (.iconst 0, 1) := by decide +kernel
theorem dX7_isOpen_4 : decode cX7_isOpen 4 = .ok (.istore 9, 2) := by decide +kernel
theorem dX7_isOpen_6 : decode cX7_isOpen 6 = .ok (.iload 9, 2) := by decide +kernel
theorem dX7_isOpen_8 : decode cX7_isOpen 8 = .ok (.aload_n 0, 1) := by decide +kernel
theorem dX7_isOpen_9 : decode cX7_isOpen 9 = .ok (.getfield 32, 3) := by decide +kernel
theorem dX7_isOpen_12 : decode cX7_isOpen 12 = .ok (.iload_n 1, 1) := by decide +kernel
theorem dX7_isOpen_13 : decode cX7_isOpen 13 = .ok (.iaload, 1) := by decide +kernel
theorem dX7_isOpen_14 : decode cX7_isOpen 14 = .ok (.if_icmp .ge 108, 3) := by decide +kernel
theorem dX7_isOpen_17 : decode cX7_isOpen 17 = .ok (.bipush 32, 2) := by decide +kernel
theorem dX7_isOpen_19 : decode cX7_isOpen 19 = .ok (.iload_n 1, 1) := by decide +kernel
theorem dX7_isOpen_20 : decode cX7_isOpen 20 = .ok (.imul, 1) := by decide +kernel
theorem dX7_isOpen_21 : decode cX7_isOpen 21 = .ok (.iconst 4, 1) := by decide +kernel
theorem dX7_isOpen_22 : decode cX7_isOpen 22 = .ok (.iload 9, 2) := by decide +kernel
theorem dX7_isOpen_24 : decode cX7_isOpen 24 = .ok (.imul, 1) := by decide +kernel
theorem dX7_isOpen_25 : decode cX7_isOpen 25 = .ok (.iadd, 1) := by decide +kernel
theorem dX7_isOpen_26 : decode cX7_isOpen 26 = .ok (.istore 10, 2) := by decide +kernel
theorem dX7_isOpen_28 : decode cX7_isOpen 28 = .ok (.iload 8, 2) := by decide +kernel
theorem dX7_isOpen_30 : decode cX7_isOpen 30 = .ok (.ifCond .eq 83, 3) := by decide +kernel
theorem dX7_isOpen_33 : decode cX7_isOpen 33 = .ok (.dload_n 2, 1) := by decide +kernel
theorem dX7_isOpen_34 : decode cX7_isOpen 34 = .ok (.aload_n 0, 1) := by decide +kernel
theorem dX7_isOpen_35 : decode cX7_isOpen 35 = .ok (.getfield 36, 3) := by decide +kernel
theorem dX7_isOpen_38 : decode cX7_isOpen 38 = .ok (.iload 10, 2) := by decide +kernel
theorem dX7_isOpen_40 : decode cX7_isOpen 40 = .ok (.daload, 1) := by decide +kernel
theorem dX7_isOpen_41 : decode cX7_isOpen 41 = .ok (.aload_n 0, 1) := by decide +kernel
theorem dX7_isOpen_42 : decode cX7_isOpen 42 = .ok (.getfield 36, 3) := by decide +kernel
theorem dX7_isOpen_45 : decode cX7_isOpen 45 = .ok (.iload 10, 2) := by decide +kernel
theorem dX7_isOpen_47 : decode cX7_isOpen 47 = .ok (.iconst 2, 1) := by decide +kernel
theorem dX7_isOpen_48 : decode cX7_isOpen 48 = .ok (.iadd, 1) := by decide +kernel
theorem dX7_isOpen_49 : decode cX7_isOpen 49 = .ok (.daload, 1) := by decide +kernel
theorem dX7_isOpen_50 : decode cX7_isOpen 50 = .ok (.dadd, 1) := by decide +kernel
theorem dX7_isOpen_51 : decode cX7_isOpen 51 = .ok (.dcmp .g, 1) := by decide +kernel
theorem dX7_isOpen_52 : decode cX7_isOpen 52 = .ok (.ifCond .ge 57, 3) := by decide +kernel
theorem dX7_isOpen_55 : decode cX7_isOpen 55 = .ok (.dload_n 2, 1) := by decide +kernel
theorem dX7_isOpen_56 : decode cX7_isOpen 56 = .ok (.dload 4, 2) := by decide +kernel
theorem dX7_isOpen_58 : decode cX7_isOpen 58 = .ok (.dadd, 1) := by decide +kernel
theorem dX7_isOpen_59 : decode cX7_isOpen 59 = .ok (.aload_n 0, 1) := by decide +kernel
theorem dX7_isOpen_60 : decode cX7_isOpen 60 = .ok (.getfield 36, 3) := by decide +kernel
theorem dX7_isOpen_63 : decode cX7_isOpen 63 = .ok (.iload 10, 2) := by decide +kernel
theorem dX7_isOpen_65 : decode cX7_isOpen 65 = .ok (.daload, 1) := by decide +kernel
theorem dX7_isOpen_66 : decode cX7_isOpen 66 = .ok (.dcmp .l, 1) := by decide +kernel
theorem dX7_isOpen_67 : decode cX7_isOpen 67 = .ok (.ifCond .le 42, 3) := by decide +kernel
theorem dX7_isOpen_70 : decode cX7_isOpen 70 = .ok (.dconst 0, 1) := by decide +kernel
theorem dX7_isOpen_71 : decode cX7_isOpen 71 = .ok (.aload_n 0, 1) := by decide +kernel
theorem dX7_isOpen_72 : decode cX7_isOpen 72 = .ok (.getfield 36, 3) := by decide +kernel
theorem dX7_isOpen_75 : decode cX7_isOpen 75 = .ok (.iload 10, 2) := by decide +kernel
theorem dX7_isOpen_77 : decode cX7_isOpen 77 = .ok (.iconst 1, 1) := by decide +kernel
theorem dX7_isOpen_78 : decode cX7_isOpen 78 = .ok (.iadd, 1) := by decide +kernel
theorem dX7_isOpen_79 : decode cX7_isOpen 79 = .ok (.daload, 1) := by decide +kernel
theorem dX7_isOpen_80 : decode cX7_isOpen 80 = .ok (.aload_n 0, 1) := by decide +kernel
theorem dX7_isOpen_81 : decode cX7_isOpen 81 = .ok (.getfield 36, 3) := by decide +kernel
theorem dX7_isOpen_84 : decode cX7_isOpen 84 = .ok (.iload 10, 2) := by decide +kernel
theorem dX7_isOpen_86 : decode cX7_isOpen 86 = .ok (.iconst 3, 1) := by decide +kernel
theorem dX7_isOpen_87 : decode cX7_isOpen 87 = .ok (.iadd, 1) := by decide +kernel
theorem dX7_isOpen_88 : decode cX7_isOpen 88 = .ok (.daload, 1) := by decide +kernel
theorem dX7_isOpen_89 : decode cX7_isOpen 89 = .ok (.dadd, 1) := by decide +kernel
theorem dX7_isOpen_90 : decode cX7_isOpen 90 = .ok (.dcmp .g, 1) := by decide +kernel
theorem dX7_isOpen_91 : decode cX7_isOpen 91 = .ok (.ifCond .ge 18, 3) := by decide +kernel
theorem dX7_isOpen_94 : decode cX7_isOpen 94 = .ok (.dload 6, 2) := by decide +kernel
theorem dX7_isOpen_96 : decode cX7_isOpen 96 = .ok (.aload_n 0, 1) := by decide +kernel
theorem dX7_isOpen_97 : decode cX7_isOpen 97 = .ok (.getfield 36, 3) := by decide +kernel
theorem dX7_isOpen_100 : decode cX7_isOpen 100 = .ok (.iload 10, 2) := by decide +kernel
theorem dX7_isOpen_102 : decode cX7_isOpen 102 = .ok (.iconst 1, 1) := by decide +kernel
theorem dX7_isOpen_103 : decode cX7_isOpen 103 = .ok (.iadd, 1) := by decide +kernel
theorem dX7_isOpen_104 : decode cX7_isOpen 104 = .ok (.daload, 1) := by decide +kernel
theorem dX7_isOpen_105 : decode cX7_isOpen 105 = .ok (.dcmp .l, 1) := by decide +kernel
theorem dX7_isOpen_106 : decode cX7_isOpen 106 = .ok (.ifCond .gt 7, 3) := by decide +kernel
theorem dX7_isOpen_109 : decode cX7_isOpen 109 = .ok (.iconst 1, 1) := by decide +kernel
theorem dX7_isOpen_110 : decode cX7_isOpen 110 = .ok (.goto 4, 3) := by decide +kernel
theorem dX7_isOpen_113 : decode cX7_isOpen 113 = .ok (.iconst 0, 1) := by decide +kernel
theorem dX7_isOpen_114 : decode cX7_isOpen 114 = .ok (.istore 8, 2) := by decide +kernel
theorem dX7_isOpen_116 : decode cX7_isOpen 116 = .ok (.iinc 9 1, 3) := by decide +kernel
theorem dX7_isOpen_119 : decode cX7_isOpen 119 = .ok (.goto (-113), 3) := by decide +kernel
theorem dX7_isOpen_122 : decode cX7_isOpen 122 = .ok (.iconst 0, 1) := by decide +kernel
theorem dX7_isOpen_123 : decode cX7_isOpen 123 = .ok (.istore 9, 2) := by decide +kernel
theorem dX7_isOpen_125 : decode cX7_isOpen 125 = .ok (.iload 9, 2) := by decide +kernel
theorem dX7_isOpen_127 : decode cX7_isOpen 127 = .ok (.aload_n 0, 1) := by decide +kernel
theorem dX7_isOpen_128 : decode cX7_isOpen 128 = .ok (.getfield 49, 3) := by decide +kernel
theorem dX7_isOpen_131 : decode cX7_isOpen 131 = .ok (.iconst 1, 1) := by decide +kernel
theorem dX7_isOpen_132 : decode cX7_isOpen 132 = .ok (.isub, 1) := by decide +kernel
theorem dX7_isOpen_133 : decode cX7_isOpen 133 = .ok (.if_icmp .ge 90, 3) := by decide +kernel
theorem dX7_isOpen_136 : decode cX7_isOpen 136 = .ok (.aload_n 0, 1) := by decide +kernel
theorem dX7_isOpen_137 : decode cX7_isOpen 137 = .ok (.getfield 42, 3) := by decide +kernel
theorem dX7_isOpen_140 : decode cX7_isOpen 140 = .ok (.iload 9, 2) := by decide +kernel
theorem dX7_isOpen_142 : decode cX7_isOpen 142 = .ok (.iaload, 1) := by decide +kernel
theorem dX7_isOpen_143 : decode cX7_isOpen 143 = .ok (.i2d, 1) := by decide +kernel
theorem dX7_isOpen_144 : decode cX7_isOpen 144 = .ok (.ldc2_w 127, 3) := by decide +kernel
theorem dX7_isOpen_147 : decode cX7_isOpen 147 = .ok (.ddiv, 1) := by decide +kernel
theorem dX7_isOpen_148 : decode cX7_isOpen 148 = .ok (.dstore 10, 2) := by decide +kernel
theorem dX7_isOpen_150 : decode cX7_isOpen 150 = .ok (.iload 8, 2) := by decide +kernel
theorem dX7_isOpen_152 : decode cX7_isOpen 152 = .ok (.ifCond .eq 62, 3) := by decide +kernel
theorem dX7_isOpen_155 : decode cX7_isOpen 155 = .ok (.aload_n 0, 1) := by decide +kernel
theorem dX7_isOpen_156 : decode cX7_isOpen 156 = .ok (.getfield 39, 3) := by decide +kernel
theorem dX7_isOpen_159 : decode cX7_isOpen 159 = .ok (.iload 9, 2) := by decide +kernel
theorem dX7_isOpen_161 : decode cX7_isOpen 161 = .ok (.iaload, 1) := by decide +kernel
theorem dX7_isOpen_162 : decode cX7_isOpen 162 = .ok (.iload_n 1, 1) := by decide +kernel
theorem dX7_isOpen_163 : decode cX7_isOpen 163 = .ok (.if_icmp .ne 47, 3) := by decide +kernel
theorem dX7_isOpen_166 : decode cX7_isOpen 166 = .ok (.dload_n 2, 1) := by decide +kernel
theorem dX7_isOpen_167 : decode cX7_isOpen 167 = .ok (.dload 10, 2) := by decide +kernel
theorem dX7_isOpen_169 : decode cX7_isOpen 169 = .ok (.aload_n 0, 1) := by decide +kernel
theorem dX7_isOpen_170 : decode cX7_isOpen 170 = .ok (.iload 9, 2) := by decide +kernel
theorem dX7_isOpen_172 : decode cX7_isOpen 172 = .ok (.iconst 0, 1) := by decide +kernel
theorem dX7_isOpen_173 : decode cX7_isOpen 173 = .ok (.invokevirtual 129, 3) := by decide +kernel
theorem dX7_isOpen_176 : decode cX7_isOpen 176 = .ok (.dadd, 1) := by decide +kernel
theorem dX7_isOpen_177 : decode cX7_isOpen 177 = .ok (.dcmp .g, 1) := by decide +kernel
theorem dX7_isOpen_178 : decode cX7_isOpen 178 = .ok (.ifCond .ge 32, 3) := by decide +kernel
theorem dX7_isOpen_181 : decode cX7_isOpen 181 = .ok (.dload_n 2, 1) := by decide +kernel
theorem dX7_isOpen_182 : decode cX7_isOpen 182 = .ok (.dload 4, 2) := by decide +kernel
theorem dX7_isOpen_184 : decode cX7_isOpen 184 = .ok (.dadd, 1) := by decide +kernel
theorem dX7_isOpen_185 : decode cX7_isOpen 185 = .ok (.dload 10, 2) := by decide +kernel
theorem dX7_isOpen_187 : decode cX7_isOpen 187 = .ok (.dcmp .l, 1) := by decide +kernel
theorem dX7_isOpen_188 : decode cX7_isOpen 188 = .ok (.ifCond .le 22, 3) := by decide +kernel
theorem dX7_isOpen_191 : decode cX7_isOpen 191 = .ok (.dconst 0, 1) := by decide +kernel
theorem dX7_isOpen_192 : decode cX7_isOpen 192 = .ok (.aload_n 0, 1) := by decide +kernel
theorem dX7_isOpen_193 : decode cX7_isOpen 193 = .ok (.iload 9, 2) := by decide +kernel
theorem dX7_isOpen_195 : decode cX7_isOpen 195 = .ok (.iconst 1, 1) := by decide +kernel
theorem dX7_isOpen_196 : decode cX7_isOpen 196 = .ok (.invokevirtual 129, 3) := by decide +kernel
theorem dX7_isOpen_199 : decode cX7_isOpen 199 = .ok (.dcmp .g, 1) := by decide +kernel
theorem dX7_isOpen_200 : decode cX7_isOpen 200 = .ok (.ifCond .ge 10, 3) := by decide +kernel
theorem dX7_isOpen_203 : decode cX7_isOpen 203 = .ok (.dload 6, 2) := by decide +kernel
theorem dX7_isOpen_205 : decode cX7_isOpen 205 = .ok (.dconst 0, 1) := by decide +kernel
theorem dX7_isOpen_206 : decode cX7_isOpen 206 = .ok (.dcmp .l, 1) := by decide +kernel
theorem dX7_isOpen_207 : decode cX7_isOpen 207 = .ok (.ifCond .gt 7, 3) := by decide +kernel
theorem dX7_isOpen_210 : decode cX7_isOpen 210 = .ok (.iconst 1, 1) := by decide +kernel
theorem dX7_isOpen_211 : decode cX7_isOpen 211 = .ok (.goto 4, 3) := by decide +kernel
theorem dX7_isOpen_214 : decode cX7_isOpen 214 = .ok (.iconst 0, 1) := by decide +kernel
theorem dX7_isOpen_215 : decode cX7_isOpen 215 = .ok (.istore 8, 2) := by decide +kernel
theorem dX7_isOpen_217 : decode cX7_isOpen 217 = .ok (.iinc 9 1, 3) := by decide +kernel
theorem dX7_isOpen_220 : decode cX7_isOpen 220 = .ok (.goto (-95), 3) := by decide +kernel
theorem dX7_isOpen_223 : decode cX7_isOpen 223 = .ok (.iload 8, 2) := by decide +kernel
theorem dX7_isOpen_225 : decode cX7_isOpen 225 = .ok (.ireturn, 1) := by decide +kernel
abbrev rm_X7_isOpen : Room := { frames := 6, cells := 0, slots := 0, locals := 90 }
theorem hw_X7_isOpen_1 : (Cond.fieldLink RX7 32 "PlankUnrollModel" "faultCount" "[I") ∈ wsX7_isOpen := List.mem_of_getElem? (i := 1) rfl
theorem hw_X7_isOpen_2 : (Cond.fieldLink RX7 36 "PlankUnrollModel" "faults" "[D") ∈ wsX7_isOpen := List.mem_of_getElem? (i := 2) rfl
theorem hw_X7_isOpen_3 : (Cond.fieldLink RX7 49 "PlankUnrollModel" "rows" "I") ∈ wsX7_isOpen := List.mem_of_getElem? (i := 3) rfl
theorem hw_X7_isOpen_4 : (Cond.fieldLink RX7 42 "PlankUnrollModel" "liesAt" "[I") ∈ wsX7_isOpen := List.mem_of_getElem? (i := 4) rfl
theorem hw_X7_isOpen_5 : (Cond.constantDouble RX7 127 (4620693217682128896)) ∈ wsX7_isOpen := List.mem_of_getElem? (i := 5) rfl
theorem hw_X7_isOpen_6 : (Cond.fieldLink RX7 39 "PlankUnrollModel" "liesOn" "[I") ∈ wsX7_isOpen := List.mem_of_getElem? (i := 6) rfl
theorem in_X7_isOpen_X7 : ∀ w ∈ wsX70, w ∈ wsX7_isOpen := by decide +kernel
set_option maxHeartbeats 4000000 in
set_option maxRecDepth 100000 in
/-- whether a place on a board is free -/
theorem c_X7_isOpen {l : Launch} {G : va_G} {ty : Nat → ClassId} {b0 : Nat} {H : Heap} {m0 : Nat} {A : Nat → Nat} {th : Int32} {F R nb : Nat} {pl co dr wi hi fa : Nat → UInt64} {un bu fc lo la : Nat → Int32} {px py pz : UInt64} (hY : xRef G ty m0 A th F R pl un co dr bu nb wi hi fc fa lo la px py pz H) (hZ : xSz F R) {b nf : Nat} {x w h ex ew eh : UInt64} (hb9 : b < nb) (hnb : nb ≤ 4) (hfc : fc b = nI nf) (hnf : nf ≤ 8) (hx9 : vq x ex) (hw9 : vq w ew) (hh9 : vq h eh) : xMet l yX7_isOpen wsX7_isOpen rm_X7_isOpen G ty b0 [.ref m0, .int (nI b), .double x, .double w, .double h] H (fun v H1 => H = H1 ∧ v = some (.int (xP (pOpen fa lo la co F R b nf ex ew eh)))) (fun _ _ => False) := by
  refine xbody (cc := cX7_isOpen) (maxL := 12) (ret := (some .boolean)) (C := RX7) (lv := [(0, .ref m0), (1, .int (nI b)), (2, .double x), (4, .double w), (6, .double h)]) (by decide) rfl rfl (Nat.le_of_ble_eq_true rfl) rfl ?_
  intro p e s m below meth c d0 hx hb hr hts hown hlocks hml hxt hnm0 hK hb0 hH0 hS hd0 ls hl
  obtain ⟨y_o, y_0, y_1, y_2, y_3, y_4, y_5, y_6, y_7, y_8, y_9, y_10⟩ := id hY
  obtain ⟨⟨zF2, zF8⟩, ⟨zR2, zR8⟩⟩ := id hZ
  refine lv_iconst (v := nI 1) hx hb dX7_isOpen_0 (by decide) ?_
  refine lv_istore (lv' := [(8, .int (nI 1)), (0, .ref m0), (1, .int (nI b)), (2, .double x), (4, .double w), (6, .double h)]) hx hb dX7_isOpen_1 hl (by decide) rfl (fun ls hl => ?_)
  refine lv_iconst (v := nI 0) hx hb dX7_isOpen_3 (by decide) ?_
  refine lv_istore (lv' := [(9, .int (nI 0)), (8, .int (nI 1)), (0, .ref m0), (1, .int (nI b)), (2, .double x), (4, .double w), (6, .double h)]) hx hb dX7_isOpen_4 hl (by decide) rfl (fun ls hl => ?_)
  have e0 : nI 1 = (xP (∀ k9 : Nat, k9 < 0 → ¬ pHitF fa b k9 ex ew eh)) := (xP_t (fun _ h => absurd h (Nat.not_lt_zero _))).symm
  suffices K : ∀ (q : Nat) (k : Nat) (locs : List Loc) (d0 : Drawn) (ls : Array Slot), k + q = nf → va_S (xA b0) s.heap H locs → s.drawn.sameBut d0 lw_cs → lv_has ls 12 [(9, .int (nI k)), (8, .int ((xP (∀ k9 : Nat, k9 < k → ¬ pHitF fa b k9 ex ew eh)))), (0, .ref m0), (1, .int (nI b)), (2, .double x), (4, .double w), (6, .double h)] → W p l e rm_X7_isOpen (s.setDrawn d0) m [Value.ref m0, Value.int (nI b), Value.double x, Value.double w, Value.double h].toArray below meth c H locs (0) (0) (xMQ below (fun v H1 => H = H1 ∧ v = some (.int (xP (pOpen fa lo la co F R b nf ex ew eh)))) (fun _ _ => False) [.ref m0, .int (nI b), .double x, .double w, .double h].toArray s rm_X7_isOpen b0) (F0 m 6 ls []) from K nf 0 _ d0 ls (by omega) hS hd0 (by rw [← e0]; exact lv_sub hl [0, 1, 2, 3, 4, 5, 6] rfl)
  intro q
  induction q with
  | zero =>
    intro k locs d0 ls hinv hS hd0 hl
    refine lv_iload hx hb dX7_isOpen_6 (lv_at hl 0 rfl) ?_
    refine lv_aload_n hx hb dX7_isOpen_8 rfl (lv_at hl 2 rfl) ?_
    refine va_get (D := G) (cl := vwCl) (ci := 8) (v := .ref (A 7)) (C := RX7) (T := TX7) (N := 18) hx hb (hts _) in_X7_isOpen_X7 hown hK.1 (x1 y_o) 0 rfl rfl 11 (by decide) (hts _ _ hw_X7_isOpen_1) (fun _ h9 => h9) rfl dX7_isOpen_9 ?_
    refine lv_iload_n hx hb dX7_isOpen_12 rfl (lv_at hl 3 rfl) ?_
    refine xiald (j := b) hx hb hK.1 1 y_7 rfl (xix_of (by omega) (by omega)) dX7_isOpen_13 ?_
    rw [hfc]
    refine xicmpN_ge (tgt := 122) hx hb (by omega) (by omega) dX7_isOpen_14 (by decide) (fun _ => ?_) (fun h9 => absurd h9 (by omega))
    refine lv_iconst (v := nI 0) hx hb dX7_isOpen_122 (by decide) ?_
    refine lv_istore (lv' := [(9, .int (nI 0)), (8, .int ((xP (∀ k9 : Nat, k9 < k → ¬ pHitF fa b k9 ex ew eh)))), (0, .ref m0), (1, .int (nI b)), (2, .double x), (4, .double w), (6, .double h)]) hx hb dX7_isOpen_123 hl (by decide) rfl (fun ls hl => ?_)
    have ek : k = nf := (by omega)
    subst ek
    have e1 : (xP (∀ k9 : Nat, k9 < k → ¬ pHitF fa b k9 ex ew eh)) = (xP ((∀ k9 : Nat, k9 < k → ¬ pHitF fa b k9 ex ew eh) ∧ ∀ t9 : Nat, t9 < 0 → ¬ pHitS lo la co F b t9 ex ew eh)) := xP_cg ⟨fun z => ⟨z, fun _ h => absurd h (Nat.not_lt_zero _)⟩, fun z => z.1⟩
    suffices K : ∀ (q : Nat) (t : Nat) (locs : List Loc) (d0 : Drawn) (ls : Array Slot), t + q = R - 1 → va_S (xA b0) s.heap H locs → s.drawn.sameBut d0 lw_cs → lv_has ls 12 [(9, .int (nI t)), (8, .int ((xP ((∀ k9 : Nat, k9 < k → ¬ pHitF fa b k9 ex ew eh) ∧ ∀ t9 : Nat, t9 < t → ¬ pHitS lo la co F b t9 ex ew eh)))), (0, .ref m0), (1, .int (nI b)), (2, .double x), (4, .double w), (6, .double h)] → W p l e rm_X7_isOpen (s.setDrawn d0) m [Value.ref m0, Value.int (nI b), Value.double x, Value.double w, Value.double h].toArray below meth c H locs (0) (0) (xMQ below (fun v H1 => H = H1 ∧ v = some (.int (xP (pOpen fa lo la co F R b k ex ew eh)))) (fun _ _ => False) [.ref m0, .int (nI b), .double x, .double w, .double h].toArray s rm_X7_isOpen b0) (F0 m 125 ls []) from K (R - 1) 0 _ d0 ls (by omega) hS hd0 (by rw [← e1]; exact lv_sub hl [0, 1, 2, 3, 4, 5, 6] rfl)
    intro q
    induction q with
    | zero =>
      intro t locs d0 ls hinv hS hd0 hl
      refine lv_iload hx hb dX7_isOpen_125 (lv_at hl 0 rfl) ?_
      refine lv_aload_n hx hb dX7_isOpen_127 rfl (lv_at hl 2 rfl) ?_
      refine va_get (D := G) (cl := vwCl) (ci := 8) (v := .int (nI R)) (C := RX7) (T := TX7) (N := 18) hx hb (hts _) in_X7_isOpen_X7 hown hK.1 (x1 y_o) 0 rfl rfl 2 (by decide) (hts _ _ hw_X7_isOpen_3) (fun _ h9 => h9) rfl dX7_isOpen_128 ?_
      refine lv_iconst (v := nI 1) hx hb dX7_isOpen_131 (by decide) ?_
      refine xisubN hx hb (by omega) dX7_isOpen_132 ?_
      refine xicmpN_ge (tgt := 223) hx hb (by omega) (by omega) dX7_isOpen_133 (by decide) (fun _ => ?_) (fun h9 => absurd h9 (by omega))
      refine lv_iload hx hb dX7_isOpen_223 (lv_at hl 1 rfl) ?_
      exact xzret (xP_nz _) hd0 hx hb hr hlocks hS (Nat.le_of_ble_eq_true rfl) (Nat.le_of_ble_eq_true rfl) dX7_isOpen_225 ⟨rfl, by have e9 : t = R - 1 := (by omega); subst e9; rfl⟩
    | succ q ih2 =>
      intro t locs d0 ls hinv hS hd0 hl
      refine lv_iload hx hb dX7_isOpen_125 (lv_at hl 0 rfl) ?_
      refine lv_aload_n hx hb dX7_isOpen_127 rfl (lv_at hl 2 rfl) ?_
      refine va_get (D := G) (cl := vwCl) (ci := 8) (v := .int (nI R)) (C := RX7) (T := TX7) (N := 18) hx hb (hts _) in_X7_isOpen_X7 hown hK.1 (x1 y_o) 0 rfl rfl 2 (by decide) (hts _ _ hw_X7_isOpen_3) (fun _ h9 => h9) rfl dX7_isOpen_128 ?_
      refine lv_iconst (v := nI 1) hx hb dX7_isOpen_131 (by decide) ?_
      refine xisubN hx hb (by omega) dX7_isOpen_132 ?_
      refine xicmpN_ge (tgt := 223) hx hb (by omega) (by omega) dX7_isOpen_133 (by decide) (fun h9 => absurd h9 (by omega)) (fun _ => ?_)
      have J_4 : ∀ (y : Int32) (locs : List Loc) (d0 : Drawn) (ls : Array Slot), y = (xP ((∀ k9 : Nat, k9 < k → ¬ pHitF fa b k9 ex ew eh) ∧ ∀ t9 : Nat, t9 < (t + 1) → ¬ pHitS lo la co F b t9 ex ew eh)) → va_S (xA b0) s.heap H locs → s.drawn.sameBut d0 lw_cs → lv_has ls 12 [(9, .int (nI t)), (8, .int ((xP ((∀ k9 : Nat, k9 < k → ¬ pHitF fa b k9 ex ew eh) ∧ ∀ t9 : Nat, t9 < t → ¬ pHitS lo la co F b t9 ex ew eh)))), (0, .ref m0), (1, .int (nI b)), (2, .double x), (4, .double w), (6, .double h)] → W p l e rm_X7_isOpen (s.setDrawn d0) m [Value.ref m0, Value.int (nI b), Value.double x, Value.double w, Value.double h].toArray below meth c H locs (0) (0) (xMQ below (fun v H1 => H = H1 ∧ v = some (.int (xP (pOpen fa lo la co F R b k ex ew eh)))) (fun _ _ => False) [.ref m0, .int (nI b), .double x, .double w, .double h].toArray s rm_X7_isOpen b0) (F0 m 215 ls [.int (y)]) := by
        intro y locs d0 ls hP_4 hS hd0 hl
        subst hP_4
        refine lv_istore (lv' := [(8, .int ((xP ((∀ k9 : Nat, k9 < k → ¬ pHitF fa b k9 ex ew eh) ∧ ∀ t9 : Nat, t9 < (t + 1) → ¬ pHitS lo la co F b t9 ex ew eh)))), (9, .int (nI t)), (0, .ref m0), (1, .int (nI b)), (2, .double x), (4, .double w), (6, .double h)]) hx hb dX7_isOpen_215 hl (by decide) rfl (fun ls hl => ?_)
        refine xiincN (x := t) (y := 1) (lv' := [(9, .int (nI (t + 1))), (8, .int ((xP ((∀ k9 : Nat, k9 < k → ¬ pHitF fa b k9 ex ew eh) ∧ ∀ t9 : Nat, t9 < (t + 1) → ¬ pHitS lo la co F b t9 ex ew eh)))), (0, .ref m0), (1, .int (nI b)), (2, .double x), (4, .double w), (6, .double h)]) hx hb dX7_isOpen_217 hl (k := 1) rfl (by decide) (by decide) rfl (fun ls hl => ?_)
        refine lv_goto (tgt := 125) hx hb dX7_isOpen_220 (by decide) ?_
        exact ih2 (t + 1) _ d0 ls (by omega) hS hd0 (lv_sub hl [0, 1, 2, 3, 4, 5, 6] rfl)
      refine lv_aload_n hx hb dX7_isOpen_136 rfl (lv_at hl 2 rfl) ?_
      refine va_get (D := G) (cl := vwCl) (ci := 8) (v := .ref (A 10)) (C := RX7) (T := TX7) (N := 18) hx hb (hts _) in_X7_isOpen_X7 hown hK.1 (x1 y_o) 0 rfl rfl 14 (by decide) (hts _ _ hw_X7_isOpen_4) (fun _ h9 => h9) rfl dX7_isOpen_137 ?_
      refine lv_iload hx hb dX7_isOpen_140 (lv_at hl 0 rfl) ?_
      refine xiald (j := t) hx hb hK.1 1 y_10 rfl (xix_of (by omega) (by omega)) dX7_isOpen_142 ?_
      refine lv_i2d hx hb dX7_isOpen_143 ?_
      refine lv_ldc2d hx hb hown (hts _ _ hw_X7_isOpen_5) dX7_isOpen_144 ?_
      refine xddiv hd0 hx hb (vq_rf _) (vq_rf _) dX7_isOpen_147 (fun r_5 d0 q_5 hd0 => ?_)
      refine lv_dstore (lv' := [(10, .double r_5), (9, .int (nI t)), (8, .int ((xP ((∀ k9 : Nat, k9 < k → ¬ pHitF fa b k9 ex ew eh) ∧ ∀ t9 : Nat, t9 < t → ¬ pHitS lo la co F b t9 ex ew eh)))), (0, .ref m0), (1, .int (nI b)), (2, .double x), (4, .double w), (6, .double h)]) hx hb dX7_isOpen_148 hl (by decide) rfl (fun ls hl => ?_)
      refine lv_iload hx hb dX7_isOpen_150 (lv_at hl 2 rfl) ?_
      refine lv_if_eq (tgt := 214) hx hb dX7_isOpen_152 (by decide) (fun c_6 => ?_) (fun c_6 => ?_)
      · refine lv_iconst (v := nI 0) hx hb dX7_isOpen_214 (by decide) ?_
        exact J_4 _ _ d0 ls (xP_f (fun z => xP_eq.mp c_6 ⟨z.1, fun t9 ht9 => z.2 t9 (by omega)⟩)).symm hS hd0 (lv_sub hl [1, 2, 3, 4, 5, 6, 7] rfl)
      · refine lv_aload_n hx hb dX7_isOpen_155 rfl (lv_at hl 3 rfl) ?_
        refine va_get (D := G) (cl := vwCl) (ci := 8) (v := .ref (A 9)) (C := RX7) (T := TX7) (N := 18) hx hb (hts _) in_X7_isOpen_X7 hown hK.1 (x1 y_o) 0 rfl rfl 13 (by decide) (hts _ _ hw_X7_isOpen_6) (fun _ h9 => h9) rfl dX7_isOpen_156 ?_
        refine lv_iload hx hb dX7_isOpen_159 (lv_at hl 1 rfl) ?_
        refine xiald (j := t) hx hb hK.1 1 y_9 rfl (xix_of (by omega) (by omega)) dX7_isOpen_161 ?_
        refine lv_iload_n hx hb dX7_isOpen_162 rfl (lv_at hl 4 rfl) ?_
        refine lv_icmp_ne (tgt := 210) hx hb dX7_isOpen_163 (by decide) (fun c_7 => ?_) (fun c_7 => ?_)
        · refine lv_iconst (v := nI 1) hx hb dX7_isOpen_210 (by decide) ?_
          refine lv_goto (tgt := 215) hx hb dX7_isOpen_211 (by decide) ?_
          exact J_4 _ _ d0 ls (xP_t ⟨(xP_ne.mp c_6).1, xall_s (xP_ne.mp c_6).2 (fun z => c_7 z.1)⟩).symm hS hd0 (lv_sub hl [1, 2, 3, 4, 5, 6, 7] rfl)
        · refine lv_dload_n hx hb dX7_isOpen_166 rfl (lv_at hl 5 rfl) ?_
          refine lv_dload hx hb dX7_isOpen_167 (lv_at hl 0 rfl) ?_
          refine lv_aload_n hx hb dX7_isOpen_169 rfl (lv_at hl 3 rfl) ?_
          refine lv_iload hx hb dX7_isOpen_170 (lv_at hl 1 rfl) ?_
          refine lv_iconst (v := nI 0) hx hb dX7_isOpen_172 (by decide) ?_
          have cw_8 := cwV (R := rm_X7_isOpen) (rm := rm_X7_size) 2 (hts d0) gX7_isOpen_X7_size rfl rfl rfl (by decide +kernel) ⟨Nat.le_of_ble_eq_true rfl, Nat.le_of_ble_eq_true rfl⟩
          refine xcall hd0 (xintoV (b := m0) (As := [.int (nI t), .int (nI 0)]) (rest := [.double r_5, .double x]) ⟨hx, hb, hml, hown, hts _⟩ cw_8 (va_recv hK.1 (x1 y_o) (ci := 8) (q0 := 0) rfl rfl) rfl rfl hl.1 rfl (lv_room (Nat.le_of_ble_eq_true rfl)) dX7_isOpen_173) (c_X7_size (l := l) (G := G) (ty := ty) (b0 := b0) hY hZ (x := t) (ax := 0) (by omega) (by omega)) (xoweB cw_8.1) hK hb0 hS (Nat.le_of_ble_eq_true rfl) (Nat.le_of_ble_eq_true rfl) (fun E_8 ce_8 q9_8 H_8 locs_8 d0 hd0 hp_8 hS hce_8 hcv_8 hcl_8 => ?_) (fun v_8 H_8 locs_8 d0 hd0 hp_8 hS => ?_)
          · exact hp_8.elim
          · obtain ⟨rfl, r_8, rfl, q_8⟩ := hp_8
            show W p l e _ (s.setDrawn _) m _ below meth c _ _ _ _ _ (F0 m 176 ls [.double r_8, .double r_5, .double x])
            refine xdadd hd0 hx hb q_5 q_8 dX7_isOpen_176 (fun r_9 d0 q_9 hd0 => ?_)
            refine xcmp_g_ge (tgt := 210) hx hb hx9 q_9 dX7_isOpen_177 dX7_isOpen_178 (by decide) (fun c_10 => ?_) (fun c_10 => ?_)
            · refine lv_iconst (v := nI 1) hx hb dX7_isOpen_210 (by decide) ?_
              refine lv_goto (tgt := 215) hx hb dX7_isOpen_211 (by decide) ?_
              exact J_4 _ _ d0 ls (xP_t ⟨(xP_ne.mp c_6).1, xall_s (xP_ne.mp c_6).2 (fun z => xtf z.2.1 c_10)⟩).symm hS hd0 (lv_sub hl [1, 2, 3, 4, 5, 6, 7] rfl)
            · refine lv_dload_n hx hb dX7_isOpen_181 rfl (lv_at hl 5 rfl) ?_
              refine lv_dload hx hb dX7_isOpen_182 (lv_at hl 6 rfl) ?_
              refine xdadd hd0 hx hb hx9 hw9 dX7_isOpen_184 (fun r_11 d0 q_11 hd0 => ?_)
              refine lv_dload hx hb dX7_isOpen_185 (lv_at hl 0 rfl) ?_
              refine xcmp_l_le (tgt := 210) hx hb q_11 q_5 dX7_isOpen_187 dX7_isOpen_188 (by decide) (fun c_12 => ?_) (fun c_12 => ?_)
              · refine lv_iconst (v := nI 1) hx hb dX7_isOpen_210 (by decide) ?_
                refine lv_goto (tgt := 215) hx hb dX7_isOpen_211 (by decide) ?_
                exact J_4 _ _ d0 ls (xP_t ⟨(xP_ne.mp c_6).1, xall_s (xP_ne.mp c_6).2 (fun z => xtf z.2.2.1 c_12)⟩).symm hS hd0 (lv_sub hl [1, 2, 3, 4, 5, 6, 7] rfl)
              · refine lv_dconst0 hx hb dX7_isOpen_191 ?_
                refine lv_aload_n hx hb dX7_isOpen_192 rfl (lv_at hl 3 rfl) ?_
                refine lv_iload hx hb dX7_isOpen_193 (lv_at hl 1 rfl) ?_
                refine lv_iconst (v := nI 1) hx hb dX7_isOpen_195 (by decide) ?_
                have cw_13 := cwV (R := rm_X7_isOpen) (rm := rm_X7_size) 2 (hts d0) gX7_isOpen_X7_size rfl rfl rfl (by decide +kernel) ⟨Nat.le_of_ble_eq_true rfl, Nat.le_of_ble_eq_true rfl⟩
                refine xcall hd0 (xintoV (b := m0) (As := [.int (nI t), .int (nI 1)]) (rest := [.double FP.dconst0]) ⟨hx, hb, hml, hown, hts _⟩ cw_13 (va_recv hK.1 (x1 y_o) (ci := 8) (q0 := 0) rfl rfl) rfl rfl hl.1 rfl (lv_room (Nat.le_of_ble_eq_true rfl)) dX7_isOpen_196) (c_X7_size (l := l) (G := G) (ty := ty) (b0 := b0) hY hZ (x := t) (ax := 1) (by omega) (by omega)) (xoweB cw_13.1) hK hb0 hS (Nat.le_of_ble_eq_true rfl) (Nat.le_of_ble_eq_true rfl) (fun E_13 ce_13 q9_13 H_13 locs_13 d0 hd0 hp_13 hS hce_13 hcv_13 hcl_13 => ?_) (fun v_13 H_13 locs_13 d0 hd0 hp_13 hS => ?_)
                · exact hp_13.elim
                · obtain ⟨rfl, r_13, rfl, q_13⟩ := hp_13
                  show W p l e _ (s.setDrawn _) m _ below meth c _ _ _ _ _ (F0 m 199 ls [.double r_13, .double FP.dconst0])
                  refine xcmp_g_ge (tgt := 210) hx hb (vq_rf _) q_13 dX7_isOpen_199 dX7_isOpen_200 (by decide) (fun c_14 => ?_) (fun c_14 => ?_)
                  · refine lv_iconst (v := nI 1) hx hb dX7_isOpen_210 (by decide) ?_
                    refine lv_goto (tgt := 215) hx hb dX7_isOpen_211 (by decide) ?_
                    exact J_4 _ _ d0 ls (xP_t ⟨(xP_ne.mp c_6).1, xall_s (xP_ne.mp c_6).2 (fun z => xtf z.2.2.2.1 c_14)⟩).symm hS hd0 (lv_sub hl [1, 2, 3, 4, 5, 6, 7] rfl)
                  · refine lv_dload hx hb dX7_isOpen_203 (lv_at hl 7 rfl) ?_
                    refine lv_dconst0 hx hb dX7_isOpen_205 ?_
                    refine xcmp_l_gt (tgt := 214) hx hb hh9 (vq_rf _) dX7_isOpen_206 dX7_isOpen_207 (by decide) (fun c_15 => ?_) (fun c_15 => ?_)
                    · refine lv_iconst (v := nI 0) hx hb dX7_isOpen_214 (by decide) ?_
                      exact J_4 _ _ d0 ls (xP_f (fun z => z.2 t (by omega) ⟨c_7, c_10, c_12, c_14, c_15⟩)).symm hS hd0 (lv_sub hl [1, 2, 3, 4, 5, 6, 7] rfl)
                    · refine lv_iconst (v := nI 1) hx hb dX7_isOpen_210 (by decide) ?_
                      refine lv_goto (tgt := 215) hx hb dX7_isOpen_211 (by decide) ?_
                      exact J_4 _ _ d0 ls (xP_t ⟨(xP_ne.mp c_6).1, xall_s (xP_ne.mp c_6).2 (fun z => xtf z.2.2.2.2 c_15)⟩).symm hS hd0 (lv_sub hl [1, 2, 3, 4, 5, 6, 7] rfl)
  | succ q ih =>
    intro k locs d0 ls hinv hS hd0 hl
    refine lv_iload hx hb dX7_isOpen_6 (lv_at hl 0 rfl) ?_
    refine lv_aload_n hx hb dX7_isOpen_8 rfl (lv_at hl 2 rfl) ?_
    refine va_get (D := G) (cl := vwCl) (ci := 8) (v := .ref (A 7)) (C := RX7) (T := TX7) (N := 18) hx hb (hts _) in_X7_isOpen_X7 hown hK.1 (x1 y_o) 0 rfl rfl 11 (by decide) (hts _ _ hw_X7_isOpen_1) (fun _ h9 => h9) rfl dX7_isOpen_9 ?_
    refine lv_iload_n hx hb dX7_isOpen_12 rfl (lv_at hl 3 rfl) ?_
    refine xiald (j := b) hx hb hK.1 1 y_7 rfl (xix_of (by omega) (by omega)) dX7_isOpen_13 ?_
    rw [hfc]
    refine xicmpN_ge (tgt := 122) hx hb (by omega) (by omega) dX7_isOpen_14 (by decide) (fun h9 => absurd h9 (by omega)) (fun _ => ?_)
    refine lv_bipush (v := nI 32) hx hb dX7_isOpen_17 (by decide) ?_
    refine lv_iload_n hx hb dX7_isOpen_19 rfl (lv_at hl 3 rfl) ?_
    refine ximulN hx hb dX7_isOpen_20 ?_
    refine lv_iconst (v := nI 4) hx hb dX7_isOpen_21 (by decide) ?_
    refine lv_iload hx hb dX7_isOpen_22 (lv_at hl 0 rfl) ?_
    refine ximulN hx hb dX7_isOpen_24 ?_
    refine xiaddN hx hb dX7_isOpen_25 ?_
    refine lv_istore (lv' := [(10, .int (nI ((32 * b) + (4 * k)))), (9, .int (nI k)), (8, .int ((xP (∀ k9 : Nat, k9 < k → ¬ pHitF fa b k9 ex ew eh)))), (0, .ref m0), (1, .int (nI b)), (2, .double x), (4, .double w), (6, .double h)]) hx hb dX7_isOpen_26 hl (by decide) rfl (fun ls hl => ?_)
    have J_17 : ∀ (y : Int32) (locs : List Loc) (d0 : Drawn) (ls : Array Slot), y = (xP (∀ k9 : Nat, k9 < (k + 1) → ¬ pHitF fa b k9 ex ew eh)) → va_S (xA b0) s.heap H locs → s.drawn.sameBut d0 lw_cs → lv_has ls 12 [(9, .int (nI k)), (8, .int ((xP (∀ k9 : Nat, k9 < k → ¬ pHitF fa b k9 ex ew eh)))), (0, .ref m0), (1, .int (nI b)), (2, .double x), (4, .double w), (6, .double h)] → W p l e rm_X7_isOpen (s.setDrawn d0) m [Value.ref m0, Value.int (nI b), Value.double x, Value.double w, Value.double h].toArray below meth c H locs (0) (0) (xMQ below (fun v H1 => H = H1 ∧ v = some (.int (xP (pOpen fa lo la co F R b nf ex ew eh)))) (fun _ _ => False) [.ref m0, .int (nI b), .double x, .double w, .double h].toArray s rm_X7_isOpen b0) (F0 m 114 ls [.int (y)]) := by
      intro y locs d0 ls hP_17 hS hd0 hl
      subst hP_17
      refine lv_istore (lv' := [(8, .int ((xP (∀ k9 : Nat, k9 < (k + 1) → ¬ pHitF fa b k9 ex ew eh)))), (9, .int (nI k)), (0, .ref m0), (1, .int (nI b)), (2, .double x), (4, .double w), (6, .double h)]) hx hb dX7_isOpen_114 hl (by decide) rfl (fun ls hl => ?_)
      refine xiincN (x := k) (y := 1) (lv' := [(9, .int (nI (k + 1))), (8, .int ((xP (∀ k9 : Nat, k9 < (k + 1) → ¬ pHitF fa b k9 ex ew eh)))), (0, .ref m0), (1, .int (nI b)), (2, .double x), (4, .double w), (6, .double h)]) hx hb dX7_isOpen_116 hl (k := 1) rfl (by decide) (by decide) rfl (fun ls hl => ?_)
      refine lv_goto (tgt := 6) hx hb dX7_isOpen_119 (by decide) ?_
      exact ih (k + 1) _ d0 ls (by omega) hS hd0 (lv_sub hl [0, 1, 2, 3, 4, 5, 6] rfl)
    refine lv_iload hx hb dX7_isOpen_28 (lv_at hl 2 rfl) ?_
    refine lv_if_eq (tgt := 113) hx hb dX7_isOpen_30 (by decide) (fun c_18 => ?_) (fun c_18 => ?_)
    · refine lv_iconst (v := nI 0) hx hb dX7_isOpen_113 (by decide) ?_
      exact J_17 _ _ d0 ls (xP_f (fun z => xP_eq.mp c_18 (fun k9 hk9 => z k9 (by omega)))).symm hS hd0 (lv_sub hl [1, 2, 3, 4, 5, 6, 7] rfl)
    · refine lv_dload_n hx hb dX7_isOpen_33 rfl (lv_at hl 5 rfl) ?_
      refine lv_aload_n hx hb dX7_isOpen_34 rfl (lv_at hl 3 rfl) ?_
      refine va_get (D := G) (cl := vwCl) (ci := 8) (v := .ref (A 8)) (C := RX7) (T := TX7) (N := 18) hx hb (hts _) in_X7_isOpen_X7 hown hK.1 (x1 y_o) 0 rfl rfl 12 (by decide) (hts _ _ hw_X7_isOpen_2) (fun _ h9 => h9) rfl dX7_isOpen_35 ?_
      refine lv_iload hx hb dX7_isOpen_38 (lv_at hl 0 rfl) ?_
      refine xdald (j := (32 * b) + (4 * k)) hx hb hK.1 0 y_8 rfl (xix_of (by omega) (by omega)) dX7_isOpen_40 ?_
      refine lv_aload_n hx hb dX7_isOpen_41 rfl (lv_at hl 3 rfl) ?_
      refine va_get (D := G) (cl := vwCl) (ci := 8) (v := .ref (A 8)) (C := RX7) (T := TX7) (N := 18) hx hb (hts _) in_X7_isOpen_X7 hown hK.1 (x1 y_o) 0 rfl rfl 12 (by decide) (hts _ _ hw_X7_isOpen_2) (fun _ h9 => h9) rfl dX7_isOpen_42 ?_
      refine lv_iload hx hb dX7_isOpen_45 (lv_at hl 0 rfl) ?_
      refine lv_iconst (v := nI 2) hx hb dX7_isOpen_47 (by decide) ?_
      refine xiaddN hx hb dX7_isOpen_48 ?_
      refine xdald (j := ((32 * b) + (4 * k)) + 2) hx hb hK.1 0 y_8 rfl (xix_of (by omega) (by omega)) dX7_isOpen_49 ?_
      refine xdadd hd0 hx hb (vq_rf _) (vq_rf _) dX7_isOpen_50 (fun r_19 d0 q_19 hd0 => ?_)
      refine xcmp_g_ge (tgt := 109) hx hb hx9 q_19 dX7_isOpen_51 dX7_isOpen_52 (by decide) (fun c_20 => ?_) (fun c_20 => ?_)
      · refine lv_iconst (v := nI 1) hx hb dX7_isOpen_109 (by decide) ?_
        refine lv_goto (tgt := 114) hx hb dX7_isOpen_110 (by decide) ?_
        exact J_17 _ _ d0 ls (xP_t (xall_s (xP_ne.mp c_18) (fun z => xtf z.1 c_20))).symm hS hd0 (lv_sub hl [1, 2, 3, 4, 5, 6, 7] rfl)
      · refine lv_dload_n hx hb dX7_isOpen_55 rfl (lv_at hl 5 rfl) ?_
        refine lv_dload hx hb dX7_isOpen_56 (lv_at hl 6 rfl) ?_
        refine xdadd hd0 hx hb hx9 hw9 dX7_isOpen_58 (fun r_21 d0 q_21 hd0 => ?_)
        refine lv_aload_n hx hb dX7_isOpen_59 rfl (lv_at hl 3 rfl) ?_
        refine va_get (D := G) (cl := vwCl) (ci := 8) (v := .ref (A 8)) (C := RX7) (T := TX7) (N := 18) hx hb (hts _) in_X7_isOpen_X7 hown hK.1 (x1 y_o) 0 rfl rfl 12 (by decide) (hts _ _ hw_X7_isOpen_2) (fun _ h9 => h9) rfl dX7_isOpen_60 ?_
        refine lv_iload hx hb dX7_isOpen_63 (lv_at hl 0 rfl) ?_
        refine xdald (j := (32 * b) + (4 * k)) hx hb hK.1 0 y_8 rfl (xix_of (by omega) (by omega)) dX7_isOpen_65 ?_
        refine xcmp_l_le (tgt := 109) hx hb q_21 (vq_rf _) dX7_isOpen_66 dX7_isOpen_67 (by decide) (fun c_22 => ?_) (fun c_22 => ?_)
        · refine lv_iconst (v := nI 1) hx hb dX7_isOpen_109 (by decide) ?_
          refine lv_goto (tgt := 114) hx hb dX7_isOpen_110 (by decide) ?_
          exact J_17 _ _ d0 ls (xP_t (xall_s (xP_ne.mp c_18) (fun z => xtf z.2.1 c_22))).symm hS hd0 (lv_sub hl [1, 2, 3, 4, 5, 6, 7] rfl)
        · refine lv_dconst0 hx hb dX7_isOpen_70 ?_
          refine lv_aload_n hx hb dX7_isOpen_71 rfl (lv_at hl 3 rfl) ?_
          refine va_get (D := G) (cl := vwCl) (ci := 8) (v := .ref (A 8)) (C := RX7) (T := TX7) (N := 18) hx hb (hts _) in_X7_isOpen_X7 hown hK.1 (x1 y_o) 0 rfl rfl 12 (by decide) (hts _ _ hw_X7_isOpen_2) (fun _ h9 => h9) rfl dX7_isOpen_72 ?_
          refine lv_iload hx hb dX7_isOpen_75 (lv_at hl 0 rfl) ?_
          refine lv_iconst (v := nI 1) hx hb dX7_isOpen_77 (by decide) ?_
          refine xiaddN hx hb dX7_isOpen_78 ?_
          refine xdald (j := ((32 * b) + (4 * k)) + 1) hx hb hK.1 0 y_8 rfl (xix_of (by omega) (by omega)) dX7_isOpen_79 ?_
          refine lv_aload_n hx hb dX7_isOpen_80 rfl (lv_at hl 3 rfl) ?_
          refine va_get (D := G) (cl := vwCl) (ci := 8) (v := .ref (A 8)) (C := RX7) (T := TX7) (N := 18) hx hb (hts _) in_X7_isOpen_X7 hown hK.1 (x1 y_o) 0 rfl rfl 12 (by decide) (hts _ _ hw_X7_isOpen_2) (fun _ h9 => h9) rfl dX7_isOpen_81 ?_
          refine lv_iload hx hb dX7_isOpen_84 (lv_at hl 0 rfl) ?_
          refine lv_iconst (v := nI 3) hx hb dX7_isOpen_86 (by decide) ?_
          refine xiaddN hx hb dX7_isOpen_87 ?_
          refine xdald (j := ((32 * b) + (4 * k)) + 3) hx hb hK.1 0 y_8 rfl (xix_of (by omega) (by omega)) dX7_isOpen_88 ?_
          refine xdadd hd0 hx hb (vq_rf _) (vq_rf _) dX7_isOpen_89 (fun r_23 d0 q_23 hd0 => ?_)
          refine xcmp_g_ge (tgt := 109) hx hb (vq_rf _) q_23 dX7_isOpen_90 dX7_isOpen_91 (by decide) (fun c_24 => ?_) (fun c_24 => ?_)
          · refine lv_iconst (v := nI 1) hx hb dX7_isOpen_109 (by decide) ?_
            refine lv_goto (tgt := 114) hx hb dX7_isOpen_110 (by decide) ?_
            exact J_17 _ _ d0 ls (xP_t (xall_s (xP_ne.mp c_18) (fun z => xtf z.2.2.1 c_24))).symm hS hd0 (lv_sub hl [1, 2, 3, 4, 5, 6, 7] rfl)
          · refine lv_dload hx hb dX7_isOpen_94 (lv_at hl 7 rfl) ?_
            refine lv_aload_n hx hb dX7_isOpen_96 rfl (lv_at hl 3 rfl) ?_
            refine va_get (D := G) (cl := vwCl) (ci := 8) (v := .ref (A 8)) (C := RX7) (T := TX7) (N := 18) hx hb (hts _) in_X7_isOpen_X7 hown hK.1 (x1 y_o) 0 rfl rfl 12 (by decide) (hts _ _ hw_X7_isOpen_2) (fun _ h9 => h9) rfl dX7_isOpen_97 ?_
            refine lv_iload hx hb dX7_isOpen_100 (lv_at hl 0 rfl) ?_
            refine lv_iconst (v := nI 1) hx hb dX7_isOpen_102 (by decide) ?_
            refine xiaddN hx hb dX7_isOpen_103 ?_
            refine xdald (j := ((32 * b) + (4 * k)) + 1) hx hb hK.1 0 y_8 rfl (xix_of (by omega) (by omega)) dX7_isOpen_104 ?_
            refine xcmp_l_gt (tgt := 113) hx hb hh9 (vq_rf _) dX7_isOpen_105 dX7_isOpen_106 (by decide) (fun c_25 => ?_) (fun c_25 => ?_)
            · refine lv_iconst (v := nI 0) hx hb dX7_isOpen_113 (by decide) ?_
              exact J_17 _ _ d0 ls (xP_f (fun z => z k (by omega) ⟨c_20, c_22, c_24, c_25⟩)).symm hS hd0 (lv_sub hl [1, 2, 3, 4, 5, 6, 7] rfl)
            · refine lv_iconst (v := nI 1) hx hb dX7_isOpen_109 (by decide) ?_
              refine lv_goto (tgt := 114) hx hb dX7_isOpen_110 (by decide) ?_
              exact J_17 _ _ d0 ls (xP_t (xall_s (xP_ne.mp c_18) (fun z => xtf z.2.2.2 c_25))).symm hS hd0 (lv_sub hl [1, 2, 3, 4, 5, 6, 7] rfl)
end
section
/-! THE REFERENCE: what is asked and told (1). -/
theorem dX7_thrown_0 : decode cX7_thrown 0 = .ok (.aload_n 0, 1) := by decide +kernel
theorem dX7_thrown_1 : decode cX7_thrown 1 = .ok (.getfield 52, 3) := by decide +kernel
theorem dX7_thrown_4 : decode cX7_thrown 4 = .ok (.ireturn, 1) := by decide +kernel
abbrev rm_X7_thrown : Room := { frames := 5, cells := 0, slots := 0, locals := 40 }
theorem hw_X7_thrown_1 : (Cond.fieldLink RX7 52 "PlankUnrollModel" "thrown" "I") ∈ wsX7_thrown := List.mem_of_getElem? (i := 1) rfl
theorem in_X7_thrown_X7 : ∀ w ∈ wsX70, w ∈ wsX7_thrown := by decide +kernel
set_option maxHeartbeats 4000000 in
set_option maxRecDepth 100000 in
/-- what the last call threw -/
theorem c_X7_thrown {l : Launch} {G : va_G} {ty : Nat → ClassId} {b0 : Nat} {H : Heap} {m0 : Nat} {A : Nat → Nat} {th : Int32} {F R nb : Nat} {pl co dr wi hi fa : Nat → UInt64} {un bu fc lo la : Nat → Int32} {px py pz : UInt64} (hY : xRef G ty m0 A th F R pl un co dr bu nb wi hi fc fa lo la px py pz H) (hZ : xSz F R) : xMet l yX7_thrown wsX7_thrown rm_X7_thrown G ty b0 [.ref m0] H (fun v H1 => H = H1 ∧ v = some (.int th)) (fun _ _ => False) := by
  refine xbody (cc := cX7_thrown) (maxL := 1) (ret := (some .int)) (C := RX7) (lv := [(0, .ref m0)]) (by decide) rfl rfl (Nat.le_of_ble_eq_true rfl) rfl ?_
  intro p e s m below meth c d0 hx hb hr hts hown hlocks hml hxt hnm0 hK hb0 hH0 hS hd0 ls hl
  obtain ⟨y_o, y_0, y_1, y_2, y_3, y_4, y_5, y_6, y_7, y_8, y_9, y_10⟩ := id hY
  obtain ⟨⟨zF2, zF8⟩, ⟨zR2, zR8⟩⟩ := id hZ
  refine lv_aload_n hx hb dX7_thrown_0 rfl (lv_at hl 0 rfl) ?_
  refine va_get (D := G) (cl := vwCl) (ci := 8) (v := .int (th)) (C := RX7) (T := TX7) (N := 18) hx hb (hts d0) in_X7_thrown_X7 hown hK.1 (x1 y_o) 0 rfl rfl 0 (by decide) (hts d0 _ hw_X7_thrown_1) (fun _ h9 => h9) rfl dX7_thrown_1 ?_
  exact xiret hd0 hx hb hr hlocks hS (Nat.le_of_ble_eq_true rfl) (Nat.le_of_ble_eq_true rfl) dX7_thrown_4 ⟨rfl, rfl⟩
set_option maxRecDepth 20000 in
theorem ggX7_distance_X7_noPlace : GoodIn wsX7_distance wsX7_noPlace := goodIn_r _ [6, 7, 8, 22, 23, 24, 25, 26, 27, 28, 29, 30, 31, 32, 33, 34, 35, 36, 37, 38, 39] (by decide +kernel) (by decide +kernel)
set_option maxRecDepth 20000 in
theorem gX7_distance_X7_noPlace : GoodIn wsX7_distance (wsV RX7 65 RX7 yX7_noPlace wsX7_noPlace) := goodIn_app (goodIn_of _ (by decide +kernel)) ggX7_distance_X7_noPlace
set_option maxRecDepth 20000 in
theorem ggX7_distance_X7_far : GoodIn wsX7_distance wsX7_far := goodIn_r _ [12, 13, 14, 15, 5, 16, 17, 18, 19, 20, 21, 22, 23, 24, 25, 26, 27, 28, 29, 30, 31, 32, 33, 34, 35, 36, 37, 38, 39] (by decide +kernel) (by decide +kernel)
set_option maxRecDepth 20000 in
theorem gX7_distance_X7_far : GoodIn wsX7_distance (wsV RX7 77 RX7 yX7_far wsX7_far) := goodIn_app (goodIn_of _ (by decide +kernel)) ggX7_distance_X7_far
theorem dX7_distance_0 : decode cX7_distance 0 = .ok (.aload_n 0, 1) := by decide +kernel
theorem dX7_distance_1 : decode cX7_distance 1 = .ok (.aload_n 0, 1) := by decide +kernel
theorem dX7_distance_2 : decode cX7_distance 2 = .ok (.iload_n 1, 1) := by decide +kernel
theorem dX7_distance_3 : decode cX7_distance 3 = .ok (.iload_n 2, 1) := by decide +kernel
theorem dX7_distance_4 : decode cX7_distance 4 = .ok (.invokevirtual 65, 3) := by decide +kernel
theorem dX7_distance_7 : decode cX7_distance 7 = .ok (.ifCond .ne 13, 3) := by decide +kernel
theorem dX7_distance_10 : decode cX7_distance 10 = .ok (.aload_n 0, 1) := by decide +kernel
theorem dX7_distance_11 : decode cX7_distance 11 = .ok (.iload_n 3, 1) := by decide +kernel
theorem dX7_distance_12 : decode cX7_distance 12 = .ok (.iload 4, 2) := by decide +kernel
theorem dX7_distance_14 : decode cX7_distance 14 = .ok (.invokevirtual 65, 3) := by decide +kernel
theorem dX7_distance_17 : decode cX7_distance 17 = .ok (.ifCond .eq 7, 3) := by decide +kernel
theorem dX7_distance_20 : decode cX7_distance 20 = .ok (.iconst 1, 1) := by decide +kernel
theorem dX7_distance_21 : decode cX7_distance 21 = .ok (.goto 4, 3) := by decide +kernel
theorem dX7_distance_24 : decode cX7_distance 24 = .ok (.iconst 0, 1) := by decide +kernel
theorem dX7_distance_25 : decode cX7_distance 25 = .ok (.putfield 52, 3) := by decide +kernel
theorem dX7_distance_28 : decode cX7_distance 28 = .ok (.aload_n 0, 1) := by decide +kernel
theorem dX7_distance_29 : decode cX7_distance 29 = .ok (.getfield 52, 3) := by decide +kernel
theorem dX7_distance_32 : decode cX7_distance 32 = .ok (.ifCond .le 7, 3) := by decide +kernel
theorem dX7_distance_35 : decode cX7_distance 35 = .ok (.dconst 0, 1) := by decide +kernel
theorem dX7_distance_36 : decode cX7_distance 36 = .ok (.goto 12, 3) := by decide +kernel
theorem dX7_distance_39 : decode cX7_distance 39 = .ok (.aload_n 0, 1) := by decide +kernel
theorem dX7_distance_40 : decode cX7_distance 40 = .ok (.iload_n 1, 1) := by decide +kernel
theorem dX7_distance_41 : decode cX7_distance 41 = .ok (.iload_n 2, 1) := by decide +kernel
theorem dX7_distance_42 : decode cX7_distance 42 = .ok (.iload_n 3, 1) := by decide +kernel
theorem dX7_distance_43 : decode cX7_distance 43 = .ok (.iload 4, 2) := by decide +kernel
theorem dX7_distance_45 : decode cX7_distance 45 = .ok (.invokevirtual 77, 3) := by decide +kernel
theorem dX7_distance_48 : decode cX7_distance 48 = .ok (.dreturn, 1) := by decide +kernel
abbrev rm_X7_distance : Room := { frames := 7, cells := 0, slots := 0, locals := 140 }
theorem hw_X7_distance_1 : (Cond.fieldLink RX7 52 "PlankUnrollModel" "thrown" "I") ∈ wsX7_distance := List.mem_of_getElem? (i := 1) rfl
theorem in_X7_distance_X7 : ∀ w ∈ wsX70, w ∈ wsX7_distance := by decide +kernel
set_option maxHeartbeats 4000000 in
set_option maxRecDepth 100000 in
/-- distance -/
theorem c_X7_distance {l : Launch} {G : va_G} {ty : Nat → ClassId} {b0 : Nat} {H : Heap} {f r g q : Int32} {m0 : Nat} {A : Nat → Nat} {th : Int32} {F R nb : Nat} {pl co dr wi hi fa : Nat → UInt64} {un bu fc lo la : Nat → Int32} {px py pz : UInt64} (hY : xRef G ty m0 A th F R pl un co dr bu nb wi hi fc fa lo la px py pz H) (hZ : xSz F R) (hA : xAp m0 A) (hB : xNw b0 m0 A) : xMet l yX7_distance wsX7_distance rm_X7_distance G ty b0 [.ref m0, .int (f), .int (r), .int (g), .int (q)] H (fun v H1 => ∃ T : Int32, xRef G ty m0 A T F R pl un co dr bu nb wi hi fc fa lo la px py pz H1 ∧ xRfr m0 A H H1 ∧ ∃ z : UInt64, v = some (.double z) ∧ ((T = nI 0 ∧ ((vp_in f F ∧ vp_in r R) ∧ (vp_in g F ∧ vp_in q R)) ∧ vq z (pFar pl f.toNatClampNeg r.toNatClampNeg g.toNatClampNeg q.toNatClampNeg)) ∨ (T = nI 1 ∧ ¬ ((vp_in f F ∧ vp_in r R) ∧ (vp_in g F ∧ vp_in q R))))) (fun _ _ => False) := by
  refine xbody (cc := cX7_distance) (maxL := 5) (ret := (some .double)) (C := RX7) (lv := [(0, .ref m0), (1, .int (f)), (2, .int (r)), (3, .int (g)), (4, .int (q))]) (by decide) rfl rfl (Nat.le_of_ble_eq_true rfl) rfl ?_
  intro p e s m below meth c d0 hx hb hr hts hown hlocks hml hxt hnm0 hK hb0 hH0 hS hd0 ls hl
  obtain ⟨y_o, y_0, y_1, y_2, y_3, y_4, y_5, y_6, y_7, y_8, y_9, y_10⟩ := id hY
  obtain ⟨⟨zF2, zF8⟩, ⟨zR2, zR8⟩⟩ := id hZ
  refine lv_aload_n hx hb dX7_distance_0 rfl (lv_at hl 0 rfl) ?_
  refine lv_aload_n hx hb dX7_distance_1 rfl (lv_at hl 0 rfl) ?_
  refine lv_iload_n hx hb dX7_distance_2 rfl (lv_at hl 1 rfl) ?_
  refine lv_iload_n hx hb dX7_distance_3 rfl (lv_at hl 2 rfl) ?_
  have cw_1 := cwV (R := rm_X7_distance) (rm := rm_X7_noPlace) 2 (hts d0) gX7_distance_X7_noPlace rfl rfl rfl (by decide +kernel) ⟨Nat.le_of_ble_eq_true rfl, Nat.le_of_ble_eq_true rfl⟩
  refine xcall hd0 (xintoV (b := m0) (As := [.int (f), .int (r)]) (rest := [.ref m0]) ⟨hx, hb, hml, hown, hts _⟩ cw_1 (va_recv hK.1 (x1 y_o) (ci := 8) (q0 := 0) rfl rfl) rfl rfl hl.1 rfl (lv_room (Nat.le_of_ble_eq_true rfl)) dX7_distance_4) (c_X7_noPlace (l := l) (G := G) (ty := ty) (b0 := b0) (⟨y_o, y_0, y_1, y_2, y_3, y_4, y_5, y_6, y_7, y_8, y_9, y_10⟩ : xRef G ty m0 A (th) F R pl un co dr bu nb wi hi fc fa lo la px py pz H) hZ) (xoweB cw_1.1) hK hb0 hS (Nat.le_of_ble_eq_true rfl) (Nat.le_of_ble_eq_true rfl) (fun E_1 ce_1 q9_1 H_1 locs_1 d0 hd0 hp_1 hS hce_1 hcv_1 hcl_1 => ?_) (fun v_1 H_1 locs_1 d0 hd0 hp_1 hS => ?_)
  · exact hp_1.elim
  · obtain ⟨rfl, rfl⟩ := hp_1
    show W p l e _ (s.setDrawn _) m _ below meth c _ _ _ _ _ (F0 m 7 ls [.int (xP (¬ (vp_in f F ∧ vp_in r R))), .ref m0])
    refine lv_if_ne (tgt := 20) hx hb dX7_distance_7 (by decide) (fun c_2 => ?_) (fun c_2 => ?_)
    · refine lv_iconst (v := nI 1) hx hb dX7_distance_20 (by decide) ?_
      refine lv_goto (tgt := 25) hx hb dX7_distance_21 (by decide) ?_
      refine xput (G := G) (ci := 8) (v := .int (nI 1)) (ty := .int) (C := RX7) (T := TX7) (N := 18) hx hb (hts d0) in_X7_distance_X7 tyX7 tyX7_ok nmX7 hown hK.1 y_o hS hB.1 rfl 0 (by decide) (hts d0 _ hw_X7_distance_1) (fun _ h9 => h9) rfl (by decide +kernel) rfl rfl (Nat.le_of_ble_eq_true rfl) dX7_distance_25 (fun H_3 locs_3 hs_3 hS => ?_)
      have hc_3 : xc G m0 (.inr (8, [.int (nI 1), .int (nI F), .int (nI R), .ref (A 0), .ref (A 1), .ref (A 2), .ref (A 3), .ref (A 4), .int (nI nb), .ref (A 5), .ref (A 6), .ref (A 7), .ref (A 8), .ref (A 9), .ref (A 10), .double px, .double py, .double pz])) H_3 := hs_3.1
      have hc_A0_3 : xc G (A 0) (.inl (ty 0, 192, .inr (.inr (.inr (.inl pl))))) H_3 := y_0.kept (hs_3.2.2 _ (hA.1 0 (by decide)))
      have hc_A1_3 : xc G (A 1) (.inl (ty 2, 8, .inl un)) H_3 := y_1.kept (hs_3.2.2 _ (hA.1 1 (by decide)))
      have hc_A2_3 : xc G (A 2) (.inl (ty 0, 256, .inr (.inr (.inr (.inl co))))) H_3 := y_2.kept (hs_3.2.2 _ (hA.1 2 (by decide)))
      have hc_A3_3 : xc G (A 3) (.inl (ty 0, 32, .inr (.inr (.inr (.inl dr))))) H_3 := y_3.kept (hs_3.2.2 _ (hA.1 3 (by decide)))
      have hc_A4_3 : xc G (A 4) (.inl (ty 2, 64, .inl bu)) H_3 := y_4.kept (hs_3.2.2 _ (hA.1 4 (by decide)))
      have hc_A5_3 : xc G (A 5) (.inl (ty 0, 4, .inr (.inr (.inr (.inl wi))))) H_3 := y_5.kept (hs_3.2.2 _ (hA.1 5 (by decide)))
      have hc_A6_3 : xc G (A 6) (.inl (ty 0, 4, .inr (.inr (.inr (.inl hi))))) H_3 := y_6.kept (hs_3.2.2 _ (hA.1 6 (by decide)))
      have hc_A7_3 : xc G (A 7) (.inl (ty 1, 4, .inl fc)) H_3 := y_7.kept (hs_3.2.2 _ (hA.1 7 (by decide)))
      have hc_A8_3 : xc G (A 8) (.inl (ty 0, 128, .inr (.inr (.inr (.inl fa))))) H_3 := y_8.kept (hs_3.2.2 _ (hA.1 8 (by decide)))
      have hc_A9_3 : xc G (A 9) (.inl (ty 1, 8, .inl lo)) H_3 := y_9.kept (hs_3.2.2 _ (hA.1 9 (by decide)))
      have hc_A10_3 : xc G (A 10) (.inl (ty 1, 8, .inl la)) H_3 := y_10.kept (hs_3.2.2 _ (hA.1 10 (by decide)))
      have hfr_3 : xRfr m0 A H H_3 := xRfr.put0 xRfr.rf hs_3
      refine lv_aload_n hx hb dX7_distance_28 rfl (lv_at hl 0 rfl) ?_
      refine va_get (D := G) (cl := vwCl) (ci := 8) (v := .int (nI 1)) (C := RX7) (T := TX7) (N := 18) hx hb (hts d0) in_X7_distance_X7 hown hK.1 (x1 hc_3) 0 rfl rfl 0 (by decide) (hts d0 _ hw_X7_distance_1) (fun _ h9 => h9) rfl dX7_distance_29 ?_
      refine lv_if_le (tgt := 39) hx hb dX7_distance_32 (by decide) (fun h9 => absurd h9 (by decide)) (fun _ => ?_)
      refine lv_dconst0 hx hb dX7_distance_35 ?_
      refine lv_goto (tgt := 48) hx hb dX7_distance_36 (by decide) ?_
      exact xdret hd0 hx hb hr hlocks hS (Nat.le_of_ble_eq_true rfl) (Nat.le_of_ble_eq_true rfl) dX7_distance_48 ⟨nI 1, ⟨hc_3, hc_A0_3, hc_A1_3, hc_A2_3, hc_A3_3, hc_A4_3, hc_A5_3, hc_A6_3, hc_A7_3, hc_A8_3, hc_A9_3, hc_A10_3⟩, hfr_3, _, rfl, Or.inr ⟨rfl, by first | exact fun z => xP_ne.mp c_3 z.1 | exact fun z => xP_ne.mp c_2 z.2 | exact fun z => xP_ne.mp c_2 z.1⟩⟩
    · refine lv_aload_n hx hb dX7_distance_10 rfl (lv_at hl 0 rfl) ?_
      refine lv_iload_n hx hb dX7_distance_11 rfl (lv_at hl 3 rfl) ?_
      refine lv_iload hx hb dX7_distance_12 (lv_at hl 4 rfl) ?_
      have cw_5 := cwV (R := rm_X7_distance) (rm := rm_X7_noPlace) 2 (hts d0) gX7_distance_X7_noPlace rfl rfl rfl (by decide +kernel) ⟨Nat.le_of_ble_eq_true rfl, Nat.le_of_ble_eq_true rfl⟩
      refine xcall hd0 (xintoV (b := m0) (As := [.int (g), .int (q)]) (rest := [.ref m0]) ⟨hx, hb, hml, hown, hts _⟩ cw_5 (va_recv hK.1 (x1 y_o) (ci := 8) (q0 := 0) rfl rfl) rfl rfl hl.1 rfl (lv_room (Nat.le_of_ble_eq_true rfl)) dX7_distance_14) (c_X7_noPlace (l := l) (G := G) (ty := ty) (b0 := b0) (⟨y_o, y_0, y_1, y_2, y_3, y_4, y_5, y_6, y_7, y_8, y_9, y_10⟩ : xRef G ty m0 A (th) F R pl un co dr bu nb wi hi fc fa lo la px py pz H) hZ) (xoweB cw_5.1) hK hb0 hS (Nat.le_of_ble_eq_true rfl) (Nat.le_of_ble_eq_true rfl) (fun E_5 ce_5 q9_5 H_5 locs_5 d0 hd0 hp_5 hS hce_5 hcv_5 hcl_5 => ?_) (fun v_5 H_5 locs_5 d0 hd0 hp_5 hS => ?_)
      · exact hp_5.elim
      · obtain ⟨rfl, rfl⟩ := hp_5
        show W p l e _ (s.setDrawn _) m _ below meth c _ _ _ _ _ (F0 m 17 ls [.int (xP (¬ (vp_in g F ∧ vp_in q R))), .ref m0])
        refine lv_if_eq (tgt := 24) hx hb dX7_distance_17 (by decide) (fun c_6 => ?_) (fun c_6 => ?_)
        · refine lv_iconst (v := nI 0) hx hb dX7_distance_24 (by decide) ?_
          refine xput (G := G) (ci := 8) (v := .int (nI 0)) (ty := .int) (C := RX7) (T := TX7) (N := 18) hx hb (hts d0) in_X7_distance_X7 tyX7 tyX7_ok nmX7 hown hK.1 y_o hS hB.1 rfl 0 (by decide) (hts d0 _ hw_X7_distance_1) (fun _ h9 => h9) rfl (by decide +kernel) rfl rfl (Nat.le_of_ble_eq_true rfl) dX7_distance_25 (fun H_7 locs_7 hs_7 hS => ?_)
          have hc_7 : xc G m0 (.inr (8, [.int (nI 0), .int (nI F), .int (nI R), .ref (A 0), .ref (A 1), .ref (A 2), .ref (A 3), .ref (A 4), .int (nI nb), .ref (A 5), .ref (A 6), .ref (A 7), .ref (A 8), .ref (A 9), .ref (A 10), .double px, .double py, .double pz])) H_7 := hs_7.1
          have hc_A0_7 : xc G (A 0) (.inl (ty 0, 192, .inr (.inr (.inr (.inl pl))))) H_7 := y_0.kept (hs_7.2.2 _ (hA.1 0 (by decide)))
          have hc_A1_7 : xc G (A 1) (.inl (ty 2, 8, .inl un)) H_7 := y_1.kept (hs_7.2.2 _ (hA.1 1 (by decide)))
          have hc_A2_7 : xc G (A 2) (.inl (ty 0, 256, .inr (.inr (.inr (.inl co))))) H_7 := y_2.kept (hs_7.2.2 _ (hA.1 2 (by decide)))
          have hc_A3_7 : xc G (A 3) (.inl (ty 0, 32, .inr (.inr (.inr (.inl dr))))) H_7 := y_3.kept (hs_7.2.2 _ (hA.1 3 (by decide)))
          have hc_A4_7 : xc G (A 4) (.inl (ty 2, 64, .inl bu)) H_7 := y_4.kept (hs_7.2.2 _ (hA.1 4 (by decide)))
          have hc_A5_7 : xc G (A 5) (.inl (ty 0, 4, .inr (.inr (.inr (.inl wi))))) H_7 := y_5.kept (hs_7.2.2 _ (hA.1 5 (by decide)))
          have hc_A6_7 : xc G (A 6) (.inl (ty 0, 4, .inr (.inr (.inr (.inl hi))))) H_7 := y_6.kept (hs_7.2.2 _ (hA.1 6 (by decide)))
          have hc_A7_7 : xc G (A 7) (.inl (ty 1, 4, .inl fc)) H_7 := y_7.kept (hs_7.2.2 _ (hA.1 7 (by decide)))
          have hc_A8_7 : xc G (A 8) (.inl (ty 0, 128, .inr (.inr (.inr (.inl fa))))) H_7 := y_8.kept (hs_7.2.2 _ (hA.1 8 (by decide)))
          have hc_A9_7 : xc G (A 9) (.inl (ty 1, 8, .inl lo)) H_7 := y_9.kept (hs_7.2.2 _ (hA.1 9 (by decide)))
          have hc_A10_7 : xc G (A 10) (.inl (ty 1, 8, .inl la)) H_7 := y_10.kept (hs_7.2.2 _ (hA.1 10 (by decide)))
          have hfr_7 : xRfr m0 A H H_7 := xRfr.put0 xRfr.rf hs_7
          refine lv_aload_n hx hb dX7_distance_28 rfl (lv_at hl 0 rfl) ?_
          refine va_get (D := G) (cl := vwCl) (ci := 8) (v := .int (nI 0)) (C := RX7) (T := TX7) (N := 18) hx hb (hts d0) in_X7_distance_X7 hown hK.1 (x1 hc_7) 0 rfl rfl 0 (by decide) (hts d0 _ hw_X7_distance_1) (fun _ h9 => h9) rfl dX7_distance_29 ?_
          refine lv_if_le (tgt := 39) hx hb dX7_distance_32 (by decide) (fun _ => ?_) (fun h9 => absurd (by decide) h9)
          have z1 := Classical.not_not.mp (xP_eq.mp c_2)
          have z2 := Classical.not_not.mp (xP_eq.mp c_6)
          obtain ⟨f9, hf9, ef9⟩ := vp_in_of z1.1 (by omega)
          obtain ⟨r9, hr9, er9⟩ := vp_in_of z1.2 (by omega)
          obtain ⟨g9, hg9, eg9⟩ := vp_in_of z2.1 (by omega)
          obtain ⟨q9, hq9, eq9⟩ := vp_in_of z2.2 (by omega)
          subst ef9 er9 eg9 eq9
          refine lv_aload_n hx hb dX7_distance_39 rfl (lv_at hl 0 rfl) ?_
          refine lv_iload_n hx hb dX7_distance_40 rfl (lv_at hl 1 rfl) ?_
          refine lv_iload_n hx hb dX7_distance_41 rfl (lv_at hl 2 rfl) ?_
          refine lv_iload_n hx hb dX7_distance_42 rfl (lv_at hl 3 rfl) ?_
          refine lv_iload hx hb dX7_distance_43 (lv_at hl 4 rfl) ?_
          have cw_9 := cwV (R := rm_X7_distance) (rm := rm_X7_far) 4 (hts d0) gX7_distance_X7_far rfl rfl rfl (by decide +kernel) ⟨Nat.le_of_ble_eq_true rfl, Nat.le_of_ble_eq_true rfl⟩
          refine xcall hd0 (xintoV (b := m0) (As := [.int (nI f9), .int (nI r9), .int (nI g9), .int (nI q9)]) (rest := []) ⟨hx, hb, hml, hown, hts _⟩ cw_9 (va_recv hK.1 (x1 hc_7) (ci := 8) (q0 := 0) rfl rfl) rfl rfl hl.1 rfl (lv_room (Nat.le_of_ble_eq_true rfl)) dX7_distance_45) (c_X7_far (l := l) (G := G) (ty := ty) (b0 := b0) (f := f9) (r := r9) (g := g9) (q := q9) (by omega) (by omega) (by omega) (by omega) (⟨hc_7, hc_A0_7, hc_A1_7, hc_A2_7, hc_A3_7, hc_A4_7, hc_A5_7, hc_A6_7, hc_A7_7, hc_A8_7, hc_A9_7, hc_A10_7⟩ : xRef G ty m0 A (nI 0) F R pl un co dr bu nb wi hi fc fa lo la px py pz H_7) hZ) (xoweB cw_9.1) hK hb0 hS (Nat.le_of_ble_eq_true rfl) (Nat.le_of_ble_eq_true rfl) (fun E_9 ce_9 q9_9 H_9 locs_9 d0 hd0 hp_9 hS hce_9 hcv_9 hcl_9 => ?_) (fun v_9 H_9 locs_9 d0 hd0 hp_9 hS => ?_)
          · exact hp_9.elim
          · obtain ⟨rfl, r_9, rfl, q_9⟩ := hp_9
            show W p l e _ (s.setDrawn _) m _ below meth c _ _ _ _ _ (F0 m 48 ls [.double r_9])
            exact xdret hd0 hx hb hr hlocks hS (Nat.le_of_ble_eq_true rfl) (Nat.le_of_ble_eq_true rfl) dX7_distance_48 ⟨nI 0, ⟨hc_7, hc_A0_7, hc_A1_7, hc_A2_7, hc_A3_7, hc_A4_7, hc_A5_7, hc_A6_7, hc_A7_7, hc_A8_7, hc_A9_7, hc_A10_7⟩, hfr_7, _, rfl, Or.inl ⟨rfl, ⟨z1, z2⟩, by rw [nN_nI (by omega), nN_nI (by omega), nN_nI (by omega), nN_nI (by omega)]; exact q_9⟩⟩
        · refine lv_iconst (v := nI 1) hx hb dX7_distance_20 (by decide) ?_
          refine lv_goto (tgt := 25) hx hb dX7_distance_21 (by decide) ?_
          refine xput (G := G) (ci := 8) (v := .int (nI 1)) (ty := .int) (C := RX7) (T := TX7) (N := 18) hx hb (hts d0) in_X7_distance_X7 tyX7 tyX7_ok nmX7 hown hK.1 y_o hS hB.1 rfl 0 (by decide) (hts d0 _ hw_X7_distance_1) (fun _ h9 => h9) rfl (by decide +kernel) rfl rfl (Nat.le_of_ble_eq_true rfl) dX7_distance_25 (fun H_10 locs_10 hs_10 hS => ?_)
          have hc_10 : xc G m0 (.inr (8, [.int (nI 1), .int (nI F), .int (nI R), .ref (A 0), .ref (A 1), .ref (A 2), .ref (A 3), .ref (A 4), .int (nI nb), .ref (A 5), .ref (A 6), .ref (A 7), .ref (A 8), .ref (A 9), .ref (A 10), .double px, .double py, .double pz])) H_10 := hs_10.1
          have hc_A0_10 : xc G (A 0) (.inl (ty 0, 192, .inr (.inr (.inr (.inl pl))))) H_10 := y_0.kept (hs_10.2.2 _ (hA.1 0 (by decide)))
          have hc_A1_10 : xc G (A 1) (.inl (ty 2, 8, .inl un)) H_10 := y_1.kept (hs_10.2.2 _ (hA.1 1 (by decide)))
          have hc_A2_10 : xc G (A 2) (.inl (ty 0, 256, .inr (.inr (.inr (.inl co))))) H_10 := y_2.kept (hs_10.2.2 _ (hA.1 2 (by decide)))
          have hc_A3_10 : xc G (A 3) (.inl (ty 0, 32, .inr (.inr (.inr (.inl dr))))) H_10 := y_3.kept (hs_10.2.2 _ (hA.1 3 (by decide)))
          have hc_A4_10 : xc G (A 4) (.inl (ty 2, 64, .inl bu)) H_10 := y_4.kept (hs_10.2.2 _ (hA.1 4 (by decide)))
          have hc_A5_10 : xc G (A 5) (.inl (ty 0, 4, .inr (.inr (.inr (.inl wi))))) H_10 := y_5.kept (hs_10.2.2 _ (hA.1 5 (by decide)))
          have hc_A6_10 : xc G (A 6) (.inl (ty 0, 4, .inr (.inr (.inr (.inl hi))))) H_10 := y_6.kept (hs_10.2.2 _ (hA.1 6 (by decide)))
          have hc_A7_10 : xc G (A 7) (.inl (ty 1, 4, .inl fc)) H_10 := y_7.kept (hs_10.2.2 _ (hA.1 7 (by decide)))
          have hc_A8_10 : xc G (A 8) (.inl (ty 0, 128, .inr (.inr (.inr (.inl fa))))) H_10 := y_8.kept (hs_10.2.2 _ (hA.1 8 (by decide)))
          have hc_A9_10 : xc G (A 9) (.inl (ty 1, 8, .inl lo)) H_10 := y_9.kept (hs_10.2.2 _ (hA.1 9 (by decide)))
          have hc_A10_10 : xc G (A 10) (.inl (ty 1, 8, .inl la)) H_10 := y_10.kept (hs_10.2.2 _ (hA.1 10 (by decide)))
          have hfr_10 : xRfr m0 A H H_10 := xRfr.put0 xRfr.rf hs_10
          refine lv_aload_n hx hb dX7_distance_28 rfl (lv_at hl 0 rfl) ?_
          refine va_get (D := G) (cl := vwCl) (ci := 8) (v := .int (nI 1)) (C := RX7) (T := TX7) (N := 18) hx hb (hts d0) in_X7_distance_X7 hown hK.1 (x1 hc_10) 0 rfl rfl 0 (by decide) (hts d0 _ hw_X7_distance_1) (fun _ h9 => h9) rfl dX7_distance_29 ?_
          refine lv_if_le (tgt := 39) hx hb dX7_distance_32 (by decide) (fun h9 => absurd h9 (by decide)) (fun _ => ?_)
          refine lv_dconst0 hx hb dX7_distance_35 ?_
          refine lv_goto (tgt := 48) hx hb dX7_distance_36 (by decide) ?_
          exact xdret hd0 hx hb hr hlocks hS (Nat.le_of_ble_eq_true rfl) (Nat.le_of_ble_eq_true rfl) dX7_distance_48 ⟨nI 1, ⟨hc_10, hc_A0_10, hc_A1_10, hc_A2_10, hc_A3_10, hc_A4_10, hc_A5_10, hc_A6_10, hc_A7_10, hc_A8_10, hc_A9_10, hc_A10_10⟩, hfr_10, _, rfl, Or.inr ⟨rfl, by first | exact fun z => xP_ne.mp c_3 z.1 | exact fun z => xP_ne.mp c_6 z.2 | exact fun z => xP_ne.mp c_2 z.1⟩⟩
theorem xin_le {x : Int32} {n : Nat} (h0 : ¬ x < 0) (h1 : x ≤ nI n) (hn : n < 2 ^ 30) : vp_in x (n + 1) := by
  obtain ⟨j, hj, rfl⟩ := nI_of h0
  exact vp_in_nI (by have := (nI_leI hj (by omega)).mp h1; omega) (by omega)
theorem xin_gt {x : Int32} {n : Nat} (h1 : ¬ x ≤ nI n) (hn : n < 2 ^ 30) : ¬ vp_in x (n + 1) := by
  intro z
  obtain ⟨j, hj, rfl⟩ := vp_in_of z (by omega)
  exact h1 (nI_le (by omega) (by omega))
theorem xin_lt {x : Int32} {n : Nat} (h0 : ¬ x < 0) (h1 : x < nI n) (hn : n < 2 ^ 30) : vp_in x n := xin_of h0 (Int32.not_le.mpr h1) (by omega)
theorem xin_nlt {x : Int32} {n : Nat} (h1 : ¬ x < nI n) (hn : n < 2 ^ 30) : ¬ vp_in x n := xin_no1 (Int32.not_lt.mp h1) (by omega)
def pStav (w d : UInt64) : Bool := pBetween w 4593671619917905920 4652007308841189376 && pBetween d FP.dconst0 4652007308841189376
theorem pStav_t {w d : UInt64} (h1 : ¬ xB (pBetween w 4593671619917905920 4652007308841189376) = 0) (h2 : ¬ xB (pBetween d FP.dconst0 4652007308841189376) = 0) : xB (pStav w d) = 1 := by
  unfold pStav
  cases ha : pBetween w 4593671619917905920 4652007308841189376
  · rw [ha] at h1; exact absurd rfl h1
  · cases hb : pBetween d FP.dconst0 4652007308841189376
    · rw [hb] at h2; exact absurd rfl h2
    · rfl
theorem pStav_f1 {w d : UInt64} (h1 : xB (pBetween w 4593671619917905920 4652007308841189376) = 0) : xB (pStav w d) = 0 := by
  unfold pStav
  cases ha : pBetween w 4593671619917905920 4652007308841189376
  · rfl
  · rw [ha] at h1; exact absurd h1 (by decide)
theorem pStav_f2 {w d : UInt64} (h1 : xB (pBetween d FP.dconst0 4652007308841189376) = 0) : xB (pStav w d) = 0 := by
  unfold pStav
  cases ha : pBetween d FP.dconst0 4652007308841189376
  · cases pBetween w 4593671619917905920 4652007308841189376 <;> rfl
  · rw [ha] at h1; exact absurd h1 (by decide)
theorem xB_t {b : Bool} (h : ¬ xB b = 0) : b = true := by cases b; exact absurd rfl h; rfl
theorem xB_f {b : Bool} (h : xB b = 0) : b = false := by cases b; rfl; exact absurd h (by decide)
theorem xB_nz (b : Bool) : narrow .boolean (.int (xB b)) = .int (xB b) := by cases b <;> decide
set_option maxRecDepth 20000 in
theorem ggX7_flat_X7_noStrip : GoodIn wsX7_flat wsX7_noStrip := goodIn_r _ [9, 10, 11, 12, 13, 14, 15, 16, 17, 18, 19, 20, 21, 22, 23, 24, 25, 26, 27, 28] (by decide +kernel) (by decide +kernel)
set_option maxRecDepth 20000 in
theorem gX7_flat_X7_noStrip : GoodIn wsX7_flat (wsV RX7 87 RX7 yX7_noStrip wsX7_noStrip) := goodIn_app (goodIn_of _ (by decide +kernel)) ggX7_flat_X7_noStrip
theorem dX7_flat_0 : decode cX7_flat 0 = .ok (.aload_n 0, 1) := by decide +kernel
theorem dX7_flat_1 : decode cX7_flat 1 = .ok (.aload_n 0, 1) := by decide +kernel
theorem dX7_flat_2 : decode cX7_flat 2 = .ok (.iload_n 1, 1) := by decide +kernel
theorem dX7_flat_3 : decode cX7_flat 3 = .ok (.invokevirtual 87, 3) := by decide +kernel
theorem dX7_flat_6 : decode cX7_flat 6 = .ok (.ifCond .ne 26, 3) := by decide +kernel
theorem dX7_flat_9 : decode cX7_flat 9 = .ok (.iload_n 2, 1) := by decide +kernel
theorem dX7_flat_10 : decode cX7_flat 10 = .ok (.ifCond .lt 22, 3) := by decide +kernel
theorem dX7_flat_13 : decode cX7_flat 13 = .ok (.iload_n 2, 1) := by decide +kernel
theorem dX7_flat_14 : decode cX7_flat 14 = .ok (.iconst 2, 1) := by decide +kernel
theorem dX7_flat_15 : decode cX7_flat 15 = .ok (.aload_n 0, 1) := by decide +kernel
theorem dX7_flat_16 : decode cX7_flat 16 = .ok (.getfield 45, 3) := by decide +kernel
theorem dX7_flat_19 : decode cX7_flat 19 = .ok (.imul, 1) := by decide +kernel
theorem dX7_flat_20 : decode cX7_flat 20 = .ok (.if_icmp .ge 12, 3) := by decide +kernel
theorem dX7_flat_23 : decode cX7_flat 23 = .ok (.iload_n 3, 1) := by decide +kernel
theorem dX7_flat_24 : decode cX7_flat 24 = .ok (.ifCond .lt 8, 3) := by decide +kernel
theorem dX7_flat_27 : decode cX7_flat 27 = .ok (.iload_n 3, 1) := by decide +kernel
theorem dX7_flat_28 : decode cX7_flat 28 = .ok (.iconst 1, 1) := by decide +kernel
theorem dX7_flat_29 : decode cX7_flat 29 = .ok (.if_icmp .le 7, 3) := by decide +kernel
theorem dX7_flat_32 : decode cX7_flat 32 = .ok (.iconst 1, 1) := by decide +kernel
theorem dX7_flat_33 : decode cX7_flat 33 = .ok (.goto 17, 3) := by decide +kernel
theorem dX7_flat_36 : decode cX7_flat 36 = .ok (.aload_n 0, 1) := by decide +kernel
theorem dX7_flat_37 : decode cX7_flat 37 = .ok (.getfield 13, 3) := by decide +kernel
theorem dX7_flat_40 : decode cX7_flat 40 = .ok (.iload_n 1, 1) := by decide +kernel
theorem dX7_flat_41 : decode cX7_flat 41 = .ok (.baload, 1) := by decide +kernel
theorem dX7_flat_42 : decode cX7_flat 42 = .ok (.ifCond .eq 7, 3) := by decide +kernel
theorem dX7_flat_45 : decode cX7_flat 45 = .ok (.iconst 0, 1) := by decide +kernel
theorem dX7_flat_46 : decode cX7_flat 46 = .ok (.goto 4, 3) := by decide +kernel
theorem dX7_flat_49 : decode cX7_flat 49 = .ok (.iconst 2, 1) := by decide +kernel
theorem dX7_flat_50 : decode cX7_flat 50 = .ok (.putfield 52, 3) := by decide +kernel
theorem dX7_flat_53 : decode cX7_flat 53 = .ok (.aload_n 0, 1) := by decide +kernel
theorem dX7_flat_54 : decode cX7_flat 54 = .ok (.getfield 52, 3) := by decide +kernel
theorem dX7_flat_57 : decode cX7_flat 57 = .ok (.ifCond .le 7, 3) := by decide +kernel
theorem dX7_flat_60 : decode cX7_flat 60 = .ok (.dconst 0, 1) := by decide +kernel
theorem dX7_flat_61 : decode cX7_flat 61 = .ok (.goto 18, 3) := by decide +kernel
theorem dX7_flat_64 : decode cX7_flat 64 = .ok (.aload_n 0, 1) := by decide +kernel
theorem dX7_flat_65 : decode cX7_flat 65 = .ok (.getfield 17, 3) := by decide +kernel
theorem dX7_flat_68 : decode cX7_flat 68 = .ok (.bipush 32, 2) := by decide +kernel
theorem dX7_flat_70 : decode cX7_flat 70 = .ok (.iload_n 1, 1) := by decide +kernel
theorem dX7_flat_71 : decode cX7_flat 71 = .ok (.imul, 1) := by decide +kernel
theorem dX7_flat_72 : decode cX7_flat 72 = .ok (.iconst 2, 1) := by decide +kernel
theorem dX7_flat_73 : decode cX7_flat 73 = .ok (.iload_n 2, 1) := by decide +kernel
theorem dX7_flat_74 : decode cX7_flat 74 = .ok (.imul, 1) := by decide +kernel
theorem dX7_flat_75 : decode cX7_flat 75 = .ok (.iadd, 1) := by decide +kernel
theorem dX7_flat_76 : decode cX7_flat 76 = .ok (.iload_n 3, 1) := by decide +kernel
theorem dX7_flat_77 : decode cX7_flat 77 = .ok (.iadd, 1) := by decide +kernel
theorem dX7_flat_78 : decode cX7_flat 78 = .ok (.daload, 1) := by decide +kernel
theorem dX7_flat_79 : decode cX7_flat 79 = .ok (.dreturn, 1) := by decide +kernel
abbrev rm_X7_flat : Room := { frames := 7, cells := 0, slots := 0, locals := 140 }
theorem hw_X7_flat_1 : (Cond.fieldLink RX7 45 "PlankUnrollModel" "frames" "I") ∈ wsX7_flat := List.mem_of_getElem? (i := 1) rfl
theorem hw_X7_flat_2 : (Cond.fieldLink RX7 13 "PlankUnrollModel" "unrolled" "[Z") ∈ wsX7_flat := List.mem_of_getElem? (i := 2) rfl
theorem hw_X7_flat_3 : (Cond.fieldLink RX7 52 "PlankUnrollModel" "thrown" "I") ∈ wsX7_flat := List.mem_of_getElem? (i := 3) rfl
theorem hw_X7_flat_4 : (Cond.fieldLink RX7 17 "PlankUnrollModel" "corners" "[D") ∈ wsX7_flat := List.mem_of_getElem? (i := 4) rfl
theorem in_X7_flat_X7 : ∀ w ∈ wsX70, w ∈ wsX7_flat := by decide +kernel
set_option maxHeartbeats 4000000 in
set_option maxRecDepth 100000 in
/-- flat -/
theorem c_X7_flat {l : Launch} {G : va_G} {ty : Nat → ClassId} {b0 : Nat} {H : Heap} {x k q : Int32} {m0 : Nat} {A : Nat → Nat} {th : Int32} {F R nb : Nat} {pl co dr wi hi fa : Nat → UInt64} {un bu fc lo la : Nat → Int32} {px py pz : UInt64} (hY : xRef G ty m0 A th F R pl un co dr bu nb wi hi fc fa lo la px py pz H) (hZ : xSz F R) (hA : xAp m0 A) (hB : xNw b0 m0 A) : xMet l yX7_flat wsX7_flat rm_X7_flat G ty b0 [.ref m0, .int (x), .int (k), .int (q)] H (fun v H1 => ∃ T : Int32, xRef G ty m0 A T F R pl un co dr bu nb wi hi fc fa lo la px py pz H1 ∧ xRfr m0 A H H1 ∧ ∃ z : UInt64, v = some (.double z) ∧ ((T = nI 0 ∧ (vp_in x (R - 1) ∧ vp_in k (2 * F) ∧ vp_in q 2) ∧ ¬ un x.toNatClampNeg = 0 ∧ vq z (co (32 * x.toNatClampNeg + 2 * k.toNatClampNeg + q.toNatClampNeg))) ∨ (T = nI 1 ∧ ¬ (vp_in x (R - 1) ∧ vp_in k (2 * F) ∧ vp_in q 2)) ∨ (T = nI 2 ∧ (vp_in x (R - 1) ∧ vp_in k (2 * F) ∧ vp_in q 2) ∧ un x.toNatClampNeg = 0))) (fun _ _ => False) := by
  refine xbody (cc := cX7_flat) (maxL := 4) (ret := (some .double)) (C := RX7) (lv := [(0, .ref m0), (1, .int (x)), (2, .int (k)), (3, .int (q))]) (by decide) rfl rfl (Nat.le_of_ble_eq_true rfl) rfl ?_
  intro p e s m below meth c d0 hx hb hr hts hown hlocks hml hxt hnm0 hK hb0 hH0 hS hd0 ls hl
  obtain ⟨y_o, y_0, y_1, y_2, y_3, y_4, y_5, y_6, y_7, y_8, y_9, y_10⟩ := id hY
  obtain ⟨⟨zF2, zF8⟩, ⟨zR2, zR8⟩⟩ := id hZ
  refine lv_aload_n hx hb dX7_flat_0 rfl (lv_at hl 0 rfl) ?_
  refine lv_aload_n hx hb dX7_flat_1 rfl (lv_at hl 0 rfl) ?_
  refine lv_iload_n hx hb dX7_flat_2 rfl (lv_at hl 1 rfl) ?_
  have cw_1 := cwV (R := rm_X7_flat) (rm := rm_X7_noStrip) 1 (hts d0) gX7_flat_X7_noStrip rfl rfl rfl (by decide +kernel) ⟨Nat.le_of_ble_eq_true rfl, Nat.le_of_ble_eq_true rfl⟩
  refine xcall hd0 (xintoV (b := m0) (As := [.int (x)]) (rest := [.ref m0]) ⟨hx, hb, hml, hown, hts _⟩ cw_1 (va_recv hK.1 (x1 y_o) (ci := 8) (q0 := 0) rfl rfl) rfl rfl hl.1 rfl (lv_room (Nat.le_of_ble_eq_true rfl)) dX7_flat_3) (c_X7_noStrip (l := l) (G := G) (ty := ty) (b0 := b0) (⟨y_o, y_0, y_1, y_2, y_3, y_4, y_5, y_6, y_7, y_8, y_9, y_10⟩ : xRef G ty m0 A (th) F R pl un co dr bu nb wi hi fc fa lo la px py pz H) hZ) (xoweB cw_1.1) hK hb0 hS (Nat.le_of_ble_eq_true rfl) (Nat.le_of_ble_eq_true rfl) (fun E_1 ce_1 q9_1 H_1 locs_1 d0 hd0 hp_1 hS hce_1 hcv_1 hcl_1 => ?_) (fun v_1 H_1 locs_1 d0 hd0 hp_1 hS => ?_)
  · exact hp_1.elim
  · obtain ⟨rfl, rfl⟩ := hp_1
    show W p l e _ (s.setDrawn _) m _ below meth c _ _ _ _ _ (F0 m 6 ls [.int (xP (¬ vp_in x (R - 1))), .ref m0])
    refine lv_if_ne (tgt := 32) hx hb dX7_flat_6 (by decide) (fun c_2 => ?_) (fun c_2 => ?_)
    · refine lv_iconst (v := nI 1) hx hb dX7_flat_32 (by decide) ?_
      refine lv_goto (tgt := 50) hx hb dX7_flat_33 (by decide) ?_
      refine xput (G := G) (ci := 8) (v := .int (nI 1)) (ty := .int) (C := RX7) (T := TX7) (N := 18) hx hb (hts d0) in_X7_flat_X7 tyX7 tyX7_ok nmX7 hown hK.1 y_o hS hB.1 rfl 0 (by decide) (hts d0 _ hw_X7_flat_3) (fun _ h9 => h9) rfl (by decide +kernel) rfl rfl (Nat.le_of_ble_eq_true rfl) dX7_flat_50 (fun H_3 locs_3 hs_3 hS => ?_)
      have hc_3 : xc G m0 (.inr (8, [.int (nI 1), .int (nI F), .int (nI R), .ref (A 0), .ref (A 1), .ref (A 2), .ref (A 3), .ref (A 4), .int (nI nb), .ref (A 5), .ref (A 6), .ref (A 7), .ref (A 8), .ref (A 9), .ref (A 10), .double px, .double py, .double pz])) H_3 := hs_3.1
      have hc_A0_3 : xc G (A 0) (.inl (ty 0, 192, .inr (.inr (.inr (.inl pl))))) H_3 := y_0.kept (hs_3.2.2 _ (hA.1 0 (by decide)))
      have hc_A1_3 : xc G (A 1) (.inl (ty 2, 8, .inl un)) H_3 := y_1.kept (hs_3.2.2 _ (hA.1 1 (by decide)))
      have hc_A2_3 : xc G (A 2) (.inl (ty 0, 256, .inr (.inr (.inr (.inl co))))) H_3 := y_2.kept (hs_3.2.2 _ (hA.1 2 (by decide)))
      have hc_A3_3 : xc G (A 3) (.inl (ty 0, 32, .inr (.inr (.inr (.inl dr))))) H_3 := y_3.kept (hs_3.2.2 _ (hA.1 3 (by decide)))
      have hc_A4_3 : xc G (A 4) (.inl (ty 2, 64, .inl bu)) H_3 := y_4.kept (hs_3.2.2 _ (hA.1 4 (by decide)))
      have hc_A5_3 : xc G (A 5) (.inl (ty 0, 4, .inr (.inr (.inr (.inl wi))))) H_3 := y_5.kept (hs_3.2.2 _ (hA.1 5 (by decide)))
      have hc_A6_3 : xc G (A 6) (.inl (ty 0, 4, .inr (.inr (.inr (.inl hi))))) H_3 := y_6.kept (hs_3.2.2 _ (hA.1 6 (by decide)))
      have hc_A7_3 : xc G (A 7) (.inl (ty 1, 4, .inl fc)) H_3 := y_7.kept (hs_3.2.2 _ (hA.1 7 (by decide)))
      have hc_A8_3 : xc G (A 8) (.inl (ty 0, 128, .inr (.inr (.inr (.inl fa))))) H_3 := y_8.kept (hs_3.2.2 _ (hA.1 8 (by decide)))
      have hc_A9_3 : xc G (A 9) (.inl (ty 1, 8, .inl lo)) H_3 := y_9.kept (hs_3.2.2 _ (hA.1 9 (by decide)))
      have hc_A10_3 : xc G (A 10) (.inl (ty 1, 8, .inl la)) H_3 := y_10.kept (hs_3.2.2 _ (hA.1 10 (by decide)))
      have hfr_3 : xRfr m0 A H H_3 := xRfr.put0 xRfr.rf hs_3
      refine lv_aload_n hx hb dX7_flat_53 rfl (lv_at hl 0 rfl) ?_
      refine va_get (D := G) (cl := vwCl) (ci := 8) (v := .int (nI 1)) (C := RX7) (T := TX7) (N := 18) hx hb (hts d0) in_X7_flat_X7 hown hK.1 (x1 hc_3) 0 rfl rfl 0 (by decide) (hts d0 _ hw_X7_flat_3) (fun _ h9 => h9) rfl dX7_flat_54 ?_
      refine lv_if_le (tgt := 64) hx hb dX7_flat_57 (by decide) (fun h9 => absurd h9 (by decide)) (fun _ => ?_)
      refine lv_dconst0 hx hb dX7_flat_60 ?_
      refine lv_goto (tgt := 79) hx hb dX7_flat_61 (by decide) ?_
      exact xdret hd0 hx hb hr hlocks hS (Nat.le_of_ble_eq_true rfl) (Nat.le_of_ble_eq_true rfl) dX7_flat_79 ⟨nI 1, ⟨hc_3, hc_A0_3, hc_A1_3, hc_A2_3, hc_A3_3, hc_A4_3, hc_A5_3, hc_A6_3, hc_A7_3, hc_A8_3, hc_A9_3, hc_A10_3⟩, hfr_3, _, rfl, Or.inr (Or.inl ⟨rfl, fun z => xP_ne.mp c_2 z.1⟩)⟩
    · refine lv_iload_n hx hb dX7_flat_9 rfl (lv_at hl 2 rfl) ?_
      refine lv_if_lt (tgt := 32) hx hb dX7_flat_10 (by decide) (fun c_5 => ?_) (fun c_5 => ?_)
      · refine lv_iconst (v := nI 1) hx hb dX7_flat_32 (by decide) ?_
        refine lv_goto (tgt := 50) hx hb dX7_flat_33 (by decide) ?_
        refine xput (G := G) (ci := 8) (v := .int (nI 1)) (ty := .int) (C := RX7) (T := TX7) (N := 18) hx hb (hts d0) in_X7_flat_X7 tyX7 tyX7_ok nmX7 hown hK.1 y_o hS hB.1 rfl 0 (by decide) (hts d0 _ hw_X7_flat_3) (fun _ h9 => h9) rfl (by decide +kernel) rfl rfl (Nat.le_of_ble_eq_true rfl) dX7_flat_50 (fun H_6 locs_6 hs_6 hS => ?_)
        have hc_6 : xc G m0 (.inr (8, [.int (nI 1), .int (nI F), .int (nI R), .ref (A 0), .ref (A 1), .ref (A 2), .ref (A 3), .ref (A 4), .int (nI nb), .ref (A 5), .ref (A 6), .ref (A 7), .ref (A 8), .ref (A 9), .ref (A 10), .double px, .double py, .double pz])) H_6 := hs_6.1
        have hc_A0_6 : xc G (A 0) (.inl (ty 0, 192, .inr (.inr (.inr (.inl pl))))) H_6 := y_0.kept (hs_6.2.2 _ (hA.1 0 (by decide)))
        have hc_A1_6 : xc G (A 1) (.inl (ty 2, 8, .inl un)) H_6 := y_1.kept (hs_6.2.2 _ (hA.1 1 (by decide)))
        have hc_A2_6 : xc G (A 2) (.inl (ty 0, 256, .inr (.inr (.inr (.inl co))))) H_6 := y_2.kept (hs_6.2.2 _ (hA.1 2 (by decide)))
        have hc_A3_6 : xc G (A 3) (.inl (ty 0, 32, .inr (.inr (.inr (.inl dr))))) H_6 := y_3.kept (hs_6.2.2 _ (hA.1 3 (by decide)))
        have hc_A4_6 : xc G (A 4) (.inl (ty 2, 64, .inl bu)) H_6 := y_4.kept (hs_6.2.2 _ (hA.1 4 (by decide)))
        have hc_A5_6 : xc G (A 5) (.inl (ty 0, 4, .inr (.inr (.inr (.inl wi))))) H_6 := y_5.kept (hs_6.2.2 _ (hA.1 5 (by decide)))
        have hc_A6_6 : xc G (A 6) (.inl (ty 0, 4, .inr (.inr (.inr (.inl hi))))) H_6 := y_6.kept (hs_6.2.2 _ (hA.1 6 (by decide)))
        have hc_A7_6 : xc G (A 7) (.inl (ty 1, 4, .inl fc)) H_6 := y_7.kept (hs_6.2.2 _ (hA.1 7 (by decide)))
        have hc_A8_6 : xc G (A 8) (.inl (ty 0, 128, .inr (.inr (.inr (.inl fa))))) H_6 := y_8.kept (hs_6.2.2 _ (hA.1 8 (by decide)))
        have hc_A9_6 : xc G (A 9) (.inl (ty 1, 8, .inl lo)) H_6 := y_9.kept (hs_6.2.2 _ (hA.1 9 (by decide)))
        have hc_A10_6 : xc G (A 10) (.inl (ty 1, 8, .inl la)) H_6 := y_10.kept (hs_6.2.2 _ (hA.1 10 (by decide)))
        have hfr_6 : xRfr m0 A H H_6 := xRfr.put0 xRfr.rf hs_6
        refine lv_aload_n hx hb dX7_flat_53 rfl (lv_at hl 0 rfl) ?_
        refine va_get (D := G) (cl := vwCl) (ci := 8) (v := .int (nI 1)) (C := RX7) (T := TX7) (N := 18) hx hb (hts d0) in_X7_flat_X7 hown hK.1 (x1 hc_6) 0 rfl rfl 0 (by decide) (hts d0 _ hw_X7_flat_3) (fun _ h9 => h9) rfl dX7_flat_54 ?_
        refine lv_if_le (tgt := 64) hx hb dX7_flat_57 (by decide) (fun h9 => absurd h9 (by decide)) (fun _ => ?_)
        refine lv_dconst0 hx hb dX7_flat_60 ?_
        refine lv_goto (tgt := 79) hx hb dX7_flat_61 (by decide) ?_
        exact xdret hd0 hx hb hr hlocks hS (Nat.le_of_ble_eq_true rfl) (Nat.le_of_ble_eq_true rfl) dX7_flat_79 ⟨nI 1, ⟨hc_6, hc_A0_6, hc_A1_6, hc_A2_6, hc_A3_6, hc_A4_6, hc_A5_6, hc_A6_6, hc_A7_6, hc_A8_6, hc_A9_6, hc_A10_6⟩, hfr_6, _, rfl, Or.inr (Or.inl ⟨rfl, fun z => xin_no0 c_5 z.2.1⟩)⟩
      · refine lv_iload_n hx hb dX7_flat_13 rfl (lv_at hl 2 rfl) ?_
        refine lv_iconst (v := nI 2) hx hb dX7_flat_14 (by decide) ?_
        refine lv_aload_n hx hb dX7_flat_15 rfl (lv_at hl 0 rfl) ?_
        refine va_get (D := G) (cl := vwCl) (ci := 8) (v := .int (nI F)) (C := RX7) (T := TX7) (N := 18) hx hb (hts d0) in_X7_flat_X7 hown hK.1 (x1 y_o) 0 rfl rfl 1 (by decide) (hts d0 _ hw_X7_flat_1) (fun _ h9 => h9) rfl dX7_flat_16 ?_
        refine ximulN hx hb dX7_flat_19 ?_
        refine lv_icmp_ge (tgt := 32) hx hb dX7_flat_20 (by decide) (fun c_8 => ?_) (fun c_8 => ?_)
        · refine lv_iconst (v := nI 1) hx hb dX7_flat_32 (by decide) ?_
          refine lv_goto (tgt := 50) hx hb dX7_flat_33 (by decide) ?_
          refine xput (G := G) (ci := 8) (v := .int (nI 1)) (ty := .int) (C := RX7) (T := TX7) (N := 18) hx hb (hts d0) in_X7_flat_X7 tyX7 tyX7_ok nmX7 hown hK.1 y_o hS hB.1 rfl 0 (by decide) (hts d0 _ hw_X7_flat_3) (fun _ h9 => h9) rfl (by decide +kernel) rfl rfl (Nat.le_of_ble_eq_true rfl) dX7_flat_50 (fun H_9 locs_9 hs_9 hS => ?_)
          have hc_9 : xc G m0 (.inr (8, [.int (nI 1), .int (nI F), .int (nI R), .ref (A 0), .ref (A 1), .ref (A 2), .ref (A 3), .ref (A 4), .int (nI nb), .ref (A 5), .ref (A 6), .ref (A 7), .ref (A 8), .ref (A 9), .ref (A 10), .double px, .double py, .double pz])) H_9 := hs_9.1
          have hc_A0_9 : xc G (A 0) (.inl (ty 0, 192, .inr (.inr (.inr (.inl pl))))) H_9 := y_0.kept (hs_9.2.2 _ (hA.1 0 (by decide)))
          have hc_A1_9 : xc G (A 1) (.inl (ty 2, 8, .inl un)) H_9 := y_1.kept (hs_9.2.2 _ (hA.1 1 (by decide)))
          have hc_A2_9 : xc G (A 2) (.inl (ty 0, 256, .inr (.inr (.inr (.inl co))))) H_9 := y_2.kept (hs_9.2.2 _ (hA.1 2 (by decide)))
          have hc_A3_9 : xc G (A 3) (.inl (ty 0, 32, .inr (.inr (.inr (.inl dr))))) H_9 := y_3.kept (hs_9.2.2 _ (hA.1 3 (by decide)))
          have hc_A4_9 : xc G (A 4) (.inl (ty 2, 64, .inl bu)) H_9 := y_4.kept (hs_9.2.2 _ (hA.1 4 (by decide)))
          have hc_A5_9 : xc G (A 5) (.inl (ty 0, 4, .inr (.inr (.inr (.inl wi))))) H_9 := y_5.kept (hs_9.2.2 _ (hA.1 5 (by decide)))
          have hc_A6_9 : xc G (A 6) (.inl (ty 0, 4, .inr (.inr (.inr (.inl hi))))) H_9 := y_6.kept (hs_9.2.2 _ (hA.1 6 (by decide)))
          have hc_A7_9 : xc G (A 7) (.inl (ty 1, 4, .inl fc)) H_9 := y_7.kept (hs_9.2.2 _ (hA.1 7 (by decide)))
          have hc_A8_9 : xc G (A 8) (.inl (ty 0, 128, .inr (.inr (.inr (.inl fa))))) H_9 := y_8.kept (hs_9.2.2 _ (hA.1 8 (by decide)))
          have hc_A9_9 : xc G (A 9) (.inl (ty 1, 8, .inl lo)) H_9 := y_9.kept (hs_9.2.2 _ (hA.1 9 (by decide)))
          have hc_A10_9 : xc G (A 10) (.inl (ty 1, 8, .inl la)) H_9 := y_10.kept (hs_9.2.2 _ (hA.1 10 (by decide)))
          have hfr_9 : xRfr m0 A H H_9 := xRfr.put0 xRfr.rf hs_9
          refine lv_aload_n hx hb dX7_flat_53 rfl (lv_at hl 0 rfl) ?_
          refine va_get (D := G) (cl := vwCl) (ci := 8) (v := .int (nI 1)) (C := RX7) (T := TX7) (N := 18) hx hb (hts d0) in_X7_flat_X7 hown hK.1 (x1 hc_9) 0 rfl rfl 0 (by decide) (hts d0 _ hw_X7_flat_3) (fun _ h9 => h9) rfl dX7_flat_54 ?_
          refine lv_if_le (tgt := 64) hx hb dX7_flat_57 (by decide) (fun h9 => absurd h9 (by decide)) (fun _ => ?_)
          refine lv_dconst0 hx hb dX7_flat_60 ?_
          refine lv_goto (tgt := 79) hx hb dX7_flat_61 (by decide) ?_
          exact xdret hd0 hx hb hr hlocks hS (Nat.le_of_ble_eq_true rfl) (Nat.le_of_ble_eq_true rfl) dX7_flat_79 ⟨nI 1, ⟨hc_9, hc_A0_9, hc_A1_9, hc_A2_9, hc_A3_9, hc_A4_9, hc_A5_9, hc_A6_9, hc_A7_9, hc_A8_9, hc_A9_9, hc_A10_9⟩, hfr_9, _, rfl, Or.inr (Or.inl ⟨rfl, fun z => xin_no1 c_8 (by omega) z.2.1⟩)⟩
        · refine lv_iload_n hx hb dX7_flat_23 rfl (lv_at hl 3 rfl) ?_
          refine lv_if_lt (tgt := 32) hx hb dX7_flat_24 (by decide) (fun c_11 => ?_) (fun c_11 => ?_)
          · refine lv_iconst (v := nI 1) hx hb dX7_flat_32 (by decide) ?_
            refine lv_goto (tgt := 50) hx hb dX7_flat_33 (by decide) ?_
            refine xput (G := G) (ci := 8) (v := .int (nI 1)) (ty := .int) (C := RX7) (T := TX7) (N := 18) hx hb (hts d0) in_X7_flat_X7 tyX7 tyX7_ok nmX7 hown hK.1 y_o hS hB.1 rfl 0 (by decide) (hts d0 _ hw_X7_flat_3) (fun _ h9 => h9) rfl (by decide +kernel) rfl rfl (Nat.le_of_ble_eq_true rfl) dX7_flat_50 (fun H_12 locs_12 hs_12 hS => ?_)
            have hc_12 : xc G m0 (.inr (8, [.int (nI 1), .int (nI F), .int (nI R), .ref (A 0), .ref (A 1), .ref (A 2), .ref (A 3), .ref (A 4), .int (nI nb), .ref (A 5), .ref (A 6), .ref (A 7), .ref (A 8), .ref (A 9), .ref (A 10), .double px, .double py, .double pz])) H_12 := hs_12.1
            have hc_A0_12 : xc G (A 0) (.inl (ty 0, 192, .inr (.inr (.inr (.inl pl))))) H_12 := y_0.kept (hs_12.2.2 _ (hA.1 0 (by decide)))
            have hc_A1_12 : xc G (A 1) (.inl (ty 2, 8, .inl un)) H_12 := y_1.kept (hs_12.2.2 _ (hA.1 1 (by decide)))
            have hc_A2_12 : xc G (A 2) (.inl (ty 0, 256, .inr (.inr (.inr (.inl co))))) H_12 := y_2.kept (hs_12.2.2 _ (hA.1 2 (by decide)))
            have hc_A3_12 : xc G (A 3) (.inl (ty 0, 32, .inr (.inr (.inr (.inl dr))))) H_12 := y_3.kept (hs_12.2.2 _ (hA.1 3 (by decide)))
            have hc_A4_12 : xc G (A 4) (.inl (ty 2, 64, .inl bu)) H_12 := y_4.kept (hs_12.2.2 _ (hA.1 4 (by decide)))
            have hc_A5_12 : xc G (A 5) (.inl (ty 0, 4, .inr (.inr (.inr (.inl wi))))) H_12 := y_5.kept (hs_12.2.2 _ (hA.1 5 (by decide)))
            have hc_A6_12 : xc G (A 6) (.inl (ty 0, 4, .inr (.inr (.inr (.inl hi))))) H_12 := y_6.kept (hs_12.2.2 _ (hA.1 6 (by decide)))
            have hc_A7_12 : xc G (A 7) (.inl (ty 1, 4, .inl fc)) H_12 := y_7.kept (hs_12.2.2 _ (hA.1 7 (by decide)))
            have hc_A8_12 : xc G (A 8) (.inl (ty 0, 128, .inr (.inr (.inr (.inl fa))))) H_12 := y_8.kept (hs_12.2.2 _ (hA.1 8 (by decide)))
            have hc_A9_12 : xc G (A 9) (.inl (ty 1, 8, .inl lo)) H_12 := y_9.kept (hs_12.2.2 _ (hA.1 9 (by decide)))
            have hc_A10_12 : xc G (A 10) (.inl (ty 1, 8, .inl la)) H_12 := y_10.kept (hs_12.2.2 _ (hA.1 10 (by decide)))
            have hfr_12 : xRfr m0 A H H_12 := xRfr.put0 xRfr.rf hs_12
            refine lv_aload_n hx hb dX7_flat_53 rfl (lv_at hl 0 rfl) ?_
            refine va_get (D := G) (cl := vwCl) (ci := 8) (v := .int (nI 1)) (C := RX7) (T := TX7) (N := 18) hx hb (hts d0) in_X7_flat_X7 hown hK.1 (x1 hc_12) 0 rfl rfl 0 (by decide) (hts d0 _ hw_X7_flat_3) (fun _ h9 => h9) rfl dX7_flat_54 ?_
            refine lv_if_le (tgt := 64) hx hb dX7_flat_57 (by decide) (fun h9 => absurd h9 (by decide)) (fun _ => ?_)
            refine lv_dconst0 hx hb dX7_flat_60 ?_
            refine lv_goto (tgt := 79) hx hb dX7_flat_61 (by decide) ?_
            exact xdret hd0 hx hb hr hlocks hS (Nat.le_of_ble_eq_true rfl) (Nat.le_of_ble_eq_true rfl) dX7_flat_79 ⟨nI 1, ⟨hc_12, hc_A0_12, hc_A1_12, hc_A2_12, hc_A3_12, hc_A4_12, hc_A5_12, hc_A6_12, hc_A7_12, hc_A8_12, hc_A9_12, hc_A10_12⟩, hfr_12, _, rfl, Or.inr (Or.inl ⟨rfl, fun z => xin_no0 c_11 z.2.2⟩)⟩
          · refine lv_iload_n hx hb dX7_flat_27 rfl (lv_at hl 3 rfl) ?_
            refine lv_iconst (v := nI 1) hx hb dX7_flat_28 (by decide) ?_
            refine lv_icmp_le (tgt := 36) hx hb dX7_flat_29 (by decide) (fun c_14 => ?_) (fun c_14 => ?_)
            · have z_x := Classical.not_not.mp (xP_eq.mp c_2)
              have z_k := xin_of c_5 c_8 (show 2 * F < 2 ^ 31 by omega)
              have z_q := xin_le c_11 c_14 (by decide)
              obtain ⟨x9, hx9, ex9⟩ := vp_in_of z_x (by omega)
              obtain ⟨k9, hk9, ek9⟩ := vp_in_of z_k (by omega)
              obtain ⟨q9, hq9, eq9⟩ := vp_in_of z_q (by omega)
              subst ex9 ek9 eq9
              refine lv_aload_n hx hb dX7_flat_36 rfl (lv_at hl 0 rfl) ?_
              refine va_get (D := G) (cl := vwCl) (ci := 8) (v := .ref (A 1)) (C := RX7) (T := TX7) (N := 18) hx hb (hts d0) in_X7_flat_X7 hown hK.1 (x1 y_o) 0 rfl rfl 4 (by decide) (hts d0 _ hw_X7_flat_2) (fun _ h9 => h9) rfl dX7_flat_37 ?_
              refine lv_iload_n hx hb dX7_flat_40 rfl (lv_at hl 1 rfl) ?_
              refine xzald (j := x9) hx hb hK.1 2 y_1 rfl (xix_of (by omega) (by omega)) dX7_flat_41 ?_
              refine lv_if_eq (tgt := 49) hx hb dX7_flat_42 (by decide) (fun c_15 => ?_) (fun c_15 => ?_)
              · refine lv_iconst (v := nI 2) hx hb dX7_flat_49 (by decide) ?_
                refine xput (G := G) (ci := 8) (v := .int (nI 2)) (ty := .int) (C := RX7) (T := TX7) (N := 18) hx hb (hts d0) in_X7_flat_X7 tyX7 tyX7_ok nmX7 hown hK.1 y_o hS hB.1 rfl 0 (by decide) (hts d0 _ hw_X7_flat_3) (fun _ h9 => h9) rfl (by decide +kernel) rfl rfl (Nat.le_of_ble_eq_true rfl) dX7_flat_50 (fun H_16 locs_16 hs_16 hS => ?_)
                have hc_16 : xc G m0 (.inr (8, [.int (nI 2), .int (nI F), .int (nI R), .ref (A 0), .ref (A 1), .ref (A 2), .ref (A 3), .ref (A 4), .int (nI nb), .ref (A 5), .ref (A 6), .ref (A 7), .ref (A 8), .ref (A 9), .ref (A 10), .double px, .double py, .double pz])) H_16 := hs_16.1
                have hc_A0_16 : xc G (A 0) (.inl (ty 0, 192, .inr (.inr (.inr (.inl pl))))) H_16 := y_0.kept (hs_16.2.2 _ (hA.1 0 (by decide)))
                have hc_A1_16 : xc G (A 1) (.inl (ty 2, 8, .inl un)) H_16 := y_1.kept (hs_16.2.2 _ (hA.1 1 (by decide)))
                have hc_A2_16 : xc G (A 2) (.inl (ty 0, 256, .inr (.inr (.inr (.inl co))))) H_16 := y_2.kept (hs_16.2.2 _ (hA.1 2 (by decide)))
                have hc_A3_16 : xc G (A 3) (.inl (ty 0, 32, .inr (.inr (.inr (.inl dr))))) H_16 := y_3.kept (hs_16.2.2 _ (hA.1 3 (by decide)))
                have hc_A4_16 : xc G (A 4) (.inl (ty 2, 64, .inl bu)) H_16 := y_4.kept (hs_16.2.2 _ (hA.1 4 (by decide)))
                have hc_A5_16 : xc G (A 5) (.inl (ty 0, 4, .inr (.inr (.inr (.inl wi))))) H_16 := y_5.kept (hs_16.2.2 _ (hA.1 5 (by decide)))
                have hc_A6_16 : xc G (A 6) (.inl (ty 0, 4, .inr (.inr (.inr (.inl hi))))) H_16 := y_6.kept (hs_16.2.2 _ (hA.1 6 (by decide)))
                have hc_A7_16 : xc G (A 7) (.inl (ty 1, 4, .inl fc)) H_16 := y_7.kept (hs_16.2.2 _ (hA.1 7 (by decide)))
                have hc_A8_16 : xc G (A 8) (.inl (ty 0, 128, .inr (.inr (.inr (.inl fa))))) H_16 := y_8.kept (hs_16.2.2 _ (hA.1 8 (by decide)))
                have hc_A9_16 : xc G (A 9) (.inl (ty 1, 8, .inl lo)) H_16 := y_9.kept (hs_16.2.2 _ (hA.1 9 (by decide)))
                have hc_A10_16 : xc G (A 10) (.inl (ty 1, 8, .inl la)) H_16 := y_10.kept (hs_16.2.2 _ (hA.1 10 (by decide)))
                have hfr_16 : xRfr m0 A H H_16 := xRfr.put0 xRfr.rf hs_16
                refine lv_aload_n hx hb dX7_flat_53 rfl (lv_at hl 0 rfl) ?_
                refine va_get (D := G) (cl := vwCl) (ci := 8) (v := .int (nI 2)) (C := RX7) (T := TX7) (N := 18) hx hb (hts d0) in_X7_flat_X7 hown hK.1 (x1 hc_16) 0 rfl rfl 0 (by decide) (hts d0 _ hw_X7_flat_3) (fun _ h9 => h9) rfl dX7_flat_54 ?_
                refine lv_if_le (tgt := 64) hx hb dX7_flat_57 (by decide) (fun h9 => absurd h9 (by decide)) (fun _ => ?_)
                refine lv_dconst0 hx hb dX7_flat_60 ?_
                refine lv_goto (tgt := 79) hx hb dX7_flat_61 (by decide) ?_
                exact xdret hd0 hx hb hr hlocks hS (Nat.le_of_ble_eq_true rfl) (Nat.le_of_ble_eq_true rfl) dX7_flat_79 ⟨nI 2, ⟨hc_16, hc_A0_16, hc_A1_16, hc_A2_16, hc_A3_16, hc_A4_16, hc_A5_16, hc_A6_16, hc_A7_16, hc_A8_16, hc_A9_16, hc_A10_16⟩, hfr_16, _, rfl, Or.inr (Or.inr ⟨rfl, ⟨z_x, z_k, z_q⟩, by rw [nN_nI (by omega)]; exact c_15⟩)⟩
              · refine lv_iconst (v := nI 0) hx hb dX7_flat_45 (by decide) ?_
                refine lv_goto (tgt := 50) hx hb dX7_flat_46 (by decide) ?_
                refine xput (G := G) (ci := 8) (v := .int (nI 0)) (ty := .int) (C := RX7) (T := TX7) (N := 18) hx hb (hts d0) in_X7_flat_X7 tyX7 tyX7_ok nmX7 hown hK.1 y_o hS hB.1 rfl 0 (by decide) (hts d0 _ hw_X7_flat_3) (fun _ h9 => h9) rfl (by decide +kernel) rfl rfl (Nat.le_of_ble_eq_true rfl) dX7_flat_50 (fun H_18 locs_18 hs_18 hS => ?_)
                have hc_18 : xc G m0 (.inr (8, [.int (nI 0), .int (nI F), .int (nI R), .ref (A 0), .ref (A 1), .ref (A 2), .ref (A 3), .ref (A 4), .int (nI nb), .ref (A 5), .ref (A 6), .ref (A 7), .ref (A 8), .ref (A 9), .ref (A 10), .double px, .double py, .double pz])) H_18 := hs_18.1
                have hc_A0_18 : xc G (A 0) (.inl (ty 0, 192, .inr (.inr (.inr (.inl pl))))) H_18 := y_0.kept (hs_18.2.2 _ (hA.1 0 (by decide)))
                have hc_A1_18 : xc G (A 1) (.inl (ty 2, 8, .inl un)) H_18 := y_1.kept (hs_18.2.2 _ (hA.1 1 (by decide)))
                have hc_A2_18 : xc G (A 2) (.inl (ty 0, 256, .inr (.inr (.inr (.inl co))))) H_18 := y_2.kept (hs_18.2.2 _ (hA.1 2 (by decide)))
                have hc_A3_18 : xc G (A 3) (.inl (ty 0, 32, .inr (.inr (.inr (.inl dr))))) H_18 := y_3.kept (hs_18.2.2 _ (hA.1 3 (by decide)))
                have hc_A4_18 : xc G (A 4) (.inl (ty 2, 64, .inl bu)) H_18 := y_4.kept (hs_18.2.2 _ (hA.1 4 (by decide)))
                have hc_A5_18 : xc G (A 5) (.inl (ty 0, 4, .inr (.inr (.inr (.inl wi))))) H_18 := y_5.kept (hs_18.2.2 _ (hA.1 5 (by decide)))
                have hc_A6_18 : xc G (A 6) (.inl (ty 0, 4, .inr (.inr (.inr (.inl hi))))) H_18 := y_6.kept (hs_18.2.2 _ (hA.1 6 (by decide)))
                have hc_A7_18 : xc G (A 7) (.inl (ty 1, 4, .inl fc)) H_18 := y_7.kept (hs_18.2.2 _ (hA.1 7 (by decide)))
                have hc_A8_18 : xc G (A 8) (.inl (ty 0, 128, .inr (.inr (.inr (.inl fa))))) H_18 := y_8.kept (hs_18.2.2 _ (hA.1 8 (by decide)))
                have hc_A9_18 : xc G (A 9) (.inl (ty 1, 8, .inl lo)) H_18 := y_9.kept (hs_18.2.2 _ (hA.1 9 (by decide)))
                have hc_A10_18 : xc G (A 10) (.inl (ty 1, 8, .inl la)) H_18 := y_10.kept (hs_18.2.2 _ (hA.1 10 (by decide)))
                have hfr_18 : xRfr m0 A H H_18 := xRfr.put0 xRfr.rf hs_18
                refine lv_aload_n hx hb dX7_flat_53 rfl (lv_at hl 0 rfl) ?_
                refine va_get (D := G) (cl := vwCl) (ci := 8) (v := .int (nI 0)) (C := RX7) (T := TX7) (N := 18) hx hb (hts d0) in_X7_flat_X7 hown hK.1 (x1 hc_18) 0 rfl rfl 0 (by decide) (hts d0 _ hw_X7_flat_3) (fun _ h9 => h9) rfl dX7_flat_54 ?_
                refine lv_if_le (tgt := 64) hx hb dX7_flat_57 (by decide) (fun _ => ?_) (fun h9 => absurd (by decide) h9)
                refine lv_aload_n hx hb dX7_flat_64 rfl (lv_at hl 0 rfl) ?_
                refine va_get (D := G) (cl := vwCl) (ci := 8) (v := .ref (A 2)) (C := RX7) (T := TX7) (N := 18) hx hb (hts d0) in_X7_flat_X7 hown hK.1 (x1 hc_18) 0 rfl rfl 5 (by decide) (hts d0 _ hw_X7_flat_4) (fun _ h9 => h9) rfl dX7_flat_65 ?_
                refine lv_bipush (v := nI 32) hx hb dX7_flat_68 (by decide) ?_
                refine lv_iload_n hx hb dX7_flat_70 rfl (lv_at hl 1 rfl) ?_
                refine ximulN hx hb dX7_flat_71 ?_
                refine lv_iconst (v := nI 2) hx hb dX7_flat_72 (by decide) ?_
                refine lv_iload_n hx hb dX7_flat_73 rfl (lv_at hl 2 rfl) ?_
                refine ximulN hx hb dX7_flat_74 ?_
                refine xiaddN hx hb dX7_flat_75 ?_
                refine lv_iload_n hx hb dX7_flat_76 rfl (lv_at hl 3 rfl) ?_
                refine xiaddN hx hb dX7_flat_77 ?_
                refine xdald (j := ((32 * x9) + (2 * k9)) + q9) hx hb hK.1 0 hc_A2_18 rfl (xix_of (by omega) (by omega)) dX7_flat_78 ?_
                exact xdret hd0 hx hb hr hlocks hS (Nat.le_of_ble_eq_true rfl) (Nat.le_of_ble_eq_true rfl) dX7_flat_79 ⟨nI 0, ⟨hc_18, hc_A0_18, hc_A1_18, hc_A2_18, hc_A3_18, hc_A4_18, hc_A5_18, hc_A6_18, hc_A7_18, hc_A8_18, hc_A9_18, hc_A10_18⟩, hfr_18, _, rfl, Or.inl ⟨rfl, ⟨z_x, z_k, z_q⟩, by rw [nN_nI (by omega)]; exact c_15, by rw [nN_nI (by omega), nN_nI (by omega), nN_nI (by omega)]⟩⟩
            · refine lv_iconst (v := nI 1) hx hb dX7_flat_32 (by decide) ?_
              refine lv_goto (tgt := 50) hx hb dX7_flat_33 (by decide) ?_
              refine xput (G := G) (ci := 8) (v := .int (nI 1)) (ty := .int) (C := RX7) (T := TX7) (N := 18) hx hb (hts d0) in_X7_flat_X7 tyX7 tyX7_ok nmX7 hown hK.1 y_o hS hB.1 rfl 0 (by decide) (hts d0 _ hw_X7_flat_3) (fun _ h9 => h9) rfl (by decide +kernel) rfl rfl (Nat.le_of_ble_eq_true rfl) dX7_flat_50 (fun H_20 locs_20 hs_20 hS => ?_)
              have hc_20 : xc G m0 (.inr (8, [.int (nI 1), .int (nI F), .int (nI R), .ref (A 0), .ref (A 1), .ref (A 2), .ref (A 3), .ref (A 4), .int (nI nb), .ref (A 5), .ref (A 6), .ref (A 7), .ref (A 8), .ref (A 9), .ref (A 10), .double px, .double py, .double pz])) H_20 := hs_20.1
              have hc_A0_20 : xc G (A 0) (.inl (ty 0, 192, .inr (.inr (.inr (.inl pl))))) H_20 := y_0.kept (hs_20.2.2 _ (hA.1 0 (by decide)))
              have hc_A1_20 : xc G (A 1) (.inl (ty 2, 8, .inl un)) H_20 := y_1.kept (hs_20.2.2 _ (hA.1 1 (by decide)))
              have hc_A2_20 : xc G (A 2) (.inl (ty 0, 256, .inr (.inr (.inr (.inl co))))) H_20 := y_2.kept (hs_20.2.2 _ (hA.1 2 (by decide)))
              have hc_A3_20 : xc G (A 3) (.inl (ty 0, 32, .inr (.inr (.inr (.inl dr))))) H_20 := y_3.kept (hs_20.2.2 _ (hA.1 3 (by decide)))
              have hc_A4_20 : xc G (A 4) (.inl (ty 2, 64, .inl bu)) H_20 := y_4.kept (hs_20.2.2 _ (hA.1 4 (by decide)))
              have hc_A5_20 : xc G (A 5) (.inl (ty 0, 4, .inr (.inr (.inr (.inl wi))))) H_20 := y_5.kept (hs_20.2.2 _ (hA.1 5 (by decide)))
              have hc_A6_20 : xc G (A 6) (.inl (ty 0, 4, .inr (.inr (.inr (.inl hi))))) H_20 := y_6.kept (hs_20.2.2 _ (hA.1 6 (by decide)))
              have hc_A7_20 : xc G (A 7) (.inl (ty 1, 4, .inl fc)) H_20 := y_7.kept (hs_20.2.2 _ (hA.1 7 (by decide)))
              have hc_A8_20 : xc G (A 8) (.inl (ty 0, 128, .inr (.inr (.inr (.inl fa))))) H_20 := y_8.kept (hs_20.2.2 _ (hA.1 8 (by decide)))
              have hc_A9_20 : xc G (A 9) (.inl (ty 1, 8, .inl lo)) H_20 := y_9.kept (hs_20.2.2 _ (hA.1 9 (by decide)))
              have hc_A10_20 : xc G (A 10) (.inl (ty 1, 8, .inl la)) H_20 := y_10.kept (hs_20.2.2 _ (hA.1 10 (by decide)))
              have hfr_20 : xRfr m0 A H H_20 := xRfr.put0 xRfr.rf hs_20
              refine lv_aload_n hx hb dX7_flat_53 rfl (lv_at hl 0 rfl) ?_
              refine va_get (D := G) (cl := vwCl) (ci := 8) (v := .int (nI 1)) (C := RX7) (T := TX7) (N := 18) hx hb (hts d0) in_X7_flat_X7 hown hK.1 (x1 hc_20) 0 rfl rfl 0 (by decide) (hts d0 _ hw_X7_flat_3) (fun _ h9 => h9) rfl dX7_flat_54 ?_
              refine lv_if_le (tgt := 64) hx hb dX7_flat_57 (by decide) (fun h9 => absurd h9 (by decide)) (fun _ => ?_)
              refine lv_dconst0 hx hb dX7_flat_60 ?_
              refine lv_goto (tgt := 79) hx hb dX7_flat_61 (by decide) ?_
              exact xdret hd0 hx hb hr hlocks hS (Nat.le_of_ble_eq_true rfl) (Nat.le_of_ble_eq_true rfl) dX7_flat_79 ⟨nI 1, ⟨hc_20, hc_A0_20, hc_A1_20, hc_A2_20, hc_A3_20, hc_A4_20, hc_A5_20, hc_A6_20, hc_A7_20, hc_A8_20, hc_A9_20, hc_A10_20⟩, hfr_20, _, rfl, Or.inr (Or.inl ⟨rfl, fun z => xin_gt c_14 (by decide) z.2.2⟩)⟩
set_option maxRecDepth 20000 in
theorem ggX7_stretch_X7_noCell : GoodIn wsX7_stretch wsX7_noCell := goodIn_r _ [7, 8, 9, 10, 11, 6, 12, 13, 35, 36, 37, 38, 39, 40, 41, 42, 43, 44, 45, 46, 47, 48, 49, 50, 51, 52] (by decide +kernel) (by decide +kernel)
set_option maxRecDepth 20000 in
theorem gX7_stretch_X7_noCell : GoodIn wsX7_stretch (wsV RX7 95 RX7 yX7_noCell wsX7_noCell) := goodIn_app (goodIn_of _ (by decide +kernel)) ggX7_stretch_X7_noCell
set_option maxRecDepth 20000 in
theorem ggX7_stretch_X7_off : GoodIn wsX7_stretch wsX7_off := goodIn_r _ [17, 18, 19, 20, 6, 21, 22, 23, 24, 25, 26, 27, 28, 29, 30, 31, 32, 33, 34, 35, 36, 37, 38, 39, 40, 41, 42, 43, 44, 45, 46, 47, 48, 49, 50, 51, 52] (by decide +kernel) (by decide +kernel)
set_option maxRecDepth 20000 in
theorem gX7_stretch_X7_off : GoodIn wsX7_stretch (wsV RX7 98 RX7 yX7_off wsX7_off) := goodIn_app (goodIn_of _ (by decide +kernel)) ggX7_stretch_X7_off
theorem dX7_stretch_0 : decode cX7_stretch 0 = .ok (.aload_n 0, 1) := by decide +kernel
theorem dX7_stretch_1 : decode cX7_stretch 1 = .ok (.aload_n 0, 1) := by decide +kernel
theorem dX7_stretch_2 : decode cX7_stretch 2 = .ok (.iload_n 1, 1) := by decide +kernel
theorem dX7_stretch_3 : decode cX7_stretch 3 = .ok (.iload_n 2, 1) := by decide +kernel
theorem dX7_stretch_4 : decode cX7_stretch 4 = .ok (.invokevirtual 95, 3) := by decide +kernel
theorem dX7_stretch_7 : decode cX7_stretch 7 = .ok (.ifCond .eq 7, 3) := by decide +kernel
theorem dX7_stretch_10 : decode cX7_stretch 10 = .ok (.iconst 1, 1) := by decide +kernel
theorem dX7_stretch_11 : decode cX7_stretch 11 = .ok (.goto 17, 3) := by decide +kernel
theorem dX7_stretch_14 : decode cX7_stretch 14 = .ok (.aload_n 0, 1) := by decide +kernel
theorem dX7_stretch_15 : decode cX7_stretch 15 = .ok (.getfield 13, 3) := by decide +kernel
theorem dX7_stretch_18 : decode cX7_stretch 18 = .ok (.iload_n 1, 1) := by decide +kernel
theorem dX7_stretch_19 : decode cX7_stretch 19 = .ok (.baload, 1) := by decide +kernel
theorem dX7_stretch_20 : decode cX7_stretch 20 = .ok (.ifCond .eq 7, 3) := by decide +kernel
theorem dX7_stretch_23 : decode cX7_stretch 23 = .ok (.iconst 0, 1) := by decide +kernel
theorem dX7_stretch_24 : decode cX7_stretch 24 = .ok (.goto 4, 3) := by decide +kernel
theorem dX7_stretch_27 : decode cX7_stretch 27 = .ok (.iconst 2, 1) := by decide +kernel
theorem dX7_stretch_28 : decode cX7_stretch 28 = .ok (.putfield 52, 3) := by decide +kernel
theorem dX7_stretch_31 : decode cX7_stretch 31 = .ok (.aload_n 0, 1) := by decide +kernel
theorem dX7_stretch_32 : decode cX7_stretch 32 = .ok (.getfield 52, 3) := by decide +kernel
theorem dX7_stretch_35 : decode cX7_stretch 35 = .ok (.ifCond .le 7, 3) := by decide +kernel
theorem dX7_stretch_38 : decode cX7_stretch 38 = .ok (.dconst 0, 1) := by decide +kernel
theorem dX7_stretch_39 : decode cX7_stretch 39 = .ok (.goto 9, 3) := by decide +kernel
theorem dX7_stretch_42 : decode cX7_stretch 42 = .ok (.aload_n 0, 1) := by decide +kernel
theorem dX7_stretch_43 : decode cX7_stretch 43 = .ok (.iload_n 1, 1) := by decide +kernel
theorem dX7_stretch_44 : decode cX7_stretch 44 = .ok (.iload_n 2, 1) := by decide +kernel
theorem dX7_stretch_45 : decode cX7_stretch 45 = .ok (.invokevirtual 98, 3) := by decide +kernel
theorem dX7_stretch_48 : decode cX7_stretch 48 = .ok (.dreturn, 1) := by decide +kernel
abbrev rm_X7_stretch : Room := { frames := 8, cells := 0, slots := 0, locals := 190 }
theorem hw_X7_stretch_1 : (Cond.fieldLink RX7 13 "PlankUnrollModel" "unrolled" "[Z") ∈ wsX7_stretch := List.mem_of_getElem? (i := 1) rfl
theorem hw_X7_stretch_2 : (Cond.fieldLink RX7 52 "PlankUnrollModel" "thrown" "I") ∈ wsX7_stretch := List.mem_of_getElem? (i := 2) rfl
theorem in_X7_stretch_X7 : ∀ w ∈ wsX70, w ∈ wsX7_stretch := by decide +kernel
set_option maxHeartbeats 4000000 in
set_option maxRecDepth 100000 in
/-- stretch -/
theorem c_X7_stretch {l : Launch} {G : va_G} {ty : Nat → ClassId} {b0 : Nat} {H : Heap} {x f : Int32} {m0 : Nat} {A : Nat → Nat} {th : Int32} {F R nb : Nat} {pl co dr wi hi fa : Nat → UInt64} {un bu fc lo la : Nat → Int32} {px py pz : UInt64} (hY : xRef G ty m0 A th F R pl un co dr bu nb wi hi fc fa lo la px py pz H) (hZ : xSz F R) (hA : xAp m0 A) (hB : xNw b0 m0 A) : xMet l yX7_stretch wsX7_stretch rm_X7_stretch G ty b0 [.ref m0, .int (x), .int (f)] H (fun v H1 => ∃ T : Int32, xRef G ty m0 A T F R pl un co dr bu nb wi hi fc fa lo la px py pz H1 ∧ xRfr m0 A H H1 ∧ ∃ z : UInt64, v = some (.double z) ∧ ((T = nI 0 ∧ (vp_in x (R - 1) ∧ vp_in f (F - 1)) ∧ ¬ un x.toNatClampNeg = 0 ∧ vq z (pOff co pl x.toNatClampNeg f.toNatClampNeg)) ∨ (T = nI 1 ∧ ¬ (vp_in x (R - 1) ∧ vp_in f (F - 1))) ∨ (T = nI 2 ∧ (vp_in x (R - 1) ∧ vp_in f (F - 1)) ∧ un x.toNatClampNeg = 0))) (fun _ _ => False) := by
  refine xbody (cc := cX7_stretch) (maxL := 3) (ret := (some .double)) (C := RX7) (lv := [(0, .ref m0), (1, .int (x)), (2, .int (f))]) (by decide) rfl rfl (Nat.le_of_ble_eq_true rfl) rfl ?_
  intro p e s m below meth c d0 hx hb hr hts hown hlocks hml hxt hnm0 hK hb0 hH0 hS hd0 ls hl
  obtain ⟨y_o, y_0, y_1, y_2, y_3, y_4, y_5, y_6, y_7, y_8, y_9, y_10⟩ := id hY
  obtain ⟨⟨zF2, zF8⟩, ⟨zR2, zR8⟩⟩ := id hZ
  refine lv_aload_n hx hb dX7_stretch_0 rfl (lv_at hl 0 rfl) ?_
  refine lv_aload_n hx hb dX7_stretch_1 rfl (lv_at hl 0 rfl) ?_
  refine lv_iload_n hx hb dX7_stretch_2 rfl (lv_at hl 1 rfl) ?_
  refine lv_iload_n hx hb dX7_stretch_3 rfl (lv_at hl 2 rfl) ?_
  have cw_1 := cwV (R := rm_X7_stretch) (rm := rm_X7_noCell) 2 (hts d0) gX7_stretch_X7_noCell rfl rfl rfl (by decide +kernel) ⟨Nat.le_of_ble_eq_true rfl, Nat.le_of_ble_eq_true rfl⟩
  refine xcall hd0 (xintoV (b := m0) (As := [.int (x), .int (f)]) (rest := [.ref m0]) ⟨hx, hb, hml, hown, hts _⟩ cw_1 (va_recv hK.1 (x1 y_o) (ci := 8) (q0 := 0) rfl rfl) rfl rfl hl.1 rfl (lv_room (Nat.le_of_ble_eq_true rfl)) dX7_stretch_4) (c_X7_noCell (l := l) (G := G) (ty := ty) (b0 := b0) (⟨y_o, y_0, y_1, y_2, y_3, y_4, y_5, y_6, y_7, y_8, y_9, y_10⟩ : xRef G ty m0 A (th) F R pl un co dr bu nb wi hi fc fa lo la px py pz H) hZ) (xoweB cw_1.1) hK hb0 hS (Nat.le_of_ble_eq_true rfl) (Nat.le_of_ble_eq_true rfl) (fun E_1 ce_1 q9_1 H_1 locs_1 d0 hd0 hp_1 hS hce_1 hcv_1 hcl_1 => ?_) (fun v_1 H_1 locs_1 d0 hd0 hp_1 hS => ?_)
  · exact hp_1.elim
  · obtain ⟨rfl, rfl⟩ := hp_1
    show W p l e _ (s.setDrawn _) m _ below meth c _ _ _ _ _ (F0 m 7 ls [.int (xP (¬ (vp_in x (R - 1) ∧ vp_in f (F - 1)))), .ref m0])
    refine lv_if_eq (tgt := 14) hx hb dX7_stretch_7 (by decide) (fun c_2 => ?_) (fun c_2 => ?_)
    · have z9 := Classical.not_not.mp (xP_eq.mp c_2)
      have z_x := z9.1
      have z_f := z9.2
      obtain ⟨x9, hx9, ex9⟩ := vp_in_of z_x (by omega)
      obtain ⟨f9, hf9, ef9⟩ := vp_in_of z_f (by omega)
      subst ex9 ef9
      refine lv_aload_n hx hb dX7_stretch_14 rfl (lv_at hl 0 rfl) ?_
      refine va_get (D := G) (cl := vwCl) (ci := 8) (v := .ref (A 1)) (C := RX7) (T := TX7) (N := 18) hx hb (hts d0) in_X7_stretch_X7 hown hK.1 (x1 y_o) 0 rfl rfl 4 (by decide) (hts d0 _ hw_X7_stretch_1) (fun _ h9 => h9) rfl dX7_stretch_15 ?_
      refine lv_iload_n hx hb dX7_stretch_18 rfl (lv_at hl 1 rfl) ?_
      refine xzald (j := x9) hx hb hK.1 2 y_1 rfl (xix_of (by omega) (by omega)) dX7_stretch_19 ?_
      refine lv_if_eq (tgt := 27) hx hb dX7_stretch_20 (by decide) (fun c_3 => ?_) (fun c_3 => ?_)
      · refine lv_iconst (v := nI 2) hx hb dX7_stretch_27 (by decide) ?_
        refine xput (G := G) (ci := 8) (v := .int (nI 2)) (ty := .int) (C := RX7) (T := TX7) (N := 18) hx hb (hts d0) in_X7_stretch_X7 tyX7 tyX7_ok nmX7 hown hK.1 y_o hS hB.1 rfl 0 (by decide) (hts d0 _ hw_X7_stretch_2) (fun _ h9 => h9) rfl (by decide +kernel) rfl rfl (Nat.le_of_ble_eq_true rfl) dX7_stretch_28 (fun H_4 locs_4 hs_4 hS => ?_)
        have hc_4 : xc G m0 (.inr (8, [.int (nI 2), .int (nI F), .int (nI R), .ref (A 0), .ref (A 1), .ref (A 2), .ref (A 3), .ref (A 4), .int (nI nb), .ref (A 5), .ref (A 6), .ref (A 7), .ref (A 8), .ref (A 9), .ref (A 10), .double px, .double py, .double pz])) H_4 := hs_4.1
        have hc_A0_4 : xc G (A 0) (.inl (ty 0, 192, .inr (.inr (.inr (.inl pl))))) H_4 := y_0.kept (hs_4.2.2 _ (hA.1 0 (by decide)))
        have hc_A1_4 : xc G (A 1) (.inl (ty 2, 8, .inl un)) H_4 := y_1.kept (hs_4.2.2 _ (hA.1 1 (by decide)))
        have hc_A2_4 : xc G (A 2) (.inl (ty 0, 256, .inr (.inr (.inr (.inl co))))) H_4 := y_2.kept (hs_4.2.2 _ (hA.1 2 (by decide)))
        have hc_A3_4 : xc G (A 3) (.inl (ty 0, 32, .inr (.inr (.inr (.inl dr))))) H_4 := y_3.kept (hs_4.2.2 _ (hA.1 3 (by decide)))
        have hc_A4_4 : xc G (A 4) (.inl (ty 2, 64, .inl bu)) H_4 := y_4.kept (hs_4.2.2 _ (hA.1 4 (by decide)))
        have hc_A5_4 : xc G (A 5) (.inl (ty 0, 4, .inr (.inr (.inr (.inl wi))))) H_4 := y_5.kept (hs_4.2.2 _ (hA.1 5 (by decide)))
        have hc_A6_4 : xc G (A 6) (.inl (ty 0, 4, .inr (.inr (.inr (.inl hi))))) H_4 := y_6.kept (hs_4.2.2 _ (hA.1 6 (by decide)))
        have hc_A7_4 : xc G (A 7) (.inl (ty 1, 4, .inl fc)) H_4 := y_7.kept (hs_4.2.2 _ (hA.1 7 (by decide)))
        have hc_A8_4 : xc G (A 8) (.inl (ty 0, 128, .inr (.inr (.inr (.inl fa))))) H_4 := y_8.kept (hs_4.2.2 _ (hA.1 8 (by decide)))
        have hc_A9_4 : xc G (A 9) (.inl (ty 1, 8, .inl lo)) H_4 := y_9.kept (hs_4.2.2 _ (hA.1 9 (by decide)))
        have hc_A10_4 : xc G (A 10) (.inl (ty 1, 8, .inl la)) H_4 := y_10.kept (hs_4.2.2 _ (hA.1 10 (by decide)))
        have hfr_4 : xRfr m0 A H H_4 := xRfr.put0 xRfr.rf hs_4
        refine lv_aload_n hx hb dX7_stretch_31 rfl (lv_at hl 0 rfl) ?_
        refine va_get (D := G) (cl := vwCl) (ci := 8) (v := .int (nI 2)) (C := RX7) (T := TX7) (N := 18) hx hb (hts d0) in_X7_stretch_X7 hown hK.1 (x1 hc_4) 0 rfl rfl 0 (by decide) (hts d0 _ hw_X7_stretch_2) (fun _ h9 => h9) rfl dX7_stretch_32 ?_
        refine lv_if_le (tgt := 42) hx hb dX7_stretch_35 (by decide) (fun h9 => absurd h9 (by decide)) (fun _ => ?_)
        refine lv_dconst0 hx hb dX7_stretch_38 ?_
        refine lv_goto (tgt := 48) hx hb dX7_stretch_39 (by decide) ?_
        exact xdret hd0 hx hb hr hlocks hS (Nat.le_of_ble_eq_true rfl) (Nat.le_of_ble_eq_true rfl) dX7_stretch_48 ⟨nI 2, ⟨hc_4, hc_A0_4, hc_A1_4, hc_A2_4, hc_A3_4, hc_A4_4, hc_A5_4, hc_A6_4, hc_A7_4, hc_A8_4, hc_A9_4, hc_A10_4⟩, hfr_4, _, rfl, Or.inr (Or.inr ⟨rfl, z9, by rw [nN_nI (by omega)]; exact c_3⟩)⟩
      · refine lv_iconst (v := nI 0) hx hb dX7_stretch_23 (by decide) ?_
        refine lv_goto (tgt := 28) hx hb dX7_stretch_24 (by decide) ?_
        refine xput (G := G) (ci := 8) (v := .int (nI 0)) (ty := .int) (C := RX7) (T := TX7) (N := 18) hx hb (hts d0) in_X7_stretch_X7 tyX7 tyX7_ok nmX7 hown hK.1 y_o hS hB.1 rfl 0 (by decide) (hts d0 _ hw_X7_stretch_2) (fun _ h9 => h9) rfl (by decide +kernel) rfl rfl (Nat.le_of_ble_eq_true rfl) dX7_stretch_28 (fun H_6 locs_6 hs_6 hS => ?_)
        have hc_6 : xc G m0 (.inr (8, [.int (nI 0), .int (nI F), .int (nI R), .ref (A 0), .ref (A 1), .ref (A 2), .ref (A 3), .ref (A 4), .int (nI nb), .ref (A 5), .ref (A 6), .ref (A 7), .ref (A 8), .ref (A 9), .ref (A 10), .double px, .double py, .double pz])) H_6 := hs_6.1
        have hc_A0_6 : xc G (A 0) (.inl (ty 0, 192, .inr (.inr (.inr (.inl pl))))) H_6 := y_0.kept (hs_6.2.2 _ (hA.1 0 (by decide)))
        have hc_A1_6 : xc G (A 1) (.inl (ty 2, 8, .inl un)) H_6 := y_1.kept (hs_6.2.2 _ (hA.1 1 (by decide)))
        have hc_A2_6 : xc G (A 2) (.inl (ty 0, 256, .inr (.inr (.inr (.inl co))))) H_6 := y_2.kept (hs_6.2.2 _ (hA.1 2 (by decide)))
        have hc_A3_6 : xc G (A 3) (.inl (ty 0, 32, .inr (.inr (.inr (.inl dr))))) H_6 := y_3.kept (hs_6.2.2 _ (hA.1 3 (by decide)))
        have hc_A4_6 : xc G (A 4) (.inl (ty 2, 64, .inl bu)) H_6 := y_4.kept (hs_6.2.2 _ (hA.1 4 (by decide)))
        have hc_A5_6 : xc G (A 5) (.inl (ty 0, 4, .inr (.inr (.inr (.inl wi))))) H_6 := y_5.kept (hs_6.2.2 _ (hA.1 5 (by decide)))
        have hc_A6_6 : xc G (A 6) (.inl (ty 0, 4, .inr (.inr (.inr (.inl hi))))) H_6 := y_6.kept (hs_6.2.2 _ (hA.1 6 (by decide)))
        have hc_A7_6 : xc G (A 7) (.inl (ty 1, 4, .inl fc)) H_6 := y_7.kept (hs_6.2.2 _ (hA.1 7 (by decide)))
        have hc_A8_6 : xc G (A 8) (.inl (ty 0, 128, .inr (.inr (.inr (.inl fa))))) H_6 := y_8.kept (hs_6.2.2 _ (hA.1 8 (by decide)))
        have hc_A9_6 : xc G (A 9) (.inl (ty 1, 8, .inl lo)) H_6 := y_9.kept (hs_6.2.2 _ (hA.1 9 (by decide)))
        have hc_A10_6 : xc G (A 10) (.inl (ty 1, 8, .inl la)) H_6 := y_10.kept (hs_6.2.2 _ (hA.1 10 (by decide)))
        have hfr_6 : xRfr m0 A H H_6 := xRfr.put0 xRfr.rf hs_6
        refine lv_aload_n hx hb dX7_stretch_31 rfl (lv_at hl 0 rfl) ?_
        refine va_get (D := G) (cl := vwCl) (ci := 8) (v := .int (nI 0)) (C := RX7) (T := TX7) (N := 18) hx hb (hts d0) in_X7_stretch_X7 hown hK.1 (x1 hc_6) 0 rfl rfl 0 (by decide) (hts d0 _ hw_X7_stretch_2) (fun _ h9 => h9) rfl dX7_stretch_32 ?_
        refine lv_if_le (tgt := 42) hx hb dX7_stretch_35 (by decide) (fun _ => ?_) (fun h9 => absurd (by decide) h9)
        refine lv_aload_n hx hb dX7_stretch_42 rfl (lv_at hl 0 rfl) ?_
        refine lv_iload_n hx hb dX7_stretch_43 rfl (lv_at hl 1 rfl) ?_
        refine lv_iload_n hx hb dX7_stretch_44 rfl (lv_at hl 2 rfl) ?_
        have cw_8 := cwV (R := rm_X7_stretch) (rm := rm_X7_off) 2 (hts d0) gX7_stretch_X7_off rfl rfl rfl (by decide +kernel) ⟨Nat.le_of_ble_eq_true rfl, Nat.le_of_ble_eq_true rfl⟩
        refine xcall hd0 (xintoV (b := m0) (As := [.int (nI x9), .int (nI f9)]) (rest := []) ⟨hx, hb, hml, hown, hts _⟩ cw_8 (va_recv hK.1 (x1 hc_6) (ci := 8) (q0 := 0) rfl rfl) rfl rfl hl.1 rfl (lv_room (Nat.le_of_ble_eq_true rfl)) dX7_stretch_45) (c_X7_off (l := l) (G := G) (ty := ty) (b0 := b0) (⟨hc_6, hc_A0_6, hc_A1_6, hc_A2_6, hc_A3_6, hc_A4_6, hc_A5_6, hc_A6_6, hc_A7_6, hc_A8_6, hc_A9_6, hc_A10_6⟩ : xRef G ty m0 A (nI 0) F R pl un co dr bu nb wi hi fc fa lo la px py pz H_6) hZ (x := x9) (f := f9) (by omega) (by omega)) (xoweB cw_8.1) hK hb0 hS (Nat.le_of_ble_eq_true rfl) (Nat.le_of_ble_eq_true rfl) (fun E_8 ce_8 q9_8 H_8 locs_8 d0 hd0 hp_8 hS hce_8 hcv_8 hcl_8 => ?_) (fun v_8 H_8 locs_8 d0 hd0 hp_8 hS => ?_)
        · exact hp_8.elim
        · obtain ⟨rfl, r_8, rfl, q_8⟩ := hp_8
          show W p l e _ (s.setDrawn _) m _ below meth c _ _ _ _ _ (F0 m 48 ls [.double r_8])
          exact xdret hd0 hx hb hr hlocks hS (Nat.le_of_ble_eq_true rfl) (Nat.le_of_ble_eq_true rfl) dX7_stretch_48 ⟨nI 0, ⟨hc_6, hc_A0_6, hc_A1_6, hc_A2_6, hc_A3_6, hc_A4_6, hc_A5_6, hc_A6_6, hc_A7_6, hc_A8_6, hc_A9_6, hc_A10_6⟩, hfr_6, _, rfl, Or.inl ⟨rfl, z9, by rw [nN_nI (by omega)]; exact c_3, by rw [nN_nI (by omega), nN_nI (by omega)]; exact q_8⟩⟩
    · refine lv_iconst (v := nI 1) hx hb dX7_stretch_10 (by decide) ?_
      refine lv_goto (tgt := 28) hx hb dX7_stretch_11 (by decide) ?_
      refine xput (G := G) (ci := 8) (v := .int (nI 1)) (ty := .int) (C := RX7) (T := TX7) (N := 18) hx hb (hts d0) in_X7_stretch_X7 tyX7 tyX7_ok nmX7 hown hK.1 y_o hS hB.1 rfl 0 (by decide) (hts d0 _ hw_X7_stretch_2) (fun _ h9 => h9) rfl (by decide +kernel) rfl rfl (Nat.le_of_ble_eq_true rfl) dX7_stretch_28 (fun H_9 locs_9 hs_9 hS => ?_)
      have hc_9 : xc G m0 (.inr (8, [.int (nI 1), .int (nI F), .int (nI R), .ref (A 0), .ref (A 1), .ref (A 2), .ref (A 3), .ref (A 4), .int (nI nb), .ref (A 5), .ref (A 6), .ref (A 7), .ref (A 8), .ref (A 9), .ref (A 10), .double px, .double py, .double pz])) H_9 := hs_9.1
      have hc_A0_9 : xc G (A 0) (.inl (ty 0, 192, .inr (.inr (.inr (.inl pl))))) H_9 := y_0.kept (hs_9.2.2 _ (hA.1 0 (by decide)))
      have hc_A1_9 : xc G (A 1) (.inl (ty 2, 8, .inl un)) H_9 := y_1.kept (hs_9.2.2 _ (hA.1 1 (by decide)))
      have hc_A2_9 : xc G (A 2) (.inl (ty 0, 256, .inr (.inr (.inr (.inl co))))) H_9 := y_2.kept (hs_9.2.2 _ (hA.1 2 (by decide)))
      have hc_A3_9 : xc G (A 3) (.inl (ty 0, 32, .inr (.inr (.inr (.inl dr))))) H_9 := y_3.kept (hs_9.2.2 _ (hA.1 3 (by decide)))
      have hc_A4_9 : xc G (A 4) (.inl (ty 2, 64, .inl bu)) H_9 := y_4.kept (hs_9.2.2 _ (hA.1 4 (by decide)))
      have hc_A5_9 : xc G (A 5) (.inl (ty 0, 4, .inr (.inr (.inr (.inl wi))))) H_9 := y_5.kept (hs_9.2.2 _ (hA.1 5 (by decide)))
      have hc_A6_9 : xc G (A 6) (.inl (ty 0, 4, .inr (.inr (.inr (.inl hi))))) H_9 := y_6.kept (hs_9.2.2 _ (hA.1 6 (by decide)))
      have hc_A7_9 : xc G (A 7) (.inl (ty 1, 4, .inl fc)) H_9 := y_7.kept (hs_9.2.2 _ (hA.1 7 (by decide)))
      have hc_A8_9 : xc G (A 8) (.inl (ty 0, 128, .inr (.inr (.inr (.inl fa))))) H_9 := y_8.kept (hs_9.2.2 _ (hA.1 8 (by decide)))
      have hc_A9_9 : xc G (A 9) (.inl (ty 1, 8, .inl lo)) H_9 := y_9.kept (hs_9.2.2 _ (hA.1 9 (by decide)))
      have hc_A10_9 : xc G (A 10) (.inl (ty 1, 8, .inl la)) H_9 := y_10.kept (hs_9.2.2 _ (hA.1 10 (by decide)))
      have hfr_9 : xRfr m0 A H H_9 := xRfr.put0 xRfr.rf hs_9
      refine lv_aload_n hx hb dX7_stretch_31 rfl (lv_at hl 0 rfl) ?_
      refine va_get (D := G) (cl := vwCl) (ci := 8) (v := .int (nI 1)) (C := RX7) (T := TX7) (N := 18) hx hb (hts d0) in_X7_stretch_X7 hown hK.1 (x1 hc_9) 0 rfl rfl 0 (by decide) (hts d0 _ hw_X7_stretch_2) (fun _ h9 => h9) rfl dX7_stretch_32 ?_
      refine lv_if_le (tgt := 42) hx hb dX7_stretch_35 (by decide) (fun h9 => absurd h9 (by decide)) (fun _ => ?_)
      refine lv_dconst0 hx hb dX7_stretch_38 ?_
      refine lv_goto (tgt := 48) hx hb dX7_stretch_39 (by decide) ?_
      exact xdret hd0 hx hb hr hlocks hS (Nat.le_of_ble_eq_true rfl) (Nat.le_of_ble_eq_true rfl) dX7_stretch_48 ⟨nI 1, ⟨hc_9, hc_A0_9, hc_A1_9, hc_A2_9, hc_A3_9, hc_A4_9, hc_A5_9, hc_A6_9, hc_A7_9, hc_A8_9, hc_A9_9, hc_A10_9⟩, hfr_9, _, rfl, Or.inr (Or.inl ⟨rfl, xP_ne.mp c_2⟩)⟩
set_option maxRecDepth 20000 in
theorem ggX7_width_X7_noStrip : GoodIn wsX7_width wsX7_noStrip := goodIn_r _ [7, 8, 22, 23, 24, 25, 26, 27, 28, 29, 30, 31, 32, 33, 34, 35, 36, 37, 38, 39] (by decide +kernel) (by decide +kernel)
set_option maxRecDepth 20000 in
theorem gX7_width_X7_noStrip : GoodIn wsX7_width (wsV RX7 87 RX7 yX7_noStrip wsX7_noStrip) := goodIn_app (goodIn_of _ (by decide +kernel)) ggX7_width_X7_noStrip
set_option maxRecDepth 20000 in
theorem ggX7_width_X7_far : GoodIn wsX7_width wsX7_far := goodIn_r _ [12, 13, 14, 15, 6, 16, 17, 18, 19, 20, 21, 22, 23, 24, 25, 26, 27, 28, 29, 30, 31, 32, 33, 34, 35, 36, 37, 38, 39] (by decide +kernel) (by decide +kernel)
set_option maxRecDepth 20000 in
theorem gX7_width_X7_far : GoodIn wsX7_width (wsV RX7 77 RX7 yX7_far wsX7_far) := goodIn_app (goodIn_of _ (by decide +kernel)) ggX7_width_X7_far
theorem dX7_width_0 : decode cX7_width 0 = .ok (.aload_n 0, 1) := by decide +kernel
theorem dX7_width_1 : decode cX7_width 1 = .ok (.aload_n 0, 1) := by decide +kernel
theorem dX7_width_2 : decode cX7_width 2 = .ok (.iload_n 1, 1) := by decide +kernel
theorem dX7_width_3 : decode cX7_width 3 = .ok (.invokevirtual 87, 3) := by decide +kernel
theorem dX7_width_6 : decode cX7_width 6 = .ok (.ifCond .ne 15, 3) := by decide +kernel
theorem dX7_width_9 : decode cX7_width 9 = .ok (.iload_n 2, 1) := by decide +kernel
theorem dX7_width_10 : decode cX7_width 10 = .ok (.ifCond .lt 11, 3) := by decide +kernel
theorem dX7_width_13 : decode cX7_width 13 = .ok (.iload_n 2, 1) := by decide +kernel
theorem dX7_width_14 : decode cX7_width 14 = .ok (.aload_n 0, 1) := by decide +kernel
theorem dX7_width_15 : decode cX7_width 15 = .ok (.getfield 45, 3) := by decide +kernel
theorem dX7_width_18 : decode cX7_width 18 = .ok (.if_icmp .lt 7, 3) := by decide +kernel
theorem dX7_width_21 : decode cX7_width 21 = .ok (.iconst 1, 1) := by decide +kernel
theorem dX7_width_22 : decode cX7_width 22 = .ok (.goto 4, 3) := by decide +kernel
theorem dX7_width_25 : decode cX7_width 25 = .ok (.iconst 0, 1) := by decide +kernel
theorem dX7_width_26 : decode cX7_width 26 = .ok (.putfield 52, 3) := by decide +kernel
theorem dX7_width_29 : decode cX7_width 29 = .ok (.aload_n 0, 1) := by decide +kernel
theorem dX7_width_30 : decode cX7_width 30 = .ok (.getfield 52, 3) := by decide +kernel
theorem dX7_width_33 : decode cX7_width 33 = .ok (.ifCond .le 7, 3) := by decide +kernel
theorem dX7_width_36 : decode cX7_width 36 = .ok (.dconst 0, 1) := by decide +kernel
theorem dX7_width_37 : decode cX7_width 37 = .ok (.goto 13, 3) := by decide +kernel
theorem dX7_width_40 : decode cX7_width 40 = .ok (.aload_n 0, 1) := by decide +kernel
theorem dX7_width_41 : decode cX7_width 41 = .ok (.iload_n 2, 1) := by decide +kernel
theorem dX7_width_42 : decode cX7_width 42 = .ok (.iload_n 1, 1) := by decide +kernel
theorem dX7_width_43 : decode cX7_width 43 = .ok (.iload_n 2, 1) := by decide +kernel
theorem dX7_width_44 : decode cX7_width 44 = .ok (.iload_n 1, 1) := by decide +kernel
theorem dX7_width_45 : decode cX7_width 45 = .ok (.iconst 1, 1) := by decide +kernel
theorem dX7_width_46 : decode cX7_width 46 = .ok (.iadd, 1) := by decide +kernel
theorem dX7_width_47 : decode cX7_width 47 = .ok (.invokevirtual 77, 3) := by decide +kernel
theorem dX7_width_50 : decode cX7_width 50 = .ok (.dreturn, 1) := by decide +kernel
abbrev rm_X7_width : Room := { frames := 7, cells := 0, slots := 0, locals := 140 }
theorem hw_X7_width_1 : (Cond.fieldLink RX7 45 "PlankUnrollModel" "frames" "I") ∈ wsX7_width := List.mem_of_getElem? (i := 1) rfl
theorem hw_X7_width_2 : (Cond.fieldLink RX7 52 "PlankUnrollModel" "thrown" "I") ∈ wsX7_width := List.mem_of_getElem? (i := 2) rfl
theorem in_X7_width_X7 : ∀ w ∈ wsX70, w ∈ wsX7_width := by decide +kernel
set_option maxHeartbeats 4000000 in
set_option maxRecDepth 100000 in
/-- width -/
theorem c_X7_width {l : Launch} {G : va_G} {ty : Nat → ClassId} {b0 : Nat} {H : Heap} {x f : Int32} {m0 : Nat} {A : Nat → Nat} {th : Int32} {F R nb : Nat} {pl co dr wi hi fa : Nat → UInt64} {un bu fc lo la : Nat → Int32} {px py pz : UInt64} (hY : xRef G ty m0 A th F R pl un co dr bu nb wi hi fc fa lo la px py pz H) (hZ : xSz F R) (hA : xAp m0 A) (hB : xNw b0 m0 A) : xMet l yX7_width wsX7_width rm_X7_width G ty b0 [.ref m0, .int (x), .int (f)] H (fun v H1 => ∃ T : Int32, xRef G ty m0 A T F R pl un co dr bu nb wi hi fc fa lo la px py pz H1 ∧ xRfr m0 A H H1 ∧ ∃ z : UInt64, v = some (.double z) ∧ ((T = nI 0 ∧ (vp_in x (R - 1) ∧ vp_in f F) ∧ vq z (pFar pl f.toNatClampNeg x.toNatClampNeg f.toNatClampNeg (x.toNatClampNeg + 1))) ∨ (T = nI 1 ∧ ¬ (vp_in x (R - 1) ∧ vp_in f F)))) (fun _ _ => False) := by
  refine xbody (cc := cX7_width) (maxL := 3) (ret := (some .double)) (C := RX7) (lv := [(0, .ref m0), (1, .int (x)), (2, .int (f))]) (by decide) rfl rfl (Nat.le_of_ble_eq_true rfl) rfl ?_
  intro p e s m below meth c d0 hx hb hr hts hown hlocks hml hxt hnm0 hK hb0 hH0 hS hd0 ls hl
  obtain ⟨y_o, y_0, y_1, y_2, y_3, y_4, y_5, y_6, y_7, y_8, y_9, y_10⟩ := id hY
  obtain ⟨⟨zF2, zF8⟩, ⟨zR2, zR8⟩⟩ := id hZ
  refine lv_aload_n hx hb dX7_width_0 rfl (lv_at hl 0 rfl) ?_
  refine lv_aload_n hx hb dX7_width_1 rfl (lv_at hl 0 rfl) ?_
  refine lv_iload_n hx hb dX7_width_2 rfl (lv_at hl 1 rfl) ?_
  have cw_1 := cwV (R := rm_X7_width) (rm := rm_X7_noStrip) 1 (hts d0) gX7_width_X7_noStrip rfl rfl rfl (by decide +kernel) ⟨Nat.le_of_ble_eq_true rfl, Nat.le_of_ble_eq_true rfl⟩
  refine xcall hd0 (xintoV (b := m0) (As := [.int (x)]) (rest := [.ref m0]) ⟨hx, hb, hml, hown, hts _⟩ cw_1 (va_recv hK.1 (x1 y_o) (ci := 8) (q0 := 0) rfl rfl) rfl rfl hl.1 rfl (lv_room (Nat.le_of_ble_eq_true rfl)) dX7_width_3) (c_X7_noStrip (l := l) (G := G) (ty := ty) (b0 := b0) (⟨y_o, y_0, y_1, y_2, y_3, y_4, y_5, y_6, y_7, y_8, y_9, y_10⟩ : xRef G ty m0 A (th) F R pl un co dr bu nb wi hi fc fa lo la px py pz H) hZ) (xoweB cw_1.1) hK hb0 hS (Nat.le_of_ble_eq_true rfl) (Nat.le_of_ble_eq_true rfl) (fun E_1 ce_1 q9_1 H_1 locs_1 d0 hd0 hp_1 hS hce_1 hcv_1 hcl_1 => ?_) (fun v_1 H_1 locs_1 d0 hd0 hp_1 hS => ?_)
  · exact hp_1.elim
  · obtain ⟨rfl, rfl⟩ := hp_1
    show W p l e _ (s.setDrawn _) m _ below meth c _ _ _ _ _ (F0 m 6 ls [.int (xP (¬ vp_in x (R - 1))), .ref m0])
    refine lv_if_ne (tgt := 21) hx hb dX7_width_6 (by decide) (fun c_2 => ?_) (fun c_2 => ?_)
    · refine lv_iconst (v := nI 1) hx hb dX7_width_21 (by decide) ?_
      refine lv_goto (tgt := 26) hx hb dX7_width_22 (by decide) ?_
      refine xput (G := G) (ci := 8) (v := .int (nI 1)) (ty := .int) (C := RX7) (T := TX7) (N := 18) hx hb (hts d0) in_X7_width_X7 tyX7 tyX7_ok nmX7 hown hK.1 y_o hS hB.1 rfl 0 (by decide) (hts d0 _ hw_X7_width_2) (fun _ h9 => h9) rfl (by decide +kernel) rfl rfl (Nat.le_of_ble_eq_true rfl) dX7_width_26 (fun H_3 locs_3 hs_3 hS => ?_)
      have hc_3 : xc G m0 (.inr (8, [.int (nI 1), .int (nI F), .int (nI R), .ref (A 0), .ref (A 1), .ref (A 2), .ref (A 3), .ref (A 4), .int (nI nb), .ref (A 5), .ref (A 6), .ref (A 7), .ref (A 8), .ref (A 9), .ref (A 10), .double px, .double py, .double pz])) H_3 := hs_3.1
      have hc_A0_3 : xc G (A 0) (.inl (ty 0, 192, .inr (.inr (.inr (.inl pl))))) H_3 := y_0.kept (hs_3.2.2 _ (hA.1 0 (by decide)))
      have hc_A1_3 : xc G (A 1) (.inl (ty 2, 8, .inl un)) H_3 := y_1.kept (hs_3.2.2 _ (hA.1 1 (by decide)))
      have hc_A2_3 : xc G (A 2) (.inl (ty 0, 256, .inr (.inr (.inr (.inl co))))) H_3 := y_2.kept (hs_3.2.2 _ (hA.1 2 (by decide)))
      have hc_A3_3 : xc G (A 3) (.inl (ty 0, 32, .inr (.inr (.inr (.inl dr))))) H_3 := y_3.kept (hs_3.2.2 _ (hA.1 3 (by decide)))
      have hc_A4_3 : xc G (A 4) (.inl (ty 2, 64, .inl bu)) H_3 := y_4.kept (hs_3.2.2 _ (hA.1 4 (by decide)))
      have hc_A5_3 : xc G (A 5) (.inl (ty 0, 4, .inr (.inr (.inr (.inl wi))))) H_3 := y_5.kept (hs_3.2.2 _ (hA.1 5 (by decide)))
      have hc_A6_3 : xc G (A 6) (.inl (ty 0, 4, .inr (.inr (.inr (.inl hi))))) H_3 := y_6.kept (hs_3.2.2 _ (hA.1 6 (by decide)))
      have hc_A7_3 : xc G (A 7) (.inl (ty 1, 4, .inl fc)) H_3 := y_7.kept (hs_3.2.2 _ (hA.1 7 (by decide)))
      have hc_A8_3 : xc G (A 8) (.inl (ty 0, 128, .inr (.inr (.inr (.inl fa))))) H_3 := y_8.kept (hs_3.2.2 _ (hA.1 8 (by decide)))
      have hc_A9_3 : xc G (A 9) (.inl (ty 1, 8, .inl lo)) H_3 := y_9.kept (hs_3.2.2 _ (hA.1 9 (by decide)))
      have hc_A10_3 : xc G (A 10) (.inl (ty 1, 8, .inl la)) H_3 := y_10.kept (hs_3.2.2 _ (hA.1 10 (by decide)))
      have hfr_3 : xRfr m0 A H H_3 := xRfr.put0 xRfr.rf hs_3
      refine lv_aload_n hx hb dX7_width_29 rfl (lv_at hl 0 rfl) ?_
      refine va_get (D := G) (cl := vwCl) (ci := 8) (v := .int (nI 1)) (C := RX7) (T := TX7) (N := 18) hx hb (hts d0) in_X7_width_X7 hown hK.1 (x1 hc_3) 0 rfl rfl 0 (by decide) (hts d0 _ hw_X7_width_2) (fun _ h9 => h9) rfl dX7_width_30 ?_
      refine lv_if_le (tgt := 40) hx hb dX7_width_33 (by decide) (fun h9 => absurd h9 (by decide)) (fun _ => ?_)
      refine lv_dconst0 hx hb dX7_width_36 ?_
      refine lv_goto (tgt := 50) hx hb dX7_width_37 (by decide) ?_
      exact xdret hd0 hx hb hr hlocks hS (Nat.le_of_ble_eq_true rfl) (Nat.le_of_ble_eq_true rfl) dX7_width_50 ⟨nI 1, ⟨hc_3, hc_A0_3, hc_A1_3, hc_A2_3, hc_A3_3, hc_A4_3, hc_A5_3, hc_A6_3, hc_A7_3, hc_A8_3, hc_A9_3, hc_A10_3⟩, hfr_3, _, rfl, Or.inr ⟨rfl, fun z => xP_ne.mp c_2 z.1⟩⟩
    · refine lv_iload_n hx hb dX7_width_9 rfl (lv_at hl 2 rfl) ?_
      refine lv_if_lt (tgt := 21) hx hb dX7_width_10 (by decide) (fun c_5 => ?_) (fun c_5 => ?_)
      · refine lv_iconst (v := nI 1) hx hb dX7_width_21 (by decide) ?_
        refine lv_goto (tgt := 26) hx hb dX7_width_22 (by decide) ?_
        refine xput (G := G) (ci := 8) (v := .int (nI 1)) (ty := .int) (C := RX7) (T := TX7) (N := 18) hx hb (hts d0) in_X7_width_X7 tyX7 tyX7_ok nmX7 hown hK.1 y_o hS hB.1 rfl 0 (by decide) (hts d0 _ hw_X7_width_2) (fun _ h9 => h9) rfl (by decide +kernel) rfl rfl (Nat.le_of_ble_eq_true rfl) dX7_width_26 (fun H_6 locs_6 hs_6 hS => ?_)
        have hc_6 : xc G m0 (.inr (8, [.int (nI 1), .int (nI F), .int (nI R), .ref (A 0), .ref (A 1), .ref (A 2), .ref (A 3), .ref (A 4), .int (nI nb), .ref (A 5), .ref (A 6), .ref (A 7), .ref (A 8), .ref (A 9), .ref (A 10), .double px, .double py, .double pz])) H_6 := hs_6.1
        have hc_A0_6 : xc G (A 0) (.inl (ty 0, 192, .inr (.inr (.inr (.inl pl))))) H_6 := y_0.kept (hs_6.2.2 _ (hA.1 0 (by decide)))
        have hc_A1_6 : xc G (A 1) (.inl (ty 2, 8, .inl un)) H_6 := y_1.kept (hs_6.2.2 _ (hA.1 1 (by decide)))
        have hc_A2_6 : xc G (A 2) (.inl (ty 0, 256, .inr (.inr (.inr (.inl co))))) H_6 := y_2.kept (hs_6.2.2 _ (hA.1 2 (by decide)))
        have hc_A3_6 : xc G (A 3) (.inl (ty 0, 32, .inr (.inr (.inr (.inl dr))))) H_6 := y_3.kept (hs_6.2.2 _ (hA.1 3 (by decide)))
        have hc_A4_6 : xc G (A 4) (.inl (ty 2, 64, .inl bu)) H_6 := y_4.kept (hs_6.2.2 _ (hA.1 4 (by decide)))
        have hc_A5_6 : xc G (A 5) (.inl (ty 0, 4, .inr (.inr (.inr (.inl wi))))) H_6 := y_5.kept (hs_6.2.2 _ (hA.1 5 (by decide)))
        have hc_A6_6 : xc G (A 6) (.inl (ty 0, 4, .inr (.inr (.inr (.inl hi))))) H_6 := y_6.kept (hs_6.2.2 _ (hA.1 6 (by decide)))
        have hc_A7_6 : xc G (A 7) (.inl (ty 1, 4, .inl fc)) H_6 := y_7.kept (hs_6.2.2 _ (hA.1 7 (by decide)))
        have hc_A8_6 : xc G (A 8) (.inl (ty 0, 128, .inr (.inr (.inr (.inl fa))))) H_6 := y_8.kept (hs_6.2.2 _ (hA.1 8 (by decide)))
        have hc_A9_6 : xc G (A 9) (.inl (ty 1, 8, .inl lo)) H_6 := y_9.kept (hs_6.2.2 _ (hA.1 9 (by decide)))
        have hc_A10_6 : xc G (A 10) (.inl (ty 1, 8, .inl la)) H_6 := y_10.kept (hs_6.2.2 _ (hA.1 10 (by decide)))
        have hfr_6 : xRfr m0 A H H_6 := xRfr.put0 xRfr.rf hs_6
        refine lv_aload_n hx hb dX7_width_29 rfl (lv_at hl 0 rfl) ?_
        refine va_get (D := G) (cl := vwCl) (ci := 8) (v := .int (nI 1)) (C := RX7) (T := TX7) (N := 18) hx hb (hts d0) in_X7_width_X7 hown hK.1 (x1 hc_6) 0 rfl rfl 0 (by decide) (hts d0 _ hw_X7_width_2) (fun _ h9 => h9) rfl dX7_width_30 ?_
        refine lv_if_le (tgt := 40) hx hb dX7_width_33 (by decide) (fun h9 => absurd h9 (by decide)) (fun _ => ?_)
        refine lv_dconst0 hx hb dX7_width_36 ?_
        refine lv_goto (tgt := 50) hx hb dX7_width_37 (by decide) ?_
        exact xdret hd0 hx hb hr hlocks hS (Nat.le_of_ble_eq_true rfl) (Nat.le_of_ble_eq_true rfl) dX7_width_50 ⟨nI 1, ⟨hc_6, hc_A0_6, hc_A1_6, hc_A2_6, hc_A3_6, hc_A4_6, hc_A5_6, hc_A6_6, hc_A7_6, hc_A8_6, hc_A9_6, hc_A10_6⟩, hfr_6, _, rfl, Or.inr ⟨rfl, fun z => xin_no0 c_5 z.2⟩⟩
      · refine lv_iload_n hx hb dX7_width_13 rfl (lv_at hl 2 rfl) ?_
        refine lv_aload_n hx hb dX7_width_14 rfl (lv_at hl 0 rfl) ?_
        refine va_get (D := G) (cl := vwCl) (ci := 8) (v := .int (nI F)) (C := RX7) (T := TX7) (N := 18) hx hb (hts d0) in_X7_width_X7 hown hK.1 (x1 y_o) 0 rfl rfl 1 (by decide) (hts d0 _ hw_X7_width_1) (fun _ h9 => h9) rfl dX7_width_15 ?_
        refine lv_icmp_lt (tgt := 25) hx hb dX7_width_18 (by decide) (fun c_8 => ?_) (fun c_8 => ?_)
        · have z9 : vp_in x (R - 1) ∧ vp_in f F := ⟨Classical.not_not.mp (xP_eq.mp c_2), xin_lt c_5 c_8 (by omega)⟩
          have z_x := z9.1
          have z_f := z9.2
          obtain ⟨x9, hx9, ex9⟩ := vp_in_of z_x (by omega)
          obtain ⟨f9, hf9, ef9⟩ := vp_in_of z_f (by omega)
          subst ex9 ef9
          refine lv_iconst (v := nI 0) hx hb dX7_width_25 (by decide) ?_
          refine xput (G := G) (ci := 8) (v := .int (nI 0)) (ty := .int) (C := RX7) (T := TX7) (N := 18) hx hb (hts d0) in_X7_width_X7 tyX7 tyX7_ok nmX7 hown hK.1 y_o hS hB.1 rfl 0 (by decide) (hts d0 _ hw_X7_width_2) (fun _ h9 => h9) rfl (by decide +kernel) rfl rfl (Nat.le_of_ble_eq_true rfl) dX7_width_26 (fun H_9 locs_9 hs_9 hS => ?_)
          have hc_9 : xc G m0 (.inr (8, [.int (nI 0), .int (nI F), .int (nI R), .ref (A 0), .ref (A 1), .ref (A 2), .ref (A 3), .ref (A 4), .int (nI nb), .ref (A 5), .ref (A 6), .ref (A 7), .ref (A 8), .ref (A 9), .ref (A 10), .double px, .double py, .double pz])) H_9 := hs_9.1
          have hc_A0_9 : xc G (A 0) (.inl (ty 0, 192, .inr (.inr (.inr (.inl pl))))) H_9 := y_0.kept (hs_9.2.2 _ (hA.1 0 (by decide)))
          have hc_A1_9 : xc G (A 1) (.inl (ty 2, 8, .inl un)) H_9 := y_1.kept (hs_9.2.2 _ (hA.1 1 (by decide)))
          have hc_A2_9 : xc G (A 2) (.inl (ty 0, 256, .inr (.inr (.inr (.inl co))))) H_9 := y_2.kept (hs_9.2.2 _ (hA.1 2 (by decide)))
          have hc_A3_9 : xc G (A 3) (.inl (ty 0, 32, .inr (.inr (.inr (.inl dr))))) H_9 := y_3.kept (hs_9.2.2 _ (hA.1 3 (by decide)))
          have hc_A4_9 : xc G (A 4) (.inl (ty 2, 64, .inl bu)) H_9 := y_4.kept (hs_9.2.2 _ (hA.1 4 (by decide)))
          have hc_A5_9 : xc G (A 5) (.inl (ty 0, 4, .inr (.inr (.inr (.inl wi))))) H_9 := y_5.kept (hs_9.2.2 _ (hA.1 5 (by decide)))
          have hc_A6_9 : xc G (A 6) (.inl (ty 0, 4, .inr (.inr (.inr (.inl hi))))) H_9 := y_6.kept (hs_9.2.2 _ (hA.1 6 (by decide)))
          have hc_A7_9 : xc G (A 7) (.inl (ty 1, 4, .inl fc)) H_9 := y_7.kept (hs_9.2.2 _ (hA.1 7 (by decide)))
          have hc_A8_9 : xc G (A 8) (.inl (ty 0, 128, .inr (.inr (.inr (.inl fa))))) H_9 := y_8.kept (hs_9.2.2 _ (hA.1 8 (by decide)))
          have hc_A9_9 : xc G (A 9) (.inl (ty 1, 8, .inl lo)) H_9 := y_9.kept (hs_9.2.2 _ (hA.1 9 (by decide)))
          have hc_A10_9 : xc G (A 10) (.inl (ty 1, 8, .inl la)) H_9 := y_10.kept (hs_9.2.2 _ (hA.1 10 (by decide)))
          have hfr_9 : xRfr m0 A H H_9 := xRfr.put0 xRfr.rf hs_9
          refine lv_aload_n hx hb dX7_width_29 rfl (lv_at hl 0 rfl) ?_
          refine va_get (D := G) (cl := vwCl) (ci := 8) (v := .int (nI 0)) (C := RX7) (T := TX7) (N := 18) hx hb (hts d0) in_X7_width_X7 hown hK.1 (x1 hc_9) 0 rfl rfl 0 (by decide) (hts d0 _ hw_X7_width_2) (fun _ h9 => h9) rfl dX7_width_30 ?_
          refine lv_if_le (tgt := 40) hx hb dX7_width_33 (by decide) (fun _ => ?_) (fun h9 => absurd (by decide) h9)
          refine lv_aload_n hx hb dX7_width_40 rfl (lv_at hl 0 rfl) ?_
          refine lv_iload_n hx hb dX7_width_41 rfl (lv_at hl 2 rfl) ?_
          refine lv_iload_n hx hb dX7_width_42 rfl (lv_at hl 1 rfl) ?_
          refine lv_iload_n hx hb dX7_width_43 rfl (lv_at hl 2 rfl) ?_
          refine lv_iload_n hx hb dX7_width_44 rfl (lv_at hl 1 rfl) ?_
          refine lv_iconst (v := nI 1) hx hb dX7_width_45 (by decide) ?_
          refine xiaddN hx hb dX7_width_46 ?_
          have cw_11 := cwV (R := rm_X7_width) (rm := rm_X7_far) 4 (hts d0) gX7_width_X7_far rfl rfl rfl (by decide +kernel) ⟨Nat.le_of_ble_eq_true rfl, Nat.le_of_ble_eq_true rfl⟩
          refine xcall hd0 (xintoV (b := m0) (As := [.int (nI f9), .int (nI x9), .int (nI f9), .int (nI (x9 + 1))]) (rest := []) ⟨hx, hb, hml, hown, hts _⟩ cw_11 (va_recv hK.1 (x1 hc_9) (ci := 8) (q0 := 0) rfl rfl) rfl rfl hl.1 rfl (lv_room (Nat.le_of_ble_eq_true rfl)) dX7_width_47) (c_X7_far (l := l) (G := G) (ty := ty) (b0 := b0) (f := f9) (r := x9) (g := f9) (q := x9 + 1) (by omega) (by omega) (by omega) (by omega) (⟨hc_9, hc_A0_9, hc_A1_9, hc_A2_9, hc_A3_9, hc_A4_9, hc_A5_9, hc_A6_9, hc_A7_9, hc_A8_9, hc_A9_9, hc_A10_9⟩ : xRef G ty m0 A (nI 0) F R pl un co dr bu nb wi hi fc fa lo la px py pz H_9) hZ) (xoweB cw_11.1) hK hb0 hS (Nat.le_of_ble_eq_true rfl) (Nat.le_of_ble_eq_true rfl) (fun E_11 ce_11 q9_11 H_11 locs_11 d0 hd0 hp_11 hS hce_11 hcv_11 hcl_11 => ?_) (fun v_11 H_11 locs_11 d0 hd0 hp_11 hS => ?_)
          · exact hp_11.elim
          · obtain ⟨rfl, r_11, rfl, q_11⟩ := hp_11
            show W p l e _ (s.setDrawn _) m _ below meth c _ _ _ _ _ (F0 m 50 ls [.double r_11])
            exact xdret hd0 hx hb hr hlocks hS (Nat.le_of_ble_eq_true rfl) (Nat.le_of_ble_eq_true rfl) dX7_width_50 ⟨nI 0, ⟨hc_9, hc_A0_9, hc_A1_9, hc_A2_9, hc_A3_9, hc_A4_9, hc_A5_9, hc_A6_9, hc_A7_9, hc_A8_9, hc_A9_9, hc_A10_9⟩, hfr_9, _, rfl, Or.inl ⟨rfl, z9, by rw [nN_nI (by omega), nN_nI (by omega)]; exact q_11⟩⟩
        · refine lv_iconst (v := nI 1) hx hb dX7_width_21 (by decide) ?_
          refine lv_goto (tgt := 26) hx hb dX7_width_22 (by decide) ?_
          refine xput (G := G) (ci := 8) (v := .int (nI 1)) (ty := .int) (C := RX7) (T := TX7) (N := 18) hx hb (hts d0) in_X7_width_X7 tyX7 tyX7_ok nmX7 hown hK.1 y_o hS hB.1 rfl 0 (by decide) (hts d0 _ hw_X7_width_2) (fun _ h9 => h9) rfl (by decide +kernel) rfl rfl (Nat.le_of_ble_eq_true rfl) dX7_width_26 (fun H_12 locs_12 hs_12 hS => ?_)
          have hc_12 : xc G m0 (.inr (8, [.int (nI 1), .int (nI F), .int (nI R), .ref (A 0), .ref (A 1), .ref (A 2), .ref (A 3), .ref (A 4), .int (nI nb), .ref (A 5), .ref (A 6), .ref (A 7), .ref (A 8), .ref (A 9), .ref (A 10), .double px, .double py, .double pz])) H_12 := hs_12.1
          have hc_A0_12 : xc G (A 0) (.inl (ty 0, 192, .inr (.inr (.inr (.inl pl))))) H_12 := y_0.kept (hs_12.2.2 _ (hA.1 0 (by decide)))
          have hc_A1_12 : xc G (A 1) (.inl (ty 2, 8, .inl un)) H_12 := y_1.kept (hs_12.2.2 _ (hA.1 1 (by decide)))
          have hc_A2_12 : xc G (A 2) (.inl (ty 0, 256, .inr (.inr (.inr (.inl co))))) H_12 := y_2.kept (hs_12.2.2 _ (hA.1 2 (by decide)))
          have hc_A3_12 : xc G (A 3) (.inl (ty 0, 32, .inr (.inr (.inr (.inl dr))))) H_12 := y_3.kept (hs_12.2.2 _ (hA.1 3 (by decide)))
          have hc_A4_12 : xc G (A 4) (.inl (ty 2, 64, .inl bu)) H_12 := y_4.kept (hs_12.2.2 _ (hA.1 4 (by decide)))
          have hc_A5_12 : xc G (A 5) (.inl (ty 0, 4, .inr (.inr (.inr (.inl wi))))) H_12 := y_5.kept (hs_12.2.2 _ (hA.1 5 (by decide)))
          have hc_A6_12 : xc G (A 6) (.inl (ty 0, 4, .inr (.inr (.inr (.inl hi))))) H_12 := y_6.kept (hs_12.2.2 _ (hA.1 6 (by decide)))
          have hc_A7_12 : xc G (A 7) (.inl (ty 1, 4, .inl fc)) H_12 := y_7.kept (hs_12.2.2 _ (hA.1 7 (by decide)))
          have hc_A8_12 : xc G (A 8) (.inl (ty 0, 128, .inr (.inr (.inr (.inl fa))))) H_12 := y_8.kept (hs_12.2.2 _ (hA.1 8 (by decide)))
          have hc_A9_12 : xc G (A 9) (.inl (ty 1, 8, .inl lo)) H_12 := y_9.kept (hs_12.2.2 _ (hA.1 9 (by decide)))
          have hc_A10_12 : xc G (A 10) (.inl (ty 1, 8, .inl la)) H_12 := y_10.kept (hs_12.2.2 _ (hA.1 10 (by decide)))
          have hfr_12 : xRfr m0 A H H_12 := xRfr.put0 xRfr.rf hs_12
          refine lv_aload_n hx hb dX7_width_29 rfl (lv_at hl 0 rfl) ?_
          refine va_get (D := G) (cl := vwCl) (ci := 8) (v := .int (nI 1)) (C := RX7) (T := TX7) (N := 18) hx hb (hts d0) in_X7_width_X7 hown hK.1 (x1 hc_12) 0 rfl rfl 0 (by decide) (hts d0 _ hw_X7_width_2) (fun _ h9 => h9) rfl dX7_width_30 ?_
          refine lv_if_le (tgt := 40) hx hb dX7_width_33 (by decide) (fun h9 => absurd h9 (by decide)) (fun _ => ?_)
          refine lv_dconst0 hx hb dX7_width_36 ?_
          refine lv_goto (tgt := 50) hx hb dX7_width_37 (by decide) ?_
          exact xdret hd0 hx hb hr hlocks hS (Nat.le_of_ble_eq_true rfl) (Nat.le_of_ble_eq_true rfl) dX7_width_50 ⟨nI 1, ⟨hc_12, hc_A0_12, hc_A1_12, hc_A2_12, hc_A3_12, hc_A4_12, hc_A5_12, hc_A6_12, hc_A7_12, hc_A8_12, hc_A9_12, hc_A10_12⟩, hfr_12, _, rfl, Or.inr ⟨rfl, fun z => xin_nlt c_8 (by omega) z.2⟩⟩
set_option maxRecDepth 20000 in
theorem ggX7_butt_X7_noStrip : GoodIn wsX7_butt wsX7_noStrip := goodIn_r _ [8, 9, 10, 11, 12, 13, 14, 15, 16, 17, 18, 19, 20, 21, 22, 23, 24, 25, 26, 27] (by decide +kernel) (by decide +kernel)
set_option maxRecDepth 20000 in
theorem gX7_butt_X7_noStrip : GoodIn wsX7_butt (wsV RX7 87 RX7 yX7_noStrip wsX7_noStrip) := goodIn_app (goodIn_of _ (by decide +kernel)) ggX7_butt_X7_noStrip
theorem dX7_butt_0 : decode cX7_butt 0 = .ok (.aload_n 0, 1) := by decide +kernel
theorem dX7_butt_1 : decode cX7_butt 1 = .ok (.aload_n 0, 1) := by decide +kernel
theorem dX7_butt_2 : decode cX7_butt 2 = .ok (.iload_n 1, 1) := by decide +kernel
theorem dX7_butt_3 : decode cX7_butt 3 = .ok (.invokevirtual 87, 3) := by decide +kernel
theorem dX7_butt_6 : decode cX7_butt 6 = .ok (.ifCond .ne 15, 3) := by decide +kernel
theorem dX7_butt_9 : decode cX7_butt 9 = .ok (.iload_n 2, 1) := by decide +kernel
theorem dX7_butt_10 : decode cX7_butt 10 = .ok (.ifCond .lt 11, 3) := by decide +kernel
theorem dX7_butt_13 : decode cX7_butt 13 = .ok (.iload_n 2, 1) := by decide +kernel
theorem dX7_butt_14 : decode cX7_butt 14 = .ok (.aload_n 0, 1) := by decide +kernel
theorem dX7_butt_15 : decode cX7_butt 15 = .ok (.getfield 45, 3) := by decide +kernel
theorem dX7_butt_18 : decode cX7_butt 18 = .ok (.if_icmp .lt 7, 3) := by decide +kernel
theorem dX7_butt_21 : decode cX7_butt 21 = .ok (.iconst 1, 1) := by decide +kernel
theorem dX7_butt_22 : decode cX7_butt 22 = .ok (.goto 4, 3) := by decide +kernel
theorem dX7_butt_25 : decode cX7_butt 25 = .ok (.iconst 0, 1) := by decide +kernel
theorem dX7_butt_26 : decode cX7_butt 26 = .ok (.putfield 52, 3) := by decide +kernel
theorem dX7_butt_29 : decode cX7_butt 29 = .ok (.aload_n 0, 1) := by decide +kernel
theorem dX7_butt_30 : decode cX7_butt 30 = .ok (.getfield 52, 3) := by decide +kernel
theorem dX7_butt_33 : decode cX7_butt 33 = .ok (.ifCond .le 5, 3) := by decide +kernel
theorem dX7_butt_36 : decode cX7_butt 36 = .ok (.iconst 0, 1) := by decide +kernel
theorem dX7_butt_37 : decode cX7_butt 37 = .ok (.ireturn, 1) := by decide +kernel
theorem dX7_butt_38 : decode cX7_butt 38 = .ok (.aload_n 0, 1) := by decide +kernel
theorem dX7_butt_39 : decode cX7_butt 39 = .ok (.getfield 23, 3) := by decide +kernel
theorem dX7_butt_42 : decode cX7_butt 42 = .ok (.bipush 8, 2) := by decide +kernel
theorem dX7_butt_44 : decode cX7_butt 44 = .ok (.iload_n 1, 1) := by decide +kernel
theorem dX7_butt_45 : decode cX7_butt 45 = .ok (.imul, 1) := by decide +kernel
theorem dX7_butt_46 : decode cX7_butt 46 = .ok (.iload_n 2, 1) := by decide +kernel
theorem dX7_butt_47 : decode cX7_butt 47 = .ok (.iadd, 1) := by decide +kernel
theorem dX7_butt_48 : decode cX7_butt 48 = .ok (.baload, 1) := by decide +kernel
theorem dX7_butt_49 : decode cX7_butt 49 = .ok (.iload_n 3, 1) := by decide +kernel
theorem dX7_butt_50 : decode cX7_butt 50 = .ok (.if_icmp .eq 7, 3) := by decide +kernel
theorem dX7_butt_53 : decode cX7_butt 53 = .ok (.iconst 1, 1) := by decide +kernel
theorem dX7_butt_54 : decode cX7_butt 54 = .ok (.goto 4, 3) := by decide +kernel
theorem dX7_butt_57 : decode cX7_butt 57 = .ok (.iconst 0, 1) := by decide +kernel
theorem dX7_butt_58 : decode cX7_butt 58 = .ok (.istore 4, 2) := by decide +kernel
theorem dX7_butt_60 : decode cX7_butt 60 = .ok (.aload_n 0, 1) := by decide +kernel
theorem dX7_butt_61 : decode cX7_butt 61 = .ok (.getfield 23, 3) := by decide +kernel
theorem dX7_butt_64 : decode cX7_butt 64 = .ok (.bipush 8, 2) := by decide +kernel
theorem dX7_butt_66 : decode cX7_butt 66 = .ok (.iload_n 1, 1) := by decide +kernel
theorem dX7_butt_67 : decode cX7_butt 67 = .ok (.imul, 1) := by decide +kernel
theorem dX7_butt_68 : decode cX7_butt 68 = .ok (.iload_n 2, 1) := by decide +kernel
theorem dX7_butt_69 : decode cX7_butt 69 = .ok (.iadd, 1) := by decide +kernel
theorem dX7_butt_70 : decode cX7_butt 70 = .ok (.iload_n 3, 1) := by decide +kernel
theorem dX7_butt_71 : decode cX7_butt 71 = .ok (.bastore, 1) := by decide +kernel
theorem dX7_butt_72 : decode cX7_butt 72 = .ok (.iload 4, 2) := by decide +kernel
theorem dX7_butt_74 : decode cX7_butt 74 = .ok (.ireturn, 1) := by decide +kernel
abbrev rm_X7_butt : Room := { frames := 7, cells := 0, slots := 0, locals := 140 }
theorem hw_X7_butt_1 : (Cond.fieldLink RX7 45 "PlankUnrollModel" "frames" "I") ∈ wsX7_butt := List.mem_of_getElem? (i := 1) rfl
theorem hw_X7_butt_2 : (Cond.fieldLink RX7 52 "PlankUnrollModel" "thrown" "I") ∈ wsX7_butt := List.mem_of_getElem? (i := 2) rfl
theorem hw_X7_butt_3 : (Cond.fieldLink RX7 23 "PlankUnrollModel" "butts" "[Z") ∈ wsX7_butt := List.mem_of_getElem? (i := 3) rfl
theorem in_X7_butt_X7 : ∀ w ∈ wsX70, w ∈ wsX7_butt := by decide +kernel
set_option maxHeartbeats 4000000 in
set_option maxRecDepth 100000 in
/-- butt -/
theorem c_X7_butt {l : Launch} {G : va_G} {ty : Nat → ClassId} {b0 : Nat} {H : Heap} {x f on : Int32} (hon : on = 0 ∨ on = 1) {m0 : Nat} {A : Nat → Nat} {th : Int32} {F R nb : Nat} {pl co dr wi hi fa : Nat → UInt64} {un bu fc lo la : Nat → Int32} {px py pz : UInt64} (hY : xRef G ty m0 A th F R pl un co dr bu nb wi hi fc fa lo la px py pz H) (hZ : xSz F R) (hA : xAp m0 A) (hB : xNw b0 m0 A) : xMet l yX7_butt wsX7_butt rm_X7_butt G ty b0 [.ref m0, .int (x), .int (f), .int (on)] H (fun v H1 => ∃ (T : Int32) (bu1 : Nat → Int32), xRef G ty m0 A T F R pl un co dr bu1 nb wi hi fc fa lo la px py pz H1 ∧ xRfr m0 A H H1 ∧ ∃ z : Int32, v = some (.int z) ∧ ((T = nI 0 ∧ (vp_in x (R - 1) ∧ vp_in f F) ∧ z = xP (¬ bu (8 * x.toNatClampNeg + f.toNatClampNeg) = on) ∧ bu1 = upd bu (8 * x.toNatClampNeg + f.toNatClampNeg) on) ∨ (T = nI 1 ∧ ¬ (vp_in x (R - 1) ∧ vp_in f F) ∧ bu1 = bu))) (fun _ _ => False) := by
  refine xbody (cc := cX7_butt) (maxL := 5) (ret := (some .boolean)) (C := RX7) (lv := [(0, .ref m0), (1, .int (x)), (2, .int (f)), (3, .int (on))]) (by decide) rfl rfl (Nat.le_of_ble_eq_true rfl) rfl ?_
  intro p e s m below meth c d0 hx hb hr hts hown hlocks hml hxt hnm0 hK hb0 hH0 hS hd0 ls hl
  obtain ⟨y_o, y_0, y_1, y_2, y_3, y_4, y_5, y_6, y_7, y_8, y_9, y_10⟩ := id hY
  obtain ⟨⟨zF2, zF8⟩, ⟨zR2, zR8⟩⟩ := id hZ
  refine lv_aload_n hx hb dX7_butt_0 rfl (lv_at hl 0 rfl) ?_
  refine lv_aload_n hx hb dX7_butt_1 rfl (lv_at hl 0 rfl) ?_
  refine lv_iload_n hx hb dX7_butt_2 rfl (lv_at hl 1 rfl) ?_
  have cw_1 := cwV (R := rm_X7_butt) (rm := rm_X7_noStrip) 1 (hts d0) gX7_butt_X7_noStrip rfl rfl rfl (by decide +kernel) ⟨Nat.le_of_ble_eq_true rfl, Nat.le_of_ble_eq_true rfl⟩
  refine xcall hd0 (xintoV (b := m0) (As := [.int (x)]) (rest := [.ref m0]) ⟨hx, hb, hml, hown, hts _⟩ cw_1 (va_recv hK.1 (x1 y_o) (ci := 8) (q0 := 0) rfl rfl) rfl rfl hl.1 rfl (lv_room (Nat.le_of_ble_eq_true rfl)) dX7_butt_3) (c_X7_noStrip (l := l) (G := G) (ty := ty) (b0 := b0) (⟨y_o, y_0, y_1, y_2, y_3, y_4, y_5, y_6, y_7, y_8, y_9, y_10⟩ : xRef G ty m0 A (th) F R pl un co dr bu nb wi hi fc fa lo la px py pz H) hZ) (xoweB cw_1.1) hK hb0 hS (Nat.le_of_ble_eq_true rfl) (Nat.le_of_ble_eq_true rfl) (fun E_1 ce_1 q9_1 H_1 locs_1 d0 hd0 hp_1 hS hce_1 hcv_1 hcl_1 => ?_) (fun v_1 H_1 locs_1 d0 hd0 hp_1 hS => ?_)
  · exact hp_1.elim
  · obtain ⟨rfl, rfl⟩ := hp_1
    show W p l e _ (s.setDrawn _) m _ below meth c _ _ _ _ _ (F0 m 6 ls [.int (xP (¬ vp_in x (R - 1))), .ref m0])
    refine lv_if_ne (tgt := 21) hx hb dX7_butt_6 (by decide) (fun c_2 => ?_) (fun c_2 => ?_)
    · refine lv_iconst (v := nI 1) hx hb dX7_butt_21 (by decide) ?_
      refine lv_goto (tgt := 26) hx hb dX7_butt_22 (by decide) ?_
      refine xput (G := G) (ci := 8) (v := .int (nI 1)) (ty := .int) (C := RX7) (T := TX7) (N := 18) hx hb (hts d0) in_X7_butt_X7 tyX7 tyX7_ok nmX7 hown hK.1 y_o hS hB.1 rfl 0 (by decide) (hts d0 _ hw_X7_butt_2) (fun _ h9 => h9) rfl (by decide +kernel) rfl rfl (Nat.le_of_ble_eq_true rfl) dX7_butt_26 (fun H_3 locs_3 hs_3 hS => ?_)
      have hc_3 : xc G m0 (.inr (8, [.int (nI 1), .int (nI F), .int (nI R), .ref (A 0), .ref (A 1), .ref (A 2), .ref (A 3), .ref (A 4), .int (nI nb), .ref (A 5), .ref (A 6), .ref (A 7), .ref (A 8), .ref (A 9), .ref (A 10), .double px, .double py, .double pz])) H_3 := hs_3.1
      have hc_A0_3 : xc G (A 0) (.inl (ty 0, 192, .inr (.inr (.inr (.inl pl))))) H_3 := y_0.kept (hs_3.2.2 _ (hA.1 0 (by decide)))
      have hc_A1_3 : xc G (A 1) (.inl (ty 2, 8, .inl un)) H_3 := y_1.kept (hs_3.2.2 _ (hA.1 1 (by decide)))
      have hc_A2_3 : xc G (A 2) (.inl (ty 0, 256, .inr (.inr (.inr (.inl co))))) H_3 := y_2.kept (hs_3.2.2 _ (hA.1 2 (by decide)))
      have hc_A3_3 : xc G (A 3) (.inl (ty 0, 32, .inr (.inr (.inr (.inl dr))))) H_3 := y_3.kept (hs_3.2.2 _ (hA.1 3 (by decide)))
      have hc_A4_3 : xc G (A 4) (.inl (ty 2, 64, .inl bu)) H_3 := y_4.kept (hs_3.2.2 _ (hA.1 4 (by decide)))
      have hc_A5_3 : xc G (A 5) (.inl (ty 0, 4, .inr (.inr (.inr (.inl wi))))) H_3 := y_5.kept (hs_3.2.2 _ (hA.1 5 (by decide)))
      have hc_A6_3 : xc G (A 6) (.inl (ty 0, 4, .inr (.inr (.inr (.inl hi))))) H_3 := y_6.kept (hs_3.2.2 _ (hA.1 6 (by decide)))
      have hc_A7_3 : xc G (A 7) (.inl (ty 1, 4, .inl fc)) H_3 := y_7.kept (hs_3.2.2 _ (hA.1 7 (by decide)))
      have hc_A8_3 : xc G (A 8) (.inl (ty 0, 128, .inr (.inr (.inr (.inl fa))))) H_3 := y_8.kept (hs_3.2.2 _ (hA.1 8 (by decide)))
      have hc_A9_3 : xc G (A 9) (.inl (ty 1, 8, .inl lo)) H_3 := y_9.kept (hs_3.2.2 _ (hA.1 9 (by decide)))
      have hc_A10_3 : xc G (A 10) (.inl (ty 1, 8, .inl la)) H_3 := y_10.kept (hs_3.2.2 _ (hA.1 10 (by decide)))
      have hfr_3 : xRfr m0 A H H_3 := xRfr.put0 xRfr.rf hs_3
      refine lv_aload_n hx hb dX7_butt_29 rfl (lv_at hl 0 rfl) ?_
      refine va_get (D := G) (cl := vwCl) (ci := 8) (v := .int (nI 1)) (C := RX7) (T := TX7) (N := 18) hx hb (hts d0) in_X7_butt_X7 hown hK.1 (x1 hc_3) 0 rfl rfl 0 (by decide) (hts d0 _ hw_X7_butt_2) (fun _ h9 => h9) rfl dX7_butt_30 ?_
      refine lv_if_le (tgt := 38) hx hb dX7_butt_33 (by decide) (fun h9 => absurd h9 (by decide)) (fun _ => ?_)
      refine lv_iconst (v := nI 0) hx hb dX7_butt_36 (by decide) ?_
      exact xzret (by decide) hd0 hx hb hr hlocks hS (Nat.le_of_ble_eq_true rfl) (Nat.le_of_ble_eq_true rfl) dX7_butt_37 ⟨nI 1, _, ⟨hc_3, hc_A0_3, hc_A1_3, hc_A2_3, hc_A3_3, hc_A4_3, hc_A5_3, hc_A6_3, hc_A7_3, hc_A8_3, hc_A9_3, hc_A10_3⟩, hfr_3, _, rfl, Or.inr ⟨rfl, fun z => xP_ne.mp c_2 z.1, rfl⟩⟩
    · refine lv_iload_n hx hb dX7_butt_9 rfl (lv_at hl 2 rfl) ?_
      refine lv_if_lt (tgt := 21) hx hb dX7_butt_10 (by decide) (fun c_5 => ?_) (fun c_5 => ?_)
      · refine lv_iconst (v := nI 1) hx hb dX7_butt_21 (by decide) ?_
        refine lv_goto (tgt := 26) hx hb dX7_butt_22 (by decide) ?_
        refine xput (G := G) (ci := 8) (v := .int (nI 1)) (ty := .int) (C := RX7) (T := TX7) (N := 18) hx hb (hts d0) in_X7_butt_X7 tyX7 tyX7_ok nmX7 hown hK.1 y_o hS hB.1 rfl 0 (by decide) (hts d0 _ hw_X7_butt_2) (fun _ h9 => h9) rfl (by decide +kernel) rfl rfl (Nat.le_of_ble_eq_true rfl) dX7_butt_26 (fun H_6 locs_6 hs_6 hS => ?_)
        have hc_6 : xc G m0 (.inr (8, [.int (nI 1), .int (nI F), .int (nI R), .ref (A 0), .ref (A 1), .ref (A 2), .ref (A 3), .ref (A 4), .int (nI nb), .ref (A 5), .ref (A 6), .ref (A 7), .ref (A 8), .ref (A 9), .ref (A 10), .double px, .double py, .double pz])) H_6 := hs_6.1
        have hc_A0_6 : xc G (A 0) (.inl (ty 0, 192, .inr (.inr (.inr (.inl pl))))) H_6 := y_0.kept (hs_6.2.2 _ (hA.1 0 (by decide)))
        have hc_A1_6 : xc G (A 1) (.inl (ty 2, 8, .inl un)) H_6 := y_1.kept (hs_6.2.2 _ (hA.1 1 (by decide)))
        have hc_A2_6 : xc G (A 2) (.inl (ty 0, 256, .inr (.inr (.inr (.inl co))))) H_6 := y_2.kept (hs_6.2.2 _ (hA.1 2 (by decide)))
        have hc_A3_6 : xc G (A 3) (.inl (ty 0, 32, .inr (.inr (.inr (.inl dr))))) H_6 := y_3.kept (hs_6.2.2 _ (hA.1 3 (by decide)))
        have hc_A4_6 : xc G (A 4) (.inl (ty 2, 64, .inl bu)) H_6 := y_4.kept (hs_6.2.2 _ (hA.1 4 (by decide)))
        have hc_A5_6 : xc G (A 5) (.inl (ty 0, 4, .inr (.inr (.inr (.inl wi))))) H_6 := y_5.kept (hs_6.2.2 _ (hA.1 5 (by decide)))
        have hc_A6_6 : xc G (A 6) (.inl (ty 0, 4, .inr (.inr (.inr (.inl hi))))) H_6 := y_6.kept (hs_6.2.2 _ (hA.1 6 (by decide)))
        have hc_A7_6 : xc G (A 7) (.inl (ty 1, 4, .inl fc)) H_6 := y_7.kept (hs_6.2.2 _ (hA.1 7 (by decide)))
        have hc_A8_6 : xc G (A 8) (.inl (ty 0, 128, .inr (.inr (.inr (.inl fa))))) H_6 := y_8.kept (hs_6.2.2 _ (hA.1 8 (by decide)))
        have hc_A9_6 : xc G (A 9) (.inl (ty 1, 8, .inl lo)) H_6 := y_9.kept (hs_6.2.2 _ (hA.1 9 (by decide)))
        have hc_A10_6 : xc G (A 10) (.inl (ty 1, 8, .inl la)) H_6 := y_10.kept (hs_6.2.2 _ (hA.1 10 (by decide)))
        have hfr_6 : xRfr m0 A H H_6 := xRfr.put0 xRfr.rf hs_6
        refine lv_aload_n hx hb dX7_butt_29 rfl (lv_at hl 0 rfl) ?_
        refine va_get (D := G) (cl := vwCl) (ci := 8) (v := .int (nI 1)) (C := RX7) (T := TX7) (N := 18) hx hb (hts d0) in_X7_butt_X7 hown hK.1 (x1 hc_6) 0 rfl rfl 0 (by decide) (hts d0 _ hw_X7_butt_2) (fun _ h9 => h9) rfl dX7_butt_30 ?_
        refine lv_if_le (tgt := 38) hx hb dX7_butt_33 (by decide) (fun h9 => absurd h9 (by decide)) (fun _ => ?_)
        refine lv_iconst (v := nI 0) hx hb dX7_butt_36 (by decide) ?_
        exact xzret (by decide) hd0 hx hb hr hlocks hS (Nat.le_of_ble_eq_true rfl) (Nat.le_of_ble_eq_true rfl) dX7_butt_37 ⟨nI 1, _, ⟨hc_6, hc_A0_6, hc_A1_6, hc_A2_6, hc_A3_6, hc_A4_6, hc_A5_6, hc_A6_6, hc_A7_6, hc_A8_6, hc_A9_6, hc_A10_6⟩, hfr_6, _, rfl, Or.inr ⟨rfl, fun z => xin_no0 c_5 z.2, rfl⟩⟩
      · refine lv_iload_n hx hb dX7_butt_13 rfl (lv_at hl 2 rfl) ?_
        refine lv_aload_n hx hb dX7_butt_14 rfl (lv_at hl 0 rfl) ?_
        refine va_get (D := G) (cl := vwCl) (ci := 8) (v := .int (nI F)) (C := RX7) (T := TX7) (N := 18) hx hb (hts d0) in_X7_butt_X7 hown hK.1 (x1 y_o) 0 rfl rfl 1 (by decide) (hts d0 _ hw_X7_butt_1) (fun _ h9 => h9) rfl dX7_butt_15 ?_
        refine lv_icmp_lt (tgt := 25) hx hb dX7_butt_18 (by decide) (fun c_8 => ?_) (fun c_8 => ?_)
        · have z9 : vp_in x (R - 1) ∧ vp_in f F := ⟨Classical.not_not.mp (xP_eq.mp c_2), xin_lt c_5 c_8 (by omega)⟩
          have z_x := z9.1
          have z_f := z9.2
          obtain ⟨x9, hx9, ex9⟩ := vp_in_of z_x (by omega)
          obtain ⟨f9, hf9, ef9⟩ := vp_in_of z_f (by omega)
          subst ex9 ef9
          refine lv_iconst (v := nI 0) hx hb dX7_butt_25 (by decide) ?_
          refine xput (G := G) (ci := 8) (v := .int (nI 0)) (ty := .int) (C := RX7) (T := TX7) (N := 18) hx hb (hts d0) in_X7_butt_X7 tyX7 tyX7_ok nmX7 hown hK.1 y_o hS hB.1 rfl 0 (by decide) (hts d0 _ hw_X7_butt_2) (fun _ h9 => h9) rfl (by decide +kernel) rfl rfl (Nat.le_of_ble_eq_true rfl) dX7_butt_26 (fun H_9 locs_9 hs_9 hS => ?_)
          have hc_9 : xc G m0 (.inr (8, [.int (nI 0), .int (nI F), .int (nI R), .ref (A 0), .ref (A 1), .ref (A 2), .ref (A 3), .ref (A 4), .int (nI nb), .ref (A 5), .ref (A 6), .ref (A 7), .ref (A 8), .ref (A 9), .ref (A 10), .double px, .double py, .double pz])) H_9 := hs_9.1
          have hc_A0_9 : xc G (A 0) (.inl (ty 0, 192, .inr (.inr (.inr (.inl pl))))) H_9 := y_0.kept (hs_9.2.2 _ (hA.1 0 (by decide)))
          have hc_A1_9 : xc G (A 1) (.inl (ty 2, 8, .inl un)) H_9 := y_1.kept (hs_9.2.2 _ (hA.1 1 (by decide)))
          have hc_A2_9 : xc G (A 2) (.inl (ty 0, 256, .inr (.inr (.inr (.inl co))))) H_9 := y_2.kept (hs_9.2.2 _ (hA.1 2 (by decide)))
          have hc_A3_9 : xc G (A 3) (.inl (ty 0, 32, .inr (.inr (.inr (.inl dr))))) H_9 := y_3.kept (hs_9.2.2 _ (hA.1 3 (by decide)))
          have hc_A4_9 : xc G (A 4) (.inl (ty 2, 64, .inl bu)) H_9 := y_4.kept (hs_9.2.2 _ (hA.1 4 (by decide)))
          have hc_A5_9 : xc G (A 5) (.inl (ty 0, 4, .inr (.inr (.inr (.inl wi))))) H_9 := y_5.kept (hs_9.2.2 _ (hA.1 5 (by decide)))
          have hc_A6_9 : xc G (A 6) (.inl (ty 0, 4, .inr (.inr (.inr (.inl hi))))) H_9 := y_6.kept (hs_9.2.2 _ (hA.1 6 (by decide)))
          have hc_A7_9 : xc G (A 7) (.inl (ty 1, 4, .inl fc)) H_9 := y_7.kept (hs_9.2.2 _ (hA.1 7 (by decide)))
          have hc_A8_9 : xc G (A 8) (.inl (ty 0, 128, .inr (.inr (.inr (.inl fa))))) H_9 := y_8.kept (hs_9.2.2 _ (hA.1 8 (by decide)))
          have hc_A9_9 : xc G (A 9) (.inl (ty 1, 8, .inl lo)) H_9 := y_9.kept (hs_9.2.2 _ (hA.1 9 (by decide)))
          have hc_A10_9 : xc G (A 10) (.inl (ty 1, 8, .inl la)) H_9 := y_10.kept (hs_9.2.2 _ (hA.1 10 (by decide)))
          have hfr_9 : xRfr m0 A H H_9 := xRfr.put0 xRfr.rf hs_9
          refine lv_aload_n hx hb dX7_butt_29 rfl (lv_at hl 0 rfl) ?_
          refine va_get (D := G) (cl := vwCl) (ci := 8) (v := .int (nI 0)) (C := RX7) (T := TX7) (N := 18) hx hb (hts d0) in_X7_butt_X7 hown hK.1 (x1 hc_9) 0 rfl rfl 0 (by decide) (hts d0 _ hw_X7_butt_2) (fun _ h9 => h9) rfl dX7_butt_30 ?_
          refine lv_if_le (tgt := 38) hx hb dX7_butt_33 (by decide) (fun _ => ?_) (fun h9 => absurd (by decide) h9)
          have J_11 : ∀ (y : Int32) (locs : List Loc) (d0 : Drawn) (ls : Array Slot), y = (xP (¬ bu (8 * x9 + f9) = on)) → va_S (xA b0) s.heap H_9 locs → s.drawn.sameBut d0 lw_cs → lv_has ls 5 [(0, .ref m0), (1, .int (nI x9)), (2, .int (nI f9)), (3, .int (on))] → W p l e rm_X7_butt (s.setDrawn d0) m [Value.ref m0, Value.int ((nI x9)), Value.int ((nI f9)), Value.int (on)].toArray below meth c H_9 locs (0 + rm_X7_noStrip.cells) (0 + rm_X7_noStrip.slots) (xMQ below (fun v H1 => ∃ (T : Int32) (bu1 : Nat → Int32), xRef G ty m0 A T F R pl un co dr bu1 nb wi hi fc fa lo la px py pz H1 ∧ xRfr m0 A H H1 ∧ ∃ z : Int32, v = some (.int z) ∧ ((T = nI 0 ∧ (vp_in (nI x9) (R - 1) ∧ vp_in (nI f9) F) ∧ z = xP (¬ bu (8 * (nI x9).toNatClampNeg + (nI f9).toNatClampNeg) = on) ∧ bu1 = upd bu (8 * (nI x9).toNatClampNeg + (nI f9).toNatClampNeg) on) ∨ (T = nI 1 ∧ ¬ (vp_in (nI x9) (R - 1) ∧ vp_in (nI f9) F) ∧ bu1 = bu))) (fun _ _ => False) [.ref m0, .int ((nI x9)), .int ((nI f9)), .int (on)].toArray s rm_X7_butt b0) (F0 m 58 ls [.int (y)]) := by
            intro y locs d0 ls hP_11 hS hd0 hl
            subst hP_11
            refine lv_istore (lv' := [(4, .int ((xP (¬ bu (8 * x9 + f9) = on)))), (0, .ref m0), (1, .int (nI x9)), (2, .int (nI f9)), (3, .int (on))]) hx hb dX7_butt_58 hl (by decide) rfl (fun ls hl => ?_)
            refine lv_aload_n hx hb dX7_butt_60 rfl (lv_at hl 1 rfl) ?_
            refine va_get (D := G) (cl := vwCl) (ci := 8) (v := .ref (A 4)) (C := RX7) (T := TX7) (N := 18) hx hb (hts d0) in_X7_butt_X7 hown hK.1 (x1 hc_9) 0 rfl rfl 7 (by decide) (hts d0 _ hw_X7_butt_3) (fun _ h9 => h9) rfl dX7_butt_61 ?_
            refine lv_bipush (v := nI 8) hx hb dX7_butt_64 (by decide) ?_
            refine lv_iload_n hx hb dX7_butt_66 rfl (lv_at hl 2 rfl) ?_
            refine ximulN hx hb dX7_butt_67 ?_
            refine lv_iload_n hx hb dX7_butt_68 rfl (lv_at hl 3 rfl) ?_
            refine xiaddN hx hb dX7_butt_69 ?_
            refine lv_iload_n hx hb dX7_butt_70 rfl (lv_at hl 4 rfl) ?_
            refine xzastN (s := s.setDrawn d0) (j := (8 * x9) + f9) (x := on) hx hb hK.1 2 hc_A4_9 hS (hB.2 4 (by decide)) rfl (xix_of (by omega) (by omega)) (zNar hon) dX7_butt_71 (fun H_12 locs_12 hs_12 hS => ?_)
            have hc_12 : xc G (A 4) (.inl (ty 2, 64, .inl ((upd bu ((8 * x9) + f9) on)))) H_12 := hs_12.1
            have hc_m0_12 : xc G m0 (.inr (8, [.int (nI 0), .int (nI F), .int (nI R), .ref (A 0), .ref (A 1), .ref (A 2), .ref (A 3), .ref (A 4), .int (nI nb), .ref (A 5), .ref (A 6), .ref (A 7), .ref (A 8), .ref (A 9), .ref (A 10), .double px, .double py, .double pz])) H_12 := hc_9.kept (hs_12.2.2 _ (Ne.symm (hA.1 4 (by decide))))
            have hc_A0_12 : xc G (A 0) (.inl (ty 0, 192, .inr (.inr (.inr (.inl pl))))) H_12 := hc_A0_9.kept (hs_12.2.2 _ (fun z => absurd (hA.2 0 4 (by decide) (by decide) z) (by decide)))
            have hc_A1_12 : xc G (A 1) (.inl (ty 2, 8, .inl un)) H_12 := hc_A1_9.kept (hs_12.2.2 _ (fun z => absurd (hA.2 1 4 (by decide) (by decide) z) (by decide)))
            have hc_A2_12 : xc G (A 2) (.inl (ty 0, 256, .inr (.inr (.inr (.inl co))))) H_12 := hc_A2_9.kept (hs_12.2.2 _ (fun z => absurd (hA.2 2 4 (by decide) (by decide) z) (by decide)))
            have hc_A3_12 : xc G (A 3) (.inl (ty 0, 32, .inr (.inr (.inr (.inl dr))))) H_12 := hc_A3_9.kept (hs_12.2.2 _ (fun z => absurd (hA.2 3 4 (by decide) (by decide) z) (by decide)))
            have hc_A5_12 : xc G (A 5) (.inl (ty 0, 4, .inr (.inr (.inr (.inl wi))))) H_12 := hc_A5_9.kept (hs_12.2.2 _ (fun z => absurd (hA.2 5 4 (by decide) (by decide) z) (by decide)))
            have hc_A6_12 : xc G (A 6) (.inl (ty 0, 4, .inr (.inr (.inr (.inl hi))))) H_12 := hc_A6_9.kept (hs_12.2.2 _ (fun z => absurd (hA.2 6 4 (by decide) (by decide) z) (by decide)))
            have hc_A7_12 : xc G (A 7) (.inl (ty 1, 4, .inl fc)) H_12 := hc_A7_9.kept (hs_12.2.2 _ (fun z => absurd (hA.2 7 4 (by decide) (by decide) z) (by decide)))
            have hc_A8_12 : xc G (A 8) (.inl (ty 0, 128, .inr (.inr (.inr (.inl fa))))) H_12 := hc_A8_9.kept (hs_12.2.2 _ (fun z => absurd (hA.2 8 4 (by decide) (by decide) z) (by decide)))
            have hc_A9_12 : xc G (A 9) (.inl (ty 1, 8, .inl lo)) H_12 := hc_A9_9.kept (hs_12.2.2 _ (fun z => absurd (hA.2 9 4 (by decide) (by decide) z) (by decide)))
            have hc_A10_12 : xc G (A 10) (.inl (ty 1, 8, .inl la)) H_12 := hc_A10_9.kept (hs_12.2.2 _ (fun z => absurd (hA.2 10 4 (by decide) (by decide) z) (by decide)))
            have hfr_12 : xRfr m0 A H H_12 := xRfr.putA hfr_9 4 (by decide) hs_12
            refine lv_iload hx hb dX7_butt_72 (lv_at hl 0 rfl) ?_
            exact xzret (xP_nz _) hd0 hx hb hr hlocks hS (Nat.le_of_ble_eq_true rfl) (Nat.le_of_ble_eq_true rfl) dX7_butt_74 ⟨nI 0, _, ⟨hc_m0_12, hc_A0_12, hc_A1_12, hc_A2_12, hc_A3_12, hc_12, hc_A5_12, hc_A6_12, hc_A7_12, hc_A8_12, hc_A9_12, hc_A10_12⟩, hfr_12, _, rfl, Or.inl ⟨rfl, z9, by rw [nN_nI (by omega), nN_nI (by omega)]; exact ⟨rfl, rfl⟩⟩⟩
          refine lv_aload_n hx hb dX7_butt_38 rfl (lv_at hl 0 rfl) ?_
          refine va_get (D := G) (cl := vwCl) (ci := 8) (v := .ref (A 4)) (C := RX7) (T := TX7) (N := 18) hx hb (hts d0) in_X7_butt_X7 hown hK.1 (x1 hc_9) 0 rfl rfl 7 (by decide) (hts d0 _ hw_X7_butt_3) (fun _ h9 => h9) rfl dX7_butt_39 ?_
          refine lv_bipush (v := nI 8) hx hb dX7_butt_42 (by decide) ?_
          refine lv_iload_n hx hb dX7_butt_44 rfl (lv_at hl 1 rfl) ?_
          refine ximulN hx hb dX7_butt_45 ?_
          refine lv_iload_n hx hb dX7_butt_46 rfl (lv_at hl 2 rfl) ?_
          refine xiaddN hx hb dX7_butt_47 ?_
          refine xzald (j := (8 * x9) + f9) hx hb hK.1 2 hc_A4_9 rfl (xix_of (by omega) (by omega)) dX7_butt_48 ?_
          refine lv_iload_n hx hb dX7_butt_49 rfl (lv_at hl 3 rfl) ?_
          refine lv_icmp_eq (tgt := 57) hx hb dX7_butt_50 (by decide) (fun c_13 => ?_) (fun c_13 => ?_)
          · refine lv_iconst (v := nI 0) hx hb dX7_butt_57 (by decide) ?_
            exact J_11 _ _ d0 ls (xP_f (fun z => z c_13)).symm hS hd0 (lv_sub hl [0, 1, 2, 3] rfl)
          · refine lv_iconst (v := nI 1) hx hb dX7_butt_53 (by decide) ?_
            refine lv_goto (tgt := 58) hx hb dX7_butt_54 (by decide) ?_
            exact J_11 _ _ d0 ls (xP_t c_13).symm hS hd0 (lv_sub hl [0, 1, 2, 3] rfl)
        · refine lv_iconst (v := nI 1) hx hb dX7_butt_21 (by decide) ?_
          refine lv_goto (tgt := 26) hx hb dX7_butt_22 (by decide) ?_
          refine xput (G := G) (ci := 8) (v := .int (nI 1)) (ty := .int) (C := RX7) (T := TX7) (N := 18) hx hb (hts d0) in_X7_butt_X7 tyX7 tyX7_ok nmX7 hown hK.1 y_o hS hB.1 rfl 0 (by decide) (hts d0 _ hw_X7_butt_2) (fun _ h9 => h9) rfl (by decide +kernel) rfl rfl (Nat.le_of_ble_eq_true rfl) dX7_butt_26 (fun H_14 locs_14 hs_14 hS => ?_)
          have hc_14 : xc G m0 (.inr (8, [.int (nI 1), .int (nI F), .int (nI R), .ref (A 0), .ref (A 1), .ref (A 2), .ref (A 3), .ref (A 4), .int (nI nb), .ref (A 5), .ref (A 6), .ref (A 7), .ref (A 8), .ref (A 9), .ref (A 10), .double px, .double py, .double pz])) H_14 := hs_14.1
          have hc_A0_14 : xc G (A 0) (.inl (ty 0, 192, .inr (.inr (.inr (.inl pl))))) H_14 := y_0.kept (hs_14.2.2 _ (hA.1 0 (by decide)))
          have hc_A1_14 : xc G (A 1) (.inl (ty 2, 8, .inl un)) H_14 := y_1.kept (hs_14.2.2 _ (hA.1 1 (by decide)))
          have hc_A2_14 : xc G (A 2) (.inl (ty 0, 256, .inr (.inr (.inr (.inl co))))) H_14 := y_2.kept (hs_14.2.2 _ (hA.1 2 (by decide)))
          have hc_A3_14 : xc G (A 3) (.inl (ty 0, 32, .inr (.inr (.inr (.inl dr))))) H_14 := y_3.kept (hs_14.2.2 _ (hA.1 3 (by decide)))
          have hc_A4_14 : xc G (A 4) (.inl (ty 2, 64, .inl bu)) H_14 := y_4.kept (hs_14.2.2 _ (hA.1 4 (by decide)))
          have hc_A5_14 : xc G (A 5) (.inl (ty 0, 4, .inr (.inr (.inr (.inl wi))))) H_14 := y_5.kept (hs_14.2.2 _ (hA.1 5 (by decide)))
          have hc_A6_14 : xc G (A 6) (.inl (ty 0, 4, .inr (.inr (.inr (.inl hi))))) H_14 := y_6.kept (hs_14.2.2 _ (hA.1 6 (by decide)))
          have hc_A7_14 : xc G (A 7) (.inl (ty 1, 4, .inl fc)) H_14 := y_7.kept (hs_14.2.2 _ (hA.1 7 (by decide)))
          have hc_A8_14 : xc G (A 8) (.inl (ty 0, 128, .inr (.inr (.inr (.inl fa))))) H_14 := y_8.kept (hs_14.2.2 _ (hA.1 8 (by decide)))
          have hc_A9_14 : xc G (A 9) (.inl (ty 1, 8, .inl lo)) H_14 := y_9.kept (hs_14.2.2 _ (hA.1 9 (by decide)))
          have hc_A10_14 : xc G (A 10) (.inl (ty 1, 8, .inl la)) H_14 := y_10.kept (hs_14.2.2 _ (hA.1 10 (by decide)))
          have hfr_14 : xRfr m0 A H H_14 := xRfr.put0 xRfr.rf hs_14
          refine lv_aload_n hx hb dX7_butt_29 rfl (lv_at hl 0 rfl) ?_
          refine va_get (D := G) (cl := vwCl) (ci := 8) (v := .int (nI 1)) (C := RX7) (T := TX7) (N := 18) hx hb (hts d0) in_X7_butt_X7 hown hK.1 (x1 hc_14) 0 rfl rfl 0 (by decide) (hts d0 _ hw_X7_butt_2) (fun _ h9 => h9) rfl dX7_butt_30 ?_
          refine lv_if_le (tgt := 38) hx hb dX7_butt_33 (by decide) (fun h9 => absurd h9 (by decide)) (fun _ => ?_)
          refine lv_iconst (v := nI 0) hx hb dX7_butt_36 (by decide) ?_
          exact xzret (by decide) hd0 hx hb hr hlocks hS (Nat.le_of_ble_eq_true rfl) (Nat.le_of_ble_eq_true rfl) dX7_butt_37 ⟨nI 1, _, ⟨hc_14, hc_A0_14, hc_A1_14, hc_A2_14, hc_A3_14, hc_A4_14, hc_A5_14, hc_A6_14, hc_A7_14, hc_A8_14, hc_A9_14, hc_A10_14⟩, hfr_14, _, rfl, Or.inr ⟨rfl, fun z => xin_nlt c_8 (by omega) z.2, rfl⟩⟩
set_option maxRecDepth 20000 in
theorem ggX7_lies_X7_noStrip : GoodIn wsX7_lies wsX7_noStrip := goodIn_r _ [8, 9, 10, 11, 12, 13, 14, 15, 16, 17, 18, 19, 20, 21, 22, 23, 24, 25, 26, 27] (by decide +kernel) (by decide +kernel)
set_option maxRecDepth 20000 in
theorem gX7_lies_X7_noStrip : GoodIn wsX7_lies (wsV RX7 87 RX7 yX7_noStrip wsX7_noStrip) := goodIn_app (goodIn_of _ (by decide +kernel)) ggX7_lies_X7_noStrip
theorem dX7_lies_0 : decode cX7_lies 0 = .ok (.aload_n 0, 1) := by decide +kernel
theorem dX7_lies_1 : decode cX7_lies 1 = .ok (.aload_n 0, 1) := by decide +kernel
theorem dX7_lies_2 : decode cX7_lies 2 = .ok (.iload_n 1, 1) := by decide +kernel
theorem dX7_lies_3 : decode cX7_lies 3 = .ok (.invokevirtual 87, 3) := by decide +kernel
theorem dX7_lies_6 : decode cX7_lies 6 = .ok (.ifCond .ne 12, 3) := by decide +kernel
theorem dX7_lies_9 : decode cX7_lies 9 = .ok (.iload_n 2, 1) := by decide +kernel
theorem dX7_lies_10 : decode cX7_lies 10 = .ok (.ifCond .lt 8, 3) := by decide +kernel
theorem dX7_lies_13 : decode cX7_lies 13 = .ok (.iload_n 2, 1) := by decide +kernel
theorem dX7_lies_14 : decode cX7_lies 14 = .ok (.iconst 1, 1) := by decide +kernel
theorem dX7_lies_15 : decode cX7_lies 15 = .ok (.if_icmp .le 7, 3) := by decide +kernel
theorem dX7_lies_18 : decode cX7_lies 18 = .ok (.iconst 1, 1) := by decide +kernel
theorem dX7_lies_19 : decode cX7_lies 19 = .ok (.goto 4, 3) := by decide +kernel
theorem dX7_lies_22 : decode cX7_lies 22 = .ok (.iconst 0, 1) := by decide +kernel
theorem dX7_lies_23 : decode cX7_lies 23 = .ok (.putfield 52, 3) := by decide +kernel
theorem dX7_lies_26 : decode cX7_lies 26 = .ok (.aload_n 0, 1) := by decide +kernel
theorem dX7_lies_27 : decode cX7_lies 27 = .ok (.getfield 52, 3) := by decide +kernel
theorem dX7_lies_30 : decode cX7_lies 30 = .ok (.ifCond .le 7, 3) := by decide +kernel
theorem dX7_lies_33 : decode cX7_lies 33 = .ok (.iconst 0, 1) := by decide +kernel
theorem dX7_lies_34 : decode cX7_lies 34 = .ok (.goto 22, 3) := by decide +kernel
theorem dX7_lies_37 : decode cX7_lies 37 = .ok (.iload_n 2, 1) := by decide +kernel
theorem dX7_lies_38 : decode cX7_lies 38 = .ok (.ifCond .ne 12, 3) := by decide +kernel
theorem dX7_lies_41 : decode cX7_lies 41 = .ok (.aload_n 0, 1) := by decide +kernel
theorem dX7_lies_42 : decode cX7_lies 42 = .ok (.getfield 39, 3) := by decide +kernel
theorem dX7_lies_45 : decode cX7_lies 45 = .ok (.iload_n 1, 1) := by decide +kernel
theorem dX7_lies_46 : decode cX7_lies 46 = .ok (.iaload, 1) := by decide +kernel
theorem dX7_lies_47 : decode cX7_lies 47 = .ok (.goto 9, 3) := by decide +kernel
theorem dX7_lies_50 : decode cX7_lies 50 = .ok (.aload_n 0, 1) := by decide +kernel
theorem dX7_lies_51 : decode cX7_lies 51 = .ok (.getfield 42, 3) := by decide +kernel
theorem dX7_lies_54 : decode cX7_lies 54 = .ok (.iload_n 1, 1) := by decide +kernel
theorem dX7_lies_55 : decode cX7_lies 55 = .ok (.iaload, 1) := by decide +kernel
theorem dX7_lies_56 : decode cX7_lies 56 = .ok (.ireturn, 1) := by decide +kernel
abbrev rm_X7_lies : Room := { frames := 7, cells := 0, slots := 0, locals := 140 }
theorem hw_X7_lies_1 : (Cond.fieldLink RX7 52 "PlankUnrollModel" "thrown" "I") ∈ wsX7_lies := List.mem_of_getElem? (i := 1) rfl
theorem hw_X7_lies_2 : (Cond.fieldLink RX7 39 "PlankUnrollModel" "liesOn" "[I") ∈ wsX7_lies := List.mem_of_getElem? (i := 2) rfl
theorem hw_X7_lies_3 : (Cond.fieldLink RX7 42 "PlankUnrollModel" "liesAt" "[I") ∈ wsX7_lies := List.mem_of_getElem? (i := 3) rfl
theorem in_X7_lies_X7 : ∀ w ∈ wsX70, w ∈ wsX7_lies := by decide +kernel
set_option maxHeartbeats 4000000 in
set_option maxRecDepth 100000 in
/-- lies -/
theorem c_X7_lies {l : Launch} {G : va_G} {ty : Nat → ClassId} {b0 : Nat} {H : Heap} {x k : Int32} {m0 : Nat} {A : Nat → Nat} {th : Int32} {F R nb : Nat} {pl co dr wi hi fa : Nat → UInt64} {un bu fc lo la : Nat → Int32} {px py pz : UInt64} (hY : xRef G ty m0 A th F R pl un co dr bu nb wi hi fc fa lo la px py pz H) (hZ : xSz F R) (hA : xAp m0 A) (hB : xNw b0 m0 A) : xMet l yX7_lies wsX7_lies rm_X7_lies G ty b0 [.ref m0, .int (x), .int (k)] H (fun v H1 => ∃ T : Int32, xRef G ty m0 A T F R pl un co dr bu nb wi hi fc fa lo la px py pz H1 ∧ xRfr m0 A H H1 ∧ ∃ z : Int32, v = some (.int z) ∧ ((T = nI 0 ∧ (vp_in x (R - 1) ∧ vp_in k 2) ∧ z = (if k = 0 then lo x.toNatClampNeg else la x.toNatClampNeg)) ∨ (T = nI 1 ∧ ¬ (vp_in x (R - 1) ∧ vp_in k 2)))) (fun _ _ => False) := by
  refine xbody (cc := cX7_lies) (maxL := 3) (ret := (some .int)) (C := RX7) (lv := [(0, .ref m0), (1, .int (x)), (2, .int (k))]) (by decide) rfl rfl (Nat.le_of_ble_eq_true rfl) rfl ?_
  intro p e s m below meth c d0 hx hb hr hts hown hlocks hml hxt hnm0 hK hb0 hH0 hS hd0 ls hl
  obtain ⟨y_o, y_0, y_1, y_2, y_3, y_4, y_5, y_6, y_7, y_8, y_9, y_10⟩ := id hY
  obtain ⟨⟨zF2, zF8⟩, ⟨zR2, zR8⟩⟩ := id hZ
  refine lv_aload_n hx hb dX7_lies_0 rfl (lv_at hl 0 rfl) ?_
  refine lv_aload_n hx hb dX7_lies_1 rfl (lv_at hl 0 rfl) ?_
  refine lv_iload_n hx hb dX7_lies_2 rfl (lv_at hl 1 rfl) ?_
  have cw_1 := cwV (R := rm_X7_lies) (rm := rm_X7_noStrip) 1 (hts d0) gX7_lies_X7_noStrip rfl rfl rfl (by decide +kernel) ⟨Nat.le_of_ble_eq_true rfl, Nat.le_of_ble_eq_true rfl⟩
  refine xcall hd0 (xintoV (b := m0) (As := [.int (x)]) (rest := [.ref m0]) ⟨hx, hb, hml, hown, hts _⟩ cw_1 (va_recv hK.1 (x1 y_o) (ci := 8) (q0 := 0) rfl rfl) rfl rfl hl.1 rfl (lv_room (Nat.le_of_ble_eq_true rfl)) dX7_lies_3) (c_X7_noStrip (l := l) (G := G) (ty := ty) (b0 := b0) (⟨y_o, y_0, y_1, y_2, y_3, y_4, y_5, y_6, y_7, y_8, y_9, y_10⟩ : xRef G ty m0 A (th) F R pl un co dr bu nb wi hi fc fa lo la px py pz H) hZ) (xoweB cw_1.1) hK hb0 hS (Nat.le_of_ble_eq_true rfl) (Nat.le_of_ble_eq_true rfl) (fun E_1 ce_1 q9_1 H_1 locs_1 d0 hd0 hp_1 hS hce_1 hcv_1 hcl_1 => ?_) (fun v_1 H_1 locs_1 d0 hd0 hp_1 hS => ?_)
  · exact hp_1.elim
  · obtain ⟨rfl, rfl⟩ := hp_1
    show W p l e _ (s.setDrawn _) m _ below meth c _ _ _ _ _ (F0 m 6 ls [.int (xP (¬ vp_in x (R - 1))), .ref m0])
    refine lv_if_ne (tgt := 18) hx hb dX7_lies_6 (by decide) (fun c_2 => ?_) (fun c_2 => ?_)
    · refine lv_iconst (v := nI 1) hx hb dX7_lies_18 (by decide) ?_
      refine lv_goto (tgt := 23) hx hb dX7_lies_19 (by decide) ?_
      refine xput (G := G) (ci := 8) (v := .int (nI 1)) (ty := .int) (C := RX7) (T := TX7) (N := 18) hx hb (hts d0) in_X7_lies_X7 tyX7 tyX7_ok nmX7 hown hK.1 y_o hS hB.1 rfl 0 (by decide) (hts d0 _ hw_X7_lies_1) (fun _ h9 => h9) rfl (by decide +kernel) rfl rfl (Nat.le_of_ble_eq_true rfl) dX7_lies_23 (fun H_3 locs_3 hs_3 hS => ?_)
      have hc_3 : xc G m0 (.inr (8, [.int (nI 1), .int (nI F), .int (nI R), .ref (A 0), .ref (A 1), .ref (A 2), .ref (A 3), .ref (A 4), .int (nI nb), .ref (A 5), .ref (A 6), .ref (A 7), .ref (A 8), .ref (A 9), .ref (A 10), .double px, .double py, .double pz])) H_3 := hs_3.1
      have hc_A0_3 : xc G (A 0) (.inl (ty 0, 192, .inr (.inr (.inr (.inl pl))))) H_3 := y_0.kept (hs_3.2.2 _ (hA.1 0 (by decide)))
      have hc_A1_3 : xc G (A 1) (.inl (ty 2, 8, .inl un)) H_3 := y_1.kept (hs_3.2.2 _ (hA.1 1 (by decide)))
      have hc_A2_3 : xc G (A 2) (.inl (ty 0, 256, .inr (.inr (.inr (.inl co))))) H_3 := y_2.kept (hs_3.2.2 _ (hA.1 2 (by decide)))
      have hc_A3_3 : xc G (A 3) (.inl (ty 0, 32, .inr (.inr (.inr (.inl dr))))) H_3 := y_3.kept (hs_3.2.2 _ (hA.1 3 (by decide)))
      have hc_A4_3 : xc G (A 4) (.inl (ty 2, 64, .inl bu)) H_3 := y_4.kept (hs_3.2.2 _ (hA.1 4 (by decide)))
      have hc_A5_3 : xc G (A 5) (.inl (ty 0, 4, .inr (.inr (.inr (.inl wi))))) H_3 := y_5.kept (hs_3.2.2 _ (hA.1 5 (by decide)))
      have hc_A6_3 : xc G (A 6) (.inl (ty 0, 4, .inr (.inr (.inr (.inl hi))))) H_3 := y_6.kept (hs_3.2.2 _ (hA.1 6 (by decide)))
      have hc_A7_3 : xc G (A 7) (.inl (ty 1, 4, .inl fc)) H_3 := y_7.kept (hs_3.2.2 _ (hA.1 7 (by decide)))
      have hc_A8_3 : xc G (A 8) (.inl (ty 0, 128, .inr (.inr (.inr (.inl fa))))) H_3 := y_8.kept (hs_3.2.2 _ (hA.1 8 (by decide)))
      have hc_A9_3 : xc G (A 9) (.inl (ty 1, 8, .inl lo)) H_3 := y_9.kept (hs_3.2.2 _ (hA.1 9 (by decide)))
      have hc_A10_3 : xc G (A 10) (.inl (ty 1, 8, .inl la)) H_3 := y_10.kept (hs_3.2.2 _ (hA.1 10 (by decide)))
      have hfr_3 : xRfr m0 A H H_3 := xRfr.put0 xRfr.rf hs_3
      refine lv_aload_n hx hb dX7_lies_26 rfl (lv_at hl 0 rfl) ?_
      refine va_get (D := G) (cl := vwCl) (ci := 8) (v := .int (nI 1)) (C := RX7) (T := TX7) (N := 18) hx hb (hts d0) in_X7_lies_X7 hown hK.1 (x1 hc_3) 0 rfl rfl 0 (by decide) (hts d0 _ hw_X7_lies_1) (fun _ h9 => h9) rfl dX7_lies_27 ?_
      refine lv_if_le (tgt := 37) hx hb dX7_lies_30 (by decide) (fun h9 => absurd h9 (by decide)) (fun _ => ?_)
      refine lv_iconst (v := nI 0) hx hb dX7_lies_33 (by decide) ?_
      refine lv_goto (tgt := 56) hx hb dX7_lies_34 (by decide) ?_
      exact xiret hd0 hx hb hr hlocks hS (Nat.le_of_ble_eq_true rfl) (Nat.le_of_ble_eq_true rfl) dX7_lies_56 ⟨nI 1, ⟨hc_3, hc_A0_3, hc_A1_3, hc_A2_3, hc_A3_3, hc_A4_3, hc_A5_3, hc_A6_3, hc_A7_3, hc_A8_3, hc_A9_3, hc_A10_3⟩, hfr_3, _, rfl, Or.inr ⟨rfl, fun z => xP_ne.mp c_2 z.1⟩⟩
    · refine lv_iload_n hx hb dX7_lies_9 rfl (lv_at hl 2 rfl) ?_
      refine lv_if_lt (tgt := 18) hx hb dX7_lies_10 (by decide) (fun c_5 => ?_) (fun c_5 => ?_)
      · refine lv_iconst (v := nI 1) hx hb dX7_lies_18 (by decide) ?_
        refine lv_goto (tgt := 23) hx hb dX7_lies_19 (by decide) ?_
        refine xput (G := G) (ci := 8) (v := .int (nI 1)) (ty := .int) (C := RX7) (T := TX7) (N := 18) hx hb (hts d0) in_X7_lies_X7 tyX7 tyX7_ok nmX7 hown hK.1 y_o hS hB.1 rfl 0 (by decide) (hts d0 _ hw_X7_lies_1) (fun _ h9 => h9) rfl (by decide +kernel) rfl rfl (Nat.le_of_ble_eq_true rfl) dX7_lies_23 (fun H_6 locs_6 hs_6 hS => ?_)
        have hc_6 : xc G m0 (.inr (8, [.int (nI 1), .int (nI F), .int (nI R), .ref (A 0), .ref (A 1), .ref (A 2), .ref (A 3), .ref (A 4), .int (nI nb), .ref (A 5), .ref (A 6), .ref (A 7), .ref (A 8), .ref (A 9), .ref (A 10), .double px, .double py, .double pz])) H_6 := hs_6.1
        have hc_A0_6 : xc G (A 0) (.inl (ty 0, 192, .inr (.inr (.inr (.inl pl))))) H_6 := y_0.kept (hs_6.2.2 _ (hA.1 0 (by decide)))
        have hc_A1_6 : xc G (A 1) (.inl (ty 2, 8, .inl un)) H_6 := y_1.kept (hs_6.2.2 _ (hA.1 1 (by decide)))
        have hc_A2_6 : xc G (A 2) (.inl (ty 0, 256, .inr (.inr (.inr (.inl co))))) H_6 := y_2.kept (hs_6.2.2 _ (hA.1 2 (by decide)))
        have hc_A3_6 : xc G (A 3) (.inl (ty 0, 32, .inr (.inr (.inr (.inl dr))))) H_6 := y_3.kept (hs_6.2.2 _ (hA.1 3 (by decide)))
        have hc_A4_6 : xc G (A 4) (.inl (ty 2, 64, .inl bu)) H_6 := y_4.kept (hs_6.2.2 _ (hA.1 4 (by decide)))
        have hc_A5_6 : xc G (A 5) (.inl (ty 0, 4, .inr (.inr (.inr (.inl wi))))) H_6 := y_5.kept (hs_6.2.2 _ (hA.1 5 (by decide)))
        have hc_A6_6 : xc G (A 6) (.inl (ty 0, 4, .inr (.inr (.inr (.inl hi))))) H_6 := y_6.kept (hs_6.2.2 _ (hA.1 6 (by decide)))
        have hc_A7_6 : xc G (A 7) (.inl (ty 1, 4, .inl fc)) H_6 := y_7.kept (hs_6.2.2 _ (hA.1 7 (by decide)))
        have hc_A8_6 : xc G (A 8) (.inl (ty 0, 128, .inr (.inr (.inr (.inl fa))))) H_6 := y_8.kept (hs_6.2.2 _ (hA.1 8 (by decide)))
        have hc_A9_6 : xc G (A 9) (.inl (ty 1, 8, .inl lo)) H_6 := y_9.kept (hs_6.2.2 _ (hA.1 9 (by decide)))
        have hc_A10_6 : xc G (A 10) (.inl (ty 1, 8, .inl la)) H_6 := y_10.kept (hs_6.2.2 _ (hA.1 10 (by decide)))
        have hfr_6 : xRfr m0 A H H_6 := xRfr.put0 xRfr.rf hs_6
        refine lv_aload_n hx hb dX7_lies_26 rfl (lv_at hl 0 rfl) ?_
        refine va_get (D := G) (cl := vwCl) (ci := 8) (v := .int (nI 1)) (C := RX7) (T := TX7) (N := 18) hx hb (hts d0) in_X7_lies_X7 hown hK.1 (x1 hc_6) 0 rfl rfl 0 (by decide) (hts d0 _ hw_X7_lies_1) (fun _ h9 => h9) rfl dX7_lies_27 ?_
        refine lv_if_le (tgt := 37) hx hb dX7_lies_30 (by decide) (fun h9 => absurd h9 (by decide)) (fun _ => ?_)
        refine lv_iconst (v := nI 0) hx hb dX7_lies_33 (by decide) ?_
        refine lv_goto (tgt := 56) hx hb dX7_lies_34 (by decide) ?_
        exact xiret hd0 hx hb hr hlocks hS (Nat.le_of_ble_eq_true rfl) (Nat.le_of_ble_eq_true rfl) dX7_lies_56 ⟨nI 1, ⟨hc_6, hc_A0_6, hc_A1_6, hc_A2_6, hc_A3_6, hc_A4_6, hc_A5_6, hc_A6_6, hc_A7_6, hc_A8_6, hc_A9_6, hc_A10_6⟩, hfr_6, _, rfl, Or.inr ⟨rfl, fun z => xin_no0 c_5 z.2⟩⟩
      · refine lv_iload_n hx hb dX7_lies_13 rfl (lv_at hl 2 rfl) ?_
        refine lv_iconst (v := nI 1) hx hb dX7_lies_14 (by decide) ?_
        refine lv_icmp_le (tgt := 22) hx hb dX7_lies_15 (by decide) (fun c_8 => ?_) (fun c_8 => ?_)
        · have z9 : vp_in x (R - 1) ∧ vp_in k 2 := ⟨Classical.not_not.mp (xP_eq.mp c_2), xin_le c_5 c_8 (by decide)⟩
          have z_x := z9.1
          have z_k := z9.2
          obtain ⟨x9, hx9, ex9⟩ := vp_in_of z_x (by omega)
          obtain ⟨k9, hk9, ek9⟩ := vp_in_of z_k (by omega)
          subst ex9 ek9
          refine lv_iconst (v := nI 0) hx hb dX7_lies_22 (by decide) ?_
          refine xput (G := G) (ci := 8) (v := .int (nI 0)) (ty := .int) (C := RX7) (T := TX7) (N := 18) hx hb (hts d0) in_X7_lies_X7 tyX7 tyX7_ok nmX7 hown hK.1 y_o hS hB.1 rfl 0 (by decide) (hts d0 _ hw_X7_lies_1) (fun _ h9 => h9) rfl (by decide +kernel) rfl rfl (Nat.le_of_ble_eq_true rfl) dX7_lies_23 (fun H_9 locs_9 hs_9 hS => ?_)
          have hc_9 : xc G m0 (.inr (8, [.int (nI 0), .int (nI F), .int (nI R), .ref (A 0), .ref (A 1), .ref (A 2), .ref (A 3), .ref (A 4), .int (nI nb), .ref (A 5), .ref (A 6), .ref (A 7), .ref (A 8), .ref (A 9), .ref (A 10), .double px, .double py, .double pz])) H_9 := hs_9.1
          have hc_A0_9 : xc G (A 0) (.inl (ty 0, 192, .inr (.inr (.inr (.inl pl))))) H_9 := y_0.kept (hs_9.2.2 _ (hA.1 0 (by decide)))
          have hc_A1_9 : xc G (A 1) (.inl (ty 2, 8, .inl un)) H_9 := y_1.kept (hs_9.2.2 _ (hA.1 1 (by decide)))
          have hc_A2_9 : xc G (A 2) (.inl (ty 0, 256, .inr (.inr (.inr (.inl co))))) H_9 := y_2.kept (hs_9.2.2 _ (hA.1 2 (by decide)))
          have hc_A3_9 : xc G (A 3) (.inl (ty 0, 32, .inr (.inr (.inr (.inl dr))))) H_9 := y_3.kept (hs_9.2.2 _ (hA.1 3 (by decide)))
          have hc_A4_9 : xc G (A 4) (.inl (ty 2, 64, .inl bu)) H_9 := y_4.kept (hs_9.2.2 _ (hA.1 4 (by decide)))
          have hc_A5_9 : xc G (A 5) (.inl (ty 0, 4, .inr (.inr (.inr (.inl wi))))) H_9 := y_5.kept (hs_9.2.2 _ (hA.1 5 (by decide)))
          have hc_A6_9 : xc G (A 6) (.inl (ty 0, 4, .inr (.inr (.inr (.inl hi))))) H_9 := y_6.kept (hs_9.2.2 _ (hA.1 6 (by decide)))
          have hc_A7_9 : xc G (A 7) (.inl (ty 1, 4, .inl fc)) H_9 := y_7.kept (hs_9.2.2 _ (hA.1 7 (by decide)))
          have hc_A8_9 : xc G (A 8) (.inl (ty 0, 128, .inr (.inr (.inr (.inl fa))))) H_9 := y_8.kept (hs_9.2.2 _ (hA.1 8 (by decide)))
          have hc_A9_9 : xc G (A 9) (.inl (ty 1, 8, .inl lo)) H_9 := y_9.kept (hs_9.2.2 _ (hA.1 9 (by decide)))
          have hc_A10_9 : xc G (A 10) (.inl (ty 1, 8, .inl la)) H_9 := y_10.kept (hs_9.2.2 _ (hA.1 10 (by decide)))
          have hfr_9 : xRfr m0 A H H_9 := xRfr.put0 xRfr.rf hs_9
          refine lv_aload_n hx hb dX7_lies_26 rfl (lv_at hl 0 rfl) ?_
          refine va_get (D := G) (cl := vwCl) (ci := 8) (v := .int (nI 0)) (C := RX7) (T := TX7) (N := 18) hx hb (hts d0) in_X7_lies_X7 hown hK.1 (x1 hc_9) 0 rfl rfl 0 (by decide) (hts d0 _ hw_X7_lies_1) (fun _ h9 => h9) rfl dX7_lies_27 ?_
          refine lv_if_le (tgt := 37) hx hb dX7_lies_30 (by decide) (fun _ => ?_) (fun h9 => absurd (by decide) h9)
          refine lv_iload_n hx hb dX7_lies_37 rfl (lv_at hl 2 rfl) ?_
          refine lv_if_ne (tgt := 50) hx hb dX7_lies_38 (by decide) (fun c_11 => ?_) (fun c_11 => ?_)
          · refine lv_aload_n hx hb dX7_lies_50 rfl (lv_at hl 0 rfl) ?_
            refine va_get (D := G) (cl := vwCl) (ci := 8) (v := .ref (A 10)) (C := RX7) (T := TX7) (N := 18) hx hb (hts d0) in_X7_lies_X7 hown hK.1 (x1 hc_9) 0 rfl rfl 14 (by decide) (hts d0 _ hw_X7_lies_3) (fun _ h9 => h9) rfl dX7_lies_51 ?_
            refine lv_iload_n hx hb dX7_lies_54 rfl (lv_at hl 1 rfl) ?_
            refine xiald (j := x9) hx hb hK.1 1 hc_A10_9 rfl (xix_of (by omega) (by omega)) dX7_lies_55 ?_
            exact xiret hd0 hx hb hr hlocks hS (Nat.le_of_ble_eq_true rfl) (Nat.le_of_ble_eq_true rfl) dX7_lies_56 ⟨nI 0, ⟨hc_9, hc_A0_9, hc_A1_9, hc_A2_9, hc_A3_9, hc_A4_9, hc_A5_9, hc_A6_9, hc_A7_9, hc_A8_9, hc_A9_9, hc_A10_9⟩, hfr_9, _, rfl, Or.inl ⟨rfl, z9, by rw [if_neg c_11, nN_nI (by omega)]⟩⟩
          · refine lv_aload_n hx hb dX7_lies_41 rfl (lv_at hl 0 rfl) ?_
            refine va_get (D := G) (cl := vwCl) (ci := 8) (v := .ref (A 9)) (C := RX7) (T := TX7) (N := 18) hx hb (hts d0) in_X7_lies_X7 hown hK.1 (x1 hc_9) 0 rfl rfl 13 (by decide) (hts d0 _ hw_X7_lies_2) (fun _ h9 => h9) rfl dX7_lies_42 ?_
            refine lv_iload_n hx hb dX7_lies_45 rfl (lv_at hl 1 rfl) ?_
            refine xiald (j := x9) hx hb hK.1 1 hc_A9_9 rfl (xix_of (by omega) (by omega)) dX7_lies_46 ?_
            refine lv_goto (tgt := 56) hx hb dX7_lies_47 (by decide) ?_
            exact xiret hd0 hx hb hr hlocks hS (Nat.le_of_ble_eq_true rfl) (Nat.le_of_ble_eq_true rfl) dX7_lies_56 ⟨nI 0, ⟨hc_9, hc_A0_9, hc_A1_9, hc_A2_9, hc_A3_9, hc_A4_9, hc_A5_9, hc_A6_9, hc_A7_9, hc_A8_9, hc_A9_9, hc_A10_9⟩, hfr_9, _, rfl, Or.inl ⟨rfl, z9, by rw [if_pos c_11, nN_nI (by omega)]⟩⟩
        · refine lv_iconst (v := nI 1) hx hb dX7_lies_18 (by decide) ?_
          refine lv_goto (tgt := 23) hx hb dX7_lies_19 (by decide) ?_
          refine xput (G := G) (ci := 8) (v := .int (nI 1)) (ty := .int) (C := RX7) (T := TX7) (N := 18) hx hb (hts d0) in_X7_lies_X7 tyX7 tyX7_ok nmX7 hown hK.1 y_o hS hB.1 rfl 0 (by decide) (hts d0 _ hw_X7_lies_1) (fun _ h9 => h9) rfl (by decide +kernel) rfl rfl (Nat.le_of_ble_eq_true rfl) dX7_lies_23 (fun H_12 locs_12 hs_12 hS => ?_)
          have hc_12 : xc G m0 (.inr (8, [.int (nI 1), .int (nI F), .int (nI R), .ref (A 0), .ref (A 1), .ref (A 2), .ref (A 3), .ref (A 4), .int (nI nb), .ref (A 5), .ref (A 6), .ref (A 7), .ref (A 8), .ref (A 9), .ref (A 10), .double px, .double py, .double pz])) H_12 := hs_12.1
          have hc_A0_12 : xc G (A 0) (.inl (ty 0, 192, .inr (.inr (.inr (.inl pl))))) H_12 := y_0.kept (hs_12.2.2 _ (hA.1 0 (by decide)))
          have hc_A1_12 : xc G (A 1) (.inl (ty 2, 8, .inl un)) H_12 := y_1.kept (hs_12.2.2 _ (hA.1 1 (by decide)))
          have hc_A2_12 : xc G (A 2) (.inl (ty 0, 256, .inr (.inr (.inr (.inl co))))) H_12 := y_2.kept (hs_12.2.2 _ (hA.1 2 (by decide)))
          have hc_A3_12 : xc G (A 3) (.inl (ty 0, 32, .inr (.inr (.inr (.inl dr))))) H_12 := y_3.kept (hs_12.2.2 _ (hA.1 3 (by decide)))
          have hc_A4_12 : xc G (A 4) (.inl (ty 2, 64, .inl bu)) H_12 := y_4.kept (hs_12.2.2 _ (hA.1 4 (by decide)))
          have hc_A5_12 : xc G (A 5) (.inl (ty 0, 4, .inr (.inr (.inr (.inl wi))))) H_12 := y_5.kept (hs_12.2.2 _ (hA.1 5 (by decide)))
          have hc_A6_12 : xc G (A 6) (.inl (ty 0, 4, .inr (.inr (.inr (.inl hi))))) H_12 := y_6.kept (hs_12.2.2 _ (hA.1 6 (by decide)))
          have hc_A7_12 : xc G (A 7) (.inl (ty 1, 4, .inl fc)) H_12 := y_7.kept (hs_12.2.2 _ (hA.1 7 (by decide)))
          have hc_A8_12 : xc G (A 8) (.inl (ty 0, 128, .inr (.inr (.inr (.inl fa))))) H_12 := y_8.kept (hs_12.2.2 _ (hA.1 8 (by decide)))
          have hc_A9_12 : xc G (A 9) (.inl (ty 1, 8, .inl lo)) H_12 := y_9.kept (hs_12.2.2 _ (hA.1 9 (by decide)))
          have hc_A10_12 : xc G (A 10) (.inl (ty 1, 8, .inl la)) H_12 := y_10.kept (hs_12.2.2 _ (hA.1 10 (by decide)))
          have hfr_12 : xRfr m0 A H H_12 := xRfr.put0 xRfr.rf hs_12
          refine lv_aload_n hx hb dX7_lies_26 rfl (lv_at hl 0 rfl) ?_
          refine va_get (D := G) (cl := vwCl) (ci := 8) (v := .int (nI 1)) (C := RX7) (T := TX7) (N := 18) hx hb (hts d0) in_X7_lies_X7 hown hK.1 (x1 hc_12) 0 rfl rfl 0 (by decide) (hts d0 _ hw_X7_lies_1) (fun _ h9 => h9) rfl dX7_lies_27 ?_
          refine lv_if_le (tgt := 37) hx hb dX7_lies_30 (by decide) (fun h9 => absurd h9 (by decide)) (fun _ => ?_)
          refine lv_iconst (v := nI 0) hx hb dX7_lies_33 (by decide) ?_
          refine lv_goto (tgt := 56) hx hb dX7_lies_34 (by decide) ?_
          exact xiret hd0 hx hb hr hlocks hS (Nat.le_of_ble_eq_true rfl) (Nat.le_of_ble_eq_true rfl) dX7_lies_56 ⟨nI 1, ⟨hc_12, hc_A0_12, hc_A1_12, hc_A2_12, hc_A3_12, hc_A4_12, hc_A5_12, hc_A6_12, hc_A7_12, hc_A8_12, hc_A9_12, hc_A10_12⟩, hfr_12, _, rfl, Or.inr ⟨rfl, fun z => xin_gt c_8 (by decide) z.2⟩⟩
set_option maxRecDepth 20000 in
theorem ggX7_areStaves_X7_between : GoodIn wsX7_areStaves wsX7_between := goodIn_r _ [6] (by decide +kernel) (by decide +kernel)
set_option maxRecDepth 20000 in
theorem gX7_areStaves_X7_between : GoodIn wsX7_areStaves (va_wsS RX7 61 yX7_between wsX7_between) := goodIn_app (goodIn_of _ (by decide +kernel)) ggX7_areStaves_X7_between
theorem dX7_areStaves_0 : decode cX7_areStaves 0 = .ok (.dload_n 0, 1) := by decide +kernel
theorem dX7_areStaves_1 : decode cX7_areStaves 1 = .ok (.ldc2_w 125, 3) := by decide +kernel
theorem dX7_areStaves_4 : decode cX7_areStaves 4 = .ok (.ldc2_w 59, 3) := by decide +kernel
theorem dX7_areStaves_7 : decode cX7_areStaves 7 = .ok (.invokestatic 61, 3) := by decide +kernel
theorem dX7_areStaves_10 : decode cX7_areStaves 10 = .ok (.ifCond .eq 18, 3) := by decide +kernel
theorem dX7_areStaves_13 : decode cX7_areStaves 13 = .ok (.dload_n 2, 1) := by decide +kernel
theorem dX7_areStaves_14 : decode cX7_areStaves 14 = .ok (.dconst 0, 1) := by decide +kernel
theorem dX7_areStaves_15 : decode cX7_areStaves 15 = .ok (.ldc2_w 59, 3) := by decide +kernel
theorem dX7_areStaves_18 : decode cX7_areStaves 18 = .ok (.invokestatic 61, 3) := by decide +kernel
theorem dX7_areStaves_21 : decode cX7_areStaves 21 = .ok (.ifCond .eq 7, 3) := by decide +kernel
theorem dX7_areStaves_24 : decode cX7_areStaves 24 = .ok (.iconst 1, 1) := by decide +kernel
theorem dX7_areStaves_25 : decode cX7_areStaves 25 = .ok (.goto 4, 3) := by decide +kernel
theorem dX7_areStaves_28 : decode cX7_areStaves 28 = .ok (.iconst 0, 1) := by decide +kernel
theorem dX7_areStaves_29 : decode cX7_areStaves 29 = .ok (.ireturn, 1) := by decide +kernel
abbrev rm_X7_areStaves : Room := { frames := 6, cells := 0, slots := 0, locals := 90 }
theorem hw_X7_areStaves_1 : (Cond.constantDouble RX7 125 (4593671619917905920)) ∈ wsX7_areStaves := List.mem_of_getElem? (i := 1) rfl
theorem hw_X7_areStaves_2 : (Cond.constantDouble RX7 59 (4652007308841189376)) ∈ wsX7_areStaves := List.mem_of_getElem? (i := 2) rfl
set_option maxHeartbeats 4000000 in
set_option maxRecDepth 100000 in
/-- whether staves may be so -/
theorem c_X7_areStaves {l : Launch} {G : va_G} {ty : Nat → ClassId} {b0 : Nat} {H : Heap} {x d ew ed : UInt64} (hx9 : vq x ew) (hd9 : vq d ed) : xMet l yX7_areStaves wsX7_areStaves rm_X7_areStaves G ty b0 [.double x, .double d] H (fun v H1 => H = H1 ∧ v = some (.int (xB (pStav ew ed)))) (fun _ _ => False) := by
  refine xbody (cc := cX7_areStaves) (maxL := 4) (ret := (some .boolean)) (C := RX7) (lv := [(0, .double x), (2, .double d)]) (by decide) rfl rfl (Nat.le_of_ble_eq_true rfl) rfl ?_
  intro p e s m below meth c d0 hx hb hr hts hown hlocks hml hxt hnm0 hK hb0 hH0 hS hd0 ls hl
  refine lv_dload_n hx hb dX7_areStaves_0 rfl (lv_at hl 0 rfl) ?_
  refine lv_ldc2d hx hb hown (hts d0 _ hw_X7_areStaves_1) dX7_areStaves_1 ?_
  refine lv_ldc2d hx hb hown (hts d0 _ hw_X7_areStaves_2) dX7_areStaves_4 ?_
  have cw_1 := va_cwS (R := rm_X7_areStaves) (rm := rm_X7_between) 3 (hts d0) gX7_areStaves_X7_between rfl rfl rfl (by decide +kernel) ⟨Nat.le_of_ble_eq_true rfl, Nat.le_of_ble_eq_true rfl⟩
  refine xcall hd0 (xintoS (As := [.double x, .double 4593671619917905920, .double 4652007308841189376]) (rest := []) ⟨hx, hb, hml, hown, hts _⟩ cw_1 rfl rfl hl.1 rfl (lv_room (Nat.le_of_ble_eq_true rfl)) dX7_areStaves_7) (c_X7_between (l := l) (G := G) (ty := ty) (b0 := b0) hx9 (vq_rf _) (vq_rf _)) (xoweB cw_1.1) hK hb0 hS (Nat.le_of_ble_eq_true rfl) (Nat.le_of_ble_eq_true rfl) (fun E_1 ce_1 q9_1 H_1 locs_1 d0 hd0 hp_1 hS hce_1 hcv_1 hcl_1 => ?_) (fun v_1 H_1 locs_1 d0 hd0 hp_1 hS => ?_)
  · exact hp_1.elim
  · obtain ⟨rfl, rfl⟩ := hp_1
    show W p l e _ (s.setDrawn _) m _ below meth c _ _ _ _ _ (F0 m 10 ls [.int (xB (pBetween ew 4593671619917905920 4652007308841189376))])
    refine lv_if_eq (tgt := 28) hx hb dX7_areStaves_10 (by decide) (fun c_2 => ?_) (fun c_2 => ?_)
    · refine lv_iconst (v := nI 0) hx hb dX7_areStaves_28 (by decide) ?_
      exact xzret (by decide) hd0 hx hb hr hlocks hS (Nat.le_of_ble_eq_true rfl) (Nat.le_of_ble_eq_true rfl) dX7_areStaves_29 ⟨rfl, by rw [pStav_f1 c_2]; rfl⟩
    · refine lv_dload_n hx hb dX7_areStaves_13 rfl (lv_at hl 1 rfl) ?_
      refine lv_dconst0 hx hb dX7_areStaves_14 ?_
      refine lv_ldc2d hx hb hown (hts d0 _ hw_X7_areStaves_2) dX7_areStaves_15 ?_
      have cw_3 := va_cwS (R := rm_X7_areStaves) (rm := rm_X7_between) 3 (hts d0) gX7_areStaves_X7_between rfl rfl rfl (by decide +kernel) ⟨Nat.le_of_ble_eq_true rfl, Nat.le_of_ble_eq_true rfl⟩
      refine xcall hd0 (xintoS (As := [.double d, .double FP.dconst0, .double 4652007308841189376]) (rest := []) ⟨hx, hb, hml, hown, hts _⟩ cw_3 rfl rfl hl.1 rfl (lv_room (Nat.le_of_ble_eq_true rfl)) dX7_areStaves_18) (c_X7_between (l := l) (G := G) (ty := ty) (b0 := b0) hd9 (vq_rf _) (vq_rf _)) (xoweB cw_3.1) hK hb0 hS (Nat.le_of_ble_eq_true rfl) (Nat.le_of_ble_eq_true rfl) (fun E_3 ce_3 q9_3 H_3 locs_3 d0 hd0 hp_3 hS hce_3 hcv_3 hcl_3 => ?_) (fun v_3 H_3 locs_3 d0 hd0 hp_3 hS => ?_)
      · exact hp_3.elim
      · obtain ⟨rfl, rfl⟩ := hp_3
        show W p l e _ (s.setDrawn _) m _ below meth c _ _ _ _ _ (F0 m 21 ls [.int (xB (pBetween ed FP.dconst0 4652007308841189376))])
        refine lv_if_eq (tgt := 28) hx hb dX7_areStaves_21 (by decide) (fun c_4 => ?_) (fun c_4 => ?_)
        · refine lv_iconst (v := nI 0) hx hb dX7_areStaves_28 (by decide) ?_
          exact xzret (by decide) hd0 hx hb hr hlocks hS (Nat.le_of_ble_eq_true rfl) (Nat.le_of_ble_eq_true rfl) dX7_areStaves_29 ⟨rfl, by rw [pStav_f2 c_4]; rfl⟩
        · refine lv_iconst (v := nI 1) hx hb dX7_areStaves_24 (by decide) ?_
          refine lv_goto (tgt := 29) hx hb dX7_areStaves_25 (by decide) ?_
          exact xzret (by decide) hd0 hx hb hr hlocks hS (Nat.le_of_ble_eq_true rfl) (Nat.le_of_ble_eq_true rfl) dX7_areStaves_29 ⟨rfl, by rw [pStav_t c_2 c_4]; rfl⟩
set_option maxRecDepth 20000 in
theorem ggX7_closes_X7_areStaves : GoodIn wsX7_closes wsX7_areStaves := goodIn_r _ [7, 8, 9, 10, 11, 6, 12] (by decide +kernel) (by decide +kernel)
set_option maxRecDepth 20000 in
theorem gX7_closes_X7_areStaves : GoodIn wsX7_closes (va_wsS RX7 136 yX7_areStaves wsX7_areStaves) := goodIn_app (goodIn_of _ (by decide +kernel)) ggX7_closes_X7_areStaves
theorem dX7_closes_0 : decode cX7_closes 0 = .ok (.aload_n 0, 1) := by decide +kernel
theorem dX7_closes_1 : decode cX7_closes 1 = .ok (.dload_n 2, 1) := by decide +kernel
theorem dX7_closes_2 : decode cX7_closes 2 = .ok (.dload 4, 2) := by decide +kernel
theorem dX7_closes_4 : decode cX7_closes 4 = .ok (.invokestatic 136, 3) := by decide +kernel
theorem dX7_closes_7 : decode cX7_closes 7 = .ok (.ifCond .eq 18, 3) := by decide +kernel
theorem dX7_closes_10 : decode cX7_closes 10 = .ok (.iload_n 1, 1) := by decide +kernel
theorem dX7_closes_11 : decode cX7_closes 11 = .ok (.iconst 1, 1) := by decide +kernel
theorem dX7_closes_12 : decode cX7_closes 12 = .ok (.if_icmp .lt 13, 3) := by decide +kernel
theorem dX7_closes_15 : decode cX7_closes 15 = .ok (.iload_n 1, 1) := by decide +kernel
theorem dX7_closes_16 : decode cX7_closes 16 = .ok (.ldc 142, 2) := by decide +kernel
theorem dX7_closes_18 : decode cX7_closes 18 = .ok (.if_icmp .gt 7, 3) := by decide +kernel
theorem dX7_closes_21 : decode cX7_closes 21 = .ok (.iconst 0, 1) := by decide +kernel
theorem dX7_closes_22 : decode cX7_closes 22 = .ok (.goto 4, 3) := by decide +kernel
theorem dX7_closes_25 : decode cX7_closes 25 = .ok (.iconst 1, 1) := by decide +kernel
theorem dX7_closes_26 : decode cX7_closes 26 = .ok (.putfield 52, 3) := by decide +kernel
theorem dX7_closes_29 : decode cX7_closes 29 = .ok (.aload_n 0, 1) := by decide +kernel
theorem dX7_closes_30 : decode cX7_closes 30 = .ok (.getfield 52, 3) := by decide +kernel
theorem dX7_closes_33 : decode cX7_closes 33 = .ok (.ifCond .le 7, 3) := by decide +kernel
theorem dX7_closes_36 : decode cX7_closes 36 = .ok (.dconst 0, 1) := by decide +kernel
theorem dX7_closes_37 : decode cX7_closes 37 = .ok (.goto 14, 3) := by decide +kernel
theorem dX7_closes_40 : decode cX7_closes 40 = .ok (.iload_n 1, 1) := by decide +kernel
theorem dX7_closes_41 : decode cX7_closes 41 = .ok (.i2d, 1) := by decide +kernel
theorem dX7_closes_42 : decode cX7_closes 42 = .ok (.dload_n 2, 1) := by decide +kernel
theorem dX7_closes_43 : decode cX7_closes 43 = .ok (.dmul, 1) := by decide +kernel
theorem dX7_closes_44 : decode cX7_closes 44 = .ok (.dload 4, 2) := by decide +kernel
theorem dX7_closes_46 : decode cX7_closes 46 = .ok (.ldc2_w 140, 3) := by decide +kernel
theorem dX7_closes_49 : decode cX7_closes 49 = .ok (.dmul, 1) := by decide +kernel
theorem dX7_closes_50 : decode cX7_closes 50 = .ok (.dsub, 1) := by decide +kernel
theorem dX7_closes_51 : decode cX7_closes 51 = .ok (.dreturn, 1) := by decide +kernel
abbrev rm_X7_closes : Room := { frames := 7, cells := 0, slots := 0, locals := 140 }
theorem hw_X7_closes_1 : (Cond.constant RX7 142 (100000)) ∈ wsX7_closes := List.mem_of_getElem? (i := 1) rfl
theorem hw_X7_closes_2 : (Cond.fieldLink RX7 52 "PlankUnrollModel" "thrown" "I") ∈ wsX7_closes := List.mem_of_getElem? (i := 2) rfl
theorem hw_X7_closes_3 : (Cond.constantDouble RX7 140 (4614256656552045848)) ∈ wsX7_closes := List.mem_of_getElem? (i := 3) rfl
theorem in_X7_closes_X7 : ∀ w ∈ wsX70, w ∈ wsX7_closes := by decide +kernel
set_option maxHeartbeats 4000000 in
set_option maxRecDepth 100000 in
/-- closes -/
theorem c_X7_closes {l : Launch} {G : va_G} {ty : Nat → ClassId} {b0 : Nat} {H : Heap} {n : Int32} {x d ew ed : UInt64} (hx9 : vq x ew) (hd9 : vq d ed) {m0 : Nat} {A : Nat → Nat} {th : Int32} {F R nb : Nat} {pl co dr wi hi fa : Nat → UInt64} {un bu fc lo la : Nat → Int32} {px py pz : UInt64} (hY : xRef G ty m0 A th F R pl un co dr bu nb wi hi fc fa lo la px py pz H) (hZ : xSz F R) (hA : xAp m0 A) (hB : xNw b0 m0 A) : xMet l yX7_closes wsX7_closes rm_X7_closes G ty b0 [.ref m0, .int (n), .double x, .double d] H (fun v H1 => ∃ T : Int32, xRef G ty m0 A T F R pl un co dr bu nb wi hi fc fa lo la px py pz H1 ∧ xRfr m0 A H H1 ∧ ∃ z : UInt64, v = some (.double z) ∧ ((T = nI 0 ∧ (pStav ew ed = true ∧ ¬ n < nI 1 ∧ ¬ nI 100000 < n) ∧ vq z (FP.dsub (FP.dmul (FP.i2d n) ew) (FP.dmul ed 4614256656552045848))) ∨ (T = nI 1 ∧ ¬ (pStav ew ed = true ∧ ¬ n < nI 1 ∧ ¬ nI 100000 < n)))) (fun _ _ => False) := by
  refine xbody (cc := cX7_closes) (maxL := 6) (ret := (some .double)) (C := RX7) (lv := [(0, .ref m0), (1, .int (n)), (2, .double x), (4, .double d)]) (by decide) rfl rfl (Nat.le_of_ble_eq_true rfl) rfl ?_
  intro p e s m below meth c d0 hx hb hr hts hown hlocks hml hxt hnm0 hK hb0 hH0 hS hd0 ls hl
  obtain ⟨y_o, y_0, y_1, y_2, y_3, y_4, y_5, y_6, y_7, y_8, y_9, y_10⟩ := id hY
  obtain ⟨⟨zF2, zF8⟩, ⟨zR2, zR8⟩⟩ := id hZ
  refine lv_aload_n hx hb dX7_closes_0 rfl (lv_at hl 0 rfl) ?_
  refine lv_dload_n hx hb dX7_closes_1 rfl (lv_at hl 2 rfl) ?_
  refine lv_dload hx hb dX7_closes_2 (lv_at hl 3 rfl) ?_
  have cw_1 := va_cwS (R := rm_X7_closes) (rm := rm_X7_areStaves) 2 (hts d0) gX7_closes_X7_areStaves rfl rfl rfl (by decide +kernel) ⟨Nat.le_of_ble_eq_true rfl, Nat.le_of_ble_eq_true rfl⟩
  refine xcall hd0 (xintoS (As := [.double x, .double d]) (rest := [.ref m0]) ⟨hx, hb, hml, hown, hts _⟩ cw_1 rfl rfl hl.1 rfl (lv_room (Nat.le_of_ble_eq_true rfl)) dX7_closes_4) (c_X7_areStaves (l := l) (G := G) (ty := ty) (b0 := b0) hx9 hd9) (xoweB cw_1.1) hK hb0 hS (Nat.le_of_ble_eq_true rfl) (Nat.le_of_ble_eq_true rfl) (fun E_1 ce_1 q9_1 H_1 locs_1 d0 hd0 hp_1 hS hce_1 hcv_1 hcl_1 => ?_) (fun v_1 H_1 locs_1 d0 hd0 hp_1 hS => ?_)
  · exact hp_1.elim
  · obtain ⟨rfl, rfl⟩ := hp_1
    show W p l e _ (s.setDrawn _) m _ below meth c _ _ _ _ _ (F0 m 7 ls [.int (xB (pStav ew ed)), .ref m0])
    refine lv_if_eq (tgt := 25) hx hb dX7_closes_7 (by decide) (fun c_2 => ?_) (fun c_2 => ?_)
    · refine lv_iconst (v := nI 1) hx hb dX7_closes_25 (by decide) ?_
      refine xput (G := G) (ci := 8) (v := .int (nI 1)) (ty := .int) (C := RX7) (T := TX7) (N := 18) hx hb (hts d0) in_X7_closes_X7 tyX7 tyX7_ok nmX7 hown hK.1 y_o hS hB.1 rfl 0 (by decide) (hts d0 _ hw_X7_closes_2) (fun _ h9 => h9) rfl (by decide +kernel) rfl rfl (Nat.le_of_ble_eq_true rfl) dX7_closes_26 (fun H_3 locs_3 hs_3 hS => ?_)
      have hc_3 : xc G m0 (.inr (8, [.int (nI 1), .int (nI F), .int (nI R), .ref (A 0), .ref (A 1), .ref (A 2), .ref (A 3), .ref (A 4), .int (nI nb), .ref (A 5), .ref (A 6), .ref (A 7), .ref (A 8), .ref (A 9), .ref (A 10), .double px, .double py, .double pz])) H_3 := hs_3.1
      have hc_A0_3 : xc G (A 0) (.inl (ty 0, 192, .inr (.inr (.inr (.inl pl))))) H_3 := y_0.kept (hs_3.2.2 _ (hA.1 0 (by decide)))
      have hc_A1_3 : xc G (A 1) (.inl (ty 2, 8, .inl un)) H_3 := y_1.kept (hs_3.2.2 _ (hA.1 1 (by decide)))
      have hc_A2_3 : xc G (A 2) (.inl (ty 0, 256, .inr (.inr (.inr (.inl co))))) H_3 := y_2.kept (hs_3.2.2 _ (hA.1 2 (by decide)))
      have hc_A3_3 : xc G (A 3) (.inl (ty 0, 32, .inr (.inr (.inr (.inl dr))))) H_3 := y_3.kept (hs_3.2.2 _ (hA.1 3 (by decide)))
      have hc_A4_3 : xc G (A 4) (.inl (ty 2, 64, .inl bu)) H_3 := y_4.kept (hs_3.2.2 _ (hA.1 4 (by decide)))
      have hc_A5_3 : xc G (A 5) (.inl (ty 0, 4, .inr (.inr (.inr (.inl wi))))) H_3 := y_5.kept (hs_3.2.2 _ (hA.1 5 (by decide)))
      have hc_A6_3 : xc G (A 6) (.inl (ty 0, 4, .inr (.inr (.inr (.inl hi))))) H_3 := y_6.kept (hs_3.2.2 _ (hA.1 6 (by decide)))
      have hc_A7_3 : xc G (A 7) (.inl (ty 1, 4, .inl fc)) H_3 := y_7.kept (hs_3.2.2 _ (hA.1 7 (by decide)))
      have hc_A8_3 : xc G (A 8) (.inl (ty 0, 128, .inr (.inr (.inr (.inl fa))))) H_3 := y_8.kept (hs_3.2.2 _ (hA.1 8 (by decide)))
      have hc_A9_3 : xc G (A 9) (.inl (ty 1, 8, .inl lo)) H_3 := y_9.kept (hs_3.2.2 _ (hA.1 9 (by decide)))
      have hc_A10_3 : xc G (A 10) (.inl (ty 1, 8, .inl la)) H_3 := y_10.kept (hs_3.2.2 _ (hA.1 10 (by decide)))
      have hfr_3 : xRfr m0 A H H_3 := xRfr.put0 xRfr.rf hs_3
      refine lv_aload_n hx hb dX7_closes_29 rfl (lv_at hl 0 rfl) ?_
      refine va_get (D := G) (cl := vwCl) (ci := 8) (v := .int (nI 1)) (C := RX7) (T := TX7) (N := 18) hx hb (hts d0) in_X7_closes_X7 hown hK.1 (x1 hc_3) 0 rfl rfl 0 (by decide) (hts d0 _ hw_X7_closes_2) (fun _ h9 => h9) rfl dX7_closes_30 ?_
      refine lv_if_le (tgt := 40) hx hb dX7_closes_33 (by decide) (fun h9 => absurd h9 (by decide)) (fun _ => ?_)
      refine lv_dconst0 hx hb dX7_closes_36 ?_
      refine lv_goto (tgt := 51) hx hb dX7_closes_37 (by decide) ?_
      exact xdret hd0 hx hb hr hlocks hS (Nat.le_of_ble_eq_true rfl) (Nat.le_of_ble_eq_true rfl) dX7_closes_51 ⟨nI 1, ⟨hc_3, hc_A0_3, hc_A1_3, hc_A2_3, hc_A3_3, hc_A4_3, hc_A5_3, hc_A6_3, hc_A7_3, hc_A8_3, hc_A9_3, hc_A10_3⟩, hfr_3, _, rfl, Or.inr ⟨rfl, fun z => xtf z.1 (xB_f c_2)⟩⟩
    · refine lv_iload_n hx hb dX7_closes_10 rfl (lv_at hl 1 rfl) ?_
      refine lv_iconst (v := nI 1) hx hb dX7_closes_11 (by decide) ?_
      refine lv_icmp_lt (tgt := 25) hx hb dX7_closes_12 (by decide) (fun c_5 => ?_) (fun c_5 => ?_)
      · refine lv_iconst (v := nI 1) hx hb dX7_closes_25 (by decide) ?_
        refine xput (G := G) (ci := 8) (v := .int (nI 1)) (ty := .int) (C := RX7) (T := TX7) (N := 18) hx hb (hts d0) in_X7_closes_X7 tyX7 tyX7_ok nmX7 hown hK.1 y_o hS hB.1 rfl 0 (by decide) (hts d0 _ hw_X7_closes_2) (fun _ h9 => h9) rfl (by decide +kernel) rfl rfl (Nat.le_of_ble_eq_true rfl) dX7_closes_26 (fun H_6 locs_6 hs_6 hS => ?_)
        have hc_6 : xc G m0 (.inr (8, [.int (nI 1), .int (nI F), .int (nI R), .ref (A 0), .ref (A 1), .ref (A 2), .ref (A 3), .ref (A 4), .int (nI nb), .ref (A 5), .ref (A 6), .ref (A 7), .ref (A 8), .ref (A 9), .ref (A 10), .double px, .double py, .double pz])) H_6 := hs_6.1
        have hc_A0_6 : xc G (A 0) (.inl (ty 0, 192, .inr (.inr (.inr (.inl pl))))) H_6 := y_0.kept (hs_6.2.2 _ (hA.1 0 (by decide)))
        have hc_A1_6 : xc G (A 1) (.inl (ty 2, 8, .inl un)) H_6 := y_1.kept (hs_6.2.2 _ (hA.1 1 (by decide)))
        have hc_A2_6 : xc G (A 2) (.inl (ty 0, 256, .inr (.inr (.inr (.inl co))))) H_6 := y_2.kept (hs_6.2.2 _ (hA.1 2 (by decide)))
        have hc_A3_6 : xc G (A 3) (.inl (ty 0, 32, .inr (.inr (.inr (.inl dr))))) H_6 := y_3.kept (hs_6.2.2 _ (hA.1 3 (by decide)))
        have hc_A4_6 : xc G (A 4) (.inl (ty 2, 64, .inl bu)) H_6 := y_4.kept (hs_6.2.2 _ (hA.1 4 (by decide)))
        have hc_A5_6 : xc G (A 5) (.inl (ty 0, 4, .inr (.inr (.inr (.inl wi))))) H_6 := y_5.kept (hs_6.2.2 _ (hA.1 5 (by decide)))
        have hc_A6_6 : xc G (A 6) (.inl (ty 0, 4, .inr (.inr (.inr (.inl hi))))) H_6 := y_6.kept (hs_6.2.2 _ (hA.1 6 (by decide)))
        have hc_A7_6 : xc G (A 7) (.inl (ty 1, 4, .inl fc)) H_6 := y_7.kept (hs_6.2.2 _ (hA.1 7 (by decide)))
        have hc_A8_6 : xc G (A 8) (.inl (ty 0, 128, .inr (.inr (.inr (.inl fa))))) H_6 := y_8.kept (hs_6.2.2 _ (hA.1 8 (by decide)))
        have hc_A9_6 : xc G (A 9) (.inl (ty 1, 8, .inl lo)) H_6 := y_9.kept (hs_6.2.2 _ (hA.1 9 (by decide)))
        have hc_A10_6 : xc G (A 10) (.inl (ty 1, 8, .inl la)) H_6 := y_10.kept (hs_6.2.2 _ (hA.1 10 (by decide)))
        have hfr_6 : xRfr m0 A H H_6 := xRfr.put0 xRfr.rf hs_6
        refine lv_aload_n hx hb dX7_closes_29 rfl (lv_at hl 0 rfl) ?_
        refine va_get (D := G) (cl := vwCl) (ci := 8) (v := .int (nI 1)) (C := RX7) (T := TX7) (N := 18) hx hb (hts d0) in_X7_closes_X7 hown hK.1 (x1 hc_6) 0 rfl rfl 0 (by decide) (hts d0 _ hw_X7_closes_2) (fun _ h9 => h9) rfl dX7_closes_30 ?_
        refine lv_if_le (tgt := 40) hx hb dX7_closes_33 (by decide) (fun h9 => absurd h9 (by decide)) (fun _ => ?_)
        refine lv_dconst0 hx hb dX7_closes_36 ?_
        refine lv_goto (tgt := 51) hx hb dX7_closes_37 (by decide) ?_
        exact xdret hd0 hx hb hr hlocks hS (Nat.le_of_ble_eq_true rfl) (Nat.le_of_ble_eq_true rfl) dX7_closes_51 ⟨nI 1, ⟨hc_6, hc_A0_6, hc_A1_6, hc_A2_6, hc_A3_6, hc_A4_6, hc_A5_6, hc_A6_6, hc_A7_6, hc_A8_6, hc_A9_6, hc_A10_6⟩, hfr_6, _, rfl, Or.inr ⟨rfl, fun z => z.2.1 c_5⟩⟩
      · refine lv_iload_n hx hb dX7_closes_15 rfl (lv_at hl 1 rfl) ?_
        refine lv_ldc (v := nI 100000) hx hb hown (hts d0 _ hw_X7_closes_1) dX7_closes_16 ?_
        refine lv_icmp_gt (tgt := 25) hx hb dX7_closes_18 (by decide) (fun c_8 => ?_) (fun c_8 => ?_)
        · refine lv_iconst (v := nI 1) hx hb dX7_closes_25 (by decide) ?_
          refine xput (G := G) (ci := 8) (v := .int (nI 1)) (ty := .int) (C := RX7) (T := TX7) (N := 18) hx hb (hts d0) in_X7_closes_X7 tyX7 tyX7_ok nmX7 hown hK.1 y_o hS hB.1 rfl 0 (by decide) (hts d0 _ hw_X7_closes_2) (fun _ h9 => h9) rfl (by decide +kernel) rfl rfl (Nat.le_of_ble_eq_true rfl) dX7_closes_26 (fun H_9 locs_9 hs_9 hS => ?_)
          have hc_9 : xc G m0 (.inr (8, [.int (nI 1), .int (nI F), .int (nI R), .ref (A 0), .ref (A 1), .ref (A 2), .ref (A 3), .ref (A 4), .int (nI nb), .ref (A 5), .ref (A 6), .ref (A 7), .ref (A 8), .ref (A 9), .ref (A 10), .double px, .double py, .double pz])) H_9 := hs_9.1
          have hc_A0_9 : xc G (A 0) (.inl (ty 0, 192, .inr (.inr (.inr (.inl pl))))) H_9 := y_0.kept (hs_9.2.2 _ (hA.1 0 (by decide)))
          have hc_A1_9 : xc G (A 1) (.inl (ty 2, 8, .inl un)) H_9 := y_1.kept (hs_9.2.2 _ (hA.1 1 (by decide)))
          have hc_A2_9 : xc G (A 2) (.inl (ty 0, 256, .inr (.inr (.inr (.inl co))))) H_9 := y_2.kept (hs_9.2.2 _ (hA.1 2 (by decide)))
          have hc_A3_9 : xc G (A 3) (.inl (ty 0, 32, .inr (.inr (.inr (.inl dr))))) H_9 := y_3.kept (hs_9.2.2 _ (hA.1 3 (by decide)))
          have hc_A4_9 : xc G (A 4) (.inl (ty 2, 64, .inl bu)) H_9 := y_4.kept (hs_9.2.2 _ (hA.1 4 (by decide)))
          have hc_A5_9 : xc G (A 5) (.inl (ty 0, 4, .inr (.inr (.inr (.inl wi))))) H_9 := y_5.kept (hs_9.2.2 _ (hA.1 5 (by decide)))
          have hc_A6_9 : xc G (A 6) (.inl (ty 0, 4, .inr (.inr (.inr (.inl hi))))) H_9 := y_6.kept (hs_9.2.2 _ (hA.1 6 (by decide)))
          have hc_A7_9 : xc G (A 7) (.inl (ty 1, 4, .inl fc)) H_9 := y_7.kept (hs_9.2.2 _ (hA.1 7 (by decide)))
          have hc_A8_9 : xc G (A 8) (.inl (ty 0, 128, .inr (.inr (.inr (.inl fa))))) H_9 := y_8.kept (hs_9.2.2 _ (hA.1 8 (by decide)))
          have hc_A9_9 : xc G (A 9) (.inl (ty 1, 8, .inl lo)) H_9 := y_9.kept (hs_9.2.2 _ (hA.1 9 (by decide)))
          have hc_A10_9 : xc G (A 10) (.inl (ty 1, 8, .inl la)) H_9 := y_10.kept (hs_9.2.2 _ (hA.1 10 (by decide)))
          have hfr_9 : xRfr m0 A H H_9 := xRfr.put0 xRfr.rf hs_9
          refine lv_aload_n hx hb dX7_closes_29 rfl (lv_at hl 0 rfl) ?_
          refine va_get (D := G) (cl := vwCl) (ci := 8) (v := .int (nI 1)) (C := RX7) (T := TX7) (N := 18) hx hb (hts d0) in_X7_closes_X7 hown hK.1 (x1 hc_9) 0 rfl rfl 0 (by decide) (hts d0 _ hw_X7_closes_2) (fun _ h9 => h9) rfl dX7_closes_30 ?_
          refine lv_if_le (tgt := 40) hx hb dX7_closes_33 (by decide) (fun h9 => absurd h9 (by decide)) (fun _ => ?_)
          refine lv_dconst0 hx hb dX7_closes_36 ?_
          refine lv_goto (tgt := 51) hx hb dX7_closes_37 (by decide) ?_
          exact xdret hd0 hx hb hr hlocks hS (Nat.le_of_ble_eq_true rfl) (Nat.le_of_ble_eq_true rfl) dX7_closes_51 ⟨nI 1, ⟨hc_9, hc_A0_9, hc_A1_9, hc_A2_9, hc_A3_9, hc_A4_9, hc_A5_9, hc_A6_9, hc_A7_9, hc_A8_9, hc_A9_9, hc_A10_9⟩, hfr_9, _, rfl, Or.inr ⟨rfl, fun z => z.2.2 c_8⟩⟩
        · refine lv_iconst (v := nI 0) hx hb dX7_closes_21 (by decide) ?_
          refine lv_goto (tgt := 26) hx hb dX7_closes_22 (by decide) ?_
          refine xput (G := G) (ci := 8) (v := .int (nI 0)) (ty := .int) (C := RX7) (T := TX7) (N := 18) hx hb (hts d0) in_X7_closes_X7 tyX7 tyX7_ok nmX7 hown hK.1 y_o hS hB.1 rfl 0 (by decide) (hts d0 _ hw_X7_closes_2) (fun _ h9 => h9) rfl (by decide +kernel) rfl rfl (Nat.le_of_ble_eq_true rfl) dX7_closes_26 (fun H_11 locs_11 hs_11 hS => ?_)
          have hc_11 : xc G m0 (.inr (8, [.int (nI 0), .int (nI F), .int (nI R), .ref (A 0), .ref (A 1), .ref (A 2), .ref (A 3), .ref (A 4), .int (nI nb), .ref (A 5), .ref (A 6), .ref (A 7), .ref (A 8), .ref (A 9), .ref (A 10), .double px, .double py, .double pz])) H_11 := hs_11.1
          have hc_A0_11 : xc G (A 0) (.inl (ty 0, 192, .inr (.inr (.inr (.inl pl))))) H_11 := y_0.kept (hs_11.2.2 _ (hA.1 0 (by decide)))
          have hc_A1_11 : xc G (A 1) (.inl (ty 2, 8, .inl un)) H_11 := y_1.kept (hs_11.2.2 _ (hA.1 1 (by decide)))
          have hc_A2_11 : xc G (A 2) (.inl (ty 0, 256, .inr (.inr (.inr (.inl co))))) H_11 := y_2.kept (hs_11.2.2 _ (hA.1 2 (by decide)))
          have hc_A3_11 : xc G (A 3) (.inl (ty 0, 32, .inr (.inr (.inr (.inl dr))))) H_11 := y_3.kept (hs_11.2.2 _ (hA.1 3 (by decide)))
          have hc_A4_11 : xc G (A 4) (.inl (ty 2, 64, .inl bu)) H_11 := y_4.kept (hs_11.2.2 _ (hA.1 4 (by decide)))
          have hc_A5_11 : xc G (A 5) (.inl (ty 0, 4, .inr (.inr (.inr (.inl wi))))) H_11 := y_5.kept (hs_11.2.2 _ (hA.1 5 (by decide)))
          have hc_A6_11 : xc G (A 6) (.inl (ty 0, 4, .inr (.inr (.inr (.inl hi))))) H_11 := y_6.kept (hs_11.2.2 _ (hA.1 6 (by decide)))
          have hc_A7_11 : xc G (A 7) (.inl (ty 1, 4, .inl fc)) H_11 := y_7.kept (hs_11.2.2 _ (hA.1 7 (by decide)))
          have hc_A8_11 : xc G (A 8) (.inl (ty 0, 128, .inr (.inr (.inr (.inl fa))))) H_11 := y_8.kept (hs_11.2.2 _ (hA.1 8 (by decide)))
          have hc_A9_11 : xc G (A 9) (.inl (ty 1, 8, .inl lo)) H_11 := y_9.kept (hs_11.2.2 _ (hA.1 9 (by decide)))
          have hc_A10_11 : xc G (A 10) (.inl (ty 1, 8, .inl la)) H_11 := y_10.kept (hs_11.2.2 _ (hA.1 10 (by decide)))
          have hfr_11 : xRfr m0 A H H_11 := xRfr.put0 xRfr.rf hs_11
          refine lv_aload_n hx hb dX7_closes_29 rfl (lv_at hl 0 rfl) ?_
          refine va_get (D := G) (cl := vwCl) (ci := 8) (v := .int (nI 0)) (C := RX7) (T := TX7) (N := 18) hx hb (hts d0) in_X7_closes_X7 hown hK.1 (x1 hc_11) 0 rfl rfl 0 (by decide) (hts d0 _ hw_X7_closes_2) (fun _ h9 => h9) rfl dX7_closes_30 ?_
          refine lv_if_le (tgt := 40) hx hb dX7_closes_33 (by decide) (fun _ => ?_) (fun h9 => absurd (by decide) h9)
          refine lv_iload_n hx hb dX7_closes_40 rfl (lv_at hl 1 rfl) ?_
          refine lv_i2d hx hb dX7_closes_41 ?_
          refine lv_dload_n hx hb dX7_closes_42 rfl (lv_at hl 2 rfl) ?_
          refine xdmul hd0 hx hb (vq_rf _) hx9 dX7_closes_43 (fun r_13 d0 q_13 hd0 => ?_)
          refine lv_dload hx hb dX7_closes_44 (lv_at hl 3 rfl) ?_
          refine lv_ldc2d hx hb hown (hts d0 _ hw_X7_closes_3) dX7_closes_46 ?_
          refine xdmul hd0 hx hb hd9 (vq_rf _) dX7_closes_49 (fun r_14 d0 q_14 hd0 => ?_)
          refine xdsub hd0 hx hb q_13 q_14 dX7_closes_50 (fun r_15 d0 q_15 hd0 => ?_)
          exact xdret hd0 hx hb hr hlocks hS (Nat.le_of_ble_eq_true rfl) (Nat.le_of_ble_eq_true rfl) dX7_closes_51 ⟨nI 0, ⟨hc_11, hc_A0_11, hc_A1_11, hc_A2_11, hc_A3_11, hc_A4_11, hc_A5_11, hc_A6_11, hc_A7_11, hc_A8_11, hc_A9_11, hc_A10_11⟩, hfr_11, _, rfl, Or.inl ⟨rfl, ⟨xB_t c_2, c_5, c_8⟩, q_15⟩⟩
set_option maxRecDepth 20000 in
theorem ggX7_board_X7_between : GoodIn wsX7_board wsX7_between := goodIn_r _ [9] (by decide +kernel) (by decide +kernel)
set_option maxRecDepth 20000 in
theorem gX7_board_X7_between : GoodIn wsX7_board (va_wsS RX7 61 yX7_between wsX7_between) := goodIn_app (goodIn_of _ (by decide +kernel)) ggX7_board_X7_between
theorem dX7_board_0 : decode cX7_board 0 = .ok (.aload_n 0, 1) := by decide +kernel
theorem dX7_board_1 : decode cX7_board 1 = .ok (.dload_n 1, 1) := by decide +kernel
theorem dX7_board_2 : decode cX7_board 2 = .ok (.dconst 1, 1) := by decide +kernel
theorem dX7_board_3 : decode cX7_board 3 = .ok (.ldc2_w 59, 3) := by decide +kernel
theorem dX7_board_6 : decode cX7_board 6 = .ok (.invokestatic 61, 3) := by decide +kernel
theorem dX7_board_9 : decode cX7_board 9 = .ok (.ifCond .eq 14, 3) := by decide +kernel
theorem dX7_board_12 : decode cX7_board 12 = .ok (.dload_n 3, 1) := by decide +kernel
theorem dX7_board_13 : decode cX7_board 13 = .ok (.dconst 1, 1) := by decide +kernel
theorem dX7_board_14 : decode cX7_board 14 = .ok (.ldc2_w 59, 3) := by decide +kernel
theorem dX7_board_17 : decode cX7_board 17 = .ok (.invokestatic 61, 3) := by decide +kernel
theorem dX7_board_20 : decode cX7_board 20 = .ok (.ifCond .ne 7, 3) := by decide +kernel
theorem dX7_board_23 : decode cX7_board 23 = .ok (.iconst 1, 1) := by decide +kernel
theorem dX7_board_24 : decode cX7_board 24 = .ok (.goto 16, 3) := by decide +kernel
theorem dX7_board_27 : decode cX7_board 27 = .ok (.aload_n 0, 1) := by decide +kernel
theorem dX7_board_28 : decode cX7_board 28 = .ok (.getfield 122, 3) := by decide +kernel
theorem dX7_board_31 : decode cX7_board 31 = .ok (.iconst 4, 1) := by decide +kernel
theorem dX7_board_32 : decode cX7_board 32 = .ok (.if_icmp .ne 7, 3) := by decide +kernel
theorem dX7_board_35 : decode cX7_board 35 = .ok (.iconst 2, 1) := by decide +kernel
theorem dX7_board_36 : decode cX7_board 36 = .ok (.goto 4, 3) := by decide +kernel
theorem dX7_board_39 : decode cX7_board 39 = .ok (.iconst 0, 1) := by decide +kernel
theorem dX7_board_40 : decode cX7_board 40 = .ok (.putfield 52, 3) := by decide +kernel
theorem dX7_board_43 : decode cX7_board 43 = .ok (.aload_n 0, 1) := by decide +kernel
theorem dX7_board_44 : decode cX7_board 44 = .ok (.getfield 52, 3) := by decide +kernel
theorem dX7_board_47 : decode cX7_board 47 = .ok (.ifCond .le 5, 3) := by decide +kernel
theorem dX7_board_50 : decode cX7_board 50 = .ok (.iconst 0, 1) := by decide +kernel
theorem dX7_board_51 : decode cX7_board 51 = .ok (.ireturn, 1) := by decide +kernel
theorem dX7_board_52 : decode cX7_board 52 = .ok (.aload_n 0, 1) := by decide +kernel
theorem dX7_board_53 : decode cX7_board 53 = .ok (.getfield 26, 3) := by decide +kernel
theorem dX7_board_56 : decode cX7_board 56 = .ok (.aload_n 0, 1) := by decide +kernel
theorem dX7_board_57 : decode cX7_board 57 = .ok (.getfield 122, 3) := by decide +kernel
theorem dX7_board_60 : decode cX7_board 60 = .ok (.dload_n 1, 1) := by decide +kernel
theorem dX7_board_61 : decode cX7_board 61 = .ok (.dastore, 1) := by decide +kernel
theorem dX7_board_62 : decode cX7_board 62 = .ok (.aload_n 0, 1) := by decide +kernel
theorem dX7_board_63 : decode cX7_board 63 = .ok (.getfield 29, 3) := by decide +kernel
theorem dX7_board_66 : decode cX7_board 66 = .ok (.aload_n 0, 1) := by decide +kernel
theorem dX7_board_67 : decode cX7_board 67 = .ok (.getfield 122, 3) := by decide +kernel
theorem dX7_board_70 : decode cX7_board 70 = .ok (.dload_n 3, 1) := by decide +kernel
theorem dX7_board_71 : decode cX7_board 71 = .ok (.dastore, 1) := by decide +kernel
theorem dX7_board_72 : decode cX7_board 72 = .ok (.aload_n 0, 1) := by decide +kernel
theorem dX7_board_73 : decode cX7_board 73 = .ok (.dup, 1) := by decide +kernel
theorem dX7_board_74 : decode cX7_board 74 = .ok (.getfield 122, 3) := by decide +kernel
theorem dX7_board_77 : decode cX7_board 77 = .ok (.iconst 1, 1) := by decide +kernel
theorem dX7_board_78 : decode cX7_board 78 = .ok (.iadd, 1) := by decide +kernel
theorem dX7_board_79 : decode cX7_board 79 = .ok (.putfield 122, 3) := by decide +kernel
theorem dX7_board_82 : decode cX7_board 82 = .ok (.aload_n 0, 1) := by decide +kernel
theorem dX7_board_83 : decode cX7_board 83 = .ok (.getfield 122, 3) := by decide +kernel
theorem dX7_board_86 : decode cX7_board 86 = .ok (.iconst 1, 1) := by decide +kernel
theorem dX7_board_87 : decode cX7_board 87 = .ok (.isub, 1) := by decide +kernel
theorem dX7_board_88 : decode cX7_board 88 = .ok (.ireturn, 1) := by decide +kernel
abbrev rm_X7_board : Room := { frames := 7, cells := 0, slots := 0, locals := 140 }
theorem hw_X7_board_1 : (Cond.constantDouble RX7 59 (4652007308841189376)) ∈ wsX7_board := List.mem_of_getElem? (i := 1) rfl
theorem hw_X7_board_2 : (Cond.fieldLink RX7 122 "PlankUnrollModel" "boards" "I") ∈ wsX7_board := List.mem_of_getElem? (i := 2) rfl
theorem hw_X7_board_3 : (Cond.fieldLink RX7 52 "PlankUnrollModel" "thrown" "I") ∈ wsX7_board := List.mem_of_getElem? (i := 3) rfl
theorem hw_X7_board_4 : (Cond.fieldLink RX7 26 "PlankUnrollModel" "wides" "[D") ∈ wsX7_board := List.mem_of_getElem? (i := 4) rfl
theorem hw_X7_board_5 : (Cond.fieldLink RX7 29 "PlankUnrollModel" "highs" "[D") ∈ wsX7_board := List.mem_of_getElem? (i := 5) rfl
theorem in_X7_board_X7 : ∀ w ∈ wsX70, w ∈ wsX7_board := by decide +kernel
set_option maxHeartbeats 4000000 in
set_option maxRecDepth 100000 in
/-- board -/
theorem c_X7_board {l : Launch} {G : va_G} {ty : Nat → ClassId} {b0 : Nat} {H : Heap} {m0 : Nat} {A : Nat → Nat} {th : Int32} {F R nb : Nat} {pl co dr wi hi fa : Nat → UInt64} {un bu fc lo la : Nat → Int32} {px py pz : UInt64} (hY : xRef G ty m0 A th F R pl un co dr bu nb wi hi fc fa lo la px py pz H) (hZ : xSz F R) (hA : xAp m0 A) (hB : xNw b0 m0 A) {x h ew eh : UInt64} (hnb : nb ≤ 4) (hx9 : vq x ew) (hh9 : vq h eh) : xMet l yX7_board wsX7_board rm_X7_board G ty b0 [.ref m0, .double x, .double h] H (fun v H1 => ∃ (T : Int32) (nb1 : Nat) (wi1 hi1 : Nat → UInt64), xRef G ty m0 A T F R pl un co dr bu nb1 wi1 hi1 fc fa lo la px py pz H1 ∧ xRfr m0 A H H1 ∧ ∃ z : Int32, v = some (.int z) ∧ ((T = nI 0 ∧ (pBetween ew FP.dconst1 4652007308841189376 = true ∧ pBetween eh FP.dconst1 4652007308841189376 = true) ∧ ¬ nb = 4 ∧ z = nI nb ∧ nb1 = nb + 1 ∧ wi1 = vf_upd wi nb x ∧ hi1 = vf_upd hi nb h) ∨ (T = nI 1 ∧ ¬ (pBetween ew FP.dconst1 4652007308841189376 = true ∧ pBetween eh FP.dconst1 4652007308841189376 = true) ∧ nb1 = nb ∧ wi1 = wi ∧ hi1 = hi) ∨ (T = nI 2 ∧ (pBetween ew FP.dconst1 4652007308841189376 = true ∧ pBetween eh FP.dconst1 4652007308841189376 = true) ∧ nb = 4 ∧ nb1 = nb ∧ wi1 = wi ∧ hi1 = hi))) (fun _ _ => False) := by
  refine xbody (cc := cX7_board) (maxL := 5) (ret := (some .int)) (C := RX7) (lv := [(0, .ref m0), (1, .double x), (3, .double h)]) (by decide) rfl rfl (Nat.le_of_ble_eq_true rfl) rfl ?_
  intro p e s m below meth c d0 hx hb hr hts hown hlocks hml hxt hnm0 hK hb0 hH0 hS hd0 ls hl
  obtain ⟨y_o, y_0, y_1, y_2, y_3, y_4, y_5, y_6, y_7, y_8, y_9, y_10⟩ := id hY
  obtain ⟨⟨zF2, zF8⟩, ⟨zR2, zR8⟩⟩ := id hZ
  refine lv_aload_n hx hb dX7_board_0 rfl (lv_at hl 0 rfl) ?_
  refine lv_dload_n hx hb dX7_board_1 rfl (lv_at hl 1 rfl) ?_
  refine lv_dconst1 hx hb dX7_board_2 ?_
  refine lv_ldc2d hx hb hown (hts d0 _ hw_X7_board_1) dX7_board_3 ?_
  have cw_1 := va_cwS (R := rm_X7_board) (rm := rm_X7_between) 3 (hts d0) gX7_board_X7_between rfl rfl rfl (by decide +kernel) ⟨Nat.le_of_ble_eq_true rfl, Nat.le_of_ble_eq_true rfl⟩
  refine xcall hd0 (xintoS (As := [.double x, .double FP.dconst1, .double 4652007308841189376]) (rest := [.ref m0]) ⟨hx, hb, hml, hown, hts _⟩ cw_1 rfl rfl hl.1 rfl (lv_room (Nat.le_of_ble_eq_true rfl)) dX7_board_6) (c_X7_between (l := l) (G := G) (ty := ty) (b0 := b0) hx9 (vq_rf _) (vq_rf _)) (xoweB cw_1.1) hK hb0 hS (Nat.le_of_ble_eq_true rfl) (Nat.le_of_ble_eq_true rfl) (fun E_1 ce_1 q9_1 H_1 locs_1 d0 hd0 hp_1 hS hce_1 hcv_1 hcl_1 => ?_) (fun v_1 H_1 locs_1 d0 hd0 hp_1 hS => ?_)
  · exact hp_1.elim
  · obtain ⟨rfl, rfl⟩ := hp_1
    show W p l e _ (s.setDrawn _) m _ below meth c _ _ _ _ _ (F0 m 9 ls [.int (xB (pBetween ew FP.dconst1 4652007308841189376)), .ref m0])
    refine lv_if_eq (tgt := 23) hx hb dX7_board_9 (by decide) (fun c_2 => ?_) (fun c_2 => ?_)
    · refine lv_iconst (v := nI 1) hx hb dX7_board_23 (by decide) ?_
      refine lv_goto (tgt := 40) hx hb dX7_board_24 (by decide) ?_
      refine xput (G := G) (ci := 8) (v := .int (nI 1)) (ty := .int) (C := RX7) (T := TX7) (N := 18) hx hb (hts d0) in_X7_board_X7 tyX7 tyX7_ok nmX7 hown hK.1 y_o hS hB.1 rfl 0 (by decide) (hts d0 _ hw_X7_board_3) (fun _ h9 => h9) rfl (by decide +kernel) rfl rfl (Nat.le_of_ble_eq_true rfl) dX7_board_40 (fun H_3 locs_3 hs_3 hS => ?_)
      have hc_3 : xc G m0 (.inr (8, [.int (nI 1), .int (nI F), .int (nI R), .ref (A 0), .ref (A 1), .ref (A 2), .ref (A 3), .ref (A 4), .int (nI nb), .ref (A 5), .ref (A 6), .ref (A 7), .ref (A 8), .ref (A 9), .ref (A 10), .double px, .double py, .double pz])) H_3 := hs_3.1
      have hc_A0_3 : xc G (A 0) (.inl (ty 0, 192, .inr (.inr (.inr (.inl pl))))) H_3 := y_0.kept (hs_3.2.2 _ (hA.1 0 (by decide)))
      have hc_A1_3 : xc G (A 1) (.inl (ty 2, 8, .inl un)) H_3 := y_1.kept (hs_3.2.2 _ (hA.1 1 (by decide)))
      have hc_A2_3 : xc G (A 2) (.inl (ty 0, 256, .inr (.inr (.inr (.inl co))))) H_3 := y_2.kept (hs_3.2.2 _ (hA.1 2 (by decide)))
      have hc_A3_3 : xc G (A 3) (.inl (ty 0, 32, .inr (.inr (.inr (.inl dr))))) H_3 := y_3.kept (hs_3.2.2 _ (hA.1 3 (by decide)))
      have hc_A4_3 : xc G (A 4) (.inl (ty 2, 64, .inl bu)) H_3 := y_4.kept (hs_3.2.2 _ (hA.1 4 (by decide)))
      have hc_A5_3 : xc G (A 5) (.inl (ty 0, 4, .inr (.inr (.inr (.inl wi))))) H_3 := y_5.kept (hs_3.2.2 _ (hA.1 5 (by decide)))
      have hc_A6_3 : xc G (A 6) (.inl (ty 0, 4, .inr (.inr (.inr (.inl hi))))) H_3 := y_6.kept (hs_3.2.2 _ (hA.1 6 (by decide)))
      have hc_A7_3 : xc G (A 7) (.inl (ty 1, 4, .inl fc)) H_3 := y_7.kept (hs_3.2.2 _ (hA.1 7 (by decide)))
      have hc_A8_3 : xc G (A 8) (.inl (ty 0, 128, .inr (.inr (.inr (.inl fa))))) H_3 := y_8.kept (hs_3.2.2 _ (hA.1 8 (by decide)))
      have hc_A9_3 : xc G (A 9) (.inl (ty 1, 8, .inl lo)) H_3 := y_9.kept (hs_3.2.2 _ (hA.1 9 (by decide)))
      have hc_A10_3 : xc G (A 10) (.inl (ty 1, 8, .inl la)) H_3 := y_10.kept (hs_3.2.2 _ (hA.1 10 (by decide)))
      have hfr_3 : xRfr m0 A H H_3 := xRfr.put0 xRfr.rf hs_3
      refine lv_aload_n hx hb dX7_board_43 rfl (lv_at hl 0 rfl) ?_
      refine va_get (D := G) (cl := vwCl) (ci := 8) (v := .int (nI 1)) (C := RX7) (T := TX7) (N := 18) hx hb (hts d0) in_X7_board_X7 hown hK.1 (x1 hc_3) 0 rfl rfl 0 (by decide) (hts d0 _ hw_X7_board_3) (fun _ h9 => h9) rfl dX7_board_44 ?_
      refine lv_if_le (tgt := 52) hx hb dX7_board_47 (by decide) (fun h9 => absurd h9 (by decide)) (fun _ => ?_)
      refine lv_iconst (v := nI 0) hx hb dX7_board_50 (by decide) ?_
      exact xiret hd0 hx hb hr hlocks hS (Nat.le_of_ble_eq_true rfl) (Nat.le_of_ble_eq_true rfl) dX7_board_51 ⟨nI 1, _, _, _, ⟨hc_3, hc_A0_3, hc_A1_3, hc_A2_3, hc_A3_3, hc_A4_3, hc_A5_3, hc_A6_3, hc_A7_3, hc_A8_3, hc_A9_3, hc_A10_3⟩, hfr_3, _, rfl, Or.inr (Or.inl ⟨rfl, fun z => xtf z.1 (xB_f c_2), rfl, rfl, rfl⟩)⟩
    · refine lv_dload_n hx hb dX7_board_12 rfl (lv_at hl 2 rfl) ?_
      refine lv_dconst1 hx hb dX7_board_13 ?_
      refine lv_ldc2d hx hb hown (hts d0 _ hw_X7_board_1) dX7_board_14 ?_
      have cw_5 := va_cwS (R := rm_X7_board) (rm := rm_X7_between) 3 (hts d0) gX7_board_X7_between rfl rfl rfl (by decide +kernel) ⟨Nat.le_of_ble_eq_true rfl, Nat.le_of_ble_eq_true rfl⟩
      refine xcall hd0 (xintoS (As := [.double h, .double FP.dconst1, .double 4652007308841189376]) (rest := [.ref m0]) ⟨hx, hb, hml, hown, hts _⟩ cw_5 rfl rfl hl.1 rfl (lv_room (Nat.le_of_ble_eq_true rfl)) dX7_board_17) (c_X7_between (l := l) (G := G) (ty := ty) (b0 := b0) hh9 (vq_rf _) (vq_rf _)) (xoweB cw_5.1) hK hb0 hS (Nat.le_of_ble_eq_true rfl) (Nat.le_of_ble_eq_true rfl) (fun E_5 ce_5 q9_5 H_5 locs_5 d0 hd0 hp_5 hS hce_5 hcv_5 hcl_5 => ?_) (fun v_5 H_5 locs_5 d0 hd0 hp_5 hS => ?_)
      · exact hp_5.elim
      · obtain ⟨rfl, rfl⟩ := hp_5
        show W p l e _ (s.setDrawn _) m _ below meth c _ _ _ _ _ (F0 m 20 ls [.int (xB (pBetween eh FP.dconst1 4652007308841189376)), .ref m0])
        refine lv_if_ne (tgt := 27) hx hb dX7_board_20 (by decide) (fun c_6 => ?_) (fun c_6 => ?_)
        · refine lv_aload_n hx hb dX7_board_27 rfl (lv_at hl 0 rfl) ?_
          refine va_get (D := G) (cl := vwCl) (ci := 8) (v := .int (nI nb)) (C := RX7) (T := TX7) (N := 18) hx hb (hts d0) in_X7_board_X7 hown hK.1 (x1 y_o) 0 rfl rfl 8 (by decide) (hts d0 _ hw_X7_board_2) (fun _ h9 => h9) rfl dX7_board_28 ?_
          refine lv_iconst (v := nI 4) hx hb dX7_board_31 (by decide) ?_
          refine xicmpN_ne (tgt := 39) hx hb (by omega) (by decide) dX7_board_32 (by decide) (fun c_7 => ?_) (fun c_7 => ?_)
          · refine lv_iconst (v := nI 0) hx hb dX7_board_39 (by decide) ?_
            refine xput (G := G) (ci := 8) (v := .int (nI 0)) (ty := .int) (C := RX7) (T := TX7) (N := 18) hx hb (hts d0) in_X7_board_X7 tyX7 tyX7_ok nmX7 hown hK.1 y_o hS hB.1 rfl 0 (by decide) (hts d0 _ hw_X7_board_3) (fun _ h9 => h9) rfl (by decide +kernel) rfl rfl (Nat.le_of_ble_eq_true rfl) dX7_board_40 (fun H_8 locs_8 hs_8 hS => ?_)
            have hc_8 : xc G m0 (.inr (8, [.int (nI 0), .int (nI F), .int (nI R), .ref (A 0), .ref (A 1), .ref (A 2), .ref (A 3), .ref (A 4), .int (nI nb), .ref (A 5), .ref (A 6), .ref (A 7), .ref (A 8), .ref (A 9), .ref (A 10), .double px, .double py, .double pz])) H_8 := hs_8.1
            have hc_A0_8 : xc G (A 0) (.inl (ty 0, 192, .inr (.inr (.inr (.inl pl))))) H_8 := y_0.kept (hs_8.2.2 _ (hA.1 0 (by decide)))
            have hc_A1_8 : xc G (A 1) (.inl (ty 2, 8, .inl un)) H_8 := y_1.kept (hs_8.2.2 _ (hA.1 1 (by decide)))
            have hc_A2_8 : xc G (A 2) (.inl (ty 0, 256, .inr (.inr (.inr (.inl co))))) H_8 := y_2.kept (hs_8.2.2 _ (hA.1 2 (by decide)))
            have hc_A3_8 : xc G (A 3) (.inl (ty 0, 32, .inr (.inr (.inr (.inl dr))))) H_8 := y_3.kept (hs_8.2.2 _ (hA.1 3 (by decide)))
            have hc_A4_8 : xc G (A 4) (.inl (ty 2, 64, .inl bu)) H_8 := y_4.kept (hs_8.2.2 _ (hA.1 4 (by decide)))
            have hc_A5_8 : xc G (A 5) (.inl (ty 0, 4, .inr (.inr (.inr (.inl wi))))) H_8 := y_5.kept (hs_8.2.2 _ (hA.1 5 (by decide)))
            have hc_A6_8 : xc G (A 6) (.inl (ty 0, 4, .inr (.inr (.inr (.inl hi))))) H_8 := y_6.kept (hs_8.2.2 _ (hA.1 6 (by decide)))
            have hc_A7_8 : xc G (A 7) (.inl (ty 1, 4, .inl fc)) H_8 := y_7.kept (hs_8.2.2 _ (hA.1 7 (by decide)))
            have hc_A8_8 : xc G (A 8) (.inl (ty 0, 128, .inr (.inr (.inr (.inl fa))))) H_8 := y_8.kept (hs_8.2.2 _ (hA.1 8 (by decide)))
            have hc_A9_8 : xc G (A 9) (.inl (ty 1, 8, .inl lo)) H_8 := y_9.kept (hs_8.2.2 _ (hA.1 9 (by decide)))
            have hc_A10_8 : xc G (A 10) (.inl (ty 1, 8, .inl la)) H_8 := y_10.kept (hs_8.2.2 _ (hA.1 10 (by decide)))
            have hfr_8 : xRfr m0 A H H_8 := xRfr.put0 xRfr.rf hs_8
            refine lv_aload_n hx hb dX7_board_43 rfl (lv_at hl 0 rfl) ?_
            refine va_get (D := G) (cl := vwCl) (ci := 8) (v := .int (nI 0)) (C := RX7) (T := TX7) (N := 18) hx hb (hts d0) in_X7_board_X7 hown hK.1 (x1 hc_8) 0 rfl rfl 0 (by decide) (hts d0 _ hw_X7_board_3) (fun _ h9 => h9) rfl dX7_board_44 ?_
            refine lv_if_le (tgt := 52) hx hb dX7_board_47 (by decide) (fun _ => ?_) (fun h9 => absurd (by decide) h9)
            refine lv_aload_n hx hb dX7_board_52 rfl (lv_at hl 0 rfl) ?_
            refine va_get (D := G) (cl := vwCl) (ci := 8) (v := .ref (A 5)) (C := RX7) (T := TX7) (N := 18) hx hb (hts d0) in_X7_board_X7 hown hK.1 (x1 hc_8) 0 rfl rfl 9 (by decide) (hts d0 _ hw_X7_board_4) (fun _ h9 => h9) rfl dX7_board_53 ?_
            refine lv_aload_n hx hb dX7_board_56 rfl (lv_at hl 0 rfl) ?_
            refine va_get (D := G) (cl := vwCl) (ci := 8) (v := .int (nI nb)) (C := RX7) (T := TX7) (N := 18) hx hb (hts d0) in_X7_board_X7 hown hK.1 (x1 hc_8) 0 rfl rfl 8 (by decide) (hts d0 _ hw_X7_board_2) (fun _ h9 => h9) rfl dX7_board_57 ?_
            refine lv_dload_n hx hb dX7_board_60 rfl (lv_at hl 1 rfl) ?_
            refine xdastN (s := s.setDrawn d0) (j := nb) (x := x) hx hb hK.1 0 hc_A5_8 hS (hB.2 5 (by decide)) rfl (xix_of (by omega) (by omega)) dX7_board_61 (fun H_10 locs_10 hs_10 hS => ?_)
            have hc_10 : xc G (A 5) (.inl (ty 0, 4, .inr (.inr (.inr (.inl ((vf_upd wi nb x))))))) H_10 := hs_10.1
            have hc_m0_10 : xc G m0 (.inr (8, [.int (nI 0), .int (nI F), .int (nI R), .ref (A 0), .ref (A 1), .ref (A 2), .ref (A 3), .ref (A 4), .int (nI nb), .ref (A 5), .ref (A 6), .ref (A 7), .ref (A 8), .ref (A 9), .ref (A 10), .double px, .double py, .double pz])) H_10 := hc_8.kept (hs_10.2.2 _ (Ne.symm (hA.1 5 (by decide))))
            have hc_A0_10 : xc G (A 0) (.inl (ty 0, 192, .inr (.inr (.inr (.inl pl))))) H_10 := hc_A0_8.kept (hs_10.2.2 _ (fun z => absurd (hA.2 0 5 (by decide) (by decide) z) (by decide)))
            have hc_A1_10 : xc G (A 1) (.inl (ty 2, 8, .inl un)) H_10 := hc_A1_8.kept (hs_10.2.2 _ (fun z => absurd (hA.2 1 5 (by decide) (by decide) z) (by decide)))
            have hc_A2_10 : xc G (A 2) (.inl (ty 0, 256, .inr (.inr (.inr (.inl co))))) H_10 := hc_A2_8.kept (hs_10.2.2 _ (fun z => absurd (hA.2 2 5 (by decide) (by decide) z) (by decide)))
            have hc_A3_10 : xc G (A 3) (.inl (ty 0, 32, .inr (.inr (.inr (.inl dr))))) H_10 := hc_A3_8.kept (hs_10.2.2 _ (fun z => absurd (hA.2 3 5 (by decide) (by decide) z) (by decide)))
            have hc_A4_10 : xc G (A 4) (.inl (ty 2, 64, .inl bu)) H_10 := hc_A4_8.kept (hs_10.2.2 _ (fun z => absurd (hA.2 4 5 (by decide) (by decide) z) (by decide)))
            have hc_A6_10 : xc G (A 6) (.inl (ty 0, 4, .inr (.inr (.inr (.inl hi))))) H_10 := hc_A6_8.kept (hs_10.2.2 _ (fun z => absurd (hA.2 6 5 (by decide) (by decide) z) (by decide)))
            have hc_A7_10 : xc G (A 7) (.inl (ty 1, 4, .inl fc)) H_10 := hc_A7_8.kept (hs_10.2.2 _ (fun z => absurd (hA.2 7 5 (by decide) (by decide) z) (by decide)))
            have hc_A8_10 : xc G (A 8) (.inl (ty 0, 128, .inr (.inr (.inr (.inl fa))))) H_10 := hc_A8_8.kept (hs_10.2.2 _ (fun z => absurd (hA.2 8 5 (by decide) (by decide) z) (by decide)))
            have hc_A9_10 : xc G (A 9) (.inl (ty 1, 8, .inl lo)) H_10 := hc_A9_8.kept (hs_10.2.2 _ (fun z => absurd (hA.2 9 5 (by decide) (by decide) z) (by decide)))
            have hc_A10_10 : xc G (A 10) (.inl (ty 1, 8, .inl la)) H_10 := hc_A10_8.kept (hs_10.2.2 _ (fun z => absurd (hA.2 10 5 (by decide) (by decide) z) (by decide)))
            have hfr_10 : xRfr m0 A H H_10 := xRfr.putA hfr_8 5 (by decide) hs_10
            refine lv_aload_n hx hb dX7_board_62 rfl (lv_at hl 0 rfl) ?_
            refine va_get (D := G) (cl := vwCl) (ci := 8) (v := .ref (A 6)) (C := RX7) (T := TX7) (N := 18) hx hb (hts d0) in_X7_board_X7 hown hK.1 (x1 hc_m0_10) 0 rfl rfl 10 (by decide) (hts d0 _ hw_X7_board_5) (fun _ h9 => h9) rfl dX7_board_63 ?_
            refine lv_aload_n hx hb dX7_board_66 rfl (lv_at hl 0 rfl) ?_
            refine va_get (D := G) (cl := vwCl) (ci := 8) (v := .int (nI nb)) (C := RX7) (T := TX7) (N := 18) hx hb (hts d0) in_X7_board_X7 hown hK.1 (x1 hc_m0_10) 0 rfl rfl 8 (by decide) (hts d0 _ hw_X7_board_2) (fun _ h9 => h9) rfl dX7_board_67 ?_
            refine lv_dload_n hx hb dX7_board_70 rfl (lv_at hl 2 rfl) ?_
            refine xdastN (s := s.setDrawn d0) (j := nb) (x := h) hx hb hK.1 0 hc_A6_10 hS (hB.2 6 (by decide)) rfl (xix_of (by omega) (by omega)) dX7_board_71 (fun H_11 locs_11 hs_11 hS => ?_)
            have hc_11 : xc G (A 6) (.inl (ty 0, 4, .inr (.inr (.inr (.inl ((vf_upd hi nb h))))))) H_11 := hs_11.1
            have hc_m0_11 : xc G m0 (.inr (8, [.int (nI 0), .int (nI F), .int (nI R), .ref (A 0), .ref (A 1), .ref (A 2), .ref (A 3), .ref (A 4), .int (nI nb), .ref (A 5), .ref (A 6), .ref (A 7), .ref (A 8), .ref (A 9), .ref (A 10), .double px, .double py, .double pz])) H_11 := hc_m0_10.kept (hs_11.2.2 _ (Ne.symm (hA.1 6 (by decide))))
            have hc_A0_11 : xc G (A 0) (.inl (ty 0, 192, .inr (.inr (.inr (.inl pl))))) H_11 := hc_A0_10.kept (hs_11.2.2 _ (fun z => absurd (hA.2 0 6 (by decide) (by decide) z) (by decide)))
            have hc_A1_11 : xc G (A 1) (.inl (ty 2, 8, .inl un)) H_11 := hc_A1_10.kept (hs_11.2.2 _ (fun z => absurd (hA.2 1 6 (by decide) (by decide) z) (by decide)))
            have hc_A2_11 : xc G (A 2) (.inl (ty 0, 256, .inr (.inr (.inr (.inl co))))) H_11 := hc_A2_10.kept (hs_11.2.2 _ (fun z => absurd (hA.2 2 6 (by decide) (by decide) z) (by decide)))
            have hc_A3_11 : xc G (A 3) (.inl (ty 0, 32, .inr (.inr (.inr (.inl dr))))) H_11 := hc_A3_10.kept (hs_11.2.2 _ (fun z => absurd (hA.2 3 6 (by decide) (by decide) z) (by decide)))
            have hc_A4_11 : xc G (A 4) (.inl (ty 2, 64, .inl bu)) H_11 := hc_A4_10.kept (hs_11.2.2 _ (fun z => absurd (hA.2 4 6 (by decide) (by decide) z) (by decide)))
            have hc_A5_11 : xc G (A 5) (.inl (ty 0, 4, .inr (.inr (.inr (.inl ((vf_upd wi nb x))))))) H_11 := hc_10.kept (hs_11.2.2 _ (fun z => absurd (hA.2 5 6 (by decide) (by decide) z) (by decide)))
            have hc_A7_11 : xc G (A 7) (.inl (ty 1, 4, .inl fc)) H_11 := hc_A7_10.kept (hs_11.2.2 _ (fun z => absurd (hA.2 7 6 (by decide) (by decide) z) (by decide)))
            have hc_A8_11 : xc G (A 8) (.inl (ty 0, 128, .inr (.inr (.inr (.inl fa))))) H_11 := hc_A8_10.kept (hs_11.2.2 _ (fun z => absurd (hA.2 8 6 (by decide) (by decide) z) (by decide)))
            have hc_A9_11 : xc G (A 9) (.inl (ty 1, 8, .inl lo)) H_11 := hc_A9_10.kept (hs_11.2.2 _ (fun z => absurd (hA.2 9 6 (by decide) (by decide) z) (by decide)))
            have hc_A10_11 : xc G (A 10) (.inl (ty 1, 8, .inl la)) H_11 := hc_A10_10.kept (hs_11.2.2 _ (fun z => absurd (hA.2 10 6 (by decide) (by decide) z) (by decide)))
            have hfr_11 : xRfr m0 A H H_11 := xRfr.putA hfr_10 6 (by decide) hs_11
            refine lv_aload_n hx hb dX7_board_72 rfl (lv_at hl 0 rfl) ?_
            refine lv_dup hx hb dX7_board_73 rfl ?_
            refine va_get (D := G) (cl := vwCl) (ci := 8) (v := .int (nI nb)) (C := RX7) (T := TX7) (N := 18) hx hb (hts d0) in_X7_board_X7 hown hK.1 (x1 hc_m0_11) 0 rfl rfl 8 (by decide) (hts d0 _ hw_X7_board_2) (fun _ h9 => h9) rfl dX7_board_74 ?_
            refine lv_iconst (v := nI 1) hx hb dX7_board_77 (by decide) ?_
            refine xiaddN hx hb dX7_board_78 ?_
            refine xput (G := G) (ci := 8) (v := .int (nI (nb + 1))) (ty := .int) (C := RX7) (T := TX7) (N := 18) hx hb (hts d0) in_X7_board_X7 tyX7 tyX7_ok nmX7 hown hK.1 hc_m0_11 hS hB.1 rfl 8 (by decide) (hts d0 _ hw_X7_board_2) (fun _ h9 => h9) rfl (by decide +kernel) rfl rfl (Nat.le_of_ble_eq_true rfl) dX7_board_79 (fun H_12 locs_12 hs_12 hS => ?_)
            have hc_12 : xc G m0 (.inr (8, [.int (nI 0), .int (nI F), .int (nI R), .ref (A 0), .ref (A 1), .ref (A 2), .ref (A 3), .ref (A 4), .int (nI (nb + 1)), .ref (A 5), .ref (A 6), .ref (A 7), .ref (A 8), .ref (A 9), .ref (A 10), .double px, .double py, .double pz])) H_12 := hs_12.1
            have hc_A0_12 : xc G (A 0) (.inl (ty 0, 192, .inr (.inr (.inr (.inl pl))))) H_12 := hc_A0_11.kept (hs_12.2.2 _ (hA.1 0 (by decide)))
            have hc_A1_12 : xc G (A 1) (.inl (ty 2, 8, .inl un)) H_12 := hc_A1_11.kept (hs_12.2.2 _ (hA.1 1 (by decide)))
            have hc_A2_12 : xc G (A 2) (.inl (ty 0, 256, .inr (.inr (.inr (.inl co))))) H_12 := hc_A2_11.kept (hs_12.2.2 _ (hA.1 2 (by decide)))
            have hc_A3_12 : xc G (A 3) (.inl (ty 0, 32, .inr (.inr (.inr (.inl dr))))) H_12 := hc_A3_11.kept (hs_12.2.2 _ (hA.1 3 (by decide)))
            have hc_A4_12 : xc G (A 4) (.inl (ty 2, 64, .inl bu)) H_12 := hc_A4_11.kept (hs_12.2.2 _ (hA.1 4 (by decide)))
            have hc_A5_12 : xc G (A 5) (.inl (ty 0, 4, .inr (.inr (.inr (.inl ((vf_upd wi nb x))))))) H_12 := hc_A5_11.kept (hs_12.2.2 _ (hA.1 5 (by decide)))
            have hc_A6_12 : xc G (A 6) (.inl (ty 0, 4, .inr (.inr (.inr (.inl ((vf_upd hi nb h))))))) H_12 := hc_11.kept (hs_12.2.2 _ (hA.1 6 (by decide)))
            have hc_A7_12 : xc G (A 7) (.inl (ty 1, 4, .inl fc)) H_12 := hc_A7_11.kept (hs_12.2.2 _ (hA.1 7 (by decide)))
            have hc_A8_12 : xc G (A 8) (.inl (ty 0, 128, .inr (.inr (.inr (.inl fa))))) H_12 := hc_A8_11.kept (hs_12.2.2 _ (hA.1 8 (by decide)))
            have hc_A9_12 : xc G (A 9) (.inl (ty 1, 8, .inl lo)) H_12 := hc_A9_11.kept (hs_12.2.2 _ (hA.1 9 (by decide)))
            have hc_A10_12 : xc G (A 10) (.inl (ty 1, 8, .inl la)) H_12 := hc_A10_11.kept (hs_12.2.2 _ (hA.1 10 (by decide)))
            have hfr_12 : xRfr m0 A H H_12 := xRfr.put0 hfr_11 hs_12
            refine lv_aload_n hx hb dX7_board_82 rfl (lv_at hl 0 rfl) ?_
            refine va_get (D := G) (cl := vwCl) (ci := 8) (v := .int (nI (nb + 1))) (C := RX7) (T := TX7) (N := 18) hx hb (hts d0) in_X7_board_X7 hown hK.1 (x1 hc_12) 0 rfl rfl 8 (by decide) (hts d0 _ hw_X7_board_2) (fun _ h9 => h9) rfl dX7_board_83 ?_
            refine lv_iconst (v := nI 1) hx hb dX7_board_86 (by decide) ?_
            refine xisubN hx hb (by omega) dX7_board_87 ?_
            exact xiret hd0 hx hb hr hlocks hS (Nat.le_of_ble_eq_true rfl) (Nat.le_of_ble_eq_true rfl) dX7_board_88 ⟨nI 0, _, _, _, ⟨hc_12, hc_A0_12, hc_A1_12, hc_A2_12, hc_A3_12, hc_A4_12, hc_A5_12, hc_A6_12, hc_A7_12, hc_A8_12, hc_A9_12, hc_A10_12⟩, hfr_12, _, rfl, Or.inl ⟨rfl, ⟨xB_t c_2, xB_t c_6⟩, c_7, rfl, rfl, rfl, rfl⟩⟩
          · refine lv_iconst (v := nI 2) hx hb dX7_board_35 (by decide) ?_
            refine lv_goto (tgt := 40) hx hb dX7_board_36 (by decide) ?_
            refine xput (G := G) (ci := 8) (v := .int (nI 2)) (ty := .int) (C := RX7) (T := TX7) (N := 18) hx hb (hts d0) in_X7_board_X7 tyX7 tyX7_ok nmX7 hown hK.1 y_o hS hB.1 rfl 0 (by decide) (hts d0 _ hw_X7_board_3) (fun _ h9 => h9) rfl (by decide +kernel) rfl rfl (Nat.le_of_ble_eq_true rfl) dX7_board_40 (fun H_13 locs_13 hs_13 hS => ?_)
            have hc_13 : xc G m0 (.inr (8, [.int (nI 2), .int (nI F), .int (nI R), .ref (A 0), .ref (A 1), .ref (A 2), .ref (A 3), .ref (A 4), .int (nI nb), .ref (A 5), .ref (A 6), .ref (A 7), .ref (A 8), .ref (A 9), .ref (A 10), .double px, .double py, .double pz])) H_13 := hs_13.1
            have hc_A0_13 : xc G (A 0) (.inl (ty 0, 192, .inr (.inr (.inr (.inl pl))))) H_13 := y_0.kept (hs_13.2.2 _ (hA.1 0 (by decide)))
            have hc_A1_13 : xc G (A 1) (.inl (ty 2, 8, .inl un)) H_13 := y_1.kept (hs_13.2.2 _ (hA.1 1 (by decide)))
            have hc_A2_13 : xc G (A 2) (.inl (ty 0, 256, .inr (.inr (.inr (.inl co))))) H_13 := y_2.kept (hs_13.2.2 _ (hA.1 2 (by decide)))
            have hc_A3_13 : xc G (A 3) (.inl (ty 0, 32, .inr (.inr (.inr (.inl dr))))) H_13 := y_3.kept (hs_13.2.2 _ (hA.1 3 (by decide)))
            have hc_A4_13 : xc G (A 4) (.inl (ty 2, 64, .inl bu)) H_13 := y_4.kept (hs_13.2.2 _ (hA.1 4 (by decide)))
            have hc_A5_13 : xc G (A 5) (.inl (ty 0, 4, .inr (.inr (.inr (.inl wi))))) H_13 := y_5.kept (hs_13.2.2 _ (hA.1 5 (by decide)))
            have hc_A6_13 : xc G (A 6) (.inl (ty 0, 4, .inr (.inr (.inr (.inl hi))))) H_13 := y_6.kept (hs_13.2.2 _ (hA.1 6 (by decide)))
            have hc_A7_13 : xc G (A 7) (.inl (ty 1, 4, .inl fc)) H_13 := y_7.kept (hs_13.2.2 _ (hA.1 7 (by decide)))
            have hc_A8_13 : xc G (A 8) (.inl (ty 0, 128, .inr (.inr (.inr (.inl fa))))) H_13 := y_8.kept (hs_13.2.2 _ (hA.1 8 (by decide)))
            have hc_A9_13 : xc G (A 9) (.inl (ty 1, 8, .inl lo)) H_13 := y_9.kept (hs_13.2.2 _ (hA.1 9 (by decide)))
            have hc_A10_13 : xc G (A 10) (.inl (ty 1, 8, .inl la)) H_13 := y_10.kept (hs_13.2.2 _ (hA.1 10 (by decide)))
            have hfr_13 : xRfr m0 A H H_13 := xRfr.put0 xRfr.rf hs_13
            refine lv_aload_n hx hb dX7_board_43 rfl (lv_at hl 0 rfl) ?_
            refine va_get (D := G) (cl := vwCl) (ci := 8) (v := .int (nI 2)) (C := RX7) (T := TX7) (N := 18) hx hb (hts d0) in_X7_board_X7 hown hK.1 (x1 hc_13) 0 rfl rfl 0 (by decide) (hts d0 _ hw_X7_board_3) (fun _ h9 => h9) rfl dX7_board_44 ?_
            refine lv_if_le (tgt := 52) hx hb dX7_board_47 (by decide) (fun h9 => absurd h9 (by decide)) (fun _ => ?_)
            refine lv_iconst (v := nI 0) hx hb dX7_board_50 (by decide) ?_
            exact xiret hd0 hx hb hr hlocks hS (Nat.le_of_ble_eq_true rfl) (Nat.le_of_ble_eq_true rfl) dX7_board_51 ⟨nI 2, _, _, _, ⟨hc_13, hc_A0_13, hc_A1_13, hc_A2_13, hc_A3_13, hc_A4_13, hc_A5_13, hc_A6_13, hc_A7_13, hc_A8_13, hc_A9_13, hc_A10_13⟩, hfr_13, _, rfl, Or.inr (Or.inr ⟨rfl, ⟨xB_t c_2, xB_t c_6⟩, c_7, rfl, rfl, rfl⟩)⟩
        · refine lv_iconst (v := nI 1) hx hb dX7_board_23 (by decide) ?_
          refine lv_goto (tgt := 40) hx hb dX7_board_24 (by decide) ?_
          refine xput (G := G) (ci := 8) (v := .int (nI 1)) (ty := .int) (C := RX7) (T := TX7) (N := 18) hx hb (hts d0) in_X7_board_X7 tyX7 tyX7_ok nmX7 hown hK.1 y_o hS hB.1 rfl 0 (by decide) (hts d0 _ hw_X7_board_3) (fun _ h9 => h9) rfl (by decide +kernel) rfl rfl (Nat.le_of_ble_eq_true rfl) dX7_board_40 (fun H_15 locs_15 hs_15 hS => ?_)
          have hc_15 : xc G m0 (.inr (8, [.int (nI 1), .int (nI F), .int (nI R), .ref (A 0), .ref (A 1), .ref (A 2), .ref (A 3), .ref (A 4), .int (nI nb), .ref (A 5), .ref (A 6), .ref (A 7), .ref (A 8), .ref (A 9), .ref (A 10), .double px, .double py, .double pz])) H_15 := hs_15.1
          have hc_A0_15 : xc G (A 0) (.inl (ty 0, 192, .inr (.inr (.inr (.inl pl))))) H_15 := y_0.kept (hs_15.2.2 _ (hA.1 0 (by decide)))
          have hc_A1_15 : xc G (A 1) (.inl (ty 2, 8, .inl un)) H_15 := y_1.kept (hs_15.2.2 _ (hA.1 1 (by decide)))
          have hc_A2_15 : xc G (A 2) (.inl (ty 0, 256, .inr (.inr (.inr (.inl co))))) H_15 := y_2.kept (hs_15.2.2 _ (hA.1 2 (by decide)))
          have hc_A3_15 : xc G (A 3) (.inl (ty 0, 32, .inr (.inr (.inr (.inl dr))))) H_15 := y_3.kept (hs_15.2.2 _ (hA.1 3 (by decide)))
          have hc_A4_15 : xc G (A 4) (.inl (ty 2, 64, .inl bu)) H_15 := y_4.kept (hs_15.2.2 _ (hA.1 4 (by decide)))
          have hc_A5_15 : xc G (A 5) (.inl (ty 0, 4, .inr (.inr (.inr (.inl wi))))) H_15 := y_5.kept (hs_15.2.2 _ (hA.1 5 (by decide)))
          have hc_A6_15 : xc G (A 6) (.inl (ty 0, 4, .inr (.inr (.inr (.inl hi))))) H_15 := y_6.kept (hs_15.2.2 _ (hA.1 6 (by decide)))
          have hc_A7_15 : xc G (A 7) (.inl (ty 1, 4, .inl fc)) H_15 := y_7.kept (hs_15.2.2 _ (hA.1 7 (by decide)))
          have hc_A8_15 : xc G (A 8) (.inl (ty 0, 128, .inr (.inr (.inr (.inl fa))))) H_15 := y_8.kept (hs_15.2.2 _ (hA.1 8 (by decide)))
          have hc_A9_15 : xc G (A 9) (.inl (ty 1, 8, .inl lo)) H_15 := y_9.kept (hs_15.2.2 _ (hA.1 9 (by decide)))
          have hc_A10_15 : xc G (A 10) (.inl (ty 1, 8, .inl la)) H_15 := y_10.kept (hs_15.2.2 _ (hA.1 10 (by decide)))
          have hfr_15 : xRfr m0 A H H_15 := xRfr.put0 xRfr.rf hs_15
          refine lv_aload_n hx hb dX7_board_43 rfl (lv_at hl 0 rfl) ?_
          refine va_get (D := G) (cl := vwCl) (ci := 8) (v := .int (nI 1)) (C := RX7) (T := TX7) (N := 18) hx hb (hts d0) in_X7_board_X7 hown hK.1 (x1 hc_15) 0 rfl rfl 0 (by decide) (hts d0 _ hw_X7_board_3) (fun _ h9 => h9) rfl dX7_board_44 ?_
          refine lv_if_le (tgt := 52) hx hb dX7_board_47 (by decide) (fun h9 => absurd h9 (by decide)) (fun _ => ?_)
          refine lv_iconst (v := nI 0) hx hb dX7_board_50 (by decide) ?_
          exact xiret hd0 hx hb hr hlocks hS (Nat.le_of_ble_eq_true rfl) (Nat.le_of_ble_eq_true rfl) dX7_board_51 ⟨nI 1, _, _, _, ⟨hc_15, hc_A0_15, hc_A1_15, hc_A2_15, hc_A3_15, hc_A4_15, hc_A5_15, hc_A6_15, hc_A7_15, hc_A8_15, hc_A9_15, hc_A10_15⟩, hfr_15, _, rfl, Or.inr (Or.inl ⟨rfl, fun z => xtf z.2 (xB_f c_6), rfl, rfl, rfl⟩)⟩
end
section
/-! THE REFERENCE: what is asked and told (2). -/
def pGir (pl : Nat → UInt64) (f : Nat) : Nat → UInt64
  | 0 => FP.dconst0
  | k + 1 => FP.dadd (pGir pl f k) (pFar pl f k f (k + 1))
theorem xspan_of {n : Int32} (h0 : ¬ n < nI 1) (h1 : n ≤ nI 8) : ∃ j : Nat, 1 ≤ j ∧ j ≤ 8 ∧ n = nI j := by
  have h2 : ¬ n < 0 := fun h => h0 (by have := Int32.lt_iff_toInt_lt.mp h; exact Int32.lt_iff_toInt_lt.mpr (by rw [nI_toInt (by decide)]; simp at this; omega))
  obtain ⟨j, hj, rfl⟩ := nI_of h2
  exact ⟨j, by rcases Nat.lt_or_ge j 1 with h | h; exact absurd (nI_lt h (by decide)) h0; exact h, (nI_leI hj (by decide)).mp h1, rfl⟩
set_option maxRecDepth 20000 in
theorem ggX7_girth_X7_far : GoodIn wsX7_girth wsX7_far := goodIn_r _ [8, 9, 10, 11, 7, 12, 13, 14, 15, 16, 17, 18, 19, 20, 21, 22, 23, 24, 25, 26, 27, 28, 29, 30, 31, 32, 33, 34, 35] (by decide +kernel) (by decide +kernel)
set_option maxRecDepth 20000 in
theorem gX7_girth_X7_far : GoodIn wsX7_girth (wsV RX7 77 RX7 yX7_far wsX7_far) := goodIn_app (goodIn_of _ (by decide +kernel)) ggX7_girth_X7_far
theorem dX7_girth_0 : decode cX7_girth 0 = .ok (.aload_n 0, 1) := by decide +kernel
theorem dX7_girth_1 : decode cX7_girth 1 = .ok (.iload_n 1, 1) := by decide +kernel
theorem dX7_girth_2 : decode cX7_girth 2 = .ok (.ifCond .lt 11, 3) := by decide +kernel
theorem dX7_girth_5 : decode cX7_girth 5 = .ok (.iload_n 1, 1) := by decide +kernel
theorem dX7_girth_6 : decode cX7_girth 6 = .ok (.aload_n 0, 1) := by decide +kernel
theorem dX7_girth_7 : decode cX7_girth 7 = .ok (.getfield 45, 3) := by decide +kernel
theorem dX7_girth_10 : decode cX7_girth 10 = .ok (.if_icmp .lt 7, 3) := by decide +kernel
theorem dX7_girth_13 : decode cX7_girth 13 = .ok (.iconst 1, 1) := by decide +kernel
theorem dX7_girth_14 : decode cX7_girth 14 = .ok (.goto 4, 3) := by decide +kernel
theorem dX7_girth_17 : decode cX7_girth 17 = .ok (.iconst 0, 1) := by decide +kernel
theorem dX7_girth_18 : decode cX7_girth 18 = .ok (.putfield 52, 3) := by decide +kernel
theorem dX7_girth_21 : decode cX7_girth 21 = .ok (.dconst 0, 1) := by decide +kernel
theorem dX7_girth_22 : decode cX7_girth 22 = .ok (.dstore_n 2, 1) := by decide +kernel
theorem dX7_girth_23 : decode cX7_girth 23 = .ok (.iconst 0, 1) := by decide +kernel
theorem dX7_girth_24 : decode cX7_girth 24 = .ok (.istore 4, 2) := by decide +kernel
theorem dX7_girth_26 : decode cX7_girth 26 = .ok (.iload 4, 2) := by decide +kernel
theorem dX7_girth_28 : decode cX7_girth 28 = .ok (.aload_n 0, 1) := by decide +kernel
theorem dX7_girth_29 : decode cX7_girth 29 = .ok (.getfield 49, 3) := by decide +kernel
theorem dX7_girth_32 : decode cX7_girth 32 = .ok (.iconst 1, 1) := by decide +kernel
theorem dX7_girth_33 : decode cX7_girth 33 = .ok (.isub, 1) := by decide +kernel
theorem dX7_girth_34 : decode cX7_girth 34 = .ok (.if_icmp .ge 31, 3) := by decide +kernel
theorem dX7_girth_37 : decode cX7_girth 37 = .ok (.aload_n 0, 1) := by decide +kernel
theorem dX7_girth_38 : decode cX7_girth 38 = .ok (.getfield 52, 3) := by decide +kernel
theorem dX7_girth_41 : decode cX7_girth 41 = .ok (.ifCond .ne 24, 3) := by decide +kernel
theorem dX7_girth_44 : decode cX7_girth 44 = .ok (.dload_n 2, 1) := by decide +kernel
theorem dX7_girth_45 : decode cX7_girth 45 = .ok (.aload_n 0, 1) := by decide +kernel
theorem dX7_girth_46 : decode cX7_girth 46 = .ok (.iload_n 1, 1) := by decide +kernel
theorem dX7_girth_47 : decode cX7_girth 47 = .ok (.iload 4, 2) := by decide +kernel
theorem dX7_girth_49 : decode cX7_girth 49 = .ok (.iload_n 1, 1) := by decide +kernel
theorem dX7_girth_50 : decode cX7_girth 50 = .ok (.iload 4, 2) := by decide +kernel
theorem dX7_girth_52 : decode cX7_girth 52 = .ok (.iconst 1, 1) := by decide +kernel
theorem dX7_girth_53 : decode cX7_girth 53 = .ok (.iadd, 1) := by decide +kernel
theorem dX7_girth_54 : decode cX7_girth 54 = .ok (.invokevirtual 77, 3) := by decide +kernel
theorem dX7_girth_57 : decode cX7_girth 57 = .ok (.dadd, 1) := by decide +kernel
theorem dX7_girth_58 : decode cX7_girth 58 = .ok (.dstore_n 2, 1) := by decide +kernel
theorem dX7_girth_59 : decode cX7_girth 59 = .ok (.iinc 4 1, 3) := by decide +kernel
theorem dX7_girth_62 : decode cX7_girth 62 = .ok (.goto (-36), 3) := by decide +kernel
theorem dX7_girth_65 : decode cX7_girth 65 = .ok (.dload_n 2, 1) := by decide +kernel
theorem dX7_girth_66 : decode cX7_girth 66 = .ok (.dreturn, 1) := by decide +kernel
abbrev rm_X7_girth : Room := { frames := 7, cells := 0, slots := 0, locals := 140 }
theorem hw_X7_girth_1 : (Cond.fieldLink RX7 45 "PlankUnrollModel" "frames" "I") ∈ wsX7_girth := List.mem_of_getElem? (i := 1) rfl
theorem hw_X7_girth_2 : (Cond.fieldLink RX7 52 "PlankUnrollModel" "thrown" "I") ∈ wsX7_girth := List.mem_of_getElem? (i := 2) rfl
theorem hw_X7_girth_3 : (Cond.fieldLink RX7 49 "PlankUnrollModel" "rows" "I") ∈ wsX7_girth := List.mem_of_getElem? (i := 3) rfl
theorem in_X7_girth_X7 : ∀ w ∈ wsX70, w ∈ wsX7_girth := by decide +kernel
set_option maxHeartbeats 4000000 in
set_option maxRecDepth 100000 in
/-- girth -/
theorem c_X7_girth {l : Launch} {G : va_G} {ty : Nat → ClassId} {b0 : Nat} {H : Heap} {f : Int32} {m0 : Nat} {A : Nat → Nat} {th : Int32} {F R nb : Nat} {pl co dr wi hi fa : Nat → UInt64} {un bu fc lo la : Nat → Int32} {px py pz : UInt64} (hY : xRef G ty m0 A th F R pl un co dr bu nb wi hi fc fa lo la px py pz H) (hZ : xSz F R) (hA : xAp m0 A) (hB : xNw b0 m0 A) : xMet l yX7_girth wsX7_girth rm_X7_girth G ty b0 [.ref m0, .int (f)] H (fun v H1 => ∃ T : Int32, xRef G ty m0 A T F R pl un co dr bu nb wi hi fc fa lo la px py pz H1 ∧ xRfr m0 A H H1 ∧ ∃ z : UInt64, v = some (.double z) ∧ ((T = nI 0 ∧ (vp_in f F) ∧ vq z (pGir pl f.toNatClampNeg (R - 1))) ∨ (T = nI 1 ∧ ¬ (vp_in f F)))) (fun _ _ => False) := by
  refine xbody (cc := cX7_girth) (maxL := 5) (ret := (some .double)) (C := RX7) (lv := [(0, .ref m0), (1, .int (f))]) (by decide) rfl rfl (Nat.le_of_ble_eq_true rfl) rfl ?_
  intro p e s m below meth c d0 hx hb hr hts hown hlocks hml hxt hnm0 hK hb0 hH0 hS hd0 ls hl
  obtain ⟨y_o, y_0, y_1, y_2, y_3, y_4, y_5, y_6, y_7, y_8, y_9, y_10⟩ := id hY
  obtain ⟨⟨zF2, zF8⟩, ⟨zR2, zR8⟩⟩ := id hZ
  refine lv_aload_n hx hb dX7_girth_0 rfl (lv_at hl 0 rfl) ?_
  refine lv_iload_n hx hb dX7_girth_1 rfl (lv_at hl 1 rfl) ?_
  refine lv_if_lt (tgt := 13) hx hb dX7_girth_2 (by decide) (fun c_1 => ?_) (fun c_1 => ?_)
  · refine lv_iconst (v := nI 1) hx hb dX7_girth_13 (by decide) ?_
    refine lv_goto (tgt := 18) hx hb dX7_girth_14 (by decide) ?_
    refine xput (G := G) (ci := 8) (v := .int (nI 1)) (ty := .int) (C := RX7) (T := TX7) (N := 18) hx hb (hts d0) in_X7_girth_X7 tyX7 tyX7_ok nmX7 hown hK.1 y_o hS hB.1 rfl 0 (by decide) (hts d0 _ hw_X7_girth_2) (fun _ h9 => h9) rfl (by decide +kernel) rfl rfl (Nat.le_of_ble_eq_true rfl) dX7_girth_18 (fun H_2 locs_2 hs_2 hS => ?_)
    have hc_2 : xc G m0 (.inr (8, [.int (nI 1), .int (nI F), .int (nI R), .ref (A 0), .ref (A 1), .ref (A 2), .ref (A 3), .ref (A 4), .int (nI nb), .ref (A 5), .ref (A 6), .ref (A 7), .ref (A 8), .ref (A 9), .ref (A 10), .double px, .double py, .double pz])) H_2 := hs_2.1
    have hc_A0_2 : xc G (A 0) (.inl (ty 0, 192, .inr (.inr (.inr (.inl pl))))) H_2 := y_0.kept (hs_2.2.2 _ (hA.1 0 (by decide)))
    have hc_A1_2 : xc G (A 1) (.inl (ty 2, 8, .inl un)) H_2 := y_1.kept (hs_2.2.2 _ (hA.1 1 (by decide)))
    have hc_A2_2 : xc G (A 2) (.inl (ty 0, 256, .inr (.inr (.inr (.inl co))))) H_2 := y_2.kept (hs_2.2.2 _ (hA.1 2 (by decide)))
    have hc_A3_2 : xc G (A 3) (.inl (ty 0, 32, .inr (.inr (.inr (.inl dr))))) H_2 := y_3.kept (hs_2.2.2 _ (hA.1 3 (by decide)))
    have hc_A4_2 : xc G (A 4) (.inl (ty 2, 64, .inl bu)) H_2 := y_4.kept (hs_2.2.2 _ (hA.1 4 (by decide)))
    have hc_A5_2 : xc G (A 5) (.inl (ty 0, 4, .inr (.inr (.inr (.inl wi))))) H_2 := y_5.kept (hs_2.2.2 _ (hA.1 5 (by decide)))
    have hc_A6_2 : xc G (A 6) (.inl (ty 0, 4, .inr (.inr (.inr (.inl hi))))) H_2 := y_6.kept (hs_2.2.2 _ (hA.1 6 (by decide)))
    have hc_A7_2 : xc G (A 7) (.inl (ty 1, 4, .inl fc)) H_2 := y_7.kept (hs_2.2.2 _ (hA.1 7 (by decide)))
    have hc_A8_2 : xc G (A 8) (.inl (ty 0, 128, .inr (.inr (.inr (.inl fa))))) H_2 := y_8.kept (hs_2.2.2 _ (hA.1 8 (by decide)))
    have hc_A9_2 : xc G (A 9) (.inl (ty 1, 8, .inl lo)) H_2 := y_9.kept (hs_2.2.2 _ (hA.1 9 (by decide)))
    have hc_A10_2 : xc G (A 10) (.inl (ty 1, 8, .inl la)) H_2 := y_10.kept (hs_2.2.2 _ (hA.1 10 (by decide)))
    have hfr_2 : xRfr m0 A H H_2 := xRfr.put0 xRfr.rf hs_2
    refine lv_dconst0 hx hb dX7_girth_21 ?_
    refine lv_dstore_n (lv' := [(2, .double FP.dconst0), (0, .ref m0), (1, .int (f))]) hx hb dX7_girth_22 rfl hl (by decide) rfl (fun ls hl => ?_)
    refine lv_iconst (v := nI 0) hx hb dX7_girth_23 (by decide) ?_
    refine lv_istore (lv' := [(4, .int (nI 0)), (2, .double FP.dconst0), (0, .ref m0), (1, .int (f))]) hx hb dX7_girth_24 hl (by decide) rfl (fun ls hl => ?_)
    refine lv_iload hx hb dX7_girth_26 (lv_at hl 0 rfl) ?_
    refine lv_aload_n hx hb dX7_girth_28 rfl (lv_at hl 2 rfl) ?_
    refine va_get (D := G) (cl := vwCl) (ci := 8) (v := .int (nI R)) (C := RX7) (T := TX7) (N := 18) hx hb (hts d0) in_X7_girth_X7 hown hK.1 (x1 hc_2) 0 rfl rfl 2 (by decide) (hts d0 _ hw_X7_girth_3) (fun _ h9 => h9) rfl dX7_girth_29 ?_
    refine lv_iconst (v := nI 1) hx hb dX7_girth_32 (by decide) ?_
    refine xisubN hx hb (by omega) dX7_girth_33 ?_
    refine xicmpN_ge (tgt := 65) hx hb (by decide) (by omega) dX7_girth_34 (by decide) (fun h9 => absurd h9 (by omega)) (fun _ => ?_)
    refine lv_aload_n hx hb dX7_girth_37 rfl (lv_at hl 2 rfl) ?_
    refine va_get (D := G) (cl := vwCl) (ci := 8) (v := .int (nI 1)) (C := RX7) (T := TX7) (N := 18) hx hb (hts d0) in_X7_girth_X7 hown hK.1 (x1 hc_2) 0 rfl rfl 0 (by decide) (hts d0 _ hw_X7_girth_2) (fun _ h9 => h9) rfl dX7_girth_38 ?_
    refine lv_if_ne (tgt := 65) hx hb dX7_girth_41 (by decide) (fun _ => ?_) (fun h9 => (show False by revert h9; decide).elim)
    refine lv_dload_n hx hb dX7_girth_65 rfl (lv_at hl 1 rfl) ?_
    exact xdret hd0 hx hb hr hlocks hS (Nat.le_of_ble_eq_true rfl) (Nat.le_of_ble_eq_true rfl) dX7_girth_66 ⟨nI 1, ⟨hc_2, hc_A0_2, hc_A1_2, hc_A2_2, hc_A3_2, hc_A4_2, hc_A5_2, hc_A6_2, hc_A7_2, hc_A8_2, hc_A9_2, hc_A10_2⟩, hfr_2, _, rfl, Or.inr ⟨rfl, xin_no0 c_1⟩⟩
  · refine lv_iload_n hx hb dX7_girth_5 rfl (lv_at hl 1 rfl) ?_
    refine lv_aload_n hx hb dX7_girth_6 rfl (lv_at hl 0 rfl) ?_
    refine va_get (D := G) (cl := vwCl) (ci := 8) (v := .int (nI F)) (C := RX7) (T := TX7) (N := 18) hx hb (hts d0) in_X7_girth_X7 hown hK.1 (x1 y_o) 0 rfl rfl 1 (by decide) (hts d0 _ hw_X7_girth_1) (fun _ h9 => h9) rfl dX7_girth_7 ?_
    refine lv_icmp_lt (tgt := 17) hx hb dX7_girth_10 (by decide) (fun c_5 => ?_) (fun c_5 => ?_)
    · have z_f := xin_lt c_1 c_5 (by omega)
      obtain ⟨f9, hf9, ef9⟩ := vp_in_of z_f (by omega)
      subst ef9
      refine lv_iconst (v := nI 0) hx hb dX7_girth_17 (by decide) ?_
      refine xput (G := G) (ci := 8) (v := .int (nI 0)) (ty := .int) (C := RX7) (T := TX7) (N := 18) hx hb (hts d0) in_X7_girth_X7 tyX7 tyX7_ok nmX7 hown hK.1 y_o hS hB.1 rfl 0 (by decide) (hts d0 _ hw_X7_girth_2) (fun _ h9 => h9) rfl (by decide +kernel) rfl rfl (Nat.le_of_ble_eq_true rfl) dX7_girth_18 (fun H_6 locs_6 hs_6 hS => ?_)
      have hc_6 : xc G m0 (.inr (8, [.int (nI 0), .int (nI F), .int (nI R), .ref (A 0), .ref (A 1), .ref (A 2), .ref (A 3), .ref (A 4), .int (nI nb), .ref (A 5), .ref (A 6), .ref (A 7), .ref (A 8), .ref (A 9), .ref (A 10), .double px, .double py, .double pz])) H_6 := hs_6.1
      have hc_A0_6 : xc G (A 0) (.inl (ty 0, 192, .inr (.inr (.inr (.inl pl))))) H_6 := y_0.kept (hs_6.2.2 _ (hA.1 0 (by decide)))
      have hc_A1_6 : xc G (A 1) (.inl (ty 2, 8, .inl un)) H_6 := y_1.kept (hs_6.2.2 _ (hA.1 1 (by decide)))
      have hc_A2_6 : xc G (A 2) (.inl (ty 0, 256, .inr (.inr (.inr (.inl co))))) H_6 := y_2.kept (hs_6.2.2 _ (hA.1 2 (by decide)))
      have hc_A3_6 : xc G (A 3) (.inl (ty 0, 32, .inr (.inr (.inr (.inl dr))))) H_6 := y_3.kept (hs_6.2.2 _ (hA.1 3 (by decide)))
      have hc_A4_6 : xc G (A 4) (.inl (ty 2, 64, .inl bu)) H_6 := y_4.kept (hs_6.2.2 _ (hA.1 4 (by decide)))
      have hc_A5_6 : xc G (A 5) (.inl (ty 0, 4, .inr (.inr (.inr (.inl wi))))) H_6 := y_5.kept (hs_6.2.2 _ (hA.1 5 (by decide)))
      have hc_A6_6 : xc G (A 6) (.inl (ty 0, 4, .inr (.inr (.inr (.inl hi))))) H_6 := y_6.kept (hs_6.2.2 _ (hA.1 6 (by decide)))
      have hc_A7_6 : xc G (A 7) (.inl (ty 1, 4, .inl fc)) H_6 := y_7.kept (hs_6.2.2 _ (hA.1 7 (by decide)))
      have hc_A8_6 : xc G (A 8) (.inl (ty 0, 128, .inr (.inr (.inr (.inl fa))))) H_6 := y_8.kept (hs_6.2.2 _ (hA.1 8 (by decide)))
      have hc_A9_6 : xc G (A 9) (.inl (ty 1, 8, .inl lo)) H_6 := y_9.kept (hs_6.2.2 _ (hA.1 9 (by decide)))
      have hc_A10_6 : xc G (A 10) (.inl (ty 1, 8, .inl la)) H_6 := y_10.kept (hs_6.2.2 _ (hA.1 10 (by decide)))
      have hfr_6 : xRfr m0 A H H_6 := xRfr.put0 xRfr.rf hs_6
      refine lv_dconst0 hx hb dX7_girth_21 ?_
      refine lv_dstore_n (lv' := [(2, .double FP.dconst0), (0, .ref m0), (1, .int (nI f9))]) hx hb dX7_girth_22 rfl hl (by decide) rfl (fun ls hl => ?_)
      refine lv_iconst (v := nI 0) hx hb dX7_girth_23 (by decide) ?_
      refine lv_istore (lv' := [(4, .int (nI 0)), (2, .double FP.dconst0), (0, .ref m0), (1, .int (nI f9))]) hx hb dX7_girth_24 hl (by decide) rfl (fun ls hl => ?_)
      suffices K : ∀ (n : Nat) (k : Nat) (sm : UInt64) (locs : List Loc) (d0 : Drawn) (ls : Array Slot), k + n = R - 1 ∧ vq sm (pGir pl f9 k) → va_S (xA b0) s.heap H_6 locs → s.drawn.sameBut d0 lw_cs → lv_has ls 5 [(4, .int (nI k)), (2, .double sm), (0, .ref m0), (1, .int (nI f9))] → W p l e rm_X7_girth (s.setDrawn d0) m [Value.ref m0, Value.int ((nI f9))].toArray below meth c H_6 locs (0) (0) (xMQ below (fun v H1 => ∃ T : Int32, xRef G ty m0 A T F R pl un co dr bu nb wi hi fc fa lo la px py pz H1 ∧ xRfr m0 A H H1 ∧ ∃ z : UInt64, v = some (.double z) ∧ ((T = nI 0 ∧ (vp_in (nI f9) F) ∧ vq z (pGir pl (nI f9).toNatClampNeg (R - 1))) ∨ (T = nI 1 ∧ ¬ (vp_in (nI f9) F)))) (fun _ _ => False) [.ref m0, .int ((nI f9))].toArray s rm_X7_girth b0) (F0 m 26 ls []) from K (R - 1) 0 FP.dconst0 _ d0 ls ⟨by omega, vq_rf _⟩ hS hd0 (lv_sub hl [0, 1, 2, 3] rfl)
      intro n
      induction n with
      | zero =>
        intro k sm locs d0 ls hinv hS hd0 hl
        obtain ⟨hk, hsm⟩ := hinv
        refine lv_iload hx hb dX7_girth_26 (lv_at hl 0 rfl) ?_
        refine lv_aload_n hx hb dX7_girth_28 rfl (lv_at hl 2 rfl) ?_
        refine va_get (D := G) (cl := vwCl) (ci := 8) (v := .int (nI R)) (C := RX7) (T := TX7) (N := 18) hx hb (hts d0) in_X7_girth_X7 hown hK.1 (x1 hc_6) 0 rfl rfl 2 (by decide) (hts d0 _ hw_X7_girth_3) (fun _ h9 => h9) rfl dX7_girth_29 ?_
        refine lv_iconst (v := nI 1) hx hb dX7_girth_32 (by decide) ?_
        refine xisubN hx hb (by omega) dX7_girth_33 ?_
        refine xicmpN_ge (tgt := 65) hx hb (by omega) (by omega) dX7_girth_34 (by decide) (fun _ => ?_) (fun h9 => absurd h9 (by omega))
        refine lv_dload_n hx hb dX7_girth_65 rfl (lv_at hl 1 rfl) ?_
        exact xdret hd0 hx hb hr hlocks hS (Nat.le_of_ble_eq_true rfl) (Nat.le_of_ble_eq_true rfl) dX7_girth_66 ⟨nI 0, ⟨hc_6, hc_A0_6, hc_A1_6, hc_A2_6, hc_A3_6, hc_A4_6, hc_A5_6, hc_A6_6, hc_A7_6, hc_A8_6, hc_A9_6, hc_A10_6⟩, hfr_6, _, rfl, Or.inl ⟨rfl, z_f, by have e9 : k = R - 1 := (by omega); subst e9; rw [nN_nI (by omega)]; exact hsm⟩⟩
      | succ n ih =>
        intro k sm locs d0 ls hinv hS hd0 hl
        obtain ⟨hk, hsm⟩ := hinv
        refine lv_iload hx hb dX7_girth_26 (lv_at hl 0 rfl) ?_
        refine lv_aload_n hx hb dX7_girth_28 rfl (lv_at hl 2 rfl) ?_
        refine va_get (D := G) (cl := vwCl) (ci := 8) (v := .int (nI R)) (C := RX7) (T := TX7) (N := 18) hx hb (hts d0) in_X7_girth_X7 hown hK.1 (x1 hc_6) 0 rfl rfl 2 (by decide) (hts d0 _ hw_X7_girth_3) (fun _ h9 => h9) rfl dX7_girth_29 ?_
        refine lv_iconst (v := nI 1) hx hb dX7_girth_32 (by decide) ?_
        refine xisubN hx hb (by omega) dX7_girth_33 ?_
        refine xicmpN_ge (tgt := 65) hx hb (by omega) (by omega) dX7_girth_34 (by decide) (fun h9 => absurd h9 (by omega)) (fun _ => ?_)
        refine lv_aload_n hx hb dX7_girth_37 rfl (lv_at hl 2 rfl) ?_
        refine va_get (D := G) (cl := vwCl) (ci := 8) (v := .int (nI 0)) (C := RX7) (T := TX7) (N := 18) hx hb (hts d0) in_X7_girth_X7 hown hK.1 (x1 hc_6) 0 rfl rfl 0 (by decide) (hts d0 _ hw_X7_girth_2) (fun _ h9 => h9) rfl dX7_girth_38 ?_
        refine lv_if_ne (tgt := 65) hx hb dX7_girth_41 (by decide) (fun h9 => (show False by revert h9; decide).elim) (fun _ => ?_)
        refine lv_dload_n hx hb dX7_girth_44 rfl (lv_at hl 1 rfl) ?_
        refine lv_aload_n hx hb dX7_girth_45 rfl (lv_at hl 2 rfl) ?_
        refine lv_iload_n hx hb dX7_girth_46 rfl (lv_at hl 3 rfl) ?_
        refine lv_iload hx hb dX7_girth_47 (lv_at hl 0 rfl) ?_
        refine lv_iload_n hx hb dX7_girth_49 rfl (lv_at hl 3 rfl) ?_
        refine lv_iload hx hb dX7_girth_50 (lv_at hl 0 rfl) ?_
        refine lv_iconst (v := nI 1) hx hb dX7_girth_52 (by decide) ?_
        refine xiaddN hx hb dX7_girth_53 ?_
        have cw_10 := cwV (R := rm_X7_girth) (rm := rm_X7_far) 4 (hts d0) gX7_girth_X7_far rfl rfl rfl (by decide +kernel) ⟨Nat.le_of_ble_eq_true rfl, Nat.le_of_ble_eq_true rfl⟩
        refine xcall hd0 (xintoV (b := m0) (As := [.int (nI f9), .int (nI k), .int (nI f9), .int (nI (k + 1))]) (rest := [.double sm]) ⟨hx, hb, hml, hown, hts _⟩ cw_10 (va_recv hK.1 (x1 hc_6) (ci := 8) (q0 := 0) rfl rfl) rfl rfl hl.1 rfl (lv_room (Nat.le_of_ble_eq_true rfl)) dX7_girth_54) (c_X7_far (l := l) (G := G) (ty := ty) (b0 := b0) (f := f9) (r := k) (g := f9) (q := k + 1) (by omega) (by omega) (by omega) (by omega) (⟨hc_6, hc_A0_6, hc_A1_6, hc_A2_6, hc_A3_6, hc_A4_6, hc_A5_6, hc_A6_6, hc_A7_6, hc_A8_6, hc_A9_6, hc_A10_6⟩ : xRef G ty m0 A (nI 0) F R pl un co dr bu nb wi hi fc fa lo la px py pz H_6) hZ) (xoweB cw_10.1) hK hb0 hS (Nat.le_of_ble_eq_true rfl) (Nat.le_of_ble_eq_true rfl) (fun E_10 ce_10 q9_10 H_10 locs_10 d0 hd0 hp_10 hS hce_10 hcv_10 hcl_10 => ?_) (fun v_10 H_10 locs_10 d0 hd0 hp_10 hS => ?_)
        · exact hp_10.elim
        · obtain ⟨rfl, r_10, rfl, q_10⟩ := hp_10
          show W p l e _ (s.setDrawn _) m _ below meth c _ _ _ _ _ (F0 m 57 ls [.double r_10, .double sm])
          refine xdadd hd0 hx hb hsm q_10 dX7_girth_57 (fun r_11 d0 q_11 hd0 => ?_)
          refine lv_dstore_n (lv' := [(2, .double r_11), (4, .int (nI k)), (0, .ref m0), (1, .int (nI f9))]) hx hb dX7_girth_58 rfl hl (by decide) rfl (fun ls hl => ?_)
          refine xiincN (x := k) (y := 1) (lv' := [(4, .int (nI (k + 1))), (2, .double r_11), (0, .ref m0), (1, .int (nI f9))]) hx hb dX7_girth_59 hl (k := 1) rfl (by decide) (by decide) rfl (fun ls hl => ?_)
          refine lv_goto (tgt := 26) hx hb dX7_girth_62 (by decide) ?_
          exact ih (k + 1) r_11 _ d0 ls ⟨by omega, q_11⟩ hS hd0 (lv_sub hl [0, 1, 2, 3] rfl)
    · refine lv_iconst (v := nI 1) hx hb dX7_girth_13 (by decide) ?_
      refine lv_goto (tgt := 18) hx hb dX7_girth_14 (by decide) ?_
      refine xput (G := G) (ci := 8) (v := .int (nI 1)) (ty := .int) (C := RX7) (T := TX7) (N := 18) hx hb (hts d0) in_X7_girth_X7 tyX7 tyX7_ok nmX7 hown hK.1 y_o hS hB.1 rfl 0 (by decide) (hts d0 _ hw_X7_girth_2) (fun _ h9 => h9) rfl (by decide +kernel) rfl rfl (Nat.le_of_ble_eq_true rfl) dX7_girth_18 (fun H_12 locs_12 hs_12 hS => ?_)
      have hc_12 : xc G m0 (.inr (8, [.int (nI 1), .int (nI F), .int (nI R), .ref (A 0), .ref (A 1), .ref (A 2), .ref (A 3), .ref (A 4), .int (nI nb), .ref (A 5), .ref (A 6), .ref (A 7), .ref (A 8), .ref (A 9), .ref (A 10), .double px, .double py, .double pz])) H_12 := hs_12.1
      have hc_A0_12 : xc G (A 0) (.inl (ty 0, 192, .inr (.inr (.inr (.inl pl))))) H_12 := y_0.kept (hs_12.2.2 _ (hA.1 0 (by decide)))
      have hc_A1_12 : xc G (A 1) (.inl (ty 2, 8, .inl un)) H_12 := y_1.kept (hs_12.2.2 _ (hA.1 1 (by decide)))
      have hc_A2_12 : xc G (A 2) (.inl (ty 0, 256, .inr (.inr (.inr (.inl co))))) H_12 := y_2.kept (hs_12.2.2 _ (hA.1 2 (by decide)))
      have hc_A3_12 : xc G (A 3) (.inl (ty 0, 32, .inr (.inr (.inr (.inl dr))))) H_12 := y_3.kept (hs_12.2.2 _ (hA.1 3 (by decide)))
      have hc_A4_12 : xc G (A 4) (.inl (ty 2, 64, .inl bu)) H_12 := y_4.kept (hs_12.2.2 _ (hA.1 4 (by decide)))
      have hc_A5_12 : xc G (A 5) (.inl (ty 0, 4, .inr (.inr (.inr (.inl wi))))) H_12 := y_5.kept (hs_12.2.2 _ (hA.1 5 (by decide)))
      have hc_A6_12 : xc G (A 6) (.inl (ty 0, 4, .inr (.inr (.inr (.inl hi))))) H_12 := y_6.kept (hs_12.2.2 _ (hA.1 6 (by decide)))
      have hc_A7_12 : xc G (A 7) (.inl (ty 1, 4, .inl fc)) H_12 := y_7.kept (hs_12.2.2 _ (hA.1 7 (by decide)))
      have hc_A8_12 : xc G (A 8) (.inl (ty 0, 128, .inr (.inr (.inr (.inl fa))))) H_12 := y_8.kept (hs_12.2.2 _ (hA.1 8 (by decide)))
      have hc_A9_12 : xc G (A 9) (.inl (ty 1, 8, .inl lo)) H_12 := y_9.kept (hs_12.2.2 _ (hA.1 9 (by decide)))
      have hc_A10_12 : xc G (A 10) (.inl (ty 1, 8, .inl la)) H_12 := y_10.kept (hs_12.2.2 _ (hA.1 10 (by decide)))
      have hfr_12 : xRfr m0 A H H_12 := xRfr.put0 xRfr.rf hs_12
      refine lv_dconst0 hx hb dX7_girth_21 ?_
      refine lv_dstore_n (lv' := [(2, .double FP.dconst0), (0, .ref m0), (1, .int (f))]) hx hb dX7_girth_22 rfl hl (by decide) rfl (fun ls hl => ?_)
      refine lv_iconst (v := nI 0) hx hb dX7_girth_23 (by decide) ?_
      refine lv_istore (lv' := [(4, .int (nI 0)), (2, .double FP.dconst0), (0, .ref m0), (1, .int (f))]) hx hb dX7_girth_24 hl (by decide) rfl (fun ls hl => ?_)
      refine lv_iload hx hb dX7_girth_26 (lv_at hl 0 rfl) ?_
      refine lv_aload_n hx hb dX7_girth_28 rfl (lv_at hl 2 rfl) ?_
      refine va_get (D := G) (cl := vwCl) (ci := 8) (v := .int (nI R)) (C := RX7) (T := TX7) (N := 18) hx hb (hts d0) in_X7_girth_X7 hown hK.1 (x1 hc_12) 0 rfl rfl 2 (by decide) (hts d0 _ hw_X7_girth_3) (fun _ h9 => h9) rfl dX7_girth_29 ?_
      refine lv_iconst (v := nI 1) hx hb dX7_girth_32 (by decide) ?_
      refine xisubN hx hb (by omega) dX7_girth_33 ?_
      refine xicmpN_ge (tgt := 65) hx hb (by decide) (by omega) dX7_girth_34 (by decide) (fun h9 => absurd h9 (by omega)) (fun _ => ?_)
      refine lv_aload_n hx hb dX7_girth_37 rfl (lv_at hl 2 rfl) ?_
      refine va_get (D := G) (cl := vwCl) (ci := 8) (v := .int (nI 1)) (C := RX7) (T := TX7) (N := 18) hx hb (hts d0) in_X7_girth_X7 hown hK.1 (x1 hc_12) 0 rfl rfl 0 (by decide) (hts d0 _ hw_X7_girth_2) (fun _ h9 => h9) rfl dX7_girth_38 ?_
      refine lv_if_ne (tgt := 65) hx hb dX7_girth_41 (by decide) (fun _ => ?_) (fun h9 => (show False by revert h9; decide).elim)
      refine lv_dload_n hx hb dX7_girth_65 rfl (lv_at hl 1 rfl) ?_
      exact xdret hd0 hx hb hr hlocks hS (Nat.le_of_ble_eq_true rfl) (Nat.le_of_ble_eq_true rfl) dX7_girth_66 ⟨nI 1, ⟨hc_12, hc_A0_12, hc_A1_12, hc_A2_12, hc_A3_12, hc_A4_12, hc_A5_12, hc_A6_12, hc_A7_12, hc_A8_12, hc_A9_12, hc_A10_12⟩, hfr_12, _, rfl, Or.inr ⟨rfl, xin_nlt c_5 (by omega)⟩⟩
/-- a strip and the next one keep a span -/
def pSp (bu : Nat → Int32) (F R n x : Nat) : Prop := pKeeps bu F x x (2 * n) ∧ (x = R - 2 ∨ pKeeps bu F x (x + 1) n)
set_option maxRecDepth 20000 in
theorem ggX7_spans_X7_keeps : GoodIn wsX7_spans wsX7_keeps := goodIn_r _ [7, 8, 9, 10, 11, 12, 13, 14, 15, 16, 17, 18, 19, 20, 21, 22, 23, 24, 25, 26, 27] (by decide +kernel) (by decide +kernel)
set_option maxRecDepth 20000 in
theorem gX7_spans_X7_keeps : GoodIn wsX7_spans (wsV RX7 118 RX7 yX7_keeps wsX7_keeps) := goodIn_app (goodIn_of _ (by decide +kernel)) ggX7_spans_X7_keeps
theorem dX7_spans_0 : decode cX7_spans 0 = .ok (.aload_n 0, 1) := by decide +kernel
theorem dX7_spans_1 : decode cX7_spans 1 = .ok (.iload_n 1, 1) := by decide +kernel
theorem dX7_spans_2 : decode cX7_spans 2 = .ok (.iconst 1, 1) := by decide +kernel
theorem dX7_spans_3 : decode cX7_spans 3 = .ok (.if_icmp .lt 9, 3) := by decide +kernel
theorem dX7_spans_6 : decode cX7_spans 6 = .ok (.iload_n 1, 1) := by decide +kernel
theorem dX7_spans_7 : decode cX7_spans 7 = .ok (.bipush 8, 2) := by decide +kernel
theorem dX7_spans_9 : decode cX7_spans 9 = .ok (.if_icmp .le 7, 3) := by decide +kernel
theorem dX7_spans_12 : decode cX7_spans 12 = .ok (.iconst 1, 1) := by decide +kernel
theorem dX7_spans_13 : decode cX7_spans 13 = .ok (.goto 4, 3) := by decide +kernel
theorem dX7_spans_16 : decode cX7_spans 16 = .ok (.iconst 0, 1) := by decide +kernel
theorem dX7_spans_17 : decode cX7_spans 17 = .ok (.putfield 52, 3) := by decide +kernel
theorem dX7_spans_20 : decode cX7_spans 20 = .ok (.aload_n 0, 1) := by decide +kernel
theorem dX7_spans_21 : decode cX7_spans 21 = .ok (.getfield 52, 3) := by decide +kernel
theorem dX7_spans_24 : decode cX7_spans 24 = .ok (.ifCond .ne 7, 3) := by decide +kernel
theorem dX7_spans_27 : decode cX7_spans 27 = .ok (.iconst 1, 1) := by decide +kernel
theorem dX7_spans_28 : decode cX7_spans 28 = .ok (.goto 4, 3) := by decide +kernel
theorem dX7_spans_31 : decode cX7_spans 31 = .ok (.iconst 0, 1) := by decide +kernel
theorem dX7_spans_32 : decode cX7_spans 32 = .ok (.istore_n 2, 1) := by decide +kernel
theorem dX7_spans_33 : decode cX7_spans 33 = .ok (.iconst 0, 1) := by decide +kernel
theorem dX7_spans_34 : decode cX7_spans 34 = .ok (.istore_n 3, 1) := by decide +kernel
theorem dX7_spans_35 : decode cX7_spans 35 = .ok (.iload_n 3, 1) := by decide +kernel
theorem dX7_spans_36 : decode cX7_spans 36 = .ok (.aload_n 0, 1) := by decide +kernel
theorem dX7_spans_37 : decode cX7_spans 37 = .ok (.getfield 49, 3) := by decide +kernel
theorem dX7_spans_40 : decode cX7_spans 40 = .ok (.iconst 1, 1) := by decide +kernel
theorem dX7_spans_41 : decode cX7_spans 41 = .ok (.isub, 1) := by decide +kernel
theorem dX7_spans_42 : decode cX7_spans 42 = .ok (.if_icmp .ge 53, 3) := by decide +kernel
theorem dX7_spans_45 : decode cX7_spans 45 = .ok (.iload_n 2, 1) := by decide +kernel
theorem dX7_spans_46 : decode cX7_spans 46 = .ok (.ifCond .eq 49, 3) := by decide +kernel
theorem dX7_spans_49 : decode cX7_spans 49 = .ok (.aload_n 0, 1) := by decide +kernel
theorem dX7_spans_50 : decode cX7_spans 50 = .ok (.iload_n 3, 1) := by decide +kernel
theorem dX7_spans_51 : decode cX7_spans 51 = .ok (.iload_n 3, 1) := by decide +kernel
theorem dX7_spans_52 : decode cX7_spans 52 = .ok (.iconst 2, 1) := by decide +kernel
theorem dX7_spans_53 : decode cX7_spans 53 = .ok (.iload_n 1, 1) := by decide +kernel
theorem dX7_spans_54 : decode cX7_spans 54 = .ok (.imul, 1) := by decide +kernel
theorem dX7_spans_55 : decode cX7_spans 55 = .ok (.invokevirtual 118, 3) := by decide +kernel
theorem dX7_spans_58 : decode cX7_spans 58 = .ok (.ifCond .eq 29, 3) := by decide +kernel
theorem dX7_spans_61 : decode cX7_spans 61 = .ok (.iload_n 3, 1) := by decide +kernel
theorem dX7_spans_62 : decode cX7_spans 62 = .ok (.aload_n 0, 1) := by decide +kernel
theorem dX7_spans_63 : decode cX7_spans 63 = .ok (.getfield 49, 3) := by decide +kernel
theorem dX7_spans_66 : decode cX7_spans 66 = .ok (.iconst 2, 1) := by decide +kernel
theorem dX7_spans_67 : decode cX7_spans 67 = .ok (.isub, 1) := by decide +kernel
theorem dX7_spans_68 : decode cX7_spans 68 = .ok (.if_icmp .eq 15, 3) := by decide +kernel
theorem dX7_spans_71 : decode cX7_spans 71 = .ok (.aload_n 0, 1) := by decide +kernel
theorem dX7_spans_72 : decode cX7_spans 72 = .ok (.iload_n 3, 1) := by decide +kernel
theorem dX7_spans_73 : decode cX7_spans 73 = .ok (.iload_n 3, 1) := by decide +kernel
theorem dX7_spans_74 : decode cX7_spans 74 = .ok (.iconst 1, 1) := by decide +kernel
theorem dX7_spans_75 : decode cX7_spans 75 = .ok (.iadd, 1) := by decide +kernel
theorem dX7_spans_76 : decode cX7_spans 76 = .ok (.iload_n 1, 1) := by decide +kernel
theorem dX7_spans_77 : decode cX7_spans 77 = .ok (.invokevirtual 118, 3) := by decide +kernel
theorem dX7_spans_80 : decode cX7_spans 80 = .ok (.ifCond .eq 7, 3) := by decide +kernel
theorem dX7_spans_83 : decode cX7_spans 83 = .ok (.iconst 1, 1) := by decide +kernel
theorem dX7_spans_84 : decode cX7_spans 84 = .ok (.goto 4, 3) := by decide +kernel
theorem dX7_spans_87 : decode cX7_spans 87 = .ok (.iconst 0, 1) := by decide +kernel
theorem dX7_spans_88 : decode cX7_spans 88 = .ok (.istore_n 2, 1) := by decide +kernel
theorem dX7_spans_89 : decode cX7_spans 89 = .ok (.iinc 3 1, 3) := by decide +kernel
theorem dX7_spans_92 : decode cX7_spans 92 = .ok (.goto (-57), 3) := by decide +kernel
theorem dX7_spans_95 : decode cX7_spans 95 = .ok (.iload_n 2, 1) := by decide +kernel
theorem dX7_spans_96 : decode cX7_spans 96 = .ok (.ireturn, 1) := by decide +kernel
abbrev rm_X7_spans : Room := { frames := 7, cells := 0, slots := 0, locals := 140 }
theorem hw_X7_spans_1 : (Cond.fieldLink RX7 52 "PlankUnrollModel" "thrown" "I") ∈ wsX7_spans := List.mem_of_getElem? (i := 1) rfl
theorem hw_X7_spans_2 : (Cond.fieldLink RX7 49 "PlankUnrollModel" "rows" "I") ∈ wsX7_spans := List.mem_of_getElem? (i := 2) rfl
theorem in_X7_spans_X7 : ∀ w ∈ wsX70, w ∈ wsX7_spans := by decide +kernel
set_option maxHeartbeats 4000000 in
set_option maxRecDepth 100000 in
/-- spans -/
theorem c_X7_spans {l : Launch} {G : va_G} {ty : Nat → ClassId} {b0 : Nat} {H : Heap} {n : Int32} {m0 : Nat} {A : Nat → Nat} {th : Int32} {F R nb : Nat} {pl co dr wi hi fa : Nat → UInt64} {un bu fc lo la : Nat → Int32} {px py pz : UInt64} (hY : xRef G ty m0 A th F R pl un co dr bu nb wi hi fc fa lo la px py pz H) (hZ : xSz F R) (hA : xAp m0 A) (hB : xNw b0 m0 A) : xMet l yX7_spans wsX7_spans rm_X7_spans G ty b0 [.ref m0, .int (n)] H (fun v H1 => ∃ T : Int32, xRef G ty m0 A T F R pl un co dr bu nb wi hi fc fa lo la px py pz H1 ∧ xRfr m0 A H H1 ∧ ∃ z : Int32, v = some (.int z) ∧ ((T = nI 0 ∧ (¬ n < nI 1 ∧ n ≤ nI 8) ∧ z = xP (∀ x9 : Nat, x9 < R - 1 → pSp bu F R n.toNatClampNeg x9)) ∨ (T = nI 1 ∧ ¬ (¬ n < nI 1 ∧ n ≤ nI 8)))) (fun _ _ => False) := by
  refine xbody (cc := cX7_spans) (maxL := 4) (ret := (some .boolean)) (C := RX7) (lv := [(0, .ref m0), (1, .int (n))]) (by decide) rfl rfl (Nat.le_of_ble_eq_true rfl) rfl ?_
  intro p e s m below meth c d0 hx hb hr hts hown hlocks hml hxt hnm0 hK hb0 hH0 hS hd0 ls hl
  obtain ⟨y_o, y_0, y_1, y_2, y_3, y_4, y_5, y_6, y_7, y_8, y_9, y_10⟩ := id hY
  obtain ⟨⟨zF2, zF8⟩, ⟨zR2, zR8⟩⟩ := id hZ
  refine lv_aload_n hx hb dX7_spans_0 rfl (lv_at hl 0 rfl) ?_
  refine lv_iload_n hx hb dX7_spans_1 rfl (lv_at hl 1 rfl) ?_
  refine lv_iconst (v := nI 1) hx hb dX7_spans_2 (by decide) ?_
  refine lv_icmp_lt (tgt := 12) hx hb dX7_spans_3 (by decide) (fun c_1 => ?_) (fun c_1 => ?_)
  · refine lv_iconst (v := nI 1) hx hb dX7_spans_12 (by decide) ?_
    refine lv_goto (tgt := 17) hx hb dX7_spans_13 (by decide) ?_
    refine xput (G := G) (ci := 8) (v := .int (nI 1)) (ty := .int) (C := RX7) (T := TX7) (N := 18) hx hb (hts d0) in_X7_spans_X7 tyX7 tyX7_ok nmX7 hown hK.1 y_o hS hB.1 rfl 0 (by decide) (hts d0 _ hw_X7_spans_1) (fun _ h9 => h9) rfl (by decide +kernel) rfl rfl (Nat.le_of_ble_eq_true rfl) dX7_spans_17 (fun H_2 locs_2 hs_2 hS => ?_)
    have hc_2 : xc G m0 (.inr (8, [.int (nI 1), .int (nI F), .int (nI R), .ref (A 0), .ref (A 1), .ref (A 2), .ref (A 3), .ref (A 4), .int (nI nb), .ref (A 5), .ref (A 6), .ref (A 7), .ref (A 8), .ref (A 9), .ref (A 10), .double px, .double py, .double pz])) H_2 := hs_2.1
    have hc_A0_2 : xc G (A 0) (.inl (ty 0, 192, .inr (.inr (.inr (.inl pl))))) H_2 := y_0.kept (hs_2.2.2 _ (hA.1 0 (by decide)))
    have hc_A1_2 : xc G (A 1) (.inl (ty 2, 8, .inl un)) H_2 := y_1.kept (hs_2.2.2 _ (hA.1 1 (by decide)))
    have hc_A2_2 : xc G (A 2) (.inl (ty 0, 256, .inr (.inr (.inr (.inl co))))) H_2 := y_2.kept (hs_2.2.2 _ (hA.1 2 (by decide)))
    have hc_A3_2 : xc G (A 3) (.inl (ty 0, 32, .inr (.inr (.inr (.inl dr))))) H_2 := y_3.kept (hs_2.2.2 _ (hA.1 3 (by decide)))
    have hc_A4_2 : xc G (A 4) (.inl (ty 2, 64, .inl bu)) H_2 := y_4.kept (hs_2.2.2 _ (hA.1 4 (by decide)))
    have hc_A5_2 : xc G (A 5) (.inl (ty 0, 4, .inr (.inr (.inr (.inl wi))))) H_2 := y_5.kept (hs_2.2.2 _ (hA.1 5 (by decide)))
    have hc_A6_2 : xc G (A 6) (.inl (ty 0, 4, .inr (.inr (.inr (.inl hi))))) H_2 := y_6.kept (hs_2.2.2 _ (hA.1 6 (by decide)))
    have hc_A7_2 : xc G (A 7) (.inl (ty 1, 4, .inl fc)) H_2 := y_7.kept (hs_2.2.2 _ (hA.1 7 (by decide)))
    have hc_A8_2 : xc G (A 8) (.inl (ty 0, 128, .inr (.inr (.inr (.inl fa))))) H_2 := y_8.kept (hs_2.2.2 _ (hA.1 8 (by decide)))
    have hc_A9_2 : xc G (A 9) (.inl (ty 1, 8, .inl lo)) H_2 := y_9.kept (hs_2.2.2 _ (hA.1 9 (by decide)))
    have hc_A10_2 : xc G (A 10) (.inl (ty 1, 8, .inl la)) H_2 := y_10.kept (hs_2.2.2 _ (hA.1 10 (by decide)))
    have hfr_2 : xRfr m0 A H H_2 := xRfr.put0 xRfr.rf hs_2
    refine lv_aload_n hx hb dX7_spans_20 rfl (lv_at hl 0 rfl) ?_
    refine va_get (D := G) (cl := vwCl) (ci := 8) (v := .int (nI 1)) (C := RX7) (T := TX7) (N := 18) hx hb (hts d0) in_X7_spans_X7 hown hK.1 (x1 hc_2) 0 rfl rfl 0 (by decide) (hts d0 _ hw_X7_spans_1) (fun _ h9 => h9) rfl dX7_spans_21 ?_
    refine lv_if_ne (tgt := 31) hx hb dX7_spans_24 (by decide) (fun _ => ?_) (fun h9 => (show False by revert h9; decide).elim)
    refine lv_iconst (v := nI 0) hx hb dX7_spans_31 (by decide) ?_
    refine lv_istore_n (lv' := [(2, .int (nI 0)), (0, .ref m0), (1, .int (n))]) hx hb dX7_spans_32 rfl hl (by decide) rfl (fun ls hl => ?_)
    refine lv_iconst (v := nI 0) hx hb dX7_spans_33 (by decide) ?_
    refine lv_istore_n (lv' := [(3, .int (nI 0)), (2, .int (nI 0)), (0, .ref m0), (1, .int (n))]) hx hb dX7_spans_34 rfl hl (by decide) rfl (fun ls hl => ?_)
    refine lv_iload_n hx hb dX7_spans_35 rfl (lv_at hl 0 rfl) ?_
    refine lv_aload_n hx hb dX7_spans_36 rfl (lv_at hl 2 rfl) ?_
    refine va_get (D := G) (cl := vwCl) (ci := 8) (v := .int (nI R)) (C := RX7) (T := TX7) (N := 18) hx hb (hts d0) in_X7_spans_X7 hown hK.1 (x1 hc_2) 0 rfl rfl 2 (by decide) (hts d0 _ hw_X7_spans_2) (fun _ h9 => h9) rfl dX7_spans_37 ?_
    refine lv_iconst (v := nI 1) hx hb dX7_spans_40 (by decide) ?_
    refine xisubN hx hb (by omega) dX7_spans_41 ?_
    refine xicmpN_ge (tgt := 95) hx hb (by decide) (by omega) dX7_spans_42 (by decide) (fun h9 => absurd h9 (by omega)) (fun _ => ?_)
    refine lv_iload_n hx hb dX7_spans_45 rfl (lv_at hl 1 rfl) ?_
    refine lv_if_eq (tgt := 95) hx hb dX7_spans_46 (by decide) (fun _ => ?_) (fun h9 => (show False by revert h9; decide).elim)
    refine lv_iload_n hx hb dX7_spans_95 rfl (lv_at hl 1 rfl) ?_
    exact xzret (by decide) hd0 hx hb hr hlocks hS (Nat.le_of_ble_eq_true rfl) (Nat.le_of_ble_eq_true rfl) dX7_spans_96 ⟨nI 1, ⟨hc_2, hc_A0_2, hc_A1_2, hc_A2_2, hc_A3_2, hc_A4_2, hc_A5_2, hc_A6_2, hc_A7_2, hc_A8_2, hc_A9_2, hc_A10_2⟩, hfr_2, _, rfl, Or.inr ⟨rfl, fun z => z.1 c_1⟩⟩
  · refine lv_iload_n hx hb dX7_spans_6 rfl (lv_at hl 1 rfl) ?_
    refine lv_bipush (v := nI 8) hx hb dX7_spans_7 (by decide) ?_
    refine lv_icmp_le (tgt := 16) hx hb dX7_spans_9 (by decide) (fun c_6 => ?_) (fun c_6 => ?_)
    · have z9 : ¬ n < nI 1 ∧ n ≤ nI 8 := ⟨c_1, c_6⟩
      obtain ⟨n9, hn1, hn8, en9⟩ := xspan_of c_1 c_6
      subst en9
      refine lv_iconst (v := nI 0) hx hb dX7_spans_16 (by decide) ?_
      refine xput (G := G) (ci := 8) (v := .int (nI 0)) (ty := .int) (C := RX7) (T := TX7) (N := 18) hx hb (hts d0) in_X7_spans_X7 tyX7 tyX7_ok nmX7 hown hK.1 y_o hS hB.1 rfl 0 (by decide) (hts d0 _ hw_X7_spans_1) (fun _ h9 => h9) rfl (by decide +kernel) rfl rfl (Nat.le_of_ble_eq_true rfl) dX7_spans_17 (fun H_7 locs_7 hs_7 hS => ?_)
      have hc_7 : xc G m0 (.inr (8, [.int (nI 0), .int (nI F), .int (nI R), .ref (A 0), .ref (A 1), .ref (A 2), .ref (A 3), .ref (A 4), .int (nI nb), .ref (A 5), .ref (A 6), .ref (A 7), .ref (A 8), .ref (A 9), .ref (A 10), .double px, .double py, .double pz])) H_7 := hs_7.1
      have hc_A0_7 : xc G (A 0) (.inl (ty 0, 192, .inr (.inr (.inr (.inl pl))))) H_7 := y_0.kept (hs_7.2.2 _ (hA.1 0 (by decide)))
      have hc_A1_7 : xc G (A 1) (.inl (ty 2, 8, .inl un)) H_7 := y_1.kept (hs_7.2.2 _ (hA.1 1 (by decide)))
      have hc_A2_7 : xc G (A 2) (.inl (ty 0, 256, .inr (.inr (.inr (.inl co))))) H_7 := y_2.kept (hs_7.2.2 _ (hA.1 2 (by decide)))
      have hc_A3_7 : xc G (A 3) (.inl (ty 0, 32, .inr (.inr (.inr (.inl dr))))) H_7 := y_3.kept (hs_7.2.2 _ (hA.1 3 (by decide)))
      have hc_A4_7 : xc G (A 4) (.inl (ty 2, 64, .inl bu)) H_7 := y_4.kept (hs_7.2.2 _ (hA.1 4 (by decide)))
      have hc_A5_7 : xc G (A 5) (.inl (ty 0, 4, .inr (.inr (.inr (.inl wi))))) H_7 := y_5.kept (hs_7.2.2 _ (hA.1 5 (by decide)))
      have hc_A6_7 : xc G (A 6) (.inl (ty 0, 4, .inr (.inr (.inr (.inl hi))))) H_7 := y_6.kept (hs_7.2.2 _ (hA.1 6 (by decide)))
      have hc_A7_7 : xc G (A 7) (.inl (ty 1, 4, .inl fc)) H_7 := y_7.kept (hs_7.2.2 _ (hA.1 7 (by decide)))
      have hc_A8_7 : xc G (A 8) (.inl (ty 0, 128, .inr (.inr (.inr (.inl fa))))) H_7 := y_8.kept (hs_7.2.2 _ (hA.1 8 (by decide)))
      have hc_A9_7 : xc G (A 9) (.inl (ty 1, 8, .inl lo)) H_7 := y_9.kept (hs_7.2.2 _ (hA.1 9 (by decide)))
      have hc_A10_7 : xc G (A 10) (.inl (ty 1, 8, .inl la)) H_7 := y_10.kept (hs_7.2.2 _ (hA.1 10 (by decide)))
      have hfr_7 : xRfr m0 A H H_7 := xRfr.put0 xRfr.rf hs_7
      refine lv_aload_n hx hb dX7_spans_20 rfl (lv_at hl 0 rfl) ?_
      refine va_get (D := G) (cl := vwCl) (ci := 8) (v := .int (nI 0)) (C := RX7) (T := TX7) (N := 18) hx hb (hts d0) in_X7_spans_X7 hown hK.1 (x1 hc_7) 0 rfl rfl 0 (by decide) (hts d0 _ hw_X7_spans_1) (fun _ h9 => h9) rfl dX7_spans_21 ?_
      refine lv_if_ne (tgt := 31) hx hb dX7_spans_24 (by decide) (fun h9 => (show False by revert h9; decide).elim) (fun _ => ?_)
      refine lv_iconst (v := nI 1) hx hb dX7_spans_27 (by decide) ?_
      refine lv_goto (tgt := 32) hx hb dX7_spans_28 (by decide) ?_
      refine lv_istore_n (lv' := [(2, .int (nI 1)), (0, .ref m0), (1, .int (nI n9))]) hx hb dX7_spans_32 rfl hl (by decide) rfl (fun ls hl => ?_)
      refine lv_iconst (v := nI 0) hx hb dX7_spans_33 (by decide) ?_
      refine lv_istore_n (lv' := [(3, .int (nI 0)), (2, .int (nI 1)), (0, .ref m0), (1, .int (nI n9))]) hx hb dX7_spans_34 rfl hl (by decide) rfl (fun ls hl => ?_)
      have e0 : nI 1 = (xP (∀ x9 : Nat, x9 < 0 → pSp bu F R n9 x9)) := (xP_t (fun _ h => absurd h (Nat.not_lt_zero _))).symm
      suffices K : ∀ (q : Nat) (k : Nat) (locs : List Loc) (d0 : Drawn) (ls : Array Slot), k + q = R - 1 → va_S (xA b0) s.heap H_7 locs → s.drawn.sameBut d0 lw_cs → lv_has ls 4 [(3, .int (nI k)), (2, .int ((xP (∀ x9 : Nat, x9 < k → pSp bu F R n9 x9)))), (0, .ref m0), (1, .int (nI n9))] → W p l e rm_X7_spans (s.setDrawn d0) m [Value.ref m0, Value.int ((nI n9))].toArray below meth c H_7 locs (0) (0) (xMQ below (fun v H1 => ∃ T : Int32, xRef G ty m0 A T F R pl un co dr bu nb wi hi fc fa lo la px py pz H1 ∧ xRfr m0 A H H1 ∧ ∃ z : Int32, v = some (.int z) ∧ ((T = nI 0 ∧ (¬ (nI n9) < nI 1 ∧ (nI n9) ≤ nI 8) ∧ z = xP (∀ x9 : Nat, x9 < R - 1 → pSp bu F R (nI n9).toNatClampNeg x9)) ∨ (T = nI 1 ∧ ¬ (¬ (nI n9) < nI 1 ∧ (nI n9) ≤ nI 8)))) (fun _ _ => False) [.ref m0, .int ((nI n9))].toArray s rm_X7_spans b0) (F0 m 35 ls []) from K (R - 1) 0 _ d0 ls (by omega) hS hd0 (by rw [← e0]; exact lv_sub hl [0, 1, 2, 3] rfl)
      intro q
      induction q with
      | zero =>
        intro k locs d0 ls hinv hS hd0 hl
        refine lv_iload_n hx hb dX7_spans_35 rfl (lv_at hl 0 rfl) ?_
        refine lv_aload_n hx hb dX7_spans_36 rfl (lv_at hl 2 rfl) ?_
        refine va_get (D := G) (cl := vwCl) (ci := 8) (v := .int (nI R)) (C := RX7) (T := TX7) (N := 18) hx hb (hts d0) in_X7_spans_X7 hown hK.1 (x1 hc_7) 0 rfl rfl 2 (by decide) (hts d0 _ hw_X7_spans_2) (fun _ h9 => h9) rfl dX7_spans_37 ?_
        refine lv_iconst (v := nI 1) hx hb dX7_spans_40 (by decide) ?_
        refine xisubN hx hb (by omega) dX7_spans_41 ?_
        refine xicmpN_ge (tgt := 95) hx hb (by omega) (by omega) dX7_spans_42 (by decide) (fun _ => ?_) (fun h9 => absurd h9 (by omega))
        refine lv_iload_n hx hb dX7_spans_95 rfl (lv_at hl 1 rfl) ?_
        exact xzret (xP_nz _) hd0 hx hb hr hlocks hS (Nat.le_of_ble_eq_true rfl) (Nat.le_of_ble_eq_true rfl) dX7_spans_96 ⟨nI 0, ⟨hc_7, hc_A0_7, hc_A1_7, hc_A2_7, hc_A3_7, hc_A4_7, hc_A5_7, hc_A6_7, hc_A7_7, hc_A8_7, hc_A9_7, hc_A10_7⟩, hfr_7, _, rfl, Or.inl ⟨rfl, z9, by have e9 : k = R - 1 := (by omega); subst e9; rw [nN_nI (by omega)]⟩⟩
      | succ q ih =>
        intro k locs d0 ls hinv hS hd0 hl
        refine lv_iload_n hx hb dX7_spans_35 rfl (lv_at hl 0 rfl) ?_
        refine lv_aload_n hx hb dX7_spans_36 rfl (lv_at hl 2 rfl) ?_
        refine va_get (D := G) (cl := vwCl) (ci := 8) (v := .int (nI R)) (C := RX7) (T := TX7) (N := 18) hx hb (hts d0) in_X7_spans_X7 hown hK.1 (x1 hc_7) 0 rfl rfl 2 (by decide) (hts d0 _ hw_X7_spans_2) (fun _ h9 => h9) rfl dX7_spans_37 ?_
        refine lv_iconst (v := nI 1) hx hb dX7_spans_40 (by decide) ?_
        refine xisubN hx hb (by omega) dX7_spans_41 ?_
        refine xicmpN_ge (tgt := 95) hx hb (by omega) (by omega) dX7_spans_42 (by decide) (fun h9 => absurd h9 (by omega)) (fun _ => ?_)
        refine lv_iload_n hx hb dX7_spans_45 rfl (lv_at hl 1 rfl) ?_
        refine lv_if_eq (tgt := 95) hx hb dX7_spans_46 (by decide) (fun c_11 => ?_) (fun c_11 => ?_)
        · refine lv_iload_n hx hb dX7_spans_95 rfl (lv_at hl 1 rfl) ?_
          exact xzret (xP_nz _) hd0 hx hb hr hlocks hS (Nat.le_of_ble_eq_true rfl) (Nat.le_of_ble_eq_true rfl) dX7_spans_96 ⟨nI 0, ⟨hc_7, hc_A0_7, hc_A1_7, hc_A2_7, hc_A3_7, hc_A4_7, hc_A5_7, hc_A6_7, hc_A7_7, hc_A8_7, hc_A9_7, hc_A10_7⟩, hfr_7, _, rfl, Or.inl ⟨rfl, z9, by rw [nN_nI (by omega)]; exact (xP_eq.mpr (xP_eq.mp c_11)).trans (xP_f (fun z => xP_eq.mp c_11 (fun x9 hx9 => z x9 (by omega)))).symm⟩⟩
        · have J_12 : ∀ (y : Int32) (locs : List Loc) (d0 : Drawn) (ls : Array Slot), y = (xP (∀ x9 : Nat, x9 < (k + 1) → pSp bu F R n9 x9)) → va_S (xA b0) s.heap H_7 locs → s.drawn.sameBut d0 lw_cs → lv_has ls 4 [(3, .int (nI k)), (2, .int ((xP (∀ x9 : Nat, x9 < k → pSp bu F R n9 x9)))), (0, .ref m0), (1, .int (nI n9))] → W p l e rm_X7_spans (s.setDrawn d0) m [Value.ref m0, Value.int ((nI n9))].toArray below meth c H_7 locs (0) (0) (xMQ below (fun v H1 => ∃ T : Int32, xRef G ty m0 A T F R pl un co dr bu nb wi hi fc fa lo la px py pz H1 ∧ xRfr m0 A H H1 ∧ ∃ z : Int32, v = some (.int z) ∧ ((T = nI 0 ∧ (¬ (nI n9) < nI 1 ∧ (nI n9) ≤ nI 8) ∧ z = xP (∀ x9 : Nat, x9 < R - 1 → pSp bu F R (nI n9).toNatClampNeg x9)) ∨ (T = nI 1 ∧ ¬ (¬ (nI n9) < nI 1 ∧ (nI n9) ≤ nI 8)))) (fun _ _ => False) [.ref m0, .int ((nI n9))].toArray s rm_X7_spans b0) (F0 m 88 ls [.int (y)]) := by
            intro y locs d0 ls hP_12 hS hd0 hl
            subst hP_12
            refine lv_istore_n (lv' := [(2, .int ((xP (∀ x9 : Nat, x9 < (k + 1) → pSp bu F R n9 x9)))), (3, .int (nI k)), (0, .ref m0), (1, .int (nI n9))]) hx hb dX7_spans_88 rfl hl (by decide) rfl (fun ls hl => ?_)
            refine xiincN (x := k) (y := 1) (lv' := [(3, .int (nI (k + 1))), (2, .int ((xP (∀ x9 : Nat, x9 < (k + 1) → pSp bu F R n9 x9)))), (0, .ref m0), (1, .int (nI n9))]) hx hb dX7_spans_89 hl (k := 1) rfl (by decide) (by decide) rfl (fun ls hl => ?_)
            refine lv_goto (tgt := 35) hx hb dX7_spans_92 (by decide) ?_
            exact ih (k + 1) _ d0 ls (by omega) hS hd0 (lv_sub hl [0, 1, 2, 3] rfl)
          refine lv_aload_n hx hb dX7_spans_49 rfl (lv_at hl 2 rfl) ?_
          refine lv_iload_n hx hb dX7_spans_50 rfl (lv_at hl 0 rfl) ?_
          refine lv_iload_n hx hb dX7_spans_51 rfl (lv_at hl 0 rfl) ?_
          refine lv_iconst (v := nI 2) hx hb dX7_spans_52 (by decide) ?_
          refine lv_iload_n hx hb dX7_spans_53 rfl (lv_at hl 3 rfl) ?_
          refine ximulN hx hb dX7_spans_54 ?_
          have cw_13 := cwV (R := rm_X7_spans) (rm := rm_X7_keeps) 3 (hts d0) gX7_spans_X7_keeps rfl rfl rfl (by decide +kernel) ⟨Nat.le_of_ble_eq_true rfl, Nat.le_of_ble_eq_true rfl⟩
          refine xcall hd0 (xintoV (b := m0) (As := [.int (nI k), .int (nI k), .int (nI (2 * n9))]) (rest := []) ⟨hx, hb, hml, hown, hts _⟩ cw_13 (va_recv hK.1 (x1 hc_7) (ci := 8) (q0 := 0) rfl rfl) rfl rfl hl.1 rfl (lv_room (Nat.le_of_ble_eq_true rfl)) dX7_spans_55) (c_X7_keeps (l := l) (G := G) (ty := ty) (b0 := b0) (⟨hc_7, hc_A0_7, hc_A1_7, hc_A2_7, hc_A3_7, hc_A4_7, hc_A5_7, hc_A6_7, hc_A7_7, hc_A8_7, hc_A9_7, hc_A10_7⟩ : xRef G ty m0 A (nI 0) F R pl un co dr bu nb wi hi fc fa lo la px py pz H_7) hZ (x := k) (t := k) (n := 2 * n9) (by omega) (by omega) (by omega)) (xoweB cw_13.1) hK hb0 hS (Nat.le_of_ble_eq_true rfl) (Nat.le_of_ble_eq_true rfl) (fun E_13 ce_13 q9_13 H_13 locs_13 d0 hd0 hp_13 hS hce_13 hcv_13 hcl_13 => ?_) (fun v_13 H_13 locs_13 d0 hd0 hp_13 hS => ?_)
          · exact hp_13.elim
          · obtain ⟨rfl, rfl⟩ := hp_13
            show W p l e _ (s.setDrawn _) m _ below meth c _ _ _ _ _ (F0 m 58 ls [.int (xP (pKeeps bu F k k (2 * n9)))])
            refine lv_if_eq (tgt := 87) hx hb dX7_spans_58 (by decide) (fun c_14 => ?_) (fun c_14 => ?_)
            · refine lv_iconst (v := nI 0) hx hb dX7_spans_87 (by decide) ?_
              exact J_12 _ _ d0 ls (xP_f (fun z => xP_eq.mp c_14 (z k (by omega)).1)).symm hS hd0 (lv_sub hl [0, 1, 2, 3] rfl)
            · refine lv_iload_n hx hb dX7_spans_61 rfl (lv_at hl 0 rfl) ?_
              refine lv_aload_n hx hb dX7_spans_62 rfl (lv_at hl 2 rfl) ?_
              refine va_get (D := G) (cl := vwCl) (ci := 8) (v := .int (nI R)) (C := RX7) (T := TX7) (N := 18) hx hb (hts d0) in_X7_spans_X7 hown hK.1 (x1 hc_7) 0 rfl rfl 2 (by decide) (hts d0 _ hw_X7_spans_2) (fun _ h9 => h9) rfl dX7_spans_63 ?_
              refine lv_iconst (v := nI 2) hx hb dX7_spans_66 (by decide) ?_
              refine xisubN hx hb (by omega) dX7_spans_67 ?_
              refine xicmpN_eq (tgt := 83) hx hb (by omega) (by omega) dX7_spans_68 (by decide) (fun c_15 => ?_) (fun c_15 => ?_)
              · refine lv_iconst (v := nI 1) hx hb dX7_spans_83 (by decide) ?_
                refine lv_goto (tgt := 88) hx hb dX7_spans_84 (by decide) ?_
                exact J_12 _ _ d0 ls (xP_t (xall_s (xP_ne.mp c_11) ⟨xP_ne.mp c_14, Or.inl c_15⟩)).symm hS hd0 (lv_sub hl [0, 1, 2, 3] rfl)
              · refine lv_aload_n hx hb dX7_spans_71 rfl (lv_at hl 2 rfl) ?_
                refine lv_iload_n hx hb dX7_spans_72 rfl (lv_at hl 0 rfl) ?_
                refine lv_iload_n hx hb dX7_spans_73 rfl (lv_at hl 0 rfl) ?_
                refine lv_iconst (v := nI 1) hx hb dX7_spans_74 (by decide) ?_
                refine xiaddN hx hb dX7_spans_75 ?_
                refine lv_iload_n hx hb dX7_spans_76 rfl (lv_at hl 3 rfl) ?_
                have cw_16 := cwV (R := rm_X7_spans) (rm := rm_X7_keeps) 3 (hts d0) gX7_spans_X7_keeps rfl rfl rfl (by decide +kernel) ⟨Nat.le_of_ble_eq_true rfl, Nat.le_of_ble_eq_true rfl⟩
                refine xcall hd0 (xintoV (b := m0) (As := [.int (nI k), .int (nI (k + 1)), .int (nI n9)]) (rest := []) ⟨hx, hb, hml, hown, hts _⟩ cw_16 (va_recv hK.1 (x1 hc_7) (ci := 8) (q0 := 0) rfl rfl) rfl rfl hl.1 rfl (lv_room (Nat.le_of_ble_eq_true rfl)) dX7_spans_77) (c_X7_keeps (l := l) (G := G) (ty := ty) (b0 := b0) (⟨hc_7, hc_A0_7, hc_A1_7, hc_A2_7, hc_A3_7, hc_A4_7, hc_A5_7, hc_A6_7, hc_A7_7, hc_A8_7, hc_A9_7, hc_A10_7⟩ : xRef G ty m0 A (nI 0) F R pl un co dr bu nb wi hi fc fa lo la px py pz H_7) hZ (x := k) (t := k + 1) (n := n9) (by omega) (by omega) (by omega)) (xoweB cw_16.1) hK hb0 hS (Nat.le_of_ble_eq_true rfl) (Nat.le_of_ble_eq_true rfl) (fun E_16 ce_16 q9_16 H_16 locs_16 d0 hd0 hp_16 hS hce_16 hcv_16 hcl_16 => ?_) (fun v_16 H_16 locs_16 d0 hd0 hp_16 hS => ?_)
                · exact hp_16.elim
                · obtain ⟨rfl, rfl⟩ := hp_16
                  show W p l e _ (s.setDrawn _) m _ below meth c _ _ _ _ _ (F0 m 80 ls [.int (xP (pKeeps bu F k (k + 1) n9))])
                  refine lv_if_eq (tgt := 87) hx hb dX7_spans_80 (by decide) (fun c_17 => ?_) (fun c_17 => ?_)
                  · refine lv_iconst (v := nI 0) hx hb dX7_spans_87 (by decide) ?_
                    exact J_12 _ _ d0 ls (xP_f (fun z => (z k (by omega)).2.elim c_15 (xP_eq.mp c_17))).symm hS hd0 (lv_sub hl [0, 1, 2, 3] rfl)
                  · refine lv_iconst (v := nI 1) hx hb dX7_spans_83 (by decide) ?_
                    refine lv_goto (tgt := 88) hx hb dX7_spans_84 (by decide) ?_
                    exact J_12 _ _ d0 ls (xP_t (xall_s (xP_ne.mp c_11) ⟨xP_ne.mp c_14, Or.inr (xP_ne.mp c_17)⟩)).symm hS hd0 (lv_sub hl [0, 1, 2, 3] rfl)
    · refine lv_iconst (v := nI 1) hx hb dX7_spans_12 (by decide) ?_
      refine lv_goto (tgt := 17) hx hb dX7_spans_13 (by decide) ?_
      refine xput (G := G) (ci := 8) (v := .int (nI 1)) (ty := .int) (C := RX7) (T := TX7) (N := 18) hx hb (hts d0) in_X7_spans_X7 tyX7 tyX7_ok nmX7 hown hK.1 y_o hS hB.1 rfl 0 (by decide) (hts d0 _ hw_X7_spans_1) (fun _ h9 => h9) rfl (by decide +kernel) rfl rfl (Nat.le_of_ble_eq_true rfl) dX7_spans_17 (fun H_18 locs_18 hs_18 hS => ?_)
      have hc_18 : xc G m0 (.inr (8, [.int (nI 1), .int (nI F), .int (nI R), .ref (A 0), .ref (A 1), .ref (A 2), .ref (A 3), .ref (A 4), .int (nI nb), .ref (A 5), .ref (A 6), .ref (A 7), .ref (A 8), .ref (A 9), .ref (A 10), .double px, .double py, .double pz])) H_18 := hs_18.1
      have hc_A0_18 : xc G (A 0) (.inl (ty 0, 192, .inr (.inr (.inr (.inl pl))))) H_18 := y_0.kept (hs_18.2.2 _ (hA.1 0 (by decide)))
      have hc_A1_18 : xc G (A 1) (.inl (ty 2, 8, .inl un)) H_18 := y_1.kept (hs_18.2.2 _ (hA.1 1 (by decide)))
      have hc_A2_18 : xc G (A 2) (.inl (ty 0, 256, .inr (.inr (.inr (.inl co))))) H_18 := y_2.kept (hs_18.2.2 _ (hA.1 2 (by decide)))
      have hc_A3_18 : xc G (A 3) (.inl (ty 0, 32, .inr (.inr (.inr (.inl dr))))) H_18 := y_3.kept (hs_18.2.2 _ (hA.1 3 (by decide)))
      have hc_A4_18 : xc G (A 4) (.inl (ty 2, 64, .inl bu)) H_18 := y_4.kept (hs_18.2.2 _ (hA.1 4 (by decide)))
      have hc_A5_18 : xc G (A 5) (.inl (ty 0, 4, .inr (.inr (.inr (.inl wi))))) H_18 := y_5.kept (hs_18.2.2 _ (hA.1 5 (by decide)))
      have hc_A6_18 : xc G (A 6) (.inl (ty 0, 4, .inr (.inr (.inr (.inl hi))))) H_18 := y_6.kept (hs_18.2.2 _ (hA.1 6 (by decide)))
      have hc_A7_18 : xc G (A 7) (.inl (ty 1, 4, .inl fc)) H_18 := y_7.kept (hs_18.2.2 _ (hA.1 7 (by decide)))
      have hc_A8_18 : xc G (A 8) (.inl (ty 0, 128, .inr (.inr (.inr (.inl fa))))) H_18 := y_8.kept (hs_18.2.2 _ (hA.1 8 (by decide)))
      have hc_A9_18 : xc G (A 9) (.inl (ty 1, 8, .inl lo)) H_18 := y_9.kept (hs_18.2.2 _ (hA.1 9 (by decide)))
      have hc_A10_18 : xc G (A 10) (.inl (ty 1, 8, .inl la)) H_18 := y_10.kept (hs_18.2.2 _ (hA.1 10 (by decide)))
      have hfr_18 : xRfr m0 A H H_18 := xRfr.put0 xRfr.rf hs_18
      refine lv_aload_n hx hb dX7_spans_20 rfl (lv_at hl 0 rfl) ?_
      refine va_get (D := G) (cl := vwCl) (ci := 8) (v := .int (nI 1)) (C := RX7) (T := TX7) (N := 18) hx hb (hts d0) in_X7_spans_X7 hown hK.1 (x1 hc_18) 0 rfl rfl 0 (by decide) (hts d0 _ hw_X7_spans_1) (fun _ h9 => h9) rfl dX7_spans_21 ?_
      refine lv_if_ne (tgt := 31) hx hb dX7_spans_24 (by decide) (fun _ => ?_) (fun h9 => (show False by revert h9; decide).elim)
      refine lv_iconst (v := nI 0) hx hb dX7_spans_31 (by decide) ?_
      refine lv_istore_n (lv' := [(2, .int (nI 0)), (0, .ref m0), (1, .int (n))]) hx hb dX7_spans_32 rfl hl (by decide) rfl (fun ls hl => ?_)
      refine lv_iconst (v := nI 0) hx hb dX7_spans_33 (by decide) ?_
      refine lv_istore_n (lv' := [(3, .int (nI 0)), (2, .int (nI 0)), (0, .ref m0), (1, .int (n))]) hx hb dX7_spans_34 rfl hl (by decide) rfl (fun ls hl => ?_)
      refine lv_iload_n hx hb dX7_spans_35 rfl (lv_at hl 0 rfl) ?_
      refine lv_aload_n hx hb dX7_spans_36 rfl (lv_at hl 2 rfl) ?_
      refine va_get (D := G) (cl := vwCl) (ci := 8) (v := .int (nI R)) (C := RX7) (T := TX7) (N := 18) hx hb (hts d0) in_X7_spans_X7 hown hK.1 (x1 hc_18) 0 rfl rfl 2 (by decide) (hts d0 _ hw_X7_spans_2) (fun _ h9 => h9) rfl dX7_spans_37 ?_
      refine lv_iconst (v := nI 1) hx hb dX7_spans_40 (by decide) ?_
      refine xisubN hx hb (by omega) dX7_spans_41 ?_
      refine xicmpN_ge (tgt := 95) hx hb (by decide) (by omega) dX7_spans_42 (by decide) (fun h9 => absurd h9 (by omega)) (fun _ => ?_)
      refine lv_iload_n hx hb dX7_spans_45 rfl (lv_at hl 1 rfl) ?_
      refine lv_if_eq (tgt := 95) hx hb dX7_spans_46 (by decide) (fun _ => ?_) (fun h9 => (show False by revert h9; decide).elim)
      refine lv_iload_n hx hb dX7_spans_95 rfl (lv_at hl 1 rfl) ?_
      exact xzret (by decide) hd0 hx hb hr hlocks hS (Nat.le_of_ble_eq_true rfl) (Nat.le_of_ble_eq_true rfl) dX7_spans_96 ⟨nI 1, ⟨hc_18, hc_A0_18, hc_A1_18, hc_A2_18, hc_A3_18, hc_A4_18, hc_A5_18, hc_A6_18, hc_A7_18, hc_A8_18, hc_A9_18, hc_A10_18⟩, hfr_18, _, rfl, Or.inr ⟨rfl, fun z => c_6 z.2⟩⟩
/-- the cell with the greatest STRETCH so far, and its size -/
def pWor (co pl : Nat → UInt64) (x : Nat) : Nat → Nat × UInt64
  | 0 => (0, 13830554455654793216)
  | k + 1 => if xgt (pSize (pOff co pl x k)) (pWor co pl x k).2 = true then (k, pSize (pOff co pl x k)) else pWor co pl x k
theorem pWor_t {co pl : Nat → UInt64} {x k : Nat} (h : xgt (pSize (pOff co pl x k)) (pWor co pl x k).2 = true) : pWor co pl x (k + 1) = (k, pSize (pOff co pl x k)) := if_pos h
theorem pWor_f {co pl : Nat → UInt64} {x k : Nat} (h : xgt (pSize (pOff co pl x k)) (pWor co pl x k).2 = false) : pWor co pl x (k + 1) = pWor co pl x k := if_neg (by rw [h]; decide)
theorem pSize_t {v e : UInt64} (h : xlt e FP.dconst0 = true) (hv : vq v (FP.dneg e)) : vq v (pSize e) := by unfold pSize; rw [if_pos h]; exact hv
theorem pSize_f {v e : UInt64} (h : xlt e FP.dconst0 = false) (hv : vq v e) : vq v (pSize e) := by unfold pSize; rw [if_neg (by rw [h]; decide)]; exact hv
theorem pWor_le (co pl : Nat → UInt64) (x : Nat) : ∀ k : Nat, (pWor co pl x k).1 ≤ k := by
  intro k
  induction k with
  | zero => exact Nat.le_refl _
  | succ k ih =>
    cases h : xgt (pSize (pOff co pl x k)) (pWor co pl x k).2
    · rw [pWor_f h]; omega
    · rw [pWor_t h]; exact Nat.le_succ k
set_option maxRecDepth 20000 in
theorem ggX7_worst_X7_noStrip : GoodIn wsX7_worst wsX7_noStrip := goodIn_r _ [9, 10, 32, 33, 34, 35, 36, 37, 38, 39, 40, 41, 42, 43, 44, 45, 46, 47, 48, 49] (by decide +kernel) (by decide +kernel)
set_option maxRecDepth 20000 in
theorem gX7_worst_X7_noStrip : GoodIn wsX7_worst (wsV RX7 87 RX7 yX7_noStrip wsX7_noStrip) := goodIn_app (goodIn_of _ (by decide +kernel)) ggX7_worst_X7_noStrip
set_option maxRecDepth 20000 in
theorem ggX7_worst_X7_off : GoodIn wsX7_worst wsX7_off := goodIn_r _ [14, 15, 16, 17, 8, 18, 19, 20, 21, 22, 23, 24, 25, 26, 27, 28, 29, 30, 31, 32, 33, 34, 35, 36, 37, 38, 39, 40, 41, 42, 43, 44, 45, 46, 47, 48, 49] (by decide +kernel) (by decide +kernel)
set_option maxRecDepth 20000 in
theorem gX7_worst_X7_off : GoodIn wsX7_worst (wsV RX7 98 RX7 yX7_off wsX7_off) := goodIn_app (goodIn_of _ (by decide +kernel)) ggX7_worst_X7_off
theorem dX7_worst_0 : decode cX7_worst 0 = .ok (.aload_n 0, 1) := by decide +kernel
theorem dX7_worst_1 : decode cX7_worst 1 = .ok (.aload_n 0, 1) := by decide +kernel
theorem dX7_worst_2 : decode cX7_worst 2 = .ok (.iload_n 1, 1) := by decide +kernel
theorem dX7_worst_3 : decode cX7_worst 3 = .ok (.invokevirtual 87, 3) := by decide +kernel
theorem dX7_worst_6 : decode cX7_worst 6 = .ok (.ifCond .eq 7, 3) := by decide +kernel
theorem dX7_worst_9 : decode cX7_worst 9 = .ok (.iconst 1, 1) := by decide +kernel
theorem dX7_worst_10 : decode cX7_worst 10 = .ok (.goto 17, 3) := by decide +kernel
theorem dX7_worst_13 : decode cX7_worst 13 = .ok (.aload_n 0, 1) := by decide +kernel
theorem dX7_worst_14 : decode cX7_worst 14 = .ok (.getfield 13, 3) := by decide +kernel
theorem dX7_worst_17 : decode cX7_worst 17 = .ok (.iload_n 1, 1) := by decide +kernel
theorem dX7_worst_18 : decode cX7_worst 18 = .ok (.baload, 1) := by decide +kernel
theorem dX7_worst_19 : decode cX7_worst 19 = .ok (.ifCond .eq 7, 3) := by decide +kernel
theorem dX7_worst_22 : decode cX7_worst 22 = .ok (.iconst 0, 1) := by decide +kernel
theorem dX7_worst_23 : decode cX7_worst 23 = .ok (.goto 4, 3) := by decide +kernel
theorem dX7_worst_26 : decode cX7_worst 26 = .ok (.iconst 2, 1) := by decide +kernel
theorem dX7_worst_27 : decode cX7_worst 27 = .ok (.putfield 52, 3) := by decide +kernel
theorem dX7_worst_30 : decode cX7_worst 30 = .ok (.iconst 0, 1) := by decide +kernel
theorem dX7_worst_31 : decode cX7_worst 31 = .ok (.istore_n 2, 1) := by decide +kernel
theorem dX7_worst_32 : decode cX7_worst 32 = .ok (.ldc2_w 102, 3) := by decide +kernel
theorem dX7_worst_35 : decode cX7_worst 35 = .ok (.dstore_n 3, 1) := by decide +kernel
theorem dX7_worst_36 : decode cX7_worst 36 = .ok (.iconst 0, 1) := by decide +kernel
theorem dX7_worst_37 : decode cX7_worst 37 = .ok (.istore 5, 2) := by decide +kernel
theorem dX7_worst_39 : decode cX7_worst 39 = .ok (.iload 5, 2) := by decide +kernel
theorem dX7_worst_41 : decode cX7_worst 41 = .ok (.aload_n 0, 1) := by decide +kernel
theorem dX7_worst_42 : decode cX7_worst 42 = .ok (.getfield 45, 3) := by decide +kernel
theorem dX7_worst_45 : decode cX7_worst 45 = .ok (.iconst 1, 1) := by decide +kernel
theorem dX7_worst_46 : decode cX7_worst 46 = .ok (.isub, 1) := by decide +kernel
theorem dX7_worst_47 : decode cX7_worst 47 = .ok (.if_icmp .ge 70, 3) := by decide +kernel
theorem dX7_worst_50 : decode cX7_worst 50 = .ok (.aload_n 0, 1) := by decide +kernel
theorem dX7_worst_51 : decode cX7_worst 51 = .ok (.getfield 52, 3) := by decide +kernel
theorem dX7_worst_54 : decode cX7_worst 54 = .ok (.ifCond .ne 63, 3) := by decide +kernel
theorem dX7_worst_57 : decode cX7_worst 57 = .ok (.aload_n 0, 1) := by decide +kernel
theorem dX7_worst_58 : decode cX7_worst 58 = .ok (.iload_n 1, 1) := by decide +kernel
theorem dX7_worst_59 : decode cX7_worst 59 = .ok (.iload 5, 2) := by decide +kernel
theorem dX7_worst_61 : decode cX7_worst 61 = .ok (.invokevirtual 98, 3) := by decide +kernel
theorem dX7_worst_64 : decode cX7_worst 64 = .ok (.dstore 6, 2) := by decide +kernel
theorem dX7_worst_66 : decode cX7_worst 66 = .ok (.dload 6, 2) := by decide +kernel
theorem dX7_worst_68 : decode cX7_worst 68 = .ok (.dconst 0, 1) := by decide +kernel
theorem dX7_worst_69 : decode cX7_worst 69 = .ok (.dcmp .g, 1) := by decide +kernel
theorem dX7_worst_70 : decode cX7_worst 70 = .ok (.ifCond .ge 9, 3) := by decide +kernel
theorem dX7_worst_73 : decode cX7_worst 73 = .ok (.dload 6, 2) := by decide +kernel
theorem dX7_worst_75 : decode cX7_worst 75 = .ok (.dneg, 1) := by decide +kernel
theorem dX7_worst_76 : decode cX7_worst 76 = .ok (.goto 5, 3) := by decide +kernel
theorem dX7_worst_79 : decode cX7_worst 79 = .ok (.dload 6, 2) := by decide +kernel
theorem dX7_worst_81 : decode cX7_worst 81 = .ok (.dstore 6, 2) := by decide +kernel
theorem dX7_worst_83 : decode cX7_worst 83 = .ok (.dload 6, 2) := by decide +kernel
theorem dX7_worst_85 : decode cX7_worst 85 = .ok (.dload_n 3, 1) := by decide +kernel
theorem dX7_worst_86 : decode cX7_worst 86 = .ok (.dcmp .l, 1) := by decide +kernel
theorem dX7_worst_87 : decode cX7_worst 87 = .ok (.ifCond .le 8, 3) := by decide +kernel
theorem dX7_worst_90 : decode cX7_worst 90 = .ok (.iload 5, 2) := by decide +kernel
theorem dX7_worst_92 : decode cX7_worst 92 = .ok (.goto 4, 3) := by decide +kernel
theorem dX7_worst_95 : decode cX7_worst 95 = .ok (.iload_n 2, 1) := by decide +kernel
theorem dX7_worst_96 : decode cX7_worst 96 = .ok (.istore_n 2, 1) := by decide +kernel
theorem dX7_worst_97 : decode cX7_worst 97 = .ok (.dload 6, 2) := by decide +kernel
theorem dX7_worst_99 : decode cX7_worst 99 = .ok (.dload_n 3, 1) := by decide +kernel
theorem dX7_worst_100 : decode cX7_worst 100 = .ok (.dcmp .l, 1) := by decide +kernel
theorem dX7_worst_101 : decode cX7_worst 101 = .ok (.ifCond .le 8, 3) := by decide +kernel
theorem dX7_worst_104 : decode cX7_worst 104 = .ok (.dload 6, 2) := by decide +kernel
theorem dX7_worst_106 : decode cX7_worst 106 = .ok (.goto 4, 3) := by decide +kernel
theorem dX7_worst_109 : decode cX7_worst 109 = .ok (.dload_n 3, 1) := by decide +kernel
theorem dX7_worst_110 : decode cX7_worst 110 = .ok (.dstore_n 3, 1) := by decide +kernel
theorem dX7_worst_111 : decode cX7_worst 111 = .ok (.iinc 5 1, 3) := by decide +kernel
theorem dX7_worst_114 : decode cX7_worst 114 = .ok (.goto (-75), 3) := by decide +kernel
theorem dX7_worst_117 : decode cX7_worst 117 = .ok (.iload_n 2, 1) := by decide +kernel
theorem dX7_worst_118 : decode cX7_worst 118 = .ok (.ireturn, 1) := by decide +kernel
abbrev rm_X7_worst : Room := { frames := 8, cells := 0, slots := 0, locals := 190 }
theorem hw_X7_worst_1 : (Cond.fieldLink RX7 13 "PlankUnrollModel" "unrolled" "[Z") ∈ wsX7_worst := List.mem_of_getElem? (i := 1) rfl
theorem hw_X7_worst_2 : (Cond.fieldLink RX7 52 "PlankUnrollModel" "thrown" "I") ∈ wsX7_worst := List.mem_of_getElem? (i := 2) rfl
theorem hw_X7_worst_3 : (Cond.constantDouble RX7 102 (13830554455654793216)) ∈ wsX7_worst := List.mem_of_getElem? (i := 3) rfl
theorem hw_X7_worst_4 : (Cond.fieldLink RX7 45 "PlankUnrollModel" "frames" "I") ∈ wsX7_worst := List.mem_of_getElem? (i := 4) rfl
theorem in_X7_worst_X7 : ∀ w ∈ wsX70, w ∈ wsX7_worst := by decide +kernel
set_option maxHeartbeats 4000000 in
set_option maxRecDepth 100000 in
/-- worst -/
theorem c_X7_worst {l : Launch} {G : va_G} {ty : Nat → ClassId} {b0 : Nat} {H : Heap} {x : Int32} {m0 : Nat} {A : Nat → Nat} {th : Int32} {F R nb : Nat} {pl co dr wi hi fa : Nat → UInt64} {un bu fc lo la : Nat → Int32} {px py pz : UInt64} (hY : xRef G ty m0 A th F R pl un co dr bu nb wi hi fc fa lo la px py pz H) (hZ : xSz F R) (hA : xAp m0 A) (hB : xNw b0 m0 A) : xMet l yX7_worst wsX7_worst rm_X7_worst G ty b0 [.ref m0, .int (x)] H (fun v H1 => ∃ T : Int32, xRef G ty m0 A T F R pl un co dr bu nb wi hi fc fa lo la px py pz H1 ∧ xRfr m0 A H H1 ∧ ∃ z : Int32, v = some (.int z) ∧ ((T = nI 0 ∧ (vp_in x (R - 1)) ∧ ¬ un x.toNatClampNeg = 0 ∧ z = nI (pWor co pl x.toNatClampNeg (F - 1)).1) ∨ (T = nI 1 ∧ ¬ (vp_in x (R - 1))) ∨ (T = nI 2 ∧ (vp_in x (R - 1)) ∧ un x.toNatClampNeg = 0))) (fun _ _ => False) := by
  refine xbody (cc := cX7_worst) (maxL := 8) (ret := (some .int)) (C := RX7) (lv := [(0, .ref m0), (1, .int (x))]) (by decide) rfl rfl (Nat.le_of_ble_eq_true rfl) rfl ?_
  intro p e s m below meth c d0 hx hb hr hts hown hlocks hml hxt hnm0 hK hb0 hH0 hS hd0 ls hl
  obtain ⟨y_o, y_0, y_1, y_2, y_3, y_4, y_5, y_6, y_7, y_8, y_9, y_10⟩ := id hY
  obtain ⟨⟨zF2, zF8⟩, ⟨zR2, zR8⟩⟩ := id hZ
  refine lv_aload_n hx hb dX7_worst_0 rfl (lv_at hl 0 rfl) ?_
  refine lv_aload_n hx hb dX7_worst_1 rfl (lv_at hl 0 rfl) ?_
  refine lv_iload_n hx hb dX7_worst_2 rfl (lv_at hl 1 rfl) ?_
  have cw_1 := cwV (R := rm_X7_worst) (rm := rm_X7_noStrip) 1 (hts d0) gX7_worst_X7_noStrip rfl rfl rfl (by decide +kernel) ⟨Nat.le_of_ble_eq_true rfl, Nat.le_of_ble_eq_true rfl⟩
  refine xcall hd0 (xintoV (b := m0) (As := [.int (x)]) (rest := [.ref m0]) ⟨hx, hb, hml, hown, hts _⟩ cw_1 (va_recv hK.1 (x1 y_o) (ci := 8) (q0 := 0) rfl rfl) rfl rfl hl.1 rfl (lv_room (Nat.le_of_ble_eq_true rfl)) dX7_worst_3) (c_X7_noStrip (l := l) (G := G) (ty := ty) (b0 := b0) (⟨y_o, y_0, y_1, y_2, y_3, y_4, y_5, y_6, y_7, y_8, y_9, y_10⟩ : xRef G ty m0 A (th) F R pl un co dr bu nb wi hi fc fa lo la px py pz H) hZ) (xoweB cw_1.1) hK hb0 hS (Nat.le_of_ble_eq_true rfl) (Nat.le_of_ble_eq_true rfl) (fun E_1 ce_1 q9_1 H_1 locs_1 d0 hd0 hp_1 hS hce_1 hcv_1 hcl_1 => ?_) (fun v_1 H_1 locs_1 d0 hd0 hp_1 hS => ?_)
  · exact hp_1.elim
  · obtain ⟨rfl, rfl⟩ := hp_1
    show W p l e _ (s.setDrawn _) m _ below meth c _ _ _ _ _ (F0 m 6 ls [.int (xP (¬ vp_in x (R - 1))), .ref m0])
    refine lv_if_eq (tgt := 13) hx hb dX7_worst_6 (by decide) (fun c_2 => ?_) (fun c_2 => ?_)
    · have z9 := Classical.not_not.mp (xP_eq.mp c_2)
      have z_x := z9
      obtain ⟨x9, hx9, ex9⟩ := vp_in_of z_x (by omega)
      subst ex9
      refine lv_aload_n hx hb dX7_worst_13 rfl (lv_at hl 0 rfl) ?_
      refine va_get (D := G) (cl := vwCl) (ci := 8) (v := .ref (A 1)) (C := RX7) (T := TX7) (N := 18) hx hb (hts d0) in_X7_worst_X7 hown hK.1 (x1 y_o) 0 rfl rfl 4 (by decide) (hts d0 _ hw_X7_worst_1) (fun _ h9 => h9) rfl dX7_worst_14 ?_
      refine lv_iload_n hx hb dX7_worst_17 rfl (lv_at hl 1 rfl) ?_
      refine xzald (j := x9) hx hb hK.1 2 y_1 rfl (xix_of (by omega) (by omega)) dX7_worst_18 ?_
      refine lv_if_eq (tgt := 26) hx hb dX7_worst_19 (by decide) (fun c_3 => ?_) (fun c_3 => ?_)
      · refine lv_iconst (v := nI 2) hx hb dX7_worst_26 (by decide) ?_
        refine xput (G := G) (ci := 8) (v := .int (nI 2)) (ty := .int) (C := RX7) (T := TX7) (N := 18) hx hb (hts d0) in_X7_worst_X7 tyX7 tyX7_ok nmX7 hown hK.1 y_o hS hB.1 rfl 0 (by decide) (hts d0 _ hw_X7_worst_2) (fun _ h9 => h9) rfl (by decide +kernel) rfl rfl (Nat.le_of_ble_eq_true rfl) dX7_worst_27 (fun H_4 locs_4 hs_4 hS => ?_)
        have hc_4 : xc G m0 (.inr (8, [.int (nI 2), .int (nI F), .int (nI R), .ref (A 0), .ref (A 1), .ref (A 2), .ref (A 3), .ref (A 4), .int (nI nb), .ref (A 5), .ref (A 6), .ref (A 7), .ref (A 8), .ref (A 9), .ref (A 10), .double px, .double py, .double pz])) H_4 := hs_4.1
        have hc_A0_4 : xc G (A 0) (.inl (ty 0, 192, .inr (.inr (.inr (.inl pl))))) H_4 := y_0.kept (hs_4.2.2 _ (hA.1 0 (by decide)))
        have hc_A1_4 : xc G (A 1) (.inl (ty 2, 8, .inl un)) H_4 := y_1.kept (hs_4.2.2 _ (hA.1 1 (by decide)))
        have hc_A2_4 : xc G (A 2) (.inl (ty 0, 256, .inr (.inr (.inr (.inl co))))) H_4 := y_2.kept (hs_4.2.2 _ (hA.1 2 (by decide)))
        have hc_A3_4 : xc G (A 3) (.inl (ty 0, 32, .inr (.inr (.inr (.inl dr))))) H_4 := y_3.kept (hs_4.2.2 _ (hA.1 3 (by decide)))
        have hc_A4_4 : xc G (A 4) (.inl (ty 2, 64, .inl bu)) H_4 := y_4.kept (hs_4.2.2 _ (hA.1 4 (by decide)))
        have hc_A5_4 : xc G (A 5) (.inl (ty 0, 4, .inr (.inr (.inr (.inl wi))))) H_4 := y_5.kept (hs_4.2.2 _ (hA.1 5 (by decide)))
        have hc_A6_4 : xc G (A 6) (.inl (ty 0, 4, .inr (.inr (.inr (.inl hi))))) H_4 := y_6.kept (hs_4.2.2 _ (hA.1 6 (by decide)))
        have hc_A7_4 : xc G (A 7) (.inl (ty 1, 4, .inl fc)) H_4 := y_7.kept (hs_4.2.2 _ (hA.1 7 (by decide)))
        have hc_A8_4 : xc G (A 8) (.inl (ty 0, 128, .inr (.inr (.inr (.inl fa))))) H_4 := y_8.kept (hs_4.2.2 _ (hA.1 8 (by decide)))
        have hc_A9_4 : xc G (A 9) (.inl (ty 1, 8, .inl lo)) H_4 := y_9.kept (hs_4.2.2 _ (hA.1 9 (by decide)))
        have hc_A10_4 : xc G (A 10) (.inl (ty 1, 8, .inl la)) H_4 := y_10.kept (hs_4.2.2 _ (hA.1 10 (by decide)))
        have hfr_4 : xRfr m0 A H H_4 := xRfr.put0 xRfr.rf hs_4
        refine lv_iconst (v := nI 0) hx hb dX7_worst_30 (by decide) ?_
        refine lv_istore_n (lv' := [(2, .int (nI 0)), (0, .ref m0), (1, .int (nI x9))]) hx hb dX7_worst_31 rfl hl (by decide) rfl (fun ls hl => ?_)
        refine lv_ldc2d hx hb hown (hts d0 _ hw_X7_worst_3) dX7_worst_32 ?_
        refine lv_dstore_n (lv' := [(3, .double 13830554455654793216), (2, .int (nI 0)), (0, .ref m0), (1, .int (nI x9))]) hx hb dX7_worst_35 rfl hl (by decide) rfl (fun ls hl => ?_)
        refine lv_iconst (v := nI 0) hx hb dX7_worst_36 (by decide) ?_
        refine lv_istore (lv' := [(5, .int (nI 0)), (3, .double 13830554455654793216), (2, .int (nI 0)), (0, .ref m0), (1, .int (nI x9))]) hx hb dX7_worst_37 hl (by decide) rfl (fun ls hl => ?_)
        refine lv_iload hx hb dX7_worst_39 (lv_at hl 0 rfl) ?_
        refine lv_aload_n hx hb dX7_worst_41 rfl (lv_at hl 3 rfl) ?_
        refine va_get (D := G) (cl := vwCl) (ci := 8) (v := .int (nI F)) (C := RX7) (T := TX7) (N := 18) hx hb (hts d0) in_X7_worst_X7 hown hK.1 (x1 hc_4) 0 rfl rfl 1 (by decide) (hts d0 _ hw_X7_worst_4) (fun _ h9 => h9) rfl dX7_worst_42 ?_
        refine lv_iconst (v := nI 1) hx hb dX7_worst_45 (by decide) ?_
        refine xisubN hx hb (by omega) dX7_worst_46 ?_
        refine xicmpN_ge (tgt := 117) hx hb (by decide) (by omega) dX7_worst_47 (by decide) (fun h9 => absurd h9 (by omega)) (fun _ => ?_)
        refine lv_aload_n hx hb dX7_worst_50 rfl (lv_at hl 3 rfl) ?_
        refine va_get (D := G) (cl := vwCl) (ci := 8) (v := .int (nI 2)) (C := RX7) (T := TX7) (N := 18) hx hb (hts d0) in_X7_worst_X7 hown hK.1 (x1 hc_4) 0 rfl rfl 0 (by decide) (hts d0 _ hw_X7_worst_2) (fun _ h9 => h9) rfl dX7_worst_51 ?_
        refine lv_if_ne (tgt := 117) hx hb dX7_worst_54 (by decide) (fun _ => ?_) (fun h9 => (show False by revert h9; decide).elim)
        refine lv_iload_n hx hb dX7_worst_117 rfl (lv_at hl 2 rfl) ?_
        exact xiret hd0 hx hb hr hlocks hS (Nat.le_of_ble_eq_true rfl) (Nat.le_of_ble_eq_true rfl) dX7_worst_118 ⟨nI 2, ⟨hc_4, hc_A0_4, hc_A1_4, hc_A2_4, hc_A3_4, hc_A4_4, hc_A5_4, hc_A6_4, hc_A7_4, hc_A8_4, hc_A9_4, hc_A10_4⟩, hfr_4, _, rfl, Or.inr (Or.inr ⟨rfl, z9, by rw [nN_nI (by omega)]; exact c_3⟩)⟩
      · refine lv_iconst (v := nI 0) hx hb dX7_worst_22 (by decide) ?_
        refine lv_goto (tgt := 27) hx hb dX7_worst_23 (by decide) ?_
        refine xput (G := G) (ci := 8) (v := .int (nI 0)) (ty := .int) (C := RX7) (T := TX7) (N := 18) hx hb (hts d0) in_X7_worst_X7 tyX7 tyX7_ok nmX7 hown hK.1 y_o hS hB.1 rfl 0 (by decide) (hts d0 _ hw_X7_worst_2) (fun _ h9 => h9) rfl (by decide +kernel) rfl rfl (Nat.le_of_ble_eq_true rfl) dX7_worst_27 (fun H_7 locs_7 hs_7 hS => ?_)
        have hc_7 : xc G m0 (.inr (8, [.int (nI 0), .int (nI F), .int (nI R), .ref (A 0), .ref (A 1), .ref (A 2), .ref (A 3), .ref (A 4), .int (nI nb), .ref (A 5), .ref (A 6), .ref (A 7), .ref (A 8), .ref (A 9), .ref (A 10), .double px, .double py, .double pz])) H_7 := hs_7.1
        have hc_A0_7 : xc G (A 0) (.inl (ty 0, 192, .inr (.inr (.inr (.inl pl))))) H_7 := y_0.kept (hs_7.2.2 _ (hA.1 0 (by decide)))
        have hc_A1_7 : xc G (A 1) (.inl (ty 2, 8, .inl un)) H_7 := y_1.kept (hs_7.2.2 _ (hA.1 1 (by decide)))
        have hc_A2_7 : xc G (A 2) (.inl (ty 0, 256, .inr (.inr (.inr (.inl co))))) H_7 := y_2.kept (hs_7.2.2 _ (hA.1 2 (by decide)))
        have hc_A3_7 : xc G (A 3) (.inl (ty 0, 32, .inr (.inr (.inr (.inl dr))))) H_7 := y_3.kept (hs_7.2.2 _ (hA.1 3 (by decide)))
        have hc_A4_7 : xc G (A 4) (.inl (ty 2, 64, .inl bu)) H_7 := y_4.kept (hs_7.2.2 _ (hA.1 4 (by decide)))
        have hc_A5_7 : xc G (A 5) (.inl (ty 0, 4, .inr (.inr (.inr (.inl wi))))) H_7 := y_5.kept (hs_7.2.2 _ (hA.1 5 (by decide)))
        have hc_A6_7 : xc G (A 6) (.inl (ty 0, 4, .inr (.inr (.inr (.inl hi))))) H_7 := y_6.kept (hs_7.2.2 _ (hA.1 6 (by decide)))
        have hc_A7_7 : xc G (A 7) (.inl (ty 1, 4, .inl fc)) H_7 := y_7.kept (hs_7.2.2 _ (hA.1 7 (by decide)))
        have hc_A8_7 : xc G (A 8) (.inl (ty 0, 128, .inr (.inr (.inr (.inl fa))))) H_7 := y_8.kept (hs_7.2.2 _ (hA.1 8 (by decide)))
        have hc_A9_7 : xc G (A 9) (.inl (ty 1, 8, .inl lo)) H_7 := y_9.kept (hs_7.2.2 _ (hA.1 9 (by decide)))
        have hc_A10_7 : xc G (A 10) (.inl (ty 1, 8, .inl la)) H_7 := y_10.kept (hs_7.2.2 _ (hA.1 10 (by decide)))
        have hfr_7 : xRfr m0 A H H_7 := xRfr.put0 xRfr.rf hs_7
        refine lv_iconst (v := nI 0) hx hb dX7_worst_30 (by decide) ?_
        refine lv_istore_n (lv' := [(2, .int (nI 0)), (0, .ref m0), (1, .int (nI x9))]) hx hb dX7_worst_31 rfl hl (by decide) rfl (fun ls hl => ?_)
        refine lv_ldc2d hx hb hown (hts d0 _ hw_X7_worst_3) dX7_worst_32 ?_
        refine lv_dstore_n (lv' := [(3, .double 13830554455654793216), (2, .int (nI 0)), (0, .ref m0), (1, .int (nI x9))]) hx hb dX7_worst_35 rfl hl (by decide) rfl (fun ls hl => ?_)
        refine lv_iconst (v := nI 0) hx hb dX7_worst_36 (by decide) ?_
        refine lv_istore (lv' := [(5, .int (nI 0)), (3, .double 13830554455654793216), (2, .int (nI 0)), (0, .ref m0), (1, .int (nI x9))]) hx hb dX7_worst_37 hl (by decide) rfl (fun ls hl => ?_)
        suffices K : ∀ (n : Nat) (k : Nat) (mo : UInt64) (locs : List Loc) (d0 : Drawn) (ls : Array Slot), k + n = F - 1 ∧ vq mo (pWor co pl x9 k).2 → va_S (xA b0) s.heap H_7 locs → s.drawn.sameBut d0 lw_cs → lv_has ls 8 [(5, .int (nI k)), (3, .double mo), (2, .int (nI ((pWor co pl x9 k).1))), (0, .ref m0), (1, .int (nI x9))] → W p l e rm_X7_worst (s.setDrawn d0) m [Value.ref m0, Value.int ((nI x9))].toArray below meth c H_7 locs (0 + rm_X7_noStrip.cells) (0 + rm_X7_noStrip.slots) (xMQ below (fun v H1 => ∃ T : Int32, xRef G ty m0 A T F R pl un co dr bu nb wi hi fc fa lo la px py pz H1 ∧ xRfr m0 A H H1 ∧ ∃ z : Int32, v = some (.int z) ∧ ((T = nI 0 ∧ (vp_in (nI x9) (R - 1)) ∧ ¬ un (nI x9).toNatClampNeg = 0 ∧ z = nI (pWor co pl (nI x9).toNatClampNeg (F - 1)).1) ∨ (T = nI 1 ∧ ¬ (vp_in (nI x9) (R - 1))) ∨ (T = nI 2 ∧ (vp_in (nI x9) (R - 1)) ∧ un (nI x9).toNatClampNeg = 0))) (fun _ _ => False) [.ref m0, .int ((nI x9))].toArray s rm_X7_worst b0) (F0 m 39 ls []) from K (F - 1) 0 _ _ d0 ls ⟨by omega, vq_rf _⟩ hS hd0 (lv_sub hl [0, 1, 2, 3, 4] rfl)
        intro n
        induction n with
        | zero =>
          intro k mo locs d0 ls hinv hS hd0 hl
          obtain ⟨hk, hmo⟩ := hinv
          refine lv_iload hx hb dX7_worst_39 (lv_at hl 0 rfl) ?_
          refine lv_aload_n hx hb dX7_worst_41 rfl (lv_at hl 3 rfl) ?_
          refine va_get (D := G) (cl := vwCl) (ci := 8) (v := .int (nI F)) (C := RX7) (T := TX7) (N := 18) hx hb (hts d0) in_X7_worst_X7 hown hK.1 (x1 hc_7) 0 rfl rfl 1 (by decide) (hts d0 _ hw_X7_worst_4) (fun _ h9 => h9) rfl dX7_worst_42 ?_
          refine lv_iconst (v := nI 1) hx hb dX7_worst_45 (by decide) ?_
          refine xisubN hx hb (by omega) dX7_worst_46 ?_
          refine xicmpN_ge (tgt := 117) hx hb (by omega) (by omega) dX7_worst_47 (by decide) (fun _ => ?_) (fun h9 => absurd h9 (by omega))
          refine lv_iload_n hx hb dX7_worst_117 rfl (lv_at hl 2 rfl) ?_
          exact xiret hd0 hx hb hr hlocks hS (Nat.le_of_ble_eq_true rfl) (Nat.le_of_ble_eq_true rfl) dX7_worst_118 ⟨nI 0, ⟨hc_7, hc_A0_7, hc_A1_7, hc_A2_7, hc_A3_7, hc_A4_7, hc_A5_7, hc_A6_7, hc_A7_7, hc_A8_7, hc_A9_7, hc_A10_7⟩, hfr_7, _, rfl, Or.inl ⟨rfl, z9, by rw [nN_nI (by omega)]; exact c_3, by have e9 : k = F - 1 := (by omega); subst e9; rw [nN_nI (by omega)]⟩⟩
        | succ n ih =>
          intro k mo locs d0 ls hinv hS hd0 hl
          obtain ⟨hk, hmo⟩ := hinv
          refine lv_iload hx hb dX7_worst_39 (lv_at hl 0 rfl) ?_
          refine lv_aload_n hx hb dX7_worst_41 rfl (lv_at hl 3 rfl) ?_
          refine va_get (D := G) (cl := vwCl) (ci := 8) (v := .int (nI F)) (C := RX7) (T := TX7) (N := 18) hx hb (hts d0) in_X7_worst_X7 hown hK.1 (x1 hc_7) 0 rfl rfl 1 (by decide) (hts d0 _ hw_X7_worst_4) (fun _ h9 => h9) rfl dX7_worst_42 ?_
          refine lv_iconst (v := nI 1) hx hb dX7_worst_45 (by decide) ?_
          refine xisubN hx hb (by omega) dX7_worst_46 ?_
          refine xicmpN_ge (tgt := 117) hx hb (by omega) (by omega) dX7_worst_47 (by decide) (fun h9 => absurd h9 (by omega)) (fun _ => ?_)
          refine lv_aload_n hx hb dX7_worst_50 rfl (lv_at hl 3 rfl) ?_
          refine va_get (D := G) (cl := vwCl) (ci := 8) (v := .int (nI 0)) (C := RX7) (T := TX7) (N := 18) hx hb (hts d0) in_X7_worst_X7 hown hK.1 (x1 hc_7) 0 rfl rfl 0 (by decide) (hts d0 _ hw_X7_worst_2) (fun _ h9 => h9) rfl dX7_worst_51 ?_
          refine lv_if_ne (tgt := 117) hx hb dX7_worst_54 (by decide) (fun h9 => (show False by revert h9; decide).elim) (fun _ => ?_)
          refine lv_aload_n hx hb dX7_worst_57 rfl (lv_at hl 3 rfl) ?_
          refine lv_iload_n hx hb dX7_worst_58 rfl (lv_at hl 4 rfl) ?_
          refine lv_iload hx hb dX7_worst_59 (lv_at hl 0 rfl) ?_
          have cw_11 := cwV (R := rm_X7_worst) (rm := rm_X7_off) 2 (hts d0) gX7_worst_X7_off rfl rfl rfl (by decide +kernel) ⟨Nat.le_of_ble_eq_true rfl, Nat.le_of_ble_eq_true rfl⟩
          refine xcall hd0 (xintoV (b := m0) (As := [.int (nI x9), .int (nI k)]) (rest := []) ⟨hx, hb, hml, hown, hts _⟩ cw_11 (va_recv hK.1 (x1 hc_7) (ci := 8) (q0 := 0) rfl rfl) rfl rfl hl.1 rfl (lv_room (Nat.le_of_ble_eq_true rfl)) dX7_worst_61) (c_X7_off (l := l) (G := G) (ty := ty) (b0 := b0) (⟨hc_7, hc_A0_7, hc_A1_7, hc_A2_7, hc_A3_7, hc_A4_7, hc_A5_7, hc_A6_7, hc_A7_7, hc_A8_7, hc_A9_7, hc_A10_7⟩ : xRef G ty m0 A (nI 0) F R pl un co dr bu nb wi hi fc fa lo la px py pz H_7) hZ (x := x9) (f := k) (by omega) (by omega)) (xoweB cw_11.1) hK hb0 hS (Nat.le_of_ble_eq_true rfl) (Nat.le_of_ble_eq_true rfl) (fun E_11 ce_11 q9_11 H_11 locs_11 d0 hd0 hp_11 hS hce_11 hcv_11 hcl_11 => ?_) (fun v_11 H_11 locs_11 d0 hd0 hp_11 hS => ?_)
          · exact hp_11.elim
          · obtain ⟨rfl, r_11, rfl, q_11⟩ := hp_11
            show W p l e _ (s.setDrawn _) m _ below meth c _ _ _ _ _ (F0 m 64 ls [.double r_11])
            refine lv_dstore (lv' := [(6, .double r_11), (5, .int (nI k)), (3, .double mo), (2, .int (nI ((pWor co pl x9 k).1))), (0, .ref m0), (1, .int (nI x9))]) hx hb dX7_worst_64 hl (by decide) rfl (fun ls hl => ?_)
            have J_12 : ∀ (y : UInt64) (locs : List Loc) (d0 : Drawn) (ls : Array Slot), vq y (pSize (pOff co pl x9 k)) → va_S (xA b0) s.heap H_7 locs → s.drawn.sameBut d0 lw_cs → lv_has ls 8 [(5, .int (nI k)), (3, .double mo), (2, .int (nI ((pWor co pl x9 k).1))), (0, .ref m0), (1, .int (nI x9))] → W p l e rm_X7_worst (s.setDrawn d0) m [Value.ref m0, Value.int ((nI x9))].toArray below meth c H_7 locs (0 + rm_X7_noStrip.cells + rm_X7_off.cells) (0 + rm_X7_noStrip.slots + rm_X7_off.slots) (xMQ below (fun v H1 => ∃ T : Int32, xRef G ty m0 A T F R pl un co dr bu nb wi hi fc fa lo la px py pz H1 ∧ xRfr m0 A H H1 ∧ ∃ z : Int32, v = some (.int z) ∧ ((T = nI 0 ∧ (vp_in (nI x9) (R - 1)) ∧ ¬ un (nI x9).toNatClampNeg = 0 ∧ z = nI (pWor co pl (nI x9).toNatClampNeg (F - 1)).1) ∨ (T = nI 1 ∧ ¬ (vp_in (nI x9) (R - 1))) ∨ (T = nI 2 ∧ (vp_in (nI x9) (R - 1)) ∧ un (nI x9).toNatClampNeg = 0))) (fun _ _ => False) [.ref m0, .int ((nI x9))].toArray s rm_X7_worst b0) (F0 m 81 ls [.double y]) := by
              intro y locs d0 ls hP_12 hS hd0 hl
              refine lv_dstore (lv' := [(6, .double y), (5, .int (nI k)), (3, .double mo), (2, .int (nI ((pWor co pl x9 k).1))), (0, .ref m0), (1, .int (nI x9))]) hx hb dX7_worst_81 hl (by decide) rfl (fun ls hl => ?_)
              refine lv_dload hx hb dX7_worst_83 (lv_at hl 0 rfl) ?_
              refine lv_dload_n hx hb dX7_worst_85 rfl (lv_at hl 2 rfl) ?_
              refine xcmp_l_le (tgt := 95) hx hb hP_12 hmo dX7_worst_86 dX7_worst_87 (by decide) (fun c_13 => ?_) (fun c_13 => ?_)
              · refine lv_iload_n hx hb dX7_worst_95 rfl (lv_at hl 3 rfl) ?_
                refine lv_istore_n (lv' := [(2, .int (nI ((pWor co pl x9 k).1))), (6, .double y), (5, .int (nI k)), (3, .double mo), (0, .ref m0), (1, .int (nI x9))]) hx hb dX7_worst_96 rfl hl (by decide) rfl (fun ls hl => ?_)
                refine lv_dload hx hb dX7_worst_97 (lv_at hl 1 rfl) ?_
                refine lv_dload_n hx hb dX7_worst_99 rfl (lv_at hl 3 rfl) ?_
                refine xcmp_l_le (tgt := 109) hx hb hP_12 hmo dX7_worst_100 dX7_worst_101 (by decide) (fun c_14 => ?_) (fun c_14 => ?_)
                · refine lv_dload_n hx hb dX7_worst_109 rfl (lv_at hl 3 rfl) ?_
                  refine lv_dstore_n (lv' := [(3, .double mo), (2, .int (nI ((pWor co pl x9 k).1))), (6, .double y), (5, .int (nI k)), (0, .ref m0), (1, .int (nI x9))]) hx hb dX7_worst_110 rfl hl (by decide) rfl (fun ls hl => ?_)
                  refine xiincN (x := k) (y := 1) (lv' := [(5, .int (nI (k + 1))), (3, .double mo), (2, .int (nI ((pWor co pl x9 k).1))), (6, .double y), (0, .ref m0), (1, .int (nI x9))]) hx hb dX7_worst_111 hl (k := 3) rfl (by decide) (by decide) rfl (fun ls hl => ?_)
                  refine lv_goto (tgt := 39) hx hb dX7_worst_114 (by decide) ?_
                  first | exact (xtf c_13 c_14).elim | exact (xtf c_14 c_13).elim | exact ih (k + 1) mo _ d0 ls ⟨by omega, by rw [pWor_t c_13]; exact hmo⟩ hS hd0 (by rw [pWor_t c_13]; exact lv_sub hl [0, 1, 2, 4, 5] rfl) | exact ih (k + 1) mo _ d0 ls ⟨by omega, by rw [pWor_f c_13]; exact hmo⟩ hS hd0 (by rw [pWor_f c_13]; exact lv_sub hl [0, 1, 2, 4, 5] rfl)
                · refine lv_dload hx hb dX7_worst_104 (lv_at hl 1 rfl) ?_
                  refine lv_goto (tgt := 110) hx hb dX7_worst_106 (by decide) ?_
                  refine lv_dstore_n (lv' := [(3, .double y), (2, .int (nI ((pWor co pl x9 k).1))), (6, .double y), (5, .int (nI k)), (0, .ref m0), (1, .int (nI x9))]) hx hb dX7_worst_110 rfl hl (by decide) rfl (fun ls hl => ?_)
                  refine xiincN (x := k) (y := 1) (lv' := [(5, .int (nI (k + 1))), (3, .double y), (2, .int (nI ((pWor co pl x9 k).1))), (6, .double y), (0, .ref m0), (1, .int (nI x9))]) hx hb dX7_worst_111 hl (k := 3) rfl (by decide) (by decide) rfl (fun ls hl => ?_)
                  refine lv_goto (tgt := 39) hx hb dX7_worst_114 (by decide) ?_
                  first | exact (xtf c_13 c_14).elim | exact (xtf c_14 c_13).elim | exact ih (k + 1) y _ d0 ls ⟨by omega, by rw [pWor_t c_13]; exact hP_12⟩ hS hd0 (by rw [pWor_t c_13]; exact lv_sub hl [0, 1, 2, 4, 5] rfl) | exact ih (k + 1) y _ d0 ls ⟨by omega, by rw [pWor_f c_13]; exact hP_12⟩ hS hd0 (by rw [pWor_f c_13]; exact lv_sub hl [0, 1, 2, 4, 5] rfl)
              · refine lv_iload hx hb dX7_worst_90 (lv_at hl 1 rfl) ?_
                refine lv_goto (tgt := 96) hx hb dX7_worst_92 (by decide) ?_
                refine lv_istore_n (lv' := [(2, .int (nI k)), (6, .double y), (5, .int (nI k)), (3, .double mo), (0, .ref m0), (1, .int (nI x9))]) hx hb dX7_worst_96 rfl hl (by decide) rfl (fun ls hl => ?_)
                refine lv_dload hx hb dX7_worst_97 (lv_at hl 1 rfl) ?_
                refine lv_dload_n hx hb dX7_worst_99 rfl (lv_at hl 3 rfl) ?_
                refine xcmp_l_le (tgt := 109) hx hb hP_12 hmo dX7_worst_100 dX7_worst_101 (by decide) (fun c_15 => ?_) (fun c_15 => ?_)
                · refine lv_dload_n hx hb dX7_worst_109 rfl (lv_at hl 3 rfl) ?_
                  refine lv_dstore_n (lv' := [(3, .double mo), (2, .int (nI k)), (6, .double y), (5, .int (nI k)), (0, .ref m0), (1, .int (nI x9))]) hx hb dX7_worst_110 rfl hl (by decide) rfl (fun ls hl => ?_)
                  refine xiincN (x := k) (y := 1) (lv' := [(5, .int (nI (k + 1))), (3, .double mo), (2, .int (nI k)), (6, .double y), (0, .ref m0), (1, .int (nI x9))]) hx hb dX7_worst_111 hl (k := 3) rfl (by decide) (by decide) rfl (fun ls hl => ?_)
                  refine lv_goto (tgt := 39) hx hb dX7_worst_114 (by decide) ?_
                  first | exact (xtf c_13 c_15).elim | exact (xtf c_15 c_13).elim | exact ih (k + 1) mo _ d0 ls ⟨by omega, by rw [pWor_t c_13]; exact hmo⟩ hS hd0 (by rw [pWor_t c_13]; exact lv_sub hl [0, 1, 2, 4, 5] rfl) | exact ih (k + 1) mo _ d0 ls ⟨by omega, by rw [pWor_f c_13]; exact hmo⟩ hS hd0 (by rw [pWor_f c_13]; exact lv_sub hl [0, 1, 2, 4, 5] rfl)
                · refine lv_dload hx hb dX7_worst_104 (lv_at hl 1 rfl) ?_
                  refine lv_goto (tgt := 110) hx hb dX7_worst_106 (by decide) ?_
                  refine lv_dstore_n (lv' := [(3, .double y), (2, .int (nI k)), (6, .double y), (5, .int (nI k)), (0, .ref m0), (1, .int (nI x9))]) hx hb dX7_worst_110 rfl hl (by decide) rfl (fun ls hl => ?_)
                  refine xiincN (x := k) (y := 1) (lv' := [(5, .int (nI (k + 1))), (3, .double y), (2, .int (nI k)), (6, .double y), (0, .ref m0), (1, .int (nI x9))]) hx hb dX7_worst_111 hl (k := 3) rfl (by decide) (by decide) rfl (fun ls hl => ?_)
                  refine lv_goto (tgt := 39) hx hb dX7_worst_114 (by decide) ?_
                  first | exact (xtf c_13 c_15).elim | exact (xtf c_15 c_13).elim | exact ih (k + 1) y _ d0 ls ⟨by omega, by rw [pWor_t c_13]; exact hP_12⟩ hS hd0 (by rw [pWor_t c_13]; exact lv_sub hl [0, 1, 2, 4, 5] rfl) | exact ih (k + 1) y _ d0 ls ⟨by omega, by rw [pWor_f c_13]; exact hP_12⟩ hS hd0 (by rw [pWor_f c_13]; exact lv_sub hl [0, 1, 2, 4, 5] rfl)
            refine lv_dload hx hb dX7_worst_66 (lv_at hl 0 rfl) ?_
            refine lv_dconst0 hx hb dX7_worst_68 ?_
            refine xcmp_g_ge (tgt := 79) hx hb q_11 (vq_rf _) dX7_worst_69 dX7_worst_70 (by decide) (fun c_16 => ?_) (fun c_16 => ?_)
            · refine lv_dload hx hb dX7_worst_79 (lv_at hl 0 rfl) ?_
              exact J_12 _ _ d0 ls (by first | exact pSize_t c_16 q_11 | exact pSize_f c_16 q_11) hS hd0 (lv_sub hl [1, 2, 3, 4, 5] rfl)
            · refine lv_dload hx hb dX7_worst_73 (lv_at hl 0 rfl) ?_
              refine lv_dneg hx hb dX7_worst_75 ?_
              refine lv_goto (tgt := 81) hx hb dX7_worst_76 (by decide) ?_
              exact J_12 _ _ d0 ls (by first | exact pSize_t c_16 (vq_neg q_11) | exact pSize_f c_16 (vq_neg q_11)) hS hd0 (lv_sub hl [1, 2, 3, 4, 5] rfl)
    · refine lv_iconst (v := nI 1) hx hb dX7_worst_9 (by decide) ?_
      refine lv_goto (tgt := 27) hx hb dX7_worst_10 (by decide) ?_
      refine xput (G := G) (ci := 8) (v := .int (nI 1)) (ty := .int) (C := RX7) (T := TX7) (N := 18) hx hb (hts d0) in_X7_worst_X7 tyX7 tyX7_ok nmX7 hown hK.1 y_o hS hB.1 rfl 0 (by decide) (hts d0 _ hw_X7_worst_2) (fun _ h9 => h9) rfl (by decide +kernel) rfl rfl (Nat.le_of_ble_eq_true rfl) dX7_worst_27 (fun H_17 locs_17 hs_17 hS => ?_)
      have hc_17 : xc G m0 (.inr (8, [.int (nI 1), .int (nI F), .int (nI R), .ref (A 0), .ref (A 1), .ref (A 2), .ref (A 3), .ref (A 4), .int (nI nb), .ref (A 5), .ref (A 6), .ref (A 7), .ref (A 8), .ref (A 9), .ref (A 10), .double px, .double py, .double pz])) H_17 := hs_17.1
      have hc_A0_17 : xc G (A 0) (.inl (ty 0, 192, .inr (.inr (.inr (.inl pl))))) H_17 := y_0.kept (hs_17.2.2 _ (hA.1 0 (by decide)))
      have hc_A1_17 : xc G (A 1) (.inl (ty 2, 8, .inl un)) H_17 := y_1.kept (hs_17.2.2 _ (hA.1 1 (by decide)))
      have hc_A2_17 : xc G (A 2) (.inl (ty 0, 256, .inr (.inr (.inr (.inl co))))) H_17 := y_2.kept (hs_17.2.2 _ (hA.1 2 (by decide)))
      have hc_A3_17 : xc G (A 3) (.inl (ty 0, 32, .inr (.inr (.inr (.inl dr))))) H_17 := y_3.kept (hs_17.2.2 _ (hA.1 3 (by decide)))
      have hc_A4_17 : xc G (A 4) (.inl (ty 2, 64, .inl bu)) H_17 := y_4.kept (hs_17.2.2 _ (hA.1 4 (by decide)))
      have hc_A5_17 : xc G (A 5) (.inl (ty 0, 4, .inr (.inr (.inr (.inl wi))))) H_17 := y_5.kept (hs_17.2.2 _ (hA.1 5 (by decide)))
      have hc_A6_17 : xc G (A 6) (.inl (ty 0, 4, .inr (.inr (.inr (.inl hi))))) H_17 := y_6.kept (hs_17.2.2 _ (hA.1 6 (by decide)))
      have hc_A7_17 : xc G (A 7) (.inl (ty 1, 4, .inl fc)) H_17 := y_7.kept (hs_17.2.2 _ (hA.1 7 (by decide)))
      have hc_A8_17 : xc G (A 8) (.inl (ty 0, 128, .inr (.inr (.inr (.inl fa))))) H_17 := y_8.kept (hs_17.2.2 _ (hA.1 8 (by decide)))
      have hc_A9_17 : xc G (A 9) (.inl (ty 1, 8, .inl lo)) H_17 := y_9.kept (hs_17.2.2 _ (hA.1 9 (by decide)))
      have hc_A10_17 : xc G (A 10) (.inl (ty 1, 8, .inl la)) H_17 := y_10.kept (hs_17.2.2 _ (hA.1 10 (by decide)))
      have hfr_17 : xRfr m0 A H H_17 := xRfr.put0 xRfr.rf hs_17
      refine lv_iconst (v := nI 0) hx hb dX7_worst_30 (by decide) ?_
      refine lv_istore_n (lv' := [(2, .int (nI 0)), (0, .ref m0), (1, .int (x))]) hx hb dX7_worst_31 rfl hl (by decide) rfl (fun ls hl => ?_)
      refine lv_ldc2d hx hb hown (hts d0 _ hw_X7_worst_3) dX7_worst_32 ?_
      refine lv_dstore_n (lv' := [(3, .double 13830554455654793216), (2, .int (nI 0)), (0, .ref m0), (1, .int (x))]) hx hb dX7_worst_35 rfl hl (by decide) rfl (fun ls hl => ?_)
      refine lv_iconst (v := nI 0) hx hb dX7_worst_36 (by decide) ?_
      refine lv_istore (lv' := [(5, .int (nI 0)), (3, .double 13830554455654793216), (2, .int (nI 0)), (0, .ref m0), (1, .int (x))]) hx hb dX7_worst_37 hl (by decide) rfl (fun ls hl => ?_)
      refine lv_iload hx hb dX7_worst_39 (lv_at hl 0 rfl) ?_
      refine lv_aload_n hx hb dX7_worst_41 rfl (lv_at hl 3 rfl) ?_
      refine va_get (D := G) (cl := vwCl) (ci := 8) (v := .int (nI F)) (C := RX7) (T := TX7) (N := 18) hx hb (hts d0) in_X7_worst_X7 hown hK.1 (x1 hc_17) 0 rfl rfl 1 (by decide) (hts d0 _ hw_X7_worst_4) (fun _ h9 => h9) rfl dX7_worst_42 ?_
      refine lv_iconst (v := nI 1) hx hb dX7_worst_45 (by decide) ?_
      refine xisubN hx hb (by omega) dX7_worst_46 ?_
      refine xicmpN_ge (tgt := 117) hx hb (by decide) (by omega) dX7_worst_47 (by decide) (fun h9 => absurd h9 (by omega)) (fun _ => ?_)
      refine lv_aload_n hx hb dX7_worst_50 rfl (lv_at hl 3 rfl) ?_
      refine va_get (D := G) (cl := vwCl) (ci := 8) (v := .int (nI 1)) (C := RX7) (T := TX7) (N := 18) hx hb (hts d0) in_X7_worst_X7 hown hK.1 (x1 hc_17) 0 rfl rfl 0 (by decide) (hts d0 _ hw_X7_worst_2) (fun _ h9 => h9) rfl dX7_worst_51 ?_
      refine lv_if_ne (tgt := 117) hx hb dX7_worst_54 (by decide) (fun _ => ?_) (fun h9 => (show False by revert h9; decide).elim)
      refine lv_iload_n hx hb dX7_worst_117 rfl (lv_at hl 2 rfl) ?_
      exact xiret hd0 hx hb hr hlocks hS (Nat.le_of_ble_eq_true rfl) (Nat.le_of_ble_eq_true rfl) dX7_worst_118 ⟨nI 1, ⟨hc_17, hc_A0_17, hc_A1_17, hc_A2_17, hc_A3_17, hc_A4_17, hc_A5_17, hc_A6_17, hc_A7_17, hc_A8_17, hc_A9_17, hc_A10_17⟩, hfr_17, _, rfl, Or.inr (Or.inl ⟨rfl, xP_ne.mp c_2⟩)⟩
set_option maxRecDepth 20000 in
theorem ggX7_staves_X7_areStaves : GoodIn wsX7_staves wsX7_areStaves := goodIn_r _ [6, 7, 8, 9, 10, 5, 11] (by decide +kernel) (by decide +kernel)
set_option maxRecDepth 20000 in
theorem gX7_staves_X7_areStaves : GoodIn wsX7_staves (va_wsS RX7 136 yX7_areStaves wsX7_areStaves) := goodIn_app (goodIn_of _ (by decide +kernel)) ggX7_staves_X7_areStaves
theorem dX7_staves_0 : decode cX7_staves 0 = .ok (.aload_n 0, 1) := by decide +kernel
theorem dX7_staves_1 : decode cX7_staves 1 = .ok (.dload_n 1, 1) := by decide +kernel
theorem dX7_staves_2 : decode cX7_staves 2 = .ok (.dload_n 3, 1) := by decide +kernel
theorem dX7_staves_3 : decode cX7_staves 3 = .ok (.invokestatic 136, 3) := by decide +kernel
theorem dX7_staves_6 : decode cX7_staves 6 = .ok (.ifCond .eq 7, 3) := by decide +kernel
theorem dX7_staves_9 : decode cX7_staves 9 = .ok (.iconst 0, 1) := by decide +kernel
theorem dX7_staves_10 : decode cX7_staves 10 = .ok (.goto 4, 3) := by decide +kernel
theorem dX7_staves_13 : decode cX7_staves 13 = .ok (.iconst 1, 1) := by decide +kernel
theorem dX7_staves_14 : decode cX7_staves 14 = .ok (.putfield 52, 3) := by decide +kernel
theorem dX7_staves_17 : decode cX7_staves 17 = .ok (.iconst 1, 1) := by decide +kernel
theorem dX7_staves_18 : decode cX7_staves 18 = .ok (.istore 5, 2) := by decide +kernel
theorem dX7_staves_20 : decode cX7_staves 20 = .ok (.aload_n 0, 1) := by decide +kernel
theorem dX7_staves_21 : decode cX7_staves 21 = .ok (.getfield 52, 3) := by decide +kernel
theorem dX7_staves_24 : decode cX7_staves 24 = .ok (.ifCond .ne 23, 3) := by decide +kernel
theorem dX7_staves_27 : decode cX7_staves 27 = .ok (.iload 5, 2) := by decide +kernel
theorem dX7_staves_29 : decode cX7_staves 29 = .ok (.i2d, 1) := by decide +kernel
theorem dX7_staves_30 : decode cX7_staves 30 = .ok (.dload_n 1, 1) := by decide +kernel
theorem dX7_staves_31 : decode cX7_staves 31 = .ok (.dmul, 1) := by decide +kernel
theorem dX7_staves_32 : decode cX7_staves 32 = .ok (.dload_n 3, 1) := by decide +kernel
theorem dX7_staves_33 : decode cX7_staves 33 = .ok (.ldc2_w 140, 3) := by decide +kernel
theorem dX7_staves_36 : decode cX7_staves 36 = .ok (.dmul, 1) := by decide +kernel
theorem dX7_staves_37 : decode cX7_staves 37 = .ok (.dcmp .g, 1) := by decide +kernel
theorem dX7_staves_38 : decode cX7_staves 38 = .ok (.ifCond .ge 9, 3) := by decide +kernel
theorem dX7_staves_41 : decode cX7_staves 41 = .ok (.iinc 5 1, 3) := by decide +kernel
theorem dX7_staves_44 : decode cX7_staves 44 = .ok (.goto (-24), 3) := by decide +kernel
theorem dX7_staves_47 : decode cX7_staves 47 = .ok (.aload_n 0, 1) := by decide +kernel
theorem dX7_staves_48 : decode cX7_staves 48 = .ok (.getfield 52, 3) := by decide +kernel
theorem dX7_staves_51 : decode cX7_staves 51 = .ok (.ifCond .le 7, 3) := by decide +kernel
theorem dX7_staves_54 : decode cX7_staves 54 = .ok (.iconst 0, 1) := by decide +kernel
theorem dX7_staves_55 : decode cX7_staves 55 = .ok (.goto 5, 3) := by decide +kernel
theorem dX7_staves_58 : decode cX7_staves 58 = .ok (.iload 5, 2) := by decide +kernel
theorem dX7_staves_60 : decode cX7_staves 60 = .ok (.ireturn, 1) := by decide +kernel
abbrev rm_X7_staves : Room := { frames := 7, cells := 0, slots := 0, locals := 140 }
theorem hw_X7_staves_1 : (Cond.fieldLink RX7 52 "PlankUnrollModel" "thrown" "I") ∈ wsX7_staves := List.mem_of_getElem? (i := 1) rfl
theorem hw_X7_staves_2 : (Cond.constantDouble RX7 140 (4614256656552045848)) ∈ wsX7_staves := List.mem_of_getElem? (i := 2) rfl
theorem in_X7_staves_X7 : ∀ w ∈ wsX70, w ∈ wsX7_staves := by decide +kernel
set_option maxHeartbeats 4000000 in
set_option maxRecDepth 100000 in
/-- staves -/
theorem c_X7_staves {l : Launch} {G : va_G} {ty : Nat → ClassId} {b0 : Nat} {H : Heap} {m0 : Nat} {A : Nat → Nat} {th : Int32} {F R nb : Nat} {pl co dr wi hi fa : Nat → UInt64} {un bu fc lo la : Nat → Int32} {px py pz : UInt64} (hY : xRef G ty m0 A th F R pl un co dr bu nb wi hi fc fa lo la px py pz H) (hZ : xSz F R) (hA : xAp m0 A) (hB : xNw b0 m0 A) {x d ew ed : UInt64} {N : Nat} (hx9 : vq x ew) (hd9 : vq d ed) (hN : pStav ew ed = true → 1 ≤ N ∧ N < 2 ^ 30 ∧ (∀ n : Nat, 1 ≤ n → n < N → xlt (FP.dmul (FP.i2d (nI n)) ew) (FP.dmul ed 4614256656552045848) = true) ∧ xlt (FP.dmul (FP.i2d (nI N)) ew) (FP.dmul ed 4614256656552045848) = false) : xMet l yX7_staves wsX7_staves rm_X7_staves G ty b0 [.ref m0, .double x, .double d] H (fun v H1 => ∃ T : Int32, xRef G ty m0 A T F R pl un co dr bu nb wi hi fc fa lo la px py pz H1 ∧ xRfr m0 A H H1 ∧ ∃ z : Int32, v = some (.int z) ∧ ((T = nI 0 ∧ (pStav ew ed = true) ∧ z = nI N) ∨ (T = nI 1 ∧ ¬ (pStav ew ed = true)))) (fun _ _ => False) := by
  refine xbody (cc := cX7_staves) (maxL := 6) (ret := (some .int)) (C := RX7) (lv := [(0, .ref m0), (1, .double x), (3, .double d)]) (by decide) rfl rfl (Nat.le_of_ble_eq_true rfl) rfl ?_
  intro p e s m below meth c d0 hx hb hr hts hown hlocks hml hxt hnm0 hK hb0 hH0 hS hd0 ls hl
  obtain ⟨y_o, y_0, y_1, y_2, y_3, y_4, y_5, y_6, y_7, y_8, y_9, y_10⟩ := id hY
  obtain ⟨⟨zF2, zF8⟩, ⟨zR2, zR8⟩⟩ := id hZ
  refine lv_aload_n hx hb dX7_staves_0 rfl (lv_at hl 0 rfl) ?_
  refine lv_dload_n hx hb dX7_staves_1 rfl (lv_at hl 1 rfl) ?_
  refine lv_dload_n hx hb dX7_staves_2 rfl (lv_at hl 2 rfl) ?_
  have cw_1 := va_cwS (R := rm_X7_staves) (rm := rm_X7_areStaves) 2 (hts d0) gX7_staves_X7_areStaves rfl rfl rfl (by decide +kernel) ⟨Nat.le_of_ble_eq_true rfl, Nat.le_of_ble_eq_true rfl⟩
  refine xcall hd0 (xintoS (As := [.double x, .double d]) (rest := [.ref m0]) ⟨hx, hb, hml, hown, hts _⟩ cw_1 rfl rfl hl.1 rfl (lv_room (Nat.le_of_ble_eq_true rfl)) dX7_staves_3) (c_X7_areStaves (l := l) (G := G) (ty := ty) (b0 := b0) hx9 hd9) (xoweB cw_1.1) hK hb0 hS (Nat.le_of_ble_eq_true rfl) (Nat.le_of_ble_eq_true rfl) (fun E_1 ce_1 q9_1 H_1 locs_1 d0 hd0 hp_1 hS hce_1 hcv_1 hcl_1 => ?_) (fun v_1 H_1 locs_1 d0 hd0 hp_1 hS => ?_)
  · exact hp_1.elim
  · obtain ⟨rfl, rfl⟩ := hp_1
    show W p l e _ (s.setDrawn _) m _ below meth c _ _ _ _ _ (F0 m 6 ls [.int (xB (pStav ew ed)), .ref m0])
    refine lv_if_eq (tgt := 13) hx hb dX7_staves_6 (by decide) (fun c_2 => ?_) (fun c_2 => ?_)
    · refine lv_iconst (v := nI 1) hx hb dX7_staves_13 (by decide) ?_
      refine xput (G := G) (ci := 8) (v := .int (nI 1)) (ty := .int) (C := RX7) (T := TX7) (N := 18) hx hb (hts d0) in_X7_staves_X7 tyX7 tyX7_ok nmX7 hown hK.1 y_o hS hB.1 rfl 0 (by decide) (hts d0 _ hw_X7_staves_1) (fun _ h9 => h9) rfl (by decide +kernel) rfl rfl (Nat.le_of_ble_eq_true rfl) dX7_staves_14 (fun H_3 locs_3 hs_3 hS => ?_)
      have hc_3 : xc G m0 (.inr (8, [.int (nI 1), .int (nI F), .int (nI R), .ref (A 0), .ref (A 1), .ref (A 2), .ref (A 3), .ref (A 4), .int (nI nb), .ref (A 5), .ref (A 6), .ref (A 7), .ref (A 8), .ref (A 9), .ref (A 10), .double px, .double py, .double pz])) H_3 := hs_3.1
      have hc_A0_3 : xc G (A 0) (.inl (ty 0, 192, .inr (.inr (.inr (.inl pl))))) H_3 := y_0.kept (hs_3.2.2 _ (hA.1 0 (by decide)))
      have hc_A1_3 : xc G (A 1) (.inl (ty 2, 8, .inl un)) H_3 := y_1.kept (hs_3.2.2 _ (hA.1 1 (by decide)))
      have hc_A2_3 : xc G (A 2) (.inl (ty 0, 256, .inr (.inr (.inr (.inl co))))) H_3 := y_2.kept (hs_3.2.2 _ (hA.1 2 (by decide)))
      have hc_A3_3 : xc G (A 3) (.inl (ty 0, 32, .inr (.inr (.inr (.inl dr))))) H_3 := y_3.kept (hs_3.2.2 _ (hA.1 3 (by decide)))
      have hc_A4_3 : xc G (A 4) (.inl (ty 2, 64, .inl bu)) H_3 := y_4.kept (hs_3.2.2 _ (hA.1 4 (by decide)))
      have hc_A5_3 : xc G (A 5) (.inl (ty 0, 4, .inr (.inr (.inr (.inl wi))))) H_3 := y_5.kept (hs_3.2.2 _ (hA.1 5 (by decide)))
      have hc_A6_3 : xc G (A 6) (.inl (ty 0, 4, .inr (.inr (.inr (.inl hi))))) H_3 := y_6.kept (hs_3.2.2 _ (hA.1 6 (by decide)))
      have hc_A7_3 : xc G (A 7) (.inl (ty 1, 4, .inl fc)) H_3 := y_7.kept (hs_3.2.2 _ (hA.1 7 (by decide)))
      have hc_A8_3 : xc G (A 8) (.inl (ty 0, 128, .inr (.inr (.inr (.inl fa))))) H_3 := y_8.kept (hs_3.2.2 _ (hA.1 8 (by decide)))
      have hc_A9_3 : xc G (A 9) (.inl (ty 1, 8, .inl lo)) H_3 := y_9.kept (hs_3.2.2 _ (hA.1 9 (by decide)))
      have hc_A10_3 : xc G (A 10) (.inl (ty 1, 8, .inl la)) H_3 := y_10.kept (hs_3.2.2 _ (hA.1 10 (by decide)))
      have hfr_3 : xRfr m0 A H H_3 := xRfr.put0 xRfr.rf hs_3
      refine lv_iconst (v := nI 1) hx hb dX7_staves_17 (by decide) ?_
      refine lv_istore (lv' := [(5, .int (nI 1)), (0, .ref m0), (1, .double x), (3, .double d)]) hx hb dX7_staves_18 hl (by decide) rfl (fun ls hl => ?_)
      refine lv_aload_n hx hb dX7_staves_20 rfl (lv_at hl 1 rfl) ?_
      refine va_get (D := G) (cl := vwCl) (ci := 8) (v := .int (nI 1)) (C := RX7) (T := TX7) (N := 18) hx hb (hts d0) in_X7_staves_X7 hown hK.1 (x1 hc_3) 0 rfl rfl 0 (by decide) (hts d0 _ hw_X7_staves_1) (fun _ h9 => h9) rfl dX7_staves_21 ?_
      refine lv_if_ne (tgt := 47) hx hb dX7_staves_24 (by decide) (fun _ => ?_) (fun h9 => (show False by revert h9; decide).elim)
      refine lv_aload_n hx hb dX7_staves_47 rfl (lv_at hl 1 rfl) ?_
      refine va_get (D := G) (cl := vwCl) (ci := 8) (v := .int (nI 1)) (C := RX7) (T := TX7) (N := 18) hx hb (hts d0) in_X7_staves_X7 hown hK.1 (x1 hc_3) 0 rfl rfl 0 (by decide) (hts d0 _ hw_X7_staves_1) (fun _ h9 => h9) rfl dX7_staves_48 ?_
      refine lv_if_le (tgt := 58) hx hb dX7_staves_51 (by decide) (fun h9 => (show False by revert h9; decide).elim) (fun _ => ?_)
      refine lv_iconst (v := nI 0) hx hb dX7_staves_54 (by decide) ?_
      refine lv_goto (tgt := 60) hx hb dX7_staves_55 (by decide) ?_
      exact xiret hd0 hx hb hr hlocks hS (Nat.le_of_ble_eq_true rfl) (Nat.le_of_ble_eq_true rfl) dX7_staves_60 ⟨nI 1, ⟨hc_3, hc_A0_3, hc_A1_3, hc_A2_3, hc_A3_3, hc_A4_3, hc_A5_3, hc_A6_3, hc_A7_3, hc_A8_3, hc_A9_3, hc_A10_3⟩, hfr_3, _, rfl, Or.inr ⟨rfl, fun z => xtf z (xB_f c_2)⟩⟩
    · refine lv_iconst (v := nI 0) hx hb dX7_staves_9 (by decide) ?_
      refine lv_goto (tgt := 14) hx hb dX7_staves_10 (by decide) ?_
      refine xput (G := G) (ci := 8) (v := .int (nI 0)) (ty := .int) (C := RX7) (T := TX7) (N := 18) hx hb (hts d0) in_X7_staves_X7 tyX7 tyX7_ok nmX7 hown hK.1 y_o hS hB.1 rfl 0 (by decide) (hts d0 _ hw_X7_staves_1) (fun _ h9 => h9) rfl (by decide +kernel) rfl rfl (Nat.le_of_ble_eq_true rfl) dX7_staves_14 (fun H_6 locs_6 hs_6 hS => ?_)
      have hc_6 : xc G m0 (.inr (8, [.int (nI 0), .int (nI F), .int (nI R), .ref (A 0), .ref (A 1), .ref (A 2), .ref (A 3), .ref (A 4), .int (nI nb), .ref (A 5), .ref (A 6), .ref (A 7), .ref (A 8), .ref (A 9), .ref (A 10), .double px, .double py, .double pz])) H_6 := hs_6.1
      have hc_A0_6 : xc G (A 0) (.inl (ty 0, 192, .inr (.inr (.inr (.inl pl))))) H_6 := y_0.kept (hs_6.2.2 _ (hA.1 0 (by decide)))
      have hc_A1_6 : xc G (A 1) (.inl (ty 2, 8, .inl un)) H_6 := y_1.kept (hs_6.2.2 _ (hA.1 1 (by decide)))
      have hc_A2_6 : xc G (A 2) (.inl (ty 0, 256, .inr (.inr (.inr (.inl co))))) H_6 := y_2.kept (hs_6.2.2 _ (hA.1 2 (by decide)))
      have hc_A3_6 : xc G (A 3) (.inl (ty 0, 32, .inr (.inr (.inr (.inl dr))))) H_6 := y_3.kept (hs_6.2.2 _ (hA.1 3 (by decide)))
      have hc_A4_6 : xc G (A 4) (.inl (ty 2, 64, .inl bu)) H_6 := y_4.kept (hs_6.2.2 _ (hA.1 4 (by decide)))
      have hc_A5_6 : xc G (A 5) (.inl (ty 0, 4, .inr (.inr (.inr (.inl wi))))) H_6 := y_5.kept (hs_6.2.2 _ (hA.1 5 (by decide)))
      have hc_A6_6 : xc G (A 6) (.inl (ty 0, 4, .inr (.inr (.inr (.inl hi))))) H_6 := y_6.kept (hs_6.2.2 _ (hA.1 6 (by decide)))
      have hc_A7_6 : xc G (A 7) (.inl (ty 1, 4, .inl fc)) H_6 := y_7.kept (hs_6.2.2 _ (hA.1 7 (by decide)))
      have hc_A8_6 : xc G (A 8) (.inl (ty 0, 128, .inr (.inr (.inr (.inl fa))))) H_6 := y_8.kept (hs_6.2.2 _ (hA.1 8 (by decide)))
      have hc_A9_6 : xc G (A 9) (.inl (ty 1, 8, .inl lo)) H_6 := y_9.kept (hs_6.2.2 _ (hA.1 9 (by decide)))
      have hc_A10_6 : xc G (A 10) (.inl (ty 1, 8, .inl la)) H_6 := y_10.kept (hs_6.2.2 _ (hA.1 10 (by decide)))
      have hfr_6 : xRfr m0 A H H_6 := xRfr.put0 xRfr.rf hs_6
      refine lv_iconst (v := nI 1) hx hb dX7_staves_17 (by decide) ?_
      refine lv_istore (lv' := [(5, .int (nI 1)), (0, .ref m0), (1, .double x), (3, .double d)]) hx hb dX7_staves_18 hl (by decide) rfl (fun ls hl => ?_)
      have z9 : pStav ew ed = true := xB_t c_2
      obtain ⟨hN1, hN2, hNl, hNg⟩ := hN z9
      suffices K : ∀ (n : Nat) (k : Nat) (locs : List Loc) (d0 : Drawn) (ls : Array Slot), k + n = N ∧ 1 ≤ k → va_S (xA b0) s.heap H_6 locs → s.drawn.sameBut d0 lw_cs → lv_has ls 6 [(5, .int (nI k)), (0, .ref m0), (1, .double x), (3, .double d)] → W p l e rm_X7_staves (s.setDrawn d0) m [Value.ref m0, Value.double x, Value.double d].toArray below meth c H_6 locs (0 + rm_X7_areStaves.cells) (0 + rm_X7_areStaves.slots) (xMQ below (fun v H1 => ∃ T : Int32, xRef G ty m0 A T F R pl un co dr bu nb wi hi fc fa lo la px py pz H1 ∧ xRfr m0 A H H1 ∧ ∃ z : Int32, v = some (.int z) ∧ ((T = nI 0 ∧ (pStav ew ed = true) ∧ z = nI N) ∨ (T = nI 1 ∧ ¬ (pStav ew ed = true)))) (fun _ _ => False) [.ref m0, .double x, .double d].toArray s rm_X7_staves b0) (F0 m 20 ls []) from K (N - 1) 1 _ d0 ls ⟨by omega, by omega⟩ hS hd0 (lv_sub hl [0, 1, 2, 3] rfl)
      intro n
      induction n with
      | zero =>
        intro k locs d0 ls hinv hS hd0 hl
        have ek : k = N := (by omega)
        refine lv_aload_n hx hb dX7_staves_20 rfl (lv_at hl 1 rfl) ?_
        refine va_get (D := G) (cl := vwCl) (ci := 8) (v := .int (nI 0)) (C := RX7) (T := TX7) (N := 18) hx hb (hts d0) in_X7_staves_X7 hown hK.1 (x1 hc_6) 0 rfl rfl 0 (by decide) (hts d0 _ hw_X7_staves_1) (fun _ h9 => h9) rfl dX7_staves_21 ?_
        refine lv_if_ne (tgt := 47) hx hb dX7_staves_24 (by decide) (fun h9 => (show False by revert h9; decide).elim) (fun _ => ?_)
        refine lv_iload hx hb dX7_staves_27 (lv_at hl 0 rfl) ?_
        refine lv_i2d hx hb dX7_staves_29 ?_
        refine lv_dload_n hx hb dX7_staves_30 rfl (lv_at hl 2 rfl) ?_
        refine xdmul hd0 hx hb (vq_rf _) hx9 dX7_staves_31 (fun r_8 d0 q_8 hd0 => ?_)
        refine lv_dload_n hx hb dX7_staves_32 rfl (lv_at hl 3 rfl) ?_
        refine lv_ldc2d hx hb hown (hts d0 _ hw_X7_staves_2) dX7_staves_33 ?_
        refine xdmul hd0 hx hb hd9 (vq_rf _) dX7_staves_36 (fun r_9 d0 q_9 hd0 => ?_)
        refine xcmp_g_ge (tgt := 47) hx hb q_8 q_9 dX7_staves_37 dX7_staves_38 (by decide) (fun c_10 => ?_) (fun c_10 => ?_)
        · refine lv_aload_n hx hb dX7_staves_47 rfl (lv_at hl 1 rfl) ?_
          refine va_get (D := G) (cl := vwCl) (ci := 8) (v := .int (nI 0)) (C := RX7) (T := TX7) (N := 18) hx hb (hts d0) in_X7_staves_X7 hown hK.1 (x1 hc_6) 0 rfl rfl 0 (by decide) (hts d0 _ hw_X7_staves_1) (fun _ h9 => h9) rfl dX7_staves_48 ?_
          refine lv_if_le (tgt := 58) hx hb dX7_staves_51 (by decide) (fun _ => ?_) (fun h9 => (show False by revert h9; decide).elim)
          refine lv_iload hx hb dX7_staves_58 (lv_at hl 0 rfl) ?_
          exact xiret hd0 hx hb hr hlocks hS (Nat.le_of_ble_eq_true rfl) (Nat.le_of_ble_eq_true rfl) dX7_staves_60 ⟨nI 0, ⟨hc_6, hc_A0_6, hc_A1_6, hc_A2_6, hc_A3_6, hc_A4_6, hc_A5_6, hc_A6_6, hc_A7_6, hc_A8_6, hc_A9_6, hc_A10_6⟩, hfr_6, _, rfl, Or.inl ⟨rfl, z9, by rw [ek]⟩⟩
        · exact (xtf c_10 (by rw [ek]; exact hNg)).elim
      | succ n ih =>
        intro k locs d0 ls hinv hS hd0 hl
        refine lv_aload_n hx hb dX7_staves_20 rfl (lv_at hl 1 rfl) ?_
        refine va_get (D := G) (cl := vwCl) (ci := 8) (v := .int (nI 0)) (C := RX7) (T := TX7) (N := 18) hx hb (hts d0) in_X7_staves_X7 hown hK.1 (x1 hc_6) 0 rfl rfl 0 (by decide) (hts d0 _ hw_X7_staves_1) (fun _ h9 => h9) rfl dX7_staves_21 ?_
        refine lv_if_ne (tgt := 47) hx hb dX7_staves_24 (by decide) (fun h9 => (show False by revert h9; decide).elim) (fun _ => ?_)
        refine lv_iload hx hb dX7_staves_27 (lv_at hl 0 rfl) ?_
        refine lv_i2d hx hb dX7_staves_29 ?_
        refine lv_dload_n hx hb dX7_staves_30 rfl (lv_at hl 2 rfl) ?_
        refine xdmul hd0 hx hb (vq_rf _) hx9 dX7_staves_31 (fun r_13 d0 q_13 hd0 => ?_)
        refine lv_dload_n hx hb dX7_staves_32 rfl (lv_at hl 3 rfl) ?_
        refine lv_ldc2d hx hb hown (hts d0 _ hw_X7_staves_2) dX7_staves_33 ?_
        refine xdmul hd0 hx hb hd9 (vq_rf _) dX7_staves_36 (fun r_14 d0 q_14 hd0 => ?_)
        refine xcmp_g_ge (tgt := 47) hx hb q_13 q_14 dX7_staves_37 dX7_staves_38 (by decide) (fun c_15 => ?_) (fun c_15 => ?_)
        · exact (xtf (hNl k (by omega) (by omega)) c_15).elim
        · refine xiincN (x := k) (y := 1) (lv' := [(5, .int (nI (k + 1))), (0, .ref m0), (1, .double x), (3, .double d)]) hx hb dX7_staves_41 hl (k := 0) rfl (by decide) (by decide) rfl (fun ls hl => ?_)
          refine lv_goto (tgt := 20) hx hb dX7_staves_44 (by decide) ?_
          exact ih (k + 1) _ d0 ls ⟨by omega, by omega⟩ hS hd0 (lv_sub hl [0, 1, 2, 3] rfl)
end
section
/-! THE REFERENCE: what changes it. -/
def pC2 (a b c d : UInt64) : UInt64 := FP.dsub (FP.dmul a d) (FP.dmul b c)
def pSide (pl : Nat → UInt64) (f r g q k : Nat) : UInt64 := FP.dsub (pAt pl g q k) (pAt pl f r k)
def pCro (pl : Nat → UInt64) (f r g q h t i j : Nat) : UInt64 := pC2 (pSide pl f r g q i) (pSide pl f r g q j) (pSide pl f r h t i) (pSide pl f r h t j)
set_option maxRecDepth 20000 in
theorem ggX7_cross_X7_at : GoodIn wsX7_cross wsX7_at := goodIn_r _ [8, 9, 10, 11, 12, 13, 14, 15, 16, 17, 18, 19, 20, 21, 22, 23, 24, 25, 26, 27] (by decide +kernel) (by decide +kernel)
set_option maxRecDepth 20000 in
theorem gX7_cross_X7_at : GoodIn wsX7_cross (wsV RX7 69 RX7 yX7_at wsX7_at) := goodIn_app (goodIn_of _ (by decide +kernel)) ggX7_cross_X7_at
theorem dX7_cross_0 : decode cX7_cross 0 = .ok (.aload_n 0, 1) := by decide +kernel
theorem dX7_cross_1 : decode cX7_cross 1 = .ok (.iload_n 3, 1) := by decide +kernel
theorem dX7_cross_2 : decode cX7_cross 2 = .ok (.iload 4, 2) := by decide +kernel
theorem dX7_cross_4 : decode cX7_cross 4 = .ok (.iconst 0, 1) := by decide +kernel
theorem dX7_cross_5 : decode cX7_cross 5 = .ok (.invokevirtual 69, 3) := by decide +kernel
theorem dX7_cross_8 : decode cX7_cross 8 = .ok (.aload_n 0, 1) := by decide +kernel
theorem dX7_cross_9 : decode cX7_cross 9 = .ok (.iload_n 1, 1) := by decide +kernel
theorem dX7_cross_10 : decode cX7_cross 10 = .ok (.iload_n 2, 1) := by decide +kernel
theorem dX7_cross_11 : decode cX7_cross 11 = .ok (.iconst 0, 1) := by decide +kernel
theorem dX7_cross_12 : decode cX7_cross 12 = .ok (.invokevirtual 69, 3) := by decide +kernel
theorem dX7_cross_15 : decode cX7_cross 15 = .ok (.dsub, 1) := by decide +kernel
theorem dX7_cross_16 : decode cX7_cross 16 = .ok (.dstore 7, 2) := by decide +kernel
theorem dX7_cross_18 : decode cX7_cross 18 = .ok (.aload_n 0, 1) := by decide +kernel
theorem dX7_cross_19 : decode cX7_cross 19 = .ok (.iload_n 3, 1) := by decide +kernel
theorem dX7_cross_20 : decode cX7_cross 20 = .ok (.iload 4, 2) := by decide +kernel
theorem dX7_cross_22 : decode cX7_cross 22 = .ok (.iconst 1, 1) := by decide +kernel
theorem dX7_cross_23 : decode cX7_cross 23 = .ok (.invokevirtual 69, 3) := by decide +kernel
theorem dX7_cross_26 : decode cX7_cross 26 = .ok (.aload_n 0, 1) := by decide +kernel
theorem dX7_cross_27 : decode cX7_cross 27 = .ok (.iload_n 1, 1) := by decide +kernel
theorem dX7_cross_28 : decode cX7_cross 28 = .ok (.iload_n 2, 1) := by decide +kernel
theorem dX7_cross_29 : decode cX7_cross 29 = .ok (.iconst 1, 1) := by decide +kernel
theorem dX7_cross_30 : decode cX7_cross 30 = .ok (.invokevirtual 69, 3) := by decide +kernel
theorem dX7_cross_33 : decode cX7_cross 33 = .ok (.dsub, 1) := by decide +kernel
theorem dX7_cross_34 : decode cX7_cross 34 = .ok (.dstore 9, 2) := by decide +kernel
theorem dX7_cross_36 : decode cX7_cross 36 = .ok (.aload_n 0, 1) := by decide +kernel
theorem dX7_cross_37 : decode cX7_cross 37 = .ok (.iload_n 3, 1) := by decide +kernel
theorem dX7_cross_38 : decode cX7_cross 38 = .ok (.iload 4, 2) := by decide +kernel
theorem dX7_cross_40 : decode cX7_cross 40 = .ok (.iconst 2, 1) := by decide +kernel
theorem dX7_cross_41 : decode cX7_cross 41 = .ok (.invokevirtual 69, 3) := by decide +kernel
theorem dX7_cross_44 : decode cX7_cross 44 = .ok (.aload_n 0, 1) := by decide +kernel
theorem dX7_cross_45 : decode cX7_cross 45 = .ok (.iload_n 1, 1) := by decide +kernel
theorem dX7_cross_46 : decode cX7_cross 46 = .ok (.iload_n 2, 1) := by decide +kernel
theorem dX7_cross_47 : decode cX7_cross 47 = .ok (.iconst 2, 1) := by decide +kernel
theorem dX7_cross_48 : decode cX7_cross 48 = .ok (.invokevirtual 69, 3) := by decide +kernel
theorem dX7_cross_51 : decode cX7_cross 51 = .ok (.dsub, 1) := by decide +kernel
theorem dX7_cross_52 : decode cX7_cross 52 = .ok (.dstore 11, 2) := by decide +kernel
theorem dX7_cross_54 : decode cX7_cross 54 = .ok (.aload_n 0, 1) := by decide +kernel
theorem dX7_cross_55 : decode cX7_cross 55 = .ok (.iload 5, 2) := by decide +kernel
theorem dX7_cross_57 : decode cX7_cross 57 = .ok (.iload 6, 2) := by decide +kernel
theorem dX7_cross_59 : decode cX7_cross 59 = .ok (.iconst 0, 1) := by decide +kernel
theorem dX7_cross_60 : decode cX7_cross 60 = .ok (.invokevirtual 69, 3) := by decide +kernel
theorem dX7_cross_63 : decode cX7_cross 63 = .ok (.aload_n 0, 1) := by decide +kernel
theorem dX7_cross_64 : decode cX7_cross 64 = .ok (.iload_n 1, 1) := by decide +kernel
theorem dX7_cross_65 : decode cX7_cross 65 = .ok (.iload_n 2, 1) := by decide +kernel
theorem dX7_cross_66 : decode cX7_cross 66 = .ok (.iconst 0, 1) := by decide +kernel
theorem dX7_cross_67 : decode cX7_cross 67 = .ok (.invokevirtual 69, 3) := by decide +kernel
theorem dX7_cross_70 : decode cX7_cross 70 = .ok (.dsub, 1) := by decide +kernel
theorem dX7_cross_71 : decode cX7_cross 71 = .ok (.dstore 13, 2) := by decide +kernel
theorem dX7_cross_73 : decode cX7_cross 73 = .ok (.aload_n 0, 1) := by decide +kernel
theorem dX7_cross_74 : decode cX7_cross 74 = .ok (.iload 5, 2) := by decide +kernel
theorem dX7_cross_76 : decode cX7_cross 76 = .ok (.iload 6, 2) := by decide +kernel
theorem dX7_cross_78 : decode cX7_cross 78 = .ok (.iconst 1, 1) := by decide +kernel
theorem dX7_cross_79 : decode cX7_cross 79 = .ok (.invokevirtual 69, 3) := by decide +kernel
theorem dX7_cross_82 : decode cX7_cross 82 = .ok (.aload_n 0, 1) := by decide +kernel
theorem dX7_cross_83 : decode cX7_cross 83 = .ok (.iload_n 1, 1) := by decide +kernel
theorem dX7_cross_84 : decode cX7_cross 84 = .ok (.iload_n 2, 1) := by decide +kernel
theorem dX7_cross_85 : decode cX7_cross 85 = .ok (.iconst 1, 1) := by decide +kernel
theorem dX7_cross_86 : decode cX7_cross 86 = .ok (.invokevirtual 69, 3) := by decide +kernel
theorem dX7_cross_89 : decode cX7_cross 89 = .ok (.dsub, 1) := by decide +kernel
theorem dX7_cross_90 : decode cX7_cross 90 = .ok (.dstore 15, 2) := by decide +kernel
theorem dX7_cross_92 : decode cX7_cross 92 = .ok (.aload_n 0, 1) := by decide +kernel
theorem dX7_cross_93 : decode cX7_cross 93 = .ok (.iload 5, 2) := by decide +kernel
theorem dX7_cross_95 : decode cX7_cross 95 = .ok (.iload 6, 2) := by decide +kernel
theorem dX7_cross_97 : decode cX7_cross 97 = .ok (.iconst 2, 1) := by decide +kernel
theorem dX7_cross_98 : decode cX7_cross 98 = .ok (.invokevirtual 69, 3) := by decide +kernel
theorem dX7_cross_101 : decode cX7_cross 101 = .ok (.aload_n 0, 1) := by decide +kernel
theorem dX7_cross_102 : decode cX7_cross 102 = .ok (.iload_n 1, 1) := by decide +kernel
theorem dX7_cross_103 : decode cX7_cross 103 = .ok (.iload_n 2, 1) := by decide +kernel
theorem dX7_cross_104 : decode cX7_cross 104 = .ok (.iconst 2, 1) := by decide +kernel
theorem dX7_cross_105 : decode cX7_cross 105 = .ok (.invokevirtual 69, 3) := by decide +kernel
theorem dX7_cross_108 : decode cX7_cross 108 = .ok (.dsub, 1) := by decide +kernel
theorem dX7_cross_109 : decode cX7_cross 109 = .ok (.dstore 17, 2) := by decide +kernel
theorem dX7_cross_111 : decode cX7_cross 111 = .ok (.aload_n 0, 1) := by decide +kernel
theorem dX7_cross_112 : decode cX7_cross 112 = .ok (.dload 9, 2) := by decide +kernel
theorem dX7_cross_114 : decode cX7_cross 114 = .ok (.dload 17, 2) := by decide +kernel
theorem dX7_cross_116 : decode cX7_cross 116 = .ok (.dmul, 1) := by decide +kernel
theorem dX7_cross_117 : decode cX7_cross 117 = .ok (.dload 11, 2) := by decide +kernel
theorem dX7_cross_119 : decode cX7_cross 119 = .ok (.dload 15, 2) := by decide +kernel
theorem dX7_cross_121 : decode cX7_cross 121 = .ok (.dmul, 1) := by decide +kernel
theorem dX7_cross_122 : decode cX7_cross 122 = .ok (.dsub, 1) := by decide +kernel
theorem dX7_cross_123 : decode cX7_cross 123 = .ok (.putfield 104, 3) := by decide +kernel
theorem dX7_cross_126 : decode cX7_cross 126 = .ok (.aload_n 0, 1) := by decide +kernel
theorem dX7_cross_127 : decode cX7_cross 127 = .ok (.dload 11, 2) := by decide +kernel
theorem dX7_cross_129 : decode cX7_cross 129 = .ok (.dload 13, 2) := by decide +kernel
theorem dX7_cross_131 : decode cX7_cross 131 = .ok (.dmul, 1) := by decide +kernel
theorem dX7_cross_132 : decode cX7_cross 132 = .ok (.dload 7, 2) := by decide +kernel
theorem dX7_cross_134 : decode cX7_cross 134 = .ok (.dload 17, 2) := by decide +kernel
theorem dX7_cross_136 : decode cX7_cross 136 = .ok (.dmul, 1) := by decide +kernel
theorem dX7_cross_137 : decode cX7_cross 137 = .ok (.dsub, 1) := by decide +kernel
theorem dX7_cross_138 : decode cX7_cross 138 = .ok (.putfield 108, 3) := by decide +kernel
theorem dX7_cross_141 : decode cX7_cross 141 = .ok (.aload_n 0, 1) := by decide +kernel
theorem dX7_cross_142 : decode cX7_cross 142 = .ok (.dload 7, 2) := by decide +kernel
theorem dX7_cross_144 : decode cX7_cross 144 = .ok (.dload 15, 2) := by decide +kernel
theorem dX7_cross_146 : decode cX7_cross 146 = .ok (.dmul, 1) := by decide +kernel
theorem dX7_cross_147 : decode cX7_cross 147 = .ok (.dload 9, 2) := by decide +kernel
theorem dX7_cross_149 : decode cX7_cross 149 = .ok (.dload 13, 2) := by decide +kernel
theorem dX7_cross_151 : decode cX7_cross 151 = .ok (.dmul, 1) := by decide +kernel
theorem dX7_cross_152 : decode cX7_cross 152 = .ok (.dsub, 1) := by decide +kernel
theorem dX7_cross_153 : decode cX7_cross 153 = .ok (.putfield 111, 3) := by decide +kernel
theorem dX7_cross_156 : decode cX7_cross 156 = .ok (.return_, 1) := by decide +kernel
abbrev rm_X7_cross : Room := { frames := 6, cells := 0, slots := 0, locals := 90 }
theorem hw_X7_cross_1 : (Cond.fieldLink RX7 104 "PlankUnrollModel" "px" "D") ∈ wsX7_cross := List.mem_of_getElem? (i := 1) rfl
theorem hw_X7_cross_2 : (Cond.fieldLink RX7 108 "PlankUnrollModel" "py" "D") ∈ wsX7_cross := List.mem_of_getElem? (i := 2) rfl
theorem hw_X7_cross_3 : (Cond.fieldLink RX7 111 "PlankUnrollModel" "pz" "D") ∈ wsX7_cross := List.mem_of_getElem? (i := 3) rfl
theorem in_X7_cross_X7 : ∀ w ∈ wsX70, w ∈ wsX7_cross := by decide +kernel
set_option maxHeartbeats 4000000 in
set_option maxRecDepth 100000 in
/-- what stands upright on a triangle -/
theorem c_X7_cross {l : Launch} {G : va_G} {ty : Nat → ClassId} {b0 : Nat} {H : Heap} {m0 : Nat} {A : Nat → Nat} {th : Int32} {F R nb : Nat} {pl co dr wi hi fa : Nat → UInt64} {un bu fc lo la : Nat → Int32} {px py pz : UInt64} (hY : xRef G ty m0 A th F R pl un co dr bu nb wi hi fc fa lo la px py pz H) (hZ : xSz F R) (hA : xAp m0 A) (hB : xNw b0 m0 A) {f r g q h t : Nat} (hf : f < 8) (hr9 : r < 8) (hg : g < 8) (hq : q < 8) (hh : h < 8) (ht : t < 8) : xMet l yX7_cross wsX7_cross rm_X7_cross G ty b0 [.ref m0, .int (nI f), .int (nI r), .int (nI g), .int (nI q), .int (nI h), .int (nI t)] H (fun v H1 => ∃ (x1 y1 z1 : UInt64), xRef G ty m0 A th F R pl un co dr bu nb wi hi fc fa lo la x1 y1 z1 H1 ∧ xRfr m0 A H H1 ∧ v = none ∧ vq x1 (pCro pl f r g q h t 1 2) ∧ vq y1 (pCro pl f r g q h t 2 0) ∧ vq z1 (pCro pl f r g q h t 0 1)) (fun _ _ => False) := by
  refine xbody (cc := cX7_cross) (maxL := 19) (ret := none) (C := RX7) (lv := [(0, .ref m0), (1, .int (nI f)), (2, .int (nI r)), (3, .int (nI g)), (4, .int (nI q)), (5, .int (nI h)), (6, .int (nI t))]) (by decide) rfl rfl (Nat.le_of_ble_eq_true rfl) rfl ?_
  intro p e s m below meth c d0 hx hb hr hts hown hlocks hml hxt hnm0 hK hb0 hH0 hS hd0 ls hl
  obtain ⟨y_o, y_0, y_1, y_2, y_3, y_4, y_5, y_6, y_7, y_8, y_9, y_10⟩ := id hY
  obtain ⟨⟨zF2, zF8⟩, ⟨zR2, zR8⟩⟩ := id hZ
  refine lv_aload_n hx hb dX7_cross_0 rfl (lv_at hl 0 rfl) ?_
  refine lv_iload_n hx hb dX7_cross_1 rfl (lv_at hl 3 rfl) ?_
  refine lv_iload hx hb dX7_cross_2 (lv_at hl 4 rfl) ?_
  refine lv_iconst (v := nI 0) hx hb dX7_cross_4 (by decide) ?_
  have cw_1 := cwV (R := rm_X7_cross) (rm := rm_X7_at) 3 (hts d0) gX7_cross_X7_at rfl rfl rfl (by decide +kernel) ⟨Nat.le_of_ble_eq_true rfl, Nat.le_of_ble_eq_true rfl⟩
  refine xcall hd0 (xintoV (b := m0) (As := [.int (nI g), .int (nI q), .int (nI 0)]) (rest := []) ⟨hx, hb, hml, hown, hts _⟩ cw_1 (va_recv hK.1 (x1 y_o) (ci := 8) (q0 := 0) rfl rfl) rfl rfl hl.1 rfl (lv_room (Nat.le_of_ble_eq_true rfl)) dX7_cross_5) (c_X7_at (l := l) (G := G) (ty := ty) (b0 := b0) (f := g) (r := q) (k := 0) (by omega) (by omega) (by omega) (⟨y_o, y_0, y_1, y_2, y_3, y_4, y_5, y_6, y_7, y_8, y_9, y_10⟩ : xRef G ty m0 A (th) F R pl un co dr bu nb wi hi fc fa lo la px py pz H) hZ) (xoweB cw_1.1) hK hb0 hS (Nat.le_of_ble_eq_true rfl) (Nat.le_of_ble_eq_true rfl) (fun E_1 ce_1 q9_1 H_1 locs_1 d0 hd0 hp_1 hS hce_1 hcv_1 hcl_1 => ?_) (fun v_1 H_1 locs_1 d0 hd0 hp_1 hS => ?_)
  · exact hp_1.elim
  · obtain ⟨rfl, rfl⟩ := hp_1
    show W p l e _ (s.setDrawn _) m _ below meth c _ _ _ _ _ (F0 m 8 ls [.double (pAt pl g q 0)])
    refine lv_aload_n hx hb dX7_cross_8 rfl (lv_at hl 0 rfl) ?_
    refine lv_iload_n hx hb dX7_cross_9 rfl (lv_at hl 1 rfl) ?_
    refine lv_iload_n hx hb dX7_cross_10 rfl (lv_at hl 2 rfl) ?_
    refine lv_iconst (v := nI 0) hx hb dX7_cross_11 (by decide) ?_
    have cw_2 := cwV (R := rm_X7_cross) (rm := rm_X7_at) 3 (hts d0) gX7_cross_X7_at rfl rfl rfl (by decide +kernel) ⟨Nat.le_of_ble_eq_true rfl, Nat.le_of_ble_eq_true rfl⟩
    refine xcall hd0 (xintoV (b := m0) (As := [.int (nI f), .int (nI r), .int (nI 0)]) (rest := [.double (pAt pl g q 0)]) ⟨hx, hb, hml, hown, hts _⟩ cw_2 (va_recv hK.1 (x1 y_o) (ci := 8) (q0 := 0) rfl rfl) rfl rfl hl.1 rfl (lv_room (Nat.le_of_ble_eq_true rfl)) dX7_cross_12) (c_X7_at (l := l) (G := G) (ty := ty) (b0 := b0) (f := f) (r := r) (k := 0) (by omega) (by omega) (by omega) (⟨y_o, y_0, y_1, y_2, y_3, y_4, y_5, y_6, y_7, y_8, y_9, y_10⟩ : xRef G ty m0 A (th) F R pl un co dr bu nb wi hi fc fa lo la px py pz H) hZ) (xoweB cw_2.1) hK hb0 hS (Nat.le_of_ble_eq_true rfl) (Nat.le_of_ble_eq_true rfl) (fun E_2 ce_2 q9_2 H_2 locs_2 d0 hd0 hp_2 hS hce_2 hcv_2 hcl_2 => ?_) (fun v_2 H_2 locs_2 d0 hd0 hp_2 hS => ?_)
    · exact hp_2.elim
    · obtain ⟨rfl, rfl⟩ := hp_2
      show W p l e _ (s.setDrawn _) m _ below meth c _ _ _ _ _ (F0 m 15 ls [.double (pAt pl f r 0), .double (pAt pl g q 0)])
      refine xdsub hd0 hx hb (vq_rf _) (vq_rf _) dX7_cross_15 (fun r_3 d0 q_3 hd0 => ?_)
      refine lv_dstore (lv' := [(7, .double r_3), (0, .ref m0), (1, .int (nI f)), (2, .int (nI r)), (3, .int (nI g)), (4, .int (nI q)), (5, .int (nI h)), (6, .int (nI t))]) hx hb dX7_cross_16 hl (by decide) rfl (fun ls hl => ?_)
      refine lv_aload_n hx hb dX7_cross_18 rfl (lv_at hl 1 rfl) ?_
      refine lv_iload_n hx hb dX7_cross_19 rfl (lv_at hl 4 rfl) ?_
      refine lv_iload hx hb dX7_cross_20 (lv_at hl 5 rfl) ?_
      refine lv_iconst (v := nI 1) hx hb dX7_cross_22 (by decide) ?_
      have cw_4 := cwV (R := rm_X7_cross) (rm := rm_X7_at) 3 (hts d0) gX7_cross_X7_at rfl rfl rfl (by decide +kernel) ⟨Nat.le_of_ble_eq_true rfl, Nat.le_of_ble_eq_true rfl⟩
      refine xcall hd0 (xintoV (b := m0) (As := [.int (nI g), .int (nI q), .int (nI 1)]) (rest := []) ⟨hx, hb, hml, hown, hts _⟩ cw_4 (va_recv hK.1 (x1 y_o) (ci := 8) (q0 := 0) rfl rfl) rfl rfl hl.1 rfl (lv_room (Nat.le_of_ble_eq_true rfl)) dX7_cross_23) (c_X7_at (l := l) (G := G) (ty := ty) (b0 := b0) (f := g) (r := q) (k := 1) (by omega) (by omega) (by omega) (⟨y_o, y_0, y_1, y_2, y_3, y_4, y_5, y_6, y_7, y_8, y_9, y_10⟩ : xRef G ty m0 A (th) F R pl un co dr bu nb wi hi fc fa lo la px py pz H) hZ) (xoweB cw_4.1) hK hb0 hS (Nat.le_of_ble_eq_true rfl) (Nat.le_of_ble_eq_true rfl) (fun E_4 ce_4 q9_4 H_4 locs_4 d0 hd0 hp_4 hS hce_4 hcv_4 hcl_4 => ?_) (fun v_4 H_4 locs_4 d0 hd0 hp_4 hS => ?_)
      · exact hp_4.elim
      · obtain ⟨rfl, rfl⟩ := hp_4
        show W p l e _ (s.setDrawn _) m _ below meth c _ _ _ _ _ (F0 m 26 ls [.double (pAt pl g q 1)])
        refine lv_aload_n hx hb dX7_cross_26 rfl (lv_at hl 1 rfl) ?_
        refine lv_iload_n hx hb dX7_cross_27 rfl (lv_at hl 2 rfl) ?_
        refine lv_iload_n hx hb dX7_cross_28 rfl (lv_at hl 3 rfl) ?_
        refine lv_iconst (v := nI 1) hx hb dX7_cross_29 (by decide) ?_
        have cw_5 := cwV (R := rm_X7_cross) (rm := rm_X7_at) 3 (hts d0) gX7_cross_X7_at rfl rfl rfl (by decide +kernel) ⟨Nat.le_of_ble_eq_true rfl, Nat.le_of_ble_eq_true rfl⟩
        refine xcall hd0 (xintoV (b := m0) (As := [.int (nI f), .int (nI r), .int (nI 1)]) (rest := [.double (pAt pl g q 1)]) ⟨hx, hb, hml, hown, hts _⟩ cw_5 (va_recv hK.1 (x1 y_o) (ci := 8) (q0 := 0) rfl rfl) rfl rfl hl.1 rfl (lv_room (Nat.le_of_ble_eq_true rfl)) dX7_cross_30) (c_X7_at (l := l) (G := G) (ty := ty) (b0 := b0) (f := f) (r := r) (k := 1) (by omega) (by omega) (by omega) (⟨y_o, y_0, y_1, y_2, y_3, y_4, y_5, y_6, y_7, y_8, y_9, y_10⟩ : xRef G ty m0 A (th) F R pl un co dr bu nb wi hi fc fa lo la px py pz H) hZ) (xoweB cw_5.1) hK hb0 hS (Nat.le_of_ble_eq_true rfl) (Nat.le_of_ble_eq_true rfl) (fun E_5 ce_5 q9_5 H_5 locs_5 d0 hd0 hp_5 hS hce_5 hcv_5 hcl_5 => ?_) (fun v_5 H_5 locs_5 d0 hd0 hp_5 hS => ?_)
        · exact hp_5.elim
        · obtain ⟨rfl, rfl⟩ := hp_5
          show W p l e _ (s.setDrawn _) m _ below meth c _ _ _ _ _ (F0 m 33 ls [.double (pAt pl f r 1), .double (pAt pl g q 1)])
          refine xdsub hd0 hx hb (vq_rf _) (vq_rf _) dX7_cross_33 (fun r_6 d0 q_6 hd0 => ?_)
          refine lv_dstore (lv' := [(9, .double r_6), (7, .double r_3), (0, .ref m0), (1, .int (nI f)), (2, .int (nI r)), (3, .int (nI g)), (4, .int (nI q)), (5, .int (nI h)), (6, .int (nI t))]) hx hb dX7_cross_34 hl (by decide) rfl (fun ls hl => ?_)
          refine lv_aload_n hx hb dX7_cross_36 rfl (lv_at hl 2 rfl) ?_
          refine lv_iload_n hx hb dX7_cross_37 rfl (lv_at hl 5 rfl) ?_
          refine lv_iload hx hb dX7_cross_38 (lv_at hl 6 rfl) ?_
          refine lv_iconst (v := nI 2) hx hb dX7_cross_40 (by decide) ?_
          have cw_7 := cwV (R := rm_X7_cross) (rm := rm_X7_at) 3 (hts d0) gX7_cross_X7_at rfl rfl rfl (by decide +kernel) ⟨Nat.le_of_ble_eq_true rfl, Nat.le_of_ble_eq_true rfl⟩
          refine xcall hd0 (xintoV (b := m0) (As := [.int (nI g), .int (nI q), .int (nI 2)]) (rest := []) ⟨hx, hb, hml, hown, hts _⟩ cw_7 (va_recv hK.1 (x1 y_o) (ci := 8) (q0 := 0) rfl rfl) rfl rfl hl.1 rfl (lv_room (Nat.le_of_ble_eq_true rfl)) dX7_cross_41) (c_X7_at (l := l) (G := G) (ty := ty) (b0 := b0) (f := g) (r := q) (k := 2) (by omega) (by omega) (by omega) (⟨y_o, y_0, y_1, y_2, y_3, y_4, y_5, y_6, y_7, y_8, y_9, y_10⟩ : xRef G ty m0 A (th) F R pl un co dr bu nb wi hi fc fa lo la px py pz H) hZ) (xoweB cw_7.1) hK hb0 hS (Nat.le_of_ble_eq_true rfl) (Nat.le_of_ble_eq_true rfl) (fun E_7 ce_7 q9_7 H_7 locs_7 d0 hd0 hp_7 hS hce_7 hcv_7 hcl_7 => ?_) (fun v_7 H_7 locs_7 d0 hd0 hp_7 hS => ?_)
          · exact hp_7.elim
          · obtain ⟨rfl, rfl⟩ := hp_7
            show W p l e _ (s.setDrawn _) m _ below meth c _ _ _ _ _ (F0 m 44 ls [.double (pAt pl g q 2)])
            refine lv_aload_n hx hb dX7_cross_44 rfl (lv_at hl 2 rfl) ?_
            refine lv_iload_n hx hb dX7_cross_45 rfl (lv_at hl 3 rfl) ?_
            refine lv_iload_n hx hb dX7_cross_46 rfl (lv_at hl 4 rfl) ?_
            refine lv_iconst (v := nI 2) hx hb dX7_cross_47 (by decide) ?_
            have cw_8 := cwV (R := rm_X7_cross) (rm := rm_X7_at) 3 (hts d0) gX7_cross_X7_at rfl rfl rfl (by decide +kernel) ⟨Nat.le_of_ble_eq_true rfl, Nat.le_of_ble_eq_true rfl⟩
            refine xcall hd0 (xintoV (b := m0) (As := [.int (nI f), .int (nI r), .int (nI 2)]) (rest := [.double (pAt pl g q 2)]) ⟨hx, hb, hml, hown, hts _⟩ cw_8 (va_recv hK.1 (x1 y_o) (ci := 8) (q0 := 0) rfl rfl) rfl rfl hl.1 rfl (lv_room (Nat.le_of_ble_eq_true rfl)) dX7_cross_48) (c_X7_at (l := l) (G := G) (ty := ty) (b0 := b0) (f := f) (r := r) (k := 2) (by omega) (by omega) (by omega) (⟨y_o, y_0, y_1, y_2, y_3, y_4, y_5, y_6, y_7, y_8, y_9, y_10⟩ : xRef G ty m0 A (th) F R pl un co dr bu nb wi hi fc fa lo la px py pz H) hZ) (xoweB cw_8.1) hK hb0 hS (Nat.le_of_ble_eq_true rfl) (Nat.le_of_ble_eq_true rfl) (fun E_8 ce_8 q9_8 H_8 locs_8 d0 hd0 hp_8 hS hce_8 hcv_8 hcl_8 => ?_) (fun v_8 H_8 locs_8 d0 hd0 hp_8 hS => ?_)
            · exact hp_8.elim
            · obtain ⟨rfl, rfl⟩ := hp_8
              show W p l e _ (s.setDrawn _) m _ below meth c _ _ _ _ _ (F0 m 51 ls [.double (pAt pl f r 2), .double (pAt pl g q 2)])
              refine xdsub hd0 hx hb (vq_rf _) (vq_rf _) dX7_cross_51 (fun r_9 d0 q_9 hd0 => ?_)
              refine lv_dstore (lv' := [(11, .double r_9), (9, .double r_6), (7, .double r_3), (0, .ref m0), (1, .int (nI f)), (2, .int (nI r)), (3, .int (nI g)), (4, .int (nI q)), (5, .int (nI h)), (6, .int (nI t))]) hx hb dX7_cross_52 hl (by decide) rfl (fun ls hl => ?_)
              refine lv_aload_n hx hb dX7_cross_54 rfl (lv_at hl 3 rfl) ?_
              refine lv_iload hx hb dX7_cross_55 (lv_at hl 8 rfl) ?_
              refine lv_iload hx hb dX7_cross_57 (lv_at hl 9 rfl) ?_
              refine lv_iconst (v := nI 0) hx hb dX7_cross_59 (by decide) ?_
              have cw_10 := cwV (R := rm_X7_cross) (rm := rm_X7_at) 3 (hts d0) gX7_cross_X7_at rfl rfl rfl (by decide +kernel) ⟨Nat.le_of_ble_eq_true rfl, Nat.le_of_ble_eq_true rfl⟩
              refine xcall hd0 (xintoV (b := m0) (As := [.int (nI h), .int (nI t), .int (nI 0)]) (rest := []) ⟨hx, hb, hml, hown, hts _⟩ cw_10 (va_recv hK.1 (x1 y_o) (ci := 8) (q0 := 0) rfl rfl) rfl rfl hl.1 rfl (lv_room (Nat.le_of_ble_eq_true rfl)) dX7_cross_60) (c_X7_at (l := l) (G := G) (ty := ty) (b0 := b0) (f := h) (r := t) (k := 0) (by omega) (by omega) (by omega) (⟨y_o, y_0, y_1, y_2, y_3, y_4, y_5, y_6, y_7, y_8, y_9, y_10⟩ : xRef G ty m0 A (th) F R pl un co dr bu nb wi hi fc fa lo la px py pz H) hZ) (xoweB cw_10.1) hK hb0 hS (Nat.le_of_ble_eq_true rfl) (Nat.le_of_ble_eq_true rfl) (fun E_10 ce_10 q9_10 H_10 locs_10 d0 hd0 hp_10 hS hce_10 hcv_10 hcl_10 => ?_) (fun v_10 H_10 locs_10 d0 hd0 hp_10 hS => ?_)
              · exact hp_10.elim
              · obtain ⟨rfl, rfl⟩ := hp_10
                show W p l e _ (s.setDrawn _) m _ below meth c _ _ _ _ _ (F0 m 63 ls [.double (pAt pl h t 0)])
                refine lv_aload_n hx hb dX7_cross_63 rfl (lv_at hl 3 rfl) ?_
                refine lv_iload_n hx hb dX7_cross_64 rfl (lv_at hl 4 rfl) ?_
                refine lv_iload_n hx hb dX7_cross_65 rfl (lv_at hl 5 rfl) ?_
                refine lv_iconst (v := nI 0) hx hb dX7_cross_66 (by decide) ?_
                have cw_11 := cwV (R := rm_X7_cross) (rm := rm_X7_at) 3 (hts d0) gX7_cross_X7_at rfl rfl rfl (by decide +kernel) ⟨Nat.le_of_ble_eq_true rfl, Nat.le_of_ble_eq_true rfl⟩
                refine xcall hd0 (xintoV (b := m0) (As := [.int (nI f), .int (nI r), .int (nI 0)]) (rest := [.double (pAt pl h t 0)]) ⟨hx, hb, hml, hown, hts _⟩ cw_11 (va_recv hK.1 (x1 y_o) (ci := 8) (q0 := 0) rfl rfl) rfl rfl hl.1 rfl (lv_room (Nat.le_of_ble_eq_true rfl)) dX7_cross_67) (c_X7_at (l := l) (G := G) (ty := ty) (b0 := b0) (f := f) (r := r) (k := 0) (by omega) (by omega) (by omega) (⟨y_o, y_0, y_1, y_2, y_3, y_4, y_5, y_6, y_7, y_8, y_9, y_10⟩ : xRef G ty m0 A (th) F R pl un co dr bu nb wi hi fc fa lo la px py pz H) hZ) (xoweB cw_11.1) hK hb0 hS (Nat.le_of_ble_eq_true rfl) (Nat.le_of_ble_eq_true rfl) (fun E_11 ce_11 q9_11 H_11 locs_11 d0 hd0 hp_11 hS hce_11 hcv_11 hcl_11 => ?_) (fun v_11 H_11 locs_11 d0 hd0 hp_11 hS => ?_)
                · exact hp_11.elim
                · obtain ⟨rfl, rfl⟩ := hp_11
                  show W p l e _ (s.setDrawn _) m _ below meth c _ _ _ _ _ (F0 m 70 ls [.double (pAt pl f r 0), .double (pAt pl h t 0)])
                  refine xdsub hd0 hx hb (vq_rf _) (vq_rf _) dX7_cross_70 (fun r_12 d0 q_12 hd0 => ?_)
                  refine lv_dstore (lv' := [(13, .double r_12), (11, .double r_9), (9, .double r_6), (7, .double r_3), (0, .ref m0), (1, .int (nI f)), (2, .int (nI r)), (3, .int (nI g)), (4, .int (nI q)), (5, .int (nI h)), (6, .int (nI t))]) hx hb dX7_cross_71 hl (by decide) rfl (fun ls hl => ?_)
                  refine lv_aload_n hx hb dX7_cross_73 rfl (lv_at hl 4 rfl) ?_
                  refine lv_iload hx hb dX7_cross_74 (lv_at hl 9 rfl) ?_
                  refine lv_iload hx hb dX7_cross_76 (lv_at hl 10 rfl) ?_
                  refine lv_iconst (v := nI 1) hx hb dX7_cross_78 (by decide) ?_
                  have cw_13 := cwV (R := rm_X7_cross) (rm := rm_X7_at) 3 (hts d0) gX7_cross_X7_at rfl rfl rfl (by decide +kernel) ⟨Nat.le_of_ble_eq_true rfl, Nat.le_of_ble_eq_true rfl⟩
                  refine xcall hd0 (xintoV (b := m0) (As := [.int (nI h), .int (nI t), .int (nI 1)]) (rest := []) ⟨hx, hb, hml, hown, hts _⟩ cw_13 (va_recv hK.1 (x1 y_o) (ci := 8) (q0 := 0) rfl rfl) rfl rfl hl.1 rfl (lv_room (Nat.le_of_ble_eq_true rfl)) dX7_cross_79) (c_X7_at (l := l) (G := G) (ty := ty) (b0 := b0) (f := h) (r := t) (k := 1) (by omega) (by omega) (by omega) (⟨y_o, y_0, y_1, y_2, y_3, y_4, y_5, y_6, y_7, y_8, y_9, y_10⟩ : xRef G ty m0 A (th) F R pl un co dr bu nb wi hi fc fa lo la px py pz H) hZ) (xoweB cw_13.1) hK hb0 hS (Nat.le_of_ble_eq_true rfl) (Nat.le_of_ble_eq_true rfl) (fun E_13 ce_13 q9_13 H_13 locs_13 d0 hd0 hp_13 hS hce_13 hcv_13 hcl_13 => ?_) (fun v_13 H_13 locs_13 d0 hd0 hp_13 hS => ?_)
                  · exact hp_13.elim
                  · obtain ⟨rfl, rfl⟩ := hp_13
                    show W p l e _ (s.setDrawn _) m _ below meth c _ _ _ _ _ (F0 m 82 ls [.double (pAt pl h t 1)])
                    refine lv_aload_n hx hb dX7_cross_82 rfl (lv_at hl 4 rfl) ?_
                    refine lv_iload_n hx hb dX7_cross_83 rfl (lv_at hl 5 rfl) ?_
                    refine lv_iload_n hx hb dX7_cross_84 rfl (lv_at hl 6 rfl) ?_
                    refine lv_iconst (v := nI 1) hx hb dX7_cross_85 (by decide) ?_
                    have cw_14 := cwV (R := rm_X7_cross) (rm := rm_X7_at) 3 (hts d0) gX7_cross_X7_at rfl rfl rfl (by decide +kernel) ⟨Nat.le_of_ble_eq_true rfl, Nat.le_of_ble_eq_true rfl⟩
                    refine xcall hd0 (xintoV (b := m0) (As := [.int (nI f), .int (nI r), .int (nI 1)]) (rest := [.double (pAt pl h t 1)]) ⟨hx, hb, hml, hown, hts _⟩ cw_14 (va_recv hK.1 (x1 y_o) (ci := 8) (q0 := 0) rfl rfl) rfl rfl hl.1 rfl (lv_room (Nat.le_of_ble_eq_true rfl)) dX7_cross_86) (c_X7_at (l := l) (G := G) (ty := ty) (b0 := b0) (f := f) (r := r) (k := 1) (by omega) (by omega) (by omega) (⟨y_o, y_0, y_1, y_2, y_3, y_4, y_5, y_6, y_7, y_8, y_9, y_10⟩ : xRef G ty m0 A (th) F R pl un co dr bu nb wi hi fc fa lo la px py pz H) hZ) (xoweB cw_14.1) hK hb0 hS (Nat.le_of_ble_eq_true rfl) (Nat.le_of_ble_eq_true rfl) (fun E_14 ce_14 q9_14 H_14 locs_14 d0 hd0 hp_14 hS hce_14 hcv_14 hcl_14 => ?_) (fun v_14 H_14 locs_14 d0 hd0 hp_14 hS => ?_)
                    · exact hp_14.elim
                    · obtain ⟨rfl, rfl⟩ := hp_14
                      show W p l e _ (s.setDrawn _) m _ below meth c _ _ _ _ _ (F0 m 89 ls [.double (pAt pl f r 1), .double (pAt pl h t 1)])
                      refine xdsub hd0 hx hb (vq_rf _) (vq_rf _) dX7_cross_89 (fun r_15 d0 q_15 hd0 => ?_)
                      refine lv_dstore (lv' := [(15, .double r_15), (13, .double r_12), (11, .double r_9), (9, .double r_6), (7, .double r_3), (0, .ref m0), (1, .int (nI f)), (2, .int (nI r)), (3, .int (nI g)), (4, .int (nI q)), (5, .int (nI h)), (6, .int (nI t))]) hx hb dX7_cross_90 hl (by decide) rfl (fun ls hl => ?_)
                      refine lv_aload_n hx hb dX7_cross_92 rfl (lv_at hl 5 rfl) ?_
                      refine lv_iload hx hb dX7_cross_93 (lv_at hl 10 rfl) ?_
                      refine lv_iload hx hb dX7_cross_95 (lv_at hl 11 rfl) ?_
                      refine lv_iconst (v := nI 2) hx hb dX7_cross_97 (by decide) ?_
                      have cw_16 := cwV (R := rm_X7_cross) (rm := rm_X7_at) 3 (hts d0) gX7_cross_X7_at rfl rfl rfl (by decide +kernel) ⟨Nat.le_of_ble_eq_true rfl, Nat.le_of_ble_eq_true rfl⟩
                      refine xcall hd0 (xintoV (b := m0) (As := [.int (nI h), .int (nI t), .int (nI 2)]) (rest := []) ⟨hx, hb, hml, hown, hts _⟩ cw_16 (va_recv hK.1 (x1 y_o) (ci := 8) (q0 := 0) rfl rfl) rfl rfl hl.1 rfl (lv_room (Nat.le_of_ble_eq_true rfl)) dX7_cross_98) (c_X7_at (l := l) (G := G) (ty := ty) (b0 := b0) (f := h) (r := t) (k := 2) (by omega) (by omega) (by omega) (⟨y_o, y_0, y_1, y_2, y_3, y_4, y_5, y_6, y_7, y_8, y_9, y_10⟩ : xRef G ty m0 A (th) F R pl un co dr bu nb wi hi fc fa lo la px py pz H) hZ) (xoweB cw_16.1) hK hb0 hS (Nat.le_of_ble_eq_true rfl) (Nat.le_of_ble_eq_true rfl) (fun E_16 ce_16 q9_16 H_16 locs_16 d0 hd0 hp_16 hS hce_16 hcv_16 hcl_16 => ?_) (fun v_16 H_16 locs_16 d0 hd0 hp_16 hS => ?_)
                      · exact hp_16.elim
                      · obtain ⟨rfl, rfl⟩ := hp_16
                        show W p l e _ (s.setDrawn _) m _ below meth c _ _ _ _ _ (F0 m 101 ls [.double (pAt pl h t 2)])
                        refine lv_aload_n hx hb dX7_cross_101 rfl (lv_at hl 5 rfl) ?_
                        refine lv_iload_n hx hb dX7_cross_102 rfl (lv_at hl 6 rfl) ?_
                        refine lv_iload_n hx hb dX7_cross_103 rfl (lv_at hl 7 rfl) ?_
                        refine lv_iconst (v := nI 2) hx hb dX7_cross_104 (by decide) ?_
                        have cw_17 := cwV (R := rm_X7_cross) (rm := rm_X7_at) 3 (hts d0) gX7_cross_X7_at rfl rfl rfl (by decide +kernel) ⟨Nat.le_of_ble_eq_true rfl, Nat.le_of_ble_eq_true rfl⟩
                        refine xcall hd0 (xintoV (b := m0) (As := [.int (nI f), .int (nI r), .int (nI 2)]) (rest := [.double (pAt pl h t 2)]) ⟨hx, hb, hml, hown, hts _⟩ cw_17 (va_recv hK.1 (x1 y_o) (ci := 8) (q0 := 0) rfl rfl) rfl rfl hl.1 rfl (lv_room (Nat.le_of_ble_eq_true rfl)) dX7_cross_105) (c_X7_at (l := l) (G := G) (ty := ty) (b0 := b0) (f := f) (r := r) (k := 2) (by omega) (by omega) (by omega) (⟨y_o, y_0, y_1, y_2, y_3, y_4, y_5, y_6, y_7, y_8, y_9, y_10⟩ : xRef G ty m0 A (th) F R pl un co dr bu nb wi hi fc fa lo la px py pz H) hZ) (xoweB cw_17.1) hK hb0 hS (Nat.le_of_ble_eq_true rfl) (Nat.le_of_ble_eq_true rfl) (fun E_17 ce_17 q9_17 H_17 locs_17 d0 hd0 hp_17 hS hce_17 hcv_17 hcl_17 => ?_) (fun v_17 H_17 locs_17 d0 hd0 hp_17 hS => ?_)
                        · exact hp_17.elim
                        · obtain ⟨rfl, rfl⟩ := hp_17
                          show W p l e _ (s.setDrawn _) m _ below meth c _ _ _ _ _ (F0 m 108 ls [.double (pAt pl f r 2), .double (pAt pl h t 2)])
                          refine xdsub hd0 hx hb (vq_rf _) (vq_rf _) dX7_cross_108 (fun r_18 d0 q_18 hd0 => ?_)
                          refine lv_dstore (lv' := [(17, .double r_18), (15, .double r_15), (13, .double r_12), (11, .double r_9), (9, .double r_6), (7, .double r_3), (0, .ref m0), (1, .int (nI f)), (2, .int (nI r)), (3, .int (nI g)), (4, .int (nI q)), (5, .int (nI h)), (6, .int (nI t))]) hx hb dX7_cross_109 hl (by decide) rfl (fun ls hl => ?_)
                          refine lv_aload_n hx hb dX7_cross_111 rfl (lv_at hl 6 rfl) ?_
                          refine lv_dload hx hb dX7_cross_112 (lv_at hl 4 rfl) ?_
                          refine lv_dload hx hb dX7_cross_114 (lv_at hl 0 rfl) ?_
                          refine xdmul hd0 hx hb q_6 q_18 dX7_cross_116 (fun r_19 d0 q_19 hd0 => ?_)
                          refine lv_dload hx hb dX7_cross_117 (lv_at hl 3 rfl) ?_
                          refine lv_dload hx hb dX7_cross_119 (lv_at hl 1 rfl) ?_
                          refine xdmul hd0 hx hb q_9 q_15 dX7_cross_121 (fun r_20 d0 q_20 hd0 => ?_)
                          refine xdsub hd0 hx hb q_19 q_20 dX7_cross_122 (fun r_21 d0 q_21 hd0 => ?_)
                          refine xput (G := G) (ci := 8) (v := .double r_21) (ty := .double) (C := RX7) (T := TX7) (N := 18) hx hb (hts d0) in_X7_cross_X7 tyX7 tyX7_ok nmX7 hown hK.1 y_o hS hB.1 rfl 15 (by decide) (hts d0 _ hw_X7_cross_1) (fun _ h9 => h9) rfl (by decide +kernel) rfl rfl (Nat.le_of_ble_eq_true rfl) dX7_cross_123 (fun H_22 locs_22 hs_22 hS => ?_)
                          have hc_22 : xc G m0 (.inr (8, [.int (th), .int (nI F), .int (nI R), .ref (A 0), .ref (A 1), .ref (A 2), .ref (A 3), .ref (A 4), .int (nI nb), .ref (A 5), .ref (A 6), .ref (A 7), .ref (A 8), .ref (A 9), .ref (A 10), .double r_21, .double py, .double pz])) H_22 := hs_22.1
                          have hc_A0_22 : xc G (A 0) (.inl (ty 0, 192, .inr (.inr (.inr (.inl pl))))) H_22 := y_0.kept (hs_22.2.2 _ (hA.1 0 (by decide)))
                          have hc_A1_22 : xc G (A 1) (.inl (ty 2, 8, .inl un)) H_22 := y_1.kept (hs_22.2.2 _ (hA.1 1 (by decide)))
                          have hc_A2_22 : xc G (A 2) (.inl (ty 0, 256, .inr (.inr (.inr (.inl co))))) H_22 := y_2.kept (hs_22.2.2 _ (hA.1 2 (by decide)))
                          have hc_A3_22 : xc G (A 3) (.inl (ty 0, 32, .inr (.inr (.inr (.inl dr))))) H_22 := y_3.kept (hs_22.2.2 _ (hA.1 3 (by decide)))
                          have hc_A4_22 : xc G (A 4) (.inl (ty 2, 64, .inl bu)) H_22 := y_4.kept (hs_22.2.2 _ (hA.1 4 (by decide)))
                          have hc_A5_22 : xc G (A 5) (.inl (ty 0, 4, .inr (.inr (.inr (.inl wi))))) H_22 := y_5.kept (hs_22.2.2 _ (hA.1 5 (by decide)))
                          have hc_A6_22 : xc G (A 6) (.inl (ty 0, 4, .inr (.inr (.inr (.inl hi))))) H_22 := y_6.kept (hs_22.2.2 _ (hA.1 6 (by decide)))
                          have hc_A7_22 : xc G (A 7) (.inl (ty 1, 4, .inl fc)) H_22 := y_7.kept (hs_22.2.2 _ (hA.1 7 (by decide)))
                          have hc_A8_22 : xc G (A 8) (.inl (ty 0, 128, .inr (.inr (.inr (.inl fa))))) H_22 := y_8.kept (hs_22.2.2 _ (hA.1 8 (by decide)))
                          have hc_A9_22 : xc G (A 9) (.inl (ty 1, 8, .inl lo)) H_22 := y_9.kept (hs_22.2.2 _ (hA.1 9 (by decide)))
                          have hc_A10_22 : xc G (A 10) (.inl (ty 1, 8, .inl la)) H_22 := y_10.kept (hs_22.2.2 _ (hA.1 10 (by decide)))
                          have hfr_22 : xRfr m0 A H H_22 := xRfr.put0 xRfr.rf hs_22
                          refine lv_aload_n hx hb dX7_cross_126 rfl (lv_at hl 6 rfl) ?_
                          refine lv_dload hx hb dX7_cross_127 (lv_at hl 3 rfl) ?_
                          refine lv_dload hx hb dX7_cross_129 (lv_at hl 2 rfl) ?_
                          refine xdmul hd0 hx hb q_9 q_12 dX7_cross_131 (fun r_23 d0 q_23 hd0 => ?_)
                          refine lv_dload hx hb dX7_cross_132 (lv_at hl 5 rfl) ?_
                          refine lv_dload hx hb dX7_cross_134 (lv_at hl 0 rfl) ?_
                          refine xdmul hd0 hx hb q_3 q_18 dX7_cross_136 (fun r_24 d0 q_24 hd0 => ?_)
                          refine xdsub hd0 hx hb q_23 q_24 dX7_cross_137 (fun r_25 d0 q_25 hd0 => ?_)
                          refine xput (G := G) (ci := 8) (v := .double r_25) (ty := .double) (C := RX7) (T := TX7) (N := 18) hx hb (hts d0) in_X7_cross_X7 tyX7 tyX7_ok nmX7 hown hK.1 hc_22 hS hB.1 rfl 16 (by decide) (hts d0 _ hw_X7_cross_2) (fun _ h9 => h9) rfl (by decide +kernel) rfl rfl (Nat.le_of_ble_eq_true rfl) dX7_cross_138 (fun H_26 locs_26 hs_26 hS => ?_)
                          have hc_26 : xc G m0 (.inr (8, [.int (th), .int (nI F), .int (nI R), .ref (A 0), .ref (A 1), .ref (A 2), .ref (A 3), .ref (A 4), .int (nI nb), .ref (A 5), .ref (A 6), .ref (A 7), .ref (A 8), .ref (A 9), .ref (A 10), .double r_21, .double r_25, .double pz])) H_26 := hs_26.1
                          have hc_A0_26 : xc G (A 0) (.inl (ty 0, 192, .inr (.inr (.inr (.inl pl))))) H_26 := hc_A0_22.kept (hs_26.2.2 _ (hA.1 0 (by decide)))
                          have hc_A1_26 : xc G (A 1) (.inl (ty 2, 8, .inl un)) H_26 := hc_A1_22.kept (hs_26.2.2 _ (hA.1 1 (by decide)))
                          have hc_A2_26 : xc G (A 2) (.inl (ty 0, 256, .inr (.inr (.inr (.inl co))))) H_26 := hc_A2_22.kept (hs_26.2.2 _ (hA.1 2 (by decide)))
                          have hc_A3_26 : xc G (A 3) (.inl (ty 0, 32, .inr (.inr (.inr (.inl dr))))) H_26 := hc_A3_22.kept (hs_26.2.2 _ (hA.1 3 (by decide)))
                          have hc_A4_26 : xc G (A 4) (.inl (ty 2, 64, .inl bu)) H_26 := hc_A4_22.kept (hs_26.2.2 _ (hA.1 4 (by decide)))
                          have hc_A5_26 : xc G (A 5) (.inl (ty 0, 4, .inr (.inr (.inr (.inl wi))))) H_26 := hc_A5_22.kept (hs_26.2.2 _ (hA.1 5 (by decide)))
                          have hc_A6_26 : xc G (A 6) (.inl (ty 0, 4, .inr (.inr (.inr (.inl hi))))) H_26 := hc_A6_22.kept (hs_26.2.2 _ (hA.1 6 (by decide)))
                          have hc_A7_26 : xc G (A 7) (.inl (ty 1, 4, .inl fc)) H_26 := hc_A7_22.kept (hs_26.2.2 _ (hA.1 7 (by decide)))
                          have hc_A8_26 : xc G (A 8) (.inl (ty 0, 128, .inr (.inr (.inr (.inl fa))))) H_26 := hc_A8_22.kept (hs_26.2.2 _ (hA.1 8 (by decide)))
                          have hc_A9_26 : xc G (A 9) (.inl (ty 1, 8, .inl lo)) H_26 := hc_A9_22.kept (hs_26.2.2 _ (hA.1 9 (by decide)))
                          have hc_A10_26 : xc G (A 10) (.inl (ty 1, 8, .inl la)) H_26 := hc_A10_22.kept (hs_26.2.2 _ (hA.1 10 (by decide)))
                          have hfr_26 : xRfr m0 A H H_26 := xRfr.put0 hfr_22 hs_26
                          refine lv_aload_n hx hb dX7_cross_141 rfl (lv_at hl 6 rfl) ?_
                          refine lv_dload hx hb dX7_cross_142 (lv_at hl 5 rfl) ?_
                          refine lv_dload hx hb dX7_cross_144 (lv_at hl 1 rfl) ?_
                          refine xdmul hd0 hx hb q_3 q_15 dX7_cross_146 (fun r_27 d0 q_27 hd0 => ?_)
                          refine lv_dload hx hb dX7_cross_147 (lv_at hl 4 rfl) ?_
                          refine lv_dload hx hb dX7_cross_149 (lv_at hl 2 rfl) ?_
                          refine xdmul hd0 hx hb q_6 q_12 dX7_cross_151 (fun r_28 d0 q_28 hd0 => ?_)
                          refine xdsub hd0 hx hb q_27 q_28 dX7_cross_152 (fun r_29 d0 q_29 hd0 => ?_)
                          refine xput (G := G) (ci := 8) (v := .double r_29) (ty := .double) (C := RX7) (T := TX7) (N := 18) hx hb (hts d0) in_X7_cross_X7 tyX7 tyX7_ok nmX7 hown hK.1 hc_26 hS hB.1 rfl 17 (by decide) (hts d0 _ hw_X7_cross_3) (fun _ h9 => h9) rfl (by decide +kernel) rfl rfl (Nat.le_of_ble_eq_true rfl) dX7_cross_153 (fun H_30 locs_30 hs_30 hS => ?_)
                          have hc_30 : xc G m0 (.inr (8, [.int (th), .int (nI F), .int (nI R), .ref (A 0), .ref (A 1), .ref (A 2), .ref (A 3), .ref (A 4), .int (nI nb), .ref (A 5), .ref (A 6), .ref (A 7), .ref (A 8), .ref (A 9), .ref (A 10), .double r_21, .double r_25, .double r_29])) H_30 := hs_30.1
                          have hc_A0_30 : xc G (A 0) (.inl (ty 0, 192, .inr (.inr (.inr (.inl pl))))) H_30 := hc_A0_26.kept (hs_30.2.2 _ (hA.1 0 (by decide)))
                          have hc_A1_30 : xc G (A 1) (.inl (ty 2, 8, .inl un)) H_30 := hc_A1_26.kept (hs_30.2.2 _ (hA.1 1 (by decide)))
                          have hc_A2_30 : xc G (A 2) (.inl (ty 0, 256, .inr (.inr (.inr (.inl co))))) H_30 := hc_A2_26.kept (hs_30.2.2 _ (hA.1 2 (by decide)))
                          have hc_A3_30 : xc G (A 3) (.inl (ty 0, 32, .inr (.inr (.inr (.inl dr))))) H_30 := hc_A3_26.kept (hs_30.2.2 _ (hA.1 3 (by decide)))
                          have hc_A4_30 : xc G (A 4) (.inl (ty 2, 64, .inl bu)) H_30 := hc_A4_26.kept (hs_30.2.2 _ (hA.1 4 (by decide)))
                          have hc_A5_30 : xc G (A 5) (.inl (ty 0, 4, .inr (.inr (.inr (.inl wi))))) H_30 := hc_A5_26.kept (hs_30.2.2 _ (hA.1 5 (by decide)))
                          have hc_A6_30 : xc G (A 6) (.inl (ty 0, 4, .inr (.inr (.inr (.inl hi))))) H_30 := hc_A6_26.kept (hs_30.2.2 _ (hA.1 6 (by decide)))
                          have hc_A7_30 : xc G (A 7) (.inl (ty 1, 4, .inl fc)) H_30 := hc_A7_26.kept (hs_30.2.2 _ (hA.1 7 (by decide)))
                          have hc_A8_30 : xc G (A 8) (.inl (ty 0, 128, .inr (.inr (.inr (.inl fa))))) H_30 := hc_A8_26.kept (hs_30.2.2 _ (hA.1 8 (by decide)))
                          have hc_A9_30 : xc G (A 9) (.inl (ty 1, 8, .inl lo)) H_30 := hc_A9_26.kept (hs_30.2.2 _ (hA.1 9 (by decide)))
                          have hc_A10_30 : xc G (A 10) (.inl (ty 1, 8, .inl la)) H_30 := hc_A10_26.kept (hs_30.2.2 _ (hA.1 10 (by decide)))
                          have hfr_30 : xRfr m0 A H H_30 := xRfr.put0 hfr_26 hs_30
                          exact xvret hd0 hx hb hr hlocks hS (Nat.le_of_ble_eq_true rfl) (Nat.le_of_ble_eq_true rfl) dX7_cross_156 ⟨_, _, _, ⟨hc_30, hc_A0_30, hc_A1_30, hc_A2_30, hc_A3_30, hc_A4_30, hc_A5_30, hc_A6_30, hc_A7_30, hc_A8_30, hc_A9_30, hc_A10_30⟩, hfr_30, rfl, q_21, q_25, q_29⟩
def pDot (a b c d e f : UInt64) : UInt64 := FP.dadd (FP.dadd (FP.dadd FP.dconst0 (FP.dmul a d)) (FP.dmul b e)) (FP.dmul c f)
/-- BEVEL out of the two products -/
def pBev (a b c d e f : UInt64) : UInt64 := if xeq (pRoot (pDot a b c a b c)) FP.dconst0 = true ∨ xeq (pRoot (pDot d e f d e f)) FP.dconst0 = true then FP.dconst1 else FP.ddiv (pDot a b c d e f) (FP.dmul (pRoot (pDot a b c a b c)) (pRoot (pDot d e f d e f)))
def pBevel (pl : Nat → UInt64) (x f : Nat) : UInt64 := pBev (pCro pl f x f (x + 1) (f + 1) x 1 2) (pCro pl f x f (x + 1) (f + 1) x 2 0) (pCro pl f x f (x + 1) (f + 1) x 0 1) (pCro pl f (x + 1) (f + 1) (x + 1) (f + 1) x 1 2) (pCro pl f (x + 1) (f + 1) (x + 1) (f + 1) x 2 0) (pCro pl f (x + 1) (f + 1) (x + 1) (f + 1) x 0 1)
theorem pBev_1 {a b c d e f : UInt64} (h : xeq (pRoot (pDot a b c a b c)) FP.dconst0 = true ∨ xeq (pRoot (pDot d e f d e f)) FP.dconst0 = true) : pBev a b c d e f = FP.dconst1 := if_pos h
theorem pBev_2 {a b c d e f : UInt64} (h : xeq (pRoot (pDot a b c a b c)) FP.dconst0 = false) (h2 : xeq (pRoot (pDot d e f d e f)) FP.dconst0 = false) : pBev a b c d e f = FP.ddiv (pDot a b c d e f) (FP.dmul (pRoot (pDot a b c a b c)) (pRoot (pDot d e f d e f))) := if_neg (fun z => z.elim (fun z => xtf z h) (fun z => xtf z h2))
set_option maxRecDepth 20000 in
theorem ggX7_bevel_X7_noCell : GoodIn wsX7_bevel wsX7_noCell := goodIn_r _ [9, 10, 11, 12, 13, 8, 14, 15, 29, 30, 31, 32, 33, 34, 35, 36, 37, 38, 39, 40, 41, 42, 43, 44, 45, 46] (by decide +kernel) (by decide +kernel)
set_option maxRecDepth 20000 in
theorem gX7_bevel_X7_noCell : GoodIn wsX7_bevel (wsV RX7 95 RX7 yX7_noCell wsX7_noCell) := goodIn_app (goodIn_of _ (by decide +kernel)) ggX7_bevel_X7_noCell
set_option maxRecDepth 20000 in
theorem ggX7_bevel_X7_cross : GoodIn wsX7_bevel wsX7_cross := goodIn_r _ [19, 2, 3, 4, 20, 21, 22, 8, 23, 24, 29, 30, 31, 32, 33, 34, 35, 36, 37, 38, 39, 40, 41, 42, 43, 44, 45, 46] (by decide +kernel) (by decide +kernel)
set_option maxRecDepth 20000 in
theorem gX7_bevel_X7_cross : GoodIn wsX7_bevel (wsV RX7 114 RX7 yX7_cross wsX7_cross) := goodIn_app (goodIn_of _ (by decide +kernel)) ggX7_bevel_X7_cross
set_option maxRecDepth 20000 in
theorem ggX7_bevel_X7_root : GoodIn wsX7_bevel wsX7_root := goodIn_r _ [27, 28] (by decide +kernel) (by decide +kernel)
set_option maxRecDepth 20000 in
theorem gX7_bevel_X7_root : GoodIn wsX7_bevel (va_wsS RX7 73 yX7_root wsX7_root) := goodIn_app (goodIn_of _ (by decide +kernel)) ggX7_bevel_X7_root
theorem dX7_bevel_0 : decode cX7_bevel 0 = .ok (.aload_n 0, 1) := by decide +kernel
theorem dX7_bevel_1 : decode cX7_bevel 1 = .ok (.aload_n 0, 1) := by decide +kernel
theorem dX7_bevel_2 : decode cX7_bevel 2 = .ok (.iload_n 1, 1) := by decide +kernel
theorem dX7_bevel_3 : decode cX7_bevel 3 = .ok (.iload_n 2, 1) := by decide +kernel
theorem dX7_bevel_4 : decode cX7_bevel 4 = .ok (.invokevirtual 95, 3) := by decide +kernel
theorem dX7_bevel_7 : decode cX7_bevel 7 = .ok (.ifCond .eq 7, 3) := by decide +kernel
theorem dX7_bevel_10 : decode cX7_bevel 10 = .ok (.iconst 1, 1) := by decide +kernel
theorem dX7_bevel_11 : decode cX7_bevel 11 = .ok (.goto 4, 3) := by decide +kernel
theorem dX7_bevel_14 : decode cX7_bevel 14 = .ok (.iconst 0, 1) := by decide +kernel
theorem dX7_bevel_15 : decode cX7_bevel 15 = .ok (.putfield 52, 3) := by decide +kernel
theorem dX7_bevel_18 : decode cX7_bevel 18 = .ok (.aload_n 0, 1) := by decide +kernel
theorem dX7_bevel_19 : decode cX7_bevel 19 = .ok (.getfield 52, 3) := by decide +kernel
theorem dX7_bevel_22 : decode cX7_bevel 22 = .ok (.ifCond .le 5, 3) := by decide +kernel
theorem dX7_bevel_25 : decode cX7_bevel 25 = .ok (.dconst 0, 1) := by decide +kernel
theorem dX7_bevel_26 : decode cX7_bevel 26 = .ok (.dreturn, 1) := by decide +kernel
theorem dX7_bevel_27 : decode cX7_bevel 27 = .ok (.aload_n 0, 1) := by decide +kernel
theorem dX7_bevel_28 : decode cX7_bevel 28 = .ok (.iload_n 2, 1) := by decide +kernel
theorem dX7_bevel_29 : decode cX7_bevel 29 = .ok (.iload_n 1, 1) := by decide +kernel
theorem dX7_bevel_30 : decode cX7_bevel 30 = .ok (.iload_n 2, 1) := by decide +kernel
theorem dX7_bevel_31 : decode cX7_bevel 31 = .ok (.iload_n 1, 1) := by decide +kernel
theorem dX7_bevel_32 : decode cX7_bevel 32 = .ok (.iconst 1, 1) := by decide +kernel
theorem dX7_bevel_33 : decode cX7_bevel 33 = .ok (.iadd, 1) := by decide +kernel
theorem dX7_bevel_34 : decode cX7_bevel 34 = .ok (.iload_n 2, 1) := by decide +kernel
theorem dX7_bevel_35 : decode cX7_bevel 35 = .ok (.iconst 1, 1) := by decide +kernel
theorem dX7_bevel_36 : decode cX7_bevel 36 = .ok (.iadd, 1) := by decide +kernel
theorem dX7_bevel_37 : decode cX7_bevel 37 = .ok (.iload_n 1, 1) := by decide +kernel
theorem dX7_bevel_38 : decode cX7_bevel 38 = .ok (.invokevirtual 114, 3) := by decide +kernel
theorem dX7_bevel_41 : decode cX7_bevel 41 = .ok (.aload_n 0, 1) := by decide +kernel
theorem dX7_bevel_42 : decode cX7_bevel 42 = .ok (.getfield 104, 3) := by decide +kernel
theorem dX7_bevel_45 : decode cX7_bevel 45 = .ok (.dstore_n 3, 1) := by decide +kernel
theorem dX7_bevel_46 : decode cX7_bevel 46 = .ok (.aload_n 0, 1) := by decide +kernel
theorem dX7_bevel_47 : decode cX7_bevel 47 = .ok (.getfield 108, 3) := by decide +kernel
theorem dX7_bevel_50 : decode cX7_bevel 50 = .ok (.dstore 5, 2) := by decide +kernel
theorem dX7_bevel_52 : decode cX7_bevel 52 = .ok (.aload_n 0, 1) := by decide +kernel
theorem dX7_bevel_53 : decode cX7_bevel 53 = .ok (.getfield 111, 3) := by decide +kernel
theorem dX7_bevel_56 : decode cX7_bevel 56 = .ok (.dstore 7, 2) := by decide +kernel
theorem dX7_bevel_58 : decode cX7_bevel 58 = .ok (.aload_n 0, 1) := by decide +kernel
theorem dX7_bevel_59 : decode cX7_bevel 59 = .ok (.iload_n 2, 1) := by decide +kernel
theorem dX7_bevel_60 : decode cX7_bevel 60 = .ok (.iload_n 1, 1) := by decide +kernel
theorem dX7_bevel_61 : decode cX7_bevel 61 = .ok (.iconst 1, 1) := by decide +kernel
theorem dX7_bevel_62 : decode cX7_bevel 62 = .ok (.iadd, 1) := by decide +kernel
theorem dX7_bevel_63 : decode cX7_bevel 63 = .ok (.iload_n 2, 1) := by decide +kernel
theorem dX7_bevel_64 : decode cX7_bevel 64 = .ok (.iconst 1, 1) := by decide +kernel
theorem dX7_bevel_65 : decode cX7_bevel 65 = .ok (.iadd, 1) := by decide +kernel
theorem dX7_bevel_66 : decode cX7_bevel 66 = .ok (.iload_n 1, 1) := by decide +kernel
theorem dX7_bevel_67 : decode cX7_bevel 67 = .ok (.iconst 1, 1) := by decide +kernel
theorem dX7_bevel_68 : decode cX7_bevel 68 = .ok (.iadd, 1) := by decide +kernel
theorem dX7_bevel_69 : decode cX7_bevel 69 = .ok (.iload_n 2, 1) := by decide +kernel
theorem dX7_bevel_70 : decode cX7_bevel 70 = .ok (.iconst 1, 1) := by decide +kernel
theorem dX7_bevel_71 : decode cX7_bevel 71 = .ok (.iadd, 1) := by decide +kernel
theorem dX7_bevel_72 : decode cX7_bevel 72 = .ok (.iload_n 1, 1) := by decide +kernel
theorem dX7_bevel_73 : decode cX7_bevel 73 = .ok (.invokevirtual 114, 3) := by decide +kernel
theorem dX7_bevel_76 : decode cX7_bevel 76 = .ok (.dconst 0, 1) := by decide +kernel
theorem dX7_bevel_77 : decode cX7_bevel 77 = .ok (.dload_n 3, 1) := by decide +kernel
theorem dX7_bevel_78 : decode cX7_bevel 78 = .ok (.dload_n 3, 1) := by decide +kernel
theorem dX7_bevel_79 : decode cX7_bevel 79 = .ok (.dmul, 1) := by decide +kernel
theorem dX7_bevel_80 : decode cX7_bevel 80 = .ok (.dadd, 1) := by decide +kernel
theorem dX7_bevel_81 : decode cX7_bevel 81 = .ok (.dload 5, 2) := by decide +kernel
theorem dX7_bevel_83 : decode cX7_bevel 83 = .ok (.dload 5, 2) := by decide +kernel
theorem dX7_bevel_85 : decode cX7_bevel 85 = .ok (.dmul, 1) := by decide +kernel
theorem dX7_bevel_86 : decode cX7_bevel 86 = .ok (.dadd, 1) := by decide +kernel
theorem dX7_bevel_87 : decode cX7_bevel 87 = .ok (.dload 7, 2) := by decide +kernel
theorem dX7_bevel_89 : decode cX7_bevel 89 = .ok (.dload 7, 2) := by decide +kernel
theorem dX7_bevel_91 : decode cX7_bevel 91 = .ok (.dmul, 1) := by decide +kernel
theorem dX7_bevel_92 : decode cX7_bevel 92 = .ok (.dadd, 1) := by decide +kernel
theorem dX7_bevel_93 : decode cX7_bevel 93 = .ok (.invokestatic 73, 3) := by decide +kernel
theorem dX7_bevel_96 : decode cX7_bevel 96 = .ok (.dstore 9, 2) := by decide +kernel
theorem dX7_bevel_98 : decode cX7_bevel 98 = .ok (.dconst 0, 1) := by decide +kernel
theorem dX7_bevel_99 : decode cX7_bevel 99 = .ok (.aload_n 0, 1) := by decide +kernel
theorem dX7_bevel_100 : decode cX7_bevel 100 = .ok (.getfield 104, 3) := by decide +kernel
theorem dX7_bevel_103 : decode cX7_bevel 103 = .ok (.aload_n 0, 1) := by decide +kernel
theorem dX7_bevel_104 : decode cX7_bevel 104 = .ok (.getfield 104, 3) := by decide +kernel
theorem dX7_bevel_107 : decode cX7_bevel 107 = .ok (.dmul, 1) := by decide +kernel
theorem dX7_bevel_108 : decode cX7_bevel 108 = .ok (.dadd, 1) := by decide +kernel
theorem dX7_bevel_109 : decode cX7_bevel 109 = .ok (.aload_n 0, 1) := by decide +kernel
theorem dX7_bevel_110 : decode cX7_bevel 110 = .ok (.getfield 108, 3) := by decide +kernel
theorem dX7_bevel_113 : decode cX7_bevel 113 = .ok (.aload_n 0, 1) := by decide +kernel
theorem dX7_bevel_114 : decode cX7_bevel 114 = .ok (.getfield 108, 3) := by decide +kernel
theorem dX7_bevel_117 : decode cX7_bevel 117 = .ok (.dmul, 1) := by decide +kernel
theorem dX7_bevel_118 : decode cX7_bevel 118 = .ok (.dadd, 1) := by decide +kernel
theorem dX7_bevel_119 : decode cX7_bevel 119 = .ok (.aload_n 0, 1) := by decide +kernel
theorem dX7_bevel_120 : decode cX7_bevel 120 = .ok (.getfield 111, 3) := by decide +kernel
theorem dX7_bevel_123 : decode cX7_bevel 123 = .ok (.aload_n 0, 1) := by decide +kernel
theorem dX7_bevel_124 : decode cX7_bevel 124 = .ok (.getfield 111, 3) := by decide +kernel
theorem dX7_bevel_127 : decode cX7_bevel 127 = .ok (.dmul, 1) := by decide +kernel
theorem dX7_bevel_128 : decode cX7_bevel 128 = .ok (.dadd, 1) := by decide +kernel
theorem dX7_bevel_129 : decode cX7_bevel 129 = .ok (.invokestatic 73, 3) := by decide +kernel
theorem dX7_bevel_132 : decode cX7_bevel 132 = .ok (.dstore 11, 2) := by decide +kernel
theorem dX7_bevel_134 : decode cX7_bevel 134 = .ok (.dload 9, 2) := by decide +kernel
theorem dX7_bevel_136 : decode cX7_bevel 136 = .ok (.dconst 0, 1) := by decide +kernel
theorem dX7_bevel_137 : decode cX7_bevel 137 = .ok (.dcmp .l, 1) := by decide +kernel
theorem dX7_bevel_138 : decode cX7_bevel 138 = .ok (.ifCond .eq 10, 3) := by decide +kernel
theorem dX7_bevel_141 : decode cX7_bevel 141 = .ok (.dload 11, 2) := by decide +kernel
theorem dX7_bevel_143 : decode cX7_bevel 143 = .ok (.dconst 0, 1) := by decide +kernel
theorem dX7_bevel_144 : decode cX7_bevel 144 = .ok (.dcmp .l, 1) := by decide +kernel
theorem dX7_bevel_145 : decode cX7_bevel 145 = .ok (.ifCond .ne 7, 3) := by decide +kernel
theorem dX7_bevel_148 : decode cX7_bevel 148 = .ok (.dconst 1, 1) := by decide +kernel
theorem dX7_bevel_149 : decode cX7_bevel 149 = .ok (.goto 33, 3) := by decide +kernel
theorem dX7_bevel_152 : decode cX7_bevel 152 = .ok (.dconst 0, 1) := by decide +kernel
theorem dX7_bevel_153 : decode cX7_bevel 153 = .ok (.dload_n 3, 1) := by decide +kernel
theorem dX7_bevel_154 : decode cX7_bevel 154 = .ok (.aload_n 0, 1) := by decide +kernel
theorem dX7_bevel_155 : decode cX7_bevel 155 = .ok (.getfield 104, 3) := by decide +kernel
theorem dX7_bevel_158 : decode cX7_bevel 158 = .ok (.dmul, 1) := by decide +kernel
theorem dX7_bevel_159 : decode cX7_bevel 159 = .ok (.dadd, 1) := by decide +kernel
theorem dX7_bevel_160 : decode cX7_bevel 160 = .ok (.dload 5, 2) := by decide +kernel
theorem dX7_bevel_162 : decode cX7_bevel 162 = .ok (.aload_n 0, 1) := by decide +kernel
theorem dX7_bevel_163 : decode cX7_bevel 163 = .ok (.getfield 108, 3) := by decide +kernel
theorem dX7_bevel_166 : decode cX7_bevel 166 = .ok (.dmul, 1) := by decide +kernel
theorem dX7_bevel_167 : decode cX7_bevel 167 = .ok (.dadd, 1) := by decide +kernel
theorem dX7_bevel_168 : decode cX7_bevel 168 = .ok (.dload 7, 2) := by decide +kernel
theorem dX7_bevel_170 : decode cX7_bevel 170 = .ok (.aload_n 0, 1) := by decide +kernel
theorem dX7_bevel_171 : decode cX7_bevel 171 = .ok (.getfield 111, 3) := by decide +kernel
theorem dX7_bevel_174 : decode cX7_bevel 174 = .ok (.dmul, 1) := by decide +kernel
theorem dX7_bevel_175 : decode cX7_bevel 175 = .ok (.dadd, 1) := by decide +kernel
theorem dX7_bevel_176 : decode cX7_bevel 176 = .ok (.dload 9, 2) := by decide +kernel
theorem dX7_bevel_178 : decode cX7_bevel 178 = .ok (.dload 11, 2) := by decide +kernel
theorem dX7_bevel_180 : decode cX7_bevel 180 = .ok (.dmul, 1) := by decide +kernel
theorem dX7_bevel_181 : decode cX7_bevel 181 = .ok (.ddiv, 1) := by decide +kernel
theorem dX7_bevel_182 : decode cX7_bevel 182 = .ok (.dreturn, 1) := by decide +kernel
abbrev rm_X7_bevel : Room := { frames := 7, cells := 0, slots := 0, locals := 140 }
theorem hw_X7_bevel_1 : (Cond.fieldLink RX7 52 "PlankUnrollModel" "thrown" "I") ∈ wsX7_bevel := List.mem_of_getElem? (i := 1) rfl
theorem hw_X7_bevel_2 : (Cond.fieldLink RX7 104 "PlankUnrollModel" "px" "D") ∈ wsX7_bevel := List.mem_of_getElem? (i := 2) rfl
theorem hw_X7_bevel_3 : (Cond.fieldLink RX7 108 "PlankUnrollModel" "py" "D") ∈ wsX7_bevel := List.mem_of_getElem? (i := 3) rfl
theorem hw_X7_bevel_4 : (Cond.fieldLink RX7 111 "PlankUnrollModel" "pz" "D") ∈ wsX7_bevel := List.mem_of_getElem? (i := 4) rfl
theorem in_X7_bevel_X7 : ∀ w ∈ wsX70, w ∈ wsX7_bevel := by decide +kernel
set_option maxHeartbeats 4000000 in
set_option maxRecDepth 100000 in
/-- bevel -/
theorem c_X7_bevel {l : Launch} {G : va_G} {ty : Nat → ClassId} {b0 : Nat} {H : Heap} {x f : Int32} {m0 : Nat} {A : Nat → Nat} {th : Int32} {F R nb : Nat} {pl co dr wi hi fa : Nat → UInt64} {un bu fc lo la : Nat → Int32} {px py pz : UInt64} (hY : xRef G ty m0 A th F R pl un co dr bu nb wi hi fc fa lo la px py pz H) (hZ : xSz F R) (hA : xAp m0 A) (hB : xNw b0 m0 A) : xMet l yX7_bevel wsX7_bevel rm_X7_bevel G ty b0 [.ref m0, .int (x), .int (f)] H (fun v H1 => ∃ (T : Int32) (x1 y1 z1 : UInt64), xRef G ty m0 A T F R pl un co dr bu nb wi hi fc fa lo la x1 y1 z1 H1 ∧ xRfr m0 A H H1 ∧ ∃ z : UInt64, v = some (.double z) ∧ ((T = nI 0 ∧ (vp_in x (R - 1) ∧ vp_in f (F - 1)) ∧ vq z (pBevel pl x.toNatClampNeg f.toNatClampNeg)) ∨ (T = nI 1 ∧ ¬ (vp_in x (R - 1) ∧ vp_in f (F - 1))))) (fun _ _ => False) := by
  refine xbody (cc := cX7_bevel) (maxL := 13) (ret := (some .double)) (C := RX7) (lv := [(0, .ref m0), (1, .int (x)), (2, .int (f))]) (by decide) rfl rfl (Nat.le_of_ble_eq_true rfl) rfl ?_
  intro p e s m below meth c d0 hx hb hr hts hown hlocks hml hxt hnm0 hK hb0 hH0 hS hd0 ls hl
  obtain ⟨y_o, y_0, y_1, y_2, y_3, y_4, y_5, y_6, y_7, y_8, y_9, y_10⟩ := id hY
  obtain ⟨⟨zF2, zF8⟩, ⟨zR2, zR8⟩⟩ := id hZ
  refine lv_aload_n hx hb dX7_bevel_0 rfl (lv_at hl 0 rfl) ?_
  refine lv_aload_n hx hb dX7_bevel_1 rfl (lv_at hl 0 rfl) ?_
  refine lv_iload_n hx hb dX7_bevel_2 rfl (lv_at hl 1 rfl) ?_
  refine lv_iload_n hx hb dX7_bevel_3 rfl (lv_at hl 2 rfl) ?_
  have cw_1 := cwV (R := rm_X7_bevel) (rm := rm_X7_noCell) 2 (hts d0) gX7_bevel_X7_noCell rfl rfl rfl (by decide +kernel) ⟨Nat.le_of_ble_eq_true rfl, Nat.le_of_ble_eq_true rfl⟩
  refine xcall hd0 (xintoV (b := m0) (As := [.int (x), .int (f)]) (rest := [.ref m0]) ⟨hx, hb, hml, hown, hts _⟩ cw_1 (va_recv hK.1 (x1 y_o) (ci := 8) (q0 := 0) rfl rfl) rfl rfl hl.1 rfl (lv_room (Nat.le_of_ble_eq_true rfl)) dX7_bevel_4) (c_X7_noCell (l := l) (G := G) (ty := ty) (b0 := b0) (⟨y_o, y_0, y_1, y_2, y_3, y_4, y_5, y_6, y_7, y_8, y_9, y_10⟩ : xRef G ty m0 A (th) F R pl un co dr bu nb wi hi fc fa lo la px py pz H) hZ) (xoweB cw_1.1) hK hb0 hS (Nat.le_of_ble_eq_true rfl) (Nat.le_of_ble_eq_true rfl) (fun E_1 ce_1 q9_1 H_1 locs_1 d0 hd0 hp_1 hS hce_1 hcv_1 hcl_1 => ?_) (fun v_1 H_1 locs_1 d0 hd0 hp_1 hS => ?_)
  · exact hp_1.elim
  · obtain ⟨rfl, rfl⟩ := hp_1
    show W p l e _ (s.setDrawn _) m _ below meth c _ _ _ _ _ (F0 m 7 ls [.int (xP (¬ (vp_in x (R - 1) ∧ vp_in f (F - 1)))), .ref m0])
    refine lv_if_eq (tgt := 14) hx hb dX7_bevel_7 (by decide) (fun c_2 => ?_) (fun c_2 => ?_)
    · have z9 := Classical.not_not.mp (xP_eq.mp c_2)
      have z_x := z9.1
      have z_f := z9.2
      obtain ⟨x9, hx9, ex9⟩ := vp_in_of z_x (by omega)
      obtain ⟨f9, hf9, ef9⟩ := vp_in_of z_f (by omega)
      subst ex9 ef9
      refine lv_iconst (v := nI 0) hx hb dX7_bevel_14 (by decide) ?_
      refine xput (G := G) (ci := 8) (v := .int (nI 0)) (ty := .int) (C := RX7) (T := TX7) (N := 18) hx hb (hts d0) in_X7_bevel_X7 tyX7 tyX7_ok nmX7 hown hK.1 y_o hS hB.1 rfl 0 (by decide) (hts d0 _ hw_X7_bevel_1) (fun _ h9 => h9) rfl (by decide +kernel) rfl rfl (Nat.le_of_ble_eq_true rfl) dX7_bevel_15 (fun H_3 locs_3 hs_3 hS => ?_)
      have hc_3 : xc G m0 (.inr (8, [.int (nI 0), .int (nI F), .int (nI R), .ref (A 0), .ref (A 1), .ref (A 2), .ref (A 3), .ref (A 4), .int (nI nb), .ref (A 5), .ref (A 6), .ref (A 7), .ref (A 8), .ref (A 9), .ref (A 10), .double px, .double py, .double pz])) H_3 := hs_3.1
      have hc_A0_3 : xc G (A 0) (.inl (ty 0, 192, .inr (.inr (.inr (.inl pl))))) H_3 := y_0.kept (hs_3.2.2 _ (hA.1 0 (by decide)))
      have hc_A1_3 : xc G (A 1) (.inl (ty 2, 8, .inl un)) H_3 := y_1.kept (hs_3.2.2 _ (hA.1 1 (by decide)))
      have hc_A2_3 : xc G (A 2) (.inl (ty 0, 256, .inr (.inr (.inr (.inl co))))) H_3 := y_2.kept (hs_3.2.2 _ (hA.1 2 (by decide)))
      have hc_A3_3 : xc G (A 3) (.inl (ty 0, 32, .inr (.inr (.inr (.inl dr))))) H_3 := y_3.kept (hs_3.2.2 _ (hA.1 3 (by decide)))
      have hc_A4_3 : xc G (A 4) (.inl (ty 2, 64, .inl bu)) H_3 := y_4.kept (hs_3.2.2 _ (hA.1 4 (by decide)))
      have hc_A5_3 : xc G (A 5) (.inl (ty 0, 4, .inr (.inr (.inr (.inl wi))))) H_3 := y_5.kept (hs_3.2.2 _ (hA.1 5 (by decide)))
      have hc_A6_3 : xc G (A 6) (.inl (ty 0, 4, .inr (.inr (.inr (.inl hi))))) H_3 := y_6.kept (hs_3.2.2 _ (hA.1 6 (by decide)))
      have hc_A7_3 : xc G (A 7) (.inl (ty 1, 4, .inl fc)) H_3 := y_7.kept (hs_3.2.2 _ (hA.1 7 (by decide)))
      have hc_A8_3 : xc G (A 8) (.inl (ty 0, 128, .inr (.inr (.inr (.inl fa))))) H_3 := y_8.kept (hs_3.2.2 _ (hA.1 8 (by decide)))
      have hc_A9_3 : xc G (A 9) (.inl (ty 1, 8, .inl lo)) H_3 := y_9.kept (hs_3.2.2 _ (hA.1 9 (by decide)))
      have hc_A10_3 : xc G (A 10) (.inl (ty 1, 8, .inl la)) H_3 := y_10.kept (hs_3.2.2 _ (hA.1 10 (by decide)))
      have hfr_3 : xRfr m0 A H H_3 := xRfr.put0 xRfr.rf hs_3
      refine lv_aload_n hx hb dX7_bevel_18 rfl (lv_at hl 0 rfl) ?_
      refine va_get (D := G) (cl := vwCl) (ci := 8) (v := .int (nI 0)) (C := RX7) (T := TX7) (N := 18) hx hb (hts d0) in_X7_bevel_X7 hown hK.1 (x1 hc_3) 0 rfl rfl 0 (by decide) (hts d0 _ hw_X7_bevel_1) (fun _ h9 => h9) rfl dX7_bevel_19 ?_
      refine lv_if_le (tgt := 27) hx hb dX7_bevel_22 (by decide) (fun _ => ?_) (fun h9 => (show False by revert h9; decide).elim)
      refine lv_aload_n hx hb dX7_bevel_27 rfl (lv_at hl 0 rfl) ?_
      refine lv_iload_n hx hb dX7_bevel_28 rfl (lv_at hl 2 rfl) ?_
      refine lv_iload_n hx hb dX7_bevel_29 rfl (lv_at hl 1 rfl) ?_
      refine lv_iload_n hx hb dX7_bevel_30 rfl (lv_at hl 2 rfl) ?_
      refine lv_iload_n hx hb dX7_bevel_31 rfl (lv_at hl 1 rfl) ?_
      refine lv_iconst (v := nI 1) hx hb dX7_bevel_32 (by decide) ?_
      refine xiaddN hx hb dX7_bevel_33 ?_
      refine lv_iload_n hx hb dX7_bevel_34 rfl (lv_at hl 2 rfl) ?_
      refine lv_iconst (v := nI 1) hx hb dX7_bevel_35 (by decide) ?_
      refine xiaddN hx hb dX7_bevel_36 ?_
      refine lv_iload_n hx hb dX7_bevel_37 rfl (lv_at hl 1 rfl) ?_
      have cw_5 := cwV (R := rm_X7_bevel) (rm := rm_X7_cross) 6 (hts d0) gX7_bevel_X7_cross rfl rfl rfl (by decide +kernel) ⟨Nat.le_of_ble_eq_true rfl, Nat.le_of_ble_eq_true rfl⟩
      refine xcall hd0 (xintoV (b := m0) (As := [.int (nI f9), .int (nI x9), .int (nI f9), .int (nI (x9 + 1)), .int (nI (f9 + 1)), .int (nI x9)]) (rest := []) ⟨hx, hb, hml, hown, hts _⟩ cw_5 (va_recv hK.1 (x1 hc_3) (ci := 8) (q0 := 0) rfl rfl) rfl rfl hl.1 rfl (lv_room (Nat.le_of_ble_eq_true rfl)) dX7_bevel_38) (c_X7_cross (l := l) (G := G) (ty := ty) (b0 := b0) (⟨hc_3, hc_A0_3, hc_A1_3, hc_A2_3, hc_A3_3, hc_A4_3, hc_A5_3, hc_A6_3, hc_A7_3, hc_A8_3, hc_A9_3, hc_A10_3⟩ : xRef G ty m0 A (nI 0) F R pl un co dr bu nb wi hi fc fa lo la px py pz H_3) hZ hA hB (f := f9) (r := x9) (g := f9) (q := x9 + 1) (h := f9 + 1) (t := x9) (by omega) (by omega) (by omega) (by omega) (by omega) (by omega)) (xoweB cw_5.1) hK hb0 hS (Nat.le_of_ble_eq_true rfl) (Nat.le_of_ble_eq_true rfl) (fun E_5 ce_5 q9_5 H_5 locs_5 d0 hd0 hp_5 hS hce_5 hcv_5 hcl_5 => ?_) (fun v_5 H_5 locs_5 d0 hd0 hp_5 hS => ?_)
      · exact hp_5.elim
      · obtain ⟨x1_5, y1_5, z1_5, hY_5, hfr_5, hq_5⟩ := hp_5
        obtain ⟨y_o, y_0, y_1, y_2, y_3, y_4, y_5, y_6, y_7, y_8, y_9, y_10⟩ := id hY_5
        have hfr_5t := xRfr.tr hfr_3 hfr_5
        obtain ⟨rfl, qx_5, qy_5, qz_5⟩ := hq_5
        show W p l e _ (s.setDrawn _) m _ below meth c _ _ _ _ _ (F0 m 41 ls [])
        refine lv_aload_n hx hb dX7_bevel_41 rfl (lv_at hl 0 rfl) ?_
        refine va_get (D := G) (cl := vwCl) (ci := 8) (v := .double x1_5) (C := RX7) (T := TX7) (N := 18) hx hb (hts d0) in_X7_bevel_X7 hown hK.1 (x1 y_o) 0 rfl rfl 15 (by decide) (hts d0 _ hw_X7_bevel_2) (fun _ h9 => h9) rfl dX7_bevel_42 ?_
        refine lv_dstore_n (lv' := [(3, .double x1_5), (0, .ref m0), (1, .int (nI x9)), (2, .int (nI f9))]) hx hb dX7_bevel_45 rfl hl (by decide) rfl (fun ls hl => ?_)
        refine lv_aload_n hx hb dX7_bevel_46 rfl (lv_at hl 1 rfl) ?_
        refine va_get (D := G) (cl := vwCl) (ci := 8) (v := .double y1_5) (C := RX7) (T := TX7) (N := 18) hx hb (hts d0) in_X7_bevel_X7 hown hK.1 (x1 y_o) 0 rfl rfl 16 (by decide) (hts d0 _ hw_X7_bevel_3) (fun _ h9 => h9) rfl dX7_bevel_47 ?_
        refine lv_dstore (lv' := [(5, .double y1_5), (3, .double x1_5), (0, .ref m0), (1, .int (nI x9)), (2, .int (nI f9))]) hx hb dX7_bevel_50 hl (by decide) rfl (fun ls hl => ?_)
        refine lv_aload_n hx hb dX7_bevel_52 rfl (lv_at hl 2 rfl) ?_
        refine va_get (D := G) (cl := vwCl) (ci := 8) (v := .double z1_5) (C := RX7) (T := TX7) (N := 18) hx hb (hts d0) in_X7_bevel_X7 hown hK.1 (x1 y_o) 0 rfl rfl 17 (by decide) (hts d0 _ hw_X7_bevel_4) (fun _ h9 => h9) rfl dX7_bevel_53 ?_
        refine lv_dstore (lv' := [(7, .double z1_5), (5, .double y1_5), (3, .double x1_5), (0, .ref m0), (1, .int (nI x9)), (2, .int (nI f9))]) hx hb dX7_bevel_56 hl (by decide) rfl (fun ls hl => ?_)
        refine lv_aload_n hx hb dX7_bevel_58 rfl (lv_at hl 3 rfl) ?_
        refine lv_iload_n hx hb dX7_bevel_59 rfl (lv_at hl 5 rfl) ?_
        refine lv_iload_n hx hb dX7_bevel_60 rfl (lv_at hl 4 rfl) ?_
        refine lv_iconst (v := nI 1) hx hb dX7_bevel_61 (by decide) ?_
        refine xiaddN hx hb dX7_bevel_62 ?_
        refine lv_iload_n hx hb dX7_bevel_63 rfl (lv_at hl 5 rfl) ?_
        refine lv_iconst (v := nI 1) hx hb dX7_bevel_64 (by decide) ?_
        refine xiaddN hx hb dX7_bevel_65 ?_
        refine lv_iload_n hx hb dX7_bevel_66 rfl (lv_at hl 4 rfl) ?_
        refine lv_iconst (v := nI 1) hx hb dX7_bevel_67 (by decide) ?_
        refine xiaddN hx hb dX7_bevel_68 ?_
        refine lv_iload_n hx hb dX7_bevel_69 rfl (lv_at hl 5 rfl) ?_
        refine lv_iconst (v := nI 1) hx hb dX7_bevel_70 (by decide) ?_
        refine xiaddN hx hb dX7_bevel_71 ?_
        refine lv_iload_n hx hb dX7_bevel_72 rfl (lv_at hl 4 rfl) ?_
        have cw_6 := cwV (R := rm_X7_bevel) (rm := rm_X7_cross) 6 (hts d0) gX7_bevel_X7_cross rfl rfl rfl (by decide +kernel) ⟨Nat.le_of_ble_eq_true rfl, Nat.le_of_ble_eq_true rfl⟩
        refine xcall hd0 (xintoV (b := m0) (As := [.int (nI f9), .int (nI (x9 + 1)), .int (nI (f9 + 1)), .int (nI (x9 + 1)), .int (nI (f9 + 1)), .int (nI x9)]) (rest := []) ⟨hx, hb, hml, hown, hts _⟩ cw_6 (va_recv hK.1 (x1 y_o) (ci := 8) (q0 := 0) rfl rfl) rfl rfl hl.1 rfl (lv_room (Nat.le_of_ble_eq_true rfl)) dX7_bevel_73) (c_X7_cross (l := l) (G := G) (ty := ty) (b0 := b0) (⟨y_o, y_0, y_1, y_2, y_3, y_4, y_5, y_6, y_7, y_8, y_9, y_10⟩ : xRef G ty m0 A (nI 0) F R pl un co dr bu nb wi hi fc fa lo la x1_5 y1_5 z1_5 H_5) hZ hA hB (f := f9) (r := x9 + 1) (g := f9 + 1) (q := x9 + 1) (h := f9 + 1) (t := x9) (by omega) (by omega) (by omega) (by omega) (by omega) (by omega)) (xoweB cw_6.1) hK hb0 hS (Nat.le_of_ble_eq_true rfl) (Nat.le_of_ble_eq_true rfl) (fun E_6 ce_6 q9_6 H_6 locs_6 d0 hd0 hp_6 hS hce_6 hcv_6 hcl_6 => ?_) (fun v_6 H_6 locs_6 d0 hd0 hp_6 hS => ?_)
        · exact hp_6.elim
        · obtain ⟨x1_6, y1_6, z1_6, hY_6, hfr_6, hq_6⟩ := hp_6
          obtain ⟨y_o, y_0, y_1, y_2, y_3, y_4, y_5, y_6, y_7, y_8, y_9, y_10⟩ := id hY_6
          have hfr_6t := xRfr.tr hfr_5t hfr_6
          obtain ⟨rfl, qx_6, qy_6, qz_6⟩ := hq_6
          show W p l e _ (s.setDrawn _) m _ below meth c _ _ _ _ _ (F0 m 76 ls [])
          refine lv_dconst0 hx hb dX7_bevel_76 ?_
          refine lv_dload_n hx hb dX7_bevel_77 rfl (lv_at hl 2 rfl) ?_
          refine lv_dload_n hx hb dX7_bevel_78 rfl (lv_at hl 2 rfl) ?_
          refine xdmul hd0 hx hb qx_5 qx_5 dX7_bevel_79 (fun r_7 d0 q_7 hd0 => ?_)
          refine xdadd hd0 hx hb (vq_rf _) q_7 dX7_bevel_80 (fun r_8 d0 q_8 hd0 => ?_)
          refine lv_dload hx hb dX7_bevel_81 (lv_at hl 1 rfl) ?_
          refine lv_dload hx hb dX7_bevel_83 (lv_at hl 1 rfl) ?_
          refine xdmul hd0 hx hb qy_5 qy_5 dX7_bevel_85 (fun r_9 d0 q_9 hd0 => ?_)
          refine xdadd hd0 hx hb q_8 q_9 dX7_bevel_86 (fun r_10 d0 q_10 hd0 => ?_)
          refine lv_dload hx hb dX7_bevel_87 (lv_at hl 0 rfl) ?_
          refine lv_dload hx hb dX7_bevel_89 (lv_at hl 0 rfl) ?_
          refine xdmul hd0 hx hb qz_5 qz_5 dX7_bevel_91 (fun r_11 d0 q_11 hd0 => ?_)
          refine xdadd hd0 hx hb q_10 q_11 dX7_bevel_92 (fun r_12 d0 q_12 hd0 => ?_)
          have cw_13 := va_cwS (R := rm_X7_bevel) (rm := rm_X7_root) 1 (hts d0) gX7_bevel_X7_root rfl rfl rfl (by decide +kernel) ⟨Nat.le_of_ble_eq_true rfl, Nat.le_of_ble_eq_true rfl⟩
          refine xcall hd0 (xintoS (As := [.double r_12]) (rest := []) ⟨hx, hb, hml, hown, hts _⟩ cw_13 rfl rfl hl.1 rfl (lv_room (Nat.le_of_ble_eq_true rfl)) dX7_bevel_93) (c_X7_root (l := l) (G := G) (ty := ty) (b0 := b0) q_12) (xoweB cw_13.1) hK hb0 hS (Nat.le_of_ble_eq_true rfl) (Nat.le_of_ble_eq_true rfl) (fun E_13 ce_13 q9_13 H_13 locs_13 d0 hd0 hp_13 hS hce_13 hcv_13 hcl_13 => ?_) (fun v_13 H_13 locs_13 d0 hd0 hp_13 hS => ?_)
          · exact hp_13.elim
          · obtain ⟨rfl, r_13, rfl, q_13⟩ := hp_13
            show W p l e _ (s.setDrawn _) m _ below meth c _ _ _ _ _ (F0 m 96 ls [.double r_13])
            refine lv_dstore (lv' := [(9, .double r_13), (7, .double z1_5), (5, .double y1_5), (3, .double x1_5), (0, .ref m0), (1, .int (nI x9)), (2, .int (nI f9))]) hx hb dX7_bevel_96 hl (by decide) rfl (fun ls hl => ?_)
            refine lv_dconst0 hx hb dX7_bevel_98 ?_
            refine lv_aload_n hx hb dX7_bevel_99 rfl (lv_at hl 4 rfl) ?_
            refine va_get (D := G) (cl := vwCl) (ci := 8) (v := .double x1_6) (C := RX7) (T := TX7) (N := 18) hx hb (hts d0) in_X7_bevel_X7 hown hK.1 (x1 y_o) 0 rfl rfl 15 (by decide) (hts d0 _ hw_X7_bevel_2) (fun _ h9 => h9) rfl dX7_bevel_100 ?_
            refine lv_aload_n hx hb dX7_bevel_103 rfl (lv_at hl 4 rfl) ?_
            refine va_get (D := G) (cl := vwCl) (ci := 8) (v := .double x1_6) (C := RX7) (T := TX7) (N := 18) hx hb (hts d0) in_X7_bevel_X7 hown hK.1 (x1 y_o) 0 rfl rfl 15 (by decide) (hts d0 _ hw_X7_bevel_2) (fun _ h9 => h9) rfl dX7_bevel_104 ?_
            refine xdmul hd0 hx hb qx_6 qx_6 dX7_bevel_107 (fun r_14 d0 q_14 hd0 => ?_)
            refine xdadd hd0 hx hb (vq_rf _) q_14 dX7_bevel_108 (fun r_15 d0 q_15 hd0 => ?_)
            refine lv_aload_n hx hb dX7_bevel_109 rfl (lv_at hl 4 rfl) ?_
            refine va_get (D := G) (cl := vwCl) (ci := 8) (v := .double y1_6) (C := RX7) (T := TX7) (N := 18) hx hb (hts d0) in_X7_bevel_X7 hown hK.1 (x1 y_o) 0 rfl rfl 16 (by decide) (hts d0 _ hw_X7_bevel_3) (fun _ h9 => h9) rfl dX7_bevel_110 ?_
            refine lv_aload_n hx hb dX7_bevel_113 rfl (lv_at hl 4 rfl) ?_
            refine va_get (D := G) (cl := vwCl) (ci := 8) (v := .double y1_6) (C := RX7) (T := TX7) (N := 18) hx hb (hts d0) in_X7_bevel_X7 hown hK.1 (x1 y_o) 0 rfl rfl 16 (by decide) (hts d0 _ hw_X7_bevel_3) (fun _ h9 => h9) rfl dX7_bevel_114 ?_
            refine xdmul hd0 hx hb qy_6 qy_6 dX7_bevel_117 (fun r_16 d0 q_16 hd0 => ?_)
            refine xdadd hd0 hx hb q_15 q_16 dX7_bevel_118 (fun r_17 d0 q_17 hd0 => ?_)
            refine lv_aload_n hx hb dX7_bevel_119 rfl (lv_at hl 4 rfl) ?_
            refine va_get (D := G) (cl := vwCl) (ci := 8) (v := .double z1_6) (C := RX7) (T := TX7) (N := 18) hx hb (hts d0) in_X7_bevel_X7 hown hK.1 (x1 y_o) 0 rfl rfl 17 (by decide) (hts d0 _ hw_X7_bevel_4) (fun _ h9 => h9) rfl dX7_bevel_120 ?_
            refine lv_aload_n hx hb dX7_bevel_123 rfl (lv_at hl 4 rfl) ?_
            refine va_get (D := G) (cl := vwCl) (ci := 8) (v := .double z1_6) (C := RX7) (T := TX7) (N := 18) hx hb (hts d0) in_X7_bevel_X7 hown hK.1 (x1 y_o) 0 rfl rfl 17 (by decide) (hts d0 _ hw_X7_bevel_4) (fun _ h9 => h9) rfl dX7_bevel_124 ?_
            refine xdmul hd0 hx hb qz_6 qz_6 dX7_bevel_127 (fun r_18 d0 q_18 hd0 => ?_)
            refine xdadd hd0 hx hb q_17 q_18 dX7_bevel_128 (fun r_19 d0 q_19 hd0 => ?_)
            have cw_20 := va_cwS (R := rm_X7_bevel) (rm := rm_X7_root) 1 (hts d0) gX7_bevel_X7_root rfl rfl rfl (by decide +kernel) ⟨Nat.le_of_ble_eq_true rfl, Nat.le_of_ble_eq_true rfl⟩
            refine xcall hd0 (xintoS (As := [.double r_19]) (rest := []) ⟨hx, hb, hml, hown, hts _⟩ cw_20 rfl rfl hl.1 rfl (lv_room (Nat.le_of_ble_eq_true rfl)) dX7_bevel_129) (c_X7_root (l := l) (G := G) (ty := ty) (b0 := b0) q_19) (xoweB cw_20.1) hK hb0 hS (Nat.le_of_ble_eq_true rfl) (Nat.le_of_ble_eq_true rfl) (fun E_20 ce_20 q9_20 H_20 locs_20 d0 hd0 hp_20 hS hce_20 hcv_20 hcl_20 => ?_) (fun v_20 H_20 locs_20 d0 hd0 hp_20 hS => ?_)
            · exact hp_20.elim
            · obtain ⟨rfl, r_20, rfl, q_20⟩ := hp_20
              show W p l e _ (s.setDrawn _) m _ below meth c _ _ _ _ _ (F0 m 132 ls [.double r_20])
              refine lv_dstore (lv' := [(11, .double r_20), (9, .double r_13), (7, .double z1_5), (5, .double y1_5), (3, .double x1_5), (0, .ref m0), (1, .int (nI x9)), (2, .int (nI f9))]) hx hb dX7_bevel_132 hl (by decide) rfl (fun ls hl => ?_)
              refine lv_dload hx hb dX7_bevel_134 (lv_at hl 1 rfl) ?_
              refine lv_dconst0 hx hb dX7_bevel_136 ?_
              refine xcmp_l_eq (tgt := 148) hx hb q_13 (vq_rf _) dX7_bevel_137 dX7_bevel_138 (by decide) (fun c_21 => ?_) (fun c_21 => ?_)
              · refine lv_dconst1 hx hb dX7_bevel_148 ?_
                refine lv_goto (tgt := 182) hx hb dX7_bevel_149 (by decide) ?_
                exact xdret hd0 hx hb hr hlocks hS (Nat.le_of_ble_eq_true rfl) (Nat.le_of_ble_eq_true rfl) dX7_bevel_182 ⟨nI 0, _, _, _, ⟨y_o, y_0, y_1, y_2, y_3, y_4, y_5, y_6, y_7, y_8, y_9, y_10⟩, hfr_6t, _, rfl, Or.inl ⟨rfl, z9, by rw [nN_nI (by omega), nN_nI (by omega)]; exact (congrArg xv (pBev_1 (Or.inl c_21)).symm)⟩⟩
              · refine lv_dload hx hb dX7_bevel_141 (lv_at hl 0 rfl) ?_
                refine lv_dconst0 hx hb dX7_bevel_143 ?_
                refine xcmp_l_ne (tgt := 152) hx hb q_20 (vq_rf _) dX7_bevel_144 dX7_bevel_145 (by decide) (fun c_22 => ?_) (fun c_22 => ?_)
                · refine lv_dconst0 hx hb dX7_bevel_152 ?_
                  refine lv_dload_n hx hb dX7_bevel_153 rfl (lv_at hl 4 rfl) ?_
                  refine lv_aload_n hx hb dX7_bevel_154 rfl (lv_at hl 5 rfl) ?_
                  refine va_get (D := G) (cl := vwCl) (ci := 8) (v := .double x1_6) (C := RX7) (T := TX7) (N := 18) hx hb (hts d0) in_X7_bevel_X7 hown hK.1 (x1 y_o) 0 rfl rfl 15 (by decide) (hts d0 _ hw_X7_bevel_2) (fun _ h9 => h9) rfl dX7_bevel_155 ?_
                  refine xdmul hd0 hx hb qx_5 qx_6 dX7_bevel_158 (fun r_23 d0 q_23 hd0 => ?_)
                  refine xdadd hd0 hx hb (vq_rf _) q_23 dX7_bevel_159 (fun r_24 d0 q_24 hd0 => ?_)
                  refine lv_dload hx hb dX7_bevel_160 (lv_at hl 3 rfl) ?_
                  refine lv_aload_n hx hb dX7_bevel_162 rfl (lv_at hl 5 rfl) ?_
                  refine va_get (D := G) (cl := vwCl) (ci := 8) (v := .double y1_6) (C := RX7) (T := TX7) (N := 18) hx hb (hts d0) in_X7_bevel_X7 hown hK.1 (x1 y_o) 0 rfl rfl 16 (by decide) (hts d0 _ hw_X7_bevel_3) (fun _ h9 => h9) rfl dX7_bevel_163 ?_
                  refine xdmul hd0 hx hb qy_5 qy_6 dX7_bevel_166 (fun r_25 d0 q_25 hd0 => ?_)
                  refine xdadd hd0 hx hb q_24 q_25 dX7_bevel_167 (fun r_26 d0 q_26 hd0 => ?_)
                  refine lv_dload hx hb dX7_bevel_168 (lv_at hl 2 rfl) ?_
                  refine lv_aload_n hx hb dX7_bevel_170 rfl (lv_at hl 5 rfl) ?_
                  refine va_get (D := G) (cl := vwCl) (ci := 8) (v := .double z1_6) (C := RX7) (T := TX7) (N := 18) hx hb (hts d0) in_X7_bevel_X7 hown hK.1 (x1 y_o) 0 rfl rfl 17 (by decide) (hts d0 _ hw_X7_bevel_4) (fun _ h9 => h9) rfl dX7_bevel_171 ?_
                  refine xdmul hd0 hx hb qz_5 qz_6 dX7_bevel_174 (fun r_27 d0 q_27 hd0 => ?_)
                  refine xdadd hd0 hx hb q_26 q_27 dX7_bevel_175 (fun r_28 d0 q_28 hd0 => ?_)
                  refine lv_dload hx hb dX7_bevel_176 (lv_at hl 1 rfl) ?_
                  refine lv_dload hx hb dX7_bevel_178 (lv_at hl 0 rfl) ?_
                  refine xdmul hd0 hx hb q_13 q_20 dX7_bevel_180 (fun r_29 d0 q_29 hd0 => ?_)
                  refine xddiv hd0 hx hb q_28 q_29 dX7_bevel_181 (fun r_30 d0 q_30 hd0 => ?_)
                  exact xdret hd0 hx hb hr hlocks hS (Nat.le_of_ble_eq_true rfl) (Nat.le_of_ble_eq_true rfl) dX7_bevel_182 ⟨nI 0, _, _, _, ⟨y_o, y_0, y_1, y_2, y_3, y_4, y_5, y_6, y_7, y_8, y_9, y_10⟩, hfr_6t, _, rfl, Or.inl ⟨rfl, z9, by rw [nN_nI (by omega), nN_nI (by omega)]; exact (Eq.trans q_30 (congrArg xv (pBev_2 c_21 c_22).symm))⟩⟩
                · refine lv_dconst1 hx hb dX7_bevel_148 ?_
                  refine lv_goto (tgt := 182) hx hb dX7_bevel_149 (by decide) ?_
                  exact xdret hd0 hx hb hr hlocks hS (Nat.le_of_ble_eq_true rfl) (Nat.le_of_ble_eq_true rfl) dX7_bevel_182 ⟨nI 0, _, _, _, ⟨y_o, y_0, y_1, y_2, y_3, y_4, y_5, y_6, y_7, y_8, y_9, y_10⟩, hfr_6t, _, rfl, Or.inl ⟨rfl, z9, by rw [nN_nI (by omega), nN_nI (by omega)]; exact (congrArg xv (pBev_1 (Or.inr c_22)).symm)⟩⟩
    · refine lv_iconst (v := nI 1) hx hb dX7_bevel_10 (by decide) ?_
      refine lv_goto (tgt := 15) hx hb dX7_bevel_11 (by decide) ?_
      refine xput (G := G) (ci := 8) (v := .int (nI 1)) (ty := .int) (C := RX7) (T := TX7) (N := 18) hx hb (hts d0) in_X7_bevel_X7 tyX7 tyX7_ok nmX7 hown hK.1 y_o hS hB.1 rfl 0 (by decide) (hts d0 _ hw_X7_bevel_1) (fun _ h9 => h9) rfl (by decide +kernel) rfl rfl (Nat.le_of_ble_eq_true rfl) dX7_bevel_15 (fun H_31 locs_31 hs_31 hS => ?_)
      have hc_31 : xc G m0 (.inr (8, [.int (nI 1), .int (nI F), .int (nI R), .ref (A 0), .ref (A 1), .ref (A 2), .ref (A 3), .ref (A 4), .int (nI nb), .ref (A 5), .ref (A 6), .ref (A 7), .ref (A 8), .ref (A 9), .ref (A 10), .double px, .double py, .double pz])) H_31 := hs_31.1
      have hc_A0_31 : xc G (A 0) (.inl (ty 0, 192, .inr (.inr (.inr (.inl pl))))) H_31 := y_0.kept (hs_31.2.2 _ (hA.1 0 (by decide)))
      have hc_A1_31 : xc G (A 1) (.inl (ty 2, 8, .inl un)) H_31 := y_1.kept (hs_31.2.2 _ (hA.1 1 (by decide)))
      have hc_A2_31 : xc G (A 2) (.inl (ty 0, 256, .inr (.inr (.inr (.inl co))))) H_31 := y_2.kept (hs_31.2.2 _ (hA.1 2 (by decide)))
      have hc_A3_31 : xc G (A 3) (.inl (ty 0, 32, .inr (.inr (.inr (.inl dr))))) H_31 := y_3.kept (hs_31.2.2 _ (hA.1 3 (by decide)))
      have hc_A4_31 : xc G (A 4) (.inl (ty 2, 64, .inl bu)) H_31 := y_4.kept (hs_31.2.2 _ (hA.1 4 (by decide)))
      have hc_A5_31 : xc G (A 5) (.inl (ty 0, 4, .inr (.inr (.inr (.inl wi))))) H_31 := y_5.kept (hs_31.2.2 _ (hA.1 5 (by decide)))
      have hc_A6_31 : xc G (A 6) (.inl (ty 0, 4, .inr (.inr (.inr (.inl hi))))) H_31 := y_6.kept (hs_31.2.2 _ (hA.1 6 (by decide)))
      have hc_A7_31 : xc G (A 7) (.inl (ty 1, 4, .inl fc)) H_31 := y_7.kept (hs_31.2.2 _ (hA.1 7 (by decide)))
      have hc_A8_31 : xc G (A 8) (.inl (ty 0, 128, .inr (.inr (.inr (.inl fa))))) H_31 := y_8.kept (hs_31.2.2 _ (hA.1 8 (by decide)))
      have hc_A9_31 : xc G (A 9) (.inl (ty 1, 8, .inl lo)) H_31 := y_9.kept (hs_31.2.2 _ (hA.1 9 (by decide)))
      have hc_A10_31 : xc G (A 10) (.inl (ty 1, 8, .inl la)) H_31 := y_10.kept (hs_31.2.2 _ (hA.1 10 (by decide)))
      have hfr_31 : xRfr m0 A H H_31 := xRfr.put0 xRfr.rf hs_31
      refine lv_aload_n hx hb dX7_bevel_18 rfl (lv_at hl 0 rfl) ?_
      refine va_get (D := G) (cl := vwCl) (ci := 8) (v := .int (nI 1)) (C := RX7) (T := TX7) (N := 18) hx hb (hts d0) in_X7_bevel_X7 hown hK.1 (x1 hc_31) 0 rfl rfl 0 (by decide) (hts d0 _ hw_X7_bevel_1) (fun _ h9 => h9) rfl dX7_bevel_19 ?_
      refine lv_if_le (tgt := 27) hx hb dX7_bevel_22 (by decide) (fun h9 => (show False by revert h9; decide).elim) (fun _ => ?_)
      refine lv_dconst0 hx hb dX7_bevel_25 ?_
      exact xdret hd0 hx hb hr hlocks hS (Nat.le_of_ble_eq_true rfl) (Nat.le_of_ble_eq_true rfl) dX7_bevel_26 ⟨nI 1, _, _, _, ⟨hc_31, hc_A0_31, hc_A1_31, hc_A2_31, hc_A3_31, hc_A4_31, hc_A5_31, hc_A6_31, hc_A7_31, hc_A8_31, hc_A9_31, hc_A10_31⟩, hfr_31, _, rfl, Or.inr ⟨rfl, xP_ne.mp c_2⟩⟩
def pPutC (d : Nat → UInt64) (p q : Nat) : UInt64 := pLen (FP.dsub (d (2 * q)) (d (2 * p))) (FP.dsub (d (2 * q + 1)) (d (2 * p + 1)))
def pPutT (d : Nat → UInt64) (p q : Nat) (r s : UInt64) : UInt64 := FP.ddiv (FP.dadd (FP.dsub (FP.dmul r r) (FP.dmul s s)) (FP.dmul (pPutC d p q) (pPutC d p q))) (FP.dmul 4611686018427387904 (pPutC d p q))
def pPutH (d : Nat → UInt64) (p q : Nat) (r s : UInt64) : UInt64 := pRoot (FP.dsub (FP.dmul r r) (FP.dmul (pPutT d p q r s) (pPutT d p q r s)))
def pPutX (d : Nat → UInt64) (p q : Nat) (r s : UInt64) : UInt64 := FP.dadd (FP.dadd (d (2 * p)) (FP.ddiv (FP.dmul (pPutT d p q r s) (FP.dsub (d (2 * q)) (d (2 * p)))) (pPutC d p q))) (FP.ddiv (FP.dmul (pPutH d p q r s) (FP.dsub (d (2 * q + 1)) (d (2 * p + 1)))) (pPutC d p q))
def pPutY (d : Nat → UInt64) (p q : Nat) (r s : UInt64) : UInt64 := FP.dsub (FP.dadd (d (2 * p + 1)) (FP.ddiv (FP.dmul (pPutT d p q r s) (FP.dsub (d (2 * q + 1)) (d (2 * p + 1)))) (pPutC d p q))) (FP.ddiv (FP.dmul (pPutH d p q r s) (FP.dsub (d (2 * q)) (d (2 * p)))) (pPutC d p q))
/-- the corners with one more -/
def pPutF (d : Nat → UInt64) (k p q : Nat) (r s : UInt64) : Nat → UInt64 := fun j => if j = 2 * k then pPutX d p q r s else if j = 2 * k + 1 then pPutY d p q r s else d j
def pPutBad (d : Nat → UInt64) (p q : Nat) : Bool := xlt (pPutC d p q) 4562146422526312448
theorem vq_vfne {f : Nat → UInt64} {k j : Nat} {x e : UInt64} (h : j ≠ k) (hq : vq (f j) e) : vq (vf_upd f k x j) e := by
  have e1 : vf_upd f k x j = f j := by unfold vf_upd; exact if_neg h
  rw [e1]; exact hq
theorem pPutF_ok {dr d : Nat → UInt64} {k p q : Nat} {r s x y : UInt64} (hd : ∀ j : Nat, j < 2 * k → vq (dr j) (d j)) (hx : vq x (pPutX d p q r s)) (hy : vq y (pPutY d p q r s)) : ∀ j : Nat, j < 2 * k + 2 → vq (vf_upd (vf_upd dr (2 * k) x) (2 * k + 1) y j) (pPutF d k p q r s j) := by
  intro j hj
  unfold pPutF vf_upd
  by_cases h1 : j = 2 * k
  · rw [if_neg (by omega), if_pos h1, if_pos h1]; exact hx
  · by_cases h2 : j = 2 * k + 1
    · simp only [if_neg h1, if_pos h2]; exact hy
    · simp only [if_neg h1, if_neg h2]; exact hd j (by omega)
set_option maxRecDepth 20000 in
theorem ggX7_put_X7_length : GoodIn wsX7_put wsX7_length := goodIn_r _ [7, 8, 9, 6, 10, 3] (by decide +kernel) (by decide +kernel)
set_option maxRecDepth 20000 in
theorem gX7_put_X7_length : GoodIn wsX7_put (va_wsS RX7 81 yX7_length wsX7_length) := goodIn_app (goodIn_of _ (by decide +kernel)) ggX7_put_X7_length
set_option maxRecDepth 20000 in
theorem ggX7_put_X7_root : GoodIn wsX7_put wsX7_root := goodIn_r _ [10, 3] (by decide +kernel) (by decide +kernel)
set_option maxRecDepth 20000 in
theorem gX7_put_X7_root : GoodIn wsX7_put (va_wsS RX7 73 yX7_root wsX7_root) := goodIn_app (goodIn_of _ (by decide +kernel)) ggX7_put_X7_root
theorem dX7_put_0 : decode cX7_put 0 = .ok (.aload_n 0, 1) := by decide +kernel
theorem dX7_put_1 : decode cX7_put 1 = .ok (.getfield 20, 3) := by decide +kernel
theorem dX7_put_4 : decode cX7_put 4 = .ok (.iconst 2, 1) := by decide +kernel
theorem dX7_put_5 : decode cX7_put 5 = .ok (.iload_n 3, 1) := by decide +kernel
theorem dX7_put_6 : decode cX7_put 6 = .ok (.imul, 1) := by decide +kernel
theorem dX7_put_7 : decode cX7_put 7 = .ok (.daload, 1) := by decide +kernel
theorem dX7_put_8 : decode cX7_put 8 = .ok (.aload_n 0, 1) := by decide +kernel
theorem dX7_put_9 : decode cX7_put 9 = .ok (.getfield 20, 3) := by decide +kernel
theorem dX7_put_12 : decode cX7_put 12 = .ok (.iconst 2, 1) := by decide +kernel
theorem dX7_put_13 : decode cX7_put 13 = .ok (.iload_n 2, 1) := by decide +kernel
theorem dX7_put_14 : decode cX7_put 14 = .ok (.imul, 1) := by decide +kernel
theorem dX7_put_15 : decode cX7_put 15 = .ok (.daload, 1) := by decide +kernel
theorem dX7_put_16 : decode cX7_put 16 = .ok (.dsub, 1) := by decide +kernel
theorem dX7_put_17 : decode cX7_put 17 = .ok (.dstore 8, 2) := by decide +kernel
theorem dX7_put_19 : decode cX7_put 19 = .ok (.aload_n 0, 1) := by decide +kernel
theorem dX7_put_20 : decode cX7_put 20 = .ok (.getfield 20, 3) := by decide +kernel
theorem dX7_put_23 : decode cX7_put 23 = .ok (.iconst 2, 1) := by decide +kernel
theorem dX7_put_24 : decode cX7_put 24 = .ok (.iload_n 3, 1) := by decide +kernel
theorem dX7_put_25 : decode cX7_put 25 = .ok (.imul, 1) := by decide +kernel
theorem dX7_put_26 : decode cX7_put 26 = .ok (.iconst 1, 1) := by decide +kernel
theorem dX7_put_27 : decode cX7_put 27 = .ok (.iadd, 1) := by decide +kernel
theorem dX7_put_28 : decode cX7_put 28 = .ok (.daload, 1) := by decide +kernel
theorem dX7_put_29 : decode cX7_put 29 = .ok (.aload_n 0, 1) := by decide +kernel
theorem dX7_put_30 : decode cX7_put 30 = .ok (.getfield 20, 3) := by decide +kernel
theorem dX7_put_33 : decode cX7_put 33 = .ok (.iconst 2, 1) := by decide +kernel
theorem dX7_put_34 : decode cX7_put 34 = .ok (.iload_n 2, 1) := by decide +kernel
theorem dX7_put_35 : decode cX7_put 35 = .ok (.imul, 1) := by decide +kernel
theorem dX7_put_36 : decode cX7_put 36 = .ok (.iconst 1, 1) := by decide +kernel
theorem dX7_put_37 : decode cX7_put 37 = .ok (.iadd, 1) := by decide +kernel
theorem dX7_put_38 : decode cX7_put 38 = .ok (.daload, 1) := by decide +kernel
theorem dX7_put_39 : decode cX7_put 39 = .ok (.dsub, 1) := by decide +kernel
theorem dX7_put_40 : decode cX7_put 40 = .ok (.dstore 10, 2) := by decide +kernel
theorem dX7_put_42 : decode cX7_put 42 = .ok (.dload 8, 2) := by decide +kernel
theorem dX7_put_44 : decode cX7_put 44 = .ok (.dload 10, 2) := by decide +kernel
theorem dX7_put_46 : decode cX7_put 46 = .ok (.invokestatic 81, 3) := by decide +kernel
theorem dX7_put_49 : decode cX7_put 49 = .ok (.dstore 12, 2) := by decide +kernel
theorem dX7_put_51 : decode cX7_put 51 = .ok (.dload 12, 2) := by decide +kernel
theorem dX7_put_53 : decode cX7_put 53 = .ok (.ldc2_w 85, 3) := by decide +kernel
theorem dX7_put_56 : decode cX7_put 56 = .ok (.dcmp .g, 1) := by decide +kernel
theorem dX7_put_57 : decode cX7_put 57 = .ok (.ifCond .ge 5, 3) := by decide +kernel
theorem dX7_put_60 : decode cX7_put 60 = .ok (.iconst 0, 1) := by decide +kernel
theorem dX7_put_61 : decode cX7_put 61 = .ok (.ireturn, 1) := by decide +kernel
theorem dX7_put_62 : decode cX7_put 62 = .ok (.dload 4, 2) := by decide +kernel
theorem dX7_put_64 : decode cX7_put 64 = .ok (.dload 4, 2) := by decide +kernel
theorem dX7_put_66 : decode cX7_put 66 = .ok (.dmul, 1) := by decide +kernel
theorem dX7_put_67 : decode cX7_put 67 = .ok (.dload 6, 2) := by decide +kernel
theorem dX7_put_69 : decode cX7_put 69 = .ok (.dload 6, 2) := by decide +kernel
theorem dX7_put_71 : decode cX7_put 71 = .ok (.dmul, 1) := by decide +kernel
theorem dX7_put_72 : decode cX7_put 72 = .ok (.dsub, 1) := by decide +kernel
theorem dX7_put_73 : decode cX7_put 73 = .ok (.dload 12, 2) := by decide +kernel
theorem dX7_put_75 : decode cX7_put 75 = .ok (.dload 12, 2) := by decide +kernel
theorem dX7_put_77 : decode cX7_put 77 = .ok (.dmul, 1) := by decide +kernel
theorem dX7_put_78 : decode cX7_put 78 = .ok (.dadd, 1) := by decide +kernel
theorem dX7_put_79 : decode cX7_put 79 = .ok (.ldc2_w 55, 3) := by decide +kernel
theorem dX7_put_82 : decode cX7_put 82 = .ok (.dload 12, 2) := by decide +kernel
theorem dX7_put_84 : decode cX7_put 84 = .ok (.dmul, 1) := by decide +kernel
theorem dX7_put_85 : decode cX7_put 85 = .ok (.ddiv, 1) := by decide +kernel
theorem dX7_put_86 : decode cX7_put 86 = .ok (.dstore 14, 2) := by decide +kernel
theorem dX7_put_88 : decode cX7_put 88 = .ok (.dload 4, 2) := by decide +kernel
theorem dX7_put_90 : decode cX7_put 90 = .ok (.dload 4, 2) := by decide +kernel
theorem dX7_put_92 : decode cX7_put 92 = .ok (.dmul, 1) := by decide +kernel
theorem dX7_put_93 : decode cX7_put 93 = .ok (.dload 14, 2) := by decide +kernel
theorem dX7_put_95 : decode cX7_put 95 = .ok (.dload 14, 2) := by decide +kernel
theorem dX7_put_97 : decode cX7_put 97 = .ok (.dmul, 1) := by decide +kernel
theorem dX7_put_98 : decode cX7_put 98 = .ok (.dsub, 1) := by decide +kernel
theorem dX7_put_99 : decode cX7_put 99 = .ok (.invokestatic 73, 3) := by decide +kernel
theorem dX7_put_102 : decode cX7_put 102 = .ok (.dstore 16, 2) := by decide +kernel
theorem dX7_put_104 : decode cX7_put 104 = .ok (.aload_n 0, 1) := by decide +kernel
theorem dX7_put_105 : decode cX7_put 105 = .ok (.getfield 20, 3) := by decide +kernel
theorem dX7_put_108 : decode cX7_put 108 = .ok (.iconst 2, 1) := by decide +kernel
theorem dX7_put_109 : decode cX7_put 109 = .ok (.iload_n 1, 1) := by decide +kernel
theorem dX7_put_110 : decode cX7_put 110 = .ok (.imul, 1) := by decide +kernel
theorem dX7_put_111 : decode cX7_put 111 = .ok (.aload_n 0, 1) := by decide +kernel
theorem dX7_put_112 : decode cX7_put 112 = .ok (.getfield 20, 3) := by decide +kernel
theorem dX7_put_115 : decode cX7_put 115 = .ok (.iconst 2, 1) := by decide +kernel
theorem dX7_put_116 : decode cX7_put 116 = .ok (.iload_n 2, 1) := by decide +kernel
theorem dX7_put_117 : decode cX7_put 117 = .ok (.imul, 1) := by decide +kernel
theorem dX7_put_118 : decode cX7_put 118 = .ok (.daload, 1) := by decide +kernel
theorem dX7_put_119 : decode cX7_put 119 = .ok (.dload 14, 2) := by decide +kernel
theorem dX7_put_121 : decode cX7_put 121 = .ok (.dload 8, 2) := by decide +kernel
theorem dX7_put_123 : decode cX7_put 123 = .ok (.dmul, 1) := by decide +kernel
theorem dX7_put_124 : decode cX7_put 124 = .ok (.dload 12, 2) := by decide +kernel
theorem dX7_put_126 : decode cX7_put 126 = .ok (.ddiv, 1) := by decide +kernel
theorem dX7_put_127 : decode cX7_put 127 = .ok (.dadd, 1) := by decide +kernel
theorem dX7_put_128 : decode cX7_put 128 = .ok (.dload 16, 2) := by decide +kernel
theorem dX7_put_130 : decode cX7_put 130 = .ok (.dload 10, 2) := by decide +kernel
theorem dX7_put_132 : decode cX7_put 132 = .ok (.dmul, 1) := by decide +kernel
theorem dX7_put_133 : decode cX7_put 133 = .ok (.dload 12, 2) := by decide +kernel
theorem dX7_put_135 : decode cX7_put 135 = .ok (.ddiv, 1) := by decide +kernel
theorem dX7_put_136 : decode cX7_put 136 = .ok (.dadd, 1) := by decide +kernel
theorem dX7_put_137 : decode cX7_put 137 = .ok (.dastore, 1) := by decide +kernel
theorem dX7_put_138 : decode cX7_put 138 = .ok (.aload_n 0, 1) := by decide +kernel
theorem dX7_put_139 : decode cX7_put 139 = .ok (.getfield 20, 3) := by decide +kernel
theorem dX7_put_142 : decode cX7_put 142 = .ok (.iconst 2, 1) := by decide +kernel
theorem dX7_put_143 : decode cX7_put 143 = .ok (.iload_n 1, 1) := by decide +kernel
theorem dX7_put_144 : decode cX7_put 144 = .ok (.imul, 1) := by decide +kernel
theorem dX7_put_145 : decode cX7_put 145 = .ok (.iconst 1, 1) := by decide +kernel
theorem dX7_put_146 : decode cX7_put 146 = .ok (.iadd, 1) := by decide +kernel
theorem dX7_put_147 : decode cX7_put 147 = .ok (.aload_n 0, 1) := by decide +kernel
theorem dX7_put_148 : decode cX7_put 148 = .ok (.getfield 20, 3) := by decide +kernel
theorem dX7_put_151 : decode cX7_put 151 = .ok (.iconst 2, 1) := by decide +kernel
theorem dX7_put_152 : decode cX7_put 152 = .ok (.iload_n 2, 1) := by decide +kernel
theorem dX7_put_153 : decode cX7_put 153 = .ok (.imul, 1) := by decide +kernel
theorem dX7_put_154 : decode cX7_put 154 = .ok (.iconst 1, 1) := by decide +kernel
theorem dX7_put_155 : decode cX7_put 155 = .ok (.iadd, 1) := by decide +kernel
theorem dX7_put_156 : decode cX7_put 156 = .ok (.daload, 1) := by decide +kernel
theorem dX7_put_157 : decode cX7_put 157 = .ok (.dload 14, 2) := by decide +kernel
theorem dX7_put_159 : decode cX7_put 159 = .ok (.dload 10, 2) := by decide +kernel
theorem dX7_put_161 : decode cX7_put 161 = .ok (.dmul, 1) := by decide +kernel
theorem dX7_put_162 : decode cX7_put 162 = .ok (.dload 12, 2) := by decide +kernel
theorem dX7_put_164 : decode cX7_put 164 = .ok (.ddiv, 1) := by decide +kernel
theorem dX7_put_165 : decode cX7_put 165 = .ok (.dadd, 1) := by decide +kernel
theorem dX7_put_166 : decode cX7_put 166 = .ok (.dload 16, 2) := by decide +kernel
theorem dX7_put_168 : decode cX7_put 168 = .ok (.dload 8, 2) := by decide +kernel
theorem dX7_put_170 : decode cX7_put 170 = .ok (.dmul, 1) := by decide +kernel
theorem dX7_put_171 : decode cX7_put 171 = .ok (.dload 12, 2) := by decide +kernel
theorem dX7_put_173 : decode cX7_put 173 = .ok (.ddiv, 1) := by decide +kernel
theorem dX7_put_174 : decode cX7_put 174 = .ok (.dsub, 1) := by decide +kernel
theorem dX7_put_175 : decode cX7_put 175 = .ok (.dastore, 1) := by decide +kernel
theorem dX7_put_176 : decode cX7_put 176 = .ok (.iconst 1, 1) := by decide +kernel
theorem dX7_put_177 : decode cX7_put 177 = .ok (.ireturn, 1) := by decide +kernel
abbrev rm_X7_put : Room := { frames := 7, cells := 0, slots := 0, locals := 140 }
theorem hw_X7_put_1 : (Cond.fieldLink RX7 20 "PlankUnrollModel" "draft" "[D") ∈ wsX7_put := List.mem_of_getElem? (i := 1) rfl
theorem hw_X7_put_2 : (Cond.constantDouble RX7 85 (4562146422526312448)) ∈ wsX7_put := List.mem_of_getElem? (i := 2) rfl
theorem hw_X7_put_3 : (Cond.constantDouble RX7 55 (4611686018427387904)) ∈ wsX7_put := List.mem_of_getElem? (i := 3) rfl
theorem in_X7_put_X7 : ∀ w ∈ wsX70, w ∈ wsX7_put := by decide +kernel
set_option maxHeartbeats 4000000 in
set_option maxRecDepth 100000 in
/-- PUT -/
theorem c_X7_put {l : Launch} {G : va_G} {ty : Nat → ClassId} {b0 : Nat} {H : Heap} {m0 : Nat} {A : Nat → Nat} {th : Int32} {F R nb : Nat} {pl co dr wi hi fa : Nat → UInt64} {un bu fc lo la : Nat → Int32} {px py pz : UInt64} (hY : xRef G ty m0 A th F R pl un co dr bu nb wi hi fc fa lo la px py pz H) (hZ : xSz F R) (hA : xAp m0 A) (hB : xNw b0 m0 A) {k i j : Nat} {u w eu ew : UInt64} {d : Nat → UInt64} (hu9 : vq u eu) (hw9 : vq w ew) (hi9 : i < k) (hj9 : j < k) (hk9 : k < 16) (hd : ∀ j : Nat, j < 2 * k → vq (dr j) (d j)) : xMet l yX7_put wsX7_put rm_X7_put G ty b0 [.ref m0, .int (nI k), .int (nI i), .int (nI j), .double u, .double w] H (fun v H1 => (v = some (.int (nI 0)) ∧ pPutBad d i j = true ∧ xRef G ty m0 A th F R pl un co dr bu nb wi hi fc fa lo la px py pz H1 ∧ xRfr m0 A H H1) ∨ (v = some (.int (nI 1)) ∧ pPutBad d i j = false ∧ ∃ dr1 : Nat → UInt64, xRef G ty m0 A th F R pl un co dr1 bu nb wi hi fc fa lo la px py pz H1 ∧ xRfr m0 A H H1 ∧ ∀ q : Nat, q < 2 * k + 2 → vq (dr1 q) (pPutF d k i j eu ew q))) (fun _ _ => False) := by
  refine xbody (cc := cX7_put) (maxL := 18) (ret := (some .boolean)) (C := RX7) (lv := [(0, .ref m0), (1, .int (nI k)), (2, .int (nI i)), (3, .int (nI j)), (4, .double u), (6, .double w)]) (by decide) rfl rfl (Nat.le_of_ble_eq_true rfl) rfl ?_
  intro p e s m below meth c d0 hx hb hr hts hown hlocks hml hxt hnm0 hK hb0 hH0 hS hd0 ls hl
  obtain ⟨y_o, y_0, y_1, y_2, y_3, y_4, y_5, y_6, y_7, y_8, y_9, y_10⟩ := id hY
  obtain ⟨⟨zF2, zF8⟩, ⟨zR2, zR8⟩⟩ := id hZ
  refine lv_aload_n hx hb dX7_put_0 rfl (lv_at hl 0 rfl) ?_
  refine va_get (D := G) (cl := vwCl) (ci := 8) (v := .ref (A 3)) (C := RX7) (T := TX7) (N := 18) hx hb (hts d0) in_X7_put_X7 hown hK.1 (x1 y_o) 0 rfl rfl 6 (by decide) (hts d0 _ hw_X7_put_1) (fun _ h9 => h9) rfl dX7_put_1 ?_
  refine lv_iconst (v := nI 2) hx hb dX7_put_4 (by decide) ?_
  refine lv_iload_n hx hb dX7_put_5 rfl (lv_at hl 3 rfl) ?_
  refine ximulN hx hb dX7_put_6 ?_
  refine xdald (j := 2 * j) hx hb hK.1 0 y_3 rfl (xix_of (by omega) (by omega)) dX7_put_7 ?_
  refine lv_aload_n hx hb dX7_put_8 rfl (lv_at hl 0 rfl) ?_
  refine va_get (D := G) (cl := vwCl) (ci := 8) (v := .ref (A 3)) (C := RX7) (T := TX7) (N := 18) hx hb (hts d0) in_X7_put_X7 hown hK.1 (x1 y_o) 0 rfl rfl 6 (by decide) (hts d0 _ hw_X7_put_1) (fun _ h9 => h9) rfl dX7_put_9 ?_
  refine lv_iconst (v := nI 2) hx hb dX7_put_12 (by decide) ?_
  refine lv_iload_n hx hb dX7_put_13 rfl (lv_at hl 2 rfl) ?_
  refine ximulN hx hb dX7_put_14 ?_
  refine xdald (j := 2 * i) hx hb hK.1 0 y_3 rfl (xix_of (by omega) (by omega)) dX7_put_15 ?_
  refine xdsub hd0 hx hb (hd (2 * j) (by omega)) (hd (2 * i) (by omega)) dX7_put_16 (fun r_1 d0 q_1 hd0 => ?_)
  refine lv_dstore (lv' := [(8, .double r_1), (0, .ref m0), (1, .int (nI k)), (2, .int (nI i)), (3, .int (nI j)), (4, .double u), (6, .double w)]) hx hb dX7_put_17 hl (by decide) rfl (fun ls hl => ?_)
  refine lv_aload_n hx hb dX7_put_19 rfl (lv_at hl 1 rfl) ?_
  refine va_get (D := G) (cl := vwCl) (ci := 8) (v := .ref (A 3)) (C := RX7) (T := TX7) (N := 18) hx hb (hts d0) in_X7_put_X7 hown hK.1 (x1 y_o) 0 rfl rfl 6 (by decide) (hts d0 _ hw_X7_put_1) (fun _ h9 => h9) rfl dX7_put_20 ?_
  refine lv_iconst (v := nI 2) hx hb dX7_put_23 (by decide) ?_
  refine lv_iload_n hx hb dX7_put_24 rfl (lv_at hl 4 rfl) ?_
  refine ximulN hx hb dX7_put_25 ?_
  refine lv_iconst (v := nI 1) hx hb dX7_put_26 (by decide) ?_
  refine xiaddN hx hb dX7_put_27 ?_
  refine xdald (j := (2 * j) + 1) hx hb hK.1 0 y_3 rfl (xix_of (by omega) (by omega)) dX7_put_28 ?_
  refine lv_aload_n hx hb dX7_put_29 rfl (lv_at hl 1 rfl) ?_
  refine va_get (D := G) (cl := vwCl) (ci := 8) (v := .ref (A 3)) (C := RX7) (T := TX7) (N := 18) hx hb (hts d0) in_X7_put_X7 hown hK.1 (x1 y_o) 0 rfl rfl 6 (by decide) (hts d0 _ hw_X7_put_1) (fun _ h9 => h9) rfl dX7_put_30 ?_
  refine lv_iconst (v := nI 2) hx hb dX7_put_33 (by decide) ?_
  refine lv_iload_n hx hb dX7_put_34 rfl (lv_at hl 3 rfl) ?_
  refine ximulN hx hb dX7_put_35 ?_
  refine lv_iconst (v := nI 1) hx hb dX7_put_36 (by decide) ?_
  refine xiaddN hx hb dX7_put_37 ?_
  refine xdald (j := (2 * i) + 1) hx hb hK.1 0 y_3 rfl (xix_of (by omega) (by omega)) dX7_put_38 ?_
  refine xdsub hd0 hx hb (hd ((2 * j) + 1) (by omega)) (hd ((2 * i) + 1) (by omega)) dX7_put_39 (fun r_2 d0 q_2 hd0 => ?_)
  refine lv_dstore (lv' := [(10, .double r_2), (8, .double r_1), (0, .ref m0), (1, .int (nI k)), (2, .int (nI i)), (3, .int (nI j)), (4, .double u), (6, .double w)]) hx hb dX7_put_40 hl (by decide) rfl (fun ls hl => ?_)
  refine lv_dload hx hb dX7_put_42 (lv_at hl 1 rfl) ?_
  refine lv_dload hx hb dX7_put_44 (lv_at hl 0 rfl) ?_
  have cw_3 := va_cwS (R := rm_X7_put) (rm := rm_X7_length) 2 (hts d0) gX7_put_X7_length rfl rfl rfl (by decide +kernel) ⟨Nat.le_of_ble_eq_true rfl, Nat.le_of_ble_eq_true rfl⟩
  refine xcall hd0 (xintoS (As := [.double r_1, .double r_2]) (rest := []) ⟨hx, hb, hml, hown, hts _⟩ cw_3 rfl rfl hl.1 rfl (lv_room (Nat.le_of_ble_eq_true rfl)) dX7_put_46) (c_X7_length (l := l) (G := G) (ty := ty) (b0 := b0) q_1 q_2) (xoweB cw_3.1) hK hb0 hS (Nat.le_of_ble_eq_true rfl) (Nat.le_of_ble_eq_true rfl) (fun E_3 ce_3 q9_3 H_3 locs_3 d0 hd0 hp_3 hS hce_3 hcv_3 hcl_3 => ?_) (fun v_3 H_3 locs_3 d0 hd0 hp_3 hS => ?_)
  · exact hp_3.elim
  · obtain ⟨rfl, r_3, rfl, q_3⟩ := hp_3
    show W p l e _ (s.setDrawn _) m _ below meth c _ _ _ _ _ (F0 m 49 ls [.double r_3])
    refine lv_dstore (lv' := [(12, .double r_3), (10, .double r_2), (8, .double r_1), (0, .ref m0), (1, .int (nI k)), (2, .int (nI i)), (3, .int (nI j)), (4, .double u), (6, .double w)]) hx hb dX7_put_49 hl (by decide) rfl (fun ls hl => ?_)
    refine lv_dload hx hb dX7_put_51 (lv_at hl 0 rfl) ?_
    refine lv_ldc2d hx hb hown (hts d0 _ hw_X7_put_2) dX7_put_53 ?_
    refine xcmp_g_ge (tgt := 62) hx hb q_3 (vq_rf _) dX7_put_56 dX7_put_57 (by decide) (fun c_4 => ?_) (fun c_4 => ?_)
    · refine lv_dload hx hb dX7_put_62 (lv_at hl 7 rfl) ?_
      refine lv_dload hx hb dX7_put_64 (lv_at hl 7 rfl) ?_
      refine xdmul hd0 hx hb hu9 hu9 dX7_put_66 (fun r_5 d0 q_5 hd0 => ?_)
      refine lv_dload hx hb dX7_put_67 (lv_at hl 8 rfl) ?_
      refine lv_dload hx hb dX7_put_69 (lv_at hl 8 rfl) ?_
      refine xdmul hd0 hx hb hw9 hw9 dX7_put_71 (fun r_6 d0 q_6 hd0 => ?_)
      refine xdsub hd0 hx hb q_5 q_6 dX7_put_72 (fun r_7 d0 q_7 hd0 => ?_)
      refine lv_dload hx hb dX7_put_73 (lv_at hl 0 rfl) ?_
      refine lv_dload hx hb dX7_put_75 (lv_at hl 0 rfl) ?_
      refine xdmul hd0 hx hb q_3 q_3 dX7_put_77 (fun r_8 d0 q_8 hd0 => ?_)
      refine xdadd hd0 hx hb q_7 q_8 dX7_put_78 (fun r_9 d0 q_9 hd0 => ?_)
      refine lv_ldc2d hx hb hown (hts d0 _ hw_X7_put_3) dX7_put_79 ?_
      refine lv_dload hx hb dX7_put_82 (lv_at hl 0 rfl) ?_
      refine xdmul hd0 hx hb (vq_rf _) q_3 dX7_put_84 (fun r_10 d0 q_10 hd0 => ?_)
      refine xddiv hd0 hx hb q_9 q_10 dX7_put_85 (fun r_11 d0 q_11 hd0 => ?_)
      refine lv_dstore (lv' := [(14, .double r_11), (12, .double r_3), (10, .double r_2), (8, .double r_1), (0, .ref m0), (1, .int (nI k)), (2, .int (nI i)), (3, .int (nI j)), (4, .double u), (6, .double w)]) hx hb dX7_put_86 hl (by decide) rfl (fun ls hl => ?_)
      refine lv_dload hx hb dX7_put_88 (lv_at hl 8 rfl) ?_
      refine lv_dload hx hb dX7_put_90 (lv_at hl 8 rfl) ?_
      refine xdmul hd0 hx hb hu9 hu9 dX7_put_92 (fun r_12 d0 q_12 hd0 => ?_)
      refine lv_dload hx hb dX7_put_93 (lv_at hl 0 rfl) ?_
      refine lv_dload hx hb dX7_put_95 (lv_at hl 0 rfl) ?_
      refine xdmul hd0 hx hb q_11 q_11 dX7_put_97 (fun r_13 d0 q_13 hd0 => ?_)
      refine xdsub hd0 hx hb q_12 q_13 dX7_put_98 (fun r_14 d0 q_14 hd0 => ?_)
      have cw_15 := va_cwS (R := rm_X7_put) (rm := rm_X7_root) 1 (hts d0) gX7_put_X7_root rfl rfl rfl (by decide +kernel) ⟨Nat.le_of_ble_eq_true rfl, Nat.le_of_ble_eq_true rfl⟩
      refine xcall hd0 (xintoS (As := [.double r_14]) (rest := []) ⟨hx, hb, hml, hown, hts _⟩ cw_15 rfl rfl hl.1 rfl (lv_room (Nat.le_of_ble_eq_true rfl)) dX7_put_99) (c_X7_root (l := l) (G := G) (ty := ty) (b0 := b0) q_14) (xoweB cw_15.1) hK hb0 hS (Nat.le_of_ble_eq_true rfl) (Nat.le_of_ble_eq_true rfl) (fun E_15 ce_15 q9_15 H_15 locs_15 d0 hd0 hp_15 hS hce_15 hcv_15 hcl_15 => ?_) (fun v_15 H_15 locs_15 d0 hd0 hp_15 hS => ?_)
      · exact hp_15.elim
      · obtain ⟨rfl, r_15, rfl, q_15⟩ := hp_15
        show W p l e _ (s.setDrawn _) m _ below meth c _ _ _ _ _ (F0 m 102 ls [.double r_15])
        refine lv_dstore (lv' := [(16, .double r_15), (14, .double r_11), (12, .double r_3), (10, .double r_2), (8, .double r_1), (0, .ref m0), (1, .int (nI k)), (2, .int (nI i)), (3, .int (nI j)), (4, .double u), (6, .double w)]) hx hb dX7_put_102 hl (by decide) rfl (fun ls hl => ?_)
        refine lv_aload_n hx hb dX7_put_104 rfl (lv_at hl 5 rfl) ?_
        refine va_get (D := G) (cl := vwCl) (ci := 8) (v := .ref (A 3)) (C := RX7) (T := TX7) (N := 18) hx hb (hts d0) in_X7_put_X7 hown hK.1 (x1 y_o) 0 rfl rfl 6 (by decide) (hts d0 _ hw_X7_put_1) (fun _ h9 => h9) rfl dX7_put_105 ?_
        refine lv_iconst (v := nI 2) hx hb dX7_put_108 (by decide) ?_
        refine lv_iload_n hx hb dX7_put_109 rfl (lv_at hl 6 rfl) ?_
        refine ximulN hx hb dX7_put_110 ?_
        refine lv_aload_n hx hb dX7_put_111 rfl (lv_at hl 5 rfl) ?_
        refine va_get (D := G) (cl := vwCl) (ci := 8) (v := .ref (A 3)) (C := RX7) (T := TX7) (N := 18) hx hb (hts d0) in_X7_put_X7 hown hK.1 (x1 y_o) 0 rfl rfl 6 (by decide) (hts d0 _ hw_X7_put_1) (fun _ h9 => h9) rfl dX7_put_112 ?_
        refine lv_iconst (v := nI 2) hx hb dX7_put_115 (by decide) ?_
        refine lv_iload_n hx hb dX7_put_116 rfl (lv_at hl 7 rfl) ?_
        refine ximulN hx hb dX7_put_117 ?_
        refine xdald (j := 2 * i) hx hb hK.1 0 y_3 rfl (xix_of (by omega) (by omega)) dX7_put_118 ?_
        refine lv_dload hx hb dX7_put_119 (lv_at hl 1 rfl) ?_
        refine lv_dload hx hb dX7_put_121 (lv_at hl 4 rfl) ?_
        refine xdmul hd0 hx hb q_11 q_1 dX7_put_123 (fun r_16 d0 q_16 hd0 => ?_)
        refine lv_dload hx hb dX7_put_124 (lv_at hl 2 rfl) ?_
        refine xddiv hd0 hx hb q_16 q_3 dX7_put_126 (fun r_17 d0 q_17 hd0 => ?_)
        refine xdadd hd0 hx hb (hd (2 * i) (by omega)) q_17 dX7_put_127 (fun r_18 d0 q_18 hd0 => ?_)
        refine lv_dload hx hb dX7_put_128 (lv_at hl 0 rfl) ?_
        refine lv_dload hx hb dX7_put_130 (lv_at hl 3 rfl) ?_
        refine xdmul hd0 hx hb q_15 q_2 dX7_put_132 (fun r_19 d0 q_19 hd0 => ?_)
        refine lv_dload hx hb dX7_put_133 (lv_at hl 2 rfl) ?_
        refine xddiv hd0 hx hb q_19 q_3 dX7_put_135 (fun r_20 d0 q_20 hd0 => ?_)
        refine xdadd hd0 hx hb q_18 q_20 dX7_put_136 (fun r_21 d0 q_21 hd0 => ?_)
        refine xdastN (s := s.setDrawn d0) (j := 2 * k) (x := r_21) hx hb hK.1 0 y_3 hS (hB.2 3 (by decide)) rfl (xix_of (by omega) (by omega)) dX7_put_137 (fun H_22 locs_22 hs_22 hS => ?_)
        have hc_22 : xc G (A 3) (.inl (ty 0, 32, .inr (.inr (.inr (.inl ((vf_upd dr (2 * k) r_21))))))) H_22 := hs_22.1
        have hc_m0_22 : xc G m0 (.inr (8, [.int (th), .int (nI F), .int (nI R), .ref (A 0), .ref (A 1), .ref (A 2), .ref (A 3), .ref (A 4), .int (nI nb), .ref (A 5), .ref (A 6), .ref (A 7), .ref (A 8), .ref (A 9), .ref (A 10), .double px, .double py, .double pz])) H_22 := y_o.kept (hs_22.2.2 _ (Ne.symm (hA.1 3 (by decide))))
        have hc_A0_22 : xc G (A 0) (.inl (ty 0, 192, .inr (.inr (.inr (.inl pl))))) H_22 := y_0.kept (hs_22.2.2 _ (fun z => absurd (hA.2 0 3 (by decide) (by decide) z) (by decide)))
        have hc_A1_22 : xc G (A 1) (.inl (ty 2, 8, .inl un)) H_22 := y_1.kept (hs_22.2.2 _ (fun z => absurd (hA.2 1 3 (by decide) (by decide) z) (by decide)))
        have hc_A2_22 : xc G (A 2) (.inl (ty 0, 256, .inr (.inr (.inr (.inl co))))) H_22 := y_2.kept (hs_22.2.2 _ (fun z => absurd (hA.2 2 3 (by decide) (by decide) z) (by decide)))
        have hc_A4_22 : xc G (A 4) (.inl (ty 2, 64, .inl bu)) H_22 := y_4.kept (hs_22.2.2 _ (fun z => absurd (hA.2 4 3 (by decide) (by decide) z) (by decide)))
        have hc_A5_22 : xc G (A 5) (.inl (ty 0, 4, .inr (.inr (.inr (.inl wi))))) H_22 := y_5.kept (hs_22.2.2 _ (fun z => absurd (hA.2 5 3 (by decide) (by decide) z) (by decide)))
        have hc_A6_22 : xc G (A 6) (.inl (ty 0, 4, .inr (.inr (.inr (.inl hi))))) H_22 := y_6.kept (hs_22.2.2 _ (fun z => absurd (hA.2 6 3 (by decide) (by decide) z) (by decide)))
        have hc_A7_22 : xc G (A 7) (.inl (ty 1, 4, .inl fc)) H_22 := y_7.kept (hs_22.2.2 _ (fun z => absurd (hA.2 7 3 (by decide) (by decide) z) (by decide)))
        have hc_A8_22 : xc G (A 8) (.inl (ty 0, 128, .inr (.inr (.inr (.inl fa))))) H_22 := y_8.kept (hs_22.2.2 _ (fun z => absurd (hA.2 8 3 (by decide) (by decide) z) (by decide)))
        have hc_A9_22 : xc G (A 9) (.inl (ty 1, 8, .inl lo)) H_22 := y_9.kept (hs_22.2.2 _ (fun z => absurd (hA.2 9 3 (by decide) (by decide) z) (by decide)))
        have hc_A10_22 : xc G (A 10) (.inl (ty 1, 8, .inl la)) H_22 := y_10.kept (hs_22.2.2 _ (fun z => absurd (hA.2 10 3 (by decide) (by decide) z) (by decide)))
        have hfr_22 : xRfr m0 A H H_22 := xRfr.putA xRfr.rf 3 (by decide) hs_22
        refine lv_aload_n hx hb dX7_put_138 rfl (lv_at hl 5 rfl) ?_
        refine va_get (D := G) (cl := vwCl) (ci := 8) (v := .ref (A 3)) (C := RX7) (T := TX7) (N := 18) hx hb (hts d0) in_X7_put_X7 hown hK.1 (x1 hc_m0_22) 0 rfl rfl 6 (by decide) (hts d0 _ hw_X7_put_1) (fun _ h9 => h9) rfl dX7_put_139 ?_
        refine lv_iconst (v := nI 2) hx hb dX7_put_142 (by decide) ?_
        refine lv_iload_n hx hb dX7_put_143 rfl (lv_at hl 6 rfl) ?_
        refine ximulN hx hb dX7_put_144 ?_
        refine lv_iconst (v := nI 1) hx hb dX7_put_145 (by decide) ?_
        refine xiaddN hx hb dX7_put_146 ?_
        refine lv_aload_n hx hb dX7_put_147 rfl (lv_at hl 5 rfl) ?_
        refine va_get (D := G) (cl := vwCl) (ci := 8) (v := .ref (A 3)) (C := RX7) (T := TX7) (N := 18) hx hb (hts d0) in_X7_put_X7 hown hK.1 (x1 hc_m0_22) 0 rfl rfl 6 (by decide) (hts d0 _ hw_X7_put_1) (fun _ h9 => h9) rfl dX7_put_148 ?_
        refine lv_iconst (v := nI 2) hx hb dX7_put_151 (by decide) ?_
        refine lv_iload_n hx hb dX7_put_152 rfl (lv_at hl 7 rfl) ?_
        refine ximulN hx hb dX7_put_153 ?_
        refine lv_iconst (v := nI 1) hx hb dX7_put_154 (by decide) ?_
        refine xiaddN hx hb dX7_put_155 ?_
        refine xdald (j := (2 * i) + 1) hx hb hK.1 0 hc_22 rfl (xix_of (by omega) (by omega)) dX7_put_156 ?_
        refine lv_dload hx hb dX7_put_157 (lv_at hl 1 rfl) ?_
        refine lv_dload hx hb dX7_put_159 (lv_at hl 3 rfl) ?_
        refine xdmul hd0 hx hb q_11 q_2 dX7_put_161 (fun r_23 d0 q_23 hd0 => ?_)
        refine lv_dload hx hb dX7_put_162 (lv_at hl 2 rfl) ?_
        refine xddiv hd0 hx hb q_23 q_3 dX7_put_164 (fun r_24 d0 q_24 hd0 => ?_)
        refine xdadd hd0 hx hb (vq_vfne (by omega) (hd ((2 * i) + 1) (by omega))) q_24 dX7_put_165 (fun r_25 d0 q_25 hd0 => ?_)
        refine lv_dload hx hb dX7_put_166 (lv_at hl 0 rfl) ?_
        refine lv_dload hx hb dX7_put_168 (lv_at hl 4 rfl) ?_
        refine xdmul hd0 hx hb q_15 q_1 dX7_put_170 (fun r_26 d0 q_26 hd0 => ?_)
        refine lv_dload hx hb dX7_put_171 (lv_at hl 2 rfl) ?_
        refine xddiv hd0 hx hb q_26 q_3 dX7_put_173 (fun r_27 d0 q_27 hd0 => ?_)
        refine xdsub hd0 hx hb q_25 q_27 dX7_put_174 (fun r_28 d0 q_28 hd0 => ?_)
        refine xdastN (s := s.setDrawn d0) (j := (2 * k) + 1) (x := r_28) hx hb hK.1 0 hc_22 hS (hB.2 3 (by decide)) rfl (xix_of (by omega) (by omega)) dX7_put_175 (fun H_29 locs_29 hs_29 hS => ?_)
        have hc_29 : xc G (A 3) (.inl (ty 0, 32, .inr (.inr (.inr (.inl ((vf_upd (vf_upd dr (2 * k) r_21) ((2 * k) + 1) r_28))))))) H_29 := hs_29.1
        have hc_m0_29 : xc G m0 (.inr (8, [.int (th), .int (nI F), .int (nI R), .ref (A 0), .ref (A 1), .ref (A 2), .ref (A 3), .ref (A 4), .int (nI nb), .ref (A 5), .ref (A 6), .ref (A 7), .ref (A 8), .ref (A 9), .ref (A 10), .double px, .double py, .double pz])) H_29 := hc_m0_22.kept (hs_29.2.2 _ (Ne.symm (hA.1 3 (by decide))))
        have hc_A0_29 : xc G (A 0) (.inl (ty 0, 192, .inr (.inr (.inr (.inl pl))))) H_29 := hc_A0_22.kept (hs_29.2.2 _ (fun z => absurd (hA.2 0 3 (by decide) (by decide) z) (by decide)))
        have hc_A1_29 : xc G (A 1) (.inl (ty 2, 8, .inl un)) H_29 := hc_A1_22.kept (hs_29.2.2 _ (fun z => absurd (hA.2 1 3 (by decide) (by decide) z) (by decide)))
        have hc_A2_29 : xc G (A 2) (.inl (ty 0, 256, .inr (.inr (.inr (.inl co))))) H_29 := hc_A2_22.kept (hs_29.2.2 _ (fun z => absurd (hA.2 2 3 (by decide) (by decide) z) (by decide)))
        have hc_A4_29 : xc G (A 4) (.inl (ty 2, 64, .inl bu)) H_29 := hc_A4_22.kept (hs_29.2.2 _ (fun z => absurd (hA.2 4 3 (by decide) (by decide) z) (by decide)))
        have hc_A5_29 : xc G (A 5) (.inl (ty 0, 4, .inr (.inr (.inr (.inl wi))))) H_29 := hc_A5_22.kept (hs_29.2.2 _ (fun z => absurd (hA.2 5 3 (by decide) (by decide) z) (by decide)))
        have hc_A6_29 : xc G (A 6) (.inl (ty 0, 4, .inr (.inr (.inr (.inl hi))))) H_29 := hc_A6_22.kept (hs_29.2.2 _ (fun z => absurd (hA.2 6 3 (by decide) (by decide) z) (by decide)))
        have hc_A7_29 : xc G (A 7) (.inl (ty 1, 4, .inl fc)) H_29 := hc_A7_22.kept (hs_29.2.2 _ (fun z => absurd (hA.2 7 3 (by decide) (by decide) z) (by decide)))
        have hc_A8_29 : xc G (A 8) (.inl (ty 0, 128, .inr (.inr (.inr (.inl fa))))) H_29 := hc_A8_22.kept (hs_29.2.2 _ (fun z => absurd (hA.2 8 3 (by decide) (by decide) z) (by decide)))
        have hc_A9_29 : xc G (A 9) (.inl (ty 1, 8, .inl lo)) H_29 := hc_A9_22.kept (hs_29.2.2 _ (fun z => absurd (hA.2 9 3 (by decide) (by decide) z) (by decide)))
        have hc_A10_29 : xc G (A 10) (.inl (ty 1, 8, .inl la)) H_29 := hc_A10_22.kept (hs_29.2.2 _ (fun z => absurd (hA.2 10 3 (by decide) (by decide) z) (by decide)))
        have hfr_29 : xRfr m0 A H H_29 := xRfr.putA hfr_22 3 (by decide) hs_29
        refine lv_iconst (v := nI 1) hx hb dX7_put_176 (by decide) ?_
        exact xzret (by decide) hd0 hx hb hr hlocks hS (Nat.le_of_ble_eq_true rfl) (Nat.le_of_ble_eq_true rfl) dX7_put_177 Or.inr ⟨rfl, c_4, _, ⟨hc_m0_29, hc_A0_29, hc_A1_29, hc_A2_29, hc_29, hc_A4_29, hc_A5_29, hc_A6_29, hc_A7_29, hc_A8_29, hc_A9_29, hc_A10_29⟩, hfr_29, pPutF_ok hd q_21 q_28⟩
    · refine lv_iconst (v := nI 0) hx hb dX7_put_60 (by decide) ?_
      exact xzret (by decide) hd0 hx hb hr hlocks hS (Nat.le_of_ble_eq_true rfl) (Nat.le_of_ble_eq_true rfl) dX7_put_61 Or.inl ⟨rfl, c_4, ⟨y_o, y_0, y_1, y_2, y_3, y_4, y_5, y_6, y_7, y_8, y_9, y_10⟩, xRfr.rf⟩
end
section
theorem zz_end : True := trivial
end
