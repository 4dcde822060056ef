section
-- ===== PART A: goes FIRST, ahead of the names: the tables' words, and 'selects' of the private methods out of them =====
/-- a private method of a class that the tables say can be made, by its rows of tables_1 -/
def lw_okq (q : MethodName × Nat) : Prop := (q.1.cls ≠ "java/lang/invoke/MethodHandle" ∧ q.1.cls ≠ "java/lang/invoke/VarHandle") ∧ Cond.instantiable q.1.cls q.2 ∈ tables_1 ∧ Cond.privateMethod q.1 ∈ tables_1 ∧ Cond.instanceMethod q.1 ∈ tables_1
theorem lw_p0 : lw_okq (⟨"PlankUnroll", "placeAt", "(II)LPlankUnroll$Place;"⟩, 6) := ⟨⟨by decide +kernel, by decide +kernel⟩, List.mem_of_getElem? (i := 25) (by decide +kernel), List.mem_of_getElem? (i := 219) (by decide +kernel), List.mem_of_getElem? (i := 220) (by decide +kernel)⟩
theorem lw_p1 : lw_okq (⟨"PlankUnroll", "checkFrame", "(I)V"⟩, 6) := ⟨⟨by decide +kernel, by decide +kernel⟩, List.mem_of_getElem? (i := 25) (by decide +kernel), List.mem_of_getElem? (i := 223) (by decide +kernel), List.mem_of_getElem? (i := 224) (by decide +kernel)⟩
theorem lw_p2 : lw_okq (⟨"java/lang/Throwable", "fillInStackTrace", "(I)Ljava/lang/Throwable;"⟩, 6) := ⟨⟨by decide +kernel, by decide +kernel⟩, List.mem_of_getElem? (i := 265) (by decide +kernel), List.mem_of_getElem? (i := 263) (by decide +kernel), List.mem_of_getElem? (i := 264) (by decide +kernel)⟩
theorem lw_p3 : lw_okq (⟨"PlankUnroll", "stripAt", "(I)LPlankUnroll$Strip;"⟩, 6) := ⟨⟨by decide +kernel, by decide +kernel⟩, List.mem_of_getElem? (i := 25) (by decide +kernel), List.mem_of_getElem? (i := 343) (by decide +kernel), List.mem_of_getElem? (i := 344) (by decide +kernel)⟩
theorem lw_p4 : lw_okq (⟨"PlankUnroll$Strip", "put", "(IIIDD)Z"⟩, 9) := ⟨⟨by decide +kernel, by decide +kernel⟩, List.mem_of_getElem? (i := 76) (by decide +kernel), List.mem_of_getElem? (i := 357) (by decide +kernel), List.mem_of_getElem? (i := 358) (by decide +kernel)⟩
theorem lw_p5 : lw_okq (⟨"PlankUnroll", "checkCell", "(I)V"⟩, 6) := ⟨⟨by decide +kernel, by decide +kernel⟩, List.mem_of_getElem? (i := 25) (by decide +kernel), List.mem_of_getElem? (i := 403) (by decide +kernel), List.mem_of_getElem? (i := 404) (by decide +kernel)⟩
theorem lw_p6 : lw_okq (⟨"java/util/ArrayList", "add", "(Ljava/lang/Object;[Ljava/lang/Object;I)V"⟩, 3) := ⟨⟨by decide +kernel, by decide +kernel⟩, List.mem_of_getElem? (i := 146) (by decide +kernel), List.mem_of_getElem? (i := 516) (by decide +kernel), List.mem_of_getElem? (i := 517) (by decide +kernel)⟩
theorem lw_p7 : lw_okq (⟨"java/util/ArrayList", "grow", "()[Ljava/lang/Object;"⟩, 3) := ⟨⟨by decide +kernel, by decide +kernel⟩, List.mem_of_getElem? (i := 146) (by decide +kernel), List.mem_of_getElem? (i := 520) (by decide +kernel), List.mem_of_getElem? (i := 521) (by decide +kernel)⟩
theorem lw_p8 : lw_okq (⟨"java/util/ArrayList", "grow", "(I)[Ljava/lang/Object;"⟩, 3) := ⟨⟨by decide +kernel, by decide +kernel⟩, List.mem_of_getElem? (i := 146) (by decide +kernel), List.mem_of_getElem? (i := 524) (by decide +kernel), List.mem_of_getElem? (i := 525) (by decide +kernel)⟩
theorem lw_p9 : lw_okq (⟨"PlankUnroll", "boardAt", "(I)LPlankUnroll$Board;"⟩, 6) := ⟨⟨by decide +kernel, by decide +kernel⟩, List.mem_of_getElem? (i := 25) (by decide +kernel), List.mem_of_getElem? (i := 574) (by decide +kernel), List.mem_of_getElem? (i := 575) (by decide +kernel)⟩
theorem lw_p10 : lw_okq (⟨"PlankUnroll", "leastEighths", "(LPlankUnroll$Board;ILPlankUnroll$Box;)I"⟩, 6) := ⟨⟨by decide +kernel, by decide +kernel⟩, List.mem_of_getElem? (i := 25) (by decide +kernel), List.mem_of_getElem? (i := 606) (by decide +kernel), List.mem_of_getElem? (i := 607) (by decide +kernel)⟩
theorem lw_p11 : lw_okq (⟨"PlankUnroll", "overlapped", "(LPlankUnroll$Board;ILPlankUnroll$Box;)LPlankUnroll$Box;"⟩, 6) := ⟨⟨by decide +kernel, by decide +kernel⟩, List.mem_of_getElem? (i := 25) (by decide +kernel), List.mem_of_getElem? (i := 611) (by decide +kernel), List.mem_of_getElem? (i := 612) (by decide +kernel)⟩
theorem lw_p12 : lw_okq (⟨"PlankUnrollModel", "noPlace", "(II)Z"⟩, 18) := ⟨⟨by decide +kernel, by decide +kernel⟩, List.mem_of_getElem? (i := 655) (by decide +kernel), List.mem_of_getElem? (i := 730) (by decide +kernel), List.mem_of_getElem? (i := 731) (by decide +kernel)⟩
theorem lw_p13 : lw_okq (⟨"PlankUnrollModel", "at", "(III)D"⟩, 18) := ⟨⟨by decide +kernel, by decide +kernel⟩, List.mem_of_getElem? (i := 655) (by decide +kernel), List.mem_of_getElem? (i := 734) (by decide +kernel), List.mem_of_getElem? (i := 735) (by decide +kernel)⟩
theorem lw_p14 : lw_okq (⟨"PlankUnrollModel", "far", "(IIII)D"⟩, 18) := ⟨⟨by decide +kernel, by decide +kernel⟩, List.mem_of_getElem? (i := 655) (by decide +kernel), List.mem_of_getElem? (i := 742) (by decide +kernel), List.mem_of_getElem? (i := 743) (by decide +kernel)⟩
theorem lw_p15 : lw_okq (⟨"PlankUnrollModel", "noStrip", "(I)Z"⟩, 18) := ⟨⟨by decide +kernel, by decide +kernel⟩, List.mem_of_getElem? (i := 655) (by decide +kernel), List.mem_of_getElem? (i := 754) (by decide +kernel), List.mem_of_getElem? (i := 755) (by decide +kernel)⟩
def lw_privs_1 : List (MethodName × Nat) := [(⟨"PlankUnroll", "placeAt", "(II)LPlankUnroll$Place;"⟩, 6), (⟨"PlankUnroll", "checkFrame", "(I)V"⟩, 6), (⟨"java/lang/Throwable", "fillInStackTrace", "(I)Ljava/lang/Throwable;"⟩, 6), (⟨"PlankUnroll", "stripAt", "(I)LPlankUnroll$Strip;"⟩, 6), (⟨"PlankUnroll$Strip", "put", "(IIIDD)Z"⟩, 9), (⟨"PlankUnroll", "checkCell", "(I)V"⟩, 6), (⟨"java/util/ArrayList", "add", "(Ljava/lang/Object;[Ljava/lang/Object;I)V"⟩, 3), (⟨"java/util/ArrayList", "grow", "()[Ljava/lang/Object;"⟩, 3), (⟨"java/util/ArrayList", "grow", "(I)[Ljava/lang/Object;"⟩, 3), (⟨"PlankUnroll", "boardAt", "(I)LPlankUnroll$Board;"⟩, 6), (⟨"PlankUnroll", "leastEighths", "(LPlankUnroll$Board;ILPlankUnroll$Box;)I"⟩, 6), (⟨"PlankUnroll", "overlapped", "(LPlankUnroll$Board;ILPlankUnroll$Box;)LPlankUnroll$Box;"⟩, 6), (⟨"PlankUnrollModel", "noPlace", "(II)Z"⟩, 18), (⟨"PlankUnrollModel", "at", "(III)D"⟩, 18), (⟨"PlankUnrollModel", "far", "(IIII)D"⟩, 18), (⟨"PlankUnrollModel", "noStrip", "(I)Z"⟩, 18)]
theorem lw_r1 : ∀ q ∈ lw_privs_1, lw_okq q := List.forall_mem_cons.mpr ⟨lw_p0, List.forall_mem_cons.mpr ⟨lw_p1, List.forall_mem_cons.mpr ⟨lw_p2, List.forall_mem_cons.mpr ⟨lw_p3, List.forall_mem_cons.mpr ⟨lw_p4, List.forall_mem_cons.mpr ⟨lw_p5, List.forall_mem_cons.mpr ⟨lw_p6, List.forall_mem_cons.mpr ⟨lw_p7, List.forall_mem_cons.mpr ⟨lw_p8, List.forall_mem_cons.mpr ⟨lw_p9, List.forall_mem_cons.mpr ⟨lw_p10, List.forall_mem_cons.mpr ⟨lw_p11, List.forall_mem_cons.mpr ⟨lw_p12, List.forall_mem_cons.mpr ⟨lw_p13, List.forall_mem_cons.mpr ⟨lw_p14, List.forall_mem_cons.mpr ⟨lw_p15, fun _ h => absurd h List.not_mem_nil⟩⟩⟩⟩⟩⟩⟩⟩⟩⟩⟩⟩⟩⟩⟩⟩
theorem lw_p16 : lw_okq (⟨"PlankUnrollModel", "put", "(IIIDD)Z"⟩, 18) := ⟨⟨by decide +kernel, by decide +kernel⟩, List.mem_of_getElem? (i := 655) (by decide +kernel), List.mem_of_getElem? (i := 758) (by decide +kernel), List.mem_of_getElem? (i := 759) (by decide +kernel)⟩
theorem lw_p17 : lw_okq (⟨"PlankUnrollModel", "noCell", "(II)Z"⟩, 18) := ⟨⟨by decide +kernel, by decide +kernel⟩, List.mem_of_getElem? (i := 655) (by decide +kernel), List.mem_of_getElem? (i := 774) (by decide +kernel), List.mem_of_getElem? (i := 775) (by decide +kernel)⟩
theorem lw_p18 : lw_okq (⟨"PlankUnrollModel", "off", "(II)D"⟩, 18) := ⟨⟨by decide +kernel, by decide +kernel⟩, List.mem_of_getElem? (i := 655) (by decide +kernel), List.mem_of_getElem? (i := 778) (by decide +kernel), List.mem_of_getElem? (i := 779) (by decide +kernel)⟩
theorem lw_p19 : lw_okq (⟨"PlankUnrollModel", "cross", "(IIIIII)V"⟩, 18) := ⟨⟨by decide +kernel, by decide +kernel⟩, List.mem_of_getElem? (i := 655) (by decide +kernel), List.mem_of_getElem? (i := 791) (by decide +kernel), List.mem_of_getElem? (i := 792) (by decide +kernel)⟩
theorem lw_p20 : lw_okq (⟨"PlankUnrollModel", "keeps", "(III)Z"⟩, 18) := ⟨⟨by decide +kernel, by decide +kernel⟩, List.mem_of_getElem? (i := 655) (by decide +kernel), List.mem_of_getElem? (i := 811) (by decide +kernel), List.mem_of_getElem? (i := 812) (by decide +kernel)⟩
theorem lw_p21 : lw_okq (⟨"PlankUnrollModel", "size", "(II)D"⟩, 18) := ⟨⟨by decide +kernel, by decide +kernel⟩, List.mem_of_getElem? (i := 655) (by decide +kernel), List.mem_of_getElem? (i := 828) (by decide +kernel), List.mem_of_getElem? (i := 829) (by decide +kernel)⟩
theorem lw_p22 : lw_okq (⟨"PlankUnrollModel", "isOpen", "(IDDD)Z"⟩, 18) := ⟨⟨by decide +kernel, by decide +kernel⟩, List.mem_of_getElem? (i := 655) (by decide +kernel), List.mem_of_getElem? (i := 833) (by decide +kernel), List.mem_of_getElem? (i := 834) (by decide +kernel)⟩
def lw_privs_2 : List (MethodName × Nat) := [(⟨"PlankUnrollModel", "put", "(IIIDD)Z"⟩, 18), (⟨"PlankUnrollModel", "noCell", "(II)Z"⟩, 18), (⟨"PlankUnrollModel", "off", "(II)D"⟩, 18), (⟨"PlankUnrollModel", "cross", "(IIIIII)V"⟩, 18), (⟨"PlankUnrollModel", "keeps", "(III)Z"⟩, 18), (⟨"PlankUnrollModel", "size", "(II)D"⟩, 18), (⟨"PlankUnrollModel", "isOpen", "(IDDD)Z"⟩, 18)]
theorem lw_r2 : ∀ q ∈ lw_privs_2, lw_okq q := List.forall_mem_cons.mpr ⟨lw_p16, List.forall_mem_cons.mpr ⟨lw_p17, List.forall_mem_cons.mpr ⟨lw_p18, List.forall_mem_cons.mpr ⟨lw_p19, List.forall_mem_cons.mpr ⟨lw_p20, List.forall_mem_cons.mpr ⟨lw_p21, List.forall_mem_cons.mpr ⟨lw_p22, fun _ h => absurd h List.not_mem_nil⟩⟩⟩⟩⟩⟩⟩
def lw_privs : List (MethodName × Nat) := lw_privs_1 ++ (lw_privs_2)
def lw_tbl : List Cond := k2_sels lw_privs ++ tables_1
theorem lw_privs_ok : ∀ q ∈ lw_privs, lw_okq q := by
  show ∀ q ∈ lw_privs_1 ++ (lw_privs_2), lw_okq q
  exact List.forall_mem_append.mpr ⟨lw_r1, lw_r2⟩
/-- the streams that the claim lets the run draw from -/
abbrev lw_cs : List Choice := [Jvm.Choice.named "NaN.bits"]
theorem lw_bits : nanBits ∈ lw_cs := by first | decide | exact List.mem_cons_self | simp [lw_cs, nanBits]
end
section
/-! ===== BEGIN words of one list among another's, by their places ===== -/
theorem goodIn_r {big : List Cond} (ws : List Cond) (ps : List Nat) (hp : ws = ps.filterMap (fun i => big[i]?)) (h : ws.all goodWord = true) : GoodIn big ws := by
  intro w hw
  have h1 := List.all_eq_true.mp h w hw
  rw [hp] at hw
  obtain ⟨i, -, hi⟩ := List.mem_filterMap.mp hw
  have hm : w ∈ big := by first | exact List.mem_of_getElem? hi | exact List.getElem?_mem hi
  exact ⟨hm, good_of_word h1⟩
theorem goodIn_app {big a b : List Cond} (ha : GoodIn big a) (hb : GoodIn big b) : GoodIn big (a ++ b) := fun w h => (List.mem_append.mp h).elim (ha w) (hb w)
theorem goodIn_ca {big a b : List Cond} {c : Cond} (ha : GoodIn big (c :: a)) (hb : GoodIn big b) : GoodIn big (c :: (a ++ b)) := fun w h => (List.mem_cons.mp h).elim (fun e => ha w (List.mem_cons.mpr (Or.inl e))) (fun h => (List.mem_append.mp h).elim (fun h => ha w (List.mem_cons.mpr (Or.inr h))) (hb w))
theorem goodIn_sub {big ws : List Cond} (hm : ∀ w ∈ ws, w ∈ big) (h : ws.all goodWord = true) : GoodIn big ws := fun w hw => ⟨hm w hw, good_of_word (List.all_eq_true.mp h w hw)⟩
/-! ===== END ===== -/

/-! ===== BEGIN exceptions that leave a method, and their catching by the caller (launches without stack traces) ===== -/
section VXA
/-! The laws vx_back, vx_callV, vx_callS, vx_callSW, vx_throw0, vx_throwS follow proofs of the library, with one case more: JvmDerived/Free/Laws.lean (Back.of_free), Shelf42/LK1.lean (callV, callS), Shelf/KitTraced.lean (throwNew0V, throwNewS). -/
/-- where a method has thrown q: the class by its name, the cell, what was written, the world -/
def vx_T (XC : String → State → State → Prop) (st : State) (q : Addr) (t : State) (mc ms : Nat) (free : Addr → Prop) : Prop :=
  ∃ (E : String) (ce : Cell) (L : List Loc), XC E st t ∧ t.heap[q]? = some ce ∧ ce.vm = .none ∧ st.vm.findClass E = some ce.cls ∧ st.WarmedH t.vm ∧ st.sameButNew ({ t with vm := st.vm } : State) L mc ms ∧ ∀ z ∈ L, free z.base
def vx_Q (Qc : Array Value → State → Outcome → State → Prop) (XC : String → State → State → Prop) (mc ms : Nat) (free : Addr → Prop) : Array Value → State → Outcome → State → Prop := fun a st o t =>
  (Qc a st o t ∧ ∃ L, FrameEnd st o t L mc ms ∧ ∀ q ∈ L, free q.base) ∨ ∃ q, o = .threw q ∧ vx_T XC st q t mc ms free
/-- a callee that returns or throws -/
def vx_Met (l : Launch) (y : MethodName) (ws : List Cond) (rm : Room) (Pc : Array Value → State → Prop) (Qc : Array Value → State → Outcome → State → Prop) (XC : String → State → State → Prop) (mc ms : Nat) (free : Addr → Prop) : Prop :=
  MetFree l y (headSpec ws rm) Pc (fun _ _ _ _ _ => True) (vx_Q Qc XC mc ms free)
def vx_Post (XC : String → State → State → Prop) (mc ms : Nat) (free : Addr → Prop) : Pt → Array Value → Addr → Pt → Prop := fun A a q B =>
  ∃ (g : JFrame) (mk : MethodId) (t : State) (L : List Loc) (E : String) (ce : Cell), B.U.heap = t.heap ∧ B.U.vm = t.vm ∧ XC E (A.U.calling g mk a) t ∧ t.heap[q]? = some ce ∧ ce.vm = .none ∧ A.U.vm.findClass E = some ce.cls ∧ B.locs = A.locs ++ L ∧ (∀ z ∈ L, free z.base) ∧ B.cells = A.cells + mc ∧ B.slots = A.slots + ms
def vx_Back (l : Launch) (R : Room) (p : Program) (e : Env) (below : List Frame) (s : State) (sargs : Array Value) (y : MethodName) (len W9 : Nat)
    (Pre : Pt → Array Value → Prop) (Post : Pt → Array Value → Option Value → Pt → Prop) (PostX : Pt → Array Value → Addr → Pt → Prop) : Prop :=
  ∀ (m : MethodId) (meth : Method) (c : Code) (A : Pt) (g : JFrame) (ig : Instr) (mk : MethodId) (a : Array Value),
    Stand p l e R s m sargs below meth c A.U A.locs A.cells A.slots → g.method = m → g.locals.size = c.maxLocals → decode c.code g.pc = .ok (ig, len) →
    2 * g.monitorRoom + (g.stack.map fun v => v.category).sum ≤ W9 → A.U.methodNamed? y = some mk → Pre A a →
    (∃ (v : Option Value) (B : Pt), Stand p l e R s m sargs below meth c B.U B.locs B.cells B.slots ∧ Post A a v B ∧
      Steps p.tables e below (doInvoke e (A.U.setTop g) [] mk a).1 (B.U.setTop { g with pc := g.pc + len, stack := v.toList ++ g.stack })) ∨
    (∃ (q : Addr) (B : Pt), Stand p l e R s m sargs below meth c B.U B.locs B.cells B.slots ∧ PostX A a q B ∧
      Steps p.tables e below (doInvoke e (A.U.setTop g) [] mk a).1 ((B.U.setTop g).pushFrame (.throwing q)))
section Payer
variable {l : Launch} {R : Room} {p : Program} {e : Env} {below : List Frame} {s : State} {sargs : Array Value} {y : MethodName} {len W9 : Nat}
theorem vx_back {ws : List Cond} {rm : Room} {Pc : Array Value → State → Prop} {Qc : Array Value → State → Outcome → State → Prop} {XC : String → State → State → Prop} {mc ms : Nat} {free : Addr → Prop} {bytes : ByteArray} {maxL : Nat} {ret : Option FieldType}
    (hM : vx_Met l y ws rm Pc Qc XC mc ms free) (hblind : FrameBlind Pc) (hrc : rm.cells = mc) (hrs : rm.slots = ms)
    (hframes : rm.frames + 1 ≤ R.frames) (hlocals : W9 + (maxL + 11) + rm.locals ≤ R.locals)
    (hws : ∀ w ∈ ws, ∀ a' U, s.WarmedH U.vm → w.before a' U = true) (hcode : Cond.code y bytes maxL ret ∈ ws) (hinit : ∀ a' U, s.WarmedH U.vm → (Cond.initialized y.cls).before a' U = true) :
    vx_Back l R p e below s sargs y len W9 (PreOf R mc ms Pc) (PostOf Qc mc ms free) (vx_Post XC mc ms free) := by
  intro m meth c A g ig mk a X hg hsize hdg hW hn hp
  have h1 : (headSpec ws rm).pre.before a A.U = true := atoms_intro fun w hw => hws w hw _ _ X.warmed
  have h2 : (Cond.code y bytes maxL ret).before a A.U = true := hws _ hcode _ _ X.warmed
  have h3 : (Cond.initialized y.cls).before a A.U = true := hinit _ _ X.warmed
  have h4 : A.cells + (headSpec ws rm).room.cells ≤ R.cells := by rw [show (headSpec ws rm).room.cells = mc from hrc]; exact hp.1
  have h5 : A.slots + (headSpec ws rm).room.slots ≤ R.slots := by rw [show (headSpec ws rm).room.slots = ms from hrs]; exact hp.2.1
  have hPc : Pc a (A.U.calling g mk a) := hblind _ _ _ _ hp.2.2
  obtain ⟨U, Ls, c0, s0⟩ := A
  dsimp only [Pt.U, Pt.locs, Pt.cells, Pt.slots] at h1 h2 h3 h4 h5 X hn hPc ⊢
  obtain ⟨methY, cY, hmY, hcY, -, hlY, -, -, -, -⟩ := Cond.code_spec hn h2
  obtain ⟨kY, hkY, -⟩ := className_of_methodNamed hn
  have hinitY : kY.init = .initialized := Cond.initialized_spec (findClass_of_methodNamed hn) hkY h3
  have h : At U g.method c below := by rw [hg]; exact X.here
  have hlocals9 : W9 + (maxL + 11) + (headSpec ws rm).room.locals ≤ R.locals := hlocals
  have happ : (headSpec ws rm).appliesLoose y e.platform (U.calling g mk a) = true :=
    Spec.appliesLoose_calling (g := g) h hdg hn hkY hinitY
      (X.room_calling (g := g) (R' := (headSpec ws rm).room) hsize hmY hcY hframes (by rw [hlY]; omega) h4 h5) h1
  obtain ⟨mid, hmid⟩ := h.above
  have hfr : (U.setTop g).frames = (.java g :: mid) ++ below := by rw [State.frames_setTop' g h.top, hmid]; rfl
  obtain ⟨o, s₂, hsteps, -, hend, hq⟩ := Steps.callFree hM p X.admits X.cas X.clock (acts := []) hfr happ hPc trivial
  have hq' : vx_Q Qc XC mc ms free a (U.calling g mk a) o s₂ := hq
  rw [State.frames_setTop' g h.top] at hend
  obtain ⟨g₀, hg0⟩ := Option.isSome_iff_exists.mp h.top
  obtain ⟨r, hr⟩ := State.topJava?_eq_some.mp hg0
  have hr' : (({ U with heap := s₂.heap, slotsUsed := s₂.slotsUsed } : State).setVm s₂.vm).frames = .java g₀ :: r := hr
  rcases hq' with ⟨hqc, L, hfe, hL⟩ | ⟨q, rfl, E, ce, L, hx, hce, hcv, hcl, hW₂, hsm, hL⟩
  · obtain ⟨⟨v, rfl⟩, hW₂, e2, q2, q3, q4, q5, q6⟩ := id hfe
    have e3 : s₂ = ({ (U.calling g mk a).setFrames s₂.frames with heap := s₂.heap, slotsUsed := s₂.slotsUsed } : State).setVm s₂.vm := by
      have : s₂ = ({ s₂ with vm := (U.calling g mk a).vm } : State).setVm s₂.vm := rfl
      rw [e2] at this
      exact this
    obtain ⟨c₂, i₂, len₂, hc₂, hd₂, hf₂⟩ := hend
    have hW' : U.WarmedH s₂.vm := hW₂
    have hcc : c₂ = c := by
      have h1 : s₂.code? g.method = U.code? g.method := by
        rw [State.code?_eq, State.code?_eq, hW'.alike.method?]
      exact Option.some.inj (hc₂.symm.trans (h1.trans h.code))
    subst hcc
    have hlen : len₂ = len := by rw [hdg] at hd₂; cases hd₂; rfl
    subst hlen
    have hs₂ : s₂ = (({ U with heap := s₂.heap, slotsUsed := s₂.slotsUsed } : State).setVm s₂.vm).setTop { g with pc := g.pc + len₂, stack := v.toList ++ g.stack } := by
      refine e3.trans ?_
      rw [hf₂, State.calling_eq h.top, State.setFrames_setFrames, State.setTop_of_frames _ hr', hr]
      rfl
    have hsame : U.sameButNew ({ U with heap := s₂.heap, slotsUsed := s₂.slotsUsed } : State) L mc ms := by
      refine ⟨?_, q2, q3, q4, q5, q6⟩
      obtain ⟨t, ht, -⟩ := State.frames_cons hr
      show ({ U with heap := s₂.heap, slotsUsed := s₂.slotsUsed } : State) = { U.setFrames U.frames with heap := s₂.heap, slotsUsed := s₂.slotsUsed }
      rw [State.setFrames_self ht]
    subst hg
    refine Or.inl ⟨v, ⟨(({ U with heap := s₂.heap, slotsUsed := s₂.slotsUsed } : State).setVm s₂.vm), Ls ++ L, c0 + mc, s0 + ms⟩,
      ⟨X.admits, X.cas, X.clock, X.frames, X.room, X.hears, X.method, X.code, (X.here.setHeapUsed s₂.heap s₂.slotsUsed).setVm hW'.alike, X.tail, State.WarmedH.trans X.warmed hW', X.limits, X.bytes, X.same.trans (hsame.setVm s.vm)⟩,
      ⟨g, mk, s₂, L, rfl, rfl, hqc, rfl, hL, rfl, rfl⟩, ?_⟩
    show Steps p.tables e below _ ((({ U with heap := s₂.heap, slotsUsed := s₂.slotsUsed } : State).setVm s₂.vm).setTop { g with pc := g.pc + len₂, stack := v.toList ++ g.stack })
    rw [← hs₂]
    exact hsteps
  · obtain ⟨e2, q2, q3, q4, q5, q6⟩ := id hsm
    have e3 : s₂ = ({ (U.calling g mk a).setFrames s₂.frames with heap := s₂.heap, slotsUsed := s₂.slotsUsed } : State).setVm s₂.vm := by
      have : s₂ = ({ s₂ with vm := (U.calling g mk a).vm } : State).setVm s₂.vm := rfl
      rw [e2] at this
      exact this
    have hf₂ : s₂.frames = .throwing q :: .java g :: U.frames.tail := hend
    have hW' : U.WarmedH s₂.vm := hW₂
    have hs₂ : s₂ = ((({ U with heap := s₂.heap, slotsUsed := s₂.slotsUsed } : State).setVm s₂.vm).setTop g).pushFrame (.throwing q) := by
      refine e3.trans ?_
      rw [hf₂, State.calling_eq h.top, State.setFrames_setFrames, State.pushFrame, State.frames_setTop _ hr', State.setTop_of_frames _ hr', State.setFrames_setFrames, hr]
      rfl
    have hsame : U.sameButNew ({ U with heap := s₂.heap, slotsUsed := s₂.slotsUsed } : State) L mc ms := by
      refine ⟨?_, q2, q3, q4, q5, q6⟩
      obtain ⟨t, ht, -⟩ := State.frames_cons hr
      show ({ U with heap := s₂.heap, slotsUsed := s₂.slotsUsed } : State) = { U.setFrames U.frames with heap := s₂.heap, slotsUsed := s₂.slotsUsed }
      rw [State.setFrames_self ht]
    subst hg
    refine Or.inr ⟨q, ⟨(({ U with heap := s₂.heap, slotsUsed := s₂.slotsUsed } : State).setVm s₂.vm), Ls ++ L, c0 + mc, s0 + ms⟩,
      ⟨X.admits, X.cas, X.clock, X.frames, X.room, X.hears, X.method, X.code, (X.here.setHeapUsed s₂.heap s₂.slotsUsed).setVm hW'.alike, X.tail, State.WarmedH.trans X.warmed hW', X.limits, X.bytes, X.same.trans (hsame.setVm s.vm)⟩,
      ⟨g, mk, s₂, L, E, ce, rfl, rfl, hx, hce, hcv, hcl, rfl, hL, rfl, rfl⟩, ?_⟩
    show Steps p.tables e below _ (((({ U with heap := s₂.heap, slotsUsed := s₂.slotsUsed } : State).setVm s₂.vm).setTop g).pushFrame (.throwing q))
    rw [← hs₂]
    exact hsteps
end Payer
section Calls
variable {p : Program} {l : Launch} {e : Env} {R : Room} {s : State} {m : MethodId} {args : Array Value} {below : List Frame} {meth : Method} {c : Code} {T : State} {locs : List Loc} {cells slots : Nat}
theorem vx_callV (X : Stand p l e R s m args below meth c T locs cells slots) (hexec : p.tables.exec = Jvm.exec) {own C : String} {index : Nat} {y : MethodName} {bytes : ByteArray} {maxL : Nat} {ret : Option FieldType}
    (hown : s.vm.findClass own = some m.cls) (hlink : (Cond.methodLink own index y).before args s = true) (hinst : (Cond.instanceMethod y).before args s = true) (hsel : (Cond.selects C y y).before args s = true)
    (hcode : (Cond.code y bytes maxL ret).before args s = true) (hy : y.cls ≠ "java/lang/invoke/MethodHandle" ∧ y.cls ≠ "java/lang/invoke/VarHandle")
    {W9 : Nat} {Pre : Pt → Array Value → Prop} {Post : Pt → Array Value → Option Value → Pt → Prop} {PostX : Pt → Array Value → Addr → Pt → Prop} (hK : vx_Back l R p e below s args y 3 W9 Pre Post PostX)
    {b : Addr} {cellB : Cell} (hcell : T.heap[b]? = some cellB) (hobj : cellB.vm.isStatics = false) (hcls : s.vm.findClass C = some cellB.cls)
    {g : JFrame} (hg : g.method = m) (hsize : g.locals.size = c.maxLocals) {argsL rest : List Value} (hlen : ∀ sig, parseMethodDescriptor y.desc = some sig → argsL.length = sig.parameters.length)
    (hstack : g.stack = argsL.reverse ++ .ref b :: rest) (hW : 2 * g.monitorRoom + (rest.map fun v => v.category).sum ≤ W9) (hdg : decode c.code g.pc = .ok (.invokevirtual index, 3))
    (hpre : ∀ vm₁, s.WarmedH vm₁ → Pre ⟨T.setVm vm₁, locs, cells, slots⟩ (Value.ref b :: argsL).toArray) :
    (∃ (v : Option Value) (vm₁ : Vm) (B : Pt), s.WarmedH vm₁ ∧ Stand p l e R s m args below meth c B.U B.locs B.cells B.slots ∧ Post ⟨T.setVm vm₁, locs, cells, slots⟩ (Value.ref b :: argsL).toArray v B ∧
      ∀ target, Steps p.tables e below (B.U.setTop { g with pc := g.pc + 3, stack := v.toList ++ rest }) target → Steps p.tables e below (T.setTop g) target) ∨
    (∃ (q : Addr) (vm₁ : Vm) (B : Pt), s.WarmedH vm₁ ∧ Stand p l e R s m args below meth c B.U B.locs B.cells B.slots ∧ PostX ⟨T.setVm vm₁, locs, cells, slots⟩ (Value.ref b :: argsL).toArray q B ∧
      Steps p.tables e below (T.setTop g) ((B.U.setTop { g with stack := rest }).pushFrame (.throwing q))) := by
  obtain ⟨mk, methM, hnamed, hmethM, hstM, habM⟩ := Cond.instanceMethod_spec hinst
  obtain ⟨methM', cM, hmethM', -, -, -, -, -, -, hsigM⟩ := Cond.code_spec hnamed hcode
  cases hmethM.symm.trans hmethM'
  obtain ⟨c2, r2, m2, q1, q2, q3, q4, kP, hkP, hkPi⟩ := Cond.selects_spec hsel
  cases hcls.symm.trans q1
  cases (State.methodFound?_of_named hnamed hy).symm.trans q2
  cases hnamed.symm.trans q3
  have hselP : selectMethod e.platform s.vm cellB.cls mk = .method mk := by rw [Launch.admits_selectMethod X.admits]; exact q4
  obtain ⟨vm₁, X₁, hstep₁⟩ := X.invokevirtual hexec hown hlink hnamed hmethM hstM hkP hkPi hy (a := b) (cell := cellB) hcell
    (fun z h => by rw [h] at hobj; cases hobj) hselP hmethM habM hkP hkPi (g := g) hg (argsL := argsL) (rest := rest) (hlen _ hsigM) hstack hdg
  rcases hK m meth c ⟨T.setVm vm₁, locs, cells, slots⟩ { g with stack := rest } (.invokevirtual index) mk (Value.ref b :: argsL).toArray X₁ hg hsize hdg hW (X₁.named hnamed) (hpre vm₁ X₁.warmed) with ⟨v, B, X', hpost, hsteps⟩ | ⟨q, B, X', hpost, hsteps⟩
  · exact Or.inl ⟨v, vm₁, B, X₁.warmed, X', hpost, fun target h => hstep₁ _ fun acts => by rw [doInvoke_state]; exact hsteps.trans h⟩
  · exact Or.inr ⟨q, vm₁, B, X₁.warmed, X', hpost, hstep₁ _ fun acts => by rw [doInvoke_state]; exact hsteps⟩
theorem vx_callS (X : Stand p l e R s m args below meth c T locs cells slots) (hexec : p.tables.exec = Jvm.exec) {own : String} {index : Nat} {y : MethodName} {bytes : ByteArray} {maxL : Nat} {ret : Option FieldType}
    (hown : s.vm.findClass own = some m.cls) (hlink : (Cond.methodLink own index y).before args s = true) (hstat : (Cond.static y).before args s = true) (hinit : (Cond.initialized y.cls).before args s = true)
    (hcode : (Cond.code y bytes maxL ret).before args s = true) (hy : y.cls ≠ "java/lang/invoke/MethodHandle" ∧ y.cls ≠ "java/lang/invoke/VarHandle")
    {W9 : Nat} {Pre : Pt → Array Value → Prop} {Post : Pt → Array Value → Option Value → Pt → Prop} {PostX : Pt → Array Value → Addr → Pt → Prop} (hK : vx_Back l R p e below s args y 3 W9 Pre Post PostX)
    {g : JFrame} (hg : g.method = m) (hsize : g.locals.size = c.maxLocals) {argsL rest : List Value} (hlen : ∀ sig, parseMethodDescriptor y.desc = some sig → argsL.length = sig.parameters.length)
    (hstack : g.stack = argsL.reverse ++ rest) (hW : 2 * g.monitorRoom + (rest.map fun v => v.category).sum ≤ W9) (hdg : decode c.code g.pc = .ok (.invokestatic index, 3))
    (hpre : ∀ vm₁, s.WarmedH vm₁ → Pre ⟨T.setVm vm₁, locs, cells, slots⟩ argsL.toArray) :
    (∃ (v : Option Value) (vm₁ : Vm) (B : Pt), s.WarmedH vm₁ ∧ Stand p l e R s m args below meth c B.U B.locs B.cells B.slots ∧ Post ⟨T.setVm vm₁, locs, cells, slots⟩ argsL.toArray v B ∧
      ∀ target, Steps p.tables e below (B.U.setTop { g with pc := g.pc + 3, stack := v.toList ++ rest }) target → Steps p.tables e below (T.setTop g) target) ∨
    (∃ (q : Addr) (vm₁ : Vm) (B : Pt), s.WarmedH vm₁ ∧ Stand p l e R s m args below meth c B.U B.locs B.cells B.slots ∧ PostX ⟨T.setVm vm₁, locs, cells, slots⟩ argsL.toArray q B ∧
      Steps p.tables e below (T.setTop g) ((B.U.setTop { g with stack := rest }).pushFrame (.throwing q))) := by
  obtain ⟨mk, hnamed⟩ := Cond.code_named hcode
  obtain ⟨methM, cM, hmethM, -, -, -, -, -, -, hsigM⟩ := Cond.code_spec hnamed hcode
  have hstatic : methM.isStatic = true := Cond.static_spec hnamed hmethM hstat
  obtain ⟨kP, hkP, -⟩ := className_of_methodNamed hnamed
  have hinitP : kP.init = .initialized := Cond.initialized_spec (findClass_of_methodNamed hnamed) hkP hinit
  obtain ⟨vm₁, X₁, hstep₁⟩ := X.invokestatic hexec hown hlink hnamed hmethM hstatic hkP hinitP hy (g := g) hg (argsL := argsL) (rest := rest) (hlen _ hsigM) hstack hdg
  rcases hK m meth c ⟨T.setVm vm₁, locs, cells, slots⟩ { g with stack := rest } (.invokestatic index) mk argsL.toArray X₁ hg hsize hdg hW (X₁.named hnamed) (hpre vm₁ X₁.warmed) with ⟨v, B, X', hpost, hsteps⟩ | ⟨q, B, X', hpost, hsteps⟩
  · exact Or.inl ⟨v, vm₁, B, X₁.warmed, X', hpost, fun target h => hstep₁ _ fun acts => by rw [doInvoke_state]; exact hsteps.trans h⟩
  · exact Or.inr ⟨q, vm₁, B, X₁.warmed, X', hpost, hstep₁ _ fun acts => by rw [doInvoke_state]; exact hsteps⟩
end Calls
theorem vx_cls {s : State} {T : State} {vm₁ : Vm} {E : String} {k : ClassId} (hW : s.WarmedH vm₁) (h : (T.setVm vm₁).vm.findClass E = some k) : s.vm.findClass E = some k := by
  have h1 : vm₁.findClass E = some k := h
  rw [hW.alike.findClass] at h1
  exact h1
/-- the method's frame g, with q thrown over it -/
def vx_W (p : Program) (l : Launch) (e : Env) (R : Room) (s : State) (m : MethodId) (args : Array Value) (below : List Frame) (meth : Method) (c : Code) (H : Heap) (locs : List Loc) (cells slots : Nat) (Q : State → Prop) (g : JFrame) (q : Addr) : Prop :=
  ∀ T : State, T.heap = H → Stand p l e R s m args below meth c T locs cells slots → ∃ t, Steps p.tables e below ((T.setTop g).pushFrame (.throwing q)) t ∧ Q t
def vx_Run (p : Program) (l : Launch) (e : Env) (R : Room) (s : State) (m : MethodId) (args : Array Value) (below : List Frame) (meth : Method) (c : Code) (H : Heap) (locs : List Loc) (cells slots mc ms : Nat) (g : JFrame) (rest : List Value) (Qa : State → Outcome → State → Prop) (XC : String → State → State → Prop) (free : Addr → Prop) : Prop :=
  ∀ T : State, T.heap = H → Stand p l e R s m args below meth c T locs cells slots →
    (∃ (v : Option Value) (st₀ t T' : State) (L : List Loc), st₀.heap = H ∧ Stand p l e R s m args below meth c T' (locs ++ L) (cells + mc) (slots + ms) ∧ (∀ q ∈ L, free q.base) ∧ T'.heap = t.heap ∧ T'.vm = t.vm ∧ Qa st₀ (.returned v) t ∧
      Goes p e below T g T' { g with pc := g.pc + 3, stack := v.toList ++ rest }) ∨
    (∃ (q : Addr) (st₀ t T' : State) (L : List Loc) (E : String) (ce : Cell), st₀.heap = H ∧ Stand p l e R s m args below meth c T' (locs ++ L) (cells + mc) (slots + ms) ∧ (∀ z ∈ L, free z.base) ∧ T'.heap = t.heap ∧ T'.vm = t.vm ∧ XC E st₀ t ∧ t.heap[q]? = some ce ∧ ce.vm = .none ∧ s.vm.findClass E = some ce.cls ∧
      Steps p.tables e below (T.setTop g) ((T'.setTop { g with stack := rest }).pushFrame (.throwing q)))
def vx_X {S : Type} (px : S → Prop) (B : String → S → State → Prop) (A : Nat → Prop) : String → State → State → Prop := fun E st t => ∃ u : S, px u ∧ B E u t ∧ va_F A st t
section Runs
variable {p : Program} {l : Launch} {e : Env} {R : Room} {s : State} {m : MethodId} {args : Array Value} {below : List Frame} {meth : Method} {c : Code} {H : Heap} {locs : List Loc} {cells slots : Nat}
variable {y : MethodName} {bytes cc : ByteArray} {maxL nL mc ms n index : Nat} {ret : Option FieldType} {ws : List Cond} {rm : Room} {Pc : Array Value → State → Prop} {Qc : Array Value → State → Outcome → State → Prop} {XC : String → State → State → Prop} {free : Addr → Prop} {Ts : List Cond} {own C : String} {b : Addr} {As rest : List Value} {g : JFrame}
theorem vx_callBack (cb : CallB R s args own index y bytes maxL ret ws rm mc ms n) (hM : vx_Met l y ws rm Pc Qc XC mc ms free) (hbl : FrameBlind Pc) : vx_Back l R p e below s args y 3 8 (PreOf R mc ms Pc) (PostOf Qc mc ms free) (vx_Post XC mc ms free) := by
  obtain ⟨hrc, hrs, hfr, hlo, hws, hcw, -, hini, -⟩ := cb
  exact vx_back (bytes := bytes) (maxL := maxL) (ret := ret) hM hbl hrc hrs hfr hlo hws hcw (fun a' U hW => word_at hW (Or.inl (by first | rfl | simp [Cond.onTables, Cond.keeps, Cond.steady])) hini)
theorem vx_runV (S : CallFix p m c cc nL s args Ts own) (hM : vx_Met l y ws rm Pc Qc XC mc ms free) (cw : CallW R s args own C index y bytes maxL ret ws rm mc ms n) (hp : PreV s H C b Pc As)
    (hg : g.method = m) (hn : As.length = n) (hsize : g.locals.size = nL) (hstack : g.stack = As.reverse ++ .ref b :: rest) (hW : 2 * g.monitorRoom + (rest.map fun v => v.category).sum ≤ 8) (hdg : decode cc g.pc = .ok (.invokevirtual index, 3)) (hf : cells + mc ≤ R.cells ∧ slots + ms ≤ R.slots) :
    vx_Run p l e R s m args below meth c H locs cells slots mc ms g rest (Qc (Value.ref b :: As).toArray) XC free := by
  have hK : vx_Back l R p e below s args y 3 8 (PreOf R mc ms Pc) (PostOf Qc mc ms free) (vx_Post XC mc ms free) := vx_callBack cw.1 hM hp.1
  obtain ⟨⟨-, -, -, -, -, -, hcode, -, hy, hlen, hl⟩, hin, hse⟩ := cw
  obtain ⟨hx, hb, hml, ho, -⟩ := S
  obtain ⟨-, ⟨cellB, hcB, hoB, hclB⟩, hPc⟩ := hp
  intro T hT X
  rcases vx_callV X hx (C := C) (bytes := bytes) (maxL := maxL) (ret := ret) ho hl hin hse hcode hy hK (by rw [hT]; exact hcB) hoB hclB hg (hsize.trans hml.symm) (argsL := As) (rest := rest) (fun sig h => hn.trans (hlen sig h)) hstack hW (by rw [hb]; exact hdg)
    (fun vm₁ hW₁ => ⟨hf.1, hf.2, hPc (T.setVm vm₁) hT hW₁⟩) with ⟨v, vm₁, ⟨U', l2, c2, s2⟩, hW₁, X', ⟨g', mk, t, L, e1, e2, hq, h1, hL, h2, h3⟩, st⟩ | ⟨q, vm₁, ⟨U', l2, c2, s2⟩, hW₁, X', ⟨g', mk, t, L, E, ce, e1, e2, hq, hce, hcv, hcl, h1, hL, h2, h3⟩, st⟩
  · dsimp only [Pt.U, Pt.locs, Pt.cells, Pt.slots] at X' e1 e2 h1 h2 h3 st
    subst h1; subst h2; subst h3
    exact Or.inl ⟨v, (T.setVm vm₁).calling g' mk (Value.ref b :: As).toArray, t, U', L, hT, X', hL, e1, e2, hq, st⟩
  · dsimp only [Pt.U, Pt.locs, Pt.cells, Pt.slots] at X' e1 e2 h1 h2 h3 st hcl
    subst h1; subst h2; subst h3
    exact Or.inr ⟨q, (T.setVm vm₁).calling g' mk (Value.ref b :: As).toArray, t, U', L, E, ce, hT, X', hL, e1, e2, hq, hce, hcv, vx_cls hW₁ hcl, st⟩
theorem vx_runS (S : CallFix p m c cc nL s args Ts own) (hM : vx_Met l y ws rm Pc Qc XC mc ms free) (cw : CallB R s args own index y bytes maxL ret ws rm mc ms n ∧ (Cond.static y).before args s = true) (hp : PreS s H Pc As)
    (hg : g.method = m) (hn : As.length = n) (hsize : g.locals.size = nL) (hstack : g.stack = As.reverse ++ rest) (hW : 2 * g.monitorRoom + (rest.map fun v => v.category).sum ≤ 8) (hdg : decode cc g.pc = .ok (.invokestatic index, 3)) (hf : cells + mc ≤ R.cells ∧ slots + ms ≤ R.slots) :
    vx_Run p l e R s m args below meth c H locs cells slots mc ms g rest (Qc As.toArray) XC free := by
  have hK : vx_Back l R p e below s args y 3 8 (PreOf R mc ms Pc) (PostOf Qc mc ms free) (vx_Post XC mc ms free) := vx_callBack cw.1 hM hp.1
  obtain ⟨⟨-, -, -, -, -, -, hcode, hini, hy, hlen, hl⟩, hstt⟩ := cw
  obtain ⟨hx, hb, hml, ho, -⟩ := S
  intro T hT X
  rcases vx_callS X hx (bytes := bytes) (maxL := maxL) (ret := ret) ho hl hstt hini hcode hy hK hg (hsize.trans hml.symm) (argsL := As) (rest := rest) (fun sig h => hn.trans (hlen sig h)) hstack hW (by rw [hb]; exact hdg)
    (fun vm₁ hW₁ => ⟨hf.1, hf.2, hp.2 (T.setVm vm₁) hT hW₁⟩) with ⟨v, vm₁, ⟨U', l2, c2, s2⟩, hW₁, X', ⟨g', mk, t, L, e1, e2, hq, h1, hL, h2, h3⟩, st⟩ | ⟨q, vm₁, ⟨U', l2, c2, s2⟩, hW₁, X', ⟨g', mk, t, L, E, ce, e1, e2, hq, hce, hcv, hcl, h1, hL, h2, h3⟩, st⟩
  · dsimp only [Pt.U, Pt.locs, Pt.cells, Pt.slots] at X' e1 e2 h1 h2 h3 st
    subst h1; subst h2; subst h3
    exact Or.inl ⟨v, (T.setVm vm₁).calling g' mk As.toArray, t, U', L, hT, X', hL, e1, e2, hq, st⟩
  · dsimp only [Pt.U, Pt.locs, Pt.cells, Pt.slots] at X' e1 e2 h1 h2 h3 st hcl
    subst h1; subst h2; subst h3
    exact Or.inr ⟨q, (T.setVm vm₁).calling g' mk As.toArray, t, U', L, E, ce, hT, X', hL, e1, e2, hq, hce, hcv, vx_cls hW₁ hcl, st⟩
end Runs
section Rows
variable {p : Program} {l : Launch} {e : Env} {R : Room} {s : State} {m : MethodId} {args : Array Value} {below : List Frame} {meth : Method} {c : Code} {H : Heap} {locs : List Loc} {cells slots : Nat} {Q : State → Prop}
variable {mc ms : Nat} {free : Addr → Prop} {A0 A1 : Nat → Prop} {H0 : Heap} {a : Array Value} {pc : Nat} {ls : Array Slot} {st0 rest : List Value}
theorem vx_keep {st₀ t T' : State} {L : List Loc} (h0 : st₀.heap = H) (e1 : T'.heap = t.heap) (hS : va_S A0 H0 H locs) (hA : ∀ q, q < H.size → A1 q → A0 q) (hf : ∀ q, free q → A0 q) (hL : ∀ q ∈ L, free q.base) (hF : va_F A1 st₀ t) :
    H.size ≤ T'.heap.size ∧ (∀ q : Nat, q < H.size → ¬ A1 q → T'.heap[q]? = H[q]?) ∧ va_S A0 H0 T'.heap (locs ++ L) := by
  obtain ⟨hz, hk⟩ := hF
  rw [h0] at hz hk
  exact ⟨by rw [e1]; exact hz, fun q h1 h2 => by rw [e1]; exact hk q h1 h2,
    ⟨Nat.le_trans hS.1 (by rw [e1]; exact hz), fun q h1 h2 => by rw [e1, hk q (Nat.lt_of_lt_of_le h1 hS.1) (fun z => h2 (hA q (Nat.lt_of_lt_of_le h1 hS.1) z))]; exact hS.2.1 q h1 h2, fun q hq => by
      rcases List.mem_append.mp hq with h | h
      · exact hS.2.2 q h
      · exact hf _ (hL q h)⟩⟩
theorem vx_calli {S SX : Type} {post : Int32 → S → Prop} {px : SX → Prop} {B : S → State → Prop} {BX : String → SX → State → Prop} {AX : Nat → Prop} (hr : vx_Run p l e R s m args below meth c H locs cells slots mc ms (F0 m pc ls st0) rest (va_Qi post B A1 a) (vx_X px BX AX) free) (hS : va_S A0 H0 H locs) (hA : ∀ q, q < H.size → A1 q → A0 q) (hf : ∀ q, free q → A0 q) (hAX : ∀ q, q < H.size → AX q → A0 q)
    (kx : ∀ (E : String) (ce : Cell) (q9 : Addr) (u : SX) (t : State) (H1 : Heap) (locs1 : List Loc), t.heap = H1 → s.vm.Alike t.vm → px u → BX E u t → H.size ≤ H1.size → (∀ q : Nat, q < H.size → ¬ AX q → H1[q]? = H[q]?) → va_S A0 H0 H1 locs1 → H1[q9]? = some ce → ce.vm = .none → s.vm.findClass E = some ce.cls → vx_W p l e R s m args below meth c H1 locs1 (cells + mc) (slots + ms) Q (F0 m pc ls rest) q9)
    (kk : ∀ (r : Int32) (u : S) (t : State) (H1 : Heap) (locs1 : List Loc), t.heap = H1 → s.vm.Alike t.vm → post r u → B u t → H.size ≤ H1.size → (∀ q : Nat, q < H.size → ¬ A1 q → H1[q]? = H[q]?) → va_S A0 H0 H1 locs1 → W p l e R s m args below meth c H1 locs1 (cells + mc) (slots + ms) Q (F0 m (pc + 3) ls (.int r :: rest))) : W p l e R s m args below meth c H locs cells slots Q (F0 m pc ls st0) := by
  intro T hT X
  rcases hr T hT X with ⟨v, st₀, t, T', L, h0, X', hL, e1, e2, ⟨⟨r, u, hv, hp, hb⟩, hF⟩, st⟩ | ⟨q, st₀, t, T', L, E, ce, h0, X', hL, e1, e2, ⟨u, hp, hb, hF⟩, hce, hcv, hcl, st⟩
  · cases hv
    obtain ⟨k1, k2, k3⟩ := vx_keep h0 e1 hS hA hf hL hF
    obtain ⟨t2, a1, b1⟩ := kk r u t T'.heap (locs ++ L) e1.symm (by rw [← e2]; exact X'.warmed.alike) hp hb k1 k2 k3 T' rfl X'
    exact ⟨t2, st t2 a1, b1⟩
  · obtain ⟨k1, k2, k3⟩ := vx_keep h0 e1 hS hAX hf hL hF
    obtain ⟨t2, a1, b1⟩ := kx E ce q u t T'.heap (locs ++ L) e1.symm (by rw [← e2]; exact X'.warmed.alike) hp hb k1 k2 k3 (by rw [e1]; exact hce) hcv hcl T' rfl X'
    exact ⟨t2, st.trans a1, b1⟩
theorem vx_calll {S SX : Type} {post : Int64 → S → Prop} {px : SX → Prop} {B : S → State → Prop} {BX : String → SX → State → Prop} {AX : Nat → Prop} (hr : vx_Run p l e R s m args below meth c H locs cells slots mc ms (F0 m pc ls st0) rest (va_Ql post B A1 a) (vx_X px BX AX) free) (hS : va_S A0 H0 H locs) (hA : ∀ q, q < H.size → A1 q → A0 q) (hf : ∀ q, free q → A0 q) (hAX : ∀ q, q < H.size → AX q → A0 q)
    (kx : ∀ (E : String) (ce : Cell) (q9 : Addr) (u : SX) (t : State) (H1 : Heap) (locs1 : List Loc), t.heap = H1 → s.vm.Alike t.vm → px u → BX E u t → H.size ≤ H1.size → (∀ q : Nat, q < H.size → ¬ AX q → H1[q]? = H[q]?) → va_S A0 H0 H1 locs1 → H1[q9]? = some ce → ce.vm = .none → s.vm.findClass E = some ce.cls → vx_W p l e R s m args below meth c H1 locs1 (cells + mc) (slots + ms) Q (F0 m pc ls rest) q9)
    (kk : ∀ (r : Int64) (u : S) (t : State) (H1 : Heap) (locs1 : List Loc), t.heap = H1 → s.vm.Alike t.vm → post r u → B u t → H.size ≤ H1.size → (∀ q : Nat, q < H.size → ¬ A1 q → H1[q]? = H[q]?) → va_S A0 H0 H1 locs1 → W p l e R s m args below meth c H1 locs1 (cells + mc) (slots + ms) Q (F0 m (pc + 3) ls (.long r :: rest))) : W p l e R s m args below meth c H locs cells slots Q (F0 m pc ls st0) := by
  intro T hT X
  rcases hr T hT X with ⟨v, st₀, t, T', L, h0, X', hL, e1, e2, ⟨⟨r, u, hv, hp, hb⟩, hF⟩, st⟩ | ⟨q, st₀, t, T', L, E, ce, h0, X', hL, e1, e2, ⟨u, hp, hb, hF⟩, hce, hcv, hcl, st⟩
  · cases hv
    obtain ⟨k1, k2, k3⟩ := vx_keep h0 e1 hS hA hf hL hF
    obtain ⟨t2, a1, b1⟩ := kk r u t T'.heap (locs ++ L) e1.symm (by rw [← e2]; exact X'.warmed.alike) hp hb k1 k2 k3 T' rfl X'
    exact ⟨t2, st t2 a1, b1⟩
  · obtain ⟨k1, k2, k3⟩ := vx_keep h0 e1 hS hAX hf hL hF
    obtain ⟨t2, a1, b1⟩ := kx E ce q u t T'.heap (locs ++ L) e1.symm (by rw [← e2]; exact X'.warmed.alike) hp hb k1 k2 k3 (by rw [e1]; exact hce) hcv hcl T' rfl X'
    exact ⟨t2, st.trans a1, b1⟩
theorem vx_callf {S SX : Type} {post : UInt32 → S → Prop} {px : SX → Prop} {B : S → State → Prop} {BX : String → SX → State → Prop} {AX : Nat → Prop} (hr : vx_Run p l e R s m args below meth c H locs cells slots mc ms (F0 m pc ls st0) rest (va_Qf post B A1 a) (vx_X px BX AX) free) (hS : va_S A0 H0 H locs) (hA : ∀ q, q < H.size → A1 q → A0 q) (hf : ∀ q, free q → A0 q) (hAX : ∀ q, q < H.size → AX q → A0 q)
    (kx : ∀ (E : String) (ce : Cell) (q9 : Addr) (u : SX) (t : State) (H1 : Heap) (locs1 : List Loc), t.heap = H1 → s.vm.Alike t.vm → px u → BX E u t → H.size ≤ H1.size → (∀ q : Nat, q < H.size → ¬ AX q → H1[q]? = H[q]?) → va_S A0 H0 H1 locs1 → H1[q9]? = some ce → ce.vm = .none → s.vm.findClass E = some ce.cls → vx_W p l e R s m args below meth c H1 locs1 (cells + mc) (slots + ms) Q (F0 m pc ls rest) q9)
    (kk : ∀ (r : UInt32) (u : S) (t : State) (H1 : Heap) (locs1 : List Loc), t.heap = H1 → s.vm.Alike t.vm → post r u → B u t → H.size ≤ H1.size → (∀ q : Nat, q < H.size → ¬ A1 q → H1[q]? = H[q]?) → va_S A0 H0 H1 locs1 → W p l e R s m args below meth c H1 locs1 (cells + mc) (slots + ms) Q (F0 m (pc + 3) ls (.float r :: rest))) : W p l e R s m args below meth c H locs cells slots Q (F0 m pc ls st0) := by
  intro T hT X
  rcases hr T hT X with ⟨v, st₀, t, T', L, h0, X', hL, e1, e2, ⟨⟨r, u, hv, hp, hb⟩, hF⟩, st⟩ | ⟨q, st₀, t, T', L, E, ce, h0, X', hL, e1, e2, ⟨u, hp, hb, hF⟩, hce, hcv, hcl, st⟩
  · cases hv
    obtain ⟨k1, k2, k3⟩ := vx_keep h0 e1 hS hA hf hL hF
    obtain ⟨t2, a1, b1⟩ := kk r u t T'.heap (locs ++ L) e1.symm (by rw [← e2]; exact X'.warmed.alike) hp hb k1 k2 k3 T' rfl X'
    exact ⟨t2, st t2 a1, b1⟩
  · obtain ⟨k1, k2, k3⟩ := vx_keep h0 e1 hS hAX hf hL hF
    obtain ⟨t2, a1, b1⟩ := kx E ce q u t T'.heap (locs ++ L) e1.symm (by rw [← e2]; exact X'.warmed.alike) hp hb k1 k2 k3 (by rw [e1]; exact hce) hcv hcl T' rfl X'
    exact ⟨t2, st.trans a1, b1⟩
theorem vx_calld {S SX : Type} {post : UInt64 → S → Prop} {px : SX → Prop} {B : S → State → Prop} {BX : String → SX → State → Prop} {AX : Nat → Prop} (hr : vx_Run p l e R s m args below meth c H locs cells slots mc ms (F0 m pc ls st0) rest (va_Qd post B A1 a) (vx_X px BX AX) free) (hS : va_S A0 H0 H locs) (hA : ∀ q, q < H.size → A1 q → A0 q) (hf : ∀ q, free q → A0 q) (hAX : ∀ q, q < H.size → AX q → A0 q)
    (kx : ∀ (E : String) (ce : Cell) (q9 : Addr) (u : SX) (t : State) (H1 : Heap) (locs1 : List Loc), t.heap = H1 → s.vm.Alike t.vm → px u → BX E u t → H.size ≤ H1.size → (∀ q : Nat, q < H.size → ¬ AX q → H1[q]? = H[q]?) → va_S A0 H0 H1 locs1 → H1[q9]? = some ce → ce.vm = .none → s.vm.findClass E = some ce.cls → vx_W p l e R s m args below meth c H1 locs1 (cells + mc) (slots + ms) Q (F0 m pc ls rest) q9)
    (kk : ∀ (r : UInt64) (u : S) (t : State) (H1 : Heap) (locs1 : List Loc), t.heap = H1 → s.vm.Alike t.vm → post r u → B u t → H.size ≤ H1.size → (∀ q : Nat, q < H.size → ¬ A1 q → H1[q]? = H[q]?) → va_S A0 H0 H1 locs1 → W p l e R s m args below meth c H1 locs1 (cells + mc) (slots + ms) Q (F0 m (pc + 3) ls (.double r :: rest))) : W p l e R s m args below meth c H locs cells slots Q (F0 m pc ls st0) := by
  intro T hT X
  rcases hr T hT X with ⟨v, st₀, t, T', L, h0, X', hL, e1, e2, ⟨⟨r, u, hv, hp, hb⟩, hF⟩, st⟩ | ⟨q, st₀, t, T', L, E, ce, h0, X', hL, e1, e2, ⟨u, hp, hb, hF⟩, hce, hcv, hcl, st⟩
  · cases hv
    obtain ⟨k1, k2, k3⟩ := vx_keep h0 e1 hS hA hf hL hF
    obtain ⟨t2, a1, b1⟩ := kk r u t T'.heap (locs ++ L) e1.symm (by rw [← e2]; exact X'.warmed.alike) hp hb k1 k2 k3 T' rfl X'
    exact ⟨t2, st t2 a1, b1⟩
  · obtain ⟨k1, k2, k3⟩ := vx_keep h0 e1 hS hAX hf hL hF
    obtain ⟨t2, a1, b1⟩ := kx E ce q u t T'.heap (locs ++ L) e1.symm (by rw [← e2]; exact X'.warmed.alike) hp hb k1 k2 k3 (by rw [e1]; exact hce) hcv hcl T' rfl X'
    exact ⟨t2, st.trans a1, b1⟩
theorem vx_callv {S SX : Type} {post : S → Prop} {px : SX → Prop} {B : S → State → Prop} {BX : String → SX → State → Prop} {AX : Nat → Prop} (hr : vx_Run p l e R s m args below meth c H locs cells slots mc ms (F0 m pc ls st0) rest (va_Qv post B A1 a) (vx_X px BX AX) free) (hS : va_S A0 H0 H locs) (hA : ∀ q, q < H.size → A1 q → A0 q) (hf : ∀ q, free q → A0 q) (hAX : ∀ q, q < H.size → AX q → A0 q)
    (kx : ∀ (E : String) (ce : Cell) (q9 : Addr) (u : SX) (t : State) (H1 : Heap) (locs1 : List Loc), t.heap = H1 → s.vm.Alike t.vm → px u → BX E u t → H.size ≤ H1.size → (∀ q : Nat, q < H.size → ¬ AX q → H1[q]? = H[q]?) → va_S A0 H0 H1 locs1 → H1[q9]? = some ce → ce.vm = .none → s.vm.findClass E = some ce.cls → vx_W p l e R s m args below meth c H1 locs1 (cells + mc) (slots + ms) Q (F0 m pc ls rest) q9)
    (kk : ∀ (u : S) (t : State) (H1 : Heap) (locs1 : List Loc), t.heap = H1 → s.vm.Alike t.vm → post u → B u t → H.size ≤ H1.size → (∀ q : Nat, q < H.size → ¬ A1 q → H1[q]? = H[q]?) → va_S A0 H0 H1 locs1 → W p l e R s m args below meth c H1 locs1 (cells + mc) (slots + ms) Q (F0 m (pc + 3) ls (rest))) : W p l e R s m args below meth c H locs cells slots Q (F0 m pc ls st0) := by
  intro T hT X
  rcases hr T hT X with ⟨v, st₀, t, T', L, h0, X', hL, e1, e2, ⟨⟨u, hv, hp, hb⟩, hF⟩, st⟩ | ⟨q, st₀, t, T', L, E, ce, h0, X', hL, e1, e2, ⟨u, hp, hb, hF⟩, hce, hcv, hcl, st⟩
  · cases hv
    obtain ⟨k1, k2, k3⟩ := vx_keep h0 e1 hS hA hf hL hF
    obtain ⟨t2, a1, b1⟩ := kk u t T'.heap (locs ++ L) e1.symm (by rw [← e2]; exact X'.warmed.alike) hp hb k1 k2 k3 T' rfl X'
    exact ⟨t2, st t2 a1, b1⟩
  · obtain ⟨k1, k2, k3⟩ := vx_keep h0 e1 hS hAX hf hL hF
    obtain ⟨t2, a1, b1⟩ := kx E ce q u t T'.heap (locs ++ L) e1.symm (by rw [← e2]; exact X'.warmed.alike) hp hb k1 k2 k3 (by rw [e1]; exact hce) hcv hcl T' rfl X'
    exact ⟨t2, st.trans a1, b1⟩
/-- caught by the row x of this method's table; the rows ahead don't take it -/
theorem vx_catch {own name : String} {E : String} {ce : Cell} {q : Addr} (hown : s.vm.findClass own = some m.cls) (pre : List ExceptionTableEntry) (x : ExceptionTableEntry) (suf : List ExceptionTableEntry) (hsplit : c.exceptionTable.toList = pre ++ x :: suf)
    (hpass : ∀ z ∈ pre, covers z pc = false ∨ (z.catchType ≠ 0 ∧ ∃ nm : String, (Cond.classLink own z.catchType nm).before args s = true ∧ va_Nc E nm s)) (hx : covers x pc = true) (h0 : x.catchType ≠ 0)
    (hlink : (Cond.classLink own x.catchType name).before args s = true) (hcast : (Cond.castable E name).before args s = true) (hcell : H[q]? = some ce) (hv : ce.vm = .none) (hcl : s.vm.findClass E = some ce.cls)
    (kk : W p l e R s m args below meth c H locs cells slots Q (F0 m x.handlerPc ls [.ref q])) : vx_W p l e R s m args below meth c H locs cells slots Q (F0 m pc ls rest) q := by
  intro T hT X
  have hpl : e.platform.magicAccessors = ({} : Platform).magicAccessors := by rw [X.admits.platform]
  obtain ⟨c3, c4, hc3, hc4, hasg⟩ := Cond.castable_spec hcast
  cases Option.some.inj (hc3.symm.trans hcl)
  obtain ⟨c5, hc5, hcl5⟩ := Cond.classLink_spec hown hlink e.platform hpl
  cases Option.some.inj (hc4.symm.trans hc5)
  obtain ⟨vm', X', st⟩ := X.thenCaughtThrough q (g := F0 m pc ls rest) rfl (Steps.refl _) (by rw [hT]; exact hcell) (by rw [hv]; rfl) (by obtain ⟨k9, h9, -⟩ := Vm.findClass_spec hcl; exact ⟨k9, h9⟩) pre x suf hsplit
    (fun z hz => by
      rcases hpass z hz with h | ⟨hz0, nm, hl1, hn1⟩
      · exact Or.inl h
      · obtain ⟨c6, hc6, hcl6⟩ := Cond.classLink_spec hown hl1 e.platform hpl
        obtain ⟨a8, b8, h1, h2, h3⟩ := hn1
        cases Option.some.inj (h1.symm.trans hcl)
        cases Option.some.inj (h2.symm.trans hc6)
        exact Or.inr ⟨hz0, _, hcl6, h3⟩) hx (Or.inr ⟨h0, c4, hcl5, hasg⟩)
  obtain ⟨t, a1, b1⟩ := kk (T.setVm vm') hT X'
  exact ⟨t, st.trans a1, b1⟩
end Rows
section Ends
variable {p : Program} {l : Launch} {e : Env} {R : Room} {s : State} {m : MethodId} {args : Array Value} {below : List Frame} {meth : Method} {c : Code} {H : Heap} {locs : List Loc} {cells slots : Nat} {Q : State → Prop}
variable {mc ms : Nat} {free : Addr → Prop} {A0 A1 : Nat → Prop} {H0 : Heap} {a : Array Value} {ls : Array Slot} {st0 rest : List Value}
variable {Qc : Array Value → State → Outcome → State → Prop} {XC : String → State → State → Prop}
/-- what a body that may throw owes at its end -/
def vx_MQ (below : List Frame) (Qc : Array Value → State → Outcome → State → Prop) (XC : String → State → State → Prop) (a : Array Value) (s : State) (mc ms : Nat) (free : Addr → Prop) : State → Prop := fun t =>
  ∃ o, t.status = .running ∧ Ended t below o ∧ vx_Q Qc XC mc ms free a s o t
theorem vx_ret {g : JFrame} {mc ms : Nat} (k : W p l e R s m args below meth c H locs cells slots (MQ below Qc args s mc ms free) g) : W p l e R s m args below meth c H locs cells slots (vx_MQ below Qc XC args s mc ms free) g := by
  intro T hT X
  obtain ⟨t, a1, o, b1, b2, b3, b4⟩ := k T hT X
  exact ⟨t, a1, o, b1, b2, Or.inl ⟨b3, b4⟩⟩
/-- not caught here: it goes on to the caller -/
theorem vx_widen {g : JFrame} {q : Addr} {k n : Nat} (h1 : cells ≤ k) (h2 : slots ≤ n) (kk : vx_W p l e R s m args below meth c H locs k n Q g q) : vx_W p l e R s m args below meth c H locs cells slots Q g q := fun T hT X => kk T hT (stand_widen X h1 h2)
theorem vx_out {pc : Nat} {E : String} {ce : Cell} {q : Addr} {mc ms : Nat} (hout : ∀ x ∈ c.exceptionTable.toList, covers x pc = false) (hlocks : meth.locks = false) (hcell : H[q]? = some ce) (hv : ce.vm = .none) (hcl : s.vm.findClass E = some ce.cls)
    (hx : ∀ t : State, t.heap = H → s.vm.Alike t.vm → XC E s t) (hf : ∀ z ∈ locs, free z.base) (hc : cells ≤ mc) (hs : slots ≤ ms) :
    vx_W p l e R s m args below meth c H locs cells slots (vx_MQ below Qc XC args s mc ms free) (F0 m pc ls rest) q := by
  intro T hT X
  obtain ⟨st1, hrun, hend, hW, hsm⟩ := X.leaveThrown q (g := F0 m pc ls rest) rfl rfl rfl hout hlocks
  have hcell9 : (T.setFrames (.throwing q :: below)).heap[q]? = some ce := by
    show T.heap[q]? = some ce
    rw [hT]; exact hcell
  exact ⟨_, st1, .threw q, hrun, hend, Or.inr ⟨q, rfl, E, ce, locs, hx _ hT hW.alike, hcell9, hv, hcl, hW, hsm.mono hc hs, hf⟩⟩
theorem vx_frame {U : State} {k n : Nat} (h : s.sameButNew ({ U with vm := s.vm } : State) locs k n) : s.heap.size ≤ U.heap.size ∧ ∀ q : Nat, q < s.heap.size → (∀ z ∈ locs, z.base ≠ q) → U.heap[q]? = s.heap[q]? := by
  obtain ⟨-, h2, -, -, -, h6⟩ := h
  refine ⟨h2, fun q hq hz => ?_⟩
  obtain ⟨c9, e1, e2, e3, e4⟩ := h6 q _ (Array.getElem?_eq_getElem hq)
  have hs : c9.slots = (s.heap[q]).slots := Array.ext_getElem? fun i => e4 i fun hm => hz _ hm rfl
  have h9 : c9 = s.heap[q] := by
    rw [hs] at e2
    exact e2
  have e5 : U.heap[q]? = some c9 := e1
  rw [e5, h9, Array.getElem?_eq_getElem hq]
/-- the words of a throw but the four that speak of the heap -/
def vx_no (w : Cond) : Bool := decide (w ≠ .isRef (.static Bundle.tN "UNASSIGNED_STACK" Bundle.steD)) && decide (w ≠ .isRef (.static Bundle.tN "SUPPRESSED_SENTINEL" Bundle.listD)) && decide (w ≠ .laysStatic Bundle.tN "UNASSIGNED_STACK" Bundle.steD) && decide (w ≠ .laysStatic Bundle.tN "SUPPRESSED_SENTINEL" Bundle.listD)
def vx_at0 (own : String) (ic : Nat) (X : String) (names : List String) : List Cond := (Bundle.ownAtoms0 own ic X names).filter vx_no
def vx_atS (own : String) (ic : Nat) (X : String) (names : List String) : List Cond := (Bundle.ownAtoms own ic X names).filter vx_no
/-- a word that the tables alone decide, or a good one -/
def vx_ot (w : Cond) : Bool := w.onTables || goodWord w
theorem vx_ot_at {args a' : Array Value} {s U : State} {w : Cond} (hW : s.WarmedH U.vm) (hvm : s.vm = U.vm) (hg : vx_ot w = true) (h : w.before args s = true) : w.before a' U = true := by
  simp only [vx_ot, Bool.or_eq_true] at hg
  rcases hg with hg | hg
  · exact va_tabs hg hvm h
  · exact word_at hW (good_of_word hg) h
/-- a list's words: the good ones out of the method's own list, the others by premises of their own -/
theorem vx_hat {args : Array Value} {s : State} {L B : List Cond} (h1 : ∀ w ∈ L.filter goodWord, w.before args s = true) (h2 : ∀ w ∈ L.filter (fun w => !goodWord w), w ∈ B) (h3 : ∀ w ∈ B, w.before args s = true) : ∀ w ∈ L, w.before args s = true := by
  intro w hw
  by_cases g : goodWord w = true
  · exact h1 w (List.mem_filter.mpr ⟨hw, g⟩)
  · refine h3 w (h2 w (List.mem_filter.mpr ⟨hw, ?_⟩))
    show (!goodWord w) = true
    cases hgw : goodWord w
    · rfl
    · exact absurd hgw g
theorem vx_c {args : Array Value} {s : State} {w : Cond} {B : List Cond} (h : w.before args s = true) (t : ∀ w ∈ B, w.before args s = true) : ∀ w' ∈ w :: B, w'.before args s = true := fun w' h' => (List.mem_cons.mp h').elim (fun e => by rw [e]; exact h) (t w')
theorem vx_n {args : Array Value} {s : State} : ∀ w ∈ ([] : List Cond), w.before args s = true := fun _ h => nomatch h
theorem vx_own {args : Array Value} {s : State} {L : List Cond} (h1 : ∀ w ∈ L.filter vx_no, w.before args s = true)
    (hU : (Cond.isRef (.static Bundle.tN "UNASSIGNED_STACK" Bundle.steD)).before args s = true) (hN : (Cond.isRef (.static Bundle.tN "SUPPRESSED_SENTINEL" Bundle.listD)).before args s = true)
    (lU : (Cond.laysStatic Bundle.tN "UNASSIGNED_STACK" Bundle.steD).before args s = true) (lN : (Cond.laysStatic Bundle.tN "SUPPRESSED_SENTINEL" Bundle.listD).before args s = true) : ∀ w ∈ L, w.before args s = true := by
  intro w hw
  by_cases e1 : w = .isRef (.static Bundle.tN "UNASSIGNED_STACK" Bundle.steD)
  · rw [e1]; exact hU
  · by_cases e2 : w = .isRef (.static Bundle.tN "SUPPRESSED_SENTINEL" Bundle.listD)
    · rw [e2]; exact hN
    · by_cases e3 : w = .laysStatic Bundle.tN "UNASSIGNED_STACK" Bundle.steD
      · rw [e3]; exact lU
      · by_cases e4 : w = .laysStatic Bundle.tN "SUPPRESSED_SENTINEL" Bundle.listD
        · rw [e4]; exact lN
        · exact h1 w (List.mem_filter.mpr ⟨hw, by unfold vx_no; rw [decide_eq_true e1, decide_eq_true e2, decide_eq_true e3, decide_eq_true e4]; rfl⟩)
/-- where a static field lies, its class's statics cell in H -/
def vx_L (C n d : String) (A : Nat → Prop) (U : State) (H : Heap) : Prop := ∃ (c : ClassId) (k : Class) (i : Nat) (f : Field) (a : Nat) (cell : Cell), U.vm.findClass C = some c ∧ U.fieldFound? C n d = some (c, k, i, f) ∧ f.isStatic = true ∧ k.statics = some a ∧ H[a]? = some cell ∧ cell.vm.isStatics = true ∧ cell.cls = c ∧ f.slot < cell.slots.size ∧ k.staticTypes[f.slot]? = some f.type ∧ ¬ A a
theorem vx_L.moved {C n d : String} {A : Nat → Prop} {u U : State} {H : Heap} (hvm : u.vm.Alike U.vm) (h : vx_L C n d A u H) : vx_L C n d A U H := by
  obtain ⟨c, k, i, f, a, cell, h1, h2, h3, h4, h5, h6, h7, h8, h9, h10⟩ := h
  obtain ⟨k', hi', he⟩ := State.fieldFound?_setVm hvm h2
  exact ⟨c, k', i, f, a, cell, by rw [hvm.findClass]; exact h1, hi', h3, by rw [he]; exact h4, h5, h6, h7, h8, by rw [he]; exact h9, h10⟩
theorem vx_L.kept {C n d : String} {A : Nat → Prop} {U : State} {H H1 : Heap} (h : vx_L C n d A U H) (hq : ∀ a : Nat, a < H.size → ¬ A a → H1[a]? = H[a]?) : vx_L C n d A U H1 := by
  obtain ⟨c, k, i, f, a, cell, h1, h2, h3, h4, h5, h6, h7, h8, h9, h10⟩ := h
  exact ⟨c, k, i, f, a, cell, h1, h2, h3, h4, by rw [hq a (Array.getElem?_eq_some_iff.mp h5).1 h10]; exact h5, h6, h7, h8, h9, h10⟩
theorem vx_L.narrow {C n d : String} {A B : Nat → Prop} {U : State} {H : Heap} (h : vx_L C n d A U H) (hAB : ∀ q, B q → A q) : vx_L C n d B U H := by
  obtain ⟨c, k, i, f, a, cell, h1, h2, h3, h4, h5, h6, h7, h8, h9, h10⟩ := h
  exact ⟨c, k, i, f, a, cell, h1, h2, h3, h4, h5, h6, h7, h8, h9, fun z => h10 (hAB _ z)⟩
theorem vx_L.word {C n d : String} {A : Nat → Prop} {s : State} {args : Array Value} (h : vx_L C n d A s s.heap) : (Cond.laysStatic C n d).before args s = true := by
  obtain ⟨c, k, i, f, a, cell, h1, h2, h3, h4, h5, h6, h7, h8, h9, -⟩ := h
  show (Cond.laysStatic C n d).holds args s none s [] = true
  exact Cond.laysStatic_of h1 h2 h3 h4 h5 h6 h7 h8 h9
/-- .. and what it holds: null or some reference -/
def vx_Zq (C n d : String) (A : Nat → Prop) (U : State) (H : Heap) : Prop := va_Zq C n d A U H ∧ vx_L C n d A U H
theorem vx_Zq.moved {C n d : String} {A : Nat → Prop} {u U : State} {H : Heap} (hvm : u.vm.Alike U.vm) (h : vx_Zq C n d A u H) : vx_Zq C n d A U H := ⟨va_Zq.moved hvm h.1, vx_L.moved hvm h.2⟩
theorem vx_Zq.kept {C n d : String} {A : Nat → Prop} {U : State} {H H1 : Heap} (h : vx_Zq C n d A U H) (hq : ∀ a : Nat, a < H.size → ¬ A a → H1[a]? = H[a]?) : vx_Zq C n d A U H1 := ⟨va_Zq.kept h.1 hq, vx_L.kept h.2 hq⟩
theorem vx_Zq.narrow {C n d : String} {A B : Nat → Prop} {U : State} {H : Heap} (h : vx_Zq C n d A U H) (hAB : ∀ q, B q → A q) : vx_Zq C n d B U H := ⟨va_Zq.narrow h.1 hAB, vx_L.narrow h.2 hAB⟩
theorem vx_Zqof {args : Array Value} {s : State} {C n d : String} {A : Nat → Prop} (hl : (Cond.laysStatic C n d).before args s = true) (hini : (Cond.initialized C).before args s = true) (h : (Cond.isRef (.static C n d)).before args s = true) (hA : ∀ a : Nat, a < s.heap.size → ¬ A a) : vx_Zq C n d A s s.heap := by
  refine ⟨va_Zqof hl hini h hA, ?_⟩
  obtain ⟨c, k, i, f, a, cell, h1, h2, h3, h4, h5, h6, h7, h8, h9⟩ := Cond.laysStatic_spec hl
  exact ⟨c, k, i, f, a, cell, h1, h2, h3, h4, h5, h6, h7, h8, h9, hA a (Array.getElem?_eq_some_iff.mp h5).1⟩
theorem vx_isRef {C n d : String} {v : Value} {A : Nat → Prop} {s : State} {args : Array Value} (h : va_Z C n d v A s s.heap) (hv : v.isRef = true) : (Cond.isRef (.static C n d)).before args s = true := by
  obtain ⟨cf, kf, fi, f, a, cell, h1, h2, h3, h4, h5, h6, h7, -⟩ := h
  have he : (Term.static C n d).eval args s none [] s = some v := by
    simp [Term.eval, State.fieldNamed?, h1, h2, h4, h5, h6, h7]
  simp only [Cond.before, Cond.holds, Cond.value, he]
  cases v <;> simp_all [Value.isRef]
theorem vx_isRefq {C n d : String} {A : Nat → Prop} {s : State} {args : Array Value} (h : va_Zq C n d A s s.heap) : (Cond.isRef (.static C n d)).before args s = true := by
  rcases h with h | ⟨t, h⟩
  · exact vx_isRef h rfl
  · exact vx_isRef h rfl
/-- the same frame, seen from here: as if the method were called anew in this heap -/
theorem vx_rebase {T : State} (X : Stand p l e R s m args below meth c T locs cells slots) {R' : Room} (hf : R'.frames ≤ R.frames) (hl : R'.locals ≤ R.locals) (hc : cells + R'.cells ≤ R.cells) (hs : slots + R'.slots ≤ R.slots) :
    Stand p l e R' ((T.setVm s.vm).setFrames (.invoking m args :: below)) m args below meth c T [] 0 0 := by
  have htop : (T.setVm s.vm).topJava?.isSome := X.here.top
  have hF : ((T.setVm s.vm).setFrames (.invoking m args :: below)).frames = .invoking m args :: below := State.frames_setFrames _ (State.cur_lt_of_top htop)
  obtain ⟨g₀, hg0⟩ := Option.isSome_iff_exists.mp htop
  obtain ⟨r, hr⟩ := State.topJava?_eq_some.mp hg0
  have hl9 : e.platform.stackLimits (T.setVm s.vm).me = e.platform.stackLimits s.me := X.limits
  have hb9 : (T.setVm s.vm).me.stackBytes = s.me.stackBytes := X.bytes
  refine ⟨X.admits, X.cas, X.clock, hF, ?_, X.hears, X.method, X.code, X.here, X.tail, X.warmed, ?_, ?_, ?_⟩
  · have h := X.room
    have hU : ((T.setVm s.vm).setFrames (.invoking m args :: below)).localsInUse = s.localsInUse := by
      rw [State.localsInUse_invoking hF (meth := meth) (c := c) X.method X.code, State.localsInUse_invoking X.frames X.method X.code]
    simp only [State.hasRoom, Bool.and_eq_true, decide_eq_true_eq] at h ⊢
    obtain ⟨⟨⟨⟨h1, h2, h3, h4, h5, h6⟩, h7⟩, h8⟩, h9⟩ := h
    rw [X.frames, List.length_cons] at h2 h3
    have q1 := X.heapSize
    have q2 := X.used
    simp only [hF, hU, List.length_cons, State.stackLimits_setFrames, State.stackBytes_setFrames, hl9, hb9]
    refine ⟨⟨⟨⟨by omega, by omega, by omega, by omega, by omega, h6⟩, ?_⟩, ?_⟩, X.book⟩
    · show T.heap.size + R'.cells ≤ e.platform.maxCells
      omega
    · show T.slotsUsed + R'.slots ≤ e.platform.maxSlots
      omega
  · rw [State.stackLimits_setFrames]; rfl
  · rw [State.stackBytes_setFrames]; rfl
  · refine ⟨?_, Nat.le_refl _, Nat.le_refl _, ?_, ?_, fun a c9 h9 => ⟨c9, h9, rfl, rfl, fun _ _ => rfl⟩⟩
    · obtain ⟨t, ht, -⟩ := State.frames_cons hr
      show T.setVm s.vm = { ((T.setVm s.vm).setFrames (.invoking m args :: below)).setFrames (T.setVm s.vm).frames with heap := T.heap, slotsUsed := T.slotsUsed }
      rw [State.setFrames_setFrames, State.setFrames_self ht]
      rfl
    · show T.slotsUsed = T.slotsUsed + ((T.heap.toList.drop T.heap.size).map (·.slots.size)).sum
      rw [List.drop_eq_nil_of_le (Nat.le_of_eq Array.length_toList)]
      rfl
    · show ((T.heap.toList.drop T.heap.size).map (·.slots.size)).sum ≤ 0
      rw [List.drop_eq_nil_of_le (Nat.le_of_eq Array.length_toList)]
      exact Nat.le_refl _
/-- 'throw new E()': new; dup; invokespecial; athrow -/
theorem vx_throw0 {cc : ByteArray} {pc : Nat} (hexec : p.tables.exec = Jvm.exec) (hb : c.code = cc) (hl : l.stackTraces = false) {own cls : String} {names : List String} {ik ic mc ms : Nat} {A : Nat → Prop}
    (hown : s.vm.findClass own = some m.cls) (hcls : Bundle.fit cls = true) (hnames : ∀ n ∈ names, Bundle.fit n = true)
    (hk : (Cond.classLink own ik cls).before args s = true) (hini : (Cond.initialized cls).before args s = true) (hat : ∀ w ∈ vx_at0 own ic cls names, w.before args s = true)
    (hgood : ∀ w ∈ Cond.classLink own ik cls :: Cond.initialized cls :: vx_at0 own ic cls names, vx_ot w = true)
    (hU : vx_Zq Bundle.tN "UNASSIGNED_STACK" Bundle.steD A s s.heap) (hN : vx_Zq Bundle.tN "SUPPRESSED_SENTINEL" Bundle.listD A s s.heap) (hS : va_S A s.heap H locs) (hsize : ls.size = c.maxLocals)
    (d0 : decode cc pc = .ok (.new ik, 3)) (d3 : decode cc (pc + 3) = .ok (.dup, 1)) (d4 : decode cc (pc + 4) = .ok (.invokespecial ic, 3)) (d7 : decode cc (pc + 7) = .ok (.athrow, 1))
    (hout : ∀ x ∈ c.exceptionTable.toList, covers x (pc + 7) = false)
    (hRframes : names.length + 3 < R.frames) (hRlocals : (rest.map fun v => v.category).sum + (13 * (names.length + 1) + 42) ≤ R.locals) (hRcells : cells + 1 ≤ R.cells) (hRslots : slots + 6 ≤ R.slots) (hlocks : meth.locks = false)
    (hx : ∀ t : State, s.vm.Alike t.vm → H.size ≤ t.heap.size → (∀ q : Nat, q < H.size → t.heap[q]? = H[q]?) → XC cls s t)
    (hf : ∀ z ∈ locs, free z.base) (hc : cells + 1 ≤ mc) (hs : slots + 6 ≤ ms) :
    W p l e R s m args below meth c H locs cells slots (vx_MQ below Qc XC args s mc ms free) (F0 m pc ls rest) := by
  intro T hT X
  have htr : e.platform.stackTraces = false := (show e.platform.stackTraces = l.stackTraces by rw [X.admits.platform]).trans hl
  have Y := vx_rebase X (R' := { frames := R.frames, locals := R.locals, cells := 1, slots := 6 }) (Nat.le_refl _) (Nat.le_refl _) hRcells hRslots
  obtain ⟨s', hA⟩ : ∃ z, z = (T.setVm s.vm).setFrames (.invoking m args :: below) := ⟨_, rfl⟩
  rw [← hA] at Y
  have hvm : s'.vm = s.vm := by rw [hA]; rfl
  have hhp : s'.heap = H := by rw [hA]; exact hT
  have hW0 : s.WarmedH s'.vm := by rw [hvm]; exact State.WarmedH.refl s
  have hat' : ∀ w ∈ vx_at0 own ic cls names, w.before args s' = true := fun w hw => vx_ot_at hW0 hvm.symm (hgood w (List.mem_cons_of_mem _ (List.mem_cons_of_mem _ hw))) (hat w hw)
  have hk' : (Cond.classLink own ik cls).before args s' = true := vx_ot_at hW0 hvm.symm (hgood _ List.mem_cons_self) hk
  have hini' : (Cond.initialized cls).before args s' = true := vx_ot_at hW0 hvm.symm (hgood _ (List.mem_cons_of_mem _ List.mem_cons_self)) hini
  have hU' : vx_Zq Bundle.tN "UNASSIGNED_STACK" Bundle.steD A s' s'.heap := by rw [hhp]; exact vx_Zq.moved hW0.alike (hU.kept hS.2.1)
  have hN' : vx_Zq Bundle.tN "SUPPRESSED_SENTINEL" Bundle.listD A s' s'.heap := by rw [hhp]; exact vx_Zq.moved hW0.alike (hN.kept hS.2.1)
  have h : ∀ w ∈ Bundle.ownAtoms0 own ic cls names, w.before args s' = true := vx_own hat' (vx_isRefq hU'.1) (vx_isRefq hN'.1) hU'.2.word hN'.2.word
  have hown' : s'.vm.findClass own = some m.cls := by rw [hvm]; exact hown
  have hins : (Cond.instantiable cls 6).before args s' = true := h _ (by simp [Bundle.ownAtoms0])
  obtain ⟨vm₁, cX, kX, hfX, hkX, -, -, X₁, st1⟩ := Y.newCold hexec (own := own) (C := cls) (index := ik) (n := 6) hown' hk' hins hini'
    (g := F0 m pc ls rest) rfl (by rw [hb]; exact d0) (Nat.le_refl _) (Nat.le_refl _)
  generalize hT1 : (T.setVm vm₁).pushCell { cls := cX, slots := kX.instanceTypes.map defaultValue, vm := .none } = T1 at X₁ st1
  have hcat : (Value.ref T.heap.size).category = 1 := rfl
  have hcellA : T1.heap[T.heap.size]? = some (freshCell cX kX) := by rw [← hT1]; exact State.heap_pushCell_size _ _
  have d3' : decode c.code (pc + 3) = .ok (.dup, 1) := by rw [hb]; exact d3
  obtain ⟨U, hsteps, hrun, hend, hW, hsame, ce, hce, hO⟩ := X₁.ctorThrow0 hexec htr (own := own) (cls := cls) (names := names) (ic := ic) hown' hcls hnames h (fun x hx => nomatch hx) hfX hkX hcellA (by rw [hhp, hT]; exact Nat.le_refl _)
    (g := { method := m, pc := pc + 4, locals := ls, stack := .ref T.heap.size :: .ref T.heap.size :: rest, locked := none }) rfl hsize rfl rfl (rest := rest) rfl
    (by rw [hb]; exact d4) (by rw [hb]; exact d7) hout hRframes (by simp only [List.map_cons, List.sum_cons, hcat]; omega) hlocks
  obtain ⟨f1, f2⟩ := vx_frame hsame
  rw [hhp] at f1 f2
  have hWs : s.WarmedH U.vm := State.WarmedH.trans hW0 hW
  have hcl : s.vm.findClass cls = some ce.cls := by
    have h9 := hO.cls
    rw [hvm] at h9
    exact h9
  have hall : s.sameButNew ({ U with vm := s.vm } : State) locs mc ms := by
    subst hA
    obtain ⟨e1, e2⟩ := hsame
    rw [State.setFrames_setFrames] at e1
    have h2 : (T.setVm s.vm).sameButNew ({ U with vm := s.vm } : State) [] (0 + 1) (0 + 6) := ⟨e1, e2⟩
    have h3 := X.same.trans h2
    rw [List.append_nil] at h3
    exact h3.mono hc hs
  refine ⟨U, ?_, .threw T.heap.size, hrun, hend, Or.inr ⟨T.heap.size, rfl, cls, ce, locs, hx U hWs.alike f1 (fun q hq => f2 q hq (fun z hz => nomatch hz)), hce, hO.vm, hcl, hWs, hall, hf⟩⟩
  refine st1 _ ?_
  show Steps p.tables e below (T1.setTop { method := m, pc := pc + 3, locals := ls, stack := .ref T.heap.size :: rest, locked := none }) _
  jvm_step X₁.here [X₁.here.top, hexec, d3', Value.category]
  exact hsteps
/-- 'throw new E("text")': new; dup; ldc; invokespecial; athrow -/
theorem vx_throwS {cc : ByteArray} {pc : Nat} (hexec : p.tables.exec = Jvm.exec) (hb : c.code = cc) (hl : l.stackTraces = false) {own cls text : String} {names : List String} {ik is ic mc ms sa : Nat} {A : Nat → Prop}
    (hown : s.vm.findClass own = some m.cls) (hcls : Bundle.fit cls = true) (hnames : ∀ n ∈ names, Bundle.fit n = true)
    (hk : (Cond.classLink own ik cls).before args s = true) (hini : (Cond.initialized cls).before args s = true) (hstr : vk_R own is text sa s) (hat : ∀ w ∈ vx_atS own ic cls names, w.before args s = true)
    (hgood : ∀ w ∈ Cond.classLink own ik cls :: Cond.initialized cls :: vx_atS own ic cls names, vx_ot w = true)
    (hU : vx_Zq Bundle.tN "UNASSIGNED_STACK" Bundle.steD A s s.heap) (hN : vx_Zq Bundle.tN "SUPPRESSED_SENTINEL" Bundle.listD A s s.heap) (hS : va_S A s.heap H locs) (hsize : ls.size = c.maxLocals)
    (d0 : decode cc pc = .ok (.new ik, 3)) (d3 : decode cc (pc + 3) = .ok (.dup, 1)) (d4 : decode cc (pc + 4) = .ok (.ldc is, 2)) (d6 : decode cc (pc + 6) = .ok (.invokespecial ic, 3)) (d9 : decode cc (pc + 9) = .ok (.athrow, 1))
    (hout : ∀ x ∈ c.exceptionTable.toList, covers x (pc + 9) = false)
    (hRframes : names.length + 3 < R.frames) (hRlocals : (rest.map fun v => v.category).sum + (13 * (names.length + 1) + 43) ≤ R.locals) (hRcells : cells + 1 ≤ R.cells) (hRslots : slots + 6 ≤ R.slots) (hlocks : meth.locks = false)
    (hx : ∀ t : State, s.vm.Alike t.vm → H.size ≤ t.heap.size → (∀ q : Nat, q < H.size → t.heap[q]? = H[q]?) → XC cls s t)
    (hf : ∀ z ∈ locs, free z.base) (hc : cells + 1 ≤ mc) (hs : slots + 6 ≤ ms) :
    W p l e R s m args below meth c H locs cells slots (vx_MQ below Qc XC args s mc ms free) (F0 m pc ls rest) := by
  intro T hT X
  have htr : e.platform.stackTraces = false := (show e.platform.stackTraces = l.stackTraces by rw [X.admits.platform]).trans hl
  have Y := vx_rebase X (R' := { frames := R.frames, locals := R.locals, cells := 1, slots := 6 }) (Nat.le_refl _) (Nat.le_refl _) hRcells hRslots
  obtain ⟨s', hA⟩ : ∃ z, z = (T.setVm s.vm).setFrames (.invoking m args :: below) := ⟨_, rfl⟩
  rw [← hA] at Y
  have hvm : s'.vm = s.vm := by rw [hA]; rfl
  have hhp : s'.heap = H := by rw [hA]; exact hT
  have hW0 : s.WarmedH s'.vm := by rw [hvm]; exact State.WarmedH.refl s
  have hat' : ∀ w ∈ vx_atS own ic cls names, w.before args s' = true := fun w hw => vx_ot_at hW0 hvm.symm (hgood w (List.mem_cons_of_mem _ (List.mem_cons_of_mem _ hw))) (hat w hw)
  have hk' : (Cond.classLink own ik cls).before args s' = true := vx_ot_at hW0 hvm.symm (hgood _ List.mem_cons_self) hk
  have hini' : (Cond.initialized cls).before args s' = true := vx_ot_at hW0 hvm.symm (hgood _ (List.mem_cons_of_mem _ List.mem_cons_self)) hini
  have hU' : vx_Zq Bundle.tN "UNASSIGNED_STACK" Bundle.steD A s' s'.heap := by rw [hhp]; exact vx_Zq.moved hW0.alike (hU.kept hS.2.1)
  have hN' : vx_Zq Bundle.tN "SUPPRESSED_SENTINEL" Bundle.listD A s' s'.heap := by rw [hhp]; exact vx_Zq.moved hW0.alike (hN.kept hS.2.1)
  have h : ∀ w ∈ Bundle.ownAtoms own ic cls names, w.before args s' = true := vx_own hat' (vx_isRefq hU'.1) (vx_isRefq hN'.1) hU'.2.word hN'.2.word
  have hown' : s'.vm.findClass own = some m.cls := by rw [hvm]; exact hown
  have hins : (Cond.instantiable cls 6).before args s' = true := h _ (by simp [Bundle.ownAtoms])
  obtain ⟨vm₁, cX, kX, hfX, hkX, -, -, X₁, st1⟩ := Y.newCold hexec (own := own) (C := cls) (index := ik) (n := 6) hown' hk' hins hini'
    (g := F0 m pc ls rest) rfl (by rw [hb]; exact d0) (Nat.le_refl _) (Nat.le_refl _)
  generalize hT1 : (T.setVm vm₁).pushCell { cls := cX, slots := kX.instanceTypes.map defaultValue, vm := .none } = T1 at X₁ st1
  have hcat : (Value.ref T.heap.size).category = 1 := rfl
  have hcellA : T1.heap[T.heap.size]? = some (freshCell cX kX) := by rw [← hT1]; exact State.heap_pushCell_size _ _
  have d3' : decode c.code (pc + 3) = .ok (.dup, 1) := by rw [hb]; exact d3
  have d4' : decode c.code (pc + 4) = .ok (.ldc is, 2) := by rw [hb]; exact d4
  have hstr' : vk_R own is text sa s' := vk_R.warm hW0 hstr
  obtain ⟨U, hsteps, hrun, hend, hW, hsame, ce, hce, hO⟩ := X₁.ctorThrowS hexec htr (own := own) (cls := cls) (names := names) (ic := ic) hown' hcls hnames h (fun x hx => nomatch hx) hfX hkX hcellA (by rw [hhp, hT]; exact Nat.le_refl _) (msg := .ref sa) rfl
    (g := { method := m, pc := pc + 6, locals := ls, stack := .ref sa :: .ref T.heap.size :: .ref T.heap.size :: rest, locked := none }) rfl hsize rfl rfl (rest := rest) rfl
    (by rw [hb]; exact d6) (by rw [hb]; exact d9) hout hRframes (by simp only [List.map_cons, List.sum_cons, hcat]; omega) hlocks
  obtain ⟨f1, f2⟩ := vx_frame hsame
  rw [hhp] at f1 f2
  have hWs : s.WarmedH U.vm := State.WarmedH.trans hW0 hW
  have hcl : s.vm.findClass cls = some ce.cls := by
    have h9 := hO.cls
    rw [hvm] at h9
    exact h9
  have hall : s.sameButNew ({ U with vm := s.vm } : State) locs mc ms := by
    subst hA
    obtain ⟨e1, e2⟩ := hsame
    rw [State.setFrames_setFrames] at e1
    have h2 : (T.setVm s.vm).sameButNew ({ U with vm := s.vm } : State) [] (0 + 1) (0 + 6) := ⟨e1, e2⟩
    have h3 := X.same.trans h2
    rw [List.append_nil] at h3
    exact h3.mono hc hs
  refine ⟨U, ?_, .threw T.heap.size, hrun, hend, Or.inr ⟨T.heap.size, rfl, cls, ce, locs, hx U hWs.alike f1 (fun q hq => f2 q hq (fun z hz => nomatch hz)), hce, hO.vm, hcl, hWs, hall, hf⟩⟩
  refine st1 _ ?_
  show Steps p.tables e below (T1.setTop { method := m, pc := pc + 3, locals := ls, stack := .ref T.heap.size :: rest, locked := none }) _
  jvm_step X₁.here [X₁.here.top, hexec, d3', Value.category]
  exact X₁.ldcString hexec (own := own) (text := text) (index := is) (a := sa) hown' hstr'.1 hstr'.2
    (g := { method := m, pc := pc + 4, locals := ls, stack := .ref T.heap.size :: .ref T.heap.size :: rest, locked := none }) rfl d4' _ hsteps
/-- 'throw new E("text")', the text by a wide index -/
theorem vx_throwSW {cc : ByteArray} {pc : Nat} (hexec : p.tables.exec = Jvm.exec) (hb : c.code = cc) (hl : l.stackTraces = false) {own cls text : String} {names : List String} {ik is ic mc ms sa : Nat} {A : Nat → Prop}
    (hown : s.vm.findClass own = some m.cls) (hcls : Bundle.fit cls = true) (hnames : ∀ n ∈ names, Bundle.fit n = true)
    (hk : (Cond.classLink own ik cls).before args s = true) (hini : (Cond.initialized cls).before args s = true) (hstr : vk_R own is text sa s) (hat : ∀ w ∈ vx_atS own ic cls names, w.before args s = true)
    (hgood : ∀ w ∈ Cond.classLink own ik cls :: Cond.initialized cls :: vx_atS own ic cls names, vx_ot w = true)
    (hU : vx_Zq Bundle.tN "UNASSIGNED_STACK" Bundle.steD A s s.heap) (hN : vx_Zq Bundle.tN "SUPPRESSED_SENTINEL" Bundle.listD A s s.heap) (hS : va_S A s.heap H locs) (hsize : ls.size = c.maxLocals)
    (d0 : decode cc pc = .ok (.new ik, 3)) (d3 : decode cc (pc + 3) = .ok (.dup, 1)) (d4 : decode cc (pc + 4) = .ok (.ldc_w is, 3)) (d7 : decode cc (pc + 7) = .ok (.invokespecial ic, 3)) (d10 : decode cc (pc + 10) = .ok (.athrow, 1))
    (hout : ∀ x ∈ c.exceptionTable.toList, covers x (pc + 10) = false)
    (hRframes : names.length + 3 < R.frames) (hRlocals : (rest.map fun v => v.category).sum + (13 * (names.length + 1) + 43) ≤ R.locals) (hRcells : cells + 1 ≤ R.cells) (hRslots : slots + 6 ≤ R.slots) (hlocks : meth.locks = false)
    (hx : ∀ t : State, s.vm.Alike t.vm → H.size ≤ t.heap.size → (∀ q : Nat, q < H.size → t.heap[q]? = H[q]?) → XC cls s t)
    (hf : ∀ z ∈ locs, free z.base) (hc : cells + 1 ≤ mc) (hs : slots + 6 ≤ ms) :
    W p l e R s m args below meth c H locs cells slots (vx_MQ below Qc XC args s mc ms free) (F0 m pc ls rest) := by
  intro T hT X
  have htr : e.platform.stackTraces = false := (show e.platform.stackTraces = l.stackTraces by rw [X.admits.platform]).trans hl
  have Y := vx_rebase X (R' := { frames := R.frames, locals := R.locals, cells := 1, slots := 6 }) (Nat.le_refl _) (Nat.le_refl _) hRcells hRslots
  obtain ⟨s', hA⟩ : ∃ z, z = (T.setVm s.vm).setFrames (.invoking m args :: below) := ⟨_, rfl⟩
  rw [← hA] at Y
  have hvm : s'.vm = s.vm := by rw [hA]; rfl
  have hhp : s'.heap = H := by rw [hA]; exact hT
  have hW0 : s.WarmedH s'.vm := by rw [hvm]; exact State.WarmedH.refl s
  have hat' : ∀ w ∈ vx_atS own ic cls names, w.before args s' = true := fun w hw => vx_ot_at hW0 hvm.symm (hgood w (List.mem_cons_of_mem _ (List.mem_cons_of_mem _ hw))) (hat w hw)
  have hk' : (Cond.classLink own ik cls).before args s' = true := vx_ot_at hW0 hvm.symm (hgood _ List.mem_cons_self) hk
  have hini' : (Cond.initialized cls).before args s' = true := vx_ot_at hW0 hvm.symm (hgood _ (List.mem_cons_of_mem _ List.mem_cons_self)) hini
  have hU' : vx_Zq Bundle.tN "UNASSIGNED_STACK" Bundle.steD A s' s'.heap := by rw [hhp]; exact vx_Zq.moved hW0.alike (hU.kept hS.2.1)
  have hN' : vx_Zq Bundle.tN "SUPPRESSED_SENTINEL" Bundle.listD A s' s'.heap := by rw [hhp]; exact vx_Zq.moved hW0.alike (hN.kept hS.2.1)
  have h : ∀ w ∈ Bundle.ownAtoms own ic cls names, w.before args s' = true := vx_own hat' (vx_isRefq hU'.1) (vx_isRefq hN'.1) hU'.2.word hN'.2.word
  have hown' : s'.vm.findClass own = some m.cls := by rw [hvm]; exact hown
  have hins : (Cond.instantiable cls 6).before args s' = true := h _ (by simp [Bundle.ownAtoms])
  obtain ⟨vm₁, cX, kX, hfX, hkX, -, -, X₁, st1⟩ := Y.newCold hexec (own := own) (C := cls) (index := ik) (n := 6) hown' hk' hins hini'
    (g := F0 m pc ls rest) rfl (by rw [hb]; exact d0) (Nat.le_refl _) (Nat.le_refl _)
  generalize hT1 : (T.setVm vm₁).pushCell { cls := cX, slots := kX.instanceTypes.map defaultValue, vm := .none } = T1 at X₁ st1
  have hcat : (Value.ref T.heap.size).category = 1 := rfl
  have hcellA : T1.heap[T.heap.size]? = some (freshCell cX kX) := by rw [← hT1]; exact State.heap_pushCell_size _ _
  have d3' : decode c.code (pc + 3) = .ok (.dup, 1) := by rw [hb]; exact d3
  have d4' : decode c.code (pc + 4) = .ok (.ldc_w is, 3) := by rw [hb]; exact d4
  have hstr' : vk_R own is text sa s' := vk_R.warm hW0 hstr
  obtain ⟨U, hsteps, hrun, hend, hW, hsame, ce, hce, hO⟩ := X₁.ctorThrowS hexec htr (own := own) (cls := cls) (names := names) (ic := ic) hown' hcls hnames h (fun x hx => nomatch hx) hfX hkX hcellA (by rw [hhp, hT]; exact Nat.le_refl _) (msg := .ref sa) rfl
    (g := { method := m, pc := pc + 7, locals := ls, stack := .ref sa :: .ref T.heap.size :: .ref T.heap.size :: rest, locked := none }) rfl hsize rfl rfl (rest := rest) rfl
    (by rw [hb]; exact d7) (by rw [hb]; exact d10) hout hRframes (by simp only [List.map_cons, List.sum_cons, hcat]; omega) hlocks
  obtain ⟨f1, f2⟩ := vx_frame hsame
  rw [hhp] at f1 f2
  have hWs : s.WarmedH U.vm := State.WarmedH.trans hW0 hW
  have hcl : s.vm.findClass cls = some ce.cls := by
    have h9 := hO.cls
    rw [hvm] at h9
    exact h9
  have hall : s.sameButNew ({ U with vm := s.vm } : State) locs mc ms := by
    subst hA
    obtain ⟨e1, e2⟩ := hsame
    rw [State.setFrames_setFrames] at e1
    have h2 : (T.setVm s.vm).sameButNew ({ U with vm := s.vm } : State) [] (0 + 1) (0 + 6) := ⟨e1, e2⟩
    have h3 := X.same.trans h2
    rw [List.append_nil] at h3
    exact h3.mono hc hs
  refine ⟨U, ?_, .threw T.heap.size, hrun, hend, Or.inr ⟨T.heap.size, rfl, cls, ce, locs, hx U hWs.alike f1 (fun q hq => f2 q hq (fun z hz => nomatch hz)), hce, hO.vm, hcl, hWs, hall, hf⟩⟩
  refine st1 _ ?_
  show Steps p.tables e below (T1.setTop { method := m, pc := pc + 3, locals := ls, stack := .ref T.heap.size :: rest, locked := none }) _
  jvm_step X₁.here [X₁.here.top, hexec, d3', Value.category]
  exact X₁.ldcStringW hexec (own := own) (text := text) (index := is) (a := sa) hown' hstr'.1 hstr'.2
    (g := { method := m, pc := pc + 4, locals := ls, stack := .ref T.heap.size :: .ref T.heap.size :: rest, locked := none }) rfl d4' _ hsteps
end Ends
section Bodies
variable {l : Launch}
theorem vx_ofW {y : MethodName} {ws ws' : List Cond} {rm : Room} {Pc : Array Value → State → Prop} {Qc : Array Value → State → Outcome → State → Prop} {XC : String → State → State → Prop} {mc ms : Nat} {free : Addr → Prop} {cc : ByteArray} {maxL : Nat} {ret : Option FieldType}
    (hy : plainName y.cls = true) (hw : ws = Cond.code y cc maxL ret :: ws')
    (body : ∀ p e s m args below meth c s₁, BodyLoose p l y (headSpec ws rm) cc maxL ret e s m args below meth c s₁ → c.maxLocals = maxL → (∀ x ∈ c.exceptionTable.toList, False) → Pc args s →
      W p l e (headSpec ws rm).room s m args below meth c s.heap [] 0 0 (vx_MQ below Qc XC args s mc ms free) (entryFrame m args maxL)) : vx_Met l y ws rm Pc Qc XC mc ms free := by
  refine MetFree.of_bodyS (code := cc) (maxLocals := maxL) (ret := ret) hy ?_ ?_
  · intro args s m h hn
    obtain ⟨meth, c, h1, h2, h3, h4, h5, h6, -, -⟩ := Cond.code_spec hn (atoms_spec (ws := ws) h _ (by rw [hw]; exact List.mem_cons_self))
    exact ⟨meth, c, h1, h2, h3, h4, h5, h6⟩
  · intro p e s m args below meth c s₁ B hml hP _
    have hh0 : s₁.heap = s.heap := by rw [B.state]; rfl
    have ht : ∀ x ∈ c.exceptionTable.toList, False := by
      obtain ⟨meth9, c9, h1, h2, -, -, -, -, h7, -⟩ := Cond.code_spec B.named (atoms_spec (ws := ws) B.pre _ (by rw [hw]; exact List.mem_cons_self))
      cases Option.some.inj (h1.symm.trans B.method)
      cases Option.some.inj (h2.symm.trans (Stand.of_body B).code)
      intro x hx
      rw [Array.isEmpty_iff.mp h7] at hx
      cases hx
    obtain ⟨t, a1, o, b1, b2, b3⟩ := body p e s m args below meth c s₁ B hml ht hP s₁ hh0 (Stand.of_body B)
    exact ⟨t, o, a1, b1, b2, b3⟩
/-- the table of a body with handlers -/
theorem vx_table {p : Program} {x y : MethodName} {S : Spec} {cc bytes : ByteArray} {maxL maxL' : Nat} {ret ret' : Option FieldType} {e : Env} {s s₁ : State} {m : MethodId} {args : Array Value} {below : List Frame} {meth : Method} {c : Code} {hh : List (Nat × Nat × Nat × Nat)}
    (B : BodyLoose p l y S cc maxL ret e s m args below meth c s₁) (h : (Cond.codeWith y bytes maxL' ret' hh).before args s = true) : c.exceptionTable.toList = tableOf hh := by
  obtain ⟨m9, meth9, c9, hn9, h1, h2, -, -, h6, -⟩ := Cond.codeWith_spec h
  cases Option.some.inj (hn9.symm.trans B.named)
  cases Option.some.inj (h1.symm.trans B.method)
  cases Option.some.inj (h2.symm.trans (Stand.of_body B).code)
  rw [← h6, table_eq]
end Bodies
end VXA
/-! ===== END ===== -/
/-! ===== BEGIN a static call of a method with an exception table ===== -/
section VXS
variable {p : Program} {l : Launch} {e : Env} {R : Room} {s : State} {m : MethodId} {args : Array Value} {below : List Frame} {meth : Method} {c : Code} {T : State} {H : Heap} {locs : List Loc} {cells slots : Nat}
abbrev vx_CSW (R : Room) (s : State) (args : Array Value) (own : String) (index : Nat) (y : MethodName) (bytes : ByteArray) (maxL : Nat) (ret : Option FieldType) (hh : List (Nat × Nat × Nat × Nat)) (ws : List Cond) (rm : Room) (mc ms n : Nat) : Prop :=
  (rm.cells = mc ∧ rm.slots = ms ∧ rm.frames + 1 ≤ R.frames ∧ 8 + (maxL + 11) + rm.locals ≤ R.locals ∧ (∀ w ∈ ws, ∀ (a' : Array Value) (U : State), s.WarmedH U.vm → w.before a' U = true) ∧ Cond.codeWith y bytes maxL ret hh ∈ ws) ∧
  (Cond.codeWith y bytes maxL ret hh).before args s = true ∧ (Cond.initialized y.cls).before args s = true ∧ (y.cls ≠ "java/lang/invoke/MethodHandle" ∧ y.cls ≠ "java/lang/invoke/VarHandle") ∧
  (∀ sig, parseMethodDescriptor y.desc = some sig → n = sig.parameters.length) ∧ (Cond.methodLink own index y).before args s = true ∧ (Cond.static y).before args s = true
theorem vx_cwSW {own : String} {index maxL mc ms : Nat} {y : MethodName} {bytes : ByteArray} {ret : Option FieldType} {hh : List (Nat × Nat × Nat × Nat)} {Ts ws ws' : List Cond} {rm : Room} (n : Nat) (ht : ∀ w ∈ Ts, w.before args s = true) (hT : GoodIn Ts (va_wsS own index y ws)) (hw : ws = Cond.codeWith y bytes maxL ret hh :: ws') (hrc : rm.cells = mc) (hrs : rm.slots = ms)
    (hd : y.cls ≠ "java/lang/invoke/MethodHandle" ∧ y.cls ≠ "java/lang/invoke/VarHandle" ∧ (parseMethodDescriptor y.desc).map (fun d => d.parameters.length) = some n) (hR : rm.frames + 1 ≤ R.frames ∧ 8 + (maxL + 11) + rm.locals ≤ R.locals) :
    vx_CSW R s args own index y bytes maxL ret hh ws rm mc ms n := by
  have ok : ∀ w ∈ va_wsS own index y ws, w.before args s = true := fun w h => ht w (hT w h).1
  have hG : GoodIn Ts ws := fun w h => hT w (by unfold va_wsS; exact List.mem_append_right _ h)
  have hc : Cond.codeWith y bytes maxL ret hh ∈ ws := by rw [hw]; exact List.mem_cons_self
  refine ⟨⟨hrc, hrs, hR.1, hR.2, pay_in ht hG, hc⟩, ht _ (hG _ hc).1, ok _ (by simp [va_wsS]), ⟨hd.1, hd.2.1⟩, fun sig h => ?_, ok _ (by simp [va_wsS]), ok _ (by simp [va_wsS])⟩
  have h2 := hd.2.2
  rw [h] at h2
  exact (Option.some.inj h2).symm
theorem vx_callSW (X : Stand p l e R s m args below meth c T locs cells slots) (hexec : p.tables.exec = Jvm.exec) {own : String} {index : Nat} {y : MethodName} {bytes : ByteArray} {maxL : Nat} {ret : Option FieldType} {hh : List (Nat × Nat × Nat × Nat)}
    (hown : s.vm.findClass own = some m.cls) (hlink : (Cond.methodLink own index y).before args s = true) (hstat : (Cond.static y).before args s = true) (hinit : (Cond.initialized y.cls).before args s = true)
    (hcode : (Cond.codeWith y bytes maxL ret hh).before args s = true) (hy : y.cls ≠ "java/lang/invoke/MethodHandle" ∧ y.cls ≠ "java/lang/invoke/VarHandle")
    {W9 : Nat} {Pre : Pt → Array Value → Prop} {Post : Pt → Array Value → Option Value → Pt → Prop} (hK : Back l R p e below s args y 3 W9 Pre Post)
    {g : JFrame} (hg : g.method = m) (hsize : g.locals.size = c.maxLocals) {argsL rest : List Value} (hlen : ∀ sig, parseMethodDescriptor y.desc = some sig → argsL.length = sig.parameters.length)
    (hstack : g.stack = argsL.reverse ++ rest) (hW : 2 * g.monitorRoom + (rest.map fun v => v.category).sum ≤ W9) (hdg : decode c.code g.pc = .ok (.invokestatic index, 3))
    (hpre : ∀ vm₁, s.WarmedH vm₁ → Pre ⟨T.setVm vm₁, locs, cells, slots⟩ argsL.toArray) :
    ∃ (v : Option Value) (vm₁ : Vm) (B : Pt), s.WarmedH vm₁ ∧ Stand p l e R s m args below meth c B.U B.locs B.cells B.slots ∧ Post ⟨T.setVm vm₁, locs, cells, slots⟩ argsL.toArray v B ∧
      ∀ target, Steps p.tables e below (B.U.setTop { g with pc := g.pc + 3, stack := v.toList ++ rest }) target → Steps p.tables e below (T.setTop g) target := by
  obtain ⟨mk, methM, cM, hnamed, hmethM, -, -, -, -, -, -, hsigM⟩ := Cond.codeWith_spec hcode
  have hstatic : methM.isStatic = true := Cond.static_spec hnamed hmethM hstat
  obtain ⟨kP, hkP, -⟩ := className_of_methodNamed hnamed
  have hinitP : kP.init = .initialized := Cond.initialized_spec (findClass_of_methodNamed hnamed) hkP hinit
  obtain ⟨vm₁, X₁, hstep₁⟩ := X.invokestatic hexec hown hlink hnamed hmethM hstatic hkP hinitP hy (g := g) hg (argsL := argsL) (rest := rest) (hlen _ hsigM) hstack hdg
  obtain ⟨v, B, X', hpost, hsteps⟩ := hK m meth c ⟨T.setVm vm₁, locs, cells, slots⟩ { g with stack := rest } (.invokestatic index) mk argsL.toArray X₁ hg hsize hdg hW (X₁.named hnamed) (hpre vm₁ X₁.warmed)
  exact ⟨v, vm₁, B, X₁.warmed, X', hpost, fun target h => hstep₁ _ fun acts => by rw [doInvoke_state]; exact hsteps.trans h⟩
theorem vx_runSW {y : MethodName} {bytes cc : ByteArray} {maxL nL mc ms n index : Nat} {ret : Option FieldType} {hh : List (Nat × Nat × Nat × Nat)} {ws : List Cond} {rm : Room} {Pc : Array Value → State → Prop} {Qc : Array Value → State → Outcome → State → Prop} {free : Addr → Prop} {Ts : List Cond} {own : String} {As rest : List Value} {g : JFrame}
    (S : CallFix p m c cc nL s args Ts own) (hM : Met l y ws rm Pc Qc mc ms free) (cw : vx_CSW R s args own index y bytes maxL ret hh ws rm mc ms n) (hp : PreS s H Pc As)
    (hg : g.method = m) (hn : As.length = n) (hsize : g.locals.size = nL) (hstack : g.stack = As.reverse ++ rest) (hW : 2 * g.monitorRoom + (rest.map fun v => v.category).sum ≤ 8) (hdg : decode cc g.pc = .ok (.invokestatic index, 3)) (hf : cells + mc ≤ R.cells ∧ slots + ms ≤ R.slots) :
    va_Run p l e R s m args below meth c H locs cells slots mc ms g rest (Qc As.toArray) (free) := by
  obtain ⟨⟨hrc, hrs, hfr, hlo, hws, hcw⟩, hcode, hini, hy, hlen, hl, hstt⟩ := cw
  have hK : Back l R p e below s args y 3 8 (PreOf R mc ms Pc) (PostOf Qc mc ms free) := va_backW (hh := hh) (bytes := bytes) (maxL := maxL) (ret := ret) hM hp.1 hrc hrs hfr hlo hws hcw (fun a' U hW => word_at hW (Or.inl (by first | rfl | simp [Cond.onTables, Cond.keeps, Cond.steady])) hini)
  obtain ⟨hx, hb, hml, ho, -⟩ := S
  intro T hT X
  obtain ⟨v, vm₁, ⟨U', l2, c2, s2⟩, hW₁, X', ⟨g', mk, t, L, e1, e2, hq, h1, hL, h2, h3⟩, st⟩ := vx_callSW X hx (hh := hh) (bytes := bytes) (maxL := maxL) (ret := ret) ho hl hstt hini hcode hy hK hg (hsize.trans hml.symm) (argsL := As) (rest := rest) (fun sig h => hn.trans (hlen sig h)) hstack hW (by rw [hb]; exact hdg)
    (fun vm₁ hW₁ => ⟨hf.1, hf.2, hp.2 (T.setVm vm₁) hT hW₁⟩)
  dsimp only [Pt.U, Pt.locs, Pt.cells, Pt.slots] at X' e1 e2 h1 h2 h3 st
  subst h1; subst h2; subst h3
  exact ⟨v, (T.setVm vm₁).calling g' mk As.toArray, t, U', L, hT, X', hL, e1, e2, hq, st⟩
/-- not caught here, past rows that name other classes: it goes on to the caller -/
theorem vx_outP {p : Program} {l : Launch} {e : Env} {R : Room} {s : State} {m : MethodId} {args : Array Value} {below : List Frame} {meth : Method} {c : Code} {H : Heap} {locs : List Loc} {cells slots : Nat} {free : Addr → Prop} {ls : Array Slot} {rest : List Value} {Qc : Array Value → State → Outcome → State → Prop} {XC : String → State → State → Prop}
    {pc : Nat} {own E : String} {ce : Cell} {q : Addr} {mc ms : Nat} (hown : s.vm.findClass own = some m.cls) (hlocks : meth.locks = false)
    (hpass : ∀ z ∈ c.exceptionTable.toList, covers z pc = false ∨ (z.catchType ≠ 0 ∧ ∃ nm : String, (Cond.classLink own z.catchType nm).before args s = true ∧ va_Nc E nm s)) (hcell : H[q]? = some ce) (hv : ce.vm = .none) (hcl : s.vm.findClass E = some ce.cls)
    (hx : ∀ t : State, t.heap = H → s.vm.Alike t.vm → XC E s t) (hf : ∀ z ∈ locs, free z.base) (hc : cells ≤ mc) (hs : slots ≤ ms) :
    vx_W p l e R s m args below meth c H locs cells slots (vx_MQ below Qc XC args s mc ms free) (F0 m pc ls rest) q := by
  intro T hT X
  have hpl : e.platform.magicAccessors = ({} : Platform).magicAccessors := by rw [X.admits.platform]
  obtain ⟨vm', hW', X', st⟩ := X.outThrough hlocks q (g := F0 m pc ls rest) rfl rfl rfl (cell := ce) (by rw [hT]; exact hcell) (by rw [hv]; rfl)
    (by obtain ⟨k9, h9, -⟩ := Vm.findClass_spec hcl; exact ⟨k9, h9⟩) (fun z hz => by
      rcases hpass z hz with h | ⟨hz0, nm, hl1, hn1⟩
      · exact Or.inl h
      · obtain ⟨c6, hc6, hcl6⟩ := Cond.classLink_spec hown hl1 e.platform hpl
        obtain ⟨a8, b8, h1, h2, h3⟩ := hn1
        cases Option.some.inj (h1.symm.trans hcl)
        cases Option.some.inj (h2.symm.trans hc6)
        exact Or.inr ⟨hz0, _, hcl6, h3⟩)
  obtain ⟨g₀, hfr⟩ := X'.frames_eq
  have hcell9 : ((T.setVm vm').setFrames (.throwing q :: below)).heap[q]? = some ce := by
    show T.heap[q]? = some ce
    rw [hT]; exact hcell
  have hend : Ended ((T.setVm vm').setFrames (.throwing q :: below)) below (.threw q) := State.frames_setFrames _ (State.cur_lt_of_frames hfr)
  refine ⟨(T.setVm vm').setFrames (.throwing q :: below), ?_, .threw q, X'.here.running, hend, Or.inr ⟨q, rfl, E, ce, locs, hx _ hT (X'.ends _).1.alike, hcell9, hv, hcl, (X'.ends _).1, (X'.ends _).2.mono hc hs, hf⟩⟩
  rw [X.pushThrowing_eq]
  exact st
/-- a thing of a world lies in the heap -/
theorem vx_lt {D : va_G} {cl : List vw_C} {ws : va_W} {H1 : Heap} (h : va_P D cl ws H1) {k : Nat} {q : Nat × va_E} (hk : ws[k]? = some q) : q.1 < H1.size := (h k q hk).lt
end VXS
/-! ===== END ===== -/
/-! ===== BEGIN methods with a table of their own: called by a name, returning or throwing ===== -/
section VXH
/-! vx_backW, vx_callVX, vx_callSX, vx_callVW, vx_runVW, vx_runVX, vx_runSX, vx_ofWH follow the same proofs as their sisters above (Free/Laws.lean, Shelf42/LK1.lean); vx_outP calls Shelf42/NT130.lean (outThrough). -/
section
variable {l : Launch} {R : Room} {p : Program} {e : Env} {below : List Frame} {s : State} {sargs : Array Value} {y : MethodName} {len W9 : Nat}
theorem vx_backW {ws : List Cond} {rm : Room} {Pc : Array Value → State → Prop} {Qc : Array Value → State → Outcome → State → Prop} {XC : String → State → State → Prop} {mc ms : Nat} {free : Addr → Prop} {bytes : ByteArray} {maxL : Nat} {ret : Option FieldType} {hh : List (Nat × Nat × Nat × Nat)}
    (hM : vx_Met l y ws rm Pc Qc XC mc ms free) (hblind : FrameBlind Pc) (hrc : rm.cells = mc) (hrs : rm.slots = ms)
    (hframes : rm.frames + 1 ≤ R.frames) (hlocals : W9 + (maxL + 11) + rm.locals ≤ R.locals)
    (hws : ∀ w ∈ ws, ∀ a' U, s.WarmedH U.vm → w.before a' U = true) (hcode : Cond.codeWith y bytes maxL ret hh ∈ ws) (hinit : ∀ a' U, s.WarmedH U.vm → (Cond.initialized y.cls).before a' U = true) :
    vx_Back l R p e below s sargs y len W9 (PreOf R mc ms Pc) (PostOf Qc mc ms free) (vx_Post XC mc ms free) := by
  intro m meth c A g ig mk a X hg hsize hdg hW hn hp
  have h1 : (headSpec ws rm).pre.before a A.U = true := atoms_intro fun w hw => hws w hw _ _ X.warmed
  have h2 : (Cond.codeWith y bytes maxL ret hh).before a A.U = true := hws _ hcode _ _ X.warmed
  have h3 : (Cond.initialized y.cls).before a A.U = true := hinit _ _ X.warmed
  have h4 : A.cells + (headSpec ws rm).room.cells ≤ R.cells := by rw [show (headSpec ws rm).room.cells = mc from hrc]; exact hp.1
  have h5 : A.slots + (headSpec ws rm).room.slots ≤ R.slots := by rw [show (headSpec ws rm).room.slots = ms from hrs]; exact hp.2.1
  have hPc : Pc a (A.U.calling g mk a) := hblind _ _ _ _ hp.2.2
  obtain ⟨U, Ls, c0, s0⟩ := A
  dsimp only [Pt.U, Pt.locs, Pt.cells, Pt.slots] at h1 h2 h3 h4 h5 X hn hPc ⊢
  obtain ⟨m9, methY, cY, hn9, hmY, hcY, -, hlY, -⟩ := Cond.codeWith_spec h2
  cases Option.some.inj (hn9.symm.trans hn)
  obtain ⟨kY, hkY, -⟩ := className_of_methodNamed hn
  have hinitY : kY.init = .initialized := Cond.initialized_spec (findClass_of_methodNamed hn) hkY h3
  have h : At U g.method c below := by rw [hg]; exact X.here
  have hlocals9 : W9 + (maxL + 11) + (headSpec ws rm).room.locals ≤ R.locals := hlocals
  have happ : (headSpec ws rm).appliesLoose y e.platform (U.calling g mk a) = true :=
    Spec.appliesLoose_calling (g := g) h hdg hn hkY hinitY
      (X.room_calling (g := g) (R' := (headSpec ws rm).room) hsize hmY hcY hframes (by rw [hlY]; omega) h4 h5) h1
  obtain ⟨mid, hmid⟩ := h.above
  have hfr : (U.setTop g).frames = (.java g :: mid) ++ below := by rw [State.frames_setTop' g h.top, hmid]; rfl
  obtain ⟨o, s₂, hsteps, -, hend, hq⟩ := Steps.callFree hM p X.admits X.cas X.clock (acts := []) hfr happ hPc trivial
  have hq' : vx_Q Qc XC mc ms free a (U.calling g mk a) o s₂ := hq
  rw [State.frames_setTop' g h.top] at hend
  obtain ⟨g₀, hg0⟩ := Option.isSome_iff_exists.mp h.top
  obtain ⟨r, hr⟩ := State.topJava?_eq_some.mp hg0
  have hr' : (({ U with heap := s₂.heap, slotsUsed := s₂.slotsUsed } : State).setVm s₂.vm).frames = .java g₀ :: r := hr
  rcases hq' with ⟨hqc, L, hfe, hL⟩ | ⟨q, rfl, E, ce, L, hx, hce, hcv, hcl, hW₂, hsm, hL⟩
  · obtain ⟨⟨v, rfl⟩, hW₂, e2, q2, q3, q4, q5, q6⟩ := id hfe
    have e3 : s₂ = ({ (U.calling g mk a).setFrames s₂.frames with heap := s₂.heap, slotsUsed := s₂.slotsUsed } : State).setVm s₂.vm := by
      have : s₂ = ({ s₂ with vm := (U.calling g mk a).vm } : State).setVm s₂.vm := rfl
      rw [e2] at this
      exact this
    obtain ⟨c₂, i₂, len₂, hc₂, hd₂, hf₂⟩ := hend
    have hW' : U.WarmedH s₂.vm := hW₂
    have hcc : c₂ = c := by
      have h1 : s₂.code? g.method = U.code? g.method := by
        rw [State.code?_eq, State.code?_eq, hW'.alike.method?]
      exact Option.some.inj (hc₂.symm.trans (h1.trans h.code))
    subst hcc
    have hlen : len₂ = len := by rw [hdg] at hd₂; cases hd₂; rfl
    subst hlen
    have hs₂ : s₂ = (({ U with heap := s₂.heap, slotsUsed := s₂.slotsUsed } : State).setVm s₂.vm).setTop { g with pc := g.pc + len₂, stack := v.toList ++ g.stack } := by
      refine e3.trans ?_
      rw [hf₂, State.calling_eq h.top, State.setFrames_setFrames, State.setTop_of_frames _ hr', hr]
      rfl
    have hsame : U.sameButNew ({ U with heap := s₂.heap, slotsUsed := s₂.slotsUsed } : State) L mc ms := by
      refine ⟨?_, q2, q3, q4, q5, q6⟩
      obtain ⟨t, ht, -⟩ := State.frames_cons hr
      show ({ U with heap := s₂.heap, slotsUsed := s₂.slotsUsed } : State) = { U.setFrames U.frames with heap := s₂.heap, slotsUsed := s₂.slotsUsed }
      rw [State.setFrames_self ht]
    subst hg
    refine Or.inl ⟨v, ⟨(({ U with heap := s₂.heap, slotsUsed := s₂.slotsUsed } : State).setVm s₂.vm), Ls ++ L, c0 + mc, s0 + ms⟩,
      ⟨X.admits, X.cas, X.clock, X.frames, X.room, X.hears, X.method, X.code, (X.here.setHeapUsed s₂.heap s₂.slotsUsed).setVm hW'.alike, X.tail, State.WarmedH.trans X.warmed hW', X.limits, X.bytes, X.same.trans (hsame.setVm s.vm)⟩,
      ⟨g, mk, s₂, L, rfl, rfl, hqc, rfl, hL, rfl, rfl⟩, ?_⟩
    show Steps p.tables e below _ ((({ U with heap := s₂.heap, slotsUsed := s₂.slotsUsed } : State).setVm s₂.vm).setTop { g with pc := g.pc + len₂, stack := v.toList ++ g.stack })
    rw [← hs₂]
    exact hsteps
  · obtain ⟨e2, q2, q3, q4, q5, q6⟩ := id hsm
    have e3 : s₂ = ({ (U.calling g mk a).setFrames s₂.frames with heap := s₂.heap, slotsUsed := s₂.slotsUsed } : State).setVm s₂.vm := by
      have : s₂ = ({ s₂ with vm := (U.calling g mk a).vm } : State).setVm s₂.vm := rfl
      rw [e2] at this
      exact this
    have hf₂ : s₂.frames = .throwing q :: .java g :: U.frames.tail := hend
    have hW' : U.WarmedH s₂.vm := hW₂
    have hs₂ : s₂ = ((({ U with heap := s₂.heap, slotsUsed := s₂.slotsUsed } : State).setVm s₂.vm).setTop g).pushFrame (.throwing q) := by
      refine e3.trans ?_
      rw [hf₂, State.calling_eq h.top, State.setFrames_setFrames, State.pushFrame, State.frames_setTop _ hr', State.setTop_of_frames _ hr', State.setFrames_setFrames, hr]
      rfl
    have hsame : U.sameButNew ({ U with heap := s₂.heap, slotsUsed := s₂.slotsUsed } : State) L mc ms := by
      refine ⟨?_, q2, q3, q4, q5, q6⟩
      obtain ⟨t, ht, -⟩ := State.frames_cons hr
      show ({ U with heap := s₂.heap, slotsUsed := s₂.slotsUsed } : State) = { U.setFrames U.frames with heap := s₂.heap, slotsUsed := s₂.slotsUsed }
      rw [State.setFrames_self ht]
    subst hg
    refine Or.inr ⟨q, ⟨(({ U with heap := s₂.heap, slotsUsed := s₂.slotsUsed } : State).setVm s₂.vm), Ls ++ L, c0 + mc, s0 + ms⟩,
      ⟨X.admits, X.cas, X.clock, X.frames, X.room, X.hears, X.method, X.code, (X.here.setHeapUsed s₂.heap s₂.slotsUsed).setVm hW'.alike, X.tail, State.WarmedH.trans X.warmed hW', X.limits, X.bytes, X.same.trans (hsame.setVm s.vm)⟩,
      ⟨g, mk, s₂, L, E, ce, rfl, rfl, hx, hce, hcv, hcl, rfl, hL, rfl, rfl⟩, ?_⟩
    show Steps p.tables e below _ (((({ U with heap := s₂.heap, slotsUsed := s₂.slotsUsed } : State).setVm s₂.vm).setTop g).pushFrame (.throwing q))
    rw [← hs₂]
    exact hsteps
end
variable {p : Program} {l : Launch} {e : Env} {R : Room} {s : State} {m : MethodId} {args : Array Value} {below : List Frame} {meth : Method} {c : Code} {T : State} {H : Heap} {locs : List Loc} {cells slots : Nat}
theorem vx_callVX (X : Stand p l e R s m args below meth c T locs cells slots) (hexec : p.tables.exec = Jvm.exec) {own C : String} {index : Nat} {y : MethodName} {bytes : ByteArray} {maxL : Nat} {ret : Option FieldType} {hh : List (Nat × Nat × Nat × Nat)}
    (hown : s.vm.findClass own = some m.cls) (hlink : (Cond.methodLink own index y).before args s = true) (hinst : (Cond.instanceMethod y).before args s = true) (hsel : (Cond.selects C y y).before args s = true)
    (hcode : (Cond.codeWith y bytes maxL ret hh).before args s = true) (hy : y.cls ≠ "java/lang/invoke/MethodHandle" ∧ y.cls ≠ "java/lang/invoke/VarHandle")
    {W9 : Nat} {Pre : Pt → Array Value → Prop} {Post : Pt → Array Value → Option Value → Pt → Prop} {PostX : Pt → Array Value → Addr → Pt → Prop} (hK : vx_Back l R p e below s args y 3 W9 Pre Post PostX)
    {b : Addr} {cellB : Cell} (hcell : T.heap[b]? = some cellB) (hobj : cellB.vm.isStatics = false) (hcls : s.vm.findClass C = some cellB.cls)
    {g : JFrame} (hg : g.method = m) (hsize : g.locals.size = c.maxLocals) {argsL rest : List Value} (hlen : ∀ sig, parseMethodDescriptor y.desc = some sig → argsL.length = sig.parameters.length)
    (hstack : g.stack = argsL.reverse ++ .ref b :: rest) (hW : 2 * g.monitorRoom + (rest.map fun v => v.category).sum ≤ W9) (hdg : decode c.code g.pc = .ok (.invokevirtual index, 3))
    (hpre : ∀ vm₁, s.WarmedH vm₁ → Pre ⟨T.setVm vm₁, locs, cells, slots⟩ (Value.ref b :: argsL).toArray) :
    (∃ (v : Option Value) (vm₁ : Vm) (B : Pt), s.WarmedH vm₁ ∧ Stand p l e R s m args below meth c B.U B.locs B.cells B.slots ∧ Post ⟨T.setVm vm₁, locs, cells, slots⟩ (Value.ref b :: argsL).toArray v B ∧
      ∀ target, Steps p.tables e below (B.U.setTop { g with pc := g.pc + 3, stack := v.toList ++ rest }) target → Steps p.tables e below (T.setTop g) target) ∨
    (∃ (q : Addr) (vm₁ : Vm) (B : Pt), s.WarmedH vm₁ ∧ Stand p l e R s m args below meth c B.U B.locs B.cells B.slots ∧ PostX ⟨T.setVm vm₁, locs, cells, slots⟩ (Value.ref b :: argsL).toArray q B ∧
      Steps p.tables e below (T.setTop g) ((B.U.setTop { g with stack := rest }).pushFrame (.throwing q))) := by
  obtain ⟨mk, methM, hnamed, hmethM, hstM, habM⟩ := Cond.instanceMethod_spec hinst
  obtain ⟨m8, methM', cM, hn8, hmethM', -, -, -, -, -, -, hsigM⟩ := Cond.codeWith_spec hcode
  cases Option.some.inj (hn8.symm.trans hnamed)
  cases hmethM.symm.trans hmethM'
  obtain ⟨c2, r2, m2, q1, q2, q3, q4, kP, hkP, hkPi⟩ := Cond.selects_spec hsel
  cases hcls.symm.trans q1
  cases (State.methodFound?_of_named hnamed hy).symm.trans q2
  cases hnamed.symm.trans q3
  have hselP : selectMethod e.platform s.vm cellB.cls mk = .method mk := by rw [Launch.admits_selectMethod X.admits]; exact q4
  obtain ⟨vm₁, X₁, hstep₁⟩ := X.invokevirtual hexec hown hlink hnamed hmethM hstM hkP hkPi hy (a := b) (cell := cellB) hcell
    (fun z h => by rw [h] at hobj; cases hobj) hselP hmethM habM hkP hkPi (g := g) hg (argsL := argsL) (rest := rest) (hlen _ hsigM) hstack hdg
  rcases hK m meth c ⟨T.setVm vm₁, locs, cells, slots⟩ { g with stack := rest } (.invokevirtual index) mk (Value.ref b :: argsL).toArray X₁ hg hsize hdg hW (X₁.named hnamed) (hpre vm₁ X₁.warmed) with ⟨v, B, X', hpost, hsteps⟩ | ⟨q, B, X', hpost, hsteps⟩
  · exact Or.inl ⟨v, vm₁, B, X₁.warmed, X', hpost, fun target h => hstep₁ _ fun acts => by rw [doInvoke_state]; exact hsteps.trans h⟩
  · exact Or.inr ⟨q, vm₁, B, X₁.warmed, X', hpost, hstep₁ _ fun acts => by rw [doInvoke_state]; exact hsteps⟩
theorem vx_callSX (X : Stand p l e R s m args below meth c T locs cells slots) (hexec : p.tables.exec = Jvm.exec) {own : String} {index : Nat} {y : MethodName} {bytes : ByteArray} {maxL : Nat} {ret : Option FieldType} {hh : List (Nat × Nat × Nat × Nat)}
    (hown : s.vm.findClass own = some m.cls) (hlink : (Cond.methodLink own index y).before args s = true) (hstat : (Cond.static y).before args s = true) (hinit : (Cond.initialized y.cls).before args s = true)
    (hcode : (Cond.codeWith y bytes maxL ret hh).before args s = true) (hy : y.cls ≠ "java/lang/invoke/MethodHandle" ∧ y.cls ≠ "java/lang/invoke/VarHandle")
    {W9 : Nat} {Pre : Pt → Array Value → Prop} {Post : Pt → Array Value → Option Value → Pt → Prop} {PostX : Pt → Array Value → Addr → Pt → Prop} (hK : vx_Back l R p e below s args y 3 W9 Pre Post PostX)
    {g : JFrame} (hg : g.method = m) (hsize : g.locals.size = c.maxLocals) {argsL rest : List Value} (hlen : ∀ sig, parseMethodDescriptor y.desc = some sig → argsL.length = sig.parameters.length)
    (hstack : g.stack = argsL.reverse ++ rest) (hW : 2 * g.monitorRoom + (rest.map fun v => v.category).sum ≤ W9) (hdg : decode c.code g.pc = .ok (.invokestatic index, 3))
    (hpre : ∀ vm₁, s.WarmedH vm₁ → Pre ⟨T.setVm vm₁, locs, cells, slots⟩ argsL.toArray) :
    (∃ (v : Option Value) (vm₁ : Vm) (B : Pt), s.WarmedH vm₁ ∧ Stand p l e R s m args below meth c B.U B.locs B.cells B.slots ∧ Post ⟨T.setVm vm₁, locs, cells, slots⟩ argsL.toArray v B ∧
      ∀ target, Steps p.tables e below (B.U.setTop { g with pc := g.pc + 3, stack := v.toList ++ rest }) target → Steps p.tables e below (T.setTop g) target) ∨
    (∃ (q : Addr) (vm₁ : Vm) (B : Pt), s.WarmedH vm₁ ∧ Stand p l e R s m args below meth c B.U B.locs B.cells B.slots ∧ PostX ⟨T.setVm vm₁, locs, cells, slots⟩ argsL.toArray q B ∧
      Steps p.tables e below (T.setTop g) ((B.U.setTop { g with stack := rest }).pushFrame (.throwing q))) := by
  obtain ⟨mk, methM, cM, hnamed, hmethM, -, -, -, -, -, -, hsigM⟩ := Cond.codeWith_spec hcode
  have hstatic : methM.isStatic = true := Cond.static_spec hnamed hmethM hstat
  obtain ⟨kP, hkP, -⟩ := className_of_methodNamed hnamed
  have hinitP : kP.init = .initialized := Cond.initialized_spec (findClass_of_methodNamed hnamed) hkP hinit
  obtain ⟨vm₁, X₁, hstep₁⟩ := X.invokestatic hexec hown hlink hnamed hmethM hstatic hkP hinitP hy (g := g) hg (argsL := argsL) (rest := rest) (hlen _ hsigM) hstack hdg
  rcases hK m meth c ⟨T.setVm vm₁, locs, cells, slots⟩ { g with stack := rest } (.invokestatic index) mk argsL.toArray X₁ hg hsize hdg hW (X₁.named hnamed) (hpre vm₁ X₁.warmed) with ⟨v, B, X', hpost, hsteps⟩ | ⟨q, B, X', hpost, hsteps⟩
  · exact Or.inl ⟨v, vm₁, B, X₁.warmed, X', hpost, fun target h => hstep₁ _ fun acts => by rw [doInvoke_state]; exact hsteps.trans h⟩
  · exact Or.inr ⟨q, vm₁, B, X₁.warmed, X', hpost, hstep₁ _ fun acts => by rw [doInvoke_state]; exact hsteps⟩
theorem vx_callVW (X : Stand p l e R s m args below meth c T locs cells slots) (hexec : p.tables.exec = Jvm.exec) {own C : String} {index : Nat} {y : MethodName} {bytes : ByteArray} {maxL : Nat} {ret : Option FieldType} {hh : List (Nat × Nat × Nat × Nat)}
    (hown : s.vm.findClass own = some m.cls) (hlink : (Cond.methodLink own index y).before args s = true) (hinst : (Cond.instanceMethod y).before args s = true) (hsel : (Cond.selects C y y).before args s = true)
    (hcode : (Cond.codeWith y bytes maxL ret hh).before args s = true) (hy : y.cls ≠ "java/lang/invoke/MethodHandle" ∧ y.cls ≠ "java/lang/invoke/VarHandle")
    {W9 : Nat} {Pre : Pt → Array Value → Prop} {Post : Pt → Array Value → Option Value → Pt → Prop} (hK : Back l R p e below s args y 3 W9 Pre Post)
    {b : Addr} {cellB : Cell} (hcell : T.heap[b]? = some cellB) (hobj : cellB.vm.isStatics = false) (hcls : s.vm.findClass C = some cellB.cls)
    {g : JFrame} (hg : g.method = m) (hsize : g.locals.size = c.maxLocals) {argsL rest : List Value} (hlen : ∀ sig, parseMethodDescriptor y.desc = some sig → argsL.length = sig.parameters.length)
    (hstack : g.stack = argsL.reverse ++ .ref b :: rest) (hW : 2 * g.monitorRoom + (rest.map fun v => v.category).sum ≤ W9) (hdg : decode c.code g.pc = .ok (.invokevirtual index, 3))
    (hpre : ∀ vm₁, s.WarmedH vm₁ → Pre ⟨T.setVm vm₁, locs, cells, slots⟩ (Value.ref b :: argsL).toArray) :
    ∃ (v : Option Value) (vm₁ : Vm) (B : Pt), s.WarmedH vm₁ ∧ Stand p l e R s m args below meth c B.U B.locs B.cells B.slots ∧ Post ⟨T.setVm vm₁, locs, cells, slots⟩ (Value.ref b :: argsL).toArray v B ∧
      ∀ target, Steps p.tables e below (B.U.setTop { g with pc := g.pc + 3, stack := v.toList ++ rest }) target → Steps p.tables e below (T.setTop g) target := by
  obtain ⟨mk, methM, hnamed, hmethM, hstM, habM⟩ := Cond.instanceMethod_spec hinst
  obtain ⟨m8, methM', cM, hn8, hmethM', -, -, -, -, -, -, hsigM⟩ := Cond.codeWith_spec hcode
  cases Option.some.inj (hn8.symm.trans hnamed)
  cases hmethM.symm.trans hmethM'
  obtain ⟨c2, r2, m2, q1, q2, q3, q4, kP, hkP, hkPi⟩ := Cond.selects_spec hsel
  cases hcls.symm.trans q1
  cases (State.methodFound?_of_named hnamed hy).symm.trans q2
  cases hnamed.symm.trans q3
  have hselP : selectMethod e.platform s.vm cellB.cls mk = .method mk := by rw [Launch.admits_selectMethod X.admits]; exact q4
  obtain ⟨vm₁, X₁, hstep₁⟩ := X.invokevirtual hexec hown hlink hnamed hmethM hstM hkP hkPi hy (a := b) (cell := cellB) hcell
    (fun z h => by rw [h] at hobj; cases hobj) hselP hmethM habM hkP hkPi (g := g) hg (argsL := argsL) (rest := rest) (hlen _ hsigM) hstack hdg
  obtain ⟨v, B, X', hpost, hsteps⟩ := hK m meth c ⟨T.setVm vm₁, locs, cells, slots⟩ { g with stack := rest } (.invokevirtual index) mk (Value.ref b :: argsL).toArray X₁ hg hsize hdg hW (X₁.named hnamed) (hpre vm₁ X₁.warmed)
  exact ⟨v, vm₁, B, X₁.warmed, X', hpost, fun target h => hstep₁ _ fun acts => by rw [doInvoke_state]; exact hsteps.trans h⟩
abbrev vx_CVW (R : Room) (s : State) (args : Array Value) (own C : String) (index : Nat) (y : MethodName) (bytes : ByteArray) (maxL : Nat) (ret : Option FieldType) (hh : List (Nat × Nat × Nat × Nat)) (ws : List Cond) (rm : Room) (mc ms n : Nat) : Prop :=
  (rm.cells = mc ∧ rm.slots = ms ∧ rm.frames + 1 ≤ R.frames ∧ 8 + (maxL + 11) + rm.locals ≤ R.locals ∧ (∀ w ∈ ws, ∀ (a' : Array Value) (U : State), s.WarmedH U.vm → w.before a' U = true) ∧ Cond.codeWith y bytes maxL ret hh ∈ ws) ∧
  (Cond.codeWith y bytes maxL ret hh).before args s = true ∧ (Cond.initialized y.cls).before args s = true ∧ (y.cls ≠ "java/lang/invoke/MethodHandle" ∧ y.cls ≠ "java/lang/invoke/VarHandle") ∧
  (∀ sig, parseMethodDescriptor y.desc = some sig → n = sig.parameters.length) ∧ (Cond.methodLink own index y).before args s = true ∧ (Cond.instanceMethod y).before args s = true ∧ (Cond.selects C y y).before args s = true
theorem vx_cwVW {own C : String} {index maxL mc ms : Nat} {y : MethodName} {bytes : ByteArray} {ret : Option FieldType} {hh : List (Nat × Nat × Nat × Nat)} {Ts ws ws' : List Cond} {rm : Room} (n : Nat) (ht : ∀ w ∈ Ts, w.before args s = true) (hT : GoodIn Ts (wsV own index C y ws)) (hw : ws = Cond.codeWith y bytes maxL ret hh :: ws') (hrc : rm.cells = mc) (hrs : rm.slots = ms)
    (hd : y.cls = C ∧ y.cls ≠ "java/lang/invoke/MethodHandle" ∧ y.cls ≠ "java/lang/invoke/VarHandle" ∧ (parseMethodDescriptor y.desc).map (fun d => d.parameters.length) = some n) (hR : rm.frames + 1 ≤ R.frames ∧ 8 + (maxL + 11) + rm.locals ≤ R.locals) :
    vx_CVW R s args own C index y bytes maxL ret hh ws rm mc ms n := by
  obtain ⟨hC, hd⟩ := hd
  subst hC
  have ok : ∀ w ∈ wsV own index y.cls y ws, w.before args s = true := fun w h => ht w (hT w h).1
  have hG : GoodIn Ts ws := fun w h => hT w (by unfold wsV; exact List.mem_append_right _ h)
  have hc : Cond.codeWith y bytes maxL ret hh ∈ ws := by rw [hw]; exact List.mem_cons_self
  refine ⟨⟨hrc, hrs, hR.1, hR.2, pay_in ht hG, hc⟩, ht _ (hG _ hc).1, ok _ (by simp [wsV]), ⟨hd.1, hd.2.1⟩, fun sig h => ?_, ok _ (by simp [wsV]), ok _ (by simp [wsV]), ok _ (by simp [wsV])⟩
  have h2 := hd.2.2
  rw [h] at h2
  exact (Option.some.inj h2).symm
theorem vx_runVW {y : MethodName} {bytes cc : ByteArray} {maxL nL mc ms n index : Nat} {ret : Option FieldType} {hh : List (Nat × Nat × Nat × Nat)} {ws : List Cond} {rm : Room} {Pc : Array Value → State → Prop} {Qc : Array Value → State → Outcome → State → Prop} {free : Addr → Prop} {Ts : List Cond} {own C : String} {b : Addr} {As rest : List Value} {g : JFrame}
    (S : CallFix p m c cc nL s args Ts own) (hM : Met l y ws rm Pc Qc mc ms free) (cw : vx_CVW R s args own C index y bytes maxL ret hh ws rm mc ms n) (hp : PreV s H C b Pc As)
    (hg : g.method = m) (hn : As.length = n) (hsize : g.locals.size = nL) (hstack : g.stack = As.reverse ++ .ref b :: rest) (hW : 2 * g.monitorRoom + (rest.map fun v => v.category).sum ≤ 8) (hdg : decode cc g.pc = .ok (.invokevirtual index, 3)) (hf : cells + mc ≤ R.cells ∧ slots + ms ≤ R.slots) :
    va_Run p l e R s m args below meth c H locs cells slots mc ms g rest (Qc (Value.ref b :: As).toArray) free := by
  obtain ⟨⟨hrc, hrs, hfr, hlo, hws, hcw⟩, hcode, hini, hy, hlen, hl, hin, hse⟩ := cw
  have hK : Back l R p e below s args y 3 8 (PreOf R mc ms Pc) (PostOf Qc mc ms free) := va_backW (hh := hh) (bytes := bytes) (maxL := maxL) (ret := ret) hM hp.1 hrc hrs hfr hlo hws hcw (fun a' U hW => word_at hW (Or.inl (by first | rfl | simp [Cond.onTables, Cond.keeps, Cond.steady])) hini)
  obtain ⟨hx, hb, hml, ho, -⟩ := S
  obtain ⟨-, ⟨cellB, hcB, hoB, hclB⟩, hPc⟩ := hp
  intro T hT X
  obtain ⟨v, vm₁, ⟨U', l2, c2, s2⟩, hW₁, X', ⟨g', mk, t, L, e1, e2, hq, h1, hL, h2, h3⟩, st⟩ := vx_callVW X hx (C := C) (hh := hh) (bytes := bytes) (maxL := maxL) (ret := ret) ho hl hin hse hcode hy hK (by rw [hT]; exact hcB) hoB hclB hg (hsize.trans hml.symm) (argsL := As) (rest := rest) (fun sig h => hn.trans (hlen sig h)) hstack hW (by rw [hb]; exact hdg)
    (fun vm₁ hW₁ => ⟨hf.1, hf.2, hPc (T.setVm vm₁) hT hW₁⟩)
  dsimp only [Pt.U, Pt.locs, Pt.cells, Pt.slots] at X' e1 e2 h1 h2 h3 st
  subst h1; subst h2; subst h3
  exact ⟨v, (T.setVm vm₁).calling g' mk (Value.ref b :: As).toArray, t, U', L, hT, X', hL, e1, e2, hq, st⟩
section
variable {y : MethodName} {bytes cc : ByteArray} {maxL nL mc ms n index : Nat} {ret : Option FieldType} {ws : List Cond} {rm : Room} {Pc : Array Value → State → Prop} {Qc : Array Value → State → Outcome → State → Prop} {XC : String → State → State → Prop} {free : Addr → Prop} {Ts : List Cond} {own C : String} {b : Addr} {As rest : List Value} {g : JFrame}
theorem vx_runVX {hh : List (Nat × Nat × Nat × Nat)} (S : CallFix p m c cc nL s args Ts own) (hM : vx_Met l y ws rm Pc Qc XC mc ms free) (cw : vx_CVW R s args own C index y bytes maxL ret hh ws rm mc ms n) (hp : PreV s H C b Pc As)
    (hg : g.method = m) (hn : As.length = n) (hsize : g.locals.size = nL) (hstack : g.stack = As.reverse ++ .ref b :: rest) (hW : 2 * g.monitorRoom + (rest.map fun v => v.category).sum ≤ 8) (hdg : decode cc g.pc = .ok (.invokevirtual index, 3)) (hf : cells + mc ≤ R.cells ∧ slots + ms ≤ R.slots) :
    vx_Run p l e R s m args below meth c H locs cells slots mc ms g rest (Qc (Value.ref b :: As).toArray) XC free := by
  obtain ⟨⟨hrc, hrs, hfr, hlo, hws, hcw⟩, hcode, hini, hy, hlen, hl, hin, hse⟩ := cw
  have hK : vx_Back l R p e below s args y 3 8 (PreOf R mc ms Pc) (PostOf Qc mc ms free) (vx_Post XC mc ms free) := vx_backW (hh := hh) (bytes := bytes) (maxL := maxL) (ret := ret) hM hp.1 hrc hrs hfr hlo hws hcw (fun a' U hW => word_at hW (Or.inl (by first | rfl | simp [Cond.onTables, Cond.keeps, Cond.steady])) hini)
  obtain ⟨hx, hb, hml, ho, -⟩ := S
  obtain ⟨-, ⟨cellB, hcB, hoB, hclB⟩, hPc⟩ := hp
  intro T hT X
  rcases vx_callVX X hx (C := C) (hh := hh) (bytes := bytes) (maxL := maxL) (ret := ret) ho hl hin hse hcode hy hK (by rw [hT]; exact hcB) hoB hclB hg (hsize.trans hml.symm) (argsL := As) (rest := rest) (fun sig h => hn.trans (hlen sig h)) hstack hW (by rw [hb]; exact hdg)
    (fun vm₁ hW₁ => ⟨hf.1, hf.2, hPc (T.setVm vm₁) hT hW₁⟩) with ⟨v, vm₁, ⟨U', l2, c2, s2⟩, hW₁, X', ⟨g', mk, t, L, e1, e2, hq, h1, hL, h2, h3⟩, st⟩ | ⟨q, vm₁, ⟨U', l2, c2, s2⟩, hW₁, X', ⟨g', mk, t, L, E, ce, e1, e2, hq, hce, hcv, hcl, h1, hL, h2, h3⟩, st⟩
  · dsimp only [Pt.U, Pt.locs, Pt.cells, Pt.slots] at X' e1 e2 h1 h2 h3 st
    subst h1; subst h2; subst h3
    exact Or.inl ⟨v, (T.setVm vm₁).calling g' mk (Value.ref b :: As).toArray, t, U', L, hT, X', hL, e1, e2, hq, st⟩
  · dsimp only [Pt.U, Pt.locs, Pt.cells, Pt.slots] at X' e1 e2 h1 h2 h3 st hcl
    subst h1; subst h2; subst h3
    exact Or.inr ⟨q, (T.setVm vm₁).calling g' mk (Value.ref b :: As).toArray, t, U', L, E, ce, hT, X', hL, e1, e2, hq, hce, hcv, vx_cls hW₁ hcl, st⟩
theorem vx_runSX {hh : List (Nat × Nat × Nat × Nat)} (S : CallFix p m c cc nL s args Ts own) (hM : vx_Met l y ws rm Pc Qc XC mc ms free) (cw : vx_CSW R s args own index y bytes maxL ret hh ws rm mc ms n) (hp : PreS s H Pc As)
    (hg : g.method = m) (hn : As.length = n) (hsize : g.locals.size = nL) (hstack : g.stack = As.reverse ++ rest) (hW : 2 * g.monitorRoom + (rest.map fun v => v.category).sum ≤ 8) (hdg : decode cc g.pc = .ok (.invokestatic index, 3)) (hf : cells + mc ≤ R.cells ∧ slots + ms ≤ R.slots) :
    vx_Run p l e R s m args below meth c H locs cells slots mc ms g rest (Qc As.toArray) XC free := by
  obtain ⟨⟨hrc, hrs, hfr, hlo, hws, hcw⟩, hcode, hini, hy, hlen, hl, hstt⟩ := cw
  have hK : vx_Back l R p e below s args y 3 8 (PreOf R mc ms Pc) (PostOf Qc mc ms free) (vx_Post XC mc ms free) := vx_backW (hh := hh) (bytes := bytes) (maxL := maxL) (ret := ret) hM hp.1 hrc hrs hfr hlo hws hcw (fun a' U hW => word_at hW (Or.inl (by first | rfl | simp [Cond.onTables, Cond.keeps, Cond.steady])) hini)
  obtain ⟨hx, hb, hml, ho, -⟩ := S
  intro T hT X
  rcases vx_callSX X hx (hh := hh) (bytes := bytes) (maxL := maxL) (ret := ret) ho hl hstt hini hcode hy hK hg (hsize.trans hml.symm) (argsL := As) (rest := rest) (fun sig h => hn.trans (hlen sig h)) hstack hW (by rw [hb]; exact hdg)
    (fun vm₁ hW₁ => ⟨hf.1, hf.2, hp.2 (T.setVm vm₁) hT hW₁⟩) with ⟨v, vm₁, ⟨U', l2, c2, s2⟩, hW₁, X', ⟨g', mk, t, L, e1, e2, hq, h1, hL, h2, h3⟩, st⟩ | ⟨q, vm₁, ⟨U', l2, c2, s2⟩, hW₁, X', ⟨g', mk, t, L, E, ce, e1, e2, hq, hce, hcv, hcl, h1, hL, h2, h3⟩, st⟩
  · dsimp only [Pt.U, Pt.locs, Pt.cells, Pt.slots] at X' e1 e2 h1 h2 h3 st
    subst h1; subst h2; subst h3
    exact Or.inl ⟨v, (T.setVm vm₁).calling g' mk As.toArray, t, U', L, hT, X', hL, e1, e2, hq, st⟩
  · dsimp only [Pt.U, Pt.locs, Pt.cells, Pt.slots] at X' e1 e2 h1 h2 h3 st hcl
    subst h1; subst h2; subst h3
    exact Or.inr ⟨q, (T.setVm vm₁).calling g' mk As.toArray, t, U', L, E, ce, hT, X', hL, e1, e2, hq, hce, hcv, vx_cls hW₁ hcl, st⟩
end
end VXH
theorem vx_ofWH {l : Launch} {y : MethodName} {ws ws' : List Cond} {rm : Room} {Pc : Array Value → State → Prop} {Qc : Array Value → State → Outcome → State → Prop} {XC : String → State → State → Prop} {mc ms : Nat} {free : Addr → Prop} {cc : ByteArray} {maxL : Nat} {ret : Option FieldType} {hh : List (Nat × Nat × Nat × Nat)}
    (hy : plainName y.cls = true) (hw : ws = Cond.codeWith y cc maxL ret hh :: ws')
    (body : ∀ p e s m args below meth c s₁, BodyLoose p l y (headSpec ws rm) cc maxL ret e s m args below meth c s₁ → c.maxLocals = maxL → Pc args s →
      W p l e (headSpec ws rm).room s m args below meth c s.heap [] 0 0 (vx_MQ below Qc XC args s mc ms free) (entryFrame m args maxL)) : vx_Met l y ws rm Pc Qc XC mc ms free := by
  refine MetFree.of_bodyS (code := cc) (maxLocals := maxL) (ret := ret) hy ?_ ?_
  · intro args s m h hn
    obtain ⟨m9, meth, c, hn9, h1, h2, h3, h4, -, h5, h6, -⟩ := Cond.codeWith_spec (atoms_spec (ws := ws) h _ (by rw [hw]; exact List.mem_cons_self))
    cases hn.symm.trans hn9
    exact ⟨meth, c, h1, h2, h3, h4, h5, h6⟩
  · intro p e s m args below meth c s₁ B hml hP _
    have hh0 : s₁.heap = s.heap := by rw [B.state]; rfl
    obtain ⟨t, a1, o, b1, b2, b3⟩ := body p e s m args below meth c s₁ B hml hP s₁ hh0 (Stand.of_body B)
    exact ⟨t, o, a1, b1, b2, b3⟩
/-! ===== END ===== -/
end
section
/-! ===== BEGIN printed: names, fields, word lists, decode rows ===== -/
def RX0 : String := "PlankUnroll$Board"
def TX0 : u_T := fun k => match k with
  | 0 => ("PlankUnroll$Board", "w", "D", true)
  | 1 => ("PlankUnroll$Board", "h", "D", true)
  | _ => ("PlankUnroll$Board", "faults", "Ljava/util/ArrayList;", true)
def tyX0 : Nat → FieldType := fun k => match k with
  | 0 => .double
  | 1 => .double
  | _ => .object "java/util/ArrayList"
abbrev wsX00 : List Cond := u_ws RX0 TX0 3
theorem nmX0 : ∀ a, a < 3 → ∀ b, b < 3 → a ≠ b → (TX0 a).2.1 ≠ (TX0 b).2.1 := by decide +kernel
theorem tyX0_ok : ∀ k, k < 3 → parseFieldDescriptor (TX0 k).2.2.1 = some (tyX0 k) := by decide +kernel
abbrev cX0_init : ByteArray := prog_2_method_1_code
def yX0_init : MethodName := ⟨RX0, "<init>", "(DD)V"⟩
def RX1 : String := "PlankUnroll$Box"
def TX1 : u_T := fun k => match k with
  | 0 => ("PlankUnroll$Box", "x", "D", false)
  | 1 => ("PlankUnroll$Box", "y", "D", false)
  | 2 => ("PlankUnroll$Box", "w", "D", false)
  | _ => ("PlankUnroll$Box", "h", "D", false)
def tyX1 : Nat → FieldType := fun k => match k with
  | 0 => .double
  | 1 => .double
  | 2 => .double
  | _ => .double
abbrev wsX10 : List Cond := u_ws RX1 TX1 4
theorem nmX1 : ∀ a, a < 4 → ∀ b, b < 4 → a ≠ b → (TX1 a).2.1 ≠ (TX1 b).2.1 := by decide +kernel
theorem tyX1_ok : ∀ k, k < 4 → parseFieldDescriptor (TX1 k).2.2.1 = some (tyX1 k) := by decide +kernel
abbrev cX1_init : ByteArray := prog_3_method_1_code
def yX1_init : MethodName := ⟨RX1, "<init>", "(DDDD)V"⟩
abbrev cX1_overlaps : ByteArray := prog_3_method_2_code
def yX1_overlaps : MethodName := ⟨RX1, "overlaps", "(LPlankUnroll$Box;)Z"⟩
def RX2 : String := "PlankUnroll$Normal"
def TX2 : u_T := fun k => match k with
  | 0 => ("PlankUnroll$Normal", "x", "D", false)
  | 1 => ("PlankUnroll$Normal", "y", "D", false)
  | _ => ("PlankUnroll$Normal", "z", "D", false)
def tyX2 : Nat → FieldType := fun k => match k with
  | 0 => .double
  | 1 => .double
  | _ => .double
abbrev wsX20 : List Cond := u_ws RX2 TX2 3
theorem nmX2 : ∀ a, a < 3 → ∀ b, b < 3 → a ≠ b → (TX2 a).2.1 ≠ (TX2 b).2.1 := by decide +kernel
theorem tyX2_ok : ∀ k, k < 3 → parseFieldDescriptor (TX2 k).2.2.1 = some (tyX2 k) := by decide +kernel
abbrev cX2_init : ByteArray := prog_4_method_1_code
def yX2_init : MethodName := ⟨RX2, "<init>", "()V"⟩
abbrev cX2_cross : ByteArray := prog_4_method_2_code
def yX2_cross : MethodName := ⟨RX2, "cross", "(LPlankUnroll$Place;LPlankUnroll$Place;LPlankUnroll$Place;)V"⟩
abbrev cX2_times : ByteArray := prog_4_method_3_code
def yX2_times : MethodName := ⟨RX2, "times", "(LPlankUnroll$Normal;)D"⟩
def RX3 : String := "PlankUnroll$Place"
def TX3 : u_T := fun k => match k with
  | 0 => ("PlankUnroll$Place", "x", "D", false)
  | 1 => ("PlankUnroll$Place", "y", "D", false)
  | _ => ("PlankUnroll$Place", "z", "D", false)
def tyX3 : Nat → FieldType := fun k => match k with
  | 0 => .double
  | 1 => .double
  | _ => .double
abbrev wsX30 : List Cond := u_ws RX3 TX3 3
theorem nmX3 : ∀ a, a < 3 → ∀ b, b < 3 → a ≠ b → (TX3 a).2.1 ≠ (TX3 b).2.1 := by decide +kernel
theorem tyX3_ok : ∀ k, k < 3 → parseFieldDescriptor (TX3 k).2.2.1 = some (tyX3 k) := by decide +kernel
abbrev cX3_init : ByteArray := prog_5_method_1_code
def yX3_init : MethodName := ⟨RX3, "<init>", "()V"⟩
def RX4 : String := "PlankUnroll$Row"
def TX4 : u_T := fun k => match k with
  | _ => ("PlankUnroll$Row", "places", "[LPlankUnroll$Place;", true)
def tyX4 : Nat → FieldType := fun k => match k with
  | _ => .array (.object "PlankUnroll$Place")
abbrev wsX40 : List Cond := u_ws RX4 TX4 1
theorem nmX4 : ∀ a, a < 1 → ∀ b, b < 1 → a ≠ b → (TX4 a).2.1 ≠ (TX4 b).2.1 := by decide +kernel
theorem tyX4_ok : ∀ k, k < 1 → parseFieldDescriptor (TX4 k).2.2.1 = some (tyX4 k) := by decide +kernel
abbrev cX4_init : ByteArray := prog_6_method_1_code
def yX4_init : MethodName := ⟨RX4, "<init>", "(I)V"⟩
def RX5 : String := "PlankUnroll$Strip"
def TX5 : u_T := fun k => match k with
  | 0 => ("PlankUnroll$Strip", "a", "LPlankUnroll$Row;", true)
  | 1 => ("PlankUnroll$Strip", "b", "LPlankUnroll$Row;", true)
  | 2 => ("PlankUnroll$Strip", "cornerX", "[D", true)
  | 3 => ("PlankUnroll$Strip", "cornerY", "[D", true)
  | 4 => ("PlankUnroll$Strip", "butts", "[Z", true)
  | 5 => ("PlankUnroll$Strip", "box", "LPlankUnroll$Box;", true)
  | 6 => ("PlankUnroll$Strip", "unrolled", "Z", false)
  | 7 => ("PlankUnroll$Strip", "board", "I", false)
  | _ => ("PlankUnroll$Strip", "eighths", "I", false)
def tyX5 : Nat → FieldType := fun k => match k with
  | 0 => .object "PlankUnroll$Row"
  | 1 => .object "PlankUnroll$Row"
  | 2 => .array .double
  | 3 => .array .double
  | 4 => .array .boolean
  | 5 => .object "PlankUnroll$Box"
  | 6 => .boolean
  | 7 => .int
  | _ => .int
abbrev wsX50 : List Cond := u_ws RX5 TX5 9
theorem nmX5 : ∀ a, a < 9 → ∀ b, b < 9 → a ≠ b → (TX5 a).2.1 ≠ (TX5 b).2.1 := by decide +kernel
theorem tyX5_ok : ∀ k, k < 9 → parseFieldDescriptor (TX5 k).2.2.1 = some (tyX5 k) := by decide +kernel
abbrev cX5_init : ByteArray := prog_7_method_1_code
def yX5_init : MethodName := ⟨RX5, "<init>", "(LPlankUnroll$Row;LPlankUnroll$Row;I)V"⟩
abbrev cX5_forget : ByteArray := prog_7_method_2_code
def yX5_forget : MethodName := ⟨RX5, "forget", "()V"⟩
abbrev cX5_across : ByteArray := prog_7_method_3_code
def yX5_across : MethodName := ⟨RX5, "across", "(I)D"⟩
abbrev cX5_layFlat : ByteArray := prog_7_method_4_code
def yX5_layFlat : MethodName := ⟨RX5, "layFlat", "()Z"⟩
abbrev cX5_put : ByteArray := prog_7_method_5_code
def yX5_put : MethodName := ⟨RX5, "put", "(IIIDD)Z"⟩
abbrev cX5_extent : ByteArray := prog_7_method_6_code
def yX5_extent : MethodName := ⟨RX5, "extent", "([D)D"⟩
abbrev cX5_offDiagonal : ByteArray := prog_7_method_7_code
def yX5_offDiagonal : MethodName := ⟨RX5, "offDiagonal", "(I)D"⟩
abbrev cX5_keepsOwn : ByteArray := prog_7_method_8_code
def yX5_keepsOwn : MethodName := ⟨RX5, "keepsOwn", "(I)Z"⟩
abbrev cX5_keepsBeside : ByteArray := prog_7_method_9_code
def yX5_keepsBeside : MethodName := ⟨RX5, "keepsBeside", "(LPlankUnroll$Strip;I)Z"⟩
def RX6 : String := "PlankUnroll"
def TX6 : u_T := fun k => match k with
  | 0 => ("PlankUnroll", "frames", "I", true)
  | 1 => ("PlankUnroll", "rows", "[LPlankUnroll$Row;", true)
  | 2 => ("PlankUnroll", "strips", "[LPlankUnroll$Strip;", true)
  | 3 => ("PlankUnroll", "boards", "Ljava/util/ArrayList;", true)
  | 4 => ("PlankUnroll", "near", "LPlankUnroll$Normal;", true)
  | _ => ("PlankUnroll", "far", "LPlankUnroll$Normal;", true)
def tyX6 : Nat → FieldType := fun k => match k with
  | 0 => .int
  | 1 => .array (.object "PlankUnroll$Row")
  | 2 => .array (.object "PlankUnroll$Strip")
  | 3 => .object "java/util/ArrayList"
  | 4 => .object "PlankUnroll$Normal"
  | _ => .object "PlankUnroll$Normal"
abbrev wsX60 : List Cond := u_ws RX6 TX6 6
theorem nmX6 : ∀ a, a < 6 → ∀ b, b < 6 → a ≠ b → (TX6 a).2.1 ≠ (TX6 b).2.1 := by decide +kernel
theorem tyX6_ok : ∀ k, k < 6 → parseFieldDescriptor (TX6 k).2.2.1 = some (tyX6 k) := by decide +kernel
abbrev cX6_init : ByteArray := prog_1_method_1_code
def yX6_init : MethodName := ⟨RX6, "<init>", "(II)V"⟩
abbrev cX6_point : ByteArray := prog_1_method_2_code
def yX6_point : MethodName := ⟨RX6, "point", "(IIDDD)Z"⟩
abbrev cX6_distance : ByteArray := prog_1_method_3_code
def yX6_distance : MethodName := ⟨RX6, "distance", "(IIII)D"⟩
abbrev cX6_unroll : ByteArray := prog_1_method_4_code
def yX6_unroll : MethodName := ⟨RX6, "unroll", "(I)I"⟩
abbrev cX6_flat : ByteArray := prog_1_method_5_code
def yX6_flat : MethodName := ⟨RX6, "flat", "(III)D"⟩
abbrev cX6_stretch : ByteArray := prog_1_method_6_code
def yX6_stretch : MethodName := ⟨RX6, "stretch", "(II)D"⟩
abbrev cX6_worst : ByteArray := prog_1_method_7_code
def yX6_worst : MethodName := ⟨RX6, "worst", "(I)I"⟩
abbrev cX6_bevel : ByteArray := prog_1_method_8_code
def yX6_bevel : MethodName := ⟨RX6, "bevel", "(II)D"⟩
abbrev cX6_width : ByteArray := prog_1_method_9_code
def yX6_width : MethodName := ⟨RX6, "width", "(II)D"⟩
abbrev cX6_girth : ByteArray := prog_1_method_10_code
def yX6_girth : MethodName := ⟨RX6, "girth", "(I)D"⟩
abbrev cX6_butt : ByteArray := prog_1_method_11_code
def yX6_butt : MethodName := ⟨RX6, "butt", "(IIZ)Z"⟩
abbrev cX6_spans : ByteArray := prog_1_method_12_code
def yX6_spans : MethodName := ⟨RX6, "spans", "(I)Z"⟩
abbrev cX6_board : ByteArray := prog_1_method_13_code
def yX6_board : MethodName := ⟨RX6, "board", "(DD)I"⟩
abbrev cX6_fault : ByteArray := prog_1_method_14_code
def yX6_fault : MethodName := ⟨RX6, "fault", "(IDDDD)Z"⟩
abbrev cX6_nest : ByteArray := prog_1_method_15_code
def yX6_nest : MethodName := ⟨RX6, "nest", "(II)I"⟩
abbrev cX6_lies : ByteArray := prog_1_method_16_code
def yX6_lies : MethodName := ⟨RX6, "lies", "(II)I"⟩
abbrev cX6_staves : ByteArray := prog_1_method_17_code
def yX6_staves : MethodName := ⟨RX6, "staves", "(DD)I"⟩
abbrev cX6_closes : ByteArray := prog_1_method_18_code
def yX6_closes : MethodName := ⟨RX6, "closes", "(IDD)D"⟩
abbrev cX6_nearestSize : ByteArray := prog_1_method_19_code
def yX6_nearestSize : MethodName := ⟨RX6, "nearestSize", "(I)I"⟩
abbrev cX6_within : ByteArray := prog_1_method_20_code
def yX6_within : MethodName := ⟨RX6, "within", "(DDD)Z"⟩
abbrev cX6_sizeOf : ByteArray := prog_1_method_21_code
def yX6_sizeOf : MethodName := ⟨RX6, "sizeOf", "(D)D"⟩
abbrev cX6_root : ByteArray := prog_1_method_22_code
def yX6_root : MethodName := ⟨RX6, "root", "(D)D"⟩
abbrev cX6_apart : ByteArray := prog_1_method_23_code
def yX6_apart : MethodName := ⟨RX6, "apart", "(LPlankUnroll$Place;LPlankUnroll$Place;)D"⟩
abbrev cX6_circleOf : ByteArray := prog_1_method_24_code
def yX6_circleOf : MethodName := ⟨RX6, "circleOf", "(D)D"⟩
abbrev cX6_checkFrame : ByteArray := prog_1_method_25_code
def yX6_checkFrame : MethodName := ⟨RX6, "checkFrame", "(I)V"⟩
abbrev cX6_checkCell : ByteArray := prog_1_method_26_code
def yX6_checkCell : MethodName := ⟨RX6, "checkCell", "(I)V"⟩
abbrev cX6_placeAt : ByteArray := prog_1_method_27_code
def yX6_placeAt : MethodName := ⟨RX6, "placeAt", "(II)LPlankUnroll$Place;"⟩
abbrev cX6_stripAt : ByteArray := prog_1_method_28_code
def yX6_stripAt : MethodName := ⟨RX6, "stripAt", "(I)LPlankUnroll$Strip;"⟩
abbrev cX6_boardAt : ByteArray := prog_1_method_29_code
def yX6_boardAt : MethodName := ⟨RX6, "boardAt", "(I)LPlankUnroll$Board;"⟩
abbrev cX6_needUnrolled : ByteArray := prog_1_method_30_code
def yX6_needUnrolled : MethodName := ⟨RX6, "needUnrolled", "(LPlankUnroll$Strip;)V"⟩
abbrev cX6_checkStaves : ByteArray := prog_1_method_31_code
def yX6_checkStaves : MethodName := ⟨RX6, "checkStaves", "(DD)V"⟩
abbrev cX6_leastEighths : ByteArray := prog_1_method_32_code
def yX6_leastEighths : MethodName := ⟨RX6, "leastEighths", "(LPlankUnroll$Board;ILPlankUnroll$Box;)I"⟩
abbrev cX6_overlapped : ByteArray := prog_1_method_33_code
def yX6_overlapped : MethodName := ⟨RX6, "overlapped", "(LPlankUnroll$Board;ILPlankUnroll$Box;)LPlankUnroll$Box;"⟩
abbrev cX6_lastEighthsBefore : ByteArray := prog_1_method_34_code
def yX6_lastEighthsBefore : MethodName := ⟨RX6, "lastEighthsBefore", "(D)I"⟩
def RX7 : String := "PlankUnrollModel"
def TX7 : u_T := fun k => match k with
  | 0 => ("PlankUnrollModel", "thrown", "I", false)
  | 1 => ("PlankUnrollModel", "frames", "I", false)
  | 2 => ("PlankUnrollModel", "rows", "I", false)
  | 3 => ("PlankUnrollModel", "places", "[D", true)
  | 4 => ("PlankUnrollModel", "unrolled", "[Z", true)
  | 5 => ("PlankUnrollModel", "corners", "[D", true)
  | 6 => ("PlankUnrollModel", "draft", "[D", true)
  | 7 => ("PlankUnrollModel", "butts", "[Z", true)
  | 8 => ("PlankUnrollModel", "boards", "I", false)
  | 9 => ("PlankUnrollModel", "wides", "[D", true)
  | 10 => ("PlankUnrollModel", "highs", "[D", true)
  | 11 => ("PlankUnrollModel", "faultCount", "[I", true)
  | 12 => ("PlankUnrollModel", "faults", "[D", true)
  | 13 => ("PlankUnrollModel", "liesOn", "[I", true)
  | 14 => ("PlankUnrollModel", "liesAt", "[I", true)
  | 15 => ("PlankUnrollModel", "px", "D", false)
  | 16 => ("PlankUnrollModel", "py", "D", false)
  | _ => ("PlankUnrollModel", "pz", "D", false)
def tyX7 : Nat → FieldType := fun k => match k with
  | 0 => .int
  | 1 => .int
  | 2 => .int
  | 3 => .array .double
  | 4 => .array .boolean
  | 5 => .array .double
  | 6 => .array .double
  | 7 => .array .boolean
  | 8 => .int
  | 9 => .array .double
  | 10 => .array .double
  | 11 => .array .int
  | 12 => .array .double
  | 13 => .array .int
  | 14 => .array .int
  | 15 => .double
  | 16 => .double
  | _ => .double
abbrev wsX70 : List Cond := u_ws RX7 TX7 18
theorem nmX7 : ∀ a, a < 18 → ∀ b, b < 18 → a ≠ b → (TX7 a).2.1 ≠ (TX7 b).2.1 := by decide +kernel
theorem tyX7_ok : ∀ k, k < 18 → parseFieldDescriptor (TX7 k).2.2.1 = some (tyX7 k) := by decide +kernel
abbrev cX7_init : ByteArray := prog_9_method_1_code
def yX7_init : MethodName := ⟨RX7, "<init>", "(II)V"⟩
abbrev cX7_thrown : ByteArray := prog_9_method_2_code
def yX7_thrown : MethodName := ⟨RX7, "thrown", "()I"⟩
abbrev cX7_between : ByteArray := prog_9_method_3_code
def yX7_between : MethodName := ⟨RX7, "between", "(DDD)Z"⟩
abbrev cX7_noPlace : ByteArray := prog_9_method_4_code
def yX7_noPlace : MethodName := ⟨RX7, "noPlace", "(II)Z"⟩
abbrev cX7_noStrip : ByteArray := prog_9_method_5_code
def yX7_noStrip : MethodName := ⟨RX7, "noStrip", "(I)Z"⟩
abbrev cX7_root : ByteArray := prog_9_method_6_code
def yX7_root : MethodName := ⟨RX7, "root", "(D)D"⟩
abbrev cX7_at : ByteArray := prog_9_method_7_code
def yX7_at : MethodName := ⟨RX7, "at", "(III)D"⟩
abbrev cX7_point : ByteArray := prog_9_method_8_code
def yX7_point : MethodName := ⟨RX7, "point", "(IIDDD)Z"⟩
abbrev cX7_far : ByteArray := prog_9_method_9_code
def yX7_far : MethodName := ⟨RX7, "far", "(IIII)D"⟩
abbrev cX7_distance : ByteArray := prog_9_method_10_code
def yX7_distance : MethodName := ⟨RX7, "distance", "(IIII)D"⟩
abbrev cX7_length : ByteArray := prog_9_method_11_code
def yX7_length : MethodName := ⟨RX7, "length", "(DD)D"⟩
abbrev cX7_put : ByteArray := prog_9_method_12_code
def yX7_put : MethodName := ⟨RX7, "put", "(IIIDD)Z"⟩
abbrev cX7_unroll : ByteArray := prog_9_method_13_code
def yX7_unroll : MethodName := ⟨RX7, "unroll", "(I)I"⟩
abbrev cX7_flat : ByteArray := prog_9_method_14_code
def yX7_flat : MethodName := ⟨RX7, "flat", "(III)D"⟩
abbrev cX7_noCell : ByteArray := prog_9_method_15_code
def yX7_noCell : MethodName := ⟨RX7, "noCell", "(II)Z"⟩
abbrev cX7_off : ByteArray := prog_9_method_16_code
def yX7_off : MethodName := ⟨RX7, "off", "(II)D"⟩
abbrev cX7_stretch : ByteArray := prog_9_method_17_code
def yX7_stretch : MethodName := ⟨RX7, "stretch", "(II)D"⟩
abbrev cX7_worst : ByteArray := prog_9_method_18_code
def yX7_worst : MethodName := ⟨RX7, "worst", "(I)I"⟩
abbrev cX7_cross : ByteArray := prog_9_method_19_code
def yX7_cross : MethodName := ⟨RX7, "cross", "(IIIIII)V"⟩
abbrev cX7_bevel : ByteArray := prog_9_method_20_code
def yX7_bevel : MethodName := ⟨RX7, "bevel", "(II)D"⟩
abbrev cX7_width : ByteArray := prog_9_method_21_code
def yX7_width : MethodName := ⟨RX7, "width", "(II)D"⟩
abbrev cX7_girth : ByteArray := prog_9_method_22_code
def yX7_girth : MethodName := ⟨RX7, "girth", "(I)D"⟩
abbrev cX7_butt : ByteArray := prog_9_method_23_code
def yX7_butt : MethodName := ⟨RX7, "butt", "(IIZ)Z"⟩
abbrev cX7_keeps : ByteArray := prog_9_method_24_code
def yX7_keeps : MethodName := ⟨RX7, "keeps", "(III)Z"⟩
abbrev cX7_spans : ByteArray := prog_9_method_25_code
def yX7_spans : MethodName := ⟨RX7, "spans", "(I)Z"⟩
abbrev cX7_board : ByteArray := prog_9_method_26_code
def yX7_board : MethodName := ⟨RX7, "board", "(DD)I"⟩
abbrev cX7_fault : ByteArray := prog_9_method_27_code
def yX7_fault : MethodName := ⟨RX7, "fault", "(IDDDD)Z"⟩
abbrev cX7_size : ByteArray := prog_9_method_28_code
def yX7_size : MethodName := ⟨RX7, "size", "(II)D"⟩
abbrev cX7_isOpen : ByteArray := prog_9_method_29_code
def yX7_isOpen : MethodName := ⟨RX7, "isOpen", "(IDDD)Z"⟩
abbrev cX7_nest : ByteArray := prog_9_method_30_code
def yX7_nest : MethodName := ⟨RX7, "nest", "(II)I"⟩
abbrev cX7_lies : ByteArray := prog_9_method_31_code
def yX7_lies : MethodName := ⟨RX7, "lies", "(II)I"⟩
abbrev cX7_areStaves : ByteArray := prog_9_method_32_code
def yX7_areStaves : MethodName := ⟨RX7, "areStaves", "(DD)Z"⟩
abbrev cX7_staves : ByteArray := prog_9_method_33_code
def yX7_staves : MethodName := ⟨RX7, "staves", "(DD)I"⟩
abbrev cX7_closes : ByteArray := prog_9_method_34_code
def yX7_closes : MethodName := ⟨RX7, "closes", "(IDD)D"⟩
def RJx145de : String := "java/io/Serializable"
def TJx145de : u_T := fun k => match k with
  | _ => ("", "", "", false)
def tyJx145de : Nat → FieldType := fun k => match k with
  | _ => .int
abbrev wsJx145de0 : List Cond := u_ws RJx145de TJx145de 0
theorem nmJx145de : ∀ a, a < 0 → ∀ b, b < 0 → a ≠ b → (TJx145de a).2.1 ≠ (TJx145de b).2.1 := by decide +kernel
theorem tyJx145de_ok : ∀ k, k < 0 → parseFieldDescriptor (TJx145de k).2.2.1 = some (tyJx145de k) := by decide +kernel
def RJx8e188 : String := "java/lang/Cloneable"
def TJx8e188 : u_T := fun k => match k with
  | _ => ("", "", "", false)
def tyJx8e188 : Nat → FieldType := fun k => match k with
  | _ => .int
abbrev wsJx8e1880 : List Cond := u_ws RJx8e188 TJx8e188 0
theorem nmJx8e188 : ∀ a, a < 0 → ∀ b, b < 0 → a ≠ b → (TJx8e188 a).2.1 ≠ (TJx8e188 b).2.1 := by decide +kernel
theorem tyJx8e188_ok : ∀ k, k < 0 → parseFieldDescriptor (TJx8e188 k).2.2.1 = some (tyJx8e188 k) := by decide +kernel
def RJxab1ab : String := "java/lang/Iterable"
def TJxab1ab : u_T := fun k => match k with
  | _ => ("", "", "", false)
def tyJxab1ab : Nat → FieldType := fun k => match k with
  | _ => .int
abbrev wsJxab1ab0 : List Cond := u_ws RJxab1ab TJxab1ab 0
theorem nmJxab1ab : ∀ a, a < 0 → ∀ b, b < 0 → a ≠ b → (TJxab1ab a).2.1 ≠ (TJxab1ab b).2.1 := by decide +kernel
theorem tyJxab1ab_ok : ∀ k, k < 0 → parseFieldDescriptor (TJxab1ab k).2.2.1 = some (tyJxab1ab k) := by decide +kernel
def RJ9 : String := "java/lang/Math"
def TJ9 : u_T := fun k => match k with
  | _ => ("", "", "", false)
def tyJ9 : Nat → FieldType := fun k => match k with
  | _ => .int
abbrev wsJ90 : List Cond := u_ws RJ9 TJ9 0
theorem nmJ9 : ∀ a, a < 0 → ∀ b, b < 0 → a ≠ b → (TJ9 a).2.1 ≠ (TJ9 b).2.1 := by decide +kernel
theorem tyJ9_ok : ∀ k, k < 0 → parseFieldDescriptor (TJ9 k).2.2.1 = some (tyJ9 k) := by decide +kernel
abbrev cJ9_abs_0f7a4 : ByteArray := prog_17_method_59_code
def yJ9_abs_0f7a4 : MethodName := ⟨RJ9, "abs", "(I)I"⟩
abbrev cJ9_max_7cf53 : ByteArray := prog_17_method_65_code
def yJ9_max_7cf53 : MethodName := ⟨RJ9, "max", "(II)I"⟩
abbrev cJ9_min_7cf53 : ByteArray := prog_17_method_69_code
def yJ9_min_7cf53 : MethodName := ⟨RJ9, "min", "(II)I"⟩
def RJ0 : String := "java/lang/String"
def TJ0 : u_T := fun k => match k with
  | _ => ("", "", "", false)
def tyJ0 : Nat → FieldType := fun k => match k with
  | _ => .int
abbrev wsJ00 : List Cond := u_ws RJ0 TJ0 0
theorem nmJ0 : ∀ a, a < 0 → ∀ b, b < 0 → a ≠ b → (TJ0 a).2.1 ≠ (TJ0 b).2.1 := by decide +kernel
theorem tyJ0_ok : ∀ k, k < 0 → parseFieldDescriptor (TJ0 k).2.2.1 = some (tyJ0 k) := by decide +kernel
def RJ10 : String := "java/lang/System"
def TJ10 : u_T := fun k => match k with
  | _ => ("", "", "", false)
def tyJ10 : Nat → FieldType := fun k => match k with
  | _ => .int
abbrev wsJ100 : List Cond := u_ws RJ10 TJ10 0
theorem nmJ10 : ∀ a, a < 0 → ∀ b, b < 0 → a ≠ b → (TJ10 a).2.1 ≠ (TJ10 b).2.1 := by decide +kernel
theorem tyJ10_ok : ∀ k, k < 0 → parseFieldDescriptor (TJ10 k).2.2.1 = some (tyJ10 k) := by decide +kernel
def RJxa1e45 : String := "java/util/AbstractCollection"
def TJxa1e45 : u_T := fun k => match k with
  | _ => ("", "", "", false)
def tyJxa1e45 : Nat → FieldType := fun k => match k with
  | _ => .int
abbrev wsJxa1e450 : List Cond := u_ws RJxa1e45 TJxa1e45 0
theorem nmJxa1e45 : ∀ a, a < 0 → ∀ b, b < 0 → a ≠ b → (TJxa1e45 a).2.1 ≠ (TJxa1e45 b).2.1 := by decide +kernel
theorem tyJxa1e45_ok : ∀ k, k < 0 → parseFieldDescriptor (TJxa1e45 k).2.2.1 = some (tyJxa1e45 k) := by decide +kernel
abbrev cJxa1e45_init_da8c8 : ByteArray := prog_22_method_1_code
def yJxa1e45_init_da8c8 : MethodName := ⟨RJxa1e45, "<init>", "()V"⟩
def RJxc12de : String := "java/util/AbstractList"
def TJxc12de : u_T := fun k => match k with
  | _ => ("", "", "", false)
def tyJxc12de : Nat → FieldType := fun k => match k with
  | _ => .int
abbrev wsJxc12de0 : List Cond := u_ws RJxc12de TJxc12de 0
theorem nmJxc12de : ∀ a, a < 0 → ∀ b, b < 0 → a ≠ b → (TJxc12de a).2.1 ≠ (TJxc12de b).2.1 := by decide +kernel
theorem tyJxc12de_ok : ∀ k, k < 0 → parseFieldDescriptor (TJxc12de k).2.2.1 = some (tyJxc12de k) := by decide +kernel
abbrev cJxc12de_init_da8c8 : ByteArray := prog_23_method_1_code
def yJxc12de_init_da8c8 : MethodName := ⟨RJxc12de, "<init>", "()V"⟩
def RJx4a65c : String := "java/util/ArrayList"
def TJx4a65c : u_T := fun k => match k with
  | 0 => ("java/util/AbstractList", "modCount", "I", false)
  | 1 => ("java/util/ArrayList", "elementData", "[Ljava/lang/Object;", false)
  | _ => ("java/util/ArrayList", "size", "I", false)
def tyJx4a65c : Nat → FieldType := fun k => match k with
  | 0 => .int
  | 1 => .array (.object "java/lang/Object")
  | _ => .int
abbrev wsJx4a65c0 : List Cond := u_ws RJx4a65c TJx4a65c 3
theorem nmJx4a65c : ∀ a, a < 3 → ∀ b, b < 3 → a ≠ b → (TJx4a65c a).2.1 ≠ (TJx4a65c b).2.1 := by decide +kernel
theorem tyJx4a65c_ok : ∀ k, k < 3 → parseFieldDescriptor (TJx4a65c k).2.2.1 = some (tyJx4a65c k) := by decide +kernel
abbrev cJx4a65c_init_da8c8 : ByteArray := prog_24_method_2_code
def yJx4a65c_init_da8c8 : MethodName := ⟨RJx4a65c, "<init>", "()V"⟩
abbrev cJx4a65c_grow_92f84 : ByteArray := prog_24_method_6_code
def yJx4a65c_grow_92f84 : MethodName := ⟨RJx4a65c, "grow", "(I)[Ljava/lang/Object;"⟩
abbrev cJx4a65c_grow_d5877 : ByteArray := prog_24_method_7_code
def yJx4a65c_grow_d5877 : MethodName := ⟨RJx4a65c, "grow", "()[Ljava/lang/Object;"⟩
abbrev cJx4a65c_size_8abf5 : ByteArray := prog_24_method_8_code
def yJx4a65c_size_8abf5 : MethodName := ⟨RJx4a65c, "size", "()I"⟩
abbrev cJx4a65c_elementData_915e3 : ByteArray := prog_24_method_18_code
def yJx4a65c_elementData_915e3 : MethodName := ⟨RJx4a65c, "elementData", "(I)Ljava/lang/Object;"⟩
abbrev cJx4a65c_get_915e3 : ByteArray := prog_24_method_20_code
def yJx4a65c_get_915e3 : MethodName := ⟨RJx4a65c, "get", "(I)Ljava/lang/Object;"⟩
abbrev cJx4a65c_add_72be8 : ByteArray := prog_24_method_24_code
def yJx4a65c_add_72be8 : MethodName := ⟨RJx4a65c, "add", "(Ljava/lang/Object;[Ljava/lang/Object;I)V"⟩
abbrev cJx4a65c_add_9ea2d : ByteArray := prog_24_method_25_code
def yJx4a65c_add_9ea2d : MethodName := ⟨RJx4a65c, "add", "(Ljava/lang/Object;)Z"⟩
def RJ7 : String := "java/util/Arrays"
def TJ7 : u_T := fun k => match k with
  | _ => ("", "", "", false)
def tyJ7 : Nat → FieldType := fun k => match k with
  | _ => .int
abbrev wsJ70 : List Cond := u_ws RJ7 TJ7 0
theorem nmJ7 : ∀ a, a < 0 → ∀ b, b < 0 → a ≠ b → (TJ7 a).2.1 ≠ (TJ7 b).2.1 := by decide +kernel
theorem tyJ7_ok : ∀ k, k < 0 → parseFieldDescriptor (TJ7 k).2.2.1 = some (tyJ7 k) := by decide +kernel
abbrev cJ7_copyOf_1904c : ByteArray := prog_25_method_119_code
def yJ7_copyOf_1904c : MethodName := ⟨RJ7, "copyOf", "([Ljava/lang/Object;I)[Ljava/lang/Object;"⟩
abbrev cJ7_copyOf_6403c : ByteArray := prog_25_method_120_code
def yJ7_copyOf_6403c : MethodName := ⟨RJ7, "copyOf", "([Ljava/lang/Object;ILjava/lang/Class;)[Ljava/lang/Object;"⟩
def RJx5ef63 : String := "java/util/Collection"
def TJx5ef63 : u_T := fun k => match k with
  | _ => ("", "", "", false)
def tyJx5ef63 : Nat → FieldType := fun k => match k with
  | _ => .int
abbrev wsJx5ef630 : List Cond := u_ws RJx5ef63 TJx5ef63 0
theorem nmJx5ef63 : ∀ a, a < 0 → ∀ b, b < 0 → a ≠ b → (TJx5ef63 a).2.1 ≠ (TJx5ef63 b).2.1 := by decide +kernel
theorem tyJx5ef63_ok : ∀ k, k < 0 → parseFieldDescriptor (TJx5ef63 k).2.2.1 = some (tyJx5ef63 k) := by decide +kernel
def RJxbd725 : String := "java/util/List"
def TJxbd725 : u_T := fun k => match k with
  | _ => ("", "", "", false)
def tyJxbd725 : Nat → FieldType := fun k => match k with
  | _ => .int
abbrev wsJxbd7250 : List Cond := u_ws RJxbd725 TJxbd725 0
theorem nmJxbd725 : ∀ a, a < 0 → ∀ b, b < 0 → a ≠ b → (TJxbd725 a).2.1 ≠ (TJxbd725 b).2.1 := by decide +kernel
theorem tyJxbd725_ok : ∀ k, k < 0 → parseFieldDescriptor (TJxbd725 k).2.2.1 = some (tyJxbd725 k) := by decide +kernel
def RJ15 : String := "java/util/Objects"
def TJ15 : u_T := fun k => match k with
  | _ => ("", "", "", false)
def tyJ15 : Nat → FieldType := fun k => match k with
  | _ => .int
abbrev wsJ150 : List Cond := u_ws RJ15 TJ15 0
theorem nmJ15 : ∀ a, a < 0 → ∀ b, b < 0 → a ≠ b → (TJ15 a).2.1 ≠ (TJ15 b).2.1 := by decide +kernel
theorem tyJ15_ok : ∀ k, k < 0 → parseFieldDescriptor (TJ15 k).2.2.1 = some (tyJ15 k) := by decide +kernel
abbrev cJ15_checkIndex_7cf53 : ByteArray := prog_28_method_17_code
def yJ15_checkIndex_7cf53 : MethodName := ⟨RJ15, "checkIndex", "(II)I"⟩
def RJxf0a74 : String := "java/util/RandomAccess"
def TJxf0a74 : u_T := fun k => match k with
  | _ => ("", "", "", false)
def tyJxf0a74 : Nat → FieldType := fun k => match k with
  | _ => .int
abbrev wsJxf0a740 : List Cond := u_ws RJxf0a74 TJxf0a74 0
theorem nmJxf0a74 : ∀ a, a < 0 → ∀ b, b < 0 → a ≠ b → (TJxf0a74 a).2.1 ≠ (TJxf0a74 b).2.1 := by decide +kernel
theorem tyJxf0a74_ok : ∀ k, k < 0 → parseFieldDescriptor (TJxf0a74 k).2.2.1 = some (tyJxf0a74 k) := by decide +kernel
def RJxa66e6 : String := "java/util/SequencedCollection"
def TJxa66e6 : u_T := fun k => match k with
  | _ => ("", "", "", false)
def tyJxa66e6 : Nat → FieldType := fun k => match k with
  | _ => .int
abbrev wsJxa66e60 : List Cond := u_ws RJxa66e6 TJxa66e6 0
theorem nmJxa66e6 : ∀ a, a < 0 → ∀ b, b < 0 → a ≠ b → (TJxa66e6 a).2.1 ≠ (TJxa66e6 b).2.1 := by decide +kernel
theorem tyJxa66e6_ok : ∀ k, k < 0 → parseFieldDescriptor (TJxa66e6 k).2.2.1 = some (tyJxa66e6 k) := by decide +kernel
def RJ8 : String := "jdk/internal/util/ArraysSupport"
def TJ8 : u_T := fun k => match k with
  | _ => ("", "", "", false)
def tyJ8 : Nat → FieldType := fun k => match k with
  | _ => .int
abbrev wsJ80 : List Cond := u_ws RJ8 TJ8 0
theorem nmJ8 : ∀ a, a < 0 → ∀ b, b < 0 → a ≠ b → (TJ8 a).2.1 ≠ (TJ8 b).2.1 := by decide +kernel
theorem tyJ8_ok : ∀ k, k < 0 → parseFieldDescriptor (TJ8 k).2.2.1 = some (tyJ8 k) := by decide +kernel
abbrev cJ8_newLength_cabcc : ByteArray := prog_31_method_27_code
def yJ8_newLength_cabcc : MethodName := ⟨RJ8, "newLength", "(III)I"⟩
abbrev cJ8_hugeLength_7cf53 : ByteArray := prog_31_method_28_code
def yJ8_hugeLength_7cf53 : MethodName := ⟨RJ8, "hugeLength", "(II)I"⟩
def RJ3 : String := "jdk/internal/util/Preconditions"
def TJ3 : u_T := fun k => match k with
  | _ => ("", "", "", false)
def tyJ3 : Nat → FieldType := fun k => match k with
  | _ => .int
abbrev wsJ30 : List Cond := u_ws RJ3 TJ3 0
theorem nmJ3 : ∀ a, a < 0 → ∀ b, b < 0 → a ≠ b → (TJ3 a).2.1 ≠ (TJ3 b).2.1 := by decide +kernel
theorem tyJ3_ok : ∀ k, k < 0 → parseFieldDescriptor (TJ3 k).2.2.1 = some (tyJ3 k) := by decide +kernel
abbrev cJ3_checkIndex_8e157 : ByteArray := prog_32_method_11_code
def yJ3_checkIndex_8e157 : MethodName := ⟨RJ3, "checkIndex", "(IILjava/util/function/BiFunction;)I"⟩
def RL : String := "PlankUnrollLaw"
abbrev cL_cell : ByteArray := method_2_code
def yL_cell : MethodName := ⟨RL, "cell", "([II)I"⟩
abbrev cL_point : ByteArray := method_3_code
def yL_point : MethodName := ⟨RL, "point", "(LPlankUnroll;IIDDD[J)I"⟩
abbrev cL_distance : ByteArray := method_4_code
def yL_distance : MethodName := ⟨RL, "distance", "(LPlankUnroll;IIII[D)I"⟩
abbrev cL_unroll : ByteArray := method_5_code
def yL_unroll : MethodName := ⟨RL, "unroll", "(LPlankUnroll;I[J)I"⟩
abbrev cL_flat : ByteArray := method_6_code
def yL_flat : MethodName := ⟨RL, "flat", "(LPlankUnroll;III[D)I"⟩
abbrev cL_stretch : ByteArray := method_7_code
def yL_stretch : MethodName := ⟨RL, "stretch", "(LPlankUnroll;II[D)I"⟩
abbrev cL_worst : ByteArray := method_8_code
def yL_worst : MethodName := ⟨RL, "worst", "(LPlankUnroll;I[J)I"⟩
abbrev cL_bevel : ByteArray := method_9_code
def yL_bevel : MethodName := ⟨RL, "bevel", "(LPlankUnroll;II[D)I"⟩
abbrev cL_width : ByteArray := method_10_code
def yL_width : MethodName := ⟨RL, "width", "(LPlankUnroll;II[D)I"⟩
abbrev cL_girth : ByteArray := method_11_code
def yL_girth : MethodName := ⟨RL, "girth", "(LPlankUnroll;I[D)I"⟩
abbrev cL_butt : ByteArray := method_12_code
def yL_butt : MethodName := ⟨RL, "butt", "(LPlankUnroll;IIZ[J)I"⟩
abbrev cL_spans : ByteArray := method_13_code
def yL_spans : MethodName := ⟨RL, "spans", "(LPlankUnroll;I[J)I"⟩
abbrev cL_board : ByteArray := method_14_code
def yL_board : MethodName := ⟨RL, "board", "(LPlankUnroll;DD[J)I"⟩
abbrev cL_fault : ByteArray := method_15_code
def yL_fault : MethodName := ⟨RL, "fault", "(LPlankUnroll;IDDDD[J)I"⟩
abbrev cL_nest : ByteArray := method_16_code
def yL_nest : MethodName := ⟨RL, "nest", "(LPlankUnroll;II[J)I"⟩
abbrev cL_lies : ByteArray := method_17_code
def yL_lies : MethodName := ⟨RL, "lies", "(LPlankUnroll;II[J)I"⟩
abbrev cL_staves : ByteArray := method_18_code
def yL_staves : MethodName := ⟨RL, "staves", "(LPlankUnroll;DD[J)I"⟩
abbrev cL_closes : ByteArray := method_19_code
def yL_closes : MethodName := ⟨RL, "closes", "(LPlankUnroll;IDD[D)I"⟩
abbrev cL_law : ByteArray := code
def yL_law : MethodName := ⟨RL, "law", "([I)Z"⟩
def wsJxa1e45_init_da8c8 : List Cond := .code yJxa1e45_init_da8c8 cJxa1e45_init_da8c8 1 none :: ([.methodLink RJxa1e45 1 objectInit, .instanceMethod objectInit, .code objectInit ⟨#[0xb1]⟩ 1 none])
def wsJxc12de_init_da8c8 : List Cond := .code yJxc12de_init_da8c8 cJxc12de_init_da8c8 1 none :: ([.fieldLink RJxc12de 7 "java/util/AbstractList" "modCount" "I", .methodLink RJxc12de 1 yJxa1e45_init_da8c8, .instanceMethod yJxa1e45_init_da8c8, .initialized RJxa1e45, .code yJxa1e45_init_da8c8 cJxa1e45_init_da8c8 1 none, .methodLink RJxa1e45 1 objectInit, .instanceMethod objectInit, .code objectInit ⟨#[0xb1]⟩ 1 none] ++ wsJx4a65c0)
def wsJx4a65c_init_da8c8 : List Cond := .code yJx4a65c_init_da8c8 cJx4a65c_init_da8c8 1 none :: ([.fieldLink RJx4a65c 39 "java/util/ArrayList" "DEFAULTCAPACITY_EMPTY_ELEMENTDATA" "[Ljava/lang/Object;", .fieldLink RJx4a65c 9 "java/util/ArrayList" "elementData" "[Ljava/lang/Object;", .methodLink RJx4a65c 1 yJxc12de_init_da8c8, .instanceMethod yJxc12de_init_da8c8, .initialized RJxc12de, .code yJxc12de_init_da8c8 cJxc12de_init_da8c8 1 none, .fieldLink RJxc12de 7 "java/util/AbstractList" "modCount" "I", .methodLink RJxc12de 1 yJxa1e45_init_da8c8, .instanceMethod yJxa1e45_init_da8c8, .initialized RJxa1e45, .code yJxa1e45_init_da8c8 cJxa1e45_init_da8c8 1 none, .methodLink RJxa1e45 1 objectInit, .instanceMethod objectInit, .code objectInit ⟨#[0xb1]⟩ 1 none] ++ wsJx4a65c0)
def wsX0_init : List Cond := .code yX0_init cX0_init 5 none :: ([.methodLink RX0 1 objectInit, .instanceMethod objectInit, .code objectInit ⟨#[0xb1]⟩ 1 none, .fieldLink RX0 7 "PlankUnroll$Board" "w" "D", .fieldLink RX0 13 "PlankUnroll$Board" "h" "D", .classLink RX0 16 RJx4a65c, .instantiable RJx4a65c 3, .initialized RJx4a65c, .fieldLink RX0 19 "PlankUnroll$Board" "faults" "Ljava/util/ArrayList;", .methodLink RX0 18 yJx4a65c_init_da8c8, .instanceMethod yJx4a65c_init_da8c8, .code yJx4a65c_init_da8c8 cJx4a65c_init_da8c8 1 none, .fieldLink RJx4a65c 39 "java/util/ArrayList" "DEFAULTCAPACITY_EMPTY_ELEMENTDATA" "[Ljava/lang/Object;", .fieldLink RJx4a65c 9 "java/util/ArrayList" "elementData" "[Ljava/lang/Object;", .methodLink RJx4a65c 1 yJxc12de_init_da8c8, .instanceMethod yJxc12de_init_da8c8, .initialized RJxc12de, .code yJxc12de_init_da8c8 cJxc12de_init_da8c8 1 none, .fieldLink RJxc12de 7 "java/util/AbstractList" "modCount" "I", .methodLink RJxc12de 1 yJxa1e45_init_da8c8, .instanceMethod yJxa1e45_init_da8c8, .initialized RJxa1e45, .code yJxa1e45_init_da8c8 cJxa1e45_init_da8c8 1 none, .methodLink RJxa1e45 1 objectInit] ++ wsX00 ++ wsJx4a65c0)
def wsX1_init : List Cond := .code yX1_init cX1_init 9 none :: ([.methodLink RX1 1 objectInit, .instanceMethod objectInit, .code objectInit ⟨#[0xb1]⟩ 1 none, .fieldLink RX1 7 "PlankUnroll$Box" "x" "D", .fieldLink RX1 13 "PlankUnroll$Box" "y" "D", .fieldLink RX1 16 "PlankUnroll$Box" "w" "D", .fieldLink RX1 19 "PlankUnroll$Box" "h" "D"] ++ wsX10)
def wsX1_overlaps : List Cond := .code yX1_overlaps cX1_overlaps 2 (some .boolean) :: ([.fieldLink RX1 7 "PlankUnroll$Box" "x" "D", .fieldLink RX1 16 "PlankUnroll$Box" "w" "D", .fieldLink RX1 13 "PlankUnroll$Box" "y" "D", .fieldLink RX1 19 "PlankUnroll$Box" "h" "D"] ++ wsX10)
def wsX2_init : List Cond := .code yX2_init cX2_init 1 none :: ([.methodLink RX2 1 objectInit, .instanceMethod objectInit, .code objectInit ⟨#[0xb1]⟩ 1 none])
def wsX2_cross : List Cond := .code yX2_cross cX2_cross 16 none :: ([.fieldLink RX2 7 "PlankUnroll$Place" "x" "D", .fieldLink RX2 13 "PlankUnroll$Place" "y" "D", .fieldLink RX2 16 "PlankUnroll$Place" "z" "D", .fieldLink RX2 19 "PlankUnroll$Normal" "x" "D", .fieldLink RX2 22 "PlankUnroll$Normal" "y" "D", .fieldLink RX2 23 "PlankUnroll$Normal" "z" "D"] ++ wsX30 ++ wsX20)
def wsX2_times : List Cond := .code yX2_times cX2_times 2 (some .double) :: ([.fieldLink RX2 19 "PlankUnroll$Normal" "x" "D", .fieldLink RX2 22 "PlankUnroll$Normal" "y" "D", .fieldLink RX2 23 "PlankUnroll$Normal" "z" "D"] ++ wsX20)
def wsX3_init : List Cond := .code yX3_init cX3_init 1 none :: ([.methodLink RX3 1 objectInit, .instanceMethod objectInit, .code objectInit ⟨#[0xb1]⟩ 1 none])
def wsX4_init : List Cond := .code yX4_init cX4_init 3 none :: ([.methodLink RX4 1 objectInit, .instanceMethod objectInit, .code objectInit ⟨#[0xb1]⟩ 1 none, .classLink RX4 7 RX3, .fieldLink RX4 9 "PlankUnroll$Row" "places" "[LPlankUnroll$Place;", .instantiable RX3 3, .initialized RX3, .instanceMethod yX3_init, .code yX3_init cX3_init 1 none, .methodLink RX3 1 objectInit] ++ wsX40 ++ wsX30)
def wsX5_init : List Cond := .code yX5_init cX5_init 4 none :: ([.methodLink RX5 3 objectInit, .instanceMethod objectInit, .code objectInit ⟨#[0xb1]⟩ 1 none, .fieldLink RX5 9 "PlankUnroll$Strip" "a" "LPlankUnroll$Row;", .fieldLink RX5 15 "PlankUnroll$Strip" "b" "LPlankUnroll$Row;", .arrayClass .double, .fieldLink RX5 18 "PlankUnroll$Strip" "cornerX" "[D", .fieldLink RX5 22 "PlankUnroll$Strip" "cornerY" "[D", .arrayClass .boolean, .fieldLink RX5 25 "PlankUnroll$Strip" "butts" "[Z", .classLink RX5 29 RX1, .instantiable RX1 4, .initialized RX1, .fieldLink RX5 34 "PlankUnroll$Strip" "box" "LPlankUnroll$Box;", .fieldLink RX5 38 "PlankUnroll$Strip" "board" "I", .fieldLink RX5 42 "PlankUnroll$Strip" "eighths" "I", .methodLink RX5 31 yX1_init, .instanceMethod yX1_init, .code yX1_init cX1_init 9 none, .methodLink RX1 1 objectInit, .fieldLink RX1 7 "PlankUnroll$Box" "x" "D", .fieldLink RX1 13 "PlankUnroll$Box" "y" "D", .fieldLink RX1 16 "PlankUnroll$Box" "w" "D", .fieldLink RX1 19 "PlankUnroll$Box" "h" "D"] ++ wsX50 ++ wsX10)
def wsX5_forget : List Cond := .code yX5_forget cX5_forget 1 none :: ([.fieldLink RX5 45 "PlankUnroll$Strip" "unrolled" "Z", .fieldLink RX5 38 "PlankUnroll$Strip" "board" "I", .fieldLink RX5 42 "PlankUnroll$Strip" "eighths" "I"] ++ wsX50)
def wsX6_root : List Cond := .code yX6_root cX6_root 5 (some .double) :: ([.constantDouble RX6 249 (4611686018427387904)])
def wsX6_apart : List Cond := .code yX6_apart cX6_apart 8 (some .double) :: ([.fieldLink RX6 71 "PlankUnroll$Place" "x" "D", .fieldLink RX6 77 "PlankUnroll$Place" "y" "D", .fieldLink RX6 80 "PlankUnroll$Place" "z" "D", .methodLink RX6 155 yX6_root, .static yX6_root, .initialized RX6, .code yX6_root cX6_root 5 (some .double), .constantDouble RX6 249 (4611686018427387904)] ++ wsX30)
def wsX5_across : List Cond := .code yX5_across cX5_across 2 (some .double) :: ([.fieldLink RX5 9 "PlankUnroll$Strip" "a" "LPlankUnroll$Row;", .fieldLink RX5 49 "PlankUnroll$Row" "places" "[LPlankUnroll$Place;", .fieldLink RX5 15 "PlankUnroll$Strip" "b" "LPlankUnroll$Row;", .static yX6_apart, .initialized RX6, .code yX6_apart cX6_apart 8 (some .double), .fieldLink RX6 71 "PlankUnroll$Place" "x" "D", .fieldLink RX6 77 "PlankUnroll$Place" "y" "D", .fieldLink RX6 80 "PlankUnroll$Place" "z" "D", .methodLink RX6 155 yX6_root, .static yX6_root, .code yX6_root cX6_root 5 (some .double), .constantDouble RX6 249 (4611686018427387904)] ++ wsX50 ++ wsX40 ++ wsX30)
def wsX5_put : List Cond := .code yX5_put cX5_put 18 (some .boolean) :: ([.fieldLink RX5 18 "PlankUnroll$Strip" "cornerX" "[D", .fieldLink RX5 22 "PlankUnroll$Strip" "cornerY" "[D", .constantDouble RX5 82 (4562146422526312448), .constantDouble RX5 84 (4611686018427387904), .static yX6_root, .initialized RX6, .code yX6_root cX6_root 5 (some .double), .constantDouble RX6 249 (4611686018427387904)] ++ wsX50)
def wsX5_extent : List Cond := .code yX5_extent cX5_extent 10 (some .double) :: ([])
def wsX5_layFlat_r1 : List Cond := [Cond.fieldLink RX5 18 "PlankUnroll$Strip" "cornerX" "[D", Cond.fieldLink RX5 22 "PlankUnroll$Strip" "cornerY" "[D", Cond.fieldLink RX5 25 "PlankUnroll$Strip" "butts" "[Z", Cond.fieldLink RX5 9 "PlankUnroll$Strip" "a" "LPlankUnroll$Row;", Cond.fieldLink RX5 49 "PlankUnroll$Row" "places" "[LPlankUnroll$Place;", Cond.fieldLink RX5 15 "PlankUnroll$Strip" "b" "LPlankUnroll$Row;", Cond.fieldLink RX5 34 "PlankUnroll$Strip" "box" "LPlankUnroll$Box;", Cond.fieldLink RX5 71 "PlankUnroll$Box" "w" "D", Cond.fieldLink RX5 75 "PlankUnroll$Box" "h" "D", Cond.fieldLink RX5 45 "PlankUnroll$Strip" "unrolled" "Z", Cond.methodLink RX5 59 yX5_across, Cond.instanceMethod yX5_across, Cond.selects RX5 yX5_across yX5_across, Cond.initialized RX5, Cond.code yX5_across cX5_across 2 (some .double), Cond.static yX6_apart, Cond.initialized RX6, Cond.code yX6_apart cX6_apart 8 (some .double), Cond.fieldLink RX6 71 "PlankUnroll$Place" "x" "D", Cond.fieldLink RX6 77 "PlankUnroll$Place" "y" "D", Cond.fieldLink RX6 80 "PlankUnroll$Place" "z" "D", Cond.methodLink RX6 155 yX6_root, Cond.static yX6_root, Cond.code yX6_root cX6_root 5 (some .double)]
def wsX5_layFlat_r2 : List Cond := [Cond.constantDouble RX6 249 (4611686018427387904), Cond.methodLink RX5 63 yX5_put, Cond.instanceMethod yX5_put, Cond.selects RX5 yX5_put yX5_put, Cond.code yX5_put cX5_put 18 (some .boolean), Cond.constantDouble RX5 82 (4562146422526312448), Cond.constantDouble RX5 84 (4611686018427387904), Cond.methodLink RX5 67 yX5_extent, Cond.static yX5_extent, Cond.code yX5_extent cX5_extent 10 (some .double)]
def wsX5_layFlat : List Cond := .code yX5_layFlat cX5_layFlat 8 (some .boolean) :: ((wsX5_layFlat_r1 ++ wsX5_layFlat_r2) ++ wsX50 ++ wsX40 ++ wsX10 ++ wsX30)
def wsX5_offDiagonal : List Cond := .code yX5_offDiagonal cX5_offDiagonal 8 (some .double) :: ([.fieldLink RX5 18 "PlankUnroll$Strip" "cornerX" "[D", .fieldLink RX5 22 "PlankUnroll$Strip" "cornerY" "[D", .fieldLink RX5 9 "PlankUnroll$Strip" "a" "LPlankUnroll$Row;", .fieldLink RX5 49 "PlankUnroll$Row" "places" "[LPlankUnroll$Place;", .fieldLink RX5 15 "PlankUnroll$Strip" "b" "LPlankUnroll$Row;", .static yX6_root, .initialized RX6, .code yX6_root cX6_root 5 (some .double), .constantDouble RX6 249 (4611686018427387904), .static yX6_apart, .code yX6_apart cX6_apart 8 (some .double), .fieldLink RX6 71 "PlankUnroll$Place" "x" "D", .fieldLink RX6 77 "PlankUnroll$Place" "y" "D", .fieldLink RX6 80 "PlankUnroll$Place" "z" "D", .methodLink RX6 155 yX6_root] ++ wsX50 ++ wsX40 ++ wsX30)
def wsX5_keepsOwn : List Cond := .code yX5_keepsOwn cX5_keepsOwn 4 (some .boolean) :: ([.fieldLink RX5 25 "PlankUnroll$Strip" "butts" "[Z"] ++ wsX50)
def wsX5_keepsBeside : List Cond := .code yX5_keepsBeside cX5_keepsBeside 5 (some .boolean) :: ([.fieldLink RX5 25 "PlankUnroll$Strip" "butts" "[Z", .methodLink RX5 86 Lib.Math.abs.name, .static Lib.Math.abs.name, .initialized "java/lang/Math", .code Lib.Math.abs.name Lib.Math.abs.code 1 (some .int)] ++ wsX50)
def wsX6_nearestSize : List Cond := .code yX6_nearestSize cX6_nearestSize 1 (some .int) :: ([.methodLink RX6 246 Lib.Math.min.name, .static Lib.Math.min.name, .initialized "java/lang/Math", .code Lib.Math.min.name Lib.Math.min.code 2 (some .int), .methodLink RX6 237 Lib.Math.max.name, .static Lib.Math.max.name, .code Lib.Math.max.name Lib.Math.max.code 2 (some .int)])
def wsX6_init_r1 : List Cond := [Cond.methodLink RX6 1 objectInit, Cond.instanceMethod objectInit, Cond.code objectInit ⟨#[0xb1]⟩ 1 none, Cond.fieldLink RX6 13 "PlankUnroll" "frames" "I", Cond.classLink RX6 17 RX4, Cond.fieldLink RX6 19 "PlankUnroll" "rows" "[LPlankUnroll$Row;", Cond.instantiable RX4 1, Cond.initialized RX4, Cond.classLink RX6 26 RX5, Cond.fieldLink RX6 28 "PlankUnroll" "strips" "[LPlankUnroll$Strip;", Cond.instantiable RX5 9, Cond.initialized RX5, Cond.classLink RX6 35 RJx4a65c, Cond.instantiable RJx4a65c 3, Cond.initialized RJx4a65c, Cond.fieldLink RX6 38 "PlankUnroll" "boards" "Ljava/util/ArrayList;", Cond.classLink RX6 42 RX2, Cond.instantiable RX2 3, Cond.initialized RX2, Cond.fieldLink RX6 45 "PlankUnroll" "near" "LPlankUnroll$Normal;", Cond.fieldLink RX6 49 "PlankUnroll" "far" "LPlankUnroll$Normal;", Cond.methodLink RX6 7 yX6_nearestSize, Cond.static yX6_nearestSize, Cond.initialized RX6]
def wsX6_init_r2 : List Cond := [Cond.code yX6_nearestSize cX6_nearestSize 1 (some .int), Cond.methodLink RX6 246 Lib.Math.min.name, Cond.static Lib.Math.min.name, Cond.initialized "java/lang/Math", Cond.code Lib.Math.min.name Lib.Math.min.code 2 (some .int), Cond.methodLink RX6 237 Lib.Math.max.name, Cond.static Lib.Math.max.name, Cond.code Lib.Math.max.name Lib.Math.max.code 2 (some .int), Cond.methodLink RX6 23 yX4_init, Cond.instanceMethod yX4_init, Cond.code yX4_init cX4_init 3 none, Cond.methodLink RX4 1 objectInit, Cond.classLink RX4 7 RX3, Cond.fieldLink RX4 9 "PlankUnroll$Row" "places" "[LPlankUnroll$Place;", Cond.instantiable RX3 3, Cond.initialized RX3, Cond.instanceMethod yX3_init, Cond.code yX3_init cX3_init 1 none, Cond.methodLink RX3 1 objectInit, Cond.methodLink RX6 32 yX5_init, Cond.instanceMethod yX5_init, Cond.code yX5_init cX5_init 4 none, Cond.methodLink RX5 3 objectInit, Cond.fieldLink RX5 9 "PlankUnroll$Strip" "a" "LPlankUnroll$Row;"]
def wsX6_init_r3 : List Cond := [Cond.fieldLink RX5 15 "PlankUnroll$Strip" "b" "LPlankUnroll$Row;", Cond.arrayClass .double, Cond.fieldLink RX5 18 "PlankUnroll$Strip" "cornerX" "[D", Cond.fieldLink RX5 22 "PlankUnroll$Strip" "cornerY" "[D", Cond.arrayClass .boolean, Cond.fieldLink RX5 25 "PlankUnroll$Strip" "butts" "[Z", Cond.classLink RX5 29 RX1, Cond.instantiable RX1 4, Cond.initialized RX1, Cond.fieldLink RX5 34 "PlankUnroll$Strip" "box" "LPlankUnroll$Box;", Cond.fieldLink RX5 38 "PlankUnroll$Strip" "board" "I", Cond.fieldLink RX5 42 "PlankUnroll$Strip" "eighths" "I", Cond.methodLink RX5 31 yX1_init, Cond.instanceMethod yX1_init, Cond.code yX1_init cX1_init 9 none, Cond.methodLink RX1 1 objectInit, Cond.fieldLink RX1 7 "PlankUnroll$Box" "x" "D", Cond.fieldLink RX1 13 "PlankUnroll$Box" "y" "D", Cond.fieldLink RX1 16 "PlankUnroll$Box" "w" "D", Cond.fieldLink RX1 19 "PlankUnroll$Box" "h" "D", Cond.methodLink RX6 37 yJx4a65c_init_da8c8, Cond.instanceMethod yJx4a65c_init_da8c8, Cond.code yJx4a65c_init_da8c8 cJx4a65c_init_da8c8 1 none, Cond.fieldLink RJx4a65c 39 "java/util/ArrayList" "DEFAULTCAPACITY_EMPTY_ELEMENTDATA" "[Ljava/lang/Object;"]
def wsX6_init_r4 : List Cond := [Cond.fieldLink RJx4a65c 9 "java/util/ArrayList" "elementData" "[Ljava/lang/Object;", Cond.methodLink RJx4a65c 1 yJxc12de_init_da8c8, Cond.instanceMethod yJxc12de_init_da8c8, Cond.initialized RJxc12de, Cond.code yJxc12de_init_da8c8 cJxc12de_init_da8c8 1 none, Cond.fieldLink RJxc12de 7 "java/util/AbstractList" "modCount" "I", Cond.methodLink RJxc12de 1 yJxa1e45_init_da8c8, Cond.instanceMethod yJxa1e45_init_da8c8, Cond.initialized RJxa1e45, Cond.code yJxa1e45_init_da8c8 cJxa1e45_init_da8c8 1 none, Cond.methodLink RJxa1e45 1 objectInit, Cond.instanceMethod yX2_init, Cond.code yX2_init cX2_init 1 none, Cond.methodLink RX2 1 objectInit]
def wsX6_init : List Cond := .code yX6_init cX6_init 4 none :: ((wsX6_init_r1 ++ (wsX6_init_r2 ++ (wsX6_init_r3 ++ wsX6_init_r4))) ++ wsX60 ++ wsX40 ++ wsX50 ++ wsJx4a65c0 ++ wsX20 ++ wsX30 ++ wsX10)
def wsX6_checkFrame : List Cond := .code yX6_checkFrame cX6_checkFrame 2 none :: ([.classLink RX6 107 "java/lang/IndexOutOfBoundsException", .initialized "java/lang/IndexOutOfBoundsException", .fieldLink RX6 13 "PlankUnroll" "frames" "I"] ++ wsX60 ++ (vx_atS RX6 111 "java/lang/IndexOutOfBoundsException" ["java/lang/RuntimeException", "java/lang/Exception"]).filter goodWord)
def wsX6_placeAt : List Cond := .code yX6_placeAt cX6_placeAt 3 (some (.object "PlankUnroll$Place")) :: ([.classLink RX6 107 "java/lang/IndexOutOfBoundsException", .initialized "java/lang/IndexOutOfBoundsException", .fieldLink RX6 19 "PlankUnroll" "rows" "[LPlankUnroll$Row;", .fieldLink RX6 140 "PlankUnroll$Row" "places" "[LPlankUnroll$Place;", .methodLink RX6 158 yX6_checkFrame, .instanceMethod yX6_checkFrame, .selects RX6 yX6_checkFrame yX6_checkFrame, .initialized RX6, .code yX6_checkFrame cX6_checkFrame 2 none, .fieldLink RX6 13 "PlankUnroll" "frames" "I"] ++ wsX60 ++ wsX40 ++ (vx_atS RX6 111 "java/lang/IndexOutOfBoundsException" ["java/lang/RuntimeException", "java/lang/Exception"]).filter goodWord)
def wsX6_within : List Cond := .code yX6_within cX6_within 6 (some .boolean) :: ([])
def wsX6_point_r1 : List Cond := [Cond.classLink RX6 64 "java/lang/IllegalArgumentException", Cond.initialized "java/lang/IllegalArgumentException", Cond.constantDouble RX6 56 (13875379345695965184), Cond.constantDouble RX6 58 (4652007308841189376), Cond.fieldLink RX6 71 "PlankUnroll$Place" "x" "D", Cond.fieldLink RX6 77 "PlankUnroll$Place" "y" "D", Cond.fieldLink RX6 80 "PlankUnroll$Place" "z" "D", Cond.fieldLink RX6 28 "PlankUnroll" "strips" "[LPlankUnroll$Strip;", Cond.methodLink RX6 52 yX6_placeAt, Cond.instanceMethod yX6_placeAt, Cond.selects RX6 yX6_placeAt yX6_placeAt, Cond.initialized RX6, Cond.code yX6_placeAt cX6_placeAt 3 (some (.object "PlankUnroll$Place")), Cond.classLink RX6 107 "java/lang/IndexOutOfBoundsException", Cond.initialized "java/lang/IndexOutOfBoundsException", Cond.fieldLink RX6 19 "PlankUnroll" "rows" "[LPlankUnroll$Row;", Cond.fieldLink RX6 140 "PlankUnroll$Row" "places" "[LPlankUnroll$Place;", Cond.methodLink RX6 158 yX6_checkFrame, Cond.instanceMethod yX6_checkFrame, Cond.selects RX6 yX6_checkFrame yX6_checkFrame, Cond.code yX6_checkFrame cX6_checkFrame 2 none, Cond.fieldLink RX6 13 "PlankUnroll" "frames" "I", Cond.methodLink RX6 60 yX6_within, Cond.static yX6_within]
def wsX6_point_r2 : List Cond := [Cond.code yX6_within cX6_within 6 (some .boolean), Cond.methodLink RX6 83 yX5_forget, Cond.instanceMethod yX5_forget, Cond.selects RX5 yX5_forget yX5_forget, Cond.initialized RX5, Cond.code yX5_forget cX5_forget 1 none, Cond.fieldLink RX5 45 "PlankUnroll$Strip" "unrolled" "Z", Cond.fieldLink RX5 38 "PlankUnroll$Strip" "board" "I", Cond.fieldLink RX5 42 "PlankUnroll$Strip" "eighths" "I"]
def wsX6_point : List Cond := .code yX6_point cX6_point 14 (some .boolean) :: ((wsX6_point_r1 ++ wsX6_point_r2) ++ wsX30 ++ wsX60 ++ wsX40 ++ wsX50 ++ (vx_atS RX6 68 "java/lang/IllegalArgumentException" ["java/lang/RuntimeException", "java/lang/Exception"]).filter goodWord ++ (vx_atS RX6 111 "java/lang/IndexOutOfBoundsException" ["java/lang/RuntimeException", "java/lang/Exception"]).filter goodWord)
def wsX6_distance : List Cond := .code yX6_distance cX6_distance 5 (some .double) :: ([.methodLink RX6 52 yX6_placeAt, .instanceMethod yX6_placeAt, .selects RX6 yX6_placeAt yX6_placeAt, .initialized RX6, .code yX6_placeAt cX6_placeAt 3 (some (.object "PlankUnroll$Place")), .classLink RX6 107 "java/lang/IndexOutOfBoundsException", .initialized "java/lang/IndexOutOfBoundsException", .fieldLink RX6 19 "PlankUnroll" "rows" "[LPlankUnroll$Row;", .fieldLink RX6 140 "PlankUnroll$Row" "places" "[LPlankUnroll$Place;", .methodLink RX6 158 yX6_checkFrame, .instanceMethod yX6_checkFrame, .selects RX6 yX6_checkFrame yX6_checkFrame, .code yX6_checkFrame cX6_checkFrame 2 none, .fieldLink RX6 13 "PlankUnroll" "frames" "I", .methodLink RX6 86 yX6_apart, .static yX6_apart, .code yX6_apart cX6_apart 8 (some .double), .fieldLink RX6 71 "PlankUnroll$Place" "x" "D", .fieldLink RX6 77 "PlankUnroll$Place" "y" "D", .fieldLink RX6 80 "PlankUnroll$Place" "z" "D", .methodLink RX6 155 yX6_root, .static yX6_root, .code yX6_root cX6_root 5 (some .double), .constantDouble RX6 249 (4611686018427387904)] ++ wsX60 ++ wsX40 ++ wsX30 ++ (vx_atS RX6 111 "java/lang/IndexOutOfBoundsException" ["java/lang/RuntimeException", "java/lang/Exception"]).filter goodWord)
def wsX6_stripAt : List Cond := .code yX6_stripAt cX6_stripAt 2 (some (.object "PlankUnroll$Strip")) :: ([.classLink RX6 107 "java/lang/IndexOutOfBoundsException", .initialized "java/lang/IndexOutOfBoundsException", .fieldLink RX6 28 "PlankUnroll" "strips" "[LPlankUnroll$Strip;"] ++ wsX60 ++ (vx_atS RX6 111 "java/lang/IndexOutOfBoundsException" ["java/lang/RuntimeException", "java/lang/Exception"]).filter goodWord)
def wsX6_unroll_r1 : List Cond := [Cond.classLink RX6 102 "java/lang/IllegalStateException", Cond.initialized "java/lang/IllegalStateException", Cond.fieldLink RX6 94 "PlankUnroll$Strip" "unrolled" "Z", Cond.fieldLink RX6 13 "PlankUnroll" "frames" "I", Cond.methodLink RX6 90 yX6_stripAt, Cond.instanceMethod yX6_stripAt, Cond.selects RX6 yX6_stripAt yX6_stripAt, Cond.initialized RX6, Cond.code yX6_stripAt cX6_stripAt 2 (some (.object "PlankUnroll$Strip")), Cond.classLink RX6 107 "java/lang/IndexOutOfBoundsException", Cond.initialized "java/lang/IndexOutOfBoundsException", Cond.fieldLink RX6 28 "PlankUnroll" "strips" "[LPlankUnroll$Strip;", Cond.methodLink RX6 98 yX5_layFlat, Cond.instanceMethod yX5_layFlat, Cond.selects RX5 yX5_layFlat yX5_layFlat, Cond.initialized RX5, Cond.code yX5_layFlat cX5_layFlat 8 (some .boolean), Cond.fieldLink RX5 18 "PlankUnroll$Strip" "cornerX" "[D", Cond.fieldLink RX5 22 "PlankUnroll$Strip" "cornerY" "[D", Cond.fieldLink RX5 25 "PlankUnroll$Strip" "butts" "[Z", Cond.fieldLink RX5 9 "PlankUnroll$Strip" "a" "LPlankUnroll$Row;", Cond.fieldLink RX5 49 "PlankUnroll$Row" "places" "[LPlankUnroll$Place;", Cond.fieldLink RX5 15 "PlankUnroll$Strip" "b" "LPlankUnroll$Row;", Cond.fieldLink RX5 34 "PlankUnroll$Strip" "box" "LPlankUnroll$Box;"]
def wsX6_unroll_r2 : List Cond := [Cond.fieldLink RX5 71 "PlankUnroll$Box" "w" "D", Cond.fieldLink RX5 75 "PlankUnroll$Box" "h" "D", Cond.fieldLink RX5 45 "PlankUnroll$Strip" "unrolled" "Z", Cond.methodLink RX5 59 yX5_across, Cond.instanceMethod yX5_across, Cond.selects RX5 yX5_across yX5_across, Cond.code yX5_across cX5_across 2 (some .double), Cond.static yX6_apart, Cond.code yX6_apart cX6_apart 8 (some .double), Cond.fieldLink RX6 71 "PlankUnroll$Place" "x" "D", Cond.fieldLink RX6 77 "PlankUnroll$Place" "y" "D", Cond.fieldLink RX6 80 "PlankUnroll$Place" "z" "D", Cond.methodLink RX6 155 yX6_root, Cond.static yX6_root, Cond.code yX6_root cX6_root 5 (some .double), Cond.constantDouble RX6 249 (4611686018427387904), Cond.methodLink RX5 63 yX5_put, Cond.instanceMethod yX5_put, Cond.selects RX5 yX5_put yX5_put, Cond.code yX5_put cX5_put 18 (some .boolean), Cond.constantDouble RX5 82 (4562146422526312448), Cond.constantDouble RX5 84 (4611686018427387904), Cond.methodLink RX5 67 yX5_extent, Cond.static yX5_extent]
def wsX6_unroll_r3 : List Cond := [Cond.code yX5_extent cX5_extent 10 (some .double)]
def wsX6_unroll : List Cond := .code yX6_unroll cX6_unroll 3 (some .int) :: ((wsX6_unroll_r1 ++ (wsX6_unroll_r2 ++ wsX6_unroll_r3)) ++ wsX50 ++ wsX60 ++ wsX40 ++ wsX10 ++ wsX30 ++ (vx_atS RX6 106 "java/lang/IllegalStateException" ["java/lang/RuntimeException", "java/lang/Exception"]).filter goodWord ++ (vx_atS RX6 111 "java/lang/IndexOutOfBoundsException" ["java/lang/RuntimeException", "java/lang/Exception"]).filter goodWord)
def wsX6_needUnrolled : List Cond := .code yX6_needUnrolled cX6_needUnrolled 1 none :: ([.classLink RX6 102 "java/lang/IllegalStateException", .initialized "java/lang/IllegalStateException", .fieldLink RX6 94 "PlankUnroll$Strip" "unrolled" "Z"] ++ wsX50 ++ (vx_atS RX6 106 "java/lang/IllegalStateException" ["java/lang/RuntimeException", "java/lang/Exception"]).filter goodWord)
def wsX6_flat : List Cond := .code yX6_flat cX6_flat 5 (some .double) :: ([.classLink RX6 107 "java/lang/IndexOutOfBoundsException", .initialized "java/lang/IndexOutOfBoundsException", .fieldLink RX6 13 "PlankUnroll" "frames" "I", .fieldLink RX6 118 "PlankUnroll$Strip" "cornerX" "[D", .fieldLink RX6 122 "PlankUnroll$Strip" "cornerY" "[D", .methodLink RX6 90 yX6_stripAt, .instanceMethod yX6_stripAt, .selects RX6 yX6_stripAt yX6_stripAt, .initialized RX6, .code yX6_stripAt cX6_stripAt 2 (some (.object "PlankUnroll$Strip")), .fieldLink RX6 28 "PlankUnroll" "strips" "[LPlankUnroll$Strip;", .methodLink RX6 114 yX6_needUnrolled, .static yX6_needUnrolled, .code yX6_needUnrolled cX6_needUnrolled 1 none, .classLink RX6 102 "java/lang/IllegalStateException", .initialized "java/lang/IllegalStateException", .fieldLink RX6 94 "PlankUnroll$Strip" "unrolled" "Z"] ++ wsX60 ++ wsX50 ++ (vx_atS RX6 111 "java/lang/IndexOutOfBoundsException" ["java/lang/RuntimeException", "java/lang/Exception"]).filter goodWord ++ (vx_atS RX6 106 "java/lang/IllegalStateException" ["java/lang/RuntimeException", "java/lang/Exception"]).filter goodWord)
def wsX6_checkCell : List Cond := .code yX6_checkCell cX6_checkCell 2 none :: ([.classLink RX6 107 "java/lang/IndexOutOfBoundsException", .initialized "java/lang/IndexOutOfBoundsException", .fieldLink RX6 13 "PlankUnroll" "frames" "I"] ++ wsX60 ++ (vx_atS RX6 111 "java/lang/IndexOutOfBoundsException" ["java/lang/RuntimeException", "java/lang/Exception"]).filter goodWord)
def wsX6_stretch_r1 : List Cond := [Cond.methodLink RX6 90 yX6_stripAt, Cond.instanceMethod yX6_stripAt, Cond.selects RX6 yX6_stripAt yX6_stripAt, Cond.initialized RX6, Cond.code yX6_stripAt cX6_stripAt 2 (some (.object "PlankUnroll$Strip")), Cond.classLink RX6 107 "java/lang/IndexOutOfBoundsException", Cond.initialized "java/lang/IndexOutOfBoundsException", Cond.fieldLink RX6 28 "PlankUnroll" "strips" "[LPlankUnroll$Strip;", Cond.methodLink RX6 125 yX6_checkCell, Cond.instanceMethod yX6_checkCell, Cond.selects RX6 yX6_checkCell yX6_checkCell, Cond.code yX6_checkCell cX6_checkCell 2 none, Cond.fieldLink RX6 13 "PlankUnroll" "frames" "I", Cond.methodLink RX6 114 yX6_needUnrolled, Cond.static yX6_needUnrolled, Cond.code yX6_needUnrolled cX6_needUnrolled 1 none, Cond.classLink RX6 102 "java/lang/IllegalStateException", Cond.initialized "java/lang/IllegalStateException", Cond.fieldLink RX6 94 "PlankUnroll$Strip" "unrolled" "Z", Cond.methodLink RX6 128 yX5_offDiagonal, Cond.instanceMethod yX5_offDiagonal, Cond.selects RX5 yX5_offDiagonal yX5_offDiagonal, Cond.initialized RX5, Cond.code yX5_offDiagonal cX5_offDiagonal 8 (some .double)]
def wsX6_stretch_r2 : List Cond := [Cond.fieldLink RX5 18 "PlankUnroll$Strip" "cornerX" "[D", Cond.fieldLink RX5 22 "PlankUnroll$Strip" "cornerY" "[D", Cond.fieldLink RX5 9 "PlankUnroll$Strip" "a" "LPlankUnroll$Row;", Cond.fieldLink RX5 49 "PlankUnroll$Row" "places" "[LPlankUnroll$Place;", Cond.fieldLink RX5 15 "PlankUnroll$Strip" "b" "LPlankUnroll$Row;", Cond.static yX6_root, Cond.code yX6_root cX6_root 5 (some .double), Cond.constantDouble RX6 249 (4611686018427387904), Cond.static yX6_apart, Cond.code yX6_apart cX6_apart 8 (some .double), Cond.fieldLink RX6 71 "PlankUnroll$Place" "x" "D", Cond.fieldLink RX6 77 "PlankUnroll$Place" "y" "D", Cond.fieldLink RX6 80 "PlankUnroll$Place" "z" "D", Cond.methodLink RX6 155 yX6_root]
def wsX6_stretch : List Cond := .code yX6_stretch cX6_stretch 4 (some .double) :: ((wsX6_stretch_r1 ++ wsX6_stretch_r2) ++ wsX60 ++ wsX50 ++ wsX40 ++ wsX30 ++ (vx_atS RX6 111 "java/lang/IndexOutOfBoundsException" ["java/lang/RuntimeException", "java/lang/Exception"]).filter goodWord ++ (vx_atS RX6 106 "java/lang/IllegalStateException" ["java/lang/RuntimeException", "java/lang/Exception"]).filter goodWord)
def wsX6_sizeOf : List Cond := .code yX6_sizeOf cX6_sizeOf 2 (some .double) :: ([])
def wsX6_worst_r1 : List Cond := [Cond.fieldLink RX6 13 "PlankUnroll" "frames" "I", Cond.methodLink RX6 90 yX6_stripAt, Cond.instanceMethod yX6_stripAt, Cond.selects RX6 yX6_stripAt yX6_stripAt, Cond.initialized RX6, Cond.code yX6_stripAt cX6_stripAt 2 (some (.object "PlankUnroll$Strip")), Cond.classLink RX6 107 "java/lang/IndexOutOfBoundsException", Cond.initialized "java/lang/IndexOutOfBoundsException", Cond.fieldLink RX6 28 "PlankUnroll" "strips" "[LPlankUnroll$Strip;", Cond.methodLink RX6 114 yX6_needUnrolled, Cond.static yX6_needUnrolled, Cond.code yX6_needUnrolled cX6_needUnrolled 1 none, Cond.classLink RX6 102 "java/lang/IllegalStateException", Cond.initialized "java/lang/IllegalStateException", Cond.fieldLink RX6 94 "PlankUnroll$Strip" "unrolled" "Z", Cond.methodLink RX6 128 yX5_offDiagonal, Cond.instanceMethod yX5_offDiagonal, Cond.selects RX5 yX5_offDiagonal yX5_offDiagonal, Cond.initialized RX5, Cond.code yX5_offDiagonal cX5_offDiagonal 8 (some .double), Cond.fieldLink RX5 18 "PlankUnroll$Strip" "cornerX" "[D", Cond.fieldLink RX5 22 "PlankUnroll$Strip" "cornerY" "[D", Cond.fieldLink RX5 9 "PlankUnroll$Strip" "a" "LPlankUnroll$Row;", Cond.fieldLink RX5 49 "PlankUnroll$Row" "places" "[LPlankUnroll$Place;"]
def wsX6_worst_r2 : List Cond := [Cond.fieldLink RX5 15 "PlankUnroll$Strip" "b" "LPlankUnroll$Row;", Cond.static yX6_root, Cond.code yX6_root cX6_root 5 (some .double), Cond.constantDouble RX6 249 (4611686018427387904), Cond.static yX6_apart, Cond.code yX6_apart cX6_apart 8 (some .double), Cond.fieldLink RX6 71 "PlankUnroll$Place" "x" "D", Cond.fieldLink RX6 77 "PlankUnroll$Place" "y" "D", Cond.fieldLink RX6 80 "PlankUnroll$Place" "z" "D", Cond.methodLink RX6 155 yX6_root, Cond.methodLink RX6 132 yX6_sizeOf, Cond.static yX6_sizeOf, Cond.code yX6_sizeOf cX6_sizeOf 2 (some .double)]
def wsX6_worst : List Cond := .code yX6_worst cX6_worst 9 (some .int) :: ((wsX6_worst_r1 ++ wsX6_worst_r2) ++ wsX60 ++ wsX50 ++ wsX40 ++ wsX30 ++ (vx_atS RX6 111 "java/lang/IndexOutOfBoundsException" ["java/lang/RuntimeException", "java/lang/Exception"]).filter goodWord ++ (vx_atS RX6 106 "java/lang/IllegalStateException" ["java/lang/RuntimeException", "java/lang/Exception"]).filter goodWord)
def wsX6_bevel_r1 : List Cond := [Cond.fieldLink RX6 136 "PlankUnroll$Strip" "a" "LPlankUnroll$Row;", Cond.fieldLink RX6 140 "PlankUnroll$Row" "places" "[LPlankUnroll$Place;", Cond.fieldLink RX6 144 "PlankUnroll$Strip" "b" "LPlankUnroll$Row;", Cond.fieldLink RX6 45 "PlankUnroll" "near" "LPlankUnroll$Normal;", Cond.fieldLink RX6 49 "PlankUnroll" "far" "LPlankUnroll$Normal;", Cond.methodLink RX6 90 yX6_stripAt, Cond.instanceMethod yX6_stripAt, Cond.selects RX6 yX6_stripAt yX6_stripAt, Cond.initialized RX6, Cond.code yX6_stripAt cX6_stripAt 2 (some (.object "PlankUnroll$Strip")), Cond.classLink RX6 107 "java/lang/IndexOutOfBoundsException", Cond.initialized "java/lang/IndexOutOfBoundsException", Cond.fieldLink RX6 28 "PlankUnroll" "strips" "[LPlankUnroll$Strip;", Cond.methodLink RX6 125 yX6_checkCell, Cond.instanceMethod yX6_checkCell, Cond.selects RX6 yX6_checkCell yX6_checkCell, Cond.code yX6_checkCell cX6_checkCell 2 none, Cond.fieldLink RX6 13 "PlankUnroll" "frames" "I", Cond.methodLink RX6 147 yX2_cross, Cond.instanceMethod yX2_cross, Cond.selects RX2 yX2_cross yX2_cross, Cond.initialized RX2, Cond.code yX2_cross cX2_cross 16 none, Cond.fieldLink RX2 7 "PlankUnroll$Place" "x" "D"]
def wsX6_bevel_r2 : List Cond := [Cond.fieldLink RX2 13 "PlankUnroll$Place" "y" "D", Cond.fieldLink RX2 16 "PlankUnroll$Place" "z" "D", Cond.fieldLink RX2 19 "PlankUnroll$Normal" "x" "D", Cond.fieldLink RX2 22 "PlankUnroll$Normal" "y" "D", Cond.fieldLink RX2 23 "PlankUnroll$Normal" "z" "D", Cond.methodLink RX6 151 yX2_times, Cond.instanceMethod yX2_times, Cond.selects RX2 yX2_times yX2_times, Cond.code yX2_times cX2_times 2 (some .double), Cond.methodLink RX6 155 yX6_root, Cond.static yX6_root, Cond.code yX6_root cX6_root 5 (some .double), Cond.constantDouble RX6 249 (4611686018427387904)]
def wsX6_bevel : List Cond := .code yX6_bevel cX6_bevel 10 (some .double) :: ((wsX6_bevel_r1 ++ wsX6_bevel_r2) ++ wsX50 ++ wsX40 ++ wsX60 ++ wsX30 ++ wsX20 ++ (vx_atS RX6 111 "java/lang/IndexOutOfBoundsException" ["java/lang/RuntimeException", "java/lang/Exception"]).filter goodWord)
def wsX6_width_r1 : List Cond := [Cond.methodLink RX6 90 yX6_stripAt, Cond.instanceMethod yX6_stripAt, Cond.selects RX6 yX6_stripAt yX6_stripAt, Cond.initialized RX6, Cond.code yX6_stripAt cX6_stripAt 2 (some (.object "PlankUnroll$Strip")), Cond.classLink RX6 107 "java/lang/IndexOutOfBoundsException", Cond.initialized "java/lang/IndexOutOfBoundsException", Cond.fieldLink RX6 28 "PlankUnroll" "strips" "[LPlankUnroll$Strip;", Cond.methodLink RX6 158 yX6_checkFrame, Cond.instanceMethod yX6_checkFrame, Cond.selects RX6 yX6_checkFrame yX6_checkFrame, Cond.code yX6_checkFrame cX6_checkFrame 2 none, Cond.fieldLink RX6 13 "PlankUnroll" "frames" "I", Cond.methodLink RX6 161 yX5_across, Cond.instanceMethod yX5_across, Cond.selects RX5 yX5_across yX5_across, Cond.initialized RX5, Cond.code yX5_across cX5_across 2 (some .double), Cond.fieldLink RX5 9 "PlankUnroll$Strip" "a" "LPlankUnroll$Row;", Cond.fieldLink RX5 49 "PlankUnroll$Row" "places" "[LPlankUnroll$Place;", Cond.fieldLink RX5 15 "PlankUnroll$Strip" "b" "LPlankUnroll$Row;", Cond.static yX6_apart, Cond.code yX6_apart cX6_apart 8 (some .double), Cond.fieldLink RX6 71 "PlankUnroll$Place" "x" "D"]
def wsX6_width_r2 : List Cond := [Cond.fieldLink RX6 77 "PlankUnroll$Place" "y" "D", Cond.fieldLink RX6 80 "PlankUnroll$Place" "z" "D", Cond.methodLink RX6 155 yX6_root, Cond.static yX6_root, Cond.code yX6_root cX6_root 5 (some .double), Cond.constantDouble RX6 249 (4611686018427387904)]
def wsX6_width : List Cond := .code yX6_width cX6_width 4 (some .double) :: ((wsX6_width_r1 ++ wsX6_width_r2) ++ wsX60 ++ wsX50 ++ wsX40 ++ wsX30 ++ (vx_atS RX6 111 "java/lang/IndexOutOfBoundsException" ["java/lang/RuntimeException", "java/lang/Exception"]).filter goodWord)
def wsX6_girth_r1 : List Cond := [Cond.fieldLink RX6 28 "PlankUnroll" "strips" "[LPlankUnroll$Strip;", Cond.methodLink RX6 158 yX6_checkFrame, Cond.instanceMethod yX6_checkFrame, Cond.selects RX6 yX6_checkFrame yX6_checkFrame, Cond.initialized RX6, Cond.code yX6_checkFrame cX6_checkFrame 2 none, Cond.classLink RX6 107 "java/lang/IndexOutOfBoundsException", Cond.initialized "java/lang/IndexOutOfBoundsException", Cond.fieldLink RX6 13 "PlankUnroll" "frames" "I", Cond.methodLink RX6 161 yX5_across, Cond.instanceMethod yX5_across, Cond.selects RX5 yX5_across yX5_across, Cond.initialized RX5, Cond.code yX5_across cX5_across 2 (some .double), Cond.fieldLink RX5 9 "PlankUnroll$Strip" "a" "LPlankUnroll$Row;", Cond.fieldLink RX5 49 "PlankUnroll$Row" "places" "[LPlankUnroll$Place;", Cond.fieldLink RX5 15 "PlankUnroll$Strip" "b" "LPlankUnroll$Row;", Cond.static yX6_apart, Cond.code yX6_apart cX6_apart 8 (some .double), Cond.fieldLink RX6 71 "PlankUnroll$Place" "x" "D", Cond.fieldLink RX6 77 "PlankUnroll$Place" "y" "D", Cond.fieldLink RX6 80 "PlankUnroll$Place" "z" "D", Cond.methodLink RX6 155 yX6_root, Cond.static yX6_root]
def wsX6_girth_r2 : List Cond := [Cond.code yX6_root cX6_root 5 (some .double), Cond.constantDouble RX6 249 (4611686018427387904)]
def wsX6_girth : List Cond := .code yX6_girth cX6_girth 8 (some .double) :: ((wsX6_girth_r1 ++ wsX6_girth_r2) ++ wsX60 ++ wsX50 ++ wsX40 ++ wsX30 ++ (vx_atS RX6 111 "java/lang/IndexOutOfBoundsException" ["java/lang/RuntimeException", "java/lang/Exception"]).filter goodWord)
def wsX6_butt : List Cond := .code yX6_butt cX6_butt 6 (some .boolean) :: ([.fieldLink RX6 164 "PlankUnroll$Strip" "butts" "[Z", .methodLink RX6 90 yX6_stripAt, .instanceMethod yX6_stripAt, .selects RX6 yX6_stripAt yX6_stripAt, .initialized RX6, .code yX6_stripAt cX6_stripAt 2 (some (.object "PlankUnroll$Strip")), .classLink RX6 107 "java/lang/IndexOutOfBoundsException", .initialized "java/lang/IndexOutOfBoundsException", .fieldLink RX6 28 "PlankUnroll" "strips" "[LPlankUnroll$Strip;", .methodLink RX6 158 yX6_checkFrame, .instanceMethod yX6_checkFrame, .selects RX6 yX6_checkFrame yX6_checkFrame, .code yX6_checkFrame cX6_checkFrame 2 none, .fieldLink RX6 13 "PlankUnroll" "frames" "I"] ++ wsX50 ++ wsX60 ++ (vx_atS RX6 111 "java/lang/IndexOutOfBoundsException" ["java/lang/RuntimeException", "java/lang/Exception"]).filter goodWord)
def wsX6_spans : List Cond := .code yX6_spans cX6_spans 3 (some .boolean) :: ([.classLink RX6 64 "java/lang/IllegalArgumentException", .initialized "java/lang/IllegalArgumentException", .fieldLink RX6 28 "PlankUnroll" "strips" "[LPlankUnroll$Strip;", .methodLink RX6 170 yX5_keepsOwn, .instanceMethod yX5_keepsOwn, .selects RX5 yX5_keepsOwn yX5_keepsOwn, .initialized RX5, .code yX5_keepsOwn cX5_keepsOwn 4 (some .boolean), .fieldLink RX5 25 "PlankUnroll$Strip" "butts" "[Z", .methodLink RX6 174 yX5_keepsBeside, .instanceMethod yX5_keepsBeside, .selects RX5 yX5_keepsBeside yX5_keepsBeside, .code yX5_keepsBeside cX5_keepsBeside 5 (some .boolean), .methodLink RX5 86 Lib.Math.abs.name, .static Lib.Math.abs.name, .initialized "java/lang/Math", .code Lib.Math.abs.name Lib.Math.abs.code 1 (some .int)] ++ wsX60 ++ wsX50 ++ (vx_atS RX6 68 "java/lang/IllegalArgumentException" ["java/lang/RuntimeException", "java/lang/Exception"]).filter goodWord)
def wsJx4a65c_size_8abf5 : List Cond := .code yJx4a65c_size_8abf5 cJx4a65c_size_8abf5 1 (some .int) :: ([.fieldLink RJx4a65c 48 "java/util/ArrayList" "size" "I"] ++ wsJx4a65c0)
def wsJ8_hugeLength_7cf53 : List Cond := .code yJ8_hugeLength_7cf53 cJ8_hugeLength_7cf53 3 (some .int) :: ([.constant RJ8 200 (2147483639)])
def wsJ8_newLength_cabcc : List Cond := .code yJ8_newLength_cabcc cJ8_newLength_cabcc 4 (some .int) :: ([.methodLink RJ8 194 Lib.Math.max.name, .static Lib.Math.max.name, .initialized "java/lang/Math", .code Lib.Math.max.name Lib.Math.max.code 2 (some .int), .constant RJ8 200 (2147483639), .methodLink RJ8 201 yJ8_hugeLength_7cf53, .static yJ8_hugeLength_7cf53, .initialized RJ8, .code yJ8_hugeLength_7cf53 cJ8_hugeLength_7cf53 3 (some .int)])
def wsJ7_copyOf_6403c : List Cond := .code yJ7_copyOf_6403c cJ7_copyOf_6403c 4 (some (.array (.object "java/lang/Object"))) :: ([.classLink RJ7 110 "[Ljava/lang/Object;", .classLink RJ7 2 "java/lang/Object", .methodLink RJ7 304 Lib.Math.min.name, .static Lib.Math.min.name, .initialized "java/lang/Math", .code Lib.Math.min.name Lib.Math.min.code 2 (some .int), .methodLink RJ7 150 arraycopyName, .native arraycopyName, .static arraycopyName, .initialized "java/lang/System"])
def wsJ7_copyOf_1904c : List Cond := .code yJ7_copyOf_1904c cJ7_copyOf_1904c 2 (some (.array (.object "java/lang/Object"))) :: ([.methodLink RJ7 86 ⟨"java/lang/Object", "getClass", "()Ljava/lang/Class;"⟩, .selects "[Ljava/lang/Object;" ⟨"java/lang/Object", "getClass", "()Ljava/lang/Class;"⟩ ⟨"java/lang/Object", "getClass", "()Ljava/lang/Class;"⟩, .instanceMethod ⟨"java/lang/Object", "getClass", "()Ljava/lang/Class;"⟩, .native ⟨"java/lang/Object", "getClass", "()Ljava/lang/Class;"⟩, .methodLink RJ7 300 yJ7_copyOf_6403c, .static yJ7_copyOf_6403c, .initialized RJ7, .code yJ7_copyOf_6403c cJ7_copyOf_6403c 4 (some (.array (.object "java/lang/Object"))), .classLink RJ7 110 "[Ljava/lang/Object;", .classLink RJ7 2 "java/lang/Object", .methodLink RJ7 304 Lib.Math.min.name, .static Lib.Math.min.name, .initialized "java/lang/Math", .code Lib.Math.min.name Lib.Math.min.code 2 (some .int), .methodLink RJ7 150 arraycopyName, .native arraycopyName, .static arraycopyName, .initialized "java/lang/System"])
def wsJx4a65c_grow_92f84_r1 : List Cond := [Cond.fieldLink RJx4a65c 9 "java/util/ArrayList" "elementData" "[Ljava/lang/Object;", Cond.fieldLink RJx4a65c 39 "java/util/ArrayList" "DEFAULTCAPACITY_EMPTY_ELEMENTDATA" "[Ljava/lang/Object;", Cond.methodLink RJx4a65c 79 Lib.Math.max.name, Cond.static Lib.Math.max.name, Cond.initialized "java/lang/Math", Cond.code Lib.Math.max.name Lib.Math.max.code 2 (some .int), Cond.classLink RJx4a65c 7 "java/lang/Object", Cond.methodLink RJx4a65c 73 yJ8_newLength_cabcc, Cond.static yJ8_newLength_cabcc, Cond.initialized RJ8, Cond.code yJ8_newLength_cabcc cJ8_newLength_cabcc 4 (some .int), Cond.methodLink RJ8 194 Lib.Math.max.name, Cond.constant RJ8 200 (2147483639), Cond.methodLink RJ8 201 yJ8_hugeLength_7cf53, Cond.static yJ8_hugeLength_7cf53, Cond.code yJ8_hugeLength_7cf53 cJ8_hugeLength_7cf53 3 (some .int), Cond.methodLink RJx4a65c 66 yJ7_copyOf_1904c, Cond.static yJ7_copyOf_1904c, Cond.initialized RJ7, Cond.code yJ7_copyOf_1904c cJ7_copyOf_1904c 2 (some (.array (.object "java/lang/Object"))), Cond.methodLink RJ7 86 ⟨"java/lang/Object", "getClass", "()Ljava/lang/Class;"⟩, Cond.selects "[Ljava/lang/Object;" ⟨"java/lang/Object", "getClass", "()Ljava/lang/Class;"⟩ ⟨"java/lang/Object", "getClass", "()Ljava/lang/Class;"⟩, Cond.instanceMethod ⟨"java/lang/Object", "getClass", "()Ljava/lang/Class;"⟩, Cond.native ⟨"java/lang/Object", "getClass", "()Ljava/lang/Class;"⟩]
def wsJx4a65c_grow_92f84_r2 : List Cond := [Cond.methodLink RJ7 300 yJ7_copyOf_6403c, Cond.static yJ7_copyOf_6403c, Cond.code yJ7_copyOf_6403c cJ7_copyOf_6403c 4 (some (.array (.object "java/lang/Object"))), Cond.classLink RJ7 110 "[Ljava/lang/Object;", Cond.classLink RJ7 2 "java/lang/Object", Cond.methodLink RJ7 304 Lib.Math.min.name, Cond.static Lib.Math.min.name, Cond.code Lib.Math.min.name Lib.Math.min.code 2 (some .int), Cond.methodLink RJ7 150 arraycopyName, Cond.native arraycopyName, Cond.static arraycopyName, Cond.initialized "java/lang/System"]
def wsJx4a65c_grow_92f84 : List Cond := .code yJx4a65c_grow_92f84 cJx4a65c_grow_92f84 4 (some (.array (.object "java/lang/Object"))) :: ((wsJx4a65c_grow_92f84_r1 ++ wsJx4a65c_grow_92f84_r2) ++ wsJx4a65c0)
def wsJx4a65c_grow_d5877_r1 : List Cond := [Cond.fieldLink RJx4a65c 48 "java/util/ArrayList" "size" "I", Cond.methodLink RJx4a65c 69 yJx4a65c_grow_92f84, Cond.instanceMethod yJx4a65c_grow_92f84, Cond.selects RJx4a65c yJx4a65c_grow_92f84 yJx4a65c_grow_92f84, Cond.initialized RJx4a65c, Cond.code yJx4a65c_grow_92f84 cJx4a65c_grow_92f84 4 (some (.array (.object "java/lang/Object"))), Cond.fieldLink RJx4a65c 9 "java/util/ArrayList" "elementData" "[Ljava/lang/Object;", Cond.fieldLink RJx4a65c 39 "java/util/ArrayList" "DEFAULTCAPACITY_EMPTY_ELEMENTDATA" "[Ljava/lang/Object;", Cond.methodLink RJx4a65c 79 Lib.Math.max.name, Cond.static Lib.Math.max.name, Cond.initialized "java/lang/Math", Cond.code Lib.Math.max.name Lib.Math.max.code 2 (some .int), Cond.classLink RJx4a65c 7 "java/lang/Object", Cond.methodLink RJx4a65c 73 yJ8_newLength_cabcc, Cond.static yJ8_newLength_cabcc, Cond.initialized RJ8, Cond.code yJ8_newLength_cabcc cJ8_newLength_cabcc 4 (some .int), Cond.methodLink RJ8 194 Lib.Math.max.name, Cond.constant RJ8 200 (2147483639), Cond.methodLink RJ8 201 yJ8_hugeLength_7cf53, Cond.static yJ8_hugeLength_7cf53, Cond.code yJ8_hugeLength_7cf53 cJ8_hugeLength_7cf53 3 (some .int), Cond.methodLink RJx4a65c 66 yJ7_copyOf_1904c, Cond.static yJ7_copyOf_1904c]
def wsJx4a65c_grow_d5877_r2 : List Cond := [Cond.initialized RJ7, Cond.code yJ7_copyOf_1904c cJ7_copyOf_1904c 2 (some (.array (.object "java/lang/Object"))), Cond.methodLink RJ7 86 ⟨"java/lang/Object", "getClass", "()Ljava/lang/Class;"⟩, Cond.selects "[Ljava/lang/Object;" ⟨"java/lang/Object", "getClass", "()Ljava/lang/Class;"⟩ ⟨"java/lang/Object", "getClass", "()Ljava/lang/Class;"⟩, Cond.instanceMethod ⟨"java/lang/Object", "getClass", "()Ljava/lang/Class;"⟩, Cond.native ⟨"java/lang/Object", "getClass", "()Ljava/lang/Class;"⟩, Cond.methodLink RJ7 300 yJ7_copyOf_6403c, Cond.static yJ7_copyOf_6403c, Cond.code yJ7_copyOf_6403c cJ7_copyOf_6403c 4 (some (.array (.object "java/lang/Object"))), Cond.classLink RJ7 110 "[Ljava/lang/Object;", Cond.classLink RJ7 2 "java/lang/Object", Cond.methodLink RJ7 304 Lib.Math.min.name, Cond.static Lib.Math.min.name, Cond.code Lib.Math.min.name Lib.Math.min.code 2 (some .int), Cond.methodLink RJ7 150 arraycopyName, Cond.native arraycopyName, Cond.static arraycopyName, Cond.initialized "java/lang/System"]
def wsJx4a65c_grow_d5877 : List Cond := .code yJx4a65c_grow_d5877 cJx4a65c_grow_d5877 1 (some (.array (.object "java/lang/Object"))) :: ((wsJx4a65c_grow_d5877_r1 ++ wsJx4a65c_grow_d5877_r2) ++ wsJx4a65c0)
def wsJx4a65c_add_72be8_r1 : List Cond := [Cond.fieldLink RJx4a65c 48 "java/util/ArrayList" "size" "I", Cond.methodLink RJx4a65c 129 yJx4a65c_grow_d5877, Cond.instanceMethod yJx4a65c_grow_d5877, Cond.selects RJx4a65c yJx4a65c_grow_d5877 yJx4a65c_grow_d5877, Cond.initialized RJx4a65c, Cond.code yJx4a65c_grow_d5877 cJx4a65c_grow_d5877 1 (some (.array (.object "java/lang/Object"))), Cond.methodLink RJx4a65c 69 yJx4a65c_grow_92f84, Cond.instanceMethod yJx4a65c_grow_92f84, Cond.selects RJx4a65c yJx4a65c_grow_92f84 yJx4a65c_grow_92f84, Cond.code yJx4a65c_grow_92f84 cJx4a65c_grow_92f84 4 (some (.array (.object "java/lang/Object"))), Cond.fieldLink RJx4a65c 9 "java/util/ArrayList" "elementData" "[Ljava/lang/Object;", Cond.fieldLink RJx4a65c 39 "java/util/ArrayList" "DEFAULTCAPACITY_EMPTY_ELEMENTDATA" "[Ljava/lang/Object;", Cond.methodLink RJx4a65c 79 Lib.Math.max.name, Cond.static Lib.Math.max.name, Cond.initialized "java/lang/Math", Cond.code Lib.Math.max.name Lib.Math.max.code 2 (some .int), Cond.classLink RJx4a65c 7 "java/lang/Object", Cond.methodLink RJx4a65c 73 yJ8_newLength_cabcc, Cond.static yJ8_newLength_cabcc, Cond.initialized RJ8, Cond.code yJ8_newLength_cabcc cJ8_newLength_cabcc 4 (some .int), Cond.methodLink RJ8 194 Lib.Math.max.name, Cond.constant RJ8 200 (2147483639), Cond.methodLink RJ8 201 yJ8_hugeLength_7cf53]
def wsJx4a65c_add_72be8_r2 : List Cond := [Cond.static yJ8_hugeLength_7cf53, Cond.code yJ8_hugeLength_7cf53 cJ8_hugeLength_7cf53 3 (some .int), Cond.methodLink RJx4a65c 66 yJ7_copyOf_1904c, Cond.static yJ7_copyOf_1904c, Cond.initialized RJ7, Cond.code yJ7_copyOf_1904c cJ7_copyOf_1904c 2 (some (.array (.object "java/lang/Object"))), Cond.methodLink RJ7 86 ⟨"java/lang/Object", "getClass", "()Ljava/lang/Class;"⟩, Cond.selects "[Ljava/lang/Object;" ⟨"java/lang/Object", "getClass", "()Ljava/lang/Class;"⟩ ⟨"java/lang/Object", "getClass", "()Ljava/lang/Class;"⟩, Cond.instanceMethod ⟨"java/lang/Object", "getClass", "()Ljava/lang/Class;"⟩, Cond.native ⟨"java/lang/Object", "getClass", "()Ljava/lang/Class;"⟩, Cond.methodLink RJ7 300 yJ7_copyOf_6403c, Cond.static yJ7_copyOf_6403c, Cond.code yJ7_copyOf_6403c cJ7_copyOf_6403c 4 (some (.array (.object "java/lang/Object"))), Cond.classLink RJ7 110 "[Ljava/lang/Object;", Cond.classLink RJ7 2 "java/lang/Object", Cond.methodLink RJ7 304 Lib.Math.min.name, Cond.static Lib.Math.min.name, Cond.code Lib.Math.min.name Lib.Math.min.code 2 (some .int), Cond.methodLink RJ7 150 arraycopyName, Cond.native arraycopyName, Cond.static arraycopyName, Cond.initialized "java/lang/System"]
def wsJx4a65c_add_72be8 : List Cond := .code yJx4a65c_add_72be8 cJx4a65c_add_72be8 4 none :: ((wsJx4a65c_add_72be8_r1 ++ wsJx4a65c_add_72be8_r2) ++ wsJx4a65c0)
def wsJx4a65c_add_9ea2d_r1 : List Cond := [Cond.fieldLink RJx4a65c 63 "java/util/ArrayList" "modCount" "I", Cond.sameField "java/util/ArrayList" "java/util/AbstractList" "modCount" "I", Cond.fieldLink RJx4a65c 9 "java/util/ArrayList" "elementData" "[Ljava/lang/Object;", Cond.fieldLink RJx4a65c 48 "java/util/ArrayList" "size" "I", Cond.methodLink RJx4a65c 131 yJx4a65c_add_72be8, Cond.instanceMethod yJx4a65c_add_72be8, Cond.selects RJx4a65c yJx4a65c_add_72be8 yJx4a65c_add_72be8, Cond.initialized RJx4a65c, Cond.code yJx4a65c_add_72be8 cJx4a65c_add_72be8 4 none, Cond.methodLink RJx4a65c 129 yJx4a65c_grow_d5877, Cond.instanceMethod yJx4a65c_grow_d5877, Cond.selects RJx4a65c yJx4a65c_grow_d5877 yJx4a65c_grow_d5877, Cond.code yJx4a65c_grow_d5877 cJx4a65c_grow_d5877 1 (some (.array (.object "java/lang/Object"))), Cond.methodLink RJx4a65c 69 yJx4a65c_grow_92f84, Cond.instanceMethod yJx4a65c_grow_92f84, Cond.selects RJx4a65c yJx4a65c_grow_92f84 yJx4a65c_grow_92f84, Cond.code yJx4a65c_grow_92f84 cJx4a65c_grow_92f84 4 (some (.array (.object "java/lang/Object"))), Cond.fieldLink RJx4a65c 39 "java/util/ArrayList" "DEFAULTCAPACITY_EMPTY_ELEMENTDATA" "[Ljava/lang/Object;", Cond.methodLink RJx4a65c 79 Lib.Math.max.name, Cond.static Lib.Math.max.name, Cond.initialized "java/lang/Math", Cond.code Lib.Math.max.name Lib.Math.max.code 2 (some .int), Cond.classLink RJx4a65c 7 "java/lang/Object", Cond.methodLink RJx4a65c 73 yJ8_newLength_cabcc]
def wsJx4a65c_add_9ea2d_r2 : List Cond := [Cond.static yJ8_newLength_cabcc, Cond.initialized RJ8, Cond.code yJ8_newLength_cabcc cJ8_newLength_cabcc 4 (some .int), Cond.methodLink RJ8 194 Lib.Math.max.name, Cond.constant RJ8 200 (2147483639), Cond.methodLink RJ8 201 yJ8_hugeLength_7cf53, Cond.static yJ8_hugeLength_7cf53, Cond.code yJ8_hugeLength_7cf53 cJ8_hugeLength_7cf53 3 (some .int), Cond.methodLink RJx4a65c 66 yJ7_copyOf_1904c, Cond.static yJ7_copyOf_1904c, Cond.initialized RJ7, Cond.code yJ7_copyOf_1904c cJ7_copyOf_1904c 2 (some (.array (.object "java/lang/Object"))), Cond.methodLink RJ7 86 ⟨"java/lang/Object", "getClass", "()Ljava/lang/Class;"⟩, Cond.selects "[Ljava/lang/Object;" ⟨"java/lang/Object", "getClass", "()Ljava/lang/Class;"⟩ ⟨"java/lang/Object", "getClass", "()Ljava/lang/Class;"⟩, Cond.instanceMethod ⟨"java/lang/Object", "getClass", "()Ljava/lang/Class;"⟩, Cond.native ⟨"java/lang/Object", "getClass", "()Ljava/lang/Class;"⟩, Cond.methodLink RJ7 300 yJ7_copyOf_6403c, Cond.static yJ7_copyOf_6403c, Cond.code yJ7_copyOf_6403c cJ7_copyOf_6403c 4 (some (.array (.object "java/lang/Object"))), Cond.classLink RJ7 110 "[Ljava/lang/Object;", Cond.classLink RJ7 2 "java/lang/Object", Cond.methodLink RJ7 304 Lib.Math.min.name, Cond.static Lib.Math.min.name, Cond.code Lib.Math.min.name Lib.Math.min.code 2 (some .int)]
def wsJx4a65c_add_9ea2d_r3 : List Cond := [Cond.methodLink RJ7 150 arraycopyName, Cond.native arraycopyName, Cond.static arraycopyName, Cond.initialized "java/lang/System"]
def wsJx4a65c_add_9ea2d : List Cond := .code yJx4a65c_add_9ea2d cJx4a65c_add_9ea2d 2 (some .boolean) :: ((wsJx4a65c_add_9ea2d_r1 ++ (wsJx4a65c_add_9ea2d_r2 ++ wsJx4a65c_add_9ea2d_r3)) ++ wsJx4a65c0)
def wsX6_board_r1 : List Cond := [Cond.classLink RX6 64 "java/lang/IllegalArgumentException", Cond.initialized "java/lang/IllegalArgumentException", Cond.classLink RX6 102 "java/lang/IllegalStateException", Cond.initialized "java/lang/IllegalStateException", Cond.constantDouble RX6 58 (4652007308841189376), Cond.fieldLink RX6 38 "PlankUnroll" "boards" "Ljava/util/ArrayList;", Cond.classLink RX6 186 RX0, Cond.instantiable RX0 3, Cond.initialized RX0, Cond.methodLink RX6 60 yX6_within, Cond.static yX6_within, Cond.initialized RX6, Cond.code yX6_within cX6_within 6 (some .boolean), Cond.methodLink RX6 180 yJx4a65c_size_8abf5, Cond.instanceMethod yJx4a65c_size_8abf5, Cond.selects RJx4a65c yJx4a65c_size_8abf5 yJx4a65c_size_8abf5, Cond.initialized RJx4a65c, Cond.code yJx4a65c_size_8abf5 cJx4a65c_size_8abf5 1 (some .int), Cond.fieldLink RJx4a65c 48 "java/util/ArrayList" "size" "I", Cond.methodLink RX6 188 yX0_init, Cond.instanceMethod yX0_init, Cond.code yX0_init cX0_init 5 none, Cond.methodLink RX0 1 objectInit, Cond.instanceMethod objectInit]
def wsX6_board_r2 : List Cond := [Cond.code objectInit ⟨#[0xb1]⟩ 1 none, Cond.fieldLink RX0 7 "PlankUnroll$Board" "w" "D", Cond.fieldLink RX0 13 "PlankUnroll$Board" "h" "D", Cond.classLink RX0 16 RJx4a65c, Cond.instantiable RJx4a65c 3, Cond.fieldLink RX0 19 "PlankUnroll$Board" "faults" "Ljava/util/ArrayList;", Cond.methodLink RX0 18 yJx4a65c_init_da8c8, Cond.instanceMethod yJx4a65c_init_da8c8, Cond.code yJx4a65c_init_da8c8 cJx4a65c_init_da8c8 1 none, Cond.fieldLink RJx4a65c 39 "java/util/ArrayList" "DEFAULTCAPACITY_EMPTY_ELEMENTDATA" "[Ljava/lang/Object;", Cond.fieldLink RJx4a65c 9 "java/util/ArrayList" "elementData" "[Ljava/lang/Object;", Cond.methodLink RJx4a65c 1 yJxc12de_init_da8c8, Cond.instanceMethod yJxc12de_init_da8c8, Cond.initialized RJxc12de, Cond.code yJxc12de_init_da8c8 cJxc12de_init_da8c8 1 none, Cond.fieldLink RJxc12de 7 "java/util/AbstractList" "modCount" "I", Cond.methodLink RJxc12de 1 yJxa1e45_init_da8c8, Cond.instanceMethod yJxa1e45_init_da8c8, Cond.initialized RJxa1e45, Cond.code yJxa1e45_init_da8c8 cJxa1e45_init_da8c8 1 none, Cond.methodLink RJxa1e45 1 objectInit, Cond.methodLink RX6 191 yJx4a65c_add_9ea2d, Cond.instanceMethod yJx4a65c_add_9ea2d, Cond.selects RJx4a65c yJx4a65c_add_9ea2d yJx4a65c_add_9ea2d]
def wsX6_board_r3 : List Cond := [Cond.code yJx4a65c_add_9ea2d cJx4a65c_add_9ea2d 2 (some .boolean), Cond.fieldLink RJx4a65c 63 "java/util/ArrayList" "modCount" "I", Cond.sameField "java/util/ArrayList" "java/util/AbstractList" "modCount" "I", Cond.methodLink RJx4a65c 131 yJx4a65c_add_72be8, Cond.instanceMethod yJx4a65c_add_72be8, Cond.selects RJx4a65c yJx4a65c_add_72be8 yJx4a65c_add_72be8, Cond.code yJx4a65c_add_72be8 cJx4a65c_add_72be8 4 none, Cond.methodLink RJx4a65c 129 yJx4a65c_grow_d5877, Cond.instanceMethod yJx4a65c_grow_d5877, Cond.selects RJx4a65c yJx4a65c_grow_d5877 yJx4a65c_grow_d5877, Cond.code yJx4a65c_grow_d5877 cJx4a65c_grow_d5877 1 (some (.array (.object "java/lang/Object"))), Cond.methodLink RJx4a65c 69 yJx4a65c_grow_92f84, Cond.instanceMethod yJx4a65c_grow_92f84, Cond.selects RJx4a65c yJx4a65c_grow_92f84 yJx4a65c_grow_92f84, Cond.code yJx4a65c_grow_92f84 cJx4a65c_grow_92f84 4 (some (.array (.object "java/lang/Object"))), Cond.methodLink RJx4a65c 79 Lib.Math.max.name, Cond.static Lib.Math.max.name, Cond.initialized "java/lang/Math", Cond.code Lib.Math.max.name Lib.Math.max.code 2 (some .int), Cond.classLink RJx4a65c 7 "java/lang/Object", Cond.methodLink RJx4a65c 73 yJ8_newLength_cabcc, Cond.static yJ8_newLength_cabcc, Cond.initialized RJ8, Cond.code yJ8_newLength_cabcc cJ8_newLength_cabcc 4 (some .int)]
def wsX6_board_r4 : List Cond := [Cond.methodLink RJ8 194 Lib.Math.max.name, Cond.constant RJ8 200 (2147483639), Cond.methodLink RJ8 201 yJ8_hugeLength_7cf53, Cond.static yJ8_hugeLength_7cf53, Cond.code yJ8_hugeLength_7cf53 cJ8_hugeLength_7cf53 3 (some .int), Cond.methodLink RJx4a65c 66 yJ7_copyOf_1904c, Cond.static yJ7_copyOf_1904c, Cond.initialized RJ7, Cond.code yJ7_copyOf_1904c cJ7_copyOf_1904c 2 (some (.array (.object "java/lang/Object"))), Cond.methodLink RJ7 86 ⟨"java/lang/Object", "getClass", "()Ljava/lang/Class;"⟩, Cond.selects "[Ljava/lang/Object;" ⟨"java/lang/Object", "getClass", "()Ljava/lang/Class;"⟩ ⟨"java/lang/Object", "getClass", "()Ljava/lang/Class;"⟩, Cond.instanceMethod ⟨"java/lang/Object", "getClass", "()Ljava/lang/Class;"⟩, Cond.native ⟨"java/lang/Object", "getClass", "()Ljava/lang/Class;"⟩, Cond.methodLink RJ7 300 yJ7_copyOf_6403c, Cond.static yJ7_copyOf_6403c, Cond.code yJ7_copyOf_6403c cJ7_copyOf_6403c 4 (some (.array (.object "java/lang/Object"))), Cond.classLink RJ7 110 "[Ljava/lang/Object;", Cond.classLink RJ7 2 "java/lang/Object", Cond.methodLink RJ7 304 Lib.Math.min.name, Cond.static Lib.Math.min.name, Cond.code Lib.Math.min.name Lib.Math.min.code 2 (some .int), Cond.methodLink RJ7 150 arraycopyName, Cond.native arraycopyName, Cond.static arraycopyName]
def wsX6_board_r5 : List Cond := [Cond.initialized "java/lang/System"]
def wsX6_board : List Cond := .code yX6_board cX6_board 5 (some .int) :: ((wsX6_board_r1 ++ (wsX6_board_r2 ++ (wsX6_board_r3 ++ (wsX6_board_r4 ++ wsX6_board_r5)))) ++ wsX60 ++ wsX00 ++ wsJx4a65c0 ++ (vx_atS RX6 68 "java/lang/IllegalArgumentException" ["java/lang/RuntimeException", "java/lang/Exception"]).filter goodWord ++ (vx_atS RX6 106 "java/lang/IllegalStateException" ["java/lang/RuntimeException", "java/lang/Exception"]).filter goodWord)
def wsJ3_checkIndex_8e157 : List Cond := .code yJ3_checkIndex_8e157 cJ3_checkIndex_8e157 3 (some .int) :: ([])
def wsJ15_checkIndex_7cf53 : List Cond := .code yJ15_checkIndex_7cf53 cJ15_checkIndex_7cf53 2 (some .int) :: ([.methodLink RJ15 105 yJ3_checkIndex_8e157, .static yJ3_checkIndex_8e157, .initialized RJ3, .code yJ3_checkIndex_8e157 cJ3_checkIndex_8e157 3 (some .int)])
def wsJx4a65c_elementData_915e3 : List Cond := .code yJx4a65c_elementData_915e3 cJx4a65c_elementData_915e3 2 (some (.object "java/lang/Object")) :: ([.fieldLink RJx4a65c 9 "java/util/ArrayList" "elementData" "[Ljava/lang/Object;"] ++ wsJx4a65c0)
def wsJx4a65c_get_915e3 : List Cond := .code yJx4a65c_get_915e3 cJx4a65c_get_915e3 2 (some (.object "java/lang/Object")) :: ([.fieldLink RJx4a65c 48 "java/util/ArrayList" "size" "I", .methodLink RJx4a65c 118 yJ15_checkIndex_7cf53, .static yJ15_checkIndex_7cf53, .initialized RJ15, .code yJ15_checkIndex_7cf53 cJ15_checkIndex_7cf53 2 (some .int), .methodLink RJ15 105 yJ3_checkIndex_8e157, .static yJ3_checkIndex_8e157, .initialized RJ3, .code yJ3_checkIndex_8e157 cJ3_checkIndex_8e157 3 (some .int), .methodLink RJx4a65c 123 yJx4a65c_elementData_915e3, .instanceMethod yJx4a65c_elementData_915e3, .selects RJx4a65c yJx4a65c_elementData_915e3 yJx4a65c_elementData_915e3, .initialized RJx4a65c, .code yJx4a65c_elementData_915e3 cJx4a65c_elementData_915e3 2 (some (.object "java/lang/Object")), .fieldLink RJx4a65c 9 "java/util/ArrayList" "elementData" "[Ljava/lang/Object;"] ++ wsJx4a65c0)
def wsX6_boardAt_r1 : List Cond := [Cond.classLink RX6 107 "java/lang/IndexOutOfBoundsException", Cond.initialized "java/lang/IndexOutOfBoundsException", Cond.fieldLink RX6 38 "PlankUnroll" "boards" "Ljava/util/ArrayList;", Cond.classLink RX6 186 "PlankUnroll$Board", Cond.methodLink RX6 180 yJx4a65c_size_8abf5, Cond.instanceMethod yJx4a65c_size_8abf5, Cond.selects RJx4a65c yJx4a65c_size_8abf5 yJx4a65c_size_8abf5, Cond.initialized RJx4a65c, Cond.code yJx4a65c_size_8abf5 cJx4a65c_size_8abf5 1 (some .int), Cond.fieldLink RJx4a65c 48 "java/util/ArrayList" "size" "I", Cond.methodLink RX6 263 yJx4a65c_get_915e3, Cond.instanceMethod yJx4a65c_get_915e3, Cond.selects RJx4a65c yJx4a65c_get_915e3 yJx4a65c_get_915e3, Cond.code yJx4a65c_get_915e3 cJx4a65c_get_915e3 2 (some (.object "java/lang/Object")), Cond.methodLink RJx4a65c 118 yJ15_checkIndex_7cf53, Cond.static yJ15_checkIndex_7cf53, Cond.initialized RJ15, Cond.code yJ15_checkIndex_7cf53 cJ15_checkIndex_7cf53 2 (some .int), Cond.methodLink RJ15 105 yJ3_checkIndex_8e157, Cond.static yJ3_checkIndex_8e157, Cond.initialized RJ3, Cond.code yJ3_checkIndex_8e157 cJ3_checkIndex_8e157 3 (some .int), Cond.methodLink RJx4a65c 123 yJx4a65c_elementData_915e3, Cond.instanceMethod yJx4a65c_elementData_915e3]
def wsX6_boardAt_r2 : List Cond := [Cond.selects RJx4a65c yJx4a65c_elementData_915e3 yJx4a65c_elementData_915e3, Cond.code yJx4a65c_elementData_915e3 cJx4a65c_elementData_915e3 2 (some (.object "java/lang/Object")), Cond.fieldLink RJx4a65c 9 "java/util/ArrayList" "elementData" "[Ljava/lang/Object;"]
def wsX6_boardAt : List Cond := .code yX6_boardAt cX6_boardAt 2 (some (.object "PlankUnroll$Board")) :: ((wsX6_boardAt_r1 ++ wsX6_boardAt_r2) ++ wsX60 ++ wsJx4a65c0 ++ (vx_atS RX6 111 "java/lang/IndexOutOfBoundsException" ["java/lang/RuntimeException", "java/lang/Exception"]).filter goodWord)
def wsX6_fault_r1 : List Cond := [Cond.classLink RX6 64 "java/lang/IllegalArgumentException", Cond.initialized "java/lang/IllegalArgumentException", Cond.constantDouble RX6 58 (4652007308841189376), Cond.constantDouble RX6 201 (4593671619917905920), Cond.fieldLink RX6 205 "PlankUnroll$Board" "faults" "Ljava/util/ArrayList;", Cond.classLink RX6 208 RX1, Cond.instantiable RX1 4, Cond.initialized RX1, Cond.methodLink RX6 195 yX6_boardAt, Cond.instanceMethod yX6_boardAt, Cond.selects RX6 yX6_boardAt yX6_boardAt, Cond.initialized RX6, Cond.code yX6_boardAt cX6_boardAt 2 (some (.object "PlankUnroll$Board")), Cond.classLink RX6 107 "java/lang/IndexOutOfBoundsException", Cond.initialized "java/lang/IndexOutOfBoundsException", Cond.fieldLink RX6 38 "PlankUnroll" "boards" "Ljava/util/ArrayList;", Cond.classLink RX6 186 "PlankUnroll$Board", Cond.methodLink RX6 180 yJx4a65c_size_8abf5, Cond.instanceMethod yJx4a65c_size_8abf5, Cond.selects RJx4a65c yJx4a65c_size_8abf5 yJx4a65c_size_8abf5, Cond.initialized RJx4a65c, Cond.code yJx4a65c_size_8abf5 cJx4a65c_size_8abf5 1 (some .int), Cond.fieldLink RJx4a65c 48 "java/util/ArrayList" "size" "I", Cond.methodLink RX6 263 yJx4a65c_get_915e3]
def wsX6_fault_r2 : List Cond := [Cond.instanceMethod yJx4a65c_get_915e3, Cond.selects RJx4a65c yJx4a65c_get_915e3 yJx4a65c_get_915e3, Cond.code yJx4a65c_get_915e3 cJx4a65c_get_915e3 2 (some (.object "java/lang/Object")), Cond.methodLink RJx4a65c 118 yJ15_checkIndex_7cf53, Cond.static yJ15_checkIndex_7cf53, Cond.initialized RJ15, Cond.code yJ15_checkIndex_7cf53 cJ15_checkIndex_7cf53 2 (some .int), Cond.methodLink RJ15 105 yJ3_checkIndex_8e157, Cond.static yJ3_checkIndex_8e157, Cond.initialized RJ3, Cond.code yJ3_checkIndex_8e157 cJ3_checkIndex_8e157 3 (some .int), Cond.methodLink RJx4a65c 123 yJx4a65c_elementData_915e3, Cond.instanceMethod yJx4a65c_elementData_915e3, Cond.selects RJx4a65c yJx4a65c_elementData_915e3 yJx4a65c_elementData_915e3, Cond.code yJx4a65c_elementData_915e3 cJx4a65c_elementData_915e3 2 (some (.object "java/lang/Object")), Cond.fieldLink RJx4a65c 9 "java/util/ArrayList" "elementData" "[Ljava/lang/Object;", Cond.methodLink RX6 60 yX6_within, Cond.static yX6_within, Cond.code yX6_within cX6_within 6 (some .boolean), Cond.methodLink RX6 210 yX1_init, Cond.instanceMethod yX1_init, Cond.code yX1_init cX1_init 9 none, Cond.methodLink RX1 1 objectInit, Cond.instanceMethod objectInit]
def wsX6_fault_r3 : List Cond := [Cond.code objectInit ⟨#[0xb1]⟩ 1 none, Cond.fieldLink RX1 7 "PlankUnroll$Box" "x" "D", Cond.fieldLink RX1 13 "PlankUnroll$Box" "y" "D", Cond.fieldLink RX1 16 "PlankUnroll$Box" "w" "D", Cond.fieldLink RX1 19 "PlankUnroll$Box" "h" "D", Cond.methodLink RX6 191 yJx4a65c_add_9ea2d, Cond.instanceMethod yJx4a65c_add_9ea2d, Cond.selects RJx4a65c yJx4a65c_add_9ea2d yJx4a65c_add_9ea2d, Cond.code yJx4a65c_add_9ea2d cJx4a65c_add_9ea2d 2 (some .boolean), Cond.fieldLink RJx4a65c 63 "java/util/ArrayList" "modCount" "I", Cond.sameField "java/util/ArrayList" "java/util/AbstractList" "modCount" "I", Cond.methodLink RJx4a65c 131 yJx4a65c_add_72be8, Cond.instanceMethod yJx4a65c_add_72be8, Cond.selects RJx4a65c yJx4a65c_add_72be8 yJx4a65c_add_72be8, Cond.code yJx4a65c_add_72be8 cJx4a65c_add_72be8 4 none, Cond.methodLink RJx4a65c 129 yJx4a65c_grow_d5877, Cond.instanceMethod yJx4a65c_grow_d5877, Cond.selects RJx4a65c yJx4a65c_grow_d5877 yJx4a65c_grow_d5877, Cond.code yJx4a65c_grow_d5877 cJx4a65c_grow_d5877 1 (some (.array (.object "java/lang/Object"))), Cond.methodLink RJx4a65c 69 yJx4a65c_grow_92f84, Cond.instanceMethod yJx4a65c_grow_92f84, Cond.selects RJx4a65c yJx4a65c_grow_92f84 yJx4a65c_grow_92f84, Cond.code yJx4a65c_grow_92f84 cJx4a65c_grow_92f84 4 (some (.array (.object "java/lang/Object"))), Cond.fieldLink RJx4a65c 39 "java/util/ArrayList" "DEFAULTCAPACITY_EMPTY_ELEMENTDATA" "[Ljava/lang/Object;"]
def wsX6_fault_r4 : List Cond := [Cond.methodLink RJx4a65c 79 Lib.Math.max.name, Cond.static Lib.Math.max.name, Cond.initialized "java/lang/Math", Cond.code Lib.Math.max.name Lib.Math.max.code 2 (some .int), Cond.classLink RJx4a65c 7 "java/lang/Object", Cond.methodLink RJx4a65c 73 yJ8_newLength_cabcc, Cond.static yJ8_newLength_cabcc, Cond.initialized RJ8, Cond.code yJ8_newLength_cabcc cJ8_newLength_cabcc 4 (some .int), Cond.methodLink RJ8 194 Lib.Math.max.name, Cond.constant RJ8 200 (2147483639), Cond.methodLink RJ8 201 yJ8_hugeLength_7cf53, Cond.static yJ8_hugeLength_7cf53, Cond.code yJ8_hugeLength_7cf53 cJ8_hugeLength_7cf53 3 (some .int), Cond.methodLink RJx4a65c 66 yJ7_copyOf_1904c, Cond.static yJ7_copyOf_1904c, Cond.initialized RJ7, Cond.code yJ7_copyOf_1904c cJ7_copyOf_1904c 2 (some (.array (.object "java/lang/Object"))), Cond.methodLink RJ7 86 ⟨"java/lang/Object", "getClass", "()Ljava/lang/Class;"⟩, Cond.selects "[Ljava/lang/Object;" ⟨"java/lang/Object", "getClass", "()Ljava/lang/Class;"⟩ ⟨"java/lang/Object", "getClass", "()Ljava/lang/Class;"⟩, Cond.instanceMethod ⟨"java/lang/Object", "getClass", "()Ljava/lang/Class;"⟩, Cond.native ⟨"java/lang/Object", "getClass", "()Ljava/lang/Class;"⟩, Cond.methodLink RJ7 300 yJ7_copyOf_6403c, Cond.static yJ7_copyOf_6403c]
def wsX6_fault_r5 : List Cond := [Cond.code yJ7_copyOf_6403c cJ7_copyOf_6403c 4 (some (.array (.object "java/lang/Object"))), Cond.classLink RJ7 110 "[Ljava/lang/Object;", Cond.classLink RJ7 2 "java/lang/Object", Cond.methodLink RJ7 304 Lib.Math.min.name, Cond.static Lib.Math.min.name, Cond.code Lib.Math.min.name Lib.Math.min.code 2 (some .int), Cond.methodLink RJ7 150 arraycopyName, Cond.native arraycopyName, Cond.static arraycopyName, Cond.initialized "java/lang/System"]
def wsX6_fault : List Cond := .code yX6_fault cX6_fault 11 (some .boolean) :: ((wsX6_fault_r1 ++ (wsX6_fault_r2 ++ (wsX6_fault_r3 ++ (wsX6_fault_r4 ++ wsX6_fault_r5)))) ++ wsX00 ++ wsX10 ++ wsX60 ++ wsJx4a65c0 ++ (vx_atS RX6 68 "java/lang/IllegalArgumentException" ["java/lang/RuntimeException", "java/lang/Exception"]).filter goodWord ++ (vx_atS RX6 111 "java/lang/IndexOutOfBoundsException" ["java/lang/RuntimeException", "java/lang/Exception"]).filter goodWord)
def wsX6_overlapped_r1 : List Cond := [Cond.fieldLink RX6 205 "PlankUnroll$Board" "faults" "Ljava/util/ArrayList;", Cond.classLink RX6 208 "PlankUnroll$Box", Cond.fieldLink RX6 28 "PlankUnroll" "strips" "[LPlankUnroll$Strip;", Cond.fieldLink RX6 213 "PlankUnroll$Strip" "board" "I", Cond.fieldLink RX6 218 "PlankUnroll$Strip" "box" "LPlankUnroll$Box;", Cond.methodLink RX6 180 yJx4a65c_size_8abf5, Cond.instanceMethod yJx4a65c_size_8abf5, Cond.selects RJx4a65c yJx4a65c_size_8abf5 yJx4a65c_size_8abf5, Cond.initialized RJx4a65c, Cond.code yJx4a65c_size_8abf5 cJx4a65c_size_8abf5 1 (some .int), Cond.fieldLink RJx4a65c 48 "java/util/ArrayList" "size" "I", Cond.methodLink RX6 263 yJx4a65c_get_915e3, Cond.instanceMethod yJx4a65c_get_915e3, Cond.selects RJx4a65c yJx4a65c_get_915e3 yJx4a65c_get_915e3, Cond.code yJx4a65c_get_915e3 cJx4a65c_get_915e3 2 (some (.object "java/lang/Object")), Cond.methodLink RJx4a65c 118 yJ15_checkIndex_7cf53, Cond.static yJ15_checkIndex_7cf53, Cond.initialized RJ15, Cond.code yJ15_checkIndex_7cf53 cJ15_checkIndex_7cf53 2 (some .int), Cond.methodLink RJ15 105 yJ3_checkIndex_8e157, Cond.static yJ3_checkIndex_8e157, Cond.initialized RJ3, Cond.code yJ3_checkIndex_8e157 cJ3_checkIndex_8e157 3 (some .int), Cond.methodLink RJx4a65c 123 yJx4a65c_elementData_915e3]
def wsX6_overlapped_r2 : List Cond := [Cond.instanceMethod yJx4a65c_elementData_915e3, Cond.selects RJx4a65c yJx4a65c_elementData_915e3 yJx4a65c_elementData_915e3, Cond.code yJx4a65c_elementData_915e3 cJx4a65c_elementData_915e3 2 (some (.object "java/lang/Object")), Cond.fieldLink RJx4a65c 9 "java/util/ArrayList" "elementData" "[Ljava/lang/Object;", Cond.methodLink RX6 293 yX1_overlaps, Cond.instanceMethod yX1_overlaps, Cond.selects RX1 yX1_overlaps yX1_overlaps, Cond.initialized RX1, Cond.code yX1_overlaps cX1_overlaps 2 (some .boolean), Cond.fieldLink RX1 7 "PlankUnroll$Box" "x" "D", Cond.fieldLink RX1 16 "PlankUnroll$Box" "w" "D", Cond.fieldLink RX1 13 "PlankUnroll$Box" "y" "D", Cond.fieldLink RX1 19 "PlankUnroll$Box" "h" "D"]
def wsX6_overlapped : List Cond := .code yX6_overlapped cX6_overlapped 8 (some (.object "PlankUnroll$Box")) :: ((wsX6_overlapped_r1 ++ wsX6_overlapped_r2) ++ wsX00 ++ wsX60 ++ wsX50 ++ wsJx4a65c0 ++ wsX10)
def wsX6_lastEighthsBefore : List Cond := .code yX6_lastEighthsBefore cX6_lastEighthsBefore 3 (some .int) :: ([.constantDouble RX6 278 (4620693217682128896)])
def wsX6_leastEighths_r1 : List Cond := [Cond.fieldLink RX6 273 "PlankUnroll$Box" "y" "D", Cond.fieldLink RX6 274 "PlankUnroll$Box" "h" "D", Cond.fieldLink RX6 277 "PlankUnroll$Board" "h" "D", Cond.constantDouble RX6 278 (4620693217682128896), Cond.fieldLink RX6 280 "PlankUnroll$Box" "x" "D", Cond.fieldLink RX6 281 "PlankUnroll$Box" "w" "D", Cond.fieldLink RX6 284 "PlankUnroll$Board" "w" "D", Cond.methodLink RX6 237 Lib.Math.max.name, Cond.static Lib.Math.max.name, Cond.initialized "java/lang/Math", Cond.code Lib.Math.max.name Lib.Math.max.code 2 (some .int), Cond.methodLink RX6 285 yX6_overlapped, Cond.instanceMethod yX6_overlapped, Cond.selects RX6 yX6_overlapped yX6_overlapped, Cond.initialized RX6, Cond.code yX6_overlapped cX6_overlapped 8 (some (.object "PlankUnroll$Box")), Cond.fieldLink RX6 205 "PlankUnroll$Board" "faults" "Ljava/util/ArrayList;", Cond.classLink RX6 208 "PlankUnroll$Box", Cond.fieldLink RX6 28 "PlankUnroll" "strips" "[LPlankUnroll$Strip;", Cond.fieldLink RX6 213 "PlankUnroll$Strip" "board" "I", Cond.fieldLink RX6 218 "PlankUnroll$Strip" "box" "LPlankUnroll$Box;", Cond.methodLink RX6 180 yJx4a65c_size_8abf5, Cond.instanceMethod yJx4a65c_size_8abf5, Cond.selects RJx4a65c yJx4a65c_size_8abf5 yJx4a65c_size_8abf5]
def wsX6_leastEighths_r2 : List Cond := [Cond.initialized RJx4a65c, Cond.code yJx4a65c_size_8abf5 cJx4a65c_size_8abf5 1 (some .int), Cond.fieldLink RJx4a65c 48 "java/util/ArrayList" "size" "I", Cond.methodLink RX6 263 yJx4a65c_get_915e3, Cond.instanceMethod yJx4a65c_get_915e3, Cond.selects RJx4a65c yJx4a65c_get_915e3 yJx4a65c_get_915e3, Cond.code yJx4a65c_get_915e3 cJx4a65c_get_915e3 2 (some (.object "java/lang/Object")), Cond.methodLink RJx4a65c 118 yJ15_checkIndex_7cf53, Cond.static yJ15_checkIndex_7cf53, Cond.initialized RJ15, Cond.code yJ15_checkIndex_7cf53 cJ15_checkIndex_7cf53 2 (some .int), Cond.methodLink RJ15 105 yJ3_checkIndex_8e157, Cond.static yJ3_checkIndex_8e157, Cond.initialized RJ3, Cond.code yJ3_checkIndex_8e157 cJ3_checkIndex_8e157 3 (some .int), Cond.methodLink RJx4a65c 123 yJx4a65c_elementData_915e3, Cond.instanceMethod yJx4a65c_elementData_915e3, Cond.selects RJx4a65c yJx4a65c_elementData_915e3 yJx4a65c_elementData_915e3, Cond.code yJx4a65c_elementData_915e3 cJx4a65c_elementData_915e3 2 (some (.object "java/lang/Object")), Cond.fieldLink RJx4a65c 9 "java/util/ArrayList" "elementData" "[Ljava/lang/Object;", Cond.methodLink RX6 293 yX1_overlaps, Cond.instanceMethod yX1_overlaps, Cond.selects RX1 yX1_overlaps yX1_overlaps, Cond.initialized RX1]
def wsX6_leastEighths_r3 : List Cond := [Cond.code yX1_overlaps cX1_overlaps 2 (some .boolean), Cond.fieldLink RX1 7 "PlankUnroll$Box" "x" "D", Cond.fieldLink RX1 16 "PlankUnroll$Box" "w" "D", Cond.fieldLink RX1 13 "PlankUnroll$Box" "y" "D", Cond.fieldLink RX1 19 "PlankUnroll$Box" "h" "D", Cond.methodLink RX6 289 yX6_lastEighthsBefore, Cond.static yX6_lastEighthsBefore, Cond.code yX6_lastEighthsBefore cX6_lastEighthsBefore 3 (some .int)]
def wsX6_leastEighths : List Cond := .code yX6_leastEighths cX6_leastEighths 6 (some .int) :: ((wsX6_leastEighths_r1 ++ (wsX6_leastEighths_r2 ++ wsX6_leastEighths_r3)) ++ wsX10 ++ wsX00 ++ wsX60 ++ wsX50 ++ wsJx4a65c0)
def wsX6_nest_r1 : List Cond := [Cond.classLink RX6 102 "java/lang/IllegalStateException", Cond.initialized "java/lang/IllegalStateException", Cond.fieldLink RX6 213 "PlankUnroll$Strip" "board" "I", Cond.fieldLink RX6 218 "PlankUnroll$Strip" "box" "LPlankUnroll$Box;", Cond.fieldLink RX6 226 "PlankUnroll$Strip" "eighths" "I", Cond.methodLink RX6 195 yX6_boardAt, Cond.instanceMethod yX6_boardAt, Cond.selects RX6 yX6_boardAt yX6_boardAt, Cond.initialized RX6, Cond.code yX6_boardAt cX6_boardAt 2 (some (.object "PlankUnroll$Board")), Cond.classLink RX6 107 "java/lang/IndexOutOfBoundsException", Cond.initialized "java/lang/IndexOutOfBoundsException", Cond.fieldLink RX6 38 "PlankUnroll" "boards" "Ljava/util/ArrayList;", Cond.classLink RX6 186 "PlankUnroll$Board", Cond.methodLink RX6 180 yJx4a65c_size_8abf5, Cond.instanceMethod yJx4a65c_size_8abf5, Cond.selects RJx4a65c yJx4a65c_size_8abf5 yJx4a65c_size_8abf5, Cond.initialized RJx4a65c, Cond.code yJx4a65c_size_8abf5 cJx4a65c_size_8abf5 1 (some .int), Cond.fieldLink RJx4a65c 48 "java/util/ArrayList" "size" "I", Cond.methodLink RX6 263 yJx4a65c_get_915e3, Cond.instanceMethod yJx4a65c_get_915e3, Cond.selects RJx4a65c yJx4a65c_get_915e3 yJx4a65c_get_915e3, Cond.code yJx4a65c_get_915e3 cJx4a65c_get_915e3 2 (some (.object "java/lang/Object"))]
def wsX6_nest_r2 : List Cond := [Cond.methodLink RJx4a65c 118 yJ15_checkIndex_7cf53, Cond.static yJ15_checkIndex_7cf53, Cond.initialized RJ15, Cond.code yJ15_checkIndex_7cf53 cJ15_checkIndex_7cf53 2 (some .int), Cond.methodLink RJ15 105 yJ3_checkIndex_8e157, Cond.static yJ3_checkIndex_8e157, Cond.initialized RJ3, Cond.code yJ3_checkIndex_8e157 cJ3_checkIndex_8e157 3 (some .int), Cond.methodLink RJx4a65c 123 yJx4a65c_elementData_915e3, Cond.instanceMethod yJx4a65c_elementData_915e3, Cond.selects RJx4a65c yJx4a65c_elementData_915e3 yJx4a65c_elementData_915e3, Cond.code yJx4a65c_elementData_915e3 cJx4a65c_elementData_915e3 2 (some (.object "java/lang/Object")), Cond.fieldLink RJx4a65c 9 "java/util/ArrayList" "elementData" "[Ljava/lang/Object;", Cond.methodLink RX6 90 yX6_stripAt, Cond.instanceMethod yX6_stripAt, Cond.selects RX6 yX6_stripAt yX6_stripAt, Cond.code yX6_stripAt cX6_stripAt 2 (some (.object "PlankUnroll$Strip")), Cond.fieldLink RX6 28 "PlankUnroll" "strips" "[LPlankUnroll$Strip;", Cond.methodLink RX6 114 yX6_needUnrolled, Cond.static yX6_needUnrolled, Cond.code yX6_needUnrolled cX6_needUnrolled 1 none, Cond.fieldLink RX6 94 "PlankUnroll$Strip" "unrolled" "Z", Cond.methodLink RX6 222 yX6_leastEighths, Cond.instanceMethod yX6_leastEighths]
def wsX6_nest_r3 : List Cond := [Cond.selects RX6 yX6_leastEighths yX6_leastEighths, Cond.code yX6_leastEighths cX6_leastEighths 6 (some .int), Cond.fieldLink RX6 273 "PlankUnroll$Box" "y" "D", Cond.fieldLink RX6 274 "PlankUnroll$Box" "h" "D", Cond.fieldLink RX6 277 "PlankUnroll$Board" "h" "D", Cond.constantDouble RX6 278 (4620693217682128896), Cond.fieldLink RX6 280 "PlankUnroll$Box" "x" "D", Cond.fieldLink RX6 281 "PlankUnroll$Box" "w" "D", Cond.fieldLink RX6 284 "PlankUnroll$Board" "w" "D", Cond.methodLink RX6 237 Lib.Math.max.name, Cond.static Lib.Math.max.name, Cond.initialized "java/lang/Math", Cond.code Lib.Math.max.name Lib.Math.max.code 2 (some .int), Cond.methodLink RX6 285 yX6_overlapped, Cond.instanceMethod yX6_overlapped, Cond.selects RX6 yX6_overlapped yX6_overlapped, Cond.code yX6_overlapped cX6_overlapped 8 (some (.object "PlankUnroll$Box")), Cond.fieldLink RX6 205 "PlankUnroll$Board" "faults" "Ljava/util/ArrayList;", Cond.classLink RX6 208 "PlankUnroll$Box", Cond.methodLink RX6 293 yX1_overlaps, Cond.instanceMethod yX1_overlaps, Cond.selects RX1 yX1_overlaps yX1_overlaps, Cond.initialized RX1, Cond.code yX1_overlaps cX1_overlaps 2 (some .boolean)]
def wsX6_nest_r4 : List Cond := [Cond.fieldLink RX1 7 "PlankUnroll$Box" "x" "D", Cond.fieldLink RX1 16 "PlankUnroll$Box" "w" "D", Cond.fieldLink RX1 13 "PlankUnroll$Box" "y" "D", Cond.fieldLink RX1 19 "PlankUnroll$Box" "h" "D", Cond.methodLink RX6 289 yX6_lastEighthsBefore, Cond.static yX6_lastEighthsBefore, Cond.code yX6_lastEighthsBefore cX6_lastEighthsBefore 3 (some .int)]
def wsX6_nest : List Cond := .code yX6_nest cX6_nest 6 (some .int) :: ((wsX6_nest_r1 ++ (wsX6_nest_r2 ++ (wsX6_nest_r3 ++ wsX6_nest_r4))) ++ wsX50 ++ wsX60 ++ wsJx4a65c0 ++ wsX10 ++ wsX00 ++ (vx_atS RX6 106 "java/lang/IllegalStateException" ["java/lang/RuntimeException", "java/lang/Exception"]).filter goodWord ++ (vx_atS RX6 111 "java/lang/IndexOutOfBoundsException" ["java/lang/RuntimeException", "java/lang/Exception"]).filter goodWord)
def wsX6_lies : List Cond := .code yX6_lies cX6_lies 4 (some .int) :: ([.classLink RX6 107 "java/lang/IndexOutOfBoundsException", .initialized "java/lang/IndexOutOfBoundsException", .fieldLink RX6 213 "PlankUnroll$Strip" "board" "I", .fieldLink RX6 226 "PlankUnroll$Strip" "eighths" "I", .methodLink RX6 90 yX6_stripAt, .instanceMethod yX6_stripAt, .selects RX6 yX6_stripAt yX6_stripAt, .initialized RX6, .code yX6_stripAt cX6_stripAt 2 (some (.object "PlankUnroll$Strip")), .fieldLink RX6 28 "PlankUnroll" "strips" "[LPlankUnroll$Strip;"] ++ wsX50 ++ wsX60 ++ (vx_atS RX6 111 "java/lang/IndexOutOfBoundsException" ["java/lang/RuntimeException", "java/lang/Exception"]).filter goodWord)
def wsX6_checkStaves : List Cond := .code yX6_checkStaves cX6_checkStaves 4 none :: ([.classLink RX6 64 "java/lang/IllegalArgumentException", .initialized "java/lang/IllegalArgumentException", .constantDouble RX6 201 (4593671619917905920), .constantDouble RX6 58 (4652007308841189376), .methodLink RX6 60 yX6_within, .static yX6_within, .initialized RX6, .code yX6_within cX6_within 6 (some .boolean)] ++ (vx_atS RX6 68 "java/lang/IllegalArgumentException" ["java/lang/RuntimeException", "java/lang/Exception"]).filter goodWord)
def wsX6_circleOf : List Cond := .code yX6_circleOf cX6_circleOf 2 (some .double) :: ([.constantDouble RX6 251 (4614256656552045848)])
def wsX6_staves : List Cond := .code yX6_staves cX6_staves 9 (some .int) :: ([.methodLink RX6 237 Lib.Math.max.name, .static Lib.Math.max.name, .initialized "java/lang/Math", .code Lib.Math.max.name Lib.Math.max.code 2 (some .int), .constant RX6 243 (100000), .methodLink RX6 231 yX6_checkStaves, .static yX6_checkStaves, .initialized RX6, .code yX6_checkStaves cX6_checkStaves 4 none, .classLink RX6 64 "java/lang/IllegalArgumentException", .initialized "java/lang/IllegalArgumentException", .constantDouble RX6 201 (4593671619917905920), .constantDouble RX6 58 (4652007308841189376), .methodLink RX6 60 yX6_within, .static yX6_within, .code yX6_within cX6_within 6 (some .boolean), .methodLink RX6 234 yX6_circleOf, .static yX6_circleOf, .code yX6_circleOf cX6_circleOf 2 (some .double), .constantDouble RX6 251 (4614256656552045848)] ++ (vx_atS RX6 68 "java/lang/IllegalArgumentException" ["java/lang/RuntimeException", "java/lang/Exception"]).filter goodWord)
def wsX6_closes : List Cond := .code yX6_closes cX6_closes 6 (some .double) :: ([.classLink RX6 64 "java/lang/IllegalArgumentException", .initialized "java/lang/IllegalArgumentException", .constant RX6 243 (100000), .methodLink RX6 231 yX6_checkStaves, .static yX6_checkStaves, .initialized RX6, .code yX6_checkStaves cX6_checkStaves 4 none, .constantDouble RX6 201 (4593671619917905920), .constantDouble RX6 58 (4652007308841189376), .methodLink RX6 60 yX6_within, .static yX6_within, .code yX6_within cX6_within 6 (some .boolean), .methodLink RX6 234 yX6_circleOf, .static yX6_circleOf, .code yX6_circleOf cX6_circleOf 2 (some .double), .constantDouble RX6 251 (4614256656552045848)] ++ (vx_atS RX6 68 "java/lang/IllegalArgumentException" ["java/lang/RuntimeException", "java/lang/Exception"]).filter goodWord)
def wsX7_init : List Cond := .code yX7_init cX7_init 3 none :: ([.methodLink RX7 1 objectInit, .instanceMethod objectInit, .code objectInit ⟨#[0xb1]⟩ 1 none, .arrayClass .double, .fieldLink RX7 7 "PlankUnrollModel" "places" "[D", .arrayClass .boolean, .fieldLink RX7 13 "PlankUnrollModel" "unrolled" "[Z", .fieldLink RX7 17 "PlankUnrollModel" "corners" "[D", .fieldLink RX7 20 "PlankUnrollModel" "draft" "[D", .fieldLink RX7 23 "PlankUnrollModel" "butts" "[Z", .fieldLink RX7 26 "PlankUnrollModel" "wides" "[D", .fieldLink RX7 29 "PlankUnrollModel" "highs" "[D", .arrayClass .int, .fieldLink RX7 32 "PlankUnrollModel" "faultCount" "[I", .fieldLink RX7 36 "PlankUnrollModel" "faults" "[D", .fieldLink RX7 39 "PlankUnrollModel" "liesOn" "[I", .fieldLink RX7 42 "PlankUnrollModel" "liesAt" "[I", .fieldLink RX7 45 "PlankUnrollModel" "frames" "I", .fieldLink RX7 49 "PlankUnrollModel" "rows" "I"] ++ wsX70)
def wsX7_thrown : List Cond := .code yX7_thrown cX7_thrown 1 (some .int) :: ([.fieldLink RX7 52 "PlankUnrollModel" "thrown" "I"] ++ wsX70)
def wsX7_between : List Cond := .code yX7_between cX7_between 6 (some .boolean) :: ([])
def wsX7_noPlace : List Cond := .code yX7_noPlace cX7_noPlace 3 (some .boolean) :: ([.fieldLink RX7 45 "PlankUnrollModel" "frames" "I", .fieldLink RX7 49 "PlankUnrollModel" "rows" "I"] ++ wsX70)
def wsX7_noStrip : List Cond := .code yX7_noStrip cX7_noStrip 2 (some .boolean) :: ([.fieldLink RX7 49 "PlankUnrollModel" "rows" "I"] ++ wsX70)
def wsX7_root : List Cond := .code yX7_root cX7_root 5 (some .double) :: ([.constantDouble RX7 55 (4611686018427387904)])
def wsX7_at : List Cond := .code yX7_at cX7_at 4 (some .double) :: ([.fieldLink RX7 7 "PlankUnrollModel" "places" "[D"] ++ wsX70)
def wsX7_point : List Cond := .code yX7_point cX7_point 13 (some .boolean) :: ([.constantDouble RX7 57 (13875379345695965184), .constantDouble RX7 59 (4652007308841189376), .fieldLink RX7 52 "PlankUnrollModel" "thrown" "I", .fieldLink RX7 7 "PlankUnrollModel" "places" "[D", .fieldLink RX7 13 "PlankUnrollModel" "unrolled" "[Z", .fieldLink RX7 39 "PlankUnrollModel" "liesOn" "[I", .fieldLink RX7 42 "PlankUnrollModel" "liesAt" "[I", .methodLink RX7 61 yX7_between, .static yX7_between, .initialized RX7, .code yX7_between cX7_between 6 (some .boolean), .methodLink RX7 65 yX7_noPlace, .instanceMethod yX7_noPlace, .selects RX7 yX7_noPlace yX7_noPlace, .code yX7_noPlace cX7_noPlace 3 (some .boolean), .fieldLink RX7 45 "PlankUnrollModel" "frames" "I", .fieldLink RX7 49 "PlankUnrollModel" "rows" "I", .methodLink RX7 69 yX7_at, .instanceMethod yX7_at, .selects RX7 yX7_at yX7_at, .code yX7_at cX7_at 4 (some .double)] ++ wsX70)
def wsX7_far : List Cond := .code yX7_far cX7_far 11 (some .double) :: ([.methodLink RX7 69 yX7_at, .instanceMethod yX7_at, .selects RX7 yX7_at yX7_at, .initialized RX7, .code yX7_at cX7_at 4 (some .double), .fieldLink RX7 7 "PlankUnrollModel" "places" "[D", .methodLink RX7 73 yX7_root, .static yX7_root, .code yX7_root cX7_root 5 (some .double), .constantDouble RX7 55 (4611686018427387904)] ++ wsX70)
def wsX7_distance : List Cond := .code yX7_distance cX7_distance 5 (some .double) :: ([.fieldLink RX7 52 "PlankUnrollModel" "thrown" "I", .methodLink RX7 65 yX7_noPlace, .instanceMethod yX7_noPlace, .selects RX7 yX7_noPlace yX7_noPlace, .initialized RX7, .code yX7_noPlace cX7_noPlace 3 (some .boolean), .fieldLink RX7 45 "PlankUnrollModel" "frames" "I", .fieldLink RX7 49 "PlankUnrollModel" "rows" "I", .methodLink RX7 77 yX7_far, .instanceMethod yX7_far, .selects RX7 yX7_far yX7_far, .code yX7_far cX7_far 11 (some .double), .methodLink RX7 69 yX7_at, .instanceMethod yX7_at, .selects RX7 yX7_at yX7_at, .code yX7_at cX7_at 4 (some .double), .fieldLink RX7 7 "PlankUnrollModel" "places" "[D", .methodLink RX7 73 yX7_root, .static yX7_root, .code yX7_root cX7_root 5 (some .double), .constantDouble RX7 55 (4611686018427387904)] ++ wsX70)
def wsX7_length : List Cond := .code yX7_length cX7_length 4 (some .double) :: ([.methodLink RX7 73 yX7_root, .static yX7_root, .initialized RX7, .code yX7_root cX7_root 5 (some .double), .constantDouble RX7 55 (4611686018427387904)])
def wsX7_put : List Cond := .code yX7_put cX7_put 18 (some .boolean) :: ([.fieldLink RX7 20 "PlankUnrollModel" "draft" "[D", .constantDouble RX7 85 (4562146422526312448), .constantDouble RX7 55 (4611686018427387904), .methodLink RX7 81 yX7_length, .static yX7_length, .initialized RX7, .code yX7_length cX7_length 4 (some .double), .methodLink RX7 73 yX7_root, .static yX7_root, .code yX7_root cX7_root 5 (some .double)] ++ wsX70)
def wsX7_unroll_r1 : List Cond := [Cond.fieldLink RX7 52 "PlankUnrollModel" "thrown" "I", Cond.fieldLink RX7 20 "PlankUnrollModel" "draft" "[D", Cond.fieldLink RX7 45 "PlankUnrollModel" "frames" "I", Cond.fieldLink RX7 17 "PlankUnrollModel" "corners" "[D", Cond.fieldLink RX7 13 "PlankUnrollModel" "unrolled" "[Z", Cond.methodLink RX7 87 yX7_noStrip, Cond.instanceMethod yX7_noStrip, Cond.selects RX7 yX7_noStrip yX7_noStrip, Cond.initialized RX7, Cond.code yX7_noStrip cX7_noStrip 2 (some .boolean), Cond.fieldLink RX7 49 "PlankUnrollModel" "rows" "I", Cond.methodLink RX7 77 yX7_far, Cond.instanceMethod yX7_far, Cond.selects RX7 yX7_far yX7_far, Cond.code yX7_far cX7_far 11 (some .double), Cond.methodLink RX7 69 yX7_at, Cond.instanceMethod yX7_at, Cond.selects RX7 yX7_at yX7_at, Cond.code yX7_at cX7_at 4 (some .double), Cond.fieldLink RX7 7 "PlankUnrollModel" "places" "[D", Cond.methodLink RX7 73 yX7_root, Cond.static yX7_root, Cond.code yX7_root cX7_root 5 (some .double), Cond.constantDouble RX7 55 (4611686018427387904)]
def wsX7_unroll_r2 : List Cond := [Cond.methodLink RX7 91 yX7_put, Cond.instanceMethod yX7_put, Cond.selects RX7 yX7_put yX7_put, Cond.code yX7_put cX7_put 18 (some .boolean), Cond.constantDouble RX7 85 (4562146422526312448), Cond.methodLink RX7 81 yX7_length, Cond.static yX7_length, Cond.code yX7_length cX7_length 4 (some .double)]
def wsX7_unroll : List Cond := .code yX7_unroll cX7_unroll 4 (some .int) :: ((wsX7_unroll_r1 ++ wsX7_unroll_r2) ++ wsX70)
def wsX7_flat : List Cond := .code yX7_flat cX7_flat 4 (some .double) :: ([.fieldLink RX7 45 "PlankUnrollModel" "frames" "I", .fieldLink RX7 13 "PlankUnrollModel" "unrolled" "[Z", .fieldLink RX7 52 "PlankUnrollModel" "thrown" "I", .fieldLink RX7 17 "PlankUnrollModel" "corners" "[D", .methodLink RX7 87 yX7_noStrip, .instanceMethod yX7_noStrip, .selects RX7 yX7_noStrip yX7_noStrip, .initialized RX7, .code yX7_noStrip cX7_noStrip 2 (some .boolean), .fieldLink RX7 49 "PlankUnrollModel" "rows" "I"] ++ wsX70)
def wsX7_noCell : List Cond := .code yX7_noCell cX7_noCell 3 (some .boolean) :: ([.fieldLink RX7 45 "PlankUnrollModel" "frames" "I", .methodLink RX7 87 yX7_noStrip, .instanceMethod yX7_noStrip, .selects RX7 yX7_noStrip yX7_noStrip, .initialized RX7, .code yX7_noStrip cX7_noStrip 2 (some .boolean), .fieldLink RX7 49 "PlankUnrollModel" "rows" "I"] ++ wsX70)
def wsX7_off : List Cond := .code yX7_off cX7_off 5 (some .double) :: ([.fieldLink RX7 17 "PlankUnrollModel" "corners" "[D", .methodLink RX7 81 yX7_length, .static yX7_length, .initialized RX7, .code yX7_length cX7_length 4 (some .double), .methodLink RX7 73 yX7_root, .static yX7_root, .code yX7_root cX7_root 5 (some .double), .constantDouble RX7 55 (4611686018427387904), .methodLink RX7 77 yX7_far, .instanceMethod yX7_far, .selects RX7 yX7_far yX7_far, .code yX7_far cX7_far 11 (some .double), .methodLink RX7 69 yX7_at, .instanceMethod yX7_at, .selects RX7 yX7_at yX7_at, .code yX7_at cX7_at 4 (some .double), .fieldLink RX7 7 "PlankUnrollModel" "places" "[D"] ++ wsX70)
def wsX7_stretch_r1 : List Cond := [Cond.fieldLink RX7 13 "PlankUnrollModel" "unrolled" "[Z", Cond.fieldLink RX7 52 "PlankUnrollModel" "thrown" "I", Cond.methodLink RX7 95 yX7_noCell, Cond.instanceMethod yX7_noCell, Cond.selects RX7 yX7_noCell yX7_noCell, Cond.initialized RX7, Cond.code yX7_noCell cX7_noCell 3 (some .boolean), Cond.fieldLink RX7 45 "PlankUnrollModel" "frames" "I", Cond.methodLink RX7 87 yX7_noStrip, Cond.instanceMethod yX7_noStrip, Cond.selects RX7 yX7_noStrip yX7_noStrip, Cond.code yX7_noStrip cX7_noStrip 2 (some .boolean), Cond.fieldLink RX7 49 "PlankUnrollModel" "rows" "I", Cond.methodLink RX7 98 yX7_off, Cond.instanceMethod yX7_off, Cond.selects RX7 yX7_off yX7_off, Cond.code yX7_off cX7_off 5 (some .double), Cond.fieldLink RX7 17 "PlankUnrollModel" "corners" "[D", Cond.methodLink RX7 81 yX7_length, Cond.static yX7_length, Cond.code yX7_length cX7_length 4 (some .double), Cond.methodLink RX7 73 yX7_root, Cond.static yX7_root, Cond.code yX7_root cX7_root 5 (some .double)]
def wsX7_stretch_r2 : List Cond := [Cond.constantDouble RX7 55 (4611686018427387904), Cond.methodLink RX7 77 yX7_far, Cond.instanceMethod yX7_far, Cond.selects RX7 yX7_far yX7_far, Cond.code yX7_far cX7_far 11 (some .double), Cond.methodLink RX7 69 yX7_at, Cond.instanceMethod yX7_at, Cond.selects RX7 yX7_at yX7_at, Cond.code yX7_at cX7_at 4 (some .double), Cond.fieldLink RX7 7 "PlankUnrollModel" "places" "[D"]
def wsX7_stretch : List Cond := .code yX7_stretch cX7_stretch 3 (some .double) :: ((wsX7_stretch_r1 ++ wsX7_stretch_r2) ++ wsX70)
def wsX7_worst_r1 : List Cond := [Cond.fieldLink RX7 13 "PlankUnrollModel" "unrolled" "[Z", Cond.fieldLink RX7 52 "PlankUnrollModel" "thrown" "I", Cond.constantDouble RX7 102 (13830554455654793216), Cond.fieldLink RX7 45 "PlankUnrollModel" "frames" "I", Cond.methodLink RX7 87 yX7_noStrip, Cond.instanceMethod yX7_noStrip, Cond.selects RX7 yX7_noStrip yX7_noStrip, Cond.initialized RX7, Cond.code yX7_noStrip cX7_noStrip 2 (some .boolean), Cond.fieldLink RX7 49 "PlankUnrollModel" "rows" "I", Cond.methodLink RX7 98 yX7_off, Cond.instanceMethod yX7_off, Cond.selects RX7 yX7_off yX7_off, Cond.code yX7_off cX7_off 5 (some .double), Cond.fieldLink RX7 17 "PlankUnrollModel" "corners" "[D", Cond.methodLink RX7 81 yX7_length, Cond.static yX7_length, Cond.code yX7_length cX7_length 4 (some .double), Cond.methodLink RX7 73 yX7_root, Cond.static yX7_root, Cond.code yX7_root cX7_root 5 (some .double), Cond.constantDouble RX7 55 (4611686018427387904), Cond.methodLink RX7 77 yX7_far, Cond.instanceMethod yX7_far]
def wsX7_worst_r2 : List Cond := [Cond.selects RX7 yX7_far yX7_far, Cond.code yX7_far cX7_far 11 (some .double), Cond.methodLink RX7 69 yX7_at, Cond.instanceMethod yX7_at, Cond.selects RX7 yX7_at yX7_at, Cond.code yX7_at cX7_at 4 (some .double), Cond.fieldLink RX7 7 "PlankUnrollModel" "places" "[D"]
def wsX7_worst : List Cond := .code yX7_worst cX7_worst 8 (some .int) :: ((wsX7_worst_r1 ++ wsX7_worst_r2) ++ wsX70)
def wsX7_cross : List Cond := .code yX7_cross cX7_cross 19 none :: ([.fieldLink RX7 104 "PlankUnrollModel" "px" "D", .fieldLink RX7 108 "PlankUnrollModel" "py" "D", .fieldLink RX7 111 "PlankUnrollModel" "pz" "D", .methodLink RX7 69 yX7_at, .instanceMethod yX7_at, .selects RX7 yX7_at yX7_at, .initialized RX7, .code yX7_at cX7_at 4 (some .double), .fieldLink RX7 7 "PlankUnrollModel" "places" "[D"] ++ wsX70)
def wsX7_bevel_r1 : List Cond := [Cond.fieldLink RX7 52 "PlankUnrollModel" "thrown" "I", Cond.fieldLink RX7 104 "PlankUnrollModel" "px" "D", Cond.fieldLink RX7 108 "PlankUnrollModel" "py" "D", Cond.fieldLink RX7 111 "PlankUnrollModel" "pz" "D", Cond.methodLink RX7 95 yX7_noCell, Cond.instanceMethod yX7_noCell, Cond.selects RX7 yX7_noCell yX7_noCell, Cond.initialized RX7, Cond.code yX7_noCell cX7_noCell 3 (some .boolean), Cond.fieldLink RX7 45 "PlankUnrollModel" "frames" "I", Cond.methodLink RX7 87 yX7_noStrip, Cond.instanceMethod yX7_noStrip, Cond.selects RX7 yX7_noStrip yX7_noStrip, Cond.code yX7_noStrip cX7_noStrip 2 (some .boolean), Cond.fieldLink RX7 49 "PlankUnrollModel" "rows" "I", Cond.methodLink RX7 114 yX7_cross, Cond.instanceMethod yX7_cross, Cond.selects RX7 yX7_cross yX7_cross, Cond.code yX7_cross cX7_cross 19 none, Cond.methodLink RX7 69 yX7_at, Cond.instanceMethod yX7_at, Cond.selects RX7 yX7_at yX7_at, Cond.code yX7_at cX7_at 4 (some .double), Cond.fieldLink RX7 7 "PlankUnrollModel" "places" "[D"]
def wsX7_bevel_r2 : List Cond := [Cond.methodLink RX7 73 yX7_root, Cond.static yX7_root, Cond.code yX7_root cX7_root 5 (some .double), Cond.constantDouble RX7 55 (4611686018427387904)]
def wsX7_bevel : List Cond := .code yX7_bevel cX7_bevel 13 (some .double) :: ((wsX7_bevel_r1 ++ wsX7_bevel_r2) ++ wsX70)
def wsX7_width : List Cond := .code yX7_width cX7_width 3 (some .double) :: ([.fieldLink RX7 45 "PlankUnrollModel" "frames" "I", .fieldLink RX7 52 "PlankUnrollModel" "thrown" "I", .methodLink RX7 87 yX7_noStrip, .instanceMethod yX7_noStrip, .selects RX7 yX7_noStrip yX7_noStrip, .initialized RX7, .code yX7_noStrip cX7_noStrip 2 (some .boolean), .fieldLink RX7 49 "PlankUnrollModel" "rows" "I", .methodLink RX7 77 yX7_far, .instanceMethod yX7_far, .selects RX7 yX7_far yX7_far, .code yX7_far cX7_far 11 (some .double), .methodLink RX7 69 yX7_at, .instanceMethod yX7_at, .selects RX7 yX7_at yX7_at, .code yX7_at cX7_at 4 (some .double), .fieldLink RX7 7 "PlankUnrollModel" "places" "[D", .methodLink RX7 73 yX7_root, .static yX7_root, .code yX7_root cX7_root 5 (some .double), .constantDouble RX7 55 (4611686018427387904)] ++ wsX70)
def wsX7_girth : List Cond := .code yX7_girth cX7_girth 5 (some .double) :: ([.fieldLink RX7 45 "PlankUnrollModel" "frames" "I", .fieldLink RX7 52 "PlankUnrollModel" "thrown" "I", .fieldLink RX7 49 "PlankUnrollModel" "rows" "I", .methodLink RX7 77 yX7_far, .instanceMethod yX7_far, .selects RX7 yX7_far yX7_far, .initialized RX7, .code yX7_far cX7_far 11 (some .double), .methodLink RX7 69 yX7_at, .instanceMethod yX7_at, .selects RX7 yX7_at yX7_at, .code yX7_at cX7_at 4 (some .double), .fieldLink RX7 7 "PlankUnrollModel" "places" "[D", .methodLink RX7 73 yX7_root, .static yX7_root, .code yX7_root cX7_root 5 (some .double), .constantDouble RX7 55 (4611686018427387904)] ++ wsX70)
def wsX7_butt : List Cond := .code yX7_butt cX7_butt 5 (some .boolean) :: ([.fieldLink RX7 45 "PlankUnrollModel" "frames" "I", .fieldLink RX7 52 "PlankUnrollModel" "thrown" "I", .fieldLink RX7 23 "PlankUnrollModel" "butts" "[Z", .methodLink RX7 87 yX7_noStrip, .instanceMethod yX7_noStrip, .selects RX7 yX7_noStrip yX7_noStrip, .initialized RX7, .code yX7_noStrip cX7_noStrip 2 (some .boolean), .fieldLink RX7 49 "PlankUnrollModel" "rows" "I"] ++ wsX70)
def wsX7_keeps : List Cond := .code yX7_keeps cX7_keeps 9 (some .boolean) :: ([.fieldLink RX7 45 "PlankUnrollModel" "frames" "I", .fieldLink RX7 23 "PlankUnrollModel" "butts" "[Z"] ++ wsX70)
def wsX7_spans : List Cond := .code yX7_spans cX7_spans 4 (some .boolean) :: ([.fieldLink RX7 52 "PlankUnrollModel" "thrown" "I", .fieldLink RX7 49 "PlankUnrollModel" "rows" "I", .methodLink RX7 118 yX7_keeps, .instanceMethod yX7_keeps, .selects RX7 yX7_keeps yX7_keeps, .initialized RX7, .code yX7_keeps cX7_keeps 9 (some .boolean), .fieldLink RX7 45 "PlankUnrollModel" "frames" "I", .fieldLink RX7 23 "PlankUnrollModel" "butts" "[Z"] ++ wsX70)
def wsX7_board : List Cond := .code yX7_board cX7_board 5 (some .int) :: ([.constantDouble RX7 59 (4652007308841189376), .fieldLink RX7 122 "PlankUnrollModel" "boards" "I", .fieldLink RX7 52 "PlankUnrollModel" "thrown" "I", .fieldLink RX7 26 "PlankUnrollModel" "wides" "[D", .fieldLink RX7 29 "PlankUnrollModel" "highs" "[D", .methodLink RX7 61 yX7_between, .static yX7_between, .initialized RX7, .code yX7_between cX7_between 6 (some .boolean)] ++ wsX70)
def wsX7_fault : List Cond := .code yX7_fault cX7_fault 12 (some .boolean) :: ([.constantDouble RX7 59 (4652007308841189376), .constantDouble RX7 125 (4593671619917905920), .fieldLink RX7 122 "PlankUnrollModel" "boards" "I", .fieldLink RX7 52 "PlankUnrollModel" "thrown" "I", .fieldLink RX7 32 "PlankUnrollModel" "faultCount" "[I", .fieldLink RX7 36 "PlankUnrollModel" "faults" "[D", .methodLink RX7 61 yX7_between, .static yX7_between, .initialized RX7, .code yX7_between cX7_between 6 (some .boolean)] ++ wsX70)
def wsX7_size : List Cond := .code yX7_size cX7_size 10 (some .double) :: ([.fieldLink RX7 17 "PlankUnrollModel" "corners" "[D", .fieldLink RX7 45 "PlankUnrollModel" "frames" "I"] ++ wsX70)
def wsX7_isOpen : List Cond := .code yX7_isOpen cX7_isOpen 12 (some .boolean) :: ([.fieldLink RX7 32 "PlankUnrollModel" "faultCount" "[I", .fieldLink RX7 36 "PlankUnrollModel" "faults" "[D", .fieldLink RX7 49 "PlankUnrollModel" "rows" "I", .fieldLink RX7 42 "PlankUnrollModel" "liesAt" "[I", .constantDouble RX7 127 (4620693217682128896), .fieldLink RX7 39 "PlankUnrollModel" "liesOn" "[I", .methodLink RX7 129 yX7_size, .instanceMethod yX7_size, .selects RX7 yX7_size yX7_size, .initialized RX7, .code yX7_size cX7_size 10 (some .double), .fieldLink RX7 17 "PlankUnrollModel" "corners" "[D", .fieldLink RX7 45 "PlankUnrollModel" "frames" "I"] ++ wsX70)
def wsX7_nest_r1 : List Cond := [Cond.fieldLink RX7 122 "PlankUnrollModel" "boards" "I", Cond.fieldLink RX7 13 "PlankUnrollModel" "unrolled" "[Z", Cond.fieldLink RX7 39 "PlankUnrollModel" "liesOn" "[I", Cond.fieldLink RX7 52 "PlankUnrollModel" "thrown" "I", Cond.fieldLink RX7 29 "PlankUnrollModel" "highs" "[D", Cond.constantDouble RX7 127 (4620693217682128896), Cond.fieldLink RX7 26 "PlankUnrollModel" "wides" "[D", Cond.fieldLink RX7 42 "PlankUnrollModel" "liesAt" "[I", Cond.methodLink RX7 87 yX7_noStrip, Cond.instanceMethod yX7_noStrip, Cond.selects RX7 yX7_noStrip yX7_noStrip, Cond.initialized RX7, Cond.code yX7_noStrip cX7_noStrip 2 (some .boolean), Cond.fieldLink RX7 49 "PlankUnrollModel" "rows" "I", Cond.methodLink RX7 129 yX7_size, Cond.instanceMethod yX7_size, Cond.selects RX7 yX7_size yX7_size, Cond.code yX7_size cX7_size 10 (some .double), Cond.fieldLink RX7 17 "PlankUnrollModel" "corners" "[D", Cond.fieldLink RX7 45 "PlankUnrollModel" "frames" "I", Cond.methodLink RX7 132 yX7_isOpen, Cond.instanceMethod yX7_isOpen, Cond.selects RX7 yX7_isOpen yX7_isOpen, Cond.code yX7_isOpen cX7_isOpen 12 (some .boolean)]
def wsX7_nest_r2 : List Cond := [Cond.fieldLink RX7 32 "PlankUnrollModel" "faultCount" "[I", Cond.fieldLink RX7 36 "PlankUnrollModel" "faults" "[D"]
def wsX7_nest : List Cond := .code yX7_nest cX7_nest 8 (some .int) :: ((wsX7_nest_r1 ++ wsX7_nest_r2) ++ wsX70)
def wsX7_lies : List Cond := .code yX7_lies cX7_lies 3 (some .int) :: ([.fieldLink RX7 52 "PlankUnrollModel" "thrown" "I", .fieldLink RX7 39 "PlankUnrollModel" "liesOn" "[I", .fieldLink RX7 42 "PlankUnrollModel" "liesAt" "[I", .methodLink RX7 87 yX7_noStrip, .instanceMethod yX7_noStrip, .selects RX7 yX7_noStrip yX7_noStrip, .initialized RX7, .code yX7_noStrip cX7_noStrip 2 (some .boolean), .fieldLink RX7 49 "PlankUnrollModel" "rows" "I"] ++ wsX70)
def wsX7_areStaves : List Cond := .code yX7_areStaves cX7_areStaves 4 (some .boolean) :: ([.constantDouble RX7 125 (4593671619917905920), .constantDouble RX7 59 (4652007308841189376), .methodLink RX7 61 yX7_between, .static yX7_between, .initialized RX7, .code yX7_between cX7_between 6 (some .boolean)])
def wsX7_staves : List Cond := .code yX7_staves cX7_staves 6 (some .int) :: ([.fieldLink RX7 52 "PlankUnrollModel" "thrown" "I", .constantDouble RX7 140 (4614256656552045848), .methodLink RX7 136 yX7_areStaves, .static yX7_areStaves, .initialized RX7, .code yX7_areStaves cX7_areStaves 4 (some .boolean), .constantDouble RX7 125 (4593671619917905920), .constantDouble RX7 59 (4652007308841189376), .methodLink RX7 61 yX7_between, .static yX7_between, .code yX7_between cX7_between 6 (some .boolean)] ++ wsX70)
def wsX7_closes : List Cond := .code yX7_closes cX7_closes 6 (some .double) :: ([.constant RX7 142 (100000), .fieldLink RX7 52 "PlankUnrollModel" "thrown" "I", .constantDouble RX7 140 (4614256656552045848), .methodLink RX7 136 yX7_areStaves, .static yX7_areStaves, .initialized RX7, .code yX7_areStaves cX7_areStaves 4 (some .boolean), .constantDouble RX7 125 (4593671619917905920), .constantDouble RX7 59 (4652007308841189376), .methodLink RX7 61 yX7_between, .static yX7_between, .code yX7_between cX7_between 6 (some .boolean)] ++ wsX70)
def wsJ9_abs_0f7a4 : List Cond := .code yJ9_abs_0f7a4 cJ9_abs_0f7a4 1 (some .int) :: ([])
def wsJ9_max_7cf53 : List Cond := .code yJ9_max_7cf53 cJ9_max_7cf53 2 (some .int) :: ([])
def wsJ9_min_7cf53 : List Cond := .code yJ9_min_7cf53 cJ9_min_7cf53 2 (some .int) :: ([])
def wsL_cell : List Cond := .code yL_cell cL_cell 2 (some .int) :: ([])
def wsL_point_r1 : List Cond := [Cond.classLink RL 13 "java/lang/IndexOutOfBoundsException", Cond.classLink RL 15 "java/lang/IllegalArgumentException", Cond.methodLink RL 7 yX6_point, Cond.instanceMethod yX6_point, Cond.selects RX6 yX6_point yX6_point, Cond.initialized RX6, Cond.code yX6_point cX6_point 14 (some .boolean), Cond.classLink RX6 64 "java/lang/IllegalArgumentException", Cond.initialized "java/lang/IllegalArgumentException", Cond.constantDouble RX6 56 (13875379345695965184), Cond.constantDouble RX6 58 (4652007308841189376), Cond.fieldLink RX6 71 "PlankUnroll$Place" "x" "D", Cond.fieldLink RX6 77 "PlankUnroll$Place" "y" "D", Cond.fieldLink RX6 80 "PlankUnroll$Place" "z" "D", Cond.fieldLink RX6 28 "PlankUnroll" "strips" "[LPlankUnroll$Strip;", Cond.methodLink RX6 52 yX6_placeAt, Cond.instanceMethod yX6_placeAt, Cond.selects RX6 yX6_placeAt yX6_placeAt, Cond.code yX6_placeAt cX6_placeAt 3 (some (.object "PlankUnroll$Place")), Cond.classLink RX6 107 "java/lang/IndexOutOfBoundsException", Cond.initialized "java/lang/IndexOutOfBoundsException", Cond.fieldLink RX6 19 "PlankUnroll" "rows" "[LPlankUnroll$Row;", Cond.fieldLink RX6 140 "PlankUnroll$Row" "places" "[LPlankUnroll$Place;", Cond.methodLink RX6 158 yX6_checkFrame]
def wsL_point_r2 : List Cond := [Cond.instanceMethod yX6_checkFrame, Cond.selects RX6 yX6_checkFrame yX6_checkFrame, Cond.code yX6_checkFrame cX6_checkFrame 2 none, Cond.fieldLink RX6 13 "PlankUnroll" "frames" "I", Cond.methodLink RX6 60 yX6_within, Cond.static yX6_within, Cond.code yX6_within cX6_within 6 (some .boolean), Cond.methodLink RX6 83 yX5_forget, Cond.instanceMethod yX5_forget, Cond.selects RX5 yX5_forget yX5_forget, Cond.initialized RX5, Cond.code yX5_forget cX5_forget 1 none, Cond.fieldLink RX5 45 "PlankUnroll$Strip" "unrolled" "Z", Cond.fieldLink RX5 38 "PlankUnroll$Strip" "board" "I", Cond.fieldLink RX5 42 "PlankUnroll$Strip" "eighths" "I"]
def wsL_point : List Cond := .codeWith yL_point cL_point 11 (some .int) [(0, 23, 26, 13), (0, 23, 30, 15)] :: ((wsL_point_r1 ++ wsL_point_r2) ++ wsX30 ++ wsX60 ++ wsX40 ++ wsX50 ++ (vx_atS RX6 68 "java/lang/IllegalArgumentException" ["java/lang/RuntimeException", "java/lang/Exception"]).filter goodWord ++ (vx_atS RX6 111 "java/lang/IndexOutOfBoundsException" ["java/lang/RuntimeException", "java/lang/Exception"]).filter goodWord)
def wsL_distance_r1 : List Cond := [Cond.classLink RL 13 "java/lang/IndexOutOfBoundsException", Cond.methodLink RL 17 yX6_distance, Cond.instanceMethod yX6_distance, Cond.selects RX6 yX6_distance yX6_distance, Cond.initialized RX6, Cond.code yX6_distance cX6_distance 5 (some .double), Cond.methodLink RX6 52 yX6_placeAt, Cond.instanceMethod yX6_placeAt, Cond.selects RX6 yX6_placeAt yX6_placeAt, Cond.code yX6_placeAt cX6_placeAt 3 (some (.object "PlankUnroll$Place")), Cond.classLink RX6 107 "java/lang/IndexOutOfBoundsException", Cond.initialized "java/lang/IndexOutOfBoundsException", Cond.fieldLink RX6 19 "PlankUnroll" "rows" "[LPlankUnroll$Row;", Cond.fieldLink RX6 140 "PlankUnroll$Row" "places" "[LPlankUnroll$Place;", Cond.methodLink RX6 158 yX6_checkFrame, Cond.instanceMethod yX6_checkFrame, Cond.selects RX6 yX6_checkFrame yX6_checkFrame, Cond.code yX6_checkFrame cX6_checkFrame 2 none, Cond.fieldLink RX6 13 "PlankUnroll" "frames" "I", Cond.methodLink RX6 86 yX6_apart, Cond.static yX6_apart, Cond.code yX6_apart cX6_apart 8 (some .double), Cond.fieldLink RX6 71 "PlankUnroll$Place" "x" "D", Cond.fieldLink RX6 77 "PlankUnroll$Place" "y" "D"]
def wsL_distance_r2 : List Cond := [Cond.fieldLink RX6 80 "PlankUnroll$Place" "z" "D", Cond.methodLink RX6 155 yX6_root, Cond.static yX6_root, Cond.code yX6_root cX6_root 5 (some .double), Cond.constantDouble RX6 249 (4611686018427387904)]
def wsL_distance : List Cond := .codeWith yL_distance cL_distance 7 (some .int) [(0, 13, 16, 13)] :: ((wsL_distance_r1 ++ wsL_distance_r2) ++ wsX60 ++ wsX40 ++ wsX30 ++ (vx_atS RX6 111 "java/lang/IndexOutOfBoundsException" ["java/lang/RuntimeException", "java/lang/Exception"]).filter goodWord)
def wsL_unroll_r1 : List Cond := [Cond.classLink RL 13 "java/lang/IndexOutOfBoundsException", Cond.classLink RL 25 "java/lang/IllegalStateException", Cond.methodLink RL 21 yX6_unroll, Cond.instanceMethod yX6_unroll, Cond.selects RX6 yX6_unroll yX6_unroll, Cond.initialized RX6, Cond.code yX6_unroll cX6_unroll 3 (some .int), Cond.classLink RX6 102 "java/lang/IllegalStateException", Cond.initialized "java/lang/IllegalStateException", Cond.fieldLink RX6 94 "PlankUnroll$Strip" "unrolled" "Z", Cond.fieldLink RX6 13 "PlankUnroll" "frames" "I", Cond.methodLink RX6 90 yX6_stripAt, Cond.instanceMethod yX6_stripAt, Cond.selects RX6 yX6_stripAt yX6_stripAt, Cond.code yX6_stripAt cX6_stripAt 2 (some (.object "PlankUnroll$Strip")), Cond.classLink RX6 107 "java/lang/IndexOutOfBoundsException", Cond.initialized "java/lang/IndexOutOfBoundsException", Cond.fieldLink RX6 28 "PlankUnroll" "strips" "[LPlankUnroll$Strip;", Cond.methodLink RX6 98 yX5_layFlat, Cond.instanceMethod yX5_layFlat, Cond.selects RX5 yX5_layFlat yX5_layFlat, Cond.initialized RX5, Cond.code yX5_layFlat cX5_layFlat 8 (some .boolean), Cond.fieldLink RX5 18 "PlankUnroll$Strip" "cornerX" "[D"]
def wsL_unroll_r2 : List Cond := [Cond.fieldLink RX5 22 "PlankUnroll$Strip" "cornerY" "[D", Cond.fieldLink RX5 25 "PlankUnroll$Strip" "butts" "[Z", Cond.fieldLink RX5 9 "PlankUnroll$Strip" "a" "LPlankUnroll$Row;", Cond.fieldLink RX5 49 "PlankUnroll$Row" "places" "[LPlankUnroll$Place;", Cond.fieldLink RX5 15 "PlankUnroll$Strip" "b" "LPlankUnroll$Row;", Cond.fieldLink RX5 34 "PlankUnroll$Strip" "box" "LPlankUnroll$Box;", Cond.fieldLink RX5 71 "PlankUnroll$Box" "w" "D", Cond.fieldLink RX5 75 "PlankUnroll$Box" "h" "D", Cond.fieldLink RX5 45 "PlankUnroll$Strip" "unrolled" "Z", Cond.methodLink RX5 59 yX5_across, Cond.instanceMethod yX5_across, Cond.selects RX5 yX5_across yX5_across, Cond.code yX5_across cX5_across 2 (some .double), Cond.static yX6_apart, Cond.code yX6_apart cX6_apart 8 (some .double), Cond.fieldLink RX6 71 "PlankUnroll$Place" "x" "D", Cond.fieldLink RX6 77 "PlankUnroll$Place" "y" "D", Cond.fieldLink RX6 80 "PlankUnroll$Place" "z" "D", Cond.methodLink RX6 155 yX6_root, Cond.static yX6_root, Cond.code yX6_root cX6_root 5 (some .double), Cond.constantDouble RX6 249 (4611686018427387904), Cond.methodLink RX5 63 yX5_put, Cond.instanceMethod yX5_put]
def wsL_unroll_r3 : List Cond := [Cond.selects RX5 yX5_put yX5_put, Cond.code yX5_put cX5_put 18 (some .boolean), Cond.constantDouble RX5 82 (4562146422526312448), Cond.constantDouble RX5 84 (4611686018427387904), Cond.methodLink RX5 67 yX5_extent, Cond.static yX5_extent, Cond.code yX5_extent cX5_extent 10 (some .double)]
def wsL_unroll : List Cond := .codeWith yL_unroll cL_unroll 4 (some .int) [(0, 9, 12, 13), (0, 9, 15, 25)] :: ((wsL_unroll_r1 ++ (wsL_unroll_r2 ++ wsL_unroll_r3)) ++ wsX50 ++ wsX60 ++ wsX40 ++ wsX10 ++ wsX30 ++ (vx_atS RX6 106 "java/lang/IllegalStateException" ["java/lang/RuntimeException", "java/lang/Exception"]).filter goodWord ++ (vx_atS RX6 111 "java/lang/IndexOutOfBoundsException" ["java/lang/RuntimeException", "java/lang/Exception"]).filter goodWord)
def wsL_flat : List Cond := .codeWith yL_flat cL_flat 6 (some .int) [(0, 11, 14, 13), (0, 11, 18, 25)] :: ([.classLink RL 13 "java/lang/IndexOutOfBoundsException", .classLink RL 25 "java/lang/IllegalStateException", .methodLink RL 27 yX6_flat, .instanceMethod yX6_flat, .selects RX6 yX6_flat yX6_flat, .initialized RX6, .code yX6_flat cX6_flat 5 (some .double), .classLink RX6 107 "java/lang/IndexOutOfBoundsException", .initialized "java/lang/IndexOutOfBoundsException", .fieldLink RX6 13 "PlankUnroll" "frames" "I", .fieldLink RX6 118 "PlankUnroll$Strip" "cornerX" "[D", .fieldLink RX6 122 "PlankUnroll$Strip" "cornerY" "[D", .methodLink RX6 90 yX6_stripAt, .instanceMethod yX6_stripAt, .selects RX6 yX6_stripAt yX6_stripAt, .code yX6_stripAt cX6_stripAt 2 (some (.object "PlankUnroll$Strip")), .fieldLink RX6 28 "PlankUnroll" "strips" "[LPlankUnroll$Strip;", .methodLink RX6 114 yX6_needUnrolled, .static yX6_needUnrolled, .code yX6_needUnrolled cX6_needUnrolled 1 none, .classLink RX6 102 "java/lang/IllegalStateException", .initialized "java/lang/IllegalStateException", .fieldLink RX6 94 "PlankUnroll$Strip" "unrolled" "Z"] ++ wsX60 ++ wsX50 ++ (vx_atS RX6 111 "java/lang/IndexOutOfBoundsException" ["java/lang/RuntimeException", "java/lang/Exception"]).filter goodWord ++ (vx_atS RX6 106 "java/lang/IllegalStateException" ["java/lang/RuntimeException", "java/lang/Exception"]).filter goodWord)
def wsL_stretch_r1 : List Cond := [Cond.classLink RL 13 "java/lang/IndexOutOfBoundsException", Cond.classLink RL 25 "java/lang/IllegalStateException", Cond.methodLink RL 31 yX6_stretch, Cond.instanceMethod yX6_stretch, Cond.selects RX6 yX6_stretch yX6_stretch, Cond.initialized RX6, Cond.code yX6_stretch cX6_stretch 4 (some .double), Cond.methodLink RX6 90 yX6_stripAt, Cond.instanceMethod yX6_stripAt, Cond.selects RX6 yX6_stripAt yX6_stripAt, Cond.code yX6_stripAt cX6_stripAt 2 (some (.object "PlankUnroll$Strip")), Cond.classLink RX6 107 "java/lang/IndexOutOfBoundsException", Cond.initialized "java/lang/IndexOutOfBoundsException", Cond.fieldLink RX6 28 "PlankUnroll" "strips" "[LPlankUnroll$Strip;", Cond.methodLink RX6 125 yX6_checkCell, Cond.instanceMethod yX6_checkCell, Cond.selects RX6 yX6_checkCell yX6_checkCell, Cond.code yX6_checkCell cX6_checkCell 2 none, Cond.fieldLink RX6 13 "PlankUnroll" "frames" "I", Cond.methodLink RX6 114 yX6_needUnrolled, Cond.static yX6_needUnrolled, Cond.code yX6_needUnrolled cX6_needUnrolled 1 none, Cond.classLink RX6 102 "java/lang/IllegalStateException", Cond.initialized "java/lang/IllegalStateException"]
def wsL_stretch_r2 : List Cond := [Cond.fieldLink RX6 94 "PlankUnroll$Strip" "unrolled" "Z", Cond.methodLink RX6 128 yX5_offDiagonal, Cond.instanceMethod yX5_offDiagonal, Cond.selects RX5 yX5_offDiagonal yX5_offDiagonal, Cond.initialized RX5, Cond.code yX5_offDiagonal cX5_offDiagonal 8 (some .double), Cond.fieldLink RX5 18 "PlankUnroll$Strip" "cornerX" "[D", Cond.fieldLink RX5 22 "PlankUnroll$Strip" "cornerY" "[D", Cond.fieldLink RX5 9 "PlankUnroll$Strip" "a" "LPlankUnroll$Row;", Cond.fieldLink RX5 49 "PlankUnroll$Row" "places" "[LPlankUnroll$Place;", Cond.fieldLink RX5 15 "PlankUnroll$Strip" "b" "LPlankUnroll$Row;", Cond.static yX6_root, Cond.code yX6_root cX6_root 5 (some .double), Cond.constantDouble RX6 249 (4611686018427387904), Cond.static yX6_apart, Cond.code yX6_apart cX6_apart 8 (some .double), Cond.fieldLink RX6 71 "PlankUnroll$Place" "x" "D", Cond.fieldLink RX6 77 "PlankUnroll$Place" "y" "D", Cond.fieldLink RX6 80 "PlankUnroll$Place" "z" "D", Cond.methodLink RX6 155 yX6_root]
def wsL_stretch : List Cond := .codeWith yL_stretch cL_stretch 5 (some .int) [(0, 9, 12, 13), (0, 9, 16, 25)] :: ((wsL_stretch_r1 ++ wsL_stretch_r2) ++ wsX60 ++ wsX50 ++ wsX40 ++ wsX30 ++ (vx_atS RX6 111 "java/lang/IndexOutOfBoundsException" ["java/lang/RuntimeException", "java/lang/Exception"]).filter goodWord ++ (vx_atS RX6 106 "java/lang/IllegalStateException" ["java/lang/RuntimeException", "java/lang/Exception"]).filter goodWord)
def wsL_worst_r1 : List Cond := [Cond.classLink RL 13 "java/lang/IndexOutOfBoundsException", Cond.classLink RL 25 "java/lang/IllegalStateException", Cond.methodLink RL 35 yX6_worst, Cond.instanceMethod yX6_worst, Cond.selects RX6 yX6_worst yX6_worst, Cond.initialized RX6, Cond.code yX6_worst cX6_worst 9 (some .int), Cond.fieldLink RX6 13 "PlankUnroll" "frames" "I", Cond.methodLink RX6 90 yX6_stripAt, Cond.instanceMethod yX6_stripAt, Cond.selects RX6 yX6_stripAt yX6_stripAt, Cond.code yX6_stripAt cX6_stripAt 2 (some (.object "PlankUnroll$Strip")), Cond.classLink RX6 107 "java/lang/IndexOutOfBoundsException", Cond.initialized "java/lang/IndexOutOfBoundsException", Cond.fieldLink RX6 28 "PlankUnroll" "strips" "[LPlankUnroll$Strip;", Cond.methodLink RX6 114 yX6_needUnrolled, Cond.static yX6_needUnrolled, Cond.code yX6_needUnrolled cX6_needUnrolled 1 none, Cond.classLink RX6 102 "java/lang/IllegalStateException", Cond.initialized "java/lang/IllegalStateException", Cond.fieldLink RX6 94 "PlankUnroll$Strip" "unrolled" "Z", Cond.methodLink RX6 128 yX5_offDiagonal, Cond.instanceMethod yX5_offDiagonal, Cond.selects RX5 yX5_offDiagonal yX5_offDiagonal]
def wsL_worst_r2 : List Cond := [Cond.initialized RX5, Cond.code yX5_offDiagonal cX5_offDiagonal 8 (some .double), Cond.fieldLink RX5 18 "PlankUnroll$Strip" "cornerX" "[D", Cond.fieldLink RX5 22 "PlankUnroll$Strip" "cornerY" "[D", Cond.fieldLink RX5 9 "PlankUnroll$Strip" "a" "LPlankUnroll$Row;", Cond.fieldLink RX5 49 "PlankUnroll$Row" "places" "[LPlankUnroll$Place;", Cond.fieldLink RX5 15 "PlankUnroll$Strip" "b" "LPlankUnroll$Row;", Cond.static yX6_root, Cond.code yX6_root cX6_root 5 (some .double), Cond.constantDouble RX6 249 (4611686018427387904), Cond.static yX6_apart, Cond.code yX6_apart cX6_apart 8 (some .double), Cond.fieldLink RX6 71 "PlankUnroll$Place" "x" "D", Cond.fieldLink RX6 77 "PlankUnroll$Place" "y" "D", Cond.fieldLink RX6 80 "PlankUnroll$Place" "z" "D", Cond.methodLink RX6 155 yX6_root, Cond.methodLink RX6 132 yX6_sizeOf, Cond.static yX6_sizeOf, Cond.code yX6_sizeOf cX6_sizeOf 2 (some .double)]
def wsL_worst : List Cond := .codeWith yL_worst cL_worst 4 (some .int) [(0, 9, 12, 13), (0, 9, 15, 25)] :: ((wsL_worst_r1 ++ wsL_worst_r2) ++ wsX60 ++ wsX50 ++ wsX40 ++ wsX30 ++ (vx_atS RX6 111 "java/lang/IndexOutOfBoundsException" ["java/lang/RuntimeException", "java/lang/Exception"]).filter goodWord ++ (vx_atS RX6 106 "java/lang/IllegalStateException" ["java/lang/RuntimeException", "java/lang/Exception"]).filter goodWord)
def wsL_bevel_r1 : List Cond := [Cond.classLink RL 13 "java/lang/IndexOutOfBoundsException", Cond.methodLink RL 38 yX6_bevel, Cond.instanceMethod yX6_bevel, Cond.selects RX6 yX6_bevel yX6_bevel, Cond.initialized RX6, Cond.code yX6_bevel cX6_bevel 10 (some .double), Cond.fieldLink RX6 136 "PlankUnroll$Strip" "a" "LPlankUnroll$Row;", Cond.fieldLink RX6 140 "PlankUnroll$Row" "places" "[LPlankUnroll$Place;", Cond.fieldLink RX6 144 "PlankUnroll$Strip" "b" "LPlankUnroll$Row;", Cond.fieldLink RX6 45 "PlankUnroll" "near" "LPlankUnroll$Normal;", Cond.fieldLink RX6 49 "PlankUnroll" "far" "LPlankUnroll$Normal;", Cond.methodLink RX6 90 yX6_stripAt, Cond.instanceMethod yX6_stripAt, Cond.selects RX6 yX6_stripAt yX6_stripAt, Cond.code yX6_stripAt cX6_stripAt 2 (some (.object "PlankUnroll$Strip")), Cond.classLink RX6 107 "java/lang/IndexOutOfBoundsException", Cond.initialized "java/lang/IndexOutOfBoundsException", Cond.fieldLink RX6 28 "PlankUnroll" "strips" "[LPlankUnroll$Strip;", Cond.methodLink RX6 125 yX6_checkCell, Cond.instanceMethod yX6_checkCell, Cond.selects RX6 yX6_checkCell yX6_checkCell, Cond.code yX6_checkCell cX6_checkCell 2 none, Cond.fieldLink RX6 13 "PlankUnroll" "frames" "I", Cond.methodLink RX6 147 yX2_cross]
def wsL_bevel_r2 : List Cond := [Cond.instanceMethod yX2_cross, Cond.selects RX2 yX2_cross yX2_cross, Cond.initialized RX2, Cond.code yX2_cross cX2_cross 16 none, Cond.fieldLink RX2 7 "PlankUnroll$Place" "x" "D", Cond.fieldLink RX2 13 "PlankUnroll$Place" "y" "D", Cond.fieldLink RX2 16 "PlankUnroll$Place" "z" "D", Cond.fieldLink RX2 19 "PlankUnroll$Normal" "x" "D", Cond.fieldLink RX2 22 "PlankUnroll$Normal" "y" "D", Cond.fieldLink RX2 23 "PlankUnroll$Normal" "z" "D", Cond.methodLink RX6 151 yX2_times, Cond.instanceMethod yX2_times, Cond.selects RX2 yX2_times yX2_times, Cond.code yX2_times cX2_times 2 (some .double), Cond.methodLink RX6 155 yX6_root, Cond.static yX6_root, Cond.code yX6_root cX6_root 5 (some .double), Cond.constantDouble RX6 249 (4611686018427387904)]
def wsL_bevel : List Cond := .codeWith yL_bevel cL_bevel 5 (some .int) [(0, 9, 12, 13)] :: ((wsL_bevel_r1 ++ wsL_bevel_r2) ++ wsX50 ++ wsX40 ++ wsX60 ++ wsX30 ++ wsX20 ++ (vx_atS RX6 111 "java/lang/IndexOutOfBoundsException" ["java/lang/RuntimeException", "java/lang/Exception"]).filter goodWord)
def wsL_width_r1 : List Cond := [Cond.classLink RL 13 "java/lang/IndexOutOfBoundsException", Cond.methodLink RL 41 yX6_width, Cond.instanceMethod yX6_width, Cond.selects RX6 yX6_width yX6_width, Cond.initialized RX6, Cond.code yX6_width cX6_width 4 (some .double), Cond.methodLink RX6 90 yX6_stripAt, Cond.instanceMethod yX6_stripAt, Cond.selects RX6 yX6_stripAt yX6_stripAt, Cond.code yX6_stripAt cX6_stripAt 2 (some (.object "PlankUnroll$Strip")), Cond.classLink RX6 107 "java/lang/IndexOutOfBoundsException", Cond.initialized "java/lang/IndexOutOfBoundsException", Cond.fieldLink RX6 28 "PlankUnroll" "strips" "[LPlankUnroll$Strip;", Cond.methodLink RX6 158 yX6_checkFrame, Cond.instanceMethod yX6_checkFrame, Cond.selects RX6 yX6_checkFrame yX6_checkFrame, Cond.code yX6_checkFrame cX6_checkFrame 2 none, Cond.fieldLink RX6 13 "PlankUnroll" "frames" "I", Cond.methodLink RX6 161 yX5_across, Cond.instanceMethod yX5_across, Cond.selects RX5 yX5_across yX5_across, Cond.initialized RX5, Cond.code yX5_across cX5_across 2 (some .double), Cond.fieldLink RX5 9 "PlankUnroll$Strip" "a" "LPlankUnroll$Row;"]
def wsL_width_r2 : List Cond := [Cond.fieldLink RX5 49 "PlankUnroll$Row" "places" "[LPlankUnroll$Place;", Cond.fieldLink RX5 15 "PlankUnroll$Strip" "b" "LPlankUnroll$Row;", Cond.static yX6_apart, Cond.code yX6_apart cX6_apart 8 (some .double), Cond.fieldLink RX6 71 "PlankUnroll$Place" "x" "D", Cond.fieldLink RX6 77 "PlankUnroll$Place" "y" "D", Cond.fieldLink RX6 80 "PlankUnroll$Place" "z" "D", Cond.methodLink RX6 155 yX6_root, Cond.static yX6_root, Cond.code yX6_root cX6_root 5 (some .double), Cond.constantDouble RX6 249 (4611686018427387904)]
def wsL_width : List Cond := .codeWith yL_width cL_width 5 (some .int) [(0, 9, 12, 13)] :: ((wsL_width_r1 ++ wsL_width_r2) ++ wsX60 ++ wsX50 ++ wsX40 ++ wsX30 ++ (vx_atS RX6 111 "java/lang/IndexOutOfBoundsException" ["java/lang/RuntimeException", "java/lang/Exception"]).filter goodWord)
def wsL_girth_r1 : List Cond := [Cond.classLink RL 13 "java/lang/IndexOutOfBoundsException", Cond.methodLink RL 44 yX6_girth, Cond.instanceMethod yX6_girth, Cond.selects RX6 yX6_girth yX6_girth, Cond.initialized RX6, Cond.code yX6_girth cX6_girth 8 (some .double), Cond.fieldLink RX6 28 "PlankUnroll" "strips" "[LPlankUnroll$Strip;", Cond.methodLink RX6 158 yX6_checkFrame, Cond.instanceMethod yX6_checkFrame, Cond.selects RX6 yX6_checkFrame yX6_checkFrame, Cond.code yX6_checkFrame cX6_checkFrame 2 none, Cond.classLink RX6 107 "java/lang/IndexOutOfBoundsException", Cond.initialized "java/lang/IndexOutOfBoundsException", Cond.fieldLink RX6 13 "PlankUnroll" "frames" "I", Cond.methodLink RX6 161 yX5_across, Cond.instanceMethod yX5_across, Cond.selects RX5 yX5_across yX5_across, Cond.initialized RX5, Cond.code yX5_across cX5_across 2 (some .double), Cond.fieldLink RX5 9 "PlankUnroll$Strip" "a" "LPlankUnroll$Row;", Cond.fieldLink RX5 49 "PlankUnroll$Row" "places" "[LPlankUnroll$Place;", Cond.fieldLink RX5 15 "PlankUnroll$Strip" "b" "LPlankUnroll$Row;", Cond.static yX6_apart, Cond.code yX6_apart cX6_apart 8 (some .double)]
def wsL_girth_r2 : List Cond := [Cond.fieldLink RX6 71 "PlankUnroll$Place" "x" "D", Cond.fieldLink RX6 77 "PlankUnroll$Place" "y" "D", Cond.fieldLink RX6 80 "PlankUnroll$Place" "z" "D", Cond.methodLink RX6 155 yX6_root, Cond.static yX6_root, Cond.code yX6_root cX6_root 5 (some .double), Cond.constantDouble RX6 249 (4611686018427387904)]
def wsL_girth : List Cond := .codeWith yL_girth cL_girth 4 (some .int) [(0, 8, 11, 13)] :: ((wsL_girth_r1 ++ wsL_girth_r2) ++ wsX60 ++ wsX50 ++ wsX40 ++ wsX30 ++ (vx_atS RX6 111 "java/lang/IndexOutOfBoundsException" ["java/lang/RuntimeException", "java/lang/Exception"]).filter goodWord)
def wsL_butt : List Cond := .codeWith yL_butt cL_butt 6 (some .int) [(0, 19, 22, 13)] :: ([.classLink RL 13 "java/lang/IndexOutOfBoundsException", .methodLink RL 48 yX6_butt, .instanceMethod yX6_butt, .selects RX6 yX6_butt yX6_butt, .initialized RX6, .code yX6_butt cX6_butt 6 (some .boolean), .fieldLink RX6 164 "PlankUnroll$Strip" "butts" "[Z", .methodLink RX6 90 yX6_stripAt, .instanceMethod yX6_stripAt, .selects RX6 yX6_stripAt yX6_stripAt, .code yX6_stripAt cX6_stripAt 2 (some (.object "PlankUnroll$Strip")), .classLink RX6 107 "java/lang/IndexOutOfBoundsException", .initialized "java/lang/IndexOutOfBoundsException", .fieldLink RX6 28 "PlankUnroll" "strips" "[LPlankUnroll$Strip;", .methodLink RX6 158 yX6_checkFrame, .instanceMethod yX6_checkFrame, .selects RX6 yX6_checkFrame yX6_checkFrame, .code yX6_checkFrame cX6_checkFrame 2 none, .fieldLink RX6 13 "PlankUnroll" "frames" "I"] ++ wsX50 ++ wsX60 ++ (vx_atS RX6 111 "java/lang/IndexOutOfBoundsException" ["java/lang/RuntimeException", "java/lang/Exception"]).filter goodWord)
def wsL_spans : List Cond := .codeWith yL_spans cL_spans 4 (some .int) [(0, 16, 19, 15)] :: ([.classLink RL 15 "java/lang/IllegalArgumentException", .methodLink RL 52 yX6_spans, .instanceMethod yX6_spans, .selects RX6 yX6_spans yX6_spans, .initialized RX6, .code yX6_spans cX6_spans 3 (some .boolean), .classLink RX6 64 "java/lang/IllegalArgumentException", .initialized "java/lang/IllegalArgumentException", .fieldLink RX6 28 "PlankUnroll" "strips" "[LPlankUnroll$Strip;", .methodLink RX6 170 yX5_keepsOwn, .instanceMethod yX5_keepsOwn, .selects RX5 yX5_keepsOwn yX5_keepsOwn, .initialized RX5, .code yX5_keepsOwn cX5_keepsOwn 4 (some .boolean), .fieldLink RX5 25 "PlankUnroll$Strip" "butts" "[Z", .methodLink RX6 174 yX5_keepsBeside, .instanceMethod yX5_keepsBeside, .selects RX5 yX5_keepsBeside yX5_keepsBeside, .code yX5_keepsBeside cX5_keepsBeside 5 (some .boolean), .methodLink RX5 86 Lib.Math.abs.name, .static Lib.Math.abs.name, .initialized "java/lang/Math", .code Lib.Math.abs.name Lib.Math.abs.code 1 (some .int)] ++ wsX60 ++ wsX50 ++ (vx_atS RX6 68 "java/lang/IllegalArgumentException" ["java/lang/RuntimeException", "java/lang/Exception"]).filter goodWord)
def wsL_board_r1 : List Cond := [Cond.classLink RL 15 "java/lang/IllegalArgumentException", Cond.classLink RL 25 "java/lang/IllegalStateException", Cond.methodLink RL 56 yX6_board, Cond.instanceMethod yX6_board, Cond.selects RX6 yX6_board yX6_board, Cond.initialized RX6, Cond.code yX6_board cX6_board 5 (some .int), Cond.classLink RX6 64 "java/lang/IllegalArgumentException", Cond.initialized "java/lang/IllegalArgumentException", Cond.classLink RX6 102 "java/lang/IllegalStateException", Cond.initialized "java/lang/IllegalStateException", Cond.constantDouble RX6 58 (4652007308841189376), Cond.fieldLink RX6 38 "PlankUnroll" "boards" "Ljava/util/ArrayList;", Cond.classLink RX6 186 RX0, Cond.instantiable RX0 3, Cond.initialized RX0, Cond.methodLink RX6 60 yX6_within, Cond.static yX6_within, Cond.code yX6_within cX6_within 6 (some .boolean), Cond.methodLink RX6 180 yJx4a65c_size_8abf5, Cond.instanceMethod yJx4a65c_size_8abf5, Cond.selects RJx4a65c yJx4a65c_size_8abf5 yJx4a65c_size_8abf5, Cond.initialized RJx4a65c, Cond.code yJx4a65c_size_8abf5 cJx4a65c_size_8abf5 1 (some .int)]
def wsL_board_r2 : List Cond := [Cond.fieldLink RJx4a65c 48 "java/util/ArrayList" "size" "I", Cond.methodLink RX6 188 yX0_init, Cond.instanceMethod yX0_init, Cond.code yX0_init cX0_init 5 none, Cond.methodLink RX0 1 objectInit, Cond.instanceMethod objectInit, Cond.code objectInit ⟨#[0xb1]⟩ 1 none, Cond.fieldLink RX0 7 "PlankUnroll$Board" "w" "D", Cond.fieldLink RX0 13 "PlankUnroll$Board" "h" "D", Cond.classLink RX0 16 RJx4a65c, Cond.instantiable RJx4a65c 3, Cond.fieldLink RX0 19 "PlankUnroll$Board" "faults" "Ljava/util/ArrayList;", Cond.methodLink RX0 18 yJx4a65c_init_da8c8, Cond.instanceMethod yJx4a65c_init_da8c8, Cond.code yJx4a65c_init_da8c8 cJx4a65c_init_da8c8 1 none, Cond.fieldLink RJx4a65c 39 "java/util/ArrayList" "DEFAULTCAPACITY_EMPTY_ELEMENTDATA" "[Ljava/lang/Object;", Cond.fieldLink RJx4a65c 9 "java/util/ArrayList" "elementData" "[Ljava/lang/Object;", Cond.methodLink RJx4a65c 1 yJxc12de_init_da8c8, Cond.instanceMethod yJxc12de_init_da8c8, Cond.initialized RJxc12de, Cond.code yJxc12de_init_da8c8 cJxc12de_init_da8c8 1 none, Cond.fieldLink RJxc12de 7 "java/util/AbstractList" "modCount" "I", Cond.methodLink RJxc12de 1 yJxa1e45_init_da8c8, Cond.instanceMethod yJxa1e45_init_da8c8]
def wsL_board_r3 : List Cond := [Cond.initialized RJxa1e45, Cond.code yJxa1e45_init_da8c8 cJxa1e45_init_da8c8 1 none, Cond.methodLink RJxa1e45 1 objectInit, Cond.methodLink RX6 191 yJx4a65c_add_9ea2d, Cond.instanceMethod yJx4a65c_add_9ea2d, Cond.selects RJx4a65c yJx4a65c_add_9ea2d yJx4a65c_add_9ea2d, Cond.code yJx4a65c_add_9ea2d cJx4a65c_add_9ea2d 2 (some .boolean), Cond.fieldLink RJx4a65c 63 "java/util/ArrayList" "modCount" "I", Cond.sameField "java/util/ArrayList" "java/util/AbstractList" "modCount" "I", Cond.methodLink RJx4a65c 131 yJx4a65c_add_72be8, Cond.instanceMethod yJx4a65c_add_72be8, Cond.selects RJx4a65c yJx4a65c_add_72be8 yJx4a65c_add_72be8, Cond.code yJx4a65c_add_72be8 cJx4a65c_add_72be8 4 none, Cond.methodLink RJx4a65c 129 yJx4a65c_grow_d5877, Cond.instanceMethod yJx4a65c_grow_d5877, Cond.selects RJx4a65c yJx4a65c_grow_d5877 yJx4a65c_grow_d5877, Cond.code yJx4a65c_grow_d5877 cJx4a65c_grow_d5877 1 (some (.array (.object "java/lang/Object"))), Cond.methodLink RJx4a65c 69 yJx4a65c_grow_92f84, Cond.instanceMethod yJx4a65c_grow_92f84, Cond.selects RJx4a65c yJx4a65c_grow_92f84 yJx4a65c_grow_92f84, Cond.code yJx4a65c_grow_92f84 cJx4a65c_grow_92f84 4 (some (.array (.object "java/lang/Object"))), Cond.methodLink RJx4a65c 79 Lib.Math.max.name, Cond.static Lib.Math.max.name, Cond.initialized "java/lang/Math"]
def wsL_board_r4 : List Cond := [Cond.code Lib.Math.max.name Lib.Math.max.code 2 (some .int), Cond.classLink RJx4a65c 7 "java/lang/Object", Cond.methodLink RJx4a65c 73 yJ8_newLength_cabcc, Cond.static yJ8_newLength_cabcc, Cond.initialized RJ8, Cond.code yJ8_newLength_cabcc cJ8_newLength_cabcc 4 (some .int), Cond.methodLink RJ8 194 Lib.Math.max.name, Cond.constant RJ8 200 (2147483639), Cond.methodLink RJ8 201 yJ8_hugeLength_7cf53, Cond.static yJ8_hugeLength_7cf53, Cond.code yJ8_hugeLength_7cf53 cJ8_hugeLength_7cf53 3 (some .int), Cond.methodLink RJx4a65c 66 yJ7_copyOf_1904c, Cond.static yJ7_copyOf_1904c, Cond.initialized RJ7, Cond.code yJ7_copyOf_1904c cJ7_copyOf_1904c 2 (some (.array (.object "java/lang/Object"))), Cond.methodLink RJ7 86 ⟨"java/lang/Object", "getClass", "()Ljava/lang/Class;"⟩, Cond.selects "[Ljava/lang/Object;" ⟨"java/lang/Object", "getClass", "()Ljava/lang/Class;"⟩ ⟨"java/lang/Object", "getClass", "()Ljava/lang/Class;"⟩, Cond.instanceMethod ⟨"java/lang/Object", "getClass", "()Ljava/lang/Class;"⟩, Cond.native ⟨"java/lang/Object", "getClass", "()Ljava/lang/Class;"⟩, Cond.methodLink RJ7 300 yJ7_copyOf_6403c, Cond.static yJ7_copyOf_6403c, Cond.code yJ7_copyOf_6403c cJ7_copyOf_6403c 4 (some (.array (.object "java/lang/Object"))), Cond.classLink RJ7 110 "[Ljava/lang/Object;", Cond.classLink RJ7 2 "java/lang/Object"]
def wsL_board_r5 : List Cond := [Cond.methodLink RJ7 304 Lib.Math.min.name, Cond.static Lib.Math.min.name, Cond.code Lib.Math.min.name Lib.Math.min.code 2 (some .int), Cond.methodLink RJ7 150 arraycopyName, Cond.native arraycopyName, Cond.static arraycopyName, Cond.initialized "java/lang/System"]
def wsL_board : List Cond := .codeWith yL_board cL_board 7 (some .int) [(0, 11, 14, 15), (0, 11, 18, 25)] :: ((wsL_board_r1 ++ (wsL_board_r2 ++ (wsL_board_r3 ++ (wsL_board_r4 ++ wsL_board_r5)))) ++ wsX60 ++ wsX00 ++ wsJx4a65c0 ++ (vx_atS RX6 68 "java/lang/IllegalArgumentException" ["java/lang/RuntimeException", "java/lang/Exception"]).filter goodWord ++ (vx_atS RX6 106 "java/lang/IllegalStateException" ["java/lang/RuntimeException", "java/lang/Exception"]).filter goodWord)
def wsL_fault_r1 : List Cond := [Cond.classLink RL 13 "java/lang/IndexOutOfBoundsException", Cond.classLink RL 15 "java/lang/IllegalArgumentException", Cond.methodLink RL 60 yX6_fault, Cond.instanceMethod yX6_fault, Cond.selects RX6 yX6_fault yX6_fault, Cond.initialized RX6, Cond.code yX6_fault cX6_fault 11 (some .boolean), Cond.classLink RX6 64 "java/lang/IllegalArgumentException", Cond.initialized "java/lang/IllegalArgumentException", Cond.constantDouble RX6 58 (4652007308841189376), Cond.constantDouble RX6 201 (4593671619917905920), Cond.fieldLink RX6 205 "PlankUnroll$Board" "faults" "Ljava/util/ArrayList;", Cond.classLink RX6 208 RX1, Cond.instantiable RX1 4, Cond.initialized RX1, Cond.methodLink RX6 195 yX6_boardAt, Cond.instanceMethod yX6_boardAt, Cond.selects RX6 yX6_boardAt yX6_boardAt, Cond.code yX6_boardAt cX6_boardAt 2 (some (.object "PlankUnroll$Board")), Cond.classLink RX6 107 "java/lang/IndexOutOfBoundsException", Cond.initialized "java/lang/IndexOutOfBoundsException", Cond.fieldLink RX6 38 "PlankUnroll" "boards" "Ljava/util/ArrayList;", Cond.classLink RX6 186 "PlankUnroll$Board", Cond.methodLink RX6 180 yJx4a65c_size_8abf5]
def wsL_fault_r2 : List Cond := [Cond.instanceMethod yJx4a65c_size_8abf5, Cond.selects RJx4a65c yJx4a65c_size_8abf5 yJx4a65c_size_8abf5, Cond.initialized RJx4a65c, Cond.code yJx4a65c_size_8abf5 cJx4a65c_size_8abf5 1 (some .int), Cond.fieldLink RJx4a65c 48 "java/util/ArrayList" "size" "I", Cond.methodLink RX6 263 yJx4a65c_get_915e3, Cond.instanceMethod yJx4a65c_get_915e3, Cond.selects RJx4a65c yJx4a65c_get_915e3 yJx4a65c_get_915e3, Cond.code yJx4a65c_get_915e3 cJx4a65c_get_915e3 2 (some (.object "java/lang/Object")), Cond.methodLink RJx4a65c 118 yJ15_checkIndex_7cf53, Cond.static yJ15_checkIndex_7cf53, Cond.initialized RJ15, Cond.code yJ15_checkIndex_7cf53 cJ15_checkIndex_7cf53 2 (some .int), Cond.methodLink RJ15 105 yJ3_checkIndex_8e157, Cond.static yJ3_checkIndex_8e157, Cond.initialized RJ3, Cond.code yJ3_checkIndex_8e157 cJ3_checkIndex_8e157 3 (some .int), Cond.methodLink RJx4a65c 123 yJx4a65c_elementData_915e3, Cond.instanceMethod yJx4a65c_elementData_915e3, Cond.selects RJx4a65c yJx4a65c_elementData_915e3 yJx4a65c_elementData_915e3, Cond.code yJx4a65c_elementData_915e3 cJx4a65c_elementData_915e3 2 (some (.object "java/lang/Object")), Cond.fieldLink RJx4a65c 9 "java/util/ArrayList" "elementData" "[Ljava/lang/Object;", Cond.methodLink RX6 60 yX6_within, Cond.static yX6_within]
def wsL_fault_r3 : List Cond := [Cond.code yX6_within cX6_within 6 (some .boolean), Cond.methodLink RX6 210 yX1_init, Cond.instanceMethod yX1_init, Cond.code yX1_init cX1_init 9 none, Cond.methodLink RX1 1 objectInit, Cond.instanceMethod objectInit, Cond.code objectInit ⟨#[0xb1]⟩ 1 none, Cond.fieldLink RX1 7 "PlankUnroll$Box" "x" "D", Cond.fieldLink RX1 13 "PlankUnroll$Box" "y" "D", Cond.fieldLink RX1 16 "PlankUnroll$Box" "w" "D", Cond.fieldLink RX1 19 "PlankUnroll$Box" "h" "D", Cond.methodLink RX6 191 yJx4a65c_add_9ea2d, Cond.instanceMethod yJx4a65c_add_9ea2d, Cond.selects RJx4a65c yJx4a65c_add_9ea2d yJx4a65c_add_9ea2d, Cond.code yJx4a65c_add_9ea2d cJx4a65c_add_9ea2d 2 (some .boolean), Cond.fieldLink RJx4a65c 63 "java/util/ArrayList" "modCount" "I", Cond.sameField "java/util/ArrayList" "java/util/AbstractList" "modCount" "I", Cond.methodLink RJx4a65c 131 yJx4a65c_add_72be8, Cond.instanceMethod yJx4a65c_add_72be8, Cond.selects RJx4a65c yJx4a65c_add_72be8 yJx4a65c_add_72be8, Cond.code yJx4a65c_add_72be8 cJx4a65c_add_72be8 4 none, Cond.methodLink RJx4a65c 129 yJx4a65c_grow_d5877, Cond.instanceMethod yJx4a65c_grow_d5877, Cond.selects RJx4a65c yJx4a65c_grow_d5877 yJx4a65c_grow_d5877]
def wsL_fault_r4 : List Cond := [Cond.code yJx4a65c_grow_d5877 cJx4a65c_grow_d5877 1 (some (.array (.object "java/lang/Object"))), Cond.methodLink RJx4a65c 69 yJx4a65c_grow_92f84, Cond.instanceMethod yJx4a65c_grow_92f84, Cond.selects RJx4a65c yJx4a65c_grow_92f84 yJx4a65c_grow_92f84, Cond.code yJx4a65c_grow_92f84 cJx4a65c_grow_92f84 4 (some (.array (.object "java/lang/Object"))), Cond.fieldLink RJx4a65c 39 "java/util/ArrayList" "DEFAULTCAPACITY_EMPTY_ELEMENTDATA" "[Ljava/lang/Object;", Cond.methodLink RJx4a65c 79 Lib.Math.max.name, Cond.static Lib.Math.max.name, Cond.initialized "java/lang/Math", Cond.code Lib.Math.max.name Lib.Math.max.code 2 (some .int), Cond.classLink RJx4a65c 7 "java/lang/Object", Cond.methodLink RJx4a65c 73 yJ8_newLength_cabcc, Cond.static yJ8_newLength_cabcc, Cond.initialized RJ8, Cond.code yJ8_newLength_cabcc cJ8_newLength_cabcc 4 (some .int), Cond.methodLink RJ8 194 Lib.Math.max.name, Cond.constant RJ8 200 (2147483639), Cond.methodLink RJ8 201 yJ8_hugeLength_7cf53, Cond.static yJ8_hugeLength_7cf53, Cond.code yJ8_hugeLength_7cf53 cJ8_hugeLength_7cf53 3 (some .int), Cond.methodLink RJx4a65c 66 yJ7_copyOf_1904c, Cond.static yJ7_copyOf_1904c, Cond.initialized RJ7, Cond.code yJ7_copyOf_1904c cJ7_copyOf_1904c 2 (some (.array (.object "java/lang/Object")))]
def wsL_fault_r5 : List Cond := [Cond.methodLink RJ7 86 ⟨"java/lang/Object", "getClass", "()Ljava/lang/Class;"⟩, Cond.selects "[Ljava/lang/Object;" ⟨"java/lang/Object", "getClass", "()Ljava/lang/Class;"⟩ ⟨"java/lang/Object", "getClass", "()Ljava/lang/Class;"⟩, Cond.instanceMethod ⟨"java/lang/Object", "getClass", "()Ljava/lang/Class;"⟩, Cond.native ⟨"java/lang/Object", "getClass", "()Ljava/lang/Class;"⟩, Cond.methodLink RJ7 300 yJ7_copyOf_6403c, Cond.static yJ7_copyOf_6403c, Cond.code yJ7_copyOf_6403c cJ7_copyOf_6403c 4 (some (.array (.object "java/lang/Object"))), Cond.classLink RJ7 110 "[Ljava/lang/Object;", Cond.classLink RJ7 2 "java/lang/Object", Cond.methodLink RJ7 304 Lib.Math.min.name, Cond.static Lib.Math.min.name, Cond.code Lib.Math.min.name Lib.Math.min.code 2 (some .int), Cond.methodLink RJ7 150 arraycopyName, Cond.native arraycopyName, Cond.static arraycopyName, Cond.initialized "java/lang/System"]
def wsL_fault : List Cond := .codeWith yL_fault cL_fault 12 (some .int) [(0, 24, 27, 13), (0, 24, 31, 15)] :: ((wsL_fault_r1 ++ (wsL_fault_r2 ++ (wsL_fault_r3 ++ (wsL_fault_r4 ++ wsL_fault_r5)))) ++ wsX00 ++ wsX10 ++ wsX60 ++ wsJx4a65c0 ++ (vx_atS RX6 68 "java/lang/IllegalArgumentException" ["java/lang/RuntimeException", "java/lang/Exception"]).filter goodWord ++ (vx_atS RX6 111 "java/lang/IndexOutOfBoundsException" ["java/lang/RuntimeException", "java/lang/Exception"]).filter goodWord)
def wsL_nest_r1 : List Cond := [Cond.classLink RL 13 "java/lang/IndexOutOfBoundsException", Cond.classLink RL 25 "java/lang/IllegalStateException", Cond.methodLink RL 64 yX6_nest, Cond.instanceMethod yX6_nest, Cond.selects RX6 yX6_nest yX6_nest, Cond.initialized RX6, Cond.code yX6_nest cX6_nest 6 (some .int), Cond.classLink RX6 102 "java/lang/IllegalStateException", Cond.initialized "java/lang/IllegalStateException", Cond.fieldLink RX6 213 "PlankUnroll$Strip" "board" "I", Cond.fieldLink RX6 218 "PlankUnroll$Strip" "box" "LPlankUnroll$Box;", Cond.fieldLink RX6 226 "PlankUnroll$Strip" "eighths" "I", Cond.methodLink RX6 195 yX6_boardAt, Cond.instanceMethod yX6_boardAt, Cond.selects RX6 yX6_boardAt yX6_boardAt, Cond.code yX6_boardAt cX6_boardAt 2 (some (.object "PlankUnroll$Board")), Cond.classLink RX6 107 "java/lang/IndexOutOfBoundsException", Cond.initialized "java/lang/IndexOutOfBoundsException", Cond.fieldLink RX6 38 "PlankUnroll" "boards" "Ljava/util/ArrayList;", Cond.classLink RX6 186 "PlankUnroll$Board", Cond.methodLink RX6 180 yJx4a65c_size_8abf5, Cond.instanceMethod yJx4a65c_size_8abf5, Cond.selects RJx4a65c yJx4a65c_size_8abf5 yJx4a65c_size_8abf5, Cond.initialized RJx4a65c]
def wsL_nest_r2 : List Cond := [Cond.code yJx4a65c_size_8abf5 cJx4a65c_size_8abf5 1 (some .int), Cond.fieldLink RJx4a65c 48 "java/util/ArrayList" "size" "I", Cond.methodLink RX6 263 yJx4a65c_get_915e3, Cond.instanceMethod yJx4a65c_get_915e3, Cond.selects RJx4a65c yJx4a65c_get_915e3 yJx4a65c_get_915e3, Cond.code yJx4a65c_get_915e3 cJx4a65c_get_915e3 2 (some (.object "java/lang/Object")), Cond.methodLink RJx4a65c 118 yJ15_checkIndex_7cf53, Cond.static yJ15_checkIndex_7cf53, Cond.initialized RJ15, Cond.code yJ15_checkIndex_7cf53 cJ15_checkIndex_7cf53 2 (some .int), Cond.methodLink RJ15 105 yJ3_checkIndex_8e157, Cond.static yJ3_checkIndex_8e157, Cond.initialized RJ3, Cond.code yJ3_checkIndex_8e157 cJ3_checkIndex_8e157 3 (some .int), Cond.methodLink RJx4a65c 123 yJx4a65c_elementData_915e3, Cond.instanceMethod yJx4a65c_elementData_915e3, Cond.selects RJx4a65c yJx4a65c_elementData_915e3 yJx4a65c_elementData_915e3, Cond.code yJx4a65c_elementData_915e3 cJx4a65c_elementData_915e3 2 (some (.object "java/lang/Object")), Cond.fieldLink RJx4a65c 9 "java/util/ArrayList" "elementData" "[Ljava/lang/Object;", Cond.methodLink RX6 90 yX6_stripAt, Cond.instanceMethod yX6_stripAt, Cond.selects RX6 yX6_stripAt yX6_stripAt, Cond.code yX6_stripAt cX6_stripAt 2 (some (.object "PlankUnroll$Strip")), Cond.fieldLink RX6 28 "PlankUnroll" "strips" "[LPlankUnroll$Strip;"]
def wsL_nest_r3 : List Cond := [Cond.methodLink RX6 114 yX6_needUnrolled, Cond.static yX6_needUnrolled, Cond.code yX6_needUnrolled cX6_needUnrolled 1 none, Cond.fieldLink RX6 94 "PlankUnroll$Strip" "unrolled" "Z", Cond.methodLink RX6 222 yX6_leastEighths, Cond.instanceMethod yX6_leastEighths, Cond.selects RX6 yX6_leastEighths yX6_leastEighths, Cond.code yX6_leastEighths cX6_leastEighths 6 (some .int), Cond.fieldLink RX6 273 "PlankUnroll$Box" "y" "D", Cond.fieldLink RX6 274 "PlankUnroll$Box" "h" "D", Cond.fieldLink RX6 277 "PlankUnroll$Board" "h" "D", Cond.constantDouble RX6 278 (4620693217682128896), Cond.fieldLink RX6 280 "PlankUnroll$Box" "x" "D", Cond.fieldLink RX6 281 "PlankUnroll$Box" "w" "D", Cond.fieldLink RX6 284 "PlankUnroll$Board" "w" "D", Cond.methodLink RX6 237 Lib.Math.max.name, Cond.static Lib.Math.max.name, Cond.initialized "java/lang/Math", Cond.code Lib.Math.max.name Lib.Math.max.code 2 (some .int), Cond.methodLink RX6 285 yX6_overlapped, Cond.instanceMethod yX6_overlapped, Cond.selects RX6 yX6_overlapped yX6_overlapped, Cond.code yX6_overlapped cX6_overlapped 8 (some (.object "PlankUnroll$Box")), Cond.fieldLink RX6 205 "PlankUnroll$Board" "faults" "Ljava/util/ArrayList;"]
def wsL_nest_r4 : List Cond := [Cond.classLink RX6 208 "PlankUnroll$Box", Cond.methodLink RX6 293 yX1_overlaps, Cond.instanceMethod yX1_overlaps, Cond.selects RX1 yX1_overlaps yX1_overlaps, Cond.initialized RX1, Cond.code yX1_overlaps cX1_overlaps 2 (some .boolean), Cond.fieldLink RX1 7 "PlankUnroll$Box" "x" "D", Cond.fieldLink RX1 16 "PlankUnroll$Box" "w" "D", Cond.fieldLink RX1 13 "PlankUnroll$Box" "y" "D", Cond.fieldLink RX1 19 "PlankUnroll$Box" "h" "D", Cond.methodLink RX6 289 yX6_lastEighthsBefore, Cond.static yX6_lastEighthsBefore, Cond.code yX6_lastEighthsBefore cX6_lastEighthsBefore 3 (some .int)]
def wsL_nest : List Cond := .codeWith yL_nest cL_nest 5 (some .int) [(0, 10, 13, 13), (0, 10, 17, 25)] :: ((wsL_nest_r1 ++ (wsL_nest_r2 ++ (wsL_nest_r3 ++ wsL_nest_r4))) ++ wsX50 ++ wsX60 ++ wsJx4a65c0 ++ wsX10 ++ wsX00 ++ (vx_atS RX6 106 "java/lang/IllegalStateException" ["java/lang/RuntimeException", "java/lang/Exception"]).filter goodWord ++ (vx_atS RX6 111 "java/lang/IndexOutOfBoundsException" ["java/lang/RuntimeException", "java/lang/Exception"]).filter goodWord)
def wsL_lies : List Cond := .codeWith yL_lies cL_lies 5 (some .int) [(0, 10, 13, 13)] :: ([.classLink RL 13 "java/lang/IndexOutOfBoundsException", .methodLink RL 68 yX6_lies, .instanceMethod yX6_lies, .selects RX6 yX6_lies yX6_lies, .initialized RX6, .code yX6_lies cX6_lies 4 (some .int), .classLink RX6 107 "java/lang/IndexOutOfBoundsException", .initialized "java/lang/IndexOutOfBoundsException", .fieldLink RX6 213 "PlankUnroll$Strip" "board" "I", .fieldLink RX6 226 "PlankUnroll$Strip" "eighths" "I", .methodLink RX6 90 yX6_stripAt, .instanceMethod yX6_stripAt, .selects RX6 yX6_stripAt yX6_stripAt, .code yX6_stripAt cX6_stripAt 2 (some (.object "PlankUnroll$Strip")), .fieldLink RX6 28 "PlankUnroll" "strips" "[LPlankUnroll$Strip;"] ++ wsX50 ++ wsX60 ++ (vx_atS RX6 111 "java/lang/IndexOutOfBoundsException" ["java/lang/RuntimeException", "java/lang/Exception"]).filter goodWord)
def wsL_staves_r1 : List Cond := [Cond.classLink RL 15 "java/lang/IllegalArgumentException", Cond.methodLink RL 71 yX6_staves, Cond.instanceMethod yX6_staves, Cond.selects RX6 yX6_staves yX6_staves, Cond.initialized RX6, Cond.code yX6_staves cX6_staves 9 (some .int), Cond.methodLink RX6 237 Lib.Math.max.name, Cond.static Lib.Math.max.name, Cond.initialized "java/lang/Math", Cond.code Lib.Math.max.name Lib.Math.max.code 2 (some .int), Cond.constant RX6 243 (100000), Cond.methodLink RX6 231 yX6_checkStaves, Cond.static yX6_checkStaves, Cond.code yX6_checkStaves cX6_checkStaves 4 none, Cond.classLink RX6 64 "java/lang/IllegalArgumentException", Cond.initialized "java/lang/IllegalArgumentException", Cond.constantDouble RX6 201 (4593671619917905920), Cond.constantDouble RX6 58 (4652007308841189376), Cond.methodLink RX6 60 yX6_within, Cond.static yX6_within, Cond.code yX6_within cX6_within 6 (some .boolean), Cond.methodLink RX6 234 yX6_circleOf, Cond.static yX6_circleOf, Cond.code yX6_circleOf cX6_circleOf 2 (some .double)]
def wsL_staves_r2 : List Cond := [Cond.constantDouble RX6 251 (4614256656552045848)]
def wsL_staves : List Cond := .codeWith yL_staves cL_staves 7 (some .int) [(0, 11, 14, 15)] :: ((wsL_staves_r1 ++ wsL_staves_r2) ++ (vx_atS RX6 68 "java/lang/IllegalArgumentException" ["java/lang/RuntimeException", "java/lang/Exception"]).filter goodWord)
def wsL_closes : List Cond := .codeWith yL_closes cL_closes 8 (some .int) [(0, 12, 15, 15)] :: ([.classLink RL 15 "java/lang/IllegalArgumentException", .methodLink RL 74 yX6_closes, .instanceMethod yX6_closes, .selects RX6 yX6_closes yX6_closes, .initialized RX6, .code yX6_closes cX6_closes 6 (some .double), .classLink RX6 64 "java/lang/IllegalArgumentException", .initialized "java/lang/IllegalArgumentException", .constant RX6 243 (100000), .methodLink RX6 231 yX6_checkStaves, .static yX6_checkStaves, .code yX6_checkStaves cX6_checkStaves 4 none, .constantDouble RX6 201 (4593671619917905920), .constantDouble RX6 58 (4652007308841189376), .methodLink RX6 60 yX6_within, .static yX6_within, .code yX6_within cX6_within 6 (some .boolean), .methodLink RX6 234 yX6_circleOf, .static yX6_circleOf, .code yX6_circleOf cX6_circleOf 2 (some .double), .constantDouble RX6 251 (4614256656552045848)] ++ (vx_atS RX6 68 "java/lang/IllegalArgumentException" ["java/lang/RuntimeException", "java/lang/Exception"]).filter goodWord)
def wsL_law0_r1 : List Cond := [Cond.classLink RL 8 RX6, Cond.instantiable RX6 6, Cond.initialized RX6, Cond.classLink RL 87 RX7, Cond.instantiable RX7 18, Cond.initialized RX7, Cond.arrayClass .long, Cond.arrayClass .double, Cond.constantDouble RL 90 (4593671619917905920), Cond.methodLink RL 78 yL_cell, Cond.static yL_cell, Cond.initialized RL, Cond.code yL_cell cL_cell 2 (some .int), Cond.methodLink RL 84 yX6_init, Cond.instanceMethod yX6_init, Cond.code yX6_init cX6_init 4 none, Cond.methodLink RX6 1 objectInit, Cond.instanceMethod objectInit, Cond.code objectInit ⟨#[0xb1]⟩ 1 none, Cond.fieldLink RX6 13 "PlankUnroll" "frames" "I", Cond.classLink RX6 17 RX4, Cond.fieldLink RX6 19 "PlankUnroll" "rows" "[LPlankUnroll$Row;", Cond.instantiable RX4 1, Cond.initialized RX4]
def wsL_law0_r2 : List Cond := [Cond.classLink RX6 26 RX5, Cond.fieldLink RX6 28 "PlankUnroll" "strips" "[LPlankUnroll$Strip;", Cond.instantiable RX5 9, Cond.initialized RX5, Cond.classLink RX6 35 RJx4a65c, Cond.instantiable RJx4a65c 3, Cond.initialized RJx4a65c, Cond.fieldLink RX6 38 "PlankUnroll" "boards" "Ljava/util/ArrayList;", Cond.classLink RX6 42 RX2, Cond.instantiable RX2 3, Cond.initialized RX2, Cond.fieldLink RX6 45 "PlankUnroll" "near" "LPlankUnroll$Normal;", Cond.fieldLink RX6 49 "PlankUnroll" "far" "LPlankUnroll$Normal;", Cond.methodLink RX6 7 yX6_nearestSize, Cond.static yX6_nearestSize, Cond.code yX6_nearestSize cX6_nearestSize 1 (some .int), Cond.methodLink RX6 246 Lib.Math.min.name, Cond.static Lib.Math.min.name, Cond.initialized "java/lang/Math", Cond.code Lib.Math.min.name Lib.Math.min.code 2 (some .int), Cond.methodLink RX6 237 Lib.Math.max.name, Cond.static Lib.Math.max.name, Cond.code Lib.Math.max.name Lib.Math.max.code 2 (some .int), Cond.methodLink RX6 23 yX4_init]
def wsL_law0_r3 : List Cond := [Cond.instanceMethod yX4_init, Cond.code yX4_init cX4_init 3 none, Cond.methodLink RX4 1 objectInit, Cond.classLink RX4 7 RX3, Cond.fieldLink RX4 9 "PlankUnroll$Row" "places" "[LPlankUnroll$Place;", Cond.instantiable RX3 3, Cond.initialized RX3, Cond.instanceMethod yX3_init, Cond.code yX3_init cX3_init 1 none, Cond.methodLink RX3 1 objectInit, Cond.methodLink RX6 32 yX5_init, Cond.instanceMethod yX5_init, Cond.code yX5_init cX5_init 4 none, Cond.methodLink RX5 3 objectInit, Cond.fieldLink RX5 9 "PlankUnroll$Strip" "a" "LPlankUnroll$Row;", Cond.fieldLink RX5 15 "PlankUnroll$Strip" "b" "LPlankUnroll$Row;", Cond.fieldLink RX5 18 "PlankUnroll$Strip" "cornerX" "[D", Cond.fieldLink RX5 22 "PlankUnroll$Strip" "cornerY" "[D", Cond.arrayClass .boolean, Cond.fieldLink RX5 25 "PlankUnroll$Strip" "butts" "[Z", Cond.classLink RX5 29 RX1, Cond.instantiable RX1 4, Cond.initialized RX1, Cond.fieldLink RX5 34 "PlankUnroll$Strip" "box" "LPlankUnroll$Box;"]
def wsL_law0_r4 : List Cond := [Cond.fieldLink RX5 38 "PlankUnroll$Strip" "board" "I", Cond.fieldLink RX5 42 "PlankUnroll$Strip" "eighths" "I", Cond.methodLink RX5 31 yX1_init, Cond.instanceMethod yX1_init, Cond.code yX1_init cX1_init 9 none, Cond.methodLink RX1 1 objectInit, Cond.fieldLink RX1 7 "PlankUnroll$Box" "x" "D", Cond.fieldLink RX1 13 "PlankUnroll$Box" "y" "D", Cond.fieldLink RX1 16 "PlankUnroll$Box" "w" "D", Cond.fieldLink RX1 19 "PlankUnroll$Box" "h" "D", Cond.methodLink RX6 37 yJx4a65c_init_da8c8, Cond.instanceMethod yJx4a65c_init_da8c8, Cond.code yJx4a65c_init_da8c8 cJx4a65c_init_da8c8 1 none, Cond.fieldLink RJx4a65c 39 "java/util/ArrayList" "DEFAULTCAPACITY_EMPTY_ELEMENTDATA" "[Ljava/lang/Object;", Cond.fieldLink RJx4a65c 9 "java/util/ArrayList" "elementData" "[Ljava/lang/Object;", Cond.methodLink RJx4a65c 1 yJxc12de_init_da8c8, Cond.instanceMethod yJxc12de_init_da8c8, Cond.initialized RJxc12de, Cond.code yJxc12de_init_da8c8 cJxc12de_init_da8c8 1 none, Cond.fieldLink RJxc12de 7 "java/util/AbstractList" "modCount" "I", Cond.methodLink RJxc12de 1 yJxa1e45_init_da8c8, Cond.instanceMethod yJxa1e45_init_da8c8, Cond.initialized RJxa1e45, Cond.code yJxa1e45_init_da8c8 cJxa1e45_init_da8c8 1 none]
def wsL_law0_r5 : List Cond := [Cond.methodLink RJxa1e45 1 objectInit, Cond.instanceMethod yX2_init, Cond.code yX2_init cX2_init 1 none, Cond.methodLink RX2 1 objectInit, Cond.methodLink RL 89 yX7_init, Cond.instanceMethod yX7_init, Cond.code yX7_init cX7_init 3 none, Cond.methodLink RX7 1 objectInit, Cond.fieldLink RX7 7 "PlankUnrollModel" "places" "[D", Cond.fieldLink RX7 13 "PlankUnrollModel" "unrolled" "[Z", Cond.fieldLink RX7 17 "PlankUnrollModel" "corners" "[D", Cond.fieldLink RX7 20 "PlankUnrollModel" "draft" "[D", Cond.fieldLink RX7 23 "PlankUnrollModel" "butts" "[Z", Cond.fieldLink RX7 26 "PlankUnrollModel" "wides" "[D", Cond.fieldLink RX7 29 "PlankUnrollModel" "highs" "[D", Cond.arrayClass .int, Cond.fieldLink RX7 32 "PlankUnrollModel" "faultCount" "[I", Cond.fieldLink RX7 36 "PlankUnrollModel" "faults" "[D", Cond.fieldLink RX7 39 "PlankUnrollModel" "liesOn" "[I", Cond.fieldLink RX7 42 "PlankUnrollModel" "liesAt" "[I", Cond.fieldLink RX7 45 "PlankUnrollModel" "frames" "I", Cond.fieldLink RX7 49 "PlankUnrollModel" "rows" "I", Cond.methodLink RL 92 yL_point, Cond.static yL_point]
def wsL_law0_r6 : List Cond := [Cond.codeWith yL_point cL_point 11 (some .int) [(0, 23, 26, 13), (0, 23, 30, 15)], Cond.classLink RL 13 "java/lang/IndexOutOfBoundsException", Cond.classLink RL 15 "java/lang/IllegalArgumentException", Cond.methodLink RL 7 yX6_point, Cond.instanceMethod yX6_point, Cond.selects RX6 yX6_point yX6_point, Cond.code yX6_point cX6_point 14 (some .boolean), Cond.classLink RX6 64 "java/lang/IllegalArgumentException", Cond.initialized "java/lang/IllegalArgumentException", Cond.constantDouble RX6 56 (13875379345695965184), Cond.constantDouble RX6 58 (4652007308841189376), Cond.fieldLink RX6 71 "PlankUnroll$Place" "x" "D", Cond.fieldLink RX6 77 "PlankUnroll$Place" "y" "D", Cond.fieldLink RX6 80 "PlankUnroll$Place" "z" "D", Cond.methodLink RX6 52 yX6_placeAt, Cond.instanceMethod yX6_placeAt, Cond.selects RX6 yX6_placeAt yX6_placeAt, Cond.code yX6_placeAt cX6_placeAt 3 (some (.object "PlankUnroll$Place")), Cond.classLink RX6 107 "java/lang/IndexOutOfBoundsException", Cond.initialized "java/lang/IndexOutOfBoundsException", Cond.fieldLink RX6 140 "PlankUnroll$Row" "places" "[LPlankUnroll$Place;", Cond.methodLink RX6 158 yX6_checkFrame, Cond.instanceMethod yX6_checkFrame, Cond.selects RX6 yX6_checkFrame yX6_checkFrame]
def wsL_law0_r7 : List Cond := [Cond.code yX6_checkFrame cX6_checkFrame 2 none, Cond.methodLink RX6 60 yX6_within, Cond.static yX6_within, Cond.code yX6_within cX6_within 6 (some .boolean), Cond.methodLink RX6 83 yX5_forget, Cond.instanceMethod yX5_forget, Cond.selects RX5 yX5_forget yX5_forget, Cond.code yX5_forget cX5_forget 1 none, Cond.fieldLink RX5 45 "PlankUnroll$Strip" "unrolled" "Z", Cond.methodLink RL 95 yX7_point, Cond.instanceMethod yX7_point, Cond.selects RX7 yX7_point yX7_point, Cond.code yX7_point cX7_point 13 (some .boolean), Cond.constantDouble RX7 57 (13875379345695965184), Cond.constantDouble RX7 59 (4652007308841189376), Cond.fieldLink RX7 52 "PlankUnrollModel" "thrown" "I", Cond.methodLink RX7 61 yX7_between, Cond.static yX7_between, Cond.code yX7_between cX7_between 6 (some .boolean), Cond.methodLink RX7 65 yX7_noPlace, Cond.instanceMethod yX7_noPlace, Cond.selects RX7 yX7_noPlace yX7_noPlace, Cond.code yX7_noPlace cX7_noPlace 3 (some .boolean), Cond.methodLink RX7 69 yX7_at]
def wsL_law0_r8 : List Cond := [Cond.instanceMethod yX7_at, Cond.selects RX7 yX7_at yX7_at, Cond.code yX7_at cX7_at 4 (some .double), Cond.methodLink RL 96 yX7_thrown, Cond.instanceMethod yX7_thrown, Cond.selects RX7 yX7_thrown yX7_thrown, Cond.code yX7_thrown cX7_thrown 1 (some .int), Cond.methodLink RL 100 yL_distance, Cond.static yL_distance, Cond.codeWith yL_distance cL_distance 7 (some .int) [(0, 13, 16, 13)], Cond.methodLink RL 17 yX6_distance, Cond.instanceMethod yX6_distance, Cond.selects RX6 yX6_distance yX6_distance, Cond.code yX6_distance cX6_distance 5 (some .double), Cond.methodLink RX6 86 yX6_apart, Cond.static yX6_apart, Cond.code yX6_apart cX6_apart 8 (some .double), Cond.methodLink RX6 155 yX6_root, Cond.static yX6_root, Cond.code yX6_root cX6_root 5 (some .double), Cond.constantDouble RX6 249 (4611686018427387904), Cond.methodLink RL 103 yX7_distance, Cond.instanceMethod yX7_distance, Cond.selects RX7 yX7_distance yX7_distance]
def wsL_law0_r9 : List Cond := [Cond.code yX7_distance cX7_distance 5 (some .double), Cond.methodLink RX7 77 yX7_far, Cond.instanceMethod yX7_far, Cond.selects RX7 yX7_far yX7_far, Cond.code yX7_far cX7_far 11 (some .double), Cond.methodLink RX7 73 yX7_root, Cond.static yX7_root, Cond.code yX7_root cX7_root 5 (some .double), Cond.constantDouble RX7 55 (4611686018427387904), Cond.methodLink RL 104 yL_unroll, Cond.static yL_unroll, Cond.codeWith yL_unroll cL_unroll 4 (some .int) [(0, 9, 12, 13), (0, 9, 15, 25)], Cond.classLink RL 25 "java/lang/IllegalStateException", Cond.methodLink RL 21 yX6_unroll, Cond.instanceMethod yX6_unroll, Cond.selects RX6 yX6_unroll yX6_unroll, Cond.code yX6_unroll cX6_unroll 3 (some .int), Cond.classLink RX6 102 "java/lang/IllegalStateException", Cond.initialized "java/lang/IllegalStateException", Cond.fieldLink RX6 94 "PlankUnroll$Strip" "unrolled" "Z", Cond.methodLink RX6 90 yX6_stripAt, Cond.instanceMethod yX6_stripAt, Cond.selects RX6 yX6_stripAt yX6_stripAt, Cond.code yX6_stripAt cX6_stripAt 2 (some (.object "PlankUnroll$Strip"))]
def wsL_law0_r10 : List Cond := [Cond.methodLink RX6 98 yX5_layFlat, Cond.instanceMethod yX5_layFlat, Cond.selects RX5 yX5_layFlat yX5_layFlat, Cond.code yX5_layFlat cX5_layFlat 8 (some .boolean), Cond.fieldLink RX5 49 "PlankUnroll$Row" "places" "[LPlankUnroll$Place;", Cond.fieldLink RX5 71 "PlankUnroll$Box" "w" "D", Cond.fieldLink RX5 75 "PlankUnroll$Box" "h" "D", Cond.methodLink RX5 59 yX5_across, Cond.instanceMethod yX5_across, Cond.selects RX5 yX5_across yX5_across, Cond.code yX5_across cX5_across 2 (some .double), Cond.methodLink RX5 63 yX5_put, Cond.instanceMethod yX5_put, Cond.selects RX5 yX5_put yX5_put, Cond.code yX5_put cX5_put 18 (some .boolean), Cond.constantDouble RX5 82 (4562146422526312448), Cond.constantDouble RX5 84 (4611686018427387904), Cond.methodLink RX5 67 yX5_extent, Cond.static yX5_extent, Cond.code yX5_extent cX5_extent 10 (some .double), Cond.methodLink RL 107 yX7_unroll, Cond.instanceMethod yX7_unroll, Cond.selects RX7 yX7_unroll yX7_unroll, Cond.code yX7_unroll cX7_unroll 4 (some .int)]
def wsL_law0_r11 : List Cond := [Cond.methodLink RX7 87 yX7_noStrip, Cond.instanceMethod yX7_noStrip, Cond.selects RX7 yX7_noStrip yX7_noStrip, Cond.code yX7_noStrip cX7_noStrip 2 (some .boolean), Cond.methodLink RX7 91 yX7_put, Cond.instanceMethod yX7_put, Cond.selects RX7 yX7_put yX7_put, Cond.code yX7_put cX7_put 18 (some .boolean), Cond.constantDouble RX7 85 (4562146422526312448), Cond.methodLink RX7 81 yX7_length, Cond.static yX7_length, Cond.code yX7_length cX7_length 4 (some .double), Cond.methodLink RL 108 yL_flat, Cond.static yL_flat, Cond.codeWith yL_flat cL_flat 6 (some .int) [(0, 11, 14, 13), (0, 11, 18, 25)], Cond.methodLink RL 27 yX6_flat, Cond.instanceMethod yX6_flat, Cond.selects RX6 yX6_flat yX6_flat, Cond.code yX6_flat cX6_flat 5 (some .double), Cond.fieldLink RX6 118 "PlankUnroll$Strip" "cornerX" "[D", Cond.fieldLink RX6 122 "PlankUnroll$Strip" "cornerY" "[D", Cond.methodLink RX6 114 yX6_needUnrolled, Cond.static yX6_needUnrolled, Cond.code yX6_needUnrolled cX6_needUnrolled 1 none]
def wsL_law0_r12 : List Cond := [Cond.methodLink RL 111 yX7_flat, Cond.instanceMethod yX7_flat, Cond.selects RX7 yX7_flat yX7_flat, Cond.code yX7_flat cX7_flat 4 (some .double), Cond.methodLink RL 112 yL_stretch, Cond.static yL_stretch, Cond.codeWith yL_stretch cL_stretch 5 (some .int) [(0, 9, 12, 13), (0, 9, 16, 25)], Cond.methodLink RL 31 yX6_stretch, Cond.instanceMethod yX6_stretch, Cond.selects RX6 yX6_stretch yX6_stretch, Cond.code yX6_stretch cX6_stretch 4 (some .double), Cond.methodLink RX6 125 yX6_checkCell, Cond.instanceMethod yX6_checkCell, Cond.selects RX6 yX6_checkCell yX6_checkCell, Cond.code yX6_checkCell cX6_checkCell 2 none, Cond.methodLink RX6 128 yX5_offDiagonal, Cond.instanceMethod yX5_offDiagonal, Cond.selects RX5 yX5_offDiagonal yX5_offDiagonal, Cond.code yX5_offDiagonal cX5_offDiagonal 8 (some .double), Cond.methodLink RL 115 yX7_stretch, Cond.instanceMethod yX7_stretch, Cond.selects RX7 yX7_stretch yX7_stretch, Cond.code yX7_stretch cX7_stretch 3 (some .double), Cond.methodLink RX7 95 yX7_noCell]
def wsL_law0_r13 : List Cond := [Cond.instanceMethod yX7_noCell, Cond.selects RX7 yX7_noCell yX7_noCell, Cond.code yX7_noCell cX7_noCell 3 (some .boolean), Cond.methodLink RX7 98 yX7_off, Cond.instanceMethod yX7_off, Cond.selects RX7 yX7_off yX7_off, Cond.code yX7_off cX7_off 5 (some .double), Cond.methodLink RL 116 yL_worst, Cond.static yL_worst, Cond.codeWith yL_worst cL_worst 4 (some .int) [(0, 9, 12, 13), (0, 9, 15, 25)], Cond.methodLink RL 35 yX6_worst, Cond.instanceMethod yX6_worst, Cond.selects RX6 yX6_worst yX6_worst, Cond.code yX6_worst cX6_worst 9 (some .int), Cond.methodLink RX6 132 yX6_sizeOf, Cond.static yX6_sizeOf, Cond.code yX6_sizeOf cX6_sizeOf 2 (some .double), Cond.methodLink RL 118 yX7_worst, Cond.instanceMethod yX7_worst, Cond.selects RX7 yX7_worst yX7_worst, Cond.code yX7_worst cX7_worst 8 (some .int), Cond.constantDouble RX7 102 (13830554455654793216), Cond.methodLink RL 119 yL_bevel, Cond.static yL_bevel]
def wsL_law0_r14 : List Cond := [Cond.codeWith yL_bevel cL_bevel 5 (some .int) [(0, 9, 12, 13)], Cond.methodLink RL 38 yX6_bevel, Cond.instanceMethod yX6_bevel, Cond.selects RX6 yX6_bevel yX6_bevel, Cond.code yX6_bevel cX6_bevel 10 (some .double), Cond.fieldLink RX6 136 "PlankUnroll$Strip" "a" "LPlankUnroll$Row;", Cond.fieldLink RX6 144 "PlankUnroll$Strip" "b" "LPlankUnroll$Row;", Cond.methodLink RX6 147 yX2_cross, Cond.instanceMethod yX2_cross, Cond.selects RX2 yX2_cross yX2_cross, Cond.code yX2_cross cX2_cross 16 none, Cond.fieldLink RX2 7 "PlankUnroll$Place" "x" "D", Cond.fieldLink RX2 13 "PlankUnroll$Place" "y" "D", Cond.fieldLink RX2 16 "PlankUnroll$Place" "z" "D", Cond.fieldLink RX2 19 "PlankUnroll$Normal" "x" "D", Cond.fieldLink RX2 22 "PlankUnroll$Normal" "y" "D", Cond.fieldLink RX2 23 "PlankUnroll$Normal" "z" "D", Cond.methodLink RX6 151 yX2_times, Cond.instanceMethod yX2_times, Cond.selects RX2 yX2_times yX2_times, Cond.code yX2_times cX2_times 2 (some .double), Cond.methodLink RL 121 yX7_bevel, Cond.instanceMethod yX7_bevel, Cond.selects RX7 yX7_bevel yX7_bevel]
def wsL_law0_r15 : List Cond := [Cond.code yX7_bevel cX7_bevel 13 (some .double), Cond.fieldLink RX7 104 "PlankUnrollModel" "px" "D", Cond.fieldLink RX7 108 "PlankUnrollModel" "py" "D", Cond.fieldLink RX7 111 "PlankUnrollModel" "pz" "D", Cond.methodLink RX7 114 yX7_cross, Cond.instanceMethod yX7_cross, Cond.selects RX7 yX7_cross yX7_cross, Cond.code yX7_cross cX7_cross 19 none, Cond.methodLink RL 122 yL_width, Cond.static yL_width, Cond.codeWith yL_width cL_width 5 (some .int) [(0, 9, 12, 13)], Cond.methodLink RL 41 yX6_width, Cond.instanceMethod yX6_width, Cond.selects RX6 yX6_width yX6_width, Cond.code yX6_width cX6_width 4 (some .double), Cond.methodLink RX6 161 yX5_across, Cond.methodLink RL 124 yX7_width, Cond.instanceMethod yX7_width, Cond.selects RX7 yX7_width yX7_width, Cond.code yX7_width cX7_width 3 (some .double), Cond.methodLink RL 125 yL_girth, Cond.static yL_girth, Cond.codeWith yL_girth cL_girth 4 (some .int) [(0, 8, 11, 13)], Cond.methodLink RL 44 yX6_girth]
def wsL_law0_r16 : List Cond := [Cond.instanceMethod yX6_girth, Cond.selects RX6 yX6_girth yX6_girth, Cond.code yX6_girth cX6_girth 8 (some .double), Cond.methodLink RL 128 yX7_girth, Cond.instanceMethod yX7_girth, Cond.selects RX7 yX7_girth yX7_girth, Cond.code yX7_girth cX7_girth 5 (some .double), Cond.methodLink RL 129 yL_butt, Cond.static yL_butt, Cond.codeWith yL_butt cL_butt 6 (some .int) [(0, 19, 22, 13)], Cond.methodLink RL 48 yX6_butt, Cond.instanceMethod yX6_butt, Cond.selects RX6 yX6_butt yX6_butt, Cond.code yX6_butt cX6_butt 6 (some .boolean), Cond.fieldLink RX6 164 "PlankUnroll$Strip" "butts" "[Z", Cond.methodLink RL 132 yX7_butt, Cond.instanceMethod yX7_butt, Cond.selects RX7 yX7_butt yX7_butt, Cond.code yX7_butt cX7_butt 5 (some .boolean), Cond.methodLink RL 133 yL_spans, Cond.static yL_spans, Cond.codeWith yL_spans cL_spans 4 (some .int) [(0, 16, 19, 15)], Cond.methodLink RL 52 yX6_spans, Cond.instanceMethod yX6_spans]
def wsL_law0_r17 : List Cond := [Cond.selects RX6 yX6_spans yX6_spans, Cond.code yX6_spans cX6_spans 3 (some .boolean), Cond.methodLink RX6 170 yX5_keepsOwn, Cond.instanceMethod yX5_keepsOwn, Cond.selects RX5 yX5_keepsOwn yX5_keepsOwn, Cond.code yX5_keepsOwn cX5_keepsOwn 4 (some .boolean), Cond.methodLink RX6 174 yX5_keepsBeside, Cond.instanceMethod yX5_keepsBeside, Cond.selects RX5 yX5_keepsBeside yX5_keepsBeside, Cond.code yX5_keepsBeside cX5_keepsBeside 5 (some .boolean), Cond.methodLink RX5 86 Lib.Math.abs.name, Cond.static Lib.Math.abs.name, Cond.code Lib.Math.abs.name Lib.Math.abs.code 1 (some .int), Cond.methodLink RL 135 yX7_spans, Cond.instanceMethod yX7_spans, Cond.selects RX7 yX7_spans yX7_spans, Cond.code yX7_spans cX7_spans 4 (some .boolean), Cond.methodLink RX7 118 yX7_keeps, Cond.instanceMethod yX7_keeps, Cond.selects RX7 yX7_keeps yX7_keeps, Cond.code yX7_keeps cX7_keeps 9 (some .boolean), Cond.methodLink RL 136 yL_board, Cond.static yL_board, Cond.codeWith yL_board cL_board 7 (some .int) [(0, 11, 14, 15), (0, 11, 18, 25)]]
def wsL_law0_r18 : List Cond := [Cond.methodLink RL 56 yX6_board, Cond.instanceMethod yX6_board, Cond.selects RX6 yX6_board yX6_board, Cond.code yX6_board cX6_board 5 (some .int), Cond.classLink RX6 186 RX0, Cond.instantiable RX0 3, Cond.initialized RX0, Cond.methodLink RX6 180 yJx4a65c_size_8abf5, Cond.instanceMethod yJx4a65c_size_8abf5, Cond.selects RJx4a65c yJx4a65c_size_8abf5 yJx4a65c_size_8abf5, Cond.code yJx4a65c_size_8abf5 cJx4a65c_size_8abf5 1 (some .int), Cond.fieldLink RJx4a65c 48 "java/util/ArrayList" "size" "I", Cond.methodLink RX6 188 yX0_init, Cond.instanceMethod yX0_init, Cond.code yX0_init cX0_init 5 none, Cond.methodLink RX0 1 objectInit, Cond.fieldLink RX0 7 "PlankUnroll$Board" "w" "D", Cond.fieldLink RX0 13 "PlankUnroll$Board" "h" "D", Cond.classLink RX0 16 RJx4a65c, Cond.fieldLink RX0 19 "PlankUnroll$Board" "faults" "Ljava/util/ArrayList;", Cond.methodLink RX0 18 yJx4a65c_init_da8c8, Cond.methodLink RX6 191 yJx4a65c_add_9ea2d, Cond.instanceMethod yJx4a65c_add_9ea2d, Cond.selects RJx4a65c yJx4a65c_add_9ea2d yJx4a65c_add_9ea2d]
def wsL_law0_r19 : List Cond := [Cond.code yJx4a65c_add_9ea2d cJx4a65c_add_9ea2d 2 (some .boolean), Cond.fieldLink RJx4a65c 63 "java/util/ArrayList" "modCount" "I", Cond.sameField "java/util/ArrayList" "java/util/AbstractList" "modCount" "I", Cond.methodLink RJx4a65c 131 yJx4a65c_add_72be8, Cond.instanceMethod yJx4a65c_add_72be8, Cond.selects RJx4a65c yJx4a65c_add_72be8 yJx4a65c_add_72be8, Cond.code yJx4a65c_add_72be8 cJx4a65c_add_72be8 4 none, Cond.methodLink RJx4a65c 129 yJx4a65c_grow_d5877, Cond.instanceMethod yJx4a65c_grow_d5877, Cond.selects RJx4a65c yJx4a65c_grow_d5877 yJx4a65c_grow_d5877, Cond.code yJx4a65c_grow_d5877 cJx4a65c_grow_d5877 1 (some (.array (.object "java/lang/Object"))), Cond.methodLink RJx4a65c 69 yJx4a65c_grow_92f84, Cond.instanceMethod yJx4a65c_grow_92f84, Cond.selects RJx4a65c yJx4a65c_grow_92f84 yJx4a65c_grow_92f84, Cond.code yJx4a65c_grow_92f84 cJx4a65c_grow_92f84 4 (some (.array (.object "java/lang/Object"))), Cond.methodLink RJx4a65c 79 Lib.Math.max.name, Cond.classLink RJx4a65c 7 "java/lang/Object", Cond.methodLink RJx4a65c 73 yJ8_newLength_cabcc, Cond.static yJ8_newLength_cabcc, Cond.initialized RJ8, Cond.code yJ8_newLength_cabcc cJ8_newLength_cabcc 4 (some .int), Cond.methodLink RJ8 194 Lib.Math.max.name, Cond.constant RJ8 200 (2147483639), Cond.methodLink RJ8 201 yJ8_hugeLength_7cf53]
def wsL_law0_r20 : List Cond := [Cond.static yJ8_hugeLength_7cf53, Cond.code yJ8_hugeLength_7cf53 cJ8_hugeLength_7cf53 3 (some .int), Cond.methodLink RJx4a65c 66 yJ7_copyOf_1904c, Cond.static yJ7_copyOf_1904c, Cond.initialized RJ7, Cond.code yJ7_copyOf_1904c cJ7_copyOf_1904c 2 (some (.array (.object "java/lang/Object"))), Cond.methodLink RJ7 86 ⟨"java/lang/Object", "getClass", "()Ljava/lang/Class;"⟩, Cond.selects "[Ljava/lang/Object;" ⟨"java/lang/Object", "getClass", "()Ljava/lang/Class;"⟩ ⟨"java/lang/Object", "getClass", "()Ljava/lang/Class;"⟩, Cond.instanceMethod ⟨"java/lang/Object", "getClass", "()Ljava/lang/Class;"⟩, Cond.native ⟨"java/lang/Object", "getClass", "()Ljava/lang/Class;"⟩, Cond.methodLink RJ7 300 yJ7_copyOf_6403c, Cond.static yJ7_copyOf_6403c, Cond.code yJ7_copyOf_6403c cJ7_copyOf_6403c 4 (some (.array (.object "java/lang/Object"))), Cond.classLink RJ7 110 "[Ljava/lang/Object;", Cond.classLink RJ7 2 "java/lang/Object", Cond.methodLink RJ7 304 Lib.Math.min.name, Cond.methodLink RJ7 150 arraycopyName, Cond.native arraycopyName, Cond.static arraycopyName, Cond.initialized "java/lang/System", Cond.methodLink RL 139 yX7_board, Cond.instanceMethod yX7_board, Cond.selects RX7 yX7_board yX7_board, Cond.code yX7_board cX7_board 5 (some .int)]
def wsL_law0_r21 : List Cond := [Cond.fieldLink RX7 122 "PlankUnrollModel" "boards" "I", Cond.methodLink RL 140 yL_fault, Cond.static yL_fault, Cond.codeWith yL_fault cL_fault 12 (some .int) [(0, 24, 27, 13), (0, 24, 31, 15)], Cond.methodLink RL 60 yX6_fault, Cond.instanceMethod yX6_fault, Cond.selects RX6 yX6_fault yX6_fault, Cond.code yX6_fault cX6_fault 11 (some .boolean), Cond.constantDouble RX6 201 (4593671619917905920), Cond.fieldLink RX6 205 "PlankUnroll$Board" "faults" "Ljava/util/ArrayList;", Cond.classLink RX6 208 RX1, Cond.methodLink RX6 195 yX6_boardAt, Cond.instanceMethod yX6_boardAt, Cond.selects RX6 yX6_boardAt yX6_boardAt, Cond.code yX6_boardAt cX6_boardAt 2 (some (.object "PlankUnroll$Board")), Cond.classLink RX6 186 "PlankUnroll$Board", Cond.methodLink RX6 263 yJx4a65c_get_915e3, Cond.instanceMethod yJx4a65c_get_915e3, Cond.selects RJx4a65c yJx4a65c_get_915e3 yJx4a65c_get_915e3, Cond.code yJx4a65c_get_915e3 cJx4a65c_get_915e3 2 (some (.object "java/lang/Object")), Cond.methodLink RJx4a65c 118 yJ15_checkIndex_7cf53, Cond.static yJ15_checkIndex_7cf53, Cond.initialized RJ15, Cond.code yJ15_checkIndex_7cf53 cJ15_checkIndex_7cf53 2 (some .int)]
def wsL_law0_r22 : List Cond := [Cond.methodLink RJ15 105 yJ3_checkIndex_8e157, Cond.static yJ3_checkIndex_8e157, Cond.initialized RJ3, Cond.code yJ3_checkIndex_8e157 cJ3_checkIndex_8e157 3 (some .int), Cond.methodLink RJx4a65c 123 yJx4a65c_elementData_915e3, Cond.instanceMethod yJx4a65c_elementData_915e3, Cond.selects RJx4a65c yJx4a65c_elementData_915e3 yJx4a65c_elementData_915e3, Cond.code yJx4a65c_elementData_915e3 cJx4a65c_elementData_915e3 2 (some (.object "java/lang/Object")), Cond.methodLink RX6 210 yX1_init, Cond.methodLink RL 143 yX7_fault, Cond.instanceMethod yX7_fault, Cond.selects RX7 yX7_fault yX7_fault, Cond.code yX7_fault cX7_fault 12 (some .boolean), Cond.constantDouble RX7 125 (4593671619917905920), Cond.methodLink RL 144 yL_nest, Cond.static yL_nest, Cond.codeWith yL_nest cL_nest 5 (some .int) [(0, 10, 13, 13), (0, 10, 17, 25)], Cond.methodLink RL 64 yX6_nest, Cond.instanceMethod yX6_nest, Cond.selects RX6 yX6_nest yX6_nest, Cond.code yX6_nest cX6_nest 6 (some .int), Cond.fieldLink RX6 213 "PlankUnroll$Strip" "board" "I", Cond.fieldLink RX6 218 "PlankUnroll$Strip" "box" "LPlankUnroll$Box;", Cond.fieldLink RX6 226 "PlankUnroll$Strip" "eighths" "I"]
def wsL_law0_r23 : List Cond := [Cond.methodLink RX6 222 yX6_leastEighths, Cond.instanceMethod yX6_leastEighths, Cond.selects RX6 yX6_leastEighths yX6_leastEighths, Cond.code yX6_leastEighths cX6_leastEighths 6 (some .int), Cond.fieldLink RX6 273 "PlankUnroll$Box" "y" "D", Cond.fieldLink RX6 274 "PlankUnroll$Box" "h" "D", Cond.fieldLink RX6 277 "PlankUnroll$Board" "h" "D", Cond.constantDouble RX6 278 (4620693217682128896), Cond.fieldLink RX6 280 "PlankUnroll$Box" "x" "D", Cond.fieldLink RX6 281 "PlankUnroll$Box" "w" "D", Cond.fieldLink RX6 284 "PlankUnroll$Board" "w" "D", Cond.methodLink RX6 285 yX6_overlapped, Cond.instanceMethod yX6_overlapped, Cond.selects RX6 yX6_overlapped yX6_overlapped, Cond.code yX6_overlapped cX6_overlapped 8 (some (.object "PlankUnroll$Box")), Cond.classLink RX6 208 "PlankUnroll$Box", Cond.methodLink RX6 293 yX1_overlaps, Cond.instanceMethod yX1_overlaps, Cond.selects RX1 yX1_overlaps yX1_overlaps, Cond.code yX1_overlaps cX1_overlaps 2 (some .boolean), Cond.methodLink RX6 289 yX6_lastEighthsBefore, Cond.static yX6_lastEighthsBefore, Cond.code yX6_lastEighthsBefore cX6_lastEighthsBefore 3 (some .int), Cond.methodLink RL 147 yX7_nest]
def wsL_law0_r24 : List Cond := [Cond.instanceMethod yX7_nest, Cond.selects RX7 yX7_nest yX7_nest, Cond.code yX7_nest cX7_nest 8 (some .int), Cond.constantDouble RX7 127 (4620693217682128896), Cond.methodLink RX7 129 yX7_size, Cond.instanceMethod yX7_size, Cond.selects RX7 yX7_size yX7_size, Cond.code yX7_size cX7_size 10 (some .double), Cond.methodLink RX7 132 yX7_isOpen, Cond.instanceMethod yX7_isOpen, Cond.selects RX7 yX7_isOpen yX7_isOpen, Cond.code yX7_isOpen cX7_isOpen 12 (some .boolean), Cond.methodLink RL 148 yL_lies, Cond.static yL_lies, Cond.codeWith yL_lies cL_lies 5 (some .int) [(0, 10, 13, 13)], Cond.methodLink RL 68 yX6_lies, Cond.instanceMethod yX6_lies, Cond.selects RX6 yX6_lies yX6_lies, Cond.code yX6_lies cX6_lies 4 (some .int), Cond.methodLink RL 150 yX7_lies, Cond.instanceMethod yX7_lies, Cond.selects RX7 yX7_lies yX7_lies, Cond.code yX7_lies cX7_lies 3 (some .int), Cond.methodLink RL 151 yL_staves]
def wsL_law0_r25 : List Cond := [Cond.static yL_staves, Cond.codeWith yL_staves cL_staves 7 (some .int) [(0, 11, 14, 15)], Cond.methodLink RL 71 yX6_staves, Cond.instanceMethod yX6_staves, Cond.selects RX6 yX6_staves yX6_staves, Cond.code yX6_staves cX6_staves 9 (some .int), Cond.constant RX6 243 (100000), Cond.methodLink RX6 231 yX6_checkStaves, Cond.static yX6_checkStaves, Cond.code yX6_checkStaves cX6_checkStaves 4 none, Cond.methodLink RX6 234 yX6_circleOf, Cond.static yX6_circleOf, Cond.code yX6_circleOf cX6_circleOf 2 (some .double), Cond.constantDouble RX6 251 (4614256656552045848), Cond.methodLink RL 153 yX7_staves, Cond.instanceMethod yX7_staves, Cond.selects RX7 yX7_staves yX7_staves, Cond.code yX7_staves cX7_staves 6 (some .int), Cond.constantDouble RX7 140 (4614256656552045848), Cond.methodLink RX7 136 yX7_areStaves, Cond.static yX7_areStaves, Cond.code yX7_areStaves cX7_areStaves 4 (some .boolean), Cond.methodLink RL 154 yL_closes, Cond.static yL_closes]
def wsL_law0_r26 : List Cond := [Cond.codeWith yL_closes cL_closes 8 (some .int) [(0, 12, 15, 15)], Cond.methodLink RL 74 yX6_closes, Cond.instanceMethod yX6_closes, Cond.selects RX6 yX6_closes yX6_closes, Cond.code yX6_closes cX6_closes 6 (some .double), Cond.methodLink RL 157 yX7_closes, Cond.instanceMethod yX7_closes, Cond.selects RX7 yX7_closes yX7_closes, Cond.code yX7_closes cX7_closes 6 (some .double), Cond.constant RX7 142 (100000)]
def wsL_law0 : List Cond := (wsL_law0_r1 ++ (wsL_law0_r2 ++ (wsL_law0_r3 ++ (wsL_law0_r4 ++ (wsL_law0_r5 ++ (wsL_law0_r6 ++ (wsL_law0_r7 ++ (wsL_law0_r8 ++ (wsL_law0_r9 ++ (wsL_law0_r10 ++ (wsL_law0_r11 ++ (wsL_law0_r12 ++ (wsL_law0_r13 ++ (wsL_law0_r14 ++ (wsL_law0_r15 ++ (wsL_law0_r16 ++ (wsL_law0_r17 ++ (wsL_law0_r18 ++ (wsL_law0_r19 ++ (wsL_law0_r20 ++ (wsL_law0_r21 ++ (wsL_law0_r22 ++ (wsL_law0_r23 ++ (wsL_law0_r24 ++ (wsL_law0_r25 ++ wsL_law0_r26))))))))))))))))))))))))) ++ wsX60 ++ wsX70 ++ wsX40 ++ wsX50 ++ wsJx4a65c0 ++ wsX20 ++ wsX30 ++ wsX10 ++ wsX00 ++ ([] : List Cond)
def wsL_law : List Cond := wsL_law0 ++ (vx_atS RX6 68 "java/lang/IllegalArgumentException" ["java/lang/RuntimeException", "java/lang/Exception"]).filter goodWord ++ (vx_atS RX6 111 "java/lang/IndexOutOfBoundsException" ["java/lang/RuntimeException", "java/lang/Exception"]).filter goodWord ++ (vx_atS RX6 106 "java/lang/IllegalStateException" ["java/lang/RuntimeException", "java/lang/Exception"]).filter goodWord
theorem wsL_law_x0 : ∀ w ∈ (vx_atS RX6 68 "java/lang/IllegalArgumentException" ["java/lang/RuntimeException", "java/lang/Exception"]).filter goodWord, w ∈ lw_tbl := by decide +kernel
theorem wsL_law_x1 : ∀ w ∈ (vx_atS RX6 111 "java/lang/IndexOutOfBoundsException" ["java/lang/RuntimeException", "java/lang/Exception"]).filter goodWord, w ∈ lw_tbl := by decide +kernel
theorem wsL_law_x2 : ∀ w ∈ (vx_atS RX6 106 "java/lang/IllegalStateException" ["java/lang/RuntimeException", "java/lang/Exception"]).filter goodWord, w ∈ lw_tbl := by decide +kernel
theorem inlX0 : ∀ w ∈ wsX00, w ∈ wsL_law := fun _ h => List.mem_append_left _ (List.mem_append_left _ (List.mem_append_left _ (List.mem_append_left _ (List.mem_append_right _ h))))
theorem inlX1 : ∀ w ∈ wsX10, w ∈ wsL_law := fun _ h => List.mem_append_left _ (List.mem_append_left _ (List.mem_append_left _ (List.mem_append_left _ (List.mem_append_left _ (List.mem_append_right _ h)))))
theorem inlX2 : ∀ w ∈ wsX20, w ∈ wsL_law := fun _ h => List.mem_append_left _ (List.mem_append_left _ (List.mem_append_left _ (List.mem_append_left _ (List.mem_append_left _ (List.mem_append_left _ (List.mem_append_left _ (List.mem_append_right _ h)))))))
theorem inlX3 : ∀ w ∈ wsX30, w ∈ wsL_law := fun _ h => List.mem_append_left _ (List.mem_append_left _ (List.mem_append_left _ (List.mem_append_left _ (List.mem_append_left _ (List.mem_append_left _ (List.mem_append_right _ h))))))
theorem inlX4 : ∀ w ∈ wsX40, w ∈ wsL_law := fun _ h => List.mem_append_left _ (List.mem_append_left _ (List.mem_append_left _ (List.mem_append_left _ (List.mem_append_left _ (List.mem_append_left _ (List.mem_append_left _ (List.mem_append_left _ (List.mem_append_left _ (List.mem_append_left _ (List.mem_append_right _ h))))))))))
theorem inlX5 : ∀ w ∈ wsX50, w ∈ wsL_law := fun _ h => List.mem_append_left _ (List.mem_append_left _ (List.mem_append_left _ (List.mem_append_left _ (List.mem_append_left _ (List.mem_append_left _ (List.mem_append_left _ (List.mem_append_left _ (List.mem_append_left _ (List.mem_append_right _ h)))))))))
theorem inlX6 : ∀ w ∈ wsX60, w ∈ wsL_law := fun _ h => List.mem_append_left _ (List.mem_append_left _ (List.mem_append_left _ (List.mem_append_left _ (List.mem_append_left _ (List.mem_append_left _ (List.mem_append_left _ (List.mem_append_left _ (List.mem_append_left _ (List.mem_append_left _ (List.mem_append_left _ (List.mem_append_left _ (List.mem_append_right _ h))))))))))))
theorem inlX7 : ∀ w ∈ wsX70, w ∈ wsL_law := fun _ h => List.mem_append_left _ (List.mem_append_left _ (List.mem_append_left _ (List.mem_append_left _ (List.mem_append_left _ (List.mem_append_left _ (List.mem_append_left _ (List.mem_append_left _ (List.mem_append_left _ (List.mem_append_left _ (List.mem_append_left _ (List.mem_append_right _ h)))))))))))
theorem inJx145de : ∀ w ∈ wsJx145de0, w ∈ lw_tbl := by decide +kernel
theorem inJx8e188 : ∀ w ∈ wsJx8e1880, w ∈ lw_tbl := by decide +kernel
theorem inJxab1ab : ∀ w ∈ wsJxab1ab0, w ∈ lw_tbl := by decide +kernel
theorem inJ9 : ∀ w ∈ wsJ90, w ∈ lw_tbl := by decide +kernel
theorem inJ0 : ∀ w ∈ wsJ00, w ∈ lw_tbl := by decide +kernel
theorem inJ10 : ∀ w ∈ wsJ100, w ∈ lw_tbl := by decide +kernel
theorem inJxa1e45 : ∀ w ∈ wsJxa1e450, w ∈ lw_tbl := by decide +kernel
theorem inJxc12de : ∀ w ∈ wsJxc12de0, w ∈ lw_tbl := by decide +kernel
theorem inlJx4a65c : ∀ w ∈ wsJx4a65c0, w ∈ wsL_law := fun _ h => List.mem_append_left _ (List.mem_append_left _ (List.mem_append_left _ (List.mem_append_left _ (List.mem_append_left _ (List.mem_append_left _ (List.mem_append_left _ (List.mem_append_left _ (List.mem_append_right _ h))))))))
theorem inJ7 : ∀ w ∈ wsJ70, w ∈ lw_tbl := by decide +kernel
theorem inJx5ef63 : ∀ w ∈ wsJx5ef630, w ∈ lw_tbl := by decide +kernel
theorem inJxbd725 : ∀ w ∈ wsJxbd7250, w ∈ lw_tbl := by decide +kernel
theorem inJ15 : ∀ w ∈ wsJ150, w ∈ lw_tbl := by decide +kernel
theorem inJxf0a74 : ∀ w ∈ wsJxf0a740, w ∈ lw_tbl := by decide +kernel
theorem inJxa66e6 : ∀ w ∈ wsJxa66e60, w ∈ lw_tbl := by decide +kernel
theorem inJ8 : ∀ w ∈ wsJ80, w ∈ lw_tbl := by decide +kernel
theorem inJ3 : ∀ w ∈ wsJ30, w ∈ lw_tbl := by decide +kernel
abbrev vwCl : List vw_C := [(RJx4a65c, TJx4a65c, 3), (RX0, TX0, 3), (RX1, TX1, 4), (RX2, TX2, 3), (RX3, TX3, 3), (RX4, TX4, 1), (RX5, TX5, 9), (RX6, TX6, 6), (RX7, TX7, 18)]
/-! ===== END ===== -/
end
section
/-! THE BASE OF ALL WALKS: one kind of contract for every method (it may throw, and it may draw), its calls, its ends, its heap. -/
section XBase
abbrev xc (G : va_G) (a : Nat) (e : va_E) (H : Heap) : Prop := va_at G vwCl (a, e) H
theorem x1 {G : va_G} {a : Nat} {e : va_E} {H : Heap} (h : xc G a e H) : va_P G vwCl [(a, e)] H := by
  intro k q hk
  match k, hk with
  | 0, hk => cases hk; exact h
  | k + 1, hk => simp at hk
theorem xc.kept {G : va_G} {a : Nat} {e : va_E} {H H1 : Heap} (h : xc G a e H) (hq : H1[a]? = H[a]?) : xc G a e H1 := (x1 h).kept (fun k q hk => by
  match k, hk with
  | 0, hk => cases hk; exact hq
  | k + 1, hk => simp at hk) 0 _ rfl
theorem xc.lt {G : va_G} {a : Nat} {e : va_E} {H : Heap} (h : xc G a e H) : a < H.size := vx_lt (x1 h) (k := 0) rfl
/-- what is new since the law's start -/
abbrev xA (b0 : Nat) : Nat → Prop := fun q => b0 ≤ q
/-- the array classes, in one order for all walks -/
abbrev xTy (ty : Nat → ClassId) : List (ClassId × FieldType) := [(ty 0, .double), (ty 1, .int), (ty 2, .boolean), (ty 3, .long), (ty 4, .object "PlankUnroll$Place"), (ty 5, .object "PlankUnroll$Row"), (ty 6, .object "PlankUnroll$Strip"), (ty 7, .object "java/lang/Object")]
/-- the nest mates' private methods that are called -/
def xNest : List (String × Nat × MethodName) := [(RX5, 55, yX6_apart), (RX5, 78, yX6_root), (RX6, 44, yX2_init), (RX4, 15, yX3_init)]
/-- the texts of the exceptions -/
def xTexts : List (Nat × String) := [(66, "a number of a place is not -1000 .. 1000"), (104, "two corners lie too near for a triangle on them"), (109, "no such corne\x72"), (112, "no such axis"), (168, "a span is not 1 .. 8"), (178, "a side of a board is not 1 .. 1000"), (184, "there are 4 boards"), (199, "a fault does not lie at 0 .. 1000"), (203, "a side of a fault is not 0.125 .. 1000"), (216, "the strip lies on a board"), (229, "neither the board nor its k is asked fo\x72"), (244, "a number of staves is not 1 .. 100000"), (253, "no such frame"), (255, "no such cell"), (257, "no such row"), (259, "no such strip"), (261, "no such board"), (267, "the strip was not unrolled since a place was told"), (269, "a stave's width is not 0.125 .. 1000"), (271, "a diameter is not 0 .. 1000")]
/-- the words of a throw that the methods' lists don't hold -/
def xFaceL : List Cond := [.castable "java/lang/IndexOutOfBoundsException" "java/lang/IndexOutOfBoundsException", .castable "java/lang/IllegalArgumentException" "java/lang/IllegalArgumentException", .castable "java/lang/IllegalStateException" "java/lang/IllegalStateException", .declares ⟨"java/lang/RuntimeException", "<init>", "(Ljava/lang/String;)V"⟩, .declares ⟨"java/lang/Exception", "<init>", "(Ljava/lang/String;)V"⟩, .declares ⟨"java/lang/Throwable", "<init>", "(Ljava/lang/String;)V"⟩]
/-- the list's own beginning, an empty row; the rows of references that are made; what may lie in a row of objects -/
def xKC (G : va_G) (ty : Nat → ClassId) (b0 : Nat) (U : State) : Prop :=
  va_Z "java/util/ArrayList" "DEFAULTCAPACITY_EMPTY_ELEMENTDATA" "[Ljava/lang/Object;" (.ref (ty 8)) (xA b0) U U.heap ∧ xc G (ty 8) (.inl (ty 7, 0, .inr (.inr (.inr (.inr (fun _ => none)))))) U.heap ∧ ty 8 < b0 ∧
  (∀ C ∈ ["PlankUnroll$Place", "PlankUnroll$Row", "PlankUnroll$Strip", "java/lang/Object"], va_AO C U) ∧ (∀ C ∈ ["PlankUnroll$Board", "PlankUnroll$Box"], va_Nw (.castable C "java/lang/Object") U)
theorem xKC.to {G : va_G} {ty : Nat → ClassId} {b0 : Nat} {s U : State} {locs : List Loc} (hW : s.WarmedH U.vm) (hS : va_S (xA b0) s.heap U.heap locs) (h : xKC G ty b0 s) : xKC G ty b0 U := by
  obtain ⟨h1, h2, h3, h4, h5⟩ := h
  exact ⟨va_Z.moved hW.alike (h1.kept hS.2.1), h2.kept (hS.2.1 _ h2.lt (Nat.not_le.mpr h3)), h3, fun C hC => va_AO.moved hW.alike (h4 C hC), fun C hC => va_Nw.warmC hW (h5 C hC)⟩
theorem xKC.at {G : va_G} {ty : Nat → ClassId} {b0 : Nat} {s U : State} (hv : U.vm = s.vm) (hh : U.heap = s.heap) (h : xKC G ty b0 s) : xKC G ty b0 U := by
  have hA : s.vm.Alike U.vm := by rw [hv]; exact Vm.Alike.refl _
  obtain ⟨h1, h2, h3, h4, h5⟩ := h
  refine ⟨by rw [hh]; exact va_Z.moved hA h1, by rw [hh]; exact h2, h3, fun C hC => va_AO.moved hA (h4 C hC), fun C hC => va_Nw.same rfl hv.symm (h5 C hC)⟩
/-- what every walk knows of the world around it -/
def xK (G : va_G) (ty : Nat → ClassId) (b0 : Nat) (U : State) : Prop :=
  va_K G vwCl (xTy ty) U ∧ vx_Zq Bundle.tN "UNASSIGNED_STACK" Bundle.steD (xA b0) U U.heap ∧ vx_Zq Bundle.tN "SUPPRESSED_SENTINEL" Bundle.listD (xA b0) U U.heap ∧
  (∀ q ∈ xNest, va_Nw (.methodLinkNest q.1 q.2.1 q.2.2 RX6) U) ∧ (∀ q ∈ xTexts, ∃ a, vk_R RX6 q.1 q.2 a U) ∧ (∀ w ∈ xFaceL, va_Nw w U) ∧ xKC G ty b0 U
theorem xFace_keeps : ∀ w ∈ xFaceL, w.keepsFace = true := by decide +kernel
theorem xFace_tabs : ∀ w ∈ xFaceL, w.onTables = true := by decide +kernel
theorem xNw_face {w : Cond} (h1 : w.keepsFace = true) (h2 : w.onTables = true) {s U : State} (hW : s.WarmedH U.vm) (h : va_Nw w s) : va_Nw w U :=
  va_tabs h2 (rfl : (s.setVm U.vm).vm = U.vm) (Cond.before_shiftedFace (args := #[]) (State.Shifted.of_warmed hW) w h1 h)
theorem xK.to {G : va_G} {ty : Nat → ClassId} {b0 : Nat} {s U : State} {locs : List Loc} (hW : s.WarmedH U.vm) (hS : va_S (xA b0) s.heap U.heap locs) (h : xK G ty b0 s) : xK G ty b0 U := by
  obtain ⟨h1, h2, h3, h4, h5, h6, h7⟩ := h
  exact ⟨va_K.moved hW.alike h1, vx_Zq.moved hW.alike (h2.kept hS.2.1), vx_Zq.moved hW.alike (h3.kept hS.2.1), fun q hq => va_Nw.warmM hW (h4 q hq), fun q hq => (h5 q hq).elim fun a ha => ⟨a, vk_R.warm hW ha⟩, fun w hw => xNw_face (xFace_keeps w hw) (xFace_tabs w hw) hW (h6 w hw), h7.to hW hS⟩
theorem xK.calling {G : va_G} {ty : Nat → ClassId} {b0 : Nat} {U : State} {g : JFrame} {mk : MethodId} {a : Array Value} (h : xK G ty b0 U) : xK G ty b0 (U.calling g mk a) := by
  have hh : (U.calling g mk a).heap = U.heap := rfl
  have hv : (U.calling g mk a).vm = U.vm := rfl
  obtain ⟨h1, h2, h3, h4, h5, h6, h7⟩ := h
  exact ⟨va_K.moved (Vm.Alike.refl U.vm) h1, vx_Zq.moved (Vm.Alike.refl U.vm) h2, vx_Zq.moved (Vm.Alike.refl U.vm) h3, fun q hq => va_Nw.same rfl hv.symm (h4 q hq), fun q hq => (h5 q hq).elim fun a ha => ⟨a, vk_R.same hv ha⟩, fun w hw => va_Nw.same (xFace_tabs w hw) hv.symm (h6 w hw), h7.at hv hh⟩
theorem xK.drawn {G : va_G} {ty : Nat → ClassId} {b0 : Nat} {U : State} (h : xK G ty b0 U) (d : Drawn) : xK G ty b0 (U.setDrawn d) := by
  obtain ⟨h1, h2, h3, h4, h5, h6, h7⟩ := h
  exact ⟨va_K.moved (Vm.Alike.refl U.vm) h1, vx_Zq.moved (Vm.Alike.refl U.vm) h2, vx_Zq.moved (Vm.Alike.refl U.vm) h3, fun q hq => va_Nw.same (u := U) rfl rfl (h4 q hq), fun q hq => (h5 q hq).elim fun a ha => ⟨a, vk_R.same (u := U) rfl ha⟩, fun w hw => va_Nw.same (u := U) (xFace_tabs w hw) rfl (h6 w hw), h7.at rfl rfl⟩
/-- the premise of a contract: the arguments, the heap, the world around -/
def xPc (G : va_G) (ty : Nat → ClassId) (b0 : Nat) (av : List Value) (H : Heap) : Array Value → State → Prop := fun a U => a = av.toArray ∧ U.heap = H ∧ xK G ty b0 U ∧ b0 ≤ H.size
theorem xPc.blind (G : va_G) (ty : Nat → ClassId) (b0 : Nat) (av : List Value) (H : Heap) : FrameBlind (xPc G ty b0 av H) := fun a U g mk h => ⟨h.1, h.2.1, xK.calling h.2.2.1, h.2.2.2⟩
def xQ (b0 : Nat) (post : Option Value → Heap → Prop) : Array Value → State → Outcome → State → Prop := fun _ st oc t => (∃ v, oc = .returned v ∧ post v t.heap) ∧ va_F (xA b0) st t
def xX (b0 : Nat) (px : String → Heap → Prop) : String → State → State → Prop := fun E st t => px E t.heap ∧ va_F (xA b0) st t
/-- A METHOD'S CONTRACT: from the heap H it returns with post, or throws with px; it may draw -/
def xMet (l : Launch) (y : MethodName) (ws : List Cond) (rm : Room) (G : va_G) (ty : Nat → ClassId) (b0 : Nat) (av : List Value) (H : Heap) (post : Option Value → Heap → Prop) (px : String → Heap → Prop) : Prop :=
  MetFree l y (headSpec ws rm) (xPc G ty b0 av H) (fun _ _ _ _ _ => True) (fun a st o t => ∃ d : Drawn, st.drawn.sameBut d lw_cs ∧ vx_Q (xQ b0 post) (xX b0 px) rm.cells rm.slots (xA b0) a (st.setDrawn d) o t)
/-- what a body owes at its end -/
def xMQ (below : List Frame) (post : Option Value → Heap → Prop) (px : String → Heap → Prop) (a : Array Value) (s : State) (rm : Room) (b0 : Nat) : State → Prop := fun t =>
  ∃ d : Drawn, s.drawn.sameBut d lw_cs ∧ vx_MQ below (xQ b0 post) (xX b0 px) a (s.setDrawn d) rm.cells rm.slots (xA b0) t
theorem xofW {l : Launch} {y : MethodName} {ws ws' : List Cond} {rm : Room} {G : va_G} {ty : Nat → ClassId} {b0 : Nat} {av : List Value} {H : Heap} {post : Option Value → Heap → Prop} {px : String → Heap → Prop} {cc : ByteArray} {maxL : Nat} {ret : Option FieldType}
    (hy : plainName y.cls = true) (hw : ws = Cond.code y cc maxL ret :: ws')
    (body : ∀ p e s m below meth c s₁, BodyLoose p l y (headSpec ws rm) cc maxL ret e s m av.toArray below meth c s₁ → c.maxLocals = maxL → (∀ x ∈ c.exceptionTable.toList, False) → s.heap = H → xK G ty b0 s → b0 ≤ H.size → s.drawn.sameBut s.drawn lw_cs →
      W p l e (headSpec ws rm).room (s.setDrawn s.drawn) m av.toArray below meth c H [] 0 0 (xMQ below post px av.toArray s rm b0) (entryFrame m av.toArray maxL)) : xMet l y ws rm G ty b0 av H post px := by
  refine MetFree.of_bodyS (code := cc) (maxLocals := maxL) (ret := ret) hy ?_ ?_
  · intro args s m h hn
    obtain ⟨meth, c, h1, h2, h3, h4, h5, h6, -, -⟩ := Cond.code_spec hn (atoms_spec (ws := ws) h _ (by rw [hw]; exact List.mem_cons_self))
    exact ⟨meth, c, h1, h2, h3, h4, h5, h6⟩
  · intro p e s m args below meth c s₁ B hml hP _
    obtain ⟨rfl, hH, hK, hb0⟩ := hP
    have hh0 : s₁.heap = H := by rw [← hH, B.state]; rfl
    have ht : ∀ x ∈ c.exceptionTable.toList, False := by
      obtain ⟨meth9, c9, h1, h2, -, -, -, -, h7, -⟩ := Cond.code_spec B.named (atoms_spec (ws := ws) B.pre _ (by rw [hw]; exact List.mem_cons_self))
      cases Option.some.inj (h1.symm.trans B.method)
      cases Option.some.inj (h2.symm.trans (Stand.of_body B).code)
      intro x hx
      rw [Array.isEmpty_iff.mp h7] at hx
      cases hx
    have X0 : Stand p l e (headSpec ws rm).room (s.setDrawn s.drawn) m av.toArray below meth c s₁ [] 0 0 := Stand.of_body B
    obtain ⟨t, a1, d, hd, o, b1, b2, b3⟩ := body p e s m below meth c s₁ B hml ht hH hK hb0 (Drawn.sameBut.refl _ _) s₁ hh0 X0
    exact ⟨t, o, a1, b1, b2, d, hd, b3⟩
end XBase
section XEnds
variable {p : Program} {l : Launch} {e : Env} {R : Room} {s : State} {m : MethodId} {args : Array Value} {below : List Frame} {meth : Method} {c : Code} {H : Heap} {locs : List Loc} {cells slots : Nat} {Q : State → Prop}
variable {rm : Room} {b0 : Nat} {post : Option Value → Heap → Prop} {px : String → Heap → Prop} {d0 : Drawn} {cc : ByteArray} {pc : Nat} {ls : Array Slot} {rest : List Value}
theorem xend {g : JFrame} (hd0 : s.drawn.sameBut d0 lw_cs) (k : W p l e R (s.setDrawn d0) m args below meth c H locs cells slots (vx_MQ below (xQ b0 post) (xX b0 px) args (s.setDrawn d0) rm.cells rm.slots (xA b0)) g) : W p l e R (s.setDrawn d0) m args below meth c H locs cells slots (xMQ below post px args s rm b0) g := by
  intro T hT X
  obtain ⟨t, a, b⟩ := k T hT X
  exact ⟨t, a, d0, hd0, b⟩
theorem xend_x {g : JFrame} {q : Addr} (hd0 : s.drawn.sameBut d0 lw_cs) (k : vx_W p l e R (s.setDrawn d0) m args below meth c H locs cells slots (vx_MQ below (xQ b0 post) (xX b0 px) args (s.setDrawn d0) rm.cells rm.slots (xA b0)) g q) : vx_W p l e R (s.setDrawn d0) m args below meth c H locs cells slots (xMQ below post px args s rm b0) g q := by
  intro T hT X
  obtain ⟨t, a, b⟩ := k T hT X
  exact ⟨t, a, d0, hd0, b⟩
theorem xq_of {t : State} {v : Option Value} (ht : t.heap = H) (hS : va_S (xA b0) s.heap H locs) (hp : post v H) : xQ b0 post args s (.returned v) t := ⟨⟨v, rfl, by rw [ht]; exact hp⟩, hS.F ht⟩
theorem xiret {v : Int32} (hd0 : s.drawn.sameBut d0 lw_cs) (hexec : p.tables.exec = Jvm.exec) (hb : c.code = cc) (hr : meth.sig.returnType = some .int) (hlocks : meth.locks = false) (hS : va_S (xA b0) s.heap H locs) (hc : cells ≤ rm.cells) (hs : slots ≤ rm.slots) (hdg : decode cc pc = .ok (.ireturn, 1)) (hp : post (some (.int v)) H) : W p l e R (s.setDrawn d0) m args below meth c H locs cells slots (xMQ below post px args s rm b0) (F0 m pc ls [.int v]) :=
  xend hd0 (W.widen hc hs (vx_ret (W.iret hexec hb hr (fun _ ht _ => xq_of (s := s.setDrawn d0) ht hS hp) hS.2.2 hdg hlocks)))
theorem xzret {v : Int32} {rt : FieldType} (hn : narrow rt (.int v) = .int v) (hd0 : s.drawn.sameBut d0 lw_cs) (hexec : p.tables.exec = Jvm.exec) (hb : c.code = cc) (hr : meth.sig.returnType = some rt) (hlocks : meth.locks = false) (hS : va_S (xA b0) s.heap H locs) (hc : cells ≤ rm.cells) (hs : slots ≤ rm.slots) (hdg : decode cc pc = .ok (.ireturn, 1)) (hp : post (some (.int v)) H) : W p l e R (s.setDrawn d0) m args below meth c H locs cells slots (xMQ below post px args s rm b0) (F0 m pc ls [.int v]) :=
  xend hd0 (W.widen hc hs (vx_ret (W.zret hexec hb hr hn (fun _ ht _ => xq_of (s := s.setDrawn d0) ht hS hp) hS.2.2 hdg hlocks)))
theorem xdret {v : UInt64} (hd0 : s.drawn.sameBut d0 lw_cs) (hexec : p.tables.exec = Jvm.exec) (hb : c.code = cc) (hr : meth.sig.returnType = some .double) (hlocks : meth.locks = false) (hS : va_S (xA b0) s.heap H locs) (hc : cells ≤ rm.cells) (hs : slots ≤ rm.slots) (hdg : decode cc pc = .ok (.dreturn, 1)) (hp : post (some (.double v)) H) : W p l e R (s.setDrawn d0) m args below meth c H locs cells slots (xMQ below post px args s rm b0) (F0 m pc ls [.double v]) :=
  xend hd0 (W.widen hc hs (vx_ret (W.dret hexec hb hr (fun _ ht _ => xq_of (s := s.setDrawn d0) ht hS hp) hS.2.2 hdg hlocks)))
theorem xvret (hd0 : s.drawn.sameBut d0 lw_cs) (hexec : p.tables.exec = Jvm.exec) (hb : c.code = cc) (hr : meth.sig.returnType = none) (hlocks : meth.locks = false) (hS : va_S (xA b0) s.heap H locs) (hc : cells ≤ rm.cells) (hs : slots ≤ rm.slots) (hdg : decode cc pc = .ok (.return_, 1)) (hp : post none H) : W p l e R (s.setDrawn d0) m args below meth c H locs cells slots (xMQ below post px args s rm b0) (F0 m pc ls []) :=
  xend hd0 (W.widen hc hs (vx_ret (W.vret hexec hb hr (fun _ ht _ => xq_of (s := s.setDrawn d0) ht hS hp) hS.2.2 hdg hlocks)))
theorem xaret {v : Value} {rt : FieldType} (hrt : (∃ n, rt = .object n) ∨ ∃ t, rt = .array t) (hv : v = .null ∨ ∃ a, v = .ref a) (hd0 : s.drawn.sameBut d0 lw_cs) (hexec : p.tables.exec = Jvm.exec) (hb : c.code = cc) (hr : meth.sig.returnType = some rt) (hlocks : meth.locks = false) (hS : va_S (xA b0) s.heap H locs) (hc : cells ≤ rm.cells) (hs : slots ≤ rm.slots) (hdg : decode cc pc = .ok (.areturn, 1)) (hp : post (some v) H) : W p l e R (s.setDrawn d0) m args below meth c H locs cells slots (xMQ below post px args s rm b0) (F0 m pc ls [v]) :=
  xend hd0 (W.widen hc hs (vx_ret (W.aret hexec hb hr hrt hv (fun _ ht _ => xq_of (s := s.setDrawn d0) ht hS hp) hS.2.2 hdg hlocks)))
/-- thrown by a callee, not caught here -/
theorem xout {E : String} {ce : Cell} {q : Addr} (hd0 : s.drawn.sameBut d0 lw_cs) (hout : ∀ x ∈ c.exceptionTable.toList, False) (hlocks : meth.locks = false) (hcell : H[q]? = some ce) (hv : ce.vm = .none) (hcl : s.vm.findClass E = some ce.cls) (hS : va_S (xA b0) s.heap H locs) (hc : cells ≤ rm.cells) (hs : slots ≤ rm.slots) (hp : px E H) : vx_W p l e R (s.setDrawn d0) m args below meth c H locs cells slots (xMQ below post px args s rm b0) (F0 m pc ls rest) q :=
  xend_x hd0 (vx_out (fun x hx => (hout x hx).elim) hlocks hcell hv hcl (fun t ht _ => ⟨by rw [ht]; exact hp, va_S.F (s := s.setDrawn d0) hS ht⟩) hS.2.2 hc hs)
end XEnds
section XBack
variable {l : Launch} {R : Room} {p : Program} {e : Env} {below : List Frame} {s : State} {sargs : Array Value} {y : MethodName} {len W9 : Nat}
/-- a callee that returns or throws, over another record of draws -/
def xBack (l : Launch) (R : Room) (p : Program) (e : Env) (below : List Frame) (s : State) (sargs : Array Value) (y : MethodName) (len W9 : Nat)
    (Pre : Pt → Array Value → Prop) (Post : Pt → Array Value → Option Value → Pt → Prop) (PostX : Pt → Array Value → Addr → Pt → Prop) : Prop :=
  ∀ (m : MethodId) (meth : Method) (c : Code) (A : Pt) (g : JFrame) (ig : Instr) (mk : MethodId) (a : Array Value),
    Stand p l e R s m sargs below meth c A.U A.locs A.cells A.slots → g.method = m → g.locals.size = c.maxLocals → decode c.code g.pc = .ok (ig, len) →
    2 * g.monitorRoom + (g.stack.map fun v => v.category).sum ≤ W9 → A.U.methodNamed? y = some mk → Pre A a →
    (∃ (v : Option Value) (B : Pt) (d : Drawn), s.drawn.sameBut d lw_cs ∧ Stand p l e R (s.setDrawn d) m sargs below meth c B.U B.locs B.cells B.slots ∧ Post ⟨A.U.setDrawn d, A.locs, A.cells, A.slots⟩ a v B ∧
      Steps p.tables e below (doInvoke e (A.U.setTop g) [] mk a).1 (B.U.setTop { g with pc := g.pc + len, stack := v.toList ++ g.stack })) ∨
    (∃ (q : Addr) (B : Pt) (d : Drawn), s.drawn.sameBut d lw_cs ∧ Stand p l e R (s.setDrawn d) m sargs below meth c B.U B.locs B.cells B.slots ∧ PostX ⟨A.U.setDrawn d, A.locs, A.cells, A.slots⟩ a q B ∧
      Steps p.tables e below (doInvoke e (A.U.setTop g) [] mk a).1 ((B.U.setTop g).pushFrame (.throwing q)))
theorem xback {ws : List Cond} {rm : Room} {G : va_G} {ty : Nat → ClassId} {b0 : Nat} {av : List Value} {H : Heap} {post : Option Value → Heap → Prop} {px : String → Heap → Prop} {bytes : ByteArray} {maxL : Nat} {ret : Option FieldType}
    (hM : xMet l y ws rm G ty b0 av H post px)
    (hframes : rm.frames + 1 ≤ R.frames) (hlocals : W9 + (maxL + 11) + rm.locals ≤ R.locals)
    (hws : ∀ w ∈ ws, ∀ a' U, s.WarmedH U.vm → w.before a' U = true) (hcode : Cond.code y bytes maxL ret ∈ ws) (hinit : ∀ a' U, s.WarmedH U.vm → (Cond.initialized y.cls).before a' U = true) :
    xBack l R p e below s sargs y len W9 (PreOf R rm.cells rm.slots (xPc G ty b0 av H)) (PostOf (xQ b0 post) rm.cells rm.slots (xA b0)) (vx_Post (xX b0 px) rm.cells rm.slots (xA b0)) := by
  intro m meth c A g ig mk a X hg hsize hdg hW hn hp
  have h1 : (headSpec ws rm).pre.before a A.U = true := atoms_intro fun w hw => hws w hw _ _ X.warmed
  have h2 : (Cond.code y bytes maxL ret).before a A.U = true := hws _ hcode _ _ X.warmed
  have h3 : (Cond.initialized y.cls).before a A.U = true := hinit _ _ X.warmed
  have h4 : A.cells + (headSpec ws rm).room.cells ≤ R.cells := hp.1
  have h5 : A.slots + (headSpec ws rm).room.slots ≤ R.slots := hp.2.1
  have hPc : xPc G ty b0 av H a (A.U.calling g mk a) := xPc.blind G ty b0 av H _ _ _ _ hp.2.2
  obtain ⟨U, Ls, c0, s0⟩ := A
  dsimp only [Pt.U, Pt.locs, Pt.cells, Pt.slots] at h1 h2 h3 h4 h5 X hn hPc ⊢
  obtain ⟨methY, cY, hmY, hcY, -, hlY, -, -, -, -⟩ := Cond.code_spec hn h2
  obtain ⟨kY, hkY, -⟩ := className_of_methodNamed hn
  have hinitY : kY.init = .initialized := Cond.initialized_spec (findClass_of_methodNamed hn) hkY h3
  have h : At U g.method c below := by rw [hg]; exact X.here
  have hlocals9 : W9 + (maxL + 11) + (headSpec ws rm).room.locals ≤ R.locals := hlocals
  have happ : (headSpec ws rm).appliesLoose y e.platform (U.calling g mk a) = true :=
    Spec.appliesLoose_calling (g := g) h hdg hn hkY hinitY
      (X.room_calling (g := g) (R' := (headSpec ws rm).room) hsize hmY hcY hframes (by rw [hlY]; omega) h4 h5) h1
  obtain ⟨mid, hmid⟩ := h.above
  have hfr : (U.setTop g).frames = (.java g :: mid) ++ below := by rw [State.frames_setTop' g h.top, hmid]; rfl
  obtain ⟨o, s₂, hsteps, -, hend, hq⟩ := Steps.callFree hM p X.admits X.cas X.clock (acts := []) hfr happ hPc trivial
  have hq' : ∃ d : Drawn, (U.calling g mk a).drawn.sameBut d lw_cs ∧ vx_Q (xQ b0 post) (xX b0 px) rm.cells rm.slots (xA b0) a ((U.calling g mk a).setDrawn d) o s₂ := hq
  rw [State.frames_setTop' g h.top] at hend
  obtain ⟨d, hd, hqd⟩ := hq'
  have hcdr : (U.calling g mk a).drawn = s.drawn := by
    rw [State.calling_eq h.top]
    exact X.drawn_eq
  rw [hcdr] at hd
  have h' : At (U.setDrawn d) g.method c below := h.setDrawn d
  have X' : Stand p l e R (s.setDrawn d) m sargs below meth c (U.setDrawn d) Ls c0 s0 := X.drew d
  have hcd : (U.calling g mk a).setDrawn d = (U.setDrawn d).calling g mk a := by
    rw [State.calling_eq h.top, State.calling_eq h'.top]
    rfl
  rw [hcd] at hqd
  obtain ⟨g₀, hg0⟩ := Option.isSome_iff_exists.mp h.top
  obtain ⟨r, hr⟩ := State.topJava?_eq_some.mp hg0
  have hrV : (U.setDrawn d).frames = .java g₀ :: r := hr
  have hr' : (({ U.setDrawn d with heap := s₂.heap, slotsUsed := s₂.slotsUsed } : State).setVm s₂.vm).frames = .java g₀ :: r := hr
  rcases hqd with ⟨hqc, L, hfe, hL⟩ | ⟨q, rfl, E, ce, L, hx, hce, hcv, hcl, hW₂, hsm, hL⟩
  · obtain ⟨⟨v, rfl⟩, hW₂, e2, q2, q3, q4, q5, q6⟩ := id hfe
    have e3 : s₂ = ({ ((U.setDrawn d).calling g mk a).setFrames s₂.frames with heap := s₂.heap, slotsUsed := s₂.slotsUsed } : State).setVm s₂.vm := by
      have : s₂ = ({ s₂ with vm := ((U.setDrawn d).calling g mk a).vm } : State).setVm s₂.vm := rfl
      rw [e2] at this
      exact this
    obtain ⟨c₂, i₂, len₂, hc₂, hd₂, hf₂⟩ := hend
    have hW' : (U.setDrawn d).WarmedH s₂.vm := hW₂
    have hcc : c₂ = c := by
      have h1 : s₂.code? g.method = (U.setDrawn d).code? g.method := by
        rw [State.code?_eq, State.code?_eq, hW'.alike.method?]
      exact Option.some.inj (hc₂.symm.trans (h1.trans h'.code))
    subst hcc
    have hlen : len₂ = len := by rw [hdg] at hd₂; cases hd₂; rfl
    subst hlen
    have hs₂ : s₂ = (({ U.setDrawn d with heap := s₂.heap, slotsUsed := s₂.slotsUsed } : State).setVm s₂.vm).setTop { g with pc := g.pc + len₂, stack := v.toList ++ g.stack } := by
      refine e3.trans ?_
      rw [hf₂, State.calling_eq h'.top, State.setFrames_setFrames, State.setTop_of_frames _ hr', hr]
      rfl
    have hsame : (U.setDrawn d).sameButNew ({ U.setDrawn d with heap := s₂.heap, slotsUsed := s₂.slotsUsed } : State) L rm.cells rm.slots := by
      refine ⟨?_, q2, q3, q4, q5, q6⟩
      obtain ⟨t, ht, -⟩ := State.frames_cons hrV
      show ({ U.setDrawn d with heap := s₂.heap, slotsUsed := s₂.slotsUsed } : State) = { (U.setDrawn d).setFrames (U.setDrawn d).frames with heap := s₂.heap, slotsUsed := s₂.slotsUsed }
      rw [State.setFrames_self ht]
    subst hg
    refine Or.inl ⟨v, ⟨(({ U.setDrawn d with heap := s₂.heap, slotsUsed := s₂.slotsUsed } : State).setVm s₂.vm), Ls ++ L, c0 + rm.cells, s0 + rm.slots⟩, d, hd,
      ⟨X'.admits, X'.cas, X'.clock, X'.frames, X'.room, X'.hears, X'.method, X'.code, (X'.here.setHeapUsed s₂.heap s₂.slotsUsed).setVm hW'.alike, X'.tail, State.WarmedH.trans X'.warmed hW', X'.limits, X'.bytes, X'.same.trans (hsame.setVm (s.setDrawn d).vm)⟩,
      ⟨g, mk, s₂, L, rfl, rfl, hqc, rfl, hL, rfl, rfl⟩, ?_⟩
    show Steps p.tables e below _ ((({ U.setDrawn d with heap := s₂.heap, slotsUsed := s₂.slotsUsed } : State).setVm s₂.vm).setTop { g with pc := g.pc + len₂, stack := v.toList ++ g.stack })
    rw [← hs₂]
    exact hsteps
  · obtain ⟨e2, q2, q3, q4, q5, q6⟩ := id hsm
    have e3 : s₂ = ({ ((U.setDrawn d).calling g mk a).setFrames s₂.frames with heap := s₂.heap, slotsUsed := s₂.slotsUsed } : State).setVm s₂.vm := by
      have : s₂ = ({ s₂ with vm := ((U.setDrawn d).calling g mk a).vm } : State).setVm s₂.vm := rfl
      rw [e2] at this
      exact this
    have hf₂ : s₂.frames = .throwing q :: .java g :: (U.setDrawn d).frames.tail := hend
    have hW' : (U.setDrawn d).WarmedH s₂.vm := hW₂
    have hs₂ : s₂ = ((({ U.setDrawn d with heap := s₂.heap, slotsUsed := s₂.slotsUsed } : State).setVm s₂.vm).setTop g).pushFrame (.throwing q) := by
      refine e3.trans ?_
      rw [hf₂, State.calling_eq h'.top, State.setFrames_setFrames, State.pushFrame, State.frames_setTop _ hr', State.setTop_of_frames _ hr', State.setFrames_setFrames, hrV]
      rfl
    have hsame : (U.setDrawn d).sameButNew ({ U.setDrawn d with heap := s₂.heap, slotsUsed := s₂.slotsUsed } : State) L rm.cells rm.slots := by
      refine ⟨?_, q2, q3, q4, q5, q6⟩
      obtain ⟨t, ht, -⟩ := State.frames_cons hrV
      show ({ U.setDrawn d with heap := s₂.heap, slotsUsed := s₂.slotsUsed } : State) = { (U.setDrawn d).setFrames (U.setDrawn d).frames with heap := s₂.heap, slotsUsed := s₂.slotsUsed }
      rw [State.setFrames_self ht]
    subst hg
    refine Or.inr ⟨q, ⟨(({ U.setDrawn d with heap := s₂.heap, slotsUsed := s₂.slotsUsed } : State).setVm s₂.vm), Ls ++ L, c0 + rm.cells, s0 + rm.slots⟩, d, hd,
      ⟨X'.admits, X'.cas, X'.clock, X'.frames, X'.room, X'.hears, X'.method, X'.code, (X'.here.setHeapUsed s₂.heap s₂.slotsUsed).setVm hW'.alike, X'.tail, State.WarmedH.trans X'.warmed hW', X'.limits, X'.bytes, X'.same.trans (hsame.setVm (s.setDrawn d).vm)⟩,
      ⟨g, mk, s₂, L, E, ce, rfl, rfl, hx, hce, hcv, hcl, rfl, hL, rfl, rfl⟩, ?_⟩
    show Steps p.tables e below _ (((({ U.setDrawn d with heap := s₂.heap, slotsUsed := s₂.slotsUsed } : State).setVm s₂.vm).setTop g).pushFrame (.throwing q))
    rw [← hs₂]
    exact hsteps
end XBack
section XCalls
variable {p : Program} {l : Launch} {e : Env} {R : Room} {s : State} {m : MethodId} {args : Array Value} {below : List Frame} {meth : Method} {c : Code} {H : Heap} {locs : List Loc} {cells slots : Nat} {Q : State → Prop} {d0 : Drawn}
variable {y : MethodName} {bytes cc : ByteArray} {maxL nL n index : Nat} {ret : Option FieldType} {ws : List Cond} {rm : Room} {Ts : List Cond} {own C host : String} {b : Addr} {As rest : List Value} {g : JFrame}
variable {G : va_G} {ty : Nat → ClassId} {b0 : Nat} {av : List Value} {post : Option Value → Heap → Prop} {px : String → Heap → Prop}
/-- the step into a callee, whatever its kind -/
def xInto (p : Program) (l : Launch) (e : Env) (R : Room) (s : State) (m : MethodId) (args : Array Value) (below : List Frame) (meth : Method) (c : Code) (H : Heap) (locs : List Loc) (cells slots : Nat) (y : MethodName) (g : JFrame) (rest : List Value) (av : List Value) (ig : Instr) : Prop :=
  g.method = m ∧ g.locals.size = c.maxLocals ∧ decode c.code g.pc = .ok (ig, 3) ∧ 2 * g.monitorRoom + (rest.map fun v => v.category).sum ≤ 8 ∧
  ∀ T : State, T.heap = H → Stand p l e R s m args below meth c T locs cells slots → ∃ (vm₁ : Vm) (mk : MethodId), s.WarmedH vm₁ ∧ Stand p l e R s m args below meth c (T.setVm vm₁) locs cells slots ∧ (T.setVm vm₁).methodNamed? y = some mk ∧
    ∀ target, Steps p.tables e below (doInvoke e ((T.setVm vm₁).setTop { g with stack := rest }) [] mk av.toArray).1 target → Steps p.tables e below (T.setTop g) target
theorem xintoV (S : CallFix p m c cc nL s args Ts own) (cw : CallW R s args own C index y bytes maxL ret ws rm rm.cells rm.slots n) (hrecv : ∃ cellB : Cell, H[b]? = some cellB ∧ cellB.vm.isStatics = false ∧ s.vm.findClass C = some cellB.cls)
    (hg : g.method = m) (hn : As.length = n) (hsize : g.locals.size = nL) (hstack : g.stack = As.reverse ++ .ref b :: rest) (hW : 2 * g.monitorRoom + (rest.map fun v => v.category).sum ≤ 8) (hdg : decode cc g.pc = .ok (.invokevirtual index, 3)) :
    xInto p l e R s m args below meth c H locs cells slots y g rest (.ref b :: As) (.invokevirtual index) := by
  obtain ⟨⟨-, -, -, -, -, -, hcode, -, hy, hlen, hlink⟩, hinst, hsel⟩ := cw
  obtain ⟨hexec, hb, hml, hown, -⟩ := S
  obtain ⟨cellB, hcell, hobj, hcls⟩ := hrecv
  refine ⟨hg, hsize.trans hml.symm, by rw [hb]; exact hdg, hW, ?_⟩
  intro T hT X
  obtain ⟨mk, methM, hnamed, hmethM, hstM, habM⟩ := Cond.instanceMethod_spec hinst
  obtain ⟨methM', cM, hmethM', -, -, -, -, -, -, hsigM⟩ := Cond.code_spec hnamed hcode
  cases hmethM.symm.trans hmethM'
  obtain ⟨c2, r2, m2, q1, q2, q3, q4, kP, hkP, hkPi⟩ := Cond.selects_spec hsel
  cases hcls.symm.trans q1
  cases (State.methodFound?_of_named hnamed hy).symm.trans q2
  cases hnamed.symm.trans q3
  have hselP : selectMethod e.platform s.vm cellB.cls mk = .method mk := by rw [Launch.admits_selectMethod X.admits]; exact q4
  obtain ⟨vm₁, X₁, hstep₁⟩ := X.invokevirtual hexec hown hlink hnamed hmethM hstM hkP hkPi hy (a := b) (cell := cellB) (by rw [hT]; exact hcell)
    (fun z h => by rw [h] at hobj; cases hobj) hselP hmethM habM hkP hkPi (g := g) hg (argsL := As) (rest := rest) (hn.trans (hlen _ hsigM)) hstack (by rw [hb]; exact hdg)
  exact ⟨vm₁, mk, X₁.warmed, X₁, X₁.named hnamed, fun target h => hstep₁ _ fun acts => by rw [doInvoke_state]; exact h⟩
theorem xintoS (S : CallFix p m c cc nL s args Ts own) (cw : CallB R s args own index y bytes maxL ret ws rm rm.cells rm.slots n ∧ (Cond.static y).before args s = true)
    (hg : g.method = m) (hn : As.length = n) (hsize : g.locals.size = nL) (hstack : g.stack = As.reverse ++ rest) (hW : 2 * g.monitorRoom + (rest.map fun v => v.category).sum ≤ 8) (hdg : decode cc g.pc = .ok (.invokestatic index, 3)) :
    xInto p l e R s m args below meth c H locs cells slots y g rest As (.invokestatic index) := by
  obtain ⟨⟨-, -, -, -, -, -, hcode, hinit, hy, hlen, hlink⟩, hstat⟩ := cw
  obtain ⟨hexec, hb, hml, hown, -⟩ := S
  refine ⟨hg, hsize.trans hml.symm, by rw [hb]; exact hdg, hW, ?_⟩
  intro T hT X
  obtain ⟨mk, hnamed⟩ := Cond.code_named hcode
  obtain ⟨methM, cM, hmethM, -, -, -, -, -, -, hsigM⟩ := Cond.code_spec hnamed hcode
  have hstatic : methM.isStatic = true := Cond.static_spec hnamed hmethM hstat
  obtain ⟨kP, hkP, -⟩ := className_of_methodNamed hnamed
  have hinitP : kP.init = .initialized := Cond.initialized_spec (findClass_of_methodNamed hnamed) hkP hinit
  obtain ⟨vm₁, X₁, hstep₁⟩ := X.invokestatic hexec hown hlink hnamed hmethM hstatic hkP hinitP hy (g := g) hg (argsL := As) (rest := rest) (hn.trans (hlen _ hsigM)) hstack (by rw [hb]; exact hdg)
  exact ⟨vm₁, mk, X₁.warmed, X₁, X₁.named hnamed, fun target h => hstep₁ _ fun acts => by rw [doInvoke_state]; exact h⟩
theorem xintoSN (S : CallFix p m c cc nL s args Ts own) (cw : va_CN R s args own index y host bytes maxL ret ws rm rm.cells rm.slots n ∧ (Cond.static y).before args s = true ∧ True)
    (hg : g.method = m) (hn : As.length = n) (hsize : g.locals.size = nL) (hstack : g.stack = As.reverse ++ rest) (hW : 2 * g.monitorRoom + (rest.map fun v => v.category).sum ≤ 8) (hdg : decode cc g.pc = .ok (.invokestatic index, 3)) :
    xInto p l e R s m args below meth c H locs cells slots y g rest As (.invokestatic index) := by
  obtain ⟨⟨-, hcode, hinit, hy, hlen, hlink⟩, hstat, -⟩ := cw
  obtain ⟨hexec, hb, hml, hown, -⟩ := S
  refine ⟨hg, hsize.trans hml.symm, by rw [hb]; exact hdg, hW, ?_⟩
  intro T hT X
  obtain ⟨mk, hnamed⟩ := Cond.code_named hcode
  obtain ⟨methM, cM, hmethM, -, -, -, -, -, -, hsigM⟩ := Cond.code_spec hnamed hcode
  have hstatic : methM.isStatic = true := Cond.static_spec hnamed hmethM hstat
  obtain ⟨kP, hkP, -⟩ := className_of_methodNamed hnamed
  have hinitP : kP.init = .initialized := Cond.initialized_spec (findClass_of_methodNamed hnamed) hkP hinit
  obtain ⟨vm₁, X₁, hstep₁⟩ := X.invokestaticNest hexec hown hlink hnamed hmethM hstatic hkP hinitP hy (g := g) hg (argsL := As) (rest := rest) (hn.trans (hlen _ hsigM)) hstack (by rw [hb]; exact hdg)
  exact ⟨vm₁, mk, X₁.warmed, X₁, X₁.named hnamed, fun target h => hstep₁ _ fun acts => by rw [doInvoke_state]; exact h⟩
theorem xintoI (S : CallFix p m c cc nL s args Ts own) (cw : CallB R s args own index y bytes maxL none ws rm rm.cells rm.slots n ∧ y.name = "<init>" ∧ (Cond.instanceMethod y).before args s = true)
    (hg : g.method = m) (hn : As.length = n) (hsize : g.locals.size = nL) (hstack : g.stack = As.reverse ++ .ref b :: rest) (hW : 2 * g.monitorRoom + (rest.map fun v => v.category).sum ≤ 8) (hdg : decode cc g.pc = .ok (.invokespecial index, 3)) :
    xInto p l e R s m args below meth c H locs cells slots y g rest (.ref b :: As) (.invokespecial index) := by
  obtain ⟨⟨-, -, -, -, -, -, hcode, -, hy, hlen, hlink⟩, hy1, hinst⟩ := cw
  obtain ⟨hexec, hb, hml, hown, -⟩ := S
  refine ⟨hg, hsize.trans hml.symm, by rw [hb]; exact hdg, hW, ?_⟩
  intro T hT X
  subst hg
  have hpl : e.platform.magicAccessors = ({} : Platform).magicAccessors := by rw [X.admits.platform]
  obtain ⟨mk, methM, cM, kP, vm₁, hnamed, hmethM, hcodeM, -, hlocalsM, -, hkP, -, hW₁, hstep₁⟩ := Steps.initColdArgs (e := e) X.here hexec X.warmed hpl hown hy1 hy hlink hinst hcode (f := g) rfl (argsL := As) (rest := rest) (fun sig h => hn.trans (hlen sig h)) hstack (by rw [hb]; exact hdg)
  have X₁ := X.noted hW₁
  exact ⟨vm₁, mk, X₁.warmed, X₁, X₁.named hnamed, fun target h => hstep₁ _ fun acts => by rw [doInvoke_state]; exact h⟩
theorem xintoIN (S : CallFix p m c cc nL s args Ts own) (cw : va_CN R s args own index y host bytes maxL none ws rm rm.cells rm.slots n ∧ y.name = "<init>" ∧ (Cond.instanceMethod y).before args s = true)
    (hg : g.method = m) (hn : As.length = n) (hsize : g.locals.size = nL) (hstack : g.stack = As.reverse ++ .ref b :: rest) (hW : 2 * g.monitorRoom + (rest.map fun v => v.category).sum ≤ 8) (hdg : decode cc g.pc = .ok (.invokespecial index, 3)) :
    xInto p l e R s m args below meth c H locs cells slots y g rest (.ref b :: As) (.invokespecial index) := by
  obtain ⟨⟨-, hcode, -, hy, hlen, hlink⟩, hy1, hinst⟩ := cw
  obtain ⟨hexec, hb, hml, hown, -⟩ := S
  refine ⟨hg, hsize.trans hml.symm, by rw [hb]; exact hdg, hW, ?_⟩
  intro T hT X
  subst hg
  have hpl : e.platform.magicAccessors = ({} : Platform).magicAccessors := by rw [X.admits.platform]
  obtain ⟨mk, methM, cM, kP, vm₁, hnamed, hmethM, hcodeM, -, hlocalsM, -, hkP, -, hW₁, hstep₁⟩ := Steps.initColdArgsNest (e := e) X.here hexec X.warmed hpl hown hy1 hy hlink hinst hcode (f := g) rfl (argsL := As) (rest := rest) (fun sig h => hn.trans (hlen sig h)) hstack (by rw [hb]; exact hdg)
  have X₁ := X.noted hW₁
  exact ⟨vm₁, mk, X₁.warmed, X₁, X₁.named hnamed, fun target h => hstep₁ _ fun acts => by rw [doInvoke_state]; exact h⟩
/-- what a call owes besides: the callee's words, its room -/
abbrev xOwe (R : Room) (s : State) (y : MethodName) (ws : List Cond) (bytes : ByteArray) (maxL : Nat) (ret : Option FieldType) (rm : Room) : Prop :=
  rm.frames + 1 ≤ R.frames ∧ 8 + (maxL + 11) + rm.locals ≤ R.locals ∧ (∀ w ∈ ws, ∀ (a' : Array Value) (U : State), s.WarmedH U.vm → w.before a' U = true) ∧ Cond.code y bytes maxL ret ∈ ws ∧ (∀ (a' : Array Value) (U : State), s.WarmedH U.vm → (Cond.initialized y.cls).before a' U = true)
theorem xoweB (cb : CallB R s args own index y bytes maxL ret ws rm rm.cells rm.slots n) : xOwe R s y ws bytes maxL ret rm := by
  obtain ⟨-, -, hfr, hlo, hws, hcw, -, hini, -⟩ := cb
  exact ⟨hfr, hlo, hws, hcw, fun a' U hW => word_at hW (Or.inl (by first | rfl | simp [Cond.onTables, Cond.keeps, Cond.steady])) hini⟩
theorem xoweN (cb : va_CN R s args own index y host bytes maxL ret ws rm rm.cells rm.slots n) : xOwe R s y ws bytes maxL ret rm := by
  obtain ⟨⟨-, -, hfr, hlo, hws, hcw⟩, -, hini, -⟩ := cb
  exact ⟨hfr, hlo, hws, hcw, fun a' U hW => word_at hW (Or.inl (by first | rfl | simp [Cond.onTables, Cond.keeps, Cond.steady])) hini⟩
/-- THE CALL: where it throws, where it comes back -/
theorem xcall {pc : Nat} {ls : Array Slot} {st0 : List Value} {ig : Instr} (hd0 : s.drawn.sameBut d0 lw_cs) (hI : xInto p l e R (s.setDrawn d0) m args below meth c H locs cells slots y (F0 m pc ls st0) rest av ig) (hM : xMet l y ws rm G ty b0 av H post px) (ho : xOwe R (s.setDrawn d0) y ws bytes maxL ret rm)
    (hK : xK G ty b0 s) (hb0 : b0 ≤ s.heap.size) (hS : va_S (xA b0) s.heap H locs) (hc : cells + rm.cells ≤ R.cells) (hs : slots + rm.slots ≤ R.slots)
    (kx : ∀ (E : String) (ce : Cell) (q9 : Addr) (H1 : Heap) (locs1 : List Loc) (d1 : Drawn), s.drawn.sameBut d1 lw_cs → px E H1 → va_S (xA b0) s.heap H1 locs1 → H1[q9]? = some ce → ce.vm = .none → s.vm.findClass E = some ce.cls → vx_W p l e R (s.setDrawn d1) m args below meth c H1 locs1 (cells + rm.cells) (slots + rm.slots) Q (F0 m pc ls rest) q9)
    (kk : ∀ (v : Option Value) (H1 : Heap) (locs1 : List Loc) (d1 : Drawn), s.drawn.sameBut d1 lw_cs → post v H1 → va_S (xA b0) s.heap H1 locs1 → W p l e R (s.setDrawn d1) m args below meth c H1 locs1 (cells + rm.cells) (slots + rm.slots) Q (F0 m (pc + 3) ls (v.toList ++ rest))) : W p l e R (s.setDrawn d0) m args below meth c H locs cells slots Q (F0 m pc ls st0) := by
  obtain ⟨hg, hsize, hdg, hW, hI⟩ := hI
  obtain ⟨hfr, hlo, hws, hcw, hini⟩ := ho
  intro T hT X
  obtain ⟨vm₁, mk, hW₁, X₁, hn, hst⟩ := hI T hT X
  have hB := xback (R := R) (p := p) (e := e) (below := below) (s := s.setDrawn d0) (sargs := args) (len := 3) (W9 := 8) hM hfr hlo hws hcw hini
  have hSd : va_S (xA b0) (s.setDrawn d0).heap (T.setVm vm₁).heap locs := by
    show va_S (xA b0) s.heap T.heap locs
    rw [hT]; exact hS
  have hKd : xK G ty b0 (s.setDrawn d0) := hK.drawn d0
  have hKT : xK G ty b0 (T.setVm vm₁) := xK.to (s := s.setDrawn d0) hW₁ hSd hKd
  have hpre : PreOf R rm.cells rm.slots (xPc G ty b0 av H) ⟨T.setVm vm₁, locs, cells, slots⟩ av.toArray := ⟨hc, hs, rfl, hT, hKT, Nat.le_trans hb0 hS.1⟩
  have keep : ∀ {st t T' : State} {L : List Loc}, st.heap = H → T'.heap = t.heap → (∀ q ∈ L, xA b0 q.base) → va_F (xA b0) st t → va_S (xA b0) s.heap T'.heap (locs ++ L) := by
    intro st t T' L h0 e1 hL hF
    exact (vx_keep h0 e1 hS (fun _ _ h => h) (fun _ h => h) hL hF).2.2
  rcases hB m meth c ⟨T.setVm vm₁, locs, cells, slots⟩ { F0 m pc ls st0 with stack := rest } ig mk av.toArray X₁ hg hsize hdg hW hn hpre with ⟨v, ⟨U', l2, c2, s2⟩, d, hd, X', ⟨g', mk', t, L, e1, e2, ⟨⟨v', hv', hp⟩, hF⟩, h1, hL, h2, h3⟩, st⟩ | ⟨q, ⟨U', l2, c2, s2⟩, d, hd, X', ⟨g', mk', t, L, E, ce, e1, e2, ⟨hp, hF⟩, hce, hcv, hcl, h1, hL, h2, h3⟩, st⟩
  · dsimp only [Pt.U, Pt.locs, Pt.cells, Pt.slots] at X' e1 e2 h1 h2 h3 st hF
    subst h1; subst h2; subst h3
    cases hv'
    have hS1 := keep (st := (((T.setVm vm₁).setDrawn d).calling g' mk' av.toArray)) (T' := U') hT e1 hL hF
    obtain ⟨t2, a1, b1⟩ := kk v U'.heap (locs ++ L) d (hd0.trans hd) (by rw [e1]; exact hp) hS1 U' rfl X'
    exact ⟨t2, hst _ (st.trans a1), b1⟩
  · dsimp only [Pt.U, Pt.locs, Pt.cells, Pt.slots] at X' e1 e2 h1 h2 h3 st hF hcl
    subst h1; subst h2; subst h3
    have hS1 := keep (st := (((T.setVm vm₁).setDrawn d).calling g' mk' av.toArray)) (T' := U') hT e1 hL hF
    have hcl' : s.vm.findClass E = some ce.cls := by
      have h9 : vm₁.findClass E = some ce.cls := hcl
      rw [hW₁.alike.findClass] at h9
      exact h9
    obtain ⟨t2, a1, b1⟩ := kx E ce q U'.heap (locs ++ L) d (hd0.trans hd) (by rw [e1]; exact hp) hS1 (by rw [e1]; exact hce) hcv hcl' U' rfl X'
    exact ⟨t2, hst _ (st.trans a1), b1⟩
end XCalls
end
section
/-! NUMBERS: two doubles that stand for the same number, or are both none; rows of the arithmetic over it; comparisons with their branch. -/
section XNum
abbrev xv (x : UInt64) : Jvm.FP.Core.Datum := Jvm.FP.Core.val64 x
/-- x stands for the same number as e (zeros with their signs), or both are none -/
abbrev vq (x e : UInt64) : Prop := xv x = xv e
theorem xnan {b : UInt64} (h : isNaN64 b = true) : xv b = .nan := by
  have h1 : b &&& 0x7fffffffffffffff > 0x7ff0000000000000 := by
    unfold isNaN64 at h
    exact of_decide_eq_true h
  have h2 : (0x7ff0000000000000 : UInt64).toNat < (b &&& 0x7fffffffffffffff).toNat := UInt64.lt_iff_toNat_lt.mp h1
  have h3 : (b &&& 0x7fffffffffffffff).toNat = b.toNat % 2 ^ 63 := by
    rw [UInt64.toNat_and, show (0x7fffffffffffffff : UInt64).toNat = 2 ^ 63 - 1 from rfl, Nat.and_two_pow_sub_one_eq_mod]
  rw [h3] at h2
  have h4 : Jvm.FP.Core.dIsNaN b = true := (Jvm.FP.Core.isNaN_bits b).mpr h2
  unfold Jvm.FP.Core.dIsNaN Jvm.FP.Core.isNaN at h4
  exact of_decide_eq_true h4
theorem vq_al {x y : UInt64} (h : alike64 x y = true) : vq x y := by
  unfold alike64 at h
  rcases Bool.or_eq_true_iff.mp h with h | h
  · rw [of_decide_eq_true h]
  · obtain ⟨h1, h2⟩ := Bool.and_eq_true_iff.mp h
    rw [vq, xnan h1, xnan h2]
theorem vq_rf (x : UInt64) : vq x x := rfl
theorem xadd_def (x y : UInt64) : FP.dadd x y = .ofNat (Jvm.FP.Core.encode Jvm.FP.Core.b64 (Jvm.FP.Core.round Jvm.FP.Core.b64 (Jvm.FP.Core.exactSum (xv x) (xv y)))) := rfl
theorem xsub_def (x y : UInt64) : FP.dsub x y = .ofNat (Jvm.FP.Core.encode Jvm.FP.Core.b64 (Jvm.FP.Core.round Jvm.FP.Core.b64 (Jvm.FP.Core.exactSum (xv x) (Jvm.FP.Core.negate (xv y))))) := rfl
theorem xmul_def (x y : UInt64) : FP.dmul x y = .ofNat (Jvm.FP.Core.encode Jvm.FP.Core.b64 (Jvm.FP.Core.round Jvm.FP.Core.b64 (Jvm.FP.Core.exactProduct (xv x) (xv y)))) := rfl
theorem xdiv_def (x y : UInt64) : FP.ddiv x y = .ofNat (Jvm.FP.Core.encode Jvm.FP.Core.b64 (Jvm.FP.Core.quotient Jvm.FP.Core.b64 (xv x) (xv y))) := rfl
theorem xcmp_def (x y : UInt64) : FP.dcmp x y = Jvm.FP.Core.order (xv x) (xv y) := rfl
theorem xd2i_def (x : UInt64) : FP.d2i x = Jvm.FP.Core.toI (xv x) := rfl
theorem vq_add {x y a b : UInt64} (h1 : vq x a) (h2 : vq y b) : FP.dadd x y = FP.dadd a b := by
  have h1 : xv x = xv a := h1
  have h2 : xv y = xv b := h2
  rw [xadd_def, xadd_def, h1, h2]
theorem vq_sub {x y a b : UInt64} (h1 : vq x a) (h2 : vq y b) : FP.dsub x y = FP.dsub a b := by
  have h1 : xv x = xv a := h1
  have h2 : xv y = xv b := h2
  rw [xsub_def, xsub_def, h1, h2]
theorem vq_mul {x y a b : UInt64} (h1 : vq x a) (h2 : vq y b) : FP.dmul x y = FP.dmul a b := by
  have h1 : xv x = xv a := h1
  have h2 : xv y = xv b := h2
  rw [xmul_def, xmul_def, h1, h2]
theorem vq_div {x y a b : UInt64} (h1 : vq x a) (h2 : vq y b) : FP.ddiv x y = FP.ddiv a b := by
  have h1 : xv x = xv a := h1
  have h2 : xv y = xv b := h2
  rw [xdiv_def, xdiv_def, h1, h2]
theorem vq_cmp {x y a b : UInt64} (h1 : vq x a) (h2 : vq y b) : FP.dcmp x y = FP.dcmp a b := by
  have h1 : xv x = xv a := h1
  have h2 : xv y = xv b := h2
  rw [xcmp_def, xcmp_def, h1, h2]
theorem vq_d2i {x a : UInt64} (h1 : vq x a) : FP.d2i x = FP.d2i a := by
  have h1 : xv x = xv a := h1
  rw [xd2i_def, xd2i_def, h1]
theorem vq_neg {x a : UInt64} (h1 : vq x a) : vq (FP.dneg x) (FP.dneg a) := by
  show Jvm.FP.Core.val64 (FP.dneg x) = Jvm.FP.Core.val64 (FP.dneg a)
  rw [Jvm.FP.val64_dneg, Jvm.FP.val64_dneg]
  exact congrArg _ h1
/-- x > y, x >= y, x < y, x <= y, x == y, as Java asks it: false where one is none -/
def xgt (x y : UInt64) : Bool := decide (FP.dcmp x y = some .gt)
def xge (x y : UInt64) : Bool := decide (FP.dcmp x y = some .gt) || decide (FP.dcmp x y = some .eq)
def xlt (x y : UInt64) : Bool := decide (FP.dcmp x y = some .lt)
def xle (x y : UInt64) : Bool := decide (FP.dcmp x y = some .lt) || decide (FP.dcmp x y = some .eq)
def xeq (x y : UInt64) : Bool := decide (FP.dcmp x y = some .eq)
theorem vq_gt {x y a b : UInt64} (h1 : vq x a) (h2 : vq y b) : xgt x y = xgt a b := by
  unfold xgt
  rw [vq_cmp h1 h2]
theorem vq_ge {x y a b : UInt64} (h1 : vq x a) (h2 : vq y b) : xge x y = xge a b := by
  unfold xge
  rw [vq_cmp h1 h2]
theorem vq_lt {x y a b : UInt64} (h1 : vq x a) (h2 : vq y b) : xlt x y = xlt a b := by
  unfold xlt
  rw [vq_cmp h1 h2]
theorem vq_le {x y a b : UInt64} (h1 : vq x a) (h2 : vq y b) : xle x y = xle a b := by
  unfold xle
  rw [vq_cmp h1 h2]
theorem vq_eq {x y a b : UInt64} (h1 : vq x a) (h2 : vq y b) : xeq x y = xeq a b := by
  unfold xeq
  rw [vq_cmp h1 h2]
variable {p : Program} {l : Launch} {e : Env} {R : Room} {s : State} {m : MethodId} {args : Array Value} {below : List Frame} {meth : Method} {c : Code} {H : Heap} {locs : List Loc} {cells slots : Nat} {Q : State → Prop}
variable {cc : ByteArray} {pc : Nat} {ls : Array Slot} {rest : List Value} {d0 : Drawn}
theorem xdadd (hd0 : s.drawn.sameBut d0 lw_cs) (hexec : p.tables.exec = Jvm.exec) (hb : c.code = cc) {x y a b : UInt64} (hx : vq x a) (hy : vq y b) (hdg : decode cc pc = .ok (.dadd, 1))
    (k : ∀ (r : UInt64) (d' : Drawn), vq r (FP.dadd a b) → s.drawn.sameBut d' lw_cs → W p l e R (s.setDrawn d') m args below meth c H locs cells slots Q (F0 m (pc + 1) ls (.double r :: rest))) : W p l e R (s.setDrawn d0) m args below meth c H locs cells slots Q (F0 m pc ls (.double y :: .double x :: rest)) :=
  lv_dadd_any hd0 lw_bits hexec hb hdg fun r d' hal hd => k r d' (by rw [← vq_add hx hy]; exact vq_al hal) hd
theorem xdsub (hd0 : s.drawn.sameBut d0 lw_cs) (hexec : p.tables.exec = Jvm.exec) (hb : c.code = cc) {x y a b : UInt64} (hx : vq x a) (hy : vq y b) (hdg : decode cc pc = .ok (.dsub, 1))
    (k : ∀ (r : UInt64) (d' : Drawn), vq r (FP.dsub a b) → s.drawn.sameBut d' lw_cs → W p l e R (s.setDrawn d') m args below meth c H locs cells slots Q (F0 m (pc + 1) ls (.double r :: rest))) : W p l e R (s.setDrawn d0) m args below meth c H locs cells slots Q (F0 m pc ls (.double y :: .double x :: rest)) :=
  lv_dsub_any hd0 lw_bits hexec hb hdg fun r d' hal hd => k r d' (by rw [← vq_sub hx hy]; exact vq_al hal) hd
theorem xdmul (hd0 : s.drawn.sameBut d0 lw_cs) (hexec : p.tables.exec = Jvm.exec) (hb : c.code = cc) {x y a b : UInt64} (hx : vq x a) (hy : vq y b) (hdg : decode cc pc = .ok (.dmul, 1))
    (k : ∀ (r : UInt64) (d' : Drawn), vq r (FP.dmul a b) → s.drawn.sameBut d' lw_cs → W p l e R (s.setDrawn d') m args below meth c H locs cells slots Q (F0 m (pc + 1) ls (.double r :: rest))) : W p l e R (s.setDrawn d0) m args below meth c H locs cells slots Q (F0 m pc ls (.double y :: .double x :: rest)) :=
  lv_dmul_any hd0 lw_bits hexec hb hdg fun r d' hal hd => k r d' (by rw [← vq_mul hx hy]; exact vq_al hal) hd
theorem xddiv (hd0 : s.drawn.sameBut d0 lw_cs) (hexec : p.tables.exec = Jvm.exec) (hb : c.code = cc) {x y a b : UInt64} (hx : vq x a) (hy : vq y b) (hdg : decode cc pc = .ok (.ddiv, 1))
    (k : ∀ (r : UInt64) (d' : Drawn), vq r (FP.ddiv a b) → s.drawn.sameBut d' lw_cs → W p l e R (s.setDrawn d') m args below meth c H locs cells slots Q (F0 m (pc + 1) ls (.double r :: rest))) : W p l e R (s.setDrawn d0) m args below meth c H locs cells slots Q (F0 m pc ls (.double y :: .double x :: rest)) :=
  lv_ddiv_any hd0 lw_bits hexec hb hdg fun r d' hal hd => k r d' (by rw [← vq_div hx hy]; exact vq_al hal) hd
theorem xcmp_l_le (hexec : p.tables.exec = Jvm.exec) (hb : c.code = cc) {x y a b : UInt64} (hx : vq x a) (hy : vq y b) {off : Int} {tgt : Nat} (hdg : decode cc pc = .ok (.dcmp .l, 1)) (hdg2 : decode cc (pc + 1) = .ok (.ifCond .le off, 3)) (ht : ((pc + 1 : Nat) : Int) + off = (tgt : Int))
    (kt : xgt a b = false → W p l e R s m args below meth c H locs cells slots Q (F0 m tgt ls rest)) (kf : xgt a b = true → W p l e R s m args below meth c H locs cells slots Q (F0 m (pc + 1 + 3) ls rest)) : W p l e R s m args below meth c H locs cells slots Q (F0 m pc ls (.double y :: .double x :: rest)) := by
  refine lv_dcmp hexec hb hdg ?_
  rw [vq_cmp hx hy]
  unfold xgt at kt kf
  generalize FP.dcmp a b = o at kt kf ⊢
  refine lv_if_le (tgt := tgt) hexec hb hdg2 ht (fun h => kt ?_) (fun h => kf ?_)
  · revert h
    rcases o with _ | o
    · decide
    · cases o <;> decide
  · revert h
    rcases o with _ | o
    · decide
    · cases o <;> decide
theorem xcmp_l_gt (hexec : p.tables.exec = Jvm.exec) (hb : c.code = cc) {x y a b : UInt64} (hx : vq x a) (hy : vq y b) {off : Int} {tgt : Nat} (hdg : decode cc pc = .ok (.dcmp .l, 1)) (hdg2 : decode cc (pc + 1) = .ok (.ifCond .gt off, 3)) (ht : ((pc + 1 : Nat) : Int) + off = (tgt : Int))
    (kt : xgt a b = true → W p l e R s m args below meth c H locs cells slots Q (F0 m tgt ls rest)) (kf : xgt a b = false → W p l e R s m args below meth c H locs cells slots Q (F0 m (pc + 1 + 3) ls rest)) : W p l e R s m args below meth c H locs cells slots Q (F0 m pc ls (.double y :: .double x :: rest)) := by
  refine lv_dcmp hexec hb hdg ?_
  rw [vq_cmp hx hy]
  unfold xgt at kt kf
  generalize FP.dcmp a b = o at kt kf ⊢
  refine lv_if_gt (tgt := tgt) hexec hb hdg2 ht (fun h => kt ?_) (fun h => kf ?_)
  · revert h
    rcases o with _ | o
    · decide
    · cases o <;> decide
  · revert h
    rcases o with _ | o
    · decide
    · cases o <;> decide
theorem xcmp_l_lt (hexec : p.tables.exec = Jvm.exec) (hb : c.code = cc) {x y a b : UInt64} (hx : vq x a) (hy : vq y b) {off : Int} {tgt : Nat} (hdg : decode cc pc = .ok (.dcmp .l, 1)) (hdg2 : decode cc (pc + 1) = .ok (.ifCond .lt off, 3)) (ht : ((pc + 1 : Nat) : Int) + off = (tgt : Int))
    (kt : xge a b = false → W p l e R s m args below meth c H locs cells slots Q (F0 m tgt ls rest)) (kf : xge a b = true → W p l e R s m args below meth c H locs cells slots Q (F0 m (pc + 1 + 3) ls rest)) : W p l e R s m args below meth c H locs cells slots Q (F0 m pc ls (.double y :: .double x :: rest)) := by
  refine lv_dcmp hexec hb hdg ?_
  rw [vq_cmp hx hy]
  unfold xge at kt kf
  generalize FP.dcmp a b = o at kt kf ⊢
  refine lv_if_lt (tgt := tgt) hexec hb hdg2 ht (fun h => kt ?_) (fun h => kf ?_)
  · revert h
    rcases o with _ | o
    · decide
    · cases o <;> decide
  · revert h
    rcases o with _ | o
    · decide
    · cases o <;> decide
theorem xcmp_l_ge (hexec : p.tables.exec = Jvm.exec) (hb : c.code = cc) {x y a b : UInt64} (hx : vq x a) (hy : vq y b) {off : Int} {tgt : Nat} (hdg : decode cc pc = .ok (.dcmp .l, 1)) (hdg2 : decode cc (pc + 1) = .ok (.ifCond .ge off, 3)) (ht : ((pc + 1 : Nat) : Int) + off = (tgt : Int))
    (kt : xge a b = true → W p l e R s m args below meth c H locs cells slots Q (F0 m tgt ls rest)) (kf : xge a b = false → W p l e R s m args below meth c H locs cells slots Q (F0 m (pc + 1 + 3) ls rest)) : W p l e R s m args below meth c H locs cells slots Q (F0 m pc ls (.double y :: .double x :: rest)) := by
  refine lv_dcmp hexec hb hdg ?_
  rw [vq_cmp hx hy]
  unfold xge at kt kf
  generalize FP.dcmp a b = o at kt kf ⊢
  refine lv_if_ge (tgt := tgt) hexec hb hdg2 ht (fun h => kt ?_) (fun h => kf ?_)
  · revert h
    rcases o with _ | o
    · decide
    · cases o <;> decide
  · revert h
    rcases o with _ | o
    · decide
    · cases o <;> decide
theorem xcmp_l_ne (hexec : p.tables.exec = Jvm.exec) (hb : c.code = cc) {x y a b : UInt64} (hx : vq x a) (hy : vq y b) {off : Int} {tgt : Nat} (hdg : decode cc pc = .ok (.dcmp .l, 1)) (hdg2 : decode cc (pc + 1) = .ok (.ifCond .ne off, 3)) (ht : ((pc + 1 : Nat) : Int) + off = (tgt : Int))
    (kt : xeq a b = false → W p l e R s m args below meth c H locs cells slots Q (F0 m tgt ls rest)) (kf : xeq a b = true → W p l e R s m args below meth c H locs cells slots Q (F0 m (pc + 1 + 3) ls rest)) : W p l e R s m args below meth c H locs cells slots Q (F0 m pc ls (.double y :: .double x :: rest)) := by
  refine lv_dcmp hexec hb hdg ?_
  rw [vq_cmp hx hy]
  unfold xeq at kt kf
  generalize FP.dcmp a b = o at kt kf ⊢
  refine lv_if_ne (tgt := tgt) hexec hb hdg2 ht (fun h => kt ?_) (fun h => kf ?_)
  · revert h
    rcases o with _ | o
    · decide
    · cases o <;> decide
  · revert h
    rcases o with _ | o
    · decide
    · cases o <;> decide
theorem xcmp_l_eq (hexec : p.tables.exec = Jvm.exec) (hb : c.code = cc) {x y a b : UInt64} (hx : vq x a) (hy : vq y b) {off : Int} {tgt : Nat} (hdg : decode cc pc = .ok (.dcmp .l, 1)) (hdg2 : decode cc (pc + 1) = .ok (.ifCond .eq off, 3)) (ht : ((pc + 1 : Nat) : Int) + off = (tgt : Int))
    (kt : xeq a b = true → W p l e R s m args below meth c H locs cells slots Q (F0 m tgt ls rest)) (kf : xeq a b = false → W p l e R s m args below meth c H locs cells slots Q (F0 m (pc + 1 + 3) ls rest)) : W p l e R s m args below meth c H locs cells slots Q (F0 m pc ls (.double y :: .double x :: rest)) := by
  refine lv_dcmp hexec hb hdg ?_
  rw [vq_cmp hx hy]
  unfold xeq at kt kf
  generalize FP.dcmp a b = o at kt kf ⊢
  refine lv_if_eq (tgt := tgt) hexec hb hdg2 ht (fun h => kt ?_) (fun h => kf ?_)
  · revert h
    rcases o with _ | o
    · decide
    · cases o <;> decide
  · revert h
    rcases o with _ | o
    · decide
    · cases o <;> decide
theorem xcmp_g_ge (hexec : p.tables.exec = Jvm.exec) (hb : c.code = cc) {x y a b : UInt64} (hx : vq x a) (hy : vq y b) {off : Int} {tgt : Nat} (hdg : decode cc pc = .ok (.dcmp .g, 1)) (hdg2 : decode cc (pc + 1) = .ok (.ifCond .ge off, 3)) (ht : ((pc + 1 : Nat) : Int) + off = (tgt : Int))
    (kt : xlt a b = false → W p l e R s m args below meth c H locs cells slots Q (F0 m tgt ls rest)) (kf : xlt a b = true → W p l e R s m args below meth c H locs cells slots Q (F0 m (pc + 1 + 3) ls rest)) : W p l e R s m args below meth c H locs cells slots Q (F0 m pc ls (.double y :: .double x :: rest)) := by
  refine lv_dcmp hexec hb hdg ?_
  rw [vq_cmp hx hy]
  unfold xlt at kt kf
  generalize FP.dcmp a b = o at kt kf ⊢
  refine lv_if_ge (tgt := tgt) hexec hb hdg2 ht (fun h => kt ?_) (fun h => kf ?_)
  · revert h
    rcases o with _ | o
    · decide
    · cases o <;> decide
  · revert h
    rcases o with _ | o
    · decide
    · cases o <;> decide
theorem xcmp_g_lt (hexec : p.tables.exec = Jvm.exec) (hb : c.code = cc) {x y a b : UInt64} (hx : vq x a) (hy : vq y b) {off : Int} {tgt : Nat} (hdg : decode cc pc = .ok (.dcmp .g, 1)) (hdg2 : decode cc (pc + 1) = .ok (.ifCond .lt off, 3)) (ht : ((pc + 1 : Nat) : Int) + off = (tgt : Int))
    (kt : xlt a b = true → W p l e R s m args below meth c H locs cells slots Q (F0 m tgt ls rest)) (kf : xlt a b = false → W p l e R s m args below meth c H locs cells slots Q (F0 m (pc + 1 + 3) ls rest)) : W p l e R s m args below meth c H locs cells slots Q (F0 m pc ls (.double y :: .double x :: rest)) := by
  refine lv_dcmp hexec hb hdg ?_
  rw [vq_cmp hx hy]
  unfold xlt at kt kf
  generalize FP.dcmp a b = o at kt kf ⊢
  refine lv_if_lt (tgt := tgt) hexec hb hdg2 ht (fun h => kt ?_) (fun h => kf ?_)
  · revert h
    rcases o with _ | o
    · decide
    · cases o <;> decide
  · revert h
    rcases o with _ | o
    · decide
    · cases o <;> decide
theorem xcmp_g_gt (hexec : p.tables.exec = Jvm.exec) (hb : c.code = cc) {x y a b : UInt64} (hx : vq x a) (hy : vq y b) {off : Int} {tgt : Nat} (hdg : decode cc pc = .ok (.dcmp .g, 1)) (hdg2 : decode cc (pc + 1) = .ok (.ifCond .gt off, 3)) (ht : ((pc + 1 : Nat) : Int) + off = (tgt : Int))
    (kt : xle a b = false → W p l e R s m args below meth c H locs cells slots Q (F0 m tgt ls rest)) (kf : xle a b = true → W p l e R s m args below meth c H locs cells slots Q (F0 m (pc + 1 + 3) ls rest)) : W p l e R s m args below meth c H locs cells slots Q (F0 m pc ls (.double y :: .double x :: rest)) := by
  refine lv_dcmp hexec hb hdg ?_
  rw [vq_cmp hx hy]
  unfold xle at kt kf
  generalize FP.dcmp a b = o at kt kf ⊢
  refine lv_if_gt (tgt := tgt) hexec hb hdg2 ht (fun h => kt ?_) (fun h => kf ?_)
  · revert h
    rcases o with _ | o
    · decide
    · cases o <;> decide
  · revert h
    rcases o with _ | o
    · decide
    · cases o <;> decide
theorem xcmp_g_le (hexec : p.tables.exec = Jvm.exec) (hb : c.code = cc) {x y a b : UInt64} (hx : vq x a) (hy : vq y b) {off : Int} {tgt : Nat} (hdg : decode cc pc = .ok (.dcmp .g, 1)) (hdg2 : decode cc (pc + 1) = .ok (.ifCond .le off, 3)) (ht : ((pc + 1 : Nat) : Int) + off = (tgt : Int))
    (kt : xle a b = true → W p l e R s m args below meth c H locs cells slots Q (F0 m tgt ls rest)) (kf : xle a b = false → W p l e R s m args below meth c H locs cells slots Q (F0 m (pc + 1 + 3) ls rest)) : W p l e R s m args below meth c H locs cells slots Q (F0 m pc ls (.double y :: .double x :: rest)) := by
  refine lv_dcmp hexec hb hdg ?_
  rw [vq_cmp hx hy]
  unfold xle at kt kf
  generalize FP.dcmp a b = o at kt kf ⊢
  refine lv_if_le (tgt := tgt) hexec hb hdg2 ht (fun h => kt ?_) (fun h => kf ?_)
  · revert h
    rcases o with _ | o
    · decide
    · cases o <;> decide
  · revert h
    rcases o with _ | o
    · decide
    · cases o <;> decide
theorem xcmp_g_ne (hexec : p.tables.exec = Jvm.exec) (hb : c.code = cc) {x y a b : UInt64} (hx : vq x a) (hy : vq y b) {off : Int} {tgt : Nat} (hdg : decode cc pc = .ok (.dcmp .g, 1)) (hdg2 : decode cc (pc + 1) = .ok (.ifCond .ne off, 3)) (ht : ((pc + 1 : Nat) : Int) + off = (tgt : Int))
    (kt : xeq a b = false → W p l e R s m args below meth c H locs cells slots Q (F0 m tgt ls rest)) (kf : xeq a b = true → W p l e R s m args below meth c H locs cells slots Q (F0 m (pc + 1 + 3) ls rest)) : W p l e R s m args below meth c H locs cells slots Q (F0 m pc ls (.double y :: .double x :: rest)) := by
  refine lv_dcmp hexec hb hdg ?_
  rw [vq_cmp hx hy]
  unfold xeq at kt kf
  generalize FP.dcmp a b = o at kt kf ⊢
  refine lv_if_ne (tgt := tgt) hexec hb hdg2 ht (fun h => kt ?_) (fun h => kf ?_)
  · revert h
    rcases o with _ | o
    · decide
    · cases o <;> decide
  · revert h
    rcases o with _ | o
    · decide
    · cases o <;> decide
theorem xcmp_g_eq (hexec : p.tables.exec = Jvm.exec) (hb : c.code = cc) {x y a b : UInt64} (hx : vq x a) (hy : vq y b) {off : Int} {tgt : Nat} (hdg : decode cc pc = .ok (.dcmp .g, 1)) (hdg2 : decode cc (pc + 1) = .ok (.ifCond .eq off, 3)) (ht : ((pc + 1 : Nat) : Int) + off = (tgt : Int))
    (kt : xeq a b = true → W p l e R s m args below meth c H locs cells slots Q (F0 m tgt ls rest)) (kf : xeq a b = false → W p l e R s m args below meth c H locs cells slots Q (F0 m (pc + 1 + 3) ls rest)) : W p l e R s m args below meth c H locs cells slots Q (F0 m pc ls (.double y :: .double x :: rest)) := by
  refine lv_dcmp hexec hb hdg ?_
  rw [vq_cmp hx hy]
  unfold xeq at kt kf
  generalize FP.dcmp a b = o at kt kf ⊢
  refine lv_if_eq (tgt := tgt) hexec hb hdg2 ht (fun h => kt ?_) (fun h => kf ?_)
  · revert h
    rcases o with _ | o
    · decide
    · cases o <;> decide
  · revert h
    rcases o with _ | o
    · decide
    · cases o <;> decide
end XNum
section XHeap
variable {p : Program} {l : Launch} {e : Env} {R : Room} {s : State} {m : MethodId} {args : Array Value} {below : List Frame} {meth : Method} {c : Code} {H : Heap} {locs : List Loc} {cells slots : Nat} {Q : State → Prop}
variable {cc : ByteArray} {pc : Nat} {ls : Array Slot} {rest : List Value} {G : va_G} {tys : List (ClassId × FieldType)} {a b0 : Nat} {H0 : Heap}
/-- the heap H1 is H but for the cell a, which is e now -/
abbrev xset (G : va_G) (a : Nat) (e : va_E) (H H1 : Heap) : Prop := xc G a e H1 ∧ H1.size = H.size ∧ ∀ q : Nat, q ≠ a → H1[q]? = H[q]?
theorem xput (hexec : p.tables.exec = Jvm.exec) (hb : c.code = cc) {own ref C : String} {T : u_T} {N ci index : Nat} {Ts : List Cond} (hts : ∀ w ∈ Ts, w.before args s = true) (hin : ∀ w ∈ u_ws C T N, w ∈ Ts) (ty0 : Nat → FieldType) (hty : ∀ k, k < N → parseFieldDescriptor (T k).2.2.1 = some (ty0 k)) (hnm : ∀ a, a < N → ∀ b, b < N → a ≠ b → (T a).2.1 ≠ (T b).2.1) (hown : s.vm.findClass own = some m.cls) (hK : va_K G vwCl tys s) {fs : List Value} (hP : xc G a (.inr (ci, fs)) H) (hS : va_S (xA b0) H0 H locs) (ha : b0 ≤ a) (hc : vwCl[ci]? = some (C, T, N)) (k : Nat) (hk : k < N) (hlink : (Cond.fieldLink own index ref (T k).2.1 (T k).2.2.1).before args s = true) (hsame : ∀ x, s.fieldFound? (T k).1 (T k).2.1 (T k).2.2.1 = some x → s.fieldFound? ref (T k).2.1 (T k).2.2.1 = some x) (hfin : (T k).2.2.2 = false) {ty : FieldType} {v : Value} (hd : parseFieldDescriptor (T k).2.2.1 = some ty) (hn : narrow ty v = v) (hfit : fits ty v = true) (hl : k < fs.length)
    (hdg : decode cc pc = .ok (.putfield index, 3)) (kk : ∀ (H1 : Heap) (locs1 : List Loc), xset G a (.inr (ci, fs.set k v)) H H1 → va_S (xA b0) H0 H1 locs1 → W p l e R s m args below meth c H1 locs1 cells slots Q (F0 m (pc + 3) ls rest)) : W p l e R s m args below meth c H locs cells slots Q (F0 m pc ls (v :: .ref a :: rest)) := by
  have hap := va_apart (own := own) hts hin ty0 hty hnm hK hc
  have hP0 := hP
  obtain ⟨r, h1, cell, q1, q2, q3, q4⟩ := hP
  have hr : r = (C, T, N) := Option.some.inj (h1.symm.trans hc)
  subst hr
  obtain ⟨hSS, hfc, kC, hkC, hkind⟩ := hK.1 ci _ hc
  obtain ⟨cf, kf, fi, f, hi, hsl⟩ := hSS k hk
  have hlay := hts _ (hin _ (u_in_lay hk))
  unfold u_lay at hlay
  rw [if_neg (by rw [hfin]; decide)] at hlay
  have hst := (u_facts hfc hkC (u_lays hts hin hk) hi).1
  have h6 := u_store hfc hkC hkind hlay hi hd hn hfit
  refine W.putK hexec hb (f := f) ⟨hown, hlink, ⟨_, _, _, hsame _ hi⟩, hst⟩ (by rw [q2]; exact h6) q1 q3 (by rw [hsl]; exact k2_hasslot (q4 k hk)) rfl rfl hdg fun H' e1 e2 e3 => ?_
  rw [hsl] at e1 ⊢
  exact kk H' _ ⟨⟨_, hc, t_OB.to (V := updV (vp_V fs) k v) ⟨_, e1, q2, q3, t_set q4 hap hk v⟩ (fun j _ => vp_updV_set hl v j)⟩, e2, e3⟩ (hS.put e2 e3 ha)
theorem xputF (hexec : p.tables.exec = Jvm.exec) (hb : c.code = cc) {own ref C : String} {T : u_T} {N ci index : Nat} {Ts : List Cond} (hts : ∀ w ∈ Ts, w.before args s = true) (hin : ∀ w ∈ u_ws C T N, w ∈ Ts) (ty0 : Nat → FieldType) (hty : ∀ k, k < N → parseFieldDescriptor (T k).2.2.1 = some (ty0 k)) (hnm : ∀ a, a < N → ∀ b, b < N → a ≠ b → (T a).2.1 ≠ (T b).2.1) (hown : s.vm.findClass own = some m.cls) (hK : va_K G vwCl tys s) {fs : List Value} (hP : xc G a (.inr (ci, fs)) H) (hS : va_S (xA b0) H0 H locs) (ha : b0 ≤ a) (hc : vwCl[ci]? = some (C, T, N)) (k : Nat) (hk : k < N) (hlink : (Cond.fieldLink own index ref (T k).2.1 (T k).2.2.1).before args s = true) (hsame : ∀ x, s.fieldFound? (T k).1 (T k).2.1 (T k).2.2.1 = some x → s.fieldFound? ref (T k).2.1 (T k).2.2.1 = some x) (hfin : (T k).2.2.2 = true) (hin2 : meth.name = "<init>") (hdecl : (T k).1 = own) {ty : FieldType} {v : Value} (hd : parseFieldDescriptor (T k).2.2.1 = some ty) (hn : narrow ty v = v) (hfit : fits ty v = true) (hl : k < fs.length)
    (hdg : decode cc pc = .ok (.putfield index, 3)) (kk : ∀ (H1 : Heap) (locs1 : List Loc), xset G a (.inr (ci, fs.set k v)) H H1 → va_S (xA b0) H0 H1 locs1 → W p l e R s m args below meth c H1 locs1 cells slots Q (F0 m (pc + 3) ls rest)) : W p l e R s m args below meth c H locs cells slots Q (F0 m pc ls (v :: .ref a :: rest)) := by
  have hap := va_apart (own := own) hts hin ty0 hty hnm hK hc
  obtain ⟨r, h1, cell, q1, q2, q3, q4⟩ := hP
  have hr : r = (C, T, N) := Option.some.inj (h1.symm.trans hc)
  subst hr
  obtain ⟨hSS, hfc, kC, hkC, hkind⟩ := hK.1 ci _ hc
  obtain ⟨cf, kf, fi, f, hi, hsl⟩ := hSS k hk
  have hlay := hts _ (hin _ (u_in_lay hk))
  unfold u_lay at hlay
  rw [if_pos hfin] at hlay
  have hst := (u_facts hfc hkC (u_lays hts hin hk) hi).1
  have hcf : m.cls = cf := by
    obtain ⟨_, _, c', _, _, _, -, -, hf', -, -, -, hown2, -⟩ := Cond.laysFinal_spec hlay
    have e1 : c' = cf := by have := hi.symm.trans hf'; simp at this; exact this.1.symm
    rw [hdecl] at hown2
    rw [← e1]; exact Option.some.inj (hown.symm.trans hown2)
  have h6 := u_fits hfc hkC hkind (Or.inr hlay) hi hd hn hfit
  refine W.putFinK hexec hb hown hlink (hsame _ hi) hst hcf hin2 (by rw [q2]; exact h6) q1 q3 (by rw [hsl]; exact k2_hasslot (q4 k hk)) rfl rfl hdg fun H' e1 e2 e3 => ?_
  rw [hsl] at e1 ⊢
  exact kk H' _ ⟨⟨_, hc, t_OB.to (V := updV (vp_V fs) k v) ⟨_, e1, q2, q3, t_set q4 hap hk v⟩ (fun j _ => vp_updV_set hl v j)⟩, e2, e3⟩ (hS.put e2 e3 ha)
theorem xdast (hexec : p.tables.exec = Jvm.exec) (hb : c.code = cc) (hK : va_K G vwCl tys s) (t0 : Nat) {cA : ClassId} {n : Nat} {f : Nat → UInt64} (hP : xc G a (.inl (cA, n, .inr (.inr (.inr (.inl f))))) H) (hS : va_S (xA b0) H0 H locs) (ha : b0 ≤ a) (ht : tys[t0]? = some (cA, .double)) {i : Int32} {x : UInt64} (hin : vp_in i n) (hdg : decode cc pc = .ok (.dastore, 1))
    (kk : ∀ (H1 : Heap) (locs1 : List Loc), xset G a (.inl (cA, n, .inr (.inr (.inr (.inl (vf_upd f i.toNatClampNeg x)))))) H H1 → va_S (xA b0) H0 H1 locs1 → W p l e R s m args below meth c H1 locs1 cells slots Q (F0 m (pc + 1) ls rest)) : W p l e R s m args below meth c H locs cells slots Q (F0 m pc ls (.double x :: .int i :: .ref a :: rest)) := by
  refine W.dast hexec hb hP ((hK.2 t0 _ ht).1 n (fun j => .double (f j))) (fun q => by cases q) (by show ¬ (i < 0 ∨ (arrV _ _ _).slots.size ≤ _); rw [arrV_size]; exact hin) rfl rfl hdg fun H1 e1 z oq => ?_
  refine kk H1 _ ⟨?_, z, oq⟩ (hS.put z oq ha)
  show H1[a]? = some (vp_cell _ _)
  rw [e1]
  rw [vp_cell_d, vp_cell_d, arrV_store]
  congr 2
  funext q
  by_cases hq : q = i.toNatClampNeg
  · subst hq
    simp [updV, vf_upd]
    
  · simp [updV, vf_upd, hq]
theorem xiast (hexec : p.tables.exec = Jvm.exec) (hb : c.code = cc) (hK : va_K G vwCl tys s) (t0 : Nat) {cA : ClassId} {n : Nat} {f : Nat → Int32} (hP : xc G a (.inl (cA, n, .inl f)) H) (hS : va_S (xA b0) H0 H locs) (ha : b0 ≤ a) (ht : tys[t0]? = some (cA, .int)) {i : Int32} {x : Int32} (hin : vp_in i n) (hdg : decode cc pc = .ok (.iastore, 1))
    (kk : ∀ (H1 : Heap) (locs1 : List Loc), xset G a (.inl (cA, n, .inl (upd f i.toNatClampNeg x))) H H1 → va_S (xA b0) H0 H1 locs1 → W p l e R s m args below meth c H1 locs1 cells slots Q (F0 m (pc + 1) ls rest)) : W p l e R s m args below meth c H locs cells slots Q (F0 m pc ls (.int x :: .int i :: .ref a :: rest)) := by
  refine W.iast hexec hb hP ((hK.2 t0 _ ht).1 n (fun j => .int (f j))) (fun q => by cases q) (by show ¬ (i < 0 ∨ (arrV _ _ _).slots.size ≤ _); rw [arrV_size]; exact hin) rfl rfl hdg fun H1 e1 z oq => ?_
  refine kk H1 _ ⟨?_, z, oq⟩ (hS.put z oq ha)
  show H1[a]? = some (vp_cell _ _)
  rw [e1]
  rw [vp_cell_i, vp_cell_i, arrV_store]
  congr 2
  funext q
  by_cases hq : q = i.toNatClampNeg
  · subst hq
    simp [updV, upd]
    
  · simp [updV, upd, hq]
theorem xzast (hexec : p.tables.exec = Jvm.exec) (hb : c.code = cc) (hK : va_K G vwCl tys s) (t0 : Nat) {cA : ClassId} {n : Nat} {f : Nat → Int32} (hP : xc G a (.inl (cA, n, .inl f)) H) (hS : va_S (xA b0) H0 H locs) (ha : b0 ≤ a) (ht : tys[t0]? = some (cA, .boolean)) {i : Int32} {x : Int32} (hin : vp_in i n) (hdg : decode cc pc = .ok (.bastore, 1))
    (kk : ∀ (H1 : Heap) (locs1 : List Loc), xset G a (.inl (cA, n, .inl (upd f i.toNatClampNeg (vp_nar .boolean x)))) H H1 → va_S (xA b0) H0 H1 locs1 → W p l e R s m args below meth c H1 locs1 cells slots Q (F0 m (pc + 1) ls rest)) : W p l e R s m args below meth c H locs cells slots Q (F0 m pc ls (.int x :: .int i :: .ref a :: rest)) := by
  refine W.zast hexec hb hP ((hK.2 t0 _ ht).1 n (fun j => .int (f j))) (fun q => by cases q) (by show ¬ (i < 0 ∨ (arrV _ _ _).slots.size ≤ _); rw [arrV_size]; exact hin) rfl rfl hdg fun H1 e1 z oq => ?_
  refine kk H1 _ ⟨?_, z, oq⟩ (hS.put z oq ha)
  show H1[a]? = some (vp_cell _ _)
  rw [e1]
  rw [vp_cell_i, vp_cell_i, arrV_store]
  congr 2
  funext q
  by_cases hq : q = i.toNatClampNeg
  · subst hq
    simp [updV, upd, vp_nar]
    try rfl
  · simp [updV, upd, vp_nar, hq]
theorem xlast (hexec : p.tables.exec = Jvm.exec) (hb : c.code = cc) (hK : va_K G vwCl tys s) (t0 : Nat) {cA : ClassId} {n : Nat} {f : Nat → Int64} (hP : xc G a (.inl (cA, n, .inr (.inl f))) H) (hS : va_S (xA b0) H0 H locs) (ha : b0 ≤ a) (ht : tys[t0]? = some (cA, .long)) {i : Int32} {x : Int64} (hin : vp_in i n) (hdg : decode cc pc = .ok (.lastore, 1))
    (kk : ∀ (H1 : Heap) (locs1 : List Loc), xset G a (.inl (cA, n, .inr (.inl (vp_updL f i.toNatClampNeg x)))) H H1 → va_S (xA b0) H0 H1 locs1 → W p l e R s m args below meth c H1 locs1 cells slots Q (F0 m (pc + 1) ls rest)) : W p l e R s m args below meth c H locs cells slots Q (F0 m pc ls (.long x :: .int i :: .ref a :: rest)) := by
  refine W.last hexec hb hP ((hK.2 t0 _ ht).1 n (fun j => .long (f j))) (fun q => by cases q) (by show ¬ (i < 0 ∨ (arrV _ _ _).slots.size ≤ _); rw [arrV_size]; exact hin) rfl rfl hdg fun H1 e1 z oq => ?_
  refine kk H1 _ ⟨?_, z, oq⟩ (hS.put z oq ha)
  show H1[a]? = some (vp_cell _ _)
  rw [e1]
  rw [vp_cell_l, vp_cell_l, arrV_store]
  congr 2
  funext q
  by_cases hq : q = i.toNatClampNeg
  · subst hq
    simp [updV, vp_updL]
    
  · simp [updV, vp_updL, hq]
end XHeap
end
section
/-! MORE ROWS: a body's beginning, array reads by whole numbers, whole numbers as places, throws. -/
section XMore
/-- a body, with all that a walk needs at its head -/
theorem xbody {l : Launch} {y : MethodName} {ws ws' : List Cond} {rm : Room} {G : va_G} {ty : Nat → ClassId} {b0 : Nat} {av : List Value} {H : Heap} {post : Option Value → Heap → Prop} {px : String → Heap → Prop} {cc : ByteArray} {maxL : Nat} {ret : Option FieldType} {C : String} {lv : List (Nat × Value)}
    (hy : plainName y.cls = true) (hw : ws = Cond.code y cc maxL ret :: ws') (hC : y.cls = C) (hlen : (lg_sl av).length ≤ maxL) (hlv : lv_args 0 av = lv)
    (body : ∀ (p : Program) (e : Env) (s : State) (m : MethodId) (below : List Frame) (meth : Method) (c : Code) (d0 : Drawn), p.tables.exec = Jvm.exec → c.code = cc → meth.sig.returnType = ret → (∀ d : Drawn, ∀ w ∈ ws, w.before av.toArray (s.setDrawn d) = true) → s.vm.findClass C = some m.cls → meth.locks = false → c.maxLocals = maxL → (∀ x ∈ c.exceptionTable.toList, False) → meth.name = y.name → xK G ty b0 s → b0 ≤ s.heap.size → s.heap = H → va_S (xA b0) s.heap H [] → s.drawn.sameBut d0 lw_cs → ∀ ls : Array Slot, lv_has ls maxL lv →
      W p l e rm (s.setDrawn d0) m av.toArray below meth c H [] 0 0 (xMQ below post px av.toArray s rm b0) (F0 m 0 ls [])) : xMet l y ws rm G ty b0 av H post px := by
  refine xofW (cc := cc) (maxL := maxL) (ret := ret) hy hw ?_
  intro p e s m below meth c s₁ B hml hxt hH hK hb0 hd0
  have hl := lv_entry av (n := maxL) hlen
  rw [hlv] at hl
  rw [lg_entry_eq]
  generalize (lg_sl av ++ List.replicate (maxL - (lg_sl av).length) Slot.unset).toArray = ls at hl ⊢
  exact body p e s m below meth c s.drawn B.exec B.bytes B.returns (fun d => dr_words (atoms_spec (ws := ws) B.pre) d) (by rw [← hC]; exact findClass_of_methodNamed B.named) B.notSynchronized hml hxt (name_of_methodNamed B.named B.method).1 hK (by rw [hH]; exact hb0) hH (by rw [hH]; exact va_S.rf) hd0 ls hl
/-- place i of n, as a whole number -/
def xix (i : Int32) (j n : Nat) : Prop := vp_in i n ∧ i.toNatClampNeg = j
theorem xix_of {j n : Nat} (h : j < n) (hn : n < 2 ^ 31) : xix (nI j) j n := ⟨vp_in_nI h hn, nI_clamp (Nat.lt_trans h hn)⟩
variable {p : Program} {l : Launch} {e : Env} {R : Room} {s : State} {m : MethodId} {args : Array Value} {below : List Frame} {meth : Method} {c : Code} {H : Heap} {locs : List Loc} {cells slots : Nat} {Q : State → Prop}
variable {cc : ByteArray} {pc : Nat} {ls : Array Slot} {rest : List Value} {d0 : Drawn} {G : va_G} {tys : List (ClassId × FieldType)} {a b0 n j : Nat} {H0 : Heap} {cA : ClassId} {i : Int32}
theorem xdald (hexec : p.tables.exec = Jvm.exec) (hb : c.code = cc) (hK : va_K G vwCl tys s) (t0 : Nat) {f : Nat → UInt64} (hP : xc G a (.inl (cA, n, .inr (.inr (.inr (.inl f))))) H) (ht : tys[t0]? = some (cA, .double)) (hi : xix i j n) (hdg : decode cc pc = .ok (.daload, 1))
    (kk : W p l e R s m args below meth c H locs cells slots Q (F0 m (pc + 1) ls (.double (f j) :: rest))) : W p l e R s m args below meth c H locs cells slots Q (F0 m pc ls (.int i :: .ref a :: rest)) :=
  va_dald hexec hb hK (x1 hP) 0 t0 rfl ht hi.1 hdg (by rw [hi.2]; exact kk)
theorem xiald (hexec : p.tables.exec = Jvm.exec) (hb : c.code = cc) (hK : va_K G vwCl tys s) (t0 : Nat) {f : Nat → Int32} (hP : xc G a (.inl (cA, n, .inl f)) H) (ht : tys[t0]? = some (cA, .int)) (hi : xix i j n) (hdg : decode cc pc = .ok (.iaload, 1))
    (kk : W p l e R s m args below meth c H locs cells slots Q (F0 m (pc + 1) ls (.int (f j) :: rest))) : W p l e R s m args below meth c H locs cells slots Q (F0 m pc ls (.int i :: .ref a :: rest)) :=
  va_iald hexec hb hK (x1 hP) 0 t0 rfl ht hi.1 hdg (by rw [hi.2]; exact kk)
theorem xzald (hexec : p.tables.exec = Jvm.exec) (hb : c.code = cc) (hK : va_K G vwCl tys s) (t0 : Nat) {f : Nat → Int32} (hP : xc G a (.inl (cA, n, .inl f)) H) (ht : tys[t0]? = some (cA, .boolean)) (hi : xix i j n) (hdg : decode cc pc = .ok (.baload, 1))
    (kk : W p l e R s m args below meth c H locs cells slots Q (F0 m (pc + 1) ls (.int (f j) :: rest))) : W p l e R s m args below meth c H locs cells slots Q (F0 m pc ls (.int i :: .ref a :: rest)) :=
  va_zald hexec hb hK (x1 hP) 0 t0 rfl ht hi.1 hdg (by rw [hi.2]; exact kk)
theorem xlald (hexec : p.tables.exec = Jvm.exec) (hb : c.code = cc) (hK : va_K G vwCl tys s) (t0 : Nat) {f : Nat → Int64} (hP : xc G a (.inl (cA, n, .inr (.inl f))) H) (ht : tys[t0]? = some (cA, .long)) (hi : xix i j n) (hdg : decode cc pc = .ok (.laload, 1))
    (kk : W p l e R s m args below meth c H locs cells slots Q (F0 m (pc + 1) ls (.long (f j) :: rest))) : W p l e R s m args below meth c H locs cells slots Q (F0 m pc ls (.int i :: .ref a :: rest)) :=
  va_lald hexec hb hK (x1 hP) 0 t0 rfl ht hi.1 hdg (by rw [hi.2]; exact kk)
theorem xaald (hexec : p.tables.exec = Jvm.exec) (hb : c.code = cc) (hK : va_K G vwCl tys s) (t0 : Nat) {C : String} {f : Nat → Option Nat} (hP : xc G a (.inl (cA, n, .inr (.inr (.inr (.inr f))))) H) (ht : tys[t0]? = some (cA, .object C)) (hi : xix i j n) {q : Nat} (hq : f j = some q) (hdg : decode cc pc = .ok (.aaload, 1))
    (kk : W p l e R s m args below meth c H locs cells slots Q (F0 m (pc + 1) ls (.ref q :: rest))) : W p l e R s m args below meth c H locs cells slots Q (F0 m pc ls (.int i :: .ref a :: rest)) :=
  va_aldq hexec hb hK (x1 hP) 0 t0 rfl ht hi.1 hdg (by rw [hi.2, hq]; exact kk)
theorem xalen (hexec : p.tables.exec = Jvm.exec) (hb : c.code = cc) (hK : va_K G vwCl tys s) (t0 : Nat) {x : vp_A} (hP : xc G a (.inl (cA, x)) H) {ty : FieldType} (ht : tys[t0]? = some (cA, ty)) (hdg : decode cc pc = .ok (.arraylength, 1))
    (kk : W p l e R s m args below meth c H locs cells slots Q (F0 m (pc + 1) ls (.int (nI x.1) :: rest))) : W p l e R s m args below meth c H locs cells slots Q (F0 m pc ls (.ref a :: rest)) :=
  va_alen hexec hb hK (x1 hP) 0 t0 rfl ht rfl hdg kk
theorem xd2i (hexec : p.tables.exec = Jvm.exec) (hb : c.code = cc) {x z : UInt64} (hx : vq x z) (hdg : decode cc pc = .ok (.d2i, 1))
    (k : W p l e R s m args below meth c H locs cells slots Q (F0 m (pc + 1) ls (.int (FP.d2i z) :: rest))) : W p l e R s m args below meth c H locs cells slots Q (F0 m pc ls (.double x :: rest)) :=
  lv_d2i hexec hb hdg (by rw [vq_d2i hx]; exact k)
theorem xiaddN (hexec : p.tables.exec = Jvm.exec) (hb : c.code = cc) {x y : Nat} (hdg : decode cc pc = .ok (.iadd, 1))
    (k : W p l e R s m args below meth c H locs cells slots Q (F0 m (pc + 1) ls (.int (nI (x + y)) :: rest))) : W p l e R s m args below meth c H locs cells slots Q (F0 m pc ls (.int (nI y) :: .int (nI x) :: rest)) :=
  lv_iadd hexec hb hdg (by rw [nI_add]; exact k)
theorem xisubN (hexec : p.tables.exec = Jvm.exec) (hb : c.code = cc) {x y : Nat} (hxy : y ≤ x) (hdg : decode cc pc = .ok (.isub, 1))
    (k : W p l e R s m args below meth c H locs cells slots Q (F0 m (pc + 1) ls (.int (nI (x - y)) :: rest))) : W p l e R s m args below meth c H locs cells slots Q (F0 m pc ls (.int (nI y) :: .int (nI x) :: rest)) :=
  lv_isub hexec hb hdg (by rw [pk_sub hxy]; exact k)
theorem ximulN (hexec : p.tables.exec = Jvm.exec) (hb : c.code = cc) {x y : Nat} (hdg : decode cc pc = .ok (.imul, 1))
    (k : W p l e R s m args below meth c H locs cells slots Q (F0 m (pc + 1) ls (.int (nI (x * y)) :: rest))) : W p l e R s m args below meth c H locs cells slots Q (F0 m pc ls (.int (nI y) :: .int (nI x) :: rest)) :=
  lv_imul hexec hb hdg (by rw [pk_mul]; exact k)
theorem xiincN (hexec : p.tables.exec = Jvm.exec) (hb : c.code = cc) {i nL k x y : Nat} {n : Int} {lv lv' : List (Nat × Value)} (hdg : decode cc pc = .ok (.iinc i n, 3)) (h : lv_has ls nL lv) (hk : lv[k]? = some (i, .int (nI x))) (hv : Int32.ofInt n = nI y) (hn : i < nL) (hl : (i, Value.int (nI (x + y))) :: lv.filter (fun q => !(q.1 == i) && !(q.1 + 1 == i && q.2.category == 2)) = lv')
    (kk : ∀ ls' : Array Slot, lv_has ls' nL lv' → W p l e R s m args below meth c H locs cells slots Q (F0 m (pc + 3) ls' rest)) : W p l e R s m args below meth c H locs cells slots Q (F0 m pc ls rest) :=
  lv_iinc hexec hb hdg h hk (by rw [hv, nI_add]) hn hl kk
theorem xicmpN_lt (hexec : p.tables.exec = Jvm.exec) (hb : c.code = cc) {x z : Nat} {off : Int} {tgt : Nat} (ha : x < 2 ^ 31) (hb2 : z < 2 ^ 31) (hdg : decode cc pc = .ok (.if_icmp .lt off, 3)) (ht : (pc : Int) + off = (tgt : Int))
    (kt : x < z → W p l e R s m args below meth c H locs cells slots Q (F0 m tgt ls rest)) (kf : z ≤ x → W p l e R s m args below meth c H locs cells slots Q (F0 m (pc + 3) ls rest)) : W p l e R s m args below meth c H locs cells slots Q (F0 m pc ls (.int (nI z) :: .int (nI x) :: rest)) :=
  lv_icmp_lt hexec hb hdg ht (fun h => kt ((nI_ltI ha hb2).mp h)) (fun h => kf (Nat.not_lt.mp fun z => h ((nI_ltI ha hb2).mpr z)))
theorem xicmpN_le (hexec : p.tables.exec = Jvm.exec) (hb : c.code = cc) {x z : Nat} {off : Int} {tgt : Nat} (ha : x < 2 ^ 31) (hb2 : z < 2 ^ 31) (hdg : decode cc pc = .ok (.if_icmp .le off, 3)) (ht : (pc : Int) + off = (tgt : Int))
    (kt : x ≤ z → W p l e R s m args below meth c H locs cells slots Q (F0 m tgt ls rest)) (kf : z < x → W p l e R s m args below meth c H locs cells slots Q (F0 m (pc + 3) ls rest)) : W p l e R s m args below meth c H locs cells slots Q (F0 m pc ls (.int (nI z) :: .int (nI x) :: rest)) :=
  lv_icmp_le hexec hb hdg ht (fun h => kt ((nI_leI ha hb2).mp h)) (fun h => kf (Nat.not_le.mp fun z => h ((nI_leI ha hb2).mpr z)))
theorem xicmpN_ge (hexec : p.tables.exec = Jvm.exec) (hb : c.code = cc) {x z : Nat} {off : Int} {tgt : Nat} (ha : x < 2 ^ 31) (hb2 : z < 2 ^ 31) (hdg : decode cc pc = .ok (.if_icmp .ge off, 3)) (ht : (pc : Int) + off = (tgt : Int))
    (kt : z ≤ x → W p l e R s m args below meth c H locs cells slots Q (F0 m tgt ls rest)) (kf : x < z → W p l e R s m args below meth c H locs cells slots Q (F0 m (pc + 3) ls rest)) : W p l e R s m args below meth c H locs cells slots Q (F0 m pc ls (.int (nI z) :: .int (nI x) :: rest)) :=
  lv_icmp_ge hexec hb hdg ht (fun h => kt ((nI_leI hb2 ha).mp h)) (fun h => kf (Nat.not_le.mp fun z => h ((nI_leI hb2 ha).mpr z)))
theorem xicmpN_gt (hexec : p.tables.exec = Jvm.exec) (hb : c.code = cc) {x z : Nat} {off : Int} {tgt : Nat} (ha : x < 2 ^ 31) (hb2 : z < 2 ^ 31) (hdg : decode cc pc = .ok (.if_icmp .gt off, 3)) (ht : (pc : Int) + off = (tgt : Int))
    (kt : z < x → W p l e R s m args below meth c H locs cells slots Q (F0 m tgt ls rest)) (kf : x ≤ z → W p l e R s m args below meth c H locs cells slots Q (F0 m (pc + 3) ls rest)) : W p l e R s m args below meth c H locs cells slots Q (F0 m pc ls (.int (nI z) :: .int (nI x) :: rest)) :=
  lv_icmp_gt hexec hb hdg ht (fun h => kt ((nI_ltI hb2 ha).mp h)) (fun h => kf (Nat.not_lt.mp fun z => h ((nI_ltI hb2 ha).mpr z)))
theorem xicmpN_eq (hexec : p.tables.exec = Jvm.exec) (hb : c.code = cc) {x z : Nat} {off : Int} {tgt : Nat} (ha : x < 2 ^ 31) (hb2 : z < 2 ^ 31) (hdg : decode cc pc = .ok (.if_icmp .eq off, 3)) (ht : (pc : Int) + off = (tgt : Int))
    (kt : x = z → W p l e R s m args below meth c H locs cells slots Q (F0 m tgt ls rest)) (kf : ¬ x = z → W p l e R s m args below meth c H locs cells slots Q (F0 m (pc + 3) ls rest)) : W p l e R s m args below meth c H locs cells slots Q (F0 m pc ls (.int (nI z) :: .int (nI x) :: rest)) :=
  lv_icmp_eq hexec hb hdg ht (fun h => kt ((nI_eq ha hb2).mp h)) (fun h => kf (fun z => h ((nI_eq ha hb2).mpr z)))
theorem xicmpN_ne (hexec : p.tables.exec = Jvm.exec) (hb : c.code = cc) {x z : Nat} {off : Int} {tgt : Nat} (ha : x < 2 ^ 31) (hb2 : z < 2 ^ 31) (hdg : decode cc pc = .ok (.if_icmp .ne off, 3)) (ht : (pc : Int) + off = (tgt : Int))
    (kt : ¬ x = z → W p l e R s m args below meth c H locs cells slots Q (F0 m tgt ls rest)) (kf : x = z → W p l e R s m args below meth c H locs cells slots Q (F0 m (pc + 3) ls rest)) : W p l e R s m args below meth c H locs cells slots Q (F0 m pc ls (.int (nI z) :: .int (nI x) :: rest)) :=
  lv_icmp_ne hexec hb hdg ht (fun h => kt (fun z => h ((nI_eq ha hb2).mpr z))) (fun h => kf ((nI_eq ha hb2).mp h))
end XMore
/-- no cell that was there has changed -/
abbrev xext (H H1 : Heap) : Prop := ∀ q : Nat, q < H.size → H1[q]? = H[q]?
theorem xthrow_ok0 : ∀ w ∈ (vx_atS RX6 111 "java/lang/IndexOutOfBoundsException" ["java/lang/RuntimeException", "java/lang/Exception"]).filter (fun w => !goodWord w), w ∈ xFaceL := by decide +kernel
theorem xthrow_ok1 : ∀ w ∈ (vx_atS RX6 68 "java/lang/IllegalArgumentException" ["java/lang/RuntimeException", "java/lang/Exception"]).filter (fun w => !goodWord w), w ∈ xFaceL := by decide +kernel
theorem xthrow_ok2 : ∀ w ∈ (vx_atS RX6 106 "java/lang/IllegalStateException" ["java/lang/RuntimeException", "java/lang/Exception"]).filter (fun w => !goodWord w), w ∈ xFaceL := by decide +kernel
theorem xthrow_gd0 : ∀ w ∈ Cond.classLink RX6 107 "java/lang/IndexOutOfBoundsException" :: Cond.initialized "java/lang/IndexOutOfBoundsException" :: vx_atS RX6 111 "java/lang/IndexOutOfBoundsException" ["java/lang/RuntimeException", "java/lang/Exception"], vx_ot w = true := by decide +kernel
theorem xthrow_gd1 : ∀ w ∈ Cond.classLink RX6 64 "java/lang/IllegalArgumentException" :: Cond.initialized "java/lang/IllegalArgumentException" :: vx_atS RX6 68 "java/lang/IllegalArgumentException" ["java/lang/RuntimeException", "java/lang/Exception"], vx_ot w = true := by decide +kernel
theorem xthrow_gd2 : ∀ w ∈ Cond.classLink RX6 102 "java/lang/IllegalStateException" :: Cond.initialized "java/lang/IllegalStateException" :: vx_atS RX6 106 "java/lang/IllegalStateException" ["java/lang/RuntimeException", "java/lang/Exception"], vx_ot w = true := by decide +kernel
section XThrow
variable {p : Program} {l : Launch} {e : Env} {R : Room} {s : State} {m : MethodId} {args : Array Value} {below : List Frame} {meth : Method} {c : Code} {H : Heap} {locs : List Loc} {cells slots : Nat}
variable {rm : Room} {b0 : Nat} {post : Option Value → Heap → Prop} {px : String → Heap → Prop} {d0 : Drawn} {cc : ByteArray} {pc : Nat} {ls : Array Slot} {rest : List Value} {G : va_G} {ty : Nat → ClassId} {ws : List Cond} {cls text : String} {ik is ic nL : Nat}
theorem xthrow_hat {args : Array Value} {s : State} (hts : ∀ w ∈ ws, w.before args s = true) (hin : ∀ w ∈ (vx_atS RX6 ic cls ["java/lang/RuntimeException", "java/lang/Exception"]).filter goodWord, w ∈ ws) (hok : ∀ w ∈ (vx_atS RX6 ic cls ["java/lang/RuntimeException", "java/lang/Exception"]).filter (fun w => !goodWord w), w ∈ xFaceL) (hF : ∀ w ∈ xFaceL, va_Nw w s) : ∀ w ∈ vx_atS RX6 ic cls ["java/lang/RuntimeException", "java/lang/Exception"], w.before args s = true :=
  vx_hat (B := xFaceL) (fun w h => hts w (hin w h)) hok (fun w h => va_Nw.use (xFace_tabs w h) (hF w h))
theorem xthrowS (hfl : l.stackTraces = false) (hd0 : s.drawn.sameBut d0 lw_cs) (hexec : p.tables.exec = Jvm.exec) (hb : c.code = cc) (hown : s.vm.findClass RX6 = some m.cls) (hlocks : meth.locks = false) (hxt : ∀ x ∈ c.exceptionTable.toList, False) (hml : c.maxLocals = nL) (hsz : ls.size = nL) (hts : ∀ d : Drawn, ∀ w ∈ ws, w.before args (s.setDrawn d) = true)
    (hcls : Bundle.fit cls = true) (hk : Cond.classLink RX6 ik cls ∈ ws) (hini : Cond.initialized cls ∈ ws) (hin : ∀ w ∈ (vx_atS RX6 ic cls ["java/lang/RuntimeException", "java/lang/Exception"]).filter goodWord, w ∈ ws) (hok : ∀ w ∈ (vx_atS RX6 ic cls ["java/lang/RuntimeException", "java/lang/Exception"]).filter (fun w => !goodWord w), w ∈ xFaceL)
    (hgood : ∀ w ∈ Cond.classLink RX6 ik cls :: Cond.initialized cls :: vx_atS RX6 ic cls ["java/lang/RuntimeException", "java/lang/Exception"], vx_ot w = true) (htx : (is, text) ∈ xTexts) (hK : xK G ty b0 s) (hS : va_S (xA b0) s.heap H locs)
    (d0' : decode cc pc = .ok (.new ik, 3)) (d3 : decode cc (pc + 3) = .ok (.dup, 1)) (d4 : decode cc (pc + 4) = .ok (.ldc is, 2)) (d6 : decode cc (pc + 6) = .ok (.invokespecial ic, 3)) (d9 : decode cc (pc + 9) = .ok (.athrow, 1))
    (hRframes : 5 < R.frames) (hRlocals : (rest.map fun v => v.category).sum + 82 ≤ R.locals) (hRcells : cells + 1 ≤ R.cells) (hRslots : slots + 6 ≤ R.slots) (hc : cells + 1 ≤ rm.cells) (hs : slots + 6 ≤ rm.slots)
    (hp : ∀ H1 : Heap, xext H H1 → px cls H1) :
    W p l e R (s.setDrawn d0) m args below meth c H locs cells slots (xMQ below post px args s rm b0) (F0 m pc ls rest) := by
  obtain ⟨hK1, hU, hN, -, hT, hF, -⟩ := hK
  obtain ⟨sa, hsa⟩ := hT _ htx
  refine xend hd0 (vx_throwS (s := s.setDrawn d0) (cls := cls) (text := text) (ik := ik) (is := is) (ic := ic) (sa := sa) (A := xA b0) (names := ["java/lang/RuntimeException", "java/lang/Exception"]) hexec hb hfl hown hcls (by decide +kernel) (hts d0 _ hk) (hts d0 _ hini) (vk_R.same (u := s) rfl hsa) (xthrow_hat (hts d0) hin hok (fun w h => va_Nw.same (u := s) (xFace_tabs w h) rfl (hF w h))) hgood hU hN hS (hsz.trans hml.symm) d0' d3 d4 d6 d9 (fun x hx => (hxt x hx).elim) hRframes hRlocals hRcells hRslots hlocks ?_ hS.2.2 hc hs)
  intro t hA hz hq
  exact ⟨hp _ (fun q h => hq q h), ⟨Nat.le_trans hS.1 hz, fun q h1 h2 => (hq q (Nat.lt_of_lt_of_le h1 hS.1)).trans (hS.2.1 q h1 h2)⟩⟩
theorem xthrowSW (hfl : l.stackTraces = false) (hd0 : s.drawn.sameBut d0 lw_cs) (hexec : p.tables.exec = Jvm.exec) (hb : c.code = cc) (hown : s.vm.findClass RX6 = some m.cls) (hlocks : meth.locks = false) (hxt : ∀ x ∈ c.exceptionTable.toList, False) (hml : c.maxLocals = nL) (hsz : ls.size = nL) (hts : ∀ d : Drawn, ∀ w ∈ ws, w.before args (s.setDrawn d) = true)
    (hcls : Bundle.fit cls = true) (hk : Cond.classLink RX6 ik cls ∈ ws) (hini : Cond.initialized cls ∈ ws) (hin : ∀ w ∈ (vx_atS RX6 ic cls ["java/lang/RuntimeException", "java/lang/Exception"]).filter goodWord, w ∈ ws) (hok : ∀ w ∈ (vx_atS RX6 ic cls ["java/lang/RuntimeException", "java/lang/Exception"]).filter (fun w => !goodWord w), w ∈ xFaceL)
    (hgood : ∀ w ∈ Cond.classLink RX6 ik cls :: Cond.initialized cls :: vx_atS RX6 ic cls ["java/lang/RuntimeException", "java/lang/Exception"], vx_ot w = true) (htx : (is, text) ∈ xTexts) (hK : xK G ty b0 s) (hS : va_S (xA b0) s.heap H locs)
    (d0' : decode cc pc = .ok (.new ik, 3)) (d3 : decode cc (pc + 3) = .ok (.dup, 1)) (d4 : decode cc (pc + 4) = .ok (.ldc_w is, 3)) (d7 : decode cc (pc + 7) = .ok (.invokespecial ic, 3)) (d10 : decode cc (pc + 10) = .ok (.athrow, 1))
    (hRframes : 5 < R.frames) (hRlocals : (rest.map fun v => v.category).sum + 82 ≤ R.locals) (hRcells : cells + 1 ≤ R.cells) (hRslots : slots + 6 ≤ R.slots) (hc : cells + 1 ≤ rm.cells) (hs : slots + 6 ≤ rm.slots)
    (hp : ∀ H1 : Heap, xext H H1 → px cls H1) :
    W p l e R (s.setDrawn d0) m args below meth c H locs cells slots (xMQ below post px args s rm b0) (F0 m pc ls rest) := by
  obtain ⟨hK1, hU, hN, -, hT, hF, -⟩ := hK
  obtain ⟨sa, hsa⟩ := hT _ htx
  refine xend hd0 (vx_throwSW (s := s.setDrawn d0) (cls := cls) (text := text) (ik := ik) (is := is) (ic := ic) (sa := sa) (A := xA b0) (names := ["java/lang/RuntimeException", "java/lang/Exception"]) hexec hb hfl hown hcls (by decide +kernel) (hts d0 _ hk) (hts d0 _ hini) (vk_R.same (u := s) rfl hsa) (xthrow_hat (hts d0) hin hok (fun w h => va_Nw.same (u := s) (xFace_tabs w h) rfl (hF w h))) hgood hU hN hS (hsz.trans hml.symm) d0' d3 d4 d7 d10 (fun x hx => (hxt x hx).elim) hRframes hRlocals hRcells hRslots hlocks ?_ hS.2.2 hc hs)
  intro t hA hz hq
  exact ⟨hp _ (fun q h => hq q h), ⟨Nat.le_trans hS.1 hz, fun q h1 h2 => (hq q (Nat.lt_of_lt_of_le h1 hS.1)).trans (hS.2.1 q h1 h2)⟩⟩
end XThrow
end
section
/-! ARRAY STORES BY PLACES, a place as a natural number. -/
section XStore
variable {p : Program} {l : Launch} {e : Env} {R : Room} {s : State} {m : MethodId} {args : Array Value} {below : List Frame} {meth : Method} {c : Code} {H : Heap} {locs : List Loc} {cells slots : Nat} {Q : State → Prop}
variable {cc : ByteArray} {pc : Nat} {ls : Array Slot} {rest : List Value} {G : va_G} {tys : List (ClassId × FieldType)} {a b0 n j : Nat} {H0 : Heap} {cA : ClassId} {i : Int32}
theorem xdastN (hexec : p.tables.exec = Jvm.exec) (hb : c.code = cc) (hK : va_K G vwCl tys s) (t0 : Nat) {f : Nat → UInt64} (hP : xc G a (.inl (cA, n, .inr (.inr (.inr (.inl f))))) H) (hS : va_S (xA b0) H0 H locs) (ha : b0 ≤ a) (ht : tys[t0]? = some (cA, .double)) {x : UInt64} (hi : xix i j n) (hdg : decode cc pc = .ok (.dastore, 1))
    (kk : ∀ (H1 : Heap) (locs1 : List Loc), xset G a (.inl (cA, n, .inr (.inr (.inr (.inl (vf_upd f j x)))))) H H1 → va_S (xA b0) H0 H1 locs1 → W p l e R s m args below meth c H1 locs1 cells slots Q (F0 m (pc + 1) ls rest)) : W p l e R s m args below meth c H locs cells slots Q (F0 m pc ls (.double x :: .int i :: .ref a :: rest)) :=
  xdast hexec hb hK t0 hP hS ha ht hi.1 hdg fun H1 l1 h => kk H1 l1 (by rw [hi.2] at h; exact h)
theorem xiastN (hexec : p.tables.exec = Jvm.exec) (hb : c.code = cc) (hK : va_K G vwCl tys s) (t0 : Nat) {f : Nat → Int32} (hP : xc G a (.inl (cA, n, .inl f)) H) (hS : va_S (xA b0) H0 H locs) (ha : b0 ≤ a) (ht : tys[t0]? = some (cA, .int)) {x : Int32} (hi : xix i j n) (hdg : decode cc pc = .ok (.iastore, 1))
    (kk : ∀ (H1 : Heap) (locs1 : List Loc), xset G a (.inl (cA, n, .inl (upd f j x))) H H1 → va_S (xA b0) H0 H1 locs1 → W p l e R s m args below meth c H1 locs1 cells slots Q (F0 m (pc + 1) ls rest)) : W p l e R s m args below meth c H locs cells slots Q (F0 m pc ls (.int x :: .int i :: .ref a :: rest)) :=
  xiast hexec hb hK t0 hP hS ha ht hi.1 hdg fun H1 l1 h => kk H1 l1 (by rw [hi.2] at h; exact h)
theorem xzastN (hexec : p.tables.exec = Jvm.exec) (hb : c.code = cc) (hK : va_K G vwCl tys s) (t0 : Nat) {f : Nat → Int32} (hP : xc G a (.inl (cA, n, .inl f)) H) (hS : va_S (xA b0) H0 H locs) (ha : b0 ≤ a) (ht : tys[t0]? = some (cA, .boolean)) {x : Int32} (hi : xix i j n) (hz : vp_nar .boolean x = x) (hdg : decode cc pc = .ok (.bastore, 1))
    (kk : ∀ (H1 : Heap) (locs1 : List Loc), xset G a (.inl (cA, n, .inl (upd f j x))) H H1 → va_S (xA b0) H0 H1 locs1 → W p l e R s m args below meth c H1 locs1 cells slots Q (F0 m (pc + 1) ls rest)) : W p l e R s m args below meth c H locs cells slots Q (F0 m pc ls (.int x :: .int i :: .ref a :: rest)) :=
  xzast hexec hb hK t0 hP hS ha ht hi.1 hdg fun H1 l1 h => kk H1 l1 (by rw [hi.2, hz] at h; exact h)
theorem xlastN (hexec : p.tables.exec = Jvm.exec) (hb : c.code = cc) (hK : va_K G vwCl tys s) (t0 : Nat) {f : Nat → Int64} (hP : xc G a (.inl (cA, n, .inr (.inl f))) H) (hS : va_S (xA b0) H0 H locs) (ha : b0 ≤ a) (ht : tys[t0]? = some (cA, .long)) {x : Int64} (hi : xix i j n) (hdg : decode cc pc = .ok (.lastore, 1))
    (kk : ∀ (H1 : Heap) (locs1 : List Loc), xset G a (.inl (cA, n, .inr (.inl (vp_updL f j x)))) H H1 → va_S (xA b0) H0 H1 locs1 → W p l e R s m args below meth c H1 locs1 cells slots Q (F0 m (pc + 1) ls rest)) : W p l e R s m args below meth c H locs cells slots Q (F0 m pc ls (.long x :: .int i :: .ref a :: rest)) :=
  xlast hexec hb hK t0 hP hS ha ht hi.1 hdg fun H1 l1 h => kk H1 l1 (by rw [hi.2] at h; exact h)
end XStore
theorem nN_nI {j : Nat} (h : j < 2 ^ 31) : (nI j).toNatClampNeg = j := nI_clamp h
theorem zNar0 : vp_nar .boolean (nI 0) = nI 0 := by decide
theorem zNar1 : vp_nar .boolean (nI 1) = nI 1 := by decide
theorem zNar {x : Int32} (h : x = 0 ∨ x = 1) : vp_nar .boolean x = x := by rcases h with rfl | rfl <;> decide
/-- the same heap but for the reference's cells -/
def xRfr (m0 : Nat) (A : Nat → Nat) (H H1 : Heap) : Prop := H1.size = H.size ∧ ∀ q : Nat, q ≠ m0 → (∀ i : Nat, i < 11 → q ≠ A i) → H1[q]? = H[q]?
theorem xRfr.rf {m0 : Nat} {A : Nat → Nat} {H : Heap} : xRfr m0 A H H := ⟨rfl, fun _ _ _ => rfl⟩
theorem xRfr.put0 {G : va_G} {m0 : Nat} {A : Nat → Nat} {e : va_E} {H H1 H2 : Heap} (h : xRfr m0 A H H1) (h2 : xset G m0 e H1 H2) : xRfr m0 A H H2 := ⟨h2.2.1.trans h.1, fun q a b => (h2.2.2 q a).trans (h.2 q a b)⟩
theorem xRfr.putA {G : va_G} {m0 : Nat} {A : Nat → Nat} {e : va_E} {H H1 H2 : Heap} (h : xRfr m0 A H H1) (i : Nat) (hi : i < 11) (h2 : xset G (A i) e H1 H2) : xRfr m0 A H H2 := ⟨h2.2.1.trans h.1, fun q a b => (h2.2.2 q (b i hi)).trans (h.2 q a b)⟩
theorem xRfr.tr {m0 : Nat} {A : Nat → Nat} {H H1 H2 : Heap} (h : xRfr m0 A H H1) (h2 : xRfr m0 A H1 H2) : xRfr m0 A H H2 := ⟨h2.1.trans h.1, fun q a b => (h2.2 q a b).trans (h.2 q a b)⟩
/-- the reference's addresses are apart, and new -/
def xAp (m0 : Nat) (A : Nat → Nat) : Prop := (∀ i : Nat, i < 11 → A i ≠ m0) ∧ ∀ i j : Nat, i < 11 → j < 11 → A i = A j → i = j
def xNw (b0 m0 : Nat) (A : Nat → Nat) : Prop := b0 ≤ m0 ∧ ∀ i : Nat, i < 11 → b0 ≤ A i
end
section
/-! THE NUMBERS THEMSELVES: what both sides reckon. -/
def pIter (v : UInt64) : Nat → UInt64
  | 0 => FP.dadd FP.dconst1 v
  | n + 1 => FP.ddiv (FP.dadd (pIter v n) (FP.ddiv v (pIter v n))) 4611686018427387904
/-- ROOT -/
def pRoot (v : UInt64) : UInt64 := if xgt v FP.dconst0 = true then pIter v 40 else FP.dconst0
theorem pIter_vq {x z : UInt64} (h : vq x z) (n : Nat) : pIter x n = pIter z n := by
  induction n with
  | zero => exact vq_add (vq_rf _) h
  | succ n ih =>
    show FP.ddiv (FP.dadd (pIter x n) (FP.ddiv x (pIter x n))) _ = FP.ddiv (FP.dadd (pIter z n) (FP.ddiv z (pIter z n))) _
    rw [ih, vq_div h (vq_rf _)]
theorem pRoot_vq {x z : UInt64} (h : vq x z) : pRoot x = pRoot z := by
  unfold pRoot
  rw [vq_gt h (vq_rf _), pIter_vq h]
/-- a length -/
def pLen (x y : UInt64) : UInt64 := pRoot (FP.dadd (FP.dmul x x) (FP.dmul y y))
/-- DISTANCE from the first place to the other -/
def pDist (x0 y0 z0 x1 y1 z1 : UInt64) : UInt64 := pRoot (FP.dadd (FP.dadd (FP.dmul (FP.dsub x1 x0) (FP.dsub x1 x0)) (FP.dmul (FP.dsub y1 y0) (FP.dsub y1 y0))) (FP.dmul (FP.dsub z1 z0) (FP.dsub z1 z0)))
def pBetween (v a b : UInt64) : Bool := xge v a && xle v b
def pSize (v : UInt64) : UInt64 := if xlt v FP.dconst0 = true then FP.dneg v else v
def xB (b : Bool) : Int32 := if b then 1 else 0
theorem pLen_vq {x y a b : UInt64} (h1 : vq x a) (h2 : vq y b) : pLen x y = pLen a b := by
  unfold pLen
  rw [vq_mul h1 h1, vq_mul h2 h2]
theorem pSize_vq {x z : UInt64} (h : vq x z) : vq (pSize x) (pSize z) := by
  unfold pSize
  rw [vq_lt h (vq_rf _)]
  split
  · exact vq_neg h
  · exact h
theorem pBetween_t {v a b : UInt64} (h1 : xge v a = true) (h2 : xle v b = true) : xB (pBetween v a b) = 1 := by unfold pBetween; rw [h1, h2]; rfl
theorem pBetween_f1 {v a b : UInt64} (h1 : xge v a = false) : xB (pBetween v a b) = 0 := by unfold pBetween; rw [h1]; rfl
theorem pBetween_f2 {v a b : UInt64} (h1 : xge v a = true) (h2 : xle v b = false) : xB (pBetween v a b) = 0 := by unfold pBetween; rw [h1, h2]; rfl
end
section
/-! NUMBERS: the methods that only reckon. -/
theorem dX6_root_0 : decode cX6_root 0 = .ok (.dload_n 0, 1) := by decide +kernel
theorem dX6_root_1 : decode cX6_root 1 = .ok (.dconst 0, 1) := by decide +kernel
theorem dX6_root_2 : decode cX6_root 2 = .ok (.dcmp .l, 1) := by decide +kernel
theorem dX6_root_3 : decode cX6_root 3 = .ok (.ifCond .gt 5, 3) := by decide +kernel
theorem dX6_root_6 : decode cX6_root 6 = .ok (.dconst 0, 1) := by decide +kernel
theorem dX6_root_7 : decode cX6_root 7 = .ok (.dreturn, 1) := by decide +kernel
theorem dX6_root_8 : decode cX6_root 8 = .ok (.dconst 1, 1) := by decide +kernel
theorem dX6_root_9 : decode cX6_root 9 = .ok (.dload_n 0, 1) := by decide +kernel
theorem dX6_root_10 : decode cX6_root 10 = .ok (.dadd, 1) := by decide +kernel
theorem dX6_root_11 : decode cX6_root 11 = .ok (.dstore_n 2, 1) := by decide +kernel
theorem dX6_root_12 : decode cX6_root 12 = .ok (.iconst 0, 1) := by decide +kernel
theorem dX6_root_13 : decode cX6_root 13 = .ok (.istore 4, 2) := by decide +kernel
theorem dX6_root_15 : decode cX6_root 15 = .ok (.iload 4, 2) := by decide +kernel
theorem dX6_root_17 : decode cX6_root 17 = .ok (.bipush 40, 2) := by decide +kernel
theorem dX6_root_19 : decode cX6_root 19 = .ok (.if_icmp .ge 19, 3) := by decide +kernel
theorem dX6_root_22 : decode cX6_root 22 = .ok (.dload_n 2, 1) := by decide +kernel
theorem dX6_root_23 : decode cX6_root 23 = .ok (.dload_n 0, 1) := by decide +kernel
theorem dX6_root_24 : decode cX6_root 24 = .ok (.dload_n 2, 1) := by decide +kernel
theorem dX6_root_25 : decode cX6_root 25 = .ok (.ddiv, 1) := by decide +kernel
theorem dX6_root_26 : decode cX6_root 26 = .ok (.dadd, 1) := by decide +kernel
theorem dX6_root_27 : decode cX6_root 27 = .ok (.ldc2_w 249, 3) := by decide +kernel
theorem dX6_root_30 : decode cX6_root 30 = .ok (.ddiv, 1) := by decide +kernel
theorem dX6_root_31 : decode cX6_root 31 = .ok (.dstore_n 2, 1) := by decide +kernel
theorem dX6_root_32 : decode cX6_root 32 = .ok (.iinc 4 1, 3) := by decide +kernel
theorem dX6_root_35 : decode cX6_root 35 = .ok (.goto (-20), 3) := by decide +kernel
theorem dX6_root_38 : decode cX6_root 38 = .ok (.dload_n 2, 1) := by decide +kernel
theorem dX6_root_39 : decode cX6_root 39 = .ok (.dreturn, 1) := by decide +kernel
abbrev rm_X6_root : Room := { frames := 5, cells := 0, slots := 0, locals := 40 }
theorem hw_X6_root_1 : (Cond.constantDouble RX6 249 (4611686018427387904)) ∈ wsX6_root := List.mem_of_getElem? (i := 1) rfl
set_option maxHeartbeats 4000000 in
set_option maxRecDepth 100000 in
/-- ROOT -/
theorem c_X6_root {l : Launch} {G : va_G} {ty : Nat → ClassId} {b0 : Nat} {H : Heap} {x z : UInt64} (hz : vq x z) : xMet l yX6_root wsX6_root rm_X6_root G ty b0 [.double x] H (fun v H1 => H = H1 ∧ ∃ r : UInt64, v = some (.double r) ∧ vq r (pRoot z)) (fun _ _ => False) := by
  refine xbody (cc := cX6_root) (maxL := 5) (ret := (some .double)) (C := RX6) (lv := [(0, .double x)]) (by decide) rfl rfl (Nat.le_of_ble_eq_true rfl) rfl ?_
  intro p e s m below meth c d0 hx hb hr hts hown hlocks hml hxt hnm0 hK hb0 hH0 hS hd0 ls hl
  refine lv_dload_n hx hb dX6_root_0 rfl (lv_at hl 0 rfl) ?_
  refine lv_dconst0 hx hb dX6_root_1 ?_
  refine xcmp_l_gt (tgt := 8) hx hb hz (vq_rf _) dX6_root_2 dX6_root_3 (by decide) (fun c_1 => ?_) (fun c_1 => ?_)
  · refine lv_dconst1 hx hb dX6_root_8 ?_
    refine lv_dload_n hx hb dX6_root_9 rfl (lv_at hl 0 rfl) ?_
    refine xdadd hd0 hx hb (vq_rf _) hz dX6_root_10 (fun r_2 d0 q_2 hd0 => ?_)
    refine lv_dstore_n (lv' := [(2, .double r_2), (0, .double x)]) hx hb dX6_root_11 rfl hl (by decide) rfl (fun ls hl => ?_)
    refine lv_iconst (v := nI 0) hx hb dX6_root_12 (by decide) ?_
    refine lv_istore (lv' := [(4, .int (nI 0)), (2, .double r_2), (0, .double x)]) hx hb dX6_root_13 hl (by decide) rfl (fun ls hl => ?_)
    suffices K : ∀ (n k : Nat) (r : UInt64) (d0 : Drawn) (ls : Array Slot), k + n = 40 → s.drawn.sameBut d0 lw_cs → vq r (pIter z k) → lv_has ls 5 [(4, .int (nI k)), (2, .double r), (0, .double x)] → W p l e rm_X6_root (s.setDrawn d0) m [Value.double x].toArray below meth c H [] 0 0 (xMQ below (fun v H1 => H = H1 ∧ ∃ r : UInt64, v = some (.double r) ∧ vq r (pRoot z)) (fun _ _ => False) [.double x].toArray s rm_X6_root b0) (F0 m 15 ls []) from K 40 0 r_2 d0 ls rfl hd0 q_2 hl
    intro n
    induction n with
    | zero =>
      intro k r d0 ls hk hd0 hr9 hl
      refine lv_iload hx hb dX6_root_15 (lv_at hl 0 rfl) ?_
      refine lv_bipush (v := nI 40) hx hb dX6_root_17 (by decide) ?_
      refine xicmpN_ge (tgt := 38) hx hb (by omega) (by decide) dX6_root_19 (by decide) (fun _ => ?_) (fun h9 => absurd h9 (by omega))
      refine lv_dload_n hx hb dX6_root_38 rfl (lv_at hl 1 rfl) ?_
      exact xdret hd0 hx hb hr hlocks hS (Nat.le_of_ble_eq_true rfl) (Nat.le_of_ble_eq_true rfl) dX6_root_39 ⟨rfl, _, rfl, by have e9 : k = 40 := (by omega); subst e9; rw [pRoot, if_pos c_1]; exact hr9⟩
    | succ n ih =>
      intro k r d0 ls hk hd0 hr9 hl
      refine lv_iload hx hb dX6_root_15 (lv_at hl 0 rfl) ?_
      refine lv_bipush (v := nI 40) hx hb dX6_root_17 (by decide) ?_
      refine xicmpN_ge (tgt := 38) hx hb (by omega) (by decide) dX6_root_19 (by decide) (fun h9 => absurd h9 (by omega)) (fun _ => ?_)
      refine lv_dload_n hx hb dX6_root_22 rfl (lv_at hl 1 rfl) ?_
      refine lv_dload_n hx hb dX6_root_23 rfl (lv_at hl 2 rfl) ?_
      refine lv_dload_n hx hb dX6_root_24 rfl (lv_at hl 1 rfl) ?_
      refine xddiv hd0 hx hb hz hr9 dX6_root_25 (fun r_12 d0 q_12 hd0 => ?_)
      refine xdadd hd0 hx hb hr9 q_12 dX6_root_26 (fun r_13 d0 q_13 hd0 => ?_)
      refine lv_ldc2d hx hb hown (hts _ _ hw_X6_root_1) dX6_root_27 ?_
      refine xddiv hd0 hx hb q_13 (vq_rf _) dX6_root_30 (fun r_14 d0 q_14 hd0 => ?_)
      refine lv_dstore_n (lv' := [(2, .double r_14), (4, .int (nI k)), (0, .double x)]) hx hb dX6_root_31 rfl hl (by decide) rfl (fun ls hl => ?_)
      refine xiincN (x := k) (y := 1) (lv' := [(4, .int (nI (k + 1))), (2, .double r_14), (0, .double x)]) hx hb dX6_root_32 hl (k := 1) rfl (by decide) (by decide) rfl (fun ls hl => ?_)
      refine lv_goto (tgt := 15) hx hb dX6_root_35 (by decide) ?_
      exact ih (k + 1) r_14 d0 ls (by omega) hd0 q_14 (lv_sub hl [0, 1, 2] rfl)
  · refine lv_dconst0 hx hb dX6_root_6 ?_
    exact xdret hd0 hx hb hr hlocks hS (Nat.le_of_ble_eq_true rfl) (Nat.le_of_ble_eq_true rfl) dX6_root_7 ⟨rfl, _, rfl, by rw [pRoot, if_neg (fun h => by rw [c_1] at h; cases h)]⟩
theorem dX7_root_0 : decode cX7_root 0 = .ok (.dload_n 0, 1) := by decide +kernel
theorem dX7_root_1 : decode cX7_root 1 = .ok (.dconst 0, 1) := by decide +kernel
theorem dX7_root_2 : decode cX7_root 2 = .ok (.dcmp .l, 1) := by decide +kernel
theorem dX7_root_3 : decode cX7_root 3 = .ok (.ifCond .gt 5, 3) := by decide +kernel
theorem dX7_root_6 : decode cX7_root 6 = .ok (.dconst 0, 1) := by decide +kernel
theorem dX7_root_7 : decode cX7_root 7 = .ok (.dreturn, 1) := by decide +kernel
theorem dX7_root_8 : decode cX7_root 8 = .ok (.dconst 1, 1) := by decide +kernel
theorem dX7_root_9 : decode cX7_root 9 = .ok (.dload_n 0, 1) := by decide +kernel
theorem dX7_root_10 : decode cX7_root 10 = .ok (.dadd, 1) := by decide +kernel
theorem dX7_root_11 : decode cX7_root 11 = .ok (.dstore_n 2, 1) := by decide +kernel
theorem dX7_root_12 : decode cX7_root 12 = .ok (.iconst 0, 1) := by decide +kernel
theorem dX7_root_13 : decode cX7_root 13 = .ok (.istore 4, 2) := by decide +kernel
theorem dX7_root_15 : decode cX7_root 15 = .ok (.iload 4, 2) := by decide +kernel
theorem dX7_root_17 : decode cX7_root 17 = .ok (.bipush 40, 2) := by decide +kernel
theorem dX7_root_19 : decode cX7_root 19 = .ok (.if_icmp .ge 19, 3) := by decide +kernel
theorem dX7_root_22 : decode cX7_root 22 = .ok (.dload_n 2, 1) := by decide +kernel
theorem dX7_root_23 : decode cX7_root 23 = .ok (.dload_n 0, 1) := by decide +kernel
theorem dX7_root_24 : decode cX7_root 24 = .ok (.dload_n 2, 1) := by decide +kernel
theorem dX7_root_25 : decode cX7_root 25 = .ok (.ddiv, 1) := by decide +kernel
theorem dX7_root_26 : decode cX7_root 26 = .ok (.dadd, 1) := by decide +kernel
theorem dX7_root_27 : decode cX7_root 27 = .ok (.ldc2_w 55, 3) := by decide +kernel
theorem dX7_root_30 : decode cX7_root 30 = .ok (.ddiv, 1) := by decide +kernel
theorem dX7_root_31 : decode cX7_root 31 = .ok (.dstore_n 2, 1) := by decide +kernel
theorem dX7_root_32 : decode cX7_root 32 = .ok (.iinc 4 1, 3) := by decide +kernel
theorem dX7_root_35 : decode cX7_root 35 = .ok (.goto (-20), 3) := by decide +kernel
theorem dX7_root_38 : decode cX7_root 38 = .ok (.dload_n 2, 1) := by decide +kernel
theorem dX7_root_39 : decode cX7_root 39 = .ok (.dreturn, 1) := by decide +kernel
abbrev rm_X7_root : Room := { frames := 5, cells := 0, slots := 0, locals := 40 }
theorem hw_X7_root_1 : (Cond.constantDouble RX7 55 (4611686018427387904)) ∈ wsX7_root := List.mem_of_getElem? (i := 1) rfl
set_option maxHeartbeats 4000000 in
set_option maxRecDepth 100000 in
/-- ROOT -/
theorem c_X7_root {l : Launch} {G : va_G} {ty : Nat → ClassId} {b0 : Nat} {H : Heap} {x z : UInt64} (hz : vq x z) : xMet l yX7_root wsX7_root rm_X7_root G ty b0 [.double x] H (fun v H1 => H = H1 ∧ ∃ r : UInt64, v = some (.double r) ∧ vq r (pRoot z)) (fun _ _ => False) := by
  refine xbody (cc := cX7_root) (maxL := 5) (ret := (some .double)) (C := RX7) (lv := [(0, .double x)]) (by decide) rfl rfl (Nat.le_of_ble_eq_true rfl) rfl ?_
  intro p e s m below meth c d0 hx hb hr hts hown hlocks hml hxt hnm0 hK hb0 hH0 hS hd0 ls hl
  refine lv_dload_n hx hb dX7_root_0 rfl (lv_at hl 0 rfl) ?_
  refine lv_dconst0 hx hb dX7_root_1 ?_
  refine xcmp_l_gt (tgt := 8) hx hb hz (vq_rf _) dX7_root_2 dX7_root_3 (by decide) (fun c_1 => ?_) (fun c_1 => ?_)
  · refine lv_dconst1 hx hb dX7_root_8 ?_
    refine lv_dload_n hx hb dX7_root_9 rfl (lv_at hl 0 rfl) ?_
    refine xdadd hd0 hx hb (vq_rf _) hz dX7_root_10 (fun r_2 d0 q_2 hd0 => ?_)
    refine lv_dstore_n (lv' := [(2, .double r_2), (0, .double x)]) hx hb dX7_root_11 rfl hl (by decide) rfl (fun ls hl => ?_)
    refine lv_iconst (v := nI 0) hx hb dX7_root_12 (by decide) ?_
    refine lv_istore (lv' := [(4, .int (nI 0)), (2, .double r_2), (0, .double x)]) hx hb dX7_root_13 hl (by decide) rfl (fun ls hl => ?_)
    suffices K : ∀ (n k : Nat) (r : UInt64) (d0 : Drawn) (ls : Array Slot), k + n = 40 → s.drawn.sameBut d0 lw_cs → vq r (pIter z k) → lv_has ls 5 [(4, .int (nI k)), (2, .double r), (0, .double x)] → W p l e rm_X7_root (s.setDrawn d0) m [Value.double x].toArray below meth c H [] 0 0 (xMQ below (fun v H1 => H = H1 ∧ ∃ r : UInt64, v = some (.double r) ∧ vq r (pRoot z)) (fun _ _ => False) [.double x].toArray s rm_X7_root b0) (F0 m 15 ls []) from K 40 0 r_2 d0 ls rfl hd0 q_2 hl
    intro n
    induction n with
    | zero =>
      intro k r d0 ls hk hd0 hr9 hl
      refine lv_iload hx hb dX7_root_15 (lv_at hl 0 rfl) ?_
      refine lv_bipush (v := nI 40) hx hb dX7_root_17 (by decide) ?_
      refine xicmpN_ge (tgt := 38) hx hb (by omega) (by decide) dX7_root_19 (by decide) (fun _ => ?_) (fun h9 => absurd h9 (by omega))
      refine lv_dload_n hx hb dX7_root_38 rfl (lv_at hl 1 rfl) ?_
      exact xdret hd0 hx hb hr hlocks hS (Nat.le_of_ble_eq_true rfl) (Nat.le_of_ble_eq_true rfl) dX7_root_39 ⟨rfl, _, rfl, by have e9 : k = 40 := (by omega); subst e9; rw [pRoot, if_pos c_1]; exact hr9⟩
    | succ n ih =>
      intro k r d0 ls hk hd0 hr9 hl
      refine lv_iload hx hb dX7_root_15 (lv_at hl 0 rfl) ?_
      refine lv_bipush (v := nI 40) hx hb dX7_root_17 (by decide) ?_
      refine xicmpN_ge (tgt := 38) hx hb (by omega) (by decide) dX7_root_19 (by decide) (fun h9 => absurd h9 (by omega)) (fun _ => ?_)
      refine lv_dload_n hx hb dX7_root_22 rfl (lv_at hl 1 rfl) ?_
      refine lv_dload_n hx hb dX7_root_23 rfl (lv_at hl 2 rfl) ?_
      refine lv_dload_n hx hb dX7_root_24 rfl (lv_at hl 1 rfl) ?_
      refine xddiv hd0 hx hb hz hr9 dX7_root_25 (fun r_12 d0 q_12 hd0 => ?_)
      refine xdadd hd0 hx hb hr9 q_12 dX7_root_26 (fun r_13 d0 q_13 hd0 => ?_)
      refine lv_ldc2d hx hb hown (hts _ _ hw_X7_root_1) dX7_root_27 ?_
      refine xddiv hd0 hx hb q_13 (vq_rf _) dX7_root_30 (fun r_14 d0 q_14 hd0 => ?_)
      refine lv_dstore_n (lv' := [(2, .double r_14), (4, .int (nI k)), (0, .double x)]) hx hb dX7_root_31 rfl hl (by decide) rfl (fun ls hl => ?_)
      refine xiincN (x := k) (y := 1) (lv' := [(4, .int (nI (k + 1))), (2, .double r_14), (0, .double x)]) hx hb dX7_root_32 hl (k := 1) rfl (by decide) (by decide) rfl (fun ls hl => ?_)
      refine lv_goto (tgt := 15) hx hb dX7_root_35 (by decide) ?_
      exact ih (k + 1) r_14 d0 ls (by omega) hd0 q_14 (lv_sub hl [0, 1, 2] rfl)
  · refine lv_dconst0 hx hb dX7_root_6 ?_
    exact xdret hd0 hx hb hr hlocks hS (Nat.le_of_ble_eq_true rfl) (Nat.le_of_ble_eq_true rfl) dX7_root_7 ⟨rfl, _, rfl, by rw [pRoot, if_neg (fun h => by rw [c_1] at h; cases h)]⟩
theorem dX6_within_0 : decode cX6_within 0 = .ok (.dload_n 0, 1) := by decide +kernel
theorem dX6_within_1 : decode cX6_within 1 = .ok (.dload_n 2, 1) := by decide +kernel
theorem dX6_within_2 : decode cX6_within 2 = .ok (.dcmp .l, 1) := by decide +kernel
theorem dX6_within_3 : decode cX6_within 3 = .ok (.ifCond .lt 14, 3) := by decide +kernel
theorem dX6_within_6 : decode cX6_within 6 = .ok (.dload_n 0, 1) := by decide +kernel
theorem dX6_within_7 : decode cX6_within 7 = .ok (.dload 4, 2) := by decide +kernel
theorem dX6_within_9 : decode cX6_within 9 = .ok (.dcmp .g, 1) := by decide +kernel
theorem dX6_within_10 : decode cX6_within 10 = .ok (.ifCond .gt 7, 3) := by decide +kernel
theorem dX6_within_13 : decode cX6_within 13 = .ok (.iconst 1, 1) := by decide +kernel
theorem dX6_within_14 : decode cX6_within 14 = .ok (.goto 4, 3) := by decide +kernel
theorem dX6_within_17 : decode cX6_within 17 = .ok (.iconst 0, 1) := by decide +kernel
theorem dX6_within_18 : decode cX6_within 18 = .ok (.ireturn, 1) := by decide +kernel
abbrev rm_X6_within : Room := { frames := 5, cells := 0, slots := 0, locals := 40 }
set_option maxHeartbeats 4000000 in
set_option maxRecDepth 100000 in
/-- whether a number lies between two -/
theorem c_X6_within {l : Launch} {G : va_G} {ty : Nat → ClassId} {b0 : Nat} {H : Heap} {x y z a b d : UInt64} (hx9 : vq x a) (hy9 : vq y b) (hz9 : vq z d) : xMet l yX6_within wsX6_within rm_X6_within G ty b0 [.double x, .double y, .double z] H (fun v H1 => H = H1 ∧ v = some (.int (xB (pBetween a b d)))) (fun _ _ => False) := by
  refine xbody (cc := cX6_within) (maxL := 6) (ret := (some .boolean)) (C := RX6) (lv := [(0, .double x), (2, .double y), (4, .double z)]) (by decide) rfl rfl (Nat.le_of_ble_eq_true rfl) rfl ?_
  intro p e s m below meth c d0 hx hb hr hts hown hlocks hml hxt hnm0 hK hb0 hH0 hS hd0 ls hl
  refine lv_dload_n hx hb dX6_within_0 rfl (lv_at hl 0 rfl) ?_
  refine lv_dload_n hx hb dX6_within_1 rfl (lv_at hl 1 rfl) ?_
  refine xcmp_l_lt (tgt := 17) hx hb hx9 hy9 dX6_within_2 dX6_within_3 (by decide) (fun c_1 => ?_) (fun c_1 => ?_)
  · refine lv_iconst (v := nI 0) hx hb dX6_within_17 (by decide) ?_
    exact xzret (by decide) hd0 hx hb hr hlocks hS (Nat.le_of_ble_eq_true rfl) (Nat.le_of_ble_eq_true rfl) dX6_within_18 ⟨rfl, by first | rw [pBetween_t (by assumption) (by assumption)]; rfl | rw [pBetween_f1 (by assumption)]; rfl | rw [pBetween_f2 (by assumption) (by assumption)]; rfl⟩
  · refine lv_dload_n hx hb dX6_within_6 rfl (lv_at hl 0 rfl) ?_
    refine lv_dload hx hb dX6_within_7 (lv_at hl 2 rfl) ?_
    refine xcmp_g_gt (tgt := 17) hx hb hx9 hz9 dX6_within_9 dX6_within_10 (by decide) (fun c_2 => ?_) (fun c_2 => ?_)
    · refine lv_iconst (v := nI 0) hx hb dX6_within_17 (by decide) ?_
      exact xzret (by decide) hd0 hx hb hr hlocks hS (Nat.le_of_ble_eq_true rfl) (Nat.le_of_ble_eq_true rfl) dX6_within_18 ⟨rfl, by first | rw [pBetween_t (by assumption) (by assumption)]; rfl | rw [pBetween_f1 (by assumption)]; rfl | rw [pBetween_f2 (by assumption) (by assumption)]; rfl⟩
    · refine lv_iconst (v := nI 1) hx hb dX6_within_13 (by decide) ?_
      refine lv_goto (tgt := 18) hx hb dX6_within_14 (by decide) ?_
      exact xzret (by decide) hd0 hx hb hr hlocks hS (Nat.le_of_ble_eq_true rfl) (Nat.le_of_ble_eq_true rfl) dX6_within_18 ⟨rfl, by first | rw [pBetween_t (by assumption) (by assumption)]; rfl | rw [pBetween_f1 (by assumption)]; rfl | rw [pBetween_f2 (by assumption) (by assumption)]; rfl⟩
theorem dX7_between_0 : decode cX7_between 0 = .ok (.dload_n 0, 1) := by decide +kernel
theorem dX7_between_1 : decode cX7_between 1 = .ok (.dload_n 2, 1) := by decide +kernel
theorem dX7_between_2 : decode cX7_between 2 = .ok (.dcmp .l, 1) := by decide +kernel
theorem dX7_between_3 : decode cX7_between 3 = .ok (.ifCond .lt 14, 3) := by decide +kernel
theorem dX7_between_6 : decode cX7_between 6 = .ok (.dload_n 0, 1) := by decide +kernel
theorem dX7_between_7 : decode cX7_between 7 = .ok (.dload 4, 2) := by decide +kernel
theorem dX7_between_9 : decode cX7_between 9 = .ok (.dcmp .g, 1) := by decide +kernel
theorem dX7_between_10 : decode cX7_between 10 = .ok (.ifCond .gt 7, 3) := by decide +kernel
theorem dX7_between_13 : decode cX7_between 13 = .ok (.iconst 1, 1) := by decide +kernel
theorem dX7_between_14 : decode cX7_between 14 = .ok (.goto 4, 3) := by decide +kernel
theorem dX7_between_17 : decode cX7_between 17 = .ok (.iconst 0, 1) := by decide +kernel
theorem dX7_between_18 : decode cX7_between 18 = .ok (.ireturn, 1) := by decide +kernel
abbrev rm_X7_between : Room := { frames := 5, cells := 0, slots := 0, locals := 40 }
set_option maxHeartbeats 4000000 in
set_option maxRecDepth 100000 in
/-- whether a number lies between two -/
theorem c_X7_between {l : Launch} {G : va_G} {ty : Nat → ClassId} {b0 : Nat} {H : Heap} {x y z a b d : UInt64} (hx9 : vq x a) (hy9 : vq y b) (hz9 : vq z d) : xMet l yX7_between wsX7_between rm_X7_between G ty b0 [.double x, .double y, .double z] H (fun v H1 => H = H1 ∧ v = some (.int (xB (pBetween a b d)))) (fun _ _ => False) := by
  refine xbody (cc := cX7_between) (maxL := 6) (ret := (some .boolean)) (C := RX7) (lv := [(0, .double x), (2, .double y), (4, .double z)]) (by decide) rfl rfl (Nat.le_of_ble_eq_true rfl) rfl ?_
  intro p e s m below meth c d0 hx hb hr hts hown hlocks hml hxt hnm0 hK hb0 hH0 hS hd0 ls hl
  refine lv_dload_n hx hb dX7_between_0 rfl (lv_at hl 0 rfl) ?_
  refine lv_dload_n hx hb dX7_between_1 rfl (lv_at hl 1 rfl) ?_
  refine xcmp_l_lt (tgt := 17) hx hb hx9 hy9 dX7_between_2 dX7_between_3 (by decide) (fun c_1 => ?_) (fun c_1 => ?_)
  · refine lv_iconst (v := nI 0) hx hb dX7_between_17 (by decide) ?_
    exact xzret (by decide) hd0 hx hb hr hlocks hS (Nat.le_of_ble_eq_true rfl) (Nat.le_of_ble_eq_true rfl) dX7_between_18 ⟨rfl, by first | rw [pBetween_t (by assumption) (by assumption)]; rfl | rw [pBetween_f1 (by assumption)]; rfl | rw [pBetween_f2 (by assumption) (by assumption)]; rfl⟩
  · refine lv_dload_n hx hb dX7_between_6 rfl (lv_at hl 0 rfl) ?_
    refine lv_dload hx hb dX7_between_7 (lv_at hl 2 rfl) ?_
    refine xcmp_g_gt (tgt := 17) hx hb hx9 hz9 dX7_between_9 dX7_between_10 (by decide) (fun c_2 => ?_) (fun c_2 => ?_)
    · refine lv_iconst (v := nI 0) hx hb dX7_between_17 (by decide) ?_
      exact xzret (by decide) hd0 hx hb hr hlocks hS (Nat.le_of_ble_eq_true rfl) (Nat.le_of_ble_eq_true rfl) dX7_between_18 ⟨rfl, by first | rw [pBetween_t (by assumption) (by assumption)]; rfl | rw [pBetween_f1 (by assumption)]; rfl | rw [pBetween_f2 (by assumption) (by assumption)]; rfl⟩
    · refine lv_iconst (v := nI 1) hx hb dX7_between_13 (by decide) ?_
      refine lv_goto (tgt := 18) hx hb dX7_between_14 (by decide) ?_
      exact xzret (by decide) hd0 hx hb hr hlocks hS (Nat.le_of_ble_eq_true rfl) (Nat.le_of_ble_eq_true rfl) dX7_between_18 ⟨rfl, by first | rw [pBetween_t (by assumption) (by assumption)]; rfl | rw [pBetween_f1 (by assumption)]; rfl | rw [pBetween_f2 (by assumption) (by assumption)]; rfl⟩
theorem dX6_sizeOf_0 : decode cX6_sizeOf 0 = .ok (.dload_n 0, 1) := by decide +kernel
theorem dX6_sizeOf_1 : decode cX6_sizeOf 1 = .ok (.dconst 0, 1) := by decide +kernel
theorem dX6_sizeOf_2 : decode cX6_sizeOf 2 = .ok (.dcmp .g, 1) := by decide +kernel
theorem dX6_sizeOf_3 : decode cX6_sizeOf 3 = .ok (.ifCond .ge 8, 3) := by decide +kernel
theorem dX6_sizeOf_6 : decode cX6_sizeOf 6 = .ok (.dload_n 0, 1) := by decide +kernel
theorem dX6_sizeOf_7 : decode cX6_sizeOf 7 = .ok (.dneg, 1) := by decide +kernel
theorem dX6_sizeOf_8 : decode cX6_sizeOf 8 = .ok (.goto 4, 3) := by decide +kernel
theorem dX6_sizeOf_11 : decode cX6_sizeOf 11 = .ok (.dload_n 0, 1) := by decide +kernel
theorem dX6_sizeOf_12 : decode cX6_sizeOf 12 = .ok (.dreturn, 1) := by decide +kernel
abbrev rm_X6_sizeOf : Room := { frames := 5, cells := 0, slots := 0, locals := 40 }
set_option maxHeartbeats 4000000 in
set_option maxRecDepth 100000 in
/-- a number without its sign -/
theorem c_X6_sizeOf {l : Launch} {G : va_G} {ty : Nat → ClassId} {b0 : Nat} {H : Heap} {x a : UInt64} (hx9 : vq x a) : xMet l yX6_sizeOf wsX6_sizeOf rm_X6_sizeOf G ty b0 [.double x] H (fun v H1 => H = H1 ∧ ∃ r : UInt64, v = some (.double r) ∧ vq r (pSize a)) (fun _ _ => False) := by
  refine xbody (cc := cX6_sizeOf) (maxL := 2) (ret := (some .double)) (C := RX6) (lv := [(0, .double x)]) (by decide) rfl rfl (Nat.le_of_ble_eq_true rfl) rfl ?_
  intro p e s m below meth c d0 hx hb hr hts hown hlocks hml hxt hnm0 hK hb0 hH0 hS hd0 ls hl
  refine lv_dload_n hx hb dX6_sizeOf_0 rfl (lv_at hl 0 rfl) ?_
  refine lv_dconst0 hx hb dX6_sizeOf_1 ?_
  refine xcmp_g_ge (tgt := 11) hx hb hx9 (vq_rf _) dX6_sizeOf_2 dX6_sizeOf_3 (by decide) (fun c_1 => ?_) (fun c_1 => ?_)
  · refine lv_dload_n hx hb dX6_sizeOf_11 rfl (lv_at hl 0 rfl) ?_
    exact xdret hd0 hx hb hr hlocks hS (Nat.le_of_ble_eq_true rfl) (Nat.le_of_ble_eq_true rfl) dX6_sizeOf_12 ⟨rfl, _, rfl, by unfold pSize; first | (rw [if_pos c_1]; exact hx9) | (rw [if_neg (by rw [c_1]; decide)]; exact hx9)⟩
  · refine lv_dload_n hx hb dX6_sizeOf_6 rfl (lv_at hl 0 rfl) ?_
    refine lv_dneg hx hb dX6_sizeOf_7 ?_
    refine lv_goto (tgt := 12) hx hb dX6_sizeOf_8 (by decide) ?_
    exact xdret hd0 hx hb hr hlocks hS (Nat.le_of_ble_eq_true rfl) (Nat.le_of_ble_eq_true rfl) dX6_sizeOf_12 ⟨rfl, _, rfl, by unfold pSize; first | (rw [if_pos c_1]; exact (vq_neg hx9)) | (rw [if_neg (by rw [c_1]; decide)]; exact (vq_neg hx9))⟩
theorem dX6_circleOf_0 : decode cX6_circleOf 0 = .ok (.dload_n 0, 1) := by decide +kernel
theorem dX6_circleOf_1 : decode cX6_circleOf 1 = .ok (.ldc2_w 251, 3) := by decide +kernel
theorem dX6_circleOf_4 : decode cX6_circleOf 4 = .ok (.dmul, 1) := by decide +kernel
theorem dX6_circleOf_5 : decode cX6_circleOf 5 = .ok (.dreturn, 1) := by decide +kernel
abbrev rm_X6_circleOf : Room := { frames := 5, cells := 0, slots := 0, locals := 40 }
theorem hw_X6_circleOf_1 : (Cond.constantDouble RX6 251 (4614256656552045848)) ∈ wsX6_circleOf := List.mem_of_getElem? (i := 1) rfl
set_option maxHeartbeats 4000000 in
set_option maxRecDepth 100000 in
/-- a circle -/
theorem c_X6_circleOf {l : Launch} {G : va_G} {ty : Nat → ClassId} {b0 : Nat} {H : Heap} {x a : UInt64} (hx9 : vq x a) : xMet l yX6_circleOf wsX6_circleOf rm_X6_circleOf G ty b0 [.double x] H (fun v H1 => H = H1 ∧ ∃ r : UInt64, v = some (.double r) ∧ vq r (FP.dmul a 4614256656552045848)) (fun _ _ => False) := by
  refine xbody (cc := cX6_circleOf) (maxL := 2) (ret := (some .double)) (C := RX6) (lv := [(0, .double x)]) (by decide) rfl rfl (Nat.le_of_ble_eq_true rfl) rfl ?_
  intro p e s m below meth c d0 hx hb hr hts hown hlocks hml hxt hnm0 hK hb0 hH0 hS hd0 ls hl
  refine lv_dload_n hx hb dX6_circleOf_0 rfl (lv_at hl 0 rfl) ?_
  refine lv_ldc2d hx hb hown (hts _ _ hw_X6_circleOf_1) dX6_circleOf_1 ?_
  refine xdmul hd0 hx hb hx9 (vq_rf _) dX6_circleOf_4 (fun r_1 d0 q_1 hd0 => ?_)
  exact xdret hd0 hx hb hr hlocks hS (Nat.le_of_ble_eq_true rfl) (Nat.le_of_ble_eq_true rfl) dX6_circleOf_5 ⟨rfl, _, rfl, q_1⟩
set_option maxRecDepth 20000 in
theorem ggX7_length_X7_root : GoodIn wsX7_length wsX7_root := goodIn_r _ [4, 5] (by decide +kernel) (by decide +kernel)
set_option maxRecDepth 20000 in
theorem gX7_length_X7_root : GoodIn wsX7_length (va_wsS RX7 73 yX7_root wsX7_root) := goodIn_app (goodIn_of _ (by decide +kernel)) ggX7_length_X7_root
theorem dX7_length_0 : decode cX7_length 0 = .ok (.dload_n 0, 1) := by decide +kernel
theorem dX7_length_1 : decode cX7_length 1 = .ok (.dload_n 0, 1) := by decide +kernel
theorem dX7_length_2 : decode cX7_length 2 = .ok (.dmul, 1) := by decide +kernel
theorem dX7_length_3 : decode cX7_length 3 = .ok (.dload_n 2, 1) := by decide +kernel
theorem dX7_length_4 : decode cX7_length 4 = .ok (.dload_n 2, 1) := by decide +kernel
theorem dX7_length_5 : decode cX7_length 5 = .ok (.dmul, 1) := by decide +kernel
theorem dX7_length_6 : decode cX7_length 6 = .ok (.dadd, 1) := by decide +kernel
theorem dX7_length_7 : decode cX7_length 7 = .ok (.invokestatic 73, 3) := by decide +kernel
theorem dX7_length_10 : decode cX7_length 10 = .ok (.dreturn, 1) := by decide +kernel
abbrev rm_X7_length : Room := { frames := 6, cells := 0, slots := 0, locals := 90 }
set_option maxHeartbeats 4000000 in
set_option maxRecDepth 100000 in
/-- a length -/
theorem c_X7_length {l : Launch} {G : va_G} {ty : Nat → ClassId} {b0 : Nat} {H : Heap} {x y a b : UInt64} (hx9 : vq x a) (hy9 : vq y b) : xMet l yX7_length wsX7_length rm_X7_length G ty b0 [.double x, .double y] H (fun v H1 => H = H1 ∧ ∃ r : UInt64, v = some (.double r) ∧ vq r (pLen a b)) (fun _ _ => False) := by
  refine xbody (cc := cX7_length) (maxL := 4) (ret := (some .double)) (C := RX7) (lv := [(0, .double x), (2, .double y)]) (by decide) rfl rfl (Nat.le_of_ble_eq_true rfl) rfl ?_
  intro p e s m below meth c d0 hx hb hr hts hown hlocks hml hxt hnm0 hK hb0 hH0 hS hd0 ls hl
  refine lv_dload_n hx hb dX7_length_0 rfl (lv_at hl 0 rfl) ?_
  refine lv_dload_n hx hb dX7_length_1 rfl (lv_at hl 0 rfl) ?_
  refine xdmul hd0 hx hb hx9 hx9 dX7_length_2 (fun r_1 d0 q_1 hd0 => ?_)
  refine lv_dload_n hx hb dX7_length_3 rfl (lv_at hl 1 rfl) ?_
  refine lv_dload_n hx hb dX7_length_4 rfl (lv_at hl 1 rfl) ?_
  refine xdmul hd0 hx hb hy9 hy9 dX7_length_5 (fun r_2 d0 q_2 hd0 => ?_)
  refine xdadd hd0 hx hb q_1 q_2 dX7_length_6 (fun r_3 d0 q_3 hd0 => ?_)
  have cw_4 := va_cwS (R := rm_X7_length) (rm := rm_X7_root) 1 (hts d0) gX7_length_X7_root rfl rfl rfl (by decide +kernel) ⟨Nat.le_of_ble_eq_true rfl, Nat.le_of_ble_eq_true rfl⟩
  refine xcall hd0 (xintoS (As := [.double r_3]) (rest := []) ⟨hx, hb, hml, hown, hts _⟩ cw_4 rfl rfl hl.1 rfl (lv_room (Nat.le_of_ble_eq_true rfl)) dX7_length_7) (c_X7_root (l := l) (G := G) (ty := ty) (b0 := b0) q_3) (xoweB cw_4.1) hK hb0 hS (Nat.le_of_ble_eq_true rfl) (Nat.le_of_ble_eq_true rfl) (fun E_4 ce_4 q9_4 H_4 locs_4 d0 hd0 hp_4 hS hce_4 hcv_4 hcl_4 => ?_) (fun v_4 H_4 locs_4 d0 hd0 hp_4 hS => ?_)
  · exact hp_4.elim
  · obtain ⟨rfl, r_4, rfl, q_4⟩ := hp_4
    show W p l e _ (s.setDrawn _) m _ below meth c _ _ _ _ _ (F0 m 10 ls [.double r_4])
    exact xdret hd0 hx hb hr hlocks hS (Nat.le_of_ble_eq_true rfl) (Nat.le_of_ble_eq_true rfl) dX7_length_10 ⟨rfl, _, rfl, q_4⟩
set_option maxRecDepth 20000 in
theorem ggX6_apart_X6_root : GoodIn wsX6_apart wsX6_root := goodIn_r _ [7, 8] (by decide +kernel) (by decide +kernel)
set_option maxRecDepth 20000 in
theorem gX6_apart_X6_root : GoodIn wsX6_apart (va_wsS RX6 155 yX6_root wsX6_root) := goodIn_app (goodIn_of _ (by decide +kernel)) ggX6_apart_X6_root
theorem dX6_apart_0 : decode cX6_apart 0 = .ok (.aload_n 1, 1) := by decide +kernel
theorem dX6_apart_1 : decode cX6_apart 1 = .ok (.getfield 71, 3) := by decide +kernel
theorem dX6_apart_4 : decode cX6_apart 4 = .ok (.aload_n 0, 1) := by decide +kernel
theorem dX6_apart_5 : decode cX6_apart 5 = .ok (.getfield 71, 3) := by decide +kernel
theorem dX6_apart_8 : decode cX6_apart 8 = .ok (.dsub, 1) := by decide +kernel
theorem dX6_apart_9 : decode cX6_apart 9 = .ok (.dstore_n 2, 1) := by decide +kernel
theorem dX6_apart_10 : decode cX6_apart 10 = .ok (.aload_n 1, 1) := by decide +kernel
theorem dX6_apart_11 : decode cX6_apart 11 = .ok (.getfield 77, 3) := by decide +kernel
theorem dX6_apart_14 : decode cX6_apart 14 = .ok (.aload_n 0, 1) := by decide +kernel
theorem dX6_apart_15 : decode cX6_apart 15 = .ok (.getfield 77, 3) := by decide +kernel
theorem dX6_apart_18 : decode cX6_apart 18 = .ok (.dsub, 1) := by decide +kernel
theorem dX6_apart_19 : decode cX6_apart 19 = .ok (.dstore 4, 2) := by decide +kernel
theorem dX6_apart_21 : decode cX6_apart 21 = .ok (.aload_n 1, 1) := by decide +kernel
theorem dX6_apart_22 : decode cX6_apart 22 = .ok (.getfield 80, 3) := by decide +kernel
theorem dX6_apart_25 : decode cX6_apart 25 = .ok (.aload_n 0, 1) := by decide +kernel
theorem dX6_apart_26 : decode cX6_apart 26 = .ok (.getfield 80, 3) := by decide +kernel
theorem dX6_apart_29 : decode cX6_apart 29 = .ok (.dsub, 1) := by decide +kernel
theorem dX6_apart_30 : decode cX6_apart 30 = .ok (.dstore 6, 2) := by decide +kernel
theorem dX6_apart_32 : decode cX6_apart 32 = .ok (.dload_n 2, 1) := by decide +kernel
theorem dX6_apart_33 : decode cX6_apart 33 = .ok (.dload_n 2, 1) := by decide +kernel
theorem dX6_apart_34 : decode cX6_apart 34 = .ok (.dmul, 1) := by decide +kernel
theorem dX6_apart_35 : decode cX6_apart 35 = .ok (.dload 4, 2) := by decide +kernel
theorem dX6_apart_37 : decode cX6_apart 37 = .ok (.dload 4, 2) := by decide +kernel
theorem dX6_apart_39 : decode cX6_apart 39 = .ok (.dmul, 1) := by decide +kernel
theorem dX6_apart_40 : decode cX6_apart 40 = .ok (.dadd, 1) := by decide +kernel
theorem dX6_apart_41 : decode cX6_apart 41 = .ok (.dload 6, 2) := by decide +kernel
theorem dX6_apart_43 : decode cX6_apart 43 = .ok (.dload 6, 2) := by decide +kernel
theorem dX6_apart_45 : decode cX6_apart 45 = .ok (.dmul, 1) := by decide +kernel
theorem dX6_apart_46 : decode cX6_apart 46 = .ok (.dadd, 1) := by decide +kernel
theorem dX6_apart_47 : decode cX6_apart 47 = .ok (.invokestatic 155, 3) := by decide +kernel
theorem dX6_apart_50 : decode cX6_apart 50 = .ok (.dreturn, 1) := by decide +kernel
abbrev rm_X6_apart : Room := { frames := 6, cells := 0, slots := 0, locals := 90 }
theorem hw_X6_apart_1 : (Cond.fieldLink RX6 71 "PlankUnroll$Place" "x" "D") ∈ wsX6_apart := List.mem_of_getElem? (i := 1) rfl
theorem hw_X6_apart_2 : (Cond.fieldLink RX6 77 "PlankUnroll$Place" "y" "D") ∈ wsX6_apart := List.mem_of_getElem? (i := 2) rfl
theorem hw_X6_apart_3 : (Cond.fieldLink RX6 80 "PlankUnroll$Place" "z" "D") ∈ wsX6_apart := List.mem_of_getElem? (i := 3) rfl
theorem in_X6_apart_X3 : ∀ w ∈ wsX30, w ∈ wsX6_apart := by decide +kernel
set_option maxHeartbeats 4000000 in
set_option maxRecDepth 100000 in
/-- DISTANCE -/
theorem c_X6_apart {l : Launch} {G : va_G} {ty : Nat → ClassId} {b0 : Nat} {H : Heap} {q0 q1 : Nat} {u0 v0 w0 u1 v1 w1 a0 a1 a2 a3 a4 a5 : UInt64} (hc0 : xc G q0 (.inr (4, [.double u0, .double v0, .double w0])) H) (hc1 : xc G q1 (.inr (4, [.double u1, .double v1, .double w1])) H) (hx0 : vq u0 a0) (hy0 : vq v0 a1) (hz0 : vq w0 a2) (hx1 : vq u1 a3) (hy1 : vq v1 a4) (hz1 : vq w1 a5) : xMet l yX6_apart wsX6_apart rm_X6_apart G ty b0 [.ref q0, .ref q1] H (fun v H1 => H = H1 ∧ ∃ r : UInt64, v = some (.double r) ∧ vq r (pDist a0 a1 a2 a3 a4 a5)) (fun _ _ => False) := by
  refine xbody (cc := cX6_apart) (maxL := 8) (ret := (some .double)) (C := RX6) (lv := [(0, .ref q0), (1, .ref q1)]) (by decide) rfl rfl (Nat.le_of_ble_eq_true rfl) rfl ?_
  intro p e s m below meth c d0 hx hb hr hts hown hlocks hml hxt hnm0 hK hb0 hH0 hS hd0 ls hl
  refine lv_aload_n hx hb dX6_apart_0 rfl (lv_at hl 1 rfl) ?_
  refine va_get (D := G) (cl := vwCl) (ci := 4) (v := .double u1) (C := RX3) (T := TX3) (N := 3) hx hb (hts _) in_X6_apart_X3 hown hK.1 (x1 hc1) 0 rfl rfl 0 (by decide) (hts _ _ hw_X6_apart_1) (fun _ h9 => h9) rfl dX6_apart_1 ?_
  refine lv_aload_n hx hb dX6_apart_4 rfl (lv_at hl 0 rfl) ?_
  refine va_get (D := G) (cl := vwCl) (ci := 4) (v := .double u0) (C := RX3) (T := TX3) (N := 3) hx hb (hts _) in_X6_apart_X3 hown hK.1 (x1 hc0) 0 rfl rfl 0 (by decide) (hts _ _ hw_X6_apart_1) (fun _ h9 => h9) rfl dX6_apart_5 ?_
  refine xdsub hd0 hx hb hx1 hx0 dX6_apart_8 (fun r_1 d0 q_1 hd0 => ?_)
  refine lv_dstore_n (lv' := [(2, .double r_1), (0, .ref q0), (1, .ref q1)]) hx hb dX6_apart_9 rfl hl (by decide) rfl (fun ls hl => ?_)
  refine lv_aload_n hx hb dX6_apart_10 rfl (lv_at hl 2 rfl) ?_
  refine va_get (D := G) (cl := vwCl) (ci := 4) (v := .double v1) (C := RX3) (T := TX3) (N := 3) hx hb (hts _) in_X6_apart_X3 hown hK.1 (x1 hc1) 0 rfl rfl 1 (by decide) (hts _ _ hw_X6_apart_2) (fun _ h9 => h9) rfl dX6_apart_11 ?_
  refine lv_aload_n hx hb dX6_apart_14 rfl (lv_at hl 1 rfl) ?_
  refine va_get (D := G) (cl := vwCl) (ci := 4) (v := .double v0) (C := RX3) (T := TX3) (N := 3) hx hb (hts _) in_X6_apart_X3 hown hK.1 (x1 hc0) 0 rfl rfl 1 (by decide) (hts _ _ hw_X6_apart_2) (fun _ h9 => h9) rfl dX6_apart_15 ?_
  refine xdsub hd0 hx hb hy1 hy0 dX6_apart_18 (fun r_2 d0 q_2 hd0 => ?_)
  refine lv_dstore (lv' := [(4, .double r_2), (2, .double r_1), (0, .ref q0), (1, .ref q1)]) hx hb dX6_apart_19 hl (by decide) rfl (fun ls hl => ?_)
  refine lv_aload_n hx hb dX6_apart_21 rfl (lv_at hl 3 rfl) ?_
  refine va_get (D := G) (cl := vwCl) (ci := 4) (v := .double w1) (C := RX3) (T := TX3) (N := 3) hx hb (hts _) in_X6_apart_X3 hown hK.1 (x1 hc1) 0 rfl rfl 2 (by decide) (hts _ _ hw_X6_apart_3) (fun _ h9 => h9) rfl dX6_apart_22 ?_
  refine lv_aload_n hx hb dX6_apart_25 rfl (lv_at hl 2 rfl) ?_
  refine va_get (D := G) (cl := vwCl) (ci := 4) (v := .double w0) (C := RX3) (T := TX3) (N := 3) hx hb (hts _) in_X6_apart_X3 hown hK.1 (x1 hc0) 0 rfl rfl 2 (by decide) (hts _ _ hw_X6_apart_3) (fun _ h9 => h9) rfl dX6_apart_26 ?_
  refine xdsub hd0 hx hb hz1 hz0 dX6_apart_29 (fun r_3 d0 q_3 hd0 => ?_)
  refine lv_dstore (lv' := [(6, .double r_3), (4, .double r_2), (2, .double r_1), (0, .ref q0), (1, .ref q1)]) hx hb dX6_apart_30 hl (by decide) rfl (fun ls hl => ?_)
  refine lv_dload_n hx hb dX6_apart_32 rfl (lv_at hl 2 rfl) ?_
  refine lv_dload_n hx hb dX6_apart_33 rfl (lv_at hl 2 rfl) ?_
  refine xdmul hd0 hx hb q_1 q_1 dX6_apart_34 (fun r_4 d0 q_4 hd0 => ?_)
  refine lv_dload hx hb dX6_apart_35 (lv_at hl 1 rfl) ?_
  refine lv_dload hx hb dX6_apart_37 (lv_at hl 1 rfl) ?_
  refine xdmul hd0 hx hb q_2 q_2 dX6_apart_39 (fun r_5 d0 q_5 hd0 => ?_)
  refine xdadd hd0 hx hb q_4 q_5 dX6_apart_40 (fun r_6 d0 q_6 hd0 => ?_)
  refine lv_dload hx hb dX6_apart_41 (lv_at hl 0 rfl) ?_
  refine lv_dload hx hb dX6_apart_43 (lv_at hl 0 rfl) ?_
  refine xdmul hd0 hx hb q_3 q_3 dX6_apart_45 (fun r_7 d0 q_7 hd0 => ?_)
  refine xdadd hd0 hx hb q_6 q_7 dX6_apart_46 (fun r_8 d0 q_8 hd0 => ?_)
  have cw_9 := va_cwS (R := rm_X6_apart) (rm := rm_X6_root) 1 (hts d0) gX6_apart_X6_root rfl rfl rfl (by decide +kernel) ⟨Nat.le_of_ble_eq_true rfl, Nat.le_of_ble_eq_true rfl⟩
  refine xcall hd0 (xintoS (As := [.double r_8]) (rest := []) ⟨hx, hb, hml, hown, hts _⟩ cw_9 rfl rfl hl.1 rfl (lv_room (Nat.le_of_ble_eq_true rfl)) dX6_apart_47) (c_X6_root (l := l) (G := G) (ty := ty) (b0 := b0) q_8) (xoweB cw_9.1) hK hb0 hS (Nat.le_of_ble_eq_true rfl) (Nat.le_of_ble_eq_true rfl) (fun E_9 ce_9 q9_9 H_9 locs_9 d0 hd0 hp_9 hS hce_9 hcv_9 hcl_9 => ?_) (fun v_9 H_9 locs_9 d0 hd0 hp_9 hS => ?_)
  · exact hp_9.elim
  · obtain ⟨rfl, r_9, rfl, q_9⟩ := hp_9
    show W p l e _ (s.setDrawn _) m _ below meth c _ _ _ _ _ (F0 m 50 ls [.double r_9])
    exact xdret hd0 hx hb hr hlocks hS (Nat.le_of_ble_eq_true rfl) (Nat.le_of_ble_eq_true rfl) dX6_apart_50 ⟨rfl, _, rfl, q_9⟩
end
section
/-! NEW CELLS; references in rows; Object's beginning; the list's own static. -/
section XAlloc
variable {p : Program} {l : Launch} {e : Env} {R : Room} {s : State} {m : MethodId} {args : Array Value} {below : List Frame} {meth : Method} {c : Code} {H : Heap} {locs : List Loc} {cells slots : Nat} {Q : State → Prop}
variable {cc : ByteArray} {pc : Nat} {ls : Array Slot} {rest : List Value} {G : va_G} {tys : List (ClassId × FieldType)} {a b0 n j : Nat} {H0 : Heap} {cA : ClassId} {i : Int32} {ty : Nat → ClassId} {d0 : Drawn}
/-- the heap H1 is H and one new cell, at q -/
def xgrow (G : va_G) (q : Nat) (e : va_E) (H H1 : Heap) : Prop := xc G q e H1 ∧ H.size = q ∧ H1.size = q + 1 ∧ ∀ x : Nat, x < q → H1[x]? = H[x]?
theorem xgrow.keep {q a : Nat} {e e2 : va_E} {H H1 : Heap} (h : xgrow G q e H H1) (h2 : xc G a e2 H) : xc G a e2 H1 := h2.kept (h.2.2.2 a (by have := h2.lt; rw [h.2.1] at this; exact this))
theorem xgrow.ne {q a : Nat} {e e2 : va_E} {H H1 : Heap} (h : xgrow G q e H H1) (h2 : xc G a e2 H) : a ≠ q := by
  have := h2.lt
  rw [h.2.1] at this
  exact Nat.ne_of_lt this
theorem xgrow.S {q : Nat} {e : va_E} {H H1 : Heap} {A : Nat → Prop} (h : xgrow G q e H H1) (hS : va_S A H0 H locs) : va_S A H0 H1 locs :=
  ⟨Nat.le_trans hS.1 (by rw [h.2.1, h.2.2.1]; omega), fun x h1 h2 => (h.2.2.2 x (by have := hS.1; rw [h.2.1] at this; omega)).trans (hS.2.1 x h1 h2), hS.2.2⟩
/-- an object is made -/
theorem xnew {own C : String} {T : u_T} {N ci index : Nat} {Ts : List Cond} (hexec : p.tables.exec = Jvm.exec) (hb : c.code = cc) (hts : ∀ w ∈ Ts, w.before args s = true) (hin : ∀ w ∈ u_ws C T N, w ∈ Ts) (ty0 : Nat → FieldType) (hty : ∀ k, k < N → parseFieldDescriptor (T k).2.2.1 = some (ty0 k)) (hown : s.vm.findClass own = some m.cls) (hcl : (Cond.classLink own index C).before args s = true) (hinst : (Cond.instantiable C N).before args s = true) (hini : (Cond.initialized C).before args s = true)
    (hK : va_K G vwCl tys s) (hS : va_S (xA b0) H0 H locs) (hc : vwCl[ci]? = some (C, T, N)) {fs : List Value} (hfs : ∀ j, j < N → defaultValue (ty0 j) = vp_V fs j) (hcells : cells + 1 ≤ R.cells) (hslots : slots + N ≤ R.slots) (hdg : decode cc pc = .ok (.new index, 3))
    (kk : ∀ (q : Nat) (H1 : Heap), xgrow G q (.inr (ci, fs)) H H1 → va_S (xA b0) H0 H1 locs → W p l e R s m args below meth c H1 locs (cells + 1) (slots + N) Q (F0 m (pc + 3) ls (.ref q :: rest))) : W p l e R s m args below meth c H locs cells slots Q (F0 m pc ls rest) := by
  have hKn := hK.1 ci _ hc
  refine W.newcK hexec hb hown hcl hinst hini rfl hdg hcells hslots hKn.2.1 rfl fun H1 kC hkC e1 z1 o1 => ?_
  have hg : xgrow G H.size (.inr (ci, fs)) H H1 := ⟨⟨_, hc, (u_born ty0 hts hin hKn hkC e1 hty).to hfs⟩, rfl, z1, o1⟩
  exact kk H.size H1 hg (hg.S hS)
theorem xnewa0 (hexec : p.tables.exec = Jvm.exec) (hb : c.code = cc) {atype : ArrayType} (harr : (Cond.arrayClass (newarray.typeOf atype)).before args s = true) (hK : va_K G vwCl tys s) {cB : ClassId} (t0 : Nat) (ht : tys[t0]? = some (cB, newarray.typeOf atype)) (hR : va_RA s cB (newarray.typeOf atype) → s.vm.findClass ("[" ++ (newarray.typeOf atype).toString) = some cB) (hS : va_S (xA b0) H0 H locs)
    {N : Nat} {a0 : vp_A} (ha : ∀ cA : ClassId, vp_cell cA a0 = arrV cA N (fun _ => defaultValue (newarray.typeOf atype))) (hN : N < 2 ^ 20) (hb8 : componentBytes (newarray.typeOf atype) ≤ 8) (hcells : cells + 1 ≤ R.cells) (hslots : slots + N ≤ R.slots) (hdg : decode cc pc = .ok (.newarray atype, 2))
    (kk : ∀ (q : Nat) (H1 : Heap), xgrow G q (.inl (cB, a0)) H H1 → va_S (xA b0) H0 H1 locs → W p l e R s m args below meth c H1 locs (cells + 1) (slots + N) Q (F0 m (pc + 2) ls (.ref q :: rest))) : W p l e R s m args below meth c H locs cells slots Q (F0 m pc ls (.int (nI N) :: rest)) := by
  refine va_newaK hexec hb harr rfl hdg rfl (nI_pos (by omega)) (nI_clamp (by omega)) (Nat.le_trans (Nat.mul_le_mul (Nat.le_of_lt hN) hb8) (Nat.le_of_ble_eq_true rfl)) hcells hslots rfl fun H1 cA e1 z1 o1 hAr hNm => ?_
  have hcA : cA = cB := Option.some.inj (hNm.symm.trans (hR (hK.2 t0 _ ht).2))
  subst hcA
  have hg : xgrow G H.size (.inl (cA, a0)) H H1 := ⟨by show H1[H.size]? = some (vp_cell _ _); rw [ha]; exact e1, rfl, z1, o1⟩
  exact kk H.size H1 hg (hg.S hS)
theorem xnewaD (hexec : p.tables.exec = Jvm.exec) (hb : c.code = cc) (harr : (Cond.arrayClass .double).before args s = true) (hK : va_K G vwCl tys s) {cB : ClassId} (t0 : Nat) (ht : tys[t0]? = some (cB, .double)) (hS : va_S (xA b0) H0 H locs) {N : Nat} (hN : N < 2 ^ 20) (hcells : cells + 1 ≤ R.cells) (hslots : slots + N ≤ R.slots) (hdg : decode cc pc = .ok (.newarray .double, 2))
    (kk : ∀ (q : Nat) (H1 : Heap), xgrow G q (.inl (cB, N, .inr (.inr (.inr (.inl (fun _ => FP.dconst0)))))) H H1 → va_S (xA b0) H0 H1 locs → W p l e R s m args below meth c H1 locs (cells + 1) (slots + N) Q (F0 m (pc + 2) ls (.ref q :: rest))) : W p l e R s m args below meth c H locs cells slots Q (F0 m pc ls (.int (nI N) :: rest)) :=
  xnewa0 (atype := .double) hexec hb harr hK t0 ht (fun h => h) hS (a0 := (N, .inr (.inr (.inr (.inl (fun _ => FP.dconst0)))))) (fun cA => rfl) hN (by decide) hcells hslots hdg kk
theorem xnewaI (hexec : p.tables.exec = Jvm.exec) (hb : c.code = cc) (harr : (Cond.arrayClass .int).before args s = true) (hK : va_K G vwCl tys s) {cB : ClassId} (t0 : Nat) (ht : tys[t0]? = some (cB, .int)) (hS : va_S (xA b0) H0 H locs) {N : Nat} (hN : N < 2 ^ 20) (hcells : cells + 1 ≤ R.cells) (hslots : slots + N ≤ R.slots) (hdg : decode cc pc = .ok (.newarray .int, 2))
    (kk : ∀ (q : Nat) (H1 : Heap), xgrow G q (.inl (cB, N, .inl (fun _ => nI 0))) H H1 → va_S (xA b0) H0 H1 locs → W p l e R s m args below meth c H1 locs (cells + 1) (slots + N) Q (F0 m (pc + 2) ls (.ref q :: rest))) : W p l e R s m args below meth c H locs cells slots Q (F0 m pc ls (.int (nI N) :: rest)) :=
  xnewa0 (atype := .int) hexec hb harr hK t0 ht (fun h => h) hS (a0 := (N, .inl (fun _ => nI 0))) (fun cA => rfl) hN (by decide) hcells hslots hdg kk
theorem xnewaZ (hexec : p.tables.exec = Jvm.exec) (hb : c.code = cc) (harr : (Cond.arrayClass .boolean).before args s = true) (hK : va_K G vwCl tys s) {cB : ClassId} (t0 : Nat) (ht : tys[t0]? = some (cB, .boolean)) (hS : va_S (xA b0) H0 H locs) {N : Nat} (hN : N < 2 ^ 20) (hcells : cells + 1 ≤ R.cells) (hslots : slots + N ≤ R.slots) (hdg : decode cc pc = .ok (.newarray .boolean, 2))
    (kk : ∀ (q : Nat) (H1 : Heap), xgrow G q (.inl (cB, N, .inl (fun _ => nI 0))) H H1 → va_S (xA b0) H0 H1 locs → W p l e R s m args below meth c H1 locs (cells + 1) (slots + N) Q (F0 m (pc + 2) ls (.ref q :: rest))) : W p l e R s m args below meth c H locs cells slots Q (F0 m pc ls (.int (nI N) :: rest)) :=
  xnewa0 (atype := .boolean) hexec hb harr hK t0 ht (fun h => h) hS (a0 := (N, .inl (fun _ => nI 0))) (fun cA => rfl) hN (by decide) hcells hslots hdg kk
theorem xnewaL (hexec : p.tables.exec = Jvm.exec) (hb : c.code = cc) (harr : (Cond.arrayClass .long).before args s = true) (hK : va_K G vwCl tys s) {cB : ClassId} (t0 : Nat) (ht : tys[t0]? = some (cB, .long)) (hS : va_S (xA b0) H0 H locs) {N : Nat} (hN : N < 2 ^ 20) (hcells : cells + 1 ≤ R.cells) (hslots : slots + N ≤ R.slots) (hdg : decode cc pc = .ok (.newarray .long, 2))
    (kk : ∀ (q : Nat) (H1 : Heap), xgrow G q (.inl (cB, N, .inr (.inl (fun _ => (0 : Int64))))) H H1 → va_S (xA b0) H0 H1 locs → W p l e R s m args below meth c H1 locs (cells + 1) (slots + N) Q (F0 m (pc + 2) ls (.ref q :: rest))) : W p l e R s m args below meth c H locs cells slots Q (F0 m pc ls (.int (nI N) :: rest)) :=
  xnewa0 (atype := .long) hexec hb harr hK t0 ht (fun h => h) hS (a0 := (N, .inr (.inl (fun _ => (0 : Int64))))) (fun cA => rfl) hN (by decide) hcells hslots hdg kk
/-- a row of references is made -/
theorem xnewq (hexec : p.tables.exec = Jvm.exec) (hb : c.code = cc) {own C : String} {index : Nat} (hown : s.vm.findClass own = some m.cls) (hclink : (Cond.classLink own index C).before args s = true) (hover : va_AO C s) (hK : va_K G vwCl tys s) {cB : ClassId} (t0 : Nat) (ht : tys[t0]? = some (cB, .object C)) (hS : va_S (xA b0) H0 H locs)
    {N : Nat} (hN : N < 2 ^ 20) (hcells : cells + 1 ≤ R.cells) (hslots : slots + N ≤ R.slots) (hdg : decode cc pc = .ok (.anewarray index, 3))
    (kk : ∀ (q : Nat) (H1 : Heap), xgrow G q (.inl (cB, N, .inr (.inr (.inr (.inr (fun _ => none)))))) H H1 → va_S (xA b0) H0 H1 locs → W p l e R s m args below meth c H1 locs (cells + 1) (slots + N) Q (F0 m (pc + 3) ls (.ref q :: rest))) : W p l e R s m args below meth c H locs cells slots Q (F0 m pc ls (.int (nI N) :: rest)) := by
  have hc : (nI N).toNatClampNeg = N := nI_clamp (by omega)
  refine W.anew hexec hb hown hclink (va_AO.use hover) rfl hdg rfl (nI_pos (by omega)) (by rw [hc]; omega) hcells (by rw [hc]; exact hslots) fun cA kA comp f1 f2 f3 f4 => ?_
  rw [hc]
  obtain ⟨kA', comp', g1, g2, g3, g4⟩ := (hK.2 t0 _ ht).2
  have hcA : cA = cB := Option.some.inj (f1.symm.trans g4)
  subst hcA
  generalize hH1 : H.push ({ cls := cA, slots := Array.replicate N .null, vm := .none } : Cell) = H1
  have hg : xgrow G H.size (.inl (cA, N, .inr (.inr (.inr (.inr (fun _ => none)))))) H H1 := by
    refine ⟨?_, rfl, by rw [← hH1, Array.size_push], fun q hq => by rw [← hH1, Array.getElem?_push, if_neg (Nat.ne_of_lt hq)]⟩
    show H1[H.size]? = some (vp_cell _ _)
    rw [← hH1, Array.getElem?_push_size, vp_cell_q, ← arrV_new]
    rfl
  exact kk H.size H1 hg (hg.S hS)
/-- a reference into a row of its own class -/
theorem xaast (hexec : p.tables.exec = Jvm.exec) (hb : c.code = cc) (hK : va_K G vwCl tys s) (t0 ci : Nat) {v : Nat} {vs : List Value} {r : vw_C} {f : Nat → Option Nat} (hP : xc G a (.inl (cA, n, .inr (.inr (.inr (.inr f))))) H) (hV : xc G v (.inr (ci, vs)) H) (hS : va_S (xA b0) H0 H locs) (ha : b0 ≤ a) (ht : tys[t0]? = some (cA, .object r.1)) (hc : vwCl[ci]? = some r) (hi : xix i j n) (hdg : decode cc pc = .ok (.aastore, 1))
    (kk : ∀ (H1 : Heap) (locs1 : List Loc), xset G a (.inl (cA, n, .inr (.inr (.inr (.inr (va_up f j (some v))))))) H H1 → va_S (xA b0) H0 H1 locs1 → W p l e R s m args below meth c H1 locs1 cells slots Q (F0 m (pc + 1) ls rest)) : W p l e R s m args below meth c H locs cells slots Q (F0 m pc ls (.ref v :: .int i :: .ref a :: rest)) := by
  obtain ⟨hin, rfl⟩ := hi
  have hlt : i.toNatClampNeg < n := Nat.not_le.mp fun q => hin (Or.inr q)
  have h0 : ¬ i < 0 := fun q => hin (Or.inl q)
  obtain ⟨r', hr', cellV, g1, g2, g3, -⟩ := hV
  have hcls := (hK.1 ci r hc).2
  obtain ⟨kA, comp, k1, k2, k3, -⟩ := (hK.2 t0 _ ht).2
  have hcomp : comp = G.1 ci := Option.some.inj (k3.symm.trans hcls.1)
  subst hcomp
  obtain ⟨kC, hkC, -⟩ := hcls.2
  refine W.aast hexec hb hP (fun q h => by cases h) (fun h => by cases h) k1 k2 rfl hkC ⟨h0, by show _ < (arrV _ _ _).slots.size; rw [arrV_size]; exact hlt⟩ g1 (fun q h => by rw [g3] at h; cases h) (by rw [g2]; exact hkC) (by rw [g2]; exact va_assign hcls) rfl rfl hdg fun H1 e z oq => ?_
  refine kk H1 _ ⟨?_, z, oq⟩ (hS.put z oq ha)
  show H1[a]? = some (vp_cell _ _)
  rw [e]
  rw [vp_cell_q, vp_cell_q, arrV_store]
  congr 2
  funext q
  by_cases hq : q = i.toNatClampNeg
  · subst hq
    simp [updV, va_up, va_rf]
  · simp [updV, va_up, hq]
/-- a reference into a row of a wider class -/
theorem xaastO (hexec : p.tables.exec = Jvm.exec) (hb : c.code = cc) (hK : va_K G vwCl tys s) (t0 : Nat) {v : Nat} {E : String} {f : Nat → Option Nat} (hP : xc G a (.inl (cA, n, .inr (.inr (.inr (.inr f))))) H) (hr : va_Any E s H v) (hS : va_S (xA b0) H0 H locs) (ha : b0 ≤ a) (ht : tys[t0]? = some (cA, .object E)) (hi : xix i j n) (hdg : decode cc pc = .ok (.aastore, 1))
    (kk : ∀ (H1 : Heap) (locs1 : List Loc), xset G a (.inl (cA, n, .inr (.inr (.inr (.inr (va_up f j (some v))))))) H H1 → va_S (xA b0) H0 H1 locs1 → W p l e R s m args below meth c H1 locs1 cells slots Q (F0 m (pc + 1) ls rest)) : W p l e R s m args below meth c H locs cells slots Q (F0 m pc ls (.ref v :: .int i :: .ref a :: rest)) := by
  obtain ⟨hin, rfl⟩ := hi
  have hlt : i.toNatClampNeg < n := Nat.not_le.mp fun q => hin (Or.inr q)
  have h0 : ¬ i < 0 := fun q => hin (Or.inl q)
  obtain ⟨cellV, g1, g3, ⟨kC, hkC⟩, hasg⟩ := hr
  obtain ⟨kA, comp, k1, k2, k3, -⟩ := (hK.2 t0 _ ht).2
  obtain ⟨kE, hkE, -⟩ := Vm.findClass_spec k3
  refine W.aast hexec hb hP (fun q h => by cases h) (fun h => by cases h) k1 k2 rfl hkE ⟨h0, by show _ < (arrV _ _ _).slots.size; rw [arrV_size]; exact hlt⟩ g1 (fun q h => by rw [h] at g3; cases g3) hkC (hasg _ k3) rfl rfl hdg fun H1 e z oq => ?_
  refine kk H1 _ ⟨?_, z, oq⟩ (hS.put z oq ha)
  show H1[a]? = some (vp_cell _ _)
  rw [e]
  rw [vp_cell_q, vp_cell_q, arrV_store]
  congr 2
  funext q
  by_cases hq : q = i.toNatClampNeg
  · subst hq
    simp [updV, va_up, va_rf]
  · simp [updV, va_up, hq]
theorem xAny {v ci : Nat} {vs : List Value} {r : vw_C} (hK : va_K G vwCl tys s) (hV : xc G v (.inr (ci, vs)) H) (hc : vwCl[ci]? = some r) (hca : va_Nw (.castable r.1 "java/lang/Object") s) : va_Any "java/lang/Object" s H v := by
  obtain ⟨c0, t0, f1, f2, f3⟩ := Cond.castable_spec (va_Nw.use (A := #[]) rfl hca)
  exact va_rAny hK (x1 hV) (q0 := 0) rfl hc (fun comp c9 h1 h2 => by
    have e1 : c9 = c0 := Option.some.inj (h2.symm.trans f1)
    have e2 : comp = t0 := Option.some.inj (h1.symm.trans f2)
    rw [e1, e2]; exact f3)
/-- Object's own beginning -/
theorem xobj (hexec : p.tables.exec = Jvm.exec) (hb : c.code = cc) {own : String} (hown : s.vm.findClass own = some m.cls) {idx nL : Nat} (hml : c.maxLocals = nL) (hsz : ls.size = nL)
    (hlink : (Cond.methodLink own idx objectInit).before args s = true) (hinst : (Cond.instanceMethod objectInit).before args s = true) (hcode : (Cond.code objectInit ⟨#[0xb1]⟩ 1 none).before args s = true) (hdg : decode cc pc = .ok (.invokespecial idx, 3)) (hframes : 1 ≤ R.frames) (hlocals : (rest.map fun v => v.category).sum + 12 ≤ R.locals)
    (kk : W p l e R s m args below meth c H locs cells slots Q (F0 m (pc + 3) ls rest)) : W p l e R s m args below meth c H locs cells slots Q (F0 m pc ls (.ref a :: rest)) :=
  W.objInit hexec hb hown hlink hinst hcode (g := F0 m pc ls (.ref a :: rest)) rfl (by rw [hml]; exact hsz) rfl hdg hframes (by show 2 * 0 + _ + 12 ≤ _; omega) kk
/-- what the list begins with -/
theorem xgets (hexec : p.tables.exec = Jvm.exec) (hb : c.code = cc) {own : String} {index : Nat} (hK : xK G ty b0 s) (hS : va_S (xA b0) s.heap H locs) (hown : s.vm.findClass own = some m.cls) (hlink : (Cond.fieldLink own index "java/util/ArrayList" "DEFAULTCAPACITY_EMPTY_ELEMENTDATA" "[Ljava/lang/Object;").before args (s.setDrawn d0) = true) (hdg : decode cc pc = .ok (.getstatic index, 3))
    (kk : W p l e R (s.setDrawn d0) m args below meth c H locs cells slots Q (F0 m (pc + 3) ls (.ref (ty 8) :: rest))) : W p l e R (s.setDrawn d0) m args below meth c H locs cells slots Q (F0 m pc ls rest) :=
  va_gets (s := s.setDrawn d0) hexec hb (va_Z.moved (Vm.Alike.refl _) hK.2.2.2.2.2.2.1) hS hown hlink (fun _ h => h) hdg kk
theorem xK.nil {U : State} (hK : xK G ty b0 U) (hS : va_S (xA b0) U.heap H locs) : xc G (ty 8) (.inl (ty 7, 0, .inr (.inr (.inr (.inr (fun _ => none)))))) H :=
  hK.2.2.2.2.2.2.2.1.kept (hS.2.1 _ hK.2.2.2.2.2.2.2.1.lt (Nat.not_le.mpr hK.2.2.2.2.2.2.2.2.1))
end XAlloc
end
section
/-! THE REFERENCE: what it is made of. -/
theorem xin_of {x : Int32} {n : Nat} (h0 : ¬ x < 0) (h1 : ¬ nI n ≤ x) (hn : n < 2 ^ 31) : vp_in x n := by
  rcases pk_ix x hn with h | h | ⟨j, hj, rfl⟩
  · exact absurd h h0
  · exact absurd h h1
  · exact vp_in_nI hj hn
theorem xin_no0 {x : Int32} {n : Nat} (h0 : x < 0) : ¬ vp_in x n := fun h => h (Or.inl h0)
theorem xin_no1 {x : Int32} {n : Nat} (h1 : nI n ≤ x) (hn : n < 2 ^ 31) : ¬ vp_in x n := by
  intro h
  obtain ⟨j, hj, rfl⟩ := vp_in_of h hn
  exact nI_ge hj hn h1
/-- a truth as a whole number -/
noncomputable def xP (p : Prop) : Int32 := @ite Int32 p (Classical.propDecidable p) 1 0
theorem xP_t {p : Prop} (h : p) : xP p = 1 := by unfold xP; exact if_pos h
theorem xP_f {p : Prop} (h : ¬ p) : xP p = 0 := by unfold xP; exact if_neg h
theorem xP_ne {p : Prop} : ¬ xP p = 0 ↔ p := by
  by_cases h : p
  · rw [xP_t h]; exact ⟨fun _ => h, fun _ => by decide⟩
  · rw [xP_f h]; exact ⟨fun z => absurd rfl z, fun z => absurd z h⟩
theorem xP_eq {p : Prop} : xP p = 0 ↔ ¬ p := by
  by_cases h : p
  · rw [xP_t h]; exact ⟨fun z => absurd z (by decide), fun z => absurd h z⟩
  · rw [xP_f h]; exact ⟨fun _ => h, fun _ => rfl⟩
theorem xz1 {p : Prop} (h : p) : some (Value.int (nI 1)) = some (Value.int (xP p)) := by rw [xP_t h]; rfl
theorem xz0 {p : Prop} (h : ¬ p) : some (Value.int (nI 0)) = some (Value.int (xP p)) := by rw [xP_f h]; rfl
theorem xP_cg {p q : Prop} (h : p ↔ q) : xP p = xP q := by rw [propext h]
/-- the reference's cells: the object, its eleven arrays -/
def xRef (G : va_G) (ty : Nat → ClassId) (m0 : Nat) (A : Nat → Nat) (th : Int32) (F R : Nat) (pl : Nat → UInt64) (un : Nat → Int32) (co dr : Nat → UInt64) (bu : Nat → Int32) (nb : Nat) (wi hi : Nat → UInt64) (fc : Nat → Int32) (fa : Nat → UInt64) (lo la : Nat → Int32) (px py pz : UInt64) (H : Heap) : Prop :=
  xc G m0 (.inr (8, [.int th, .int (nI F), .int (nI R), .ref (A 0), .ref (A 1), .ref (A 2), .ref (A 3), .ref (A 4), .int (nI nb), .ref (A 5), .ref (A 6), .ref (A 7), .ref (A 8), .ref (A 9), .ref (A 10), .double px, .double py, .double pz])) H ∧
  xc G (A 0) (.inl (ty 0, 192, .inr (.inr (.inr (.inl pl))))) H ∧ xc G (A 1) (.inl (ty 2, 8, .inl un)) H ∧ xc G (A 2) (.inl (ty 0, 256, .inr (.inr (.inr (.inl co))))) H ∧ xc G (A 3) (.inl (ty 0, 32, .inr (.inr (.inr (.inl dr))))) H ∧ xc G (A 4) (.inl (ty 2, 64, .inl bu)) H ∧
  xc G (A 5) (.inl (ty 0, 4, .inr (.inr (.inr (.inl wi))))) H ∧ xc G (A 6) (.inl (ty 0, 4, .inr (.inr (.inr (.inl hi))))) H ∧ xc G (A 7) (.inl (ty 1, 4, .inl fc)) H ∧ xc G (A 8) (.inl (ty 0, 128, .inr (.inr (.inr (.inl fa))))) H ∧ xc G (A 9) (.inl (ty 1, 8, .inl lo)) H ∧ xc G (A 10) (.inl (ty 1, 8, .inl la)) H
/-- the reference's sizes -/
abbrev xSz (F R : Nat) : Prop := (2 ≤ F ∧ F ≤ 8) ∧ (2 ≤ R ∧ R ≤ 8)
def pAt (pl : Nat → UInt64) (f r k : Nat) : UInt64 := pl (3 * (8 * f + r) + k)
def pFar (pl : Nat → UInt64) (f r g q : Nat) : UInt64 := pDist (pAt pl f r 0) (pAt pl f r 1) (pAt pl f r 2) (pAt pl g q 0) (pAt pl g q 1) (pAt pl g q 2)
/-- STRETCH, out of the corners -/
def pOff (co pl : Nat → UInt64) (s f : Nat) : UInt64 := FP.dsub (pLen (FP.dsub (co (32 * s + 4 * f + 6)) (co (32 * s + 4 * f))) (FP.dsub (co (32 * s + 4 * f + 6 + 1)) (co (32 * s + 4 * f + 1)))) (pFar pl f s (f + 1) (s + 1))
end
section
/-! THE REFERENCE: its beginning. -/
/-- a size: the nearest of 2 .. 8 -/
def xCl (x : Int32) : Nat := if x < nI 2 then 2 else if x ≤ nI 8 then x.toNatClampNeg else 8
theorem xCl_lo {x : Int32} (h : x < nI 2) : xCl x = 2 := by unfold xCl; exact if_pos h
theorem xCl_hi {x : Int32} (h1 : ¬ x < nI 2) (h2 : ¬ x ≤ nI 8) : xCl x = 8 := by unfold xCl; rw [if_neg h1, if_neg h2]
theorem xCl_mid {x : Int32} (h1 : ¬ x < nI 2) (h2 : x ≤ nI 8) : nI (xCl x) = x := by
  unfold xCl
  rw [if_neg h1, if_pos h2]
  have h0 : ¬ x < 0 := fun z => h1 (Int32.lt_trans z (by decide))
  obtain ⟨j, hj, rfl⟩ := nI_of h0
  rw [nI_clamp hj]
theorem xCl_sz (x : Int32) : 2 ≤ xCl x ∧ xCl x ≤ 8 := by
  by_cases h1 : x < nI 2
  · rw [xCl_lo h1]; decide
  · by_cases h2 : x ≤ nI 8
    · have h0 : ¬ x < 0 := fun z => h1 (Int32.lt_trans z (by decide))
      obtain ⟨j, hj, rfl⟩ := nI_of h0
      have e : xCl (nI j) = j := by unfold xCl; rw [if_neg h1, if_pos h2, nI_clamp hj]
      rw [e]
      have a1 := (nI_leI hj (by decide)).mp h2
      have a2 : ¬ j < 2 := fun z => h1 ((nI_ltI hj (by decide)).mpr z)
      omega
    · rw [xCl_hi h1 h2]; decide
/-- the old cells stand, but for one -/
def xOld (m0 : Nat) (H H1 : Heap) : Prop := H.size ≤ H1.size ∧ ∀ q : Nat, q < H.size → q ≠ m0 → H1[q]? = H[q]?
theorem xOld.rf {m0 : Nat} {H : Heap} : xOld m0 H H := ⟨Nat.le_refl _, fun _ _ _ => rfl⟩
theorem xOld.put {G : va_G} {m0 a : Nat} {e : va_E} {H H1 H2 : Heap} (h : xOld m0 H H1) (h2 : xset G a e H1 H2) (ha : a = m0 ∨ H.size ≤ a) : xOld m0 H H2 :=
  ⟨by rw [h2.2.1]; exact h.1, fun q h3 h4 => (h2.2.2 q (by rcases ha with rfl | ha; exact h4; omega)).trans (h.2 q h3 h4)⟩
theorem xOld.grow {G : va_G} {m0 q0 : Nat} {e : va_E} {H H1 H2 : Heap} (h : xOld m0 H H1) (h2 : xgrow G q0 e H1 H2) : xOld m0 H H2 :=
  ⟨by have := h.1; rw [h2.2.2.1, ← h2.2.1]; omega, fun q h3 h4 => (h2.2.2.2 q (by have := h.1; rw [← h2.2.1]; omega)).trans (h.2 q h3 h4)⟩
theorem xOld.tr {m0 m1 : Nat} {H H1 H2 : Heap} (h : xOld m0 H H1) (h2 : xOld m1 H1 H2) (hm : m1 = m0 ∨ H.size ≤ m1) : xOld m0 H H2 :=
  ⟨Nat.le_trans h.1 h2.1, fun q h3 h4 => (h2.2 q (Nat.lt_of_lt_of_le h3 h.1) (by rcases hm with rfl | hm; exact h4; omega)).trans (h.2 q h3 h4)⟩
theorem xAp_seq {m0 B : Nat} (h : m0 < B) : xAp m0 (fun i => B + i) := ⟨fun i _ => by show B + i ≠ m0; omega, fun i j _ _ z => by have z : B + i = B + j := z; omega⟩
theorem xNw_seq {b0 m0 B : Nat} (h : b0 ≤ m0) (h2 : b0 ≤ B) : xNw b0 m0 (fun i => B + i) := ⟨h, fun i _ => by show b0 ≤ B + i; omega⟩
/-- eight times none -/
def xN8 (f : Nat → Int32) : Prop := ∀ j : Nat, j < 8 → f j = (-1)
theorem xn8_of : xN8 (upd (upd (upd (upd (upd (upd (upd (upd (fun _ => nI 0) 0 (-1)) 1 (-1)) 2 (-1)) 3 (-1)) 4 (-1)) 5 (-1)) 6 (-1)) 7 (-1)) := by
  intro j hj
  match j, hj with
  | 0, _ => rfl
  | 1, _ => rfl
  | 2, _ => rfl
  | 3, _ => rfl
  | 4, _ => rfl
  | 5, _ => rfl
  | 6, _ => rfl
  | 7, _ => rfl
theorem dX7_init_0 : decode cX7_init 0 = .ok (.aload_n 0, 1) := by decide +kernel
theorem dX7_init_1 : decode cX7_init 1 = .ok (.invokespecial 1, 3) := by decide +kernel
theorem dX7_init_4 : decode cX7_init 4 = .ok (.aload_n 0, 1) := by decide +kernel
theorem dX7_init_5 : decode cX7_init 5 = .ok (.sipush 192, 3) := by decide +kernel
theorem dX7_init_8 : decode cX7_init 8 = .ok (.newarray .double, 2) := by decide +kernel
theorem dX7_init_10 : decode cX7_init 10 = .ok (.putfield 7, 3) := by decide +kernel
theorem dX7_init_13 : decode cX7_init 13 = .ok (.aload_n 0, 1) := by decide +kernel
theorem dX7_init_14 : decode cX7_init 14 = .ok (.bipush 8, 2) := by decide +kernel
theorem dX7_init_16 : decode cX7_init 16 = .ok (.newarray .boolean, 2) := by decide +kernel
theorem dX7_init_18 : decode cX7_init 18 = .ok (.putfield 13, 3) := by decide +kernel
theorem dX7_init_21 : decode cX7_init 21 = .ok (.aload_n 0, 1) := by decide +kernel
theorem dX7_init_22 : decode cX7_init 22 = .ok (.sipush 256, 3) := by decide +kernel
theorem dX7_init_25 : decode cX7_init 25 = .ok (.newarray .double, 2) := by decide +kernel
theorem dX7_init_27 : decode cX7_init 27 = .ok (.putfield 17, 3) := by decide +kernel
theorem dX7_init_30 : decode cX7_init 30 = .ok (.aload_n 0, 1) := by decide +kernel
theorem dX7_init_31 : decode cX7_init 31 = .ok (.bipush 32, 2) := by decide +kernel
theorem dX7_init_33 : decode cX7_init 33 = .ok (.newarray .double, 2) := by decide +kernel
theorem dX7_init_35 : decode cX7_init 35 = .ok (.putfield 20, 3) := by decide +kernel
theorem dX7_init_38 : decode cX7_init 38 = .ok (.aload_n 0, 1) := by decide +kernel
theorem dX7_init_39 : decode cX7_init 39 = .ok (.bipush 64, 2) := by decide +kernel
theorem dX7_init_41 : decode cX7_init 41 = .ok (.newarray .boolean, 2) := by decide +kernel
theorem dX7_init_43 : decode cX7_init 43 = .ok (.putfield 23, 3) := by decide +kernel
theorem dX7_init_46 : decode cX7_init 46 = .ok (.aload_n 0, 1) := by decide +kernel
theorem dX7_init_47 : decode cX7_init 47 = .ok (.iconst 4, 1) := by decide +kernel
theorem dX7_init_48 : decode cX7_init 48 = .ok (.newarray .double, 2) := by decide +kernel
theorem dX7_init_50 : decode cX7_init 50 = .ok (.putfield 26, 3) := by decide +kernel
theorem dX7_init_53 : decode cX7_init 53 = .ok (.aload_n 0, 1) := by decide +kernel
theorem dX7_init_54 : decode cX7_init 54 = .ok (.iconst 4, 1) := by decide +kernel
theorem dX7_init_55 : decode cX7_init 55 = .ok (.newarray .double, 2) := by decide +kernel
theorem dX7_init_57 : decode cX7_init 57 = .ok (.putfield 29, 3) := by decide +kernel
theorem dX7_init_60 : decode cX7_init 60 = .ok (.aload_n 0, 1) := by decide +kernel
theorem dX7_init_61 : decode cX7_init 61 = .ok (.iconst 4, 1) := by decide +kernel
theorem dX7_init_62 : decode cX7_init 62 = .ok (.newarray .int, 2) := by decide +kernel
theorem dX7_init_64 : decode cX7_init 64 = .ok (.putfield 32, 3) := by decide +kernel
theorem dX7_init_67 : decode cX7_init 67 = .ok (.aload_n 0, 1) := by decide +kernel
theorem dX7_init_68 : decode cX7_init 68 = .ok (.sipush 128, 3) := by decide +kernel
theorem dX7_init_71 : decode cX7_init 71 = .ok (.newarray .double, 2) := by decide +kernel
theorem dX7_init_73 : decode cX7_init 73 = .ok (.putfield 36, 3) := by decide +kernel
theorem dX7_init_76 : decode cX7_init 76 = .ok (.aload_n 0, 1) := by decide +kernel
theorem dX7_init_77 : decode cX7_init 77 = .ok (.bipush 8, 2) := by decide +kernel
theorem dX7_init_79 : decode cX7_init 79 = .ok (.newarray .int, 2) := by decide +kernel
theorem dX7_init_81 : decode cX7_init 81 = .ok (.dup, 1) := by decide +kernel
theorem dX7_init_82 : decode cX7_init 82 = .ok (.iconst 0, 1) := by decide +kernel
theorem dX7_init_83 : decode cX7_init 83 = .ok (.iconst (-1), 1) := by decide +kernel
theorem dX7_init_84 : decode cX7_init 84 = .ok (.iastore, 1) := by decide +kernel
theorem dX7_init_85 : decode cX7_init 85 = .ok (.dup, 1) := by decide +kernel
theorem dX7_init_86 : decode cX7_init 86 = .ok (.iconst 1, 1) := by decide +kernel
theorem dX7_init_87 : decode cX7_init 87 = .ok (.iconst (-1), 1) := by decide +kernel
theorem dX7_init_88 : decode cX7_init 88 = .ok (.iastore, 1) := by decide +kernel
theorem dX7_init_89 : decode cX7_init 89 = .ok (.dup, 1) := by decide +kernel
theorem dX7_init_90 : decode cX7_init 90 = .ok (.iconst 2, 1) := by decide +kernel
theorem dX7_init_91 : decode cX7_init 91 = .ok (.iconst (-1), 1) := by decide +kernel
theorem dX7_init_92 : decode cX7_init 92 = .ok (.iastore, 1) := by decide +kernel
theorem dX7_init_93 : decode cX7_init 93 = .ok (.dup, 1) := by decide +kernel
theorem dX7_init_94 : decode cX7_init 94 = .ok (.iconst 3, 1) := by decide +kernel
theorem dX7_init_95 : decode cX7_init 95 = .ok (.iconst (-1), 1) := by decide +kernel
theorem dX7_init_96 : decode cX7_init 96 = .ok (.iastore, 1) := by decide +kernel
theorem dX7_init_97 : decode cX7_init 97 = .ok (.dup, 1) := by decide +kernel
theorem dX7_init_98 : decode cX7_init 98 = .ok (.iconst 4, 1) := by decide +kernel
theorem dX7_init_99 : decode cX7_init 99 = .ok (.iconst (-1), 1) := by decide +kernel
theorem dX7_init_100 : decode cX7_init 100 = .ok (.iastore, 1) := by decide +kernel
theorem dX7_init_101 : decode cX7_init 101 = .ok (.dup, 1) := by decide +kernel
theorem dX7_init_102 : decode cX7_init 102 = .ok (.iconst 5, 1) := by decide +kernel
theorem dX7_init_103 : decode cX7_init 103 = .ok (.iconst (-1), 1) := by decide +kernel
theorem dX7_init_104 : decode cX7_init 104 = .ok (.iastore, 1) := by decide +kernel
theorem dX7_init_105 : decode cX7_init 105 = .ok (.dup, 1) := by decide +kernel
theorem dX7_init_106 : decode cX7_init 106 = .ok (.bipush 6, 2) := by decide +kernel
theorem dX7_init_108 : decode cX7_init 108 = .ok (.iconst (-1), 1) := by decide +kernel
theorem dX7_init_109 : decode cX7_init 109 = .ok (.iastore, 1) := by decide +kernel
theorem dX7_init_110 : decode cX7_init 110 = .ok (.dup, 1) := by decide +kernel
theorem dX7_init_111 : decode cX7_init 111 = .ok (.bipush 7, 2) := by decide +kernel
theorem dX7_init_113 : decode cX7_init 113 = .ok (.iconst (-1), 1) := by decide +kernel
theorem dX7_init_114 : decode cX7_init 114 = .ok (.iastore, 1) := by decide +kernel
theorem dX7_init_115 : decode cX7_init 115 = .ok (.putfield 39, 3) := by decide +kernel
theorem dX7_init_118 : decode cX7_init 118 = .ok (.aload_n 0, 1) := by decide +kernel
theorem dX7_init_119 : decode cX7_init 119 = .ok (.bipush 8, 2) := by decide +kernel
theorem dX7_init_121 : decode cX7_init 121 = .ok (.newarray .int, 2) := by decide +kernel
theorem dX7_init_123 : decode cX7_init 123 = .ok (.dup, 1) := by decide +kernel
theorem dX7_init_124 : decode cX7_init 124 = .ok (.iconst 0, 1) := by decide +kernel
theorem dX7_init_125 : decode cX7_init 125 = .ok (.iconst (-1), 1) := by decide +kernel
theorem dX7_init_126 : decode cX7_init 126 = .ok (.iastore, 1) := by decide +kernel
theorem dX7_init_127 : decode cX7_init 127 = .ok (.dup, 1) := by decide +kernel
theorem dX7_init_128 : decode cX7_init 128 = .ok (.iconst 1, 1) := by decide +kernel
theorem dX7_init_129 : decode cX7_init 129 = .ok (.iconst (-1), 1) := by decide +kernel
theorem dX7_init_130 : decode cX7_init 130 = .ok (.iastore, 1) := by decide +kernel
theorem dX7_init_131 : decode cX7_init 131 = .ok (.dup, 1) := by decide +kernel
theorem dX7_init_132 : decode cX7_init 132 = .ok (.iconst 2, 1) := by decide +kernel
theorem dX7_init_133 : decode cX7_init 133 = .ok (.iconst (-1), 1) := by decide +kernel
theorem dX7_init_134 : decode cX7_init 134 = .ok (.iastore, 1) := by decide +kernel
theorem dX7_init_135 : decode cX7_init 135 = .ok (.dup, 1) := by decide +kernel
theorem dX7_init_136 : decode cX7_init 136 = .ok (.iconst 3, 1) := by decide +kernel
theorem dX7_init_137 : decode cX7_init 137 = .ok (.iconst (-1), 1) := by decide +kernel
theorem dX7_init_138 : decode cX7_init 138 = .ok (.iastore, 1) := by decide +kernel
theorem dX7_init_139 : decode cX7_init 139 = .ok (.dup, 1) := by decide +kernel
theorem dX7_init_140 : decode cX7_init 140 = .ok (.iconst 4, 1) := by decide +kernel
theorem dX7_init_141 : decode cX7_init 141 = .ok (.iconst (-1), 1) := by decide +kernel
theorem dX7_init_142 : decode cX7_init 142 = .ok (.iastore, 1) := by decide +kernel
theorem dX7_init_143 : decode cX7_init 143 = .ok (.dup, 1) := by decide +kernel
theorem dX7_init_144 : decode cX7_init 144 = .ok (.iconst 5, 1) := by decide +kernel
theorem dX7_init_145 : decode cX7_init 145 = .ok (.iconst (-1), 1) := by decide +kernel
theorem dX7_init_146 : decode cX7_init 146 = .ok (.iastore, 1) := by decide +kernel
theorem dX7_init_147 : decode cX7_init 147 = .ok (.dup, 1) := by decide +kernel
theorem dX7_init_148 : decode cX7_init 148 = .ok (.bipush 6, 2) := by decide +kernel
theorem dX7_init_150 : decode cX7_init 150 = .ok (.iconst (-1), 1) := by decide +kernel
theorem dX7_init_151 : decode cX7_init 151 = .ok (.iastore, 1) := by decide +kernel
theorem dX7_init_152 : decode cX7_init 152 = .ok (.dup, 1) := by decide +kernel
theorem dX7_init_153 : decode cX7_init 153 = .ok (.bipush 7, 2) := by decide +kernel
theorem dX7_init_155 : decode cX7_init 155 = .ok (.iconst (-1), 1) := by decide +kernel
theorem dX7_init_156 : decode cX7_init 156 = .ok (.iastore, 1) := by decide +kernel
theorem dX7_init_157 : decode cX7_init 157 = .ok (.putfield 42, 3) := by decide +kernel
theorem dX7_init_160 : decode cX7_init 160 = .ok (.aload_n 0, 1) := by decide +kernel
theorem dX7_init_161 : decode cX7_init 161 = .ok (.iload_n 1, 1) := by decide +kernel
theorem dX7_init_162 : decode cX7_init 162 = .ok (.iconst 2, 1) := by decide +kernel
theorem dX7_init_163 : decode cX7_init 163 = .ok (.if_icmp .ge 7, 3) := by decide +kernel
theorem dX7_init_166 : decode cX7_init 166 = .ok (.iconst 2, 1) := by decide +kernel
theorem dX7_init_167 : decode cX7_init 167 = .ok (.goto 15, 3) := by decide +kernel
theorem dX7_init_170 : decode cX7_init 170 = .ok (.iload_n 1, 1) := by decide +kernel
theorem dX7_init_171 : decode cX7_init 171 = .ok (.bipush 8, 2) := by decide +kernel
theorem dX7_init_173 : decode cX7_init 173 = .ok (.if_icmp .le 8, 3) := by decide +kernel
theorem dX7_init_176 : decode cX7_init 176 = .ok (.bipush 8, 2) := by decide +kernel
theorem dX7_init_178 : decode cX7_init 178 = .ok (.goto 4, 3) := by decide +kernel
theorem dX7_init_181 : decode cX7_init 181 = .ok (.iload_n 1, 1) := by decide +kernel
theorem dX7_init_182 : decode cX7_init 182 = .ok (.putfield 45, 3) := by decide +kernel
theorem dX7_init_185 : decode cX7_init 185 = .ok (.aload_n 0, 1) := by decide +kernel
theorem dX7_init_186 : decode cX7_init 186 = .ok (.iload_n 2, 1) := by decide +kernel
theorem dX7_init_187 : decode cX7_init 187 = .ok (.iconst 2, 1) := by decide +kernel
theorem dX7_init_188 : decode cX7_init 188 = .ok (.if_icmp .ge 7, 3) := by decide +kernel
theorem dX7_init_191 : decode cX7_init 191 = .ok (.iconst 2, 1) := by decide +kernel
theorem dX7_init_192 : decode cX7_init 192 = .ok (.goto 15, 3) := by decide +kernel
theorem dX7_init_195 : decode cX7_init 195 = .ok (.iload_n 2, 1) := by decide +kernel
theorem dX7_init_196 : decode cX7_init 196 = .ok (.bipush 8, 2) := by decide +kernel
theorem dX7_init_198 : decode cX7_init 198 = .ok (.if_icmp .le 8, 3) := by decide +kernel
theorem dX7_init_201 : decode cX7_init 201 = .ok (.bipush 8, 2) := by decide +kernel
theorem dX7_init_203 : decode cX7_init 203 = .ok (.goto 4, 3) := by decide +kernel
theorem dX7_init_206 : decode cX7_init 206 = .ok (.iload_n 2, 1) := by decide +kernel
theorem dX7_init_207 : decode cX7_init 207 = .ok (.putfield 49, 3) := by decide +kernel
theorem dX7_init_210 : decode cX7_init 210 = .ok (.return_, 1) := by decide +kernel
abbrev rm_X7_init : Room := { frames := 2, cells := 11, slots := 760, locals := 40 }
theorem hw_X7_init_1 : (Cond.methodLink RX7 1 objectInit) ∈ wsX7_init := List.mem_of_getElem? (i := 1) rfl
theorem hw_X7_init_2 : (Cond.instanceMethod objectInit) ∈ wsX7_init := List.mem_of_getElem? (i := 2) rfl
theorem hw_X7_init_3 : (Cond.code objectInit ⟨#[0xb1]⟩ 1 none) ∈ wsX7_init := List.mem_of_getElem? (i := 3) rfl
theorem hw_X7_init_4 : (Cond.arrayClass .double) ∈ wsX7_init := List.mem_of_getElem? (i := 4) rfl
theorem hw_X7_init_5 : (Cond.fieldLink RX7 7 "PlankUnrollModel" "places" "[D") ∈ wsX7_init := List.mem_of_getElem? (i := 5) rfl
theorem hw_X7_init_6 : (Cond.arrayClass .boolean) ∈ wsX7_init := List.mem_of_getElem? (i := 6) rfl
theorem hw_X7_init_7 : (Cond.fieldLink RX7 13 "PlankUnrollModel" "unrolled" "[Z") ∈ wsX7_init := List.mem_of_getElem? (i := 7) rfl
theorem hw_X7_init_8 : (Cond.fieldLink RX7 17 "PlankUnrollModel" "corners" "[D") ∈ wsX7_init := List.mem_of_getElem? (i := 8) rfl
theorem hw_X7_init_9 : (Cond.fieldLink RX7 20 "PlankUnrollModel" "draft" "[D") ∈ wsX7_init := List.mem_of_getElem? (i := 9) rfl
theorem hw_X7_init_10 : (Cond.fieldLink RX7 23 "PlankUnrollModel" "butts" "[Z") ∈ wsX7_init := List.mem_of_getElem? (i := 10) rfl
theorem hw_X7_init_11 : (Cond.fieldLink RX7 26 "PlankUnrollModel" "wides" "[D") ∈ wsX7_init := List.mem_of_getElem? (i := 11) rfl
theorem hw_X7_init_12 : (Cond.fieldLink RX7 29 "PlankUnrollModel" "highs" "[D") ∈ wsX7_init := List.mem_of_getElem? (i := 12) rfl
theorem hw_X7_init_13 : (Cond.arrayClass .int) ∈ wsX7_init := List.mem_of_getElem? (i := 13) rfl
theorem hw_X7_init_14 : (Cond.fieldLink RX7 32 "PlankUnrollModel" "faultCount" "[I") ∈ wsX7_init := List.mem_of_getElem? (i := 14) rfl
theorem hw_X7_init_15 : (Cond.fieldLink RX7 36 "PlankUnrollModel" "faults" "[D") ∈ wsX7_init := List.mem_of_getElem? (i := 15) rfl
theorem hw_X7_init_16 : (Cond.fieldLink RX7 39 "PlankUnrollModel" "liesOn" "[I") ∈ wsX7_init := List.mem_of_getElem? (i := 16) rfl
theorem hw_X7_init_17 : (Cond.fieldLink RX7 42 "PlankUnrollModel" "liesAt" "[I") ∈ wsX7_init := List.mem_of_getElem? (i := 17) rfl
theorem hw_X7_init_18 : (Cond.fieldLink RX7 45 "PlankUnrollModel" "frames" "I") ∈ wsX7_init := List.mem_of_getElem? (i := 18) rfl
theorem hw_X7_init_19 : (Cond.fieldLink RX7 49 "PlankUnrollModel" "rows" "I") ∈ wsX7_init := List.mem_of_getElem? (i := 19) rfl
theorem in_X7_init_X7 : ∀ w ∈ wsX70, w ∈ wsX7_init := by decide +kernel
set_option maxHeartbeats 4000000 in
set_option maxRecDepth 100000 in
/-- a new reference -/
theorem c_X7_init {l : Launch} {G : va_G} {ty : Nat → ClassId} {b0 : Nat} {H : Heap} {m0 : Nat} {f r : Int32} (hm0 : b0 ≤ m0) (hY : xc G m0 (.inr (8, [.int (nI 0), .int (nI 0), .int (nI 0), .null, .null, .null, .null, .null, .int (nI 0), .null, .null, .null, .null, .null, .null, .double FP.dconst0, .double FP.dconst0, .double FP.dconst0])) H) : xMet l yX7_init wsX7_init rm_X7_init G ty b0 [.ref m0, .int (f), .int (r)] H (fun v H1 => v = none ∧ ∃ (A : Nat → Nat) (lo la : Nat → Int32), xRef G ty m0 A (nI 0) (xCl f) (xCl r) (fun _ => FP.dconst0) (fun _ => nI 0) (fun _ => FP.dconst0) (fun _ => FP.dconst0) (fun _ => nI 0) 0 (fun _ => FP.dconst0) (fun _ => FP.dconst0) (fun _ => nI 0) (fun _ => FP.dconst0) lo la FP.dconst0 FP.dconst0 FP.dconst0 H1 ∧ xAp m0 A ∧ xNw b0 m0 A ∧ (∀ i : Nat, H.size ≤ A i) ∧ xOld m0 H H1 ∧ xN8 lo ∧ xN8 la) (fun _ _ => False) := by
  refine xbody (cc := cX7_init) (maxL := 3) (ret := none) (C := RX7) (lv := [(0, .ref m0), (1, .int (f)), (2, .int (r))]) (by decide) rfl rfl (Nat.le_of_ble_eq_true rfl) rfl ?_
  intro p e s m below meth c d0 hx hb hr hts hown hlocks hml hxt hnm0 hK hb0 hH0 hS hd0 ls hl
  have hbH : b0 ≤ H.size := by rw [← hH0]; exact hb0
  have hlm : m0 < H.size := hY.lt
  refine lv_aload_n hx hb dX7_init_0 rfl (lv_at hl 0 rfl) ?_
  refine xobj (s := s.setDrawn d0) hx hb hown hml hl.1 (hts d0 _ hw_X7_init_1) (hts d0 _ hw_X7_init_2) (hts d0 _ hw_X7_init_3) dX7_init_1 (Nat.le_of_ble_eq_true rfl) (Nat.le_of_ble_eq_true rfl) ?_
  refine lv_aload_n hx hb dX7_init_4 rfl (lv_at hl 0 rfl) ?_
  refine lv_sipush (v := nI 192) hx hb dX7_init_5 (by decide) ?_
  refine xnewaD (G := G) (s := s.setDrawn d0) hx hb (hts d0 _ hw_X7_init_4) hK.1 0 rfl hS (by decide) (Nat.le_of_ble_eq_true rfl) (Nat.le_of_ble_eq_true rfl) dX7_init_8 (fun q_1 H_1 hg_1 hS => ?_)
  have e_1 : q_1 = H.size + 0 := hg_1.2.1.symm.trans rfl
  subst e_1
  have hz_1 : H_1.size = H.size + 1 := hg_1.2.2.1
  have hfr_1 : xOld m0 H H_1 := xOld.grow xOld.rf hg_1
  refine xputF (G := G) (ci := 8) (v := .ref (H.size + 0)) (ty := (.array .double)) (C := RX7) (T := TX7) (N := 18) hx hb (hts d0) in_X7_init_X7 tyX7 tyX7_ok nmX7 hown hK.1 (hg_1.keep hY) hS hm0 rfl 3 (by decide) (hts d0 _ hw_X7_init_5) (fun _ h9 => h9) rfl hnm0 rfl (by decide +kernel) rfl rfl (Nat.le_of_ble_eq_true rfl) dX7_init_10 (fun H_2 locs_2 hs_2 hS => ?_)
  have hc_2 : xc G m0 (.inr (8, [.int (nI 0), .int (nI 0), .int (nI 0), .ref (H.size + 0), .null, .null, .null, .null, .int (nI 0), .null, .null, .null, .null, .null, .null, .double FP.dconst0, .double FP.dconst0, .double FP.dconst0])) H_2 := hs_2.1
  have hz_2 : H_2.size = H.size + 1 := hs_2.2.1.trans hz_1
  have hfr_2 : xOld m0 H H_2 := xOld.put hfr_1 hs_2 (Or.inl rfl)
  refine lv_aload_n hx hb dX7_init_13 rfl (lv_at hl 0 rfl) ?_
  refine lv_bipush (v := nI 8) hx hb dX7_init_14 (by decide) ?_
  refine xnewaZ (G := G) (s := s.setDrawn d0) hx hb (hts d0 _ hw_X7_init_6) hK.1 2 rfl hS (by decide) (Nat.le_of_ble_eq_true rfl) (Nat.le_of_ble_eq_true rfl) dX7_init_16 (fun q_3 H_3 hg_3 hS => ?_)
  have e_3 : q_3 = H.size + 1 := hg_3.2.1.symm.trans hz_2
  subst e_3
  have hz_3 : H_3.size = H.size + 2 := hg_3.2.2.1
  have hfr_3 : xOld m0 H H_3 := xOld.grow hfr_2 hg_3
  refine xputF (G := G) (ci := 8) (v := .ref (H.size + 1)) (ty := (.array .boolean)) (C := RX7) (T := TX7) (N := 18) hx hb (hts d0) in_X7_init_X7 tyX7 tyX7_ok nmX7 hown hK.1 (hg_3.keep hc_2) hS hm0 rfl 4 (by decide) (hts d0 _ hw_X7_init_7) (fun _ h9 => h9) rfl hnm0 rfl (by decide +kernel) rfl rfl (Nat.le_of_ble_eq_true rfl) dX7_init_18 (fun H_4 locs_4 hs_4 hS => ?_)
  have hc_4 : xc G m0 (.inr (8, [.int (nI 0), .int (nI 0), .int (nI 0), .ref (H.size + 0), .ref (H.size + 1), .null, .null, .null, .int (nI 0), .null, .null, .null, .null, .null, .null, .double FP.dconst0, .double FP.dconst0, .double FP.dconst0])) H_4 := hs_4.1
  have hz_4 : H_4.size = H.size + 2 := hs_4.2.1.trans hz_3
  have hfr_4 : xOld m0 H H_4 := xOld.put hfr_3 hs_4 (Or.inl rfl)
  refine lv_aload_n hx hb dX7_init_21 rfl (lv_at hl 0 rfl) ?_
  refine lv_sipush (v := nI 256) hx hb dX7_init_22 (by decide) ?_
  refine xnewaD (G := G) (s := s.setDrawn d0) hx hb (hts d0 _ hw_X7_init_4) hK.1 0 rfl hS (by decide) (Nat.le_of_ble_eq_true rfl) (Nat.le_of_ble_eq_true rfl) dX7_init_25 (fun q_5 H_5 hg_5 hS => ?_)
  have e_5 : q_5 = H.size + 2 := hg_5.2.1.symm.trans hz_4
  subst e_5
  have hz_5 : H_5.size = H.size + 3 := hg_5.2.2.1
  have hfr_5 : xOld m0 H H_5 := xOld.grow hfr_4 hg_5
  refine xputF (G := G) (ci := 8) (v := .ref (H.size + 2)) (ty := (.array .double)) (C := RX7) (T := TX7) (N := 18) hx hb (hts d0) in_X7_init_X7 tyX7 tyX7_ok nmX7 hown hK.1 (hg_5.keep hc_4) hS hm0 rfl 5 (by decide) (hts d0 _ hw_X7_init_8) (fun _ h9 => h9) rfl hnm0 rfl (by decide +kernel) rfl rfl (Nat.le_of_ble_eq_true rfl) dX7_init_27 (fun H_6 locs_6 hs_6 hS => ?_)
  have hc_6 : xc G m0 (.inr (8, [.int (nI 0), .int (nI 0), .int (nI 0), .ref (H.size + 0), .ref (H.size + 1), .ref (H.size + 2), .null, .null, .int (nI 0), .null, .null, .null, .null, .null, .null, .double FP.dconst0, .double FP.dconst0, .double FP.dconst0])) H_6 := hs_6.1
  have hz_6 : H_6.size = H.size + 3 := hs_6.2.1.trans hz_5
  have hfr_6 : xOld m0 H H_6 := xOld.put hfr_5 hs_6 (Or.inl rfl)
  refine lv_aload_n hx hb dX7_init_30 rfl (lv_at hl 0 rfl) ?_
  refine lv_bipush (v := nI 32) hx hb dX7_init_31 (by decide) ?_
  refine xnewaD (G := G) (s := s.setDrawn d0) hx hb (hts d0 _ hw_X7_init_4) hK.1 0 rfl hS (by decide) (Nat.le_of_ble_eq_true rfl) (Nat.le_of_ble_eq_true rfl) dX7_init_33 (fun q_7 H_7 hg_7 hS => ?_)
  have e_7 : q_7 = H.size + 3 := hg_7.2.1.symm.trans hz_6
  subst e_7
  have hz_7 : H_7.size = H.size + 4 := hg_7.2.2.1
  have hfr_7 : xOld m0 H H_7 := xOld.grow hfr_6 hg_7
  refine xputF (G := G) (ci := 8) (v := .ref (H.size + 3)) (ty := (.array .double)) (C := RX7) (T := TX7) (N := 18) hx hb (hts d0) in_X7_init_X7 tyX7 tyX7_ok nmX7 hown hK.1 (hg_7.keep hc_6) hS hm0 rfl 6 (by decide) (hts d0 _ hw_X7_init_9) (fun _ h9 => h9) rfl hnm0 rfl (by decide +kernel) rfl rfl (Nat.le_of_ble_eq_true rfl) dX7_init_35 (fun H_8 locs_8 hs_8 hS => ?_)
  have hc_8 : xc G m0 (.inr (8, [.int (nI 0), .int (nI 0), .int (nI 0), .ref (H.size + 0), .ref (H.size + 1), .ref (H.size + 2), .ref (H.size + 3), .null, .int (nI 0), .null, .null, .null, .null, .null, .null, .double FP.dconst0, .double FP.dconst0, .double FP.dconst0])) H_8 := hs_8.1
  have hz_8 : H_8.size = H.size + 4 := hs_8.2.1.trans hz_7
  have hfr_8 : xOld m0 H H_8 := xOld.put hfr_7 hs_8 (Or.inl rfl)
  refine lv_aload_n hx hb dX7_init_38 rfl (lv_at hl 0 rfl) ?_
  refine lv_bipush (v := nI 64) hx hb dX7_init_39 (by decide) ?_
  refine xnewaZ (G := G) (s := s.setDrawn d0) hx hb (hts d0 _ hw_X7_init_6) hK.1 2 rfl hS (by decide) (Nat.le_of_ble_eq_true rfl) (Nat.le_of_ble_eq_true rfl) dX7_init_41 (fun q_9 H_9 hg_9 hS => ?_)
  have e_9 : q_9 = H.size + 4 := hg_9.2.1.symm.trans hz_8
  subst e_9
  have hz_9 : H_9.size = H.size + 5 := hg_9.2.2.1
  have hfr_9 : xOld m0 H H_9 := xOld.grow hfr_8 hg_9
  refine xputF (G := G) (ci := 8) (v := .ref (H.size + 4)) (ty := (.array .boolean)) (C := RX7) (T := TX7) (N := 18) hx hb (hts d0) in_X7_init_X7 tyX7 tyX7_ok nmX7 hown hK.1 (hg_9.keep hc_8) hS hm0 rfl 7 (by decide) (hts d0 _ hw_X7_init_10) (fun _ h9 => h9) rfl hnm0 rfl (by decide +kernel) rfl rfl (Nat.le_of_ble_eq_true rfl) dX7_init_43 (fun H_10 locs_10 hs_10 hS => ?_)
  have hc_10 : xc G m0 (.inr (8, [.int (nI 0), .int (nI 0), .int (nI 0), .ref (H.size + 0), .ref (H.size + 1), .ref (H.size + 2), .ref (H.size + 3), .ref (H.size + 4), .int (nI 0), .null, .null, .null, .null, .null, .null, .double FP.dconst0, .double FP.dconst0, .double FP.dconst0])) H_10 := hs_10.1
  have hz_10 : H_10.size = H.size + 5 := hs_10.2.1.trans hz_9
  have hfr_10 : xOld m0 H H_10 := xOld.put hfr_9 hs_10 (Or.inl rfl)
  refine lv_aload_n hx hb dX7_init_46 rfl (lv_at hl 0 rfl) ?_
  refine lv_iconst (v := nI 4) hx hb dX7_init_47 (by decide) ?_
  refine xnewaD (G := G) (s := s.setDrawn d0) hx hb (hts d0 _ hw_X7_init_4) hK.1 0 rfl hS (by decide) (Nat.le_of_ble_eq_true rfl) (Nat.le_of_ble_eq_true rfl) dX7_init_48 (fun q_11 H_11 hg_11 hS => ?_)
  have e_11 : q_11 = H.size + 5 := hg_11.2.1.symm.trans hz_10
  subst e_11
  have hz_11 : H_11.size = H.size + 6 := hg_11.2.2.1
  have hfr_11 : xOld m0 H H_11 := xOld.grow hfr_10 hg_11
  refine xputF (G := G) (ci := 8) (v := .ref (H.size + 5)) (ty := (.array .double)) (C := RX7) (T := TX7) (N := 18) hx hb (hts d0) in_X7_init_X7 tyX7 tyX7_ok nmX7 hown hK.1 (hg_11.keep hc_10) hS hm0 rfl 9 (by decide) (hts d0 _ hw_X7_init_11) (fun _ h9 => h9) rfl hnm0 rfl (by decide +kernel) rfl rfl (Nat.le_of_ble_eq_true rfl) dX7_init_50 (fun H_12 locs_12 hs_12 hS => ?_)
  have hc_12 : xc G m0 (.inr (8, [.int (nI 0), .int (nI 0), .int (nI 0), .ref (H.size + 0), .ref (H.size + 1), .ref (H.size + 2), .ref (H.size + 3), .ref (H.size + 4), .int (nI 0), .ref (H.size + 5), .null, .null, .null, .null, .null, .double FP.dconst0, .double FP.dconst0, .double FP.dconst0])) H_12 := hs_12.1
  have hz_12 : H_12.size = H.size + 6 := hs_12.2.1.trans hz_11
  have hfr_12 : xOld m0 H H_12 := xOld.put hfr_11 hs_12 (Or.inl rfl)
  refine lv_aload_n hx hb dX7_init_53 rfl (lv_at hl 0 rfl) ?_
  refine lv_iconst (v := nI 4) hx hb dX7_init_54 (by decide) ?_
  refine xnewaD (G := G) (s := s.setDrawn d0) hx hb (hts d0 _ hw_X7_init_4) hK.1 0 rfl hS (by decide) (Nat.le_of_ble_eq_true rfl) (Nat.le_of_ble_eq_true rfl) dX7_init_55 (fun q_13 H_13 hg_13 hS => ?_)
  have e_13 : q_13 = H.size + 6 := hg_13.2.1.symm.trans hz_12
  subst e_13
  have hz_13 : H_13.size = H.size + 7 := hg_13.2.2.1
  have hfr_13 : xOld m0 H H_13 := xOld.grow hfr_12 hg_13
  refine xputF (G := G) (ci := 8) (v := .ref (H.size + 6)) (ty := (.array .double)) (C := RX7) (T := TX7) (N := 18) hx hb (hts d0) in_X7_init_X7 tyX7 tyX7_ok nmX7 hown hK.1 (hg_13.keep hc_12) hS hm0 rfl 10 (by decide) (hts d0 _ hw_X7_init_12) (fun _ h9 => h9) rfl hnm0 rfl (by decide +kernel) rfl rfl (Nat.le_of_ble_eq_true rfl) dX7_init_57 (fun H_14 locs_14 hs_14 hS => ?_)
  have hc_14 : xc G m0 (.inr (8, [.int (nI 0), .int (nI 0), .int (nI 0), .ref (H.size + 0), .ref (H.size + 1), .ref (H.size + 2), .ref (H.size + 3), .ref (H.size + 4), .int (nI 0), .ref (H.size + 5), .ref (H.size + 6), .null, .null, .null, .null, .double FP.dconst0, .double FP.dconst0, .double FP.dconst0])) H_14 := hs_14.1
  have hz_14 : H_14.size = H.size + 7 := hs_14.2.1.trans hz_13
  have hfr_14 : xOld m0 H H_14 := xOld.put hfr_13 hs_14 (Or.inl rfl)
  refine lv_aload_n hx hb dX7_init_60 rfl (lv_at hl 0 rfl) ?_
  refine lv_iconst (v := nI 4) hx hb dX7_init_61 (by decide) ?_
  refine xnewaI (G := G) (s := s.setDrawn d0) hx hb (hts d0 _ hw_X7_init_13) hK.1 1 rfl hS (by decide) (Nat.le_of_ble_eq_true rfl) (Nat.le_of_ble_eq_true rfl) dX7_init_62 (fun q_15 H_15 hg_15 hS => ?_)
  have e_15 : q_15 = H.size + 7 := hg_15.2.1.symm.trans hz_14
  subst e_15
  have hz_15 : H_15.size = H.size + 8 := hg_15.2.2.1
  have hfr_15 : xOld m0 H H_15 := xOld.grow hfr_14 hg_15
  refine xputF (G := G) (ci := 8) (v := .ref (H.size + 7)) (ty := (.array .int)) (C := RX7) (T := TX7) (N := 18) hx hb (hts d0) in_X7_init_X7 tyX7 tyX7_ok nmX7 hown hK.1 (hg_15.keep hc_14) hS hm0 rfl 11 (by decide) (hts d0 _ hw_X7_init_14) (fun _ h9 => h9) rfl hnm0 rfl (by decide +kernel) rfl rfl (Nat.le_of_ble_eq_true rfl) dX7_init_64 (fun H_16 locs_16 hs_16 hS => ?_)
  have hc_16 : xc G m0 (.inr (8, [.int (nI 0), .int (nI 0), .int (nI 0), .ref (H.size + 0), .ref (H.size + 1), .ref (H.size + 2), .ref (H.size + 3), .ref (H.size + 4), .int (nI 0), .ref (H.size + 5), .ref (H.size + 6), .ref (H.size + 7), .null, .null, .null, .double FP.dconst0, .double FP.dconst0, .double FP.dconst0])) H_16 := hs_16.1
  have hz_16 : H_16.size = H.size + 8 := hs_16.2.1.trans hz_15
  have hfr_16 : xOld m0 H H_16 := xOld.put hfr_15 hs_16 (Or.inl rfl)
  refine lv_aload_n hx hb dX7_init_67 rfl (lv_at hl 0 rfl) ?_
  refine lv_sipush (v := nI 128) hx hb dX7_init_68 (by decide) ?_
  refine xnewaD (G := G) (s := s.setDrawn d0) hx hb (hts d0 _ hw_X7_init_4) hK.1 0 rfl hS (by decide) (Nat.le_of_ble_eq_true rfl) (Nat.le_of_ble_eq_true rfl) dX7_init_71 (fun q_17 H_17 hg_17 hS => ?_)
  have e_17 : q_17 = H.size + 8 := hg_17.2.1.symm.trans hz_16
  subst e_17
  have hz_17 : H_17.size = H.size + 9 := hg_17.2.2.1
  have hfr_17 : xOld m0 H H_17 := xOld.grow hfr_16 hg_17
  refine xputF (G := G) (ci := 8) (v := .ref (H.size + 8)) (ty := (.array .double)) (C := RX7) (T := TX7) (N := 18) hx hb (hts d0) in_X7_init_X7 tyX7 tyX7_ok nmX7 hown hK.1 (hg_17.keep hc_16) hS hm0 rfl 12 (by decide) (hts d0 _ hw_X7_init_15) (fun _ h9 => h9) rfl hnm0 rfl (by decide +kernel) rfl rfl (Nat.le_of_ble_eq_true rfl) dX7_init_73 (fun H_18 locs_18 hs_18 hS => ?_)
  have hc_18 : xc G m0 (.inr (8, [.int (nI 0), .int (nI 0), .int (nI 0), .ref (H.size + 0), .ref (H.size + 1), .ref (H.size + 2), .ref (H.size + 3), .ref (H.size + 4), .int (nI 0), .ref (H.size + 5), .ref (H.size + 6), .ref (H.size + 7), .ref (H.size + 8), .null, .null, .double FP.dconst0, .double FP.dconst0, .double FP.dconst0])) H_18 := hs_18.1
  have hz_18 : H_18.size = H.size + 9 := hs_18.2.1.trans hz_17
  have hfr_18 : xOld m0 H H_18 := xOld.put hfr_17 hs_18 (Or.inl rfl)
  refine lv_aload_n hx hb dX7_init_76 rfl (lv_at hl 0 rfl) ?_
  refine lv_bipush (v := nI 8) hx hb dX7_init_77 (by decide) ?_
  refine xnewaI (G := G) (s := s.setDrawn d0) hx hb (hts d0 _ hw_X7_init_13) hK.1 1 rfl hS (by decide) (Nat.le_of_ble_eq_true rfl) (Nat.le_of_ble_eq_true rfl) dX7_init_79 (fun q_19 H_19 hg_19 hS => ?_)
  have e_19 : q_19 = H.size + 9 := hg_19.2.1.symm.trans hz_18
  subst e_19
  have hz_19 : H_19.size = H.size + 10 := hg_19.2.2.1
  have hfr_19 : xOld m0 H H_19 := xOld.grow hfr_18 hg_19
  refine lv_dup hx hb dX7_init_81 rfl ?_
  refine lv_iconst (v := nI 0) hx hb dX7_init_82 (by decide) ?_
  refine lv_iconst (v := (-1)) hx hb dX7_init_83 (by decide) ?_
  refine xiastN (s := s.setDrawn d0) (j := 0) (x := (-1)) hx hb hK.1 1 hg_19.1 hS (Nat.le_trans hbH (Nat.le_add_right _ _)) rfl (xix_of (by omega) (by omega)) dX7_init_84 (fun H_20 locs_20 hs_20 hS => ?_)
  have hc_20 : xc G (H.size + 9) (.inl (ty 1, 8, .inl ((upd (fun _ => nI 0) 0 (-1))))) H_20 := hs_20.1
  have hz_20 : H_20.size = H.size + 10 := hs_20.2.1.trans hz_19
  have hfr_20 : xOld m0 H H_20 := xOld.put hfr_19 hs_20 (Or.inr (Nat.le_add_right _ _))
  refine lv_dup hx hb dX7_init_85 rfl ?_
  refine lv_iconst (v := nI 1) hx hb dX7_init_86 (by decide) ?_
  refine lv_iconst (v := (-1)) hx hb dX7_init_87 (by decide) ?_
  refine xiastN (s := s.setDrawn d0) (j := 1) (x := (-1)) hx hb hK.1 1 hc_20 hS (Nat.le_trans hbH (Nat.le_add_right _ _)) rfl (xix_of (by omega) (by omega)) dX7_init_88 (fun H_21 locs_21 hs_21 hS => ?_)
  have hc_21 : xc G (H.size + 9) (.inl (ty 1, 8, .inl ((upd (upd (fun _ => nI 0) 0 (-1)) 1 (-1))))) H_21 := hs_21.1
  have hz_21 : H_21.size = H.size + 10 := hs_21.2.1.trans hz_20
  have hfr_21 : xOld m0 H H_21 := xOld.put hfr_20 hs_21 (Or.inr (Nat.le_add_right _ _))
  refine lv_dup hx hb dX7_init_89 rfl ?_
  refine lv_iconst (v := nI 2) hx hb dX7_init_90 (by decide) ?_
  refine lv_iconst (v := (-1)) hx hb dX7_init_91 (by decide) ?_
  refine xiastN (s := s.setDrawn d0) (j := 2) (x := (-1)) hx hb hK.1 1 hc_21 hS (Nat.le_trans hbH (Nat.le_add_right _ _)) rfl (xix_of (by omega) (by omega)) dX7_init_92 (fun H_22 locs_22 hs_22 hS => ?_)
  have hc_22 : xc G (H.size + 9) (.inl (ty 1, 8, .inl ((upd (upd (upd (fun _ => nI 0) 0 (-1)) 1 (-1)) 2 (-1))))) H_22 := hs_22.1
  have hz_22 : H_22.size = H.size + 10 := hs_22.2.1.trans hz_21
  have hfr_22 : xOld m0 H H_22 := xOld.put hfr_21 hs_22 (Or.inr (Nat.le_add_right _ _))
  refine lv_dup hx hb dX7_init_93 rfl ?_
  refine lv_iconst (v := nI 3) hx hb dX7_init_94 (by decide) ?_
  refine lv_iconst (v := (-1)) hx hb dX7_init_95 (by decide) ?_
  refine xiastN (s := s.setDrawn d0) (j := 3) (x := (-1)) hx hb hK.1 1 hc_22 hS (Nat.le_trans hbH (Nat.le_add_right _ _)) rfl (xix_of (by omega) (by omega)) dX7_init_96 (fun H_23 locs_23 hs_23 hS => ?_)
  have hc_23 : xc G (H.size + 9) (.inl (ty 1, 8, .inl ((upd (upd (upd (upd (fun _ => nI 0) 0 (-1)) 1 (-1)) 2 (-1)) 3 (-1))))) H_23 := hs_23.1
  have hz_23 : H_23.size = H.size + 10 := hs_23.2.1.trans hz_22
  have hfr_23 : xOld m0 H H_23 := xOld.put hfr_22 hs_23 (Or.inr (Nat.le_add_right _ _))
  refine lv_dup hx hb dX7_init_97 rfl ?_
  refine lv_iconst (v := nI 4) hx hb dX7_init_98 (by decide) ?_
  refine lv_iconst (v := (-1)) hx hb dX7_init_99 (by decide) ?_
  refine xiastN (s := s.setDrawn d0) (j := 4) (x := (-1)) hx hb hK.1 1 hc_23 hS (Nat.le_trans hbH (Nat.le_add_right _ _)) rfl (xix_of (by omega) (by omega)) dX7_init_100 (fun H_24 locs_24 hs_24 hS => ?_)
  have hc_24 : xc G (H.size + 9) (.inl (ty 1, 8, .inl ((upd (upd (upd (upd (upd (fun _ => nI 0) 0 (-1)) 1 (-1)) 2 (-1)) 3 (-1)) 4 (-1))))) H_24 := hs_24.1
  have hz_24 : H_24.size = H.size + 10 := hs_24.2.1.trans hz_23
  have hfr_24 : xOld m0 H H_24 := xOld.put hfr_23 hs_24 (Or.inr (Nat.le_add_right _ _))
  refine lv_dup hx hb dX7_init_101 rfl ?_
  refine lv_iconst (v := nI 5) hx hb dX7_init_102 (by decide) ?_
  refine lv_iconst (v := (-1)) hx hb dX7_init_103 (by decide) ?_
  refine xiastN (s := s.setDrawn d0) (j := 5) (x := (-1)) hx hb hK.1 1 hc_24 hS (Nat.le_trans hbH (Nat.le_add_right _ _)) rfl (xix_of (by omega) (by omega)) dX7_init_104 (fun H_25 locs_25 hs_25 hS => ?_)
  have hc_25 : xc G (H.size + 9) (.inl (ty 1, 8, .inl ((upd (upd (upd (upd (upd (upd (fun _ => nI 0) 0 (-1)) 1 (-1)) 2 (-1)) 3 (-1)) 4 (-1)) 5 (-1))))) H_25 := hs_25.1
  have hz_25 : H_25.size = H.size + 10 := hs_25.2.1.trans hz_24
  have hfr_25 : xOld m0 H H_25 := xOld.put hfr_24 hs_25 (Or.inr (Nat.le_add_right _ _))
  refine lv_dup hx hb dX7_init_105 rfl ?_
  refine lv_bipush (v := nI 6) hx hb dX7_init_106 (by decide) ?_
  refine lv_iconst (v := (-1)) hx hb dX7_init_108 (by decide) ?_
  refine xiastN (s := s.setDrawn d0) (j := 6) (x := (-1)) hx hb hK.1 1 hc_25 hS (Nat.le_trans hbH (Nat.le_add_right _ _)) rfl (xix_of (by omega) (by omega)) dX7_init_109 (fun H_26 locs_26 hs_26 hS => ?_)
  have hc_26 : xc G (H.size + 9) (.inl (ty 1, 8, .inl ((upd (upd (upd (upd (upd (upd (upd (fun _ => nI 0) 0 (-1)) 1 (-1)) 2 (-1)) 3 (-1)) 4 (-1)) 5 (-1)) 6 (-1))))) H_26 := hs_26.1
  have hz_26 : H_26.size = H.size + 10 := hs_26.2.1.trans hz_25
  have hfr_26 : xOld m0 H H_26 := xOld.put hfr_25 hs_26 (Or.inr (Nat.le_add_right _ _))
  refine lv_dup hx hb dX7_init_110 rfl ?_
  refine lv_bipush (v := nI 7) hx hb dX7_init_111 (by decide) ?_
  refine lv_iconst (v := (-1)) hx hb dX7_init_113 (by decide) ?_
  refine xiastN (s := s.setDrawn d0) (j := 7) (x := (-1)) hx hb hK.1 1 hc_26 hS (Nat.le_trans hbH (Nat.le_add_right _ _)) rfl (xix_of (by omega) (by omega)) dX7_init_114 (fun H_27 locs_27 hs_27 hS => ?_)
  have hc_27 : xc G (H.size + 9) (.inl (ty 1, 8, .inl ((upd (upd (upd (upd (upd (upd (upd (upd (fun _ => nI 0) 0 (-1)) 1 (-1)) 2 (-1)) 3 (-1)) 4 (-1)) 5 (-1)) 6 (-1)) 7 (-1))))) H_27 := hs_27.1
  have hz_27 : H_27.size = H.size + 10 := hs_27.2.1.trans hz_26
  have hfr_27 : xOld m0 H H_27 := xOld.put hfr_26 hs_27 (Or.inr (Nat.le_add_right _ _))
  refine xputF (G := G) (ci := 8) (v := .ref (H.size + 9)) (ty := (.array .int)) (C := RX7) (T := TX7) (N := 18) hx hb (hts d0) in_X7_init_X7 tyX7 tyX7_ok nmX7 hown hK.1 (((((((((hg_19.keep hc_18).kept (hs_20.2.2 _ (Nat.ne_of_lt (Nat.lt_add_right 9 hlm)))).kept (hs_21.2.2 _ (Nat.ne_of_lt (Nat.lt_add_right 9 hlm)))).kept (hs_22.2.2 _ (Nat.ne_of_lt (Nat.lt_add_right 9 hlm)))).kept (hs_23.2.2 _ (Nat.ne_of_lt (Nat.lt_add_right 9 hlm)))).kept (hs_24.2.2 _ (Nat.ne_of_lt (Nat.lt_add_right 9 hlm)))).kept (hs_25.2.2 _ (Nat.ne_of_lt (Nat.lt_add_right 9 hlm)))).kept (hs_26.2.2 _ (Nat.ne_of_lt (Nat.lt_add_right 9 hlm)))).kept (hs_27.2.2 _ (Nat.ne_of_lt (Nat.lt_add_right 9 hlm)))) hS hm0 rfl 13 (by decide) (hts d0 _ hw_X7_init_16) (fun _ h9 => h9) rfl hnm0 rfl (by decide +kernel) rfl rfl (Nat.le_of_ble_eq_true rfl) dX7_init_115 (fun H_28 locs_28 hs_28 hS => ?_)
  have hc_28 : xc G m0 (.inr (8, [.int (nI 0), .int (nI 0), .int (nI 0), .ref (H.size + 0), .ref (H.size + 1), .ref (H.size + 2), .ref (H.size + 3), .ref (H.size + 4), .int (nI 0), .ref (H.size + 5), .ref (H.size + 6), .ref (H.size + 7), .ref (H.size + 8), .ref (H.size + 9), .null, .double FP.dconst0, .double FP.dconst0, .double FP.dconst0])) H_28 := hs_28.1
  have hz_28 : H_28.size = H.size + 10 := hs_28.2.1.trans hz_27
  have hfr_28 : xOld m0 H H_28 := xOld.put hfr_27 hs_28 (Or.inl rfl)
  refine lv_aload_n hx hb dX7_init_118 rfl (lv_at hl 0 rfl) ?_
  refine lv_bipush (v := nI 8) hx hb dX7_init_119 (by decide) ?_
  refine xnewaI (G := G) (s := s.setDrawn d0) hx hb (hts d0 _ hw_X7_init_13) hK.1 1 rfl hS (by decide) (Nat.le_of_ble_eq_true rfl) (Nat.le_of_ble_eq_true rfl) dX7_init_121 (fun q_29 H_29 hg_29 hS => ?_)
  have e_29 : q_29 = H.size + 10 := hg_29.2.1.symm.trans hz_28
  subst e_29
  have hz_29 : H_29.size = H.size + 11 := hg_29.2.2.1
  have hfr_29 : xOld m0 H H_29 := xOld.grow hfr_28 hg_29
  refine lv_dup hx hb dX7_init_123 rfl ?_
  refine lv_iconst (v := nI 0) hx hb dX7_init_124 (by decide) ?_
  refine lv_iconst (v := (-1)) hx hb dX7_init_125 (by decide) ?_
  refine xiastN (s := s.setDrawn d0) (j := 0) (x := (-1)) hx hb hK.1 1 hg_29.1 hS (Nat.le_trans hbH (Nat.le_add_right _ _)) rfl (xix_of (by omega) (by omega)) dX7_init_126 (fun H_30 locs_30 hs_30 hS => ?_)
  have hc_30 : xc G (H.size + 10) (.inl (ty 1, 8, .inl ((upd (fun _ => nI 0) 0 (-1))))) H_30 := hs_30.1
  have hz_30 : H_30.size = H.size + 11 := hs_30.2.1.trans hz_29
  have hfr_30 : xOld m0 H H_30 := xOld.put hfr_29 hs_30 (Or.inr (Nat.le_add_right _ _))
  refine lv_dup hx hb dX7_init_127 rfl ?_
  refine lv_iconst (v := nI 1) hx hb dX7_init_128 (by decide) ?_
  refine lv_iconst (v := (-1)) hx hb dX7_init_129 (by decide) ?_
  refine xiastN (s := s.setDrawn d0) (j := 1) (x := (-1)) hx hb hK.1 1 hc_30 hS (Nat.le_trans hbH (Nat.le_add_right _ _)) rfl (xix_of (by omega) (by omega)) dX7_init_130 (fun H_31 locs_31 hs_31 hS => ?_)
  have hc_31 : xc G (H.size + 10) (.inl (ty 1, 8, .inl ((upd (upd (fun _ => nI 0) 0 (-1)) 1 (-1))))) H_31 := hs_31.1
  have hz_31 : H_31.size = H.size + 11 := hs_31.2.1.trans hz_30
  have hfr_31 : xOld m0 H H_31 := xOld.put hfr_30 hs_31 (Or.inr (Nat.le_add_right _ _))
  refine lv_dup hx hb dX7_init_131 rfl ?_
  refine lv_iconst (v := nI 2) hx hb dX7_init_132 (by decide) ?_
  refine lv_iconst (v := (-1)) hx hb dX7_init_133 (by decide) ?_
  refine xiastN (s := s.setDrawn d0) (j := 2) (x := (-1)) hx hb hK.1 1 hc_31 hS (Nat.le_trans hbH (Nat.le_add_right _ _)) rfl (xix_of (by omega) (by omega)) dX7_init_134 (fun H_32 locs_32 hs_32 hS => ?_)
  have hc_32 : xc G (H.size + 10) (.inl (ty 1, 8, .inl ((upd (upd (upd (fun _ => nI 0) 0 (-1)) 1 (-1)) 2 (-1))))) H_32 := hs_32.1
  have hz_32 : H_32.size = H.size + 11 := hs_32.2.1.trans hz_31
  have hfr_32 : xOld m0 H H_32 := xOld.put hfr_31 hs_32 (Or.inr (Nat.le_add_right _ _))
  refine lv_dup hx hb dX7_init_135 rfl ?_
  refine lv_iconst (v := nI 3) hx hb dX7_init_136 (by decide) ?_
  refine lv_iconst (v := (-1)) hx hb dX7_init_137 (by decide) ?_
  refine xiastN (s := s.setDrawn d0) (j := 3) (x := (-1)) hx hb hK.1 1 hc_32 hS (Nat.le_trans hbH (Nat.le_add_right _ _)) rfl (xix_of (by omega) (by omega)) dX7_init_138 (fun H_33 locs_33 hs_33 hS => ?_)
  have hc_33 : xc G (H.size + 10) (.inl (ty 1, 8, .inl ((upd (upd (upd (upd (fun _ => nI 0) 0 (-1)) 1 (-1)) 2 (-1)) 3 (-1))))) H_33 := hs_33.1
  have hz_33 : H_33.size = H.size + 11 := hs_33.2.1.trans hz_32
  have hfr_33 : xOld m0 H H_33 := xOld.put hfr_32 hs_33 (Or.inr (Nat.le_add_right _ _))
  refine lv_dup hx hb dX7_init_139 rfl ?_
  refine lv_iconst (v := nI 4) hx hb dX7_init_140 (by decide) ?_
  refine lv_iconst (v := (-1)) hx hb dX7_init_141 (by decide) ?_
  refine xiastN (s := s.setDrawn d0) (j := 4) (x := (-1)) hx hb hK.1 1 hc_33 hS (Nat.le_trans hbH (Nat.le_add_right _ _)) rfl (xix_of (by omega) (by omega)) dX7_init_142 (fun H_34 locs_34 hs_34 hS => ?_)
  have hc_34 : xc G (H.size + 10) (.inl (ty 1, 8, .inl ((upd (upd (upd (upd (upd (fun _ => nI 0) 0 (-1)) 1 (-1)) 2 (-1)) 3 (-1)) 4 (-1))))) H_34 := hs_34.1
  have hz_34 : H_34.size = H.size + 11 := hs_34.2.1.trans hz_33
  have hfr_34 : xOld m0 H H_34 := xOld.put hfr_33 hs_34 (Or.inr (Nat.le_add_right _ _))
  refine lv_dup hx hb dX7_init_143 rfl ?_
  refine lv_iconst (v := nI 5) hx hb dX7_init_144 (by decide) ?_
  refine lv_iconst (v := (-1)) hx hb dX7_init_145 (by decide) ?_
  refine xiastN (s := s.setDrawn d0) (j := 5) (x := (-1)) hx hb hK.1 1 hc_34 hS (Nat.le_trans hbH (Nat.le_add_right _ _)) rfl (xix_of (by omega) (by omega)) dX7_init_146 (fun H_35 locs_35 hs_35 hS => ?_)
  have hc_35 : xc G (H.size + 10) (.inl (ty 1, 8, .inl ((upd (upd (upd (upd (upd (upd (fun _ => nI 0) 0 (-1)) 1 (-1)) 2 (-1)) 3 (-1)) 4 (-1)) 5 (-1))))) H_35 := hs_35.1
  have hz_35 : H_35.size = H.size + 11 := hs_35.2.1.trans hz_34
  have hfr_35 : xOld m0 H H_35 := xOld.put hfr_34 hs_35 (Or.inr (Nat.le_add_right _ _))
  refine lv_dup hx hb dX7_init_147 rfl ?_
  refine lv_bipush (v := nI 6) hx hb dX7_init_148 (by decide) ?_
  refine lv_iconst (v := (-1)) hx hb dX7_init_150 (by decide) ?_
  refine xiastN (s := s.setDrawn d0) (j := 6) (x := (-1)) hx hb hK.1 1 hc_35 hS (Nat.le_trans hbH (Nat.le_add_right _ _)) rfl (xix_of (by omega) (by omega)) dX7_init_151 (fun H_36 locs_36 hs_36 hS => ?_)
  have hc_36 : xc G (H.size + 10) (.inl (ty 1, 8, .inl ((upd (upd (upd (upd (upd (upd (upd (fun _ => nI 0) 0 (-1)) 1 (-1)) 2 (-1)) 3 (-1)) 4 (-1)) 5 (-1)) 6 (-1))))) H_36 := hs_36.1
  have hz_36 : H_36.size = H.size + 11 := hs_36.2.1.trans hz_35
  have hfr_36 : xOld m0 H H_36 := xOld.put hfr_35 hs_36 (Or.inr (Nat.le_add_right _ _))
  refine lv_dup hx hb dX7_init_152 rfl ?_
  refine lv_bipush (v := nI 7) hx hb dX7_init_153 (by decide) ?_
  refine lv_iconst (v := (-1)) hx hb dX7_init_155 (by decide) ?_
  refine xiastN (s := s.setDrawn d0) (j := 7) (x := (-1)) hx hb hK.1 1 hc_36 hS (Nat.le_trans hbH (Nat.le_add_right _ _)) rfl (xix_of (by omega) (by omega)) dX7_init_156 (fun H_37 locs_37 hs_37 hS => ?_)
  have hc_37 : xc G (H.size + 10) (.inl (ty 1, 8, .inl ((upd (upd (upd (upd (upd (upd (upd (upd (fun _ => nI 0) 0 (-1)) 1 (-1)) 2 (-1)) 3 (-1)) 4 (-1)) 5 (-1)) 6 (-1)) 7 (-1))))) H_37 := hs_37.1
  have hz_37 : H_37.size = H.size + 11 := hs_37.2.1.trans hz_36
  have hfr_37 : xOld m0 H H_37 := xOld.put hfr_36 hs_37 (Or.inr (Nat.le_add_right _ _))
  refine xputF (G := G) (ci := 8) (v := .ref (H.size + 10)) (ty := (.array .int)) (C := RX7) (T := TX7) (N := 18) hx hb (hts d0) in_X7_init_X7 tyX7 tyX7_ok nmX7 hown hK.1 (((((((((hg_29.keep hc_28).kept (hs_30.2.2 _ (Nat.ne_of_lt (Nat.lt_add_right 10 hlm)))).kept (hs_31.2.2 _ (Nat.ne_of_lt (Nat.lt_add_right 10 hlm)))).kept (hs_32.2.2 _ (Nat.ne_of_lt (Nat.lt_add_right 10 hlm)))).kept (hs_33.2.2 _ (Nat.ne_of_lt (Nat.lt_add_right 10 hlm)))).kept (hs_34.2.2 _ (Nat.ne_of_lt (Nat.lt_add_right 10 hlm)))).kept (hs_35.2.2 _ (Nat.ne_of_lt (Nat.lt_add_right 10 hlm)))).kept (hs_36.2.2 _ (Nat.ne_of_lt (Nat.lt_add_right 10 hlm)))).kept (hs_37.2.2 _ (Nat.ne_of_lt (Nat.lt_add_right 10 hlm)))) hS hm0 rfl 14 (by decide) (hts d0 _ hw_X7_init_17) (fun _ h9 => h9) rfl hnm0 rfl (by decide +kernel) rfl rfl (Nat.le_of_ble_eq_true rfl) dX7_init_157 (fun H_38 locs_38 hs_38 hS => ?_)
  have hc_38 : xc G m0 (.inr (8, [.int (nI 0), .int (nI 0), .int (nI 0), .ref (H.size + 0), .ref (H.size + 1), .ref (H.size + 2), .ref (H.size + 3), .ref (H.size + 4), .int (nI 0), .ref (H.size + 5), .ref (H.size + 6), .ref (H.size + 7), .ref (H.size + 8), .ref (H.size + 9), .ref (H.size + 10), .double FP.dconst0, .double FP.dconst0, .double FP.dconst0])) H_38 := hs_38.1
  have hz_38 : H_38.size = H.size + 11 := hs_38.2.1.trans hz_37
  have hfr_38 : xOld m0 H H_38 := xOld.put hfr_37 hs_38 (Or.inl rfl)
  refine lv_aload_n hx hb dX7_init_160 rfl (lv_at hl 0 rfl) ?_
  have J_39 : ∀ (jy : Int32) (locs : List Loc) (d0 : Drawn) (ls : Array Slot), jy = nI ((xCl f)) → va_S (xA b0) s.heap H_38 locs → s.drawn.sameBut d0 lw_cs → lv_has ls 3 [(0, .ref m0), (1, .int (f)), (2, .int (r))] → W p l e rm_X7_init (s.setDrawn d0) m [Value.ref m0, Value.int (f), Value.int (r)].toArray below meth c H_38 locs (0 + 1 + 1 + 1 + 1 + 1 + 1 + 1 + 1 + 1 + 1 + 1) (0 + 192 + 8 + 256 + 32 + 64 + 4 + 4 + 4 + 128 + 8 + 8) (xMQ below (fun v H1 => v = none ∧ ∃ (A : Nat → Nat) (lo la : Nat → Int32), xRef G ty m0 A (nI 0) (xCl f) (xCl r) (fun _ => FP.dconst0) (fun _ => nI 0) (fun _ => FP.dconst0) (fun _ => FP.dconst0) (fun _ => nI 0) 0 (fun _ => FP.dconst0) (fun _ => FP.dconst0) (fun _ => nI 0) (fun _ => FP.dconst0) lo la FP.dconst0 FP.dconst0 FP.dconst0 H1 ∧ xAp m0 A ∧ xNw b0 m0 A ∧ (∀ i : Nat, H.size ≤ A i) ∧ xOld m0 H H1 ∧ xN8 lo ∧ xN8 la) (fun _ _ => False) [.ref m0, .int (f), .int (r)].toArray s rm_X7_init b0) (F0 m 182 ls [.int (jy), .ref m0]) := by
    intro jy locs d0 ls hP_39 hS hd0 hl
    subst hP_39
    refine xput (G := G) (ci := 8) (v := .int (nI ((xCl f)))) (ty := .int) (C := RX7) (T := TX7) (N := 18) hx hb (hts d0) in_X7_init_X7 tyX7 tyX7_ok nmX7 hown hK.1 hc_38 hS hm0 rfl 1 (by decide) (hts d0 _ hw_X7_init_18) (fun _ h9 => h9) rfl (by decide +kernel) rfl rfl (Nat.le_of_ble_eq_true rfl) dX7_init_182 (fun H_40 locs_40 hs_40 hS => ?_)
    have hc_40 : xc G m0 (.inr (8, [.int (nI 0), .int (nI ((xCl f))), .int (nI 0), .ref (H.size + 0), .ref (H.size + 1), .ref (H.size + 2), .ref (H.size + 3), .ref (H.size + 4), .int (nI 0), .ref (H.size + 5), .ref (H.size + 6), .ref (H.size + 7), .ref (H.size + 8), .ref (H.size + 9), .ref (H.size + 10), .double FP.dconst0, .double FP.dconst0, .double FP.dconst0])) H_40 := hs_40.1
    have hz_40 : H_40.size = H.size + 11 := hs_40.2.1.trans hz_38
    have hfr_40 : xOld m0 H H_40 := xOld.put hfr_38 hs_40 (Or.inl rfl)
    refine lv_aload_n hx hb dX7_init_185 rfl (lv_at hl 0 rfl) ?_
    have J_41 : ∀ (jy : Int32) (locs : List Loc) (d0 : Drawn) (ls : Array Slot), jy = nI ((xCl r)) → va_S (xA b0) s.heap H_40 locs → s.drawn.sameBut d0 lw_cs → lv_has ls 3 [(0, .ref m0), (1, .int (f)), (2, .int (r))] → W p l e rm_X7_init (s.setDrawn d0) m [Value.ref m0, Value.int (f), Value.int (r)].toArray below meth c H_40 locs (0 + 1 + 1 + 1 + 1 + 1 + 1 + 1 + 1 + 1 + 1 + 1) (0 + 192 + 8 + 256 + 32 + 64 + 4 + 4 + 4 + 128 + 8 + 8) (xMQ below (fun v H1 => v = none ∧ ∃ (A : Nat → Nat) (lo la : Nat → Int32), xRef G ty m0 A (nI 0) (xCl f) (xCl r) (fun _ => FP.dconst0) (fun _ => nI 0) (fun _ => FP.dconst0) (fun _ => FP.dconst0) (fun _ => nI 0) 0 (fun _ => FP.dconst0) (fun _ => FP.dconst0) (fun _ => nI 0) (fun _ => FP.dconst0) lo la FP.dconst0 FP.dconst0 FP.dconst0 H1 ∧ xAp m0 A ∧ xNw b0 m0 A ∧ (∀ i : Nat, H.size ≤ A i) ∧ xOld m0 H H1 ∧ xN8 lo ∧ xN8 la) (fun _ _ => False) [.ref m0, .int (f), .int (r)].toArray s rm_X7_init b0) (F0 m 207 ls [.int (jy), .ref m0]) := by
      intro jy locs d0 ls hP_41 hS hd0 hl
      subst hP_41
      refine xput (G := G) (ci := 8) (v := .int (nI ((xCl r)))) (ty := .int) (C := RX7) (T := TX7) (N := 18) hx hb (hts d0) in_X7_init_X7 tyX7 tyX7_ok nmX7 hown hK.1 hc_40 hS hm0 rfl 2 (by decide) (hts d0 _ hw_X7_init_19) (fun _ h9 => h9) rfl (by decide +kernel) rfl rfl (Nat.le_of_ble_eq_true rfl) dX7_init_207 (fun H_42 locs_42 hs_42 hS => ?_)
      have hc_42 : xc G m0 (.inr (8, [.int (nI 0), .int (nI ((xCl f))), .int (nI ((xCl r))), .ref (H.size + 0), .ref (H.size + 1), .ref (H.size + 2), .ref (H.size + 3), .ref (H.size + 4), .int (nI 0), .ref (H.size + 5), .ref (H.size + 6), .ref (H.size + 7), .ref (H.size + 8), .ref (H.size + 9), .ref (H.size + 10), .double FP.dconst0, .double FP.dconst0, .double FP.dconst0])) H_42 := hs_42.1
      have hz_42 : H_42.size = H.size + 11 := hs_42.2.1.trans hz_40
      have hfr_42 : xOld m0 H H_42 := xOld.put hfr_40 hs_42 (Or.inl rfl)
      exact xvret hd0 hx hb hr hlocks hS (Nat.le_of_ble_eq_true rfl) (Nat.le_of_ble_eq_true rfl) dX7_init_210 ⟨rfl, fun i => H.size + i, _, _, ⟨hc_42, ((((((((((((hg_29.keep ((((((((((hg_19.keep ((hg_17.keep ((hg_15.keep ((hg_13.keep ((hg_11.keep ((hg_9.keep ((hg_7.keep ((hg_5.keep ((hg_3.keep (hg_1.1.kept (hs_2.2.2 _ (Nat.ne_of_gt (Nat.lt_add_right 0 hlm))))).kept (hs_4.2.2 _ (Nat.ne_of_gt (Nat.lt_add_right 0 hlm))))).kept (hs_6.2.2 _ (Nat.ne_of_gt (Nat.lt_add_right 0 hlm))))).kept (hs_8.2.2 _ (Nat.ne_of_gt (Nat.lt_add_right 0 hlm))))).kept (hs_10.2.2 _ (Nat.ne_of_gt (Nat.lt_add_right 0 hlm))))).kept (hs_12.2.2 _ (Nat.ne_of_gt (Nat.lt_add_right 0 hlm))))).kept (hs_14.2.2 _ (Nat.ne_of_gt (Nat.lt_add_right 0 hlm))))).kept (hs_16.2.2 _ (Nat.ne_of_gt (Nat.lt_add_right 0 hlm))))).kept (hs_18.2.2 _ (Nat.ne_of_gt (Nat.lt_add_right 0 hlm))))).kept (hs_20.2.2 _ (fun z => absurd (Nat.add_left_cancel z) (by decide)))).kept (hs_21.2.2 _ (fun z => absurd (Nat.add_left_cancel z) (by decide)))).kept (hs_22.2.2 _ (fun z => absurd (Nat.add_left_cancel z) (by decide)))).kept (hs_23.2.2 _ (fun z => absurd (Nat.add_left_cancel z) (by decide)))).kept (hs_24.2.2 _ (fun z => absurd (Nat.add_left_cancel z) (by decide)))).kept (hs_25.2.2 _ (fun z => absurd (Nat.add_left_cancel z) (by decide)))).kept (hs_26.2.2 _ (fun z => absurd (Nat.add_left_cancel z) (by decide)))).kept (hs_27.2.2 _ (fun z => absurd (Nat.add_left_cancel z) (by decide)))).kept (hs_28.2.2 _ (Nat.ne_of_gt (Nat.lt_add_right 0 hlm))))).kept (hs_30.2.2 _ (fun z => absurd (Nat.add_left_cancel z) (by decide)))).kept (hs_31.2.2 _ (fun z => absurd (Nat.add_left_cancel z) (by decide)))).kept (hs_32.2.2 _ (fun z => absurd (Nat.add_left_cancel z) (by decide)))).kept (hs_33.2.2 _ (fun z => absurd (Nat.add_left_cancel z) (by decide)))).kept (hs_34.2.2 _ (fun z => absurd (Nat.add_left_cancel z) (by decide)))).kept (hs_35.2.2 _ (fun z => absurd (Nat.add_left_cancel z) (by decide)))).kept (hs_36.2.2 _ (fun z => absurd (Nat.add_left_cancel z) (by decide)))).kept (hs_37.2.2 _ (fun z => absurd (Nat.add_left_cancel z) (by decide)))).kept (hs_38.2.2 _ (Nat.ne_of_gt (Nat.lt_add_right 0 hlm)))).kept (hs_40.2.2 _ (Nat.ne_of_gt (Nat.lt_add_right 0 hlm)))).kept (hs_42.2.2 _ (Nat.ne_of_gt (Nat.lt_add_right 0 hlm)))), ((((((((((((hg_29.keep ((((((((((hg_19.keep ((hg_17.keep ((hg_15.keep ((hg_13.keep ((hg_11.keep ((hg_9.keep ((hg_7.keep ((hg_5.keep (hg_3.1.kept (hs_4.2.2 _ (Nat.ne_of_gt (Nat.lt_add_right 1 hlm))))).kept (hs_6.2.2 _ (Nat.ne_of_gt (Nat.lt_add_right 1 hlm))))).kept (hs_8.2.2 _ (Nat.ne_of_gt (Nat.lt_add_right 1 hlm))))).kept (hs_10.2.2 _ (Nat.ne_of_gt (Nat.lt_add_right 1 hlm))))).kept (hs_12.2.2 _ (Nat.ne_of_gt (Nat.lt_add_right 1 hlm))))).kept (hs_14.2.2 _ (Nat.ne_of_gt (Nat.lt_add_right 1 hlm))))).kept (hs_16.2.2 _ (Nat.ne_of_gt (Nat.lt_add_right 1 hlm))))).kept (hs_18.2.2 _ (Nat.ne_of_gt (Nat.lt_add_right 1 hlm))))).kept (hs_20.2.2 _ (fun z => absurd (Nat.add_left_cancel z) (by decide)))).kept (hs_21.2.2 _ (fun z => absurd (Nat.add_left_cancel z) (by decide)))).kept (hs_22.2.2 _ (fun z => absurd (Nat.add_left_cancel z) (by decide)))).kept (hs_23.2.2 _ (fun z => absurd (Nat.add_left_cancel z) (by decide)))).kept (hs_24.2.2 _ (fun z => absurd (Nat.add_left_cancel z) (by decide)))).kept (hs_25.2.2 _ (fun z => absurd (Nat.add_left_cancel z) (by decide)))).kept (hs_26.2.2 _ (fun z => absurd (Nat.add_left_cancel z) (by decide)))).kept (hs_27.2.2 _ (fun z => absurd (Nat.add_left_cancel z) (by decide)))).kept (hs_28.2.2 _ (Nat.ne_of_gt (Nat.lt_add_right 1 hlm))))).kept (hs_30.2.2 _ (fun z => absurd (Nat.add_left_cancel z) (by decide)))).kept (hs_31.2.2 _ (fun z => absurd (Nat.add_left_cancel z) (by decide)))).kept (hs_32.2.2 _ (fun z => absurd (Nat.add_left_cancel z) (by decide)))).kept (hs_33.2.2 _ (fun z => absurd (Nat.add_left_cancel z) (by decide)))).kept (hs_34.2.2 _ (fun z => absurd (Nat.add_left_cancel z) (by decide)))).kept (hs_35.2.2 _ (fun z => absurd (Nat.add_left_cancel z) (by decide)))).kept (hs_36.2.2 _ (fun z => absurd (Nat.add_left_cancel z) (by decide)))).kept (hs_37.2.2 _ (fun z => absurd (Nat.add_left_cancel z) (by decide)))).kept (hs_38.2.2 _ (Nat.ne_of_gt (Nat.lt_add_right 1 hlm)))).kept (hs_40.2.2 _ (Nat.ne_of_gt (Nat.lt_add_right 1 hlm)))).kept (hs_42.2.2 _ (Nat.ne_of_gt (Nat.lt_add_right 1 hlm)))), ((((((((((((hg_29.keep ((((((((((hg_19.keep ((hg_17.keep ((hg_15.keep ((hg_13.keep ((hg_11.keep ((hg_9.keep ((hg_7.keep (hg_5.1.kept (hs_6.2.2 _ (Nat.ne_of_gt (Nat.lt_add_right 2 hlm))))).kept (hs_8.2.2 _ (Nat.ne_of_gt (Nat.lt_add_right 2 hlm))))).kept (hs_10.2.2 _ (Nat.ne_of_gt (Nat.lt_add_right 2 hlm))))).kept (hs_12.2.2 _ (Nat.ne_of_gt (Nat.lt_add_right 2 hlm))))).kept (hs_14.2.2 _ (Nat.ne_of_gt (Nat.lt_add_right 2 hlm))))).kept (hs_16.2.2 _ (Nat.ne_of_gt (Nat.lt_add_right 2 hlm))))).kept (hs_18.2.2 _ (Nat.ne_of_gt (Nat.lt_add_right 2 hlm))))).kept (hs_20.2.2 _ (fun z => absurd (Nat.add_left_cancel z) (by decide)))).kept (hs_21.2.2 _ (fun z => absurd (Nat.add_left_cancel z) (by decide)))).kept (hs_22.2.2 _ (fun z => absurd (Nat.add_left_cancel z) (by decide)))).kept (hs_23.2.2 _ (fun z => absurd (Nat.add_left_cancel z) (by decide)))).kept (hs_24.2.2 _ (fun z => absurd (Nat.add_left_cancel z) (by decide)))).kept (hs_25.2.2 _ (fun z => absurd (Nat.add_left_cancel z) (by decide)))).kept (hs_26.2.2 _ (fun z => absurd (Nat.add_left_cancel z) (by decide)))).kept (hs_27.2.2 _ (fun z => absurd (Nat.add_left_cancel z) (by decide)))).kept (hs_28.2.2 _ (Nat.ne_of_gt (Nat.lt_add_right 2 hlm))))).kept (hs_30.2.2 _ (fun z => absurd (Nat.add_left_cancel z) (by decide)))).kept (hs_31.2.2 _ (fun z => absurd (Nat.add_left_cancel z) (by decide)))).kept (hs_32.2.2 _ (fun z => absurd (Nat.add_left_cancel z) (by decide)))).kept (hs_33.2.2 _ (fun z => absurd (Nat.add_left_cancel z) (by decide)))).kept (hs_34.2.2 _ (fun z => absurd (Nat.add_left_cancel z) (by decide)))).kept (hs_35.2.2 _ (fun z => absurd (Nat.add_left_cancel z) (by decide)))).kept (hs_36.2.2 _ (fun z => absurd (Nat.add_left_cancel z) (by decide)))).kept (hs_37.2.2 _ (fun z => absurd (Nat.add_left_cancel z) (by decide)))).kept (hs_38.2.2 _ (Nat.ne_of_gt (Nat.lt_add_right 2 hlm)))).kept (hs_40.2.2 _ (Nat.ne_of_gt (Nat.lt_add_right 2 hlm)))).kept (hs_42.2.2 _ (Nat.ne_of_gt (Nat.lt_add_right 2 hlm)))), ((((((((((((hg_29.keep ((((((((((hg_19.keep ((hg_17.keep ((hg_15.keep ((hg_13.keep ((hg_11.keep ((hg_9.keep (hg_7.1.kept (hs_8.2.2 _ (Nat.ne_of_gt (Nat.lt_add_right 3 hlm))))).kept (hs_10.2.2 _ (Nat.ne_of_gt (Nat.lt_add_right 3 hlm))))).kept (hs_12.2.2 _ (Nat.ne_of_gt (Nat.lt_add_right 3 hlm))))).kept (hs_14.2.2 _ (Nat.ne_of_gt (Nat.lt_add_right 3 hlm))))).kept (hs_16.2.2 _ (Nat.ne_of_gt (Nat.lt_add_right 3 hlm))))).kept (hs_18.2.2 _ (Nat.ne_of_gt (Nat.lt_add_right 3 hlm))))).kept (hs_20.2.2 _ (fun z => absurd (Nat.add_left_cancel z) (by decide)))).kept (hs_21.2.2 _ (fun z => absurd (Nat.add_left_cancel z) (by decide)))).kept (hs_22.2.2 _ (fun z => absurd (Nat.add_left_cancel z) (by decide)))).kept (hs_23.2.2 _ (fun z => absurd (Nat.add_left_cancel z) (by decide)))).kept (hs_24.2.2 _ (fun z => absurd (Nat.add_left_cancel z) (by decide)))).kept (hs_25.2.2 _ (fun z => absurd (Nat.add_left_cancel z) (by decide)))).kept (hs_26.2.2 _ (fun z => absurd (Nat.add_left_cancel z) (by decide)))).kept (hs_27.2.2 _ (fun z => absurd (Nat.add_left_cancel z) (by decide)))).kept (hs_28.2.2 _ (Nat.ne_of_gt (Nat.lt_add_right 3 hlm))))).kept (hs_30.2.2 _ (fun z => absurd (Nat.add_left_cancel z) (by decide)))).kept (hs_31.2.2 _ (fun z => absurd (Nat.add_left_cancel z) (by decide)))).kept (hs_32.2.2 _ (fun z => absurd (Nat.add_left_cancel z) (by decide)))).kept (hs_33.2.2 _ (fun z => absurd (Nat.add_left_cancel z) (by decide)))).kept (hs_34.2.2 _ (fun z => absurd (Nat.add_left_cancel z) (by decide)))).kept (hs_35.2.2 _ (fun z => absurd (Nat.add_left_cancel z) (by decide)))).kept (hs_36.2.2 _ (fun z => absurd (Nat.add_left_cancel z) (by decide)))).kept (hs_37.2.2 _ (fun z => absurd (Nat.add_left_cancel z) (by decide)))).kept (hs_38.2.2 _ (Nat.ne_of_gt (Nat.lt_add_right 3 hlm)))).kept (hs_40.2.2 _ (Nat.ne_of_gt (Nat.lt_add_right 3 hlm)))).kept (hs_42.2.2 _ (Nat.ne_of_gt (Nat.lt_add_right 3 hlm)))), ((((((((((((hg_29.keep ((((((((((hg_19.keep ((hg_17.keep ((hg_15.keep ((hg_13.keep ((hg_11.keep (hg_9.1.kept (hs_10.2.2 _ (Nat.ne_of_gt (Nat.lt_add_right 4 hlm))))).kept (hs_12.2.2 _ (Nat.ne_of_gt (Nat.lt_add_right 4 hlm))))).kept (hs_14.2.2 _ (Nat.ne_of_gt (Nat.lt_add_right 4 hlm))))).kept (hs_16.2.2 _ (Nat.ne_of_gt (Nat.lt_add_right 4 hlm))))).kept (hs_18.2.2 _ (Nat.ne_of_gt (Nat.lt_add_right 4 hlm))))).kept (hs_20.2.2 _ (fun z => absurd (Nat.add_left_cancel z) (by decide)))).kept (hs_21.2.2 _ (fun z => absurd (Nat.add_left_cancel z) (by decide)))).kept (hs_22.2.2 _ (fun z => absurd (Nat.add_left_cancel z) (by decide)))).kept (hs_23.2.2 _ (fun z => absurd (Nat.add_left_cancel z) (by decide)))).kept (hs_24.2.2 _ (fun z => absurd (Nat.add_left_cancel z) (by decide)))).kept (hs_25.2.2 _ (fun z => absurd (Nat.add_left_cancel z) (by decide)))).kept (hs_26.2.2 _ (fun z => absurd (Nat.add_left_cancel z) (by decide)))).kept (hs_27.2.2 _ (fun z => absurd (Nat.add_left_cancel z) (by decide)))).kept (hs_28.2.2 _ (Nat.ne_of_gt (Nat.lt_add_right 4 hlm))))).kept (hs_30.2.2 _ (fun z => absurd (Nat.add_left_cancel z) (by decide)))).kept (hs_31.2.2 _ (fun z => absurd (Nat.add_left_cancel z) (by decide)))).kept (hs_32.2.2 _ (fun z => absurd (Nat.add_left_cancel z) (by decide)))).kept (hs_33.2.2 _ (fun z => absurd (Nat.add_left_cancel z) (by decide)))).kept (hs_34.2.2 _ (fun z => absurd (Nat.add_left_cancel z) (by decide)))).kept (hs_35.2.2 _ (fun z => absurd (Nat.add_left_cancel z) (by decide)))).kept (hs_36.2.2 _ (fun z => absurd (Nat.add_left_cancel z) (by decide)))).kept (hs_37.2.2 _ (fun z => absurd (Nat.add_left_cancel z) (by decide)))).kept (hs_38.2.2 _ (Nat.ne_of_gt (Nat.lt_add_right 4 hlm)))).kept (hs_40.2.2 _ (Nat.ne_of_gt (Nat.lt_add_right 4 hlm)))).kept (hs_42.2.2 _ (Nat.ne_of_gt (Nat.lt_add_right 4 hlm)))), ((((((((((((hg_29.keep ((((((((((hg_19.keep ((hg_17.keep ((hg_15.keep ((hg_13.keep (hg_11.1.kept (hs_12.2.2 _ (Nat.ne_of_gt (Nat.lt_add_right 5 hlm))))).kept (hs_14.2.2 _ (Nat.ne_of_gt (Nat.lt_add_right 5 hlm))))).kept (hs_16.2.2 _ (Nat.ne_of_gt (Nat.lt_add_right 5 hlm))))).kept (hs_18.2.2 _ (Nat.ne_of_gt (Nat.lt_add_right 5 hlm))))).kept (hs_20.2.2 _ (fun z => absurd (Nat.add_left_cancel z) (by decide)))).kept (hs_21.2.2 _ (fun z => absurd (Nat.add_left_cancel z) (by decide)))).kept (hs_22.2.2 _ (fun z => absurd (Nat.add_left_cancel z) (by decide)))).kept (hs_23.2.2 _ (fun z => absurd (Nat.add_left_cancel z) (by decide)))).kept (hs_24.2.2 _ (fun z => absurd (Nat.add_left_cancel z) (by decide)))).kept (hs_25.2.2 _ (fun z => absurd (Nat.add_left_cancel z) (by decide)))).kept (hs_26.2.2 _ (fun z => absurd (Nat.add_left_cancel z) (by decide)))).kept (hs_27.2.2 _ (fun z => absurd (Nat.add_left_cancel z) (by decide)))).kept (hs_28.2.2 _ (Nat.ne_of_gt (Nat.lt_add_right 5 hlm))))).kept (hs_30.2.2 _ (fun z => absurd (Nat.add_left_cancel z) (by decide)))).kept (hs_31.2.2 _ (fun z => absurd (Nat.add_left_cancel z) (by decide)))).kept (hs_32.2.2 _ (fun z => absurd (Nat.add_left_cancel z) (by decide)))).kept (hs_33.2.2 _ (fun z => absurd (Nat.add_left_cancel z) (by decide)))).kept (hs_34.2.2 _ (fun z => absurd (Nat.add_left_cancel z) (by decide)))).kept (hs_35.2.2 _ (fun z => absurd (Nat.add_left_cancel z) (by decide)))).kept (hs_36.2.2 _ (fun z => absurd (Nat.add_left_cancel z) (by decide)))).kept (hs_37.2.2 _ (fun z => absurd (Nat.add_left_cancel z) (by decide)))).kept (hs_38.2.2 _ (Nat.ne_of_gt (Nat.lt_add_right 5 hlm)))).kept (hs_40.2.2 _ (Nat.ne_of_gt (Nat.lt_add_right 5 hlm)))).kept (hs_42.2.2 _ (Nat.ne_of_gt (Nat.lt_add_right 5 hlm)))), ((((((((((((hg_29.keep ((((((((((hg_19.keep ((hg_17.keep ((hg_15.keep (hg_13.1.kept (hs_14.2.2 _ (Nat.ne_of_gt (Nat.lt_add_right 6 hlm))))).kept (hs_16.2.2 _ (Nat.ne_of_gt (Nat.lt_add_right 6 hlm))))).kept (hs_18.2.2 _ (Nat.ne_of_gt (Nat.lt_add_right 6 hlm))))).kept (hs_20.2.2 _ (fun z => absurd (Nat.add_left_cancel z) (by decide)))).kept (hs_21.2.2 _ (fun z => absurd (Nat.add_left_cancel z) (by decide)))).kept (hs_22.2.2 _ (fun z => absurd (Nat.add_left_cancel z) (by decide)))).kept (hs_23.2.2 _ (fun z => absurd (Nat.add_left_cancel z) (by decide)))).kept (hs_24.2.2 _ (fun z => absurd (Nat.add_left_cancel z) (by decide)))).kept (hs_25.2.2 _ (fun z => absurd (Nat.add_left_cancel z) (by decide)))).kept (hs_26.2.2 _ (fun z => absurd (Nat.add_left_cancel z) (by decide)))).kept (hs_27.2.2 _ (fun z => absurd (Nat.add_left_cancel z) (by decide)))).kept (hs_28.2.2 _ (Nat.ne_of_gt (Nat.lt_add_right 6 hlm))))).kept (hs_30.2.2 _ (fun z => absurd (Nat.add_left_cancel z) (by decide)))).kept (hs_31.2.2 _ (fun z => absurd (Nat.add_left_cancel z) (by decide)))).kept (hs_32.2.2 _ (fun z => absurd (Nat.add_left_cancel z) (by decide)))).kept (hs_33.2.2 _ (fun z => absurd (Nat.add_left_cancel z) (by decide)))).kept (hs_34.2.2 _ (fun z => absurd (Nat.add_left_cancel z) (by decide)))).kept (hs_35.2.2 _ (fun z => absurd (Nat.add_left_cancel z) (by decide)))).kept (hs_36.2.2 _ (fun z => absurd (Nat.add_left_cancel z) (by decide)))).kept (hs_37.2.2 _ (fun z => absurd (Nat.add_left_cancel z) (by decide)))).kept (hs_38.2.2 _ (Nat.ne_of_gt (Nat.lt_add_right 6 hlm)))).kept (hs_40.2.2 _ (Nat.ne_of_gt (Nat.lt_add_right 6 hlm)))).kept (hs_42.2.2 _ (Nat.ne_of_gt (Nat.lt_add_right 6 hlm)))), ((((((((((((hg_29.keep ((((((((((hg_19.keep ((hg_17.keep (hg_15.1.kept (hs_16.2.2 _ (Nat.ne_of_gt (Nat.lt_add_right 7 hlm))))).kept (hs_18.2.2 _ (Nat.ne_of_gt (Nat.lt_add_right 7 hlm))))).kept (hs_20.2.2 _ (fun z => absurd (Nat.add_left_cancel z) (by decide)))).kept (hs_21.2.2 _ (fun z => absurd (Nat.add_left_cancel z) (by decide)))).kept (hs_22.2.2 _ (fun z => absurd (Nat.add_left_cancel z) (by decide)))).kept (hs_23.2.2 _ (fun z => absurd (Nat.add_left_cancel z) (by decide)))).kept (hs_24.2.2 _ (fun z => absurd (Nat.add_left_cancel z) (by decide)))).kept (hs_25.2.2 _ (fun z => absurd (Nat.add_left_cancel z) (by decide)))).kept (hs_26.2.2 _ (fun z => absurd (Nat.add_left_cancel z) (by decide)))).kept (hs_27.2.2 _ (fun z => absurd (Nat.add_left_cancel z) (by decide)))).kept (hs_28.2.2 _ (Nat.ne_of_gt (Nat.lt_add_right 7 hlm))))).kept (hs_30.2.2 _ (fun z => absurd (Nat.add_left_cancel z) (by decide)))).kept (hs_31.2.2 _ (fun z => absurd (Nat.add_left_cancel z) (by decide)))).kept (hs_32.2.2 _ (fun z => absurd (Nat.add_left_cancel z) (by decide)))).kept (hs_33.2.2 _ (fun z => absurd (Nat.add_left_cancel z) (by decide)))).kept (hs_34.2.2 _ (fun z => absurd (Nat.add_left_cancel z) (by decide)))).kept (hs_35.2.2 _ (fun z => absurd (Nat.add_left_cancel z) (by decide)))).kept (hs_36.2.2 _ (fun z => absurd (Nat.add_left_cancel z) (by decide)))).kept (hs_37.2.2 _ (fun z => absurd (Nat.add_left_cancel z) (by decide)))).kept (hs_38.2.2 _ (Nat.ne_of_gt (Nat.lt_add_right 7 hlm)))).kept (hs_40.2.2 _ (Nat.ne_of_gt (Nat.lt_add_right 7 hlm)))).kept (hs_42.2.2 _ (Nat.ne_of_gt (Nat.lt_add_right 7 hlm)))), ((((((((((((hg_29.keep ((((((((((hg_19.keep (hg_17.1.kept (hs_18.2.2 _ (Nat.ne_of_gt (Nat.lt_add_right 8 hlm))))).kept (hs_20.2.2 _ (fun z => absurd (Nat.add_left_cancel z) (by decide)))).kept (hs_21.2.2 _ (fun z => absurd (Nat.add_left_cancel z) (by decide)))).kept (hs_22.2.2 _ (fun z => absurd (Nat.add_left_cancel z) (by decide)))).kept (hs_23.2.2 _ (fun z => absurd (Nat.add_left_cancel z) (by decide)))).kept (hs_24.2.2 _ (fun z => absurd (Nat.add_left_cancel z) (by decide)))).kept (hs_25.2.2 _ (fun z => absurd (Nat.add_left_cancel z) (by decide)))).kept (hs_26.2.2 _ (fun z => absurd (Nat.add_left_cancel z) (by decide)))).kept (hs_27.2.2 _ (fun z => absurd (Nat.add_left_cancel z) (by decide)))).kept (hs_28.2.2 _ (Nat.ne_of_gt (Nat.lt_add_right 8 hlm))))).kept (hs_30.2.2 _ (fun z => absurd (Nat.add_left_cancel z) (by decide)))).kept (hs_31.2.2 _ (fun z => absurd (Nat.add_left_cancel z) (by decide)))).kept (hs_32.2.2 _ (fun z => absurd (Nat.add_left_cancel z) (by decide)))).kept (hs_33.2.2 _ (fun z => absurd (Nat.add_left_cancel z) (by decide)))).kept (hs_34.2.2 _ (fun z => absurd (Nat.add_left_cancel z) (by decide)))).kept (hs_35.2.2 _ (fun z => absurd (Nat.add_left_cancel z) (by decide)))).kept (hs_36.2.2 _ (fun z => absurd (Nat.add_left_cancel z) (by decide)))).kept (hs_37.2.2 _ (fun z => absurd (Nat.add_left_cancel z) (by decide)))).kept (hs_38.2.2 _ (Nat.ne_of_gt (Nat.lt_add_right 8 hlm)))).kept (hs_40.2.2 _ (Nat.ne_of_gt (Nat.lt_add_right 8 hlm)))).kept (hs_42.2.2 _ (Nat.ne_of_gt (Nat.lt_add_right 8 hlm)))), ((((((((((((hg_29.keep (hc_27.kept (hs_28.2.2 _ (Nat.ne_of_gt (Nat.lt_add_right 9 hlm))))).kept (hs_30.2.2 _ (fun z => absurd (Nat.add_left_cancel z) (by decide)))).kept (hs_31.2.2 _ (fun z => absurd (Nat.add_left_cancel z) (by decide)))).kept (hs_32.2.2 _ (fun z => absurd (Nat.add_left_cancel z) (by decide)))).kept (hs_33.2.2 _ (fun z => absurd (Nat.add_left_cancel z) (by decide)))).kept (hs_34.2.2 _ (fun z => absurd (Nat.add_left_cancel z) (by decide)))).kept (hs_35.2.2 _ (fun z => absurd (Nat.add_left_cancel z) (by decide)))).kept (hs_36.2.2 _ (fun z => absurd (Nat.add_left_cancel z) (by decide)))).kept (hs_37.2.2 _ (fun z => absurd (Nat.add_left_cancel z) (by decide)))).kept (hs_38.2.2 _ (Nat.ne_of_gt (Nat.lt_add_right 9 hlm)))).kept (hs_40.2.2 _ (Nat.ne_of_gt (Nat.lt_add_right 9 hlm)))).kept (hs_42.2.2 _ (Nat.ne_of_gt (Nat.lt_add_right 9 hlm)))), (((hc_37.kept (hs_38.2.2 _ (Nat.ne_of_gt (Nat.lt_add_right 10 hlm)))).kept (hs_40.2.2 _ (Nat.ne_of_gt (Nat.lt_add_right 10 hlm)))).kept (hs_42.2.2 _ (Nat.ne_of_gt (Nat.lt_add_right 10 hlm))))⟩, xAp_seq hlm, xNw_seq hm0 hbH, fun i => Nat.le_add_right _ _, hfr_42, xn8_of, xn8_of⟩
    refine lv_iload_n hx hb dX7_init_186 rfl (lv_at hl 2 rfl) ?_
    refine lv_iconst (v := nI 2) hx hb dX7_init_187 (by decide) ?_
    refine lv_icmp_ge (tgt := 195) hx hb dX7_init_188 (by decide) (fun c_43 => ?_) (fun c_43 => ?_)
    · refine lv_iload_n hx hb dX7_init_195 rfl (lv_at hl 2 rfl) ?_
      refine lv_bipush (v := nI 8) hx hb dX7_init_196 (by decide) ?_
      refine lv_icmp_le (tgt := 206) hx hb dX7_init_198 (by decide) (fun c_44 => ?_) (fun c_44 => ?_)
      · refine lv_iload_n hx hb dX7_init_206 rfl (lv_at hl 2 rfl) ?_
        exact J_41 _ _ d0 ls (xCl_mid (Int32.not_lt.mpr c_43) c_44).symm hS hd0 (lv_sub hl [0, 1, 2] rfl)
      · refine lv_bipush (v := nI 8) hx hb dX7_init_201 (by decide) ?_
        refine lv_goto (tgt := 207) hx hb dX7_init_203 (by decide) ?_
        exact J_41 _ _ d0 ls (by rw [xCl_hi (Int32.not_lt.mpr c_43) c_44]) hS hd0 (lv_sub hl [0, 1, 2] rfl)
    · refine lv_iconst (v := nI 2) hx hb dX7_init_191 (by decide) ?_
      refine lv_goto (tgt := 207) hx hb dX7_init_192 (by decide) ?_
      exact J_41 _ _ d0 ls (by rw [xCl_lo (Int32.not_le.mp c_43)]) hS hd0 (lv_sub hl [0, 1, 2] rfl)
  refine lv_iload_n hx hb dX7_init_161 rfl (lv_at hl 1 rfl) ?_
  refine lv_iconst (v := nI 2) hx hb dX7_init_162 (by decide) ?_
  refine lv_icmp_ge (tgt := 170) hx hb dX7_init_163 (by decide) (fun c_45 => ?_) (fun c_45 => ?_)
  · refine lv_iload_n hx hb dX7_init_170 rfl (lv_at hl 1 rfl) ?_
    refine lv_bipush (v := nI 8) hx hb dX7_init_171 (by decide) ?_
    refine lv_icmp_le (tgt := 181) hx hb dX7_init_173 (by decide) (fun c_46 => ?_) (fun c_46 => ?_)
    · refine lv_iload_n hx hb dX7_init_181 rfl (lv_at hl 1 rfl) ?_
      exact J_39 _ _ d0 ls (xCl_mid (Int32.not_lt.mpr c_45) c_46).symm hS hd0 (lv_sub hl [0, 1, 2] rfl)
    · refine lv_bipush (v := nI 8) hx hb dX7_init_176 (by decide) ?_
      refine lv_goto (tgt := 182) hx hb dX7_init_178 (by decide) ?_
      exact J_39 _ _ d0 ls (by rw [xCl_hi (Int32.not_lt.mpr c_45) c_46]) hS hd0 (lv_sub hl [0, 1, 2] rfl)
  · refine lv_iconst (v := nI 2) hx hb dX7_init_166 (by decide) ?_
    refine lv_goto (tgt := 182) hx hb dX7_init_167 (by decide) ?_
    exact J_39 _ _ d0 ls (by rw [xCl_lo (Int32.not_le.mp c_45)]) hS hd0 (lv_sub hl [0, 1, 2] rfl)
end
section
theorem zz_end : True := trivial
end
