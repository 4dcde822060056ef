/-! THE REFERENCE: free places on boards. -/
def pHitF (fa : Nat → UInt64) (b k : Nat) (x w h : UInt64) : Prop := xlt x (FP.dadd (fa (32 * b + 4 * k)) (fa (32 * b + 4 * k + 2))) = true ∧ xgt (FP.dadd x w) (fa (32 * b + 4 * k)) = true ∧ xlt FP.dconst0 (FP.dadd (fa (32 * b + 4 * k + 1)) (fa (32 * b + 4 * k + 3))) = true ∧ xgt h (fa (32 * b + 4 * k + 1)) = true
def pAtE (la : Nat → Int32) (t : Nat) : UInt64 := FP.ddiv (FP.i2d (la t)) 4620693217682128896
def pHitS (lo la : Nat → Int32) (co : Nat → UInt64) (F b t : Nat) (x w h : UInt64) : Prop := lo t = nI b ∧ xlt x (FP.dadd (pAtE la t) (pExt co F t 0)) = true ∧ xgt (FP.dadd x w) (pAtE la t) = true ∧ xlt FP.dconst0 (pExt co F t 1) = true ∧ xgt h FP.dconst0 = true
/-- a rectangle of w by h lies free at x on board b -/
def pOpen (fa : Nat → UInt64) (lo la : Nat → Int32) (co : Nat → UInt64) (F R b nf : Nat) (x w h : UInt64) : Prop := (∀ k : Nat, k < nf → ¬ pHitF fa b k x w h) ∧ ∀ t : Nat, t < R - 1 → ¬ pHitS lo la co F b t x w h
theorem xall_s {p : Nat → Prop} {k : Nat} (h : ∀ j : Nat, j < k → p j) (h2 : p k) : ∀ j : Nat, j < k + 1 → p j := fun j hj => (Nat.lt_succ_iff_lt_or_eq.mp hj).elim (h j) (fun z => by rw [z]; exact h2)
theorem xtf {b : Bool} (h1 : b = true) (h2 : b = false) : False := by rw [h1] at h2; cases h2
set_option maxRecDepth 20000 in
theorem ggX7_isOpen_X7_size : GoodIn wsX7_isOpen wsX7_size := goodIn_r _ [11, 12, 13, 14, 15, 16, 17, 18, 19, 20, 21, 22, 23, 24, 25, 26, 27, 28, 29, 30, 31] (by decide +kernel) (by decide +kernel)
set_option maxRecDepth 20000 in
theorem gX7_isOpen_X7_size : GoodIn wsX7_isOpen (wsV RX7 129 RX7 yX7_size wsX7_size) := goodIn_app (goodIn_of _ (by decide +kernel)) ggX7_isOpen_X7_size
theorem dX7_isOpen_0 : decode cX7_isOpen 0 = .ok (.iconst 1, 1) := by decide +kernel
theorem dX7_isOpen_1 : decode cX7_isOpen 1 = .ok (.istore 8, 2) := by decide +kernel
theorem dX7_isOpen_3 : decode cX7_isOpen 3 = .ok (.iconst 0, 1) := by decide +kernel
theorem dX7_isOpen_4 : decode cX7_isOpen 4 = .ok (.istore 9, 2) := by decide +kernel
theorem dX7_isOpen_6 : decode cX7_isOpen 6 = .ok (.iload 9, 2) := by decide +kernel
theorem dX7_isOpen_8 : decode cX7_isOpen 8 = .ok (.aload_n 0, 1) := by decide +kernel
theorem dX7_isOpen_9 : decode cX7_isOpen 9 = .ok (.getfield 32, 3) := by decide +kernel
theorem dX7_isOpen_12 : decode cX7_isOpen 12 = .ok (.iload_n 1, 1) := by decide +kernel
theorem dX7_isOpen_13 : decode cX7_isOpen 13 = .ok (.iaload, 1) := by decide +kernel
theorem dX7_isOpen_14 : decode cX7_isOpen 14 = .ok (.if_icmp .ge 108, 3) := by decide +kernel
theorem dX7_isOpen_17 : decode cX7_isOpen 17 = .ok (.bipush 32, 2) := by decide +kernel
theorem dX7_isOpen_19 : decode cX7_isOpen 19 = .ok (.iload_n 1, 1) := by decide +kernel
theorem dX7_isOpen_20 : decode cX7_isOpen 20 = .ok (.imul, 1) := by decide +kernel
theorem dX7_isOpen_21 : decode cX7_isOpen 21 = .ok (.iconst 4, 1) := by decide +kernel
theorem dX7_isOpen_22 : decode cX7_isOpen 22 = .ok (.iload 9, 2) := by decide +kernel
theorem dX7_isOpen_24 : decode cX7_isOpen 24 = .ok (.imul, 1) := by decide +kernel
theorem dX7_isOpen_25 : decode cX7_isOpen 25 = .ok (.iadd, 1) := by decide +kernel
theorem dX7_isOpen_26 : decode cX7_isOpen 26 = .ok (.istore 10, 2) := by decide +kernel
theorem dX7_isOpen_28 : decode cX7_isOpen 28 = .ok (.iload 8, 2) := by decide +kernel
theorem dX7_isOpen_30 : decode cX7_isOpen 30 = .ok (.ifCond .eq 83, 3) := by decide +kernel
theorem dX7_isOpen_33 : decode cX7_isOpen 33 = .ok (.dload_n 2, 1) := by decide +kernel
theorem dX7_isOpen_34 : decode cX7_isOpen 34 = .ok (.aload_n 0, 1) := by decide +kernel
theorem dX7_isOpen_35 : decode cX7_isOpen 35 = .ok (.getfield 36, 3) := by decide +kernel
theorem dX7_isOpen_38 : decode cX7_isOpen 38 = .ok (.iload 10, 2) := by decide +kernel
theorem dX7_isOpen_40 : decode cX7_isOpen 40 = .ok (.daload, 1) := by decide +kernel
theorem dX7_isOpen_41 : decode cX7_isOpen 41 = .ok (.aload_n 0, 1) := by decide +kernel
theorem dX7_isOpen_42 : decode cX7_isOpen 42 = .ok (.getfield 36, 3) := by decide +kernel
theorem dX7_isOpen_45 : decode cX7_isOpen 45 = .ok (.iload 10, 2) := by decide +kernel
theorem dX7_isOpen_47 : decode cX7_isOpen 47 = .ok (.iconst 2, 1) := by decide +kernel
theorem dX7_isOpen_48 : decode cX7_isOpen 48 = .ok (.iadd, 1) := by decide +kernel
theorem dX7_isOpen_49 : decode cX7_isOpen 49 = .ok (.daload, 1) := by decide +kernel
theorem dX7_isOpen_50 : decode cX7_isOpen 50 = .ok (.dadd, 1) := by decide +kernel
theorem dX7_isOpen_51 : decode cX7_isOpen 51 = .ok (.dcmp .g, 1) := by decide +kernel
theorem dX7_isOpen_52 : decode cX7_isOpen 52 = .ok (.ifCond .ge 57, 3) := by decide +kernel
theorem dX7_isOpen_55 : decode cX7_isOpen 55 = .ok (.dload_n 2, 1) := by decide +kernel
theorem dX7_isOpen_56 : decode cX7_isOpen 56 = .ok (.dload 4, 2) := by decide +kernel
theorem dX7_isOpen_58 : decode cX7_isOpen 58 = .ok (.dadd, 1) := by decide +kernel
theorem dX7_isOpen_59 : decode cX7_isOpen 59 = .ok (.aload_n 0, 1) := by decide +kernel
theorem dX7_isOpen_60 : decode cX7_isOpen 60 = .ok (.getfield 36, 3) := by decide +kernel
theorem dX7_isOpen_63 : decode cX7_isOpen 63 = .ok (.iload 10, 2) := by decide +kernel
theorem dX7_isOpen_65 : decode cX7_isOpen 65 = .ok (.daload, 1) := by decide +kernel
theorem dX7_isOpen_66 : decode cX7_isOpen 66 = .ok (.dcmp .l, 1) := by decide +kernel
theorem dX7_isOpen_67 : decode cX7_isOpen 67 = .ok (.ifCond .le 42, 3) := by decide +kernel
theorem dX7_isOpen_70 : decode cX7_isOpen 70 = .ok (.dconst 0, 1) := by decide +kernel
theorem dX7_isOpen_71 : decode cX7_isOpen 71 = .ok (.aload_n 0, 1) := by decide +kernel
theorem dX7_isOpen_72 : decode cX7_isOpen 72 = .ok (.getfield 36, 3) := by decide +kernel
theorem dX7_isOpen_75 : decode cX7_isOpen 75 = .ok (.iload 10, 2) := by decide +kernel
theorem dX7_isOpen_77 : decode cX7_isOpen 77 = .ok (.iconst 1, 1) := by decide +kernel
theorem dX7_isOpen_78 : decode cX7_isOpen 78 = .ok (.iadd, 1) := by decide +kernel
theorem dX7_isOpen_79 : decode cX7_isOpen 79 = .ok (.daload, 1) := by decide +kernel
theorem dX7_isOpen_80 : decode cX7_isOpen 80 = .ok (.aload_n 0, 1) := by decide +kernel
theorem dX7_isOpen_81 : decode cX7_isOpen 81 = .ok (.getfield 36, 3) := by decide +kernel
theorem dX7_isOpen_84 : decode cX7_isOpen 84 = .ok (.iload 10, 2) := by decide +kernel
theorem dX7_isOpen_86 : decode cX7_isOpen 86 = .ok (.iconst 3, 1) := by decide +kernel
theorem dX7_isOpen_87 : decode cX7_isOpen 87 = .ok (.iadd, 1) := by decide +kernel
theorem dX7_isOpen_88 : decode cX7_isOpen 88 = .ok (.daload, 1) := by decide +kernel
theorem dX7_isOpen_89 : decode cX7_isOpen 89 = .ok (.dadd, 1) := by decide +kernel
theorem dX7_isOpen_90 : decode cX7_isOpen 90 = .ok (.dcmp .g, 1) := by decide +kernel
theorem dX7_isOpen_91 : decode cX7_isOpen 91 = .ok (.ifCond .ge 18, 3) := by decide +kernel
theorem dX7_isOpen_94 : decode cX7_isOpen 94 = .ok (.dload 6, 2) := by decide +kernel
theorem dX7_isOpen_96 : decode cX7_isOpen 96 = .ok (.aload_n 0, 1) := by decide +kernel
theorem dX7_isOpen_97 : decode cX7_isOpen 97 = .ok (.getfield 36, 3) := by decide +kernel
theorem dX7_isOpen_100 : decode cX7_isOpen 100 = .ok (.iload 10, 2) := by decide +kernel
theorem dX7_isOpen_102 : decode cX7_isOpen 102 = .ok (.iconst 1, 1) := by decide +kernel
theorem dX7_isOpen_103 : decode cX7_isOpen 103 = .ok (.iadd, 1) := by decide +kernel
theorem dX7_isOpen_104 : decode cX7_isOpen 104 = .ok (.daload, 1) := by decide +kernel
theorem dX7_isOpen_105 : decode cX7_isOpen 105 = .ok (.dcmp .l, 1) := by decide +kernel
theorem dX7_isOpen_106 : decode cX7_isOpen 106 = .ok (.ifCond .gt 7, 3) := by decide +kernel
theorem dX7_isOpen_109 : decode cX7_isOpen 109 = .ok (.iconst 1, 1) := by decide +kernel
theorem dX7_isOpen_110 : decode cX7_isOpen 110 = .ok (.goto 4, 3) := by decide +kernel
theorem dX7_isOpen_113 : decode cX7_isOpen 113 = .ok (.iconst 0, 1) := by decide +kernel
theorem dX7_isOpen_114 : decode cX7_isOpen 114 = .ok (.istore 8, 2) := by decide +kernel
theorem dX7_isOpen_116 : decode cX7_isOpen 116 = .ok (.iinc 9 1, 3) := by decide +kernel
theorem dX7_isOpen_119 : decode cX7_isOpen 119 = .ok (.goto (-113), 3) := by decide +kernel
theorem dX7_isOpen_122 : decode cX7_isOpen 122 = .ok (.iconst 0, 1) := by decide +kernel
theorem dX7_isOpen_123 : decode cX7_isOpen 123 = .ok (.istore 9, 2) := by decide +kernel
theorem dX7_isOpen_125 : decode cX7_isOpen 125 = .ok (.iload 9, 2) := by decide +kernel
theorem dX7_isOpen_127 : decode cX7_isOpen 127 = .ok (.aload_n 0, 1) := by decide +kernel
theorem dX7_isOpen_128 : decode cX7_isOpen 128 = .ok (.getfield 49, 3) := by decide +kernel
theorem dX7_isOpen_131 : decode cX7_isOpen 131 = .ok (.iconst 1, 1) := by decide +kernel
theorem dX7_isOpen_132 : decode cX7_isOpen 132 = .ok (.isub, 1) := by decide +kernel
theorem dX7_isOpen_133 : decode cX7_isOpen 133 = .ok (.if_icmp .ge 90, 3) := by decide +kernel
theorem dX7_isOpen_136 : decode cX7_isOpen 136 = .ok (.aload_n 0, 1) := by decide +kernel
theorem dX7_isOpen_137 : decode cX7_isOpen 137 = .ok (.getfield 42, 3) := by decide +kernel
theorem dX7_isOpen_140 : decode cX7_isOpen 140 = .ok (.iload 9, 2) := by decide +kernel
theorem dX7_isOpen_142 : decode cX7_isOpen 142 = .ok (.iaload, 1) := by decide +kernel
theorem dX7_isOpen_143 : decode cX7_isOpen 143 = .ok (.i2d, 1) := by decide +kernel
theorem dX7_isOpen_144 : decode cX7_isOpen 144 = .ok (.ldc2_w 127, 3) := by decide +kernel
theorem dX7_isOpen_147 : decode cX7_isOpen 147 = .ok (.ddiv, 1) := by decide +kernel
theorem dX7_isOpen_148 : decode cX7_isOpen 148 = .ok (.dstore 10, 2) := by decide +kernel
theorem dX7_isOpen_150 : decode cX7_isOpen 150 = .ok (.iload 8, 2) := by decide +kernel
theorem dX7_isOpen_152 : decode cX7_isOpen 152 = .ok (.ifCond .eq 62, 3) := by decide +kernel
theorem dX7_isOpen_155 : decode cX7_isOpen 155 = .ok (.aload_n 0, 1) := by decide +kernel
theorem dX7_isOpen_156 : decode cX7_isOpen 156 = .ok (.getfield 39, 3) := by decide +kernel
theorem dX7_isOpen_159 : decode cX7_isOpen 159 = .ok (.iload 9, 2) := by decide +kernel
theorem dX7_isOpen_161 : decode cX7_isOpen 161 = .ok (.iaload, 1) := by decide +kernel
theorem dX7_isOpen_162 : decode cX7_isOpen 162 = .ok (.iload_n 1, 1) := by decide +kernel
theorem dX7_isOpen_163 : decode cX7_isOpen 163 = .ok (.if_icmp .ne 47, 3) := by decide +kernel
theorem dX7_isOpen_166 : decode cX7_isOpen 166 = .ok (.dload_n 2, 1) := by decide +kernel
theorem dX7_isOpen_167 : decode cX7_isOpen 167 = .ok (.dload 10, 2) := by decide +kernel
theorem dX7_isOpen_169 : decode cX7_isOpen 169 = .ok (.aload_n 0, 1) := by decide +kernel
theorem dX7_isOpen_170 : decode cX7_isOpen 170 = .ok (.iload 9, 2) := by decide +kernel
theorem dX7_isOpen_172 : decode cX7_isOpen 172 = .ok (.iconst 0, 1) := by decide +kernel
theorem dX7_isOpen_173 : decode cX7_isOpen 173 = .ok (.invokevirtual 129, 3) := by decide +kernel
theorem dX7_isOpen_176 : decode cX7_isOpen 176 = .ok (.dadd, 1) := by decide +kernel
theorem dX7_isOpen_177 : decode cX7_isOpen 177 = .ok (.dcmp .g, 1) := by decide +kernel
theorem dX7_isOpen_178 : decode cX7_isOpen 178 = .ok (.ifCond .ge 32, 3) := by decide +kernel
theorem dX7_isOpen_181 : decode cX7_isOpen 181 = .ok (.dload_n 2, 1) := by decide +kernel
theorem dX7_isOpen_182 : decode cX7_isOpen 182 = .ok (.dload 4, 2) := by decide +kernel
theorem dX7_isOpen_184 : decode cX7_isOpen 184 = .ok (.dadd, 1) := by decide +kernel
theorem dX7_isOpen_185 : decode cX7_isOpen 185 = .ok (.dload 10, 2) := by decide +kernel
theorem dX7_isOpen_187 : decode cX7_isOpen 187 = .ok (.dcmp .l, 1) := by decide +kernel
theorem dX7_isOpen_188 : decode cX7_isOpen 188 = .ok (.ifCond .le 22, 3) := by decide +kernel
theorem dX7_isOpen_191 : decode cX7_isOpen 191 = .ok (.dconst 0, 1) := by decide +kernel
theorem dX7_isOpen_192 : decode cX7_isOpen 192 = .ok (.aload_n 0, 1) := by decide +kernel
theorem dX7_isOpen_193 : decode cX7_isOpen 193 = .ok (.iload 9, 2) := by decide +kernel
theorem dX7_isOpen_195 : decode cX7_isOpen 195 = .ok (.iconst 1, 1) := by decide +kernel
theorem dX7_isOpen_196 : decode cX7_isOpen 196 = .ok (.invokevirtual 129, 3) := by decide +kernel
theorem dX7_isOpen_199 : decode cX7_isOpen 199 = .ok (.dcmp .g, 1) := by decide +kernel
theorem dX7_isOpen_200 : decode cX7_isOpen 200 = .ok (.ifCond .ge 10, 3) := by decide +kernel
theorem dX7_isOpen_203 : decode cX7_isOpen 203 = .ok (.dload 6, 2) := by decide +kernel
theorem dX7_isOpen_205 : decode cX7_isOpen 205 = .ok (.dconst 0, 1) := by decide +kernel
theorem dX7_isOpen_206 : decode cX7_isOpen 206 = .ok (.dcmp .l, 1) := by decide +kernel
theorem dX7_isOpen_207 : decode cX7_isOpen 207 = .ok (.ifCond .gt 7, 3) := by decide +kernel
theorem dX7_isOpen_210 : decode cX7_isOpen 210 = .ok (.iconst 1, 1) := by decide +kernel
theorem dX7_isOpen_211 : decode cX7_isOpen 211 = .ok (.goto 4, 3) := by decide +kernel
theorem dX7_isOpen_214 : decode cX7_isOpen 214 = .ok (.iconst 0, 1) := by decide +kernel
theorem dX7_isOpen_215 : decode cX7_isOpen 215 = .ok (.istore 8, 2) := by decide +kernel
theorem dX7_isOpen_217 : decode cX7_isOpen 217 = .ok (.iinc 9 1, 3) := by decide +kernel
theorem dX7_isOpen_220 : decode cX7_isOpen 220 = .ok (.goto (-95), 3) := by decide +kernel
theorem dX7_isOpen_223 : decode cX7_isOpen 223 = .ok (.iload 8, 2) := by decide +kernel
theorem dX7_isOpen_225 : decode cX7_isOpen 225 = .ok (.ireturn, 1) := by decide +kernel
abbrev rm_X7_isOpen : Room := { frames := 6, cells := 0, slots := 0, locals := 90 }
theorem hw_X7_isOpen_1 : (Cond.fieldLink RX7 32 "PlankUnrollModel" "faultCount" "[I") ∈ wsX7_isOpen := List.mem_of_getElem? (i := 1) rfl
theorem hw_X7_isOpen_2 : (Cond.fieldLink RX7 36 "PlankUnrollModel" "faults" "[D") ∈ wsX7_isOpen := List.mem_of_getElem? (i := 2) rfl
theorem hw_X7_isOpen_3 : (Cond.fieldLink RX7 49 "PlankUnrollModel" "rows" "I") ∈ wsX7_isOpen := List.mem_of_getElem? (i := 3) rfl
theorem hw_X7_isOpen_4 : (Cond.fieldLink RX7 42 "PlankUnrollModel" "liesAt" "[I") ∈ wsX7_isOpen := List.mem_of_getElem? (i := 4) rfl
theorem hw_X7_isOpen_5 : (Cond.constantDouble RX7 127 (4620693217682128896)) ∈ wsX7_isOpen := List.mem_of_getElem? (i := 5) rfl
theorem hw_X7_isOpen_6 : (Cond.fieldLink RX7 39 "PlankUnrollModel" "liesOn" "[I") ∈ wsX7_isOpen := List.mem_of_getElem? (i := 6) rfl
theorem in_X7_isOpen_X7 : ∀ w ∈ wsX70, w ∈ wsX7_isOpen := by decide +kernel
set_option maxHeartbeats 4000000 in
set_option maxRecDepth 100000 in
/-- whether a place on a board is free -/
theorem c_X7_isOpen {l : Launch} {G : va_G} {ty : Nat → ClassId} {b0 : Nat} {H : Heap} {m0 : Nat} {A : Nat → Nat} {th : Int32} {F R nb : Nat} {pl co dr wi hi fa : Nat → UInt64} {un bu fc lo la : Nat → Int32} {px py pz : UInt64} (hY : xRef G ty m0 A th F R pl un co dr bu nb wi hi fc fa lo la px py pz H) (hZ : xSz F R) {b nf : Nat} {x w h ex ew eh : UInt64} (hb9 : b < nb) (hnb : nb ≤ 4) (hfc : fc b = nI nf) (hnf : nf ≤ 8) (hx9 : vq x ex) (hw9 : vq w ew) (hh9 : vq h eh) : xMet l yX7_isOpen wsX7_isOpen rm_X7_isOpen G ty b0 [.ref m0, .int (nI b), .double x, .double w, .double h] H (fun v H1 => H = H1 ∧ v = some (.int (xP (pOpen fa lo la co F R b nf ex ew eh)))) (fun _ _ => False) := by
  refine xbody (cc := cX7_isOpen) (maxL := 12) (ret := (some .boolean)) (C := RX7) (lv := [(0, .ref m0), (1, .int (nI b)), (2, .double x), (4, .double w), (6, .double h)]) (by decide) rfl rfl (Nat.le_of_ble_eq_true rfl) rfl ?_
  intro p e s m below meth c d0 hx hb hr hts hown hlocks hml hxt hnm0 hK hb0 hH0 hS hd0 ls hl
  obtain ⟨y_o, y_0, y_1, y_2, y_3, y_4, y_5, y_6, y_7, y_8, y_9, y_10⟩ := id hY
  obtain ⟨⟨zF2, zF8⟩, ⟨zR2, zR8⟩⟩ := id hZ
  refine lv_iconst (v := nI 1) hx hb dX7_isOpen_0 (by decide) ?_
  refine lv_istore (lv' := [(8, .int (nI 1)), (0, .ref m0), (1, .int (nI b)), (2, .double x), (4, .double w), (6, .double h)]) hx hb dX7_isOpen_1 hl (by decide) rfl (fun ls hl => ?_)
  refine lv_iconst (v := nI 0) hx hb dX7_isOpen_3 (by decide) ?_
  refine lv_istore (lv' := [(9, .int (nI 0)), (8, .int (nI 1)), (0, .ref m0), (1, .int (nI b)), (2, .double x), (4, .double w), (6, .double h)]) hx hb dX7_isOpen_4 hl (by decide) rfl (fun ls hl => ?_)
  have e0 : nI 1 = (xP (∀ k9 : Nat, k9 < 0 → ¬ pHitF fa b k9 ex ew eh)) := (xP_t (fun _ h => absurd h (Nat.not_lt_zero _))).symm
  suffices K : ∀ (q : Nat) (k : Nat) (locs : List Loc) (d0 : Drawn) (ls : Array Slot), k + q = nf → va_S (xA b0) s.heap H locs → s.drawn.sameBut d0 lw_cs → lv_has ls 12 [(9, .int (nI k)), (8, .int ((xP (∀ k9 : Nat, k9 < k → ¬ pHitF fa b k9 ex ew eh)))), (0, .ref m0), (1, .int (nI b)), (2, .double x), (4, .double w), (6, .double h)] → W p l e rm_X7_isOpen (s.setDrawn d0) m [Value.ref m0, Value.int (nI b), Value.double x, Value.double w, Value.double h].toArray below meth c H locs (0) (0) (xMQ below (fun v H1 => H = H1 ∧ v = some (.int (xP (pOpen fa lo la co F R b nf ex ew eh)))) (fun _ _ => False) [.ref m0, .int (nI b), .double x, .double w, .double h].toArray s rm_X7_isOpen b0) (F0 m 6 ls []) from K nf 0 _ d0 ls (by omega) hS hd0 (by rw [← e0]; exact lv_sub hl [0, 1, 2, 3, 4, 5, 6] rfl)
  intro q
  induction q with
  | zero =>
    intro k locs d0 ls hinv hS hd0 hl
    refine lv_iload hx hb dX7_isOpen_6 (lv_at hl 0 rfl) ?_
    refine lv_aload_n hx hb dX7_isOpen_8 rfl (lv_at hl 2 rfl) ?_
    refine va_get (D := G) (cl := vwCl) (ci := 8) (v := .ref (A 7)) (C := RX7) (T := TX7) (N := 18) hx hb (hts _) in_X7_isOpen_X7 hown hK.1 (x1 y_o) 0 rfl rfl 11 (by decide) (hts _ _ hw_X7_isOpen_1) (fun _ h9 => h9) rfl dX7_isOpen_9 ?_
    refine lv_iload_n hx hb dX7_isOpen_12 rfl (lv_at hl 3 rfl) ?_
    refine xiald (j := b) hx hb hK.1 1 y_7 rfl (xix_of (by omega) (by omega)) dX7_isOpen_13 ?_
    rw [hfc]
    refine xicmpN_ge (tgt := 122) hx hb (by omega) (by omega) dX7_isOpen_14 (by decide) (fun _ => ?_) (fun h9 => absurd h9 (by omega))
    refine lv_iconst (v := nI 0) hx hb dX7_isOpen_122 (by decide) ?_
    refine lv_istore (lv' := [(9, .int (nI 0)), (8, .int ((xP (∀ k9 : Nat, k9 < k → ¬ pHitF fa b k9 ex ew eh)))), (0, .ref m0), (1, .int (nI b)), (2, .double x), (4, .double w), (6, .double h)]) hx hb dX7_isOpen_123 hl (by decide) rfl (fun ls hl => ?_)
    have ek : k = nf := (by omega)
    subst ek
    have e1 : (xP (∀ k9 : Nat, k9 < k → ¬ pHitF fa b k9 ex ew eh)) = (xP ((∀ k9 : Nat, k9 < k → ¬ pHitF fa b k9 ex ew eh) ∧ ∀ t9 : Nat, t9 < 0 → ¬ pHitS lo la co F b t9 ex ew eh)) := xP_cg ⟨fun z => ⟨z, fun _ h => absurd h (Nat.not_lt_zero _)⟩, fun z => z.1⟩
    suffices K : ∀ (q : Nat) (t : Nat) (locs : List Loc) (d0 : Drawn) (ls : Array Slot), t + q = R - 1 → va_S (xA b0) s.heap H locs → s.drawn.sameBut d0 lw_cs → lv_has ls 12 [(9, .int (nI t)), (8, .int ((xP ((∀ k9 : Nat, k9 < k → ¬ pHitF fa b k9 ex ew eh) ∧ ∀ t9 : Nat, t9 < t → ¬ pHitS lo la co F b t9 ex ew eh)))), (0, .ref m0), (1, .int (nI b)), (2, .double x), (4, .double w), (6, .double h)] → W p l e rm_X7_isOpen (s.setDrawn d0) m [Value.ref m0, Value.int (nI b), Value.double x, Value.double w, Value.double h].toArray below meth c H locs (0) (0) (xMQ below (fun v H1 => H = H1 ∧ v = some (.int (xP (pOpen fa lo la co F R b k ex ew eh)))) (fun _ _ => False) [.ref m0, .int (nI b), .double x, .double w, .double h].toArray s rm_X7_isOpen b0) (F0 m 125 ls []) from K (R - 1) 0 _ d0 ls (by omega) hS hd0 (by rw [← e1]; exact lv_sub hl [0, 1, 2, 3, 4, 5, 6] rfl)
    intro q
    induction q with
    | zero =>
      intro t locs d0 ls hinv hS hd0 hl
      refine lv_iload hx hb dX7_isOpen_125 (lv_at hl 0 rfl) ?_
      refine lv_aload_n hx hb dX7_isOpen_127 rfl (lv_at hl 2 rfl) ?_
      refine va_get (D := G) (cl := vwCl) (ci := 8) (v := .int (nI R)) (C := RX7) (T := TX7) (N := 18) hx hb (hts _) in_X7_isOpen_X7 hown hK.1 (x1 y_o) 0 rfl rfl 2 (by decide) (hts _ _ hw_X7_isOpen_3) (fun _ h9 => h9) rfl dX7_isOpen_128 ?_
      refine lv_iconst (v := nI 1) hx hb dX7_isOpen_131 (by decide) ?_
      refine xisubN hx hb (by omega) dX7_isOpen_132 ?_
      refine xicmpN_ge (tgt := 223) hx hb (by omega) (by omega) dX7_isOpen_133 (by decide) (fun _ => ?_) (fun h9 => absurd h9 (by omega))
      refine lv_iload hx hb dX7_isOpen_223 (lv_at hl 1 rfl) ?_
      exact xzret (xP_nz _) hd0 hx hb hr hlocks hS (Nat.le_of_ble_eq_true rfl) (Nat.le_of_ble_eq_true rfl) dX7_isOpen_225 ⟨rfl, by have e9 : t = R - 1 := (by omega); subst e9; rfl⟩
    | succ q ih2 =>
      intro t locs d0 ls hinv hS hd0 hl
      refine lv_iload hx hb dX7_isOpen_125 (lv_at hl 0 rfl) ?_
      refine lv_aload_n hx hb dX7_isOpen_127 rfl (lv_at hl 2 rfl) ?_
      refine va_get (D := G) (cl := vwCl) (ci := 8) (v := .int (nI R)) (C := RX7) (T := TX7) (N := 18) hx hb (hts _) in_X7_isOpen_X7 hown hK.1 (x1 y_o) 0 rfl rfl 2 (by decide) (hts _ _ hw_X7_isOpen_3) (fun _ h9 => h9) rfl dX7_isOpen_128 ?_
      refine lv_iconst (v := nI 1) hx hb dX7_isOpen_131 (by decide) ?_
      refine xisubN hx hb (by omega) dX7_isOpen_132 ?_
      refine xicmpN_ge (tgt := 223) hx hb (by omega) (by omega) dX7_isOpen_133 (by decide) (fun h9 => absurd h9 (by omega)) (fun _ => ?_)
      have J_4 : ∀ (y : Int32) (locs : List Loc) (d0 : Drawn) (ls : Array Slot), y = (xP ((∀ k9 : Nat, k9 < k → ¬ pHitF fa b k9 ex ew eh) ∧ ∀ t9 : Nat, t9 < (t + 1) → ¬ pHitS lo la co F b t9 ex ew eh)) → va_S (xA b0) s.heap H locs → s.drawn.sameBut d0 lw_cs → lv_has ls 12 [(9, .int (nI t)), (8, .int ((xP ((∀ k9 : Nat, k9 < k → ¬ pHitF fa b k9 ex ew eh) ∧ ∀ t9 : Nat, t9 < t → ¬ pHitS lo la co F b t9 ex ew eh)))), (0, .ref m0), (1, .int (nI b)), (2, .double x), (4, .double w), (6, .double h)] → W p l e rm_X7_isOpen (s.setDrawn d0) m [Value.ref m0, Value.int (nI b), Value.double x, Value.double w, Value.double h].toArray below meth c H locs (0) (0) (xMQ below (fun v H1 => H = H1 ∧ v = some (.int (xP (pOpen fa lo la co F R b k ex ew eh)))) (fun _ _ => False) [.ref m0, .int (nI b), .double x, .double w, .double h].toArray s rm_X7_isOpen b0) (F0 m 215 ls [.int (y)]) := by
        intro y locs d0 ls hP_4 hS hd0 hl
        subst hP_4
        refine lv_istore (lv' := [(8, .int ((xP ((∀ k9 : Nat, k9 < k → ¬ pHitF fa b k9 ex ew eh) ∧ ∀ t9 : Nat, t9 < (t + 1) → ¬ pHitS lo la co F b t9 ex ew eh)))), (9, .int (nI t)), (0, .ref m0), (1, .int (nI b)), (2, .double x), (4, .double w), (6, .double h)]) hx hb dX7_isOpen_215 hl (by decide) rfl (fun ls hl => ?_)
        refine xiincN (x := t) (y := 1) (lv' := [(9, .int (nI (t + 1))), (8, .int ((xP ((∀ k9 : Nat, k9 < k → ¬ pHitF fa b k9 ex ew eh) ∧ ∀ t9 : Nat, t9 < (t + 1) → ¬ pHitS lo la co F b t9 ex ew eh)))), (0, .ref m0), (1, .int (nI b)), (2, .double x), (4, .double w), (6, .double h)]) hx hb dX7_isOpen_217 hl (k := 1) rfl (by decide) (by decide) rfl (fun ls hl => ?_)
        refine lv_goto (tgt := 125) hx hb dX7_isOpen_220 (by decide) ?_
        exact ih2 (t + 1) _ d0 ls (by omega) hS hd0 (lv_sub hl [0, 1, 2, 3, 4, 5, 6] rfl)
      refine lv_aload_n hx hb dX7_isOpen_136 rfl (lv_at hl 2 rfl) ?_
      refine va_get (D := G) (cl := vwCl) (ci := 8) (v := .ref (A 10)) (C := RX7) (T := TX7) (N := 18) hx hb (hts _) in_X7_isOpen_X7 hown hK.1 (x1 y_o) 0 rfl rfl 14 (by decide) (hts _ _ hw_X7_isOpen_4) (fun _ h9 => h9) rfl dX7_isOpen_137 ?_
      refine lv_iload hx hb dX7_isOpen_140 (lv_at hl 0 rfl) ?_
      refine xiald (j := t) hx hb hK.1 1 y_10 rfl (xix_of (by omega) (by omega)) dX7_isOpen_142 ?_
      refine lv_i2d hx hb dX7_isOpen_143 ?_
      refine lv_ldc2d hx hb hown (hts _ _ hw_X7_isOpen_5) dX7_isOpen_144 ?_
      refine xddiv hd0 hx hb (vq_rf _) (vq_rf _) dX7_isOpen_147 (fun r_5 d0 q_5 hd0 => ?_)
      refine lv_dstore (lv' := [(10, .double r_5), (9, .int (nI t)), (8, .int ((xP ((∀ k9 : Nat, k9 < k → ¬ pHitF fa b k9 ex ew eh) ∧ ∀ t9 : Nat, t9 < t → ¬ pHitS lo la co F b t9 ex ew eh)))), (0, .ref m0), (1, .int (nI b)), (2, .double x), (4, .double w), (6, .double h)]) hx hb dX7_isOpen_148 hl (by decide) rfl (fun ls hl => ?_)
      refine lv_iload hx hb dX7_isOpen_150 (lv_at hl 2 rfl) ?_
      refine lv_if_eq (tgt := 214) hx hb dX7_isOpen_152 (by decide) (fun c_6 => ?_) (fun c_6 => ?_)
      · refine lv_iconst (v := nI 0) hx hb dX7_isOpen_214 (by decide) ?_
        exact J_4 _ _ d0 ls (xP_f (fun z => xP_eq.mp c_6 ⟨z.1, fun t9 ht9 => z.2 t9 (by omega)⟩)).symm hS hd0 (lv_sub hl [1, 2, 3, 4, 5, 6, 7] rfl)
      · refine lv_aload_n hx hb dX7_isOpen_155 rfl (lv_at hl 3 rfl) ?_
        refine va_get (D := G) (cl := vwCl) (ci := 8) (v := .ref (A 9)) (C := RX7) (T := TX7) (N := 18) hx hb (hts _) in_X7_isOpen_X7 hown hK.1 (x1 y_o) 0 rfl rfl 13 (by decide) (hts _ _ hw_X7_isOpen_6) (fun _ h9 => h9) rfl dX7_isOpen_156 ?_
        refine lv_iload hx hb dX7_isOpen_159 (lv_at hl 1 rfl) ?_
        refine xiald (j := t) hx hb hK.1 1 y_9 rfl (xix_of (by omega) (by omega)) dX7_isOpen_161 ?_
        refine lv_iload_n hx hb dX7_isOpen_162 rfl (lv_at hl 4 rfl) ?_
        refine lv_icmp_ne (tgt := 210) hx hb dX7_isOpen_163 (by decide) (fun c_7 => ?_) (fun c_7 => ?_)
        · refine lv_iconst (v := nI 1) hx hb dX7_isOpen_210 (by decide) ?_
          refine lv_goto (tgt := 215) hx hb dX7_isOpen_211 (by decide) ?_
          exact J_4 _ _ d0 ls (xP_t ⟨(xP_ne.mp c_6).1, xall_s (xP_ne.mp c_6).2 (fun z => c_7 z.1)⟩).symm hS hd0 (lv_sub hl [1, 2, 3, 4, 5, 6, 7] rfl)
        · refine lv_dload_n hx hb dX7_isOpen_166 rfl (lv_at hl 5 rfl) ?_
          refine lv_dload hx hb dX7_isOpen_167 (lv_at hl 0 rfl) ?_
          refine lv_aload_n hx hb dX7_isOpen_169 rfl (lv_at hl 3 rfl) ?_
          refine lv_iload hx hb dX7_isOpen_170 (lv_at hl 1 rfl) ?_
          refine lv_iconst (v := nI 0) hx hb dX7_isOpen_172 (by decide) ?_
          have cw_8 := cwV (R := rm_X7_isOpen) (rm := rm_X7_size) 2 (hts d0) gX7_isOpen_X7_size rfl rfl rfl (by decide +kernel) ⟨Nat.le_of_ble_eq_true rfl, Nat.le_of_ble_eq_true rfl⟩
          refine xcall hd0 (xintoV (b := m0) (As := [.int (nI t), .int (nI 0)]) (rest := [.double r_5, .double x]) ⟨hx, hb, hml, hown, hts _⟩ cw_8 (va_recv hK.1 (x1 y_o) (ci := 8) (q0 := 0) rfl rfl) rfl rfl hl.1 rfl (lv_room (Nat.le_of_ble_eq_true rfl)) dX7_isOpen_173) (c_X7_size (l := l) (G := G) (ty := ty) (b0 := b0) hY hZ (x := t) (ax := 0) (by omega) (by omega)) (xoweB cw_8.1) hK hb0 hS (Nat.le_of_ble_eq_true rfl) (Nat.le_of_ble_eq_true rfl) (fun E_8 ce_8 q9_8 H_8 locs_8 d0 hd0 hp_8 hS hce_8 hcv_8 hcl_8 => ?_) (fun v_8 H_8 locs_8 d0 hd0 hp_8 hS => ?_)
          · exact hp_8.elim
          · obtain ⟨rfl, r_8, rfl, q_8⟩ := hp_8
            show W p l e _ (s.setDrawn _) m _ below meth c _ _ _ _ _ (F0 m 176 ls [.double r_8, .double r_5, .double x])
            refine xdadd hd0 hx hb q_5 q_8 dX7_isOpen_176 (fun r_9 d0 q_9 hd0 => ?_)
            refine xcmp_g_ge (tgt := 210) hx hb hx9 q_9 dX7_isOpen_177 dX7_isOpen_178 (by decide) (fun c_10 => ?_) (fun c_10 => ?_)
            · refine lv_iconst (v := nI 1) hx hb dX7_isOpen_210 (by decide) ?_
              refine lv_goto (tgt := 215) hx hb dX7_isOpen_211 (by decide) ?_
              exact J_4 _ _ d0 ls (xP_t ⟨(xP_ne.mp c_6).1, xall_s (xP_ne.mp c_6).2 (fun z => xtf z.2.1 c_10)⟩).symm hS hd0 (lv_sub hl [1, 2, 3, 4, 5, 6, 7] rfl)
            · refine lv_dload_n hx hb dX7_isOpen_181 rfl (lv_at hl 5 rfl) ?_
              refine lv_dload hx hb dX7_isOpen_182 (lv_at hl 6 rfl) ?_
              refine xdadd hd0 hx hb hx9 hw9 dX7_isOpen_184 (fun r_11 d0 q_11 hd0 => ?_)
              refine lv_dload hx hb dX7_isOpen_185 (lv_at hl 0 rfl) ?_
              refine xcmp_l_le (tgt := 210) hx hb q_11 q_5 dX7_isOpen_187 dX7_isOpen_188 (by decide) (fun c_12 => ?_) (fun c_12 => ?_)
              · refine lv_iconst (v := nI 1) hx hb dX7_isOpen_210 (by decide) ?_
                refine lv_goto (tgt := 215) hx hb dX7_isOpen_211 (by decide) ?_
                exact J_4 _ _ d0 ls (xP_t ⟨(xP_ne.mp c_6).1, xall_s (xP_ne.mp c_6).2 (fun z => xtf z.2.2.1 c_12)⟩).symm hS hd0 (lv_sub hl [1, 2, 3, 4, 5, 6, 7] rfl)
              · refine lv_dconst0 hx hb dX7_isOpen_191 ?_
                refine lv_aload_n hx hb dX7_isOpen_192 rfl (lv_at hl 3 rfl) ?_
                refine lv_iload hx hb dX7_isOpen_193 (lv_at hl 1 rfl) ?_
                refine lv_iconst (v := nI 1) hx hb dX7_isOpen_195 (by decide) ?_
                have cw_13 := cwV (R := rm_X7_isOpen) (rm := rm_X7_size) 2 (hts d0) gX7_isOpen_X7_size rfl rfl rfl (by decide +kernel) ⟨Nat.le_of_ble_eq_true rfl, Nat.le_of_ble_eq_true rfl⟩
                refine xcall hd0 (xintoV (b := m0) (As := [.int (nI t), .int (nI 1)]) (rest := [.double FP.dconst0]) ⟨hx, hb, hml, hown, hts _⟩ cw_13 (va_recv hK.1 (x1 y_o) (ci := 8) (q0 := 0) rfl rfl) rfl rfl hl.1 rfl (lv_room (Nat.le_of_ble_eq_true rfl)) dX7_isOpen_196) (c_X7_size (l := l) (G := G) (ty := ty) (b0 := b0) hY hZ (x := t) (ax := 1) (by omega) (by omega)) (xoweB cw_13.1) hK hb0 hS (Nat.le_of_ble_eq_true rfl) (Nat.le_of_ble_eq_true rfl) (fun E_13 ce_13 q9_13 H_13 locs_13 d0 hd0 hp_13 hS hce_13 hcv_13 hcl_13 => ?_) (fun v_13 H_13 locs_13 d0 hd0 hp_13 hS => ?_)
                · exact hp_13.elim
                · obtain ⟨rfl, r_13, rfl, q_13⟩ := hp_13
                  show W p l e _ (s.setDrawn _) m _ below meth c _ _ _ _ _ (F0 m 199 ls [.double r_13, .double FP.dconst0])
                  refine xcmp_g_ge (tgt := 210) hx hb (vq_rf _) q_13 dX7_isOpen_199 dX7_isOpen_200 (by decide) (fun c_14 => ?_) (fun c_14 => ?_)
                  · refine lv_iconst (v := nI 1) hx hb dX7_isOpen_210 (by decide) ?_
                    refine lv_goto (tgt := 215) hx hb dX7_isOpen_211 (by decide) ?_
                    exact J_4 _ _ d0 ls (xP_t ⟨(xP_ne.mp c_6).1, xall_s (xP_ne.mp c_6).2 (fun z => xtf z.2.2.2.1 c_14)⟩).symm hS hd0 (lv_sub hl [1, 2, 3, 4, 5, 6, 7] rfl)
                  · refine lv_dload hx hb dX7_isOpen_203 (lv_at hl 7 rfl) ?_
                    refine lv_dconst0 hx hb dX7_isOpen_205 ?_
                    refine xcmp_l_gt (tgt := 214) hx hb hh9 (vq_rf _) dX7_isOpen_206 dX7_isOpen_207 (by decide) (fun c_15 => ?_) (fun c_15 => ?_)
                    · refine lv_iconst (v := nI 0) hx hb dX7_isOpen_214 (by decide) ?_
                      exact J_4 _ _ d0 ls (xP_f (fun z => z.2 t (by omega) ⟨c_7, c_10, c_12, c_14, c_15⟩)).symm hS hd0 (lv_sub hl [1, 2, 3, 4, 5, 6, 7] rfl)
                    · refine lv_iconst (v := nI 1) hx hb dX7_isOpen_210 (by decide) ?_
                      refine lv_goto (tgt := 215) hx hb dX7_isOpen_211 (by decide) ?_
                      exact J_4 _ _ d0 ls (xP_t ⟨(xP_ne.mp c_6).1, xall_s (xP_ne.mp c_6).2 (fun z => xtf z.2.2.2.2 c_15)⟩).symm hS hd0 (lv_sub hl [1, 2, 3, 4, 5, 6, 7] rfl)
  | succ q ih =>
    intro k locs d0 ls hinv hS hd0 hl
    refine lv_iload hx hb dX7_isOpen_6 (lv_at hl 0 rfl) ?_
    refine lv_aload_n hx hb dX7_isOpen_8 rfl (lv_at hl 2 rfl) ?_
    refine va_get (D := G) (cl := vwCl) (ci := 8) (v := .ref (A 7)) (C := RX7) (T := TX7) (N := 18) hx hb (hts _) in_X7_isOpen_X7 hown hK.1 (x1 y_o) 0 rfl rfl 11 (by decide) (hts _ _ hw_X7_isOpen_1) (fun _ h9 => h9) rfl dX7_isOpen_9 ?_
    refine lv_iload_n hx hb dX7_isOpen_12 rfl (lv_at hl 3 rfl) ?_
    refine xiald (j := b) hx hb hK.1 1 y_7 rfl (xix_of (by omega) (by omega)) dX7_isOpen_13 ?_
    rw [hfc]
    refine xicmpN_ge (tgt := 122) hx hb (by omega) (by omega) dX7_isOpen_14 (by decide) (fun h9 => absurd h9 (by omega)) (fun _ => ?_)
    refine lv_bipush (v := nI 32) hx hb dX7_isOpen_17 (by decide) ?_
    refine lv_iload_n hx hb dX7_isOpen_19 rfl (lv_at hl 3 rfl) ?_
    refine ximulN hx hb dX7_isOpen_20 ?_
    refine lv_iconst (v := nI 4) hx hb dX7_isOpen_21 (by decide) ?_
    refine lv_iload hx hb dX7_isOpen_22 (lv_at hl 0 rfl) ?_
    refine ximulN hx hb dX7_isOpen_24 ?_
    refine xiaddN hx hb dX7_isOpen_25 ?_
    refine lv_istore (lv' := [(10, .int (nI ((32 * b) + (4 * k)))), (9, .int (nI k)), (8, .int ((xP (∀ k9 : Nat, k9 < k → ¬ pHitF fa b k9 ex ew eh)))), (0, .ref m0), (1, .int (nI b)), (2, .double x), (4, .double w), (6, .double h)]) hx hb dX7_isOpen_26 hl (by decide) rfl (fun ls hl => ?_)
    have J_17 : ∀ (y : Int32) (locs : List Loc) (d0 : Drawn) (ls : Array Slot), y = (xP (∀ k9 : Nat, k9 < (k + 1) → ¬ pHitF fa b k9 ex ew eh)) → va_S (xA b0) s.heap H locs → s.drawn.sameBut d0 lw_cs → lv_has ls 12 [(9, .int (nI k)), (8, .int ((xP (∀ k9 : Nat, k9 < k → ¬ pHitF fa b k9 ex ew eh)))), (0, .ref m0), (1, .int (nI b)), (2, .double x), (4, .double w), (6, .double h)] → W p l e rm_X7_isOpen (s.setDrawn d0) m [Value.ref m0, Value.int (nI b), Value.double x, Value.double w, Value.double h].toArray below meth c H locs (0) (0) (xMQ below (fun v H1 => H = H1 ∧ v = some (.int (xP (pOpen fa lo la co F R b nf ex ew eh)))) (fun _ _ => False) [.ref m0, .int (nI b), .double x, .double w, .double h].toArray s rm_X7_isOpen b0) (F0 m 114 ls [.int (y)]) := by
      intro y locs d0 ls hP_17 hS hd0 hl
      subst hP_17
      refine lv_istore (lv' := [(8, .int ((xP (∀ k9 : Nat, k9 < (k + 1) → ¬ pHitF fa b k9 ex ew eh)))), (9, .int (nI k)), (0, .ref m0), (1, .int (nI b)), (2, .double x), (4, .double w), (6, .double h)]) hx hb dX7_isOpen_114 hl (by decide) rfl (fun ls hl => ?_)
      refine xiincN (x := k) (y := 1) (lv' := [(9, .int (nI (k + 1))), (8, .int ((xP (∀ k9 : Nat, k9 < (k + 1) → ¬ pHitF fa b k9 ex ew eh)))), (0, .ref m0), (1, .int (nI b)), (2, .double x), (4, .double w), (6, .double h)]) hx hb dX7_isOpen_116 hl (k := 1) rfl (by decide) (by decide) rfl (fun ls hl => ?_)
      refine lv_goto (tgt := 6) hx hb dX7_isOpen_119 (by decide) ?_
      exact ih (k + 1) _ d0 ls (by omega) hS hd0 (lv_sub hl [0, 1, 2, 3, 4, 5, 6] rfl)
    refine lv_iload hx hb dX7_isOpen_28 (lv_at hl 2 rfl) ?_
    refine lv_if_eq (tgt := 113) hx hb dX7_isOpen_30 (by decide) (fun c_18 => ?_) (fun c_18 => ?_)
    · refine lv_iconst (v := nI 0) hx hb dX7_isOpen_113 (by decide) ?_
      exact J_17 _ _ d0 ls (xP_f (fun z => xP_eq.mp c_18 (fun k9 hk9 => z k9 (by omega)))).symm hS hd0 (lv_sub hl [1, 2, 3, 4, 5, 6, 7] rfl)
    · refine lv_dload_n hx hb dX7_isOpen_33 rfl (lv_at hl 5 rfl) ?_
      refine lv_aload_n hx hb dX7_isOpen_34 rfl (lv_at hl 3 rfl) ?_
      refine va_get (D := G) (cl := vwCl) (ci := 8) (v := .ref (A 8)) (C := RX7) (T := TX7) (N := 18) hx hb (hts _) in_X7_isOpen_X7 hown hK.1 (x1 y_o) 0 rfl rfl 12 (by decide) (hts _ _ hw_X7_isOpen_2) (fun _ h9 => h9) rfl dX7_isOpen_35 ?_
      refine lv_iload hx hb dX7_isOpen_38 (lv_at hl 0 rfl) ?_
      refine xdald (j := (32 * b) + (4 * k)) hx hb hK.1 0 y_8 rfl (xix_of (by omega) (by omega)) dX7_isOpen_40 ?_
      refine lv_aload_n hx hb dX7_isOpen_41 rfl (lv_at hl 3 rfl) ?_
      refine va_get (D := G) (cl := vwCl) (ci := 8) (v := .ref (A 8)) (C := RX7) (T := TX7) (N := 18) hx hb (hts _) in_X7_isOpen_X7 hown hK.1 (x1 y_o) 0 rfl rfl 12 (by decide) (hts _ _ hw_X7_isOpen_2) (fun _ h9 => h9) rfl dX7_isOpen_42 ?_
      refine lv_iload hx hb dX7_isOpen_45 (lv_at hl 0 rfl) ?_
      refine lv_iconst (v := nI 2) hx hb dX7_isOpen_47 (by decide) ?_
      refine xiaddN hx hb dX7_isOpen_48 ?_
      refine xdald (j := ((32 * b) + (4 * k)) + 2) hx hb hK.1 0 y_8 rfl (xix_of (by omega) (by omega)) dX7_isOpen_49 ?_
      refine xdadd hd0 hx hb (vq_rf _) (vq_rf _) dX7_isOpen_50 (fun r_19 d0 q_19 hd0 => ?_)
      refine xcmp_g_ge (tgt := 109) hx hb hx9 q_19 dX7_isOpen_51 dX7_isOpen_52 (by decide) (fun c_20 => ?_) (fun c_20 => ?_)
      · refine lv_iconst (v := nI 1) hx hb dX7_isOpen_109 (by decide) ?_
        refine lv_goto (tgt := 114) hx hb dX7_isOpen_110 (by decide) ?_
        exact J_17 _ _ d0 ls (xP_t (xall_s (xP_ne.mp c_18) (fun z => xtf z.1 c_20))).symm hS hd0 (lv_sub hl [1, 2, 3, 4, 5, 6, 7] rfl)
      · refine lv_dload_n hx hb dX7_isOpen_55 rfl (lv_at hl 5 rfl) ?_
        refine lv_dload hx hb dX7_isOpen_56 (lv_at hl 6 rfl) ?_
        refine xdadd hd0 hx hb hx9 hw9 dX7_isOpen_58 (fun r_21 d0 q_21 hd0 => ?_)
        refine lv_aload_n hx hb dX7_isOpen_59 rfl (lv_at hl 3 rfl) ?_
        refine va_get (D := G) (cl := vwCl) (ci := 8) (v := .ref (A 8)) (C := RX7) (T := TX7) (N := 18) hx hb (hts _) in_X7_isOpen_X7 hown hK.1 (x1 y_o) 0 rfl rfl 12 (by decide) (hts _ _ hw_X7_isOpen_2) (fun _ h9 => h9) rfl dX7_isOpen_60 ?_
        refine lv_iload hx hb dX7_isOpen_63 (lv_at hl 0 rfl) ?_
        refine xdald (j := (32 * b) + (4 * k)) hx hb hK.1 0 y_8 rfl (xix_of (by omega) (by omega)) dX7_isOpen_65 ?_
        refine xcmp_l_le (tgt := 109) hx hb q_21 (vq_rf _) dX7_isOpen_66 dX7_isOpen_67 (by decide) (fun c_22 => ?_) (fun c_22 => ?_)
        · refine lv_iconst (v := nI 1) hx hb dX7_isOpen_109 (by decide) ?_
          refine lv_goto (tgt := 114) hx hb dX7_isOpen_110 (by decide) ?_
          exact J_17 _ _ d0 ls (xP_t (xall_s (xP_ne.mp c_18) (fun z => xtf z.2.1 c_22))).symm hS hd0 (lv_sub hl [1, 2, 3, 4, 5, 6, 7] rfl)
        · refine lv_dconst0 hx hb dX7_isOpen_70 ?_
          refine lv_aload_n hx hb dX7_isOpen_71 rfl (lv_at hl 3 rfl) ?_
          refine va_get (D := G) (cl := vwCl) (ci := 8) (v := .ref (A 8)) (C := RX7) (T := TX7) (N := 18) hx hb (hts _) in_X7_isOpen_X7 hown hK.1 (x1 y_o) 0 rfl rfl 12 (by decide) (hts _ _ hw_X7_isOpen_2) (fun _ h9 => h9) rfl dX7_isOpen_72 ?_
          refine lv_iload hx hb dX7_isOpen_75 (lv_at hl 0 rfl) ?_
          refine lv_iconst (v := nI 1) hx hb dX7_isOpen_77 (by decide) ?_
          refine xiaddN hx hb dX7_isOpen_78 ?_
          refine xdald (j := ((32 * b) + (4 * k)) + 1) hx hb hK.1 0 y_8 rfl (xix_of (by omega) (by omega)) dX7_isOpen_79 ?_
          refine lv_aload_n hx hb dX7_isOpen_80 rfl (lv_at hl 3 rfl) ?_
          refine va_get (D := G) (cl := vwCl) (ci := 8) (v := .ref (A 8)) (C := RX7) (T := TX7) (N := 18) hx hb (hts _) in_X7_isOpen_X7 hown hK.1 (x1 y_o) 0 rfl rfl 12 (by decide) (hts _ _ hw_X7_isOpen_2) (fun _ h9 => h9) rfl dX7_isOpen_81 ?_
          refine lv_iload hx hb dX7_isOpen_84 (lv_at hl 0 rfl) ?_
          refine lv_iconst (v := nI 3) hx hb dX7_isOpen_86 (by decide) ?_
          refine xiaddN hx hb dX7_isOpen_87 ?_
          refine xdald (j := ((32 * b) + (4 * k)) + 3) hx hb hK.1 0 y_8 rfl (xix_of (by omega) (by omega)) dX7_isOpen_88 ?_
          refine xdadd hd0 hx hb (vq_rf _) (vq_rf _) dX7_isOpen_89 (fun r_23 d0 q_23 hd0 => ?_)
          refine xcmp_g_ge (tgt := 109) hx hb (vq_rf _) q_23 dX7_isOpen_90 dX7_isOpen_91 (by decide) (fun c_24 => ?_) (fun c_24 => ?_)
          · refine lv_iconst (v := nI 1) hx hb dX7_isOpen_109 (by decide) ?_
            refine lv_goto (tgt := 114) hx hb dX7_isOpen_110 (by decide) ?_
            exact J_17 _ _ d0 ls (xP_t (xall_s (xP_ne.mp c_18) (fun z => xtf z.2.2.1 c_24))).symm hS hd0 (lv_sub hl [1, 2, 3, 4, 5, 6, 7] rfl)
          · refine lv_dload hx hb dX7_isOpen_94 (lv_at hl 7 rfl) ?_
            refine lv_aload_n hx hb dX7_isOpen_96 rfl (lv_at hl 3 rfl) ?_
            refine va_get (D := G) (cl := vwCl) (ci := 8) (v := .ref (A 8)) (C := RX7) (T := TX7) (N := 18) hx hb (hts _) in_X7_isOpen_X7 hown hK.1 (x1 y_o) 0 rfl rfl 12 (by decide) (hts _ _ hw_X7_isOpen_2) (fun _ h9 => h9) rfl dX7_isOpen_97 ?_
            refine lv_iload hx hb dX7_isOpen_100 (lv_at hl 0 rfl) ?_
            refine lv_iconst (v := nI 1) hx hb dX7_isOpen_102 (by decide) ?_
            refine xiaddN hx hb dX7_isOpen_103 ?_
            refine xdald (j := ((32 * b) + (4 * k)) + 1) hx hb hK.1 0 y_8 rfl (xix_of (by omega) (by omega)) dX7_isOpen_104 ?_
            refine xcmp_l_gt (tgt := 113) hx hb hh9 (vq_rf _) dX7_isOpen_105 dX7_isOpen_106 (by decide) (fun c_25 => ?_) (fun c_25 => ?_)
            · refine lv_iconst (v := nI 0) hx hb dX7_isOpen_113 (by decide) ?_
              exact J_17 _ _ d0 ls (xP_f (fun z => z k (by omega) ⟨c_20, c_22, c_24, c_25⟩)).symm hS hd0 (lv_sub hl [1, 2, 3, 4, 5, 6, 7] rfl)
            · refine lv_iconst (v := nI 1) hx hb dX7_isOpen_109 (by decide) ?_
              refine lv_goto (tgt := 114) hx hb dX7_isOpen_110 (by decide) ?_
              exact J_17 _ _ d0 ls (xP_t (xall_s (xP_ne.mp c_18) (fun z => xtf z.2.2.2 c_25))).symm hS hd0 (lv_sub hl [1, 2, 3, 4, 5, 6, 7] rfl)
