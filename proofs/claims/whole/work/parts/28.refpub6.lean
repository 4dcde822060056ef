/-! THE REFERENCE: point. -/
/-- whether a place told is another one -/
def pNew (pl : Nat → UInt64) (f r : Nat) (x y z : UInt64) : Prop := ¬ (xeq (pAt pl f r 0) x = true ∧ xeq (pAt pl f r 1) y = true ∧ xeq (pAt pl f r 2) z = true)
theorem xupd_in {f : Nat → Int32} {k : Nat} {v : Int32} (h : ∀ j : Nat, j < k → f j = v) : ∀ j : Nat, j < k + 1 → upd f k v j = v := by
  intro j hj
  unfold upd
  by_cases e : j = k
  · exact if_pos e
  · rw [if_neg e]; exact h j (by omega)
set_option maxRecDepth 20000 in
theorem ggX7_point_X7_between : GoodIn wsX7_point wsX7_between := goodIn_r _ [11] (by decide +kernel) (by decide +kernel)
set_option maxRecDepth 20000 in
theorem gX7_point_X7_between : GoodIn wsX7_point (va_wsS RX7 61 yX7_between wsX7_between) := goodIn_app (goodIn_of _ (by decide +kernel)) ggX7_point_X7_between
set_option maxRecDepth 20000 in
theorem ggX7_point_X7_noPlace : GoodIn wsX7_point wsX7_noPlace := goodIn_r _ [15, 16, 17, 22, 23, 24, 25, 26, 27, 28, 29, 30, 31, 32, 33, 34, 35, 36, 37, 38, 39] (by decide +kernel) (by decide +kernel)
set_option maxRecDepth 20000 in
theorem gX7_point_X7_noPlace : GoodIn wsX7_point (wsV RX7 65 RX7 yX7_noPlace wsX7_noPlace) := goodIn_app (goodIn_of _ (by decide +kernel)) ggX7_point_X7_noPlace
set_option maxRecDepth 20000 in
theorem ggX7_point_X7_at : GoodIn wsX7_point wsX7_at := goodIn_r _ [21, 4, 22, 23, 24, 25, 26, 27, 28, 29, 30, 31, 32, 33, 34, 35, 36, 37, 38, 39] (by decide +kernel) (by decide +kernel)
set_option maxRecDepth 20000 in
theorem gX7_point_X7_at : GoodIn wsX7_point (wsV RX7 69 RX7 yX7_at wsX7_at) := goodIn_app (goodIn_of _ (by decide +kernel)) ggX7_point_X7_at
theorem dX7_point_0 : decode cX7_point 0 = .ok (.dload_n 3, 1) := by decide +kernel
theorem dX7_point_1 : decode cX7_point 1 = .ok (.ldc2_w 57, 3) := by decide +kernel
theorem dX7_point_4 : decode cX7_point 4 = .ok (.ldc2_w 59, 3) := by decide +kernel
theorem dX7_point_7 : decode cX7_point 7 = .ok (.invokestatic 61, 3) := by decide +kernel
theorem dX7_point_10 : decode cX7_point 10 = .ok (.ifCond .eq 35, 3) := by decide +kernel
theorem dX7_point_13 : decode cX7_point 13 = .ok (.dload 5, 2) := by decide +kernel
theorem dX7_point_15 : decode cX7_point 15 = .ok (.ldc2_w 57, 3) := by decide +kernel
theorem dX7_point_18 : decode cX7_point 18 = .ok (.ldc2_w 59, 3) := by decide +kernel
theorem dX7_point_21 : decode cX7_point 21 = .ok (.invokestatic 61, 3) := by decide +kernel
theorem dX7_point_24 : decode cX7_point 24 = .ok (.ifCond .eq 21, 3) := by decide +kernel
theorem dX7_point_27 : decode cX7_point 27 = .ok (.dload 7, 2) := by decide +kernel
theorem dX7_point_29 : decode cX7_point 29 = .ok (.ldc2_w 57, 3) := by decide +kernel
theorem dX7_point_32 : decode cX7_point 32 = .ok (.ldc2_w 59, 3) := by decide +kernel
theorem dX7_point_35 : decode cX7_point 35 = .ok (.invokestatic 61, 3) := by decide +kernel
theorem dX7_point_38 : decode cX7_point 38 = .ok (.ifCond .eq 7, 3) := by decide +kernel
theorem dX7_point_41 : decode cX7_point 41 = .ok (.iconst 1, 1) := by decide +kernel
theorem dX7_point_42 : decode cX7_point 42 = .ok (.goto 4, 3) := by decide +kernel
theorem dX7_point_45 : decode cX7_point 45 = .ok (.iconst 0, 1) := by decide +kernel
theorem dX7_point_46 : decode cX7_point 46 = .ok (.istore 9, 2) := by decide +kernel
theorem dX7_point_48 : decode cX7_point 48 = .ok (.aload_n 0, 1) := by decide +kernel
theorem dX7_point_49 : decode cX7_point 49 = .ok (.aload_n 0, 1) := by decide +kernel
theorem dX7_point_50 : decode cX7_point 50 = .ok (.iload_n 1, 1) := by decide +kernel
theorem dX7_point_51 : decode cX7_point 51 = .ok (.iload_n 2, 1) := by decide +kernel
theorem dX7_point_52 : decode cX7_point 52 = .ok (.invokevirtual 65, 3) := by decide +kernel
theorem dX7_point_55 : decode cX7_point 55 = .ok (.ifCond .eq 7, 3) := by decide +kernel
theorem dX7_point_58 : decode cX7_point 58 = .ok (.iconst 1, 1) := by decide +kernel
theorem dX7_point_59 : decode cX7_point 59 = .ok (.goto 13, 3) := by decide +kernel
theorem dX7_point_62 : decode cX7_point 62 = .ok (.iload 9, 2) := by decide +kernel
theorem dX7_point_64 : decode cX7_point 64 = .ok (.ifCond .eq 7, 3) := by decide +kernel
theorem dX7_point_67 : decode cX7_point 67 = .ok (.iconst 0, 1) := by decide +kernel
theorem dX7_point_68 : decode cX7_point 68 = .ok (.goto 4, 3) := by decide +kernel
theorem dX7_point_71 : decode cX7_point 71 = .ok (.iconst 2, 1) := by decide +kernel
theorem dX7_point_72 : decode cX7_point 72 = .ok (.putfield 52, 3) := by decide +kernel
theorem dX7_point_75 : decode cX7_point 75 = .ok (.aload_n 0, 1) := by decide +kernel
theorem dX7_point_76 : decode cX7_point 76 = .ok (.getfield 52, 3) := by decide +kernel
theorem dX7_point_79 : decode cX7_point 79 = .ok (.ifCond .le 5, 3) := by decide +kernel
theorem dX7_point_82 : decode cX7_point 82 = .ok (.iconst 0, 1) := by decide +kernel
theorem dX7_point_83 : decode cX7_point 83 = .ok (.ireturn, 1) := by decide +kernel
theorem dX7_point_84 : decode cX7_point 84 = .ok (.aload_n 0, 1) := by decide +kernel
theorem dX7_point_85 : decode cX7_point 85 = .ok (.iload_n 1, 1) := by decide +kernel
theorem dX7_point_86 : decode cX7_point 86 = .ok (.iload_n 2, 1) := by decide +kernel
theorem dX7_point_87 : decode cX7_point 87 = .ok (.iconst 0, 1) := by decide +kernel
theorem dX7_point_88 : decode cX7_point 88 = .ok (.invokevirtual 69, 3) := by decide +kernel
theorem dX7_point_91 : decode cX7_point 91 = .ok (.dload_n 3, 1) := by decide +kernel
theorem dX7_point_92 : decode cX7_point 92 = .ok (.dcmp .l, 1) := by decide +kernel
theorem dX7_point_93 : decode cX7_point 93 = .ok (.ifCond .ne 29, 3) := by decide +kernel
theorem dX7_point_96 : decode cX7_point 96 = .ok (.aload_n 0, 1) := by decide +kernel
theorem dX7_point_97 : decode cX7_point 97 = .ok (.iload_n 1, 1) := by decide +kernel
theorem dX7_point_98 : decode cX7_point 98 = .ok (.iload_n 2, 1) := by decide +kernel
theorem dX7_point_99 : decode cX7_point 99 = .ok (.iconst 1, 1) := by decide +kernel
theorem dX7_point_100 : decode cX7_point 100 = .ok (.invokevirtual 69, 3) := by decide +kernel
theorem dX7_point_103 : decode cX7_point 103 = .ok (.dload 5, 2) := by decide +kernel
theorem dX7_point_105 : decode cX7_point 105 = .ok (.dcmp .l, 1) := by decide +kernel
theorem dX7_point_106 : decode cX7_point 106 = .ok (.ifCond .ne 16, 3) := by decide +kernel
theorem dX7_point_109 : decode cX7_point 109 = .ok (.aload_n 0, 1) := by decide +kernel
theorem dX7_point_110 : decode cX7_point 110 = .ok (.iload_n 1, 1) := by decide +kernel
theorem dX7_point_111 : decode cX7_point 111 = .ok (.iload_n 2, 1) := by decide +kernel
theorem dX7_point_112 : decode cX7_point 112 = .ok (.iconst 2, 1) := by decide +kernel
theorem dX7_point_113 : decode cX7_point 113 = .ok (.invokevirtual 69, 3) := by decide +kernel
theorem dX7_point_116 : decode cX7_point 116 = .ok (.dload 7, 2) := by decide +kernel
theorem dX7_point_118 : decode cX7_point 118 = .ok (.dcmp .l, 1) := by decide +kernel
theorem dX7_point_119 : decode cX7_point 119 = .ok (.ifCond .eq 7, 3) := by decide +kernel
theorem dX7_point_122 : decode cX7_point 122 = .ok (.iconst 1, 1) := by decide +kernel
theorem dX7_point_123 : decode cX7_point 123 = .ok (.goto 4, 3) := by decide +kernel
theorem dX7_point_126 : decode cX7_point 126 = .ok (.iconst 0, 1) := by decide +kernel
theorem dX7_point_127 : decode cX7_point 127 = .ok (.istore 10, 2) := by decide +kernel
theorem dX7_point_129 : decode cX7_point 129 = .ok (.iconst 3, 1) := by decide +kernel
theorem dX7_point_130 : decode cX7_point 130 = .ok (.bipush 8, 2) := by decide +kernel
theorem dX7_point_132 : decode cX7_point 132 = .ok (.iload_n 1, 1) := by decide +kernel
theorem dX7_point_133 : decode cX7_point 133 = .ok (.imul, 1) := by decide +kernel
theorem dX7_point_134 : decode cX7_point 134 = .ok (.iload_n 2, 1) := by decide +kernel
theorem dX7_point_135 : decode cX7_point 135 = .ok (.iadd, 1) := by decide +kernel
theorem dX7_point_136 : decode cX7_point 136 = .ok (.imul, 1) := by decide +kernel
theorem dX7_point_137 : decode cX7_point 137 = .ok (.istore 11, 2) := by decide +kernel
theorem dX7_point_139 : decode cX7_point 139 = .ok (.aload_n 0, 1) := by decide +kernel
theorem dX7_point_140 : decode cX7_point 140 = .ok (.getfield 7, 3) := by decide +kernel
theorem dX7_point_143 : decode cX7_point 143 = .ok (.iload 11, 2) := by decide +kernel
theorem dX7_point_145 : decode cX7_point 145 = .ok (.dload_n 3, 1) := by decide +kernel
theorem dX7_point_146 : decode cX7_point 146 = .ok (.dastore, 1) := by decide +kernel
theorem dX7_point_147 : decode cX7_point 147 = .ok (.aload_n 0, 1) := by decide +kernel
theorem dX7_point_148 : decode cX7_point 148 = .ok (.getfield 7, 3) := by decide +kernel
theorem dX7_point_151 : decode cX7_point 151 = .ok (.iload 11, 2) := by decide +kernel
theorem dX7_point_153 : decode cX7_point 153 = .ok (.iconst 1, 1) := by decide +kernel
theorem dX7_point_154 : decode cX7_point 154 = .ok (.iadd, 1) := by decide +kernel
theorem dX7_point_155 : decode cX7_point 155 = .ok (.dload 5, 2) := by decide +kernel
theorem dX7_point_157 : decode cX7_point 157 = .ok (.dastore, 1) := by decide +kernel
theorem dX7_point_158 : decode cX7_point 158 = .ok (.aload_n 0, 1) := by decide +kernel
theorem dX7_point_159 : decode cX7_point 159 = .ok (.getfield 7, 3) := by decide +kernel
theorem dX7_point_162 : decode cX7_point 162 = .ok (.iload 11, 2) := by decide +kernel
theorem dX7_point_164 : decode cX7_point 164 = .ok (.iconst 2, 1) := by decide +kernel
theorem dX7_point_165 : decode cX7_point 165 = .ok (.iadd, 1) := by decide +kernel
theorem dX7_point_166 : decode cX7_point 166 = .ok (.dload 7, 2) := by decide +kernel
theorem dX7_point_168 : decode cX7_point 168 = .ok (.dastore, 1) := by decide +kernel
theorem dX7_point_169 : decode cX7_point 169 = .ok (.iconst 0, 1) := by decide +kernel
theorem dX7_point_170 : decode cX7_point 170 = .ok (.istore 12, 2) := by decide +kernel
theorem dX7_point_172 : decode cX7_point 172 = .ok (.iload 12, 2) := by decide +kernel
theorem dX7_point_174 : decode cX7_point 174 = .ok (.bipush 8, 2) := by decide +kernel
theorem dX7_point_176 : decode cX7_point 176 = .ok (.if_icmp .ge 38, 3) := by decide +kernel
theorem dX7_point_179 : decode cX7_point 179 = .ok (.iload 10, 2) := by decide +kernel
theorem dX7_point_181 : decode cX7_point 181 = .ok (.ifCond .eq 33, 3) := by decide +kernel
theorem dX7_point_184 : decode cX7_point 184 = .ok (.aload_n 0, 1) := by decide +kernel
theorem dX7_point_185 : decode cX7_point 185 = .ok (.getfield 13, 3) := by decide +kernel
theorem dX7_point_188 : decode cX7_point 188 = .ok (.iload 12, 2) := by decide +kernel
theorem dX7_point_190 : decode cX7_point 190 = .ok (.iconst 0, 1) := by decide +kernel
theorem dX7_point_191 : decode cX7_point 191 = .ok (.bastore, 1) := by decide +kernel
theorem dX7_point_192 : decode cX7_point 192 = .ok (.aload_n 0, 1) := by decide +kernel
theorem dX7_point_193 : decode cX7_point 193 = .ok (.getfield 39, 3) := by decide +kernel
theorem dX7_point_196 : decode cX7_point 196 = .ok (.iload 12, 2) := by decide +kernel
theorem dX7_point_198 : decode cX7_point 198 = .ok (.iconst (-1), 1) := by decide +kernel
theorem dX7_point_199 : decode cX7_point 199 = .ok (.iastore, 1) := by decide +kernel
theorem dX7_point_200 : decode cX7_point 200 = .ok (.aload_n 0, 1) := by decide +kernel
theorem dX7_point_201 : decode cX7_point 201 = .ok (.getfield 42, 3) := by decide +kernel
theorem dX7_point_204 : decode cX7_point 204 = .ok (.iload 12, 2) := by decide +kernel
theorem dX7_point_206 : decode cX7_point 206 = .ok (.iconst (-1), 1) := by decide +kernel
theorem dX7_point_207 : decode cX7_point 207 = .ok (.iastore, 1) := by decide +kernel
theorem dX7_point_208 : decode cX7_point 208 = .ok (.iinc 12 1, 3) := by decide +kernel
theorem dX7_point_211 : decode cX7_point 211 = .ok (.goto (-39), 3) := by decide +kernel
theorem dX7_point_214 : decode cX7_point 214 = .ok (.iload 10, 2) := by decide +kernel
theorem dX7_point_216 : decode cX7_point 216 = .ok (.ireturn, 1) := by decide +kernel
abbrev rm_X7_point : Room := { frames := 7, cells := 0, slots := 0, locals := 140 }
theorem hw_X7_point_1 : (Cond.constantDouble RX7 57 (13875379345695965184)) ∈ wsX7_point := List.mem_of_getElem? (i := 1) rfl
theorem hw_X7_point_2 : (Cond.constantDouble RX7 59 (4652007308841189376)) ∈ wsX7_point := List.mem_of_getElem? (i := 2) rfl
theorem hw_X7_point_3 : (Cond.fieldLink RX7 52 "PlankUnrollModel" "thrown" "I") ∈ wsX7_point := List.mem_of_getElem? (i := 3) rfl
theorem hw_X7_point_4 : (Cond.fieldLink RX7 7 "PlankUnrollModel" "places" "[D") ∈ wsX7_point := List.mem_of_getElem? (i := 4) rfl
theorem hw_X7_point_5 : (Cond.fieldLink RX7 13 "PlankUnrollModel" "unrolled" "[Z") ∈ wsX7_point := List.mem_of_getElem? (i := 5) rfl
theorem hw_X7_point_6 : (Cond.fieldLink RX7 39 "PlankUnrollModel" "liesOn" "[I") ∈ wsX7_point := List.mem_of_getElem? (i := 6) rfl
theorem hw_X7_point_7 : (Cond.fieldLink RX7 42 "PlankUnrollModel" "liesAt" "[I") ∈ wsX7_point := List.mem_of_getElem? (i := 7) rfl
theorem in_X7_point_X7 : ∀ w ∈ wsX70, w ∈ wsX7_point := by decide +kernel
set_option maxHeartbeats 4000000 in
set_option maxRecDepth 100000 in
/-- point -/
theorem c_X7_point {l : Launch} {G : va_G} {ty : Nat → ClassId} {b0 : Nat} {H : Heap} {m0 : Nat} {A : Nat → Nat} {th : Int32} {F R nb : Nat} {pl co dr wi hi fa : Nat → UInt64} {un bu fc lo la : Nat → Int32} {px py pz : UInt64} (hY : xRef G ty m0 A th F R pl un co dr bu nb wi hi fc fa lo la px py pz H) (hZ : xSz F R) (hA : xAp m0 A) (hB : xNw b0 m0 A) {f r : Int32} {x y z ex ey ez : UInt64} (hx9 : vq x ex) (hy9 : vq y ey) (hz9 : vq z ez) : xMet l yX7_point wsX7_point rm_X7_point G ty b0 [.ref m0, .int (f), .int (r), .double x, .double y, .double z] H (fun v H1 => ∃ (T : Int32) (pl1 : Nat → UInt64) (un1 lo1 la1 : Nat → Int32), xRef G ty m0 A T F R pl1 un1 co dr bu nb wi hi fc fa lo1 la1 px py pz H1 ∧ xRfr m0 A H H1 ∧ ∃ b9 : Int32, v = some (.int b9) ∧ ((T = nI 0 ∧ (vp_in f F ∧ vp_in r R) ∧ (pBetween ex 13875379345695965184 4652007308841189376 = true ∧ pBetween ey 13875379345695965184 4652007308841189376 = true ∧ pBetween ez 13875379345695965184 4652007308841189376 = true) ∧ pl1 = vf_upd (vf_upd (vf_upd pl (3 * (8 * f.toNatClampNeg + r.toNatClampNeg)) x) (3 * (8 * f.toNatClampNeg + r.toNatClampNeg) + 1) y) (3 * (8 * f.toNatClampNeg + r.toNatClampNeg) + 2) z ∧ ((pNew pl f.toNatClampNeg r.toNatClampNeg ex ey ez ∧ b9 = nI 1 ∧ ∀ j : Nat, j < 8 → un1 j = nI 0 ∧ lo1 j = (-1) ∧ la1 j = (-1)) ∨ (¬ pNew pl f.toNatClampNeg r.toNatClampNeg ex ey ez ∧ b9 = nI 0 ∧ un1 = un ∧ lo1 = lo ∧ la1 = la))) ∨ (T = nI 1 ∧ ¬ (vp_in f F ∧ vp_in r R) ∧ pl1 = pl ∧ un1 = un ∧ lo1 = lo ∧ la1 = la) ∨ (T = nI 2 ∧ (vp_in f F ∧ vp_in r R) ∧ ¬ (pBetween ex 13875379345695965184 4652007308841189376 = true ∧ pBetween ey 13875379345695965184 4652007308841189376 = true ∧ pBetween ez 13875379345695965184 4652007308841189376 = true) ∧ pl1 = pl ∧ un1 = un ∧ lo1 = lo ∧ la1 = la))) (fun _ _ => False) := by
  refine xbody (cc := cX7_point) (maxL := 13) (ret := (some .boolean)) (C := RX7) (lv := [(0, .ref m0), (1, .int (f)), (2, .int (r)), (3, .double x), (5, .double y), (7, .double z)]) (by decide) rfl rfl (Nat.le_of_ble_eq_true rfl) rfl ?_
  intro p e s m below meth c d0 hx hb hr hts hown hlocks hml hxt hnm0 hK hb0 hH0 hS hd0 ls hl
  obtain ⟨y_o, y_0, y_1, y_2, y_3, y_4, y_5, y_6, y_7, y_8, y_9, y_10⟩ := id hY
  obtain ⟨⟨zF2, zF8⟩, ⟨zR2, zR8⟩⟩ := id hZ
  have J_1 : ∀ (jy : Int32) (locs : List Loc) (d0 : Drawn) (ls : Array Slot), jy = (xP (pBetween ex 13875379345695965184 4652007308841189376 = true ∧ pBetween ey 13875379345695965184 4652007308841189376 = true ∧ pBetween ez 13875379345695965184 4652007308841189376 = true)) → va_S (xA b0) s.heap H locs → s.drawn.sameBut d0 lw_cs → lv_has ls 13 [(0, .ref m0), (1, .int (f)), (2, .int (r)), (3, .double x), (5, .double y), (7, .double z)] → W p l e rm_X7_point (s.setDrawn d0) m [Value.ref m0, Value.int (f), Value.int (r), Value.double x, Value.double y, Value.double z].toArray below meth c H locs (0) (0) (xMQ below (fun v H1 => ∃ (T : Int32) (pl1 : Nat → UInt64) (un1 lo1 la1 : Nat → Int32), xRef G ty m0 A T F R pl1 un1 co dr bu nb wi hi fc fa lo1 la1 px py pz H1 ∧ xRfr m0 A H H1 ∧ ∃ b9 : Int32, v = some (.int b9) ∧ ((T = nI 0 ∧ (vp_in f F ∧ vp_in r R) ∧ (pBetween ex 13875379345695965184 4652007308841189376 = true ∧ pBetween ey 13875379345695965184 4652007308841189376 = true ∧ pBetween ez 13875379345695965184 4652007308841189376 = true) ∧ pl1 = vf_upd (vf_upd (vf_upd pl (3 * (8 * f.toNatClampNeg + r.toNatClampNeg)) x) (3 * (8 * f.toNatClampNeg + r.toNatClampNeg) + 1) y) (3 * (8 * f.toNatClampNeg + r.toNatClampNeg) + 2) z ∧ ((pNew pl f.toNatClampNeg r.toNatClampNeg ex ey ez ∧ b9 = nI 1 ∧ ∀ j : Nat, j < 8 → un1 j = nI 0 ∧ lo1 j = (-1) ∧ la1 j = (-1)) ∨ (¬ pNew pl f.toNatClampNeg r.toNatClampNeg ex ey ez ∧ b9 = nI 0 ∧ un1 = un ∧ lo1 = lo ∧ la1 = la))) ∨ (T = nI 1 ∧ ¬ (vp_in f F ∧ vp_in r R) ∧ pl1 = pl ∧ un1 = un ∧ lo1 = lo ∧ la1 = la) ∨ (T = nI 2 ∧ (vp_in f F ∧ vp_in r R) ∧ ¬ (pBetween ex 13875379345695965184 4652007308841189376 = true ∧ pBetween ey 13875379345695965184 4652007308841189376 = true ∧ pBetween ez 13875379345695965184 4652007308841189376 = true) ∧ pl1 = pl ∧ un1 = un ∧ lo1 = lo ∧ la1 = la))) (fun _ _ => False) [.ref m0, .int (f), .int (r), .double x, .double y, .double z].toArray s rm_X7_point b0) (F0 m 46 ls [.int (jy)]) := by
    intro jy locs d0 ls hP_1 hS hd0 hl
    subst hP_1
    refine lv_istore (lv' := [(9, .int ((xP (pBetween ex 13875379345695965184 4652007308841189376 = true ∧ pBetween ey 13875379345695965184 4652007308841189376 = true ∧ pBetween ez 13875379345695965184 4652007308841189376 = true)))), (0, .ref m0), (1, .int (f)), (2, .int (r)), (3, .double x), (5, .double y), (7, .double z)]) hx hb dX7_point_46 hl (by decide) rfl (fun ls hl => ?_)
    refine lv_aload_n hx hb dX7_point_48 rfl (lv_at hl 1 rfl) ?_
    refine lv_aload_n hx hb dX7_point_49 rfl (lv_at hl 1 rfl) ?_
    refine lv_iload_n hx hb dX7_point_50 rfl (lv_at hl 2 rfl) ?_
    refine lv_iload_n hx hb dX7_point_51 rfl (lv_at hl 3 rfl) ?_
    have cw_2 := cwV (R := rm_X7_point) (rm := rm_X7_noPlace) 2 (hts d0) gX7_point_X7_noPlace rfl rfl rfl (by decide +kernel) ⟨Nat.le_of_ble_eq_true rfl, Nat.le_of_ble_eq_true rfl⟩
    refine xcall hd0 (xintoV (b := m0) (As := [.int (f), .int (r)]) (rest := [.ref m0]) ⟨hx, hb, hml, hown, hts _⟩ cw_2 (va_recv hK.1 (x1 y_o) (ci := 8) (q0 := 0) rfl rfl) rfl rfl hl.1 rfl (lv_room (Nat.le_of_ble_eq_true rfl)) dX7_point_52) (c_X7_noPlace (l := l) (G := G) (ty := ty) (b0 := b0) (⟨y_o, y_0, y_1, y_2, y_3, y_4, y_5, y_6, y_7, y_8, y_9, y_10⟩ : xRef G ty m0 A (th) F R pl un co dr bu nb wi hi fc fa lo la px py pz H) hZ) (xoweB cw_2.1) hK hb0 hS (Nat.le_of_ble_eq_true rfl) (Nat.le_of_ble_eq_true rfl) (fun E_2 ce_2 q9_2 H_2 locs_2 d0 hd0 hp_2 hS hce_2 hcv_2 hcl_2 => ?_) (fun v_2 H_2 locs_2 d0 hd0 hp_2 hS => ?_)
    · exact hp_2.elim
    · obtain ⟨rfl, rfl⟩ := hp_2
      show W p l e _ (s.setDrawn _) m _ below meth c _ _ _ _ _ (F0 m 55 ls [.int (xP (¬ (vp_in f F ∧ vp_in r R))), .ref m0])
      refine lv_if_eq (tgt := 62) hx hb dX7_point_55 (by decide) (fun c_3 => ?_) (fun c_3 => ?_)
      · refine lv_iload hx hb dX7_point_62 (lv_at hl 0 rfl) ?_
        refine lv_if_eq (tgt := 71) hx hb dX7_point_64 (by decide) (fun c_4 => ?_) (fun c_4 => ?_)
        · have z9 := Classical.not_not.mp (xP_eq.mp c_3)
          have z_f := z9.1
          have z_r := z9.2
          obtain ⟨f9, hf9, ef9⟩ := vp_in_of z_f (by omega)
          obtain ⟨r9, hr9, er9⟩ := vp_in_of z_r (by omega)
          subst ef9 er9
          refine lv_iconst (v := nI 2) hx hb dX7_point_71 (by decide) ?_
          refine xput (G := G) (ci := 8) (v := .int (nI 2)) (ty := .int) (C := RX7) (T := TX7) (N := 18) hx hb (hts d0) in_X7_point_X7 tyX7 tyX7_ok nmX7 hown hK.1 y_o hS hB.1 rfl 0 (by decide) (hts d0 _ hw_X7_point_3) (fun _ h9 => h9) rfl (by decide +kernel) rfl rfl (Nat.le_of_ble_eq_true rfl) dX7_point_72 (fun H_5 locs_5 hs_5 hS => ?_)
          have hc_5 : xc G m0 (.inr (8, [.int (nI 2), .int (nI F), .int (nI R), .ref (A 0), .ref (A 1), .ref (A 2), .ref (A 3), .ref (A 4), .int (nI nb), .ref (A 5), .ref (A 6), .ref (A 7), .ref (A 8), .ref (A 9), .ref (A 10), .double px, .double py, .double pz])) H_5 := hs_5.1
          have hc_A0_5 : xc G (A 0) (.inl (ty 0, 192, .inr (.inr (.inr (.inl pl))))) H_5 := y_0.kept (hs_5.2.2 _ (hA.1 0 (by decide)))
          have hc_A1_5 : xc G (A 1) (.inl (ty 2, 8, .inl un)) H_5 := y_1.kept (hs_5.2.2 _ (hA.1 1 (by decide)))
          have hc_A2_5 : xc G (A 2) (.inl (ty 0, 256, .inr (.inr (.inr (.inl co))))) H_5 := y_2.kept (hs_5.2.2 _ (hA.1 2 (by decide)))
          have hc_A3_5 : xc G (A 3) (.inl (ty 0, 32, .inr (.inr (.inr (.inl dr))))) H_5 := y_3.kept (hs_5.2.2 _ (hA.1 3 (by decide)))
          have hc_A4_5 : xc G (A 4) (.inl (ty 2, 64, .inl bu)) H_5 := y_4.kept (hs_5.2.2 _ (hA.1 4 (by decide)))
          have hc_A5_5 : xc G (A 5) (.inl (ty 0, 4, .inr (.inr (.inr (.inl wi))))) H_5 := y_5.kept (hs_5.2.2 _ (hA.1 5 (by decide)))
          have hc_A6_5 : xc G (A 6) (.inl (ty 0, 4, .inr (.inr (.inr (.inl hi))))) H_5 := y_6.kept (hs_5.2.2 _ (hA.1 6 (by decide)))
          have hc_A7_5 : xc G (A 7) (.inl (ty 1, 4, .inl fc)) H_5 := y_7.kept (hs_5.2.2 _ (hA.1 7 (by decide)))
          have hc_A8_5 : xc G (A 8) (.inl (ty 0, 128, .inr (.inr (.inr (.inl fa))))) H_5 := y_8.kept (hs_5.2.2 _ (hA.1 8 (by decide)))
          have hc_A9_5 : xc G (A 9) (.inl (ty 1, 8, .inl lo)) H_5 := y_9.kept (hs_5.2.2 _ (hA.1 9 (by decide)))
          have hc_A10_5 : xc G (A 10) (.inl (ty 1, 8, .inl la)) H_5 := y_10.kept (hs_5.2.2 _ (hA.1 10 (by decide)))
          have hfr_5 : xRfr m0 A H H_5 := xRfr.put0 xRfr.rf hs_5
          refine lv_aload_n hx hb dX7_point_75 rfl (lv_at hl 1 rfl) ?_
          refine va_get (D := G) (cl := vwCl) (ci := 8) (v := .int (nI 2)) (C := RX7) (T := TX7) (N := 18) hx hb (hts d0) in_X7_point_X7 hown hK.1 (x1 hc_5) 0 rfl rfl 0 (by decide) (hts d0 _ hw_X7_point_3) (fun _ h9 => h9) rfl dX7_point_76 ?_
          refine lv_if_le (tgt := 84) hx hb dX7_point_79 (by decide) (fun h9 => (show False by revert h9; decide).elim) (fun _ => ?_)
          refine lv_iconst (v := nI 0) hx hb dX7_point_82 (by decide) ?_
          exact xzret (by decide) hd0 hx hb hr hlocks hS (Nat.le_of_ble_eq_true rfl) (Nat.le_of_ble_eq_true rfl) dX7_point_83 ⟨nI 2, _, _, _, _, ⟨hc_5, hc_A0_5, hc_A1_5, hc_A2_5, hc_A3_5, hc_A4_5, hc_A5_5, hc_A6_5, hc_A7_5, hc_A8_5, hc_A9_5, hc_A10_5⟩, hfr_5, _, rfl, Or.inr (Or.inr ⟨rfl, z9, xP_eq.mp c_4, rfl, rfl, rfl, rfl⟩)⟩
        · have z9 := Classical.not_not.mp (xP_eq.mp c_3)
          have z_f := z9.1
          have z_r := z9.2
          obtain ⟨f9, hf9, ef9⟩ := vp_in_of z_f (by omega)
          obtain ⟨r9, hr9, er9⟩ := vp_in_of z_r (by omega)
          subst ef9 er9
          refine lv_iconst (v := nI 0) hx hb dX7_point_67 (by decide) ?_
          refine lv_goto (tgt := 72) hx hb dX7_point_68 (by decide) ?_
          refine xput (G := G) (ci := 8) (v := .int (nI 0)) (ty := .int) (C := RX7) (T := TX7) (N := 18) hx hb (hts d0) in_X7_point_X7 tyX7 tyX7_ok nmX7 hown hK.1 y_o hS hB.1 rfl 0 (by decide) (hts d0 _ hw_X7_point_3) (fun _ h9 => h9) rfl (by decide +kernel) rfl rfl (Nat.le_of_ble_eq_true rfl) dX7_point_72 (fun H_7 locs_7 hs_7 hS => ?_)
          have hc_7 : xc G m0 (.inr (8, [.int (nI 0), .int (nI F), .int (nI R), .ref (A 0), .ref (A 1), .ref (A 2), .ref (A 3), .ref (A 4), .int (nI nb), .ref (A 5), .ref (A 6), .ref (A 7), .ref (A 8), .ref (A 9), .ref (A 10), .double px, .double py, .double pz])) H_7 := hs_7.1
          have hc_A0_7 : xc G (A 0) (.inl (ty 0, 192, .inr (.inr (.inr (.inl pl))))) H_7 := y_0.kept (hs_7.2.2 _ (hA.1 0 (by decide)))
          have hc_A1_7 : xc G (A 1) (.inl (ty 2, 8, .inl un)) H_7 := y_1.kept (hs_7.2.2 _ (hA.1 1 (by decide)))
          have hc_A2_7 : xc G (A 2) (.inl (ty 0, 256, .inr (.inr (.inr (.inl co))))) H_7 := y_2.kept (hs_7.2.2 _ (hA.1 2 (by decide)))
          have hc_A3_7 : xc G (A 3) (.inl (ty 0, 32, .inr (.inr (.inr (.inl dr))))) H_7 := y_3.kept (hs_7.2.2 _ (hA.1 3 (by decide)))
          have hc_A4_7 : xc G (A 4) (.inl (ty 2, 64, .inl bu)) H_7 := y_4.kept (hs_7.2.2 _ (hA.1 4 (by decide)))
          have hc_A5_7 : xc G (A 5) (.inl (ty 0, 4, .inr (.inr (.inr (.inl wi))))) H_7 := y_5.kept (hs_7.2.2 _ (hA.1 5 (by decide)))
          have hc_A6_7 : xc G (A 6) (.inl (ty 0, 4, .inr (.inr (.inr (.inl hi))))) H_7 := y_6.kept (hs_7.2.2 _ (hA.1 6 (by decide)))
          have hc_A7_7 : xc G (A 7) (.inl (ty 1, 4, .inl fc)) H_7 := y_7.kept (hs_7.2.2 _ (hA.1 7 (by decide)))
          have hc_A8_7 : xc G (A 8) (.inl (ty 0, 128, .inr (.inr (.inr (.inl fa))))) H_7 := y_8.kept (hs_7.2.2 _ (hA.1 8 (by decide)))
          have hc_A9_7 : xc G (A 9) (.inl (ty 1, 8, .inl lo)) H_7 := y_9.kept (hs_7.2.2 _ (hA.1 9 (by decide)))
          have hc_A10_7 : xc G (A 10) (.inl (ty 1, 8, .inl la)) H_7 := y_10.kept (hs_7.2.2 _ (hA.1 10 (by decide)))
          have hfr_7 : xRfr m0 A H H_7 := xRfr.put0 xRfr.rf hs_7
          refine lv_aload_n hx hb dX7_point_75 rfl (lv_at hl 1 rfl) ?_
          refine va_get (D := G) (cl := vwCl) (ci := 8) (v := .int (nI 0)) (C := RX7) (T := TX7) (N := 18) hx hb (hts d0) in_X7_point_X7 hown hK.1 (x1 hc_7) 0 rfl rfl 0 (by decide) (hts d0 _ hw_X7_point_3) (fun _ h9 => h9) rfl dX7_point_76 ?_
          refine lv_if_le (tgt := 84) hx hb dX7_point_79 (by decide) (fun _ => ?_) (fun h9 => (show False by revert h9; decide).elim)
          have J_9 : ∀ (jy : Int32) (locs : List Loc) (d0 : Drawn) (ls : Array Slot), jy = (xP (pNew pl f9 r9 ex ey ez)) → va_S (xA b0) s.heap H_7 locs → s.drawn.sameBut d0 lw_cs → lv_has ls 13 [(0, .ref m0), (1, .int (nI f9)), (2, .int (nI r9)), (3, .double x), (5, .double y), (7, .double z)] → W p l e rm_X7_point (s.setDrawn d0) m [Value.ref m0, Value.int ((nI f9)), Value.int ((nI r9)), Value.double x, Value.double y, Value.double z].toArray below meth c H_7 locs (0 + rm_X7_noPlace.cells) (0 + rm_X7_noPlace.slots) (xMQ below (fun v H1 => ∃ (T : Int32) (pl1 : Nat → UInt64) (un1 lo1 la1 : Nat → Int32), xRef G ty m0 A T F R pl1 un1 co dr bu nb wi hi fc fa lo1 la1 px py pz H1 ∧ xRfr m0 A H H1 ∧ ∃ b9 : Int32, v = some (.int b9) ∧ ((T = nI 0 ∧ (vp_in (nI f9) F ∧ vp_in (nI r9) R) ∧ (pBetween ex 13875379345695965184 4652007308841189376 = true ∧ pBetween ey 13875379345695965184 4652007308841189376 = true ∧ pBetween ez 13875379345695965184 4652007308841189376 = true) ∧ pl1 = vf_upd (vf_upd (vf_upd pl (3 * (8 * (nI f9).toNatClampNeg + (nI r9).toNatClampNeg)) x) (3 * (8 * (nI f9).toNatClampNeg + (nI r9).toNatClampNeg) + 1) y) (3 * (8 * (nI f9).toNatClampNeg + (nI r9).toNatClampNeg) + 2) z ∧ ((pNew pl (nI f9).toNatClampNeg (nI r9).toNatClampNeg ex ey ez ∧ b9 = nI 1 ∧ ∀ j : Nat, j < 8 → un1 j = nI 0 ∧ lo1 j = (-1) ∧ la1 j = (-1)) ∨ (¬ pNew pl (nI f9).toNatClampNeg (nI r9).toNatClampNeg ex ey ez ∧ b9 = nI 0 ∧ un1 = un ∧ lo1 = lo ∧ la1 = la))) ∨ (T = nI 1 ∧ ¬ (vp_in (nI f9) F ∧ vp_in (nI r9) R) ∧ pl1 = pl ∧ un1 = un ∧ lo1 = lo ∧ la1 = la) ∨ (T = nI 2 ∧ (vp_in (nI f9) F ∧ vp_in (nI r9) R) ∧ ¬ (pBetween ex 13875379345695965184 4652007308841189376 = true ∧ pBetween ey 13875379345695965184 4652007308841189376 = true ∧ pBetween ez 13875379345695965184 4652007308841189376 = true) ∧ pl1 = pl ∧ un1 = un ∧ lo1 = lo ∧ la1 = la))) (fun _ _ => False) [.ref m0, .int ((nI f9)), .int ((nI r9)), .double x, .double y, .double z].toArray s rm_X7_point b0) (F0 m 127 ls [.int (jy)]) := by
            intro jy locs d0 ls hP_9 hS hd0 hl
            subst hP_9
            refine lv_istore (lv' := [(10, .int ((xP (pNew pl f9 r9 ex ey ez)))), (0, .ref m0), (1, .int (nI f9)), (2, .int (nI r9)), (3, .double x), (5, .double y), (7, .double z)]) hx hb dX7_point_127 hl (by decide) rfl (fun ls hl => ?_)
            refine lv_iconst (v := nI 3) hx hb dX7_point_129 (by decide) ?_
            refine lv_bipush (v := nI 8) hx hb dX7_point_130 (by decide) ?_
            refine lv_iload_n hx hb dX7_point_132 rfl (lv_at hl 2 rfl) ?_
            refine ximulN hx hb dX7_point_133 ?_
            refine lv_iload_n hx hb dX7_point_134 rfl (lv_at hl 3 rfl) ?_
            refine xiaddN hx hb dX7_point_135 ?_
            refine ximulN hx hb dX7_point_136 ?_
            refine lv_istore (lv' := [(11, .int (nI (3 * ((8 * f9) + r9)))), (10, .int ((xP (pNew pl f9 r9 ex ey ez)))), (0, .ref m0), (1, .int (nI f9)), (2, .int (nI r9)), (3, .double x), (5, .double y), (7, .double z)]) hx hb dX7_point_137 hl (by decide) rfl (fun ls hl => ?_)
            refine lv_aload_n hx hb dX7_point_139 rfl (lv_at hl 2 rfl) ?_
            refine va_get (D := G) (cl := vwCl) (ci := 8) (v := .ref (A 0)) (C := RX7) (T := TX7) (N := 18) hx hb (hts d0) in_X7_point_X7 hown hK.1 (x1 hc_7) 0 rfl rfl 3 (by decide) (hts d0 _ hw_X7_point_4) (fun _ h9 => h9) rfl dX7_point_140 ?_
            refine lv_iload hx hb dX7_point_143 (lv_at hl 0 rfl) ?_
            refine lv_dload_n hx hb dX7_point_145 rfl (lv_at hl 5 rfl) ?_
            refine xdastN (s := s.setDrawn d0) (j := 3 * ((8 * f9) + r9)) (x := x) hx hb hK.1 0 hc_A0_7 hS (hB.2 0 (by decide)) rfl (xix_of (by omega) (by omega)) dX7_point_146 (fun H_10 locs_10 hs_10 hS => ?_)
            have hc_10 : xc G (A 0) (.inl (ty 0, 192, .inr (.inr (.inr (.inl ((vf_upd pl (3 * ((8 * f9) + r9)) x))))))) H_10 := hs_10.1
            have hc_m0_10 : xc G m0 (.inr (8, [.int (nI 0), .int (nI F), .int (nI R), .ref (A 0), .ref (A 1), .ref (A 2), .ref (A 3), .ref (A 4), .int (nI nb), .ref (A 5), .ref (A 6), .ref (A 7), .ref (A 8), .ref (A 9), .ref (A 10), .double px, .double py, .double pz])) H_10 := hc_7.kept (hs_10.2.2 _ (Ne.symm (hA.1 0 (by decide))))
            have hc_A1_10 : xc G (A 1) (.inl (ty 2, 8, .inl un)) H_10 := hc_A1_7.kept (hs_10.2.2 _ (fun z => absurd (hA.2 1 0 (by decide) (by decide) z) (by decide)))
            have hc_A2_10 : xc G (A 2) (.inl (ty 0, 256, .inr (.inr (.inr (.inl co))))) H_10 := hc_A2_7.kept (hs_10.2.2 _ (fun z => absurd (hA.2 2 0 (by decide) (by decide) z) (by decide)))
            have hc_A3_10 : xc G (A 3) (.inl (ty 0, 32, .inr (.inr (.inr (.inl dr))))) H_10 := hc_A3_7.kept (hs_10.2.2 _ (fun z => absurd (hA.2 3 0 (by decide) (by decide) z) (by decide)))
            have hc_A4_10 : xc G (A 4) (.inl (ty 2, 64, .inl bu)) H_10 := hc_A4_7.kept (hs_10.2.2 _ (fun z => absurd (hA.2 4 0 (by decide) (by decide) z) (by decide)))
            have hc_A5_10 : xc G (A 5) (.inl (ty 0, 4, .inr (.inr (.inr (.inl wi))))) H_10 := hc_A5_7.kept (hs_10.2.2 _ (fun z => absurd (hA.2 5 0 (by decide) (by decide) z) (by decide)))
            have hc_A6_10 : xc G (A 6) (.inl (ty 0, 4, .inr (.inr (.inr (.inl hi))))) H_10 := hc_A6_7.kept (hs_10.2.2 _ (fun z => absurd (hA.2 6 0 (by decide) (by decide) z) (by decide)))
            have hc_A7_10 : xc G (A 7) (.inl (ty 1, 4, .inl fc)) H_10 := hc_A7_7.kept (hs_10.2.2 _ (fun z => absurd (hA.2 7 0 (by decide) (by decide) z) (by decide)))
            have hc_A8_10 : xc G (A 8) (.inl (ty 0, 128, .inr (.inr (.inr (.inl fa))))) H_10 := hc_A8_7.kept (hs_10.2.2 _ (fun z => absurd (hA.2 8 0 (by decide) (by decide) z) (by decide)))
            have hc_A9_10 : xc G (A 9) (.inl (ty 1, 8, .inl lo)) H_10 := hc_A9_7.kept (hs_10.2.2 _ (fun z => absurd (hA.2 9 0 (by decide) (by decide) z) (by decide)))
            have hc_A10_10 : xc G (A 10) (.inl (ty 1, 8, .inl la)) H_10 := hc_A10_7.kept (hs_10.2.2 _ (fun z => absurd (hA.2 10 0 (by decide) (by decide) z) (by decide)))
            have hfr_10 : xRfr m0 A H H_10 := xRfr.putA hfr_7 0 (by decide) hs_10
            refine lv_aload_n hx hb dX7_point_147 rfl (lv_at hl 2 rfl) ?_
            refine va_get (D := G) (cl := vwCl) (ci := 8) (v := .ref (A 0)) (C := RX7) (T := TX7) (N := 18) hx hb (hts d0) in_X7_point_X7 hown hK.1 (x1 hc_m0_10) 0 rfl rfl 3 (by decide) (hts d0 _ hw_X7_point_4) (fun _ h9 => h9) rfl dX7_point_148 ?_
            refine lv_iload hx hb dX7_point_151 (lv_at hl 0 rfl) ?_
            refine lv_iconst (v := nI 1) hx hb dX7_point_153 (by decide) ?_
            refine xiaddN hx hb dX7_point_154 ?_
            refine lv_dload hx hb dX7_point_155 (lv_at hl 6 rfl) ?_
            refine xdastN (s := s.setDrawn d0) (j := (3 * ((8 * f9) + r9)) + 1) (x := y) hx hb hK.1 0 hc_10 hS (hB.2 0 (by decide)) rfl (xix_of (by omega) (by omega)) dX7_point_157 (fun H_11 locs_11 hs_11 hS => ?_)
            have hc_11 : xc G (A 0) (.inl (ty 0, 192, .inr (.inr (.inr (.inl ((vf_upd (vf_upd pl (3 * ((8 * f9) + r9)) x) ((3 * ((8 * f9) + r9)) + 1) y))))))) H_11 := hs_11.1
            have hc_m0_11 : xc G m0 (.inr (8, [.int (nI 0), .int (nI F), .int (nI R), .ref (A 0), .ref (A 1), .ref (A 2), .ref (A 3), .ref (A 4), .int (nI nb), .ref (A 5), .ref (A 6), .ref (A 7), .ref (A 8), .ref (A 9), .ref (A 10), .double px, .double py, .double pz])) H_11 := hc_m0_10.kept (hs_11.2.2 _ (Ne.symm (hA.1 0 (by decide))))
            have hc_A1_11 : xc G (A 1) (.inl (ty 2, 8, .inl un)) H_11 := hc_A1_10.kept (hs_11.2.2 _ (fun z => absurd (hA.2 1 0 (by decide) (by decide) z) (by decide)))
            have hc_A2_11 : xc G (A 2) (.inl (ty 0, 256, .inr (.inr (.inr (.inl co))))) H_11 := hc_A2_10.kept (hs_11.2.2 _ (fun z => absurd (hA.2 2 0 (by decide) (by decide) z) (by decide)))
            have hc_A3_11 : xc G (A 3) (.inl (ty 0, 32, .inr (.inr (.inr (.inl dr))))) H_11 := hc_A3_10.kept (hs_11.2.2 _ (fun z => absurd (hA.2 3 0 (by decide) (by decide) z) (by decide)))
            have hc_A4_11 : xc G (A 4) (.inl (ty 2, 64, .inl bu)) H_11 := hc_A4_10.kept (hs_11.2.2 _ (fun z => absurd (hA.2 4 0 (by decide) (by decide) z) (by decide)))
            have hc_A5_11 : xc G (A 5) (.inl (ty 0, 4, .inr (.inr (.inr (.inl wi))))) H_11 := hc_A5_10.kept (hs_11.2.2 _ (fun z => absurd (hA.2 5 0 (by decide) (by decide) z) (by decide)))
            have hc_A6_11 : xc G (A 6) (.inl (ty 0, 4, .inr (.inr (.inr (.inl hi))))) H_11 := hc_A6_10.kept (hs_11.2.2 _ (fun z => absurd (hA.2 6 0 (by decide) (by decide) z) (by decide)))
            have hc_A7_11 : xc G (A 7) (.inl (ty 1, 4, .inl fc)) H_11 := hc_A7_10.kept (hs_11.2.2 _ (fun z => absurd (hA.2 7 0 (by decide) (by decide) z) (by decide)))
            have hc_A8_11 : xc G (A 8) (.inl (ty 0, 128, .inr (.inr (.inr (.inl fa))))) H_11 := hc_A8_10.kept (hs_11.2.2 _ (fun z => absurd (hA.2 8 0 (by decide) (by decide) z) (by decide)))
            have hc_A9_11 : xc G (A 9) (.inl (ty 1, 8, .inl lo)) H_11 := hc_A9_10.kept (hs_11.2.2 _ (fun z => absurd (hA.2 9 0 (by decide) (by decide) z) (by decide)))
            have hc_A10_11 : xc G (A 10) (.inl (ty 1, 8, .inl la)) H_11 := hc_A10_10.kept (hs_11.2.2 _ (fun z => absurd (hA.2 10 0 (by decide) (by decide) z) (by decide)))
            have hfr_11 : xRfr m0 A H H_11 := xRfr.putA hfr_10 0 (by decide) hs_11
            refine lv_aload_n hx hb dX7_point_158 rfl (lv_at hl 2 rfl) ?_
            refine va_get (D := G) (cl := vwCl) (ci := 8) (v := .ref (A 0)) (C := RX7) (T := TX7) (N := 18) hx hb (hts d0) in_X7_point_X7 hown hK.1 (x1 hc_m0_11) 0 rfl rfl 3 (by decide) (hts d0 _ hw_X7_point_4) (fun _ h9 => h9) rfl dX7_point_159 ?_
            refine lv_iload hx hb dX7_point_162 (lv_at hl 0 rfl) ?_
            refine lv_iconst (v := nI 2) hx hb dX7_point_164 (by decide) ?_
            refine xiaddN hx hb dX7_point_165 ?_
            refine lv_dload hx hb dX7_point_166 (lv_at hl 7 rfl) ?_
            refine xdastN (s := s.setDrawn d0) (j := (3 * ((8 * f9) + r9)) + 2) (x := z) hx hb hK.1 0 hc_11 hS (hB.2 0 (by decide)) rfl (xix_of (by omega) (by omega)) dX7_point_168 (fun H_12 locs_12 hs_12 hS => ?_)
            have hc_12 : xc G (A 0) (.inl (ty 0, 192, .inr (.inr (.inr (.inl ((vf_upd (vf_upd (vf_upd pl (3 * ((8 * f9) + r9)) x) ((3 * ((8 * f9) + r9)) + 1) y) ((3 * ((8 * f9) + r9)) + 2) z))))))) H_12 := hs_12.1
            have hc_m0_12 : xc G m0 (.inr (8, [.int (nI 0), .int (nI F), .int (nI R), .ref (A 0), .ref (A 1), .ref (A 2), .ref (A 3), .ref (A 4), .int (nI nb), .ref (A 5), .ref (A 6), .ref (A 7), .ref (A 8), .ref (A 9), .ref (A 10), .double px, .double py, .double pz])) H_12 := hc_m0_11.kept (hs_12.2.2 _ (Ne.symm (hA.1 0 (by decide))))
            have hc_A1_12 : xc G (A 1) (.inl (ty 2, 8, .inl un)) H_12 := hc_A1_11.kept (hs_12.2.2 _ (fun z => absurd (hA.2 1 0 (by decide) (by decide) z) (by decide)))
            have hc_A2_12 : xc G (A 2) (.inl (ty 0, 256, .inr (.inr (.inr (.inl co))))) H_12 := hc_A2_11.kept (hs_12.2.2 _ (fun z => absurd (hA.2 2 0 (by decide) (by decide) z) (by decide)))
            have hc_A3_12 : xc G (A 3) (.inl (ty 0, 32, .inr (.inr (.inr (.inl dr))))) H_12 := hc_A3_11.kept (hs_12.2.2 _ (fun z => absurd (hA.2 3 0 (by decide) (by decide) z) (by decide)))
            have hc_A4_12 : xc G (A 4) (.inl (ty 2, 64, .inl bu)) H_12 := hc_A4_11.kept (hs_12.2.2 _ (fun z => absurd (hA.2 4 0 (by decide) (by decide) z) (by decide)))
            have hc_A5_12 : xc G (A 5) (.inl (ty 0, 4, .inr (.inr (.inr (.inl wi))))) H_12 := hc_A5_11.kept (hs_12.2.2 _ (fun z => absurd (hA.2 5 0 (by decide) (by decide) z) (by decide)))
            have hc_A6_12 : xc G (A 6) (.inl (ty 0, 4, .inr (.inr (.inr (.inl hi))))) H_12 := hc_A6_11.kept (hs_12.2.2 _ (fun z => absurd (hA.2 6 0 (by decide) (by decide) z) (by decide)))
            have hc_A7_12 : xc G (A 7) (.inl (ty 1, 4, .inl fc)) H_12 := hc_A7_11.kept (hs_12.2.2 _ (fun z => absurd (hA.2 7 0 (by decide) (by decide) z) (by decide)))
            have hc_A8_12 : xc G (A 8) (.inl (ty 0, 128, .inr (.inr (.inr (.inl fa))))) H_12 := hc_A8_11.kept (hs_12.2.2 _ (fun z => absurd (hA.2 8 0 (by decide) (by decide) z) (by decide)))
            have hc_A9_12 : xc G (A 9) (.inl (ty 1, 8, .inl lo)) H_12 := hc_A9_11.kept (hs_12.2.2 _ (fun z => absurd (hA.2 9 0 (by decide) (by decide) z) (by decide)))
            have hc_A10_12 : xc G (A 10) (.inl (ty 1, 8, .inl la)) H_12 := hc_A10_11.kept (hs_12.2.2 _ (fun z => absurd (hA.2 10 0 (by decide) (by decide) z) (by decide)))
            have hfr_12 : xRfr m0 A H H_12 := xRfr.putA hfr_11 0 (by decide) hs_12
            refine lv_iconst (v := nI 0) hx hb dX7_point_169 (by decide) ?_
            refine lv_istore (lv' := [(12, .int (nI 0)), (11, .int (nI (3 * ((8 * f9) + r9)))), (10, .int ((xP (pNew pl f9 r9 ex ey ez)))), (0, .ref m0), (1, .int (nI f9)), (2, .int (nI r9)), (3, .double x), (5, .double y), (7, .double z)]) hx hb dX7_point_170 hl (by decide) rfl (fun ls hl => ?_)
            by_cases hnew : (pNew pl f9 r9 ex ey ez)
            · have e9 : xP (pNew pl f9 r9 ex ey ez) = nI 1 := xP_t hnew
              rw [e9] at hl
              suffices K : ∀ (n : Nat) (k : Nat) (un9 lo9 la9 : Nat → Int32) (H9 : Heap) (locs : List Loc) (d0 : Drawn) (ls : Array Slot), (k + n = 8 ∧ (∀ j : Nat, j < k → un9 j = nI 0) ∧ (∀ j : Nat, j < k → lo9 j = (-1)) ∧ ∀ j : Nat, j < k → la9 j = (-1)) → xRef G ty m0 A (nI 0) F R (vf_upd (vf_upd (vf_upd pl (3 * ((8 * f9) + r9)) x) ((3 * ((8 * f9) + r9)) + 1) y) ((3 * ((8 * f9) + r9)) + 2) z) un9 co dr bu nb wi hi fc fa lo9 la9 px py pz H9 → xRfr m0 A H H9 → va_S (xA b0) s.heap H9 locs → s.drawn.sameBut d0 lw_cs → lv_has ls 13 [(12, .int (nI k)), (10, .int (nI 1)), (0, .ref m0)] → W p l e rm_X7_point (s.setDrawn d0) m [Value.ref m0, Value.int ((nI f9)), Value.int ((nI r9)), Value.double x, Value.double y, Value.double z].toArray below meth c H9 locs (0 + rm_X7_noPlace.cells) (0 + rm_X7_noPlace.slots) (xMQ below (fun v H1 => ∃ (T : Int32) (pl1 : Nat → UInt64) (un1 lo1 la1 : Nat → Int32), xRef G ty m0 A T F R pl1 un1 co dr bu nb wi hi fc fa lo1 la1 px py pz H1 ∧ xRfr m0 A H H1 ∧ ∃ b9 : Int32, v = some (.int b9) ∧ ((T = nI 0 ∧ (vp_in (nI f9) F ∧ vp_in (nI r9) R) ∧ (pBetween ex 13875379345695965184 4652007308841189376 = true ∧ pBetween ey 13875379345695965184 4652007308841189376 = true ∧ pBetween ez 13875379345695965184 4652007308841189376 = true) ∧ pl1 = vf_upd (vf_upd (vf_upd pl (3 * (8 * (nI f9).toNatClampNeg + (nI r9).toNatClampNeg)) x) (3 * (8 * (nI f9).toNatClampNeg + (nI r9).toNatClampNeg) + 1) y) (3 * (8 * (nI f9).toNatClampNeg + (nI r9).toNatClampNeg) + 2) z ∧ ((pNew pl (nI f9).toNatClampNeg (nI r9).toNatClampNeg ex ey ez ∧ b9 = nI 1 ∧ ∀ j : Nat, j < 8 → un1 j = nI 0 ∧ lo1 j = (-1) ∧ la1 j = (-1)) ∨ (¬ pNew pl (nI f9).toNatClampNeg (nI r9).toNatClampNeg ex ey ez ∧ b9 = nI 0 ∧ un1 = un ∧ lo1 = lo ∧ la1 = la))) ∨ (T = nI 1 ∧ ¬ (vp_in (nI f9) F ∧ vp_in (nI r9) R) ∧ pl1 = pl ∧ un1 = un ∧ lo1 = lo ∧ la1 = la) ∨ (T = nI 2 ∧ (vp_in (nI f9) F ∧ vp_in (nI r9) R) ∧ ¬ (pBetween ex 13875379345695965184 4652007308841189376 = true ∧ pBetween ey 13875379345695965184 4652007308841189376 = true ∧ pBetween ez 13875379345695965184 4652007308841189376 = true) ∧ pl1 = pl ∧ un1 = un ∧ lo1 = lo ∧ la1 = la))) (fun _ _ => False) [.ref m0, .int ((nI f9)), .int ((nI r9)), .double x, .double y, .double z].toArray s rm_X7_point b0) (F0 m 172 ls []) from K 8 0 un lo la H_12 _ d0 ls ⟨by omega, fun _ h => absurd h (Nat.not_lt_zero _), fun _ h => absurd h (Nat.not_lt_zero _), fun _ h => absurd h (Nat.not_lt_zero _)⟩ ⟨hc_m0_12, hc_12, hc_A1_12, hc_A2_12, hc_A3_12, hc_A4_12, hc_A5_12, hc_A6_12, hc_A7_12, hc_A8_12, hc_A9_12, hc_A10_12⟩ hfr_12 hS hd0 (lv_sub hl [0, 2, 3] rfl)
              intro n
              induction n with
              | zero =>
                intro k un9 lo9 la9 H9 locs d0 ls hinv hY9 hfr9 hS hd0 hl
                obtain ⟨y_o, y_0, y_1, y_2, y_3, y_4, y_5, y_6, y_7, y_8, y_9, y_10⟩ := id hY9
                obtain ⟨hk, hu, ho, ha⟩ := hinv
                refine lv_iload hx hb dX7_point_172 (lv_at hl 0 rfl) ?_
                refine lv_bipush (v := nI 8) hx hb dX7_point_174 (by decide) ?_
                refine xicmpN_ge (tgt := 214) hx hb (by omega) (by decide) dX7_point_176 (by decide) (fun _ => ?_) (fun h9 => absurd h9 (by omega))
                refine lv_iload hx hb dX7_point_214 (lv_at hl 1 rfl) ?_
                exact xzret (by decide) hd0 hx hb hr hlocks hS (Nat.le_of_ble_eq_true rfl) (Nat.le_of_ble_eq_true rfl) dX7_point_216 ⟨nI 0, _, _, _, _, ⟨y_o, y_0, y_1, y_2, y_3, y_4, y_5, y_6, y_7, y_8, y_9, y_10⟩, hfr9, _, rfl, Or.inl ⟨rfl, z9, xP_ne.mp c_4, by rw [nN_nI (show f9 < 2 ^ 31 by omega), nN_nI (show r9 < 2 ^ 31 by omega)]; exact ⟨rfl, Or.inl ⟨hnew, rfl, fun j hj => ⟨hu j (by omega), ho j (by omega), ha j (by omega)⟩⟩⟩⟩⟩
              | succ n ih =>
                intro k un9 lo9 la9 H9 locs d0 ls hinv hY9 hfr9 hS hd0 hl
                obtain ⟨y_o, y_0, y_1, y_2, y_3, y_4, y_5, y_6, y_7, y_8, y_9, y_10⟩ := id hY9
                obtain ⟨hk, hu, ho, ha⟩ := hinv
                refine lv_iload hx hb dX7_point_172 (lv_at hl 0 rfl) ?_
                refine lv_bipush (v := nI 8) hx hb dX7_point_174 (by decide) ?_
                refine xicmpN_ge (tgt := 214) hx hb (by omega) (by decide) dX7_point_176 (by decide) (fun h9 => absurd h9 (by omega)) (fun _ => ?_)
                refine lv_iload hx hb dX7_point_179 (lv_at hl 1 rfl) ?_
                refine lv_if_eq (tgt := 214) hx hb dX7_point_181 (by decide) (fun h9 => (show False by revert h9; decide).elim) (fun _ => ?_)
                refine lv_aload_n hx hb dX7_point_184 rfl (lv_at hl 2 rfl) ?_
                refine va_get (D := G) (cl := vwCl) (ci := 8) (v := .ref (A 1)) (C := RX7) (T := TX7) (N := 18) hx hb (hts d0) in_X7_point_X7 hown hK.1 (x1 y_o) 0 rfl rfl 4 (by decide) (hts d0 _ hw_X7_point_5) (fun _ h9 => h9) rfl dX7_point_185 ?_
                refine lv_iload hx hb dX7_point_188 (lv_at hl 0 rfl) ?_
                refine lv_iconst (v := nI 0) hx hb dX7_point_190 (by decide) ?_
                refine xzastN (s := s.setDrawn d0) (j := k) (x := nI 0) hx hb hK.1 2 y_1 hS (hB.2 1 (by decide)) rfl (xix_of (by omega) (by omega)) zNar0 dX7_point_191 (fun H_16 locs_16 hs_16 hS => ?_)
                have hc_16 : xc G (A 1) (.inl (ty 2, 8, .inl ((upd un9 k (nI 0))))) H_16 := hs_16.1
                have hc_m0_16 : xc G m0 (.inr (8, [.int (nI 0), .int (nI F), .int (nI R), .ref (A 0), .ref (A 1), .ref (A 2), .ref (A 3), .ref (A 4), .int (nI nb), .ref (A 5), .ref (A 6), .ref (A 7), .ref (A 8), .ref (A 9), .ref (A 10), .double px, .double py, .double pz])) H_16 := y_o.kept (hs_16.2.2 _ (Ne.symm (hA.1 1 (by decide))))
                have hc_A0_16 : xc G (A 0) (.inl (ty 0, 192, .inr (.inr (.inr (.inl ((vf_upd (vf_upd (vf_upd pl (3 * ((8 * f9) + r9)) x) ((3 * ((8 * f9) + r9)) + 1) y) ((3 * ((8 * f9) + r9)) + 2) z))))))) H_16 := y_0.kept (hs_16.2.2 _ (fun z => absurd (hA.2 0 1 (by decide) (by decide) z) (by decide)))
                have hc_A2_16 : xc G (A 2) (.inl (ty 0, 256, .inr (.inr (.inr (.inl co))))) H_16 := y_2.kept (hs_16.2.2 _ (fun z => absurd (hA.2 2 1 (by decide) (by decide) z) (by decide)))
                have hc_A3_16 : xc G (A 3) (.inl (ty 0, 32, .inr (.inr (.inr (.inl dr))))) H_16 := y_3.kept (hs_16.2.2 _ (fun z => absurd (hA.2 3 1 (by decide) (by decide) z) (by decide)))
                have hc_A4_16 : xc G (A 4) (.inl (ty 2, 64, .inl bu)) H_16 := y_4.kept (hs_16.2.2 _ (fun z => absurd (hA.2 4 1 (by decide) (by decide) z) (by decide)))
                have hc_A5_16 : xc G (A 5) (.inl (ty 0, 4, .inr (.inr (.inr (.inl wi))))) H_16 := y_5.kept (hs_16.2.2 _ (fun z => absurd (hA.2 5 1 (by decide) (by decide) z) (by decide)))
                have hc_A6_16 : xc G (A 6) (.inl (ty 0, 4, .inr (.inr (.inr (.inl hi))))) H_16 := y_6.kept (hs_16.2.2 _ (fun z => absurd (hA.2 6 1 (by decide) (by decide) z) (by decide)))
                have hc_A7_16 : xc G (A 7) (.inl (ty 1, 4, .inl fc)) H_16 := y_7.kept (hs_16.2.2 _ (fun z => absurd (hA.2 7 1 (by decide) (by decide) z) (by decide)))
                have hc_A8_16 : xc G (A 8) (.inl (ty 0, 128, .inr (.inr (.inr (.inl fa))))) H_16 := y_8.kept (hs_16.2.2 _ (fun z => absurd (hA.2 8 1 (by decide) (by decide) z) (by decide)))
                have hc_A9_16 : xc G (A 9) (.inl (ty 1, 8, .inl lo9)) H_16 := y_9.kept (hs_16.2.2 _ (fun z => absurd (hA.2 9 1 (by decide) (by decide) z) (by decide)))
                have hc_A10_16 : xc G (A 10) (.inl (ty 1, 8, .inl la9)) H_16 := y_10.kept (hs_16.2.2 _ (fun z => absurd (hA.2 10 1 (by decide) (by decide) z) (by decide)))
                have hfr_16 : xRfr m0 A H H_16 := xRfr.putA hfr9 1 (by decide) hs_16
                refine lv_aload_n hx hb dX7_point_192 rfl (lv_at hl 2 rfl) ?_
                refine va_get (D := G) (cl := vwCl) (ci := 8) (v := .ref (A 9)) (C := RX7) (T := TX7) (N := 18) hx hb (hts d0) in_X7_point_X7 hown hK.1 (x1 hc_m0_16) 0 rfl rfl 13 (by decide) (hts d0 _ hw_X7_point_6) (fun _ h9 => h9) rfl dX7_point_193 ?_
                refine lv_iload hx hb dX7_point_196 (lv_at hl 0 rfl) ?_
                refine lv_iconst (v := (-1)) hx hb dX7_point_198 (by decide) ?_
                refine xiastN (s := s.setDrawn d0) (j := k) (x := (-1)) hx hb hK.1 1 hc_A9_16 hS (hB.2 9 (by decide)) rfl (xix_of (by omega) (by omega)) dX7_point_199 (fun H_17 locs_17 hs_17 hS => ?_)
                have hc_17 : xc G (A 9) (.inl (ty 1, 8, .inl ((upd lo9 k (-1))))) H_17 := hs_17.1
                have hc_m0_17 : xc G m0 (.inr (8, [.int (nI 0), .int (nI F), .int (nI R), .ref (A 0), .ref (A 1), .ref (A 2), .ref (A 3), .ref (A 4), .int (nI nb), .ref (A 5), .ref (A 6), .ref (A 7), .ref (A 8), .ref (A 9), .ref (A 10), .double px, .double py, .double pz])) H_17 := hc_m0_16.kept (hs_17.2.2 _ (Ne.symm (hA.1 9 (by decide))))
                have hc_A0_17 : xc G (A 0) (.inl (ty 0, 192, .inr (.inr (.inr (.inl ((vf_upd (vf_upd (vf_upd pl (3 * ((8 * f9) + r9)) x) ((3 * ((8 * f9) + r9)) + 1) y) ((3 * ((8 * f9) + r9)) + 2) z))))))) H_17 := hc_A0_16.kept (hs_17.2.2 _ (fun z => absurd (hA.2 0 9 (by decide) (by decide) z) (by decide)))
                have hc_A1_17 : xc G (A 1) (.inl (ty 2, 8, .inl ((upd un9 k (nI 0))))) H_17 := hc_16.kept (hs_17.2.2 _ (fun z => absurd (hA.2 1 9 (by decide) (by decide) z) (by decide)))
                have hc_A2_17 : xc G (A 2) (.inl (ty 0, 256, .inr (.inr (.inr (.inl co))))) H_17 := hc_A2_16.kept (hs_17.2.2 _ (fun z => absurd (hA.2 2 9 (by decide) (by decide) z) (by decide)))
                have hc_A3_17 : xc G (A 3) (.inl (ty 0, 32, .inr (.inr (.inr (.inl dr))))) H_17 := hc_A3_16.kept (hs_17.2.2 _ (fun z => absurd (hA.2 3 9 (by decide) (by decide) z) (by decide)))
                have hc_A4_17 : xc G (A 4) (.inl (ty 2, 64, .inl bu)) H_17 := hc_A4_16.kept (hs_17.2.2 _ (fun z => absurd (hA.2 4 9 (by decide) (by decide) z) (by decide)))
                have hc_A5_17 : xc G (A 5) (.inl (ty 0, 4, .inr (.inr (.inr (.inl wi))))) H_17 := hc_A5_16.kept (hs_17.2.2 _ (fun z => absurd (hA.2 5 9 (by decide) (by decide) z) (by decide)))
                have hc_A6_17 : xc G (A 6) (.inl (ty 0, 4, .inr (.inr (.inr (.inl hi))))) H_17 := hc_A6_16.kept (hs_17.2.2 _ (fun z => absurd (hA.2 6 9 (by decide) (by decide) z) (by decide)))
                have hc_A7_17 : xc G (A 7) (.inl (ty 1, 4, .inl fc)) H_17 := hc_A7_16.kept (hs_17.2.2 _ (fun z => absurd (hA.2 7 9 (by decide) (by decide) z) (by decide)))
                have hc_A8_17 : xc G (A 8) (.inl (ty 0, 128, .inr (.inr (.inr (.inl fa))))) H_17 := hc_A8_16.kept (hs_17.2.2 _ (fun z => absurd (hA.2 8 9 (by decide) (by decide) z) (by decide)))
                have hc_A10_17 : xc G (A 10) (.inl (ty 1, 8, .inl la9)) H_17 := hc_A10_16.kept (hs_17.2.2 _ (fun z => absurd (hA.2 10 9 (by decide) (by decide) z) (by decide)))
                have hfr_17 : xRfr m0 A H H_17 := xRfr.putA hfr_16 9 (by decide) hs_17
                refine lv_aload_n hx hb dX7_point_200 rfl (lv_at hl 2 rfl) ?_
                refine va_get (D := G) (cl := vwCl) (ci := 8) (v := .ref (A 10)) (C := RX7) (T := TX7) (N := 18) hx hb (hts d0) in_X7_point_X7 hown hK.1 (x1 hc_m0_17) 0 rfl rfl 14 (by decide) (hts d0 _ hw_X7_point_7) (fun _ h9 => h9) rfl dX7_point_201 ?_
                refine lv_iload hx hb dX7_point_204 (lv_at hl 0 rfl) ?_
                refine lv_iconst (v := (-1)) hx hb dX7_point_206 (by decide) ?_
                refine xiastN (s := s.setDrawn d0) (j := k) (x := (-1)) hx hb hK.1 1 hc_A10_17 hS (hB.2 10 (by decide)) rfl (xix_of (by omega) (by omega)) dX7_point_207 (fun H_18 locs_18 hs_18 hS => ?_)
                have hc_18 : xc G (A 10) (.inl (ty 1, 8, .inl ((upd la9 k (-1))))) H_18 := hs_18.1
                have hc_m0_18 : xc G m0 (.inr (8, [.int (nI 0), .int (nI F), .int (nI R), .ref (A 0), .ref (A 1), .ref (A 2), .ref (A 3), .ref (A 4), .int (nI nb), .ref (A 5), .ref (A 6), .ref (A 7), .ref (A 8), .ref (A 9), .ref (A 10), .double px, .double py, .double pz])) H_18 := hc_m0_17.kept (hs_18.2.2 _ (Ne.symm (hA.1 10 (by decide))))
                have hc_A0_18 : xc G (A 0) (.inl (ty 0, 192, .inr (.inr (.inr (.inl ((vf_upd (vf_upd (vf_upd pl (3 * ((8 * f9) + r9)) x) ((3 * ((8 * f9) + r9)) + 1) y) ((3 * ((8 * f9) + r9)) + 2) z))))))) H_18 := hc_A0_17.kept (hs_18.2.2 _ (fun z => absurd (hA.2 0 10 (by decide) (by decide) z) (by decide)))
                have hc_A1_18 : xc G (A 1) (.inl (ty 2, 8, .inl ((upd un9 k (nI 0))))) H_18 := hc_A1_17.kept (hs_18.2.2 _ (fun z => absurd (hA.2 1 10 (by decide) (by decide) z) (by decide)))
                have hc_A2_18 : xc G (A 2) (.inl (ty 0, 256, .inr (.inr (.inr (.inl co))))) H_18 := hc_A2_17.kept (hs_18.2.2 _ (fun z => absurd (hA.2 2 10 (by decide) (by decide) z) (by decide)))
                have hc_A3_18 : xc G (A 3) (.inl (ty 0, 32, .inr (.inr (.inr (.inl dr))))) H_18 := hc_A3_17.kept (hs_18.2.2 _ (fun z => absurd (hA.2 3 10 (by decide) (by decide) z) (by decide)))
                have hc_A4_18 : xc G (A 4) (.inl (ty 2, 64, .inl bu)) H_18 := hc_A4_17.kept (hs_18.2.2 _ (fun z => absurd (hA.2 4 10 (by decide) (by decide) z) (by decide)))
                have hc_A5_18 : xc G (A 5) (.inl (ty 0, 4, .inr (.inr (.inr (.inl wi))))) H_18 := hc_A5_17.kept (hs_18.2.2 _ (fun z => absurd (hA.2 5 10 (by decide) (by decide) z) (by decide)))
                have hc_A6_18 : xc G (A 6) (.inl (ty 0, 4, .inr (.inr (.inr (.inl hi))))) H_18 := hc_A6_17.kept (hs_18.2.2 _ (fun z => absurd (hA.2 6 10 (by decide) (by decide) z) (by decide)))
                have hc_A7_18 : xc G (A 7) (.inl (ty 1, 4, .inl fc)) H_18 := hc_A7_17.kept (hs_18.2.2 _ (fun z => absurd (hA.2 7 10 (by decide) (by decide) z) (by decide)))
                have hc_A8_18 : xc G (A 8) (.inl (ty 0, 128, .inr (.inr (.inr (.inl fa))))) H_18 := hc_A8_17.kept (hs_18.2.2 _ (fun z => absurd (hA.2 8 10 (by decide) (by decide) z) (by decide)))
                have hc_A9_18 : xc G (A 9) (.inl (ty 1, 8, .inl ((upd lo9 k (-1))))) H_18 := hc_17.kept (hs_18.2.2 _ (fun z => absurd (hA.2 9 10 (by decide) (by decide) z) (by decide)))
                have hfr_18 : xRfr m0 A H H_18 := xRfr.putA hfr_17 10 (by decide) hs_18
                refine xiincN (x := k) (y := 1) (lv' := [(12, .int (nI (k + 1))), (10, .int (nI 1)), (0, .ref m0)]) hx hb dX7_point_208 hl (k := 0) rfl (by decide) (by decide) rfl (fun ls hl => ?_)
                refine lv_goto (tgt := 172) hx hb dX7_point_211 (by decide) ?_
                exact ih (k + 1) (upd un9 k (nI 0)) (upd lo9 k (-1)) (upd la9 k (-1)) H_18 _ d0 ls ⟨by omega, xupd_in hu, xupd_in ho, xupd_in ha⟩ ⟨hc_m0_18, hc_A0_18, hc_A1_18, hc_A2_18, hc_A3_18, hc_A4_18, hc_A5_18, hc_A6_18, hc_A7_18, hc_A8_18, hc_A9_18, hc_18⟩ hfr_18 hS hd0 (lv_sub hl [0, 1, 2] rfl)
            · have e9 : xP (pNew pl f9 r9 ex ey ez) = nI 0 := xP_f hnew
              rw [e9] at hl
              refine lv_iload hx hb dX7_point_172 (lv_at hl 0 rfl) ?_
              refine lv_bipush (v := nI 8) hx hb dX7_point_174 (by decide) ?_
              refine lv_icmp_ge (tgt := 214) hx hb dX7_point_176 (by decide) (fun h9 => (show False by revert h9; decide).elim) (fun _ => ?_)
              refine lv_iload hx hb dX7_point_179 (lv_at hl 2 rfl) ?_
              refine lv_if_eq (tgt := 214) hx hb dX7_point_181 (by decide) (fun _ => ?_) (fun h9 => (show False by revert h9; decide).elim)
              refine lv_iload hx hb dX7_point_214 (lv_at hl 2 rfl) ?_
              exact xzret (by decide) hd0 hx hb hr hlocks hS (Nat.le_of_ble_eq_true rfl) (Nat.le_of_ble_eq_true rfl) dX7_point_216 ⟨nI 0, _, _, _, _, ⟨hc_m0_12, hc_12, hc_A1_12, hc_A2_12, hc_A3_12, hc_A4_12, hc_A5_12, hc_A6_12, hc_A7_12, hc_A8_12, hc_A9_12, hc_A10_12⟩, hfr_12, _, rfl, Or.inl ⟨rfl, z9, xP_ne.mp c_4, by rw [nN_nI (show f9 < 2 ^ 31 by omega), nN_nI (show r9 < 2 ^ 31 by omega)]; exact ⟨rfl, Or.inr ⟨hnew, rfl, rfl, rfl, rfl⟩⟩⟩⟩
          refine lv_aload_n hx hb dX7_point_84 rfl (lv_at hl 1 rfl) ?_
          refine lv_iload_n hx hb dX7_point_85 rfl (lv_at hl 2 rfl) ?_
          refine lv_iload_n hx hb dX7_point_86 rfl (lv_at hl 3 rfl) ?_
          refine lv_iconst (v := nI 0) hx hb dX7_point_87 (by decide) ?_
          have cw_21 := cwV (R := rm_X7_point) (rm := rm_X7_at) 3 (hts d0) gX7_point_X7_at rfl rfl rfl (by decide +kernel) ⟨Nat.le_of_ble_eq_true rfl, Nat.le_of_ble_eq_true rfl⟩
          refine xcall hd0 (xintoV (b := m0) (As := [.int (nI f9), .int (nI r9), .int (nI 0)]) (rest := []) ⟨hx, hb, hml, hown, hts _⟩ cw_21 (va_recv hK.1 (x1 hc_7) (ci := 8) (q0 := 0) rfl rfl) rfl rfl hl.1 rfl (lv_room (Nat.le_of_ble_eq_true rfl)) dX7_point_88) (c_X7_at (l := l) (G := G) (ty := ty) (b0 := b0) (f := f9) (r := r9) (k := 0) (by omega) (by omega) (by omega) (⟨hc_7, hc_A0_7, hc_A1_7, hc_A2_7, hc_A3_7, hc_A4_7, hc_A5_7, hc_A6_7, hc_A7_7, hc_A8_7, hc_A9_7, hc_A10_7⟩ : xRef G ty m0 A (nI 0) F R pl un co dr bu nb wi hi fc fa lo la px py pz H_7) hZ) (xoweB cw_21.1) hK hb0 hS (Nat.le_of_ble_eq_true rfl) (Nat.le_of_ble_eq_true rfl) (fun E_21 ce_21 q9_21 H_21 locs_21 d0 hd0 hp_21 hS hce_21 hcv_21 hcl_21 => ?_) (fun v_21 H_21 locs_21 d0 hd0 hp_21 hS => ?_)
          · exact hp_21.elim
          · obtain ⟨rfl, rfl⟩ := hp_21
            show W p l e _ (s.setDrawn _) m _ below meth c _ _ _ _ _ (F0 m 91 ls [.double (pAt pl f9 r9 0)])
            refine lv_dload_n hx hb dX7_point_91 rfl (lv_at hl 4 rfl) ?_
            refine xcmp_l_ne (tgt := 122) hx hb (vq_rf _) hx9 dX7_point_92 dX7_point_93 (by decide) (fun c_22 => ?_) (fun c_22 => ?_)
            · refine lv_iconst (v := nI 1) hx hb dX7_point_122 (by decide) ?_
              refine lv_goto (tgt := 127) hx hb dX7_point_123 (by decide) ?_
              exact J_9 _ _ d0 ls (xP_t (fun z => xtf z.1 c_22)).symm hS hd0 (lv_sub hl [1, 2, 3, 4, 5, 6] rfl)
            · refine lv_aload_n hx hb dX7_point_96 rfl (lv_at hl 1 rfl) ?_
              refine lv_iload_n hx hb dX7_point_97 rfl (lv_at hl 2 rfl) ?_
              refine lv_iload_n hx hb dX7_point_98 rfl (lv_at hl 3 rfl) ?_
              refine lv_iconst (v := nI 1) hx hb dX7_point_99 (by decide) ?_
              have cw_23 := cwV (R := rm_X7_point) (rm := rm_X7_at) 3 (hts d0) gX7_point_X7_at rfl rfl rfl (by decide +kernel) ⟨Nat.le_of_ble_eq_true rfl, Nat.le_of_ble_eq_true rfl⟩
              refine xcall hd0 (xintoV (b := m0) (As := [.int (nI f9), .int (nI r9), .int (nI 1)]) (rest := []) ⟨hx, hb, hml, hown, hts _⟩ cw_23 (va_recv hK.1 (x1 hc_7) (ci := 8) (q0 := 0) rfl rfl) rfl rfl hl.1 rfl (lv_room (Nat.le_of_ble_eq_true rfl)) dX7_point_100) (c_X7_at (l := l) (G := G) (ty := ty) (b0 := b0) (f := f9) (r := r9) (k := 1) (by omega) (by omega) (by omega) (⟨hc_7, hc_A0_7, hc_A1_7, hc_A2_7, hc_A3_7, hc_A4_7, hc_A5_7, hc_A6_7, hc_A7_7, hc_A8_7, hc_A9_7, hc_A10_7⟩ : xRef G ty m0 A (nI 0) F R pl un co dr bu nb wi hi fc fa lo la px py pz H_7) hZ) (xoweB cw_23.1) hK hb0 hS (Nat.le_of_ble_eq_true rfl) (Nat.le_of_ble_eq_true rfl) (fun E_23 ce_23 q9_23 H_23 locs_23 d0 hd0 hp_23 hS hce_23 hcv_23 hcl_23 => ?_) (fun v_23 H_23 locs_23 d0 hd0 hp_23 hS => ?_)
              · exact hp_23.elim
              · obtain ⟨rfl, rfl⟩ := hp_23
                show W p l e _ (s.setDrawn _) m _ below meth c _ _ _ _ _ (F0 m 103 ls [.double (pAt pl f9 r9 1)])
                refine lv_dload hx hb dX7_point_103 (lv_at hl 5 rfl) ?_
                refine xcmp_l_ne (tgt := 122) hx hb (vq_rf _) hy9 dX7_point_105 dX7_point_106 (by decide) (fun c_24 => ?_) (fun c_24 => ?_)
                · refine lv_iconst (v := nI 1) hx hb dX7_point_122 (by decide) ?_
                  refine lv_goto (tgt := 127) hx hb dX7_point_123 (by decide) ?_
                  exact J_9 _ _ d0 ls (xP_t (fun z => xtf z.2.1 c_24)).symm hS hd0 (lv_sub hl [1, 2, 3, 4, 5, 6] rfl)
                · refine lv_aload_n hx hb dX7_point_109 rfl (lv_at hl 1 rfl) ?_
                  refine lv_iload_n hx hb dX7_point_110 rfl (lv_at hl 2 rfl) ?_
                  refine lv_iload_n hx hb dX7_point_111 rfl (lv_at hl 3 rfl) ?_
                  refine lv_iconst (v := nI 2) hx hb dX7_point_112 (by decide) ?_
                  have cw_25 := cwV (R := rm_X7_point) (rm := rm_X7_at) 3 (hts d0) gX7_point_X7_at rfl rfl rfl (by decide +kernel) ⟨Nat.le_of_ble_eq_true rfl, Nat.le_of_ble_eq_true rfl⟩
                  refine xcall hd0 (xintoV (b := m0) (As := [.int (nI f9), .int (nI r9), .int (nI 2)]) (rest := []) ⟨hx, hb, hml, hown, hts _⟩ cw_25 (va_recv hK.1 (x1 hc_7) (ci := 8) (q0 := 0) rfl rfl) rfl rfl hl.1 rfl (lv_room (Nat.le_of_ble_eq_true rfl)) dX7_point_113) (c_X7_at (l := l) (G := G) (ty := ty) (b0 := b0) (f := f9) (r := r9) (k := 2) (by omega) (by omega) (by omega) (⟨hc_7, hc_A0_7, hc_A1_7, hc_A2_7, hc_A3_7, hc_A4_7, hc_A5_7, hc_A6_7, hc_A7_7, hc_A8_7, hc_A9_7, hc_A10_7⟩ : xRef G ty m0 A (nI 0) F R pl un co dr bu nb wi hi fc fa lo la px py pz H_7) hZ) (xoweB cw_25.1) hK hb0 hS (Nat.le_of_ble_eq_true rfl) (Nat.le_of_ble_eq_true rfl) (fun E_25 ce_25 q9_25 H_25 locs_25 d0 hd0 hp_25 hS hce_25 hcv_25 hcl_25 => ?_) (fun v_25 H_25 locs_25 d0 hd0 hp_25 hS => ?_)
                  · exact hp_25.elim
                  · obtain ⟨rfl, rfl⟩ := hp_25
                    show W p l e _ (s.setDrawn _) m _ below meth c _ _ _ _ _ (F0 m 116 ls [.double (pAt pl f9 r9 2)])
                    refine lv_dload hx hb dX7_point_116 (lv_at hl 6 rfl) ?_
                    refine xcmp_l_eq (tgt := 126) hx hb (vq_rf _) hz9 dX7_point_118 dX7_point_119 (by decide) (fun c_26 => ?_) (fun c_26 => ?_)
                    · refine lv_iconst (v := nI 0) hx hb dX7_point_126 (by decide) ?_
                      exact J_9 _ _ d0 ls (xP_f (fun z => z ⟨c_22, c_24, c_26⟩)).symm hS hd0 (lv_sub hl [1, 2, 3, 4, 5, 6] rfl)
                    · refine lv_iconst (v := nI 1) hx hb dX7_point_122 (by decide) ?_
                      refine lv_goto (tgt := 127) hx hb dX7_point_123 (by decide) ?_
                      exact J_9 _ _ d0 ls (xP_t (fun z => xtf z.2.2 c_26)).symm hS hd0 (lv_sub hl [1, 2, 3, 4, 5, 6] rfl)
      · refine lv_iconst (v := nI 1) hx hb dX7_point_58 (by decide) ?_
        refine lv_goto (tgt := 72) hx hb dX7_point_59 (by decide) ?_
        refine xput (G := G) (ci := 8) (v := .int (nI 1)) (ty := .int) (C := RX7) (T := TX7) (N := 18) hx hb (hts d0) in_X7_point_X7 tyX7 tyX7_ok nmX7 hown hK.1 y_o hS hB.1 rfl 0 (by decide) (hts d0 _ hw_X7_point_3) (fun _ h9 => h9) rfl (by decide +kernel) rfl rfl (Nat.le_of_ble_eq_true rfl) dX7_point_72 (fun H_27 locs_27 hs_27 hS => ?_)
        have hc_27 : xc G m0 (.inr (8, [.int (nI 1), .int (nI F), .int (nI R), .ref (A 0), .ref (A 1), .ref (A 2), .ref (A 3), .ref (A 4), .int (nI nb), .ref (A 5), .ref (A 6), .ref (A 7), .ref (A 8), .ref (A 9), .ref (A 10), .double px, .double py, .double pz])) H_27 := hs_27.1
        have hc_A0_27 : xc G (A 0) (.inl (ty 0, 192, .inr (.inr (.inr (.inl pl))))) H_27 := y_0.kept (hs_27.2.2 _ (hA.1 0 (by decide)))
        have hc_A1_27 : xc G (A 1) (.inl (ty 2, 8, .inl un)) H_27 := y_1.kept (hs_27.2.2 _ (hA.1 1 (by decide)))
        have hc_A2_27 : xc G (A 2) (.inl (ty 0, 256, .inr (.inr (.inr (.inl co))))) H_27 := y_2.kept (hs_27.2.2 _ (hA.1 2 (by decide)))
        have hc_A3_27 : xc G (A 3) (.inl (ty 0, 32, .inr (.inr (.inr (.inl dr))))) H_27 := y_3.kept (hs_27.2.2 _ (hA.1 3 (by decide)))
        have hc_A4_27 : xc G (A 4) (.inl (ty 2, 64, .inl bu)) H_27 := y_4.kept (hs_27.2.2 _ (hA.1 4 (by decide)))
        have hc_A5_27 : xc G (A 5) (.inl (ty 0, 4, .inr (.inr (.inr (.inl wi))))) H_27 := y_5.kept (hs_27.2.2 _ (hA.1 5 (by decide)))
        have hc_A6_27 : xc G (A 6) (.inl (ty 0, 4, .inr (.inr (.inr (.inl hi))))) H_27 := y_6.kept (hs_27.2.2 _ (hA.1 6 (by decide)))
        have hc_A7_27 : xc G (A 7) (.inl (ty 1, 4, .inl fc)) H_27 := y_7.kept (hs_27.2.2 _ (hA.1 7 (by decide)))
        have hc_A8_27 : xc G (A 8) (.inl (ty 0, 128, .inr (.inr (.inr (.inl fa))))) H_27 := y_8.kept (hs_27.2.2 _ (hA.1 8 (by decide)))
        have hc_A9_27 : xc G (A 9) (.inl (ty 1, 8, .inl lo)) H_27 := y_9.kept (hs_27.2.2 _ (hA.1 9 (by decide)))
        have hc_A10_27 : xc G (A 10) (.inl (ty 1, 8, .inl la)) H_27 := y_10.kept (hs_27.2.2 _ (hA.1 10 (by decide)))
        have hfr_27 : xRfr m0 A H H_27 := xRfr.put0 xRfr.rf hs_27
        refine lv_aload_n hx hb dX7_point_75 rfl (lv_at hl 1 rfl) ?_
        refine va_get (D := G) (cl := vwCl) (ci := 8) (v := .int (nI 1)) (C := RX7) (T := TX7) (N := 18) hx hb (hts d0) in_X7_point_X7 hown hK.1 (x1 hc_27) 0 rfl rfl 0 (by decide) (hts d0 _ hw_X7_point_3) (fun _ h9 => h9) rfl dX7_point_76 ?_
        refine lv_if_le (tgt := 84) hx hb dX7_point_79 (by decide) (fun h9 => (show False by revert h9; decide).elim) (fun _ => ?_)
        refine lv_iconst (v := nI 0) hx hb dX7_point_82 (by decide) ?_
        exact xzret (by decide) hd0 hx hb hr hlocks hS (Nat.le_of_ble_eq_true rfl) (Nat.le_of_ble_eq_true rfl) dX7_point_83 ⟨nI 1, _, _, _, _, ⟨hc_27, hc_A0_27, hc_A1_27, hc_A2_27, hc_A3_27, hc_A4_27, hc_A5_27, hc_A6_27, hc_A7_27, hc_A8_27, hc_A9_27, hc_A10_27⟩, hfr_27, _, rfl, Or.inr (Or.inl ⟨rfl, xP_ne.mp c_3, rfl, rfl, rfl, rfl⟩)⟩
  refine lv_dload_n hx hb dX7_point_0 rfl (lv_at hl 3 rfl) ?_
  refine lv_ldc2d hx hb hown (hts d0 _ hw_X7_point_1) dX7_point_1 ?_
  refine lv_ldc2d hx hb hown (hts d0 _ hw_X7_point_2) dX7_point_4 ?_
  have cw_29 := va_cwS (R := rm_X7_point) (rm := rm_X7_between) 3 (hts d0) gX7_point_X7_between rfl rfl rfl (by decide +kernel) ⟨Nat.le_of_ble_eq_true rfl, Nat.le_of_ble_eq_true rfl⟩
  refine xcall hd0 (xintoS (As := [.double x, .double 13875379345695965184, .double 4652007308841189376]) (rest := []) ⟨hx, hb, hml, hown, hts _⟩ cw_29 rfl rfl hl.1 rfl (lv_room (Nat.le_of_ble_eq_true rfl)) dX7_point_7) (c_X7_between (l := l) (G := G) (ty := ty) (b0 := b0) hx9 (vq_rf _) (vq_rf _)) (xoweB cw_29.1) hK hb0 hS (Nat.le_of_ble_eq_true rfl) (Nat.le_of_ble_eq_true rfl) (fun E_29 ce_29 q9_29 H_29 locs_29 d0 hd0 hp_29 hS hce_29 hcv_29 hcl_29 => ?_) (fun v_29 H_29 locs_29 d0 hd0 hp_29 hS => ?_)
  · exact hp_29.elim
  · obtain ⟨rfl, rfl⟩ := hp_29
    show W p l e _ (s.setDrawn _) m _ below meth c _ _ _ _ _ (F0 m 10 ls [.int (xB (pBetween ex 13875379345695965184 4652007308841189376))])
    refine lv_if_eq (tgt := 45) hx hb dX7_point_10 (by decide) (fun c_30 => ?_) (fun c_30 => ?_)
    · refine lv_iconst (v := nI 0) hx hb dX7_point_45 (by decide) ?_
      exact J_1 _ _ d0 ls (xP_f (fun z => xtf z.1 (xB_f c_30))).symm hS hd0 (lv_sub hl [0, 1, 2, 3, 4, 5] rfl)
    · refine lv_dload hx hb dX7_point_13 (lv_at hl 4 rfl) ?_
      refine lv_ldc2d hx hb hown (hts d0 _ hw_X7_point_1) dX7_point_15 ?_
      refine lv_ldc2d hx hb hown (hts d0 _ hw_X7_point_2) dX7_point_18 ?_
      have cw_31 := va_cwS (R := rm_X7_point) (rm := rm_X7_between) 3 (hts d0) gX7_point_X7_between rfl rfl rfl (by decide +kernel) ⟨Nat.le_of_ble_eq_true rfl, Nat.le_of_ble_eq_true rfl⟩
      refine xcall hd0 (xintoS (As := [.double y, .double 13875379345695965184, .double 4652007308841189376]) (rest := []) ⟨hx, hb, hml, hown, hts _⟩ cw_31 rfl rfl hl.1 rfl (lv_room (Nat.le_of_ble_eq_true rfl)) dX7_point_21) (c_X7_between (l := l) (G := G) (ty := ty) (b0 := b0) hy9 (vq_rf _) (vq_rf _)) (xoweB cw_31.1) hK hb0 hS (Nat.le_of_ble_eq_true rfl) (Nat.le_of_ble_eq_true rfl) (fun E_31 ce_31 q9_31 H_31 locs_31 d0 hd0 hp_31 hS hce_31 hcv_31 hcl_31 => ?_) (fun v_31 H_31 locs_31 d0 hd0 hp_31 hS => ?_)
      · exact hp_31.elim
      · obtain ⟨rfl, rfl⟩ := hp_31
        show W p l e _ (s.setDrawn _) m _ below meth c _ _ _ _ _ (F0 m 24 ls [.int (xB (pBetween ey 13875379345695965184 4652007308841189376))])
        refine lv_if_eq (tgt := 45) hx hb dX7_point_24 (by decide) (fun c_32 => ?_) (fun c_32 => ?_)
        · refine lv_iconst (v := nI 0) hx hb dX7_point_45 (by decide) ?_
          exact J_1 _ _ d0 ls (xP_f (fun z => xtf z.2.1 (xB_f c_32))).symm hS hd0 (lv_sub hl [0, 1, 2, 3, 4, 5] rfl)
        · refine lv_dload hx hb dX7_point_27 (lv_at hl 5 rfl) ?_
          refine lv_ldc2d hx hb hown (hts d0 _ hw_X7_point_1) dX7_point_29 ?_
          refine lv_ldc2d hx hb hown (hts d0 _ hw_X7_point_2) dX7_point_32 ?_
          have cw_33 := va_cwS (R := rm_X7_point) (rm := rm_X7_between) 3 (hts d0) gX7_point_X7_between rfl rfl rfl (by decide +kernel) ⟨Nat.le_of_ble_eq_true rfl, Nat.le_of_ble_eq_true rfl⟩
          refine xcall hd0 (xintoS (As := [.double z, .double 13875379345695965184, .double 4652007308841189376]) (rest := []) ⟨hx, hb, hml, hown, hts _⟩ cw_33 rfl rfl hl.1 rfl (lv_room (Nat.le_of_ble_eq_true rfl)) dX7_point_35) (c_X7_between (l := l) (G := G) (ty := ty) (b0 := b0) hz9 (vq_rf _) (vq_rf _)) (xoweB cw_33.1) hK hb0 hS (Nat.le_of_ble_eq_true rfl) (Nat.le_of_ble_eq_true rfl) (fun E_33 ce_33 q9_33 H_33 locs_33 d0 hd0 hp_33 hS hce_33 hcv_33 hcl_33 => ?_) (fun v_33 H_33 locs_33 d0 hd0 hp_33 hS => ?_)
          · exact hp_33.elim
          · obtain ⟨rfl, rfl⟩ := hp_33
            show W p l e _ (s.setDrawn _) m _ below meth c _ _ _ _ _ (F0 m 38 ls [.int (xB (pBetween ez 13875379345695965184 4652007308841189376))])
            refine lv_if_eq (tgt := 45) hx hb dX7_point_38 (by decide) (fun c_34 => ?_) (fun c_34 => ?_)
            · refine lv_iconst (v := nI 0) hx hb dX7_point_45 (by decide) ?_
              exact J_1 _ _ d0 ls (xP_f (fun z => xtf z.2.2 (xB_f c_34))).symm hS hd0 (lv_sub hl [0, 1, 2, 3, 4, 5] rfl)
            · refine lv_iconst (v := nI 1) hx hb dX7_point_41 (by decide) ?_
              refine lv_goto (tgt := 46) hx hb dX7_point_42 (by decide) ?_
              exact J_1 _ _ d0 ls (xP_t ⟨xB_t c_30, xB_t c_32, xB_t c_34⟩).symm hS hd0 (lv_sub hl [0, 1, 2, 3, 4, 5] rfl)
