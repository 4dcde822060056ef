/-! THE CLASS: a strip is laid flat. -/
/-- the class's corners stand for the reckoned ones, up to a corner -/
def xCo (x y d : Nat → UInt64) (n : Nat) : Prop := ∀ j : Nat, j < n → vq (x j) (d (2 * j)) ∧ vq (y j) (d (2 * j + 1))
theorem lay_put {cx cy : Nat → Nat → UInt64} {d : Nat → UInt64} {i k a b : Nat} {r w x1 y1 : UInt64} (hd : xCo (cx i) (cy i) d k) (hx : vq x1 (pPutX d a b r w)) (hy : vq y1 (pPutY d a b r w)) : xCo (xup2 cx i k x1 i) (xup2 cy i k y1 i) (pPutF d k a b r w) (k + 1) := by
  intro j hj
  rw [xup2_s, xup2_s]
  unfold pPutF
  by_cases e : j = k
  · subst e
    rw [vupd_s, vupd_s, if_pos rfl, if_neg (by omega), if_pos rfl]
    exact ⟨hx, hy⟩
  · rw [vupd_n e, vupd_n e, if_neg (by omega), if_neg (by omega), if_neg (by omega), if_neg (by omega)]
    exact hd j (by omega)
theorem lay_0 {cx cy : Nat → Nat → UInt64} {pd : Nat → Nat → Nat → Nat → UInt64} {i : Nat} {v : UInt64} (hv : vq v (pd 0 i 0 (i + 1))) : xCo (xup2 (xup2 cx i 0 FP.dconst0) i 1 FP.dconst0 i) (xup2 (xup2 cy i 0 FP.dconst0) i 1 v i) (pD0 pd i) (2 * (0 + 1)) := by
  intro j hj
  rw [xup2_s, xup2_s, xup2_s, xup2_s]
  unfold vf_upd pD0
  rcases (show j = 0 ∨ j = 1 by omega) with rfl | rfl
  · exact ⟨rfl, rfl⟩
  · exact ⟨rfl, hv⟩
/-- the other strips' corners stand -/
def xOth (cx cy cx1 cy1 : Nat → Nat → UInt64) (i : Nat) : Prop := ∀ j : Nat, ¬ j = i → cx1 j = cx j ∧ cy1 j = cy j
theorem xOth.rf {cx cy : Nat → Nat → UInt64} {i : Nat} : xOth cx cy cx cy i := fun _ _ => ⟨rfl, rfl⟩
theorem xOth.x {cx cy cx1 cy1 : Nat → Nat → UInt64} {i k : Nat} {v : UInt64} (h : xOth cx cy cx1 cy1 i) : xOth cx cy (xup2 cx1 i k v) cy1 i := fun j hj => ⟨by rw [xup2_n hj]; exact (h j hj).1, (h j hj).2⟩
theorem xOth.y {cx cy cx1 cy1 : Nat → Nat → UInt64} {i k : Nat} {v : UInt64} (h : xOth cx cy cx1 cy1 i) : xOth cx cy cx1 (xup2 cy1 i k v) i := fun j hj => ⟨(h j hj).1, by rw [xup2_n hj]; exact (h j hj).2⟩
/-- how far the corners reach, along and across -/
def pExtC (d : Nat → UInt64) (n ax : Nat) : UInt64 := FP.dsub (pMx (fun j => d (2 * j + ax)) n) (pMn (fun j => d (2 * j + ax)) n)
set_option maxRecDepth 20000 in
theorem ggX5_layFlat_X5_across : GoodIn wsX5_layFlat wsX5_across := goodIn_r _ [15, 4, 5, 6, 16, 17, 18, 19, 20, 21, 22, 23, 24, 25, 35, 36, 37, 38, 39, 40, 41, 42, 43, 44, 49, 50, 51] (by decide +kernel) (by decide +kernel)
set_option maxRecDepth 20000 in
theorem gX5_layFlat_X5_across : GoodIn wsX5_layFlat (wsV RX5 59 RX5 yX5_across wsX5_across) := goodIn_app (goodIn_of _ (by decide +kernel)) ggX5_layFlat_X5_across
set_option maxRecDepth 20000 in
theorem ggX5_layFlat_X6_apart : GoodIn wsX5_layFlat wsX6_apart := goodIn_r _ [18, 19, 20, 21, 22, 23, 17, 24, 25, 49, 50, 51] (by decide +kernel) (by decide +kernel)
set_option maxRecDepth 20000 in
theorem gX5_layFlat_X6_apart_n55 : GoodIn wsX5_layFlat (wsX6_apart) := ggX5_layFlat_X6_apart
set_option maxRecDepth 20000 in
theorem ggX5_layFlat_X5_put : GoodIn wsX5_layFlat wsX5_put := goodIn_r _ [29, 1, 2, 30, 31, 23, 17, 24, 25, 35, 36, 37, 38, 39, 40, 41, 42, 43] (by decide +kernel) (by decide +kernel)
set_option maxRecDepth 20000 in
theorem gX5_layFlat_X5_put : GoodIn wsX5_layFlat (wsV RX5 63 RX5 yX5_put wsX5_put) := goodIn_app (goodIn_of _ (by decide +kernel)) ggX5_layFlat_X5_put
set_option maxRecDepth 20000 in
theorem ggX5_layFlat_X5_extent : GoodIn wsX5_layFlat wsX5_extent := goodIn_r _ [34] (by decide +kernel) (by decide +kernel)
set_option maxRecDepth 20000 in
theorem gX5_layFlat_X5_extent : GoodIn wsX5_layFlat (va_wsS RX5 67 yX5_extent wsX5_extent) := goodIn_app (goodIn_of _ (by decide +kernel)) ggX5_layFlat_X5_extent
theorem dX5_layFlat_0 : decode cX5_layFlat 0 = .ok (.aload_n 0, 1) := by decide +kernel
theorem dX5_layFlat_1 : decode cX5_layFlat 1 = .ok (.getfield 18, 3) := by decide +kernel
theorem dX5_layFlat_4 : decode cX5_layFlat 4 = .ok (.iconst 0, 1) := by decide +kernel
theorem dX5_layFlat_5 : decode cX5_layFlat 5 = .ok (.dconst 0, 1) := by decide +kernel
theorem dX5_layFlat_6 : decode cX5_layFlat 6 = .ok (.dastore, 1) := by decide +kernel
theorem dX5_layFlat_7 : decode cX5_layFlat 7 = .ok (.aload_n 0, 1) := by decide +kernel
theorem dX5_layFlat_8 : decode cX5_layFlat 8 = .ok (.getfield 22, 3) := by decide +kernel
theorem dX5_layFlat_11 : decode cX5_layFlat 11 = .ok (.iconst 0, 1) := by decide +kernel
theorem dX5_layFlat_12 : decode cX5_layFlat 12 = .ok (.dconst 0, 1) := by decide +kernel
theorem dX5_layFlat_13 : decode cX5_layFlat 13 = .ok (.dastore, 1) := by decide +kernel
theorem dX5_layFlat_14 : decode cX5_layFlat 14 = .ok (.aload_n 0, 1) := by decide +kernel
theorem dX5_layFlat_15 : decode cX5_layFlat 15 = .ok (.getfield 18, 3) := by decide +kernel
theorem dX5_layFlat_18 : decode cX5_layFlat 18 = .ok (.iconst 1, 1) := by decide +kernel
theorem dX5_layFlat_19 : decode cX5_layFlat 19 = .ok (.dconst 0, 1) := by decide +kernel
theorem dX5_layFlat_20 : decode cX5_layFlat 20 = .ok (.dastore, 1) := by decide +kernel
theorem dX5_layFlat_21 : decode cX5_layFlat 21 = .ok (.aload_n 0, 1) := by decide +kernel
theorem dX5_layFlat_22 : decode cX5_layFlat 22 = .ok (.getfield 22, 3) := by decide +kernel
theorem dX5_layFlat_25 : decode cX5_layFlat 25 = .ok (.iconst 1, 1) := by decide +kernel
theorem dX5_layFlat_26 : decode cX5_layFlat 26 = .ok (.aload_n 0, 1) := by decide +kernel
theorem dX5_layFlat_27 : decode cX5_layFlat 27 = .ok (.iconst 0, 1) := by decide +kernel
theorem dX5_layFlat_28 : decode cX5_layFlat 28 = .ok (.invokevirtual 59, 3) := by decide +kernel
theorem dX5_layFlat_31 : decode cX5_layFlat 31 = .ok (.dastore, 1) := by decide +kernel
theorem dX5_layFlat_32 : decode cX5_layFlat 32 = .ok (.iconst 1, 1) := by decide +kernel
theorem dX5_layFlat_33 : decode cX5_layFlat 33 = .ok (.istore_n 1, 1) := by decide +kernel
theorem dX5_layFlat_34 : decode cX5_layFlat 34 = .ok (.iload_n 1, 1) := by decide +kernel
theorem dX5_layFlat_35 : decode cX5_layFlat 35 = .ok (.aload_n 0, 1) := by decide +kernel
theorem dX5_layFlat_36 : decode cX5_layFlat 36 = .ok (.getfield 25, 3) := by decide +kernel
theorem dX5_layFlat_39 : decode cX5_layFlat 39 = .ok (.arraylength, 1) := by decide +kernel
theorem dX5_layFlat_40 : decode cX5_layFlat 40 = .ok (.if_icmp .ge 137, 3) := by decide +kernel
theorem dX5_layFlat_43 : decode cX5_layFlat 43 = .ok (.aload_n 0, 1) := by decide +kernel
theorem dX5_layFlat_44 : decode cX5_layFlat 44 = .ok (.getfield 9, 3) := by decide +kernel
theorem dX5_layFlat_47 : decode cX5_layFlat 47 = .ok (.getfield 49, 3) := by decide +kernel
theorem dX5_layFlat_50 : decode cX5_layFlat 50 = .ok (.iload_n 1, 1) := by decide +kernel
theorem dX5_layFlat_51 : decode cX5_layFlat 51 = .ok (.iconst 1, 1) := by decide +kernel
theorem dX5_layFlat_52 : decode cX5_layFlat 52 = .ok (.isub, 1) := by decide +kernel
theorem dX5_layFlat_53 : decode cX5_layFlat 53 = .ok (.aaload, 1) := by decide +kernel
theorem dX5_layFlat_54 : decode cX5_layFlat 54 = .ok (.aload_n 0, 1) := by decide +kernel
theorem dX5_layFlat_55 : decode cX5_layFlat 55 = .ok (.getfield 9, 3) := by decide +kernel
theorem dX5_layFlat_58 : decode cX5_layFlat 58 = .ok (.getfield 49, 3) := by decide +kernel
theorem dX5_layFlat_61 : decode cX5_layFlat 61 = .ok (.iload_n 1, 1) := by decide +kernel
theorem dX5_layFlat_62 : decode cX5_layFlat 62 = .ok (.aaload, 1) := by decide +kernel
theorem dX5_layFlat_63 : decode cX5_layFlat 63 = .ok (.invokestatic 55, 3) := by decide +kernel
theorem dX5_layFlat_66 : decode cX5_layFlat 66 = .ok (.dstore_n 2, 1) := by decide +kernel
theorem dX5_layFlat_67 : decode cX5_layFlat 67 = .ok (.aload_n 0, 1) := by decide +kernel
theorem dX5_layFlat_68 : decode cX5_layFlat 68 = .ok (.getfield 15, 3) := by decide +kernel
theorem dX5_layFlat_71 : decode cX5_layFlat 71 = .ok (.getfield 49, 3) := by decide +kernel
theorem dX5_layFlat_74 : decode cX5_layFlat 74 = .ok (.iload_n 1, 1) := by decide +kernel
theorem dX5_layFlat_75 : decode cX5_layFlat 75 = .ok (.iconst 1, 1) := by decide +kernel
theorem dX5_layFlat_76 : decode cX5_layFlat 76 = .ok (.isub, 1) := by decide +kernel
theorem dX5_layFlat_77 : decode cX5_layFlat 77 = .ok (.aaload, 1) := by decide +kernel
theorem dX5_layFlat_78 : decode cX5_layFlat 78 = .ok (.aload_n 0, 1) := by decide +kernel
theorem dX5_layFlat_79 : decode cX5_layFlat 79 = .ok (.getfield 9, 3) := by decide +kernel
theorem dX5_layFlat_82 : decode cX5_layFlat 82 = .ok (.getfield 49, 3) := by decide +kernel
theorem dX5_layFlat_85 : decode cX5_layFlat 85 = .ok (.iload_n 1, 1) := by decide +kernel
theorem dX5_layFlat_86 : decode cX5_layFlat 86 = .ok (.aaload, 1) := by decide +kernel
theorem dX5_layFlat_87 : decode cX5_layFlat 87 = .ok (.invokestatic 55, 3) := by decide +kernel
theorem dX5_layFlat_90 : decode cX5_layFlat 90 = .ok (.dstore 4, 2) := by decide +kernel
theorem dX5_layFlat_92 : decode cX5_layFlat 92 = .ok (.aload_n 0, 1) := by decide +kernel
theorem dX5_layFlat_93 : decode cX5_layFlat 93 = .ok (.getfield 15, 3) := by decide +kernel
theorem dX5_layFlat_96 : decode cX5_layFlat 96 = .ok (.getfield 49, 3) := by decide +kernel
theorem dX5_layFlat_99 : decode cX5_layFlat 99 = .ok (.iload_n 1, 1) := by decide +kernel
theorem dX5_layFlat_100 : decode cX5_layFlat 100 = .ok (.iconst 1, 1) := by decide +kernel
theorem dX5_layFlat_101 : decode cX5_layFlat 101 = .ok (.isub, 1) := by decide +kernel
theorem dX5_layFlat_102 : decode cX5_layFlat 102 = .ok (.aaload, 1) := by decide +kernel
theorem dX5_layFlat_103 : decode cX5_layFlat 103 = .ok (.aload_n 0, 1) := by decide +kernel
theorem dX5_layFlat_104 : decode cX5_layFlat 104 = .ok (.getfield 15, 3) := by decide +kernel
theorem dX5_layFlat_107 : decode cX5_layFlat 107 = .ok (.getfield 49, 3) := by decide +kernel
theorem dX5_layFlat_110 : decode cX5_layFlat 110 = .ok (.iload_n 1, 1) := by decide +kernel
theorem dX5_layFlat_111 : decode cX5_layFlat 111 = .ok (.aaload, 1) := by decide +kernel
theorem dX5_layFlat_112 : decode cX5_layFlat 112 = .ok (.invokestatic 55, 3) := by decide +kernel
theorem dX5_layFlat_115 : decode cX5_layFlat 115 = .ok (.dstore 6, 2) := by decide +kernel
theorem dX5_layFlat_117 : decode cX5_layFlat 117 = .ok (.aload_n 0, 1) := by decide +kernel
theorem dX5_layFlat_118 : decode cX5_layFlat 118 = .ok (.iconst 2, 1) := by decide +kernel
theorem dX5_layFlat_119 : decode cX5_layFlat 119 = .ok (.iload_n 1, 1) := by decide +kernel
theorem dX5_layFlat_120 : decode cX5_layFlat 120 = .ok (.imul, 1) := by decide +kernel
theorem dX5_layFlat_121 : decode cX5_layFlat 121 = .ok (.iconst 2, 1) := by decide +kernel
theorem dX5_layFlat_122 : decode cX5_layFlat 122 = .ok (.iload_n 1, 1) := by decide +kernel
theorem dX5_layFlat_123 : decode cX5_layFlat 123 = .ok (.imul, 1) := by decide +kernel
theorem dX5_layFlat_124 : decode cX5_layFlat 124 = .ok (.iconst 2, 1) := by decide +kernel
theorem dX5_layFlat_125 : decode cX5_layFlat 125 = .ok (.isub, 1) := by decide +kernel
theorem dX5_layFlat_126 : decode cX5_layFlat 126 = .ok (.iconst 2, 1) := by decide +kernel
theorem dX5_layFlat_127 : decode cX5_layFlat 127 = .ok (.iload_n 1, 1) := by decide +kernel
theorem dX5_layFlat_128 : decode cX5_layFlat 128 = .ok (.imul, 1) := by decide +kernel
theorem dX5_layFlat_129 : decode cX5_layFlat 129 = .ok (.iconst 1, 1) := by decide +kernel
theorem dX5_layFlat_130 : decode cX5_layFlat 130 = .ok (.isub, 1) := by decide +kernel
theorem dX5_layFlat_131 : decode cX5_layFlat 131 = .ok (.dload_n 2, 1) := by decide +kernel
theorem dX5_layFlat_132 : decode cX5_layFlat 132 = .ok (.dload 4, 2) := by decide +kernel
theorem dX5_layFlat_134 : decode cX5_layFlat 134 = .ok (.invokevirtual 63, 3) := by decide +kernel
theorem dX5_layFlat_137 : decode cX5_layFlat 137 = .ok (.ifCond .ne 5, 3) := by decide +kernel
theorem dX5_layFlat_140 : decode cX5_layFlat 140 = .ok (.iconst 0, 1) := by decide +kernel
theorem dX5_layFlat_141 : decode cX5_layFlat 141 = .ok (.ireturn, 1) := by decide +kernel
theorem dX5_layFlat_142 : decode cX5_layFlat 142 = .ok (.aload_n 0, 1) := by decide +kernel
theorem dX5_layFlat_143 : decode cX5_layFlat 143 = .ok (.iconst 2, 1) := by decide +kernel
theorem dX5_layFlat_144 : decode cX5_layFlat 144 = .ok (.iload_n 1, 1) := by decide +kernel
theorem dX5_layFlat_145 : decode cX5_layFlat 145 = .ok (.imul, 1) := by decide +kernel
theorem dX5_layFlat_146 : decode cX5_layFlat 146 = .ok (.iconst 1, 1) := by decide +kernel
theorem dX5_layFlat_147 : decode cX5_layFlat 147 = .ok (.iadd, 1) := by decide +kernel
theorem dX5_layFlat_148 : decode cX5_layFlat 148 = .ok (.iconst 2, 1) := by decide +kernel
theorem dX5_layFlat_149 : decode cX5_layFlat 149 = .ok (.iload_n 1, 1) := by decide +kernel
theorem dX5_layFlat_150 : decode cX5_layFlat 150 = .ok (.imul, 1) := by decide +kernel
theorem dX5_layFlat_151 : decode cX5_layFlat 151 = .ok (.iconst 2, 1) := by decide +kernel
theorem dX5_layFlat_152 : decode cX5_layFlat 152 = .ok (.iload_n 1, 1) := by decide +kernel
theorem dX5_layFlat_153 : decode cX5_layFlat 153 = .ok (.imul, 1) := by decide +kernel
theorem dX5_layFlat_154 : decode cX5_layFlat 154 = .ok (.iconst 1, 1) := by decide +kernel
theorem dX5_layFlat_155 : decode cX5_layFlat 155 = .ok (.isub, 1) := by decide +kernel
theorem dX5_layFlat_156 : decode cX5_layFlat 156 = .ok (.aload_n 0, 1) := by decide +kernel
theorem dX5_layFlat_157 : decode cX5_layFlat 157 = .ok (.iload_n 1, 1) := by decide +kernel
theorem dX5_layFlat_158 : decode cX5_layFlat 158 = .ok (.invokevirtual 59, 3) := by decide +kernel
theorem dX5_layFlat_161 : decode cX5_layFlat 161 = .ok (.dload 6, 2) := by decide +kernel
theorem dX5_layFlat_163 : decode cX5_layFlat 163 = .ok (.invokevirtual 63, 3) := by decide +kernel
theorem dX5_layFlat_166 : decode cX5_layFlat 166 = .ok (.ifCond .ne 5, 3) := by decide +kernel
theorem dX5_layFlat_169 : decode cX5_layFlat 169 = .ok (.iconst 0, 1) := by decide +kernel
theorem dX5_layFlat_170 : decode cX5_layFlat 170 = .ok (.ireturn, 1) := by decide +kernel
theorem dX5_layFlat_171 : decode cX5_layFlat 171 = .ok (.iinc 1 1, 3) := by decide +kernel
theorem dX5_layFlat_174 : decode cX5_layFlat 174 = .ok (.goto (-140), 3) := by decide +kernel
theorem dX5_layFlat_177 : decode cX5_layFlat 177 = .ok (.aload_n 0, 1) := by decide +kernel
theorem dX5_layFlat_178 : decode cX5_layFlat 178 = .ok (.getfield 34, 3) := by decide +kernel
theorem dX5_layFlat_181 : decode cX5_layFlat 181 = .ok (.aload_n 0, 1) := by decide +kernel
theorem dX5_layFlat_182 : decode cX5_layFlat 182 = .ok (.getfield 18, 3) := by decide +kernel
theorem dX5_layFlat_185 : decode cX5_layFlat 185 = .ok (.invokestatic 67, 3) := by decide +kernel
theorem dX5_layFlat_188 : decode cX5_layFlat 188 = .ok (.putfield 71, 3) := by decide +kernel
theorem dX5_layFlat_191 : decode cX5_layFlat 191 = .ok (.aload_n 0, 1) := by decide +kernel
theorem dX5_layFlat_192 : decode cX5_layFlat 192 = .ok (.getfield 34, 3) := by decide +kernel
theorem dX5_layFlat_195 : decode cX5_layFlat 195 = .ok (.aload_n 0, 1) := by decide +kernel
theorem dX5_layFlat_196 : decode cX5_layFlat 196 = .ok (.getfield 22, 3) := by decide +kernel
theorem dX5_layFlat_199 : decode cX5_layFlat 199 = .ok (.invokestatic 67, 3) := by decide +kernel
theorem dX5_layFlat_202 : decode cX5_layFlat 202 = .ok (.putfield 75, 3) := by decide +kernel
theorem dX5_layFlat_205 : decode cX5_layFlat 205 = .ok (.aload_n 0, 1) := by decide +kernel
theorem dX5_layFlat_206 : decode cX5_layFlat 206 = .ok (.iconst 1, 1) := by decide +kernel
theorem dX5_layFlat_207 : decode cX5_layFlat 207 = .ok (.putfield 45, 3) := by decide +kernel
theorem dX5_layFlat_210 : decode cX5_layFlat 210 = .ok (.iconst 1, 1) := by decide +kernel
theorem dX5_layFlat_211 : decode cX5_layFlat 211 = .ok (.ireturn, 1) := by decide +kernel
abbrev rm_X5_layFlat : Room := { frames := 8, cells := 0, slots := 0, locals := 190 }
theorem hw_X5_layFlat_1 : (Cond.fieldLink RX5 18 "PlankUnroll$Strip" "cornerX" "[D") ∈ wsX5_layFlat := List.mem_of_getElem? (i := 1) rfl
theorem hw_X5_layFlat_2 : (Cond.fieldLink RX5 22 "PlankUnroll$Strip" "cornerY" "[D") ∈ wsX5_layFlat := List.mem_of_getElem? (i := 2) rfl
theorem hw_X5_layFlat_3 : (Cond.fieldLink RX5 25 "PlankUnroll$Strip" "butts" "[Z") ∈ wsX5_layFlat := List.mem_of_getElem? (i := 3) rfl
theorem hw_X5_layFlat_4 : (Cond.fieldLink RX5 9 "PlankUnroll$Strip" "a" "LPlankUnroll$Row;") ∈ wsX5_layFlat := List.mem_of_getElem? (i := 4) rfl
theorem hw_X5_layFlat_5 : (Cond.fieldLink RX5 49 "PlankUnroll$Row" "places" "[LPlankUnroll$Place;") ∈ wsX5_layFlat := List.mem_of_getElem? (i := 5) rfl
theorem hw_X5_layFlat_6 : (Cond.fieldLink RX5 15 "PlankUnroll$Strip" "b" "LPlankUnroll$Row;") ∈ wsX5_layFlat := List.mem_of_getElem? (i := 6) rfl
theorem hw_X5_layFlat_7 : (Cond.fieldLink RX5 34 "PlankUnroll$Strip" "box" "LPlankUnroll$Box;") ∈ wsX5_layFlat := List.mem_of_getElem? (i := 7) rfl
theorem hw_X5_layFlat_8 : (Cond.fieldLink RX5 71 "PlankUnroll$Box" "w" "D") ∈ wsX5_layFlat := List.mem_of_getElem? (i := 8) rfl
theorem hw_X5_layFlat_9 : (Cond.fieldLink RX5 75 "PlankUnroll$Box" "h" "D") ∈ wsX5_layFlat := List.mem_of_getElem? (i := 9) rfl
theorem hw_X5_layFlat_10 : (Cond.fieldLink RX5 45 "PlankUnroll$Strip" "unrolled" "Z") ∈ wsX5_layFlat := List.mem_of_getElem? (i := 10) rfl
theorem hw_X5_layFlat_16 : (Cond.static yX6_apart) ∈ wsX5_layFlat := List.mem_of_getElem? (i := 16) rfl
theorem hw_X5_layFlat_17 : (Cond.initialized RX6) ∈ wsX5_layFlat := List.mem_of_getElem? (i := 17) rfl
theorem in_X5_layFlat_X1 : ∀ w ∈ wsX10, w ∈ wsX5_layFlat := by decide +kernel
theorem in_X5_layFlat_X4 : ∀ w ∈ wsX40, w ∈ wsX5_layFlat := by decide +kernel
theorem in_X5_layFlat_X5 : ∀ w ∈ wsX50, w ∈ wsX5_layFlat := by decide +kernel
set_option maxHeartbeats 4000000 in
set_option maxRecDepth 100000 in
/-- a strip is laid flat -/
theorem c_X5_layFlat {l : Launch} {G : va_G} {ty : Nat → ClassId} {b0 : Nat} {H : Heap} {ad : Nat → Nat} {F R nb : Nat} {pl wi hi fa : Nat → UInt64} {un bu lo la : Nat → Int32} {cx cy bx : Nat → Nat → UInt64} {nf : Nat → Nat} {K0 : Heap} (hX : xCla G ty ad F R pl un cx cy bu nb wi hi nf fa lo la bx K0 H) (hW : xWf F R nb nf ad b0) {i : Nat} (hi9 : i < R - 1) : xMet l yX5_layFlat wsX5_layFlat rm_X5_layFlat G ty b0 [.ref (ad (30 + i))] H (fun v H1 => ∃ cx1 cy1 : Nat → Nat → UInt64, xOth cx cy cx1 cy1 i ∧ ((v = some (.int (nI 0)) ∧ pUnr (pFar pl) i (F - 1) = none ∧ xCla G ty ad F R pl un cx1 cy1 bu nb wi hi nf fa lo la bx K0 H1) ∨ (v = some (.int (nI 1)) ∧ ∃ d : Nat → UInt64, pUnr (pFar pl) i (F - 1) = some d ∧ xCo (cx1 i) (cy1 i) d (2 * F) ∧ ∃ (bx1 : Nat → Nat → UInt64) (u9 h9 : UInt64), bx1 = xup2 (xup2 bx i 2 u9) i 3 h9 ∧ vq u9 (pExtC d (2 * F) 0) ∧ vq h9 (pExtC d (2 * F) 1) ∧ xCla G ty ad F R pl (upd un i (nI 1)) cx1 cy1 bu nb wi hi nf fa lo la bx1 K0 H1))) (fun _ _ => False) := by
  refine xbody (cc := cX5_layFlat) (maxL := 8) (ret := (some .boolean)) (C := RX5) (lv := [(0, .ref (ad (30 + i)))]) (by decide) rfl rfl (Nat.le_of_ble_eq_true rfl) rfl ?_
  intro p e s m below meth c d0 hx hb hr hts hown hlocks hml hxt hnm0 hK hb0 hH0 hS hd0 ls hl
  obtain ⟨⟨zF2, zF8⟩, ⟨zR2, zR8⟩⟩ := id hW.1
  have zB4 := hW.2.1
  refine lv_aload_n hx hb dX5_layFlat_0 rfl (lv_at hl 0 rfl) ?_
  refine va_get (D := G) (cl := vwCl) (ci := 6) (v := .ref (ad (40 + i))) (C := RX5) (T := TX5) (N := 9) hx hb (hts d0) in_X5_layFlat_X5 hown hK.1 (x1 (hX.strip_ _ (by omega))) 0 rfl rfl 2 (by decide) (hts d0 _ hw_X5_layFlat_1) (fun _ h9 => h9) rfl dX5_layFlat_1 ?_
  refine lv_iconst (v := nI 0) hx hb dX5_layFlat_4 (by decide) ?_
  refine lv_dconst0 hx hb dX5_layFlat_5 ?_
  refine xdastN (s := s.setDrawn d0) (j := 0) (x := FP.dconst0) hx hb hK.1 0 (hX.cx_ _ (by omega)) hS (hW.2.2.2.1 _ (xU_cx (by omega))) rfl (xix_of (by omega) (by omega)) dX5_layFlat_6 (fun H_1 locs_1 hs_1 hS => ?_)
  have hX_1 : xCla G ty ad F R pl un (xup2 cx i 0 FP.dconst0) cy bu nb wi hi nf fa lo la bx K0 H_1 := hX.put_cx (by omega) hW hs_1
  refine lv_aload_n hx hb dX5_layFlat_7 rfl (lv_at hl 0 rfl) ?_
  refine va_get (D := G) (cl := vwCl) (ci := 6) (v := .ref (ad (50 + i))) (C := RX5) (T := TX5) (N := 9) hx hb (hts d0) in_X5_layFlat_X5 hown hK.1 (x1 (hX_1.strip_ _ (by omega))) 0 rfl rfl 3 (by decide) (hts d0 _ hw_X5_layFlat_2) (fun _ h9 => h9) rfl dX5_layFlat_8 ?_
  refine lv_iconst (v := nI 0) hx hb dX5_layFlat_11 (by decide) ?_
  refine lv_dconst0 hx hb dX5_layFlat_12 ?_
  refine xdastN (s := s.setDrawn d0) (j := 0) (x := FP.dconst0) hx hb hK.1 0 (hX_1.cy_ _ (by omega)) hS (hW.2.2.2.1 _ (xU_cy (by omega))) rfl (xix_of (by omega) (by omega)) dX5_layFlat_13 (fun H_2 locs_2 hs_2 hS => ?_)
  have hX_2 : xCla G ty ad F R pl un (xup2 cx i 0 FP.dconst0) (xup2 cy i 0 FP.dconst0) bu nb wi hi nf fa lo la bx K0 H_2 := hX_1.put_cy (by omega) hW hs_2
  refine lv_aload_n hx hb dX5_layFlat_14 rfl (lv_at hl 0 rfl) ?_
  refine va_get (D := G) (cl := vwCl) (ci := 6) (v := .ref (ad (40 + i))) (C := RX5) (T := TX5) (N := 9) hx hb (hts d0) in_X5_layFlat_X5 hown hK.1 (x1 (hX_2.strip_ _ (by omega))) 0 rfl rfl 2 (by decide) (hts d0 _ hw_X5_layFlat_1) (fun _ h9 => h9) rfl dX5_layFlat_15 ?_
  refine lv_iconst (v := nI 1) hx hb dX5_layFlat_18 (by decide) ?_
  refine lv_dconst0 hx hb dX5_layFlat_19 ?_
  refine xdastN (s := s.setDrawn d0) (j := 1) (x := FP.dconst0) hx hb hK.1 0 (hX_2.cx_ _ (by omega)) hS (hW.2.2.2.1 _ (xU_cx (by omega))) rfl (xix_of (by omega) (by omega)) dX5_layFlat_20 (fun H_3 locs_3 hs_3 hS => ?_)
  have hX_3 : xCla G ty ad F R pl un (xup2 (xup2 cx i 0 FP.dconst0) i 1 FP.dconst0) (xup2 cy i 0 FP.dconst0) bu nb wi hi nf fa lo la bx K0 H_3 := hX_2.put_cx (by omega) hW hs_3
  refine lv_aload_n hx hb dX5_layFlat_21 rfl (lv_at hl 0 rfl) ?_
  refine va_get (D := G) (cl := vwCl) (ci := 6) (v := .ref (ad (50 + i))) (C := RX5) (T := TX5) (N := 9) hx hb (hts d0) in_X5_layFlat_X5 hown hK.1 (x1 (hX_3.strip_ _ (by omega))) 0 rfl rfl 3 (by decide) (hts d0 _ hw_X5_layFlat_2) (fun _ h9 => h9) rfl dX5_layFlat_22 ?_
  refine lv_iconst (v := nI 1) hx hb dX5_layFlat_25 (by decide) ?_
  refine lv_aload_n hx hb dX5_layFlat_26 rfl (lv_at hl 0 rfl) ?_
  refine lv_iconst (v := nI 0) hx hb dX5_layFlat_27 (by decide) ?_
  have cw_4 := cwV (R := rm_X5_layFlat) (rm := rm_X5_across) 1 (hts d0) gX5_layFlat_X5_across rfl rfl rfl (by decide +kernel) ⟨Nat.le_of_ble_eq_true rfl, Nat.le_of_ble_eq_true rfl⟩
  refine xcall hd0 (xintoV (b := (ad (30 + i))) (As := [.int (nI 0)]) (rest := [.int (nI 1), .ref (ad (50 + i))]) ⟨hx, hb, hml, hown, hts _⟩ cw_4 (va_recv hK.1 (x1 (hX_3.strip_ _ (by omega))) (ci := 6) (q0 := 0) rfl rfl) rfl rfl hl.1 rfl (lv_room (Nat.le_of_ble_eq_true rfl)) dX5_layFlat_28) (c_X5_across (l := l) (G := G) (ty := ty) (b0 := b0) hX_3 hW (i := i) (f := 0) hi9 (by omega)) (xoweB cw_4.1) hK hb0 hS (Nat.le_of_ble_eq_true rfl) (Nat.le_of_ble_eq_true rfl) (fun E_4 ce_4 q9_4 H_4 locs_4 d0 hd0 hp_4 hS hce_4 hcv_4 hcl_4 => ?_) (fun v_4 H_4 locs_4 d0 hd0 hp_4 hS => ?_)
  · exact hp_4.elim
  · obtain ⟨rfl, r_4, rfl, q_4⟩ := hp_4
    show W p l e _ (s.setDrawn _) m _ below meth c _ _ _ _ _ (F0 m 31 ls [.double r_4, .int (nI 1), .ref (ad (50 + i))])
    refine xdastN (s := s.setDrawn d0) (j := 1) (x := r_4) hx hb hK.1 0 (hX_3.cy_ _ (by omega)) hS (hW.2.2.2.1 _ (xU_cy (by omega))) rfl (xix_of (by omega) (by omega)) dX5_layFlat_31 (fun H_5 locs_5 hs_5 hS => ?_)
    have hX_5 : xCla G ty ad F R pl un (xup2 (xup2 cx i 0 FP.dconst0) i 1 FP.dconst0) (xup2 (xup2 cy i 0 FP.dconst0) i 1 r_4) bu nb wi hi nf fa lo la bx K0 H_5 := hX_3.put_cy (by omega) hW hs_5
    refine lv_iconst (v := nI 1) hx hb dX5_layFlat_32 (by decide) ?_
    refine lv_istore_n (lv' := [(1, .int (nI 1)), (0, .ref (ad (30 + i)))]) hx hb dX5_layFlat_33 rfl hl (by decide) rfl (fun ls hl => ?_)
    suffices K : ∀ (n : Nat) (k : Nat) (d : Nat → UInt64) (cx9 cy9 : Nat → Nat → UInt64) (H9 : Heap) (locs : List Loc) (d0 : Drawn) (ls : Array Slot), (k + 1 + n = F ∧ pUnr (pFar pl) i k = some d ∧ xCo (cx9 i) (cy9 i) d (2 * (k + 1)) ∧ xOth cx cy cx9 cy9 i) → xCla G ty ad F R pl un cx9 cy9 bu nb wi hi nf fa lo la bx K0 H9 → va_S (xA b0) s.heap H9 locs → s.drawn.sameBut d0 lw_cs → lv_has ls 8 [(1, .int (nI (k + 1))), (0, .ref (ad (30 + i)))] → W p l e rm_X5_layFlat (s.setDrawn d0) m [Value.ref (ad (30 + i))].toArray below meth c H9 locs (0 + rm_X5_across.cells) (0 + rm_X5_across.slots) (xMQ below (fun v H1 => ∃ cx1 cy1 : Nat → Nat → UInt64, xOth cx cy cx1 cy1 i ∧ ((v = some (.int (nI 0)) ∧ pUnr (pFar pl) i (F - 1) = none ∧ xCla G ty ad F R pl un cx1 cy1 bu nb wi hi nf fa lo la bx K0 H1) ∨ (v = some (.int (nI 1)) ∧ ∃ d : Nat → UInt64, pUnr (pFar pl) i (F - 1) = some d ∧ xCo (cx1 i) (cy1 i) d (2 * F) ∧ ∃ (bx1 : Nat → Nat → UInt64) (u9 h9 : UInt64), bx1 = xup2 (xup2 bx i 2 u9) i 3 h9 ∧ vq u9 (pExtC d (2 * F) 0) ∧ vq h9 (pExtC d (2 * F) 1) ∧ xCla G ty ad F R pl (upd un i (nI 1)) cx1 cy1 bu nb wi hi nf fa lo la bx1 K0 H1))) (fun _ _ => False) [.ref (ad (30 + i))].toArray s rm_X5_layFlat b0) (F0 m 34 ls []) from K (F - 1) 0 (pD0 (pFar pl) i) (xup2 (xup2 cx i 0 FP.dconst0) i 1 FP.dconst0) (xup2 (xup2 cy i 0 FP.dconst0) i 1 r_4) H_5 _ d0 ls ⟨by omega, rfl, lay_0 q_4, xOth.rf.x.x.y.y⟩ hX_5 hS hd0 (lv_sub hl [0, 1] rfl)
    intro n
    induction n with
    | zero =>
      intro k d cx9 cy9 H9 locs d0 ls hinv hX9 hS hd0 hl
      obtain ⟨hk, hu, hdd, ho⟩ := hinv
      refine lv_iload_n hx hb dX5_layFlat_34 rfl (lv_at hl 0 rfl) ?_
      refine lv_aload_n hx hb dX5_layFlat_35 rfl (lv_at hl 1 rfl) ?_
      refine va_get (D := G) (cl := vwCl) (ci := 6) (v := .ref (ad (60 + i))) (C := RX5) (T := TX5) (N := 9) hx hb (hts d0) in_X5_layFlat_X5 hown hK.1 (x1 (hX9.strip_ _ (by omega))) 0 rfl rfl 4 (by decide) (hts d0 _ hw_X5_layFlat_3) (fun _ h9 => h9) rfl dX5_layFlat_36 ?_
      refine xalen hx hb hK.1 2 (hX9.bt_ _ (by omega)) rfl dX5_layFlat_39 ?_
      refine xicmpN_ge (tgt := 177) hx hb (by omega) (by omega) dX5_layFlat_40 (by decide) (fun _ => ?_) (fun h9 => absurd h9 (by omega))
      have hu : pUnr (pFar pl) i (F - 1) = some d := by have e9 : k = F - 1 := (by omega); rw [← e9]; exact hu
      have hdd : xCo (cx9 i) (cy9 i) d (2 * F) := by have e9 : k + 1 = F := (by omega); rw [← e9]; exact hdd
      refine lv_aload_n hx hb dX5_layFlat_177 rfl (lv_at hl 1 rfl) ?_
      refine va_get (D := G) (cl := vwCl) (ci := 6) (v := .ref (ad (70 + i))) (C := RX5) (T := TX5) (N := 9) hx hb (hts d0) in_X5_layFlat_X5 hown hK.1 (x1 (hX9.strip_ _ (by omega))) 0 rfl rfl 5 (by decide) (hts d0 _ hw_X5_layFlat_7) (fun _ h9 => h9) rfl dX5_layFlat_178 ?_
      refine lv_aload_n hx hb dX5_layFlat_181 rfl (lv_at hl 1 rfl) ?_
      refine va_get (D := G) (cl := vwCl) (ci := 6) (v := .ref (ad (40 + i))) (C := RX5) (T := TX5) (N := 9) hx hb (hts d0) in_X5_layFlat_X5 hown hK.1 (x1 (hX9.strip_ _ (by omega))) 0 rfl rfl 2 (by decide) (hts d0 _ hw_X5_layFlat_1) (fun _ h9 => h9) rfl dX5_layFlat_182 ?_
      have cw_7 := va_cwS (R := rm_X5_layFlat) (rm := rm_X5_extent) 1 (hts d0) gX5_layFlat_X5_extent rfl rfl rfl (by decide +kernel) ⟨Nat.le_of_ble_eq_true rfl, Nat.le_of_ble_eq_true rfl⟩
      refine xcall hd0 (xintoS (As := [.ref (ad (40 + i))]) (rest := [.ref (ad (70 + i))]) ⟨hx, hb, hml, hown, hts _⟩ cw_7 rfl rfl hl.1 rfl (lv_room (Nat.le_of_ble_eq_true rfl)) dX5_layFlat_185) (c_X5_extent (l := l) (G := G) (ty := ty) (b0 := b0) (n := 2 * F) (g := fun j => d (2 * j + 0)) (by omega) (hX9.cx_ _ (by omega)) (fun j hj => (hdd j hj).1)) (xoweB cw_7.1) hK hb0 hS (Nat.le_of_ble_eq_true rfl) (Nat.le_of_ble_eq_true rfl) (fun E_7 ce_7 q9_7 H_7 locs_7 d0 hd0 hp_7 hS hce_7 hcv_7 hcl_7 => ?_) (fun v_7 H_7 locs_7 d0 hd0 hp_7 hS => ?_)
      · exact hp_7.elim
      · obtain ⟨rfl, r_7, rfl, q_7⟩ := hp_7
        show W p l e _ (s.setDrawn _) m _ below meth c _ _ _ _ _ (F0 m 188 ls [.double r_7, .ref (ad (70 + i))])
        refine xput (G := G) (ci := 2) (v := .double r_7) (ty := .double) (C := RX1) (T := TX1) (N := 4) hx hb (hts d0) in_X5_layFlat_X1 tyX1 tyX1_ok nmX1 hown hK.1 (hX9.box_ _ (by omega)) hS (hW.2.2.2.1 _ (xU_box (by omega))) rfl 2 (by decide) (hts d0 _ hw_X5_layFlat_8) (fun _ h9 => h9) rfl (by decide +kernel) rfl rfl (Nat.le_of_ble_eq_true rfl) dX5_layFlat_188 (fun H_8 locs_8 hs_8 hS => ?_)
        have hX_8 : xCla G ty ad F R pl un cx9 cy9 bu nb wi hi nf fa lo la (xup2 bx i 2 r_7) K0 H_8 := hX9.put_box2 (by omega) hW hs_8
        refine lv_aload_n hx hb dX5_layFlat_191 rfl (lv_at hl 1 rfl) ?_
        refine va_get (D := G) (cl := vwCl) (ci := 6) (v := .ref (ad (70 + i))) (C := RX5) (T := TX5) (N := 9) hx hb (hts d0) in_X5_layFlat_X5 hown hK.1 (x1 (hX_8.strip_ _ (by omega))) 0 rfl rfl 5 (by decide) (hts d0 _ hw_X5_layFlat_7) (fun _ h9 => h9) rfl dX5_layFlat_192 ?_
        refine lv_aload_n hx hb dX5_layFlat_195 rfl (lv_at hl 1 rfl) ?_
        refine va_get (D := G) (cl := vwCl) (ci := 6) (v := .ref (ad (50 + i))) (C := RX5) (T := TX5) (N := 9) hx hb (hts d0) in_X5_layFlat_X5 hown hK.1 (x1 (hX_8.strip_ _ (by omega))) 0 rfl rfl 3 (by decide) (hts d0 _ hw_X5_layFlat_2) (fun _ h9 => h9) rfl dX5_layFlat_196 ?_
        have cw_9 := va_cwS (R := rm_X5_layFlat) (rm := rm_X5_extent) 1 (hts d0) gX5_layFlat_X5_extent rfl rfl rfl (by decide +kernel) ⟨Nat.le_of_ble_eq_true rfl, Nat.le_of_ble_eq_true rfl⟩
        refine xcall hd0 (xintoS (As := [.ref (ad (50 + i))]) (rest := [.ref (ad (70 + i))]) ⟨hx, hb, hml, hown, hts _⟩ cw_9 rfl rfl hl.1 rfl (lv_room (Nat.le_of_ble_eq_true rfl)) dX5_layFlat_199) (c_X5_extent (l := l) (G := G) (ty := ty) (b0 := b0) (n := 2 * F) (g := fun j => d (2 * j + 1)) (by omega) (hX_8.cy_ _ (by omega)) (fun j hj => (hdd j hj).2)) (xoweB cw_9.1) hK hb0 hS (Nat.le_of_ble_eq_true rfl) (Nat.le_of_ble_eq_true rfl) (fun E_9 ce_9 q9_9 H_9 locs_9 d0 hd0 hp_9 hS hce_9 hcv_9 hcl_9 => ?_) (fun v_9 H_9 locs_9 d0 hd0 hp_9 hS => ?_)
        · exact hp_9.elim
        · obtain ⟨rfl, r_9, rfl, q_9⟩ := hp_9
          show W p l e _ (s.setDrawn _) m _ below meth c _ _ _ _ _ (F0 m 202 ls [.double r_9, .ref (ad (70 + i))])
          refine xput (G := G) (ci := 2) (v := .double r_9) (ty := .double) (C := RX1) (T := TX1) (N := 4) hx hb (hts d0) in_X5_layFlat_X1 tyX1 tyX1_ok nmX1 hown hK.1 (hX_8.box_ _ (by omega)) hS (hW.2.2.2.1 _ (xU_box (by omega))) rfl 3 (by decide) (hts d0 _ hw_X5_layFlat_9) (fun _ h9 => h9) rfl (by decide +kernel) rfl rfl (Nat.le_of_ble_eq_true rfl) dX5_layFlat_202 (fun H_10 locs_10 hs_10 hS => ?_)
          have hX_10 : xCla G ty ad F R pl un cx9 cy9 bu nb wi hi nf fa lo la (xup2 (xup2 bx i 2 r_7) i 3 r_9) K0 H_10 := hX_8.put_box3 (by omega) hW hs_10
          refine lv_aload_n hx hb dX5_layFlat_205 rfl (lv_at hl 1 rfl) ?_
          refine lv_iconst (v := nI 1) hx hb dX5_layFlat_206 (by decide) ?_
          refine xput (G := G) (ci := 6) (v := .int (nI 1)) (ty := .boolean) (C := RX5) (T := TX5) (N := 9) hx hb (hts d0) in_X5_layFlat_X5 tyX5 tyX5_ok nmX5 hown hK.1 (hX_10.strip_ _ (by omega)) hS (hW.2.2.2.1 _ (xU_strip (by omega))) rfl 6 (by decide) (hts d0 _ hw_X5_layFlat_10) (fun _ h9 => h9) rfl (by decide +kernel) rfl rfl (Nat.le_of_ble_eq_true rfl) dX5_layFlat_207 (fun H_11 locs_11 hs_11 hS => ?_)
          have hX_11 : xCla G ty ad F R pl (upd un i (nI 1)) cx9 cy9 bu nb wi hi nf fa lo la (xup2 (xup2 bx i 2 r_7) i 3 r_9) K0 H_11 := hX_10.put_un (by omega) hW hs_11
          refine lv_iconst (v := nI 1) hx hb dX5_layFlat_210 (by decide) ?_
          exact xzret (by decide) hd0 hx hb hr hlocks hS (Nat.le_of_ble_eq_true rfl) (Nat.le_of_ble_eq_true rfl) dX5_layFlat_211 ⟨_, _, ho, Or.inr ⟨rfl, d, hu, hdd, _, _, _, rfl, q_7, q_9, hX_11⟩⟩
    | succ n ih =>
      intro k d cx9 cy9 H9 locs d0 ls hinv hX9 hS hd0 hl
      obtain ⟨hk, hu, hdd, ho⟩ := hinv
      refine lv_iload_n hx hb dX5_layFlat_34 rfl (lv_at hl 0 rfl) ?_
      refine lv_aload_n hx hb dX5_layFlat_35 rfl (lv_at hl 1 rfl) ?_
      refine va_get (D := G) (cl := vwCl) (ci := 6) (v := .ref (ad (60 + i))) (C := RX5) (T := TX5) (N := 9) hx hb (hts d0) in_X5_layFlat_X5 hown hK.1 (x1 (hX9.strip_ _ (by omega))) 0 rfl rfl 4 (by decide) (hts d0 _ hw_X5_layFlat_3) (fun _ h9 => h9) rfl dX5_layFlat_36 ?_
      refine xalen hx hb hK.1 2 (hX9.bt_ _ (by omega)) rfl dX5_layFlat_39 ?_
      refine xicmpN_ge (tgt := 177) hx hb (by omega) (by omega) dX5_layFlat_40 (by decide) (fun h9 => absurd h9 (by omega)) (fun _ => ?_)
      refine lv_aload_n hx hb dX5_layFlat_43 rfl (lv_at hl 1 rfl) ?_
      refine va_get (D := G) (cl := vwCl) (ci := 6) (v := .ref (ad (10 + i))) (C := RX5) (T := TX5) (N := 9) hx hb (hts d0) in_X5_layFlat_X5 hown hK.1 (x1 (hX9.strip_ _ (by omega))) 0 rfl rfl 0 (by decide) (hts d0 _ hw_X5_layFlat_4) (fun _ h9 => h9) rfl dX5_layFlat_44 ?_
      refine va_get (D := G) (cl := vwCl) (ci := 5) (v := .ref (ad (20 + i))) (C := RX4) (T := TX4) (N := 1) hx hb (hts d0) in_X5_layFlat_X4 hown hK.1 (x1 (hX9.row_ _ (by omega))) 0 rfl rfl 0 (by decide) (hts d0 _ hw_X5_layFlat_5) (fun _ h9 => h9) rfl dX5_layFlat_47 ?_
      refine lv_iload_n hx hb dX5_layFlat_50 rfl (lv_at hl 0 rfl) ?_
      refine lv_iconst (v := nI 1) hx hb dX5_layFlat_51 (by decide) ?_
      refine xisubN hx hb (by omega) dX5_layFlat_52 ?_
      refine xaald (j := (k + 1) - 1) hx hb hK.1 4 (hX9.parr_ _ (by omega)) rfl (xix_of (by omega) (by omega)) rfl dX5_layFlat_53 ?_
      refine lv_aload_n hx hb dX5_layFlat_54 rfl (lv_at hl 1 rfl) ?_
      refine va_get (D := G) (cl := vwCl) (ci := 6) (v := .ref (ad (10 + i))) (C := RX5) (T := TX5) (N := 9) hx hb (hts d0) in_X5_layFlat_X5 hown hK.1 (x1 (hX9.strip_ _ (by omega))) 0 rfl rfl 0 (by decide) (hts d0 _ hw_X5_layFlat_4) (fun _ h9 => h9) rfl dX5_layFlat_55 ?_
      refine va_get (D := G) (cl := vwCl) (ci := 5) (v := .ref (ad (20 + i))) (C := RX4) (T := TX4) (N := 1) hx hb (hts d0) in_X5_layFlat_X4 hown hK.1 (x1 (hX9.row_ _ (by omega))) 0 rfl rfl 0 (by decide) (hts d0 _ hw_X5_layFlat_5) (fun _ h9 => h9) rfl dX5_layFlat_58 ?_
      refine lv_iload_n hx hb dX5_layFlat_61 rfl (lv_at hl 0 rfl) ?_
      refine xaald (j := k + 1) hx hb hK.1 4 (hX9.parr_ _ (by omega)) rfl (xix_of (by omega) (by omega)) rfl dX5_layFlat_62 ?_
      have cw_13 := va_cnB (R := rm_X5_layFlat) (rm := rm_X6_apart) (index := 55) 2 (hts d0) gX5_layFlat_X6_apart_n55 rfl rfl rfl (va_Nw.same (u := s) rfl rfl (hK.2.2.2.1 _ (List.mem_of_getElem? (i := 0) rfl))) (hts d0 _ hw_X5_layFlat_17) (by decide +kernel) ⟨Nat.le_of_ble_eq_true rfl, Nat.le_of_ble_eq_true rfl⟩
      have cs_13 : (Cond.static yX6_apart).before _ (s.setDrawn d0) = true := hts d0 _ hw_X5_layFlat_16
      refine xcall hd0 (xintoSN (As := [.ref (ad (100 + 8 * i + ((k + 1) - 1))), .ref (ad (100 + 8 * i + (k + 1)))]) (rest := []) ⟨hx, hb, hml, hown, hts _⟩ ⟨cw_13, cs_13, trivial⟩ rfl rfl hl.1 rfl (lv_room (Nat.le_of_ble_eq_true rfl)) dX5_layFlat_63) (c_X6_apart (l := l) (G := G) (ty := ty) (b0 := b0) (hX9.place_ _ (by omega) _ (by omega)) (hX9.place_ _ (by omega) _ (by omega)) (vq_rf _) (vq_rf _) (vq_rf _) (vq_rf _) (vq_rf _) (vq_rf _)) (xoweN cw_13) hK hb0 hS (Nat.le_of_ble_eq_true rfl) (Nat.le_of_ble_eq_true rfl) (fun E_13 ce_13 q9_13 H_13 locs_13 d0 hd0 hp_13 hS hce_13 hcv_13 hcl_13 => ?_) (fun v_13 H_13 locs_13 d0 hd0 hp_13 hS => ?_)
      · exact hp_13.elim
      · obtain ⟨rfl, r_13, rfl, q_13⟩ := hp_13
        show W p l e _ (s.setDrawn _) m _ below meth c _ _ _ _ _ (F0 m 66 ls [.double r_13])
        refine lv_dstore_n (lv' := [(2, .double r_13), (1, .int (nI (k + 1))), (0, .ref (ad (30 + i)))]) hx hb dX5_layFlat_66 rfl hl (by decide) rfl (fun ls hl => ?_)
        refine lv_aload_n hx hb dX5_layFlat_67 rfl (lv_at hl 2 rfl) ?_
        refine va_get (D := G) (cl := vwCl) (ci := 6) (v := .ref (ad (10 + (i + 1)))) (C := RX5) (T := TX5) (N := 9) hx hb (hts d0) in_X5_layFlat_X5 hown hK.1 (x1 (hX9.strip_ _ (by omega))) 0 rfl rfl 1 (by decide) (hts d0 _ hw_X5_layFlat_6) (fun _ h9 => h9) rfl dX5_layFlat_68 ?_
        refine va_get (D := G) (cl := vwCl) (ci := 5) (v := .ref (ad (20 + (i + 1)))) (C := RX4) (T := TX4) (N := 1) hx hb (hts d0) in_X5_layFlat_X4 hown hK.1 (x1 (hX9.row_ _ (by omega))) 0 rfl rfl 0 (by decide) (hts d0 _ hw_X5_layFlat_5) (fun _ h9 => h9) rfl dX5_layFlat_71 ?_
        refine lv_iload_n hx hb dX5_layFlat_74 rfl (lv_at hl 1 rfl) ?_
        refine lv_iconst (v := nI 1) hx hb dX5_layFlat_75 (by decide) ?_
        refine xisubN hx hb (by omega) dX5_layFlat_76 ?_
        refine xaald (j := (k + 1) - 1) hx hb hK.1 4 (hX9.parr_ _ (by omega)) rfl (xix_of (by omega) (by omega)) rfl dX5_layFlat_77 ?_
        refine lv_aload_n hx hb dX5_layFlat_78 rfl (lv_at hl 2 rfl) ?_
        refine va_get (D := G) (cl := vwCl) (ci := 6) (v := .ref (ad (10 + i))) (C := RX5) (T := TX5) (N := 9) hx hb (hts d0) in_X5_layFlat_X5 hown hK.1 (x1 (hX9.strip_ _ (by omega))) 0 rfl rfl 0 (by decide) (hts d0 _ hw_X5_layFlat_4) (fun _ h9 => h9) rfl dX5_layFlat_79 ?_
        refine va_get (D := G) (cl := vwCl) (ci := 5) (v := .ref (ad (20 + i))) (C := RX4) (T := TX4) (N := 1) hx hb (hts d0) in_X5_layFlat_X4 hown hK.1 (x1 (hX9.row_ _ (by omega))) 0 rfl rfl 0 (by decide) (hts d0 _ hw_X5_layFlat_5) (fun _ h9 => h9) rfl dX5_layFlat_82 ?_
        refine lv_iload_n hx hb dX5_layFlat_85 rfl (lv_at hl 1 rfl) ?_
        refine xaald (j := k + 1) hx hb hK.1 4 (hX9.parr_ _ (by omega)) rfl (xix_of (by omega) (by omega)) rfl dX5_layFlat_86 ?_
        have cw_14 := va_cnB (R := rm_X5_layFlat) (rm := rm_X6_apart) (index := 55) 2 (hts d0) gX5_layFlat_X6_apart_n55 rfl rfl rfl (va_Nw.same (u := s) rfl rfl (hK.2.2.2.1 _ (List.mem_of_getElem? (i := 0) rfl))) (hts d0 _ hw_X5_layFlat_17) (by decide +kernel) ⟨Nat.le_of_ble_eq_true rfl, Nat.le_of_ble_eq_true rfl⟩
        have cs_14 : (Cond.static yX6_apart).before _ (s.setDrawn d0) = true := hts d0 _ hw_X5_layFlat_16
        refine xcall hd0 (xintoSN (As := [.ref (ad (100 + 8 * (i + 1) + ((k + 1) - 1))), .ref (ad (100 + 8 * i + (k + 1)))]) (rest := []) ⟨hx, hb, hml, hown, hts _⟩ ⟨cw_14, cs_14, trivial⟩ rfl rfl hl.1 rfl (lv_room (Nat.le_of_ble_eq_true rfl)) dX5_layFlat_87) (c_X6_apart (l := l) (G := G) (ty := ty) (b0 := b0) (hX9.place_ _ (by omega) _ (by omega)) (hX9.place_ _ (by omega) _ (by omega)) (vq_rf _) (vq_rf _) (vq_rf _) (vq_rf _) (vq_rf _) (vq_rf _)) (xoweN cw_14) hK hb0 hS (Nat.le_of_ble_eq_true rfl) (Nat.le_of_ble_eq_true rfl) (fun E_14 ce_14 q9_14 H_14 locs_14 d0 hd0 hp_14 hS hce_14 hcv_14 hcl_14 => ?_) (fun v_14 H_14 locs_14 d0 hd0 hp_14 hS => ?_)
        · exact hp_14.elim
        · obtain ⟨rfl, r_14, rfl, q_14⟩ := hp_14
          show W p l e _ (s.setDrawn _) m _ below meth c _ _ _ _ _ (F0 m 90 ls [.double r_14])
          refine lv_dstore (lv' := [(4, .double r_14), (2, .double r_13), (1, .int (nI (k + 1))), (0, .ref (ad (30 + i)))]) hx hb dX5_layFlat_90 hl (by decide) rfl (fun ls hl => ?_)
          refine lv_aload_n hx hb dX5_layFlat_92 rfl (lv_at hl 3 rfl) ?_
          refine va_get (D := G) (cl := vwCl) (ci := 6) (v := .ref (ad (10 + (i + 1)))) (C := RX5) (T := TX5) (N := 9) hx hb (hts d0) in_X5_layFlat_X5 hown hK.1 (x1 (hX9.strip_ _ (by omega))) 0 rfl rfl 1 (by decide) (hts d0 _ hw_X5_layFlat_6) (fun _ h9 => h9) rfl dX5_layFlat_93 ?_
          refine va_get (D := G) (cl := vwCl) (ci := 5) (v := .ref (ad (20 + (i + 1)))) (C := RX4) (T := TX4) (N := 1) hx hb (hts d0) in_X5_layFlat_X4 hown hK.1 (x1 (hX9.row_ _ (by omega))) 0 rfl rfl 0 (by decide) (hts d0 _ hw_X5_layFlat_5) (fun _ h9 => h9) rfl dX5_layFlat_96 ?_
          refine lv_iload_n hx hb dX5_layFlat_99 rfl (lv_at hl 2 rfl) ?_
          refine lv_iconst (v := nI 1) hx hb dX5_layFlat_100 (by decide) ?_
          refine xisubN hx hb (by omega) dX5_layFlat_101 ?_
          refine xaald (j := (k + 1) - 1) hx hb hK.1 4 (hX9.parr_ _ (by omega)) rfl (xix_of (by omega) (by omega)) rfl dX5_layFlat_102 ?_
          refine lv_aload_n hx hb dX5_layFlat_103 rfl (lv_at hl 3 rfl) ?_
          refine va_get (D := G) (cl := vwCl) (ci := 6) (v := .ref (ad (10 + (i + 1)))) (C := RX5) (T := TX5) (N := 9) hx hb (hts d0) in_X5_layFlat_X5 hown hK.1 (x1 (hX9.strip_ _ (by omega))) 0 rfl rfl 1 (by decide) (hts d0 _ hw_X5_layFlat_6) (fun _ h9 => h9) rfl dX5_layFlat_104 ?_
          refine va_get (D := G) (cl := vwCl) (ci := 5) (v := .ref (ad (20 + (i + 1)))) (C := RX4) (T := TX4) (N := 1) hx hb (hts d0) in_X5_layFlat_X4 hown hK.1 (x1 (hX9.row_ _ (by omega))) 0 rfl rfl 0 (by decide) (hts d0 _ hw_X5_layFlat_5) (fun _ h9 => h9) rfl dX5_layFlat_107 ?_
          refine lv_iload_n hx hb dX5_layFlat_110 rfl (lv_at hl 2 rfl) ?_
          refine xaald (j := k + 1) hx hb hK.1 4 (hX9.parr_ _ (by omega)) rfl (xix_of (by omega) (by omega)) rfl dX5_layFlat_111 ?_
          have cw_15 := va_cnB (R := rm_X5_layFlat) (rm := rm_X6_apart) (index := 55) 2 (hts d0) gX5_layFlat_X6_apart_n55 rfl rfl rfl (va_Nw.same (u := s) rfl rfl (hK.2.2.2.1 _ (List.mem_of_getElem? (i := 0) rfl))) (hts d0 _ hw_X5_layFlat_17) (by decide +kernel) ⟨Nat.le_of_ble_eq_true rfl, Nat.le_of_ble_eq_true rfl⟩
          have cs_15 : (Cond.static yX6_apart).before _ (s.setDrawn d0) = true := hts d0 _ hw_X5_layFlat_16
          refine xcall hd0 (xintoSN (As := [.ref (ad (100 + 8 * (i + 1) + ((k + 1) - 1))), .ref (ad (100 + 8 * (i + 1) + (k + 1)))]) (rest := []) ⟨hx, hb, hml, hown, hts _⟩ ⟨cw_15, cs_15, trivial⟩ rfl rfl hl.1 rfl (lv_room (Nat.le_of_ble_eq_true rfl)) dX5_layFlat_112) (c_X6_apart (l := l) (G := G) (ty := ty) (b0 := b0) (hX9.place_ _ (by omega) _ (by omega)) (hX9.place_ _ (by omega) _ (by omega)) (vq_rf _) (vq_rf _) (vq_rf _) (vq_rf _) (vq_rf _) (vq_rf _)) (xoweN cw_15) hK hb0 hS (Nat.le_of_ble_eq_true rfl) (Nat.le_of_ble_eq_true rfl) (fun E_15 ce_15 q9_15 H_15 locs_15 d0 hd0 hp_15 hS hce_15 hcv_15 hcl_15 => ?_) (fun v_15 H_15 locs_15 d0 hd0 hp_15 hS => ?_)
          · exact hp_15.elim
          · obtain ⟨rfl, r_15, rfl, q_15⟩ := hp_15
            show W p l e _ (s.setDrawn _) m _ below meth c _ _ _ _ _ (F0 m 115 ls [.double r_15])
            refine lv_dstore (lv' := [(6, .double r_15), (4, .double r_14), (2, .double r_13), (1, .int (nI (k + 1))), (0, .ref (ad (30 + i)))]) hx hb dX5_layFlat_115 hl (by decide) rfl (fun ls hl => ?_)
            refine lv_aload_n hx hb dX5_layFlat_117 rfl (lv_at hl 4 rfl) ?_
            refine lv_iconst (v := nI 2) hx hb dX5_layFlat_118 (by decide) ?_
            refine lv_iload_n hx hb dX5_layFlat_119 rfl (lv_at hl 3 rfl) ?_
            refine ximulN hx hb dX5_layFlat_120 ?_
            refine lv_iconst (v := nI 2) hx hb dX5_layFlat_121 (by decide) ?_
            refine lv_iload_n hx hb dX5_layFlat_122 rfl (lv_at hl 3 rfl) ?_
            refine ximulN hx hb dX5_layFlat_123 ?_
            refine lv_iconst (v := nI 2) hx hb dX5_layFlat_124 (by decide) ?_
            refine xisubN hx hb (by omega) dX5_layFlat_125 ?_
            refine lv_iconst (v := nI 2) hx hb dX5_layFlat_126 (by decide) ?_
            refine lv_iload_n hx hb dX5_layFlat_127 rfl (lv_at hl 3 rfl) ?_
            refine ximulN hx hb dX5_layFlat_128 ?_
            refine lv_iconst (v := nI 1) hx hb dX5_layFlat_129 (by decide) ?_
            refine xisubN hx hb (by omega) dX5_layFlat_130 ?_
            refine lv_dload_n hx hb dX5_layFlat_131 rfl (lv_at hl 2 rfl) ?_
            refine lv_dload hx hb dX5_layFlat_132 (lv_at hl 1 rfl) ?_
            have cw_16 := cwV (R := rm_X5_layFlat) (rm := rm_X5_put) 5 (hts d0) gX5_layFlat_X5_put rfl rfl rfl (by decide +kernel) ⟨Nat.le_of_ble_eq_true rfl, Nat.le_of_ble_eq_true rfl⟩
            refine xcall hd0 (xintoV (b := (ad (30 + i))) (As := [.int (nI (2 * (k + 1))), .int (nI ((2 * (k + 1)) - 2)), .int (nI ((2 * (k + 1)) - 1)), .double r_13, .double r_14]) (rest := []) ⟨hx, hb, hml, hown, hts _⟩ cw_16 (va_recv hK.1 (x1 (hX9.strip_ _ (by omega))) (ci := 6) (q0 := 0) rfl rfl) rfl rfl hl.1 rfl (lv_room (Nat.le_of_ble_eq_true rfl)) dX5_layFlat_134) (c_X5_put (l := l) (G := G) (ty := ty) (b0 := b0) hX9 hW (i := i) (k := 2 * (k + 1)) (a1 := (2 * (k + 1)) - 2) (b1 := (2 * (k + 1)) - 1) (d := d) hi9 q_13 q_14 (by omega) (by omega) (by omega) hdd) (xoweB cw_16.1) hK hb0 hS (Nat.le_of_ble_eq_true rfl) (Nat.le_of_ble_eq_true rfl) (fun E_16 ce_16 q9_16 H_16 locs_16 d0 hd0 hp_16 hS hce_16 hcv_16 hcl_16 => ?_) (fun v_16 H_16 locs_16 d0 hd0 hp_16 hS => ?_)
            · exact hp_16.elim
            · rcases hp_16 with ⟨rfl, hbad_16, hX_16⟩ | ⟨rfl, hbad_16, x_16, y_16, hX_16, hx_16, hy_16⟩
              · show W p l e _ (s.setDrawn _) m _ below meth c _ _ _ _ _ (F0 m 137 ls [.int (nI 0)])
                refine lv_if_ne (tgt := 142) hx hb dX5_layFlat_137 (by decide) (fun h9 => (show False by revert h9; decide).elim) (fun _ => ?_)
                refine lv_iconst (v := nI 0) hx hb dX5_layFlat_140 (by decide) ?_
                exact xzret (by decide) hd0 hx hb hr hlocks hS (Nat.le_of_ble_eq_true rfl) (Nat.le_of_ble_eq_true rfl) dX5_layFlat_141 ⟨_, _, ho, Or.inl ⟨rfl, pUnr_to (pUnr_n1 hu hbad_16) (by omega), hX_16⟩⟩
              · have hd2_16 := lay_put hdd hx_16 hy_16
                have ho2_16 := (ho.x (k := (2 * (k + 1))) (v := x_16)).y (k := (2 * (k + 1))) (v := y_16)
                show W p l e _ (s.setDrawn _) m _ below meth c _ _ _ _ _ (F0 m 137 ls [.int (nI 1)])
                refine lv_if_ne (tgt := 142) hx hb dX5_layFlat_137 (by decide) (fun _ => ?_) (fun h9 => (show False by revert h9; decide).elim)
                refine lv_aload_n hx hb dX5_layFlat_142 rfl (lv_at hl 4 rfl) ?_
                refine lv_iconst (v := nI 2) hx hb dX5_layFlat_143 (by decide) ?_
                refine lv_iload_n hx hb dX5_layFlat_144 rfl (lv_at hl 3 rfl) ?_
                refine ximulN hx hb dX5_layFlat_145 ?_
                refine lv_iconst (v := nI 1) hx hb dX5_layFlat_146 (by decide) ?_
                refine xiaddN hx hb dX5_layFlat_147 ?_
                refine lv_iconst (v := nI 2) hx hb dX5_layFlat_148 (by decide) ?_
                refine lv_iload_n hx hb dX5_layFlat_149 rfl (lv_at hl 3 rfl) ?_
                refine ximulN hx hb dX5_layFlat_150 ?_
                refine lv_iconst (v := nI 2) hx hb dX5_layFlat_151 (by decide) ?_
                refine lv_iload_n hx hb dX5_layFlat_152 rfl (lv_at hl 3 rfl) ?_
                refine ximulN hx hb dX5_layFlat_153 ?_
                refine lv_iconst (v := nI 1) hx hb dX5_layFlat_154 (by decide) ?_
                refine xisubN hx hb (by omega) dX5_layFlat_155 ?_
                refine lv_aload_n hx hb dX5_layFlat_156 rfl (lv_at hl 4 rfl) ?_
                refine lv_iload_n hx hb dX5_layFlat_157 rfl (lv_at hl 3 rfl) ?_
                have cw_19 := cwV (R := rm_X5_layFlat) (rm := rm_X5_across) 1 (hts d0) gX5_layFlat_X5_across rfl rfl rfl (by decide +kernel) ⟨Nat.le_of_ble_eq_true rfl, Nat.le_of_ble_eq_true rfl⟩
                refine xcall hd0 (xintoV (b := (ad (30 + i))) (As := [.int (nI (k + 1))]) (rest := [.int (nI ((2 * (k + 1)) - 1)), .int (nI (2 * (k + 1))), .int (nI ((2 * (k + 1)) + 1)), .ref (ad (30 + i))]) ⟨hx, hb, hml, hown, hts _⟩ cw_19 (va_recv hK.1 (x1 (hX_16.strip_ _ (by omega))) (ci := 6) (q0 := 0) rfl rfl) rfl rfl hl.1 rfl (lv_room (Nat.le_of_ble_eq_true rfl)) dX5_layFlat_158) (c_X5_across (l := l) (G := G) (ty := ty) (b0 := b0) hX_16 hW (i := i) (f := k + 1) hi9 (by omega)) (xoweB cw_19.1) hK hb0 hS (Nat.le_of_ble_eq_true rfl) (Nat.le_of_ble_eq_true rfl) (fun E_19 ce_19 q9_19 H_19 locs_19 d0 hd0 hp_19 hS hce_19 hcv_19 hcl_19 => ?_) (fun v_19 H_19 locs_19 d0 hd0 hp_19 hS => ?_)
                · exact hp_19.elim
                · obtain ⟨rfl, r_19, rfl, q_19⟩ := hp_19
                  show W p l e _ (s.setDrawn _) m _ below meth c _ _ _ _ _ (F0 m 161 ls [.double r_19, .int (nI ((2 * (k + 1)) - 1)), .int (nI (2 * (k + 1))), .int (nI ((2 * (k + 1)) + 1)), .ref (ad (30 + i))])
                  refine lv_dload hx hb dX5_layFlat_161 (lv_at hl 0 rfl) ?_
                  have cw_20 := cwV (R := rm_X5_layFlat) (rm := rm_X5_put) 5 (hts d0) gX5_layFlat_X5_put rfl rfl rfl (by decide +kernel) ⟨Nat.le_of_ble_eq_true rfl, Nat.le_of_ble_eq_true rfl⟩
                  refine xcall hd0 (xintoV (b := (ad (30 + i))) (As := [.int (nI ((2 * (k + 1)) + 1)), .int (nI (2 * (k + 1))), .int (nI ((2 * (k + 1)) - 1)), .double r_19, .double r_15]) (rest := []) ⟨hx, hb, hml, hown, hts _⟩ cw_20 (va_recv hK.1 (x1 (hX_16.strip_ _ (by omega))) (ci := 6) (q0 := 0) rfl rfl) rfl rfl hl.1 rfl (lv_room (Nat.le_of_ble_eq_true rfl)) dX5_layFlat_163) (c_X5_put (l := l) (G := G) (ty := ty) (b0 := b0) hX_16 hW (i := i) (k := (2 * (k + 1)) + 1) (a1 := 2 * (k + 1)) (b1 := (2 * (k + 1)) - 1) (d := (pStep1 (pFar pl) i d (k + 1))) hi9 q_19 q_15 (by omega) (by omega) (by omega) hd2_16) (xoweB cw_20.1) hK hb0 hS (Nat.le_of_ble_eq_true rfl) (Nat.le_of_ble_eq_true rfl) (fun E_20 ce_20 q9_20 H_20 locs_20 d0 hd0 hp_20 hS hce_20 hcv_20 hcl_20 => ?_) (fun v_20 H_20 locs_20 d0 hd0 hp_20 hS => ?_)
                  · exact hp_20.elim
                  · rcases hp_20 with ⟨rfl, hbad_20, hX_20⟩ | ⟨rfl, hbad_20, x_20, y_20, hX_20, hx_20, hy_20⟩
                    · show W p l e _ (s.setDrawn _) m _ below meth c _ _ _ _ _ (F0 m 166 ls [.int (nI 0)])
                      refine lv_if_ne (tgt := 171) hx hb dX5_layFlat_166 (by decide) (fun h9 => (show False by revert h9; decide).elim) (fun _ => ?_)
                      refine lv_iconst (v := nI 0) hx hb dX5_layFlat_169 (by decide) ?_
                      exact xzret (by decide) hd0 hx hb hr hlocks hS (Nat.le_of_ble_eq_true rfl) (Nat.le_of_ble_eq_true rfl) dX5_layFlat_170 ⟨_, _, ho2_16, Or.inl ⟨rfl, pUnr_to (pUnr_n2 hu hbad_16 hbad_20) (by omega), hX_20⟩⟩
                    · have hd2_20 := lay_put hd2_16 hx_20 hy_20
                      have ho2_20 := (ho2_16.x (k := ((2 * (k + 1)) + 1)) (v := x_20)).y (k := ((2 * (k + 1)) + 1)) (v := y_20)
                      show W p l e _ (s.setDrawn _) m _ below meth c _ _ _ _ _ (F0 m 166 ls [.int (nI 1)])
                      refine lv_if_ne (tgt := 171) hx hb dX5_layFlat_166 (by decide) (fun _ => ?_) (fun h9 => (show False by revert h9; decide).elim)
                      refine xiincN (x := k + 1) (y := 1) (lv' := [(1, .int (nI ((k + 1) + 1))), (6, .double r_15), (4, .double r_14), (2, .double r_13), (0, .ref (ad (30 + i)))]) hx hb dX5_layFlat_171 hl (k := 3) rfl (by decide) (by decide) rfl (fun ls hl => ?_)
                      refine lv_goto (tgt := 34) hx hb dX5_layFlat_174 (by decide) ?_
                      exact ih (k + 1) (pStep2 (pFar pl) i d (k + 1)) (xup2 (xup2 cx9 i (2 * (k + 1)) x_16) i ((2 * (k + 1)) + 1) x_20) (xup2 (xup2 cy9 i (2 * (k + 1)) y_16) i ((2 * (k + 1)) + 1) y_20) H_20 _ d0 ls ⟨by omega, pUnr_s hu hbad_16 hbad_20, hd2_20, ho2_20⟩ hX_20 hS hd0 (lv_sub hl [0, 4] rfl)
