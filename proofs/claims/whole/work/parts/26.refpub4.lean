/-! THE REFERENCE: unroll. -/
def pStep1 (pd : Nat → Nat → Nat → Nat → UInt64) (x : Nat) (d : Nat → UInt64) (f : Nat) : Nat → UInt64 := pPutF d (2 * f) (2 * f - 2) (2 * f - 1) (pd (f - 1) x f x) (pd (f - 1) (x + 1) f x)
def pStep2 (pd : Nat → Nat → Nat → Nat → UInt64) (x : Nat) (d : Nat → UInt64) (f : Nat) : Nat → UInt64 := pPutF (pStep1 pd x d f) (2 * f + 1) (2 * f) (2 * f - 1) (pd f x f (x + 1)) (pd (f - 1) (x + 1) f (x + 1))
def pStep (pd : Nat → Nat → Nat → Nat → UInt64) (x : Nat) (d : Nat → UInt64) (f : Nat) : Option (Nat → UInt64) := if pPutBad d (2 * f - 2) (2 * f - 1) = true then none else if pPutBad (pStep1 pd x d f) (2 * f) (2 * f - 1) = true then none else some (pStep2 pd x d f)
def pD0 (pd : Nat → Nat → Nat → Nat → UInt64) (x : Nat) : Nat → UInt64 := fun j => if j = 3 then pd 0 x 0 (x + 1) else FP.dconst0
/-- UNROLLED, up to a frame: the corners, or none where it can't be -/
def pUnr (pd : Nat → Nat → Nat → Nat → UInt64) (x : Nat) : Nat → Option (Nat → UInt64)
  | 0 => some (pD0 pd x)
  | k + 1 => (pUnr pd x k).bind fun d => pStep pd x d (k + 1)
theorem pUnr_n1 {pd : Nat → Nat → Nat → Nat → UInt64} {x k : Nat} {d : Nat → UInt64} (h : pUnr pd x k = some d) (h2 : pPutBad d (2 * (k + 1) - 2) (2 * (k + 1) - 1) = true) : pUnr pd x (k + 1) = none := by
  show (pUnr pd x k).bind _ = none
  rw [h]; show pStep pd x d (k + 1) = none
  unfold pStep; exact if_pos h2
theorem pUnr_n2 {pd : Nat → Nat → Nat → Nat → UInt64} {x k : Nat} {d : Nat → UInt64} (h : pUnr pd x k = some d) (h1 : pPutBad d (2 * (k + 1) - 2) (2 * (k + 1) - 1) = false) (h2 : pPutBad (pStep1 pd x d (k + 1)) (2 * (k + 1)) (2 * (k + 1) - 1) = true) : pUnr pd x (k + 1) = none := by
  show (pUnr pd x k).bind _ = none
  rw [h]; show pStep pd x d (k + 1) = none
  unfold pStep; rw [if_neg (by rw [h1]; decide)]; exact if_pos h2
theorem pUnr_s {pd : Nat → Nat → Nat → Nat → UInt64} {x k : Nat} {d : Nat → UInt64} (h : pUnr pd x k = some d) (h1 : pPutBad d (2 * (k + 1) - 2) (2 * (k + 1) - 1) = false) (h2 : pPutBad (pStep1 pd x d (k + 1)) (2 * (k + 1)) (2 * (k + 1) - 1) = false) : pUnr pd x (k + 1) = some (pStep2 pd x d (k + 1)) := by
  show (pUnr pd x k).bind _ = _
  rw [h]; show pStep pd x d (k + 1) = _
  unfold pStep; rw [if_neg (by rw [h1]; decide), if_neg (by rw [h2]; decide)]
theorem pUnr_up {pd : Nat → Nat → Nat → Nat → UInt64} {x k : Nat} (h : pUnr pd x k = none) : ∀ n : Nat, pUnr pd x (k + n) = none := by
  intro n
  induction n with
  | zero => exact h
  | succ n ih => show (pUnr pd x (k + n)).bind _ = none; rw [ih]; rfl
theorem pUnr_to {pd : Nat → Nat → Nat → Nat → UInt64} {x k n : Nat} (h : pUnr pd x k = none) (hn : k ≤ n) : pUnr pd x n = none := by
  have := pUnr_up h (n - k)
  rwa [Nat.add_sub_cancel' hn] at this
theorem xd0_ok {dr : Nat → UInt64} {pd : Nat → Nat → Nat → Nat → UInt64} {x : Nat} {v : UInt64} (hv : vq v (pd 0 x 0 (x + 1))) : ∀ j : Nat, j < 4 * (0 + 1) → vq ((vf_upd (vf_upd (vf_upd (vf_upd dr 0 FP.dconst0) 1 FP.dconst0) 2 FP.dconst0) 3 v) j) (pD0 pd x j) := by
  intro j hj
  unfold vf_upd pD0
  rcases (show j = 0 ∨ j = 1 ∨ j = 2 ∨ j = 3 by omega) with rfl | rfl | rfl | rfl
  · rfl
  · rfl
  · rfl
  · exact hv
theorem xcopy_in {co9 dr9 : Nat → UInt64} {x q : Nat} (h : ∀ j : Nat, j < q → co9 (32 * x + j) = dr9 j) : ∀ j : Nat, j < q + 1 → vf_upd co9 (32 * x + q) (dr9 q) (32 * x + j) = dr9 j := by
  intro j hj
  unfold vf_upd
  by_cases e : j = q
  · subst e; exact if_pos rfl
  · rw [if_neg (by omega)]; exact h j (by omega)
theorem xcopy_out {co9 co : Nat → UInt64} {x q : Nat} {v : UInt64} (h : ∀ j : Nat, (j < 32 * x ∨ 32 * x + q ≤ j) → co9 j = co j) : ∀ j : Nat, (j < 32 * x ∨ 32 * x + (q + 1) ≤ j) → vf_upd co9 (32 * x + q) v j = co j := by
  intro j hj
  unfold vf_upd
  rw [if_neg (by omega)]; exact h j (by omega)
set_option maxRecDepth 20000 in
theorem ggX7_unroll_X7_noStrip : GoodIn wsX7_unroll wsX7_noStrip := goodIn_r _ [10, 11, 33, 34, 35, 36, 37, 38, 39, 40, 41, 42, 43, 44, 45, 46, 47, 48, 49, 50] (by decide +kernel) (by decide +kernel)
set_option maxRecDepth 20000 in
theorem gX7_unroll_X7_noStrip : GoodIn wsX7_unroll (wsV RX7 87 RX7 yX7_noStrip wsX7_noStrip) := goodIn_app (goodIn_of _ (by decide +kernel)) ggX7_unroll_X7_noStrip
set_option maxRecDepth 20000 in
theorem ggX7_unroll_X7_far : GoodIn wsX7_unroll wsX7_far := goodIn_r _ [15, 16, 17, 18, 9, 19, 20, 21, 22, 23, 24, 33, 34, 35, 36, 37, 38, 39, 40, 41, 42, 43, 44, 45, 46, 47, 48, 49, 50] (by decide +kernel) (by decide +kernel)
set_option maxRecDepth 20000 in
theorem gX7_unroll_X7_far : GoodIn wsX7_unroll (wsV RX7 77 RX7 yX7_far wsX7_far) := goodIn_app (goodIn_of _ (by decide +kernel)) ggX7_unroll_X7_far
set_option maxRecDepth 20000 in
theorem ggX7_unroll_X7_put : GoodIn wsX7_unroll wsX7_put := goodIn_r _ [28, 2, 29, 24, 30, 31, 9, 32, 21, 22, 23, 33, 34, 35, 36, 37, 38, 39, 40, 41, 42, 43, 44, 45, 46, 47, 48, 49, 50] (by decide +kernel) (by decide +kernel)
set_option maxRecDepth 20000 in
theorem gX7_unroll_X7_put : GoodIn wsX7_unroll (wsV RX7 91 RX7 yX7_put wsX7_put) := goodIn_app (goodIn_of _ (by decide +kernel)) ggX7_unroll_X7_put
theorem dX7_unroll_0 : decode cX7_unroll 0 = .ok (.aload_n 0, 1) := by decide +kernel
theorem dX7_unroll_1 : decode cX7_unroll 1 = .ok (.aload_n 0, 1) := by decide +kernel
theorem dX7_unroll_2 : decode cX7_unroll 2 = .ok (.iload_n 1, 1) := by decide +kernel
theorem dX7_unroll_3 : decode cX7_unroll 3 = .ok (.invokevirtual 87, 3) := by decide +kernel
theorem dX7_unroll_6 : decode cX7_unroll 6 = .ok (.ifCond .eq 7, 3) := by decide +kernel
theorem dX7_unroll_9 : decode cX7_unroll 9 = .ok (.iconst 1, 1) := by decide +kernel
theorem dX7_unroll_10 : decode cX7_unroll 10 = .ok (.goto 4, 3) := by decide +kernel
theorem dX7_unroll_13 : decode cX7_unroll 13 = .ok (.iconst 0, 1) := by decide +kernel
theorem dX7_unroll_14 : decode cX7_unroll 14 = .ok (.putfield 52, 3) := by decide +kernel
theorem dX7_unroll_17 : decode cX7_unroll 17 = .ok (.aload_n 0, 1) := by decide +kernel
theorem dX7_unroll_18 : decode cX7_unroll 18 = .ok (.getfield 52, 3) := by decide +kernel
theorem dX7_unroll_21 : decode cX7_unroll 21 = .ok (.ifCond .le 5, 3) := by decide +kernel
theorem dX7_unroll_24 : decode cX7_unroll 24 = .ok (.iconst 0, 1) := by decide +kernel
theorem dX7_unroll_25 : decode cX7_unroll 25 = .ok (.ireturn, 1) := by decide +kernel
theorem dX7_unroll_26 : decode cX7_unroll 26 = .ok (.aload_n 0, 1) := by decide +kernel
theorem dX7_unroll_27 : decode cX7_unroll 27 = .ok (.getfield 20, 3) := by decide +kernel
theorem dX7_unroll_30 : decode cX7_unroll 30 = .ok (.iconst 0, 1) := by decide +kernel
theorem dX7_unroll_31 : decode cX7_unroll 31 = .ok (.dconst 0, 1) := by decide +kernel
theorem dX7_unroll_32 : decode cX7_unroll 32 = .ok (.dastore, 1) := by decide +kernel
theorem dX7_unroll_33 : decode cX7_unroll 33 = .ok (.aload_n 0, 1) := by decide +kernel
theorem dX7_unroll_34 : decode cX7_unroll 34 = .ok (.getfield 20, 3) := by decide +kernel
theorem dX7_unroll_37 : decode cX7_unroll 37 = .ok (.iconst 1, 1) := by decide +kernel
theorem dX7_unroll_38 : decode cX7_unroll 38 = .ok (.dconst 0, 1) := by decide +kernel
theorem dX7_unroll_39 : decode cX7_unroll 39 = .ok (.dastore, 1) := by decide +kernel
theorem dX7_unroll_40 : decode cX7_unroll 40 = .ok (.aload_n 0, 1) := by decide +kernel
theorem dX7_unroll_41 : decode cX7_unroll 41 = .ok (.getfield 20, 3) := by decide +kernel
theorem dX7_unroll_44 : decode cX7_unroll 44 = .ok (.iconst 2, 1) := by decide +kernel
theorem dX7_unroll_45 : decode cX7_unroll 45 = .ok (.dconst 0, 1) := by decide +kernel
theorem dX7_unroll_46 : decode cX7_unroll 46 = .ok (.dastore, 1) := by decide +kernel
theorem dX7_unroll_47 : decode cX7_unroll 47 = .ok (.aload_n 0, 1) := by decide +kernel
theorem dX7_unroll_48 : decode cX7_unroll 48 = .ok (.getfield 20, 3) := by decide +kernel
theorem dX7_unroll_51 : decode cX7_unroll 51 = .ok (.iconst 3, 1) := by decide +kernel
theorem dX7_unroll_52 : decode cX7_unroll 52 = .ok (.aload_n 0, 1) := by decide +kernel
theorem dX7_unroll_53 : decode cX7_unroll 53 = .ok (.iconst 0, 1) := by decide +kernel
theorem dX7_unroll_54 : decode cX7_unroll 54 = .ok (.iload_n 1, 1) := by decide +kernel
theorem dX7_unroll_55 : decode cX7_unroll 55 = .ok (.iconst 0, 1) := by decide +kernel
theorem dX7_unroll_56 : decode cX7_unroll 56 = .ok (.iload_n 1, 1) := by decide +kernel
theorem dX7_unroll_57 : decode cX7_unroll 57 = .ok (.iconst 1, 1) := by decide +kernel
theorem dX7_unroll_58 : decode cX7_unroll 58 = .ok (.iadd, 1) := by decide +kernel
theorem dX7_unroll_59 : decode cX7_unroll 59 = .ok (.invokevirtual 77, 3) := by decide +kernel
theorem dX7_unroll_62 : decode cX7_unroll 62 = .ok (.dastore, 1) := by decide +kernel
theorem dX7_unroll_63 : decode cX7_unroll 63 = .ok (.iconst 1, 1) := by decide +kernel
theorem dX7_unroll_64 : decode cX7_unroll 64 = .ok (.istore_n 2, 1) := by decide +kernel
theorem dX7_unroll_65 : decode cX7_unroll 65 = .ok (.iload_n 2, 1) := by decide +kernel
theorem dX7_unroll_66 : decode cX7_unroll 66 = .ok (.aload_n 0, 1) := by decide +kernel
theorem dX7_unroll_67 : decode cX7_unroll 67 = .ok (.getfield 45, 3) := by decide +kernel
theorem dX7_unroll_70 : decode cX7_unroll 70 = .ok (.if_icmp .ge 112, 3) := by decide +kernel
theorem dX7_unroll_73 : decode cX7_unroll 73 = .ok (.aload_n 0, 1) := by decide +kernel
theorem dX7_unroll_74 : decode cX7_unroll 74 = .ok (.iconst 2, 1) := by decide +kernel
theorem dX7_unroll_75 : decode cX7_unroll 75 = .ok (.iload_n 2, 1) := by decide +kernel
theorem dX7_unroll_76 : decode cX7_unroll 76 = .ok (.imul, 1) := by decide +kernel
theorem dX7_unroll_77 : decode cX7_unroll 77 = .ok (.iconst 2, 1) := by decide +kernel
theorem dX7_unroll_78 : decode cX7_unroll 78 = .ok (.iload_n 2, 1) := by decide +kernel
theorem dX7_unroll_79 : decode cX7_unroll 79 = .ok (.imul, 1) := by decide +kernel
theorem dX7_unroll_80 : decode cX7_unroll 80 = .ok (.iconst 2, 1) := by decide +kernel
theorem dX7_unroll_81 : decode cX7_unroll 81 = .ok (.isub, 1) := by decide +kernel
theorem dX7_unroll_82 : decode cX7_unroll 82 = .ok (.iconst 2, 1) := by decide +kernel
theorem dX7_unroll_83 : decode cX7_unroll 83 = .ok (.iload_n 2, 1) := by decide +kernel
theorem dX7_unroll_84 : decode cX7_unroll 84 = .ok (.imul, 1) := by decide +kernel
theorem dX7_unroll_85 : decode cX7_unroll 85 = .ok (.iconst 1, 1) := by decide +kernel
theorem dX7_unroll_86 : decode cX7_unroll 86 = .ok (.isub, 1) := by decide +kernel
theorem dX7_unroll_87 : decode cX7_unroll 87 = .ok (.aload_n 0, 1) := by decide +kernel
theorem dX7_unroll_88 : decode cX7_unroll 88 = .ok (.iload_n 2, 1) := by decide +kernel
theorem dX7_unroll_89 : decode cX7_unroll 89 = .ok (.iconst 1, 1) := by decide +kernel
theorem dX7_unroll_90 : decode cX7_unroll 90 = .ok (.isub, 1) := by decide +kernel
theorem dX7_unroll_91 : decode cX7_unroll 91 = .ok (.iload_n 1, 1) := by decide +kernel
theorem dX7_unroll_92 : decode cX7_unroll 92 = .ok (.iload_n 2, 1) := by decide +kernel
theorem dX7_unroll_93 : decode cX7_unroll 93 = .ok (.iload_n 1, 1) := by decide +kernel
theorem dX7_unroll_94 : decode cX7_unroll 94 = .ok (.invokevirtual 77, 3) := by decide +kernel
theorem dX7_unroll_97 : decode cX7_unroll 97 = .ok (.aload_n 0, 1) := by decide +kernel
theorem dX7_unroll_98 : decode cX7_unroll 98 = .ok (.iload_n 2, 1) := by decide +kernel
theorem dX7_unroll_99 : decode cX7_unroll 99 = .ok (.iconst 1, 1) := by decide +kernel
theorem dX7_unroll_100 : decode cX7_unroll 100 = .ok (.isub, 1) := by decide +kernel
theorem dX7_unroll_101 : decode cX7_unroll 101 = .ok (.iload_n 1, 1) := by decide +kernel
theorem dX7_unroll_102 : decode cX7_unroll 102 = .ok (.iconst 1, 1) := by decide +kernel
theorem dX7_unroll_103 : decode cX7_unroll 103 = .ok (.iadd, 1) := by decide +kernel
theorem dX7_unroll_104 : decode cX7_unroll 104 = .ok (.iload_n 2, 1) := by decide +kernel
theorem dX7_unroll_105 : decode cX7_unroll 105 = .ok (.iload_n 1, 1) := by decide +kernel
theorem dX7_unroll_106 : decode cX7_unroll 106 = .ok (.invokevirtual 77, 3) := by decide +kernel
theorem dX7_unroll_109 : decode cX7_unroll 109 = .ok (.invokevirtual 91, 3) := by decide +kernel
theorem dX7_unroll_112 : decode cX7_unroll 112 = .ok (.ifCond .eq 51, 3) := by decide +kernel
theorem dX7_unroll_115 : decode cX7_unroll 115 = .ok (.aload_n 0, 1) := by decide +kernel
theorem dX7_unroll_116 : decode cX7_unroll 116 = .ok (.iconst 2, 1) := by decide +kernel
theorem dX7_unroll_117 : decode cX7_unroll 117 = .ok (.iload_n 2, 1) := by decide +kernel
theorem dX7_unroll_118 : decode cX7_unroll 118 = .ok (.imul, 1) := by decide +kernel
theorem dX7_unroll_119 : decode cX7_unroll 119 = .ok (.iconst 1, 1) := by decide +kernel
theorem dX7_unroll_120 : decode cX7_unroll 120 = .ok (.iadd, 1) := by decide +kernel
theorem dX7_unroll_121 : decode cX7_unroll 121 = .ok (.iconst 2, 1) := by decide +kernel
theorem dX7_unroll_122 : decode cX7_unroll 122 = .ok (.iload_n 2, 1) := by decide +kernel
theorem dX7_unroll_123 : decode cX7_unroll 123 = .ok (.imul, 1) := by decide +kernel
theorem dX7_unroll_124 : decode cX7_unroll 124 = .ok (.iconst 2, 1) := by decide +kernel
theorem dX7_unroll_125 : decode cX7_unroll 125 = .ok (.iload_n 2, 1) := by decide +kernel
theorem dX7_unroll_126 : decode cX7_unroll 126 = .ok (.imul, 1) := by decide +kernel
theorem dX7_unroll_127 : decode cX7_unroll 127 = .ok (.iconst 1, 1) := by decide +kernel
theorem dX7_unroll_128 : decode cX7_unroll 128 = .ok (.isub, 1) := by decide +kernel
theorem dX7_unroll_129 : decode cX7_unroll 129 = .ok (.aload_n 0, 1) := by decide +kernel
theorem dX7_unroll_130 : decode cX7_unroll 130 = .ok (.iload_n 2, 1) := by decide +kernel
theorem dX7_unroll_131 : decode cX7_unroll 131 = .ok (.iload_n 1, 1) := by decide +kernel
theorem dX7_unroll_132 : decode cX7_unroll 132 = .ok (.iload_n 2, 1) := by decide +kernel
theorem dX7_unroll_133 : decode cX7_unroll 133 = .ok (.iload_n 1, 1) := by decide +kernel
theorem dX7_unroll_134 : decode cX7_unroll 134 = .ok (.iconst 1, 1) := by decide +kernel
theorem dX7_unroll_135 : decode cX7_unroll 135 = .ok (.iadd, 1) := by decide +kernel
theorem dX7_unroll_136 : decode cX7_unroll 136 = .ok (.invokevirtual 77, 3) := by decide +kernel
theorem dX7_unroll_139 : decode cX7_unroll 139 = .ok (.aload_n 0, 1) := by decide +kernel
theorem dX7_unroll_140 : decode cX7_unroll 140 = .ok (.iload_n 2, 1) := by decide +kernel
theorem dX7_unroll_141 : decode cX7_unroll 141 = .ok (.iconst 1, 1) := by decide +kernel
theorem dX7_unroll_142 : decode cX7_unroll 142 = .ok (.isub, 1) := by decide +kernel
theorem dX7_unroll_143 : decode cX7_unroll 143 = .ok (.iload_n 1, 1) := by decide +kernel
theorem dX7_unroll_144 : decode cX7_unroll 144 = .ok (.iconst 1, 1) := by decide +kernel
theorem dX7_unroll_145 : decode cX7_unroll 145 = .ok (.iadd, 1) := by decide +kernel
theorem dX7_unroll_146 : decode cX7_unroll 146 = .ok (.iload_n 2, 1) := by decide +kernel
theorem dX7_unroll_147 : decode cX7_unroll 147 = .ok (.iload_n 1, 1) := by decide +kernel
theorem dX7_unroll_148 : decode cX7_unroll 148 = .ok (.iconst 1, 1) := by decide +kernel
theorem dX7_unroll_149 : decode cX7_unroll 149 = .ok (.iadd, 1) := by decide +kernel
theorem dX7_unroll_150 : decode cX7_unroll 150 = .ok (.invokevirtual 77, 3) := by decide +kernel
theorem dX7_unroll_153 : decode cX7_unroll 153 = .ok (.invokevirtual 91, 3) := by decide +kernel
theorem dX7_unroll_156 : decode cX7_unroll 156 = .ok (.ifCond .eq 7, 3) := by decide +kernel
theorem dX7_unroll_159 : decode cX7_unroll 159 = .ok (.iconst 1, 1) := by decide +kernel
theorem dX7_unroll_160 : decode cX7_unroll 160 = .ok (.goto 4, 3) := by decide +kernel
theorem dX7_unroll_163 : decode cX7_unroll 163 = .ok (.iconst 0, 1) := by decide +kernel
theorem dX7_unroll_164 : decode cX7_unroll 164 = .ok (.istore_n 3, 1) := by decide +kernel
theorem dX7_unroll_165 : decode cX7_unroll 165 = .ok (.iload_n 3, 1) := by decide +kernel
theorem dX7_unroll_166 : decode cX7_unroll 166 = .ok (.ifCond .ne 10, 3) := by decide +kernel
theorem dX7_unroll_169 : decode cX7_unroll 169 = .ok (.aload_n 0, 1) := by decide +kernel
theorem dX7_unroll_170 : decode cX7_unroll 170 = .ok (.iconst 2, 1) := by decide +kernel
theorem dX7_unroll_171 : decode cX7_unroll 171 = .ok (.putfield 52, 3) := by decide +kernel
theorem dX7_unroll_174 : decode cX7_unroll 174 = .ok (.iconst 0, 1) := by decide +kernel
theorem dX7_unroll_175 : decode cX7_unroll 175 = .ok (.ireturn, 1) := by decide +kernel
theorem dX7_unroll_176 : decode cX7_unroll 176 = .ok (.iinc 2 1, 3) := by decide +kernel
theorem dX7_unroll_179 : decode cX7_unroll 179 = .ok (.goto (-114), 3) := by decide +kernel
theorem dX7_unroll_182 : decode cX7_unroll 182 = .ok (.iconst 0, 1) := by decide +kernel
theorem dX7_unroll_183 : decode cX7_unroll 183 = .ok (.istore_n 2, 1) := by decide +kernel
theorem dX7_unroll_184 : decode cX7_unroll 184 = .ok (.iload_n 2, 1) := by decide +kernel
theorem dX7_unroll_185 : decode cX7_unroll 185 = .ok (.iconst 4, 1) := by decide +kernel
theorem dX7_unroll_186 : decode cX7_unroll 186 = .ok (.aload_n 0, 1) := by decide +kernel
theorem dX7_unroll_187 : decode cX7_unroll 187 = .ok (.getfield 45, 3) := by decide +kernel
theorem dX7_unroll_190 : decode cX7_unroll 190 = .ok (.imul, 1) := by decide +kernel
theorem dX7_unroll_191 : decode cX7_unroll 191 = .ok (.if_icmp .ge 26, 3) := by decide +kernel
theorem dX7_unroll_194 : decode cX7_unroll 194 = .ok (.aload_n 0, 1) := by decide +kernel
theorem dX7_unroll_195 : decode cX7_unroll 195 = .ok (.getfield 17, 3) := by decide +kernel
theorem dX7_unroll_198 : decode cX7_unroll 198 = .ok (.bipush 32, 2) := by decide +kernel
theorem dX7_unroll_200 : decode cX7_unroll 200 = .ok (.iload_n 1, 1) := by decide +kernel
theorem dX7_unroll_201 : decode cX7_unroll 201 = .ok (.imul, 1) := by decide +kernel
theorem dX7_unroll_202 : decode cX7_unroll 202 = .ok (.iload_n 2, 1) := by decide +kernel
theorem dX7_unroll_203 : decode cX7_unroll 203 = .ok (.iadd, 1) := by decide +kernel
theorem dX7_unroll_204 : decode cX7_unroll 204 = .ok (.aload_n 0, 1) := by decide +kernel
theorem dX7_unroll_205 : decode cX7_unroll 205 = .ok (.getfield 20, 3) := by decide +kernel
theorem dX7_unroll_208 : decode cX7_unroll 208 = .ok (.iload_n 2, 1) := by decide +kernel
theorem dX7_unroll_209 : decode cX7_unroll 209 = .ok (.daload, 1) := by decide +kernel
theorem dX7_unroll_210 : decode cX7_unroll 210 = .ok (.dastore, 1) := by decide +kernel
theorem dX7_unroll_211 : decode cX7_unroll 211 = .ok (.iinc 2 1, 3) := by decide +kernel
theorem dX7_unroll_214 : decode cX7_unroll 214 = .ok (.goto (-30), 3) := by decide +kernel
theorem dX7_unroll_217 : decode cX7_unroll 217 = .ok (.aload_n 0, 1) := by decide +kernel
theorem dX7_unroll_218 : decode cX7_unroll 218 = .ok (.getfield 13, 3) := by decide +kernel
theorem dX7_unroll_221 : decode cX7_unroll 221 = .ok (.iload_n 1, 1) := by decide +kernel
theorem dX7_unroll_222 : decode cX7_unroll 222 = .ok (.iconst 1, 1) := by decide +kernel
theorem dX7_unroll_223 : decode cX7_unroll 223 = .ok (.bastore, 1) := by decide +kernel
theorem dX7_unroll_224 : decode cX7_unroll 224 = .ok (.iconst 2, 1) := by decide +kernel
theorem dX7_unroll_225 : decode cX7_unroll 225 = .ok (.aload_n 0, 1) := by decide +kernel
theorem dX7_unroll_226 : decode cX7_unroll 226 = .ok (.getfield 45, 3) := by decide +kernel
theorem dX7_unroll_229 : decode cX7_unroll 229 = .ok (.iconst 1, 1) := by decide +kernel
theorem dX7_unroll_230 : decode cX7_unroll 230 = .ok (.isub, 1) := by decide +kernel
theorem dX7_unroll_231 : decode cX7_unroll 231 = .ok (.imul, 1) := by decide +kernel
theorem dX7_unroll_232 : decode cX7_unroll 232 = .ok (.ireturn, 1) := by decide +kernel
abbrev rm_X7_unroll : Room := { frames := 8, cells := 0, slots := 0, locals := 190 }
theorem hw_X7_unroll_1 : (Cond.fieldLink RX7 52 "PlankUnrollModel" "thrown" "I") ∈ wsX7_unroll := List.mem_of_getElem? (i := 1) rfl
theorem hw_X7_unroll_2 : (Cond.fieldLink RX7 20 "PlankUnrollModel" "draft" "[D") ∈ wsX7_unroll := List.mem_of_getElem? (i := 2) rfl
theorem hw_X7_unroll_3 : (Cond.fieldLink RX7 45 "PlankUnrollModel" "frames" "I") ∈ wsX7_unroll := List.mem_of_getElem? (i := 3) rfl
theorem hw_X7_unroll_4 : (Cond.fieldLink RX7 17 "PlankUnrollModel" "corners" "[D") ∈ wsX7_unroll := List.mem_of_getElem? (i := 4) rfl
theorem hw_X7_unroll_5 : (Cond.fieldLink RX7 13 "PlankUnrollModel" "unrolled" "[Z") ∈ wsX7_unroll := List.mem_of_getElem? (i := 5) rfl
theorem in_X7_unroll_X7 : ∀ w ∈ wsX70, w ∈ wsX7_unroll := by decide +kernel
set_option maxHeartbeats 4000000 in
set_option maxRecDepth 100000 in
/-- unroll -/
theorem c_X7_unroll {l : Launch} {G : va_G} {ty : Nat → ClassId} {b0 : Nat} {H : Heap} {x : Int32} {m0 : Nat} {A : Nat → Nat} {th : Int32} {F R nb : Nat} {pl co dr wi hi fa : Nat → UInt64} {un bu fc lo la : Nat → Int32} {px py pz : UInt64} (hY : xRef G ty m0 A th F R pl un co dr bu nb wi hi fc fa lo la px py pz H) (hZ : xSz F R) (hA : xAp m0 A) (hB : xNw b0 m0 A) : xMet l yX7_unroll wsX7_unroll rm_X7_unroll G ty b0 [.ref m0, .int (x)] H (fun v H1 => ∃ (T : Int32) (un1 : Nat → Int32) (co1 dr1 : Nat → UInt64), xRef G ty m0 A T F R pl un1 co1 dr1 bu nb wi hi fc fa lo la px py pz H1 ∧ xRfr m0 A H H1 ∧ ∃ z : Int32, v = some (.int z) ∧ ((T = nI 0 ∧ vp_in x (R - 1) ∧ ∃ d : Nat → UInt64, pUnr (pFar pl) x.toNatClampNeg (F - 1) = some d ∧ z = nI (2 * (F - 1)) ∧ un1 = upd un x.toNatClampNeg (nI 1) ∧ (∀ j : Nat, j < 4 * F → vq (co1 (32 * x.toNatClampNeg + j)) (d j)) ∧ ∀ j : Nat, (j < 32 * x.toNatClampNeg ∨ 32 * x.toNatClampNeg + 4 * F ≤ j) → co1 j = co j) ∨ (T = nI 1 ∧ ¬ vp_in x (R - 1) ∧ un1 = un ∧ co1 = co) ∨ (T = nI 2 ∧ vp_in x (R - 1) ∧ pUnr (pFar pl) x.toNatClampNeg (F - 1) = none ∧ un1 = un ∧ co1 = co))) (fun _ _ => False) := by
  refine xbody (cc := cX7_unroll) (maxL := 4) (ret := (some .int)) (C := RX7) (lv := [(0, .ref m0), (1, .int (x))]) (by decide) rfl rfl (Nat.le_of_ble_eq_true rfl) rfl ?_
  intro p e s m below meth c d0 hx hb hr hts hown hlocks hml hxt hnm0 hK hb0 hH0 hS hd0 ls hl
  obtain ⟨y_o, y_0, y_1, y_2, y_3, y_4, y_5, y_6, y_7, y_8, y_9, y_10⟩ := id hY
  obtain ⟨⟨zF2, zF8⟩, ⟨zR2, zR8⟩⟩ := id hZ
  refine lv_aload_n hx hb dX7_unroll_0 rfl (lv_at hl 0 rfl) ?_
  refine lv_aload_n hx hb dX7_unroll_1 rfl (lv_at hl 0 rfl) ?_
  refine lv_iload_n hx hb dX7_unroll_2 rfl (lv_at hl 1 rfl) ?_
  have cw_1 := cwV (R := rm_X7_unroll) (rm := rm_X7_noStrip) 1 (hts d0) gX7_unroll_X7_noStrip rfl rfl rfl (by decide +kernel) ⟨Nat.le_of_ble_eq_true rfl, Nat.le_of_ble_eq_true rfl⟩
  refine xcall hd0 (xintoV (b := m0) (As := [.int (x)]) (rest := [.ref m0]) ⟨hx, hb, hml, hown, hts _⟩ cw_1 (va_recv hK.1 (x1 y_o) (ci := 8) (q0 := 0) rfl rfl) rfl rfl hl.1 rfl (lv_room (Nat.le_of_ble_eq_true rfl)) dX7_unroll_3) (c_X7_noStrip (l := l) (G := G) (ty := ty) (b0 := b0) (⟨y_o, y_0, y_1, y_2, y_3, y_4, y_5, y_6, y_7, y_8, y_9, y_10⟩ : xRef G ty m0 A (th) F R pl un co dr bu nb wi hi fc fa lo la px py pz H) hZ) (xoweB cw_1.1) hK hb0 hS (Nat.le_of_ble_eq_true rfl) (Nat.le_of_ble_eq_true rfl) (fun E_1 ce_1 q9_1 H_1 locs_1 d0 hd0 hp_1 hS hce_1 hcv_1 hcl_1 => ?_) (fun v_1 H_1 locs_1 d0 hd0 hp_1 hS => ?_)
  · exact hp_1.elim
  · obtain ⟨rfl, rfl⟩ := hp_1
    show W p l e _ (s.setDrawn _) m _ below meth c _ _ _ _ _ (F0 m 6 ls [.int (xP (¬ vp_in x (R - 1))), .ref m0])
    refine lv_if_eq (tgt := 13) hx hb dX7_unroll_6 (by decide) (fun c_2 => ?_) (fun c_2 => ?_)
    · have z9 := Classical.not_not.mp (xP_eq.mp c_2)
      have z_x := z9
      obtain ⟨x9, hx9, ex9⟩ := vp_in_of z_x (by omega)
      subst ex9
      refine lv_iconst (v := nI 0) hx hb dX7_unroll_13 (by decide) ?_
      refine xput (G := G) (ci := 8) (v := .int (nI 0)) (ty := .int) (C := RX7) (T := TX7) (N := 18) hx hb (hts d0) in_X7_unroll_X7 tyX7 tyX7_ok nmX7 hown hK.1 y_o hS hB.1 rfl 0 (by decide) (hts d0 _ hw_X7_unroll_1) (fun _ h9 => h9) rfl (by decide +kernel) rfl rfl (Nat.le_of_ble_eq_true rfl) dX7_unroll_14 (fun H_3 locs_3 hs_3 hS => ?_)
      have hc_3 : xc G m0 (.inr (8, [.int (nI 0), .int (nI F), .int (nI R), .ref (A 0), .ref (A 1), .ref (A 2), .ref (A 3), .ref (A 4), .int (nI nb), .ref (A 5), .ref (A 6), .ref (A 7), .ref (A 8), .ref (A 9), .ref (A 10), .double px, .double py, .double pz])) H_3 := hs_3.1
      have hc_A0_3 : xc G (A 0) (.inl (ty 0, 192, .inr (.inr (.inr (.inl pl))))) H_3 := y_0.kept (hs_3.2.2 _ (hA.1 0 (by decide)))
      have hc_A1_3 : xc G (A 1) (.inl (ty 2, 8, .inl un)) H_3 := y_1.kept (hs_3.2.2 _ (hA.1 1 (by decide)))
      have hc_A2_3 : xc G (A 2) (.inl (ty 0, 256, .inr (.inr (.inr (.inl co))))) H_3 := y_2.kept (hs_3.2.2 _ (hA.1 2 (by decide)))
      have hc_A3_3 : xc G (A 3) (.inl (ty 0, 32, .inr (.inr (.inr (.inl dr))))) H_3 := y_3.kept (hs_3.2.2 _ (hA.1 3 (by decide)))
      have hc_A4_3 : xc G (A 4) (.inl (ty 2, 64, .inl bu)) H_3 := y_4.kept (hs_3.2.2 _ (hA.1 4 (by decide)))
      have hc_A5_3 : xc G (A 5) (.inl (ty 0, 4, .inr (.inr (.inr (.inl wi))))) H_3 := y_5.kept (hs_3.2.2 _ (hA.1 5 (by decide)))
      have hc_A6_3 : xc G (A 6) (.inl (ty 0, 4, .inr (.inr (.inr (.inl hi))))) H_3 := y_6.kept (hs_3.2.2 _ (hA.1 6 (by decide)))
      have hc_A7_3 : xc G (A 7) (.inl (ty 1, 4, .inl fc)) H_3 := y_7.kept (hs_3.2.2 _ (hA.1 7 (by decide)))
      have hc_A8_3 : xc G (A 8) (.inl (ty 0, 128, .inr (.inr (.inr (.inl fa))))) H_3 := y_8.kept (hs_3.2.2 _ (hA.1 8 (by decide)))
      have hc_A9_3 : xc G (A 9) (.inl (ty 1, 8, .inl lo)) H_3 := y_9.kept (hs_3.2.2 _ (hA.1 9 (by decide)))
      have hc_A10_3 : xc G (A 10) (.inl (ty 1, 8, .inl la)) H_3 := y_10.kept (hs_3.2.2 _ (hA.1 10 (by decide)))
      have hfr_3 : xRfr m0 A H H_3 := xRfr.put0 xRfr.rf hs_3
      refine lv_aload_n hx hb dX7_unroll_17 rfl (lv_at hl 0 rfl) ?_
      refine va_get (D := G) (cl := vwCl) (ci := 8) (v := .int (nI 0)) (C := RX7) (T := TX7) (N := 18) hx hb (hts d0) in_X7_unroll_X7 hown hK.1 (x1 hc_3) 0 rfl rfl 0 (by decide) (hts d0 _ hw_X7_unroll_1) (fun _ h9 => h9) rfl dX7_unroll_18 ?_
      refine lv_if_le (tgt := 26) hx hb dX7_unroll_21 (by decide) (fun _ => ?_) (fun h9 => (show False by revert h9; decide).elim)
      refine lv_aload_n hx hb dX7_unroll_26 rfl (lv_at hl 0 rfl) ?_
      refine va_get (D := G) (cl := vwCl) (ci := 8) (v := .ref (A 3)) (C := RX7) (T := TX7) (N := 18) hx hb (hts d0) in_X7_unroll_X7 hown hK.1 (x1 hc_3) 0 rfl rfl 6 (by decide) (hts d0 _ hw_X7_unroll_2) (fun _ h9 => h9) rfl dX7_unroll_27 ?_
      refine lv_iconst (v := nI 0) hx hb dX7_unroll_30 (by decide) ?_
      refine lv_dconst0 hx hb dX7_unroll_31 ?_
      refine xdastN (s := s.setDrawn d0) (j := 0) (x := FP.dconst0) hx hb hK.1 0 hc_A3_3 hS (hB.2 3 (by decide)) rfl (xix_of (by omega) (by omega)) dX7_unroll_32 (fun H_5 locs_5 hs_5 hS => ?_)
      have hc_5 : xc G (A 3) (.inl (ty 0, 32, .inr (.inr (.inr (.inl ((vf_upd dr 0 FP.dconst0))))))) H_5 := hs_5.1
      have hc_m0_5 : xc G m0 (.inr (8, [.int (nI 0), .int (nI F), .int (nI R), .ref (A 0), .ref (A 1), .ref (A 2), .ref (A 3), .ref (A 4), .int (nI nb), .ref (A 5), .ref (A 6), .ref (A 7), .ref (A 8), .ref (A 9), .ref (A 10), .double px, .double py, .double pz])) H_5 := hc_3.kept (hs_5.2.2 _ (Ne.symm (hA.1 3 (by decide))))
      have hc_A0_5 : xc G (A 0) (.inl (ty 0, 192, .inr (.inr (.inr (.inl pl))))) H_5 := hc_A0_3.kept (hs_5.2.2 _ (fun z => absurd (hA.2 0 3 (by decide) (by decide) z) (by decide)))
      have hc_A1_5 : xc G (A 1) (.inl (ty 2, 8, .inl un)) H_5 := hc_A1_3.kept (hs_5.2.2 _ (fun z => absurd (hA.2 1 3 (by decide) (by decide) z) (by decide)))
      have hc_A2_5 : xc G (A 2) (.inl (ty 0, 256, .inr (.inr (.inr (.inl co))))) H_5 := hc_A2_3.kept (hs_5.2.2 _ (fun z => absurd (hA.2 2 3 (by decide) (by decide) z) (by decide)))
      have hc_A4_5 : xc G (A 4) (.inl (ty 2, 64, .inl bu)) H_5 := hc_A4_3.kept (hs_5.2.2 _ (fun z => absurd (hA.2 4 3 (by decide) (by decide) z) (by decide)))
      have hc_A5_5 : xc G (A 5) (.inl (ty 0, 4, .inr (.inr (.inr (.inl wi))))) H_5 := hc_A5_3.kept (hs_5.2.2 _ (fun z => absurd (hA.2 5 3 (by decide) (by decide) z) (by decide)))
      have hc_A6_5 : xc G (A 6) (.inl (ty 0, 4, .inr (.inr (.inr (.inl hi))))) H_5 := hc_A6_3.kept (hs_5.2.2 _ (fun z => absurd (hA.2 6 3 (by decide) (by decide) z) (by decide)))
      have hc_A7_5 : xc G (A 7) (.inl (ty 1, 4, .inl fc)) H_5 := hc_A7_3.kept (hs_5.2.2 _ (fun z => absurd (hA.2 7 3 (by decide) (by decide) z) (by decide)))
      have hc_A8_5 : xc G (A 8) (.inl (ty 0, 128, .inr (.inr (.inr (.inl fa))))) H_5 := hc_A8_3.kept (hs_5.2.2 _ (fun z => absurd (hA.2 8 3 (by decide) (by decide) z) (by decide)))
      have hc_A9_5 : xc G (A 9) (.inl (ty 1, 8, .inl lo)) H_5 := hc_A9_3.kept (hs_5.2.2 _ (fun z => absurd (hA.2 9 3 (by decide) (by decide) z) (by decide)))
      have hc_A10_5 : xc G (A 10) (.inl (ty 1, 8, .inl la)) H_5 := hc_A10_3.kept (hs_5.2.2 _ (fun z => absurd (hA.2 10 3 (by decide) (by decide) z) (by decide)))
      have hfr_5 : xRfr m0 A H H_5 := xRfr.putA hfr_3 3 (by decide) hs_5
      refine lv_aload_n hx hb dX7_unroll_33 rfl (lv_at hl 0 rfl) ?_
      refine va_get (D := G) (cl := vwCl) (ci := 8) (v := .ref (A 3)) (C := RX7) (T := TX7) (N := 18) hx hb (hts d0) in_X7_unroll_X7 hown hK.1 (x1 hc_m0_5) 0 rfl rfl 6 (by decide) (hts d0 _ hw_X7_unroll_2) (fun _ h9 => h9) rfl dX7_unroll_34 ?_
      refine lv_iconst (v := nI 1) hx hb dX7_unroll_37 (by decide) ?_
      refine lv_dconst0 hx hb dX7_unroll_38 ?_
      refine xdastN (s := s.setDrawn d0) (j := 1) (x := FP.dconst0) hx hb hK.1 0 hc_5 hS (hB.2 3 (by decide)) rfl (xix_of (by omega) (by omega)) dX7_unroll_39 (fun H_6 locs_6 hs_6 hS => ?_)
      have hc_6 : xc G (A 3) (.inl (ty 0, 32, .inr (.inr (.inr (.inl ((vf_upd (vf_upd dr 0 FP.dconst0) 1 FP.dconst0))))))) H_6 := hs_6.1
      have hc_m0_6 : xc G m0 (.inr (8, [.int (nI 0), .int (nI F), .int (nI R), .ref (A 0), .ref (A 1), .ref (A 2), .ref (A 3), .ref (A 4), .int (nI nb), .ref (A 5), .ref (A 6), .ref (A 7), .ref (A 8), .ref (A 9), .ref (A 10), .double px, .double py, .double pz])) H_6 := hc_m0_5.kept (hs_6.2.2 _ (Ne.symm (hA.1 3 (by decide))))
      have hc_A0_6 : xc G (A 0) (.inl (ty 0, 192, .inr (.inr (.inr (.inl pl))))) H_6 := hc_A0_5.kept (hs_6.2.2 _ (fun z => absurd (hA.2 0 3 (by decide) (by decide) z) (by decide)))
      have hc_A1_6 : xc G (A 1) (.inl (ty 2, 8, .inl un)) H_6 := hc_A1_5.kept (hs_6.2.2 _ (fun z => absurd (hA.2 1 3 (by decide) (by decide) z) (by decide)))
      have hc_A2_6 : xc G (A 2) (.inl (ty 0, 256, .inr (.inr (.inr (.inl co))))) H_6 := hc_A2_5.kept (hs_6.2.2 _ (fun z => absurd (hA.2 2 3 (by decide) (by decide) z) (by decide)))
      have hc_A4_6 : xc G (A 4) (.inl (ty 2, 64, .inl bu)) H_6 := hc_A4_5.kept (hs_6.2.2 _ (fun z => absurd (hA.2 4 3 (by decide) (by decide) z) (by decide)))
      have hc_A5_6 : xc G (A 5) (.inl (ty 0, 4, .inr (.inr (.inr (.inl wi))))) H_6 := hc_A5_5.kept (hs_6.2.2 _ (fun z => absurd (hA.2 5 3 (by decide) (by decide) z) (by decide)))
      have hc_A6_6 : xc G (A 6) (.inl (ty 0, 4, .inr (.inr (.inr (.inl hi))))) H_6 := hc_A6_5.kept (hs_6.2.2 _ (fun z => absurd (hA.2 6 3 (by decide) (by decide) z) (by decide)))
      have hc_A7_6 : xc G (A 7) (.inl (ty 1, 4, .inl fc)) H_6 := hc_A7_5.kept (hs_6.2.2 _ (fun z => absurd (hA.2 7 3 (by decide) (by decide) z) (by decide)))
      have hc_A8_6 : xc G (A 8) (.inl (ty 0, 128, .inr (.inr (.inr (.inl fa))))) H_6 := hc_A8_5.kept (hs_6.2.2 _ (fun z => absurd (hA.2 8 3 (by decide) (by decide) z) (by decide)))
      have hc_A9_6 : xc G (A 9) (.inl (ty 1, 8, .inl lo)) H_6 := hc_A9_5.kept (hs_6.2.2 _ (fun z => absurd (hA.2 9 3 (by decide) (by decide) z) (by decide)))
      have hc_A10_6 : xc G (A 10) (.inl (ty 1, 8, .inl la)) H_6 := hc_A10_5.kept (hs_6.2.2 _ (fun z => absurd (hA.2 10 3 (by decide) (by decide) z) (by decide)))
      have hfr_6 : xRfr m0 A H H_6 := xRfr.putA hfr_5 3 (by decide) hs_6
      refine lv_aload_n hx hb dX7_unroll_40 rfl (lv_at hl 0 rfl) ?_
      refine va_get (D := G) (cl := vwCl) (ci := 8) (v := .ref (A 3)) (C := RX7) (T := TX7) (N := 18) hx hb (hts d0) in_X7_unroll_X7 hown hK.1 (x1 hc_m0_6) 0 rfl rfl 6 (by decide) (hts d0 _ hw_X7_unroll_2) (fun _ h9 => h9) rfl dX7_unroll_41 ?_
      refine lv_iconst (v := nI 2) hx hb dX7_unroll_44 (by decide) ?_
      refine lv_dconst0 hx hb dX7_unroll_45 ?_
      refine xdastN (s := s.setDrawn d0) (j := 2) (x := FP.dconst0) hx hb hK.1 0 hc_6 hS (hB.2 3 (by decide)) rfl (xix_of (by omega) (by omega)) dX7_unroll_46 (fun H_7 locs_7 hs_7 hS => ?_)
      have hc_7 : xc G (A 3) (.inl (ty 0, 32, .inr (.inr (.inr (.inl ((vf_upd (vf_upd (vf_upd dr 0 FP.dconst0) 1 FP.dconst0) 2 FP.dconst0))))))) H_7 := hs_7.1
      have hc_m0_7 : xc G m0 (.inr (8, [.int (nI 0), .int (nI F), .int (nI R), .ref (A 0), .ref (A 1), .ref (A 2), .ref (A 3), .ref (A 4), .int (nI nb), .ref (A 5), .ref (A 6), .ref (A 7), .ref (A 8), .ref (A 9), .ref (A 10), .double px, .double py, .double pz])) H_7 := hc_m0_6.kept (hs_7.2.2 _ (Ne.symm (hA.1 3 (by decide))))
      have hc_A0_7 : xc G (A 0) (.inl (ty 0, 192, .inr (.inr (.inr (.inl pl))))) H_7 := hc_A0_6.kept (hs_7.2.2 _ (fun z => absurd (hA.2 0 3 (by decide) (by decide) z) (by decide)))
      have hc_A1_7 : xc G (A 1) (.inl (ty 2, 8, .inl un)) H_7 := hc_A1_6.kept (hs_7.2.2 _ (fun z => absurd (hA.2 1 3 (by decide) (by decide) z) (by decide)))
      have hc_A2_7 : xc G (A 2) (.inl (ty 0, 256, .inr (.inr (.inr (.inl co))))) H_7 := hc_A2_6.kept (hs_7.2.2 _ (fun z => absurd (hA.2 2 3 (by decide) (by decide) z) (by decide)))
      have hc_A4_7 : xc G (A 4) (.inl (ty 2, 64, .inl bu)) H_7 := hc_A4_6.kept (hs_7.2.2 _ (fun z => absurd (hA.2 4 3 (by decide) (by decide) z) (by decide)))
      have hc_A5_7 : xc G (A 5) (.inl (ty 0, 4, .inr (.inr (.inr (.inl wi))))) H_7 := hc_A5_6.kept (hs_7.2.2 _ (fun z => absurd (hA.2 5 3 (by decide) (by decide) z) (by decide)))
      have hc_A6_7 : xc G (A 6) (.inl (ty 0, 4, .inr (.inr (.inr (.inl hi))))) H_7 := hc_A6_6.kept (hs_7.2.2 _ (fun z => absurd (hA.2 6 3 (by decide) (by decide) z) (by decide)))
      have hc_A7_7 : xc G (A 7) (.inl (ty 1, 4, .inl fc)) H_7 := hc_A7_6.kept (hs_7.2.2 _ (fun z => absurd (hA.2 7 3 (by decide) (by decide) z) (by decide)))
      have hc_A8_7 : xc G (A 8) (.inl (ty 0, 128, .inr (.inr (.inr (.inl fa))))) H_7 := hc_A8_6.kept (hs_7.2.2 _ (fun z => absurd (hA.2 8 3 (by decide) (by decide) z) (by decide)))
      have hc_A9_7 : xc G (A 9) (.inl (ty 1, 8, .inl lo)) H_7 := hc_A9_6.kept (hs_7.2.2 _ (fun z => absurd (hA.2 9 3 (by decide) (by decide) z) (by decide)))
      have hc_A10_7 : xc G (A 10) (.inl (ty 1, 8, .inl la)) H_7 := hc_A10_6.kept (hs_7.2.2 _ (fun z => absurd (hA.2 10 3 (by decide) (by decide) z) (by decide)))
      have hfr_7 : xRfr m0 A H H_7 := xRfr.putA hfr_6 3 (by decide) hs_7
      refine lv_aload_n hx hb dX7_unroll_47 rfl (lv_at hl 0 rfl) ?_
      refine va_get (D := G) (cl := vwCl) (ci := 8) (v := .ref (A 3)) (C := RX7) (T := TX7) (N := 18) hx hb (hts d0) in_X7_unroll_X7 hown hK.1 (x1 hc_m0_7) 0 rfl rfl 6 (by decide) (hts d0 _ hw_X7_unroll_2) (fun _ h9 => h9) rfl dX7_unroll_48 ?_
      refine lv_iconst (v := nI 3) hx hb dX7_unroll_51 (by decide) ?_
      refine lv_aload_n hx hb dX7_unroll_52 rfl (lv_at hl 0 rfl) ?_
      refine lv_iconst (v := nI 0) hx hb dX7_unroll_53 (by decide) ?_
      refine lv_iload_n hx hb dX7_unroll_54 rfl (lv_at hl 1 rfl) ?_
      refine lv_iconst (v := nI 0) hx hb dX7_unroll_55 (by decide) ?_
      refine lv_iload_n hx hb dX7_unroll_56 rfl (lv_at hl 1 rfl) ?_
      refine lv_iconst (v := nI 1) hx hb dX7_unroll_57 (by decide) ?_
      refine xiaddN hx hb dX7_unroll_58 ?_
      have cw_8 := cwV (R := rm_X7_unroll) (rm := rm_X7_far) 4 (hts d0) gX7_unroll_X7_far rfl rfl rfl (by decide +kernel) ⟨Nat.le_of_ble_eq_true rfl, Nat.le_of_ble_eq_true rfl⟩
      refine xcall hd0 (xintoV (b := m0) (As := [.int (nI 0), .int (nI x9), .int (nI 0), .int (nI (x9 + 1))]) (rest := [.int (nI 3), .ref (A 3)]) ⟨hx, hb, hml, hown, hts _⟩ cw_8 (va_recv hK.1 (x1 hc_m0_7) (ci := 8) (q0 := 0) rfl rfl) rfl rfl hl.1 rfl (lv_room (Nat.le_of_ble_eq_true rfl)) dX7_unroll_59) (c_X7_far (l := l) (G := G) (ty := ty) (b0 := b0) (f := 0) (r := x9) (g := 0) (q := x9 + 1) (by omega) (by omega) (by omega) (by omega) (⟨hc_m0_7, hc_A0_7, hc_A1_7, hc_A2_7, hc_7, hc_A4_7, hc_A5_7, hc_A6_7, hc_A7_7, hc_A8_7, hc_A9_7, hc_A10_7⟩ : xRef G ty m0 A (nI 0) F R pl un co (vf_upd (vf_upd (vf_upd dr 0 FP.dconst0) 1 FP.dconst0) 2 FP.dconst0) bu nb wi hi fc fa lo la px py pz H_7) hZ) (xoweB cw_8.1) hK hb0 hS (Nat.le_of_ble_eq_true rfl) (Nat.le_of_ble_eq_true rfl) (fun E_8 ce_8 q9_8 H_8 locs_8 d0 hd0 hp_8 hS hce_8 hcv_8 hcl_8 => ?_) (fun v_8 H_8 locs_8 d0 hd0 hp_8 hS => ?_)
      · exact hp_8.elim
      · obtain ⟨rfl, r_8, rfl, q_8⟩ := hp_8
        show W p l e _ (s.setDrawn _) m _ below meth c _ _ _ _ _ (F0 m 62 ls [.double r_8, .int (nI 3), .ref (A 3)])
        refine xdastN (s := s.setDrawn d0) (j := 3) (x := r_8) hx hb hK.1 0 hc_7 hS (hB.2 3 (by decide)) rfl (xix_of (by omega) (by omega)) dX7_unroll_62 (fun H_9 locs_9 hs_9 hS => ?_)
        have hc_9 : xc G (A 3) (.inl (ty 0, 32, .inr (.inr (.inr (.inl ((vf_upd (vf_upd (vf_upd (vf_upd dr 0 FP.dconst0) 1 FP.dconst0) 2 FP.dconst0) 3 r_8))))))) H_9 := hs_9.1
        have hc_m0_9 : xc G m0 (.inr (8, [.int (nI 0), .int (nI F), .int (nI R), .ref (A 0), .ref (A 1), .ref (A 2), .ref (A 3), .ref (A 4), .int (nI nb), .ref (A 5), .ref (A 6), .ref (A 7), .ref (A 8), .ref (A 9), .ref (A 10), .double px, .double py, .double pz])) H_9 := hc_m0_7.kept (hs_9.2.2 _ (Ne.symm (hA.1 3 (by decide))))
        have hc_A0_9 : xc G (A 0) (.inl (ty 0, 192, .inr (.inr (.inr (.inl pl))))) H_9 := hc_A0_7.kept (hs_9.2.2 _ (fun z => absurd (hA.2 0 3 (by decide) (by decide) z) (by decide)))
        have hc_A1_9 : xc G (A 1) (.inl (ty 2, 8, .inl un)) H_9 := hc_A1_7.kept (hs_9.2.2 _ (fun z => absurd (hA.2 1 3 (by decide) (by decide) z) (by decide)))
        have hc_A2_9 : xc G (A 2) (.inl (ty 0, 256, .inr (.inr (.inr (.inl co))))) H_9 := hc_A2_7.kept (hs_9.2.2 _ (fun z => absurd (hA.2 2 3 (by decide) (by decide) z) (by decide)))
        have hc_A4_9 : xc G (A 4) (.inl (ty 2, 64, .inl bu)) H_9 := hc_A4_7.kept (hs_9.2.2 _ (fun z => absurd (hA.2 4 3 (by decide) (by decide) z) (by decide)))
        have hc_A5_9 : xc G (A 5) (.inl (ty 0, 4, .inr (.inr (.inr (.inl wi))))) H_9 := hc_A5_7.kept (hs_9.2.2 _ (fun z => absurd (hA.2 5 3 (by decide) (by decide) z) (by decide)))
        have hc_A6_9 : xc G (A 6) (.inl (ty 0, 4, .inr (.inr (.inr (.inl hi))))) H_9 := hc_A6_7.kept (hs_9.2.2 _ (fun z => absurd (hA.2 6 3 (by decide) (by decide) z) (by decide)))
        have hc_A7_9 : xc G (A 7) (.inl (ty 1, 4, .inl fc)) H_9 := hc_A7_7.kept (hs_9.2.2 _ (fun z => absurd (hA.2 7 3 (by decide) (by decide) z) (by decide)))
        have hc_A8_9 : xc G (A 8) (.inl (ty 0, 128, .inr (.inr (.inr (.inl fa))))) H_9 := hc_A8_7.kept (hs_9.2.2 _ (fun z => absurd (hA.2 8 3 (by decide) (by decide) z) (by decide)))
        have hc_A9_9 : xc G (A 9) (.inl (ty 1, 8, .inl lo)) H_9 := hc_A9_7.kept (hs_9.2.2 _ (fun z => absurd (hA.2 9 3 (by decide) (by decide) z) (by decide)))
        have hc_A10_9 : xc G (A 10) (.inl (ty 1, 8, .inl la)) H_9 := hc_A10_7.kept (hs_9.2.2 _ (fun z => absurd (hA.2 10 3 (by decide) (by decide) z) (by decide)))
        have hfr_9 : xRfr m0 A H H_9 := xRfr.putA hfr_7 3 (by decide) hs_9
        refine lv_iconst (v := nI 1) hx hb dX7_unroll_63 (by decide) ?_
        refine lv_istore_n (lv' := [(2, .int (nI 1)), (0, .ref m0), (1, .int (nI x9))]) hx hb dX7_unroll_64 rfl hl (by decide) rfl (fun ls hl => ?_)
        suffices K : ∀ (n : Nat) (k : Nat) (d dr9 : Nat → UInt64) (H9 : Heap) (locs : List Loc) (d0 : Drawn) (ls : Array Slot), (k + 1 + n = F ∧ pUnr (pFar pl) x9 k = some d ∧ ∀ j : Nat, j < 4 * (k + 1) → vq (dr9 j) (d j)) → xRef G ty m0 A (nI 0) F R pl un co dr9 bu nb wi hi fc fa lo la px py pz H9 → xRfr m0 A H H9 → va_S (xA b0) s.heap H9 locs → s.drawn.sameBut d0 lw_cs → lv_has ls 4 [(2, .int (nI (k + 1))), (0, .ref m0), (1, .int (nI x9))] → W p l e rm_X7_unroll (s.setDrawn d0) m [Value.ref m0, Value.int ((nI x9))].toArray below meth c H9 locs (0 + rm_X7_noStrip.cells + rm_X7_far.cells) (0 + rm_X7_noStrip.slots + rm_X7_far.slots) (xMQ below (fun v H1 => ∃ (T : Int32) (un1 : Nat → Int32) (co1 dr1 : Nat → UInt64), xRef G ty m0 A T F R pl un1 co1 dr1 bu nb wi hi fc fa lo la px py pz H1 ∧ xRfr m0 A H H1 ∧ ∃ z : Int32, v = some (.int z) ∧ ((T = nI 0 ∧ vp_in (nI x9) (R - 1) ∧ ∃ d : Nat → UInt64, pUnr (pFar pl) (nI x9).toNatClampNeg (F - 1) = some d ∧ z = nI (2 * (F - 1)) ∧ un1 = upd un (nI x9).toNatClampNeg (nI 1) ∧ (∀ j : Nat, j < 4 * F → vq (co1 (32 * (nI x9).toNatClampNeg + j)) (d j)) ∧ ∀ j : Nat, (j < 32 * (nI x9).toNatClampNeg ∨ 32 * (nI x9).toNatClampNeg + 4 * F ≤ j) → co1 j = co j) ∨ (T = nI 1 ∧ ¬ vp_in (nI x9) (R - 1) ∧ un1 = un ∧ co1 = co) ∨ (T = nI 2 ∧ vp_in (nI x9) (R - 1) ∧ pUnr (pFar pl) (nI x9).toNatClampNeg (F - 1) = none ∧ un1 = un ∧ co1 = co))) (fun _ _ => False) [.ref m0, .int ((nI x9))].toArray s rm_X7_unroll b0) (F0 m 65 ls []) from K (F - 1) 0 (pD0 (pFar pl) x9) (vf_upd (vf_upd (vf_upd (vf_upd dr 0 FP.dconst0) 1 FP.dconst0) 2 FP.dconst0) 3 r_8) H_9 _ d0 ls ⟨by omega, rfl, xd0_ok q_8⟩ ⟨hc_m0_9, hc_A0_9, hc_A1_9, hc_A2_9, hc_9, hc_A4_9, hc_A5_9, hc_A6_9, hc_A7_9, hc_A8_9, hc_A9_9, hc_A10_9⟩ hfr_9 hS hd0 (lv_sub hl [0, 1, 2] rfl)
        intro n
        induction n with
        | zero =>
          intro k d dr9 H9 locs d0 ls hinv hY9 hfr9 hS hd0 hl
          obtain ⟨y_o, y_0, y_1, y_2, y_3, y_4, y_5, y_6, y_7, y_8, y_9, y_10⟩ := id hY9
          obtain ⟨hk, hu, hdd⟩ := hinv
          refine lv_iload_n hx hb dX7_unroll_65 rfl (lv_at hl 0 rfl) ?_
          refine lv_aload_n hx hb dX7_unroll_66 rfl (lv_at hl 1 rfl) ?_
          refine va_get (D := G) (cl := vwCl) (ci := 8) (v := .int (nI F)) (C := RX7) (T := TX7) (N := 18) hx hb (hts d0) in_X7_unroll_X7 hown hK.1 (x1 y_o) 0 rfl rfl 1 (by decide) (hts d0 _ hw_X7_unroll_3) (fun _ h9 => h9) rfl dX7_unroll_67 ?_
          refine xicmpN_ge (tgt := 182) hx hb (by omega) (by omega) dX7_unroll_70 (by decide) (fun _ => ?_) (fun h9 => absurd h9 (by omega))
          refine lv_iconst (v := nI 0) hx hb dX7_unroll_182 (by decide) ?_
          refine lv_istore_n (lv' := [(2, .int (nI 0)), (0, .ref m0), (1, .int (nI x9))]) hx hb dX7_unroll_183 rfl hl (by decide) rfl (fun ls hl => ?_)
          have hu : pUnr (pFar pl) x9 (F - 1) = some d := by have e9 : k = F - 1 := (by omega); rw [← e9]; exact hu
          have hdd : ∀ j : Nat, j < 4 * F → vq (dr9 j) (d j) := fun j hj => hdd j (by omega)
          suffices K : ∀ (u9 : Nat) (q : Nat) (co9 : Nat → UInt64) (H9 : Heap) (locs : List Loc) (d0 : Drawn) (ls : Array Slot), (q + u9 = 4 * F ∧ (∀ j : Nat, j < q → co9 (32 * x9 + j) = dr9 j) ∧ ∀ j : Nat, (j < 32 * x9 ∨ 32 * x9 + q ≤ j) → co9 j = co j) → xRef G ty m0 A (nI 0) F R pl un co9 dr9 bu nb wi hi fc fa lo la px py pz H9 → xRfr m0 A H H9 → va_S (xA b0) s.heap H9 locs → s.drawn.sameBut d0 lw_cs → lv_has ls 4 [(2, .int (nI q)), (0, .ref m0), (1, .int (nI x9))] → W p l e rm_X7_unroll (s.setDrawn d0) m [Value.ref m0, Value.int ((nI x9))].toArray below meth c H9 locs (0 + rm_X7_noStrip.cells + rm_X7_far.cells) (0 + rm_X7_noStrip.slots + rm_X7_far.slots) (xMQ below (fun v H1 => ∃ (T : Int32) (un1 : Nat → Int32) (co1 dr1 : Nat → UInt64), xRef G ty m0 A T F R pl un1 co1 dr1 bu nb wi hi fc fa lo la px py pz H1 ∧ xRfr m0 A H H1 ∧ ∃ z : Int32, v = some (.int z) ∧ ((T = nI 0 ∧ vp_in (nI x9) (R - 1) ∧ ∃ d : Nat → UInt64, pUnr (pFar pl) (nI x9).toNatClampNeg (F - 1) = some d ∧ z = nI (2 * (F - 1)) ∧ un1 = upd un (nI x9).toNatClampNeg (nI 1) ∧ (∀ j : Nat, j < 4 * F → vq (co1 (32 * (nI x9).toNatClampNeg + j)) (d j)) ∧ ∀ j : Nat, (j < 32 * (nI x9).toNatClampNeg ∨ 32 * (nI x9).toNatClampNeg + 4 * F ≤ j) → co1 j = co j) ∨ (T = nI 1 ∧ ¬ vp_in (nI x9) (R - 1) ∧ un1 = un ∧ co1 = co) ∨ (T = nI 2 ∧ vp_in (nI x9) (R - 1) ∧ pUnr (pFar pl) (nI x9).toNatClampNeg (F - 1) = none ∧ un1 = un ∧ co1 = co))) (fun _ _ => False) [.ref m0, .int ((nI x9))].toArray s rm_X7_unroll b0) (F0 m 184 ls []) from K (4 * F) 0 co H9 _ d0 ls ⟨by omega, fun _ h => absurd h (Nat.not_lt_zero _), fun _ _ => rfl⟩ ⟨y_o, y_0, y_1, y_2, y_3, y_4, y_5, y_6, y_7, y_8, y_9, y_10⟩ hfr9 hS hd0 (lv_sub hl [0, 1, 2] rfl)
          intro u9
          induction u9 with
          | zero =>
            intro q co9 H9 locs d0 ls hinv hY9 hfr9 hS hd0 hl
            obtain ⟨y_o, y_0, y_1, y_2, y_3, y_4, y_5, y_6, y_7, y_8, y_9, y_10⟩ := id hY9
            obtain ⟨hq9, hc1, hc2⟩ := hinv
            refine lv_iload_n hx hb dX7_unroll_184 rfl (lv_at hl 0 rfl) ?_
            refine lv_iconst (v := nI 4) hx hb dX7_unroll_185 (by decide) ?_
            refine lv_aload_n hx hb dX7_unroll_186 rfl (lv_at hl 1 rfl) ?_
            refine va_get (D := G) (cl := vwCl) (ci := 8) (v := .int (nI F)) (C := RX7) (T := TX7) (N := 18) hx hb (hts d0) in_X7_unroll_X7 hown hK.1 (x1 y_o) 0 rfl rfl 1 (by decide) (hts d0 _ hw_X7_unroll_3) (fun _ h9 => h9) rfl dX7_unroll_187 ?_
            refine ximulN hx hb dX7_unroll_190 ?_
            refine xicmpN_ge (tgt := 217) hx hb (by omega) (by omega) dX7_unroll_191 (by decide) (fun _ => ?_) (fun h9 => absurd h9 (by omega))
            refine lv_aload_n hx hb dX7_unroll_217 rfl (lv_at hl 1 rfl) ?_
            refine va_get (D := G) (cl := vwCl) (ci := 8) (v := .ref (A 1)) (C := RX7) (T := TX7) (N := 18) hx hb (hts d0) in_X7_unroll_X7 hown hK.1 (x1 y_o) 0 rfl rfl 4 (by decide) (hts d0 _ hw_X7_unroll_5) (fun _ h9 => h9) rfl dX7_unroll_218 ?_
            refine lv_iload_n hx hb dX7_unroll_221 rfl (lv_at hl 2 rfl) ?_
            refine lv_iconst (v := nI 1) hx hb dX7_unroll_222 (by decide) ?_
            refine xzastN (s := s.setDrawn d0) (j := x9) (x := nI 1) hx hb hK.1 2 y_1 hS (hB.2 1 (by decide)) rfl (xix_of (by omega) (by omega)) zNar1 dX7_unroll_223 (fun H_12 locs_12 hs_12 hS => ?_)
            have hc_12 : xc G (A 1) (.inl (ty 2, 8, .inl ((upd un x9 (nI 1))))) H_12 := hs_12.1
            have hc_m0_12 : xc G m0 (.inr (8, [.int (nI 0), .int (nI F), .int (nI R), .ref (A 0), .ref (A 1), .ref (A 2), .ref (A 3), .ref (A 4), .int (nI nb), .ref (A 5), .ref (A 6), .ref (A 7), .ref (A 8), .ref (A 9), .ref (A 10), .double px, .double py, .double pz])) H_12 := y_o.kept (hs_12.2.2 _ (Ne.symm (hA.1 1 (by decide))))
            have hc_A0_12 : xc G (A 0) (.inl (ty 0, 192, .inr (.inr (.inr (.inl pl))))) H_12 := y_0.kept (hs_12.2.2 _ (fun z => absurd (hA.2 0 1 (by decide) (by decide) z) (by decide)))
            have hc_A2_12 : xc G (A 2) (.inl (ty 0, 256, .inr (.inr (.inr (.inl co9))))) H_12 := y_2.kept (hs_12.2.2 _ (fun z => absurd (hA.2 2 1 (by decide) (by decide) z) (by decide)))
            have hc_A3_12 : xc G (A 3) (.inl (ty 0, 32, .inr (.inr (.inr (.inl dr9))))) H_12 := y_3.kept (hs_12.2.2 _ (fun z => absurd (hA.2 3 1 (by decide) (by decide) z) (by decide)))
            have hc_A4_12 : xc G (A 4) (.inl (ty 2, 64, .inl bu)) H_12 := y_4.kept (hs_12.2.2 _ (fun z => absurd (hA.2 4 1 (by decide) (by decide) z) (by decide)))
            have hc_A5_12 : xc G (A 5) (.inl (ty 0, 4, .inr (.inr (.inr (.inl wi))))) H_12 := y_5.kept (hs_12.2.2 _ (fun z => absurd (hA.2 5 1 (by decide) (by decide) z) (by decide)))
            have hc_A6_12 : xc G (A 6) (.inl (ty 0, 4, .inr (.inr (.inr (.inl hi))))) H_12 := y_6.kept (hs_12.2.2 _ (fun z => absurd (hA.2 6 1 (by decide) (by decide) z) (by decide)))
            have hc_A7_12 : xc G (A 7) (.inl (ty 1, 4, .inl fc)) H_12 := y_7.kept (hs_12.2.2 _ (fun z => absurd (hA.2 7 1 (by decide) (by decide) z) (by decide)))
            have hc_A8_12 : xc G (A 8) (.inl (ty 0, 128, .inr (.inr (.inr (.inl fa))))) H_12 := y_8.kept (hs_12.2.2 _ (fun z => absurd (hA.2 8 1 (by decide) (by decide) z) (by decide)))
            have hc_A9_12 : xc G (A 9) (.inl (ty 1, 8, .inl lo)) H_12 := y_9.kept (hs_12.2.2 _ (fun z => absurd (hA.2 9 1 (by decide) (by decide) z) (by decide)))
            have hc_A10_12 : xc G (A 10) (.inl (ty 1, 8, .inl la)) H_12 := y_10.kept (hs_12.2.2 _ (fun z => absurd (hA.2 10 1 (by decide) (by decide) z) (by decide)))
            have hfr_12 : xRfr m0 A H H_12 := xRfr.putA hfr9 1 (by decide) hs_12
            refine lv_iconst (v := nI 2) hx hb dX7_unroll_224 (by decide) ?_
            refine lv_aload_n hx hb dX7_unroll_225 rfl (lv_at hl 1 rfl) ?_
            refine va_get (D := G) (cl := vwCl) (ci := 8) (v := .int (nI F)) (C := RX7) (T := TX7) (N := 18) hx hb (hts d0) in_X7_unroll_X7 hown hK.1 (x1 hc_m0_12) 0 rfl rfl 1 (by decide) (hts d0 _ hw_X7_unroll_3) (fun _ h9 => h9) rfl dX7_unroll_226 ?_
            refine lv_iconst (v := nI 1) hx hb dX7_unroll_229 (by decide) ?_
            refine xisubN hx hb (by omega) dX7_unroll_230 ?_
            refine ximulN hx hb dX7_unroll_231 ?_
            exact xiret hd0 hx hb hr hlocks hS (Nat.le_of_ble_eq_true rfl) (Nat.le_of_ble_eq_true rfl) dX7_unroll_232 ⟨nI 0, _, _, _, ⟨hc_m0_12, hc_A0_12, hc_12, hc_A2_12, hc_A3_12, hc_A4_12, hc_A5_12, hc_A6_12, hc_A7_12, hc_A8_12, hc_A9_12, hc_A10_12⟩, hfr_12, _, rfl, Or.inl ⟨rfl, z9, d, by rw [nN_nI (by omega)]; exact ⟨hu, rfl, rfl, fun j hj => by rw [hc1 j (by omega)]; exact hdd j (by omega), fun j hj => hc2 j (by omega)⟩⟩⟩
          | succ u9 ih2 =>
            intro q co9 H9 locs d0 ls hinv hY9 hfr9 hS hd0 hl
            obtain ⟨y_o, y_0, y_1, y_2, y_3, y_4, y_5, y_6, y_7, y_8, y_9, y_10⟩ := id hY9
            obtain ⟨hq9, hc1, hc2⟩ := hinv
            refine lv_iload_n hx hb dX7_unroll_184 rfl (lv_at hl 0 rfl) ?_
            refine lv_iconst (v := nI 4) hx hb dX7_unroll_185 (by decide) ?_
            refine lv_aload_n hx hb dX7_unroll_186 rfl (lv_at hl 1 rfl) ?_
            refine va_get (D := G) (cl := vwCl) (ci := 8) (v := .int (nI F)) (C := RX7) (T := TX7) (N := 18) hx hb (hts d0) in_X7_unroll_X7 hown hK.1 (x1 y_o) 0 rfl rfl 1 (by decide) (hts d0 _ hw_X7_unroll_3) (fun _ h9 => h9) rfl dX7_unroll_187 ?_
            refine ximulN hx hb dX7_unroll_190 ?_
            refine xicmpN_ge (tgt := 217) hx hb (by omega) (by omega) dX7_unroll_191 (by decide) (fun h9 => absurd h9 (by omega)) (fun _ => ?_)
            refine lv_aload_n hx hb dX7_unroll_194 rfl (lv_at hl 1 rfl) ?_
            refine va_get (D := G) (cl := vwCl) (ci := 8) (v := .ref (A 2)) (C := RX7) (T := TX7) (N := 18) hx hb (hts d0) in_X7_unroll_X7 hown hK.1 (x1 y_o) 0 rfl rfl 5 (by decide) (hts d0 _ hw_X7_unroll_4) (fun _ h9 => h9) rfl dX7_unroll_195 ?_
            refine lv_bipush (v := nI 32) hx hb dX7_unroll_198 (by decide) ?_
            refine lv_iload_n hx hb dX7_unroll_200 rfl (lv_at hl 2 rfl) ?_
            refine ximulN hx hb dX7_unroll_201 ?_
            refine lv_iload_n hx hb dX7_unroll_202 rfl (lv_at hl 0 rfl) ?_
            refine xiaddN hx hb dX7_unroll_203 ?_
            refine lv_aload_n hx hb dX7_unroll_204 rfl (lv_at hl 1 rfl) ?_
            refine va_get (D := G) (cl := vwCl) (ci := 8) (v := .ref (A 3)) (C := RX7) (T := TX7) (N := 18) hx hb (hts d0) in_X7_unroll_X7 hown hK.1 (x1 y_o) 0 rfl rfl 6 (by decide) (hts d0 _ hw_X7_unroll_2) (fun _ h9 => h9) rfl dX7_unroll_205 ?_
            refine lv_iload_n hx hb dX7_unroll_208 rfl (lv_at hl 0 rfl) ?_
            refine xdald (j := q) hx hb hK.1 0 y_3 rfl (xix_of (by omega) (by omega)) dX7_unroll_209 ?_
            refine xdastN (s := s.setDrawn d0) (j := (32 * x9) + q) (x := (dr9 (q))) hx hb hK.1 0 y_2 hS (hB.2 2 (by decide)) rfl (xix_of (by omega) (by omega)) dX7_unroll_210 (fun H_14 locs_14 hs_14 hS => ?_)
            have hc_14 : xc G (A 2) (.inl (ty 0, 256, .inr (.inr (.inr (.inl ((vf_upd co9 ((32 * x9) + q) (dr9 (q))))))))) H_14 := hs_14.1
            have hc_m0_14 : xc G m0 (.inr (8, [.int (nI 0), .int (nI F), .int (nI R), .ref (A 0), .ref (A 1), .ref (A 2), .ref (A 3), .ref (A 4), .int (nI nb), .ref (A 5), .ref (A 6), .ref (A 7), .ref (A 8), .ref (A 9), .ref (A 10), .double px, .double py, .double pz])) H_14 := y_o.kept (hs_14.2.2 _ (Ne.symm (hA.1 2 (by decide))))
            have hc_A0_14 : xc G (A 0) (.inl (ty 0, 192, .inr (.inr (.inr (.inl pl))))) H_14 := y_0.kept (hs_14.2.2 _ (fun z => absurd (hA.2 0 2 (by decide) (by decide) z) (by decide)))
            have hc_A1_14 : xc G (A 1) (.inl (ty 2, 8, .inl un)) H_14 := y_1.kept (hs_14.2.2 _ (fun z => absurd (hA.2 1 2 (by decide) (by decide) z) (by decide)))
            have hc_A3_14 : xc G (A 3) (.inl (ty 0, 32, .inr (.inr (.inr (.inl dr9))))) H_14 := y_3.kept (hs_14.2.2 _ (fun z => absurd (hA.2 3 2 (by decide) (by decide) z) (by decide)))
            have hc_A4_14 : xc G (A 4) (.inl (ty 2, 64, .inl bu)) H_14 := y_4.kept (hs_14.2.2 _ (fun z => absurd (hA.2 4 2 (by decide) (by decide) z) (by decide)))
            have hc_A5_14 : xc G (A 5) (.inl (ty 0, 4, .inr (.inr (.inr (.inl wi))))) H_14 := y_5.kept (hs_14.2.2 _ (fun z => absurd (hA.2 5 2 (by decide) (by decide) z) (by decide)))
            have hc_A6_14 : xc G (A 6) (.inl (ty 0, 4, .inr (.inr (.inr (.inl hi))))) H_14 := y_6.kept (hs_14.2.2 _ (fun z => absurd (hA.2 6 2 (by decide) (by decide) z) (by decide)))
            have hc_A7_14 : xc G (A 7) (.inl (ty 1, 4, .inl fc)) H_14 := y_7.kept (hs_14.2.2 _ (fun z => absurd (hA.2 7 2 (by decide) (by decide) z) (by decide)))
            have hc_A8_14 : xc G (A 8) (.inl (ty 0, 128, .inr (.inr (.inr (.inl fa))))) H_14 := y_8.kept (hs_14.2.2 _ (fun z => absurd (hA.2 8 2 (by decide) (by decide) z) (by decide)))
            have hc_A9_14 : xc G (A 9) (.inl (ty 1, 8, .inl lo)) H_14 := y_9.kept (hs_14.2.2 _ (fun z => absurd (hA.2 9 2 (by decide) (by decide) z) (by decide)))
            have hc_A10_14 : xc G (A 10) (.inl (ty 1, 8, .inl la)) H_14 := y_10.kept (hs_14.2.2 _ (fun z => absurd (hA.2 10 2 (by decide) (by decide) z) (by decide)))
            have hfr_14 : xRfr m0 A H H_14 := xRfr.putA hfr9 2 (by decide) hs_14
            refine xiincN (x := q) (y := 1) (lv' := [(2, .int (nI (q + 1))), (0, .ref m0), (1, .int (nI x9))]) hx hb dX7_unroll_211 hl (k := 0) rfl (by decide) (by decide) rfl (fun ls hl => ?_)
            refine lv_goto (tgt := 184) hx hb dX7_unroll_214 (by decide) ?_
            exact ih2 (q + 1) (vf_upd co9 ((32 * x9) + q) (dr9 (q))) H_14 _ d0 ls ⟨by omega, xcopy_in hc1, xcopy_out hc2⟩ ⟨hc_m0_14, hc_A0_14, hc_A1_14, hc_14, hc_A3_14, hc_A4_14, hc_A5_14, hc_A6_14, hc_A7_14, hc_A8_14, hc_A9_14, hc_A10_14⟩ hfr_14 hS hd0 (lv_sub hl [0, 1, 2] rfl)
        | succ n ih =>
          intro k d dr9 H9 locs d0 ls hinv hY9 hfr9 hS hd0 hl
          obtain ⟨y_o, y_0, y_1, y_2, y_3, y_4, y_5, y_6, y_7, y_8, y_9, y_10⟩ := id hY9
          obtain ⟨hk, hu, hdd⟩ := hinv
          refine lv_iload_n hx hb dX7_unroll_65 rfl (lv_at hl 0 rfl) ?_
          refine lv_aload_n hx hb dX7_unroll_66 rfl (lv_at hl 1 rfl) ?_
          refine va_get (D := G) (cl := vwCl) (ci := 8) (v := .int (nI F)) (C := RX7) (T := TX7) (N := 18) hx hb (hts d0) in_X7_unroll_X7 hown hK.1 (x1 y_o) 0 rfl rfl 1 (by decide) (hts d0 _ hw_X7_unroll_3) (fun _ h9 => h9) rfl dX7_unroll_67 ?_
          refine xicmpN_ge (tgt := 182) hx hb (by omega) (by omega) dX7_unroll_70 (by decide) (fun h9 => absurd h9 (by omega)) (fun _ => ?_)
          refine lv_aload_n hx hb dX7_unroll_73 rfl (lv_at hl 1 rfl) ?_
          refine lv_iconst (v := nI 2) hx hb dX7_unroll_74 (by decide) ?_
          refine lv_iload_n hx hb dX7_unroll_75 rfl (lv_at hl 0 rfl) ?_
          refine ximulN hx hb dX7_unroll_76 ?_
          refine lv_iconst (v := nI 2) hx hb dX7_unroll_77 (by decide) ?_
          refine lv_iload_n hx hb dX7_unroll_78 rfl (lv_at hl 0 rfl) ?_
          refine ximulN hx hb dX7_unroll_79 ?_
          refine lv_iconst (v := nI 2) hx hb dX7_unroll_80 (by decide) ?_
          refine xisubN hx hb (by omega) dX7_unroll_81 ?_
          refine lv_iconst (v := nI 2) hx hb dX7_unroll_82 (by decide) ?_
          refine lv_iload_n hx hb dX7_unroll_83 rfl (lv_at hl 0 rfl) ?_
          refine ximulN hx hb dX7_unroll_84 ?_
          refine lv_iconst (v := nI 1) hx hb dX7_unroll_85 (by decide) ?_
          refine xisubN hx hb (by omega) dX7_unroll_86 ?_
          refine lv_aload_n hx hb dX7_unroll_87 rfl (lv_at hl 1 rfl) ?_
          refine lv_iload_n hx hb dX7_unroll_88 rfl (lv_at hl 0 rfl) ?_
          refine lv_iconst (v := nI 1) hx hb dX7_unroll_89 (by decide) ?_
          refine xisubN hx hb (by omega) dX7_unroll_90 ?_
          refine lv_iload_n hx hb dX7_unroll_91 rfl (lv_at hl 2 rfl) ?_
          refine lv_iload_n hx hb dX7_unroll_92 rfl (lv_at hl 0 rfl) ?_
          refine lv_iload_n hx hb dX7_unroll_93 rfl (lv_at hl 2 rfl) ?_
          have cw_16 := cwV (R := rm_X7_unroll) (rm := rm_X7_far) 4 (hts d0) gX7_unroll_X7_far rfl rfl rfl (by decide +kernel) ⟨Nat.le_of_ble_eq_true rfl, Nat.le_of_ble_eq_true rfl⟩
          refine xcall hd0 (xintoV (b := m0) (As := [.int (nI ((k + 1) - 1)), .int (nI x9), .int (nI (k + 1)), .int (nI x9)]) (rest := [.int (nI ((2 * (k + 1)) - 1)), .int (nI ((2 * (k + 1)) - 2)), .int (nI (2 * (k + 1))), .ref m0]) ⟨hx, hb, hml, hown, hts _⟩ cw_16 (va_recv hK.1 (x1 y_o) (ci := 8) (q0 := 0) rfl rfl) rfl rfl hl.1 rfl (lv_room (Nat.le_of_ble_eq_true rfl)) dX7_unroll_94) (c_X7_far (l := l) (G := G) (ty := ty) (b0 := b0) (f := (k + 1) - 1) (r := x9) (g := k + 1) (q := x9) (by omega) (by omega) (by omega) (by omega) (⟨y_o, y_0, y_1, y_2, y_3, y_4, y_5, y_6, y_7, y_8, y_9, y_10⟩ : xRef G ty m0 A (nI 0) F R pl un co dr9 bu nb wi hi fc fa lo la px py pz H9) hZ) (xoweB cw_16.1) hK hb0 hS (Nat.le_of_ble_eq_true rfl) (Nat.le_of_ble_eq_true rfl) (fun E_16 ce_16 q9_16 H_16 locs_16 d0 hd0 hp_16 hS hce_16 hcv_16 hcl_16 => ?_) (fun v_16 H_16 locs_16 d0 hd0 hp_16 hS => ?_)
          · exact hp_16.elim
          · obtain ⟨rfl, r_16, rfl, q_16⟩ := hp_16
            show W p l e _ (s.setDrawn _) m _ below meth c _ _ _ _ _ (F0 m 97 ls [.double r_16, .int (nI ((2 * (k + 1)) - 1)), .int (nI ((2 * (k + 1)) - 2)), .int (nI (2 * (k + 1))), .ref m0])
            refine lv_aload_n hx hb dX7_unroll_97 rfl (lv_at hl 1 rfl) ?_
            refine lv_iload_n hx hb dX7_unroll_98 rfl (lv_at hl 0 rfl) ?_
            refine lv_iconst (v := nI 1) hx hb dX7_unroll_99 (by decide) ?_
            refine xisubN hx hb (by omega) dX7_unroll_100 ?_
            refine lv_iload_n hx hb dX7_unroll_101 rfl (lv_at hl 2 rfl) ?_
            refine lv_iconst (v := nI 1) hx hb dX7_unroll_102 (by decide) ?_
            refine xiaddN hx hb dX7_unroll_103 ?_
            refine lv_iload_n hx hb dX7_unroll_104 rfl (lv_at hl 0 rfl) ?_
            refine lv_iload_n hx hb dX7_unroll_105 rfl (lv_at hl 2 rfl) ?_
            have cw_17 := cwV (R := rm_X7_unroll) (rm := rm_X7_far) 4 (hts d0) gX7_unroll_X7_far rfl rfl rfl (by decide +kernel) ⟨Nat.le_of_ble_eq_true rfl, Nat.le_of_ble_eq_true rfl⟩
            refine xcall hd0 (xintoV (b := m0) (As := [.int (nI ((k + 1) - 1)), .int (nI (x9 + 1)), .int (nI (k + 1)), .int (nI x9)]) (rest := [.double r_16, .int (nI ((2 * (k + 1)) - 1)), .int (nI ((2 * (k + 1)) - 2)), .int (nI (2 * (k + 1))), .ref m0]) ⟨hx, hb, hml, hown, hts _⟩ cw_17 (va_recv hK.1 (x1 y_o) (ci := 8) (q0 := 0) rfl rfl) rfl rfl hl.1 rfl (lv_room (Nat.le_of_ble_eq_true rfl)) dX7_unroll_106) (c_X7_far (l := l) (G := G) (ty := ty) (b0 := b0) (f := (k + 1) - 1) (r := x9 + 1) (g := k + 1) (q := x9) (by omega) (by omega) (by omega) (by omega) (⟨y_o, y_0, y_1, y_2, y_3, y_4, y_5, y_6, y_7, y_8, y_9, y_10⟩ : xRef G ty m0 A (nI 0) F R pl un co dr9 bu nb wi hi fc fa lo la px py pz H9) hZ) (xoweB cw_17.1) hK hb0 hS (Nat.le_of_ble_eq_true rfl) (Nat.le_of_ble_eq_true rfl) (fun E_17 ce_17 q9_17 H_17 locs_17 d0 hd0 hp_17 hS hce_17 hcv_17 hcl_17 => ?_) (fun v_17 H_17 locs_17 d0 hd0 hp_17 hS => ?_)
            · exact hp_17.elim
            · obtain ⟨rfl, r_17, rfl, q_17⟩ := hp_17
              show W p l e _ (s.setDrawn _) m _ below meth c _ _ _ _ _ (F0 m 109 ls [.double r_17, .double r_16, .int (nI ((2 * (k + 1)) - 1)), .int (nI ((2 * (k + 1)) - 2)), .int (nI (2 * (k + 1))), .ref m0])
              have cw_18 := cwV (R := rm_X7_unroll) (rm := rm_X7_put) 5 (hts d0) gX7_unroll_X7_put rfl rfl rfl (by decide +kernel) ⟨Nat.le_of_ble_eq_true rfl, Nat.le_of_ble_eq_true rfl⟩
              refine xcall hd0 (xintoV (b := m0) (As := [.int (nI (2 * (k + 1))), .int (nI ((2 * (k + 1)) - 2)), .int (nI ((2 * (k + 1)) - 1)), .double r_16, .double r_17]) (rest := []) ⟨hx, hb, hml, hown, hts _⟩ cw_18 (va_recv hK.1 (x1 y_o) (ci := 8) (q0 := 0) rfl rfl) rfl rfl hl.1 rfl (lv_room (Nat.le_of_ble_eq_true rfl)) dX7_unroll_109) (c_X7_put (l := l) (G := G) (ty := ty) (b0 := b0) (⟨y_o, y_0, y_1, y_2, y_3, y_4, y_5, y_6, y_7, y_8, y_9, y_10⟩ : xRef G ty m0 A (nI 0) F R pl un co dr9 bu nb wi hi fc fa lo la px py pz H9) hZ hA hB (k := 2 * (k + 1)) (i := (2 * (k + 1)) - 2) (j := (2 * (k + 1)) - 1) (d := d) q_16 q_17 (by omega) (by omega) (by omega) (fun j hj => hdd j (by omega))) (xoweB cw_18.1) hK hb0 hS (Nat.le_of_ble_eq_true rfl) (Nat.le_of_ble_eq_true rfl) (fun E_18 ce_18 q9_18 H_18 locs_18 d0 hd0 hp_18 hS hce_18 hcv_18 hcl_18 => ?_) (fun v_18 H_18 locs_18 d0 hd0 hp_18 hS => ?_)
              · exact hp_18.elim
              · rcases hp_18 with ⟨rfl, hbad_18, hY_18, hfr_18⟩ | ⟨rfl, hbad_18, dr_18, hY_18, hfr_18, hdr_18⟩
                · obtain ⟨y_o, y_0, y_1, y_2, y_3, y_4, y_5, y_6, y_7, y_8, y_9, y_10⟩ := id hY_18
                  have hfr_18t := xRfr.tr hfr9 hfr_18
                  show W p l e _ (s.setDrawn _) m _ below meth c _ _ _ _ _ (F0 m 112 ls [.int (nI 0)])
                  refine lv_if_eq (tgt := 163) hx hb dX7_unroll_112 (by decide) (fun _ => ?_) (fun h9 => (show False by revert h9; decide).elim)
                  refine lv_iconst (v := nI 0) hx hb dX7_unroll_163 (by decide) ?_
                  refine lv_istore_n (lv' := [(3, .int (nI 0)), (2, .int (nI (k + 1))), (0, .ref m0), (1, .int (nI x9))]) hx hb dX7_unroll_164 rfl hl (by decide) rfl (fun ls hl => ?_)
                  refine lv_iload_n hx hb dX7_unroll_165 rfl (lv_at hl 0 rfl) ?_
                  refine lv_if_ne (tgt := 176) hx hb dX7_unroll_166 (by decide) (fun h9 => (show False by revert h9; decide).elim) (fun _ => ?_)
                  refine lv_aload_n hx hb dX7_unroll_169 rfl (lv_at hl 2 rfl) ?_
                  refine lv_iconst (v := nI 2) hx hb dX7_unroll_170 (by decide) ?_
                  refine xput (G := G) (ci := 8) (v := .int (nI 2)) (ty := .int) (C := RX7) (T := TX7) (N := 18) hx hb (hts d0) in_X7_unroll_X7 tyX7 tyX7_ok nmX7 hown hK.1 y_o hS hB.1 rfl 0 (by decide) (hts d0 _ hw_X7_unroll_1) (fun _ h9 => h9) rfl (by decide +kernel) rfl rfl (Nat.le_of_ble_eq_true rfl) dX7_unroll_171 (fun H_21 locs_21 hs_21 hS => ?_)
                  have hc_21 : xc G m0 (.inr (8, [.int (nI 2), .int (nI F), .int (nI R), .ref (A 0), .ref (A 1), .ref (A 2), .ref (A 3), .ref (A 4), .int (nI nb), .ref (A 5), .ref (A 6), .ref (A 7), .ref (A 8), .ref (A 9), .ref (A 10), .double px, .double py, .double pz])) H_21 := hs_21.1
                  have hc_A0_21 : xc G (A 0) (.inl (ty 0, 192, .inr (.inr (.inr (.inl pl))))) H_21 := y_0.kept (hs_21.2.2 _ (hA.1 0 (by decide)))
                  have hc_A1_21 : xc G (A 1) (.inl (ty 2, 8, .inl un)) H_21 := y_1.kept (hs_21.2.2 _ (hA.1 1 (by decide)))
                  have hc_A2_21 : xc G (A 2) (.inl (ty 0, 256, .inr (.inr (.inr (.inl co))))) H_21 := y_2.kept (hs_21.2.2 _ (hA.1 2 (by decide)))
                  have hc_A3_21 : xc G (A 3) (.inl (ty 0, 32, .inr (.inr (.inr (.inl dr9))))) H_21 := y_3.kept (hs_21.2.2 _ (hA.1 3 (by decide)))
                  have hc_A4_21 : xc G (A 4) (.inl (ty 2, 64, .inl bu)) H_21 := y_4.kept (hs_21.2.2 _ (hA.1 4 (by decide)))
                  have hc_A5_21 : xc G (A 5) (.inl (ty 0, 4, .inr (.inr (.inr (.inl wi))))) H_21 := y_5.kept (hs_21.2.2 _ (hA.1 5 (by decide)))
                  have hc_A6_21 : xc G (A 6) (.inl (ty 0, 4, .inr (.inr (.inr (.inl hi))))) H_21 := y_6.kept (hs_21.2.2 _ (hA.1 6 (by decide)))
                  have hc_A7_21 : xc G (A 7) (.inl (ty 1, 4, .inl fc)) H_21 := y_7.kept (hs_21.2.2 _ (hA.1 7 (by decide)))
                  have hc_A8_21 : xc G (A 8) (.inl (ty 0, 128, .inr (.inr (.inr (.inl fa))))) H_21 := y_8.kept (hs_21.2.2 _ (hA.1 8 (by decide)))
                  have hc_A9_21 : xc G (A 9) (.inl (ty 1, 8, .inl lo)) H_21 := y_9.kept (hs_21.2.2 _ (hA.1 9 (by decide)))
                  have hc_A10_21 : xc G (A 10) (.inl (ty 1, 8, .inl la)) H_21 := y_10.kept (hs_21.2.2 _ (hA.1 10 (by decide)))
                  have hfr_21 : xRfr m0 A H H_21 := xRfr.put0 hfr_18t hs_21
                  refine lv_iconst (v := nI 0) hx hb dX7_unroll_174 (by decide) ?_
                  exact xiret hd0 hx hb hr hlocks hS (Nat.le_of_ble_eq_true rfl) (Nat.le_of_ble_eq_true rfl) dX7_unroll_175 ⟨nI 2, _, _, _, ⟨hc_21, hc_A0_21, hc_A1_21, hc_A2_21, hc_A3_21, hc_A4_21, hc_A5_21, hc_A6_21, hc_A7_21, hc_A8_21, hc_A9_21, hc_A10_21⟩, hfr_21, _, rfl, Or.inr (Or.inr ⟨rfl, z9, by rw [nN_nI (by omega)]; exact ⟨pUnr_to (pUnr_n1 hu hbad_18) (by omega), rfl, rfl⟩⟩)⟩
                · obtain ⟨y_o, y_0, y_1, y_2, y_3, y_4, y_5, y_6, y_7, y_8, y_9, y_10⟩ := id hY_18
                  have hfr_18t := xRfr.tr hfr9 hfr_18
                  show W p l e _ (s.setDrawn _) m _ below meth c _ _ _ _ _ (F0 m 112 ls [.int (nI 1)])
                  refine lv_if_eq (tgt := 163) hx hb dX7_unroll_112 (by decide) (fun h9 => (show False by revert h9; decide).elim) (fun _ => ?_)
                  refine lv_aload_n hx hb dX7_unroll_115 rfl (lv_at hl 1 rfl) ?_
                  refine lv_iconst (v := nI 2) hx hb dX7_unroll_116 (by decide) ?_
                  refine lv_iload_n hx hb dX7_unroll_117 rfl (lv_at hl 0 rfl) ?_
                  refine ximulN hx hb dX7_unroll_118 ?_
                  refine lv_iconst (v := nI 1) hx hb dX7_unroll_119 (by decide) ?_
                  refine xiaddN hx hb dX7_unroll_120 ?_
                  refine lv_iconst (v := nI 2) hx hb dX7_unroll_121 (by decide) ?_
                  refine lv_iload_n hx hb dX7_unroll_122 rfl (lv_at hl 0 rfl) ?_
                  refine ximulN hx hb dX7_unroll_123 ?_
                  refine lv_iconst (v := nI 2) hx hb dX7_unroll_124 (by decide) ?_
                  refine lv_iload_n hx hb dX7_unroll_125 rfl (lv_at hl 0 rfl) ?_
                  refine ximulN hx hb dX7_unroll_126 ?_
                  refine lv_iconst (v := nI 1) hx hb dX7_unroll_127 (by decide) ?_
                  refine xisubN hx hb (by omega) dX7_unroll_128 ?_
                  refine lv_aload_n hx hb dX7_unroll_129 rfl (lv_at hl 1 rfl) ?_
                  refine lv_iload_n hx hb dX7_unroll_130 rfl (lv_at hl 0 rfl) ?_
                  refine lv_iload_n hx hb dX7_unroll_131 rfl (lv_at hl 2 rfl) ?_
                  refine lv_iload_n hx hb dX7_unroll_132 rfl (lv_at hl 0 rfl) ?_
                  refine lv_iload_n hx hb dX7_unroll_133 rfl (lv_at hl 2 rfl) ?_
                  refine lv_iconst (v := nI 1) hx hb dX7_unroll_134 (by decide) ?_
                  refine xiaddN hx hb dX7_unroll_135 ?_
                  have cw_23 := cwV (R := rm_X7_unroll) (rm := rm_X7_far) 4 (hts d0) gX7_unroll_X7_far rfl rfl rfl (by decide +kernel) ⟨Nat.le_of_ble_eq_true rfl, Nat.le_of_ble_eq_true rfl⟩
                  refine xcall hd0 (xintoV (b := m0) (As := [.int (nI (k + 1)), .int (nI x9), .int (nI (k + 1)), .int (nI (x9 + 1))]) (rest := [.int (nI ((2 * (k + 1)) - 1)), .int (nI (2 * (k + 1))), .int (nI ((2 * (k + 1)) + 1)), .ref m0]) ⟨hx, hb, hml, hown, hts _⟩ cw_23 (va_recv hK.1 (x1 y_o) (ci := 8) (q0 := 0) rfl rfl) rfl rfl hl.1 rfl (lv_room (Nat.le_of_ble_eq_true rfl)) dX7_unroll_136) (c_X7_far (l := l) (G := G) (ty := ty) (b0 := b0) (f := k + 1) (r := x9) (g := k + 1) (q := x9 + 1) (by omega) (by omega) (by omega) (by omega) (⟨y_o, y_0, y_1, y_2, y_3, y_4, y_5, y_6, y_7, y_8, y_9, y_10⟩ : xRef G ty m0 A (nI 0) F R pl un co dr_18 bu nb wi hi fc fa lo la px py pz H_18) hZ) (xoweB cw_23.1) hK hb0 hS (Nat.le_of_ble_eq_true rfl) (Nat.le_of_ble_eq_true rfl) (fun E_23 ce_23 q9_23 H_23 locs_23 d0 hd0 hp_23 hS hce_23 hcv_23 hcl_23 => ?_) (fun v_23 H_23 locs_23 d0 hd0 hp_23 hS => ?_)
                  · exact hp_23.elim
                  · obtain ⟨rfl, r_23, rfl, q_23⟩ := hp_23
                    show W p l e _ (s.setDrawn _) m _ below meth c _ _ _ _ _ (F0 m 139 ls [.double r_23, .int (nI ((2 * (k + 1)) - 1)), .int (nI (2 * (k + 1))), .int (nI ((2 * (k + 1)) + 1)), .ref m0])
                    refine lv_aload_n hx hb dX7_unroll_139 rfl (lv_at hl 1 rfl) ?_
                    refine lv_iload_n hx hb dX7_unroll_140 rfl (lv_at hl 0 rfl) ?_
                    refine lv_iconst (v := nI 1) hx hb dX7_unroll_141 (by decide) ?_
                    refine xisubN hx hb (by omega) dX7_unroll_142 ?_
                    refine lv_iload_n hx hb dX7_unroll_143 rfl (lv_at hl 2 rfl) ?_
                    refine lv_iconst (v := nI 1) hx hb dX7_unroll_144 (by decide) ?_
                    refine xiaddN hx hb dX7_unroll_145 ?_
                    refine lv_iload_n hx hb dX7_unroll_146 rfl (lv_at hl 0 rfl) ?_
                    refine lv_iload_n hx hb dX7_unroll_147 rfl (lv_at hl 2 rfl) ?_
                    refine lv_iconst (v := nI 1) hx hb dX7_unroll_148 (by decide) ?_
                    refine xiaddN hx hb dX7_unroll_149 ?_
                    have cw_24 := cwV (R := rm_X7_unroll) (rm := rm_X7_far) 4 (hts d0) gX7_unroll_X7_far rfl rfl rfl (by decide +kernel) ⟨Nat.le_of_ble_eq_true rfl, Nat.le_of_ble_eq_true rfl⟩
                    refine xcall hd0 (xintoV (b := m0) (As := [.int (nI ((k + 1) - 1)), .int (nI (x9 + 1)), .int (nI (k + 1)), .int (nI (x9 + 1))]) (rest := [.double r_23, .int (nI ((2 * (k + 1)) - 1)), .int (nI (2 * (k + 1))), .int (nI ((2 * (k + 1)) + 1)), .ref m0]) ⟨hx, hb, hml, hown, hts _⟩ cw_24 (va_recv hK.1 (x1 y_o) (ci := 8) (q0 := 0) rfl rfl) rfl rfl hl.1 rfl (lv_room (Nat.le_of_ble_eq_true rfl)) dX7_unroll_150) (c_X7_far (l := l) (G := G) (ty := ty) (b0 := b0) (f := (k + 1) - 1) (r := x9 + 1) (g := k + 1) (q := x9 + 1) (by omega) (by omega) (by omega) (by omega) (⟨y_o, y_0, y_1, y_2, y_3, y_4, y_5, y_6, y_7, y_8, y_9, y_10⟩ : xRef G ty m0 A (nI 0) F R pl un co dr_18 bu nb wi hi fc fa lo la px py pz H_18) hZ) (xoweB cw_24.1) hK hb0 hS (Nat.le_of_ble_eq_true rfl) (Nat.le_of_ble_eq_true rfl) (fun E_24 ce_24 q9_24 H_24 locs_24 d0 hd0 hp_24 hS hce_24 hcv_24 hcl_24 => ?_) (fun v_24 H_24 locs_24 d0 hd0 hp_24 hS => ?_)
                    · exact hp_24.elim
                    · obtain ⟨rfl, r_24, rfl, q_24⟩ := hp_24
                      show W p l e _ (s.setDrawn _) m _ below meth c _ _ _ _ _ (F0 m 153 ls [.double r_24, .double r_23, .int (nI ((2 * (k + 1)) - 1)), .int (nI (2 * (k + 1))), .int (nI ((2 * (k + 1)) + 1)), .ref m0])
                      have cw_25 := cwV (R := rm_X7_unroll) (rm := rm_X7_put) 5 (hts d0) gX7_unroll_X7_put rfl rfl rfl (by decide +kernel) ⟨Nat.le_of_ble_eq_true rfl, Nat.le_of_ble_eq_true rfl⟩
                      refine xcall hd0 (xintoV (b := m0) (As := [.int (nI ((2 * (k + 1)) + 1)), .int (nI (2 * (k + 1))), .int (nI ((2 * (k + 1)) - 1)), .double r_23, .double r_24]) (rest := []) ⟨hx, hb, hml, hown, hts _⟩ cw_25 (va_recv hK.1 (x1 y_o) (ci := 8) (q0 := 0) rfl rfl) rfl rfl hl.1 rfl (lv_room (Nat.le_of_ble_eq_true rfl)) dX7_unroll_153) (c_X7_put (l := l) (G := G) (ty := ty) (b0 := b0) (⟨y_o, y_0, y_1, y_2, y_3, y_4, y_5, y_6, y_7, y_8, y_9, y_10⟩ : xRef G ty m0 A (nI 0) F R pl un co dr_18 bu nb wi hi fc fa lo la px py pz H_18) hZ hA hB (k := (2 * (k + 1)) + 1) (i := 2 * (k + 1)) (j := (2 * (k + 1)) - 1) (d := (pStep1 (pFar pl) x9 d (k + 1))) q_23 q_24 (by omega) (by omega) (by omega) (fun j hj => hdr_18 j (by omega))) (xoweB cw_25.1) hK hb0 hS (Nat.le_of_ble_eq_true rfl) (Nat.le_of_ble_eq_true rfl) (fun E_25 ce_25 q9_25 H_25 locs_25 d0 hd0 hp_25 hS hce_25 hcv_25 hcl_25 => ?_) (fun v_25 H_25 locs_25 d0 hd0 hp_25 hS => ?_)
                      · exact hp_25.elim
                      · rcases hp_25 with ⟨rfl, hbad_25, hY_25, hfr_25⟩ | ⟨rfl, hbad_25, dr_25, hY_25, hfr_25, hdr_25⟩
                        · obtain ⟨y_o, y_0, y_1, y_2, y_3, y_4, y_5, y_6, y_7, y_8, y_9, y_10⟩ := id hY_25
                          have hfr_25t := xRfr.tr hfr_18t hfr_25
                          show W p l e _ (s.setDrawn _) m _ below meth c _ _ _ _ _ (F0 m 156 ls [.int (nI 0)])
                          refine lv_if_eq (tgt := 163) hx hb dX7_unroll_156 (by decide) (fun _ => ?_) (fun h9 => (show False by revert h9; decide).elim)
                          refine lv_iconst (v := nI 0) hx hb dX7_unroll_163 (by decide) ?_
                          refine lv_istore_n (lv' := [(3, .int (nI 0)), (2, .int (nI (k + 1))), (0, .ref m0), (1, .int (nI x9))]) hx hb dX7_unroll_164 rfl hl (by decide) rfl (fun ls hl => ?_)
                          refine lv_iload_n hx hb dX7_unroll_165 rfl (lv_at hl 0 rfl) ?_
                          refine lv_if_ne (tgt := 176) hx hb dX7_unroll_166 (by decide) (fun h9 => (show False by revert h9; decide).elim) (fun _ => ?_)
                          refine lv_aload_n hx hb dX7_unroll_169 rfl (lv_at hl 2 rfl) ?_
                          refine lv_iconst (v := nI 2) hx hb dX7_unroll_170 (by decide) ?_
                          refine xput (G := G) (ci := 8) (v := .int (nI 2)) (ty := .int) (C := RX7) (T := TX7) (N := 18) hx hb (hts d0) in_X7_unroll_X7 tyX7 tyX7_ok nmX7 hown hK.1 y_o hS hB.1 rfl 0 (by decide) (hts d0 _ hw_X7_unroll_1) (fun _ h9 => h9) rfl (by decide +kernel) rfl rfl (Nat.le_of_ble_eq_true rfl) dX7_unroll_171 (fun H_28 locs_28 hs_28 hS => ?_)
                          have hc_28 : xc G m0 (.inr (8, [.int (nI 2), .int (nI F), .int (nI R), .ref (A 0), .ref (A 1), .ref (A 2), .ref (A 3), .ref (A 4), .int (nI nb), .ref (A 5), .ref (A 6), .ref (A 7), .ref (A 8), .ref (A 9), .ref (A 10), .double px, .double py, .double pz])) H_28 := hs_28.1
                          have hc_A0_28 : xc G (A 0) (.inl (ty 0, 192, .inr (.inr (.inr (.inl pl))))) H_28 := y_0.kept (hs_28.2.2 _ (hA.1 0 (by decide)))
                          have hc_A1_28 : xc G (A 1) (.inl (ty 2, 8, .inl un)) H_28 := y_1.kept (hs_28.2.2 _ (hA.1 1 (by decide)))
                          have hc_A2_28 : xc G (A 2) (.inl (ty 0, 256, .inr (.inr (.inr (.inl co))))) H_28 := y_2.kept (hs_28.2.2 _ (hA.1 2 (by decide)))
                          have hc_A3_28 : xc G (A 3) (.inl (ty 0, 32, .inr (.inr (.inr (.inl dr_18))))) H_28 := y_3.kept (hs_28.2.2 _ (hA.1 3 (by decide)))
                          have hc_A4_28 : xc G (A 4) (.inl (ty 2, 64, .inl bu)) H_28 := y_4.kept (hs_28.2.2 _ (hA.1 4 (by decide)))
                          have hc_A5_28 : xc G (A 5) (.inl (ty 0, 4, .inr (.inr (.inr (.inl wi))))) H_28 := y_5.kept (hs_28.2.2 _ (hA.1 5 (by decide)))
                          have hc_A6_28 : xc G (A 6) (.inl (ty 0, 4, .inr (.inr (.inr (.inl hi))))) H_28 := y_6.kept (hs_28.2.2 _ (hA.1 6 (by decide)))
                          have hc_A7_28 : xc G (A 7) (.inl (ty 1, 4, .inl fc)) H_28 := y_7.kept (hs_28.2.2 _ (hA.1 7 (by decide)))
                          have hc_A8_28 : xc G (A 8) (.inl (ty 0, 128, .inr (.inr (.inr (.inl fa))))) H_28 := y_8.kept (hs_28.2.2 _ (hA.1 8 (by decide)))
                          have hc_A9_28 : xc G (A 9) (.inl (ty 1, 8, .inl lo)) H_28 := y_9.kept (hs_28.2.2 _ (hA.1 9 (by decide)))
                          have hc_A10_28 : xc G (A 10) (.inl (ty 1, 8, .inl la)) H_28 := y_10.kept (hs_28.2.2 _ (hA.1 10 (by decide)))
                          have hfr_28 : xRfr m0 A H H_28 := xRfr.put0 hfr_25t hs_28
                          refine lv_iconst (v := nI 0) hx hb dX7_unroll_174 (by decide) ?_
                          exact xiret hd0 hx hb hr hlocks hS (Nat.le_of_ble_eq_true rfl) (Nat.le_of_ble_eq_true rfl) dX7_unroll_175 ⟨nI 2, _, _, _, ⟨hc_28, hc_A0_28, hc_A1_28, hc_A2_28, hc_A3_28, hc_A4_28, hc_A5_28, hc_A6_28, hc_A7_28, hc_A8_28, hc_A9_28, hc_A10_28⟩, hfr_28, _, rfl, Or.inr (Or.inr ⟨rfl, z9, by rw [nN_nI (by omega)]; exact ⟨pUnr_to (pUnr_n2 hu hbad_18 hbad_25) (by omega), rfl, rfl⟩⟩)⟩
                        · obtain ⟨y_o, y_0, y_1, y_2, y_3, y_4, y_5, y_6, y_7, y_8, y_9, y_10⟩ := id hY_25
                          have hfr_25t := xRfr.tr hfr_18t hfr_25
                          show W p l e _ (s.setDrawn _) m _ below meth c _ _ _ _ _ (F0 m 156 ls [.int (nI 1)])
                          refine lv_if_eq (tgt := 163) hx hb dX7_unroll_156 (by decide) (fun h9 => (show False by revert h9; decide).elim) (fun _ => ?_)
                          refine lv_iconst (v := nI 1) hx hb dX7_unroll_159 (by decide) ?_
                          refine lv_goto (tgt := 164) hx hb dX7_unroll_160 (by decide) ?_
                          refine lv_istore_n (lv' := [(3, .int (nI 1)), (2, .int (nI (k + 1))), (0, .ref m0), (1, .int (nI x9))]) hx hb dX7_unroll_164 rfl hl (by decide) rfl (fun ls hl => ?_)
                          refine lv_iload_n hx hb dX7_unroll_165 rfl (lv_at hl 0 rfl) ?_
                          refine lv_if_ne (tgt := 176) hx hb dX7_unroll_166 (by decide) (fun _ => ?_) (fun h9 => (show False by revert h9; decide).elim)
                          refine xiincN (x := k + 1) (y := 1) (lv' := [(2, .int (nI ((k + 1) + 1))), (3, .int (nI 1)), (0, .ref m0), (1, .int (nI x9))]) hx hb dX7_unroll_176 hl (k := 1) rfl (by decide) (by decide) rfl (fun ls hl => ?_)
                          refine lv_goto (tgt := 65) hx hb dX7_unroll_179 (by decide) ?_
                          exact ih (k + 1) (pStep2 (pFar pl) x9 d (k + 1)) dr_25 H_25 _ d0 ls ⟨by omega, pUnr_s hu hbad_18 hbad_25, fun j hj => hdr_25 j (by omega)⟩ ⟨y_o, y_0, y_1, y_2, y_3, y_4, y_5, y_6, y_7, y_8, y_9, y_10⟩ hfr_25t hS hd0 (lv_sub hl [0, 2, 3] rfl)
    · refine lv_iconst (v := nI 1) hx hb dX7_unroll_9 (by decide) ?_
      refine lv_goto (tgt := 14) hx hb dX7_unroll_10 (by decide) ?_
      refine xput (G := G) (ci := 8) (v := .int (nI 1)) (ty := .int) (C := RX7) (T := TX7) (N := 18) hx hb (hts d0) in_X7_unroll_X7 tyX7 tyX7_ok nmX7 hown hK.1 y_o hS hB.1 rfl 0 (by decide) (hts d0 _ hw_X7_unroll_1) (fun _ h9 => h9) rfl (by decide +kernel) rfl rfl (Nat.le_of_ble_eq_true rfl) dX7_unroll_14 (fun H_31 locs_31 hs_31 hS => ?_)
      have hc_31 : xc G m0 (.inr (8, [.int (nI 1), .int (nI F), .int (nI R), .ref (A 0), .ref (A 1), .ref (A 2), .ref (A 3), .ref (A 4), .int (nI nb), .ref (A 5), .ref (A 6), .ref (A 7), .ref (A 8), .ref (A 9), .ref (A 10), .double px, .double py, .double pz])) H_31 := hs_31.1
      have hc_A0_31 : xc G (A 0) (.inl (ty 0, 192, .inr (.inr (.inr (.inl pl))))) H_31 := y_0.kept (hs_31.2.2 _ (hA.1 0 (by decide)))
      have hc_A1_31 : xc G (A 1) (.inl (ty 2, 8, .inl un)) H_31 := y_1.kept (hs_31.2.2 _ (hA.1 1 (by decide)))
      have hc_A2_31 : xc G (A 2) (.inl (ty 0, 256, .inr (.inr (.inr (.inl co))))) H_31 := y_2.kept (hs_31.2.2 _ (hA.1 2 (by decide)))
      have hc_A3_31 : xc G (A 3) (.inl (ty 0, 32, .inr (.inr (.inr (.inl dr))))) H_31 := y_3.kept (hs_31.2.2 _ (hA.1 3 (by decide)))
      have hc_A4_31 : xc G (A 4) (.inl (ty 2, 64, .inl bu)) H_31 := y_4.kept (hs_31.2.2 _ (hA.1 4 (by decide)))
      have hc_A5_31 : xc G (A 5) (.inl (ty 0, 4, .inr (.inr (.inr (.inl wi))))) H_31 := y_5.kept (hs_31.2.2 _ (hA.1 5 (by decide)))
      have hc_A6_31 : xc G (A 6) (.inl (ty 0, 4, .inr (.inr (.inr (.inl hi))))) H_31 := y_6.kept (hs_31.2.2 _ (hA.1 6 (by decide)))
      have hc_A7_31 : xc G (A 7) (.inl (ty 1, 4, .inl fc)) H_31 := y_7.kept (hs_31.2.2 _ (hA.1 7 (by decide)))
      have hc_A8_31 : xc G (A 8) (.inl (ty 0, 128, .inr (.inr (.inr (.inl fa))))) H_31 := y_8.kept (hs_31.2.2 _ (hA.1 8 (by decide)))
      have hc_A9_31 : xc G (A 9) (.inl (ty 1, 8, .inl lo)) H_31 := y_9.kept (hs_31.2.2 _ (hA.1 9 (by decide)))
      have hc_A10_31 : xc G (A 10) (.inl (ty 1, 8, .inl la)) H_31 := y_10.kept (hs_31.2.2 _ (hA.1 10 (by decide)))
      have hfr_31 : xRfr m0 A H H_31 := xRfr.put0 xRfr.rf hs_31
      refine lv_aload_n hx hb dX7_unroll_17 rfl (lv_at hl 0 rfl) ?_
      refine va_get (D := G) (cl := vwCl) (ci := 8) (v := .int (nI 1)) (C := RX7) (T := TX7) (N := 18) hx hb (hts d0) in_X7_unroll_X7 hown hK.1 (x1 hc_31) 0 rfl rfl 0 (by decide) (hts d0 _ hw_X7_unroll_1) (fun _ h9 => h9) rfl dX7_unroll_18 ?_
      refine lv_if_le (tgt := 26) hx hb dX7_unroll_21 (by decide) (fun h9 => (show False by revert h9; decide).elim) (fun _ => ?_)
      refine lv_iconst (v := nI 0) hx hb dX7_unroll_24 (by decide) ?_
      exact xiret hd0 hx hb hr hlocks hS (Nat.le_of_ble_eq_true rfl) (Nat.le_of_ble_eq_true rfl) dX7_unroll_25 ⟨nI 1, _, _, _, ⟨hc_31, hc_A0_31, hc_A1_31, hc_A2_31, hc_A3_31, hc_A4_31, hc_A5_31, hc_A6_31, hc_A7_31, hc_A8_31, hc_A9_31, hc_A10_31⟩, hfr_31, _, rfl, Or.inr (Or.inl ⟨rfl, xP_ne.mp c_2, rfl, rfl⟩)⟩
