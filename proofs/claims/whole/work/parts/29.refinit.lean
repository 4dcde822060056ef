/-! THE REFERENCE: its beginning. -/
/-- a size: the nearest of 2 .. 8 -/
def xCl (x : Int32) : Nat := if x < nI 2 then 2 else if x ≤ nI 8 then x.toNatClampNeg else 8
theorem xCl_lo {x : Int32} (h : x < nI 2) : xCl x = 2 := by unfold xCl; exact if_pos h
theorem xCl_hi {x : Int32} (h1 : ¬ x < nI 2) (h2 : ¬ x ≤ nI 8) : xCl x = 8 := by unfold xCl; rw [if_neg h1, if_neg h2]
theorem xCl_mid {x : Int32} (h1 : ¬ x < nI 2) (h2 : x ≤ nI 8) : nI (xCl x) = x := by
  unfold xCl
  rw [if_neg h1, if_pos h2]
  have h0 : ¬ x < 0 := fun z => h1 (Int32.lt_trans z (by decide))
  obtain ⟨j, hj, rfl⟩ := nI_of h0
  rw [nI_clamp hj]
theorem xCl_sz (x : Int32) : 2 ≤ xCl x ∧ xCl x ≤ 8 := by
  by_cases h1 : x < nI 2
  · rw [xCl_lo h1]; decide
  · by_cases h2 : x ≤ nI 8
    · have h0 : ¬ x < 0 := fun z => h1 (Int32.lt_trans z (by decide))
      obtain ⟨j, hj, rfl⟩ := nI_of h0
      have e : xCl (nI j) = j := by unfold xCl; rw [if_neg h1, if_pos h2, nI_clamp hj]
      rw [e]
      have a1 := (nI_leI hj (by decide)).mp h2
      have a2 : ¬ j < 2 := fun z => h1 ((nI_ltI hj (by decide)).mpr z)
      omega
    · rw [xCl_hi h1 h2]; decide
/-- the old cells stand, but for one -/
def xOld (m0 : Nat) (H H1 : Heap) : Prop := H.size ≤ H1.size ∧ ∀ q : Nat, q < H.size → q ≠ m0 → H1[q]? = H[q]?
theorem xOld.rf {m0 : Nat} {H : Heap} : xOld m0 H H := ⟨Nat.le_refl _, fun _ _ _ => rfl⟩
theorem xOld.put {G : va_G} {m0 a : Nat} {e : va_E} {H H1 H2 : Heap} (h : xOld m0 H H1) (h2 : xset G a e H1 H2) (ha : a = m0 ∨ H.size ≤ a) : xOld m0 H H2 :=
  ⟨by rw [h2.2.1]; exact h.1, fun q h3 h4 => (h2.2.2 q (by rcases ha with rfl | ha; exact h4; omega)).trans (h.2 q h3 h4)⟩
theorem xOld.grow {G : va_G} {m0 q0 : Nat} {e : va_E} {H H1 H2 : Heap} (h : xOld m0 H H1) (h2 : xgrow G q0 e H1 H2) : xOld m0 H H2 :=
  ⟨by have := h.1; rw [h2.2.2.1, ← h2.2.1]; omega, fun q h3 h4 => (h2.2.2.2 q (by have := h.1; rw [← h2.2.1]; omega)).trans (h.2 q h3 h4)⟩
theorem xOld.tr {m0 m1 : Nat} {H H1 H2 : Heap} (h : xOld m0 H H1) (h2 : xOld m1 H1 H2) (hm : m1 = m0 ∨ H.size ≤ m1) : xOld m0 H H2 :=
  ⟨Nat.le_trans h.1 h2.1, fun q h3 h4 => (h2.2 q (Nat.lt_of_lt_of_le h3 h.1) (by rcases hm with rfl | hm; exact h4; omega)).trans (h.2 q h3 h4)⟩
theorem xAp_seq {m0 B : Nat} (h : m0 < B) : xAp m0 (fun i => B + i) := ⟨fun i _ => by show B + i ≠ m0; omega, fun i j _ _ z => by have z : B + i = B + j := z; omega⟩
theorem xNw_seq {b0 m0 B : Nat} (h : b0 ≤ m0) (h2 : b0 ≤ B) : xNw b0 m0 (fun i => B + i) := ⟨h, fun i _ => by show b0 ≤ B + i; omega⟩
/-- eight times none -/
def xN8 (f : Nat → Int32) : Prop := ∀ j : Nat, j < 8 → f j = (-1)
theorem xn8_of : xN8 (upd (upd (upd (upd (upd (upd (upd (upd (fun _ => nI 0) 0 (-1)) 1 (-1)) 2 (-1)) 3 (-1)) 4 (-1)) 5 (-1)) 6 (-1)) 7 (-1)) := by
  intro j hj
  match j, hj with
  | 0, _ => rfl
  | 1, _ => rfl
  | 2, _ => rfl
  | 3, _ => rfl
  | 4, _ => rfl
  | 5, _ => rfl
  | 6, _ => rfl
  | 7, _ => rfl
theorem dX7_init_0 : decode cX7_init 0 = .ok (.aload_n 0, 1) := by decide +kernel
theorem dX7_init_1 : decode cX7_init 1 = .ok (.invokespecial 1, 3) := by decide +kernel
theorem dX7_init_4 : decode cX7_init 4 = .ok (.aload_n 0, 1) := by decide +kernel
theorem dX7_init_5 : decode cX7_init 5 = .ok (.sipush 192, 3) := by decide +kernel
theorem dX7_init_8 : decode cX7_init 8 = .ok (.newarray .double, 2) := by decide +kernel
theorem dX7_init_10 : decode cX7_init 10 = .ok (.putfield 7, 3) := by decide +kernel
theorem dX7_init_13 : decode cX7_init 13 = .ok (.aload_n 0, 1) := by decide +kernel
theorem dX7_init_14 : decode cX7_init 14 = .ok (.bipush 8, 2) := by decide +kernel
theorem dX7_init_16 : decode cX7_init 16 = .ok (.newarray .boolean, 2) := by decide +kernel
theorem dX7_init_18 : decode cX7_init 18 = .ok (.putfield 13, 3) := by decide +kernel
theorem dX7_init_21 : decode cX7_init 21 = .ok (.aload_n 0, 1) := by decide +kernel
theorem dX7_init_22 : decode cX7_init 22 = .ok (.sipush 256, 3) := by decide +kernel
theorem dX7_init_25 : decode cX7_init 25 = .ok (.newarray .double, 2) := by decide +kernel
theorem dX7_init_27 : decode cX7_init 27 = .ok (.putfield 17, 3) := by decide +kernel
theorem dX7_init_30 : decode cX7_init 30 = .ok (.aload_n 0, 1) := by decide +kernel
theorem dX7_init_31 : decode cX7_init 31 = .ok (.bipush 32, 2) := by decide +kernel
theorem dX7_init_33 : decode cX7_init 33 = .ok (.newarray .double, 2) := by decide +kernel
theorem dX7_init_35 : decode cX7_init 35 = .ok (.putfield 20, 3) := by decide +kernel
theorem dX7_init_38 : decode cX7_init 38 = .ok (.aload_n 0, 1) := by decide +kernel
theorem dX7_init_39 : decode cX7_init 39 = .ok (.bipush 64, 2) := by decide +kernel
theorem dX7_init_41 : decode cX7_init 41 = .ok (.newarray .boolean, 2) := by decide +kernel
theorem dX7_init_43 : decode cX7_init 43 = .ok (.putfield 23, 3) := by decide +kernel
theorem dX7_init_46 : decode cX7_init 46 = .ok (.aload_n 0, 1) := by decide +kernel
theorem dX7_init_47 : decode cX7_init 47 = .ok (.iconst 4, 1) := by decide +kernel
theorem dX7_init_48 : decode cX7_init 48 = .ok (.newarray .double, 2) := by decide +kernel
theorem dX7_init_50 : decode cX7_init 50 = .ok (.putfield 26, 3) := by decide +kernel
theorem dX7_init_53 : decode cX7_init 53 = .ok (.aload_n 0, 1) := by decide +kernel
theorem dX7_init_54 : decode cX7_init 54 = .ok (.iconst 4, 1) := by decide +kernel
theorem dX7_init_55 : decode cX7_init 55 = .ok (.newarray .double, 2) := by decide +kernel
theorem dX7_init_57 : decode cX7_init 57 = .ok (.putfield 29, 3) := by decide +kernel
theorem dX7_init_60 : decode cX7_init 60 = .ok (.aload_n 0, 1) := by decide +kernel
theorem dX7_init_61 : decode cX7_init 61 = .ok (.iconst 4, 1) := by decide +kernel
theorem dX7_init_62 : decode cX7_init 62 = .ok (.newarray .int, 2) := by decide +kernel
theorem dX7_init_64 : decode cX7_init 64 = .ok (.putfield 32, 3) := by decide +kernel
theorem dX7_init_67 : decode cX7_init 67 = .ok (.aload_n 0, 1) := by decide +kernel
theorem dX7_init_68 : decode cX7_init 68 = .ok (.sipush 128, 3) := by decide +kernel
theorem dX7_init_71 : decode cX7_init 71 = .ok (.newarray .double, 2) := by decide +kernel
theorem dX7_init_73 : decode cX7_init 73 = .ok (.putfield 36, 3) := by decide +kernel
theorem dX7_init_76 : decode cX7_init 76 = .ok (.aload_n 0, 1) := by decide +kernel
theorem dX7_init_77 : decode cX7_init 77 = .ok (.bipush 8, 2) := by decide +kernel
theorem dX7_init_79 : decode cX7_init 79 = .ok (.newarray .int, 2) := by decide +kernel
theorem dX7_init_81 : decode cX7_init 81 = .ok (.dup, 1) := by decide +kernel
theorem dX7_init_82 : decode cX7_init 82 = .ok (.iconst 0, 1) := by decide +kernel
theorem dX7_init_83 : decode cX7_init 83 = .ok (.iconst (-1), 1) := by decide +kernel
theorem dX7_init_84 : decode cX7_init 84 = .ok (.iastore, 1) := by decide +kernel
theorem dX7_init_85 : decode cX7_init 85 = .ok (.dup, 1) := by decide +kernel
theorem dX7_init_86 : decode cX7_init 86 = .ok (.iconst 1, 1) := by decide +kernel
theorem dX7_init_87 : decode cX7_init 87 = .ok (.iconst (-1), 1) := by decide +kernel
theorem dX7_init_88 : decode cX7_init 88 = .ok (.iastore, 1) := by decide +kernel
theorem dX7_init_89 : decode cX7_init 89 = .ok (.dup, 1) := by decide +kernel
theorem dX7_init_90 : decode cX7_init 90 = .ok (.iconst 2, 1) := by decide +kernel
theorem dX7_init_91 : decode cX7_init 91 = .ok (.iconst (-1), 1) := by decide +kernel
theorem dX7_init_92 : decode cX7_init 92 = .ok (.iastore, 1) := by decide +kernel
theorem dX7_init_93 : decode cX7_init 93 = .ok (.dup, 1) := by decide +kernel
theorem dX7_init_94 : decode cX7_init 94 = .ok (.iconst 3, 1) := by decide +kernel
theorem dX7_init_95 : decode cX7_init 95 = .ok (.iconst (-1), 1) := by decide +kernel
theorem dX7_init_96 : decode cX7_init 96 = .ok (.iastore, 1) := by decide +kernel
theorem dX7_init_97 : decode cX7_init 97 = .ok (.dup, 1) := by decide +kernel
theorem dX7_init_98 : decode cX7_init 98 = .ok (.iconst 4, 1) := by decide +kernel
theorem dX7_init_99 : decode cX7_init 99 = .ok (.iconst (-1), 1) := by decide +kernel
theorem dX7_init_100 : decode cX7_init 100 = .ok (.iastore, 1) := by decide +kernel
theorem dX7_init_101 : decode cX7_init 101 = .ok (.dup, 1) := by decide +kernel
theorem dX7_init_102 : decode cX7_init 102 = .ok (.iconst 5, 1) := by decide +kernel
theorem dX7_init_103 : decode cX7_init 103 = .ok (.iconst (-1), 1) := by decide +kernel
theorem dX7_init_104 : decode cX7_init 104 = .ok (.iastore, 1) := by decide +kernel
theorem dX7_init_105 : decode cX7_init 105 = .ok (.dup, 1) := by decide +kernel
theorem dX7_init_106 : decode cX7_init 106 = .ok (.bipush 6, 2) := by decide +kernel
theorem dX7_init_108 : decode cX7_init 108 = .ok (.iconst (-1), 1) := by decide +kernel
theorem dX7_init_109 : decode cX7_init 109 = .ok (.iastore, 1) := by decide +kernel
theorem dX7_init_110 : decode cX7_init 110 = .ok (.dup, 1) := by decide +kernel
theorem dX7_init_111 : decode cX7_init 111 = .ok (.bipush 7, 2) := by decide +kernel
theorem dX7_init_113 : decode cX7_init 113 = .ok (.iconst (-1), 1) := by decide +kernel
theorem dX7_init_114 : decode cX7_init 114 = .ok (.iastore, 1) := by decide +kernel
theorem dX7_init_115 : decode cX7_init 115 = .ok (.putfield 39, 3) := by decide +kernel
theorem dX7_init_118 : decode cX7_init 118 = .ok (.aload_n 0, 1) := by decide +kernel
theorem dX7_init_119 : decode cX7_init 119 = .ok (.bipush 8, 2) := by decide +kernel
theorem dX7_init_121 : decode cX7_init 121 = .ok (.newarray .int, 2) := by decide +kernel
theorem dX7_init_123 : decode cX7_init 123 = .ok (.dup, 1) := by decide +kernel
theorem dX7_init_124 : decode cX7_init 124 = .ok (.iconst 0, 1) := by decide +kernel
theorem dX7_init_125 : decode cX7_init 125 = .ok (.iconst (-1), 1) := by decide +kernel
theorem dX7_init_126 : decode cX7_init 126 = .ok (.iastore, 1) := by decide +kernel
theorem dX7_init_127 : decode cX7_init 127 = .ok (.dup, 1) := by decide +kernel
theorem dX7_init_128 : decode cX7_init 128 = .ok (.iconst 1, 1) := by decide +kernel
theorem dX7_init_129 : decode cX7_init 129 = .ok (.iconst (-1), 1) := by decide +kernel
theorem dX7_init_130 : decode cX7_init 130 = .ok (.iastore, 1) := by decide +kernel
theorem dX7_init_131 : decode cX7_init 131 = .ok (.dup, 1) := by decide +kernel
theorem dX7_init_132 : decode cX7_init 132 = .ok (.iconst 2, 1) := by decide +kernel
theorem dX7_init_133 : decode cX7_init 133 = .ok (.iconst (-1), 1) := by decide +kernel
theorem dX7_init_134 : decode cX7_init 134 = .ok (.iastore, 1) := by decide +kernel
theorem dX7_init_135 : decode cX7_init 135 = .ok (.dup, 1) := by decide +kernel
theorem dX7_init_136 : decode cX7_init 136 = .ok (.iconst 3, 1) := by decide +kernel
theorem dX7_init_137 : decode cX7_init 137 = .ok (.iconst (-1), 1) := by decide +kernel
theorem dX7_init_138 : decode cX7_init 138 = .ok (.iastore, 1) := by decide +kernel
theorem dX7_init_139 : decode cX7_init 139 = .ok (.dup, 1) := by decide +kernel
theorem dX7_init_140 : decode cX7_init 140 = .ok (.iconst 4, 1) := by decide +kernel
theorem dX7_init_141 : decode cX7_init 141 = .ok (.iconst (-1), 1) := by decide +kernel
theorem dX7_init_142 : decode cX7_init 142 = .ok (.iastore, 1) := by decide +kernel
theorem dX7_init_143 : decode cX7_init 143 = .ok (.dup, 1) := by decide +kernel
theorem dX7_init_144 : decode cX7_init 144 = .ok (.iconst 5, 1) := by decide +kernel
theorem dX7_init_145 : decode cX7_init 145 = .ok (.iconst (-1), 1) := by decide +kernel
theorem dX7_init_146 : decode cX7_init 146 = .ok (.iastore, 1) := by decide +kernel
theorem dX7_init_147 : decode cX7_init 147 = .ok (.dup, 1) := by decide +kernel
theorem dX7_init_148 : decode cX7_init 148 = .ok (.bipush 6, 2) := by decide +kernel
theorem dX7_init_150 : decode cX7_init 150 = .ok (.iconst (-1), 1) := by decide +kernel
theorem dX7_init_151 : decode cX7_init 151 = .ok (.iastore, 1) := by decide +kernel
theorem dX7_init_152 : decode cX7_init 152 = .ok (.dup, 1) := by decide +kernel
theorem dX7_init_153 : decode cX7_init 153 = .ok (.bipush 7, 2) := by decide +kernel
theorem dX7_init_155 : decode cX7_init 155 = .ok (.iconst (-1), 1) := by decide +kernel
theorem dX7_init_156 : decode cX7_init 156 = .ok (.iastore, 1) := by decide +kernel
theorem dX7_init_157 : decode cX7_init 157 = .ok (.putfield 42, 3) := by decide +kernel
theorem dX7_init_160 : decode cX7_init 160 = .ok (.aload_n 0, 1) := by decide +kernel
theorem dX7_init_161 : decode cX7_init 161 = .ok (.iload_n 1, 1) := by decide +kernel
theorem dX7_init_162 : decode cX7_init 162 = .ok (.iconst 2, 1) := by decide +kernel
theorem dX7_init_163 : decode cX7_init 163 = .ok (.if_icmp .ge 7, 3) := by decide +kernel
theorem dX7_init_166 : decode cX7_init 166 = .ok (.iconst 2, 1) := by decide +kernel
theorem dX7_init_167 : decode cX7_init 167 = .ok (.goto 15, 3) := by decide +kernel
theorem dX7_init_170 : decode cX7_init 170 = .ok (.iload_n 1, 1) := by decide +kernel
theorem dX7_init_171 : decode cX7_init 171 = .ok (.bipush 8, 2) := by decide +kernel
theorem dX7_init_173 : decode cX7_init 173 = .ok (.if_icmp .le 8, 3) := by decide +kernel
theorem dX7_init_176 : decode cX7_init 176 = .ok (.bipush 8, 2) := by decide +kernel
theorem dX7_init_178 : decode cX7_init 178 = .ok (.goto 4, 3) := by decide +kernel
theorem dX7_init_181 : decode cX7_init 181 = .ok (.iload_n 1, 1) := by decide +kernel
theorem dX7_init_182 : decode cX7_init 182 = .ok (.putfield 45, 3) := by decide +kernel
theorem dX7_init_185 : decode cX7_init 185 = .ok (.aload_n 0, 1) := by decide +kernel
theorem dX7_init_186 : decode cX7_init 186 = .ok (.iload_n 2, 1) := by decide +kernel
theorem dX7_init_187 : decode cX7_init 187 = .ok (.iconst 2, 1) := by decide +kernel
theorem dX7_init_188 : decode cX7_init 188 = .ok (.if_icmp .ge 7, 3) := by decide +kernel
theorem dX7_init_191 : decode cX7_init 191 = .ok (.iconst 2, 1) := by decide +kernel
theorem dX7_init_192 : decode cX7_init 192 = .ok (.goto 15, 3) := by decide +kernel
theorem dX7_init_195 : decode cX7_init 195 = .ok (.iload_n 2, 1) := by decide +kernel
theorem dX7_init_196 : decode cX7_init 196 = .ok (.bipush 8, 2) := by decide +kernel
theorem dX7_init_198 : decode cX7_init 198 = .ok (.if_icmp .le 8, 3) := by decide +kernel
theorem dX7_init_201 : decode cX7_init 201 = .ok (.bipush 8, 2) := by decide +kernel
theorem dX7_init_203 : decode cX7_init 203 = .ok (.goto 4, 3) := by decide +kernel
theorem dX7_init_206 : decode cX7_init 206 = .ok (.iload_n 2, 1) := by decide +kernel
theorem dX7_init_207 : decode cX7_init 207 = .ok (.putfield 49, 3) := by decide +kernel
theorem dX7_init_210 : decode cX7_init 210 = .ok (.return_, 1) := by decide +kernel
abbrev rm_X7_init : Room := { frames := 2, cells := 11, slots := 760, locals := 40 }
theorem hw_X7_init_1 : (Cond.methodLink RX7 1 objectInit) ∈ wsX7_init := List.mem_of_getElem? (i := 1) rfl
theorem hw_X7_init_2 : (Cond.instanceMethod objectInit) ∈ wsX7_init := List.mem_of_getElem? (i := 2) rfl
theorem hw_X7_init_3 : (Cond.code objectInit ⟨#[0xb1]⟩ 1 none) ∈ wsX7_init := List.mem_of_getElem? (i := 3) rfl
theorem hw_X7_init_4 : (Cond.arrayClass .double) ∈ wsX7_init := List.mem_of_getElem? (i := 4) rfl
theorem hw_X7_init_5 : (Cond.fieldLink RX7 7 "PlankUnrollModel" "places" "[D") ∈ wsX7_init := List.mem_of_getElem? (i := 5) rfl
theorem hw_X7_init_6 : (Cond.arrayClass .boolean) ∈ wsX7_init := List.mem_of_getElem? (i := 6) rfl
theorem hw_X7_init_7 : (Cond.fieldLink RX7 13 "PlankUnrollModel" "unrolled" "[Z") ∈ wsX7_init := List.mem_of_getElem? (i := 7) rfl
theorem hw_X7_init_8 : (Cond.fieldLink RX7 17 "PlankUnrollModel" "corners" "[D") ∈ wsX7_init := List.mem_of_getElem? (i := 8) rfl
theorem hw_X7_init_9 : (Cond.fieldLink RX7 20 "PlankUnrollModel" "draft" "[D") ∈ wsX7_init := List.mem_of_getElem? (i := 9) rfl
theorem hw_X7_init_10 : (Cond.fieldLink RX7 23 "PlankUnrollModel" "butts" "[Z") ∈ wsX7_init := List.mem_of_getElem? (i := 10) rfl
theorem hw_X7_init_11 : (Cond.fieldLink RX7 26 "PlankUnrollModel" "wides" "[D") ∈ wsX7_init := List.mem_of_getElem? (i := 11) rfl
theorem hw_X7_init_12 : (Cond.fieldLink RX7 29 "PlankUnrollModel" "highs" "[D") ∈ wsX7_init := List.mem_of_getElem? (i := 12) rfl
theorem hw_X7_init_13 : (Cond.arrayClass .int) ∈ wsX7_init := List.mem_of_getElem? (i := 13) rfl
theorem hw_X7_init_14 : (Cond.fieldLink RX7 32 "PlankUnrollModel" "faultCount" "[I") ∈ wsX7_init := List.mem_of_getElem? (i := 14) rfl
theorem hw_X7_init_15 : (Cond.fieldLink RX7 36 "PlankUnrollModel" "faults" "[D") ∈ wsX7_init := List.mem_of_getElem? (i := 15) rfl
theorem hw_X7_init_16 : (Cond.fieldLink RX7 39 "PlankUnrollModel" "liesOn" "[I") ∈ wsX7_init := List.mem_of_getElem? (i := 16) rfl
theorem hw_X7_init_17 : (Cond.fieldLink RX7 42 "PlankUnrollModel" "liesAt" "[I") ∈ wsX7_init := List.mem_of_getElem? (i := 17) rfl
theorem hw_X7_init_18 : (Cond.fieldLink RX7 45 "PlankUnrollModel" "frames" "I") ∈ wsX7_init := List.mem_of_getElem? (i := 18) rfl
theorem hw_X7_init_19 : (Cond.fieldLink RX7 49 "PlankUnrollModel" "rows" "I") ∈ wsX7_init := List.mem_of_getElem? (i := 19) rfl
theorem in_X7_init_X7 : ∀ w ∈ wsX70, w ∈ wsX7_init := by decide +kernel
set_option maxHeartbeats 4000000 in
set_option maxRecDepth 100000 in
/-- a new reference -/
theorem c_X7_init {l : Launch} {G : va_G} {ty : Nat → ClassId} {b0 : Nat} {H : Heap} {m0 : Nat} {f r : Int32} (hm0 : b0 ≤ m0) (hY : xc G m0 (.inr (8, [.int (nI 0), .int (nI 0), .int (nI 0), .null, .null, .null, .null, .null, .int (nI 0), .null, .null, .null, .null, .null, .null, .double FP.dconst0, .double FP.dconst0, .double FP.dconst0])) H) : xMet l yX7_init wsX7_init rm_X7_init G ty b0 [.ref m0, .int (f), .int (r)] H (fun v H1 => v = none ∧ ∃ (A : Nat → Nat) (lo la : Nat → Int32), xRef G ty m0 A (nI 0) (xCl f) (xCl r) (fun _ => FP.dconst0) (fun _ => nI 0) (fun _ => FP.dconst0) (fun _ => FP.dconst0) (fun _ => nI 0) 0 (fun _ => FP.dconst0) (fun _ => FP.dconst0) (fun _ => nI 0) (fun _ => FP.dconst0) lo la FP.dconst0 FP.dconst0 FP.dconst0 H1 ∧ xAp m0 A ∧ xNw b0 m0 A ∧ (∀ i : Nat, H.size ≤ A i) ∧ xOld m0 H H1 ∧ xN8 lo ∧ xN8 la) (fun _ _ => False) := by
  refine xbody (cc := cX7_init) (maxL := 3) (ret := none) (C := RX7) (lv := [(0, .ref m0), (1, .int (f)), (2, .int (r))]) (by decide) rfl rfl (Nat.le_of_ble_eq_true rfl) rfl ?_
  intro p e s m below meth c d0 hx hb hr hts hown hlocks hml hxt hnm0 hK hb0 hH0 hS hd0 ls hl
  have hbH : b0 ≤ H.size := by rw [← hH0]; exact hb0
  have hlm : m0 < H.size := hY.lt
  refine lv_aload_n hx hb dX7_init_0 rfl (lv_at hl 0 rfl) ?_
  refine xobj (s := s.setDrawn d0) hx hb hown hml hl.1 (hts d0 _ hw_X7_init_1) (hts d0 _ hw_X7_init_2) (hts d0 _ hw_X7_init_3) dX7_init_1 (Nat.le_of_ble_eq_true rfl) (Nat.le_of_ble_eq_true rfl) ?_
  refine lv_aload_n hx hb dX7_init_4 rfl (lv_at hl 0 rfl) ?_
  refine lv_sipush (v := nI 192) hx hb dX7_init_5 (by decide) ?_
  refine xnewaD (G := G) (s := s.setDrawn d0) hx hb (hts d0 _ hw_X7_init_4) hK.1 0 rfl hS (by decide) (Nat.le_of_ble_eq_true rfl) (Nat.le_of_ble_eq_true rfl) dX7_init_8 (fun q_1 H_1 hg_1 hS => ?_)
  have e_1 : q_1 = H.size + 0 := hg_1.2.1.symm.trans rfl
  subst e_1
  have hz_1 : H_1.size = H.size + 1 := hg_1.2.2.1
  have hfr_1 : xOld m0 H H_1 := xOld.grow xOld.rf hg_1
  refine xputF (G := G) (ci := 8) (v := .ref (H.size + 0)) (ty := (.array .double)) (C := RX7) (T := TX7) (N := 18) hx hb (hts d0) in_X7_init_X7 tyX7 tyX7_ok nmX7 hown hK.1 (hg_1.keep hY) hS hm0 rfl 3 (by decide) (hts d0 _ hw_X7_init_5) (fun _ h9 => h9) rfl hnm0 rfl (by decide +kernel) rfl rfl (Nat.le_of_ble_eq_true rfl) dX7_init_10 (fun H_2 locs_2 hs_2 hS => ?_)
  have hc_2 : xc G m0 (.inr (8, [.int (nI 0), .int (nI 0), .int (nI 0), .ref (H.size + 0), .null, .null, .null, .null, .int (nI 0), .null, .null, .null, .null, .null, .null, .double FP.dconst0, .double FP.dconst0, .double FP.dconst0])) H_2 := hs_2.1
  have hz_2 : H_2.size = H.size + 1 := hs_2.2.1.trans hz_1
  have hfr_2 : xOld m0 H H_2 := xOld.put hfr_1 hs_2 (Or.inl rfl)
  refine lv_aload_n hx hb dX7_init_13 rfl (lv_at hl 0 rfl) ?_
  refine lv_bipush (v := nI 8) hx hb dX7_init_14 (by decide) ?_
  refine xnewaZ (G := G) (s := s.setDrawn d0) hx hb (hts d0 _ hw_X7_init_6) hK.1 2 rfl hS (by decide) (Nat.le_of_ble_eq_true rfl) (Nat.le_of_ble_eq_true rfl) dX7_init_16 (fun q_3 H_3 hg_3 hS => ?_)
  have e_3 : q_3 = H.size + 1 := hg_3.2.1.symm.trans hz_2
  subst e_3
  have hz_3 : H_3.size = H.size + 2 := hg_3.2.2.1
  have hfr_3 : xOld m0 H H_3 := xOld.grow hfr_2 hg_3
  refine xputF (G := G) (ci := 8) (v := .ref (H.size + 1)) (ty := (.array .boolean)) (C := RX7) (T := TX7) (N := 18) hx hb (hts d0) in_X7_init_X7 tyX7 tyX7_ok nmX7 hown hK.1 (hg_3.keep hc_2) hS hm0 rfl 4 (by decide) (hts d0 _ hw_X7_init_7) (fun _ h9 => h9) rfl hnm0 rfl (by decide +kernel) rfl rfl (Nat.le_of_ble_eq_true rfl) dX7_init_18 (fun H_4 locs_4 hs_4 hS => ?_)
  have hc_4 : xc G m0 (.inr (8, [.int (nI 0), .int (nI 0), .int (nI 0), .ref (H.size + 0), .ref (H.size + 1), .null, .null, .null, .int (nI 0), .null, .null, .null, .null, .null, .null, .double FP.dconst0, .double FP.dconst0, .double FP.dconst0])) H_4 := hs_4.1
  have hz_4 : H_4.size = H.size + 2 := hs_4.2.1.trans hz_3
  have hfr_4 : xOld m0 H H_4 := xOld.put hfr_3 hs_4 (Or.inl rfl)
  refine lv_aload_n hx hb dX7_init_21 rfl (lv_at hl 0 rfl) ?_
  refine lv_sipush (v := nI 256) hx hb dX7_init_22 (by decide) ?_
  refine xnewaD (G := G) (s := s.setDrawn d0) hx hb (hts d0 _ hw_X7_init_4) hK.1 0 rfl hS (by decide) (Nat.le_of_ble_eq_true rfl) (Nat.le_of_ble_eq_true rfl) dX7_init_25 (fun q_5 H_5 hg_5 hS => ?_)
  have e_5 : q_5 = H.size + 2 := hg_5.2.1.symm.trans hz_4
  subst e_5
  have hz_5 : H_5.size = H.size + 3 := hg_5.2.2.1
  have hfr_5 : xOld m0 H H_5 := xOld.grow hfr_4 hg_5
  refine xputF (G := G) (ci := 8) (v := .ref (H.size + 2)) (ty := (.array .double)) (C := RX7) (T := TX7) (N := 18) hx hb (hts d0) in_X7_init_X7 tyX7 tyX7_ok nmX7 hown hK.1 (hg_5.keep hc_4) hS hm0 rfl 5 (by decide) (hts d0 _ hw_X7_init_8) (fun _ h9 => h9) rfl hnm0 rfl (by decide +kernel) rfl rfl (Nat.le_of_ble_eq_true rfl) dX7_init_27 (fun H_6 locs_6 hs_6 hS => ?_)
  have hc_6 : xc G m0 (.inr (8, [.int (nI 0), .int (nI 0), .int (nI 0), .ref (H.size + 0), .ref (H.size + 1), .ref (H.size + 2), .null, .null, .int (nI 0), .null, .null, .null, .null, .null, .null, .double FP.dconst0, .double FP.dconst0, .double FP.dconst0])) H_6 := hs_6.1
  have hz_6 : H_6.size = H.size + 3 := hs_6.2.1.trans hz_5
  have hfr_6 : xOld m0 H H_6 := xOld.put hfr_5 hs_6 (Or.inl rfl)
  refine lv_aload_n hx hb dX7_init_30 rfl (lv_at hl 0 rfl) ?_
  refine lv_bipush (v := nI 32) hx hb dX7_init_31 (by decide) ?_
  refine xnewaD (G := G) (s := s.setDrawn d0) hx hb (hts d0 _ hw_X7_init_4) hK.1 0 rfl hS (by decide) (Nat.le_of_ble_eq_true rfl) (Nat.le_of_ble_eq_true rfl) dX7_init_33 (fun q_7 H_7 hg_7 hS => ?_)
  have e_7 : q_7 = H.size + 3 := hg_7.2.1.symm.trans hz_6
  subst e_7
  have hz_7 : H_7.size = H.size + 4 := hg_7.2.2.1
  have hfr_7 : xOld m0 H H_7 := xOld.grow hfr_6 hg_7
  refine xputF (G := G) (ci := 8) (v := .ref (H.size + 3)) (ty := (.array .double)) (C := RX7) (T := TX7) (N := 18) hx hb (hts d0) in_X7_init_X7 tyX7 tyX7_ok nmX7 hown hK.1 (hg_7.keep hc_6) hS hm0 rfl 6 (by decide) (hts d0 _ hw_X7_init_9) (fun _ h9 => h9) rfl hnm0 rfl (by decide +kernel) rfl rfl (Nat.le_of_ble_eq_true rfl) dX7_init_35 (fun H_8 locs_8 hs_8 hS => ?_)
  have hc_8 : xc G m0 (.inr (8, [.int (nI 0), .int (nI 0), .int (nI 0), .ref (H.size + 0), .ref (H.size + 1), .ref (H.size + 2), .ref (H.size + 3), .null, .int (nI 0), .null, .null, .null, .null, .null, .null, .double FP.dconst0, .double FP.dconst0, .double FP.dconst0])) H_8 := hs_8.1
  have hz_8 : H_8.size = H.size + 4 := hs_8.2.1.trans hz_7
  have hfr_8 : xOld m0 H H_8 := xOld.put hfr_7 hs_8 (Or.inl rfl)
  refine lv_aload_n hx hb dX7_init_38 rfl (lv_at hl 0 rfl) ?_
  refine lv_bipush (v := nI 64) hx hb dX7_init_39 (by decide) ?_
  refine xnewaZ (G := G) (s := s.setDrawn d0) hx hb (hts d0 _ hw_X7_init_6) hK.1 2 rfl hS (by decide) (Nat.le_of_ble_eq_true rfl) (Nat.le_of_ble_eq_true rfl) dX7_init_41 (fun q_9 H_9 hg_9 hS => ?_)
  have e_9 : q_9 = H.size + 4 := hg_9.2.1.symm.trans hz_8
  subst e_9
  have hz_9 : H_9.size = H.size + 5 := hg_9.2.2.1
  have hfr_9 : xOld m0 H H_9 := xOld.grow hfr_8 hg_9
  refine xputF (G := G) (ci := 8) (v := .ref (H.size + 4)) (ty := (.array .boolean)) (C := RX7) (T := TX7) (N := 18) hx hb (hts d0) in_X7_init_X7 tyX7 tyX7_ok nmX7 hown hK.1 (hg_9.keep hc_8) hS hm0 rfl 7 (by decide) (hts d0 _ hw_X7_init_10) (fun _ h9 => h9) rfl hnm0 rfl (by decide +kernel) rfl rfl (Nat.le_of_ble_eq_true rfl) dX7_init_43 (fun H_10 locs_10 hs_10 hS => ?_)
  have hc_10 : xc G m0 (.inr (8, [.int (nI 0), .int (nI 0), .int (nI 0), .ref (H.size + 0), .ref (H.size + 1), .ref (H.size + 2), .ref (H.size + 3), .ref (H.size + 4), .int (nI 0), .null, .null, .null, .null, .null, .null, .double FP.dconst0, .double FP.dconst0, .double FP.dconst0])) H_10 := hs_10.1
  have hz_10 : H_10.size = H.size + 5 := hs_10.2.1.trans hz_9
  have hfr_10 : xOld m0 H H_10 := xOld.put hfr_9 hs_10 (Or.inl rfl)
  refine lv_aload_n hx hb dX7_init_46 rfl (lv_at hl 0 rfl) ?_
  refine lv_iconst (v := nI 4) hx hb dX7_init_47 (by decide) ?_
  refine xnewaD (G := G) (s := s.setDrawn d0) hx hb (hts d0 _ hw_X7_init_4) hK.1 0 rfl hS (by decide) (Nat.le_of_ble_eq_true rfl) (Nat.le_of_ble_eq_true rfl) dX7_init_48 (fun q_11 H_11 hg_11 hS => ?_)
  have e_11 : q_11 = H.size + 5 := hg_11.2.1.symm.trans hz_10
  subst e_11
  have hz_11 : H_11.size = H.size + 6 := hg_11.2.2.1
  have hfr_11 : xOld m0 H H_11 := xOld.grow hfr_10 hg_11
  refine xputF (G := G) (ci := 8) (v := .ref (H.size + 5)) (ty := (.array .double)) (C := RX7) (T := TX7) (N := 18) hx hb (hts d0) in_X7_init_X7 tyX7 tyX7_ok nmX7 hown hK.1 (hg_11.keep hc_10) hS hm0 rfl 9 (by decide) (hts d0 _ hw_X7_init_11) (fun _ h9 => h9) rfl hnm0 rfl (by decide +kernel) rfl rfl (Nat.le_of_ble_eq_true rfl) dX7_init_50 (fun H_12 locs_12 hs_12 hS => ?_)
  have hc_12 : xc G m0 (.inr (8, [.int (nI 0), .int (nI 0), .int (nI 0), .ref (H.size + 0), .ref (H.size + 1), .ref (H.size + 2), .ref (H.size + 3), .ref (H.size + 4), .int (nI 0), .ref (H.size + 5), .null, .null, .null, .null, .null, .double FP.dconst0, .double FP.dconst0, .double FP.dconst0])) H_12 := hs_12.1
  have hz_12 : H_12.size = H.size + 6 := hs_12.2.1.trans hz_11
  have hfr_12 : xOld m0 H H_12 := xOld.put hfr_11 hs_12 (Or.inl rfl)
  refine lv_aload_n hx hb dX7_init_53 rfl (lv_at hl 0 rfl) ?_
  refine lv_iconst (v := nI 4) hx hb dX7_init_54 (by decide) ?_
  refine xnewaD (G := G) (s := s.setDrawn d0) hx hb (hts d0 _ hw_X7_init_4) hK.1 0 rfl hS (by decide) (Nat.le_of_ble_eq_true rfl) (Nat.le_of_ble_eq_true rfl) dX7_init_55 (fun q_13 H_13 hg_13 hS => ?_)
  have e_13 : q_13 = H.size + 6 := hg_13.2.1.symm.trans hz_12
  subst e_13
  have hz_13 : H_13.size = H.size + 7 := hg_13.2.2.1
  have hfr_13 : xOld m0 H H_13 := xOld.grow hfr_12 hg_13
  refine xputF (G := G) (ci := 8) (v := .ref (H.size + 6)) (ty := (.array .double)) (C := RX7) (T := TX7) (N := 18) hx hb (hts d0) in_X7_init_X7 tyX7 tyX7_ok nmX7 hown hK.1 (hg_13.keep hc_12) hS hm0 rfl 10 (by decide) (hts d0 _ hw_X7_init_12) (fun _ h9 => h9) rfl hnm0 rfl (by decide +kernel) rfl rfl (Nat.le_of_ble_eq_true rfl) dX7_init_57 (fun H_14 locs_14 hs_14 hS => ?_)
  have hc_14 : xc G m0 (.inr (8, [.int (nI 0), .int (nI 0), .int (nI 0), .ref (H.size + 0), .ref (H.size + 1), .ref (H.size + 2), .ref (H.size + 3), .ref (H.size + 4), .int (nI 0), .ref (H.size + 5), .ref (H.size + 6), .null, .null, .null, .null, .double FP.dconst0, .double FP.dconst0, .double FP.dconst0])) H_14 := hs_14.1
  have hz_14 : H_14.size = H.size + 7 := hs_14.2.1.trans hz_13
  have hfr_14 : xOld m0 H H_14 := xOld.put hfr_13 hs_14 (Or.inl rfl)
  refine lv_aload_n hx hb dX7_init_60 rfl (lv_at hl 0 rfl) ?_
  refine lv_iconst (v := nI 4) hx hb dX7_init_61 (by decide) ?_
  refine xnewaI (G := G) (s := s.setDrawn d0) hx hb (hts d0 _ hw_X7_init_13) hK.1 1 rfl hS (by decide) (Nat.le_of_ble_eq_true rfl) (Nat.le_of_ble_eq_true rfl) dX7_init_62 (fun q_15 H_15 hg_15 hS => ?_)
  have e_15 : q_15 = H.size + 7 := hg_15.2.1.symm.trans hz_14
  subst e_15
  have hz_15 : H_15.size = H.size + 8 := hg_15.2.2.1
  have hfr_15 : xOld m0 H H_15 := xOld.grow hfr_14 hg_15
  refine xputF (G := G) (ci := 8) (v := .ref (H.size + 7)) (ty := (.array .int)) (C := RX7) (T := TX7) (N := 18) hx hb (hts d0) in_X7_init_X7 tyX7 tyX7_ok nmX7 hown hK.1 (hg_15.keep hc_14) hS hm0 rfl 11 (by decide) (hts d0 _ hw_X7_init_14) (fun _ h9 => h9) rfl hnm0 rfl (by decide +kernel) rfl rfl (Nat.le_of_ble_eq_true rfl) dX7_init_64 (fun H_16 locs_16 hs_16 hS => ?_)
  have hc_16 : xc G m0 (.inr (8, [.int (nI 0), .int (nI 0), .int (nI 0), .ref (H.size + 0), .ref (H.size + 1), .ref (H.size + 2), .ref (H.size + 3), .ref (H.size + 4), .int (nI 0), .ref (H.size + 5), .ref (H.size + 6), .ref (H.size + 7), .null, .null, .null, .double FP.dconst0, .double FP.dconst0, .double FP.dconst0])) H_16 := hs_16.1
  have hz_16 : H_16.size = H.size + 8 := hs_16.2.1.trans hz_15
  have hfr_16 : xOld m0 H H_16 := xOld.put hfr_15 hs_16 (Or.inl rfl)
  refine lv_aload_n hx hb dX7_init_67 rfl (lv_at hl 0 rfl) ?_
  refine lv_sipush (v := nI 128) hx hb dX7_init_68 (by decide) ?_
  refine xnewaD (G := G) (s := s.setDrawn d0) hx hb (hts d0 _ hw_X7_init_4) hK.1 0 rfl hS (by decide) (Nat.le_of_ble_eq_true rfl) (Nat.le_of_ble_eq_true rfl) dX7_init_71 (fun q_17 H_17 hg_17 hS => ?_)
  have e_17 : q_17 = H.size + 8 := hg_17.2.1.symm.trans hz_16
  subst e_17
  have hz_17 : H_17.size = H.size + 9 := hg_17.2.2.1
  have hfr_17 : xOld m0 H H_17 := xOld.grow hfr_16 hg_17
  refine xputF (G := G) (ci := 8) (v := .ref (H.size + 8)) (ty := (.array .double)) (C := RX7) (T := TX7) (N := 18) hx hb (hts d0) in_X7_init_X7 tyX7 tyX7_ok nmX7 hown hK.1 (hg_17.keep hc_16) hS hm0 rfl 12 (by decide) (hts d0 _ hw_X7_init_15) (fun _ h9 => h9) rfl hnm0 rfl (by decide +kernel) rfl rfl (Nat.le_of_ble_eq_true rfl) dX7_init_73 (fun H_18 locs_18 hs_18 hS => ?_)
  have hc_18 : xc G m0 (.inr (8, [.int (nI 0), .int (nI 0), .int (nI 0), .ref (H.size + 0), .ref (H.size + 1), .ref (H.size + 2), .ref (H.size + 3), .ref (H.size + 4), .int (nI 0), .ref (H.size + 5), .ref (H.size + 6), .ref (H.size + 7), .ref (H.size + 8), .null, .null, .double FP.dconst0, .double FP.dconst0, .double FP.dconst0])) H_18 := hs_18.1
  have hz_18 : H_18.size = H.size + 9 := hs_18.2.1.trans hz_17
  have hfr_18 : xOld m0 H H_18 := xOld.put hfr_17 hs_18 (Or.inl rfl)
  refine lv_aload_n hx hb dX7_init_76 rfl (lv_at hl 0 rfl) ?_
  refine lv_bipush (v := nI 8) hx hb dX7_init_77 (by decide) ?_
  refine xnewaI (G := G) (s := s.setDrawn d0) hx hb (hts d0 _ hw_X7_init_13) hK.1 1 rfl hS (by decide) (Nat.le_of_ble_eq_true rfl) (Nat.le_of_ble_eq_true rfl) dX7_init_79 (fun q_19 H_19 hg_19 hS => ?_)
  have e_19 : q_19 = H.size + 9 := hg_19.2.1.symm.trans hz_18
  subst e_19
  have hz_19 : H_19.size = H.size + 10 := hg_19.2.2.1
  have hfr_19 : xOld m0 H H_19 := xOld.grow hfr_18 hg_19
  refine lv_dup hx hb dX7_init_81 rfl ?_
  refine lv_iconst (v := nI 0) hx hb dX7_init_82 (by decide) ?_
  refine lv_iconst (v := (-1)) hx hb dX7_init_83 (by decide) ?_
  refine xiastN (s := s.setDrawn d0) (j := 0) (x := (-1)) hx hb hK.1 1 hg_19.1 hS (Nat.le_trans hbH (Nat.le_add_right _ _)) rfl (xix_of (by omega) (by omega)) dX7_init_84 (fun H_20 locs_20 hs_20 hS => ?_)
  have hc_20 : xc G (H.size + 9) (.inl (ty 1, 8, .inl ((upd (fun _ => nI 0) 0 (-1))))) H_20 := hs_20.1
  have hz_20 : H_20.size = H.size + 10 := hs_20.2.1.trans hz_19
  have hfr_20 : xOld m0 H H_20 := xOld.put hfr_19 hs_20 (Or.inr (Nat.le_add_right _ _))
  refine lv_dup hx hb dX7_init_85 rfl ?_
  refine lv_iconst (v := nI 1) hx hb dX7_init_86 (by decide) ?_
  refine lv_iconst (v := (-1)) hx hb dX7_init_87 (by decide) ?_
  refine xiastN (s := s.setDrawn d0) (j := 1) (x := (-1)) hx hb hK.1 1 hc_20 hS (Nat.le_trans hbH (Nat.le_add_right _ _)) rfl (xix_of (by omega) (by omega)) dX7_init_88 (fun H_21 locs_21 hs_21 hS => ?_)
  have hc_21 : xc G (H.size + 9) (.inl (ty 1, 8, .inl ((upd (upd (fun _ => nI 0) 0 (-1)) 1 (-1))))) H_21 := hs_21.1
  have hz_21 : H_21.size = H.size + 10 := hs_21.2.1.trans hz_20
  have hfr_21 : xOld m0 H H_21 := xOld.put hfr_20 hs_21 (Or.inr (Nat.le_add_right _ _))
  refine lv_dup hx hb dX7_init_89 rfl ?_
  refine lv_iconst (v := nI 2) hx hb dX7_init_90 (by decide) ?_
  refine lv_iconst (v := (-1)) hx hb dX7_init_91 (by decide) ?_
  refine xiastN (s := s.setDrawn d0) (j := 2) (x := (-1)) hx hb hK.1 1 hc_21 hS (Nat.le_trans hbH (Nat.le_add_right _ _)) rfl (xix_of (by omega) (by omega)) dX7_init_92 (fun H_22 locs_22 hs_22 hS => ?_)
  have hc_22 : xc G (H.size + 9) (.inl (ty 1, 8, .inl ((upd (upd (upd (fun _ => nI 0) 0 (-1)) 1 (-1)) 2 (-1))))) H_22 := hs_22.1
  have hz_22 : H_22.size = H.size + 10 := hs_22.2.1.trans hz_21
  have hfr_22 : xOld m0 H H_22 := xOld.put hfr_21 hs_22 (Or.inr (Nat.le_add_right _ _))
  refine lv_dup hx hb dX7_init_93 rfl ?_
  refine lv_iconst (v := nI 3) hx hb dX7_init_94 (by decide) ?_
  refine lv_iconst (v := (-1)) hx hb dX7_init_95 (by decide) ?_
  refine xiastN (s := s.setDrawn d0) (j := 3) (x := (-1)) hx hb hK.1 1 hc_22 hS (Nat.le_trans hbH (Nat.le_add_right _ _)) rfl (xix_of (by omega) (by omega)) dX7_init_96 (fun H_23 locs_23 hs_23 hS => ?_)
  have hc_23 : xc G (H.size + 9) (.inl (ty 1, 8, .inl ((upd (upd (upd (upd (fun _ => nI 0) 0 (-1)) 1 (-1)) 2 (-1)) 3 (-1))))) H_23 := hs_23.1
  have hz_23 : H_23.size = H.size + 10 := hs_23.2.1.trans hz_22
  have hfr_23 : xOld m0 H H_23 := xOld.put hfr_22 hs_23 (Or.inr (Nat.le_add_right _ _))
  refine lv_dup hx hb dX7_init_97 rfl ?_
  refine lv_iconst (v := nI 4) hx hb dX7_init_98 (by decide) ?_
  refine lv_iconst (v := (-1)) hx hb dX7_init_99 (by decide) ?_
  refine xiastN (s := s.setDrawn d0) (j := 4) (x := (-1)) hx hb hK.1 1 hc_23 hS (Nat.le_trans hbH (Nat.le_add_right _ _)) rfl (xix_of (by omega) (by omega)) dX7_init_100 (fun H_24 locs_24 hs_24 hS => ?_)
  have hc_24 : xc G (H.size + 9) (.inl (ty 1, 8, .inl ((upd (upd (upd (upd (upd (fun _ => nI 0) 0 (-1)) 1 (-1)) 2 (-1)) 3 (-1)) 4 (-1))))) H_24 := hs_24.1
  have hz_24 : H_24.size = H.size + 10 := hs_24.2.1.trans hz_23
  have hfr_24 : xOld m0 H H_24 := xOld.put hfr_23 hs_24 (Or.inr (Nat.le_add_right _ _))
  refine lv_dup hx hb dX7_init_101 rfl ?_
  refine lv_iconst (v := nI 5) hx hb dX7_init_102 (by decide) ?_
  refine lv_iconst (v := (-1)) hx hb dX7_init_103 (by decide) ?_
  refine xiastN (s := s.setDrawn d0) (j := 5) (x := (-1)) hx hb hK.1 1 hc_24 hS (Nat.le_trans hbH (Nat.le_add_right _ _)) rfl (xix_of (by omega) (by omega)) dX7_init_104 (fun H_25 locs_25 hs_25 hS => ?_)
  have hc_25 : xc G (H.size + 9) (.inl (ty 1, 8, .inl ((upd (upd (upd (upd (upd (upd (fun _ => nI 0) 0 (-1)) 1 (-1)) 2 (-1)) 3 (-1)) 4 (-1)) 5 (-1))))) H_25 := hs_25.1
  have hz_25 : H_25.size = H.size + 10 := hs_25.2.1.trans hz_24
  have hfr_25 : xOld m0 H H_25 := xOld.put hfr_24 hs_25 (Or.inr (Nat.le_add_right _ _))
  refine lv_dup hx hb dX7_init_105 rfl ?_
  refine lv_bipush (v := nI 6) hx hb dX7_init_106 (by decide) ?_
  refine lv_iconst (v := (-1)) hx hb dX7_init_108 (by decide) ?_
  refine xiastN (s := s.setDrawn d0) (j := 6) (x := (-1)) hx hb hK.1 1 hc_25 hS (Nat.le_trans hbH (Nat.le_add_right _ _)) rfl (xix_of (by omega) (by omega)) dX7_init_109 (fun H_26 locs_26 hs_26 hS => ?_)
  have hc_26 : xc G (H.size + 9) (.inl (ty 1, 8, .inl ((upd (upd (upd (upd (upd (upd (upd (fun _ => nI 0) 0 (-1)) 1 (-1)) 2 (-1)) 3 (-1)) 4 (-1)) 5 (-1)) 6 (-1))))) H_26 := hs_26.1
  have hz_26 : H_26.size = H.size + 10 := hs_26.2.1.trans hz_25
  have hfr_26 : xOld m0 H H_26 := xOld.put hfr_25 hs_26 (Or.inr (Nat.le_add_right _ _))
  refine lv_dup hx hb dX7_init_110 rfl ?_
  refine lv_bipush (v := nI 7) hx hb dX7_init_111 (by decide) ?_
  refine lv_iconst (v := (-1)) hx hb dX7_init_113 (by decide) ?_
  refine xiastN (s := s.setDrawn d0) (j := 7) (x := (-1)) hx hb hK.1 1 hc_26 hS (Nat.le_trans hbH (Nat.le_add_right _ _)) rfl (xix_of (by omega) (by omega)) dX7_init_114 (fun H_27 locs_27 hs_27 hS => ?_)
  have hc_27 : xc G (H.size + 9) (.inl (ty 1, 8, .inl ((upd (upd (upd (upd (upd (upd (upd (upd (fun _ => nI 0) 0 (-1)) 1 (-1)) 2 (-1)) 3 (-1)) 4 (-1)) 5 (-1)) 6 (-1)) 7 (-1))))) H_27 := hs_27.1
  have hz_27 : H_27.size = H.size + 10 := hs_27.2.1.trans hz_26
  have hfr_27 : xOld m0 H H_27 := xOld.put hfr_26 hs_27 (Or.inr (Nat.le_add_right _ _))
  refine xputF (G := G) (ci := 8) (v := .ref (H.size + 9)) (ty := (.array .int)) (C := RX7) (T := TX7) (N := 18) hx hb (hts d0) in_X7_init_X7 tyX7 tyX7_ok nmX7 hown hK.1 (((((((((hg_19.keep hc_18).kept (hs_20.2.2 _ (Nat.ne_of_lt (Nat.lt_add_right 9 hlm)))).kept (hs_21.2.2 _ (Nat.ne_of_lt (Nat.lt_add_right 9 hlm)))).kept (hs_22.2.2 _ (Nat.ne_of_lt (Nat.lt_add_right 9 hlm)))).kept (hs_23.2.2 _ (Nat.ne_of_lt (Nat.lt_add_right 9 hlm)))).kept (hs_24.2.2 _ (Nat.ne_of_lt (Nat.lt_add_right 9 hlm)))).kept (hs_25.2.2 _ (Nat.ne_of_lt (Nat.lt_add_right 9 hlm)))).kept (hs_26.2.2 _ (Nat.ne_of_lt (Nat.lt_add_right 9 hlm)))).kept (hs_27.2.2 _ (Nat.ne_of_lt (Nat.lt_add_right 9 hlm)))) hS hm0 rfl 13 (by decide) (hts d0 _ hw_X7_init_16) (fun _ h9 => h9) rfl hnm0 rfl (by decide +kernel) rfl rfl (Nat.le_of_ble_eq_true rfl) dX7_init_115 (fun H_28 locs_28 hs_28 hS => ?_)
  have hc_28 : xc G m0 (.inr (8, [.int (nI 0), .int (nI 0), .int (nI 0), .ref (H.size + 0), .ref (H.size + 1), .ref (H.size + 2), .ref (H.size + 3), .ref (H.size + 4), .int (nI 0), .ref (H.size + 5), .ref (H.size + 6), .ref (H.size + 7), .ref (H.size + 8), .ref (H.size + 9), .null, .double FP.dconst0, .double FP.dconst0, .double FP.dconst0])) H_28 := hs_28.1
  have hz_28 : H_28.size = H.size + 10 := hs_28.2.1.trans hz_27
  have hfr_28 : xOld m0 H H_28 := xOld.put hfr_27 hs_28 (Or.inl rfl)
  refine lv_aload_n hx hb dX7_init_118 rfl (lv_at hl 0 rfl) ?_
  refine lv_bipush (v := nI 8) hx hb dX7_init_119 (by decide) ?_
  refine xnewaI (G := G) (s := s.setDrawn d0) hx hb (hts d0 _ hw_X7_init_13) hK.1 1 rfl hS (by decide) (Nat.le_of_ble_eq_true rfl) (Nat.le_of_ble_eq_true rfl) dX7_init_121 (fun q_29 H_29 hg_29 hS => ?_)
  have e_29 : q_29 = H.size + 10 := hg_29.2.1.symm.trans hz_28
  subst e_29
  have hz_29 : H_29.size = H.size + 11 := hg_29.2.2.1
  have hfr_29 : xOld m0 H H_29 := xOld.grow hfr_28 hg_29
  refine lv_dup hx hb dX7_init_123 rfl ?_
  refine lv_iconst (v := nI 0) hx hb dX7_init_124 (by decide) ?_
  refine lv_iconst (v := (-1)) hx hb dX7_init_125 (by decide) ?_
  refine xiastN (s := s.setDrawn d0) (j := 0) (x := (-1)) hx hb hK.1 1 hg_29.1 hS (Nat.le_trans hbH (Nat.le_add_right _ _)) rfl (xix_of (by omega) (by omega)) dX7_init_126 (fun H_30 locs_30 hs_30 hS => ?_)
  have hc_30 : xc G (H.size + 10) (.inl (ty 1, 8, .inl ((upd (fun _ => nI 0) 0 (-1))))) H_30 := hs_30.1
  have hz_30 : H_30.size = H.size + 11 := hs_30.2.1.trans hz_29
  have hfr_30 : xOld m0 H H_30 := xOld.put hfr_29 hs_30 (Or.inr (Nat.le_add_right _ _))
  refine lv_dup hx hb dX7_init_127 rfl ?_
  refine lv_iconst (v := nI 1) hx hb dX7_init_128 (by decide) ?_
  refine lv_iconst (v := (-1)) hx hb dX7_init_129 (by decide) ?_
  refine xiastN (s := s.setDrawn d0) (j := 1) (x := (-1)) hx hb hK.1 1 hc_30 hS (Nat.le_trans hbH (Nat.le_add_right _ _)) rfl (xix_of (by omega) (by omega)) dX7_init_130 (fun H_31 locs_31 hs_31 hS => ?_)
  have hc_31 : xc G (H.size + 10) (.inl (ty 1, 8, .inl ((upd (upd (fun _ => nI 0) 0 (-1)) 1 (-1))))) H_31 := hs_31.1
  have hz_31 : H_31.size = H.size + 11 := hs_31.2.1.trans hz_30
  have hfr_31 : xOld m0 H H_31 := xOld.put hfr_30 hs_31 (Or.inr (Nat.le_add_right _ _))
  refine lv_dup hx hb dX7_init_131 rfl ?_
  refine lv_iconst (v := nI 2) hx hb dX7_init_132 (by decide) ?_
  refine lv_iconst (v := (-1)) hx hb dX7_init_133 (by decide) ?_
  refine xiastN (s := s.setDrawn d0) (j := 2) (x := (-1)) hx hb hK.1 1 hc_31 hS (Nat.le_trans hbH (Nat.le_add_right _ _)) rfl (xix_of (by omega) (by omega)) dX7_init_134 (fun H_32 locs_32 hs_32 hS => ?_)
  have hc_32 : xc G (H.size + 10) (.inl (ty 1, 8, .inl ((upd (upd (upd (fun _ => nI 0) 0 (-1)) 1 (-1)) 2 (-1))))) H_32 := hs_32.1
  have hz_32 : H_32.size = H.size + 11 := hs_32.2.1.trans hz_31
  have hfr_32 : xOld m0 H H_32 := xOld.put hfr_31 hs_32 (Or.inr (Nat.le_add_right _ _))
  refine lv_dup hx hb dX7_init_135 rfl ?_
  refine lv_iconst (v := nI 3) hx hb dX7_init_136 (by decide) ?_
  refine lv_iconst (v := (-1)) hx hb dX7_init_137 (by decide) ?_
  refine xiastN (s := s.setDrawn d0) (j := 3) (x := (-1)) hx hb hK.1 1 hc_32 hS (Nat.le_trans hbH (Nat.le_add_right _ _)) rfl (xix_of (by omega) (by omega)) dX7_init_138 (fun H_33 locs_33 hs_33 hS => ?_)
  have hc_33 : xc G (H.size + 10) (.inl (ty 1, 8, .inl ((upd (upd (upd (upd (fun _ => nI 0) 0 (-1)) 1 (-1)) 2 (-1)) 3 (-1))))) H_33 := hs_33.1
  have hz_33 : H_33.size = H.size + 11 := hs_33.2.1.trans hz_32
  have hfr_33 : xOld m0 H H_33 := xOld.put hfr_32 hs_33 (Or.inr (Nat.le_add_right _ _))
  refine lv_dup hx hb dX7_init_139 rfl ?_
  refine lv_iconst (v := nI 4) hx hb dX7_init_140 (by decide) ?_
  refine lv_iconst (v := (-1)) hx hb dX7_init_141 (by decide) ?_
  refine xiastN (s := s.setDrawn d0) (j := 4) (x := (-1)) hx hb hK.1 1 hc_33 hS (Nat.le_trans hbH (Nat.le_add_right _ _)) rfl (xix_of (by omega) (by omega)) dX7_init_142 (fun H_34 locs_34 hs_34 hS => ?_)
  have hc_34 : xc G (H.size + 10) (.inl (ty 1, 8, .inl ((upd (upd (upd (upd (upd (fun _ => nI 0) 0 (-1)) 1 (-1)) 2 (-1)) 3 (-1)) 4 (-1))))) H_34 := hs_34.1
  have hz_34 : H_34.size = H.size + 11 := hs_34.2.1.trans hz_33
  have hfr_34 : xOld m0 H H_34 := xOld.put hfr_33 hs_34 (Or.inr (Nat.le_add_right _ _))
  refine lv_dup hx hb dX7_init_143 rfl ?_
  refine lv_iconst (v := nI 5) hx hb dX7_init_144 (by decide) ?_
  refine lv_iconst (v := (-1)) hx hb dX7_init_145 (by decide) ?_
  refine xiastN (s := s.setDrawn d0) (j := 5) (x := (-1)) hx hb hK.1 1 hc_34 hS (Nat.le_trans hbH (Nat.le_add_right _ _)) rfl (xix_of (by omega) (by omega)) dX7_init_146 (fun H_35 locs_35 hs_35 hS => ?_)
  have hc_35 : xc G (H.size + 10) (.inl (ty 1, 8, .inl ((upd (upd (upd (upd (upd (upd (fun _ => nI 0) 0 (-1)) 1 (-1)) 2 (-1)) 3 (-1)) 4 (-1)) 5 (-1))))) H_35 := hs_35.1
  have hz_35 : H_35.size = H.size + 11 := hs_35.2.1.trans hz_34
  have hfr_35 : xOld m0 H H_35 := xOld.put hfr_34 hs_35 (Or.inr (Nat.le_add_right _ _))
  refine lv_dup hx hb dX7_init_147 rfl ?_
  refine lv_bipush (v := nI 6) hx hb dX7_init_148 (by decide) ?_
  refine lv_iconst (v := (-1)) hx hb dX7_init_150 (by decide) ?_
  refine xiastN (s := s.setDrawn d0) (j := 6) (x := (-1)) hx hb hK.1 1 hc_35 hS (Nat.le_trans hbH (Nat.le_add_right _ _)) rfl (xix_of (by omega) (by omega)) dX7_init_151 (fun H_36 locs_36 hs_36 hS => ?_)
  have hc_36 : xc G (H.size + 10) (.inl (ty 1, 8, .inl ((upd (upd (upd (upd (upd (upd (upd (fun _ => nI 0) 0 (-1)) 1 (-1)) 2 (-1)) 3 (-1)) 4 (-1)) 5 (-1)) 6 (-1))))) H_36 := hs_36.1
  have hz_36 : H_36.size = H.size + 11 := hs_36.2.1.trans hz_35
  have hfr_36 : xOld m0 H H_36 := xOld.put hfr_35 hs_36 (Or.inr (Nat.le_add_right _ _))
  refine lv_dup hx hb dX7_init_152 rfl ?_
  refine lv_bipush (v := nI 7) hx hb dX7_init_153 (by decide) ?_
  refine lv_iconst (v := (-1)) hx hb dX7_init_155 (by decide) ?_
  refine xiastN (s := s.setDrawn d0) (j := 7) (x := (-1)) hx hb hK.1 1 hc_36 hS (Nat.le_trans hbH (Nat.le_add_right _ _)) rfl (xix_of (by omega) (by omega)) dX7_init_156 (fun H_37 locs_37 hs_37 hS => ?_)
  have hc_37 : xc G (H.size + 10) (.inl (ty 1, 8, .inl ((upd (upd (upd (upd (upd (upd (upd (upd (fun _ => nI 0) 0 (-1)) 1 (-1)) 2 (-1)) 3 (-1)) 4 (-1)) 5 (-1)) 6 (-1)) 7 (-1))))) H_37 := hs_37.1
  have hz_37 : H_37.size = H.size + 11 := hs_37.2.1.trans hz_36
  have hfr_37 : xOld m0 H H_37 := xOld.put hfr_36 hs_37 (Or.inr (Nat.le_add_right _ _))
  refine xputF (G := G) (ci := 8) (v := .ref (H.size + 10)) (ty := (.array .int)) (C := RX7) (T := TX7) (N := 18) hx hb (hts d0) in_X7_init_X7 tyX7 tyX7_ok nmX7 hown hK.1 (((((((((hg_29.keep hc_28).kept (hs_30.2.2 _ (Nat.ne_of_lt (Nat.lt_add_right 10 hlm)))).kept (hs_31.2.2 _ (Nat.ne_of_lt (Nat.lt_add_right 10 hlm)))).kept (hs_32.2.2 _ (Nat.ne_of_lt (Nat.lt_add_right 10 hlm)))).kept (hs_33.2.2 _ (Nat.ne_of_lt (Nat.lt_add_right 10 hlm)))).kept (hs_34.2.2 _ (Nat.ne_of_lt (Nat.lt_add_right 10 hlm)))).kept (hs_35.2.2 _ (Nat.ne_of_lt (Nat.lt_add_right 10 hlm)))).kept (hs_36.2.2 _ (Nat.ne_of_lt (Nat.lt_add_right 10 hlm)))).kept (hs_37.2.2 _ (Nat.ne_of_lt (Nat.lt_add_right 10 hlm)))) hS hm0 rfl 14 (by decide) (hts d0 _ hw_X7_init_17) (fun _ h9 => h9) rfl hnm0 rfl (by decide +kernel) rfl rfl (Nat.le_of_ble_eq_true rfl) dX7_init_157 (fun H_38 locs_38 hs_38 hS => ?_)
  have hc_38 : xc G m0 (.inr (8, [.int (nI 0), .int (nI 0), .int (nI 0), .ref (H.size + 0), .ref (H.size + 1), .ref (H.size + 2), .ref (H.size + 3), .ref (H.size + 4), .int (nI 0), .ref (H.size + 5), .ref (H.size + 6), .ref (H.size + 7), .ref (H.size + 8), .ref (H.size + 9), .ref (H.size + 10), .double FP.dconst0, .double FP.dconst0, .double FP.dconst0])) H_38 := hs_38.1
  have hz_38 : H_38.size = H.size + 11 := hs_38.2.1.trans hz_37
  have hfr_38 : xOld m0 H H_38 := xOld.put hfr_37 hs_38 (Or.inl rfl)
  refine lv_aload_n hx hb dX7_init_160 rfl (lv_at hl 0 rfl) ?_
  have J_39 : ∀ (jy : Int32) (locs : List Loc) (d0 : Drawn) (ls : Array Slot), jy = nI ((xCl f)) → va_S (xA b0) s.heap H_38 locs → s.drawn.sameBut d0 lw_cs → lv_has ls 3 [(0, .ref m0), (1, .int (f)), (2, .int (r))] → W p l e rm_X7_init (s.setDrawn d0) m [Value.ref m0, Value.int (f), Value.int (r)].toArray below meth c H_38 locs (0 + 1 + 1 + 1 + 1 + 1 + 1 + 1 + 1 + 1 + 1 + 1) (0 + 192 + 8 + 256 + 32 + 64 + 4 + 4 + 4 + 128 + 8 + 8) (xMQ below (fun v H1 => v = none ∧ ∃ (A : Nat → Nat) (lo la : Nat → Int32), xRef G ty m0 A (nI 0) (xCl f) (xCl r) (fun _ => FP.dconst0) (fun _ => nI 0) (fun _ => FP.dconst0) (fun _ => FP.dconst0) (fun _ => nI 0) 0 (fun _ => FP.dconst0) (fun _ => FP.dconst0) (fun _ => nI 0) (fun _ => FP.dconst0) lo la FP.dconst0 FP.dconst0 FP.dconst0 H1 ∧ xAp m0 A ∧ xNw b0 m0 A ∧ (∀ i : Nat, H.size ≤ A i) ∧ xOld m0 H H1 ∧ xN8 lo ∧ xN8 la) (fun _ _ => False) [.ref m0, .int (f), .int (r)].toArray s rm_X7_init b0) (F0 m 182 ls [.int (jy), .ref m0]) := by
    intro jy locs d0 ls hP_39 hS hd0 hl
    subst hP_39
    refine xput (G := G) (ci := 8) (v := .int (nI ((xCl f)))) (ty := .int) (C := RX7) (T := TX7) (N := 18) hx hb (hts d0) in_X7_init_X7 tyX7 tyX7_ok nmX7 hown hK.1 hc_38 hS hm0 rfl 1 (by decide) (hts d0 _ hw_X7_init_18) (fun _ h9 => h9) rfl (by decide +kernel) rfl rfl (Nat.le_of_ble_eq_true rfl) dX7_init_182 (fun H_40 locs_40 hs_40 hS => ?_)
    have hc_40 : xc G m0 (.inr (8, [.int (nI 0), .int (nI ((xCl f))), .int (nI 0), .ref (H.size + 0), .ref (H.size + 1), .ref (H.size + 2), .ref (H.size + 3), .ref (H.size + 4), .int (nI 0), .ref (H.size + 5), .ref (H.size + 6), .ref (H.size + 7), .ref (H.size + 8), .ref (H.size + 9), .ref (H.size + 10), .double FP.dconst0, .double FP.dconst0, .double FP.dconst0])) H_40 := hs_40.1
    have hz_40 : H_40.size = H.size + 11 := hs_40.2.1.trans hz_38
    have hfr_40 : xOld m0 H H_40 := xOld.put hfr_38 hs_40 (Or.inl rfl)
    refine lv_aload_n hx hb dX7_init_185 rfl (lv_at hl 0 rfl) ?_
    have J_41 : ∀ (jy : Int32) (locs : List Loc) (d0 : Drawn) (ls : Array Slot), jy = nI ((xCl r)) → va_S (xA b0) s.heap H_40 locs → s.drawn.sameBut d0 lw_cs → lv_has ls 3 [(0, .ref m0), (1, .int (f)), (2, .int (r))] → W p l e rm_X7_init (s.setDrawn d0) m [Value.ref m0, Value.int (f), Value.int (r)].toArray below meth c H_40 locs (0 + 1 + 1 + 1 + 1 + 1 + 1 + 1 + 1 + 1 + 1 + 1) (0 + 192 + 8 + 256 + 32 + 64 + 4 + 4 + 4 + 128 + 8 + 8) (xMQ below (fun v H1 => v = none ∧ ∃ (A : Nat → Nat) (lo la : Nat → Int32), xRef G ty m0 A (nI 0) (xCl f) (xCl r) (fun _ => FP.dconst0) (fun _ => nI 0) (fun _ => FP.dconst0) (fun _ => FP.dconst0) (fun _ => nI 0) 0 (fun _ => FP.dconst0) (fun _ => FP.dconst0) (fun _ => nI 0) (fun _ => FP.dconst0) lo la FP.dconst0 FP.dconst0 FP.dconst0 H1 ∧ xAp m0 A ∧ xNw b0 m0 A ∧ (∀ i : Nat, H.size ≤ A i) ∧ xOld m0 H H1 ∧ xN8 lo ∧ xN8 la) (fun _ _ => False) [.ref m0, .int (f), .int (r)].toArray s rm_X7_init b0) (F0 m 207 ls [.int (jy), .ref m0]) := by
      intro jy locs d0 ls hP_41 hS hd0 hl
      subst hP_41
      refine xput (G := G) (ci := 8) (v := .int (nI ((xCl r)))) (ty := .int) (C := RX7) (T := TX7) (N := 18) hx hb (hts d0) in_X7_init_X7 tyX7 tyX7_ok nmX7 hown hK.1 hc_40 hS hm0 rfl 2 (by decide) (hts d0 _ hw_X7_init_19) (fun _ h9 => h9) rfl (by decide +kernel) rfl rfl (Nat.le_of_ble_eq_true rfl) dX7_init_207 (fun H_42 locs_42 hs_42 hS => ?_)
      have hc_42 : xc G m0 (.inr (8, [.int (nI 0), .int (nI ((xCl f))), .int (nI ((xCl r))), .ref (H.size + 0), .ref (H.size + 1), .ref (H.size + 2), .ref (H.size + 3), .ref (H.size + 4), .int (nI 0), .ref (H.size + 5), .ref (H.size + 6), .ref (H.size + 7), .ref (H.size + 8), .ref (H.size + 9), .ref (H.size + 10), .double FP.dconst0, .double FP.dconst0, .double FP.dconst0])) H_42 := hs_42.1
      have hz_42 : H_42.size = H.size + 11 := hs_42.2.1.trans hz_40
      have hfr_42 : xOld m0 H H_42 := xOld.put hfr_40 hs_42 (Or.inl rfl)
      exact xvret hd0 hx hb hr hlocks hS (Nat.le_of_ble_eq_true rfl) (Nat.le_of_ble_eq_true rfl) dX7_init_210 ⟨rfl, fun i => H.size + i, _, _, ⟨hc_42, ((((((((((((hg_29.keep ((((((((((hg_19.keep ((hg_17.keep ((hg_15.keep ((hg_13.keep ((hg_11.keep ((hg_9.keep ((hg_7.keep ((hg_5.keep ((hg_3.keep (hg_1.1.kept (hs_2.2.2 _ (Nat.ne_of_gt (Nat.lt_add_right 0 hlm))))).kept (hs_4.2.2 _ (Nat.ne_of_gt (Nat.lt_add_right 0 hlm))))).kept (hs_6.2.2 _ (Nat.ne_of_gt (Nat.lt_add_right 0 hlm))))).kept (hs_8.2.2 _ (Nat.ne_of_gt (Nat.lt_add_right 0 hlm))))).kept (hs_10.2.2 _ (Nat.ne_of_gt (Nat.lt_add_right 0 hlm))))).kept (hs_12.2.2 _ (Nat.ne_of_gt (Nat.lt_add_right 0 hlm))))).kept (hs_14.2.2 _ (Nat.ne_of_gt (Nat.lt_add_right 0 hlm))))).kept (hs_16.2.2 _ (Nat.ne_of_gt (Nat.lt_add_right 0 hlm))))).kept (hs_18.2.2 _ (Nat.ne_of_gt (Nat.lt_add_right 0 hlm))))).kept (hs_20.2.2 _ (fun z => absurd (Nat.add_left_cancel z) (by decide)))).kept (hs_21.2.2 _ (fun z => absurd (Nat.add_left_cancel z) (by decide)))).kept (hs_22.2.2 _ (fun z => absurd (Nat.add_left_cancel z) (by decide)))).kept (hs_23.2.2 _ (fun z => absurd (Nat.add_left_cancel z) (by decide)))).kept (hs_24.2.2 _ (fun z => absurd (Nat.add_left_cancel z) (by decide)))).kept (hs_25.2.2 _ (fun z => absurd (Nat.add_left_cancel z) (by decide)))).kept (hs_26.2.2 _ (fun z => absurd (Nat.add_left_cancel z) (by decide)))).kept (hs_27.2.2 _ (fun z => absurd (Nat.add_left_cancel z) (by decide)))).kept (hs_28.2.2 _ (Nat.ne_of_gt (Nat.lt_add_right 0 hlm))))).kept (hs_30.2.2 _ (fun z => absurd (Nat.add_left_cancel z) (by decide)))).kept (hs_31.2.2 _ (fun z => absurd (Nat.add_left_cancel z) (by decide)))).kept (hs_32.2.2 _ (fun z => absurd (Nat.add_left_cancel z) (by decide)))).kept (hs_33.2.2 _ (fun z => absurd (Nat.add_left_cancel z) (by decide)))).kept (hs_34.2.2 _ (fun z => absurd (Nat.add_left_cancel z) (by decide)))).kept (hs_35.2.2 _ (fun z => absurd (Nat.add_left_cancel z) (by decide)))).kept (hs_36.2.2 _ (fun z => absurd (Nat.add_left_cancel z) (by decide)))).kept (hs_37.2.2 _ (fun z => absurd (Nat.add_left_cancel z) (by decide)))).kept (hs_38.2.2 _ (Nat.ne_of_gt (Nat.lt_add_right 0 hlm)))).kept (hs_40.2.2 _ (Nat.ne_of_gt (Nat.lt_add_right 0 hlm)))).kept (hs_42.2.2 _ (Nat.ne_of_gt (Nat.lt_add_right 0 hlm)))), ((((((((((((hg_29.keep ((((((((((hg_19.keep ((hg_17.keep ((hg_15.keep ((hg_13.keep ((hg_11.keep ((hg_9.keep ((hg_7.keep ((hg_5.keep (hg_3.1.kept (hs_4.2.2 _ (Nat.ne_of_gt (Nat.lt_add_right 1 hlm))))).kept (hs_6.2.2 _ (Nat.ne_of_gt (Nat.lt_add_right 1 hlm))))).kept (hs_8.2.2 _ (Nat.ne_of_gt (Nat.lt_add_right 1 hlm))))).kept (hs_10.2.2 _ (Nat.ne_of_gt (Nat.lt_add_right 1 hlm))))).kept (hs_12.2.2 _ (Nat.ne_of_gt (Nat.lt_add_right 1 hlm))))).kept (hs_14.2.2 _ (Nat.ne_of_gt (Nat.lt_add_right 1 hlm))))).kept (hs_16.2.2 _ (Nat.ne_of_gt (Nat.lt_add_right 1 hlm))))).kept (hs_18.2.2 _ (Nat.ne_of_gt (Nat.lt_add_right 1 hlm))))).kept (hs_20.2.2 _ (fun z => absurd (Nat.add_left_cancel z) (by decide)))).kept (hs_21.2.2 _ (fun z => absurd (Nat.add_left_cancel z) (by decide)))).kept (hs_22.2.2 _ (fun z => absurd (Nat.add_left_cancel z) (by decide)))).kept (hs_23.2.2 _ (fun z => absurd (Nat.add_left_cancel z) (by decide)))).kept (hs_24.2.2 _ (fun z => absurd (Nat.add_left_cancel z) (by decide)))).kept (hs_25.2.2 _ (fun z => absurd (Nat.add_left_cancel z) (by decide)))).kept (hs_26.2.2 _ (fun z => absurd (Nat.add_left_cancel z) (by decide)))).kept (hs_27.2.2 _ (fun z => absurd (Nat.add_left_cancel z) (by decide)))).kept (hs_28.2.2 _ (Nat.ne_of_gt (Nat.lt_add_right 1 hlm))))).kept (hs_30.2.2 _ (fun z => absurd (Nat.add_left_cancel z) (by decide)))).kept (hs_31.2.2 _ (fun z => absurd (Nat.add_left_cancel z) (by decide)))).kept (hs_32.2.2 _ (fun z => absurd (Nat.add_left_cancel z) (by decide)))).kept (hs_33.2.2 _ (fun z => absurd (Nat.add_left_cancel z) (by decide)))).kept (hs_34.2.2 _ (fun z => absurd (Nat.add_left_cancel z) (by decide)))).kept (hs_35.2.2 _ (fun z => absurd (Nat.add_left_cancel z) (by decide)))).kept (hs_36.2.2 _ (fun z => absurd (Nat.add_left_cancel z) (by decide)))).kept (hs_37.2.2 _ (fun z => absurd (Nat.add_left_cancel z) (by decide)))).kept (hs_38.2.2 _ (Nat.ne_of_gt (Nat.lt_add_right 1 hlm)))).kept (hs_40.2.2 _ (Nat.ne_of_gt (Nat.lt_add_right 1 hlm)))).kept (hs_42.2.2 _ (Nat.ne_of_gt (Nat.lt_add_right 1 hlm)))), ((((((((((((hg_29.keep ((((((((((hg_19.keep ((hg_17.keep ((hg_15.keep ((hg_13.keep ((hg_11.keep ((hg_9.keep ((hg_7.keep (hg_5.1.kept (hs_6.2.2 _ (Nat.ne_of_gt (Nat.lt_add_right 2 hlm))))).kept (hs_8.2.2 _ (Nat.ne_of_gt (Nat.lt_add_right 2 hlm))))).kept (hs_10.2.2 _ (Nat.ne_of_gt (Nat.lt_add_right 2 hlm))))).kept (hs_12.2.2 _ (Nat.ne_of_gt (Nat.lt_add_right 2 hlm))))).kept (hs_14.2.2 _ (Nat.ne_of_gt (Nat.lt_add_right 2 hlm))))).kept (hs_16.2.2 _ (Nat.ne_of_gt (Nat.lt_add_right 2 hlm))))).kept (hs_18.2.2 _ (Nat.ne_of_gt (Nat.lt_add_right 2 hlm))))).kept (hs_20.2.2 _ (fun z => absurd (Nat.add_left_cancel z) (by decide)))).kept (hs_21.2.2 _ (fun z => absurd (Nat.add_left_cancel z) (by decide)))).kept (hs_22.2.2 _ (fun z => absurd (Nat.add_left_cancel z) (by decide)))).kept (hs_23.2.2 _ (fun z => absurd (Nat.add_left_cancel z) (by decide)))).kept (hs_24.2.2 _ (fun z => absurd (Nat.add_left_cancel z) (by decide)))).kept (hs_25.2.2 _ (fun z => absurd (Nat.add_left_cancel z) (by decide)))).kept (hs_26.2.2 _ (fun z => absurd (Nat.add_left_cancel z) (by decide)))).kept (hs_27.2.2 _ (fun z => absurd (Nat.add_left_cancel z) (by decide)))).kept (hs_28.2.2 _ (Nat.ne_of_gt (Nat.lt_add_right 2 hlm))))).kept (hs_30.2.2 _ (fun z => absurd (Nat.add_left_cancel z) (by decide)))).kept (hs_31.2.2 _ (fun z => absurd (Nat.add_left_cancel z) (by decide)))).kept (hs_32.2.2 _ (fun z => absurd (Nat.add_left_cancel z) (by decide)))).kept (hs_33.2.2 _ (fun z => absurd (Nat.add_left_cancel z) (by decide)))).kept (hs_34.2.2 _ (fun z => absurd (Nat.add_left_cancel z) (by decide)))).kept (hs_35.2.2 _ (fun z => absurd (Nat.add_left_cancel z) (by decide)))).kept (hs_36.2.2 _ (fun z => absurd (Nat.add_left_cancel z) (by decide)))).kept (hs_37.2.2 _ (fun z => absurd (Nat.add_left_cancel z) (by decide)))).kept (hs_38.2.2 _ (Nat.ne_of_gt (Nat.lt_add_right 2 hlm)))).kept (hs_40.2.2 _ (Nat.ne_of_gt (Nat.lt_add_right 2 hlm)))).kept (hs_42.2.2 _ (Nat.ne_of_gt (Nat.lt_add_right 2 hlm)))), ((((((((((((hg_29.keep ((((((((((hg_19.keep ((hg_17.keep ((hg_15.keep ((hg_13.keep ((hg_11.keep ((hg_9.keep (hg_7.1.kept (hs_8.2.2 _ (Nat.ne_of_gt (Nat.lt_add_right 3 hlm))))).kept (hs_10.2.2 _ (Nat.ne_of_gt (Nat.lt_add_right 3 hlm))))).kept (hs_12.2.2 _ (Nat.ne_of_gt (Nat.lt_add_right 3 hlm))))).kept (hs_14.2.2 _ (Nat.ne_of_gt (Nat.lt_add_right 3 hlm))))).kept (hs_16.2.2 _ (Nat.ne_of_gt (Nat.lt_add_right 3 hlm))))).kept (hs_18.2.2 _ (Nat.ne_of_gt (Nat.lt_add_right 3 hlm))))).kept (hs_20.2.2 _ (fun z => absurd (Nat.add_left_cancel z) (by decide)))).kept (hs_21.2.2 _ (fun z => absurd (Nat.add_left_cancel z) (by decide)))).kept (hs_22.2.2 _ (fun z => absurd (Nat.add_left_cancel z) (by decide)))).kept (hs_23.2.2 _ (fun z => absurd (Nat.add_left_cancel z) (by decide)))).kept (hs_24.2.2 _ (fun z => absurd (Nat.add_left_cancel z) (by decide)))).kept (hs_25.2.2 _ (fun z => absurd (Nat.add_left_cancel z) (by decide)))).kept (hs_26.2.2 _ (fun z => absurd (Nat.add_left_cancel z) (by decide)))).kept (hs_27.2.2 _ (fun z => absurd (Nat.add_left_cancel z) (by decide)))).kept (hs_28.2.2 _ (Nat.ne_of_gt (Nat.lt_add_right 3 hlm))))).kept (hs_30.2.2 _ (fun z => absurd (Nat.add_left_cancel z) (by decide)))).kept (hs_31.2.2 _ (fun z => absurd (Nat.add_left_cancel z) (by decide)))).kept (hs_32.2.2 _ (fun z => absurd (Nat.add_left_cancel z) (by decide)))).kept (hs_33.2.2 _ (fun z => absurd (Nat.add_left_cancel z) (by decide)))).kept (hs_34.2.2 _ (fun z => absurd (Nat.add_left_cancel z) (by decide)))).kept (hs_35.2.2 _ (fun z => absurd (Nat.add_left_cancel z) (by decide)))).kept (hs_36.2.2 _ (fun z => absurd (Nat.add_left_cancel z) (by decide)))).kept (hs_37.2.2 _ (fun z => absurd (Nat.add_left_cancel z) (by decide)))).kept (hs_38.2.2 _ (Nat.ne_of_gt (Nat.lt_add_right 3 hlm)))).kept (hs_40.2.2 _ (Nat.ne_of_gt (Nat.lt_add_right 3 hlm)))).kept (hs_42.2.2 _ (Nat.ne_of_gt (Nat.lt_add_right 3 hlm)))), ((((((((((((hg_29.keep ((((((((((hg_19.keep ((hg_17.keep ((hg_15.keep ((hg_13.keep ((hg_11.keep (hg_9.1.kept (hs_10.2.2 _ (Nat.ne_of_gt (Nat.lt_add_right 4 hlm))))).kept (hs_12.2.2 _ (Nat.ne_of_gt (Nat.lt_add_right 4 hlm))))).kept (hs_14.2.2 _ (Nat.ne_of_gt (Nat.lt_add_right 4 hlm))))).kept (hs_16.2.2 _ (Nat.ne_of_gt (Nat.lt_add_right 4 hlm))))).kept (hs_18.2.2 _ (Nat.ne_of_gt (Nat.lt_add_right 4 hlm))))).kept (hs_20.2.2 _ (fun z => absurd (Nat.add_left_cancel z) (by decide)))).kept (hs_21.2.2 _ (fun z => absurd (Nat.add_left_cancel z) (by decide)))).kept (hs_22.2.2 _ (fun z => absurd (Nat.add_left_cancel z) (by decide)))).kept (hs_23.2.2 _ (fun z => absurd (Nat.add_left_cancel z) (by decide)))).kept (hs_24.2.2 _ (fun z => absurd (Nat.add_left_cancel z) (by decide)))).kept (hs_25.2.2 _ (fun z => absurd (Nat.add_left_cancel z) (by decide)))).kept (hs_26.2.2 _ (fun z => absurd (Nat.add_left_cancel z) (by decide)))).kept (hs_27.2.2 _ (fun z => absurd (Nat.add_left_cancel z) (by decide)))).kept (hs_28.2.2 _ (Nat.ne_of_gt (Nat.lt_add_right 4 hlm))))).kept (hs_30.2.2 _ (fun z => absurd (Nat.add_left_cancel z) (by decide)))).kept (hs_31.2.2 _ (fun z => absurd (Nat.add_left_cancel z) (by decide)))).kept (hs_32.2.2 _ (fun z => absurd (Nat.add_left_cancel z) (by decide)))).kept (hs_33.2.2 _ (fun z => absurd (Nat.add_left_cancel z) (by decide)))).kept (hs_34.2.2 _ (fun z => absurd (Nat.add_left_cancel z) (by decide)))).kept (hs_35.2.2 _ (fun z => absurd (Nat.add_left_cancel z) (by decide)))).kept (hs_36.2.2 _ (fun z => absurd (Nat.add_left_cancel z) (by decide)))).kept (hs_37.2.2 _ (fun z => absurd (Nat.add_left_cancel z) (by decide)))).kept (hs_38.2.2 _ (Nat.ne_of_gt (Nat.lt_add_right 4 hlm)))).kept (hs_40.2.2 _ (Nat.ne_of_gt (Nat.lt_add_right 4 hlm)))).kept (hs_42.2.2 _ (Nat.ne_of_gt (Nat.lt_add_right 4 hlm)))), ((((((((((((hg_29.keep ((((((((((hg_19.keep ((hg_17.keep ((hg_15.keep ((hg_13.keep (hg_11.1.kept (hs_12.2.2 _ (Nat.ne_of_gt (Nat.lt_add_right 5 hlm))))).kept (hs_14.2.2 _ (Nat.ne_of_gt (Nat.lt_add_right 5 hlm))))).kept (hs_16.2.2 _ (Nat.ne_of_gt (Nat.lt_add_right 5 hlm))))).kept (hs_18.2.2 _ (Nat.ne_of_gt (Nat.lt_add_right 5 hlm))))).kept (hs_20.2.2 _ (fun z => absurd (Nat.add_left_cancel z) (by decide)))).kept (hs_21.2.2 _ (fun z => absurd (Nat.add_left_cancel z) (by decide)))).kept (hs_22.2.2 _ (fun z => absurd (Nat.add_left_cancel z) (by decide)))).kept (hs_23.2.2 _ (fun z => absurd (Nat.add_left_cancel z) (by decide)))).kept (hs_24.2.2 _ (fun z => absurd (Nat.add_left_cancel z) (by decide)))).kept (hs_25.2.2 _ (fun z => absurd (Nat.add_left_cancel z) (by decide)))).kept (hs_26.2.2 _ (fun z => absurd (Nat.add_left_cancel z) (by decide)))).kept (hs_27.2.2 _ (fun z => absurd (Nat.add_left_cancel z) (by decide)))).kept (hs_28.2.2 _ (Nat.ne_of_gt (Nat.lt_add_right 5 hlm))))).kept (hs_30.2.2 _ (fun z => absurd (Nat.add_left_cancel z) (by decide)))).kept (hs_31.2.2 _ (fun z => absurd (Nat.add_left_cancel z) (by decide)))).kept (hs_32.2.2 _ (fun z => absurd (Nat.add_left_cancel z) (by decide)))).kept (hs_33.2.2 _ (fun z => absurd (Nat.add_left_cancel z) (by decide)))).kept (hs_34.2.2 _ (fun z => absurd (Nat.add_left_cancel z) (by decide)))).kept (hs_35.2.2 _ (fun z => absurd (Nat.add_left_cancel z) (by decide)))).kept (hs_36.2.2 _ (fun z => absurd (Nat.add_left_cancel z) (by decide)))).kept (hs_37.2.2 _ (fun z => absurd (Nat.add_left_cancel z) (by decide)))).kept (hs_38.2.2 _ (Nat.ne_of_gt (Nat.lt_add_right 5 hlm)))).kept (hs_40.2.2 _ (Nat.ne_of_gt (Nat.lt_add_right 5 hlm)))).kept (hs_42.2.2 _ (Nat.ne_of_gt (Nat.lt_add_right 5 hlm)))), ((((((((((((hg_29.keep ((((((((((hg_19.keep ((hg_17.keep ((hg_15.keep (hg_13.1.kept (hs_14.2.2 _ (Nat.ne_of_gt (Nat.lt_add_right 6 hlm))))).kept (hs_16.2.2 _ (Nat.ne_of_gt (Nat.lt_add_right 6 hlm))))).kept (hs_18.2.2 _ (Nat.ne_of_gt (Nat.lt_add_right 6 hlm))))).kept (hs_20.2.2 _ (fun z => absurd (Nat.add_left_cancel z) (by decide)))).kept (hs_21.2.2 _ (fun z => absurd (Nat.add_left_cancel z) (by decide)))).kept (hs_22.2.2 _ (fun z => absurd (Nat.add_left_cancel z) (by decide)))).kept (hs_23.2.2 _ (fun z => absurd (Nat.add_left_cancel z) (by decide)))).kept (hs_24.2.2 _ (fun z => absurd (Nat.add_left_cancel z) (by decide)))).kept (hs_25.2.2 _ (fun z => absurd (Nat.add_left_cancel z) (by decide)))).kept (hs_26.2.2 _ (fun z => absurd (Nat.add_left_cancel z) (by decide)))).kept (hs_27.2.2 _ (fun z => absurd (Nat.add_left_cancel z) (by decide)))).kept (hs_28.2.2 _ (Nat.ne_of_gt (Nat.lt_add_right 6 hlm))))).kept (hs_30.2.2 _ (fun z => absurd (Nat.add_left_cancel z) (by decide)))).kept (hs_31.2.2 _ (fun z => absurd (Nat.add_left_cancel z) (by decide)))).kept (hs_32.2.2 _ (fun z => absurd (Nat.add_left_cancel z) (by decide)))).kept (hs_33.2.2 _ (fun z => absurd (Nat.add_left_cancel z) (by decide)))).kept (hs_34.2.2 _ (fun z => absurd (Nat.add_left_cancel z) (by decide)))).kept (hs_35.2.2 _ (fun z => absurd (Nat.add_left_cancel z) (by decide)))).kept (hs_36.2.2 _ (fun z => absurd (Nat.add_left_cancel z) (by decide)))).kept (hs_37.2.2 _ (fun z => absurd (Nat.add_left_cancel z) (by decide)))).kept (hs_38.2.2 _ (Nat.ne_of_gt (Nat.lt_add_right 6 hlm)))).kept (hs_40.2.2 _ (Nat.ne_of_gt (Nat.lt_add_right 6 hlm)))).kept (hs_42.2.2 _ (Nat.ne_of_gt (Nat.lt_add_right 6 hlm)))), ((((((((((((hg_29.keep ((((((((((hg_19.keep ((hg_17.keep (hg_15.1.kept (hs_16.2.2 _ (Nat.ne_of_gt (Nat.lt_add_right 7 hlm))))).kept (hs_18.2.2 _ (Nat.ne_of_gt (Nat.lt_add_right 7 hlm))))).kept (hs_20.2.2 _ (fun z => absurd (Nat.add_left_cancel z) (by decide)))).kept (hs_21.2.2 _ (fun z => absurd (Nat.add_left_cancel z) (by decide)))).kept (hs_22.2.2 _ (fun z => absurd (Nat.add_left_cancel z) (by decide)))).kept (hs_23.2.2 _ (fun z => absurd (Nat.add_left_cancel z) (by decide)))).kept (hs_24.2.2 _ (fun z => absurd (Nat.add_left_cancel z) (by decide)))).kept (hs_25.2.2 _ (fun z => absurd (Nat.add_left_cancel z) (by decide)))).kept (hs_26.2.2 _ (fun z => absurd (Nat.add_left_cancel z) (by decide)))).kept (hs_27.2.2 _ (fun z => absurd (Nat.add_left_cancel z) (by decide)))).kept (hs_28.2.2 _ (Nat.ne_of_gt (Nat.lt_add_right 7 hlm))))).kept (hs_30.2.2 _ (fun z => absurd (Nat.add_left_cancel z) (by decide)))).kept (hs_31.2.2 _ (fun z => absurd (Nat.add_left_cancel z) (by decide)))).kept (hs_32.2.2 _ (fun z => absurd (Nat.add_left_cancel z) (by decide)))).kept (hs_33.2.2 _ (fun z => absurd (Nat.add_left_cancel z) (by decide)))).kept (hs_34.2.2 _ (fun z => absurd (Nat.add_left_cancel z) (by decide)))).kept (hs_35.2.2 _ (fun z => absurd (Nat.add_left_cancel z) (by decide)))).kept (hs_36.2.2 _ (fun z => absurd (Nat.add_left_cancel z) (by decide)))).kept (hs_37.2.2 _ (fun z => absurd (Nat.add_left_cancel z) (by decide)))).kept (hs_38.2.2 _ (Nat.ne_of_gt (Nat.lt_add_right 7 hlm)))).kept (hs_40.2.2 _ (Nat.ne_of_gt (Nat.lt_add_right 7 hlm)))).kept (hs_42.2.2 _ (Nat.ne_of_gt (Nat.lt_add_right 7 hlm)))), ((((((((((((hg_29.keep ((((((((((hg_19.keep (hg_17.1.kept (hs_18.2.2 _ (Nat.ne_of_gt (Nat.lt_add_right 8 hlm))))).kept (hs_20.2.2 _ (fun z => absurd (Nat.add_left_cancel z) (by decide)))).kept (hs_21.2.2 _ (fun z => absurd (Nat.add_left_cancel z) (by decide)))).kept (hs_22.2.2 _ (fun z => absurd (Nat.add_left_cancel z) (by decide)))).kept (hs_23.2.2 _ (fun z => absurd (Nat.add_left_cancel z) (by decide)))).kept (hs_24.2.2 _ (fun z => absurd (Nat.add_left_cancel z) (by decide)))).kept (hs_25.2.2 _ (fun z => absurd (Nat.add_left_cancel z) (by decide)))).kept (hs_26.2.2 _ (fun z => absurd (Nat.add_left_cancel z) (by decide)))).kept (hs_27.2.2 _ (fun z => absurd (Nat.add_left_cancel z) (by decide)))).kept (hs_28.2.2 _ (Nat.ne_of_gt (Nat.lt_add_right 8 hlm))))).kept (hs_30.2.2 _ (fun z => absurd (Nat.add_left_cancel z) (by decide)))).kept (hs_31.2.2 _ (fun z => absurd (Nat.add_left_cancel z) (by decide)))).kept (hs_32.2.2 _ (fun z => absurd (Nat.add_left_cancel z) (by decide)))).kept (hs_33.2.2 _ (fun z => absurd (Nat.add_left_cancel z) (by decide)))).kept (hs_34.2.2 _ (fun z => absurd (Nat.add_left_cancel z) (by decide)))).kept (hs_35.2.2 _ (fun z => absurd (Nat.add_left_cancel z) (by decide)))).kept (hs_36.2.2 _ (fun z => absurd (Nat.add_left_cancel z) (by decide)))).kept (hs_37.2.2 _ (fun z => absurd (Nat.add_left_cancel z) (by decide)))).kept (hs_38.2.2 _ (Nat.ne_of_gt (Nat.lt_add_right 8 hlm)))).kept (hs_40.2.2 _ (Nat.ne_of_gt (Nat.lt_add_right 8 hlm)))).kept (hs_42.2.2 _ (Nat.ne_of_gt (Nat.lt_add_right 8 hlm)))), ((((((((((((hg_29.keep (hc_27.kept (hs_28.2.2 _ (Nat.ne_of_gt (Nat.lt_add_right 9 hlm))))).kept (hs_30.2.2 _ (fun z => absurd (Nat.add_left_cancel z) (by decide)))).kept (hs_31.2.2 _ (fun z => absurd (Nat.add_left_cancel z) (by decide)))).kept (hs_32.2.2 _ (fun z => absurd (Nat.add_left_cancel z) (by decide)))).kept (hs_33.2.2 _ (fun z => absurd (Nat.add_left_cancel z) (by decide)))).kept (hs_34.2.2 _ (fun z => absurd (Nat.add_left_cancel z) (by decide)))).kept (hs_35.2.2 _ (fun z => absurd (Nat.add_left_cancel z) (by decide)))).kept (hs_36.2.2 _ (fun z => absurd (Nat.add_left_cancel z) (by decide)))).kept (hs_37.2.2 _ (fun z => absurd (Nat.add_left_cancel z) (by decide)))).kept (hs_38.2.2 _ (Nat.ne_of_gt (Nat.lt_add_right 9 hlm)))).kept (hs_40.2.2 _ (Nat.ne_of_gt (Nat.lt_add_right 9 hlm)))).kept (hs_42.2.2 _ (Nat.ne_of_gt (Nat.lt_add_right 9 hlm)))), (((hc_37.kept (hs_38.2.2 _ (Nat.ne_of_gt (Nat.lt_add_right 10 hlm)))).kept (hs_40.2.2 _ (Nat.ne_of_gt (Nat.lt_add_right 10 hlm)))).kept (hs_42.2.2 _ (Nat.ne_of_gt (Nat.lt_add_right 10 hlm))))⟩, xAp_seq hlm, xNw_seq hm0 hbH, fun i => Nat.le_add_right _ _, hfr_42, xn8_of, xn8_of⟩
    refine lv_iload_n hx hb dX7_init_186 rfl (lv_at hl 2 rfl) ?_
    refine lv_iconst (v := nI 2) hx hb dX7_init_187 (by decide) ?_
    refine lv_icmp_ge (tgt := 195) hx hb dX7_init_188 (by decide) (fun c_43 => ?_) (fun c_43 => ?_)
    · refine lv_iload_n hx hb dX7_init_195 rfl (lv_at hl 2 rfl) ?_
      refine lv_bipush (v := nI 8) hx hb dX7_init_196 (by decide) ?_
      refine lv_icmp_le (tgt := 206) hx hb dX7_init_198 (by decide) (fun c_44 => ?_) (fun c_44 => ?_)
      · refine lv_iload_n hx hb dX7_init_206 rfl (lv_at hl 2 rfl) ?_
        exact J_41 _ _ d0 ls (xCl_mid (Int32.not_lt.mpr c_43) c_44).symm hS hd0 (lv_sub hl [0, 1, 2] rfl)
      · refine lv_bipush (v := nI 8) hx hb dX7_init_201 (by decide) ?_
        refine lv_goto (tgt := 207) hx hb dX7_init_203 (by decide) ?_
        exact J_41 _ _ d0 ls (by rw [xCl_hi (Int32.not_lt.mpr c_43) c_44]) hS hd0 (lv_sub hl [0, 1, 2] rfl)
    · refine lv_iconst (v := nI 2) hx hb dX7_init_191 (by decide) ?_
      refine lv_goto (tgt := 207) hx hb dX7_init_192 (by decide) ?_
      exact J_41 _ _ d0 ls (by rw [xCl_lo (Int32.not_le.mp c_43)]) hS hd0 (lv_sub hl [0, 1, 2] rfl)
  refine lv_iload_n hx hb dX7_init_161 rfl (lv_at hl 1 rfl) ?_
  refine lv_iconst (v := nI 2) hx hb dX7_init_162 (by decide) ?_
  refine lv_icmp_ge (tgt := 170) hx hb dX7_init_163 (by decide) (fun c_45 => ?_) (fun c_45 => ?_)
  · refine lv_iload_n hx hb dX7_init_170 rfl (lv_at hl 1 rfl) ?_
    refine lv_bipush (v := nI 8) hx hb dX7_init_171 (by decide) ?_
    refine lv_icmp_le (tgt := 181) hx hb dX7_init_173 (by decide) (fun c_46 => ?_) (fun c_46 => ?_)
    · refine lv_iload_n hx hb dX7_init_181 rfl (lv_at hl 1 rfl) ?_
      exact J_39 _ _ d0 ls (xCl_mid (Int32.not_lt.mpr c_45) c_46).symm hS hd0 (lv_sub hl [0, 1, 2] rfl)
    · refine lv_bipush (v := nI 8) hx hb dX7_init_176 (by decide) ?_
      refine lv_goto (tgt := 182) hx hb dX7_init_178 (by decide) ?_
      exact J_39 _ _ d0 ls (by rw [xCl_hi (Int32.not_lt.mpr c_45) c_46]) hS hd0 (lv_sub hl [0, 1, 2] rfl)
  · refine lv_iconst (v := nI 2) hx hb dX7_init_166 (by decide) ?_
    refine lv_goto (tgt := 182) hx hb dX7_init_167 (by decide) ?_
    exact J_39 _ _ d0 ls (by rw [xCl_lo (Int32.not_le.mp c_45)]) hS hd0 (lv_sub hl [0, 1, 2] rfl)
