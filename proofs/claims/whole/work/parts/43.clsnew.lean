/-! THE CLASS: a new object. -/
/-- where a row begins, behind the row of rows -/
def xof (F : Nat) : Nat → Nat
  | 0 => 1
  | r + 1 => xof F r + F + 2
theorem xof_s {F r : Nat} : xof F (r + 1) = xof F r + F + 2 := rfl
theorem xof_pos {F : Nat} (r : Nat) : 1 ≤ xof F r := by
  induction r with
  | zero => exact Nat.le_refl _
  | succ r ih => rw [xof_s]; omega
theorem xof_lt {F r q : Nat} (h : r < q) : xof F r + F + 2 ≤ xof F q := by
  induction q with
  | zero => exact absurd h (Nat.not_lt_zero _)
  | succ q ih =>
    rw [xof_s]
    by_cases e : r = q
    · subst e; exact Nat.le_refl _
    · have := ih (by omega); omega
theorem xof_le {F r q : Nat} (h : r ≤ q) : xof F r ≤ xof F q := by
  by_cases e : r = q
  · subst e; exact Nat.le_refl _
  · have := xof_lt (F := F) (show r < q by omega); omega
theorem xRow.eqB {G : va_G} {ty : Nat → ClassId} {q0 B B1 n : Nat} {H : Heap} (h : xRow G ty q0 B n H) (e : B = B1) : xRow G ty q0 B1 n H := e ▸ h
theorem xStp.eqB {G : va_G} {ty : Nat → ClassId} {q0 q1 q2 B B1 n : Nat} {H : Heap} (h : xStp G ty q0 q1 q2 B n H) (e : B = B1) : xStp G ty q0 q1 q2 B1 n H := e ▸ h
set_option maxRecDepth 20000 in
theorem ggX6_init_X6_nearestSize : GoodIn wsX6_init wsX6_nearestSize := goodIn_r _ [25, 26, 27, 28, 29, 30, 31, 32] (by decide +kernel) (by decide +kernel)
set_option maxRecDepth 20000 in
theorem gX6_init_X6_nearestSize : GoodIn wsX6_init (va_wsS RX6 7 yX6_nearestSize wsX6_nearestSize) := goodIn_app (goodIn_of _ (by decide +kernel)) ggX6_init_X6_nearestSize
set_option maxRecDepth 20000 in
theorem ggX6_init_X4_init : GoodIn wsX6_init wsX4_init := goodIn_r _ [35, 36, 2, 3, 37, 38, 39, 40, 41, 42, 43, 93, 109, 110, 111] (by decide +kernel) (by decide +kernel)
set_option maxRecDepth 20000 in
theorem gX6_init_X4_init : GoodIn wsX6_init (wsX4_init) := ggX6_init_X4_init
set_option maxRecDepth 20000 in
theorem ggX6_init_X5_init : GoodIn wsX6_init wsX5_init := goodIn_r _ [46, 47, 2, 3, 48, 49, 50, 51, 52, 53, 54, 55, 56, 57, 58, 59, 60, 61, 62, 63, 64, 65, 66, 67, 68, 94, 95, 96, 97, 98, 99, 100, 101, 102, 112, 113, 114, 115] (by decide +kernel) (by decide +kernel)
set_option maxRecDepth 20000 in
theorem gX6_init_X5_init : GoodIn wsX6_init (wsX5_init) := ggX6_init_X5_init
set_option maxRecDepth 20000 in
theorem ggX6_init_Jx4a65c_init_da8c8 : GoodIn wsX6_init wsJx4a65c_init_da8c8 := goodIn_r _ [71, 72, 73, 74, 75, 76, 77, 78, 79, 80, 81, 82, 83, 2, 3, 103, 104, 105] (by decide +kernel) (by decide +kernel)
set_option maxRecDepth 20000 in
theorem gX6_init_Jx4a65c_init_da8c8 : GoodIn wsX6_init (wsJx4a65c_init_da8c8) := ggX6_init_Jx4a65c_init_da8c8
set_option maxRecDepth 20000 in
theorem ggX6_init_X2_init : GoodIn wsX6_init wsX2_init := goodIn_r _ [85, 86, 2, 3] (by decide +kernel) (by decide +kernel)
set_option maxRecDepth 20000 in
theorem gX6_init_X2_init_n44 : GoodIn wsX6_init (wsX2_init) := ggX6_init_X2_init
theorem dX6_init_0 : decode cX6_init 0 = .ok (.aload_n 0, 1) := by decide +kernel
theorem dX6_init_1 : decode cX6_init 1 = .ok (.invokespecial 1, 3) := by decide +kernel
theorem dX6_init_4 : decode cX6_init 4 = .ok (.aload_n 0, 1) := by decide +kernel
theorem dX6_init_5 : decode cX6_init 5 = .ok (.iload_n 1, 1) := by decide +kernel
theorem dX6_init_6 : decode cX6_init 6 = .ok (.invokestatic 7, 3) := by decide +kernel
theorem dX6_init_9 : decode cX6_init 9 = .ok (.putfield 13, 3) := by decide +kernel
theorem dX6_init_12 : decode cX6_init 12 = .ok (.aload_n 0, 1) := by decide +kernel
theorem dX6_init_13 : decode cX6_init 13 = .ok (.iload_n 2, 1) := by decide +kernel
theorem dX6_init_14 : decode cX6_init 14 = .ok (.invokestatic 7, 3) := by decide +kernel
theorem dX6_init_17 : decode cX6_init 17 = .ok (.anewarray 17, 3) := by decide +kernel
theorem dX6_init_20 : decode cX6_init 20 = .ok (.putfield 19, 3) := by decide +kernel
theorem dX6_init_23 : decode cX6_init 23 = .ok (.iconst 0, 1) := by decide +kernel
theorem dX6_init_24 : decode cX6_init 24 = .ok (.istore_n 3, 1) := by decide +kernel
theorem dX6_init_25 : decode cX6_init 25 = .ok (.iload_n 3, 1) := by decide +kernel
theorem dX6_init_26 : decode cX6_init 26 = .ok (.aload_n 0, 1) := by decide +kernel
theorem dX6_init_27 : decode cX6_init 27 = .ok (.getfield 19, 3) := by decide +kernel
theorem dX6_init_30 : decode cX6_init 30 = .ok (.arraylength, 1) := by decide +kernel
theorem dX6_init_31 : decode cX6_init 31 = .ok (.if_icmp .ge 26, 3) := by decide +kernel
theorem dX6_init_34 : decode cX6_init 34 = .ok (.aload_n 0, 1) := by decide +kernel
theorem dX6_init_35 : decode cX6_init 35 = .ok (.getfield 19, 3) := by decide +kernel
theorem dX6_init_38 : decode cX6_init 38 = .ok (.iload_n 3, 1) := by decide +kernel
theorem dX6_init_39 : decode cX6_init 39 = .ok (.new 17, 3) := by decide +kernel
theorem dX6_init_42 : decode cX6_init 42 = .ok (.dup, 1) := by decide +kernel
theorem dX6_init_43 : decode cX6_init 43 = .ok (.aload_n 0, 1) := by decide +kernel
theorem dX6_init_44 : decode cX6_init 44 = .ok (.getfield 13, 3) := by decide +kernel
theorem dX6_init_47 : decode cX6_init 47 = .ok (.invokespecial 23, 3) := by decide +kernel
theorem dX6_init_50 : decode cX6_init 50 = .ok (.aastore, 1) := by decide +kernel
theorem dX6_init_51 : decode cX6_init 51 = .ok (.iinc 3 1, 3) := by decide +kernel
theorem dX6_init_54 : decode cX6_init 54 = .ok (.goto (-29), 3) := by decide +kernel
theorem dX6_init_57 : decode cX6_init 57 = .ok (.aload_n 0, 1) := by decide +kernel
theorem dX6_init_58 : decode cX6_init 58 = .ok (.aload_n 0, 1) := by decide +kernel
theorem dX6_init_59 : decode cX6_init 59 = .ok (.getfield 19, 3) := by decide +kernel
theorem dX6_init_62 : decode cX6_init 62 = .ok (.arraylength, 1) := by decide +kernel
theorem dX6_init_63 : decode cX6_init 63 = .ok (.iconst 1, 1) := by decide +kernel
theorem dX6_init_64 : decode cX6_init 64 = .ok (.isub, 1) := by decide +kernel
theorem dX6_init_65 : decode cX6_init 65 = .ok (.anewarray 26, 3) := by decide +kernel
theorem dX6_init_68 : decode cX6_init 68 = .ok (.putfield 28, 3) := by decide +kernel
theorem dX6_init_71 : decode cX6_init 71 = .ok (.iconst 0, 1) := by decide +kernel
theorem dX6_init_72 : decode cX6_init 72 = .ok (.istore_n 3, 1) := by decide +kernel
theorem dX6_init_73 : decode cX6_init 73 = .ok (.iload_n 3, 1) := by decide +kernel
theorem dX6_init_74 : decode cX6_init 74 = .ok (.aload_n 0, 1) := by decide +kernel
theorem dX6_init_75 : decode cX6_init 75 = .ok (.getfield 28, 3) := by decide +kernel
theorem dX6_init_78 : decode cX6_init 78 = .ok (.arraylength, 1) := by decide +kernel
theorem dX6_init_79 : decode cX6_init 79 = .ok (.if_icmp .ge 40, 3) := by decide +kernel
theorem dX6_init_82 : decode cX6_init 82 = .ok (.aload_n 0, 1) := by decide +kernel
theorem dX6_init_83 : decode cX6_init 83 = .ok (.getfield 28, 3) := by decide +kernel
theorem dX6_init_86 : decode cX6_init 86 = .ok (.iload_n 3, 1) := by decide +kernel
theorem dX6_init_87 : decode cX6_init 87 = .ok (.new 26, 3) := by decide +kernel
theorem dX6_init_90 : decode cX6_init 90 = .ok (.dup, 1) := by decide +kernel
theorem dX6_init_91 : decode cX6_init 91 = .ok (.aload_n 0, 1) := by decide +kernel
theorem dX6_init_92 : decode cX6_init 92 = .ok (.getfield 19, 3) := by decide +kernel
theorem dX6_init_95 : decode cX6_init 95 = .ok (.iload_n 3, 1) := by decide +kernel
theorem dX6_init_96 : decode cX6_init 96 = .ok (.aaload, 1) := by decide +kernel
theorem dX6_init_97 : decode cX6_init 97 = .ok (.aload_n 0, 1) := by decide +kernel
theorem dX6_init_98 : decode cX6_init 98 = .ok (.getfield 19, 3) := by decide +kernel
theorem dX6_init_101 : decode cX6_init 101 = .ok (.iload_n 3, 1) := by decide +kernel
theorem dX6_init_102 : decode cX6_init 102 = .ok (.iconst 1, 1) := by decide +kernel
theorem dX6_init_103 : decode cX6_init 103 = .ok (.iadd, 1) := by decide +kernel
theorem dX6_init_104 : decode cX6_init 104 = .ok (.aaload, 1) := by decide +kernel
theorem dX6_init_105 : decode cX6_init 105 = .ok (.aload_n 0, 1) := by decide +kernel
theorem dX6_init_106 : decode cX6_init 106 = .ok (.getfield 13, 3) := by decide +kernel
theorem dX6_init_109 : decode cX6_init 109 = .ok (.invokespecial 32, 3) := by decide +kernel
theorem dX6_init_112 : decode cX6_init 112 = .ok (.aastore, 1) := by decide +kernel
theorem dX6_init_113 : decode cX6_init 113 = .ok (.iinc 3 1, 3) := by decide +kernel
theorem dX6_init_116 : decode cX6_init 116 = .ok (.goto (-43), 3) := by decide +kernel
theorem dX6_init_119 : decode cX6_init 119 = .ok (.aload_n 0, 1) := by decide +kernel
theorem dX6_init_120 : decode cX6_init 120 = .ok (.new 35, 3) := by decide +kernel
theorem dX6_init_123 : decode cX6_init 123 = .ok (.dup, 1) := by decide +kernel
theorem dX6_init_124 : decode cX6_init 124 = .ok (.invokespecial 37, 3) := by decide +kernel
theorem dX6_init_127 : decode cX6_init 127 = .ok (.putfield 38, 3) := by decide +kernel
theorem dX6_init_130 : decode cX6_init 130 = .ok (.aload_n 0, 1) := by decide +kernel
theorem dX6_init_131 : decode cX6_init 131 = .ok (.new 42, 3) := by decide +kernel
theorem dX6_init_134 : decode cX6_init 134 = .ok (.dup, 1) := by decide +kernel
theorem dX6_init_135 : decode cX6_init 135 = .ok (.invokespecial 44, 3) := by decide +kernel
theorem dX6_init_138 : decode cX6_init 138 = .ok (.putfield 45, 3) := by decide +kernel
theorem dX6_init_141 : decode cX6_init 141 = .ok (.aload_n 0, 1) := by decide +kernel
theorem dX6_init_142 : decode cX6_init 142 = .ok (.new 42, 3) := by decide +kernel
theorem dX6_init_145 : decode cX6_init 145 = .ok (.dup, 1) := by decide +kernel
theorem dX6_init_146 : decode cX6_init 146 = .ok (.invokespecial 44, 3) := by decide +kernel
theorem dX6_init_149 : decode cX6_init 149 = .ok (.putfield 49, 3) := by decide +kernel
theorem dX6_init_152 : decode cX6_init 152 = .ok (.return_, 1) := by decide +kernel
abbrev rm_X6_init : Room := { frames := 6, cells := 130, slots := 900, locals := 200 }
theorem hw_X6_init_1 : (Cond.methodLink RX6 1 objectInit) ∈ wsX6_init := List.mem_of_getElem? (i := 1) rfl
theorem hw_X6_init_2 : (Cond.instanceMethod objectInit) ∈ wsX6_init := List.mem_of_getElem? (i := 2) rfl
theorem hw_X6_init_3 : (Cond.code objectInit ⟨#[0xb1]⟩ 1 none) ∈ wsX6_init := List.mem_of_getElem? (i := 3) rfl
theorem hw_X6_init_4 : (Cond.fieldLink RX6 13 "PlankUnroll" "frames" "I") ∈ wsX6_init := List.mem_of_getElem? (i := 4) rfl
theorem hw_X6_init_5 : (Cond.classLink RX6 17 RX4) ∈ wsX6_init := List.mem_of_getElem? (i := 5) rfl
theorem hw_X6_init_6 : (Cond.fieldLink RX6 19 "PlankUnroll" "rows" "[LPlankUnroll$Row;") ∈ wsX6_init := List.mem_of_getElem? (i := 6) rfl
theorem hw_X6_init_7 : (Cond.instantiable RX4 1) ∈ wsX6_init := List.mem_of_getElem? (i := 7) rfl
theorem hw_X6_init_8 : (Cond.initialized RX4) ∈ wsX6_init := List.mem_of_getElem? (i := 8) rfl
theorem hw_X6_init_9 : (Cond.classLink RX6 26 RX5) ∈ wsX6_init := List.mem_of_getElem? (i := 9) rfl
theorem hw_X6_init_10 : (Cond.fieldLink RX6 28 "PlankUnroll" "strips" "[LPlankUnroll$Strip;") ∈ wsX6_init := List.mem_of_getElem? (i := 10) rfl
theorem hw_X6_init_11 : (Cond.instantiable RX5 9) ∈ wsX6_init := List.mem_of_getElem? (i := 11) rfl
theorem hw_X6_init_12 : (Cond.initialized RX5) ∈ wsX6_init := List.mem_of_getElem? (i := 12) rfl
theorem hw_X6_init_13 : (Cond.classLink RX6 35 RJx4a65c) ∈ wsX6_init := List.mem_of_getElem? (i := 13) rfl
theorem hw_X6_init_14 : (Cond.instantiable RJx4a65c 3) ∈ wsX6_init := List.mem_of_getElem? (i := 14) rfl
theorem hw_X6_init_15 : (Cond.initialized RJx4a65c) ∈ wsX6_init := List.mem_of_getElem? (i := 15) rfl
theorem hw_X6_init_16 : (Cond.fieldLink RX6 38 "PlankUnroll" "boards" "Ljava/util/ArrayList;") ∈ wsX6_init := List.mem_of_getElem? (i := 16) rfl
theorem hw_X6_init_17 : (Cond.classLink RX6 42 RX2) ∈ wsX6_init := List.mem_of_getElem? (i := 17) rfl
theorem hw_X6_init_18 : (Cond.instantiable RX2 3) ∈ wsX6_init := List.mem_of_getElem? (i := 18) rfl
theorem hw_X6_init_19 : (Cond.initialized RX2) ∈ wsX6_init := List.mem_of_getElem? (i := 19) rfl
theorem hw_X6_init_20 : (Cond.fieldLink RX6 45 "PlankUnroll" "nea\x72" "LPlankUnroll$Normal;") ∈ wsX6_init := List.mem_of_getElem? (i := 20) rfl
theorem hw_X6_init_21 : (Cond.fieldLink RX6 49 "PlankUnroll" "fa\x72" "LPlankUnroll$Normal;") ∈ wsX6_init := List.mem_of_getElem? (i := 21) rfl
theorem hw_X6_init_33 : (Cond.methodLink RX6 23 yX4_init) ∈ wsX6_init := List.mem_of_getElem? (i := 33) rfl
theorem hw_X6_init_34 : (Cond.instanceMethod yX4_init) ∈ wsX6_init := List.mem_of_getElem? (i := 34) rfl
theorem hw_X6_init_44 : (Cond.methodLink RX6 32 yX5_init) ∈ wsX6_init := List.mem_of_getElem? (i := 44) rfl
theorem hw_X6_init_45 : (Cond.instanceMethod yX5_init) ∈ wsX6_init := List.mem_of_getElem? (i := 45) rfl
theorem hw_X6_init_69 : (Cond.methodLink RX6 37 yJx4a65c_init_da8c8) ∈ wsX6_init := List.mem_of_getElem? (i := 69) rfl
theorem hw_X6_init_70 : (Cond.instanceMethod yJx4a65c_init_da8c8) ∈ wsX6_init := List.mem_of_getElem? (i := 70) rfl
theorem hw_X6_init_84 : (Cond.instanceMethod yX2_init) ∈ wsX6_init := List.mem_of_getElem? (i := 84) rfl
theorem in_X6_init_Jx4a65c : ∀ w ∈ wsJx4a65c0, w ∈ wsX6_init := by decide +kernel
theorem in_X6_init_X2 : ∀ w ∈ wsX20, w ∈ wsX6_init := by decide +kernel
theorem in_X6_init_X4 : ∀ w ∈ wsX40, w ∈ wsX6_init := by decide +kernel
theorem in_X6_init_X5 : ∀ w ∈ wsX50, w ∈ wsX6_init := by decide +kernel
theorem in_X6_init_X6 : ∀ w ∈ wsX60, w ∈ wsX6_init := by decide +kernel
set_option maxHeartbeats 4000000 in
set_option maxRecDepth 100000 in
/-- a new object -/
theorem c_X6_init {l : Launch} {G : va_G} {ty : Nat → ClassId} {b0 : Nat} {H : Heap} {q0 F R : Nat} {f r : Int32} (hF : xCl f = F) (hR : xCl r = R) (hq0 : b0 ≤ q0) (hc0 : xc G q0 (.inr (7, [.int (nI 0), .null, .null, .null, .null, .null])) H) : xMet l yX6_init wsX6_init rm_X6_init G ty b0 [.ref q0, .int (f), .int (r)] H (fun v H1 => v = none ∧ xc G q0 (.inr (7, [.int (nI F), .ref (H.size + 0), .ref (H.size + (xof F R)), .ref (H.size + (xof F R + 1 + 5 * (R - 1))), .ref (H.size + (xof F R + 1 + 5 * (R - 1) + 1)), .ref (H.size + (xof F R + 1 + 5 * (R - 1) + 1 + 1))])) H1 ∧ xc G (H.size + 0) (.inl (ty 5, R, .inr (.inr (.inr (.inr (fun j => some (H.size + xof F j))))))) H1 ∧ xc G (H.size + (xof F R)) (.inl (ty 6, R - 1, .inr (.inr (.inr (.inr (fun j => some (H.size + (xof F R + 1 + 5 * j)))))))) H1 ∧ (∀ j : Nat, j < R → xRow G ty (H.size + xof F j) (H.size + xof F j + 1) F H1) ∧ (∀ j : Nat, j < R - 1 → xStp G ty (H.size + (xof F R + 1 + 5 * j)) (H.size + xof F j) (H.size + xof F (j + 1)) (H.size + (xof F R + 1 + 5 * j) + 1) F H1) ∧ xc G (H.size + (xof F R + 1 + 5 * (R - 1))) (.inr (0, [.int (nI 0), .ref (ty 8), .int (nI 0)])) H1 ∧ xc G (H.size + (xof F R + 1 + 5 * (R - 1) + 1)) (.inr (3, [.double FP.dconst0, .double FP.dconst0, .double FP.dconst0])) H1 ∧ xc G (H.size + (xof F R + 1 + 5 * (R - 1) + 1 + 1)) (.inr (3, [.double FP.dconst0, .double FP.dconst0, .double FP.dconst0])) H1 ∧ H1.size = H.size + (xof F R + 1 + 5 * (R - 1) + 1 + 1 + 1) ∧ xOld q0 H H1) (fun _ _ => False) := by
  refine xbody (cc := cX6_init) (maxL := 4) (ret := none) (C := RX6) (lv := [(0, .ref q0), (1, .int (f)), (2, .int (r))]) (by decide) rfl rfl (Nat.le_of_ble_eq_true rfl) rfl ?_
  intro p e s m below meth c d0 hx hb hr hts hown hlocks hml hxt hnm0 hK hb0 hH0 hS hd0 ls hl
  have hbH : b0 ≤ H.size := by rw [← hH0]; exact hb0
  have hlq : q0 < H.size := hc0.lt
  have hF2 := (xCl_sz f).1
  have hF8 := (xCl_sz f).2
  have hR2 := (xCl_sz r).1
  have hR8 := (xCl_sz r).2
  rw [hF] at hF2 hF8
  rw [hR] at hR2 hR8
  have hx1 := xof_pos (F := F) R
  refine lv_aload_n hx hb dX6_init_0 rfl (lv_at hl 0 rfl) ?_
  refine xobj (s := s.setDrawn d0) hx hb hown hml hl.1 (hts d0 _ hw_X6_init_1) (hts d0 _ hw_X6_init_2) (hts d0 _ hw_X6_init_3) dX6_init_1 (Nat.le_of_ble_eq_true rfl) (Nat.le_of_ble_eq_true rfl) ?_
  refine lv_aload_n hx hb dX6_init_4 rfl (lv_at hl 0 rfl) ?_
  refine lv_iload_n hx hb dX6_init_5 rfl (lv_at hl 1 rfl) ?_
  have cw_1 := va_cwS (R := rm_X6_init) (rm := rm_X6_nearestSize) 1 (hts d0) gX6_init_X6_nearestSize rfl rfl rfl (by decide +kernel) ⟨Nat.le_of_ble_eq_true rfl, Nat.le_of_ble_eq_true rfl⟩
  refine xcall hd0 (xintoS (As := [.int (f)]) (rest := [.ref q0]) ⟨hx, hb, hml, hown, hts _⟩ cw_1 rfl rfl hl.1 rfl (lv_room (Nat.le_of_ble_eq_true rfl)) dX6_init_6) (c_X6_nearestSize (l := l) (G := G) (ty := ty) (b0 := b0) (n := f)) (xoweB cw_1.1) hK hb0 hS (show 0 + 0 ≤ 130 by omega) (show 0 + 0 ≤ 900 by omega) (fun E_1 ce_1 q9_1 H_1 locs_1 d0 hd0 hp_1 hS hce_1 hcv_1 hcl_1 => ?_) (fun v_1 H_1 locs_1 d0 hd0 hp_1 hS => ?_)
  · exact hp_1.elim
  · obtain ⟨rfl, rfl⟩ := hp_1
    rw [hF]
    show W p l e _ (s.setDrawn _) m _ below meth c _ _ _ _ _ (F0 m 9 ls [.int (nI F), .ref q0])
    refine xputF (G := G) (ci := 7) (v := .int (nI F)) (ty := .int) (C := RX6) (T := TX6) (N := 6) hx hb (hts d0) in_X6_init_X6 tyX6 tyX6_ok nmX6 hown hK.1 hc0 hS hq0 rfl 0 (by decide) (hts d0 _ hw_X6_init_4) (fun _ h9 => h9) rfl hnm0 rfl (by decide +kernel) rfl rfl (Nat.le_of_ble_eq_true rfl) dX6_init_9 (fun H_2 locs_2 hs_2 hS => ?_)
    have hc_2 : xc G q0 (.inr (7, [.int (nI F), .null, .null, .null, .null, .null])) H_2 := hs_2.1
    have hz_2 : H_2.size = H.size + 0 := hs_2.2.1.trans rfl
    have hfr_2 : xOld q0 H H_2 := xOld.put xOld.rf hs_2 (Or.inl rfl)
    refine lv_aload_n hx hb dX6_init_12 rfl (lv_at hl 0 rfl) ?_
    refine lv_iload_n hx hb dX6_init_13 rfl (lv_at hl 2 rfl) ?_
    have cw_3 := va_cwS (R := rm_X6_init) (rm := rm_X6_nearestSize) 1 (hts d0) gX6_init_X6_nearestSize rfl rfl rfl (by decide +kernel) ⟨Nat.le_of_ble_eq_true rfl, Nat.le_of_ble_eq_true rfl⟩
    refine xcall hd0 (xintoS (As := [.int (r)]) (rest := [.ref q0]) ⟨hx, hb, hml, hown, hts _⟩ cw_3 rfl rfl hl.1 rfl (lv_room (Nat.le_of_ble_eq_true rfl)) dX6_init_14) (c_X6_nearestSize (l := l) (G := G) (ty := ty) (b0 := b0) (n := r)) (xoweB cw_3.1) hK hb0 hS (show 0 + 0 + 0 ≤ 130 by omega) (show 0 + 0 + 0 ≤ 900 by omega) (fun E_3 ce_3 q9_3 H_3 locs_3 d0 hd0 hp_3 hS hce_3 hcv_3 hcl_3 => ?_) (fun v_3 H_3 locs_3 d0 hd0 hp_3 hS => ?_)
    · exact hp_3.elim
    · obtain ⟨rfl, rfl⟩ := hp_3
      rw [hR]
      show W p l e _ (s.setDrawn _) m _ below meth c _ _ _ _ _ (F0 m 17 ls [.int (nI R), .ref q0])
      refine xnewq (G := G) (s := s.setDrawn d0) (C := "PlankUnroll$Row") hx hb hown (hts d0 _ hw_X6_init_5) (va_AO.moved (Vm.Alike.refl _) (hK.2.2.2.2.2.2.2.2.2.1 "PlankUnroll$Row" (by decide))) hK.1 5 rfl hS (by omega) (show 0 + 0 + 0 + 1 ≤ 130 by omega) (show 0 + 0 + 0 + R ≤ 900 by omega) dX6_init_17 (fun q_4 H_4 hg_4 hS => ?_)
      have e_4 : q_4 = H.size + 0 := hg_4.2.1.symm.trans hz_2
      subst e_4
      have hz_4 : H_4.size = H.size + 1 := hg_4.2.2.1
      have hfr_4 : xOld q0 H H_4 := xOld.grow hfr_2 hg_4
      refine xputF (G := G) (ci := 7) (v := .ref (H.size + 0)) (ty := (.array (.object "PlankUnroll$Row"))) (C := RX6) (T := TX6) (N := 6) hx hb (hts d0) in_X6_init_X6 tyX6 tyX6_ok nmX6 hown hK.1 (hg_4.keep hc_2) hS hq0 rfl 1 (by decide) (hts d0 _ hw_X6_init_6) (fun _ h9 => h9) rfl hnm0 rfl (by decide +kernel) rfl rfl (Nat.le_of_ble_eq_true rfl) dX6_init_20 (fun H_5 locs_5 hs_5 hS => ?_)
      have hc_5 : xc G q0 (.inr (7, [.int (nI F), .ref (H.size + 0), .null, .null, .null, .null])) H_5 := hs_5.1
      have hz_5 : H_5.size = H.size + 1 := hs_5.2.1.trans hz_4
      have hfr_5 : xOld q0 H H_5 := xOld.put hfr_4 hs_5 (Or.inl rfl)
      refine lv_iconst (v := nI 0) hx hb dX6_init_23 (by decide) ?_
      refine lv_istore_n (lv' := [(3, .int (nI 0)), (0, .ref q0), (1, .int (f)), (2, .int (r))]) hx hb dX6_init_24 rfl hl (by decide) rfl (fun ls hl => ?_)
      suffices K : ∀ (u9 : Nat) (k : Nat) (ct9 sl9 : Nat) (H9 : Heap) (locs : List Loc) (d0 : Drawn) (ls : Array Slot), (k + u9 = R ∧ ct9 ≤ 1 + 10 * k ∧ sl9 ≤ R + 41 * k ∧ xc G q0 (.inr (7, [.int (nI F), .ref (H.size + 0), .null, .null, .null, .null])) H9 ∧ xc G (H.size + 0) (.inl (ty 5, R, .inr (.inr (.inr (.inr (xsq (fun j => H.size + xof F j) k)))))) H9 ∧ (∀ j : Nat, j < k → xRow G ty (H.size + xof F j) (H.size + xof F j + 1) F H9) ∧ H9.size = H.size + xof F k ∧ xOld q0 H H9) → va_S (xA b0) s.heap H9 locs → s.drawn.sameBut d0 lw_cs → lv_has ls 4 [(3, .int (nI k)), (0, .ref q0)] → W p l e rm_X6_init (s.setDrawn d0) m [Value.ref q0, Value.int (f), Value.int (r)].toArray below meth c H9 locs ct9 sl9 (xMQ below (fun v H1 => v = none ∧ xc G q0 (.inr (7, [.int (nI F), .ref (H.size + 0), .ref (H.size + (xof F R)), .ref (H.size + (xof F R + 1 + 5 * (R - 1))), .ref (H.size + (xof F R + 1 + 5 * (R - 1) + 1)), .ref (H.size + (xof F R + 1 + 5 * (R - 1) + 1 + 1))])) H1 ∧ xc G (H.size + 0) (.inl (ty 5, R, .inr (.inr (.inr (.inr (fun j => some (H.size + xof F j))))))) H1 ∧ xc G (H.size + (xof F R)) (.inl (ty 6, R - 1, .inr (.inr (.inr (.inr (fun j => some (H.size + (xof F R + 1 + 5 * j)))))))) H1 ∧ (∀ j : Nat, j < R → xRow G ty (H.size + xof F j) (H.size + xof F j + 1) F H1) ∧ (∀ j : Nat, j < R - 1 → xStp G ty (H.size + (xof F R + 1 + 5 * j)) (H.size + xof F j) (H.size + xof F (j + 1)) (H.size + (xof F R + 1 + 5 * j) + 1) F H1) ∧ xc G (H.size + (xof F R + 1 + 5 * (R - 1))) (.inr (0, [.int (nI 0), .ref (ty 8), .int (nI 0)])) H1 ∧ xc G (H.size + (xof F R + 1 + 5 * (R - 1) + 1)) (.inr (3, [.double FP.dconst0, .double FP.dconst0, .double FP.dconst0])) H1 ∧ xc G (H.size + (xof F R + 1 + 5 * (R - 1) + 1 + 1)) (.inr (3, [.double FP.dconst0, .double FP.dconst0, .double FP.dconst0])) H1 ∧ H1.size = H.size + (xof F R + 1 + 5 * (R - 1) + 1 + 1 + 1) ∧ xOld q0 H H1) (fun _ _ => False) [.ref q0, .int (f), .int (r)].toArray s rm_X6_init b0) (F0 m 25 ls []) from K R 0 (0 + 0 + 0 + 1) (0 + 0 + 0 + R) H_5 _ d0 ls ⟨by omega, by omega, by omega, hc_5, (xsq_0 (g := fun j => H.size + xof F j)) ▸ (hg_4.1.kept (hs_5.2.2 _ (Nat.ne_of_gt (Nat.lt_add_right _ hlq)))), fun _ h => absurd h (Nat.not_lt_zero _), by rw [hz_5]; rfl, hfr_5⟩ hS hd0 (lv_sub hl [0, 1] rfl)
      intro u9
      induction u9 with
      | zero =>
        intro k ct9 sl9 H9 locs d0 ls hinv hS hd0 hl
        obtain ⟨hk, hct, hsl, h_o, h_a, hrw, hz9, hfr9⟩ := hinv
        have hxk := xof_pos (F := F) k
        refine lv_iload_n hx hb dX6_init_25 rfl (lv_at hl 0 rfl) ?_
        refine lv_aload_n hx hb dX6_init_26 rfl (lv_at hl 1 rfl) ?_
        refine va_get (D := G) (cl := vwCl) (ci := 7) (v := .ref (H.size + 0)) (C := RX6) (T := TX6) (N := 6) hx hb (hts d0) in_X6_init_X6 hown hK.1 (x1 h_o) 0 rfl rfl 1 (by decide) (hts d0 _ hw_X6_init_6) (fun _ h9 => h9) rfl dX6_init_27 ?_
        refine xalen hx hb hK.1 5 h_a rfl dX6_init_30 ?_
        refine xicmpN_ge (tgt := 57) hx hb (by omega) (by omega) dX6_init_31 (by decide) (fun _ => ?_) (fun h9 => absurd h9 (by omega))
        have ek9 : k = R := by omega
        rw [ek9] at h_a hrw hz9
        have hct2 : ct9 ≤ 81 := by omega
        have hsl2 : sl9 ≤ 336 := by omega
        have h_b := xsq_all h_a
        refine lv_aload_n hx hb dX6_init_57 rfl (lv_at hl 1 rfl) ?_
        refine lv_aload_n hx hb dX6_init_58 rfl (lv_at hl 1 rfl) ?_
        refine va_get (D := G) (cl := vwCl) (ci := 7) (v := .ref (H.size + 0)) (C := RX6) (T := TX6) (N := 6) hx hb (hts d0) in_X6_init_X6 hown hK.1 (x1 h_o) 0 rfl rfl 1 (by decide) (hts d0 _ hw_X6_init_6) (fun _ h9 => h9) rfl dX6_init_59 ?_
        refine xalen hx hb hK.1 5 h_b rfl dX6_init_62 ?_
        refine lv_iconst (v := nI 1) hx hb dX6_init_63 (by decide) ?_
        refine xisubN hx hb (by omega) dX6_init_64 ?_
        refine xnewq (G := G) (s := s.setDrawn d0) (C := "PlankUnroll$Strip") hx hb hown (hts d0 _ hw_X6_init_9) (va_AO.moved (Vm.Alike.refl _) (hK.2.2.2.2.2.2.2.2.2.1 "PlankUnroll$Strip" (by decide))) hK.1 6 rfl hS (by omega) (show ct9 + 1 ≤ 130 by omega) (show sl9 + (R - 1) ≤ 900 by omega) dX6_init_65 (fun q_7 H_7 hg_7 hS => ?_)
        have e_7 : q_7 = H.size + (xof F R) := hg_7.2.1.symm.trans hz9
        subst e_7
        have hz_7 : H_7.size = H.size + ((xof F R) + 1) := (by rw [hg_7.2.2.1]; omega)
        have hfr_7 : xOld q0 H H_7 := xOld.grow hfr9 hg_7
        refine xputF (G := G) (ci := 7) (v := .ref (H.size + (xof F R))) (ty := (.array (.object "PlankUnroll$Strip"))) (C := RX6) (T := TX6) (N := 6) hx hb (hts d0) in_X6_init_X6 tyX6 tyX6_ok nmX6 hown hK.1 (hg_7.keep h_o) hS hq0 rfl 2 (by decide) (hts d0 _ hw_X6_init_10) (fun _ h9 => h9) rfl hnm0 rfl (by decide +kernel) rfl rfl (Nat.le_of_ble_eq_true rfl) dX6_init_68 (fun H_8 locs_8 hs_8 hS => ?_)
        have hc_8 : xc G q0 (.inr (7, [.int (nI F), .ref (H.size + 0), .ref (H.size + (xof F R)), .null, .null, .null])) H_8 := hs_8.1
        have hz_8 : H_8.size = H.size + ((xof F R) + 1) := hs_8.2.1.trans hz_7
        have hfr_8 : xOld q0 H H_8 := xOld.put hfr_7 hs_8 (Or.inl rfl)
        refine lv_iconst (v := nI 0) hx hb dX6_init_71 (by decide) ?_
        refine lv_istore_n (lv' := [(3, .int (nI 0)), (0, .ref q0)]) hx hb dX6_init_72 rfl hl (by decide) rfl (fun ls hl => ?_)
        have hko : ∀ q : Nat, H.size < q → q < H.size + xof F R → H_8[q]? = H9[q]? := fun q h1 h2 => (hs_8.2.2 q (by omega)).trans (hg_7.2.2.2 q (by omega))
        suffices K : ∀ (v9 : Nat) (k : Nat) (ct9 sl9 : Nat) (H9 : Heap) (locs : List Loc) (d0 : Drawn) (ls : Array Slot), (k + v9 = R - 1 ∧ ct9 ≤ 82 + 5 * k ∧ sl9 ≤ 343 + 69 * k ∧ xc G q0 (.inr (7, [.int (nI F), .ref (H.size + 0), .ref (H.size + (xof F R)), .null, .null, .null])) H9 ∧ xc G (H.size + 0) (.inl (ty 5, R, .inr (.inr (.inr (.inr (fun j => some (H.size + xof F j))))))) H9 ∧ xc G (H.size + (xof F R)) (.inl (ty 6, R - 1, .inr (.inr (.inr (.inr (xsq (fun j => H.size + (xof F R + 1 + 5 * j)) k)))))) H9 ∧ (∀ j : Nat, j < R → xRow G ty (H.size + xof F j) (H.size + xof F j + 1) F H9) ∧ (∀ j : Nat, j < k → xStp G ty (H.size + (xof F R + 1 + 5 * j)) (H.size + xof F j) (H.size + xof F (j + 1)) (H.size + (xof F R + 1 + 5 * j) + 1) F H9) ∧ H9.size = H.size + (xof F R + 1 + 5 * k) ∧ xOld q0 H H9) → va_S (xA b0) s.heap H9 locs → s.drawn.sameBut d0 lw_cs → lv_has ls 4 [(3, .int (nI k)), (0, .ref q0)] → W p l e rm_X6_init (s.setDrawn d0) m [Value.ref q0, Value.int (f), Value.int (r)].toArray below meth c H9 locs ct9 sl9 (xMQ below (fun v H1 => v = none ∧ xc G q0 (.inr (7, [.int (nI F), .ref (H.size + 0), .ref (H.size + (xof F R)), .ref (H.size + (xof F R + 1 + 5 * (R - 1))), .ref (H.size + (xof F R + 1 + 5 * (R - 1) + 1)), .ref (H.size + (xof F R + 1 + 5 * (R - 1) + 1 + 1))])) H1 ∧ xc G (H.size + 0) (.inl (ty 5, R, .inr (.inr (.inr (.inr (fun j => some (H.size + xof F j))))))) H1 ∧ xc G (H.size + (xof F R)) (.inl (ty 6, R - 1, .inr (.inr (.inr (.inr (fun j => some (H.size + (xof F R + 1 + 5 * j)))))))) H1 ∧ (∀ j : Nat, j < R → xRow G ty (H.size + xof F j) (H.size + xof F j + 1) F H1) ∧ (∀ j : Nat, j < R - 1 → xStp G ty (H.size + (xof F R + 1 + 5 * j)) (H.size + xof F j) (H.size + xof F (j + 1)) (H.size + (xof F R + 1 + 5 * j) + 1) F H1) ∧ xc G (H.size + (xof F R + 1 + 5 * (R - 1))) (.inr (0, [.int (nI 0), .ref (ty 8), .int (nI 0)])) H1 ∧ xc G (H.size + (xof F R + 1 + 5 * (R - 1) + 1)) (.inr (3, [.double FP.dconst0, .double FP.dconst0, .double FP.dconst0])) H1 ∧ xc G (H.size + (xof F R + 1 + 5 * (R - 1) + 1 + 1)) (.inr (3, [.double FP.dconst0, .double FP.dconst0, .double FP.dconst0])) H1 ∧ H1.size = H.size + (xof F R + 1 + 5 * (R - 1) + 1 + 1 + 1) ∧ xOld q0 H H1) (fun _ _ => False) [.ref q0, .int (f), .int (r)].toArray s rm_X6_init b0) (F0 m 73 ls []) from K (R - 1) 0 (ct9 + 1) (sl9 + (R - 1)) H_8 _ d0 ls ⟨by omega, by omega, by omega, hc_8, ((hg_7.keep h_b).kept (hs_8.2.2 _ (Nat.ne_of_gt (Nat.lt_add_right _ hlq)))), (xsq_0 (g := (fun j => H.size + (xof F R + 1 + 5 * j)))) ▸ (hg_7.1.kept (hs_8.2.2 _ (Nat.ne_of_gt (Nat.lt_add_right _ hlq)))), (fun j hj => by have := xof_lt (F := F) (show j < R by omega); have := xof_pos (F := F) j; exact (hrw j hj).kept (hko _ (by omega) (by omega)) (fun q a b => hko q (by omega) (by omega))), fun _ h => absurd h (Nat.not_lt_zero _), by rw [hz_8], hfr_8⟩ hS hd0 (lv_sub hl [0, 1] rfl)
        intro v9
        induction v9 with
        | zero =>
          intro k ct9 sl9 H9 locs d0 ls hinv hS hd0 hl
          obtain ⟨hk, hct, hsl, h_o, h_b, h_a, hrw, hst, hz9, hfr9⟩ := hinv
          refine lv_iload_n hx hb dX6_init_73 rfl (lv_at hl 0 rfl) ?_
          refine lv_aload_n hx hb dX6_init_74 rfl (lv_at hl 1 rfl) ?_
          refine va_get (D := G) (cl := vwCl) (ci := 7) (v := .ref (H.size + (xof F R))) (C := RX6) (T := TX6) (N := 6) hx hb (hts d0) in_X6_init_X6 hown hK.1 (x1 h_o) 0 rfl rfl 2 (by decide) (hts d0 _ hw_X6_init_10) (fun _ h9 => h9) rfl dX6_init_75 ?_
          refine xalen hx hb hK.1 6 h_a rfl dX6_init_78 ?_
          refine xicmpN_ge (tgt := 119) hx hb (by omega) (by omega) dX6_init_79 (by decide) (fun _ => ?_) (fun h9 => absurd h9 (by omega))
          have ek8 : k = R - 1 := by omega
          rw [ek8] at h_a hst hz9
          have hct3 : ct9 ≤ 117 := by omega
          have hsl3 : sl9 ≤ 826 := by omega
          have h_s := xsq_all h_a
          refine lv_aload_n hx hb dX6_init_119 rfl (lv_at hl 1 rfl) ?_
          refine xnew (G := G) (s := s.setDrawn d0) (fs := [.int (nI 0), .null, .int (nI 0)]) hx hb (hts d0) in_X6_init_Jx4a65c tyJx4a65c tyJx4a65c_ok hown (hts d0 _ hw_X6_init_13) (hts d0 _ hw_X6_init_14) (hts d0 _ hw_X6_init_15) hK.1 hS (ci := 0) rfl nB_Jx4a65c (show ct9 + 1 ≤ 130 by omega) (show sl9 + 3 ≤ 900 by omega) dX6_init_120 (fun q_10 H_10 hg_10 hS => ?_)
          have e_10 : q_10 = H.size + (xof F R + 1 + 5 * (R - 1)) := hg_10.2.1.symm.trans hz9
          subst e_10
          have hz_10 : H_10.size = H.size + ((xof F R + 1 + 5 * (R - 1)) + 1) := (by rw [hg_10.2.2.1]; omega)
          have hfr_10 : xOld q0 H H_10 := xOld.grow hfr9 hg_10
          refine lv_dup hx hb dX6_init_123 rfl ?_
          have cw_11 := cwI (R := rm_X6_init) (rm := rm_Jx4a65c_init_da8c8) 0 (hts d0) gX6_init_Jx4a65c_init_da8c8 rfl rfl rfl (hts d0 _ hw_X6_init_15) (hts d0 _ hw_X6_init_69) (hts d0 _ hw_X6_init_70) rfl (by decide +kernel) ⟨Nat.le_of_ble_eq_true rfl, Nat.le_of_ble_eq_true rfl⟩
          refine xcall hd0 (xintoI (b := (H.size + (xof F R + 1 + 5 * (R - 1)))) (As := []) (rest := [.ref (H.size + (xof F R + 1 + 5 * (R - 1))), .ref q0]) ⟨hx, hb, hml, hown, hts _⟩ cw_11 rfl rfl hl.1 rfl (lv_room (Nat.le_of_ble_eq_true rfl)) dX6_init_124) (c_Jx4a65c_init_da8c8 (l := l) (G := G) (ty := ty) (b0 := b0) (Nat.le_trans hbH (Nat.le_add_right _ _)) hg_10.1) (xoweB cw_11.1) hK hb0 hS (show ct9 + 1 + 0 ≤ 130 by omega) (show sl9 + 3 + 0 ≤ 900 by omega) (fun E_11 ce_11 q9_11 H_11 locs_11 d0 hd0 hp_11 hS hce_11 hcv_11 hcl_11 => ?_) (fun v_11 H_11 locs_11 d0 hd0 hp_11 hS => ?_)
          · exact hp_11.elim
          · obtain ⟨rfl, hs_11⟩ := hp_11
            have hc_11 : xc G (H.size + (xof F R + 1 + 5 * (R - 1))) (.inr (0, [.int (nI 0), .ref (ty 8), .int (nI 0)])) H_11 := hs_11.1
            have hz_11 : H_11.size = H.size + ((xof F R + 1 + 5 * (R - 1)) + 1) := hs_11.2.1.trans hz_10
            have hfr_11 : xOld q0 H H_11 := xOld.put hfr_10 hs_11 (Or.inr (Nat.le_add_right _ _))
            show W p l e _ (s.setDrawn _) m _ below meth c _ _ _ _ _ (F0 m 127 ls [.ref (H.size + (xof F R + 1 + 5 * (R - 1))), .ref q0])
            refine xputF (G := G) (ci := 7) (v := .ref (H.size + (xof F R + 1 + 5 * (R - 1)))) (ty := (.object "java/util/ArrayList")) (C := RX6) (T := TX6) (N := 6) hx hb (hts d0) in_X6_init_X6 tyX6 tyX6_ok nmX6 hown hK.1 ((hg_10.keep h_o).kept (hs_11.2.2 _ (Nat.ne_of_lt (Nat.lt_add_right _ hlq)))) hS hq0 rfl 3 (by decide) (hts d0 _ hw_X6_init_16) (fun _ h9 => h9) rfl hnm0 rfl (by decide +kernel) rfl rfl (Nat.le_of_ble_eq_true rfl) dX6_init_127 (fun H_12 locs_12 hs_12 hS => ?_)
            have hc_12 : xc G q0 (.inr (7, [.int (nI F), .ref (H.size + 0), .ref (H.size + (xof F R)), .ref (H.size + (xof F R + 1 + 5 * (R - 1))), .null, .null])) H_12 := hs_12.1
            have hz_12 : H_12.size = H.size + ((xof F R + 1 + 5 * (R - 1)) + 1) := hs_12.2.1.trans hz_11
            have hfr_12 : xOld q0 H H_12 := xOld.put hfr_11 hs_12 (Or.inl rfl)
            refine lv_aload_n hx hb dX6_init_130 rfl (lv_at hl 1 rfl) ?_
            refine xnew (G := G) (s := s.setDrawn d0) (fs := [.double FP.dconst0, .double FP.dconst0, .double FP.dconst0]) hx hb (hts d0) in_X6_init_X2 tyX2 tyX2_ok hown (hts d0 _ hw_X6_init_17) (hts d0 _ hw_X6_init_18) (hts d0 _ hw_X6_init_19) hK.1 hS (ci := 3) rfl nB_X2 (show ct9 + 1 + 0 + 1 ≤ 130 by omega) (show sl9 + 3 + 0 + 3 ≤ 900 by omega) dX6_init_131 (fun q_13 H_13 hg_13 hS => ?_)
            have e_13 : q_13 = H.size + ((xof F R + 1 + 5 * (R - 1)) + 1) := hg_13.2.1.symm.trans hz_12
            subst e_13
            have hz_13 : H_13.size = H.size + (((xof F R + 1 + 5 * (R - 1)) + 1) + 1) := (by rw [hg_13.2.2.1]; omega)
            have hfr_13 : xOld q0 H H_13 := xOld.grow hfr_12 hg_13
            refine lv_dup hx hb dX6_init_134 rfl ?_
            have cw_14 := va_cnB (R := rm_X6_init) (rm := rm_X2_init) (index := 44) 0 (hts d0) gX6_init_X2_init_n44 rfl rfl rfl (va_Nw.same (u := s) rfl rfl (hK.2.2.2.1 _ (List.mem_of_getElem? (i := 2) rfl))) (hts d0 _ hw_X6_init_19) (by decide +kernel) ⟨Nat.le_of_ble_eq_true rfl, Nat.le_of_ble_eq_true rfl⟩
            refine xcall hd0 (xintoIN (b := (H.size + ((xof F R + 1 + 5 * (R - 1)) + 1))) (As := []) (rest := [.ref (H.size + ((xof F R + 1 + 5 * (R - 1)) + 1)), .ref q0]) ⟨hx, hb, hml, hown, hts _⟩ ⟨cw_14, rfl, (hts d0 _ hw_X6_init_84)⟩ rfl rfl hl.1 rfl (lv_room (Nat.le_of_ble_eq_true rfl)) dX6_init_135) (c_X2_init (l := l) (G := G) (ty := ty) (b0 := b0) (q0 := (H.size + ((xof F R + 1 + 5 * (R - 1)) + 1)))) (xoweN cw_14) hK hb0 hS (show ct9 + 1 + 0 + 1 + 0 ≤ 130 by omega) (show sl9 + 3 + 0 + 3 + 0 ≤ 900 by omega) (fun E_14 ce_14 q9_14 H_14 locs_14 d0 hd0 hp_14 hS hce_14 hcv_14 hcl_14 => ?_) (fun v_14 H_14 locs_14 d0 hd0 hp_14 hS => ?_)
            · exact hp_14.elim
            · obtain ⟨rfl, rfl⟩ := hp_14
              show W p l e _ (s.setDrawn _) m _ below meth c _ _ _ _ _ (F0 m 138 ls [.ref (H.size + ((xof F R + 1 + 5 * (R - 1)) + 1)), .ref q0])
              refine xputF (G := G) (ci := 7) (v := .ref (H.size + ((xof F R + 1 + 5 * (R - 1)) + 1))) (ty := (.object "PlankUnroll$Normal")) (C := RX6) (T := TX6) (N := 6) hx hb (hts d0) in_X6_init_X6 tyX6 tyX6_ok nmX6 hown hK.1 (hg_13.keep hc_12) hS hq0 rfl 4 (by decide) (hts d0 _ hw_X6_init_20) (fun _ h9 => h9) rfl hnm0 rfl (by decide +kernel) rfl rfl (Nat.le_of_ble_eq_true rfl) dX6_init_138 (fun H_15 locs_15 hs_15 hS => ?_)
              have hc_15 : xc G q0 (.inr (7, [.int (nI F), .ref (H.size + 0), .ref (H.size + (xof F R)), .ref (H.size + (xof F R + 1 + 5 * (R - 1))), .ref (H.size + ((xof F R + 1 + 5 * (R - 1)) + 1)), .null])) H_15 := hs_15.1
              have hz_15 : H_15.size = H.size + (((xof F R + 1 + 5 * (R - 1)) + 1) + 1) := hs_15.2.1.trans hz_13
              have hfr_15 : xOld q0 H H_15 := xOld.put hfr_13 hs_15 (Or.inl rfl)
              refine lv_aload_n hx hb dX6_init_141 rfl (lv_at hl 1 rfl) ?_
              refine xnew (G := G) (s := s.setDrawn d0) (fs := [.double FP.dconst0, .double FP.dconst0, .double FP.dconst0]) hx hb (hts d0) in_X6_init_X2 tyX2 tyX2_ok hown (hts d0 _ hw_X6_init_17) (hts d0 _ hw_X6_init_18) (hts d0 _ hw_X6_init_19) hK.1 hS (ci := 3) rfl nB_X2 (show ct9 + 1 + 0 + 1 + 0 + 1 ≤ 130 by omega) (show sl9 + 3 + 0 + 3 + 0 + 3 ≤ 900 by omega) dX6_init_142 (fun q_16 H_16 hg_16 hS => ?_)
              have e_16 : q_16 = H.size + (((xof F R + 1 + 5 * (R - 1)) + 1) + 1) := hg_16.2.1.symm.trans hz_15
              subst e_16
              have hz_16 : H_16.size = H.size + ((((xof F R + 1 + 5 * (R - 1)) + 1) + 1) + 1) := (by rw [hg_16.2.2.1]; omega)
              have hfr_16 : xOld q0 H H_16 := xOld.grow hfr_15 hg_16
              refine lv_dup hx hb dX6_init_145 rfl ?_
              have cw_17 := va_cnB (R := rm_X6_init) (rm := rm_X2_init) (index := 44) 0 (hts d0) gX6_init_X2_init_n44 rfl rfl rfl (va_Nw.same (u := s) rfl rfl (hK.2.2.2.1 _ (List.mem_of_getElem? (i := 2) rfl))) (hts d0 _ hw_X6_init_19) (by decide +kernel) ⟨Nat.le_of_ble_eq_true rfl, Nat.le_of_ble_eq_true rfl⟩
              refine xcall hd0 (xintoIN (b := (H.size + (((xof F R + 1 + 5 * (R - 1)) + 1) + 1))) (As := []) (rest := [.ref (H.size + (((xof F R + 1 + 5 * (R - 1)) + 1) + 1)), .ref q0]) ⟨hx, hb, hml, hown, hts _⟩ ⟨cw_17, rfl, (hts d0 _ hw_X6_init_84)⟩ rfl rfl hl.1 rfl (lv_room (Nat.le_of_ble_eq_true rfl)) dX6_init_146) (c_X2_init (l := l) (G := G) (ty := ty) (b0 := b0) (q0 := (H.size + (((xof F R + 1 + 5 * (R - 1)) + 1) + 1)))) (xoweN cw_17) hK hb0 hS (show ct9 + 1 + 0 + 1 + 0 + 1 + 0 ≤ 130 by omega) (show sl9 + 3 + 0 + 3 + 0 + 3 + 0 ≤ 900 by omega) (fun E_17 ce_17 q9_17 H_17 locs_17 d0 hd0 hp_17 hS hce_17 hcv_17 hcl_17 => ?_) (fun v_17 H_17 locs_17 d0 hd0 hp_17 hS => ?_)
              · exact hp_17.elim
              · obtain ⟨rfl, rfl⟩ := hp_17
                show W p l e _ (s.setDrawn _) m _ below meth c _ _ _ _ _ (F0 m 149 ls [.ref (H.size + (((xof F R + 1 + 5 * (R - 1)) + 1) + 1)), .ref q0])
                refine xputF (G := G) (ci := 7) (v := .ref (H.size + (((xof F R + 1 + 5 * (R - 1)) + 1) + 1))) (ty := (.object "PlankUnroll$Normal")) (C := RX6) (T := TX6) (N := 6) hx hb (hts d0) in_X6_init_X6 tyX6 tyX6_ok nmX6 hown hK.1 (hg_16.keep hc_15) hS hq0 rfl 5 (by decide) (hts d0 _ hw_X6_init_21) (fun _ h9 => h9) rfl hnm0 rfl (by decide +kernel) rfl rfl (Nat.le_of_ble_eq_true rfl) dX6_init_149 (fun H_18 locs_18 hs_18 hS => ?_)
                have hc_18 : xc G q0 (.inr (7, [.int (nI F), .ref (H.size + 0), .ref (H.size + (xof F R)), .ref (H.size + (xof F R + 1 + 5 * (R - 1))), .ref (H.size + ((xof F R + 1 + 5 * (R - 1)) + 1)), .ref (H.size + (((xof F R + 1 + 5 * (R - 1)) + 1) + 1))])) H_18 := hs_18.1
                have hz_18 : H_18.size = H.size + ((((xof F R + 1 + 5 * (R - 1)) + 1) + 1) + 1) := hs_18.2.1.trans hz_16
                have hfr_18 : xOld q0 H H_18 := xOld.put hfr_16 hs_18 (Or.inl rfl)
                have hkz : ∀ q : Nat, H.size ≤ q → q < H.size + (xof F R + 1 + 5 * (R - 1)) → H_18[q]? = H9[q]? := fun q h1 h2 => (hs_18.2.2 q (by omega)).trans ((hg_16.2.2.2 q (by omega)).trans ((hs_15.2.2 q (by omega)).trans ((hg_13.2.2.2 q (by omega)).trans ((hs_12.2.2 q (by omega)).trans ((hs_11.2.2 q (by omega)).trans (hg_10.2.2.2 q (by omega)))))))
                exact xvret hd0 hx hb hr hlocks hS (show ct9 + 1 + 0 + 1 + 0 + 1 + 0 ≤ 130 by omega) (show sl9 + 3 + 0 + 3 + 0 + 3 + 0 ≤ 900 by omega) dX6_init_152 ⟨rfl, hc_18, ((hg_16.keep ((hg_13.keep (((hg_10.keep h_b).kept (hs_11.2.2 _ (by omega))).kept (hs_12.2.2 _ (Nat.ne_of_gt (Nat.lt_add_right _ hlq))))).kept (hs_15.2.2 _ (Nat.ne_of_gt (Nat.lt_add_right _ hlq))))).kept (hs_18.2.2 _ (Nat.ne_of_gt (Nat.lt_add_right _ hlq)))), ((hg_16.keep ((hg_13.keep (((hg_10.keep h_s).kept (hs_11.2.2 _ (by omega))).kept (hs_12.2.2 _ (Nat.ne_of_gt (Nat.lt_add_right _ hlq))))).kept (hs_15.2.2 _ (Nat.ne_of_gt (Nat.lt_add_right _ hlq))))).kept (hs_18.2.2 _ (Nat.ne_of_gt (Nat.lt_add_right _ hlq)))), (fun j hj => by have := xof_lt (F := F) (show j < R by omega); exact (hrw j hj).kept (hkz _ (by omega) (by omega)) (fun q a b => hkz q (by omega) (by omega))), (fun j hj => (hst j hj).kept (hkz _ (by omega) (by omega)) (fun q a b => hkz q (by omega) (by omega))), ((hg_16.keep ((hg_13.keep (hc_11.kept (hs_12.2.2 _ (Nat.ne_of_gt (Nat.lt_add_right _ hlq))))).kept (hs_15.2.2 _ (Nat.ne_of_gt (Nat.lt_add_right _ hlq))))).kept (hs_18.2.2 _ (Nat.ne_of_gt (Nat.lt_add_right _ hlq)))), ((hg_16.keep (hg_13.1.kept (hs_15.2.2 _ (Nat.ne_of_gt (Nat.lt_add_right _ hlq))))).kept (hs_18.2.2 _ (Nat.ne_of_gt (Nat.lt_add_right _ hlq)))), (hg_16.1.kept (hs_18.2.2 _ (Nat.ne_of_gt (Nat.lt_add_right _ hlq)))), by rw [hz_18], hfr_18⟩
        | succ v9 ih2 =>
          intro k ct9 sl9 H9 locs d0 ls hinv hS hd0 hl
          obtain ⟨hk, hct, hsl, h_o, h_b, h_a, hrw, hst, hz9, hfr9⟩ := hinv
          refine lv_iload_n hx hb dX6_init_73 rfl (lv_at hl 0 rfl) ?_
          refine lv_aload_n hx hb dX6_init_74 rfl (lv_at hl 1 rfl) ?_
          refine va_get (D := G) (cl := vwCl) (ci := 7) (v := .ref (H.size + (xof F R))) (C := RX6) (T := TX6) (N := 6) hx hb (hts d0) in_X6_init_X6 hown hK.1 (x1 h_o) 0 rfl rfl 2 (by decide) (hts d0 _ hw_X6_init_10) (fun _ h9 => h9) rfl dX6_init_75 ?_
          refine xalen hx hb hK.1 6 h_a rfl dX6_init_78 ?_
          refine xicmpN_ge (tgt := 119) hx hb (by omega) (by omega) dX6_init_79 (by decide) (fun h9 => absurd h9 (by omega)) (fun _ => ?_)
          refine lv_aload_n hx hb dX6_init_82 rfl (lv_at hl 1 rfl) ?_
          refine va_get (D := G) (cl := vwCl) (ci := 7) (v := .ref (H.size + (xof F R))) (C := RX6) (T := TX6) (N := 6) hx hb (hts d0) in_X6_init_X6 hown hK.1 (x1 h_o) 0 rfl rfl 2 (by decide) (hts d0 _ hw_X6_init_10) (fun _ h9 => h9) rfl dX6_init_83 ?_
          refine lv_iload_n hx hb dX6_init_86 rfl (lv_at hl 0 rfl) ?_
          refine xnew (G := G) (s := s.setDrawn d0) (fs := [.null, .null, .null, .null, .null, .null, .int (nI 0), .int (nI 0), .int (nI 0)]) hx hb (hts d0) in_X6_init_X5 tyX5 tyX5_ok hown (hts d0 _ hw_X6_init_9) (hts d0 _ hw_X6_init_11) (hts d0 _ hw_X6_init_12) hK.1 hS (ci := 6) rfl nB_X5 (show ct9 + 1 ≤ 130 by omega) (show sl9 + 9 ≤ 900 by omega) dX6_init_87 (fun q_20 H_20 hg_20 hS => ?_)
          have e_20 : q_20 = H.size + (xof F R + 1 + 5 * k) := hg_20.2.1.symm.trans hz9
          subst e_20
          have hz_20 : H_20.size = H.size + ((xof F R + 1 + 5 * k) + 1) := (by rw [hg_20.2.2.1]; omega)
          have hfr_20 : xOld q0 H H_20 := xOld.grow hfr9 hg_20
          refine lv_dup hx hb dX6_init_90 rfl ?_
          refine lv_aload_n hx hb dX6_init_91 rfl (lv_at hl 1 rfl) ?_
          refine va_get (D := G) (cl := vwCl) (ci := 7) (v := .ref (H.size + 0)) (C := RX6) (T := TX6) (N := 6) hx hb (hts d0) in_X6_init_X6 hown hK.1 (x1 (hg_20.keep h_o)) 0 rfl rfl 1 (by decide) (hts d0 _ hw_X6_init_6) (fun _ h9 => h9) rfl dX6_init_92 ?_
          refine lv_iload_n hx hb dX6_init_95 rfl (lv_at hl 0 rfl) ?_
          refine xaald (j := k) hx hb hK.1 5 (hg_20.keep h_b) rfl (xix_of (by omega) (by omega)) rfl dX6_init_96 ?_
          refine lv_aload_n hx hb dX6_init_97 rfl (lv_at hl 1 rfl) ?_
          refine va_get (D := G) (cl := vwCl) (ci := 7) (v := .ref (H.size + 0)) (C := RX6) (T := TX6) (N := 6) hx hb (hts d0) in_X6_init_X6 hown hK.1 (x1 (hg_20.keep h_o)) 0 rfl rfl 1 (by decide) (hts d0 _ hw_X6_init_6) (fun _ h9 => h9) rfl dX6_init_98 ?_
          refine lv_iload_n hx hb dX6_init_101 rfl (lv_at hl 0 rfl) ?_
          refine lv_iconst (v := nI 1) hx hb dX6_init_102 (by decide) ?_
          refine xiaddN hx hb dX6_init_103 ?_
          refine xaald (j := k + 1) hx hb hK.1 5 (hg_20.keep h_b) rfl (xix_of (by omega) (by omega)) rfl dX6_init_104 ?_
          refine lv_aload_n hx hb dX6_init_105 rfl (lv_at hl 1 rfl) ?_
          refine va_get (D := G) (cl := vwCl) (ci := 7) (v := .int (nI F)) (C := RX6) (T := TX6) (N := 6) hx hb (hts d0) in_X6_init_X6 hown hK.1 (x1 (hg_20.keep h_o)) 0 rfl rfl 0 (by decide) (hts d0 _ hw_X6_init_4) (fun _ h9 => h9) rfl dX6_init_106 ?_
          have cw_21 := cwI (R := rm_X6_init) (rm := rm_X5_init) 3 (hts d0) gX6_init_X5_init rfl rfl rfl (hts d0 _ hw_X6_init_12) (hts d0 _ hw_X6_init_44) (hts d0 _ hw_X6_init_45) rfl (by decide +kernel) ⟨Nat.le_of_ble_eq_true rfl, Nat.le_of_ble_eq_true rfl⟩
          refine xcall hd0 (xintoI (b := (H.size + (xof F R + 1 + 5 * k))) (As := [.ref (H.size + xof F k), .ref (H.size + xof F (k + 1)), .int (nI F)]) (rest := [.ref (H.size + (xof F R + 1 + 5 * k)), .int (nI k), .ref (H.size + (xof F R))]) ⟨hx, hb, hml, hown, hts _⟩ cw_21 rfl rfl hl.1 rfl (lv_room (Nat.le_of_ble_eq_true rfl)) dX6_init_109) (c_X5_init (l := l) (G := G) (ty := ty) (b0 := b0) (q0 := (H.size + (xof F R + 1 + 5 * k))) (Nat.le_trans hbH (Nat.le_add_right _ _)) (by omega) hg_20.1) (xoweB cw_21.1) hK hb0 hS (show ct9 + 1 + 4 ≤ 130 by omega) (show sl9 + 9 + 60 ≤ 900 by omega) (fun E_21 ce_21 q9_21 H_21 locs_21 d0 hd0 hp_21 hS hce_21 hcv_21 hcl_21 => ?_) (fun v_21 H_21 locs_21 d0 hd0 hp_21 hS => ?_)
          · exact hp_21.elim
          · obtain ⟨rfl, hstp_21, hsz_21, hold_21⟩ := hp_21
            rw [hz_20] at hstp_21 hsz_21
            have hr2_21 := hstp_21.eqB (B1 := H.size + (xof F R + 1 + 5 * k) + 1) (by omega)
            have hz9_21 : H_21.size = H.size + (xof F R + 1 + 5 * (k + 1)) := by rw [hsz_21]; omega
            have hfr_21 : xOld q0 H H_21 := hfr_20.tr hold_21 (Or.inr (Nat.le_add_right _ _))
            show W p l e _ (s.setDrawn _) m _ below meth c _ _ _ _ _ (F0 m 112 ls [.ref (H.size + (xof F R + 1 + 5 * k)), .int (nI k), .ref (H.size + (xof F R))])
            refine xaast (s := s.setDrawn d0) (j := k) hx hb hK.1 6 6 ((hg_20.keep h_a).kept (hold_21.2 _ ((hg_20.keep h_a)).lt (by omega))) hr2_21.1 hS (Nat.le_trans hbH (Nat.le_add_right _ _)) rfl rfl (xix_of (by omega) (by omega)) dX6_init_112 (fun H_22 locs_22 hs_22 hS => ?_)
            have hc_22 : xc G (H.size + (xof F R)) (.inl (ty 6, R - 1, .inr (.inr (.inr (.inr ((va_up (xsq (fun j => H.size + (xof F R + 1 + 5 * j)) k) k (some (H.size + (xof F R + 1 + 5 * k)))))))))) H_22 := hs_22.1
            have hz_22 : H_22.size = H.size + (xof F R + 1 + 5 * (k + 1)) := hs_22.2.1.trans hz9_21
            have hfr_22 : xOld q0 H H_22 := xOld.put hfr_21 hs_22 (Or.inr (Nat.le_add_right _ _))
            refine xiincN (x := k) (y := 1) (lv' := [(3, .int (nI (k + 1))), (0, .ref q0)]) hx hb dX6_init_113 hl (k := 0) rfl (by decide) (by decide) rfl (fun ls hl => ?_)
            refine lv_goto (tgt := 73) hx hb dX6_init_116 (by decide) ?_
            have hkp : ∀ q : Nat, q < H9.size → ¬ q = H.size + xof F R → H_22[q]? = H9[q]? := fun q hq hne => (hs_22.2.2 q hne).trans ((hold_21.2 q (by rw [hz_20]; omega) (by omega)).trans (hg_20.2.2.2 q (by omega)))
            exact ih2 (k + 1) (ct9 + 1 + 4) (sl9 + 9 + 60) H_22 _ d0 ls ⟨by omega, by omega, by omega, (((hg_20.keep h_o).kept (hold_21.2 _ ((hg_20.keep h_o)).lt (Nat.ne_of_lt (Nat.lt_add_right _ hlq)))).kept (hs_22.2.2 _ (Nat.ne_of_lt (Nat.lt_add_right _ hlq)))), (((hg_20.keep h_b).kept (hold_21.2 _ ((hg_20.keep h_b)).lt (by omega))).kept (hs_22.2.2 _ (by omega))), (xsq_up (g := (fun j => H.size + (xof F R + 1 + 5 * j))) (k := k) rfl) ▸ hc_22, (fun j hj => by have := xof_lt (F := F) (show j < R by omega); exact (hrw j hj).kept (hkp _ (by omega) (by omega)) (fun q a b => hkp q (by omega) (by omega))), (fun j hj => by by_cases e : j = k; subst e; exact hr2_21.kept (hs_22.2.2 _ (by omega)) (fun q a b => hs_22.2.2 q (by omega)); exact (hst j (by omega)).kept (hkp _ (by omega) (by omega)) (fun q a b => hkp q (by omega) (by omega))), hz_22, hfr_22⟩ hS hd0 (lv_sub hl [0, 1] rfl)
      | succ u9 ih =>
        intro k ct9 sl9 H9 locs d0 ls hinv hS hd0 hl
        obtain ⟨hk, hct, hsl, h_o, h_a, hrw, hz9, hfr9⟩ := hinv
        have hxk := xof_pos (F := F) k
        refine lv_iload_n hx hb dX6_init_25 rfl (lv_at hl 0 rfl) ?_
        refine lv_aload_n hx hb dX6_init_26 rfl (lv_at hl 1 rfl) ?_
        refine va_get (D := G) (cl := vwCl) (ci := 7) (v := .ref (H.size + 0)) (C := RX6) (T := TX6) (N := 6) hx hb (hts d0) in_X6_init_X6 hown hK.1 (x1 h_o) 0 rfl rfl 1 (by decide) (hts d0 _ hw_X6_init_6) (fun _ h9 => h9) rfl dX6_init_27 ?_
        refine xalen hx hb hK.1 5 h_a rfl dX6_init_30 ?_
        refine xicmpN_ge (tgt := 57) hx hb (by omega) (by omega) dX6_init_31 (by decide) (fun h9 => absurd h9 (by omega)) (fun _ => ?_)
        refine lv_aload_n hx hb dX6_init_34 rfl (lv_at hl 1 rfl) ?_
        refine va_get (D := G) (cl := vwCl) (ci := 7) (v := .ref (H.size + 0)) (C := RX6) (T := TX6) (N := 6) hx hb (hts d0) in_X6_init_X6 hown hK.1 (x1 h_o) 0 rfl rfl 1 (by decide) (hts d0 _ hw_X6_init_6) (fun _ h9 => h9) rfl dX6_init_35 ?_
        refine lv_iload_n hx hb dX6_init_38 rfl (lv_at hl 0 rfl) ?_
        refine xnew (G := G) (s := s.setDrawn d0) (fs := [.null]) hx hb (hts d0) in_X6_init_X4 tyX4 tyX4_ok hown (hts d0 _ hw_X6_init_5) (hts d0 _ hw_X6_init_7) (hts d0 _ hw_X6_init_8) hK.1 hS (ci := 5) rfl nB_X4 (show ct9 + 1 ≤ 130 by omega) (show sl9 + 1 ≤ 900 by omega) dX6_init_39 (fun q_24 H_24 hg_24 hS => ?_)
        have e_24 : q_24 = H.size + (xof F k) := hg_24.2.1.symm.trans hz9
        subst e_24
        have hz_24 : H_24.size = H.size + ((xof F k) + 1) := (by rw [hg_24.2.2.1]; omega)
        have hfr_24 : xOld q0 H H_24 := xOld.grow hfr9 hg_24
        refine lv_dup hx hb dX6_init_42 rfl ?_
        refine lv_aload_n hx hb dX6_init_43 rfl (lv_at hl 1 rfl) ?_
        refine va_get (D := G) (cl := vwCl) (ci := 7) (v := .int (nI F)) (C := RX6) (T := TX6) (N := 6) hx hb (hts d0) in_X6_init_X6 hown hK.1 (x1 (hg_24.keep h_o)) 0 rfl rfl 0 (by decide) (hts d0 _ hw_X6_init_4) (fun _ h9 => h9) rfl dX6_init_44 ?_
        have cw_25 := cwI (R := rm_X6_init) (rm := rm_X4_init) 1 (hts d0) gX6_init_X4_init rfl rfl rfl (hts d0 _ hw_X6_init_8) (hts d0 _ hw_X6_init_33) (hts d0 _ hw_X6_init_34) rfl (by decide +kernel) ⟨Nat.le_of_ble_eq_true rfl, Nat.le_of_ble_eq_true rfl⟩
        refine xcall hd0 (xintoI (b := (H.size + (xof F k))) (As := [.int (nI F)]) (rest := [.ref (H.size + (xof F k)), .int (nI k), .ref (H.size + 0)]) ⟨hx, hb, hml, hown, hts _⟩ cw_25 rfl rfl hl.1 rfl (lv_room (Nat.le_of_ble_eq_true rfl)) dX6_init_47) (c_X4_init (l := l) (G := G) (ty := ty) (b0 := b0) (q0 := (H.size + (xof F k))) (Nat.le_trans hbH (Nat.le_add_right _ _)) (by omega) hg_24.1) (xoweB cw_25.1) hK hb0 hS (show ct9 + 1 + 9 ≤ 130 by omega) (show sl9 + 1 + 40 ≤ 900 by omega) (fun E_25 ce_25 q9_25 H_25 locs_25 d0 hd0 hp_25 hS hce_25 hcv_25 hcl_25 => ?_) (fun v_25 H_25 locs_25 d0 hd0 hp_25 hS => ?_)
        · exact hp_25.elim
        · obtain ⟨rfl, hrow_25, hsz_25, hold_25⟩ := hp_25
          rw [hz_24] at hrow_25 hsz_25
          have hr2_25 := hrow_25.eqB (B1 := H.size + xof F k + 1) (by omega)
          have hz9_25 : H_25.size = H.size + xof F (k + 1) := by rw [hsz_25, xof_s]; omega
          have hfr_25 : xOld q0 H H_25 := hfr_24.tr hold_25 (Or.inr (Nat.le_add_right _ _))
          show W p l e _ (s.setDrawn _) m _ below meth c _ _ _ _ _ (F0 m 50 ls [.ref (H.size + (xof F k)), .int (nI k), .ref (H.size + 0)])
          refine xaast (s := s.setDrawn d0) (j := k) hx hb hK.1 5 5 ((hg_24.keep h_a).kept (hold_25.2 _ ((hg_24.keep h_a)).lt (by omega))) hr2_25.1 hS (Nat.le_trans hbH (Nat.le_add_right _ _)) rfl rfl (xix_of (by omega) (by omega)) dX6_init_50 (fun H_26 locs_26 hs_26 hS => ?_)
          have hc_26 : xc G (H.size + 0) (.inl (ty 5, R, .inr (.inr (.inr (.inr ((va_up (xsq (fun j => H.size + xof F j) k) k (some (H.size + (xof F k)))))))))) H_26 := hs_26.1
          have hz_26 : H_26.size = H.size + (xof F (k + 1)) := hs_26.2.1.trans hz9_25
          have hfr_26 : xOld q0 H H_26 := xOld.put hfr_25 hs_26 (Or.inr (Nat.le_add_right _ _))
          refine xiincN (x := k) (y := 1) (lv' := [(3, .int (nI (k + 1))), (0, .ref q0)]) hx hb dX6_init_51 hl (k := 0) rfl (by decide) (by decide) rfl (fun ls hl => ?_)
          refine lv_goto (tgt := 25) hx hb dX6_init_54 (by decide) ?_
          have hkp : ∀ q : Nat, q < H9.size → ¬ q = H.size + 0 → H_26[q]? = H9[q]? := fun q hq hne => (hs_26.2.2 q hne).trans ((hold_25.2 q (by rw [hz_24]; omega) (by omega)).trans (hg_24.2.2.2 q (by omega)))
          have hxk := xof_pos (F := F) k
          exact ih (k + 1) (ct9 + 1 + 9) (sl9 + 1 + 40) H_26 _ d0 ls ⟨by omega, by omega, by omega, (((hg_24.keep h_o).kept (hold_25.2 _ ((hg_24.keep h_o)).lt (Nat.ne_of_lt (Nat.lt_add_right _ hlq)))).kept (hs_26.2.2 _ (Nat.ne_of_lt (Nat.lt_add_right _ hlq)))), (xsq_up (g := fun j => H.size + xof F j) (k := k) rfl) ▸ hc_26, (fun j hj => by by_cases e : j = k; subst e; exact hr2_25.kept (hs_26.2.2 _ (by omega)) (fun q a b => hs_26.2.2 q (by omega)); have := xof_lt (F := F) (show j < k by omega); have := xof_pos (F := F) j; exact (hrw j (by omega)).kept (hkp _ (by omega) (by omega)) (fun q a b => hkp q (by omega) (by omega))), hz_26, hfr_26⟩ hS hd0 (lv_sub hl [0, 1] rfl)
