/-! THE CLASS: a strip is laid flat; its butts. -/
set_option maxRecDepth 20000 in
theorem ggX5_put_X6_root : GoodIn wsX5_put wsX6_root := goodIn_r _ [7, 8] (by decide +kernel) (by decide +kernel)
set_option maxRecDepth 20000 in
theorem gX5_put_X6_root_n78 : GoodIn wsX5_put (wsX6_root) := ggX5_put_X6_root
theorem dX5_put_0 : decode cX5_put 0 = .ok (.aload_n 0, 1) := by decide +kernel
theorem dX5_put_1 : decode cX5_put 1 = .ok (.getfield 18, 3) := by decide +kernel
theorem dX5_put_4 : decode cX5_put 4 = .ok (.iload_n 3, 1) := by decide +kernel
theorem dX5_put_5 : decode cX5_put 5 = .ok (.daload, 1) := by decide +kernel
theorem dX5_put_6 : decode cX5_put 6 = .ok (.aload_n 0, 1) := by decide +kernel
theorem dX5_put_7 : decode cX5_put 7 = .ok (.getfield 18, 3) := by decide +kernel
theorem dX5_put_10 : decode cX5_put 10 = .ok (.iload_n 2, 1) := by decide +kernel
theorem dX5_put_11 : decode cX5_put 11 = .ok (.daload, 1) := by decide +kernel
theorem dX5_put_12 : decode cX5_put 12 = .ok (.dsub, 1) := by decide +kernel
theorem dX5_put_13 : decode cX5_put 13 = .ok (.dstore 8, 2) := by decide +kernel
theorem dX5_put_15 : decode cX5_put 15 = .ok (.aload_n 0, 1) := by decide +kernel
theorem dX5_put_16 : decode cX5_put 16 = .ok (.getfield 22, 3) := by decide +kernel
theorem dX5_put_19 : decode cX5_put 19 = .ok (.iload_n 3, 1) := by decide +kernel
theorem dX5_put_20 : decode cX5_put 20 = .ok (.daload, 1) := by decide +kernel
theorem dX5_put_21 : decode cX5_put 21 = .ok (.aload_n 0, 1) := by decide +kernel
theorem dX5_put_22 : decode cX5_put 22 = .ok (.getfield 22, 3) := by decide +kernel
theorem dX5_put_25 : decode cX5_put 25 = .ok (.iload_n 2, 1) := by decide +kernel
theorem dX5_put_26 : decode cX5_put 26 = .ok (.daload, 1) := by decide +kernel
theorem dX5_put_27 : decode cX5_put 27 = .ok (.dsub, 1) := by decide +kernel
theorem dX5_put_28 : decode cX5_put 28 = .ok (.dstore 10, 2) := by decide +kernel
theorem dX5_put_30 : decode cX5_put 30 = .ok (.dload 8, 2) := by decide +kernel
theorem dX5_put_32 : decode cX5_put 32 = .ok (.dload 8, 2) := by decide +kernel
theorem dX5_put_34 : decode cX5_put 34 = .ok (.dmul, 1) := by decide +kernel
theorem dX5_put_35 : decode cX5_put 35 = .ok (.dload 10, 2) := by decide +kernel
theorem dX5_put_37 : decode cX5_put 37 = .ok (.dload 10, 2) := by decide +kernel
theorem dX5_put_39 : decode cX5_put 39 = .ok (.dmul, 1) := by decide +kernel
theorem dX5_put_40 : decode cX5_put 40 = .ok (.dadd, 1) := by decide +kernel
theorem dX5_put_41 : decode cX5_put 41 = .ok (.invokestatic 78, 3) := by decide +kernel
theorem dX5_put_44 : decode cX5_put 44 = .ok (.dstore 12, 2) := by decide +kernel
theorem dX5_put_46 : decode cX5_put 46 = .ok (.dload 12, 2) := by decide +kernel
theorem dX5_put_48 : decode cX5_put 48 = .ok (.ldc2_w 82, 3) := by decide +kernel
theorem dX5_put_51 : decode cX5_put 51 = .ok (.dcmp .g, 1) := by decide +kernel
theorem dX5_put_52 : decode cX5_put 52 = .ok (.ifCond .ge 5, 3) := by decide +kernel
theorem dX5_put_55 : decode cX5_put 55 = .ok (.iconst 0, 1) := by decide +kernel
theorem dX5_put_56 : decode cX5_put 56 = .ok (.ireturn, 1) := by decide +kernel
theorem dX5_put_57 : decode cX5_put 57 = .ok (.dload 4, 2) := by decide +kernel
theorem dX5_put_59 : decode cX5_put 59 = .ok (.dload 4, 2) := by decide +kernel
theorem dX5_put_61 : decode cX5_put 61 = .ok (.dmul, 1) := by decide +kernel
theorem dX5_put_62 : decode cX5_put 62 = .ok (.dload 6, 2) := by decide +kernel
theorem dX5_put_64 : decode cX5_put 64 = .ok (.dload 6, 2) := by decide +kernel
theorem dX5_put_66 : decode cX5_put 66 = .ok (.dmul, 1) := by decide +kernel
theorem dX5_put_67 : decode cX5_put 67 = .ok (.dsub, 1) := by decide +kernel
theorem dX5_put_68 : decode cX5_put 68 = .ok (.dload 12, 2) := by decide +kernel
theorem dX5_put_70 : decode cX5_put 70 = .ok (.dload 12, 2) := by decide +kernel
theorem dX5_put_72 : decode cX5_put 72 = .ok (.dmul, 1) := by decide +kernel
theorem dX5_put_73 : decode cX5_put 73 = .ok (.dadd, 1) := by decide +kernel
theorem dX5_put_74 : decode cX5_put 74 = .ok (.ldc2_w 84, 3) := by decide +kernel
theorem dX5_put_77 : decode cX5_put 77 = .ok (.dload 12, 2) := by decide +kernel
theorem dX5_put_79 : decode cX5_put 79 = .ok (.dmul, 1) := by decide +kernel
theorem dX5_put_80 : decode cX5_put 80 = .ok (.ddiv, 1) := by decide +kernel
theorem dX5_put_81 : decode cX5_put 81 = .ok (.dstore 14, 2) := by decide +kernel
theorem dX5_put_83 : decode cX5_put 83 = .ok (.dload 4, 2) := by decide +kernel
theorem dX5_put_85 : decode cX5_put 85 = .ok (.dload 4, 2) := by decide +kernel
theorem dX5_put_87 : decode cX5_put 87 = .ok (.dmul, 1) := by decide +kernel
theorem dX5_put_88 : decode cX5_put 88 = .ok (.dload 14, 2) := by decide +kernel
theorem dX5_put_90 : decode cX5_put 90 = .ok (.dload 14, 2) := by decide +kernel
theorem dX5_put_92 : decode cX5_put 92 = .ok (.dmul, 1) := by decide +kernel
theorem dX5_put_93 : decode cX5_put 93 = .ok (.dsub, 1) := by decide +kernel
theorem dX5_put_94 : decode cX5_put 94 = .ok (.invokestatic 78, 3) := by decide +kernel
theorem dX5_put_97 : decode cX5_put 97 = .ok (.dstore 16, 2) := by decide +kernel
theorem dX5_put_99 : decode cX5_put 99 = .ok (.aload_n 0, 1) := by decide +kernel
theorem dX5_put_100 : decode cX5_put 100 = .ok (.getfield 18, 3) := by decide +kernel
theorem dX5_put_103 : decode cX5_put 103 = .ok (.iload_n 1, 1) := by decide +kernel
theorem dX5_put_104 : decode cX5_put 104 = .ok (.aload_n 0, 1) := by decide +kernel
theorem dX5_put_105 : decode cX5_put 105 = .ok (.getfield 18, 3) := by decide +kernel
theorem dX5_put_108 : decode cX5_put 108 = .ok (.iload_n 2, 1) := by decide +kernel
theorem dX5_put_109 : decode cX5_put 109 = .ok (.daload, 1) := by decide +kernel
theorem dX5_put_110 : decode cX5_put 110 = .ok (.dload 14, 2) := by decide +kernel
theorem dX5_put_112 : decode cX5_put 112 = .ok (.dload 8, 2) := by decide +kernel
theorem dX5_put_114 : decode cX5_put 114 = .ok (.dmul, 1) := by decide +kernel
theorem dX5_put_115 : decode cX5_put 115 = .ok (.dload 12, 2) := by decide +kernel
theorem dX5_put_117 : decode cX5_put 117 = .ok (.ddiv, 1) := by decide +kernel
theorem dX5_put_118 : decode cX5_put 118 = .ok (.dadd, 1) := by decide +kernel
theorem dX5_put_119 : decode cX5_put 119 = .ok (.dload 16, 2) := by decide +kernel
theorem dX5_put_121 : decode cX5_put 121 = .ok (.dload 10, 2) := by decide +kernel
theorem dX5_put_123 : decode cX5_put 123 = .ok (.dmul, 1) := by decide +kernel
theorem dX5_put_124 : decode cX5_put 124 = .ok (.dload 12, 2) := by decide +kernel
theorem dX5_put_126 : decode cX5_put 126 = .ok (.ddiv, 1) := by decide +kernel
theorem dX5_put_127 : decode cX5_put 127 = .ok (.dadd, 1) := by decide +kernel
theorem dX5_put_128 : decode cX5_put 128 = .ok (.dastore, 1) := by decide +kernel
theorem dX5_put_129 : decode cX5_put 129 = .ok (.aload_n 0, 1) := by decide +kernel
theorem dX5_put_130 : decode cX5_put 130 = .ok (.getfield 22, 3) := by decide +kernel
theorem dX5_put_133 : decode cX5_put 133 = .ok (.iload_n 1, 1) := by decide +kernel
theorem dX5_put_134 : decode cX5_put 134 = .ok (.aload_n 0, 1) := by decide +kernel
theorem dX5_put_135 : decode cX5_put 135 = .ok (.getfield 22, 3) := by decide +kernel
theorem dX5_put_138 : decode cX5_put 138 = .ok (.iload_n 2, 1) := by decide +kernel
theorem dX5_put_139 : decode cX5_put 139 = .ok (.daload, 1) := by decide +kernel
theorem dX5_put_140 : decode cX5_put 140 = .ok (.dload 14, 2) := by decide +kernel
theorem dX5_put_142 : decode cX5_put 142 = .ok (.dload 10, 2) := by decide +kernel
theorem dX5_put_144 : decode cX5_put 144 = .ok (.dmul, 1) := by decide +kernel
theorem dX5_put_145 : decode cX5_put 145 = .ok (.dload 12, 2) := by decide +kernel
theorem dX5_put_147 : decode cX5_put 147 = .ok (.ddiv, 1) := by decide +kernel
theorem dX5_put_148 : decode cX5_put 148 = .ok (.dadd, 1) := by decide +kernel
theorem dX5_put_149 : decode cX5_put 149 = .ok (.dload 16, 2) := by decide +kernel
theorem dX5_put_151 : decode cX5_put 151 = .ok (.dload 8, 2) := by decide +kernel
theorem dX5_put_153 : decode cX5_put 153 = .ok (.dmul, 1) := by decide +kernel
theorem dX5_put_154 : decode cX5_put 154 = .ok (.dload 12, 2) := by decide +kernel
theorem dX5_put_156 : decode cX5_put 156 = .ok (.ddiv, 1) := by decide +kernel
theorem dX5_put_157 : decode cX5_put 157 = .ok (.dsub, 1) := by decide +kernel
theorem dX5_put_158 : decode cX5_put 158 = .ok (.dastore, 1) := by decide +kernel
theorem dX5_put_159 : decode cX5_put 159 = .ok (.iconst 1, 1) := by decide +kernel
theorem dX5_put_160 : decode cX5_put 160 = .ok (.ireturn, 1) := by decide +kernel
abbrev rm_X5_put : Room := { frames := 6, cells := 0, slots := 0, locals := 90 }
theorem hw_X5_put_1 : (Cond.fieldLink RX5 18 "PlankUnroll$Strip" "cornerX" "[D") ∈ wsX5_put := List.mem_of_getElem? (i := 1) rfl
theorem hw_X5_put_2 : (Cond.fieldLink RX5 22 "PlankUnroll$Strip" "cornerY" "[D") ∈ wsX5_put := List.mem_of_getElem? (i := 2) rfl
theorem hw_X5_put_3 : (Cond.constantDouble RX5 82 (4562146422526312448)) ∈ wsX5_put := List.mem_of_getElem? (i := 3) rfl
theorem hw_X5_put_4 : (Cond.constantDouble RX5 84 (4611686018427387904)) ∈ wsX5_put := List.mem_of_getElem? (i := 4) rfl
theorem hw_X5_put_5 : (Cond.static yX6_root) ∈ wsX5_put := List.mem_of_getElem? (i := 5) rfl
theorem hw_X5_put_6 : (Cond.initialized RX6) ∈ wsX5_put := List.mem_of_getElem? (i := 6) rfl
theorem in_X5_put_X5 : ∀ w ∈ wsX50, w ∈ wsX5_put := by decide +kernel
set_option maxHeartbeats 4000000 in
set_option maxRecDepth 100000 in
/-- a corner is put -/
theorem c_X5_put {l : Launch} {G : va_G} {ty : Nat → ClassId} {b0 : Nat} {H : Heap} {ad : Nat → Nat} {F R nb : Nat} {pl wi hi fa : Nat → UInt64} {un bu lo la : Nat → Int32} {cx cy bx : Nat → Nat → UInt64} {nf : Nat → Nat} {K0 : Heap} (hX : xCla G ty ad F R pl un cx cy bu nb wi hi nf fa lo la bx K0 H) (hW : xWf F R nb nf ad b0) {i k a1 b1 : Nat} {u w eu ew : UInt64} {d : Nat → UInt64} (hi9 : i < R - 1) (hu9 : vq u eu) (hw9 : vq w ew) (ha9 : a1 < k) (hb9 : b1 < k) (hk9 : k < 2 * F) (hd : ∀ j : Nat, j < k → vq (cx i j) (d (2 * j)) ∧ vq (cy i j) (d (2 * j + 1))) : xMet l yX5_put wsX5_put rm_X5_put G ty b0 [.ref (ad (30 + i)), .int (nI k), .int (nI a1), .int (nI b1), .double u, .double w] H (fun v H1 => (v = some (.int (nI 0)) ∧ pPutBad d a1 b1 = true ∧ xCla G ty ad F R pl un cx cy bu nb wi hi nf fa lo la bx K0 H1) ∨ (v = some (.int (nI 1)) ∧ pPutBad d a1 b1 = false ∧ ∃ x1 y1 : UInt64, xCla G ty ad F R pl un (xup2 cx i k x1) (xup2 cy i k y1) bu nb wi hi nf fa lo la bx K0 H1 ∧ vq x1 (pPutX d a1 b1 eu ew) ∧ vq y1 (pPutY d a1 b1 eu ew))) (fun _ _ => False) := by
  refine xbody (cc := cX5_put) (maxL := 18) (ret := (some .boolean)) (C := RX5) (lv := [(0, .ref (ad (30 + i))), (1, .int (nI k)), (2, .int (nI a1)), (3, .int (nI b1)), (4, .double u), (6, .double w)]) (by decide) rfl rfl (Nat.le_of_ble_eq_true rfl) rfl ?_
  intro p e s m below meth c d0 hx hb hr hts hown hlocks hml hxt hnm0 hK hb0 hH0 hS hd0 ls hl
  obtain ⟨⟨zF2, zF8⟩, ⟨zR2, zR8⟩⟩ := id hW.1
  have zB4 := hW.2.1
  refine lv_aload_n hx hb dX5_put_0 rfl (lv_at hl 0 rfl) ?_
  refine va_get (D := G) (cl := vwCl) (ci := 6) (v := .ref (ad (40 + i))) (C := RX5) (T := TX5) (N := 9) hx hb (hts d0) in_X5_put_X5 hown hK.1 (x1 (hX.strip_ _ (by omega))) 0 rfl rfl 2 (by decide) (hts d0 _ hw_X5_put_1) (fun _ h9 => h9) rfl dX5_put_1 ?_
  refine lv_iload_n hx hb dX5_put_4 rfl (lv_at hl 3 rfl) ?_
  refine xdald (j := b1) hx hb hK.1 0 (hX.cx_ _ (by omega)) rfl (xix_of (by omega) (by omega)) dX5_put_5 ?_
  refine lv_aload_n hx hb dX5_put_6 rfl (lv_at hl 0 rfl) ?_
  refine va_get (D := G) (cl := vwCl) (ci := 6) (v := .ref (ad (40 + i))) (C := RX5) (T := TX5) (N := 9) hx hb (hts d0) in_X5_put_X5 hown hK.1 (x1 (hX.strip_ _ (by omega))) 0 rfl rfl 2 (by decide) (hts d0 _ hw_X5_put_1) (fun _ h9 => h9) rfl dX5_put_7 ?_
  refine lv_iload_n hx hb dX5_put_10 rfl (lv_at hl 2 rfl) ?_
  refine xdald (j := a1) hx hb hK.1 0 (hX.cx_ _ (by omega)) rfl (xix_of (by omega) (by omega)) dX5_put_11 ?_
  refine xdsub hd0 hx hb (hd b1 (by omega)).1 (hd a1 (by omega)).1 dX5_put_12 (fun r_1 d0 q_1 hd0 => ?_)
  refine lv_dstore (lv' := [(8, .double r_1), (0, .ref (ad (30 + i))), (1, .int (nI k)), (2, .int (nI a1)), (3, .int (nI b1)), (4, .double u), (6, .double w)]) hx hb dX5_put_13 hl (by decide) rfl (fun ls hl => ?_)
  refine lv_aload_n hx hb dX5_put_15 rfl (lv_at hl 1 rfl) ?_
  refine va_get (D := G) (cl := vwCl) (ci := 6) (v := .ref (ad (50 + i))) (C := RX5) (T := TX5) (N := 9) hx hb (hts d0) in_X5_put_X5 hown hK.1 (x1 (hX.strip_ _ (by omega))) 0 rfl rfl 3 (by decide) (hts d0 _ hw_X5_put_2) (fun _ h9 => h9) rfl dX5_put_16 ?_
  refine lv_iload_n hx hb dX5_put_19 rfl (lv_at hl 4 rfl) ?_
  refine xdald (j := b1) hx hb hK.1 0 (hX.cy_ _ (by omega)) rfl (xix_of (by omega) (by omega)) dX5_put_20 ?_
  refine lv_aload_n hx hb dX5_put_21 rfl (lv_at hl 1 rfl) ?_
  refine va_get (D := G) (cl := vwCl) (ci := 6) (v := .ref (ad (50 + i))) (C := RX5) (T := TX5) (N := 9) hx hb (hts d0) in_X5_put_X5 hown hK.1 (x1 (hX.strip_ _ (by omega))) 0 rfl rfl 3 (by decide) (hts d0 _ hw_X5_put_2) (fun _ h9 => h9) rfl dX5_put_22 ?_
  refine lv_iload_n hx hb dX5_put_25 rfl (lv_at hl 3 rfl) ?_
  refine xdald (j := a1) hx hb hK.1 0 (hX.cy_ _ (by omega)) rfl (xix_of (by omega) (by omega)) dX5_put_26 ?_
  refine xdsub hd0 hx hb (hd b1 (by omega)).2 (hd a1 (by omega)).2 dX5_put_27 (fun r_2 d0 q_2 hd0 => ?_)
  refine lv_dstore (lv' := [(10, .double r_2), (8, .double r_1), (0, .ref (ad (30 + i))), (1, .int (nI k)), (2, .int (nI a1)), (3, .int (nI b1)), (4, .double u), (6, .double w)]) hx hb dX5_put_28 hl (by decide) rfl (fun ls hl => ?_)
  refine lv_dload hx hb dX5_put_30 (lv_at hl 1 rfl) ?_
  refine lv_dload hx hb dX5_put_32 (lv_at hl 1 rfl) ?_
  refine xdmul hd0 hx hb q_1 q_1 dX5_put_34 (fun r_3 d0 q_3 hd0 => ?_)
  refine lv_dload hx hb dX5_put_35 (lv_at hl 0 rfl) ?_
  refine lv_dload hx hb dX5_put_37 (lv_at hl 0 rfl) ?_
  refine xdmul hd0 hx hb q_2 q_2 dX5_put_39 (fun r_4 d0 q_4 hd0 => ?_)
  refine xdadd hd0 hx hb q_3 q_4 dX5_put_40 (fun r_5 d0 q_5 hd0 => ?_)
  have cw_6 := va_cnB (R := rm_X5_put) (rm := rm_X6_root) (index := 78) 1 (hts d0) gX5_put_X6_root_n78 rfl rfl rfl (va_Nw.same (u := s) rfl rfl (hK.2.2.2.1 _ (List.mem_of_getElem? (i := 1) rfl))) (hts d0 _ hw_X5_put_6) (by decide +kernel) ⟨Nat.le_of_ble_eq_true rfl, Nat.le_of_ble_eq_true rfl⟩
  have cs_6 : (Cond.static yX6_root).before _ (s.setDrawn d0) = true := hts d0 _ hw_X5_put_5
  refine xcall hd0 (xintoSN (As := [.double r_5]) (rest := []) ⟨hx, hb, hml, hown, hts _⟩ ⟨cw_6, cs_6, trivial⟩ rfl rfl hl.1 rfl (lv_room (Nat.le_of_ble_eq_true rfl)) dX5_put_41) (c_X6_root (l := l) (G := G) (ty := ty) (b0 := b0) q_5) (xoweN cw_6) hK hb0 hS (Nat.le_of_ble_eq_true rfl) (Nat.le_of_ble_eq_true rfl) (fun E_6 ce_6 q9_6 H_6 locs_6 d0 hd0 hp_6 hS hce_6 hcv_6 hcl_6 => ?_) (fun v_6 H_6 locs_6 d0 hd0 hp_6 hS => ?_)
  · exact hp_6.elim
  · obtain ⟨rfl, r_6, rfl, q_6⟩ := hp_6
    show W p l e _ (s.setDrawn _) m _ below meth c _ _ _ _ _ (F0 m 44 ls [.double r_6])
    refine lv_dstore (lv' := [(12, .double r_6), (10, .double r_2), (8, .double r_1), (0, .ref (ad (30 + i))), (1, .int (nI k)), (2, .int (nI a1)), (3, .int (nI b1)), (4, .double u), (6, .double w)]) hx hb dX5_put_44 hl (by decide) rfl (fun ls hl => ?_)
    refine lv_dload hx hb dX5_put_46 (lv_at hl 0 rfl) ?_
    refine lv_ldc2d hx hb hown (hts d0 _ hw_X5_put_3) dX5_put_48 ?_
    refine xcmp_g_ge (tgt := 57) hx hb q_6 (vq_rf _) dX5_put_51 dX5_put_52 (by decide) (fun c_7 => ?_) (fun c_7 => ?_)
    · refine lv_dload hx hb dX5_put_57 (lv_at hl 7 rfl) ?_
      refine lv_dload hx hb dX5_put_59 (lv_at hl 7 rfl) ?_
      refine xdmul hd0 hx hb hu9 hu9 dX5_put_61 (fun r_8 d0 q_8 hd0 => ?_)
      refine lv_dload hx hb dX5_put_62 (lv_at hl 8 rfl) ?_
      refine lv_dload hx hb dX5_put_64 (lv_at hl 8 rfl) ?_
      refine xdmul hd0 hx hb hw9 hw9 dX5_put_66 (fun r_9 d0 q_9 hd0 => ?_)
      refine xdsub hd0 hx hb q_8 q_9 dX5_put_67 (fun r_10 d0 q_10 hd0 => ?_)
      refine lv_dload hx hb dX5_put_68 (lv_at hl 0 rfl) ?_
      refine lv_dload hx hb dX5_put_70 (lv_at hl 0 rfl) ?_
      refine xdmul hd0 hx hb q_6 q_6 dX5_put_72 (fun r_11 d0 q_11 hd0 => ?_)
      refine xdadd hd0 hx hb q_10 q_11 dX5_put_73 (fun r_12 d0 q_12 hd0 => ?_)
      refine lv_ldc2d hx hb hown (hts d0 _ hw_X5_put_4) dX5_put_74 ?_
      refine lv_dload hx hb dX5_put_77 (lv_at hl 0 rfl) ?_
      refine xdmul hd0 hx hb (vq_rf _) q_6 dX5_put_79 (fun r_13 d0 q_13 hd0 => ?_)
      refine xddiv hd0 hx hb q_12 q_13 dX5_put_80 (fun r_14 d0 q_14 hd0 => ?_)
      refine lv_dstore (lv' := [(14, .double r_14), (12, .double r_6), (10, .double r_2), (8, .double r_1), (0, .ref (ad (30 + i))), (1, .int (nI k)), (2, .int (nI a1)), (3, .int (nI b1)), (4, .double u), (6, .double w)]) hx hb dX5_put_81 hl (by decide) rfl (fun ls hl => ?_)
      refine lv_dload hx hb dX5_put_83 (lv_at hl 8 rfl) ?_
      refine lv_dload hx hb dX5_put_85 (lv_at hl 8 rfl) ?_
      refine xdmul hd0 hx hb hu9 hu9 dX5_put_87 (fun r_15 d0 q_15 hd0 => ?_)
      refine lv_dload hx hb dX5_put_88 (lv_at hl 0 rfl) ?_
      refine lv_dload hx hb dX5_put_90 (lv_at hl 0 rfl) ?_
      refine xdmul hd0 hx hb q_14 q_14 dX5_put_92 (fun r_16 d0 q_16 hd0 => ?_)
      refine xdsub hd0 hx hb q_15 q_16 dX5_put_93 (fun r_17 d0 q_17 hd0 => ?_)
      have cw_18 := va_cnB (R := rm_X5_put) (rm := rm_X6_root) (index := 78) 1 (hts d0) gX5_put_X6_root_n78 rfl rfl rfl (va_Nw.same (u := s) rfl rfl (hK.2.2.2.1 _ (List.mem_of_getElem? (i := 1) rfl))) (hts d0 _ hw_X5_put_6) (by decide +kernel) ⟨Nat.le_of_ble_eq_true rfl, Nat.le_of_ble_eq_true rfl⟩
      have cs_18 : (Cond.static yX6_root).before _ (s.setDrawn d0) = true := hts d0 _ hw_X5_put_5
      refine xcall hd0 (xintoSN (As := [.double r_17]) (rest := []) ⟨hx, hb, hml, hown, hts _⟩ ⟨cw_18, cs_18, trivial⟩ rfl rfl hl.1 rfl (lv_room (Nat.le_of_ble_eq_true rfl)) dX5_put_94) (c_X6_root (l := l) (G := G) (ty := ty) (b0 := b0) q_17) (xoweN cw_18) hK hb0 hS (Nat.le_of_ble_eq_true rfl) (Nat.le_of_ble_eq_true rfl) (fun E_18 ce_18 q9_18 H_18 locs_18 d0 hd0 hp_18 hS hce_18 hcv_18 hcl_18 => ?_) (fun v_18 H_18 locs_18 d0 hd0 hp_18 hS => ?_)
      · exact hp_18.elim
      · obtain ⟨rfl, r_18, rfl, q_18⟩ := hp_18
        show W p l e _ (s.setDrawn _) m _ below meth c _ _ _ _ _ (F0 m 97 ls [.double r_18])
        refine lv_dstore (lv' := [(16, .double r_18), (14, .double r_14), (12, .double r_6), (10, .double r_2), (8, .double r_1), (0, .ref (ad (30 + i))), (1, .int (nI k)), (2, .int (nI a1)), (3, .int (nI b1)), (4, .double u), (6, .double w)]) hx hb dX5_put_97 hl (by decide) rfl (fun ls hl => ?_)
        refine lv_aload_n hx hb dX5_put_99 rfl (lv_at hl 5 rfl) ?_
        refine va_get (D := G) (cl := vwCl) (ci := 6) (v := .ref (ad (40 + i))) (C := RX5) (T := TX5) (N := 9) hx hb (hts d0) in_X5_put_X5 hown hK.1 (x1 (hX.strip_ _ (by omega))) 0 rfl rfl 2 (by decide) (hts d0 _ hw_X5_put_1) (fun _ h9 => h9) rfl dX5_put_100 ?_
        refine lv_iload_n hx hb dX5_put_103 rfl (lv_at hl 6 rfl) ?_
        refine lv_aload_n hx hb dX5_put_104 rfl (lv_at hl 5 rfl) ?_
        refine va_get (D := G) (cl := vwCl) (ci := 6) (v := .ref (ad (40 + i))) (C := RX5) (T := TX5) (N := 9) hx hb (hts d0) in_X5_put_X5 hown hK.1 (x1 (hX.strip_ _ (by omega))) 0 rfl rfl 2 (by decide) (hts d0 _ hw_X5_put_1) (fun _ h9 => h9) rfl dX5_put_105 ?_
        refine lv_iload_n hx hb dX5_put_108 rfl (lv_at hl 7 rfl) ?_
        refine xdald (j := a1) hx hb hK.1 0 (hX.cx_ _ (by omega)) rfl (xix_of (by omega) (by omega)) dX5_put_109 ?_
        refine lv_dload hx hb dX5_put_110 (lv_at hl 1 rfl) ?_
        refine lv_dload hx hb dX5_put_112 (lv_at hl 4 rfl) ?_
        refine xdmul hd0 hx hb q_14 q_1 dX5_put_114 (fun r_19 d0 q_19 hd0 => ?_)
        refine lv_dload hx hb dX5_put_115 (lv_at hl 2 rfl) ?_
        refine xddiv hd0 hx hb q_19 q_6 dX5_put_117 (fun r_20 d0 q_20 hd0 => ?_)
        refine xdadd hd0 hx hb (hd a1 (by omega)).1 q_20 dX5_put_118 (fun r_21 d0 q_21 hd0 => ?_)
        refine lv_dload hx hb dX5_put_119 (lv_at hl 0 rfl) ?_
        refine lv_dload hx hb dX5_put_121 (lv_at hl 3 rfl) ?_
        refine xdmul hd0 hx hb q_18 q_2 dX5_put_123 (fun r_22 d0 q_22 hd0 => ?_)
        refine lv_dload hx hb dX5_put_124 (lv_at hl 2 rfl) ?_
        refine xddiv hd0 hx hb q_22 q_6 dX5_put_126 (fun r_23 d0 q_23 hd0 => ?_)
        refine xdadd hd0 hx hb q_21 q_23 dX5_put_127 (fun r_24 d0 q_24 hd0 => ?_)
        refine xdastN (s := s.setDrawn d0) (j := k) (x := r_24) hx hb hK.1 0 (hX.cx_ _ (by omega)) hS (hW.2.2.2.1 _ (xU_cx (by omega))) rfl (xix_of (by omega) (by omega)) dX5_put_128 (fun H_25 locs_25 hs_25 hS => ?_)
        have hX_25 : xCla G ty ad F R pl un (xup2 cx i k r_24) cy bu nb wi hi nf fa lo la bx K0 H_25 := hX.put_cx (by omega) hW hs_25
        refine lv_aload_n hx hb dX5_put_129 rfl (lv_at hl 5 rfl) ?_
        refine va_get (D := G) (cl := vwCl) (ci := 6) (v := .ref (ad (50 + i))) (C := RX5) (T := TX5) (N := 9) hx hb (hts d0) in_X5_put_X5 hown hK.1 (x1 (hX_25.strip_ _ (by omega))) 0 rfl rfl 3 (by decide) (hts d0 _ hw_X5_put_2) (fun _ h9 => h9) rfl dX5_put_130 ?_
        refine lv_iload_n hx hb dX5_put_133 rfl (lv_at hl 6 rfl) ?_
        refine lv_aload_n hx hb dX5_put_134 rfl (lv_at hl 5 rfl) ?_
        refine va_get (D := G) (cl := vwCl) (ci := 6) (v := .ref (ad (50 + i))) (C := RX5) (T := TX5) (N := 9) hx hb (hts d0) in_X5_put_X5 hown hK.1 (x1 (hX_25.strip_ _ (by omega))) 0 rfl rfl 3 (by decide) (hts d0 _ hw_X5_put_2) (fun _ h9 => h9) rfl dX5_put_135 ?_
        refine lv_iload_n hx hb dX5_put_138 rfl (lv_at hl 7 rfl) ?_
        refine xdald (j := a1) hx hb hK.1 0 (hX_25.cy_ _ (by omega)) rfl (xix_of (by omega) (by omega)) dX5_put_139 ?_
        refine lv_dload hx hb dX5_put_140 (lv_at hl 1 rfl) ?_
        refine lv_dload hx hb dX5_put_142 (lv_at hl 3 rfl) ?_
        refine xdmul hd0 hx hb q_14 q_2 dX5_put_144 (fun r_26 d0 q_26 hd0 => ?_)
        refine lv_dload hx hb dX5_put_145 (lv_at hl 2 rfl) ?_
        refine xddiv hd0 hx hb q_26 q_6 dX5_put_147 (fun r_27 d0 q_27 hd0 => ?_)
        refine xdadd hd0 hx hb (hd a1 (by omega)).2 q_27 dX5_put_148 (fun r_28 d0 q_28 hd0 => ?_)
        refine lv_dload hx hb dX5_put_149 (lv_at hl 0 rfl) ?_
        refine lv_dload hx hb dX5_put_151 (lv_at hl 4 rfl) ?_
        refine xdmul hd0 hx hb q_18 q_1 dX5_put_153 (fun r_29 d0 q_29 hd0 => ?_)
        refine lv_dload hx hb dX5_put_154 (lv_at hl 2 rfl) ?_
        refine xddiv hd0 hx hb q_29 q_6 dX5_put_156 (fun r_30 d0 q_30 hd0 => ?_)
        refine xdsub hd0 hx hb q_28 q_30 dX5_put_157 (fun r_31 d0 q_31 hd0 => ?_)
        refine xdastN (s := s.setDrawn d0) (j := k) (x := r_31) hx hb hK.1 0 (hX_25.cy_ _ (by omega)) hS (hW.2.2.2.1 _ (xU_cy (by omega))) rfl (xix_of (by omega) (by omega)) dX5_put_158 (fun H_32 locs_32 hs_32 hS => ?_)
        have hX_32 : xCla G ty ad F R pl un (xup2 cx i k r_24) (xup2 cy i k r_31) bu nb wi hi nf fa lo la bx K0 H_32 := hX_25.put_cy (by omega) hW hs_32
        refine lv_iconst (v := nI 1) hx hb dX5_put_159 (by decide) ?_
        exact xzret (by decide) hd0 hx hb hr hlocks hS (Nat.le_of_ble_eq_true rfl) (Nat.le_of_ble_eq_true rfl) dX5_put_160 ((Or.inr ⟨rfl, c_7, _, _, hX_32, q_24, q_31⟩))
    · refine lv_iconst (v := nI 0) hx hb dX5_put_55 (by decide) ?_
      exact xzret (by decide) hd0 hx hb hr hlocks hS (Nat.le_of_ble_eq_true rfl) (Nat.le_of_ble_eq_true rfl) dX5_put_56 ((Or.inl ⟨rfl, c_7, hX⟩))
/-- the least of the first, from 0 on, and the greatest -/
def pMn (g : Nat → UInt64) : Nat → UInt64
  | 0 => FP.dconst0
  | k + 1 => if xlt (g k) (pMn g k) = true then g k else pMn g k
def pMx (g : Nat → UInt64) : Nat → UInt64
  | 0 => FP.dconst0
  | k + 1 => if xgt (g k) (pMx g k) = true then g k else pMx g k
theorem pMn_t {g : Nat → UInt64} {k : Nat} {x : UInt64} (h1 : xlt (g k) (pMn g k) = true) (h : vq x (g k)) : vq x (pMn g (k + 1)) := by
  show vq x (if _ then _ else _)
  rw [if_pos h1]; exact h
theorem pMn_f {g : Nat → UInt64} {k : Nat} {x : UInt64} (h1 : xlt (g k) (pMn g k) = false) (h : vq x (pMn g k)) : vq x (pMn g (k + 1)) := by
  show vq x (if _ then _ else _)
  rw [if_neg (by rw [h1]; decide)]; exact h
theorem pMx_t {g : Nat → UInt64} {k : Nat} {x : UInt64} (h1 : xgt (g k) (pMx g k) = true) (h : vq x (g k)) : vq x (pMx g (k + 1)) := by
  show vq x (if _ then _ else _)
  rw [if_pos h1]; exact h
theorem pMx_f {g : Nat → UInt64} {k : Nat} {x : UInt64} (h1 : xgt (g k) (pMx g k) = false) (h : vq x (pMx g k)) : vq x (pMx g (k + 1)) := by
  show vq x (if _ then _ else _)
  rw [if_neg (by rw [h1]; decide)]; exact h
theorem dX5_extent_0 : decode cX5_extent 0 = .ok (.dconst 0, 1) := by decide +kernel
theorem dX5_extent_1 : decode cX5_extent 1 = .ok (.dstore_n 1, 1) := by decide +kernel
theorem dX5_extent_2 : decode cX5_extent 2 = .ok (.dconst 0, 1) := by decide +kernel
theorem dX5_extent_3 : decode cX5_extent 3 = .ok (.dstore_n 3, 1) := by decide +kernel
theorem dX5_extent_4 : decode cX5_extent 4 = .ok (.aload_n 0, 1) := by decide +kernel
theorem dX5_extent_5 : decode cX5_extent 5 = .ok (.astore 5, 2) := by decide +kernel
theorem dX5_extent_7 : decode cX5_extent 7 = .ok (.aload 5, 2) := by decide +kernel
theorem dX5_extent_9 : decode cX5_extent 9 = .ok (.arraylength, 1) := by decide +kernel
theorem dX5_extent_10 : decode cX5_extent 10 = .ok (.istore 6, 2) := by decide +kernel
theorem dX5_extent_12 : decode cX5_extent 12 = .ok (.iconst 0, 1) := by decide +kernel
theorem dX5_extent_13 : decode cX5_extent 13 = .ok (.istore 7, 2) := by decide +kernel
theorem dX5_extent_15 : decode cX5_extent 15 = .ok (.iload 7, 2) := by decide +kernel
theorem dX5_extent_17 : decode cX5_extent 17 = .ok (.iload 6, 2) := by decide +kernel
theorem dX5_extent_19 : decode cX5_extent 19 = .ok (.if_icmp .ge 44, 3) := by decide +kernel
theorem dX5_extent_22 : decode cX5_extent 22 = .ok (.aload 5, 2) := by decide +kernel
theorem dX5_extent_24 : decode cX5_extent 24 = .ok (.iload 7, 2) := by decide +kernel
theorem dX5_extent_26 : decode cX5_extent 26 = .ok (.daload, 1) := by decide +kernel
theorem dX5_extent_27 : decode cX5_extent 27 = .ok (.dstore 8, 2) := by decide +kernel
theorem dX5_extent_29 : decode cX5_extent 29 = .ok (.dload 8, 2) := by decide +kernel
theorem dX5_extent_31 : decode cX5_extent 31 = .ok (.dload_n 1, 1) := by decide +kernel
theorem dX5_extent_32 : decode cX5_extent 32 = .ok (.dcmp .g, 1) := by decide +kernel
theorem dX5_extent_33 : decode cX5_extent 33 = .ok (.ifCond .ge 8, 3) := by decide +kernel
theorem dX5_extent_36 : decode cX5_extent 36 = .ok (.dload 8, 2) := by decide +kernel
theorem dX5_extent_38 : decode cX5_extent 38 = .ok (.goto 4, 3) := by decide +kernel
theorem dX5_extent_41 : decode cX5_extent 41 = .ok (.dload_n 1, 1) := by decide +kernel
theorem dX5_extent_42 : decode cX5_extent 42 = .ok (.dstore_n 1, 1) := by decide +kernel
theorem dX5_extent_43 : decode cX5_extent 43 = .ok (.dload 8, 2) := by decide +kernel
theorem dX5_extent_45 : decode cX5_extent 45 = .ok (.dload_n 3, 1) := by decide +kernel
theorem dX5_extent_46 : decode cX5_extent 46 = .ok (.dcmp .l, 1) := by decide +kernel
theorem dX5_extent_47 : decode cX5_extent 47 = .ok (.ifCond .le 8, 3) := by decide +kernel
theorem dX5_extent_50 : decode cX5_extent 50 = .ok (.dload 8, 2) := by decide +kernel
theorem dX5_extent_52 : decode cX5_extent 52 = .ok (.goto 4, 3) := by decide +kernel
theorem dX5_extent_55 : decode cX5_extent 55 = .ok (.dload_n 3, 1) := by decide +kernel
theorem dX5_extent_56 : decode cX5_extent 56 = .ok (.dstore_n 3, 1) := by decide +kernel
theorem dX5_extent_57 : decode cX5_extent 57 = .ok (.iinc 7 1, 3) := by decide +kernel
theorem dX5_extent_60 : decode cX5_extent 60 = .ok (.goto (-45), 3) := by decide +kernel
theorem dX5_extent_63 : decode cX5_extent 63 = .ok (.dload_n 3, 1) := by decide +kernel
theorem dX5_extent_64 : decode cX5_extent 64 = .ok (.dload_n 1, 1) := by decide +kernel
theorem dX5_extent_65 : decode cX5_extent 65 = .ok (.dsub, 1) := by decide +kernel
theorem dX5_extent_66 : decode cX5_extent 66 = .ok (.dreturn, 1) := by decide +kernel
abbrev rm_X5_extent : Room := { frames := 5, cells := 0, slots := 0, locals := 40 }
set_option maxHeartbeats 4000000 in
set_option maxRecDepth 100000 in
/-- how far numbers reach -/
theorem c_X5_extent {l : Launch} {G : va_G} {ty : Nat → ClassId} {b0 : Nat} {H : Heap} {q0 n : Nat} {f g : Nat → UInt64} (hn : n < 100) (hc0 : xc G q0 (.inl (ty 0, n, .inr (.inr (.inr (.inl f))))) H) (hf : ∀ j : Nat, j < n → vq (f j) (g j)) : xMet l yX5_extent wsX5_extent rm_X5_extent G ty b0 [.ref q0] H (fun v H1 => H = H1 ∧ ∃ z9 : UInt64, v = some (.double z9) ∧ vq z9 (FP.dsub (pMx g n) (pMn g n))) (fun _ _ => False) := by
  refine xbody (cc := cX5_extent) (maxL := 10) (ret := (some .double)) (C := RX5) (lv := [(0, .ref q0)]) (by decide) rfl rfl (Nat.le_of_ble_eq_true rfl) rfl ?_
  intro p e s m below meth c d0 hx hb hr hts hown hlocks hml hxt hnm0 hK hb0 hH0 hS hd0 ls hl
  refine lv_dconst0 hx hb dX5_extent_0 ?_
  refine lv_dstore_n (lv' := [(1, .double FP.dconst0), (0, .ref q0)]) hx hb dX5_extent_1 rfl hl (by decide) rfl (fun ls hl => ?_)
  refine lv_dconst0 hx hb dX5_extent_2 ?_
  refine lv_dstore_n (lv' := [(3, .double FP.dconst0), (1, .double FP.dconst0), (0, .ref q0)]) hx hb dX5_extent_3 rfl hl (by decide) rfl (fun ls hl => ?_)
  refine lv_aload_n hx hb dX5_extent_4 rfl (lv_at hl 2 rfl) ?_
  refine lv_astore (lv' := [(5, .ref q0), (3, .double FP.dconst0), (1, .double FP.dconst0), (0, .ref q0)]) hx hb dX5_extent_5 hl (by decide) rfl (fun ls hl => ?_)
  refine lv_aload hx hb dX5_extent_7 (lv_at hl 0 rfl) ?_
  refine xalen hx hb hK.1 0 hc0 rfl dX5_extent_9 ?_
  refine lv_istore (lv' := [(6, .int (nI n)), (5, .ref q0), (3, .double FP.dconst0), (1, .double FP.dconst0), (0, .ref q0)]) hx hb dX5_extent_10 hl (by decide) rfl (fun ls hl => ?_)
  refine lv_iconst (v := nI 0) hx hb dX5_extent_12 (by decide) ?_
  refine lv_istore (lv' := [(7, .int (nI 0)), (6, .int (nI n)), (5, .ref q0), (3, .double FP.dconst0), (1, .double FP.dconst0), (0, .ref q0)]) hx hb dX5_extent_13 hl (by decide) rfl (fun ls hl => ?_)
  suffices K : ∀ (q : Nat) (k : Nat) (lw hg : UInt64) (locs : List Loc) (d0 : Drawn) (ls : Array Slot), (k + q = n ∧ vq lw (pMn g k) ∧ vq hg (pMx g k)) → va_S (xA b0) s.heap H locs → s.drawn.sameBut d0 lw_cs → lv_has ls 10 [(7, .int (nI k)), (1, .double lw), (3, .double hg), (5, .ref q0), (6, .int (nI n))] → W p l e rm_X5_extent (s.setDrawn d0) m [Value.ref q0].toArray below meth c H locs (0) (0) (xMQ below (fun v H1 => H = H1 ∧ ∃ z9 : UInt64, v = some (.double z9) ∧ vq z9 (FP.dsub (pMx g n) (pMn g n))) (fun _ _ => False) [.ref q0].toArray s rm_X5_extent b0) (F0 m 15 ls []) from K n 0 FP.dconst0 FP.dconst0 _ d0 ls ⟨by omega, vq_rf _, vq_rf _⟩ hS hd0 (lv_sub hl [0, 4, 3, 2, 1] rfl)
  intro q
  induction q with
  | zero =>
    intro k lw hg locs d0 ls hinv hS hd0 hl
    obtain ⟨hk, hlw, hhg⟩ := hinv
    refine lv_iload hx hb dX5_extent_15 (lv_at hl 0 rfl) ?_
    refine lv_iload hx hb dX5_extent_17 (lv_at hl 4 rfl) ?_
    refine xicmpN_ge (tgt := 63) hx hb (by omega) (by omega) dX5_extent_19 (by decide) (fun _ => ?_) (fun h9 => absurd h9 (by omega))
    refine lv_dload_n hx hb dX5_extent_63 rfl (lv_at hl 2 rfl) ?_
    refine lv_dload_n hx hb dX5_extent_64 rfl (lv_at hl 1 rfl) ?_
    refine xdsub hd0 hx hb hhg hlw dX5_extent_65 (fun r_2 d0 q_2 hd0 => ?_)
    exact xdret hd0 hx hb hr hlocks hS (Nat.le_of_ble_eq_true rfl) (Nat.le_of_ble_eq_true rfl) dX5_extent_66 ⟨rfl, _, rfl, by have e9 : k = n := (by omega); subst e9; exact q_2⟩
  | succ q ih =>
    intro k lw hg locs d0 ls hinv hS hd0 hl
    obtain ⟨hk, hlw, hhg⟩ := hinv
    refine lv_iload hx hb dX5_extent_15 (lv_at hl 0 rfl) ?_
    refine lv_iload hx hb dX5_extent_17 (lv_at hl 4 rfl) ?_
    refine xicmpN_ge (tgt := 63) hx hb (by omega) (by omega) dX5_extent_19 (by decide) (fun h9 => absurd h9 (by omega)) (fun _ => ?_)
    refine lv_aload hx hb dX5_extent_22 (lv_at hl 3 rfl) ?_
    refine lv_iload hx hb dX5_extent_24 (lv_at hl 0 rfl) ?_
    refine xdald (j := k) hx hb hK.1 0 hc0 rfl (xix_of (by omega) (by omega)) dX5_extent_26 ?_
    refine lv_dstore (lv' := [(8, .double (f k)), (7, .int (nI k)), (1, .double lw), (3, .double hg), (5, .ref q0), (6, .int (nI n))]) hx hb dX5_extent_27 hl (by decide) rfl (fun ls hl => ?_)
    refine lv_dload hx hb dX5_extent_29 (lv_at hl 0 rfl) ?_
    refine lv_dload_n hx hb dX5_extent_31 rfl (lv_at hl 2 rfl) ?_
    refine xcmp_g_ge (tgt := 41) hx hb (hf k (by omega)) hlw dX5_extent_32 dX5_extent_33 (by decide) (fun c_4 => ?_) (fun c_4 => ?_)
    · refine lv_dload_n hx hb dX5_extent_41 rfl (lv_at hl 2 rfl) ?_
      refine lv_dstore_n (lv' := [(1, .double lw), (8, .double (f k)), (7, .int (nI k)), (3, .double hg), (5, .ref q0), (6, .int (nI n))]) hx hb dX5_extent_42 rfl hl (by decide) rfl (fun ls hl => ?_)
      refine lv_dload hx hb dX5_extent_43 (lv_at hl 1 rfl) ?_
      refine lv_dload_n hx hb dX5_extent_45 rfl (lv_at hl 3 rfl) ?_
      refine xcmp_l_le (tgt := 55) hx hb (hf k (by omega)) hhg dX5_extent_46 dX5_extent_47 (by decide) (fun c_5 => ?_) (fun c_5 => ?_)
      · refine lv_dload_n hx hb dX5_extent_55 rfl (lv_at hl 3 rfl) ?_
        refine lv_dstore_n (lv' := [(3, .double hg), (1, .double lw), (8, .double (f k)), (7, .int (nI k)), (5, .ref q0), (6, .int (nI n))]) hx hb dX5_extent_56 rfl hl (by decide) rfl (fun ls hl => ?_)
        refine xiincN (x := k) (y := 1) (lv' := [(7, .int (nI (k + 1))), (3, .double hg), (1, .double lw), (8, .double (f k)), (5, .ref q0), (6, .int (nI n))]) hx hb dX5_extent_57 hl (k := 3) rfl (by decide) (by decide) rfl (fun ls hl => ?_)
        refine lv_goto (tgt := 15) hx hb dX5_extent_60 (by decide) ?_
        exact ih (k + 1) lw hg _ d0 ls ⟨by omega, pMn_f c_4 hlw, pMx_f c_5 hhg⟩ hS hd0 (lv_sub hl [0, 2, 1, 4, 5] rfl)
      · refine lv_dload hx hb dX5_extent_50 (lv_at hl 1 rfl) ?_
        refine lv_goto (tgt := 56) hx hb dX5_extent_52 (by decide) ?_
        refine lv_dstore_n (lv' := [(3, .double (f k)), (1, .double lw), (8, .double (f k)), (7, .int (nI k)), (5, .ref q0), (6, .int (nI n))]) hx hb dX5_extent_56 rfl hl (by decide) rfl (fun ls hl => ?_)
        refine xiincN (x := k) (y := 1) (lv' := [(7, .int (nI (k + 1))), (3, .double (f k)), (1, .double lw), (8, .double (f k)), (5, .ref q0), (6, .int (nI n))]) hx hb dX5_extent_57 hl (k := 3) rfl (by decide) (by decide) rfl (fun ls hl => ?_)
        refine lv_goto (tgt := 15) hx hb dX5_extent_60 (by decide) ?_
        exact ih (k + 1) lw (f k) _ d0 ls ⟨by omega, pMn_f c_4 hlw, pMx_t c_5 (hf k (by omega))⟩ hS hd0 (lv_sub hl [0, 2, 1, 4, 5] rfl)
    · refine lv_dload hx hb dX5_extent_36 (lv_at hl 0 rfl) ?_
      refine lv_goto (tgt := 42) hx hb dX5_extent_38 (by decide) ?_
      refine lv_dstore_n (lv' := [(1, .double (f k)), (8, .double (f k)), (7, .int (nI k)), (3, .double hg), (5, .ref q0), (6, .int (nI n))]) hx hb dX5_extent_42 rfl hl (by decide) rfl (fun ls hl => ?_)
      refine lv_dload hx hb dX5_extent_43 (lv_at hl 1 rfl) ?_
      refine lv_dload_n hx hb dX5_extent_45 rfl (lv_at hl 3 rfl) ?_
      refine xcmp_l_le (tgt := 55) hx hb (hf k (by omega)) hhg dX5_extent_46 dX5_extent_47 (by decide) (fun c_6 => ?_) (fun c_6 => ?_)
      · refine lv_dload_n hx hb dX5_extent_55 rfl (lv_at hl 3 rfl) ?_
        refine lv_dstore_n (lv' := [(3, .double hg), (1, .double (f k)), (8, .double (f k)), (7, .int (nI k)), (5, .ref q0), (6, .int (nI n))]) hx hb dX5_extent_56 rfl hl (by decide) rfl (fun ls hl => ?_)
        refine xiincN (x := k) (y := 1) (lv' := [(7, .int (nI (k + 1))), (3, .double hg), (1, .double (f k)), (8, .double (f k)), (5, .ref q0), (6, .int (nI n))]) hx hb dX5_extent_57 hl (k := 3) rfl (by decide) (by decide) rfl (fun ls hl => ?_)
        refine lv_goto (tgt := 15) hx hb dX5_extent_60 (by decide) ?_
        exact ih (k + 1) (f k) hg _ d0 ls ⟨by omega, pMn_t c_4 (hf k (by omega)), pMx_f c_6 hhg⟩ hS hd0 (lv_sub hl [0, 2, 1, 4, 5] rfl)
      · refine lv_dload hx hb dX5_extent_50 (lv_at hl 1 rfl) ?_
        refine lv_goto (tgt := 56) hx hb dX5_extent_52 (by decide) ?_
        refine lv_dstore_n (lv' := [(3, .double (f k)), (1, .double (f k)), (8, .double (f k)), (7, .int (nI k)), (5, .ref q0), (6, .int (nI n))]) hx hb dX5_extent_56 rfl hl (by decide) rfl (fun ls hl => ?_)
        refine xiincN (x := k) (y := 1) (lv' := [(7, .int (nI (k + 1))), (3, .double (f k)), (1, .double (f k)), (8, .double (f k)), (5, .ref q0), (6, .int (nI n))]) hx hb dX5_extent_57 hl (k := 3) rfl (by decide) (by decide) rfl (fun ls hl => ?_)
        refine lv_goto (tgt := 15) hx hb dX5_extent_60 (by decide) ?_
        exact ih (k + 1) (f k) (f k) _ d0 ls ⟨by omega, pMn_t c_4 (hf k (by omega)), pMx_t c_6 (hf k (by omega))⟩ hS hd0 (lv_sub hl [0, 2, 1, 4, 5] rfl)
/-- own butts up to a frame keep a span; the last one -/
def pOwn (bu : Nat → Int32) (i n k : Nat) (la : Int32) : Prop := ((la = (-1) ∧ ∀ g : Nat, g < k → bu (8 * i + g) = 0) ∨ ∃ j : Nat, j < k ∧ la = nI j ∧ ¬ bu (8 * i + j) = 0 ∧ ∀ g : Nat, j < g → g < k → bu (8 * i + g) = 0) ∧ ∀ f : Nat, f < k → ∀ g : Nat, g < k → pKp bu i i n f g
theorem own_0 {bu : Nat → Int32} {i n : Nat} : pOwn bu i n 0 (-1) := ⟨Or.inl ⟨rfl, fun _ h => absurd h (Nat.not_lt_zero _)⟩, fun _ h => absurd h (Nat.not_lt_zero _)⟩
theorem own_pairs {bu : Nat → Int32} {i n k : Nat} (h : ∀ f : Nat, f < k → ∀ g : Nat, g < k → pKp bu i i n f g) (h2 : ¬ bu (8 * i + k) = 0 → ∀ g : Nat, g < k → ¬ bu (8 * i + g) = 0 → n ≤ k - g) : ∀ f : Nat, f < k + 1 → ∀ g : Nat, g < k + 1 → pKp bu i i n f g := by
  intro f hf g hg b1 b2 b3
  have b3 : ¬ f = g := b3.elim (fun z => absurd rfl z) id
  by_cases e1 : f = k
  · subst e1
    have := h2 b1 g (by omega) b2
    rw [if_neg (by omega)]; exact this
  · by_cases e2 : g = k
    · subst e2
      have := h2 b2 f (by omega) b1
      rw [if_pos (by omega)]; exact this
    · exact h f (by omega) g (by omega) b1 b2 (Or.inr b3)
theorem own_skip {bu : Nat → Int32} {i n k : Nat} {la : Int32} (h : pOwn bu i n k la) (c : bu (8 * i + k) = 0) : pOwn bu i n (k + 1) la := by
  obtain ⟨h1, h2⟩ := h
  refine ⟨?_, own_pairs h2 (fun z => absurd c z)⟩
  rcases h1 with ⟨rfl, h⟩ | ⟨j, hj, rfl, h3, h4⟩
  · exact Or.inl ⟨rfl, fun g hg => by by_cases e : g = k; subst e; exact c; exact h g (by omega)⟩
  · exact Or.inr ⟨j, by omega, rfl, h3, fun g a b => by by_cases e : g = k; subst e; exact c; exact h4 g a (by omega)⟩
theorem own_first {bu : Nat → Int32} {i n k : Nat} (h : ∀ g : Nat, g < k → bu (8 * i + g) = 0) (h2 : ∀ f : Nat, f < k → ∀ g : Nat, g < k → pKp bu i i n f g) (c : ¬ bu (8 * i + k) = 0) : pOwn bu i n (k + 1) (nI k) :=
  ⟨Or.inr ⟨k, by omega, rfl, c, fun g a b => by omega⟩, own_pairs h2 (fun _ g hg z => absurd (h g hg) z)⟩
theorem own_next {bu : Nat → Int32} {i n k j : Nat} (hj : j < k) (h : ∀ g : Nat, j < g → g < k → bu (8 * i + g) = 0) (h2 : ∀ f : Nat, f < k → ∀ g : Nat, g < k → pKp bu i i n f g) (c : ¬ bu (8 * i + k) = 0) (hn : n ≤ k - j) : pOwn bu i n (k + 1) (nI k) :=
  ⟨Or.inr ⟨k, by omega, rfl, c, fun g a b => by omega⟩, own_pairs h2 (fun _ g hg z => by
    by_cases e : j < g
    · exact absurd (h g e hg) z
    · omega)⟩
theorem own_bad {bu : Nat → Int32} {i n k j F : Nat} (hj : j < k) (hk : k < F) (h3 : ¬ bu (8 * i + j) = 0) (c : ¬ bu (8 * i + k) = 0) (hn : k - j < n) : ¬ pKeeps bu F i i n := by
  intro h
  have := h j (by omega) k hk h3 c (Or.inr (by omega))
  rw [if_pos hj] at this
  omega
theorem nI_neg1 {j : Nat} (h : j < 2 ^ 31) : ¬ nI j = (-1) := by
  intro z
  have := nI_pos h
  rw [z] at this
  exact this (by decide)
theorem dX5_keepsOwn_0 : decode cX5_keepsOwn 0 = .ok (.iconst (-1), 1) := by decide +kernel
theorem dX5_keepsOwn_1 : decode cX5_keepsOwn 1 = .ok (.istore_n 2, 1) := by decide +kernel
theorem dX5_keepsOwn_2 : decode cX5_keepsOwn 2 = .ok (.iconst 0, 1) := by decide +kernel
theorem dX5_keepsOwn_3 : decode cX5_keepsOwn 3 = .ok (.istore_n 3, 1) := by decide +kernel
theorem dX5_keepsOwn_4 : decode cX5_keepsOwn 4 = .ok (.iload_n 3, 1) := by decide +kernel
theorem dX5_keepsOwn_5 : decode cX5_keepsOwn 5 = .ok (.aload_n 0, 1) := by decide +kernel
theorem dX5_keepsOwn_6 : decode cX5_keepsOwn 6 = .ok (.getfield 25, 3) := by decide +kernel
theorem dX5_keepsOwn_9 : decode cX5_keepsOwn 9 = .ok (.arraylength, 1) := by decide +kernel
theorem dX5_keepsOwn_10 : decode cX5_keepsOwn 10 = .ok (.if_icmp .ge 34, 3) := by decide +kernel
theorem dX5_keepsOwn_13 : decode cX5_keepsOwn 13 = .ok (.aload_n 0, 1) := by decide +kernel
theorem dX5_keepsOwn_14 : decode cX5_keepsOwn 14 = .ok (.getfield 25, 3) := by decide +kernel
theorem dX5_keepsOwn_17 : decode cX5_keepsOwn 17 = .ok (.iload_n 3, 1) := by decide +kernel
theorem dX5_keepsOwn_18 : decode cX5_keepsOwn 18 = .ok (.baload, 1) := by decide +kernel
theorem dX5_keepsOwn_19 : decode cX5_keepsOwn 19 = .ok (.ifCond .eq 19, 3) := by decide +kernel
theorem dX5_keepsOwn_22 : decode cX5_keepsOwn 22 = .ok (.iload_n 2, 1) := by decide +kernel
theorem dX5_keepsOwn_23 : decode cX5_keepsOwn 23 = .ok (.iconst (-1), 1) := by decide +kernel
theorem dX5_keepsOwn_24 : decode cX5_keepsOwn 24 = .ok (.if_icmp .eq 12, 3) := by decide +kernel
theorem dX5_keepsOwn_27 : decode cX5_keepsOwn 27 = .ok (.iload_n 3, 1) := by decide +kernel
theorem dX5_keepsOwn_28 : decode cX5_keepsOwn 28 = .ok (.iload_n 2, 1) := by decide +kernel
theorem dX5_keepsOwn_29 : decode cX5_keepsOwn 29 = .ok (.isub, 1) := by decide +kernel
theorem dX5_keepsOwn_30 : decode cX5_keepsOwn 30 = .ok (.iload_n 1, 1) := by decide +kernel
theorem dX5_keepsOwn_31 : decode cX5_keepsOwn 31 = .ok (.if_icmp .ge 5, 3) := by decide +kernel
theorem dX5_keepsOwn_34 : decode cX5_keepsOwn 34 = .ok (.iconst 0, 1) := by decide +kernel
theorem dX5_keepsOwn_35 : decode cX5_keepsOwn 35 = .ok (.ireturn, 1) := by decide +kernel
theorem dX5_keepsOwn_36 : decode cX5_keepsOwn 36 = .ok (.iload_n 3, 1) := by decide +kernel
theorem dX5_keepsOwn_37 : decode cX5_keepsOwn 37 = .ok (.istore_n 2, 1) := by decide +kernel
theorem dX5_keepsOwn_38 : decode cX5_keepsOwn 38 = .ok (.iinc 3 1, 3) := by decide +kernel
theorem dX5_keepsOwn_41 : decode cX5_keepsOwn 41 = .ok (.goto (-37), 3) := by decide +kernel
theorem dX5_keepsOwn_44 : decode cX5_keepsOwn 44 = .ok (.iconst 1, 1) := by decide +kernel
theorem dX5_keepsOwn_45 : decode cX5_keepsOwn 45 = .ok (.ireturn, 1) := by decide +kernel
abbrev rm_X5_keepsOwn : Room := { frames := 5, cells := 0, slots := 0, locals := 40 }
theorem hw_X5_keepsOwn_1 : (Cond.fieldLink RX5 25 "PlankUnroll$Strip" "butts" "[Z") ∈ wsX5_keepsOwn := List.mem_of_getElem? (i := 1) rfl
theorem in_X5_keepsOwn_X5 : ∀ w ∈ wsX50, w ∈ wsX5_keepsOwn := by decide +kernel
set_option maxHeartbeats 4000000 in
set_option maxRecDepth 100000 in
/-- own butts keep a span -/
theorem c_X5_keepsOwn {l : Launch} {G : va_G} {ty : Nat → ClassId} {b0 : Nat} {H : Heap} {ad : Nat → Nat} {F R nb : Nat} {pl wi hi fa : Nat → UInt64} {un bu lo la : Nat → Int32} {cx cy bx : Nat → Nat → UInt64} {nf : Nat → Nat} {K0 : Heap} (hX : xCla G ty ad F R pl un cx cy bu nb wi hi nf fa lo la bx K0 H) (hW : xWf F R nb nf ad b0) {i n : Nat} (hi9 : i < R - 1) (hn : n < 100) : xMet l yX5_keepsOwn wsX5_keepsOwn rm_X5_keepsOwn G ty b0 [.ref (ad (30 + i)), .int (nI n)] H (fun v H1 => H = H1 ∧ v = some (.int (xP (pKeeps bu F i i n)))) (fun _ _ => False) := by
  refine xbody (cc := cX5_keepsOwn) (maxL := 4) (ret := (some .boolean)) (C := RX5) (lv := [(0, .ref (ad (30 + i))), (1, .int (nI n))]) (by decide) rfl rfl (Nat.le_of_ble_eq_true rfl) rfl ?_
  intro p e s m below meth c d0 hx hb hr hts hown hlocks hml hxt hnm0 hK hb0 hH0 hS hd0 ls hl
  obtain ⟨⟨zF2, zF8⟩, ⟨zR2, zR8⟩⟩ := id hW.1
  have zB4 := hW.2.1
  refine lv_iconst (v := (-1)) hx hb dX5_keepsOwn_0 (by decide) ?_
  refine lv_istore_n (lv' := [(2, .int ((-1))), (0, .ref (ad (30 + i))), (1, .int (nI n))]) hx hb dX5_keepsOwn_1 rfl hl (by decide) rfl (fun ls hl => ?_)
  refine lv_iconst (v := nI 0) hx hb dX5_keepsOwn_2 (by decide) ?_
  refine lv_istore_n (lv' := [(3, .int (nI 0)), (2, .int ((-1))), (0, .ref (ad (30 + i))), (1, .int (nI n))]) hx hb dX5_keepsOwn_3 rfl hl (by decide) rfl (fun ls hl => ?_)
  suffices K : ∀ (q : Nat) (k : Nat) (la9 : Int32) (locs : List Loc) (d0 : Drawn) (ls : Array Slot), (k + q = F ∧ pOwn bu i n k la9) → va_S (xA b0) s.heap H locs → s.drawn.sameBut d0 lw_cs → lv_has ls 4 [(3, .int (nI k)), (2, .int (la9)), (0, .ref (ad (30 + i))), (1, .int (nI n))] → W p l e rm_X5_keepsOwn (s.setDrawn d0) m [Value.ref (ad (30 + i)), Value.int (nI n)].toArray below meth c H locs (0) (0) (xMQ below (fun v H1 => H = H1 ∧ v = some (.int (xP (pKeeps bu F i i n)))) (fun _ _ => False) [.ref (ad (30 + i)), .int (nI n)].toArray s rm_X5_keepsOwn b0) (F0 m 4 ls []) from K F 0 (-1) _ d0 ls ⟨by omega, own_0⟩ hS hd0 (lv_sub hl [0, 1, 2, 3] rfl)
  intro q
  induction q with
  | zero =>
    intro k la9 locs d0 ls hinv hS hd0 hl
    obtain ⟨hk, ho⟩ := hinv
    refine lv_iload_n hx hb dX5_keepsOwn_4 rfl (lv_at hl 0 rfl) ?_
    refine lv_aload_n hx hb dX5_keepsOwn_5 rfl (lv_at hl 2 rfl) ?_
    refine va_get (D := G) (cl := vwCl) (ci := 6) (v := .ref (ad (60 + i))) (C := RX5) (T := TX5) (N := 9) hx hb (hts d0) in_X5_keepsOwn_X5 hown hK.1 (x1 (hX.strip_ _ (by omega))) 0 rfl rfl 4 (by decide) (hts d0 _ hw_X5_keepsOwn_1) (fun _ h9 => h9) rfl dX5_keepsOwn_6 ?_
    refine xalen hx hb hK.1 2 (hX.bt_ _ (by omega)) rfl dX5_keepsOwn_9 ?_
    refine xicmpN_ge (tgt := 44) hx hb (by omega) (by omega) dX5_keepsOwn_10 (by decide) (fun _ => ?_) (fun h9 => absurd h9 (by omega))
    refine lv_iconst (v := nI 1) hx hb dX5_keepsOwn_44 (by decide) ?_
    exact xzret (by decide) hd0 hx hb hr hlocks hS (Nat.le_of_ble_eq_true rfl) (Nat.le_of_ble_eq_true rfl) dX5_keepsOwn_45 ⟨rfl, by have e9 : k = F := (by omega); subst e9; exact xz1 ho.2⟩
  | succ q ih =>
    intro k la9 locs d0 ls hinv hS hd0 hl
    obtain ⟨hk, ho⟩ := hinv
    refine lv_iload_n hx hb dX5_keepsOwn_4 rfl (lv_at hl 0 rfl) ?_
    refine lv_aload_n hx hb dX5_keepsOwn_5 rfl (lv_at hl 2 rfl) ?_
    refine va_get (D := G) (cl := vwCl) (ci := 6) (v := .ref (ad (60 + i))) (C := RX5) (T := TX5) (N := 9) hx hb (hts d0) in_X5_keepsOwn_X5 hown hK.1 (x1 (hX.strip_ _ (by omega))) 0 rfl rfl 4 (by decide) (hts d0 _ hw_X5_keepsOwn_1) (fun _ h9 => h9) rfl dX5_keepsOwn_6 ?_
    refine xalen hx hb hK.1 2 (hX.bt_ _ (by omega)) rfl dX5_keepsOwn_9 ?_
    refine xicmpN_ge (tgt := 44) hx hb (by omega) (by omega) dX5_keepsOwn_10 (by decide) (fun h9 => absurd h9 (by omega)) (fun _ => ?_)
    refine lv_aload_n hx hb dX5_keepsOwn_13 rfl (lv_at hl 2 rfl) ?_
    refine va_get (D := G) (cl := vwCl) (ci := 6) (v := .ref (ad (60 + i))) (C := RX5) (T := TX5) (N := 9) hx hb (hts d0) in_X5_keepsOwn_X5 hown hK.1 (x1 (hX.strip_ _ (by omega))) 0 rfl rfl 4 (by decide) (hts d0 _ hw_X5_keepsOwn_1) (fun _ h9 => h9) rfl dX5_keepsOwn_14 ?_
    refine lv_iload_n hx hb dX5_keepsOwn_17 rfl (lv_at hl 0 rfl) ?_
    refine xzald (j := k) hx hb hK.1 2 (hX.bt_ _ (by omega)) rfl (xix_of (by omega) (by omega)) dX5_keepsOwn_18 ?_
    refine lv_if_eq (tgt := 38) hx hb dX5_keepsOwn_19 (by decide) (fun c_3 => ?_) (fun c_3 => ?_)
    · refine xiincN (x := k) (y := 1) (lv' := [(3, .int (nI (k + 1))), (2, .int (la9)), (0, .ref (ad (30 + i))), (1, .int (nI n))]) hx hb dX5_keepsOwn_38 hl (k := 0) rfl (by decide) (by decide) rfl (fun ls hl => ?_)
      refine lv_goto (tgt := 4) hx hb dX5_keepsOwn_41 (by decide) ?_
      exact ih (k + 1) la9 _ d0 ls ⟨by omega, own_skip ho c_3⟩ hS hd0 (lv_sub hl [0, 1, 2, 3] rfl)
    · rcases id ho.1 with ⟨e8, h8⟩ | ⟨j9, hj9, e8, h7, h8⟩
      · subst e8
        refine lv_iload_n hx hb dX5_keepsOwn_22 rfl (lv_at hl 1 rfl) ?_
        refine lv_iconst (v := (-1)) hx hb dX5_keepsOwn_23 (by decide) ?_
        refine lv_icmp_eq (tgt := 36) hx hb dX5_keepsOwn_24 (by decide) (fun _ => ?_) (fun h9 => absurd (rfl) h9)
        refine lv_iload_n hx hb dX5_keepsOwn_36 rfl (lv_at hl 0 rfl) ?_
        refine lv_istore_n (lv' := [(2, .int (nI k)), (3, .int (nI k)), (0, .ref (ad (30 + i))), (1, .int (nI n))]) hx hb dX5_keepsOwn_37 rfl hl (by decide) rfl (fun ls hl => ?_)
        refine xiincN (x := k) (y := 1) (lv' := [(3, .int (nI (k + 1))), (2, .int (nI k)), (0, .ref (ad (30 + i))), (1, .int (nI n))]) hx hb dX5_keepsOwn_38 hl (k := 1) rfl (by decide) (by decide) rfl (fun ls hl => ?_)
        refine lv_goto (tgt := 4) hx hb dX5_keepsOwn_41 (by decide) ?_
        exact ih (k + 1) (nI k) _ d0 ls ⟨by omega, own_first h8 ho.2 c_3⟩ hS hd0 (lv_sub hl [0, 1, 2, 3] rfl)
      · subst e8
        refine lv_iload_n hx hb dX5_keepsOwn_22 rfl (lv_at hl 1 rfl) ?_
        refine lv_iconst (v := (-1)) hx hb dX5_keepsOwn_23 (by decide) ?_
        refine lv_icmp_eq (tgt := 36) hx hb dX5_keepsOwn_24 (by decide) (fun h9 => absurd h9 (nI_neg1 (by omega))) (fun _ => ?_)
        refine lv_iload_n hx hb dX5_keepsOwn_27 rfl (lv_at hl 0 rfl) ?_
        refine lv_iload_n hx hb dX5_keepsOwn_28 rfl (lv_at hl 1 rfl) ?_
        refine xisubN hx hb (by omega) dX5_keepsOwn_29 ?_
        refine lv_iload_n hx hb dX5_keepsOwn_30 rfl (lv_at hl 3 rfl) ?_
        refine xicmpN_ge (tgt := 36) hx hb (by omega) (by omega) dX5_keepsOwn_31 (by decide) (fun c_6 => ?_) (fun c_6 => ?_)
        · refine lv_iload_n hx hb dX5_keepsOwn_36 rfl (lv_at hl 0 rfl) ?_
          refine lv_istore_n (lv' := [(2, .int (nI k)), (3, .int (nI k)), (0, .ref (ad (30 + i))), (1, .int (nI n))]) hx hb dX5_keepsOwn_37 rfl hl (by decide) rfl (fun ls hl => ?_)
          refine xiincN (x := k) (y := 1) (lv' := [(3, .int (nI (k + 1))), (2, .int (nI k)), (0, .ref (ad (30 + i))), (1, .int (nI n))]) hx hb dX5_keepsOwn_38 hl (k := 1) rfl (by decide) (by decide) rfl (fun ls hl => ?_)
          refine lv_goto (tgt := 4) hx hb dX5_keepsOwn_41 (by decide) ?_
          exact ih (k + 1) (nI k) _ d0 ls ⟨by omega, own_next hj9 h8 ho.2 c_3 c_6⟩ hS hd0 (lv_sub hl [0, 1, 2, 3] rfl)
        · refine lv_iconst (v := nI 0) hx hb dX5_keepsOwn_34 (by decide) ?_
          exact xzret (by decide) hd0 hx hb hr hlocks hS (Nat.le_of_ble_eq_true rfl) (Nat.le_of_ble_eq_true rfl) dX5_keepsOwn_35 ⟨rfl, xz0 (own_bad hj9 (by omega) h7 c_3 c_6)⟩
theorem xabs_ok : ∀ f : Nat, f < 8 → ∀ g : Nat, g < 8 → (if 0 ≤ nI f - nI g then nI f - nI g else 0 - (nI f - nI g)) = nI (if g < f then f - g else g - f) := by decide +kernel
/-- butts of two strips keep a span, up to a frame of the first -/
def pBes (bu : Nat → Int32) (F i j n k : Nat) : Prop := ∀ f : Nat, f < k → ∀ g : Nat, g < F → pKp bu j i n g f
def pBes1 (bu : Nat → Int32) (i j n k q : Nat) : Prop := ∀ g : Nat, g < q → pKp bu j i n g k
theorem bes_s {bu : Nat → Int32} {F i j n k : Nat} (h : pBes bu F i j n k) (h2 : pBes1 bu i j n k F) : pBes bu F i j n (k + 1) := by
  intro f hf g hg
  by_cases e : f = k
  · subst e; exact h2 g hg
  · exact h f (by omega) g hg
theorem bes1_s {bu : Nat → Int32} {i j n k q : Nat} (h : pBes1 bu i j n k q) (h2 : pKp bu j i n q k) : pBes1 bu i j n k (q + 1) := by
  intro g hg
  by_cases e : g = q
  · subst e; exact h2
  · exact h g (by omega)
theorem dX5_keepsBeside_0 : decode cX5_keepsBeside 0 = .ok (.iconst 0, 1) := by decide +kernel
theorem dX5_keepsBeside_1 : decode cX5_keepsBeside 1 = .ok (.istore_n 3, 1) := by decide +kernel
theorem dX5_keepsBeside_2 : decode cX5_keepsBeside 2 = .ok (.iload_n 3, 1) := by decide +kernel
theorem dX5_keepsBeside_3 : decode cX5_keepsBeside 3 = .ok (.aload_n 0, 1) := by decide +kernel
theorem dX5_keepsBeside_4 : decode cX5_keepsBeside 4 = .ok (.getfield 25, 3) := by decide +kernel
theorem dX5_keepsBeside_7 : decode cX5_keepsBeside 7 = .ok (.arraylength, 1) := by decide +kernel
theorem dX5_keepsBeside_8 : decode cX5_keepsBeside 8 = .ok (.if_icmp .ge 60, 3) := by decide +kernel
theorem dX5_keepsBeside_11 : decode cX5_keepsBeside 11 = .ok (.iconst 0, 1) := by decide +kernel
theorem dX5_keepsBeside_12 : decode cX5_keepsBeside 12 = .ok (.istore 4, 2) := by decide +kernel
theorem dX5_keepsBeside_14 : decode cX5_keepsBeside 14 = .ok (.iload 4, 2) := by decide +kernel
theorem dX5_keepsBeside_16 : decode cX5_keepsBeside 16 = .ok (.aload_n 1, 1) := by decide +kernel
theorem dX5_keepsBeside_17 : decode cX5_keepsBeside 17 = .ok (.getfield 25, 3) := by decide +kernel
theorem dX5_keepsBeside_20 : decode cX5_keepsBeside 20 = .ok (.arraylength, 1) := by decide +kernel
theorem dX5_keepsBeside_21 : decode cX5_keepsBeside 21 = .ok (.if_icmp .ge 41, 3) := by decide +kernel
theorem dX5_keepsBeside_24 : decode cX5_keepsBeside 24 = .ok (.aload_n 0, 1) := by decide +kernel
theorem dX5_keepsBeside_25 : decode cX5_keepsBeside 25 = .ok (.getfield 25, 3) := by decide +kernel
theorem dX5_keepsBeside_28 : decode cX5_keepsBeside 28 = .ok (.iload_n 3, 1) := by decide +kernel
theorem dX5_keepsBeside_29 : decode cX5_keepsBeside 29 = .ok (.baload, 1) := by decide +kernel
theorem dX5_keepsBeside_30 : decode cX5_keepsBeside 30 = .ok (.ifCond .eq 26, 3) := by decide +kernel
theorem dX5_keepsBeside_33 : decode cX5_keepsBeside 33 = .ok (.aload_n 1, 1) := by decide +kernel
theorem dX5_keepsBeside_34 : decode cX5_keepsBeside 34 = .ok (.getfield 25, 3) := by decide +kernel
theorem dX5_keepsBeside_37 : decode cX5_keepsBeside 37 = .ok (.iload 4, 2) := by decide +kernel
theorem dX5_keepsBeside_39 : decode cX5_keepsBeside 39 = .ok (.baload, 1) := by decide +kernel
theorem dX5_keepsBeside_40 : decode cX5_keepsBeside 40 = .ok (.ifCond .eq 16, 3) := by decide +kernel
theorem dX5_keepsBeside_43 : decode cX5_keepsBeside 43 = .ok (.iload_n 3, 1) := by decide +kernel
theorem dX5_keepsBeside_44 : decode cX5_keepsBeside 44 = .ok (.iload 4, 2) := by decide +kernel
theorem dX5_keepsBeside_46 : decode cX5_keepsBeside 46 = .ok (.isub, 1) := by decide +kernel
theorem dX5_keepsBeside_47 : decode cX5_keepsBeside 47 = .ok (.invokestatic 86, 3) := by decide +kernel
theorem dX5_keepsBeside_50 : decode cX5_keepsBeside 50 = .ok (.iload_n 2, 1) := by decide +kernel
theorem dX5_keepsBeside_51 : decode cX5_keepsBeside 51 = .ok (.if_icmp .ge 5, 3) := by decide +kernel
theorem dX5_keepsBeside_54 : decode cX5_keepsBeside 54 = .ok (.iconst 0, 1) := by decide +kernel
theorem dX5_keepsBeside_55 : decode cX5_keepsBeside 55 = .ok (.ireturn, 1) := by decide +kernel
theorem dX5_keepsBeside_56 : decode cX5_keepsBeside 56 = .ok (.iinc 4 1, 3) := by decide +kernel
theorem dX5_keepsBeside_59 : decode cX5_keepsBeside 59 = .ok (.goto (-45), 3) := by decide +kernel
theorem dX5_keepsBeside_62 : decode cX5_keepsBeside 62 = .ok (.iinc 3 1, 3) := by decide +kernel
theorem dX5_keepsBeside_65 : decode cX5_keepsBeside 65 = .ok (.goto (-63), 3) := by decide +kernel
theorem dX5_keepsBeside_68 : decode cX5_keepsBeside 68 = .ok (.iconst 1, 1) := by decide +kernel
theorem dX5_keepsBeside_69 : decode cX5_keepsBeside 69 = .ok (.ireturn, 1) := by decide +kernel
abbrev rm_X5_keepsBeside : Room := { frames := 5, cells := 0, slots := 0, locals := 40 }
theorem hw_X5_keepsBeside_1 : (Cond.fieldLink RX5 25 "PlankUnroll$Strip" "butts" "[Z") ∈ wsX5_keepsBeside := List.mem_of_getElem? (i := 1) rfl
theorem hw_X5_keepsBeside_2 : (Cond.methodLink RX5 86 Lib.Math.abs.name) ∈ wsX5_keepsBeside := List.mem_of_getElem? (i := 2) rfl
theorem hw_X5_keepsBeside_3 : (Cond.static Lib.Math.abs.name) ∈ wsX5_keepsBeside := List.mem_of_getElem? (i := 3) rfl
theorem hw_X5_keepsBeside_4 : (Cond.initialized "java/lang/Math") ∈ wsX5_keepsBeside := List.mem_of_getElem? (i := 4) rfl
theorem hw_X5_keepsBeside_5 : (Cond.code Lib.Math.abs.name Lib.Math.abs.code 1 (some .int)) ∈ wsX5_keepsBeside := List.mem_of_getElem? (i := 5) rfl
theorem in_X5_keepsBeside_X5 : ∀ w ∈ wsX50, w ∈ wsX5_keepsBeside := by decide +kernel
set_option maxHeartbeats 4000000 in
set_option maxRecDepth 100000 in
/-- butts of two strips keep a span -/
theorem c_X5_keepsBeside {l : Launch} {G : va_G} {ty : Nat → ClassId} {b0 : Nat} {H : Heap} {ad : Nat → Nat} {F R nb : Nat} {pl wi hi fa : Nat → UInt64} {un bu lo la : Nat → Int32} {cx cy bx : Nat → Nat → UInt64} {nf : Nat → Nat} {K0 : Heap} (hX : xCla G ty ad F R pl un cx cy bu nb wi hi nf fa lo la bx K0 H) (hW : xWf F R nb nf ad b0) {i j n : Nat} (hi9 : i < R - 1) (hj9 : j < R - 1) (hij : ¬ j = i) (hn : n < 100) : xMet l yX5_keepsBeside wsX5_keepsBeside rm_X5_keepsBeside G ty b0 [.ref (ad (30 + i)), .ref (ad (30 + j)), .int (nI n)] H (fun v H1 => H = H1 ∧ v = some (.int (xP (pKeeps bu F j i n)))) (fun _ _ => False) := by
  refine xbody (cc := cX5_keepsBeside) (maxL := 5) (ret := (some .boolean)) (C := RX5) (lv := [(0, .ref (ad (30 + i))), (1, .ref (ad (30 + j))), (2, .int (nI n))]) (by decide) rfl rfl (Nat.le_of_ble_eq_true rfl) rfl ?_
  intro p e s m below meth c d0 hx hb hr hts hown hlocks hml hxt hnm0 hK hb0 hH0 hS hd0 ls hl
  obtain ⟨⟨zF2, zF8⟩, ⟨zR2, zR8⟩⟩ := id hW.1
  have zB4 := hW.2.1
  refine lv_iconst (v := nI 0) hx hb dX5_keepsBeside_0 (by decide) ?_
  refine lv_istore_n (lv' := [(3, .int (nI 0)), (0, .ref (ad (30 + i))), (1, .ref (ad (30 + j))), (2, .int (nI n))]) hx hb dX5_keepsBeside_1 rfl hl (by decide) rfl (fun ls hl => ?_)
  suffices K : ∀ (u9 : Nat) (k : Nat) (locs : List Loc) (d0 : Drawn) (ls : Array Slot), (k + u9 = F ∧ pBes bu F i j n k) → va_S (xA b0) s.heap H locs → s.drawn.sameBut d0 lw_cs → lv_has ls 5 [(3, .int (nI k)), (0, .ref (ad (30 + i))), (1, .ref (ad (30 + j))), (2, .int (nI n))] → W p l e rm_X5_keepsBeside (s.setDrawn d0) m [Value.ref (ad (30 + i)), Value.ref (ad (30 + j)), Value.int (nI n)].toArray below meth c H locs (0) (0) (xMQ below (fun v H1 => H = H1 ∧ v = some (.int (xP (pKeeps bu F j i n)))) (fun _ _ => False) [.ref (ad (30 + i)), .ref (ad (30 + j)), .int (nI n)].toArray s rm_X5_keepsBeside b0) (F0 m 2 ls []) from K F 0 _ d0 ls ⟨by omega, fun _ h => absurd h (Nat.not_lt_zero _)⟩ hS hd0 (lv_sub hl [0, 1, 2, 3] rfl)
  intro u9
  induction u9 with
  | zero =>
    intro k locs d0 ls hinv hS hd0 hl
    obtain ⟨hk, ho⟩ := hinv
    refine lv_iload_n hx hb dX5_keepsBeside_2 rfl (lv_at hl 0 rfl) ?_
    refine lv_aload_n hx hb dX5_keepsBeside_3 rfl (lv_at hl 1 rfl) ?_
    refine va_get (D := G) (cl := vwCl) (ci := 6) (v := .ref (ad (60 + i))) (C := RX5) (T := TX5) (N := 9) hx hb (hts d0) in_X5_keepsBeside_X5 hown hK.1 (x1 (hX.strip_ _ (by omega))) 0 rfl rfl 4 (by decide) (hts d0 _ hw_X5_keepsBeside_1) (fun _ h9 => h9) rfl dX5_keepsBeside_4 ?_
    refine xalen hx hb hK.1 2 (hX.bt_ _ (by omega)) rfl dX5_keepsBeside_7 ?_
    refine xicmpN_ge (tgt := 68) hx hb (by omega) (by omega) dX5_keepsBeside_8 (by decide) (fun _ => ?_) (fun h9 => absurd h9 (by omega))
    refine lv_iconst (v := nI 1) hx hb dX5_keepsBeside_68 (by decide) ?_
    exact xzret (by decide) hd0 hx hb hr hlocks hS (Nat.le_of_ble_eq_true rfl) (Nat.le_of_ble_eq_true rfl) dX5_keepsBeside_69 ⟨rfl, by have e9 : k = F := (by omega); subst e9; exact xz1 (fun f hf g hg => ho g hg f hf)⟩
  | succ u9 ih =>
    intro k locs d0 ls hinv hS hd0 hl
    obtain ⟨hk, ho⟩ := hinv
    refine lv_iload_n hx hb dX5_keepsBeside_2 rfl (lv_at hl 0 rfl) ?_
    refine lv_aload_n hx hb dX5_keepsBeside_3 rfl (lv_at hl 1 rfl) ?_
    refine va_get (D := G) (cl := vwCl) (ci := 6) (v := .ref (ad (60 + i))) (C := RX5) (T := TX5) (N := 9) hx hb (hts d0) in_X5_keepsBeside_X5 hown hK.1 (x1 (hX.strip_ _ (by omega))) 0 rfl rfl 4 (by decide) (hts d0 _ hw_X5_keepsBeside_1) (fun _ h9 => h9) rfl dX5_keepsBeside_4 ?_
    refine xalen hx hb hK.1 2 (hX.bt_ _ (by omega)) rfl dX5_keepsBeside_7 ?_
    refine xicmpN_ge (tgt := 68) hx hb (by omega) (by omega) dX5_keepsBeside_8 (by decide) (fun h9 => absurd h9 (by omega)) (fun _ => ?_)
    refine lv_iconst (v := nI 0) hx hb dX5_keepsBeside_11 (by decide) ?_
    refine lv_istore (lv' := [(4, .int (nI 0)), (3, .int (nI k)), (0, .ref (ad (30 + i))), (1, .ref (ad (30 + j))), (2, .int (nI n))]) hx hb dX5_keepsBeside_12 hl (by decide) rfl (fun ls hl => ?_)
    suffices K : ∀ (v9 : Nat) (q : Nat) (locs : List Loc) (d0 : Drawn) (ls : Array Slot), (q + v9 = F ∧ pBes1 bu i j n k q) → va_S (xA b0) s.heap H locs → s.drawn.sameBut d0 lw_cs → lv_has ls 5 [(4, .int (nI q)), (3, .int (nI k)), (0, .ref (ad (30 + i))), (1, .ref (ad (30 + j))), (2, .int (nI n))] → W p l e rm_X5_keepsBeside (s.setDrawn d0) m [Value.ref (ad (30 + i)), Value.ref (ad (30 + j)), Value.int (nI n)].toArray below meth c H locs (0) (0) (xMQ below (fun v H1 => H = H1 ∧ v = some (.int (xP (pKeeps bu F j i n)))) (fun _ _ => False) [.ref (ad (30 + i)), .ref (ad (30 + j)), .int (nI n)].toArray s rm_X5_keepsBeside b0) (F0 m 14 ls []) from K F 0 _ d0 ls ⟨by omega, fun _ h => absurd h (Nat.not_lt_zero _)⟩ hS hd0 (lv_sub hl [0, 1, 2, 3, 4] rfl)
    intro v9
    induction v9 with
    | zero =>
      intro q locs d0 ls hinv hS hd0 hl
      obtain ⟨hq, h1⟩ := hinv
      refine lv_iload hx hb dX5_keepsBeside_14 (lv_at hl 0 rfl) ?_
      refine lv_aload_n hx hb dX5_keepsBeside_16 rfl (lv_at hl 3 rfl) ?_
      refine va_get (D := G) (cl := vwCl) (ci := 6) (v := .ref (ad (60 + j))) (C := RX5) (T := TX5) (N := 9) hx hb (hts d0) in_X5_keepsBeside_X5 hown hK.1 (x1 (hX.strip_ _ (by omega))) 0 rfl rfl 4 (by decide) (hts d0 _ hw_X5_keepsBeside_1) (fun _ h9 => h9) rfl dX5_keepsBeside_17 ?_
      refine xalen hx hb hK.1 2 (hX.bt_ _ (by omega)) rfl dX5_keepsBeside_20 ?_
      refine xicmpN_ge (tgt := 62) hx hb (by omega) (by omega) dX5_keepsBeside_21 (by decide) (fun _ => ?_) (fun h9 => absurd h9 (by omega))
      refine xiincN (x := k) (y := 1) (lv' := [(3, .int (nI (k + 1))), (4, .int (nI q)), (0, .ref (ad (30 + i))), (1, .ref (ad (30 + j))), (2, .int (nI n))]) hx hb dX5_keepsBeside_62 hl (k := 1) rfl (by decide) (by decide) rfl (fun ls hl => ?_)
      refine lv_goto (tgt := 2) hx hb dX5_keepsBeside_65 (by decide) ?_
      exact ih (k + 1) _ d0 ls ⟨by omega, bes_s ho (by have e9 : q = F := (by omega); subst e9; exact h1)⟩ hS hd0 (lv_sub hl [0, 2, 3, 4] rfl)
    | succ v9 ih2 =>
      intro q locs d0 ls hinv hS hd0 hl
      obtain ⟨hq, h1⟩ := hinv
      refine lv_iload hx hb dX5_keepsBeside_14 (lv_at hl 0 rfl) ?_
      refine lv_aload_n hx hb dX5_keepsBeside_16 rfl (lv_at hl 3 rfl) ?_
      refine va_get (D := G) (cl := vwCl) (ci := 6) (v := .ref (ad (60 + j))) (C := RX5) (T := TX5) (N := 9) hx hb (hts d0) in_X5_keepsBeside_X5 hown hK.1 (x1 (hX.strip_ _ (by omega))) 0 rfl rfl 4 (by decide) (hts d0 _ hw_X5_keepsBeside_1) (fun _ h9 => h9) rfl dX5_keepsBeside_17 ?_
      refine xalen hx hb hK.1 2 (hX.bt_ _ (by omega)) rfl dX5_keepsBeside_20 ?_
      refine xicmpN_ge (tgt := 62) hx hb (by omega) (by omega) dX5_keepsBeside_21 (by decide) (fun h9 => absurd h9 (by omega)) (fun _ => ?_)
      refine lv_aload_n hx hb dX5_keepsBeside_24 rfl (lv_at hl 2 rfl) ?_
      refine va_get (D := G) (cl := vwCl) (ci := 6) (v := .ref (ad (60 + i))) (C := RX5) (T := TX5) (N := 9) hx hb (hts d0) in_X5_keepsBeside_X5 hown hK.1 (x1 (hX.strip_ _ (by omega))) 0 rfl rfl 4 (by decide) (hts d0 _ hw_X5_keepsBeside_1) (fun _ h9 => h9) rfl dX5_keepsBeside_25 ?_
      refine lv_iload_n hx hb dX5_keepsBeside_28 rfl (lv_at hl 1 rfl) ?_
      refine xzald (j := k) hx hb hK.1 2 (hX.bt_ _ (by omega)) rfl (xix_of (by omega) (by omega)) dX5_keepsBeside_29 ?_
      refine lv_if_eq (tgt := 56) hx hb dX5_keepsBeside_30 (by decide) (fun c_5 => ?_) (fun c_5 => ?_)
      · refine xiincN (x := q) (y := 1) (lv' := [(4, .int (nI (q + 1))), (3, .int (nI k)), (0, .ref (ad (30 + i))), (1, .ref (ad (30 + j))), (2, .int (nI n))]) hx hb dX5_keepsBeside_56 hl (k := 0) rfl (by decide) (by decide) rfl (fun ls hl => ?_)
        refine lv_goto (tgt := 14) hx hb dX5_keepsBeside_59 (by decide) ?_
        exact ih2 (q + 1) _ d0 ls ⟨by omega, bes1_s h1 (fun _ b2 _ => absurd c_5 b2)⟩ hS hd0 (lv_sub hl [0, 1, 2, 3, 4] rfl)
      · refine lv_aload_n hx hb dX5_keepsBeside_33 rfl (lv_at hl 3 rfl) ?_
        refine va_get (D := G) (cl := vwCl) (ci := 6) (v := .ref (ad (60 + j))) (C := RX5) (T := TX5) (N := 9) hx hb (hts d0) in_X5_keepsBeside_X5 hown hK.1 (x1 (hX.strip_ _ (by omega))) 0 rfl rfl 4 (by decide) (hts d0 _ hw_X5_keepsBeside_1) (fun _ h9 => h9) rfl dX5_keepsBeside_34 ?_
        refine lv_iload hx hb dX5_keepsBeside_37 (lv_at hl 0 rfl) ?_
        refine xzald (j := q) hx hb hK.1 2 (hX.bt_ _ (by omega)) rfl (xix_of (by omega) (by omega)) dX5_keepsBeside_39 ?_
        refine lv_if_eq (tgt := 56) hx hb dX5_keepsBeside_40 (by decide) (fun c_6 => ?_) (fun c_6 => ?_)
        · refine xiincN (x := q) (y := 1) (lv' := [(4, .int (nI (q + 1))), (3, .int (nI k)), (0, .ref (ad (30 + i))), (1, .ref (ad (30 + j))), (2, .int (nI n))]) hx hb dX5_keepsBeside_56 hl (k := 0) rfl (by decide) (by decide) rfl (fun ls hl => ?_)
          refine lv_goto (tgt := 14) hx hb dX5_keepsBeside_59 (by decide) ?_
          exact ih2 (q + 1) _ d0 ls ⟨by omega, bes1_s h1 (fun b1 _ _ => absurd c_6 b1)⟩ hS hd0 (lv_sub hl [0, 1, 2, 3, 4] rfl)
        · refine lv_iload_n hx hb dX5_keepsBeside_43 rfl (lv_at hl 1 rfl) ?_
          refine lv_iload hx hb dX5_keepsBeside_44 (lv_at hl 0 rfl) ?_
          refine lv_isub hx hb dX5_keepsBeside_46 ?_
          refine va_mabs (s := s.setDrawn d0) hx hb (hml.trans hl.1.symm) hown (hts d0 _ hw_X5_keepsBeside_2) (hts d0 _ hw_X5_keepsBeside_3) (hts d0 _ hw_X5_keepsBeside_4) (hts d0 _ hw_X5_keepsBeside_5) (Nat.le_of_ble_eq_true rfl) (Nat.le_of_ble_eq_true rfl) (Nat.le_of_ble_eq_true rfl) (Nat.le_of_ble_eq_true rfl) dX5_keepsBeside_47 ?_
          rw [xabs_ok k (by omega) q (by omega)]
          refine lv_iload_n hx hb dX5_keepsBeside_50 rfl (lv_at hl 4 rfl) ?_
          refine xicmpN_ge (tgt := 56) hx hb (by split <;> omega) (by omega) dX5_keepsBeside_51 (by decide) (fun c_7 => ?_) (fun c_7 => ?_)
          · refine xiincN (x := q) (y := 1) (lv' := [(4, .int (nI (q + 1))), (3, .int (nI k)), (0, .ref (ad (30 + i))), (1, .ref (ad (30 + j))), (2, .int (nI n))]) hx hb dX5_keepsBeside_56 hl (k := 0) rfl (by decide) (by decide) rfl (fun ls hl => ?_)
            refine lv_goto (tgt := 14) hx hb dX5_keepsBeside_59 (by decide) ?_
            exact ih2 (q + 1) _ d0 ls ⟨by omega, bes1_s h1 (fun _ _ _ => c_7)⟩ hS hd0 (lv_sub hl [0, 1, 2, 3, 4] rfl)
          · refine lv_iconst (v := nI 0) hx hb dX5_keepsBeside_54 (by decide) ?_
            exact xzret (by decide) hd0 hx hb hr hlocks hS (Nat.le_of_ble_eq_true rfl) (Nat.le_of_ble_eq_true rfl) dX5_keepsBeside_55 ⟨rfl, xz0 (fun z => absurd (z q (by omega) k (by omega) c_6 c_5 (Or.inl (by omega))) (by omega))⟩
