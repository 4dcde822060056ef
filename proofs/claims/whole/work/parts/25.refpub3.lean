/-! THE REFERENCE: what changes it. -/
def pC2 (a b c d : UInt64) : UInt64 := FP.dsub (FP.dmul a d) (FP.dmul b c)
def pSide (pl : Nat → UInt64) (f r g q k : Nat) : UInt64 := FP.dsub (pAt pl g q k) (pAt pl f r k)
def pCro (pl : Nat → UInt64) (f r g q h t i j : Nat) : UInt64 := pC2 (pSide pl f r g q i) (pSide pl f r g q j) (pSide pl f r h t i) (pSide pl f r h t j)
set_option maxRecDepth 20000 in
theorem ggX7_cross_X7_at : GoodIn wsX7_cross wsX7_at := goodIn_r _ [8, 9, 10, 11, 12, 13, 14, 15, 16, 17, 18, 19, 20, 21, 22, 23, 24, 25, 26, 27] (by decide +kernel) (by decide +kernel)
set_option maxRecDepth 20000 in
theorem gX7_cross_X7_at : GoodIn wsX7_cross (wsV RX7 69 RX7 yX7_at wsX7_at) := goodIn_app (goodIn_of _ (by decide +kernel)) ggX7_cross_X7_at
theorem dX7_cross_0 : decode cX7_cross 0 = .ok (.aload_n 0, 1) := by decide +kernel
theorem dX7_cross_1 : decode cX7_cross 1 = .ok (.iload_n 3, 1) := by decide +kernel
theorem dX7_cross_2 : decode cX7_cross 2 = .ok (.iload 4, 2) := by decide +kernel
theorem dX7_cross_4 : decode cX7_cross 4 = .ok (.iconst 0, 1) := by decide +kernel
theorem dX7_cross_5 : decode cX7_cross 5 = .ok (.invokevirtual 69, 3) := by decide +kernel
theorem dX7_cross_8 : decode cX7_cross 8 = .ok (.aload_n 0, 1) := by decide +kernel
theorem dX7_cross_9 : decode cX7_cross 9 = .ok (.iload_n 1, 1) := by decide +kernel
theorem dX7_cross_10 : decode cX7_cross 10 = .ok (.iload_n 2, 1) := by decide +kernel
theorem dX7_cross_11 : decode cX7_cross 11 = .ok (.iconst 0, 1) := by decide +kernel
theorem dX7_cross_12 : decode cX7_cross 12 = .ok (.invokevirtual 69, 3) := by decide +kernel
theorem dX7_cross_15 : decode cX7_cross 15 = .ok (.dsub, 1) := by decide +kernel
theorem dX7_cross_16 : decode cX7_cross 16 = .ok (.dstore 7, 2) := by decide +kernel
theorem dX7_cross_18 : decode cX7_cross 18 = .ok (.aload_n 0, 1) := by decide +kernel
theorem dX7_cross_19 : decode cX7_cross 19 = .ok (.iload_n 3, 1) := by decide +kernel
theorem dX7_cross_20 : decode cX7_cross 20 = .ok (.iload 4, 2) := by decide +kernel
theorem dX7_cross_22 : decode cX7_cross 22 = .ok (.iconst 1, 1) := by decide +kernel
theorem dX7_cross_23 : decode cX7_cross 23 = .ok (.invokevirtual 69, 3) := by decide +kernel
theorem dX7_cross_26 : decode cX7_cross 26 = .ok (.aload_n 0, 1) := by decide +kernel
theorem dX7_cross_27 : decode cX7_cross 27 = .ok (.iload_n 1, 1) := by decide +kernel
theorem dX7_cross_28 : decode cX7_cross 28 = .ok (.iload_n 2, 1) := by decide +kernel
theorem dX7_cross_29 : decode cX7_cross 29 = .ok (.iconst 1, 1) := by decide +kernel
theorem dX7_cross_30 : decode cX7_cross 30 = .ok (.invokevirtual 69, 3) := by decide +kernel
theorem dX7_cross_33 : decode cX7_cross 33 = .ok (.dsub, 1) := by decide +kernel
theorem dX7_cross_34 : decode cX7_cross 34 = .ok (.dstore 9, 2) := by decide +kernel
theorem dX7_cross_36 : decode cX7_cross 36 = .ok (.aload_n 0, 1) := by decide +kernel
theorem dX7_cross_37 : decode cX7_cross 37 = .ok (.iload_n 3, 1) := by decide +kernel
theorem dX7_cross_38 : decode cX7_cross 38 = .ok (.iload 4, 2) := by decide +kernel
theorem dX7_cross_40 : decode cX7_cross 40 = .ok (.iconst 2, 1) := by decide +kernel
theorem dX7_cross_41 : decode cX7_cross 41 = .ok (.invokevirtual 69, 3) := by decide +kernel
theorem dX7_cross_44 : decode cX7_cross 44 = .ok (.aload_n 0, 1) := by decide +kernel
theorem dX7_cross_45 : decode cX7_cross 45 = .ok (.iload_n 1, 1) := by decide +kernel
theorem dX7_cross_46 : decode cX7_cross 46 = .ok (.iload_n 2, 1) := by decide +kernel
theorem dX7_cross_47 : decode cX7_cross 47 = .ok (.iconst 2, 1) := by decide +kernel
theorem dX7_cross_48 : decode cX7_cross 48 = .ok (.invokevirtual 69, 3) := by decide +kernel
theorem dX7_cross_51 : decode cX7_cross 51 = .ok (.dsub, 1) := by decide +kernel
theorem dX7_cross_52 : decode cX7_cross 52 = .ok (.dstore 11, 2) := by decide +kernel
theorem dX7_cross_54 : decode cX7_cross 54 = .ok (.aload_n 0, 1) := by decide +kernel
theorem dX7_cross_55 : decode cX7_cross 55 = .ok (.iload 5, 2) := by decide +kernel
theorem dX7_cross_57 : decode cX7_cross 57 = .ok (.iload 6, 2) := by decide +kernel
theorem dX7_cross_59 : decode cX7_cross 59 = .ok (.iconst 0, 1) := by decide +kernel
theorem dX7_cross_60 : decode cX7_cross 60 = .ok (.invokevirtual 69, 3) := by decide +kernel
theorem dX7_cross_63 : decode cX7_cross 63 = .ok (.aload_n 0, 1) := by decide +kernel
theorem dX7_cross_64 : decode cX7_cross 64 = .ok (.iload_n 1, 1) := by decide +kernel
theorem dX7_cross_65 : decode cX7_cross 65 = .ok (.iload_n 2, 1) := by decide +kernel
theorem dX7_cross_66 : decode cX7_cross 66 = .ok (.iconst 0, 1) := by decide +kernel
theorem dX7_cross_67 : decode cX7_cross 67 = .ok (.invokevirtual 69, 3) := by decide +kernel
theorem dX7_cross_70 : decode cX7_cross 70 = .ok (.dsub, 1) := by decide +kernel
theorem dX7_cross_71 : decode cX7_cross 71 = .ok (.dstore 13, 2) := by decide +kernel
theorem dX7_cross_73 : decode cX7_cross 73 = .ok (.aload_n 0, 1) := by decide +kernel
theorem dX7_cross_74 : decode cX7_cross 74 = .ok (.iload 5, 2) := by decide +kernel
theorem dX7_cross_76 : decode cX7_cross 76 = .ok (.iload 6, 2) := by decide +kernel
theorem dX7_cross_78 : decode cX7_cross 78 = .ok (.iconst 1, 1) := by decide +kernel
theorem dX7_cross_79 : decode cX7_cross 79 = .ok (.invokevirtual 69, 3) := by decide +kernel
theorem dX7_cross_82 : decode cX7_cross 82 = .ok (.aload_n 0, 1) := by decide +kernel
theorem dX7_cross_83 : decode cX7_cross 83 = .ok (.iload_n 1, 1) := by decide +kernel
theorem dX7_cross_84 : decode cX7_cross 84 = .ok (.iload_n 2, 1) := by decide +kernel
theorem dX7_cross_85 : decode cX7_cross 85 = .ok (.iconst 1, 1) := by decide +kernel
theorem dX7_cross_86 : decode cX7_cross 86 = .ok (.invokevirtual 69, 3) := by decide +kernel
theorem dX7_cross_89 : decode cX7_cross 89 = .ok (.dsub, 1) := by decide +kernel
theorem dX7_cross_90 : decode cX7_cross 90 = .ok (.dstore 15, 2) := by decide +kernel
theorem dX7_cross_92 : decode cX7_cross 92 = .ok (.aload_n 0, 1) := by decide +kernel
theorem dX7_cross_93 : decode cX7_cross 93 = .ok (.iload 5, 2) := by decide +kernel
theorem dX7_cross_95 : decode cX7_cross 95 = .ok (.iload 6, 2) := by decide +kernel
theorem dX7_cross_97 : decode cX7_cross 97 = .ok (.iconst 2, 1) := by decide +kernel
theorem dX7_cross_98 : decode cX7_cross 98 = .ok (.invokevirtual 69, 3) := by decide +kernel
theorem dX7_cross_101 : decode cX7_cross 101 = .ok (.aload_n 0, 1) := by decide +kernel
theorem dX7_cross_102 : decode cX7_cross 102 = .ok (.iload_n 1, 1) := by decide +kernel
theorem dX7_cross_103 : decode cX7_cross 103 = .ok (.iload_n 2, 1) := by decide +kernel
theorem dX7_cross_104 : decode cX7_cross 104 = .ok (.iconst 2, 1) := by decide +kernel
theorem dX7_cross_105 : decode cX7_cross 105 = .ok (.invokevirtual 69, 3) := by decide +kernel
theorem dX7_cross_108 : decode cX7_cross 108 = .ok (.dsub, 1) := by decide +kernel
theorem dX7_cross_109 : decode cX7_cross 109 = .ok (.dstore 17, 2) := by decide +kernel
theorem dX7_cross_111 : decode cX7_cross 111 = .ok (.aload_n 0, 1) := by decide +kernel
theorem dX7_cross_112 : decode cX7_cross 112 = .ok (.dload 9, 2) := by decide +kernel
theorem dX7_cross_114 : decode cX7_cross 114 = .ok (.dload 17, 2) := by decide +kernel
theorem dX7_cross_116 : decode cX7_cross 116 = .ok (.dmul, 1) := by decide +kernel
theorem dX7_cross_117 : decode cX7_cross 117 = .ok (.dload 11, 2) := by decide +kernel
theorem dX7_cross_119 : decode cX7_cross 119 = .ok (.dload 15, 2) := by decide +kernel
theorem dX7_cross_121 : decode cX7_cross 121 = .ok (.dmul, 1) := by decide +kernel
theorem dX7_cross_122 : decode cX7_cross 122 = .ok (.dsub, 1) := by decide +kernel
theorem dX7_cross_123 : decode cX7_cross 123 = .ok (.putfield 104, 3) := by decide +kernel
theorem dX7_cross_126 : decode cX7_cross 126 = .ok (.aload_n 0, 1) := by decide +kernel
theorem dX7_cross_127 : decode cX7_cross 127 = .ok (.dload 11, 2) := by decide +kernel
theorem dX7_cross_129 : decode cX7_cross 129 = .ok (.dload 13, 2) := by decide +kernel
theorem dX7_cross_131 : decode cX7_cross 131 = .ok (.dmul, 1) := by decide +kernel
theorem dX7_cross_132 : decode cX7_cross 132 = .ok (.dload 7, 2) := by decide +kernel
theorem dX7_cross_134 : decode cX7_cross 134 = .ok (.dload 17, 2) := by decide +kernel
theorem dX7_cross_136 : decode cX7_cross 136 = .ok (.dmul, 1) := by decide +kernel
theorem dX7_cross_137 : decode cX7_cross 137 = .ok (.dsub, 1) := by decide +kernel
theorem dX7_cross_138 : decode cX7_cross 138 = .ok (.putfield 108, 3) := by decide +kernel
theorem dX7_cross_141 : decode cX7_cross 141 = .ok (.aload_n 0, 1) := by decide +kernel
theorem dX7_cross_142 : decode cX7_cross 142 = .ok (.dload 7, 2) := by decide +kernel
theorem dX7_cross_144 : decode cX7_cross 144 = .ok (.dload 15, 2) := by decide +kernel
theorem dX7_cross_146 : decode cX7_cross 146 = .ok (.dmul, 1) := by decide +kernel
theorem dX7_cross_147 : decode cX7_cross 147 = .ok (.dload 9, 2) := by decide +kernel
theorem dX7_cross_149 : decode cX7_cross 149 = .ok (.dload 13, 2) := by decide +kernel
theorem dX7_cross_151 : decode cX7_cross 151 = .ok (.dmul, 1) := by decide +kernel
theorem dX7_cross_152 : decode cX7_cross 152 = .ok (.dsub, 1) := by decide +kernel
theorem dX7_cross_153 : decode cX7_cross 153 = .ok (.putfield 111, 3) := by decide +kernel
theorem dX7_cross_156 : decode cX7_cross 156 = .ok (.return_, 1) := by decide +kernel
abbrev rm_X7_cross : Room := { frames := 6, cells := 0, slots := 0, locals := 90 }
theorem hw_X7_cross_1 : (Cond.fieldLink RX7 104 "PlankUnrollModel" "px" "D") ∈ wsX7_cross := List.mem_of_getElem? (i := 1) rfl
theorem hw_X7_cross_2 : (Cond.fieldLink RX7 108 "PlankUnrollModel" "py" "D") ∈ wsX7_cross := List.mem_of_getElem? (i := 2) rfl
theorem hw_X7_cross_3 : (Cond.fieldLink RX7 111 "PlankUnrollModel" "pz" "D") ∈ wsX7_cross := List.mem_of_getElem? (i := 3) rfl
theorem in_X7_cross_X7 : ∀ w ∈ wsX70, w ∈ wsX7_cross := by decide +kernel
set_option maxHeartbeats 4000000 in
set_option maxRecDepth 100000 in
/-- what stands upright on a triangle -/
theorem c_X7_cross {l : Launch} {G : va_G} {ty : Nat → ClassId} {b0 : Nat} {H : Heap} {m0 : Nat} {A : Nat → Nat} {th : Int32} {F R nb : Nat} {pl co dr wi hi fa : Nat → UInt64} {un bu fc lo la : Nat → Int32} {px py pz : UInt64} (hY : xRef G ty m0 A th F R pl un co dr bu nb wi hi fc fa lo la px py pz H) (hZ : xSz F R) (hA : xAp m0 A) (hB : xNw b0 m0 A) {f r g q h t : Nat} (hf : f < 8) (hr9 : r < 8) (hg : g < 8) (hq : q < 8) (hh : h < 8) (ht : t < 8) : xMet l yX7_cross wsX7_cross rm_X7_cross G ty b0 [.ref m0, .int (nI f), .int (nI r), .int (nI g), .int (nI q), .int (nI h), .int (nI t)] H (fun v H1 => ∃ (x1 y1 z1 : UInt64), xRef G ty m0 A th F R pl un co dr bu nb wi hi fc fa lo la x1 y1 z1 H1 ∧ xRfr m0 A H H1 ∧ v = none ∧ vq x1 (pCro pl f r g q h t 1 2) ∧ vq y1 (pCro pl f r g q h t 2 0) ∧ vq z1 (pCro pl f r g q h t 0 1)) (fun _ _ => False) := by
  refine xbody (cc := cX7_cross) (maxL := 19) (ret := none) (C := RX7) (lv := [(0, .ref m0), (1, .int (nI f)), (2, .int (nI r)), (3, .int (nI g)), (4, .int (nI q)), (5, .int (nI h)), (6, .int (nI t))]) (by decide) rfl rfl (Nat.le_of_ble_eq_true rfl) rfl ?_
  intro p e s m below meth c d0 hx hb hr hts hown hlocks hml hxt hnm0 hK hb0 hH0 hS hd0 ls hl
  obtain ⟨y_o, y_0, y_1, y_2, y_3, y_4, y_5, y_6, y_7, y_8, y_9, y_10⟩ := id hY
  obtain ⟨⟨zF2, zF8⟩, ⟨zR2, zR8⟩⟩ := id hZ
  refine lv_aload_n hx hb dX7_cross_0 rfl (lv_at hl 0 rfl) ?_
  refine lv_iload_n hx hb dX7_cross_1 rfl (lv_at hl 3 rfl) ?_
  refine lv_iload hx hb dX7_cross_2 (lv_at hl 4 rfl) ?_
  refine lv_iconst (v := nI 0) hx hb dX7_cross_4 (by decide) ?_
  have cw_1 := cwV (R := rm_X7_cross) (rm := rm_X7_at) 3 (hts d0) gX7_cross_X7_at rfl rfl rfl (by decide +kernel) ⟨Nat.le_of_ble_eq_true rfl, Nat.le_of_ble_eq_true rfl⟩
  refine xcall hd0 (xintoV (b := m0) (As := [.int (nI g), .int (nI q), .int (nI 0)]) (rest := []) ⟨hx, hb, hml, hown, hts _⟩ cw_1 (va_recv hK.1 (x1 y_o) (ci := 8) (q0 := 0) rfl rfl) rfl rfl hl.1 rfl (lv_room (Nat.le_of_ble_eq_true rfl)) dX7_cross_5) (c_X7_at (l := l) (G := G) (ty := ty) (b0 := b0) (f := g) (r := q) (k := 0) (by omega) (by omega) (by omega) (⟨y_o, y_0, y_1, y_2, y_3, y_4, y_5, y_6, y_7, y_8, y_9, y_10⟩ : xRef G ty m0 A (th) F R pl un co dr bu nb wi hi fc fa lo la px py pz H) hZ) (xoweB cw_1.1) hK hb0 hS (Nat.le_of_ble_eq_true rfl) (Nat.le_of_ble_eq_true rfl) (fun E_1 ce_1 q9_1 H_1 locs_1 d0 hd0 hp_1 hS hce_1 hcv_1 hcl_1 => ?_) (fun v_1 H_1 locs_1 d0 hd0 hp_1 hS => ?_)
  · exact hp_1.elim
  · obtain ⟨rfl, rfl⟩ := hp_1
    show W p l e _ (s.setDrawn _) m _ below meth c _ _ _ _ _ (F0 m 8 ls [.double (pAt pl g q 0)])
    refine lv_aload_n hx hb dX7_cross_8 rfl (lv_at hl 0 rfl) ?_
    refine lv_iload_n hx hb dX7_cross_9 rfl (lv_at hl 1 rfl) ?_
    refine lv_iload_n hx hb dX7_cross_10 rfl (lv_at hl 2 rfl) ?_
    refine lv_iconst (v := nI 0) hx hb dX7_cross_11 (by decide) ?_
    have cw_2 := cwV (R := rm_X7_cross) (rm := rm_X7_at) 3 (hts d0) gX7_cross_X7_at rfl rfl rfl (by decide +kernel) ⟨Nat.le_of_ble_eq_true rfl, Nat.le_of_ble_eq_true rfl⟩
    refine xcall hd0 (xintoV (b := m0) (As := [.int (nI f), .int (nI r), .int (nI 0)]) (rest := [.double (pAt pl g q 0)]) ⟨hx, hb, hml, hown, hts _⟩ cw_2 (va_recv hK.1 (x1 y_o) (ci := 8) (q0 := 0) rfl rfl) rfl rfl hl.1 rfl (lv_room (Nat.le_of_ble_eq_true rfl)) dX7_cross_12) (c_X7_at (l := l) (G := G) (ty := ty) (b0 := b0) (f := f) (r := r) (k := 0) (by omega) (by omega) (by omega) (⟨y_o, y_0, y_1, y_2, y_3, y_4, y_5, y_6, y_7, y_8, y_9, y_10⟩ : xRef G ty m0 A (th) F R pl un co dr bu nb wi hi fc fa lo la px py pz H) hZ) (xoweB cw_2.1) hK hb0 hS (Nat.le_of_ble_eq_true rfl) (Nat.le_of_ble_eq_true rfl) (fun E_2 ce_2 q9_2 H_2 locs_2 d0 hd0 hp_2 hS hce_2 hcv_2 hcl_2 => ?_) (fun v_2 H_2 locs_2 d0 hd0 hp_2 hS => ?_)
    · exact hp_2.elim
    · obtain ⟨rfl, rfl⟩ := hp_2
      show W p l e _ (s.setDrawn _) m _ below meth c _ _ _ _ _ (F0 m 15 ls [.double (pAt pl f r 0), .double (pAt pl g q 0)])
      refine xdsub hd0 hx hb (vq_rf _) (vq_rf _) dX7_cross_15 (fun r_3 d0 q_3 hd0 => ?_)
      refine lv_dstore (lv' := [(7, .double r_3), (0, .ref m0), (1, .int (nI f)), (2, .int (nI r)), (3, .int (nI g)), (4, .int (nI q)), (5, .int (nI h)), (6, .int (nI t))]) hx hb dX7_cross_16 hl (by decide) rfl (fun ls hl => ?_)
      refine lv_aload_n hx hb dX7_cross_18 rfl (lv_at hl 1 rfl) ?_
      refine lv_iload_n hx hb dX7_cross_19 rfl (lv_at hl 4 rfl) ?_
      refine lv_iload hx hb dX7_cross_20 (lv_at hl 5 rfl) ?_
      refine lv_iconst (v := nI 1) hx hb dX7_cross_22 (by decide) ?_
      have cw_4 := cwV (R := rm_X7_cross) (rm := rm_X7_at) 3 (hts d0) gX7_cross_X7_at rfl rfl rfl (by decide +kernel) ⟨Nat.le_of_ble_eq_true rfl, Nat.le_of_ble_eq_true rfl⟩
      refine xcall hd0 (xintoV (b := m0) (As := [.int (nI g), .int (nI q), .int (nI 1)]) (rest := []) ⟨hx, hb, hml, hown, hts _⟩ cw_4 (va_recv hK.1 (x1 y_o) (ci := 8) (q0 := 0) rfl rfl) rfl rfl hl.1 rfl (lv_room (Nat.le_of_ble_eq_true rfl)) dX7_cross_23) (c_X7_at (l := l) (G := G) (ty := ty) (b0 := b0) (f := g) (r := q) (k := 1) (by omega) (by omega) (by omega) (⟨y_o, y_0, y_1, y_2, y_3, y_4, y_5, y_6, y_7, y_8, y_9, y_10⟩ : xRef G ty m0 A (th) F R pl un co dr bu nb wi hi fc fa lo la px py pz H) hZ) (xoweB cw_4.1) hK hb0 hS (Nat.le_of_ble_eq_true rfl) (Nat.le_of_ble_eq_true rfl) (fun E_4 ce_4 q9_4 H_4 locs_4 d0 hd0 hp_4 hS hce_4 hcv_4 hcl_4 => ?_) (fun v_4 H_4 locs_4 d0 hd0 hp_4 hS => ?_)
      · exact hp_4.elim
      · obtain ⟨rfl, rfl⟩ := hp_4
        show W p l e _ (s.setDrawn _) m _ below meth c _ _ _ _ _ (F0 m 26 ls [.double (pAt pl g q 1)])
        refine lv_aload_n hx hb dX7_cross_26 rfl (lv_at hl 1 rfl) ?_
        refine lv_iload_n hx hb dX7_cross_27 rfl (lv_at hl 2 rfl) ?_
        refine lv_iload_n hx hb dX7_cross_28 rfl (lv_at hl 3 rfl) ?_
        refine lv_iconst (v := nI 1) hx hb dX7_cross_29 (by decide) ?_
        have cw_5 := cwV (R := rm_X7_cross) (rm := rm_X7_at) 3 (hts d0) gX7_cross_X7_at rfl rfl rfl (by decide +kernel) ⟨Nat.le_of_ble_eq_true rfl, Nat.le_of_ble_eq_true rfl⟩
        refine xcall hd0 (xintoV (b := m0) (As := [.int (nI f), .int (nI r), .int (nI 1)]) (rest := [.double (pAt pl g q 1)]) ⟨hx, hb, hml, hown, hts _⟩ cw_5 (va_recv hK.1 (x1 y_o) (ci := 8) (q0 := 0) rfl rfl) rfl rfl hl.1 rfl (lv_room (Nat.le_of_ble_eq_true rfl)) dX7_cross_30) (c_X7_at (l := l) (G := G) (ty := ty) (b0 := b0) (f := f) (r := r) (k := 1) (by omega) (by omega) (by omega) (⟨y_o, y_0, y_1, y_2, y_3, y_4, y_5, y_6, y_7, y_8, y_9, y_10⟩ : xRef G ty m0 A (th) F R pl un co dr bu nb wi hi fc fa lo la px py pz H) hZ) (xoweB cw_5.1) hK hb0 hS (Nat.le_of_ble_eq_true rfl) (Nat.le_of_ble_eq_true rfl) (fun E_5 ce_5 q9_5 H_5 locs_5 d0 hd0 hp_5 hS hce_5 hcv_5 hcl_5 => ?_) (fun v_5 H_5 locs_5 d0 hd0 hp_5 hS => ?_)
        · exact hp_5.elim
        · obtain ⟨rfl, rfl⟩ := hp_5
          show W p l e _ (s.setDrawn _) m _ below meth c _ _ _ _ _ (F0 m 33 ls [.double (pAt pl f r 1), .double (pAt pl g q 1)])
          refine xdsub hd0 hx hb (vq_rf _) (vq_rf _) dX7_cross_33 (fun r_6 d0 q_6 hd0 => ?_)
          refine lv_dstore (lv' := [(9, .double r_6), (7, .double r_3), (0, .ref m0), (1, .int (nI f)), (2, .int (nI r)), (3, .int (nI g)), (4, .int (nI q)), (5, .int (nI h)), (6, .int (nI t))]) hx hb dX7_cross_34 hl (by decide) rfl (fun ls hl => ?_)
          refine lv_aload_n hx hb dX7_cross_36 rfl (lv_at hl 2 rfl) ?_
          refine lv_iload_n hx hb dX7_cross_37 rfl (lv_at hl 5 rfl) ?_
          refine lv_iload hx hb dX7_cross_38 (lv_at hl 6 rfl) ?_
          refine lv_iconst (v := nI 2) hx hb dX7_cross_40 (by decide) ?_
          have cw_7 := cwV (R := rm_X7_cross) (rm := rm_X7_at) 3 (hts d0) gX7_cross_X7_at rfl rfl rfl (by decide +kernel) ⟨Nat.le_of_ble_eq_true rfl, Nat.le_of_ble_eq_true rfl⟩
          refine xcall hd0 (xintoV (b := m0) (As := [.int (nI g), .int (nI q), .int (nI 2)]) (rest := []) ⟨hx, hb, hml, hown, hts _⟩ cw_7 (va_recv hK.1 (x1 y_o) (ci := 8) (q0 := 0) rfl rfl) rfl rfl hl.1 rfl (lv_room (Nat.le_of_ble_eq_true rfl)) dX7_cross_41) (c_X7_at (l := l) (G := G) (ty := ty) (b0 := b0) (f := g) (r := q) (k := 2) (by omega) (by omega) (by omega) (⟨y_o, y_0, y_1, y_2, y_3, y_4, y_5, y_6, y_7, y_8, y_9, y_10⟩ : xRef G ty m0 A (th) F R pl un co dr bu nb wi hi fc fa lo la px py pz H) hZ) (xoweB cw_7.1) hK hb0 hS (Nat.le_of_ble_eq_true rfl) (Nat.le_of_ble_eq_true rfl) (fun E_7 ce_7 q9_7 H_7 locs_7 d0 hd0 hp_7 hS hce_7 hcv_7 hcl_7 => ?_) (fun v_7 H_7 locs_7 d0 hd0 hp_7 hS => ?_)
          · exact hp_7.elim
          · obtain ⟨rfl, rfl⟩ := hp_7
            show W p l e _ (s.setDrawn _) m _ below meth c _ _ _ _ _ (F0 m 44 ls [.double (pAt pl g q 2)])
            refine lv_aload_n hx hb dX7_cross_44 rfl (lv_at hl 2 rfl) ?_
            refine lv_iload_n hx hb dX7_cross_45 rfl (lv_at hl 3 rfl) ?_
            refine lv_iload_n hx hb dX7_cross_46 rfl (lv_at hl 4 rfl) ?_
            refine lv_iconst (v := nI 2) hx hb dX7_cross_47 (by decide) ?_
            have cw_8 := cwV (R := rm_X7_cross) (rm := rm_X7_at) 3 (hts d0) gX7_cross_X7_at rfl rfl rfl (by decide +kernel) ⟨Nat.le_of_ble_eq_true rfl, Nat.le_of_ble_eq_true rfl⟩
            refine xcall hd0 (xintoV (b := m0) (As := [.int (nI f), .int (nI r), .int (nI 2)]) (rest := [.double (pAt pl g q 2)]) ⟨hx, hb, hml, hown, hts _⟩ cw_8 (va_recv hK.1 (x1 y_o) (ci := 8) (q0 := 0) rfl rfl) rfl rfl hl.1 rfl (lv_room (Nat.le_of_ble_eq_true rfl)) dX7_cross_48) (c_X7_at (l := l) (G := G) (ty := ty) (b0 := b0) (f := f) (r := r) (k := 2) (by omega) (by omega) (by omega) (⟨y_o, y_0, y_1, y_2, y_3, y_4, y_5, y_6, y_7, y_8, y_9, y_10⟩ : xRef G ty m0 A (th) F R pl un co dr bu nb wi hi fc fa lo la px py pz H) hZ) (xoweB cw_8.1) hK hb0 hS (Nat.le_of_ble_eq_true rfl) (Nat.le_of_ble_eq_true rfl) (fun E_8 ce_8 q9_8 H_8 locs_8 d0 hd0 hp_8 hS hce_8 hcv_8 hcl_8 => ?_) (fun v_8 H_8 locs_8 d0 hd0 hp_8 hS => ?_)
            · exact hp_8.elim
            · obtain ⟨rfl, rfl⟩ := hp_8
              show W p l e _ (s.setDrawn _) m _ below meth c _ _ _ _ _ (F0 m 51 ls [.double (pAt pl f r 2), .double (pAt pl g q 2)])
              refine xdsub hd0 hx hb (vq_rf _) (vq_rf _) dX7_cross_51 (fun r_9 d0 q_9 hd0 => ?_)
              refine lv_dstore (lv' := [(11, .double r_9), (9, .double r_6), (7, .double r_3), (0, .ref m0), (1, .int (nI f)), (2, .int (nI r)), (3, .int (nI g)), (4, .int (nI q)), (5, .int (nI h)), (6, .int (nI t))]) hx hb dX7_cross_52 hl (by decide) rfl (fun ls hl => ?_)
              refine lv_aload_n hx hb dX7_cross_54 rfl (lv_at hl 3 rfl) ?_
              refine lv_iload hx hb dX7_cross_55 (lv_at hl 8 rfl) ?_
              refine lv_iload hx hb dX7_cross_57 (lv_at hl 9 rfl) ?_
              refine lv_iconst (v := nI 0) hx hb dX7_cross_59 (by decide) ?_
              have cw_10 := cwV (R := rm_X7_cross) (rm := rm_X7_at) 3 (hts d0) gX7_cross_X7_at rfl rfl rfl (by decide +kernel) ⟨Nat.le_of_ble_eq_true rfl, Nat.le_of_ble_eq_true rfl⟩
              refine xcall hd0 (xintoV (b := m0) (As := [.int (nI h), .int (nI t), .int (nI 0)]) (rest := []) ⟨hx, hb, hml, hown, hts _⟩ cw_10 (va_recv hK.1 (x1 y_o) (ci := 8) (q0 := 0) rfl rfl) rfl rfl hl.1 rfl (lv_room (Nat.le_of_ble_eq_true rfl)) dX7_cross_60) (c_X7_at (l := l) (G := G) (ty := ty) (b0 := b0) (f := h) (r := t) (k := 0) (by omega) (by omega) (by omega) (⟨y_o, y_0, y_1, y_2, y_3, y_4, y_5, y_6, y_7, y_8, y_9, y_10⟩ : xRef G ty m0 A (th) F R pl un co dr bu nb wi hi fc fa lo la px py pz H) hZ) (xoweB cw_10.1) hK hb0 hS (Nat.le_of_ble_eq_true rfl) (Nat.le_of_ble_eq_true rfl) (fun E_10 ce_10 q9_10 H_10 locs_10 d0 hd0 hp_10 hS hce_10 hcv_10 hcl_10 => ?_) (fun v_10 H_10 locs_10 d0 hd0 hp_10 hS => ?_)
              · exact hp_10.elim
              · obtain ⟨rfl, rfl⟩ := hp_10
                show W p l e _ (s.setDrawn _) m _ below meth c _ _ _ _ _ (F0 m 63 ls [.double (pAt pl h t 0)])
                refine lv_aload_n hx hb dX7_cross_63 rfl (lv_at hl 3 rfl) ?_
                refine lv_iload_n hx hb dX7_cross_64 rfl (lv_at hl 4 rfl) ?_
                refine lv_iload_n hx hb dX7_cross_65 rfl (lv_at hl 5 rfl) ?_
                refine lv_iconst (v := nI 0) hx hb dX7_cross_66 (by decide) ?_
                have cw_11 := cwV (R := rm_X7_cross) (rm := rm_X7_at) 3 (hts d0) gX7_cross_X7_at rfl rfl rfl (by decide +kernel) ⟨Nat.le_of_ble_eq_true rfl, Nat.le_of_ble_eq_true rfl⟩
                refine xcall hd0 (xintoV (b := m0) (As := [.int (nI f), .int (nI r), .int (nI 0)]) (rest := [.double (pAt pl h t 0)]) ⟨hx, hb, hml, hown, hts _⟩ cw_11 (va_recv hK.1 (x1 y_o) (ci := 8) (q0 := 0) rfl rfl) rfl rfl hl.1 rfl (lv_room (Nat.le_of_ble_eq_true rfl)) dX7_cross_67) (c_X7_at (l := l) (G := G) (ty := ty) (b0 := b0) (f := f) (r := r) (k := 0) (by omega) (by omega) (by omega) (⟨y_o, y_0, y_1, y_2, y_3, y_4, y_5, y_6, y_7, y_8, y_9, y_10⟩ : xRef G ty m0 A (th) F R pl un co dr bu nb wi hi fc fa lo la px py pz H) hZ) (xoweB cw_11.1) hK hb0 hS (Nat.le_of_ble_eq_true rfl) (Nat.le_of_ble_eq_true rfl) (fun E_11 ce_11 q9_11 H_11 locs_11 d0 hd0 hp_11 hS hce_11 hcv_11 hcl_11 => ?_) (fun v_11 H_11 locs_11 d0 hd0 hp_11 hS => ?_)
                · exact hp_11.elim
                · obtain ⟨rfl, rfl⟩ := hp_11
                  show W p l e _ (s.setDrawn _) m _ below meth c _ _ _ _ _ (F0 m 70 ls [.double (pAt pl f r 0), .double (pAt pl h t 0)])
                  refine xdsub hd0 hx hb (vq_rf _) (vq_rf _) dX7_cross_70 (fun r_12 d0 q_12 hd0 => ?_)
                  refine lv_dstore (lv' := [(13, .double r_12), (11, .double r_9), (9, .double r_6), (7, .double r_3), (0, .ref m0), (1, .int (nI f)), (2, .int (nI r)), (3, .int (nI g)), (4, .int (nI q)), (5, .int (nI h)), (6, .int (nI t))]) hx hb dX7_cross_71 hl (by decide) rfl (fun ls hl => ?_)
                  refine lv_aload_n hx hb dX7_cross_73 rfl (lv_at hl 4 rfl) ?_
                  refine lv_iload hx hb dX7_cross_74 (lv_at hl 9 rfl) ?_
                  refine lv_iload hx hb dX7_cross_76 (lv_at hl 10 rfl) ?_
                  refine lv_iconst (v := nI 1) hx hb dX7_cross_78 (by decide) ?_
                  have cw_13 := cwV (R := rm_X7_cross) (rm := rm_X7_at) 3 (hts d0) gX7_cross_X7_at rfl rfl rfl (by decide +kernel) ⟨Nat.le_of_ble_eq_true rfl, Nat.le_of_ble_eq_true rfl⟩
                  refine xcall hd0 (xintoV (b := m0) (As := [.int (nI h), .int (nI t), .int (nI 1)]) (rest := []) ⟨hx, hb, hml, hown, hts _⟩ cw_13 (va_recv hK.1 (x1 y_o) (ci := 8) (q0 := 0) rfl rfl) rfl rfl hl.1 rfl (lv_room (Nat.le_of_ble_eq_true rfl)) dX7_cross_79) (c_X7_at (l := l) (G := G) (ty := ty) (b0 := b0) (f := h) (r := t) (k := 1) (by omega) (by omega) (by omega) (⟨y_o, y_0, y_1, y_2, y_3, y_4, y_5, y_6, y_7, y_8, y_9, y_10⟩ : xRef G ty m0 A (th) F R pl un co dr bu nb wi hi fc fa lo la px py pz H) hZ) (xoweB cw_13.1) hK hb0 hS (Nat.le_of_ble_eq_true rfl) (Nat.le_of_ble_eq_true rfl) (fun E_13 ce_13 q9_13 H_13 locs_13 d0 hd0 hp_13 hS hce_13 hcv_13 hcl_13 => ?_) (fun v_13 H_13 locs_13 d0 hd0 hp_13 hS => ?_)
                  · exact hp_13.elim
                  · obtain ⟨rfl, rfl⟩ := hp_13
                    show W p l e _ (s.setDrawn _) m _ below meth c _ _ _ _ _ (F0 m 82 ls [.double (pAt pl h t 1)])
                    refine lv_aload_n hx hb dX7_cross_82 rfl (lv_at hl 4 rfl) ?_
                    refine lv_iload_n hx hb dX7_cross_83 rfl (lv_at hl 5 rfl) ?_
                    refine lv_iload_n hx hb dX7_cross_84 rfl (lv_at hl 6 rfl) ?_
                    refine lv_iconst (v := nI 1) hx hb dX7_cross_85 (by decide) ?_
                    have cw_14 := cwV (R := rm_X7_cross) (rm := rm_X7_at) 3 (hts d0) gX7_cross_X7_at rfl rfl rfl (by decide +kernel) ⟨Nat.le_of_ble_eq_true rfl, Nat.le_of_ble_eq_true rfl⟩
                    refine xcall hd0 (xintoV (b := m0) (As := [.int (nI f), .int (nI r), .int (nI 1)]) (rest := [.double (pAt pl h t 1)]) ⟨hx, hb, hml, hown, hts _⟩ cw_14 (va_recv hK.1 (x1 y_o) (ci := 8) (q0 := 0) rfl rfl) rfl rfl hl.1 rfl (lv_room (Nat.le_of_ble_eq_true rfl)) dX7_cross_86) (c_X7_at (l := l) (G := G) (ty := ty) (b0 := b0) (f := f) (r := r) (k := 1) (by omega) (by omega) (by omega) (⟨y_o, y_0, y_1, y_2, y_3, y_4, y_5, y_6, y_7, y_8, y_9, y_10⟩ : xRef G ty m0 A (th) F R pl un co dr bu nb wi hi fc fa lo la px py pz H) hZ) (xoweB cw_14.1) hK hb0 hS (Nat.le_of_ble_eq_true rfl) (Nat.le_of_ble_eq_true rfl) (fun E_14 ce_14 q9_14 H_14 locs_14 d0 hd0 hp_14 hS hce_14 hcv_14 hcl_14 => ?_) (fun v_14 H_14 locs_14 d0 hd0 hp_14 hS => ?_)
                    · exact hp_14.elim
                    · obtain ⟨rfl, rfl⟩ := hp_14
                      show W p l e _ (s.setDrawn _) m _ below meth c _ _ _ _ _ (F0 m 89 ls [.double (pAt pl f r 1), .double (pAt pl h t 1)])
                      refine xdsub hd0 hx hb (vq_rf _) (vq_rf _) dX7_cross_89 (fun r_15 d0 q_15 hd0 => ?_)
                      refine lv_dstore (lv' := [(15, .double r_15), (13, .double r_12), (11, .double r_9), (9, .double r_6), (7, .double r_3), (0, .ref m0), (1, .int (nI f)), (2, .int (nI r)), (3, .int (nI g)), (4, .int (nI q)), (5, .int (nI h)), (6, .int (nI t))]) hx hb dX7_cross_90 hl (by decide) rfl (fun ls hl => ?_)
                      refine lv_aload_n hx hb dX7_cross_92 rfl (lv_at hl 5 rfl) ?_
                      refine lv_iload hx hb dX7_cross_93 (lv_at hl 10 rfl) ?_
                      refine lv_iload hx hb dX7_cross_95 (lv_at hl 11 rfl) ?_
                      refine lv_iconst (v := nI 2) hx hb dX7_cross_97 (by decide) ?_
                      have cw_16 := cwV (R := rm_X7_cross) (rm := rm_X7_at) 3 (hts d0) gX7_cross_X7_at rfl rfl rfl (by decide +kernel) ⟨Nat.le_of_ble_eq_true rfl, Nat.le_of_ble_eq_true rfl⟩
                      refine xcall hd0 (xintoV (b := m0) (As := [.int (nI h), .int (nI t), .int (nI 2)]) (rest := []) ⟨hx, hb, hml, hown, hts _⟩ cw_16 (va_recv hK.1 (x1 y_o) (ci := 8) (q0 := 0) rfl rfl) rfl rfl hl.1 rfl (lv_room (Nat.le_of_ble_eq_true rfl)) dX7_cross_98) (c_X7_at (l := l) (G := G) (ty := ty) (b0 := b0) (f := h) (r := t) (k := 2) (by omega) (by omega) (by omega) (⟨y_o, y_0, y_1, y_2, y_3, y_4, y_5, y_6, y_7, y_8, y_9, y_10⟩ : xRef G ty m0 A (th) F R pl un co dr bu nb wi hi fc fa lo la px py pz H) hZ) (xoweB cw_16.1) hK hb0 hS (Nat.le_of_ble_eq_true rfl) (Nat.le_of_ble_eq_true rfl) (fun E_16 ce_16 q9_16 H_16 locs_16 d0 hd0 hp_16 hS hce_16 hcv_16 hcl_16 => ?_) (fun v_16 H_16 locs_16 d0 hd0 hp_16 hS => ?_)
                      · exact hp_16.elim
                      · obtain ⟨rfl, rfl⟩ := hp_16
                        show W p l e _ (s.setDrawn _) m _ below meth c _ _ _ _ _ (F0 m 101 ls [.double (pAt pl h t 2)])
                        refine lv_aload_n hx hb dX7_cross_101 rfl (lv_at hl 5 rfl) ?_
                        refine lv_iload_n hx hb dX7_cross_102 rfl (lv_at hl 6 rfl) ?_
                        refine lv_iload_n hx hb dX7_cross_103 rfl (lv_at hl 7 rfl) ?_
                        refine lv_iconst (v := nI 2) hx hb dX7_cross_104 (by decide) ?_
                        have cw_17 := cwV (R := rm_X7_cross) (rm := rm_X7_at) 3 (hts d0) gX7_cross_X7_at rfl rfl rfl (by decide +kernel) ⟨Nat.le_of_ble_eq_true rfl, Nat.le_of_ble_eq_true rfl⟩
                        refine xcall hd0 (xintoV (b := m0) (As := [.int (nI f), .int (nI r), .int (nI 2)]) (rest := [.double (pAt pl h t 2)]) ⟨hx, hb, hml, hown, hts _⟩ cw_17 (va_recv hK.1 (x1 y_o) (ci := 8) (q0 := 0) rfl rfl) rfl rfl hl.1 rfl (lv_room (Nat.le_of_ble_eq_true rfl)) dX7_cross_105) (c_X7_at (l := l) (G := G) (ty := ty) (b0 := b0) (f := f) (r := r) (k := 2) (by omega) (by omega) (by omega) (⟨y_o, y_0, y_1, y_2, y_3, y_4, y_5, y_6, y_7, y_8, y_9, y_10⟩ : xRef G ty m0 A (th) F R pl un co dr bu nb wi hi fc fa lo la px py pz H) hZ) (xoweB cw_17.1) hK hb0 hS (Nat.le_of_ble_eq_true rfl) (Nat.le_of_ble_eq_true rfl) (fun E_17 ce_17 q9_17 H_17 locs_17 d0 hd0 hp_17 hS hce_17 hcv_17 hcl_17 => ?_) (fun v_17 H_17 locs_17 d0 hd0 hp_17 hS => ?_)
                        · exact hp_17.elim
                        · obtain ⟨rfl, rfl⟩ := hp_17
                          show W p l e _ (s.setDrawn _) m _ below meth c _ _ _ _ _ (F0 m 108 ls [.double (pAt pl f r 2), .double (pAt pl h t 2)])
                          refine xdsub hd0 hx hb (vq_rf _) (vq_rf _) dX7_cross_108 (fun r_18 d0 q_18 hd0 => ?_)
                          refine lv_dstore (lv' := [(17, .double r_18), (15, .double r_15), (13, .double r_12), (11, .double r_9), (9, .double r_6), (7, .double r_3), (0, .ref m0), (1, .int (nI f)), (2, .int (nI r)), (3, .int (nI g)), (4, .int (nI q)), (5, .int (nI h)), (6, .int (nI t))]) hx hb dX7_cross_109 hl (by decide) rfl (fun ls hl => ?_)
                          refine lv_aload_n hx hb dX7_cross_111 rfl (lv_at hl 6 rfl) ?_
                          refine lv_dload hx hb dX7_cross_112 (lv_at hl 4 rfl) ?_
                          refine lv_dload hx hb dX7_cross_114 (lv_at hl 0 rfl) ?_
                          refine xdmul hd0 hx hb q_6 q_18 dX7_cross_116 (fun r_19 d0 q_19 hd0 => ?_)
                          refine lv_dload hx hb dX7_cross_117 (lv_at hl 3 rfl) ?_
                          refine lv_dload hx hb dX7_cross_119 (lv_at hl 1 rfl) ?_
                          refine xdmul hd0 hx hb q_9 q_15 dX7_cross_121 (fun r_20 d0 q_20 hd0 => ?_)
                          refine xdsub hd0 hx hb q_19 q_20 dX7_cross_122 (fun r_21 d0 q_21 hd0 => ?_)
                          refine xput (G := G) (ci := 8) (v := .double r_21) (ty := .double) (C := RX7) (T := TX7) (N := 18) hx hb (hts d0) in_X7_cross_X7 tyX7 tyX7_ok nmX7 hown hK.1 y_o hS hB.1 rfl 15 (by decide) (hts d0 _ hw_X7_cross_1) (fun _ h9 => h9) rfl (by decide +kernel) rfl rfl (Nat.le_of_ble_eq_true rfl) dX7_cross_123 (fun H_22 locs_22 hs_22 hS => ?_)
                          have hc_22 : xc G m0 (.inr (8, [.int (th), .int (nI F), .int (nI R), .ref (A 0), .ref (A 1), .ref (A 2), .ref (A 3), .ref (A 4), .int (nI nb), .ref (A 5), .ref (A 6), .ref (A 7), .ref (A 8), .ref (A 9), .ref (A 10), .double r_21, .double py, .double pz])) H_22 := hs_22.1
                          have hc_A0_22 : xc G (A 0) (.inl (ty 0, 192, .inr (.inr (.inr (.inl pl))))) H_22 := y_0.kept (hs_22.2.2 _ (hA.1 0 (by decide)))
                          have hc_A1_22 : xc G (A 1) (.inl (ty 2, 8, .inl un)) H_22 := y_1.kept (hs_22.2.2 _ (hA.1 1 (by decide)))
                          have hc_A2_22 : xc G (A 2) (.inl (ty 0, 256, .inr (.inr (.inr (.inl co))))) H_22 := y_2.kept (hs_22.2.2 _ (hA.1 2 (by decide)))
                          have hc_A3_22 : xc G (A 3) (.inl (ty 0, 32, .inr (.inr (.inr (.inl dr))))) H_22 := y_3.kept (hs_22.2.2 _ (hA.1 3 (by decide)))
                          have hc_A4_22 : xc G (A 4) (.inl (ty 2, 64, .inl bu)) H_22 := y_4.kept (hs_22.2.2 _ (hA.1 4 (by decide)))
                          have hc_A5_22 : xc G (A 5) (.inl (ty 0, 4, .inr (.inr (.inr (.inl wi))))) H_22 := y_5.kept (hs_22.2.2 _ (hA.1 5 (by decide)))
                          have hc_A6_22 : xc G (A 6) (.inl (ty 0, 4, .inr (.inr (.inr (.inl hi))))) H_22 := y_6.kept (hs_22.2.2 _ (hA.1 6 (by decide)))
                          have hc_A7_22 : xc G (A 7) (.inl (ty 1, 4, .inl fc)) H_22 := y_7.kept (hs_22.2.2 _ (hA.1 7 (by decide)))
                          have hc_A8_22 : xc G (A 8) (.inl (ty 0, 128, .inr (.inr (.inr (.inl fa))))) H_22 := y_8.kept (hs_22.2.2 _ (hA.1 8 (by decide)))
                          have hc_A9_22 : xc G (A 9) (.inl (ty 1, 8, .inl lo)) H_22 := y_9.kept (hs_22.2.2 _ (hA.1 9 (by decide)))
                          have hc_A10_22 : xc G (A 10) (.inl (ty 1, 8, .inl la)) H_22 := y_10.kept (hs_22.2.2 _ (hA.1 10 (by decide)))
                          have hfr_22 : xRfr m0 A H H_22 := xRfr.put0 xRfr.rf hs_22
                          refine lv_aload_n hx hb dX7_cross_126 rfl (lv_at hl 6 rfl) ?_
                          refine lv_dload hx hb dX7_cross_127 (lv_at hl 3 rfl) ?_
                          refine lv_dload hx hb dX7_cross_129 (lv_at hl 2 rfl) ?_
                          refine xdmul hd0 hx hb q_9 q_12 dX7_cross_131 (fun r_23 d0 q_23 hd0 => ?_)
                          refine lv_dload hx hb dX7_cross_132 (lv_at hl 5 rfl) ?_
                          refine lv_dload hx hb dX7_cross_134 (lv_at hl 0 rfl) ?_
                          refine xdmul hd0 hx hb q_3 q_18 dX7_cross_136 (fun r_24 d0 q_24 hd0 => ?_)
                          refine xdsub hd0 hx hb q_23 q_24 dX7_cross_137 (fun r_25 d0 q_25 hd0 => ?_)
                          refine xput (G := G) (ci := 8) (v := .double r_25) (ty := .double) (C := RX7) (T := TX7) (N := 18) hx hb (hts d0) in_X7_cross_X7 tyX7 tyX7_ok nmX7 hown hK.1 hc_22 hS hB.1 rfl 16 (by decide) (hts d0 _ hw_X7_cross_2) (fun _ h9 => h9) rfl (by decide +kernel) rfl rfl (Nat.le_of_ble_eq_true rfl) dX7_cross_138 (fun H_26 locs_26 hs_26 hS => ?_)
                          have hc_26 : xc G m0 (.inr (8, [.int (th), .int (nI F), .int (nI R), .ref (A 0), .ref (A 1), .ref (A 2), .ref (A 3), .ref (A 4), .int (nI nb), .ref (A 5), .ref (A 6), .ref (A 7), .ref (A 8), .ref (A 9), .ref (A 10), .double r_21, .double r_25, .double pz])) H_26 := hs_26.1
                          have hc_A0_26 : xc G (A 0) (.inl (ty 0, 192, .inr (.inr (.inr (.inl pl))))) H_26 := hc_A0_22.kept (hs_26.2.2 _ (hA.1 0 (by decide)))
                          have hc_A1_26 : xc G (A 1) (.inl (ty 2, 8, .inl un)) H_26 := hc_A1_22.kept (hs_26.2.2 _ (hA.1 1 (by decide)))
                          have hc_A2_26 : xc G (A 2) (.inl (ty 0, 256, .inr (.inr (.inr (.inl co))))) H_26 := hc_A2_22.kept (hs_26.2.2 _ (hA.1 2 (by decide)))
                          have hc_A3_26 : xc G (A 3) (.inl (ty 0, 32, .inr (.inr (.inr (.inl dr))))) H_26 := hc_A3_22.kept (hs_26.2.2 _ (hA.1 3 (by decide)))
                          have hc_A4_26 : xc G (A 4) (.inl (ty 2, 64, .inl bu)) H_26 := hc_A4_22.kept (hs_26.2.2 _ (hA.1 4 (by decide)))
                          have hc_A5_26 : xc G (A 5) (.inl (ty 0, 4, .inr (.inr (.inr (.inl wi))))) H_26 := hc_A5_22.kept (hs_26.2.2 _ (hA.1 5 (by decide)))
                          have hc_A6_26 : xc G (A 6) (.inl (ty 0, 4, .inr (.inr (.inr (.inl hi))))) H_26 := hc_A6_22.kept (hs_26.2.2 _ (hA.1 6 (by decide)))
                          have hc_A7_26 : xc G (A 7) (.inl (ty 1, 4, .inl fc)) H_26 := hc_A7_22.kept (hs_26.2.2 _ (hA.1 7 (by decide)))
                          have hc_A8_26 : xc G (A 8) (.inl (ty 0, 128, .inr (.inr (.inr (.inl fa))))) H_26 := hc_A8_22.kept (hs_26.2.2 _ (hA.1 8 (by decide)))
                          have hc_A9_26 : xc G (A 9) (.inl (ty 1, 8, .inl lo)) H_26 := hc_A9_22.kept (hs_26.2.2 _ (hA.1 9 (by decide)))
                          have hc_A10_26 : xc G (A 10) (.inl (ty 1, 8, .inl la)) H_26 := hc_A10_22.kept (hs_26.2.2 _ (hA.1 10 (by decide)))
                          have hfr_26 : xRfr m0 A H H_26 := xRfr.put0 hfr_22 hs_26
                          refine lv_aload_n hx hb dX7_cross_141 rfl (lv_at hl 6 rfl) ?_
                          refine lv_dload hx hb dX7_cross_142 (lv_at hl 5 rfl) ?_
                          refine lv_dload hx hb dX7_cross_144 (lv_at hl 1 rfl) ?_
                          refine xdmul hd0 hx hb q_3 q_15 dX7_cross_146 (fun r_27 d0 q_27 hd0 => ?_)
                          refine lv_dload hx hb dX7_cross_147 (lv_at hl 4 rfl) ?_
                          refine lv_dload hx hb dX7_cross_149 (lv_at hl 2 rfl) ?_
                          refine xdmul hd0 hx hb q_6 q_12 dX7_cross_151 (fun r_28 d0 q_28 hd0 => ?_)
                          refine xdsub hd0 hx hb q_27 q_28 dX7_cross_152 (fun r_29 d0 q_29 hd0 => ?_)
                          refine xput (G := G) (ci := 8) (v := .double r_29) (ty := .double) (C := RX7) (T := TX7) (N := 18) hx hb (hts d0) in_X7_cross_X7 tyX7 tyX7_ok nmX7 hown hK.1 hc_26 hS hB.1 rfl 17 (by decide) (hts d0 _ hw_X7_cross_3) (fun _ h9 => h9) rfl (by decide +kernel) rfl rfl (Nat.le_of_ble_eq_true rfl) dX7_cross_153 (fun H_30 locs_30 hs_30 hS => ?_)
                          have hc_30 : xc G m0 (.inr (8, [.int (th), .int (nI F), .int (nI R), .ref (A 0), .ref (A 1), .ref (A 2), .ref (A 3), .ref (A 4), .int (nI nb), .ref (A 5), .ref (A 6), .ref (A 7), .ref (A 8), .ref (A 9), .ref (A 10), .double r_21, .double r_25, .double r_29])) H_30 := hs_30.1
                          have hc_A0_30 : xc G (A 0) (.inl (ty 0, 192, .inr (.inr (.inr (.inl pl))))) H_30 := hc_A0_26.kept (hs_30.2.2 _ (hA.1 0 (by decide)))
                          have hc_A1_30 : xc G (A 1) (.inl (ty 2, 8, .inl un)) H_30 := hc_A1_26.kept (hs_30.2.2 _ (hA.1 1 (by decide)))
                          have hc_A2_30 : xc G (A 2) (.inl (ty 0, 256, .inr (.inr (.inr (.inl co))))) H_30 := hc_A2_26.kept (hs_30.2.2 _ (hA.1 2 (by decide)))
                          have hc_A3_30 : xc G (A 3) (.inl (ty 0, 32, .inr (.inr (.inr (.inl dr))))) H_30 := hc_A3_26.kept (hs_30.2.2 _ (hA.1 3 (by decide)))
                          have hc_A4_30 : xc G (A 4) (.inl (ty 2, 64, .inl bu)) H_30 := hc_A4_26.kept (hs_30.2.2 _ (hA.1 4 (by decide)))
                          have hc_A5_30 : xc G (A 5) (.inl (ty 0, 4, .inr (.inr (.inr (.inl wi))))) H_30 := hc_A5_26.kept (hs_30.2.2 _ (hA.1 5 (by decide)))
                          have hc_A6_30 : xc G (A 6) (.inl (ty 0, 4, .inr (.inr (.inr (.inl hi))))) H_30 := hc_A6_26.kept (hs_30.2.2 _ (hA.1 6 (by decide)))
                          have hc_A7_30 : xc G (A 7) (.inl (ty 1, 4, .inl fc)) H_30 := hc_A7_26.kept (hs_30.2.2 _ (hA.1 7 (by decide)))
                          have hc_A8_30 : xc G (A 8) (.inl (ty 0, 128, .inr (.inr (.inr (.inl fa))))) H_30 := hc_A8_26.kept (hs_30.2.2 _ (hA.1 8 (by decide)))
                          have hc_A9_30 : xc G (A 9) (.inl (ty 1, 8, .inl lo)) H_30 := hc_A9_26.kept (hs_30.2.2 _ (hA.1 9 (by decide)))
                          have hc_A10_30 : xc G (A 10) (.inl (ty 1, 8, .inl la)) H_30 := hc_A10_26.kept (hs_30.2.2 _ (hA.1 10 (by decide)))
                          have hfr_30 : xRfr m0 A H H_30 := xRfr.put0 hfr_26 hs_30
                          exact xvret hd0 hx hb hr hlocks hS (Nat.le_of_ble_eq_true rfl) (Nat.le_of_ble_eq_true rfl) dX7_cross_156 ⟨_, _, _, ⟨hc_30, hc_A0_30, hc_A1_30, hc_A2_30, hc_A3_30, hc_A4_30, hc_A5_30, hc_A6_30, hc_A7_30, hc_A8_30, hc_A9_30, hc_A10_30⟩, hfr_30, rfl, q_21, q_25, q_29⟩
def pDot (a b c d e f : UInt64) : UInt64 := FP.dadd (FP.dadd (FP.dadd FP.dconst0 (FP.dmul a d)) (FP.dmul b e)) (FP.dmul c f)
/-- BEVEL out of the two products -/
def pBev (a b c d e f : UInt64) : UInt64 := if xeq (pRoot (pDot a b c a b c)) FP.dconst0 = true ∨ xeq (pRoot (pDot d e f d e f)) FP.dconst0 = true then FP.dconst1 else FP.ddiv (pDot a b c d e f) (FP.dmul (pRoot (pDot a b c a b c)) (pRoot (pDot d e f d e f)))
def pBevel (pl : Nat → UInt64) (x f : Nat) : UInt64 := pBev (pCro pl f x f (x + 1) (f + 1) x 1 2) (pCro pl f x f (x + 1) (f + 1) x 2 0) (pCro pl f x f (x + 1) (f + 1) x 0 1) (pCro pl f (x + 1) (f + 1) (x + 1) (f + 1) x 1 2) (pCro pl f (x + 1) (f + 1) (x + 1) (f + 1) x 2 0) (pCro pl f (x + 1) (f + 1) (x + 1) (f + 1) x 0 1)
theorem pBev_1 {a b c d e f : UInt64} (h : xeq (pRoot (pDot a b c a b c)) FP.dconst0 = true ∨ xeq (pRoot (pDot d e f d e f)) FP.dconst0 = true) : pBev a b c d e f = FP.dconst1 := if_pos h
theorem pBev_2 {a b c d e f : UInt64} (h : xeq (pRoot (pDot a b c a b c)) FP.dconst0 = false) (h2 : xeq (pRoot (pDot d e f d e f)) FP.dconst0 = false) : pBev a b c d e f = FP.ddiv (pDot a b c d e f) (FP.dmul (pRoot (pDot a b c a b c)) (pRoot (pDot d e f d e f))) := if_neg (fun z => z.elim (fun z => xtf z h) (fun z => xtf z h2))
set_option maxRecDepth 20000 in
theorem ggX7_bevel_X7_noCell : GoodIn wsX7_bevel wsX7_noCell := goodIn_r _ [9, 10, 11, 12, 13, 8, 14, 15, 29, 30, 31, 32, 33, 34, 35, 36, 37, 38, 39, 40, 41, 42, 43, 44, 45, 46] (by decide +kernel) (by decide +kernel)
set_option maxRecDepth 20000 in
theorem gX7_bevel_X7_noCell : GoodIn wsX7_bevel (wsV RX7 95 RX7 yX7_noCell wsX7_noCell) := goodIn_app (goodIn_of _ (by decide +kernel)) ggX7_bevel_X7_noCell
set_option maxRecDepth 20000 in
theorem ggX7_bevel_X7_cross : GoodIn wsX7_bevel wsX7_cross := goodIn_r _ [19, 2, 3, 4, 20, 21, 22, 8, 23, 24, 29, 30, 31, 32, 33, 34, 35, 36, 37, 38, 39, 40, 41, 42, 43, 44, 45, 46] (by decide +kernel) (by decide +kernel)
set_option maxRecDepth 20000 in
theorem gX7_bevel_X7_cross : GoodIn wsX7_bevel (wsV RX7 114 RX7 yX7_cross wsX7_cross) := goodIn_app (goodIn_of _ (by decide +kernel)) ggX7_bevel_X7_cross
set_option maxRecDepth 20000 in
theorem ggX7_bevel_X7_root : GoodIn wsX7_bevel wsX7_root := goodIn_r _ [27, 28] (by decide +kernel) (by decide +kernel)
set_option maxRecDepth 20000 in
theorem gX7_bevel_X7_root : GoodIn wsX7_bevel (va_wsS RX7 73 yX7_root wsX7_root) := goodIn_app (goodIn_of _ (by decide +kernel)) ggX7_bevel_X7_root
theorem dX7_bevel_0 : decode cX7_bevel 0 = .ok (.aload_n 0, 1) := by decide +kernel
theorem dX7_bevel_1 : decode cX7_bevel 1 = .ok (.aload_n 0, 1) := by decide +kernel
theorem dX7_bevel_2 : decode cX7_bevel 2 = .ok (.iload_n 1, 1) := by decide +kernel
theorem dX7_bevel_3 : decode cX7_bevel 3 = .ok (.iload_n 2, 1) := by decide +kernel
theorem dX7_bevel_4 : decode cX7_bevel 4 = .ok (.invokevirtual 95, 3) := by decide +kernel
theorem dX7_bevel_7 : decode cX7_bevel 7 = .ok (.ifCond .eq 7, 3) := by decide +kernel
theorem dX7_bevel_10 : decode cX7_bevel 10 = .ok (.iconst 1, 1) := by decide +kernel
theorem dX7_bevel_11 : decode cX7_bevel 11 = .ok (.goto 4, 3) := by decide +kernel
theorem dX7_bevel_14 : decode cX7_bevel 14 = .ok (.iconst 0, 1) := by decide +kernel
theorem dX7_bevel_15 : decode cX7_bevel 15 = .ok (.putfield 52, 3) := by decide +kernel
theorem dX7_bevel_18 : decode cX7_bevel 18 = .ok (.aload_n 0, 1) := by decide +kernel
theorem dX7_bevel_19 : decode cX7_bevel 19 = .ok (.getfield 52, 3) := by decide +kernel
theorem dX7_bevel_22 : decode cX7_bevel 22 = .ok (.ifCond .le 5, 3) := by decide +kernel
theorem dX7_bevel_25 : decode cX7_bevel 25 = .ok (.dconst 0, 1) := by decide +kernel
theorem dX7_bevel_26 : decode cX7_bevel 26 = .ok (.dreturn, 1) := by decide +kernel
theorem dX7_bevel_27 : decode cX7_bevel 27 = .ok (.aload_n 0, 1) := by decide +kernel
theorem dX7_bevel_28 : decode cX7_bevel 28 = .ok (.iload_n 2, 1) := by decide +kernel
theorem dX7_bevel_29 : decode cX7_bevel 29 = .ok (.iload_n 1, 1) := by decide +kernel
theorem dX7_bevel_30 : decode cX7_bevel 30 = .ok (.iload_n 2, 1) := by decide +kernel
theorem dX7_bevel_31 : decode cX7_bevel 31 = .ok (.iload_n 1, 1) := by decide +kernel
theorem dX7_bevel_32 : decode cX7_bevel 32 = .ok (.iconst 1, 1) := by decide +kernel
theorem dX7_bevel_33 : decode cX7_bevel 33 = .ok (.iadd, 1) := by decide +kernel
theorem dX7_bevel_34 : decode cX7_bevel 34 = .ok (.iload_n 2, 1) := by decide +kernel
theorem dX7_bevel_35 : decode cX7_bevel 35 = .ok (.iconst 1, 1) := by decide +kernel
theorem dX7_bevel_36 : decode cX7_bevel 36 = .ok (.iadd, 1) := by decide +kernel
theorem dX7_bevel_37 : decode cX7_bevel 37 = .ok (.iload_n 1, 1) := by decide +kernel
theorem dX7_bevel_38 : decode cX7_bevel 38 = .ok (.invokevirtual 114, 3) := by decide +kernel
theorem dX7_bevel_41 : decode cX7_bevel 41 = .ok (.aload_n 0, 1) := by decide +kernel
theorem dX7_bevel_42 : decode cX7_bevel 42 = .ok (.getfield 104, 3) := by decide +kernel
theorem dX7_bevel_45 : decode cX7_bevel 45 = .ok (.dstore_n 3, 1) := by decide +kernel
theorem dX7_bevel_46 : decode cX7_bevel 46 = .ok (.aload_n 0, 1) := by decide +kernel
theorem dX7_bevel_47 : decode cX7_bevel 47 = .ok (.getfield 108, 3) := by decide +kernel
theorem dX7_bevel_50 : decode cX7_bevel 50 = .ok (.dstore 5, 2) := by decide +kernel
theorem dX7_bevel_52 : decode cX7_bevel 52 = .ok (.aload_n 0, 1) := by decide +kernel
theorem dX7_bevel_53 : decode cX7_bevel 53 = .ok (.getfield 111, 3) := by decide +kernel
theorem dX7_bevel_56 : decode cX7_bevel 56 = .ok (.dstore 7, 2) := by decide +kernel
theorem dX7_bevel_58 : decode cX7_bevel 58 = .ok (.aload_n 0, 1) := by decide +kernel
theorem dX7_bevel_59 : decode cX7_bevel 59 = .ok (.iload_n 2, 1) := by decide +kernel
theorem dX7_bevel_60 : decode cX7_bevel 60 = .ok (.iload_n 1, 1) := by decide +kernel
theorem dX7_bevel_61 : decode cX7_bevel 61 = .ok (.iconst 1, 1) := by decide +kernel
theorem dX7_bevel_62 : decode cX7_bevel 62 = .ok (.iadd, 1) := by decide +kernel
theorem dX7_bevel_63 : decode cX7_bevel 63 = .ok (.iload_n 2, 1) := by decide +kernel
theorem dX7_bevel_64 : decode cX7_bevel 64 = .ok (.iconst 1, 1) := by decide +kernel
theorem dX7_bevel_65 : decode cX7_bevel 65 = .ok (.iadd, 1) := by decide +kernel
theorem dX7_bevel_66 : decode cX7_bevel 66 = .ok (.iload_n 1, 1) := by decide +kernel
theorem dX7_bevel_67 : decode cX7_bevel 67 = .ok (.iconst 1, 1) := by decide +kernel
theorem dX7_bevel_68 : decode cX7_bevel 68 = .ok (.iadd, 1) := by decide +kernel
theorem dX7_bevel_69 : decode cX7_bevel 69 = .ok (.iload_n 2, 1) := by decide +kernel
theorem dX7_bevel_70 : decode cX7_bevel 70 = .ok (.iconst 1, 1) := by decide +kernel
theorem dX7_bevel_71 : decode cX7_bevel 71 = .ok (.iadd, 1) := by decide +kernel
theorem dX7_bevel_72 : decode cX7_bevel 72 = .ok (.iload_n 1, 1) := by decide +kernel
theorem dX7_bevel_73 : decode cX7_bevel 73 = .ok (.invokevirtual 114, 3) := by decide +kernel
theorem dX7_bevel_76 : decode cX7_bevel 76 = .ok (.dconst 0, 1) := by decide +kernel
theorem dX7_bevel_77 : decode cX7_bevel 77 = .ok (.dload_n 3, 1) := by decide +kernel
theorem dX7_bevel_78 : decode cX7_bevel 78 = .ok (.dload_n 3, 1) := by decide +kernel
theorem dX7_bevel_79 : decode cX7_bevel 79 = .ok (.dmul, 1) := by decide +kernel
theorem dX7_bevel_80 : decode cX7_bevel 80 = .ok (.dadd, 1) := by decide +kernel
theorem dX7_bevel_81 : decode cX7_bevel 81 = .ok (.dload 5, 2) := by decide +kernel
theorem dX7_bevel_83 : decode cX7_bevel 83 = .ok (.dload 5, 2) := by decide +kernel
theorem dX7_bevel_85 : decode cX7_bevel 85 = .ok (.dmul, 1) := by decide +kernel
theorem dX7_bevel_86 : decode cX7_bevel 86 = .ok (.dadd, 1) := by decide +kernel
theorem dX7_bevel_87 : decode cX7_bevel 87 = .ok (.dload 7, 2) := by decide +kernel
theorem dX7_bevel_89 : decode cX7_bevel 89 = .ok (.dload 7, 2) := by decide +kernel
theorem dX7_bevel_91 : decode cX7_bevel 91 = .ok (.dmul, 1) := by decide +kernel
theorem dX7_bevel_92 : decode cX7_bevel 92 = .ok (.dadd, 1) := by decide +kernel
theorem dX7_bevel_93 : decode cX7_bevel 93 = .ok (.invokestatic 73, 3) := by decide +kernel
theorem dX7_bevel_96 : decode cX7_bevel 96 = .ok (.dstore 9, 2) := by decide +kernel
theorem dX7_bevel_98 : decode cX7_bevel 98 = .ok (.dconst 0, 1) := by decide +kernel
theorem dX7_bevel_99 : decode cX7_bevel 99 = .ok (.aload_n 0, 1) := by decide +kernel
theorem dX7_bevel_100 : decode cX7_bevel 100 = .ok (.getfield 104, 3) := by decide +kernel
theorem dX7_bevel_103 : decode cX7_bevel 103 = .ok (.aload_n 0, 1) := by decide +kernel
theorem dX7_bevel_104 : decode cX7_bevel 104 = .ok (.getfield 104, 3) := by decide +kernel
theorem dX7_bevel_107 : decode cX7_bevel 107 = .ok (.dmul, 1) := by decide +kernel
theorem dX7_bevel_108 : decode cX7_bevel 108 = .ok (.dadd, 1) := by decide +kernel
theorem dX7_bevel_109 : decode cX7_bevel 109 = .ok (.aload_n 0, 1) := by decide +kernel
theorem dX7_bevel_110 : decode cX7_bevel 110 = .ok (.getfield 108, 3) := by decide +kernel
theorem dX7_bevel_113 : decode cX7_bevel 113 = .ok (.aload_n 0, 1) := by decide +kernel
theorem dX7_bevel_114 : decode cX7_bevel 114 = .ok (.getfield 108, 3) := by decide +kernel
theorem dX7_bevel_117 : decode cX7_bevel 117 = .ok (.dmul, 1) := by decide +kernel
theorem dX7_bevel_118 : decode cX7_bevel 118 = .ok (.dadd, 1) := by decide +kernel
theorem dX7_bevel_119 : decode cX7_bevel 119 = .ok (.aload_n 0, 1) := by decide +kernel
theorem dX7_bevel_120 : decode cX7_bevel 120 = .ok (.getfield 111, 3) := by decide +kernel
theorem dX7_bevel_123 : decode cX7_bevel 123 = .ok (.aload_n 0, 1) := by decide +kernel
theorem dX7_bevel_124 : decode cX7_bevel 124 = .ok (.getfield 111, 3) := by decide +kernel
theorem dX7_bevel_127 : decode cX7_bevel 127 = .ok (.dmul, 1) := by decide +kernel
theorem dX7_bevel_128 : decode cX7_bevel 128 = .ok (.dadd, 1) := by decide +kernel
theorem dX7_bevel_129 : decode cX7_bevel 129 = .ok (.invokestatic 73, 3) := by decide +kernel
theorem dX7_bevel_132 : decode cX7_bevel 132 = .ok (.dstore 11, 2) := by decide +kernel
theorem dX7_bevel_134 : decode cX7_bevel 134 = .ok (.dload 9, 2) := by decide +kernel
theorem dX7_bevel_136 : decode cX7_bevel 136 = .ok (.dconst 0, 1) := by decide +kernel
theorem dX7_bevel_137 : decode cX7_bevel 137 = .ok (.dcmp .l, 1) := by decide +kernel
theorem dX7_bevel_138 : decode cX7_bevel 138 = .ok (.ifCond .eq 10, 3) := by decide +kernel
theorem dX7_bevel_141 : decode cX7_bevel 141 = .ok (.dload 11, 2) := by decide +kernel
theorem dX7_bevel_143 : decode cX7_bevel 143 = .ok (.dconst 0, 1) := by decide +kernel
theorem dX7_bevel_144 : decode cX7_bevel 144 = .ok (.dcmp .l, 1) := by decide +kernel
theorem dX7_bevel_145 : decode cX7_bevel 145 = .ok (.ifCond .ne 7, 3) := by decide +kernel
theorem dX7_bevel_148 : decode cX7_bevel 148 = .ok (.dconst 1, 1) := by decide +kernel
theorem dX7_bevel_149 : decode cX7_bevel 149 = .ok (.goto 33, 3) := by decide +kernel
theorem dX7_bevel_152 : decode cX7_bevel 152 = .ok (.dconst 0, 1) := by decide +kernel
theorem dX7_bevel_153 : decode cX7_bevel 153 = .ok (.dload_n 3, 1) := by decide +kernel
theorem dX7_bevel_154 : decode cX7_bevel 154 = .ok (.aload_n 0, 1) := by decide +kernel
theorem dX7_bevel_155 : decode cX7_bevel 155 = .ok (.getfield 104, 3) := by decide +kernel
theorem dX7_bevel_158 : decode cX7_bevel 158 = .ok (.dmul, 1) := by decide +kernel
theorem dX7_bevel_159 : decode cX7_bevel 159 = .ok (.dadd, 1) := by decide +kernel
theorem dX7_bevel_160 : decode cX7_bevel 160 = .ok (.dload 5, 2) := by decide +kernel
theorem dX7_bevel_162 : decode cX7_bevel 162 = .ok (.aload_n 0, 1) := by decide +kernel
theorem dX7_bevel_163 : decode cX7_bevel 163 = .ok (.getfield 108, 3) := by decide +kernel
theorem dX7_bevel_166 : decode cX7_bevel 166 = .ok (.dmul, 1) := by decide +kernel
theorem dX7_bevel_167 : decode cX7_bevel 167 = .ok (.dadd, 1) := by decide +kernel
theorem dX7_bevel_168 : decode cX7_bevel 168 = .ok (.dload 7, 2) := by decide +kernel
theorem dX7_bevel_170 : decode cX7_bevel 170 = .ok (.aload_n 0, 1) := by decide +kernel
theorem dX7_bevel_171 : decode cX7_bevel 171 = .ok (.getfield 111, 3) := by decide +kernel
theorem dX7_bevel_174 : decode cX7_bevel 174 = .ok (.dmul, 1) := by decide +kernel
theorem dX7_bevel_175 : decode cX7_bevel 175 = .ok (.dadd, 1) := by decide +kernel
theorem dX7_bevel_176 : decode cX7_bevel 176 = .ok (.dload 9, 2) := by decide +kernel
theorem dX7_bevel_178 : decode cX7_bevel 178 = .ok (.dload 11, 2) := by decide +kernel
theorem dX7_bevel_180 : decode cX7_bevel 180 = .ok (.dmul, 1) := by decide +kernel
theorem dX7_bevel_181 : decode cX7_bevel 181 = .ok (.ddiv, 1) := by decide +kernel
theorem dX7_bevel_182 : decode cX7_bevel 182 = .ok (.dreturn, 1) := by decide +kernel
abbrev rm_X7_bevel : Room := { frames := 7, cells := 0, slots := 0, locals := 140 }
theorem hw_X7_bevel_1 : (Cond.fieldLink RX7 52 "PlankUnrollModel" "thrown" "I") ∈ wsX7_bevel := List.mem_of_getElem? (i := 1) rfl
theorem hw_X7_bevel_2 : (Cond.fieldLink RX7 104 "PlankUnrollModel" "px" "D") ∈ wsX7_bevel := List.mem_of_getElem? (i := 2) rfl
theorem hw_X7_bevel_3 : (Cond.fieldLink RX7 108 "PlankUnrollModel" "py" "D") ∈ wsX7_bevel := List.mem_of_getElem? (i := 3) rfl
theorem hw_X7_bevel_4 : (Cond.fieldLink RX7 111 "PlankUnrollModel" "pz" "D") ∈ wsX7_bevel := List.mem_of_getElem? (i := 4) rfl
theorem in_X7_bevel_X7 : ∀ w ∈ wsX70, w ∈ wsX7_bevel := by decide +kernel
set_option maxHeartbeats 4000000 in
set_option maxRecDepth 100000 in
/-- bevel -/
theorem c_X7_bevel {l : Launch} {G : va_G} {ty : Nat → ClassId} {b0 : Nat} {H : Heap} {x f : Int32} {m0 : Nat} {A : Nat → Nat} {th : Int32} {F R nb : Nat} {pl co dr wi hi fa : Nat → UInt64} {un bu fc lo la : Nat → Int32} {px py pz : UInt64} (hY : xRef G ty m0 A th F R pl un co dr bu nb wi hi fc fa lo la px py pz H) (hZ : xSz F R) (hA : xAp m0 A) (hB : xNw b0 m0 A) : xMet l yX7_bevel wsX7_bevel rm_X7_bevel G ty b0 [.ref m0, .int (x), .int (f)] H (fun v H1 => ∃ (T : Int32) (x1 y1 z1 : UInt64), xRef G ty m0 A T F R pl un co dr bu nb wi hi fc fa lo la x1 y1 z1 H1 ∧ xRfr m0 A H H1 ∧ ∃ z : UInt64, v = some (.double z) ∧ ((T = nI 0 ∧ (vp_in x (R - 1) ∧ vp_in f (F - 1)) ∧ vq z (pBevel pl x.toNatClampNeg f.toNatClampNeg)) ∨ (T = nI 1 ∧ ¬ (vp_in x (R - 1) ∧ vp_in f (F - 1))))) (fun _ _ => False) := by
  refine xbody (cc := cX7_bevel) (maxL := 13) (ret := (some .double)) (C := RX7) (lv := [(0, .ref m0), (1, .int (x)), (2, .int (f))]) (by decide) rfl rfl (Nat.le_of_ble_eq_true rfl) rfl ?_
  intro p e s m below meth c d0 hx hb hr hts hown hlocks hml hxt hnm0 hK hb0 hH0 hS hd0 ls hl
  obtain ⟨y_o, y_0, y_1, y_2, y_3, y_4, y_5, y_6, y_7, y_8, y_9, y_10⟩ := id hY
  obtain ⟨⟨zF2, zF8⟩, ⟨zR2, zR8⟩⟩ := id hZ
  refine lv_aload_n hx hb dX7_bevel_0 rfl (lv_at hl 0 rfl) ?_
  refine lv_aload_n hx hb dX7_bevel_1 rfl (lv_at hl 0 rfl) ?_
  refine lv_iload_n hx hb dX7_bevel_2 rfl (lv_at hl 1 rfl) ?_
  refine lv_iload_n hx hb dX7_bevel_3 rfl (lv_at hl 2 rfl) ?_
  have cw_1 := cwV (R := rm_X7_bevel) (rm := rm_X7_noCell) 2 (hts d0) gX7_bevel_X7_noCell rfl rfl rfl (by decide +kernel) ⟨Nat.le_of_ble_eq_true rfl, Nat.le_of_ble_eq_true rfl⟩
  refine xcall hd0 (xintoV (b := m0) (As := [.int (x), .int (f)]) (rest := [.ref m0]) ⟨hx, hb, hml, hown, hts _⟩ cw_1 (va_recv hK.1 (x1 y_o) (ci := 8) (q0 := 0) rfl rfl) rfl rfl hl.1 rfl (lv_room (Nat.le_of_ble_eq_true rfl)) dX7_bevel_4) (c_X7_noCell (l := l) (G := G) (ty := ty) (b0 := b0) (⟨y_o, y_0, y_1, y_2, y_3, y_4, y_5, y_6, y_7, y_8, y_9, y_10⟩ : xRef G ty m0 A (th) F R pl un co dr bu nb wi hi fc fa lo la px py pz H) hZ) (xoweB cw_1.1) hK hb0 hS (Nat.le_of_ble_eq_true rfl) (Nat.le_of_ble_eq_true rfl) (fun E_1 ce_1 q9_1 H_1 locs_1 d0 hd0 hp_1 hS hce_1 hcv_1 hcl_1 => ?_) (fun v_1 H_1 locs_1 d0 hd0 hp_1 hS => ?_)
  · exact hp_1.elim
  · obtain ⟨rfl, rfl⟩ := hp_1
    show W p l e _ (s.setDrawn _) m _ below meth c _ _ _ _ _ (F0 m 7 ls [.int (xP (¬ (vp_in x (R - 1) ∧ vp_in f (F - 1)))), .ref m0])
    refine lv_if_eq (tgt := 14) hx hb dX7_bevel_7 (by decide) (fun c_2 => ?_) (fun c_2 => ?_)
    · have z9 := Classical.not_not.mp (xP_eq.mp c_2)
      have z_x := z9.1
      have z_f := z9.2
      obtain ⟨x9, hx9, ex9⟩ := vp_in_of z_x (by omega)
      obtain ⟨f9, hf9, ef9⟩ := vp_in_of z_f (by omega)
      subst ex9 ef9
      refine lv_iconst (v := nI 0) hx hb dX7_bevel_14 (by decide) ?_
      refine xput (G := G) (ci := 8) (v := .int (nI 0)) (ty := .int) (C := RX7) (T := TX7) (N := 18) hx hb (hts d0) in_X7_bevel_X7 tyX7 tyX7_ok nmX7 hown hK.1 y_o hS hB.1 rfl 0 (by decide) (hts d0 _ hw_X7_bevel_1) (fun _ h9 => h9) rfl (by decide +kernel) rfl rfl (Nat.le_of_ble_eq_true rfl) dX7_bevel_15 (fun H_3 locs_3 hs_3 hS => ?_)
      have hc_3 : xc G m0 (.inr (8, [.int (nI 0), .int (nI F), .int (nI R), .ref (A 0), .ref (A 1), .ref (A 2), .ref (A 3), .ref (A 4), .int (nI nb), .ref (A 5), .ref (A 6), .ref (A 7), .ref (A 8), .ref (A 9), .ref (A 10), .double px, .double py, .double pz])) H_3 := hs_3.1
      have hc_A0_3 : xc G (A 0) (.inl (ty 0, 192, .inr (.inr (.inr (.inl pl))))) H_3 := y_0.kept (hs_3.2.2 _ (hA.1 0 (by decide)))
      have hc_A1_3 : xc G (A 1) (.inl (ty 2, 8, .inl un)) H_3 := y_1.kept (hs_3.2.2 _ (hA.1 1 (by decide)))
      have hc_A2_3 : xc G (A 2) (.inl (ty 0, 256, .inr (.inr (.inr (.inl co))))) H_3 := y_2.kept (hs_3.2.2 _ (hA.1 2 (by decide)))
      have hc_A3_3 : xc G (A 3) (.inl (ty 0, 32, .inr (.inr (.inr (.inl dr))))) H_3 := y_3.kept (hs_3.2.2 _ (hA.1 3 (by decide)))
      have hc_A4_3 : xc G (A 4) (.inl (ty 2, 64, .inl bu)) H_3 := y_4.kept (hs_3.2.2 _ (hA.1 4 (by decide)))
      have hc_A5_3 : xc G (A 5) (.inl (ty 0, 4, .inr (.inr (.inr (.inl wi))))) H_3 := y_5.kept (hs_3.2.2 _ (hA.1 5 (by decide)))
      have hc_A6_3 : xc G (A 6) (.inl (ty 0, 4, .inr (.inr (.inr (.inl hi))))) H_3 := y_6.kept (hs_3.2.2 _ (hA.1 6 (by decide)))
      have hc_A7_3 : xc G (A 7) (.inl (ty 1, 4, .inl fc)) H_3 := y_7.kept (hs_3.2.2 _ (hA.1 7 (by decide)))
      have hc_A8_3 : xc G (A 8) (.inl (ty 0, 128, .inr (.inr (.inr (.inl fa))))) H_3 := y_8.kept (hs_3.2.2 _ (hA.1 8 (by decide)))
      have hc_A9_3 : xc G (A 9) (.inl (ty 1, 8, .inl lo)) H_3 := y_9.kept (hs_3.2.2 _ (hA.1 9 (by decide)))
      have hc_A10_3 : xc G (A 10) (.inl (ty 1, 8, .inl la)) H_3 := y_10.kept (hs_3.2.2 _ (hA.1 10 (by decide)))
      have hfr_3 : xRfr m0 A H H_3 := xRfr.put0 xRfr.rf hs_3
      refine lv_aload_n hx hb dX7_bevel_18 rfl (lv_at hl 0 rfl) ?_
      refine va_get (D := G) (cl := vwCl) (ci := 8) (v := .int (nI 0)) (C := RX7) (T := TX7) (N := 18) hx hb (hts d0) in_X7_bevel_X7 hown hK.1 (x1 hc_3) 0 rfl rfl 0 (by decide) (hts d0 _ hw_X7_bevel_1) (fun _ h9 => h9) rfl dX7_bevel_19 ?_
      refine lv_if_le (tgt := 27) hx hb dX7_bevel_22 (by decide) (fun _ => ?_) (fun h9 => (show False by revert h9; decide).elim)
      refine lv_aload_n hx hb dX7_bevel_27 rfl (lv_at hl 0 rfl) ?_
      refine lv_iload_n hx hb dX7_bevel_28 rfl (lv_at hl 2 rfl) ?_
      refine lv_iload_n hx hb dX7_bevel_29 rfl (lv_at hl 1 rfl) ?_
      refine lv_iload_n hx hb dX7_bevel_30 rfl (lv_at hl 2 rfl) ?_
      refine lv_iload_n hx hb dX7_bevel_31 rfl (lv_at hl 1 rfl) ?_
      refine lv_iconst (v := nI 1) hx hb dX7_bevel_32 (by decide) ?_
      refine xiaddN hx hb dX7_bevel_33 ?_
      refine lv_iload_n hx hb dX7_bevel_34 rfl (lv_at hl 2 rfl) ?_
      refine lv_iconst (v := nI 1) hx hb dX7_bevel_35 (by decide) ?_
      refine xiaddN hx hb dX7_bevel_36 ?_
      refine lv_iload_n hx hb dX7_bevel_37 rfl (lv_at hl 1 rfl) ?_
      have cw_5 := cwV (R := rm_X7_bevel) (rm := rm_X7_cross) 6 (hts d0) gX7_bevel_X7_cross rfl rfl rfl (by decide +kernel) ⟨Nat.le_of_ble_eq_true rfl, Nat.le_of_ble_eq_true rfl⟩
      refine xcall hd0 (xintoV (b := m0) (As := [.int (nI f9), .int (nI x9), .int (nI f9), .int (nI (x9 + 1)), .int (nI (f9 + 1)), .int (nI x9)]) (rest := []) ⟨hx, hb, hml, hown, hts _⟩ cw_5 (va_recv hK.1 (x1 hc_3) (ci := 8) (q0 := 0) rfl rfl) rfl rfl hl.1 rfl (lv_room (Nat.le_of_ble_eq_true rfl)) dX7_bevel_38) (c_X7_cross (l := l) (G := G) (ty := ty) (b0 := b0) (⟨hc_3, hc_A0_3, hc_A1_3, hc_A2_3, hc_A3_3, hc_A4_3, hc_A5_3, hc_A6_3, hc_A7_3, hc_A8_3, hc_A9_3, hc_A10_3⟩ : xRef G ty m0 A (nI 0) F R pl un co dr bu nb wi hi fc fa lo la px py pz H_3) hZ hA hB (f := f9) (r := x9) (g := f9) (q := x9 + 1) (h := f9 + 1) (t := x9) (by omega) (by omega) (by omega) (by omega) (by omega) (by omega)) (xoweB cw_5.1) hK hb0 hS (Nat.le_of_ble_eq_true rfl) (Nat.le_of_ble_eq_true rfl) (fun E_5 ce_5 q9_5 H_5 locs_5 d0 hd0 hp_5 hS hce_5 hcv_5 hcl_5 => ?_) (fun v_5 H_5 locs_5 d0 hd0 hp_5 hS => ?_)
      · exact hp_5.elim
      · obtain ⟨x1_5, y1_5, z1_5, hY_5, hfr_5, hq_5⟩ := hp_5
        obtain ⟨y_o, y_0, y_1, y_2, y_3, y_4, y_5, y_6, y_7, y_8, y_9, y_10⟩ := id hY_5
        have hfr_5t := xRfr.tr hfr_3 hfr_5
        obtain ⟨rfl, qx_5, qy_5, qz_5⟩ := hq_5
        show W p l e _ (s.setDrawn _) m _ below meth c _ _ _ _ _ (F0 m 41 ls [])
        refine lv_aload_n hx hb dX7_bevel_41 rfl (lv_at hl 0 rfl) ?_
        refine va_get (D := G) (cl := vwCl) (ci := 8) (v := .double x1_5) (C := RX7) (T := TX7) (N := 18) hx hb (hts d0) in_X7_bevel_X7 hown hK.1 (x1 y_o) 0 rfl rfl 15 (by decide) (hts d0 _ hw_X7_bevel_2) (fun _ h9 => h9) rfl dX7_bevel_42 ?_
        refine lv_dstore_n (lv' := [(3, .double x1_5), (0, .ref m0), (1, .int (nI x9)), (2, .int (nI f9))]) hx hb dX7_bevel_45 rfl hl (by decide) rfl (fun ls hl => ?_)
        refine lv_aload_n hx hb dX7_bevel_46 rfl (lv_at hl 1 rfl) ?_
        refine va_get (D := G) (cl := vwCl) (ci := 8) (v := .double y1_5) (C := RX7) (T := TX7) (N := 18) hx hb (hts d0) in_X7_bevel_X7 hown hK.1 (x1 y_o) 0 rfl rfl 16 (by decide) (hts d0 _ hw_X7_bevel_3) (fun _ h9 => h9) rfl dX7_bevel_47 ?_
        refine lv_dstore (lv' := [(5, .double y1_5), (3, .double x1_5), (0, .ref m0), (1, .int (nI x9)), (2, .int (nI f9))]) hx hb dX7_bevel_50 hl (by decide) rfl (fun ls hl => ?_)
        refine lv_aload_n hx hb dX7_bevel_52 rfl (lv_at hl 2 rfl) ?_
        refine va_get (D := G) (cl := vwCl) (ci := 8) (v := .double z1_5) (C := RX7) (T := TX7) (N := 18) hx hb (hts d0) in_X7_bevel_X7 hown hK.1 (x1 y_o) 0 rfl rfl 17 (by decide) (hts d0 _ hw_X7_bevel_4) (fun _ h9 => h9) rfl dX7_bevel_53 ?_
        refine lv_dstore (lv' := [(7, .double z1_5), (5, .double y1_5), (3, .double x1_5), (0, .ref m0), (1, .int (nI x9)), (2, .int (nI f9))]) hx hb dX7_bevel_56 hl (by decide) rfl (fun ls hl => ?_)
        refine lv_aload_n hx hb dX7_bevel_58 rfl (lv_at hl 3 rfl) ?_
        refine lv_iload_n hx hb dX7_bevel_59 rfl (lv_at hl 5 rfl) ?_
        refine lv_iload_n hx hb dX7_bevel_60 rfl (lv_at hl 4 rfl) ?_
        refine lv_iconst (v := nI 1) hx hb dX7_bevel_61 (by decide) ?_
        refine xiaddN hx hb dX7_bevel_62 ?_
        refine lv_iload_n hx hb dX7_bevel_63 rfl (lv_at hl 5 rfl) ?_
        refine lv_iconst (v := nI 1) hx hb dX7_bevel_64 (by decide) ?_
        refine xiaddN hx hb dX7_bevel_65 ?_
        refine lv_iload_n hx hb dX7_bevel_66 rfl (lv_at hl 4 rfl) ?_
        refine lv_iconst (v := nI 1) hx hb dX7_bevel_67 (by decide) ?_
        refine xiaddN hx hb dX7_bevel_68 ?_
        refine lv_iload_n hx hb dX7_bevel_69 rfl (lv_at hl 5 rfl) ?_
        refine lv_iconst (v := nI 1) hx hb dX7_bevel_70 (by decide) ?_
        refine xiaddN hx hb dX7_bevel_71 ?_
        refine lv_iload_n hx hb dX7_bevel_72 rfl (lv_at hl 4 rfl) ?_
        have cw_6 := cwV (R := rm_X7_bevel) (rm := rm_X7_cross) 6 (hts d0) gX7_bevel_X7_cross rfl rfl rfl (by decide +kernel) ⟨Nat.le_of_ble_eq_true rfl, Nat.le_of_ble_eq_true rfl⟩
        refine xcall hd0 (xintoV (b := m0) (As := [.int (nI f9), .int (nI (x9 + 1)), .int (nI (f9 + 1)), .int (nI (x9 + 1)), .int (nI (f9 + 1)), .int (nI x9)]) (rest := []) ⟨hx, hb, hml, hown, hts _⟩ cw_6 (va_recv hK.1 (x1 y_o) (ci := 8) (q0 := 0) rfl rfl) rfl rfl hl.1 rfl (lv_room (Nat.le_of_ble_eq_true rfl)) dX7_bevel_73) (c_X7_cross (l := l) (G := G) (ty := ty) (b0 := b0) (⟨y_o, y_0, y_1, y_2, y_3, y_4, y_5, y_6, y_7, y_8, y_9, y_10⟩ : xRef G ty m0 A (nI 0) F R pl un co dr bu nb wi hi fc fa lo la x1_5 y1_5 z1_5 H_5) hZ hA hB (f := f9) (r := x9 + 1) (g := f9 + 1) (q := x9 + 1) (h := f9 + 1) (t := x9) (by omega) (by omega) (by omega) (by omega) (by omega) (by omega)) (xoweB cw_6.1) hK hb0 hS (Nat.le_of_ble_eq_true rfl) (Nat.le_of_ble_eq_true rfl) (fun E_6 ce_6 q9_6 H_6 locs_6 d0 hd0 hp_6 hS hce_6 hcv_6 hcl_6 => ?_) (fun v_6 H_6 locs_6 d0 hd0 hp_6 hS => ?_)
        · exact hp_6.elim
        · obtain ⟨x1_6, y1_6, z1_6, hY_6, hfr_6, hq_6⟩ := hp_6
          obtain ⟨y_o, y_0, y_1, y_2, y_3, y_4, y_5, y_6, y_7, y_8, y_9, y_10⟩ := id hY_6
          have hfr_6t := xRfr.tr hfr_5t hfr_6
          obtain ⟨rfl, qx_6, qy_6, qz_6⟩ := hq_6
          show W p l e _ (s.setDrawn _) m _ below meth c _ _ _ _ _ (F0 m 76 ls [])
          refine lv_dconst0 hx hb dX7_bevel_76 ?_
          refine lv_dload_n hx hb dX7_bevel_77 rfl (lv_at hl 2 rfl) ?_
          refine lv_dload_n hx hb dX7_bevel_78 rfl (lv_at hl 2 rfl) ?_
          refine xdmul hd0 hx hb qx_5 qx_5 dX7_bevel_79 (fun r_7 d0 q_7 hd0 => ?_)
          refine xdadd hd0 hx hb (vq_rf _) q_7 dX7_bevel_80 (fun r_8 d0 q_8 hd0 => ?_)
          refine lv_dload hx hb dX7_bevel_81 (lv_at hl 1 rfl) ?_
          refine lv_dload hx hb dX7_bevel_83 (lv_at hl 1 rfl) ?_
          refine xdmul hd0 hx hb qy_5 qy_5 dX7_bevel_85 (fun r_9 d0 q_9 hd0 => ?_)
          refine xdadd hd0 hx hb q_8 q_9 dX7_bevel_86 (fun r_10 d0 q_10 hd0 => ?_)
          refine lv_dload hx hb dX7_bevel_87 (lv_at hl 0 rfl) ?_
          refine lv_dload hx hb dX7_bevel_89 (lv_at hl 0 rfl) ?_
          refine xdmul hd0 hx hb qz_5 qz_5 dX7_bevel_91 (fun r_11 d0 q_11 hd0 => ?_)
          refine xdadd hd0 hx hb q_10 q_11 dX7_bevel_92 (fun r_12 d0 q_12 hd0 => ?_)
          have cw_13 := va_cwS (R := rm_X7_bevel) (rm := rm_X7_root) 1 (hts d0) gX7_bevel_X7_root rfl rfl rfl (by decide +kernel) ⟨Nat.le_of_ble_eq_true rfl, Nat.le_of_ble_eq_true rfl⟩
          refine xcall hd0 (xintoS (As := [.double r_12]) (rest := []) ⟨hx, hb, hml, hown, hts _⟩ cw_13 rfl rfl hl.1 rfl (lv_room (Nat.le_of_ble_eq_true rfl)) dX7_bevel_93) (c_X7_root (l := l) (G := G) (ty := ty) (b0 := b0) q_12) (xoweB cw_13.1) hK hb0 hS (Nat.le_of_ble_eq_true rfl) (Nat.le_of_ble_eq_true rfl) (fun E_13 ce_13 q9_13 H_13 locs_13 d0 hd0 hp_13 hS hce_13 hcv_13 hcl_13 => ?_) (fun v_13 H_13 locs_13 d0 hd0 hp_13 hS => ?_)
          · exact hp_13.elim
          · obtain ⟨rfl, r_13, rfl, q_13⟩ := hp_13
            show W p l e _ (s.setDrawn _) m _ below meth c _ _ _ _ _ (F0 m 96 ls [.double r_13])
            refine lv_dstore (lv' := [(9, .double r_13), (7, .double z1_5), (5, .double y1_5), (3, .double x1_5), (0, .ref m0), (1, .int (nI x9)), (2, .int (nI f9))]) hx hb dX7_bevel_96 hl (by decide) rfl (fun ls hl => ?_)
            refine lv_dconst0 hx hb dX7_bevel_98 ?_
            refine lv_aload_n hx hb dX7_bevel_99 rfl (lv_at hl 4 rfl) ?_
            refine va_get (D := G) (cl := vwCl) (ci := 8) (v := .double x1_6) (C := RX7) (T := TX7) (N := 18) hx hb (hts d0) in_X7_bevel_X7 hown hK.1 (x1 y_o) 0 rfl rfl 15 (by decide) (hts d0 _ hw_X7_bevel_2) (fun _ h9 => h9) rfl dX7_bevel_100 ?_
            refine lv_aload_n hx hb dX7_bevel_103 rfl (lv_at hl 4 rfl) ?_
            refine va_get (D := G) (cl := vwCl) (ci := 8) (v := .double x1_6) (C := RX7) (T := TX7) (N := 18) hx hb (hts d0) in_X7_bevel_X7 hown hK.1 (x1 y_o) 0 rfl rfl 15 (by decide) (hts d0 _ hw_X7_bevel_2) (fun _ h9 => h9) rfl dX7_bevel_104 ?_
            refine xdmul hd0 hx hb qx_6 qx_6 dX7_bevel_107 (fun r_14 d0 q_14 hd0 => ?_)
            refine xdadd hd0 hx hb (vq_rf _) q_14 dX7_bevel_108 (fun r_15 d0 q_15 hd0 => ?_)
            refine lv_aload_n hx hb dX7_bevel_109 rfl (lv_at hl 4 rfl) ?_
            refine va_get (D := G) (cl := vwCl) (ci := 8) (v := .double y1_6) (C := RX7) (T := TX7) (N := 18) hx hb (hts d0) in_X7_bevel_X7 hown hK.1 (x1 y_o) 0 rfl rfl 16 (by decide) (hts d0 _ hw_X7_bevel_3) (fun _ h9 => h9) rfl dX7_bevel_110 ?_
            refine lv_aload_n hx hb dX7_bevel_113 rfl (lv_at hl 4 rfl) ?_
            refine va_get (D := G) (cl := vwCl) (ci := 8) (v := .double y1_6) (C := RX7) (T := TX7) (N := 18) hx hb (hts d0) in_X7_bevel_X7 hown hK.1 (x1 y_o) 0 rfl rfl 16 (by decide) (hts d0 _ hw_X7_bevel_3) (fun _ h9 => h9) rfl dX7_bevel_114 ?_
            refine xdmul hd0 hx hb qy_6 qy_6 dX7_bevel_117 (fun r_16 d0 q_16 hd0 => ?_)
            refine xdadd hd0 hx hb q_15 q_16 dX7_bevel_118 (fun r_17 d0 q_17 hd0 => ?_)
            refine lv_aload_n hx hb dX7_bevel_119 rfl (lv_at hl 4 rfl) ?_
            refine va_get (D := G) (cl := vwCl) (ci := 8) (v := .double z1_6) (C := RX7) (T := TX7) (N := 18) hx hb (hts d0) in_X7_bevel_X7 hown hK.1 (x1 y_o) 0 rfl rfl 17 (by decide) (hts d0 _ hw_X7_bevel_4) (fun _ h9 => h9) rfl dX7_bevel_120 ?_
            refine lv_aload_n hx hb dX7_bevel_123 rfl (lv_at hl 4 rfl) ?_
            refine va_get (D := G) (cl := vwCl) (ci := 8) (v := .double z1_6) (C := RX7) (T := TX7) (N := 18) hx hb (hts d0) in_X7_bevel_X7 hown hK.1 (x1 y_o) 0 rfl rfl 17 (by decide) (hts d0 _ hw_X7_bevel_4) (fun _ h9 => h9) rfl dX7_bevel_124 ?_
            refine xdmul hd0 hx hb qz_6 qz_6 dX7_bevel_127 (fun r_18 d0 q_18 hd0 => ?_)
            refine xdadd hd0 hx hb q_17 q_18 dX7_bevel_128 (fun r_19 d0 q_19 hd0 => ?_)
            have cw_20 := va_cwS (R := rm_X7_bevel) (rm := rm_X7_root) 1 (hts d0) gX7_bevel_X7_root rfl rfl rfl (by decide +kernel) ⟨Nat.le_of_ble_eq_true rfl, Nat.le_of_ble_eq_true rfl⟩
            refine xcall hd0 (xintoS (As := [.double r_19]) (rest := []) ⟨hx, hb, hml, hown, hts _⟩ cw_20 rfl rfl hl.1 rfl (lv_room (Nat.le_of_ble_eq_true rfl)) dX7_bevel_129) (c_X7_root (l := l) (G := G) (ty := ty) (b0 := b0) q_19) (xoweB cw_20.1) hK hb0 hS (Nat.le_of_ble_eq_true rfl) (Nat.le_of_ble_eq_true rfl) (fun E_20 ce_20 q9_20 H_20 locs_20 d0 hd0 hp_20 hS hce_20 hcv_20 hcl_20 => ?_) (fun v_20 H_20 locs_20 d0 hd0 hp_20 hS => ?_)
            · exact hp_20.elim
            · obtain ⟨rfl, r_20, rfl, q_20⟩ := hp_20
              show W p l e _ (s.setDrawn _) m _ below meth c _ _ _ _ _ (F0 m 132 ls [.double r_20])
              refine lv_dstore (lv' := [(11, .double r_20), (9, .double r_13), (7, .double z1_5), (5, .double y1_5), (3, .double x1_5), (0, .ref m0), (1, .int (nI x9)), (2, .int (nI f9))]) hx hb dX7_bevel_132 hl (by decide) rfl (fun ls hl => ?_)
              refine lv_dload hx hb dX7_bevel_134 (lv_at hl 1 rfl) ?_
              refine lv_dconst0 hx hb dX7_bevel_136 ?_
              refine xcmp_l_eq (tgt := 148) hx hb q_13 (vq_rf _) dX7_bevel_137 dX7_bevel_138 (by decide) (fun c_21 => ?_) (fun c_21 => ?_)
              · refine lv_dconst1 hx hb dX7_bevel_148 ?_
                refine lv_goto (tgt := 182) hx hb dX7_bevel_149 (by decide) ?_
                exact xdret hd0 hx hb hr hlocks hS (Nat.le_of_ble_eq_true rfl) (Nat.le_of_ble_eq_true rfl) dX7_bevel_182 ⟨nI 0, _, _, _, ⟨y_o, y_0, y_1, y_2, y_3, y_4, y_5, y_6, y_7, y_8, y_9, y_10⟩, hfr_6t, _, rfl, Or.inl ⟨rfl, z9, by rw [nN_nI (by omega), nN_nI (by omega)]; exact (congrArg xv (pBev_1 (Or.inl c_21)).symm)⟩⟩
              · refine lv_dload hx hb dX7_bevel_141 (lv_at hl 0 rfl) ?_
                refine lv_dconst0 hx hb dX7_bevel_143 ?_
                refine xcmp_l_ne (tgt := 152) hx hb q_20 (vq_rf _) dX7_bevel_144 dX7_bevel_145 (by decide) (fun c_22 => ?_) (fun c_22 => ?_)
                · refine lv_dconst0 hx hb dX7_bevel_152 ?_
                  refine lv_dload_n hx hb dX7_bevel_153 rfl (lv_at hl 4 rfl) ?_
                  refine lv_aload_n hx hb dX7_bevel_154 rfl (lv_at hl 5 rfl) ?_
                  refine va_get (D := G) (cl := vwCl) (ci := 8) (v := .double x1_6) (C := RX7) (T := TX7) (N := 18) hx hb (hts d0) in_X7_bevel_X7 hown hK.1 (x1 y_o) 0 rfl rfl 15 (by decide) (hts d0 _ hw_X7_bevel_2) (fun _ h9 => h9) rfl dX7_bevel_155 ?_
                  refine xdmul hd0 hx hb qx_5 qx_6 dX7_bevel_158 (fun r_23 d0 q_23 hd0 => ?_)
                  refine xdadd hd0 hx hb (vq_rf _) q_23 dX7_bevel_159 (fun r_24 d0 q_24 hd0 => ?_)
                  refine lv_dload hx hb dX7_bevel_160 (lv_at hl 3 rfl) ?_
                  refine lv_aload_n hx hb dX7_bevel_162 rfl (lv_at hl 5 rfl) ?_
                  refine va_get (D := G) (cl := vwCl) (ci := 8) (v := .double y1_6) (C := RX7) (T := TX7) (N := 18) hx hb (hts d0) in_X7_bevel_X7 hown hK.1 (x1 y_o) 0 rfl rfl 16 (by decide) (hts d0 _ hw_X7_bevel_3) (fun _ h9 => h9) rfl dX7_bevel_163 ?_
                  refine xdmul hd0 hx hb qy_5 qy_6 dX7_bevel_166 (fun r_25 d0 q_25 hd0 => ?_)
                  refine xdadd hd0 hx hb q_24 q_25 dX7_bevel_167 (fun r_26 d0 q_26 hd0 => ?_)
                  refine lv_dload hx hb dX7_bevel_168 (lv_at hl 2 rfl) ?_
                  refine lv_aload_n hx hb dX7_bevel_170 rfl (lv_at hl 5 rfl) ?_
                  refine va_get (D := G) (cl := vwCl) (ci := 8) (v := .double z1_6) (C := RX7) (T := TX7) (N := 18) hx hb (hts d0) in_X7_bevel_X7 hown hK.1 (x1 y_o) 0 rfl rfl 17 (by decide) (hts d0 _ hw_X7_bevel_4) (fun _ h9 => h9) rfl dX7_bevel_171 ?_
                  refine xdmul hd0 hx hb qz_5 qz_6 dX7_bevel_174 (fun r_27 d0 q_27 hd0 => ?_)
                  refine xdadd hd0 hx hb q_26 q_27 dX7_bevel_175 (fun r_28 d0 q_28 hd0 => ?_)
                  refine lv_dload hx hb dX7_bevel_176 (lv_at hl 1 rfl) ?_
                  refine lv_dload hx hb dX7_bevel_178 (lv_at hl 0 rfl) ?_
                  refine xdmul hd0 hx hb q_13 q_20 dX7_bevel_180 (fun r_29 d0 q_29 hd0 => ?_)
                  refine xddiv hd0 hx hb q_28 q_29 dX7_bevel_181 (fun r_30 d0 q_30 hd0 => ?_)
                  exact xdret hd0 hx hb hr hlocks hS (Nat.le_of_ble_eq_true rfl) (Nat.le_of_ble_eq_true rfl) dX7_bevel_182 ⟨nI 0, _, _, _, ⟨y_o, y_0, y_1, y_2, y_3, y_4, y_5, y_6, y_7, y_8, y_9, y_10⟩, hfr_6t, _, rfl, Or.inl ⟨rfl, z9, by rw [nN_nI (by omega), nN_nI (by omega)]; exact (Eq.trans q_30 (congrArg xv (pBev_2 c_21 c_22).symm))⟩⟩
                · refine lv_dconst1 hx hb dX7_bevel_148 ?_
                  refine lv_goto (tgt := 182) hx hb dX7_bevel_149 (by decide) ?_
                  exact xdret hd0 hx hb hr hlocks hS (Nat.le_of_ble_eq_true rfl) (Nat.le_of_ble_eq_true rfl) dX7_bevel_182 ⟨nI 0, _, _, _, ⟨y_o, y_0, y_1, y_2, y_3, y_4, y_5, y_6, y_7, y_8, y_9, y_10⟩, hfr_6t, _, rfl, Or.inl ⟨rfl, z9, by rw [nN_nI (by omega), nN_nI (by omega)]; exact (congrArg xv (pBev_1 (Or.inr c_22)).symm)⟩⟩
    · refine lv_iconst (v := nI 1) hx hb dX7_bevel_10 (by decide) ?_
      refine lv_goto (tgt := 15) hx hb dX7_bevel_11 (by decide) ?_
      refine xput (G := G) (ci := 8) (v := .int (nI 1)) (ty := .int) (C := RX7) (T := TX7) (N := 18) hx hb (hts d0) in_X7_bevel_X7 tyX7 tyX7_ok nmX7 hown hK.1 y_o hS hB.1 rfl 0 (by decide) (hts d0 _ hw_X7_bevel_1) (fun _ h9 => h9) rfl (by decide +kernel) rfl rfl (Nat.le_of_ble_eq_true rfl) dX7_bevel_15 (fun H_31 locs_31 hs_31 hS => ?_)
      have hc_31 : xc G m0 (.inr (8, [.int (nI 1), .int (nI F), .int (nI R), .ref (A 0), .ref (A 1), .ref (A 2), .ref (A 3), .ref (A 4), .int (nI nb), .ref (A 5), .ref (A 6), .ref (A 7), .ref (A 8), .ref (A 9), .ref (A 10), .double px, .double py, .double pz])) H_31 := hs_31.1
      have hc_A0_31 : xc G (A 0) (.inl (ty 0, 192, .inr (.inr (.inr (.inl pl))))) H_31 := y_0.kept (hs_31.2.2 _ (hA.1 0 (by decide)))
      have hc_A1_31 : xc G (A 1) (.inl (ty 2, 8, .inl un)) H_31 := y_1.kept (hs_31.2.2 _ (hA.1 1 (by decide)))
      have hc_A2_31 : xc G (A 2) (.inl (ty 0, 256, .inr (.inr (.inr (.inl co))))) H_31 := y_2.kept (hs_31.2.2 _ (hA.1 2 (by decide)))
      have hc_A3_31 : xc G (A 3) (.inl (ty 0, 32, .inr (.inr (.inr (.inl dr))))) H_31 := y_3.kept (hs_31.2.2 _ (hA.1 3 (by decide)))
      have hc_A4_31 : xc G (A 4) (.inl (ty 2, 64, .inl bu)) H_31 := y_4.kept (hs_31.2.2 _ (hA.1 4 (by decide)))
      have hc_A5_31 : xc G (A 5) (.inl (ty 0, 4, .inr (.inr (.inr (.inl wi))))) H_31 := y_5.kept (hs_31.2.2 _ (hA.1 5 (by decide)))
      have hc_A6_31 : xc G (A 6) (.inl (ty 0, 4, .inr (.inr (.inr (.inl hi))))) H_31 := y_6.kept (hs_31.2.2 _ (hA.1 6 (by decide)))
      have hc_A7_31 : xc G (A 7) (.inl (ty 1, 4, .inl fc)) H_31 := y_7.kept (hs_31.2.2 _ (hA.1 7 (by decide)))
      have hc_A8_31 : xc G (A 8) (.inl (ty 0, 128, .inr (.inr (.inr (.inl fa))))) H_31 := y_8.kept (hs_31.2.2 _ (hA.1 8 (by decide)))
      have hc_A9_31 : xc G (A 9) (.inl (ty 1, 8, .inl lo)) H_31 := y_9.kept (hs_31.2.2 _ (hA.1 9 (by decide)))
      have hc_A10_31 : xc G (A 10) (.inl (ty 1, 8, .inl la)) H_31 := y_10.kept (hs_31.2.2 _ (hA.1 10 (by decide)))
      have hfr_31 : xRfr m0 A H H_31 := xRfr.put0 xRfr.rf hs_31
      refine lv_aload_n hx hb dX7_bevel_18 rfl (lv_at hl 0 rfl) ?_
      refine va_get (D := G) (cl := vwCl) (ci := 8) (v := .int (nI 1)) (C := RX7) (T := TX7) (N := 18) hx hb (hts d0) in_X7_bevel_X7 hown hK.1 (x1 hc_31) 0 rfl rfl 0 (by decide) (hts d0 _ hw_X7_bevel_1) (fun _ h9 => h9) rfl dX7_bevel_19 ?_
      refine lv_if_le (tgt := 27) hx hb dX7_bevel_22 (by decide) (fun h9 => (show False by revert h9; decide).elim) (fun _ => ?_)
      refine lv_dconst0 hx hb dX7_bevel_25 ?_
      exact xdret hd0 hx hb hr hlocks hS (Nat.le_of_ble_eq_true rfl) (Nat.le_of_ble_eq_true rfl) dX7_bevel_26 ⟨nI 1, _, _, _, ⟨hc_31, hc_A0_31, hc_A1_31, hc_A2_31, hc_A3_31, hc_A4_31, hc_A5_31, hc_A6_31, hc_A7_31, hc_A8_31, hc_A9_31, hc_A10_31⟩, hfr_31, _, rfl, Or.inr ⟨rfl, xP_ne.mp c_2⟩⟩
def pPutC (d : Nat → UInt64) (p q : Nat) : UInt64 := pLen (FP.dsub (d (2 * q)) (d (2 * p))) (FP.dsub (d (2 * q + 1)) (d (2 * p + 1)))
def pPutT (d : Nat → UInt64) (p q : Nat) (r s : UInt64) : UInt64 := FP.ddiv (FP.dadd (FP.dsub (FP.dmul r r) (FP.dmul s s)) (FP.dmul (pPutC d p q) (pPutC d p q))) (FP.dmul 4611686018427387904 (pPutC d p q))
def pPutH (d : Nat → UInt64) (p q : Nat) (r s : UInt64) : UInt64 := pRoot (FP.dsub (FP.dmul r r) (FP.dmul (pPutT d p q r s) (pPutT d p q r s)))
def pPutX (d : Nat → UInt64) (p q : Nat) (r s : UInt64) : UInt64 := FP.dadd (FP.dadd (d (2 * p)) (FP.ddiv (FP.dmul (pPutT d p q r s) (FP.dsub (d (2 * q)) (d (2 * p)))) (pPutC d p q))) (FP.ddiv (FP.dmul (pPutH d p q r s) (FP.dsub (d (2 * q + 1)) (d (2 * p + 1)))) (pPutC d p q))
def pPutY (d : Nat → UInt64) (p q : Nat) (r s : UInt64) : UInt64 := FP.dsub (FP.dadd (d (2 * p + 1)) (FP.ddiv (FP.dmul (pPutT d p q r s) (FP.dsub (d (2 * q + 1)) (d (2 * p + 1)))) (pPutC d p q))) (FP.ddiv (FP.dmul (pPutH d p q r s) (FP.dsub (d (2 * q)) (d (2 * p)))) (pPutC d p q))
/-- the corners with one more -/
def pPutF (d : Nat → UInt64) (k p q : Nat) (r s : UInt64) : Nat → UInt64 := fun j => if j = 2 * k then pPutX d p q r s else if j = 2 * k + 1 then pPutY d p q r s else d j
def pPutBad (d : Nat → UInt64) (p q : Nat) : Bool := xlt (pPutC d p q) 4562146422526312448
theorem vq_vfne {f : Nat → UInt64} {k j : Nat} {x e : UInt64} (h : j ≠ k) (hq : vq (f j) e) : vq (vf_upd f k x j) e := by
  have e1 : vf_upd f k x j = f j := by unfold vf_upd; exact if_neg h
  rw [e1]; exact hq
theorem pPutF_ok {dr d : Nat → UInt64} {k p q : Nat} {r s x y : UInt64} (hd : ∀ j : Nat, j < 2 * k → vq (dr j) (d j)) (hx : vq x (pPutX d p q r s)) (hy : vq y (pPutY d p q r s)) : ∀ j : Nat, j < 2 * k + 2 → vq (vf_upd (vf_upd dr (2 * k) x) (2 * k + 1) y j) (pPutF d k p q r s j) := by
  intro j hj
  unfold pPutF vf_upd
  by_cases h1 : j = 2 * k
  · rw [if_neg (by omega), if_pos h1, if_pos h1]; exact hx
  · by_cases h2 : j = 2 * k + 1
    · simp only [if_neg h1, if_pos h2]; exact hy
    · simp only [if_neg h1, if_neg h2]; exact hd j (by omega)
set_option maxRecDepth 20000 in
theorem ggX7_put_X7_length : GoodIn wsX7_put wsX7_length := goodIn_r _ [7, 8, 9, 6, 10, 3] (by decide +kernel) (by decide +kernel)
set_option maxRecDepth 20000 in
theorem gX7_put_X7_length : GoodIn wsX7_put (va_wsS RX7 81 yX7_length wsX7_length) := goodIn_app (goodIn_of _ (by decide +kernel)) ggX7_put_X7_length
set_option maxRecDepth 20000 in
theorem ggX7_put_X7_root : GoodIn wsX7_put wsX7_root := goodIn_r _ [10, 3] (by decide +kernel) (by decide +kernel)
set_option maxRecDepth 20000 in
theorem gX7_put_X7_root : GoodIn wsX7_put (va_wsS RX7 73 yX7_root wsX7_root) := goodIn_app (goodIn_of _ (by decide +kernel)) ggX7_put_X7_root
theorem dX7_put_0 : decode cX7_put 0 = .ok (.aload_n 0, 1) := by decide +kernel
theorem dX7_put_1 : decode cX7_put 1 = .ok (.getfield 20, 3) := by decide +kernel
theorem dX7_put_4 : decode cX7_put 4 = .ok (.iconst 2, 1) := by decide +kernel
theorem dX7_put_5 : decode cX7_put 5 = .ok (.iload_n 3, 1) := by decide +kernel
theorem dX7_put_6 : decode cX7_put 6 = .ok (.imul, 1) := by decide +kernel
theorem dX7_put_7 : decode cX7_put 7 = .ok (.daload, 1) := by decide +kernel
theorem dX7_put_8 : decode cX7_put 8 = .ok (.aload_n 0, 1) := by decide +kernel
theorem dX7_put_9 : decode cX7_put 9 = .ok (.getfield 20, 3) := by decide +kernel
theorem dX7_put_12 : decode cX7_put 12 = .ok (.iconst 2, 1) := by decide +kernel
theorem dX7_put_13 : decode cX7_put 13 = .ok (.iload_n 2, 1) := by decide +kernel
theorem dX7_put_14 : decode cX7_put 14 = .ok (.imul, 1) := by decide +kernel
theorem dX7_put_15 : decode cX7_put 15 = .ok (.daload, 1) := by decide +kernel
theorem dX7_put_16 : decode cX7_put 16 = .ok (.dsub, 1) := by decide +kernel
theorem dX7_put_17 : decode cX7_put 17 = .ok (.dstore 8, 2) := by decide +kernel
theorem dX7_put_19 : decode cX7_put 19 = .ok (.aload_n 0, 1) := by decide +kernel
theorem dX7_put_20 : decode cX7_put 20 = .ok (.getfield 20, 3) := by decide +kernel
theorem dX7_put_23 : decode cX7_put 23 = .ok (.iconst 2, 1) := by decide +kernel
theorem dX7_put_24 : decode cX7_put 24 = .ok (.iload_n 3, 1) := by decide +kernel
theorem dX7_put_25 : decode cX7_put 25 = .ok (.imul, 1) := by decide +kernel
theorem dX7_put_26 : decode cX7_put 26 = .ok (.iconst 1, 1) := by decide +kernel
theorem dX7_put_27 : decode cX7_put 27 = .ok (.iadd, 1) := by decide +kernel
theorem dX7_put_28 : decode cX7_put 28 = .ok (.daload, 1) := by decide +kernel
theorem dX7_put_29 : decode cX7_put 29 = .ok (.aload_n 0, 1) := by decide +kernel
theorem dX7_put_30 : decode cX7_put 30 = .ok (.getfield 20, 3) := by decide +kernel
theorem dX7_put_33 : decode cX7_put 33 = .ok (.iconst 2, 1) := by decide +kernel
theorem dX7_put_34 : decode cX7_put 34 = .ok (.iload_n 2, 1) := by decide +kernel
theorem dX7_put_35 : decode cX7_put 35 = .ok (.imul, 1) := by decide +kernel
theorem dX7_put_36 : decode cX7_put 36 = .ok (.iconst 1, 1) := by decide +kernel
theorem dX7_put_37 : decode cX7_put 37 = .ok (.iadd, 1) := by decide +kernel
theorem dX7_put_38 : decode cX7_put 38 = .ok (.daload, 1) := by decide +kernel
theorem dX7_put_39 : decode cX7_put 39 = .ok (.dsub, 1) := by decide +kernel
theorem dX7_put_40 : decode cX7_put 40 = .ok (.dstore 10, 2) := by decide +kernel
theorem dX7_put_42 : decode cX7_put 42 = .ok (.dload 8, 2) := by decide +kernel
theorem dX7_put_44 : decode cX7_put 44 = .ok (.dload 10, 2) := by decide +kernel
theorem dX7_put_46 : decode cX7_put 46 = .ok (.invokestatic 81, 3) := by decide +kernel
theorem dX7_put_49 : decode cX7_put 49 = .ok (.dstore 12, 2) := by decide +kernel
theorem dX7_put_51 : decode cX7_put 51 = .ok (.dload 12, 2) := by decide +kernel
theorem dX7_put_53 : decode cX7_put 53 = .ok (.ldc2_w 85, 3) := by decide +kernel
theorem dX7_put_56 : decode cX7_put 56 = .ok (.dcmp .g, 1) := by decide +kernel
theorem dX7_put_57 : decode cX7_put 57 = .ok (.ifCond .ge 5, 3) := by decide +kernel
theorem dX7_put_60 : decode cX7_put 60 = .ok (.iconst 0, 1) := by decide +kernel
theorem dX7_put_61 : decode cX7_put 61 = .ok (.ireturn, 1) := by decide +kernel
theorem dX7_put_62 : decode cX7_put 62 = .ok (.dload 4, 2) := by decide +kernel
theorem dX7_put_64 : decode cX7_put 64 = .ok (.dload 4, 2) := by decide +kernel
theorem dX7_put_66 : decode cX7_put 66 = .ok (.dmul, 1) := by decide +kernel
theorem dX7_put_67 : decode cX7_put 67 = .ok (.dload 6, 2) := by decide +kernel
theorem dX7_put_69 : decode cX7_put 69 = .ok (.dload 6, 2) := by decide +kernel
theorem dX7_put_71 : decode cX7_put 71 = .ok (.dmul, 1) := by decide +kernel
theorem dX7_put_72 : decode cX7_put 72 = .ok (.dsub, 1) := by decide +kernel
theorem dX7_put_73 : decode cX7_put 73 = .ok (.dload 12, 2) := by decide +kernel
theorem dX7_put_75 : decode cX7_put 75 = .ok (.dload 12, 2) := by decide +kernel
theorem dX7_put_77 : decode cX7_put 77 = .ok (.dmul, 1) := by decide +kernel
theorem dX7_put_78 : decode cX7_put 78 = .ok (.dadd, 1) := by decide +kernel
theorem dX7_put_79 : decode cX7_put 79 = .ok (.ldc2_w 55, 3) := by decide +kernel
theorem dX7_put_82 : decode cX7_put 82 = .ok (.dload 12, 2) := by decide +kernel
theorem dX7_put_84 : decode cX7_put 84 = .ok (.dmul, 1) := by decide +kernel
theorem dX7_put_85 : decode cX7_put 85 = .ok (.ddiv, 1) := by decide +kernel
theorem dX7_put_86 : decode cX7_put 86 = .ok (.dstore 14, 2) := by decide +kernel
theorem dX7_put_88 : decode cX7_put 88 = .ok (.dload 4, 2) := by decide +kernel
theorem dX7_put_90 : decode cX7_put 90 = .ok (.dload 4, 2) := by decide +kernel
theorem dX7_put_92 : decode cX7_put 92 = .ok (.dmul, 1) := by decide +kernel
theorem dX7_put_93 : decode cX7_put 93 = .ok (.dload 14, 2) := by decide +kernel
theorem dX7_put_95 : decode cX7_put 95 = .ok (.dload 14, 2) := by decide +kernel
theorem dX7_put_97 : decode cX7_put 97 = .ok (.dmul, 1) := by decide +kernel
theorem dX7_put_98 : decode cX7_put 98 = .ok (.dsub, 1) := by decide +kernel
theorem dX7_put_99 : decode cX7_put 99 = .ok (.invokestatic 73, 3) := by decide +kernel
theorem dX7_put_102 : decode cX7_put 102 = .ok (.dstore 16, 2) := by decide +kernel
theorem dX7_put_104 : decode cX7_put 104 = .ok (.aload_n 0, 1) := by decide +kernel
theorem dX7_put_105 : decode cX7_put 105 = .ok (.getfield 20, 3) := by decide +kernel
theorem dX7_put_108 : decode cX7_put 108 = .ok (.iconst 2, 1) := by decide +kernel
theorem dX7_put_109 : decode cX7_put 109 = .ok (.iload_n 1, 1) := by decide +kernel
theorem dX7_put_110 : decode cX7_put 110 = .ok (.imul, 1) := by decide +kernel
theorem dX7_put_111 : decode cX7_put 111 = .ok (.aload_n 0, 1) := by decide +kernel
theorem dX7_put_112 : decode cX7_put 112 = .ok (.getfield 20, 3) := by decide +kernel
theorem dX7_put_115 : decode cX7_put 115 = .ok (.iconst 2, 1) := by decide +kernel
theorem dX7_put_116 : decode cX7_put 116 = .ok (.iload_n 2, 1) := by decide +kernel
theorem dX7_put_117 : decode cX7_put 117 = .ok (.imul, 1) := by decide +kernel
theorem dX7_put_118 : decode cX7_put 118 = .ok (.daload, 1) := by decide +kernel
theorem dX7_put_119 : decode cX7_put 119 = .ok (.dload 14, 2) := by decide +kernel
theorem dX7_put_121 : decode cX7_put 121 = .ok (.dload 8, 2) := by decide +kernel
theorem dX7_put_123 : decode cX7_put 123 = .ok (.dmul, 1) := by decide +kernel
theorem dX7_put_124 : decode cX7_put 124 = .ok (.dload 12, 2) := by decide +kernel
theorem dX7_put_126 : decode cX7_put 126 = .ok (.ddiv, 1) := by decide +kernel
theorem dX7_put_127 : decode cX7_put 127 = .ok (.dadd, 1) := by decide +kernel
theorem dX7_put_128 : decode cX7_put 128 = .ok (.dload 16, 2) := by decide +kernel
theorem dX7_put_130 : decode cX7_put 130 = .ok (.dload 10, 2) := by decide +kernel
theorem dX7_put_132 : decode cX7_put 132 = .ok (.dmul, 1) := by decide +kernel
theorem dX7_put_133 : decode cX7_put 133 = .ok (.dload 12, 2) := by decide +kernel
theorem dX7_put_135 : decode cX7_put 135 = .ok (.ddiv, 1) := by decide +kernel
theorem dX7_put_136 : decode cX7_put 136 = .ok (.dadd, 1) := by decide +kernel
theorem dX7_put_137 : decode cX7_put 137 = .ok (.dastore, 1) := by decide +kernel
theorem dX7_put_138 : decode cX7_put 138 = .ok (.aload_n 0, 1) := by decide +kernel
theorem dX7_put_139 : decode cX7_put 139 = .ok (.getfield 20, 3) := by decide +kernel
theorem dX7_put_142 : decode cX7_put 142 = .ok (.iconst 2, 1) := by decide +kernel
theorem dX7_put_143 : decode cX7_put 143 = .ok (.iload_n 1, 1) := by decide +kernel
theorem dX7_put_144 : decode cX7_put 144 = .ok (.imul, 1) := by decide +kernel
theorem dX7_put_145 : decode cX7_put 145 = .ok (.iconst 1, 1) := by decide +kernel
theorem dX7_put_146 : decode cX7_put 146 = .ok (.iadd, 1) := by decide +kernel
theorem dX7_put_147 : decode cX7_put 147 = .ok (.aload_n 0, 1) := by decide +kernel
theorem dX7_put_148 : decode cX7_put 148 = .ok (.getfield 20, 3) := by decide +kernel
theorem dX7_put_151 : decode cX7_put 151 = .ok (.iconst 2, 1) := by decide +kernel
theorem dX7_put_152 : decode cX7_put 152 = .ok (.iload_n 2, 1) := by decide +kernel
theorem dX7_put_153 : decode cX7_put 153 = .ok (.imul, 1) := by decide +kernel
theorem dX7_put_154 : decode cX7_put 154 = .ok (.iconst 1, 1) := by decide +kernel
theorem dX7_put_155 : decode cX7_put 155 = .ok (.iadd, 1) := by decide +kernel
theorem dX7_put_156 : decode cX7_put 156 = .ok (.daload, 1) := by decide +kernel
theorem dX7_put_157 : decode cX7_put 157 = .ok (.dload 14, 2) := by decide +kernel
theorem dX7_put_159 : decode cX7_put 159 = .ok (.dload 10, 2) := by decide +kernel
theorem dX7_put_161 : decode cX7_put 161 = .ok (.dmul, 1) := by decide +kernel
theorem dX7_put_162 : decode cX7_put 162 = .ok (.dload 12, 2) := by decide +kernel
theorem dX7_put_164 : decode cX7_put 164 = .ok (.ddiv, 1) := by decide +kernel
theorem dX7_put_165 : decode cX7_put 165 = .ok (.dadd, 1) := by decide +kernel
theorem dX7_put_166 : decode cX7_put 166 = .ok (.dload 16, 2) := by decide +kernel
theorem dX7_put_168 : decode cX7_put 168 = .ok (.dload 8, 2) := by decide +kernel
theorem dX7_put_170 : decode cX7_put 170 = .ok (.dmul, 1) := by decide +kernel
theorem dX7_put_171 : decode cX7_put 171 = .ok (.dload 12, 2) := by decide +kernel
theorem dX7_put_173 : decode cX7_put 173 = .ok (.ddiv, 1) := by decide +kernel
theorem dX7_put_174 : decode cX7_put 174 = .ok (.dsub, 1) := by decide +kernel
theorem dX7_put_175 : decode cX7_put 175 = .ok (.dastore, 1) := by decide +kernel
theorem dX7_put_176 : decode cX7_put 176 = .ok (.iconst 1, 1) := by decide +kernel
theorem dX7_put_177 : decode cX7_put 177 = .ok (.ireturn, 1) := by decide +kernel
abbrev rm_X7_put : Room := { frames := 7, cells := 0, slots := 0, locals := 140 }
theorem hw_X7_put_1 : (Cond.fieldLink RX7 20 "PlankUnrollModel" "draft" "[D") ∈ wsX7_put := List.mem_of_getElem? (i := 1) rfl
theorem hw_X7_put_2 : (Cond.constantDouble RX7 85 (4562146422526312448)) ∈ wsX7_put := List.mem_of_getElem? (i := 2) rfl
theorem hw_X7_put_3 : (Cond.constantDouble RX7 55 (4611686018427387904)) ∈ wsX7_put := List.mem_of_getElem? (i := 3) rfl
theorem in_X7_put_X7 : ∀ w ∈ wsX70, w ∈ wsX7_put := by decide +kernel
set_option maxHeartbeats 4000000 in
set_option maxRecDepth 100000 in
/-- PUT -/
theorem c_X7_put {l : Launch} {G : va_G} {ty : Nat → ClassId} {b0 : Nat} {H : Heap} {m0 : Nat} {A : Nat → Nat} {th : Int32} {F R nb : Nat} {pl co dr wi hi fa : Nat → UInt64} {un bu fc lo la : Nat → Int32} {px py pz : UInt64} (hY : xRef G ty m0 A th F R pl un co dr bu nb wi hi fc fa lo la px py pz H) (hZ : xSz F R) (hA : xAp m0 A) (hB : xNw b0 m0 A) {k i j : Nat} {u w eu ew : UInt64} {d : Nat → UInt64} (hu9 : vq u eu) (hw9 : vq w ew) (hi9 : i < k) (hj9 : j < k) (hk9 : k < 16) (hd : ∀ j : Nat, j < 2 * k → vq (dr j) (d j)) : xMet l yX7_put wsX7_put rm_X7_put G ty b0 [.ref m0, .int (nI k), .int (nI i), .int (nI j), .double u, .double w] H (fun v H1 => (v = some (.int (nI 0)) ∧ pPutBad d i j = true ∧ xRef G ty m0 A th F R pl un co dr bu nb wi hi fc fa lo la px py pz H1 ∧ xRfr m0 A H H1) ∨ (v = some (.int (nI 1)) ∧ pPutBad d i j = false ∧ ∃ dr1 : Nat → UInt64, xRef G ty m0 A th F R pl un co dr1 bu nb wi hi fc fa lo la px py pz H1 ∧ xRfr m0 A H H1 ∧ ∀ q : Nat, q < 2 * k + 2 → vq (dr1 q) (pPutF d k i j eu ew q))) (fun _ _ => False) := by
  refine xbody (cc := cX7_put) (maxL := 18) (ret := (some .boolean)) (C := RX7) (lv := [(0, .ref m0), (1, .int (nI k)), (2, .int (nI i)), (3, .int (nI j)), (4, .double u), (6, .double w)]) (by decide) rfl rfl (Nat.le_of_ble_eq_true rfl) rfl ?_
  intro p e s m below meth c d0 hx hb hr hts hown hlocks hml hxt hnm0 hK hb0 hH0 hS hd0 ls hl
  obtain ⟨y_o, y_0, y_1, y_2, y_3, y_4, y_5, y_6, y_7, y_8, y_9, y_10⟩ := id hY
  obtain ⟨⟨zF2, zF8⟩, ⟨zR2, zR8⟩⟩ := id hZ
  refine lv_aload_n hx hb dX7_put_0 rfl (lv_at hl 0 rfl) ?_
  refine va_get (D := G) (cl := vwCl) (ci := 8) (v := .ref (A 3)) (C := RX7) (T := TX7) (N := 18) hx hb (hts d0) in_X7_put_X7 hown hK.1 (x1 y_o) 0 rfl rfl 6 (by decide) (hts d0 _ hw_X7_put_1) (fun _ h9 => h9) rfl dX7_put_1 ?_
  refine lv_iconst (v := nI 2) hx hb dX7_put_4 (by decide) ?_
  refine lv_iload_n hx hb dX7_put_5 rfl (lv_at hl 3 rfl) ?_
  refine ximulN hx hb dX7_put_6 ?_
  refine xdald (j := 2 * j) hx hb hK.1 0 y_3 rfl (xix_of (by omega) (by omega)) dX7_put_7 ?_
  refine lv_aload_n hx hb dX7_put_8 rfl (lv_at hl 0 rfl) ?_
  refine va_get (D := G) (cl := vwCl) (ci := 8) (v := .ref (A 3)) (C := RX7) (T := TX7) (N := 18) hx hb (hts d0) in_X7_put_X7 hown hK.1 (x1 y_o) 0 rfl rfl 6 (by decide) (hts d0 _ hw_X7_put_1) (fun _ h9 => h9) rfl dX7_put_9 ?_
  refine lv_iconst (v := nI 2) hx hb dX7_put_12 (by decide) ?_
  refine lv_iload_n hx hb dX7_put_13 rfl (lv_at hl 2 rfl) ?_
  refine ximulN hx hb dX7_put_14 ?_
  refine xdald (j := 2 * i) hx hb hK.1 0 y_3 rfl (xix_of (by omega) (by omega)) dX7_put_15 ?_
  refine xdsub hd0 hx hb (hd (2 * j) (by omega)) (hd (2 * i) (by omega)) dX7_put_16 (fun r_1 d0 q_1 hd0 => ?_)
  refine lv_dstore (lv' := [(8, .double r_1), (0, .ref m0), (1, .int (nI k)), (2, .int (nI i)), (3, .int (nI j)), (4, .double u), (6, .double w)]) hx hb dX7_put_17 hl (by decide) rfl (fun ls hl => ?_)
  refine lv_aload_n hx hb dX7_put_19 rfl (lv_at hl 1 rfl) ?_
  refine va_get (D := G) (cl := vwCl) (ci := 8) (v := .ref (A 3)) (C := RX7) (T := TX7) (N := 18) hx hb (hts d0) in_X7_put_X7 hown hK.1 (x1 y_o) 0 rfl rfl 6 (by decide) (hts d0 _ hw_X7_put_1) (fun _ h9 => h9) rfl dX7_put_20 ?_
  refine lv_iconst (v := nI 2) hx hb dX7_put_23 (by decide) ?_
  refine lv_iload_n hx hb dX7_put_24 rfl (lv_at hl 4 rfl) ?_
  refine ximulN hx hb dX7_put_25 ?_
  refine lv_iconst (v := nI 1) hx hb dX7_put_26 (by decide) ?_
  refine xiaddN hx hb dX7_put_27 ?_
  refine xdald (j := (2 * j) + 1) hx hb hK.1 0 y_3 rfl (xix_of (by omega) (by omega)) dX7_put_28 ?_
  refine lv_aload_n hx hb dX7_put_29 rfl (lv_at hl 1 rfl) ?_
  refine va_get (D := G) (cl := vwCl) (ci := 8) (v := .ref (A 3)) (C := RX7) (T := TX7) (N := 18) hx hb (hts d0) in_X7_put_X7 hown hK.1 (x1 y_o) 0 rfl rfl 6 (by decide) (hts d0 _ hw_X7_put_1) (fun _ h9 => h9) rfl dX7_put_30 ?_
  refine lv_iconst (v := nI 2) hx hb dX7_put_33 (by decide) ?_
  refine lv_iload_n hx hb dX7_put_34 rfl (lv_at hl 3 rfl) ?_
  refine ximulN hx hb dX7_put_35 ?_
  refine lv_iconst (v := nI 1) hx hb dX7_put_36 (by decide) ?_
  refine xiaddN hx hb dX7_put_37 ?_
  refine xdald (j := (2 * i) + 1) hx hb hK.1 0 y_3 rfl (xix_of (by omega) (by omega)) dX7_put_38 ?_
  refine xdsub hd0 hx hb (hd ((2 * j) + 1) (by omega)) (hd ((2 * i) + 1) (by omega)) dX7_put_39 (fun r_2 d0 q_2 hd0 => ?_)
  refine lv_dstore (lv' := [(10, .double r_2), (8, .double r_1), (0, .ref m0), (1, .int (nI k)), (2, .int (nI i)), (3, .int (nI j)), (4, .double u), (6, .double w)]) hx hb dX7_put_40 hl (by decide) rfl (fun ls hl => ?_)
  refine lv_dload hx hb dX7_put_42 (lv_at hl 1 rfl) ?_
  refine lv_dload hx hb dX7_put_44 (lv_at hl 0 rfl) ?_
  have cw_3 := va_cwS (R := rm_X7_put) (rm := rm_X7_length) 2 (hts d0) gX7_put_X7_length rfl rfl rfl (by decide +kernel) ⟨Nat.le_of_ble_eq_true rfl, Nat.le_of_ble_eq_true rfl⟩
  refine xcall hd0 (xintoS (As := [.double r_1, .double r_2]) (rest := []) ⟨hx, hb, hml, hown, hts _⟩ cw_3 rfl rfl hl.1 rfl (lv_room (Nat.le_of_ble_eq_true rfl)) dX7_put_46) (c_X7_length (l := l) (G := G) (ty := ty) (b0 := b0) q_1 q_2) (xoweB cw_3.1) hK hb0 hS (Nat.le_of_ble_eq_true rfl) (Nat.le_of_ble_eq_true rfl) (fun E_3 ce_3 q9_3 H_3 locs_3 d0 hd0 hp_3 hS hce_3 hcv_3 hcl_3 => ?_) (fun v_3 H_3 locs_3 d0 hd0 hp_3 hS => ?_)
  · exact hp_3.elim
  · obtain ⟨rfl, r_3, rfl, q_3⟩ := hp_3
    show W p l e _ (s.setDrawn _) m _ below meth c _ _ _ _ _ (F0 m 49 ls [.double r_3])
    refine lv_dstore (lv' := [(12, .double r_3), (10, .double r_2), (8, .double r_1), (0, .ref m0), (1, .int (nI k)), (2, .int (nI i)), (3, .int (nI j)), (4, .double u), (6, .double w)]) hx hb dX7_put_49 hl (by decide) rfl (fun ls hl => ?_)
    refine lv_dload hx hb dX7_put_51 (lv_at hl 0 rfl) ?_
    refine lv_ldc2d hx hb hown (hts d0 _ hw_X7_put_2) dX7_put_53 ?_
    refine xcmp_g_ge (tgt := 62) hx hb q_3 (vq_rf _) dX7_put_56 dX7_put_57 (by decide) (fun c_4 => ?_) (fun c_4 => ?_)
    · refine lv_dload hx hb dX7_put_62 (lv_at hl 7 rfl) ?_
      refine lv_dload hx hb dX7_put_64 (lv_at hl 7 rfl) ?_
      refine xdmul hd0 hx hb hu9 hu9 dX7_put_66 (fun r_5 d0 q_5 hd0 => ?_)
      refine lv_dload hx hb dX7_put_67 (lv_at hl 8 rfl) ?_
      refine lv_dload hx hb dX7_put_69 (lv_at hl 8 rfl) ?_
      refine xdmul hd0 hx hb hw9 hw9 dX7_put_71 (fun r_6 d0 q_6 hd0 => ?_)
      refine xdsub hd0 hx hb q_5 q_6 dX7_put_72 (fun r_7 d0 q_7 hd0 => ?_)
      refine lv_dload hx hb dX7_put_73 (lv_at hl 0 rfl) ?_
      refine lv_dload hx hb dX7_put_75 (lv_at hl 0 rfl) ?_
      refine xdmul hd0 hx hb q_3 q_3 dX7_put_77 (fun r_8 d0 q_8 hd0 => ?_)
      refine xdadd hd0 hx hb q_7 q_8 dX7_put_78 (fun r_9 d0 q_9 hd0 => ?_)
      refine lv_ldc2d hx hb hown (hts d0 _ hw_X7_put_3) dX7_put_79 ?_
      refine lv_dload hx hb dX7_put_82 (lv_at hl 0 rfl) ?_
      refine xdmul hd0 hx hb (vq_rf _) q_3 dX7_put_84 (fun r_10 d0 q_10 hd0 => ?_)
      refine xddiv hd0 hx hb q_9 q_10 dX7_put_85 (fun r_11 d0 q_11 hd0 => ?_)
      refine lv_dstore (lv' := [(14, .double r_11), (12, .double r_3), (10, .double r_2), (8, .double r_1), (0, .ref m0), (1, .int (nI k)), (2, .int (nI i)), (3, .int (nI j)), (4, .double u), (6, .double w)]) hx hb dX7_put_86 hl (by decide) rfl (fun ls hl => ?_)
      refine lv_dload hx hb dX7_put_88 (lv_at hl 8 rfl) ?_
      refine lv_dload hx hb dX7_put_90 (lv_at hl 8 rfl) ?_
      refine xdmul hd0 hx hb hu9 hu9 dX7_put_92 (fun r_12 d0 q_12 hd0 => ?_)
      refine lv_dload hx hb dX7_put_93 (lv_at hl 0 rfl) ?_
      refine lv_dload hx hb dX7_put_95 (lv_at hl 0 rfl) ?_
      refine xdmul hd0 hx hb q_11 q_11 dX7_put_97 (fun r_13 d0 q_13 hd0 => ?_)
      refine xdsub hd0 hx hb q_12 q_13 dX7_put_98 (fun r_14 d0 q_14 hd0 => ?_)
      have cw_15 := va_cwS (R := rm_X7_put) (rm := rm_X7_root) 1 (hts d0) gX7_put_X7_root rfl rfl rfl (by decide +kernel) ⟨Nat.le_of_ble_eq_true rfl, Nat.le_of_ble_eq_true rfl⟩
      refine xcall hd0 (xintoS (As := [.double r_14]) (rest := []) ⟨hx, hb, hml, hown, hts _⟩ cw_15 rfl rfl hl.1 rfl (lv_room (Nat.le_of_ble_eq_true rfl)) dX7_put_99) (c_X7_root (l := l) (G := G) (ty := ty) (b0 := b0) q_14) (xoweB cw_15.1) hK hb0 hS (Nat.le_of_ble_eq_true rfl) (Nat.le_of_ble_eq_true rfl) (fun E_15 ce_15 q9_15 H_15 locs_15 d0 hd0 hp_15 hS hce_15 hcv_15 hcl_15 => ?_) (fun v_15 H_15 locs_15 d0 hd0 hp_15 hS => ?_)
      · exact hp_15.elim
      · obtain ⟨rfl, r_15, rfl, q_15⟩ := hp_15
        show W p l e _ (s.setDrawn _) m _ below meth c _ _ _ _ _ (F0 m 102 ls [.double r_15])
        refine lv_dstore (lv' := [(16, .double r_15), (14, .double r_11), (12, .double r_3), (10, .double r_2), (8, .double r_1), (0, .ref m0), (1, .int (nI k)), (2, .int (nI i)), (3, .int (nI j)), (4, .double u), (6, .double w)]) hx hb dX7_put_102 hl (by decide) rfl (fun ls hl => ?_)
        refine lv_aload_n hx hb dX7_put_104 rfl (lv_at hl 5 rfl) ?_
        refine va_get (D := G) (cl := vwCl) (ci := 8) (v := .ref (A 3)) (C := RX7) (T := TX7) (N := 18) hx hb (hts d0) in_X7_put_X7 hown hK.1 (x1 y_o) 0 rfl rfl 6 (by decide) (hts d0 _ hw_X7_put_1) (fun _ h9 => h9) rfl dX7_put_105 ?_
        refine lv_iconst (v := nI 2) hx hb dX7_put_108 (by decide) ?_
        refine lv_iload_n hx hb dX7_put_109 rfl (lv_at hl 6 rfl) ?_
        refine ximulN hx hb dX7_put_110 ?_
        refine lv_aload_n hx hb dX7_put_111 rfl (lv_at hl 5 rfl) ?_
        refine va_get (D := G) (cl := vwCl) (ci := 8) (v := .ref (A 3)) (C := RX7) (T := TX7) (N := 18) hx hb (hts d0) in_X7_put_X7 hown hK.1 (x1 y_o) 0 rfl rfl 6 (by decide) (hts d0 _ hw_X7_put_1) (fun _ h9 => h9) rfl dX7_put_112 ?_
        refine lv_iconst (v := nI 2) hx hb dX7_put_115 (by decide) ?_
        refine lv_iload_n hx hb dX7_put_116 rfl (lv_at hl 7 rfl) ?_
        refine ximulN hx hb dX7_put_117 ?_
        refine xdald (j := 2 * i) hx hb hK.1 0 y_3 rfl (xix_of (by omega) (by omega)) dX7_put_118 ?_
        refine lv_dload hx hb dX7_put_119 (lv_at hl 1 rfl) ?_
        refine lv_dload hx hb dX7_put_121 (lv_at hl 4 rfl) ?_
        refine xdmul hd0 hx hb q_11 q_1 dX7_put_123 (fun r_16 d0 q_16 hd0 => ?_)
        refine lv_dload hx hb dX7_put_124 (lv_at hl 2 rfl) ?_
        refine xddiv hd0 hx hb q_16 q_3 dX7_put_126 (fun r_17 d0 q_17 hd0 => ?_)
        refine xdadd hd0 hx hb (hd (2 * i) (by omega)) q_17 dX7_put_127 (fun r_18 d0 q_18 hd0 => ?_)
        refine lv_dload hx hb dX7_put_128 (lv_at hl 0 rfl) ?_
        refine lv_dload hx hb dX7_put_130 (lv_at hl 3 rfl) ?_
        refine xdmul hd0 hx hb q_15 q_2 dX7_put_132 (fun r_19 d0 q_19 hd0 => ?_)
        refine lv_dload hx hb dX7_put_133 (lv_at hl 2 rfl) ?_
        refine xddiv hd0 hx hb q_19 q_3 dX7_put_135 (fun r_20 d0 q_20 hd0 => ?_)
        refine xdadd hd0 hx hb q_18 q_20 dX7_put_136 (fun r_21 d0 q_21 hd0 => ?_)
        refine xdastN (s := s.setDrawn d0) (j := 2 * k) (x := r_21) hx hb hK.1 0 y_3 hS (hB.2 3 (by decide)) rfl (xix_of (by omega) (by omega)) dX7_put_137 (fun H_22 locs_22 hs_22 hS => ?_)
        have hc_22 : xc G (A 3) (.inl (ty 0, 32, .inr (.inr (.inr (.inl ((vf_upd dr (2 * k) r_21))))))) H_22 := hs_22.1
        have hc_m0_22 : xc G m0 (.inr (8, [.int (th), .int (nI F), .int (nI R), .ref (A 0), .ref (A 1), .ref (A 2), .ref (A 3), .ref (A 4), .int (nI nb), .ref (A 5), .ref (A 6), .ref (A 7), .ref (A 8), .ref (A 9), .ref (A 10), .double px, .double py, .double pz])) H_22 := y_o.kept (hs_22.2.2 _ (Ne.symm (hA.1 3 (by decide))))
        have hc_A0_22 : xc G (A 0) (.inl (ty 0, 192, .inr (.inr (.inr (.inl pl))))) H_22 := y_0.kept (hs_22.2.2 _ (fun z => absurd (hA.2 0 3 (by decide) (by decide) z) (by decide)))
        have hc_A1_22 : xc G (A 1) (.inl (ty 2, 8, .inl un)) H_22 := y_1.kept (hs_22.2.2 _ (fun z => absurd (hA.2 1 3 (by decide) (by decide) z) (by decide)))
        have hc_A2_22 : xc G (A 2) (.inl (ty 0, 256, .inr (.inr (.inr (.inl co))))) H_22 := y_2.kept (hs_22.2.2 _ (fun z => absurd (hA.2 2 3 (by decide) (by decide) z) (by decide)))
        have hc_A4_22 : xc G (A 4) (.inl (ty 2, 64, .inl bu)) H_22 := y_4.kept (hs_22.2.2 _ (fun z => absurd (hA.2 4 3 (by decide) (by decide) z) (by decide)))
        have hc_A5_22 : xc G (A 5) (.inl (ty 0, 4, .inr (.inr (.inr (.inl wi))))) H_22 := y_5.kept (hs_22.2.2 _ (fun z => absurd (hA.2 5 3 (by decide) (by decide) z) (by decide)))
        have hc_A6_22 : xc G (A 6) (.inl (ty 0, 4, .inr (.inr (.inr (.inl hi))))) H_22 := y_6.kept (hs_22.2.2 _ (fun z => absurd (hA.2 6 3 (by decide) (by decide) z) (by decide)))
        have hc_A7_22 : xc G (A 7) (.inl (ty 1, 4, .inl fc)) H_22 := y_7.kept (hs_22.2.2 _ (fun z => absurd (hA.2 7 3 (by decide) (by decide) z) (by decide)))
        have hc_A8_22 : xc G (A 8) (.inl (ty 0, 128, .inr (.inr (.inr (.inl fa))))) H_22 := y_8.kept (hs_22.2.2 _ (fun z => absurd (hA.2 8 3 (by decide) (by decide) z) (by decide)))
        have hc_A9_22 : xc G (A 9) (.inl (ty 1, 8, .inl lo)) H_22 := y_9.kept (hs_22.2.2 _ (fun z => absurd (hA.2 9 3 (by decide) (by decide) z) (by decide)))
        have hc_A10_22 : xc G (A 10) (.inl (ty 1, 8, .inl la)) H_22 := y_10.kept (hs_22.2.2 _ (fun z => absurd (hA.2 10 3 (by decide) (by decide) z) (by decide)))
        have hfr_22 : xRfr m0 A H H_22 := xRfr.putA xRfr.rf 3 (by decide) hs_22
        refine lv_aload_n hx hb dX7_put_138 rfl (lv_at hl 5 rfl) ?_
        refine va_get (D := G) (cl := vwCl) (ci := 8) (v := .ref (A 3)) (C := RX7) (T := TX7) (N := 18) hx hb (hts d0) in_X7_put_X7 hown hK.1 (x1 hc_m0_22) 0 rfl rfl 6 (by decide) (hts d0 _ hw_X7_put_1) (fun _ h9 => h9) rfl dX7_put_139 ?_
        refine lv_iconst (v := nI 2) hx hb dX7_put_142 (by decide) ?_
        refine lv_iload_n hx hb dX7_put_143 rfl (lv_at hl 6 rfl) ?_
        refine ximulN hx hb dX7_put_144 ?_
        refine lv_iconst (v := nI 1) hx hb dX7_put_145 (by decide) ?_
        refine xiaddN hx hb dX7_put_146 ?_
        refine lv_aload_n hx hb dX7_put_147 rfl (lv_at hl 5 rfl) ?_
        refine va_get (D := G) (cl := vwCl) (ci := 8) (v := .ref (A 3)) (C := RX7) (T := TX7) (N := 18) hx hb (hts d0) in_X7_put_X7 hown hK.1 (x1 hc_m0_22) 0 rfl rfl 6 (by decide) (hts d0 _ hw_X7_put_1) (fun _ h9 => h9) rfl dX7_put_148 ?_
        refine lv_iconst (v := nI 2) hx hb dX7_put_151 (by decide) ?_
        refine lv_iload_n hx hb dX7_put_152 rfl (lv_at hl 7 rfl) ?_
        refine ximulN hx hb dX7_put_153 ?_
        refine lv_iconst (v := nI 1) hx hb dX7_put_154 (by decide) ?_
        refine xiaddN hx hb dX7_put_155 ?_
        refine xdald (j := (2 * i) + 1) hx hb hK.1 0 hc_22 rfl (xix_of (by omega) (by omega)) dX7_put_156 ?_
        refine lv_dload hx hb dX7_put_157 (lv_at hl 1 rfl) ?_
        refine lv_dload hx hb dX7_put_159 (lv_at hl 3 rfl) ?_
        refine xdmul hd0 hx hb q_11 q_2 dX7_put_161 (fun r_23 d0 q_23 hd0 => ?_)
        refine lv_dload hx hb dX7_put_162 (lv_at hl 2 rfl) ?_
        refine xddiv hd0 hx hb q_23 q_3 dX7_put_164 (fun r_24 d0 q_24 hd0 => ?_)
        refine xdadd hd0 hx hb (vq_vfne (by omega) (hd ((2 * i) + 1) (by omega))) q_24 dX7_put_165 (fun r_25 d0 q_25 hd0 => ?_)
        refine lv_dload hx hb dX7_put_166 (lv_at hl 0 rfl) ?_
        refine lv_dload hx hb dX7_put_168 (lv_at hl 4 rfl) ?_
        refine xdmul hd0 hx hb q_15 q_1 dX7_put_170 (fun r_26 d0 q_26 hd0 => ?_)
        refine lv_dload hx hb dX7_put_171 (lv_at hl 2 rfl) ?_
        refine xddiv hd0 hx hb q_26 q_3 dX7_put_173 (fun r_27 d0 q_27 hd0 => ?_)
        refine xdsub hd0 hx hb q_25 q_27 dX7_put_174 (fun r_28 d0 q_28 hd0 => ?_)
        refine xdastN (s := s.setDrawn d0) (j := (2 * k) + 1) (x := r_28) hx hb hK.1 0 hc_22 hS (hB.2 3 (by decide)) rfl (xix_of (by omega) (by omega)) dX7_put_175 (fun H_29 locs_29 hs_29 hS => ?_)
        have hc_29 : xc G (A 3) (.inl (ty 0, 32, .inr (.inr (.inr (.inl ((vf_upd (vf_upd dr (2 * k) r_21) ((2 * k) + 1) r_28))))))) H_29 := hs_29.1
        have hc_m0_29 : xc G m0 (.inr (8, [.int (th), .int (nI F), .int (nI R), .ref (A 0), .ref (A 1), .ref (A 2), .ref (A 3), .ref (A 4), .int (nI nb), .ref (A 5), .ref (A 6), .ref (A 7), .ref (A 8), .ref (A 9), .ref (A 10), .double px, .double py, .double pz])) H_29 := hc_m0_22.kept (hs_29.2.2 _ (Ne.symm (hA.1 3 (by decide))))
        have hc_A0_29 : xc G (A 0) (.inl (ty 0, 192, .inr (.inr (.inr (.inl pl))))) H_29 := hc_A0_22.kept (hs_29.2.2 _ (fun z => absurd (hA.2 0 3 (by decide) (by decide) z) (by decide)))
        have hc_A1_29 : xc G (A 1) (.inl (ty 2, 8, .inl un)) H_29 := hc_A1_22.kept (hs_29.2.2 _ (fun z => absurd (hA.2 1 3 (by decide) (by decide) z) (by decide)))
        have hc_A2_29 : xc G (A 2) (.inl (ty 0, 256, .inr (.inr (.inr (.inl co))))) H_29 := hc_A2_22.kept (hs_29.2.2 _ (fun z => absurd (hA.2 2 3 (by decide) (by decide) z) (by decide)))
        have hc_A4_29 : xc G (A 4) (.inl (ty 2, 64, .inl bu)) H_29 := hc_A4_22.kept (hs_29.2.2 _ (fun z => absurd (hA.2 4 3 (by decide) (by decide) z) (by decide)))
        have hc_A5_29 : xc G (A 5) (.inl (ty 0, 4, .inr (.inr (.inr (.inl wi))))) H_29 := hc_A5_22.kept (hs_29.2.2 _ (fun z => absurd (hA.2 5 3 (by decide) (by decide) z) (by decide)))
        have hc_A6_29 : xc G (A 6) (.inl (ty 0, 4, .inr (.inr (.inr (.inl hi))))) H_29 := hc_A6_22.kept (hs_29.2.2 _ (fun z => absurd (hA.2 6 3 (by decide) (by decide) z) (by decide)))
        have hc_A7_29 : xc G (A 7) (.inl (ty 1, 4, .inl fc)) H_29 := hc_A7_22.kept (hs_29.2.2 _ (fun z => absurd (hA.2 7 3 (by decide) (by decide) z) (by decide)))
        have hc_A8_29 : xc G (A 8) (.inl (ty 0, 128, .inr (.inr (.inr (.inl fa))))) H_29 := hc_A8_22.kept (hs_29.2.2 _ (fun z => absurd (hA.2 8 3 (by decide) (by decide) z) (by decide)))
        have hc_A9_29 : xc G (A 9) (.inl (ty 1, 8, .inl lo)) H_29 := hc_A9_22.kept (hs_29.2.2 _ (fun z => absurd (hA.2 9 3 (by decide) (by decide) z) (by decide)))
        have hc_A10_29 : xc G (A 10) (.inl (ty 1, 8, .inl la)) H_29 := hc_A10_22.kept (hs_29.2.2 _ (fun z => absurd (hA.2 10 3 (by decide) (by decide) z) (by decide)))
        have hfr_29 : xRfr m0 A H H_29 := xRfr.putA hfr_22 3 (by decide) hs_29
        refine lv_iconst (v := nI 1) hx hb dX7_put_176 (by decide) ?_
        exact xzret (by decide) hd0 hx hb hr hlocks hS (Nat.le_of_ble_eq_true rfl) (Nat.le_of_ble_eq_true rfl) dX7_put_177 (Or.inr ⟨rfl, c_4, _, ⟨hc_m0_29, hc_A0_29, hc_A1_29, hc_A2_29, hc_29, hc_A4_29, hc_A5_29, hc_A6_29, hc_A7_29, hc_A8_29, hc_A9_29, hc_A10_29⟩, hfr_29, pPutF_ok hd q_21 q_28⟩)
    · refine lv_iconst (v := nI 0) hx hb dX7_put_60 (by decide) ?_
      exact xzret (by decide) hd0 hx hb hr hlocks hS (Nat.le_of_ble_eq_true rfl) (Nat.le_of_ble_eq_true rfl) dX7_put_61 (Or.inl ⟨rfl, c_4, ⟨y_o, y_0, y_1, y_2, y_3, y_4, y_5, y_6, y_7, y_8, y_9, y_10⟩, xRfr.rf⟩)
