/-! THE CLASS: what is asked and told (2). -/
def pBevC (a b c d e f : UInt64) : UInt64 := if xeq (pRoot (pDo3 a b c a b c)) FP.dconst0 = true ∨ xeq (pRoot (pDo3 d e f d e f)) FP.dconst0 = true then FP.dconst1 else FP.ddiv (pDo3 a b c d e f) (FP.dmul (pRoot (pDo3 a b c a b c)) (pRoot (pDo3 d e f d e f)))
/-- BEVEL as the class reckons it -/
def pBevelC (pl : Nat → UInt64) (x f : Nat) : UInt64 := pBevC (pCro pl f x f (x + 1) (f + 1) x 1 2) (pCro pl f x f (x + 1) (f + 1) x 2 0) (pCro pl f x f (x + 1) (f + 1) x 0 1) (pCro pl f (x + 1) (f + 1) (x + 1) (f + 1) x 1 2) (pCro pl f (x + 1) (f + 1) (x + 1) (f + 1) x 2 0) (pCro pl f (x + 1) (f + 1) (x + 1) (f + 1) x 0 1)
theorem pBevC_1 {a b c d e f : UInt64} (h : xeq (pRoot (pDo3 a b c a b c)) FP.dconst0 = true) : vq FP.dconst1 (pBevC a b c d e f) := by unfold pBevC; rw [if_pos (Or.inl h)]
theorem pBevC_2 {a b c d e f : UInt64} (h : xeq (pRoot (pDo3 d e f d e f)) FP.dconst0 = true) : vq FP.dconst1 (pBevC a b c d e f) := by unfold pBevC; rw [if_pos (Or.inr h)]
theorem pBevC_3 {a b c d e f x : UInt64} (h : xeq (pRoot (pDo3 a b c a b c)) FP.dconst0 = false) (h2 : xeq (pRoot (pDo3 d e f d e f)) FP.dconst0 = false) (hx : vq x (FP.ddiv (pDo3 a b c d e f) (FP.dmul (pRoot (pDo3 a b c a b c)) (pRoot (pDo3 d e f d e f))))) : vq x (pBevC a b c d e f) := by
  unfold pBevC
  rw [if_neg (fun z => z.elim (fun y => xtf y h) (fun y => xtf y h2))]
  exact hx
theorem nI_le0 {k : Nat} (hk : k < 2 ^ 30) (h : nI k ≤ 0) : k = 0 := by
  rcases Nat.eq_zero_or_pos k with e | e
  · exact e
  · exact absurd h (nI_nle e (by omega))
theorem nI_gt0 {k : Nat} (h : ¬ nI k ≤ 0) : 1 ≤ k := by
  rcases Nat.eq_zero_or_pos k with e | e
  · subst e; exact absurd (by decide) h
  · exact e
/-- a strip and the one before it keep a span -/
def pSpC (bu : Nat → Int32) (F n j : Nat) : Prop := pKeeps bu F j j (2 * n) ∧ (j = 0 ∨ pKeeps bu F (j - 1) j n)
theorem spc_s {bu : Nat → Int32} {F n k : Nat} (h : ∀ j : Nat, j < k → pSpC bu F n j) (h2 : pSpC bu F n k) : ∀ j : Nat, j < k + 1 → pSpC bu F n j := by
  intro j hj
  by_cases e : j = k
  · subst e; exact h2
  · exact h j (by omega)
set_option maxRecDepth 20000 in
theorem ggX6_bevel_X6_stripAt : GoodIn wsX6_bevel wsX6_stripAt := goodIn_ca (goodIn_r _ [10, 11, 12, 13, 48, 49, 50, 51, 52, 53] (by decide +kernel) (by decide +kernel)) (goodIn_sub (fun _ h => List.mem_cons_of_mem _ (List.mem_append_right _ h)) (by decide +kernel))
set_option maxRecDepth 20000 in
theorem gX6_bevel_X6_stripAt : GoodIn wsX6_bevel (wsV RX6 90 RX6 yX6_stripAt wsX6_stripAt) := goodIn_app (goodIn_of _ (by decide +kernel)) ggX6_bevel_X6_stripAt
set_option maxRecDepth 20000 in
theorem ggX6_bevel_X6_checkCell : GoodIn wsX6_bevel wsX6_checkCell := goodIn_ca (goodIn_r _ [17, 11, 12, 18, 48, 49, 50, 51, 52, 53] (by decide +kernel) (by decide +kernel)) (goodIn_sub (fun _ h => List.mem_cons_of_mem _ (List.mem_append_right _ h)) (by decide +kernel))
set_option maxRecDepth 20000 in
theorem gX6_bevel_X6_checkCell : GoodIn wsX6_bevel (wsV RX6 125 RX6 yX6_checkCell wsX6_checkCell) := goodIn_app (goodIn_of _ (by decide +kernel)) ggX6_bevel_X6_checkCell
set_option maxRecDepth 20000 in
theorem ggX6_bevel_X2_cross : GoodIn wsX6_bevel wsX2_cross := goodIn_r _ [23, 24, 25, 26, 27, 28, 29, 54, 55, 56, 57, 58, 59] (by decide +kernel) (by decide +kernel)
set_option maxRecDepth 20000 in
theorem gX6_bevel_X2_cross : GoodIn wsX6_bevel (wsV RX6 147 RX2 yX2_cross wsX2_cross) := goodIn_app (goodIn_of _ (by decide +kernel)) ggX6_bevel_X2_cross
set_option maxRecDepth 20000 in
theorem ggX6_bevel_X2_times : GoodIn wsX6_bevel wsX2_times := goodIn_r _ [33, 27, 28, 29, 57, 58, 59] (by decide +kernel) (by decide +kernel)
set_option maxRecDepth 20000 in
theorem gX6_bevel_X2_times : GoodIn wsX6_bevel (wsV RX6 151 RX2 yX2_times wsX2_times) := goodIn_app (goodIn_of _ (by decide +kernel)) ggX6_bevel_X2_times
set_option maxRecDepth 20000 in
theorem ggX6_bevel_X6_root : GoodIn wsX6_bevel wsX6_root := goodIn_r _ [36, 37] (by decide +kernel) (by decide +kernel)
set_option maxRecDepth 20000 in
theorem gX6_bevel_X6_root : GoodIn wsX6_bevel (va_wsS RX6 155 yX6_root wsX6_root) := goodIn_app (goodIn_of _ (by decide +kernel)) ggX6_bevel_X6_root
theorem dX6_bevel_0 : decode cX6_bevel 0 = .ok (.aload_n 0, 1) := by decide +kernel
theorem dX6_bevel_1 : decode cX6_bevel 1 = .ok (.iload_n 1, 1) := by decide +kernel
theorem dX6_bevel_2 : decode cX6_bevel 2 = .ok (.invokevirtual 90, 3) := by decide +kernel
theorem dX6_bevel_5 : decode cX6_bevel 5 = .ok (.astore_n 3, 1) := by decide +kernel
theorem dX6_bevel_6 : decode cX6_bevel 6 = .ok (.aload_n 0, 1) := by decide +kernel
theorem dX6_bevel_7 : decode cX6_bevel 7 = .ok (.iload_n 2, 1) := by decide +kernel
theorem dX6_bevel_8 : decode cX6_bevel 8 = .ok (.invokevirtual 125, 3) := by decide +kernel
theorem dX6_bevel_11 : decode cX6_bevel 11 = .ok (.aload_n 3, 1) := by decide +kernel
theorem dX6_bevel_12 : decode cX6_bevel 12 = .ok (.getfield 136, 3) := by decide +kernel
theorem dX6_bevel_15 : decode cX6_bevel 15 = .ok (.getfield 140, 3) := by decide +kernel
theorem dX6_bevel_18 : decode cX6_bevel 18 = .ok (.astore 4, 2) := by decide +kernel
theorem dX6_bevel_20 : decode cX6_bevel 20 = .ok (.aload_n 3, 1) := by decide +kernel
theorem dX6_bevel_21 : decode cX6_bevel 21 = .ok (.getfield 144, 3) := by decide +kernel
theorem dX6_bevel_24 : decode cX6_bevel 24 = .ok (.getfield 140, 3) := by decide +kernel
theorem dX6_bevel_27 : decode cX6_bevel 27 = .ok (.astore 5, 2) := by decide +kernel
theorem dX6_bevel_29 : decode cX6_bevel 29 = .ok (.aload_n 0, 1) := by decide +kernel
theorem dX6_bevel_30 : decode cX6_bevel 30 = .ok (.getfield 45, 3) := by decide +kernel
theorem dX6_bevel_33 : decode cX6_bevel 33 = .ok (.aload 4, 2) := by decide +kernel
theorem dX6_bevel_35 : decode cX6_bevel 35 = .ok (.iload_n 2, 1) := by decide +kernel
theorem dX6_bevel_36 : decode cX6_bevel 36 = .ok (.aaload, 1) := by decide +kernel
theorem dX6_bevel_37 : decode cX6_bevel 37 = .ok (.aload 5, 2) := by decide +kernel
theorem dX6_bevel_39 : decode cX6_bevel 39 = .ok (.iload_n 2, 1) := by decide +kernel
theorem dX6_bevel_40 : decode cX6_bevel 40 = .ok (.aaload, 1) := by decide +kernel
theorem dX6_bevel_41 : decode cX6_bevel 41 = .ok (.aload 4, 2) := by decide +kernel
theorem dX6_bevel_43 : decode cX6_bevel 43 = .ok (.iload_n 2, 1) := by decide +kernel
theorem dX6_bevel_44 : decode cX6_bevel 44 = .ok (.iconst 1, 1) := by decide +kernel
theorem dX6_bevel_45 : decode cX6_bevel 45 = .ok (.iadd, 1) := by decide +kernel
theorem dX6_bevel_46 : decode cX6_bevel 46 = .ok (.aaload, 1) := by decide +kernel
theorem dX6_bevel_47 : decode cX6_bevel 47 = .ok (.invokevirtual 147, 3) := by decide +kernel
theorem dX6_bevel_50 : decode cX6_bevel 50 = .ok (.aload_n 0, 1) := by decide +kernel
theorem dX6_bevel_51 : decode cX6_bevel 51 = .ok (.getfield 49, 3) := by decide +kernel
theorem dX6_bevel_54 : decode cX6_bevel 54 = .ok (.aload 5, 2) := by decide +kernel
theorem dX6_bevel_56 : decode cX6_bevel 56 = .ok (.iload_n 2, 1) := by decide +kernel
theorem dX6_bevel_57 : decode cX6_bevel 57 = .ok (.aaload, 1) := by decide +kernel
theorem dX6_bevel_58 : decode cX6_bevel 58 = .ok (.aload 5, 2) := by decide +kernel
theorem dX6_bevel_60 : decode cX6_bevel 60 = .ok (.iload_n 2, 1) := by decide +kernel
theorem dX6_bevel_61 : decode cX6_bevel 61 = .ok (.iconst 1, 1) := by decide +kernel
theorem dX6_bevel_62 : decode cX6_bevel 62 = .ok (.iadd, 1) := by decide +kernel
theorem dX6_bevel_63 : decode cX6_bevel 63 = .ok (.aaload, 1) := by decide +kernel
theorem dX6_bevel_64 : decode cX6_bevel 64 = .ok (.aload 4, 2) := by decide +kernel
theorem dX6_bevel_66 : decode cX6_bevel 66 = .ok (.iload_n 2, 1) := by decide +kernel
theorem dX6_bevel_67 : decode cX6_bevel 67 = .ok (.iconst 1, 1) := by decide +kernel
theorem dX6_bevel_68 : decode cX6_bevel 68 = .ok (.iadd, 1) := by decide +kernel
theorem dX6_bevel_69 : decode cX6_bevel 69 = .ok (.aaload, 1) := by decide +kernel
theorem dX6_bevel_70 : decode cX6_bevel 70 = .ok (.invokevirtual 147, 3) := by decide +kernel
theorem dX6_bevel_73 : decode cX6_bevel 73 = .ok (.aload_n 0, 1) := by decide +kernel
theorem dX6_bevel_74 : decode cX6_bevel 74 = .ok (.getfield 45, 3) := by decide +kernel
theorem dX6_bevel_77 : decode cX6_bevel 77 = .ok (.aload_n 0, 1) := by decide +kernel
theorem dX6_bevel_78 : decode cX6_bevel 78 = .ok (.getfield 45, 3) := by decide +kernel
theorem dX6_bevel_81 : decode cX6_bevel 81 = .ok (.invokevirtual 151, 3) := by decide +kernel
theorem dX6_bevel_84 : decode cX6_bevel 84 = .ok (.invokestatic 155, 3) := by decide +kernel
theorem dX6_bevel_87 : decode cX6_bevel 87 = .ok (.dstore 6, 2) := by decide +kernel
theorem dX6_bevel_89 : decode cX6_bevel 89 = .ok (.aload_n 0, 1) := by decide +kernel
theorem dX6_bevel_90 : decode cX6_bevel 90 = .ok (.getfield 49, 3) := by decide +kernel
theorem dX6_bevel_93 : decode cX6_bevel 93 = .ok (.aload_n 0, 1) := by decide +kernel
theorem dX6_bevel_94 : decode cX6_bevel 94 = .ok (.getfield 49, 3) := by decide +kernel
theorem dX6_bevel_97 : decode cX6_bevel 97 = .ok (.invokevirtual 151, 3) := by decide +kernel
theorem dX6_bevel_100 : decode cX6_bevel 100 = .ok (.invokestatic 155, 3) := by decide +kernel
theorem dX6_bevel_103 : decode cX6_bevel 103 = .ok (.dstore 8, 2) := by decide +kernel
theorem dX6_bevel_105 : decode cX6_bevel 105 = .ok (.dload 6, 2) := by decide +kernel
theorem dX6_bevel_107 : decode cX6_bevel 107 = .ok (.dconst 0, 1) := by decide +kernel
theorem dX6_bevel_108 : decode cX6_bevel 108 = .ok (.dcmp .l, 1) := by decide +kernel
theorem dX6_bevel_109 : decode cX6_bevel 109 = .ok (.ifCond .eq 10, 3) := by decide +kernel
theorem dX6_bevel_112 : decode cX6_bevel 112 = .ok (.dload 8, 2) := by decide +kernel
theorem dX6_bevel_114 : decode cX6_bevel 114 = .ok (.dconst 0, 1) := by decide +kernel
theorem dX6_bevel_115 : decode cX6_bevel 115 = .ok (.dcmp .l, 1) := by decide +kernel
theorem dX6_bevel_116 : decode cX6_bevel 116 = .ok (.ifCond .ne 5, 3) := by decide +kernel
theorem dX6_bevel_119 : decode cX6_bevel 119 = .ok (.dconst 1, 1) := by decide +kernel
theorem dX6_bevel_120 : decode cX6_bevel 120 = .ok (.dreturn, 1) := by decide +kernel
theorem dX6_bevel_121 : decode cX6_bevel 121 = .ok (.aload_n 0, 1) := by decide +kernel
theorem dX6_bevel_122 : decode cX6_bevel 122 = .ok (.getfield 45, 3) := by decide +kernel
theorem dX6_bevel_125 : decode cX6_bevel 125 = .ok (.aload_n 0, 1) := by decide +kernel
theorem dX6_bevel_126 : decode cX6_bevel 126 = .ok (.getfield 49, 3) := by decide +kernel
theorem dX6_bevel_129 : decode cX6_bevel 129 = .ok (.invokevirtual 151, 3) := by decide +kernel
theorem dX6_bevel_132 : decode cX6_bevel 132 = .ok (.dload 6, 2) := by decide +kernel
theorem dX6_bevel_134 : decode cX6_bevel 134 = .ok (.dload 8, 2) := by decide +kernel
theorem dX6_bevel_136 : decode cX6_bevel 136 = .ok (.dmul, 1) := by decide +kernel
theorem dX6_bevel_137 : decode cX6_bevel 137 = .ok (.ddiv, 1) := by decide +kernel
theorem dX6_bevel_138 : decode cX6_bevel 138 = .ok (.dreturn, 1) := by decide +kernel
abbrev rm_X6_bevel : Room := { frames := 10, cells := 20, slots := 150, locals := 400 }
theorem hw_X6_bevel_1 : (Cond.fieldLink RX6 136 "PlankUnroll$Strip" "a" "LPlankUnroll$Row;") ∈ wsX6_bevel := List.mem_of_getElem? (i := 1) rfl
theorem hw_X6_bevel_2 : (Cond.fieldLink RX6 140 "PlankUnroll$Row" "places" "[LPlankUnroll$Place;") ∈ wsX6_bevel := List.mem_of_getElem? (i := 2) rfl
theorem hw_X6_bevel_3 : (Cond.fieldLink RX6 144 "PlankUnroll$Strip" "b" "LPlankUnroll$Row;") ∈ wsX6_bevel := List.mem_of_getElem? (i := 3) rfl
theorem hw_X6_bevel_4 : (Cond.fieldLink RX6 45 "PlankUnroll" "nea\x72" "LPlankUnroll$Normal;") ∈ wsX6_bevel := List.mem_of_getElem? (i := 4) rfl
theorem hw_X6_bevel_5 : (Cond.fieldLink RX6 49 "PlankUnroll" "fa\x72" "LPlankUnroll$Normal;") ∈ wsX6_bevel := List.mem_of_getElem? (i := 5) rfl
theorem in_X6_bevel_X4 : ∀ w ∈ wsX40, w ∈ wsX6_bevel := by decide +kernel
theorem in_X6_bevel_X5 : ∀ w ∈ wsX50, w ∈ wsX6_bevel := by decide +kernel
theorem in_X6_bevel_X6 : ∀ w ∈ wsX60, w ∈ wsX6_bevel := by decide +kernel
set_option maxHeartbeats 4000000 in
set_option maxRecDepth 100000 in
/-- bevel -/
theorem c_X6_bevel {l : Launch} {G : va_G} {ty : Nat → ClassId} {b0 : Nat} {H : Heap} (hfl : l.stackTraces = false) {ad : Nat → Nat} {F R nb : Nat} {pl wi hi fa : Nat → UInt64} {un bu lo la : Nat → Int32} {cx cy bx : Nat → Nat → UInt64} {nf : Nat → Nat} {K0 : Heap} (hX : xCla G ty ad F R pl un cx cy bu nb wi hi nf fa lo la bx K0 H) (hW : xWf F R nb nf ad b0) {x f : Int32} : xMet l yX6_bevel wsX6_bevel rm_X6_bevel G ty b0 [.ref (ad 0), .int (x), .int (f)] H (fun v H1 => (vp_in x (R - 1) ∧ vp_in f (F - 1)) ∧ xCla G ty ad F R pl un cx cy bu nb wi hi nf fa lo la bx K0 H1 ∧ ∃ z9 : UInt64, v = some (.double z9) ∧ vq z9 (pBevelC pl x.toNatClampNeg f.toNatClampNeg)) (fun E H1 => E = "java/lang/IndexOutOfBoundsException" ∧ ¬ (vp_in x (R - 1) ∧ vp_in f (F - 1)) ∧ xext H H1) := by
  refine xbody (cc := cX6_bevel) (maxL := 10) (ret := (some .double)) (C := RX6) (lv := [(0, .ref (ad 0)), (1, .int (x)), (2, .int (f))]) (by decide) rfl rfl (Nat.le_of_ble_eq_true rfl) rfl ?_
  intro p e s m below meth c d0 hx hb hr hts hown hlocks hml hxt hnm0 hK hb0 hH0 hS hd0 ls hl
  obtain ⟨⟨zF2, zF8⟩, ⟨zR2, zR8⟩⟩ := id hW.1
  have zB4 := hW.2.1
  refine lv_aload_n hx hb dX6_bevel_0 rfl (lv_at hl 0 rfl) ?_
  refine lv_iload_n hx hb dX6_bevel_1 rfl (lv_at hl 1 rfl) ?_
  have cw_1 := cwV (R := rm_X6_bevel) (rm := rm_X6_stripAt) 1 (hts d0) gX6_bevel_X6_stripAt rfl rfl rfl (by decide +kernel) ⟨Nat.le_of_ble_eq_true rfl, Nat.le_of_ble_eq_true rfl⟩
  refine xcall hd0 (xintoV (b := (ad 0)) (As := [.int (x)]) (rest := []) ⟨hx, hb, hml, hown, hts _⟩ cw_1 (va_recv hK.1 (x1 (hX.o_)) (ci := 7) (q0 := 0) rfl rfl) rfl rfl hl.1 rfl (lv_room (Nat.le_of_ble_eq_true rfl)) dX6_bevel_2) (c_X6_stripAt (l := l) (G := G) (ty := ty) (b0 := b0) hfl hX hW (x := x)) (xoweB cw_1.1) hK hb0 hS (Nat.le_of_ble_eq_true rfl) (Nat.le_of_ble_eq_true rfl) (fun E_1 ce_1 q9_1 H_1 locs_1 d0 hd0 hp_1 hS hce_1 hcv_1 hcl_1 => ?_) (fun v_1 H_1 locs_1 d0 hd0 hp_1 hS => ?_)
  · exact xout hd0 hxt hlocks hce_1 hcv_1 hcl_1 hS (Nat.le_of_ble_eq_true rfl) (Nat.le_of_ble_eq_true rfl) ⟨hp_1.1, fun z => hp_1.2.1 z.1, hp_1.2.2⟩
  · obtain ⟨rfl, z_x, hv_1⟩ := hp_1
    obtain ⟨x9, hx9, ex9⟩ := vp_in_of z_x (by omega)
    subst ex9
    rw [nN_nI (show x9 < 2 ^ 31 by omega)] at hv_1
    subst hv_1
    show W p l e _ (s.setDrawn _) m _ below meth c _ _ _ _ _ (F0 m 5 ls [.ref (ad (30 + x9))])
    refine lv_astore_n (lv' := [(3, .ref (ad (30 + x9))), (0, .ref (ad 0)), (1, .int (nI x9)), (2, .int (f))]) hx hb dX6_bevel_5 rfl hl (by decide) rfl (fun ls hl => ?_)
    refine lv_aload_n hx hb dX6_bevel_6 rfl (lv_at hl 1 rfl) ?_
    refine lv_iload_n hx hb dX6_bevel_7 rfl (lv_at hl 3 rfl) ?_
    have cw_2 := cwV (R := rm_X6_bevel) (rm := rm_X6_checkCell) 1 (hts d0) gX6_bevel_X6_checkCell rfl rfl rfl (by decide +kernel) ⟨Nat.le_of_ble_eq_true rfl, Nat.le_of_ble_eq_true rfl⟩
    refine xcall hd0 (xintoV (b := (ad 0)) (As := [.int (f)]) (rest := []) ⟨hx, hb, hml, hown, hts _⟩ cw_2 (va_recv hK.1 (x1 (hX.o_)) (ci := 7) (q0 := 0) rfl rfl) rfl rfl hl.1 rfl (lv_room (Nat.le_of_ble_eq_true rfl)) dX6_bevel_8) (c_X6_checkCell (l := l) (G := G) (ty := ty) (b0 := b0) hfl hX hW (f := f)) (xoweB cw_2.1) hK hb0 hS (Nat.le_of_ble_eq_true rfl) (Nat.le_of_ble_eq_true rfl) (fun E_2 ce_2 q9_2 H_2 locs_2 d0 hd0 hp_2 hS hce_2 hcv_2 hcl_2 => ?_) (fun v_2 H_2 locs_2 d0 hd0 hp_2 hS => ?_)
    · exact xout hd0 hxt hlocks hce_2 hcv_2 hcl_2 hS (Nat.le_of_ble_eq_true rfl) (Nat.le_of_ble_eq_true rfl) ⟨hp_2.1, fun z => hp_2.2.1 z.2, hp_2.2.2⟩
    · obtain ⟨rfl, rfl, z_f⟩ := hp_2
      obtain ⟨f9, hf9, ef9⟩ := vp_in_of z_f (by omega)
      subst ef9
      show W p l e _ (s.setDrawn _) m _ below meth c _ _ _ _ _ (F0 m 11 ls [])
      obtain ⟨u_4, v_4, w_4, hn_4⟩ := hX.near_
      obtain ⟨u_5, v_5, w_5, hn_5⟩ := hX.far_
      refine lv_aload_n hx hb dX6_bevel_11 rfl (lv_at hl 0 rfl) ?_
      refine va_get (D := G) (cl := vwCl) (ci := 6) (v := .ref (ad (10 + x9))) (C := RX5) (T := TX5) (N := 9) hx hb (hts d0) in_X6_bevel_X5 hown hK.1 (x1 (hX.strip_ _ (by omega))) 0 rfl rfl 0 (by decide) (hts d0 _ hw_X6_bevel_1) (fun _ h9 => h9) rfl dX6_bevel_12 ?_
      refine va_get (D := G) (cl := vwCl) (ci := 5) (v := .ref (ad (20 + x9))) (C := RX4) (T := TX4) (N := 1) hx hb (hts d0) in_X6_bevel_X4 hown hK.1 (x1 (hX.row_ _ (by omega))) 0 rfl rfl 0 (by decide) (hts d0 _ hw_X6_bevel_2) (fun _ h9 => h9) rfl dX6_bevel_15 ?_
      refine lv_astore (lv' := [(4, .ref (ad (20 + x9))), (3, .ref (ad (30 + x9))), (0, .ref (ad 0)), (1, .int (nI x9)), (2, .int (nI f9))]) hx hb dX6_bevel_18 hl (by decide) rfl (fun ls hl => ?_)
      refine lv_aload_n hx hb dX6_bevel_20 rfl (lv_at hl 1 rfl) ?_
      refine va_get (D := G) (cl := vwCl) (ci := 6) (v := .ref (ad (10 + (x9 + 1)))) (C := RX5) (T := TX5) (N := 9) hx hb (hts d0) in_X6_bevel_X5 hown hK.1 (x1 (hX.strip_ _ (by omega))) 0 rfl rfl 1 (by decide) (hts d0 _ hw_X6_bevel_3) (fun _ h9 => h9) rfl dX6_bevel_21 ?_
      refine va_get (D := G) (cl := vwCl) (ci := 5) (v := .ref (ad (20 + (x9 + 1)))) (C := RX4) (T := TX4) (N := 1) hx hb (hts d0) in_X6_bevel_X4 hown hK.1 (x1 (hX.row_ _ (by omega))) 0 rfl rfl 0 (by decide) (hts d0 _ hw_X6_bevel_2) (fun _ h9 => h9) rfl dX6_bevel_24 ?_
      refine lv_astore (lv' := [(5, .ref (ad (20 + (x9 + 1)))), (4, .ref (ad (20 + x9))), (3, .ref (ad (30 + x9))), (0, .ref (ad 0)), (1, .int (nI x9)), (2, .int (nI f9))]) hx hb dX6_bevel_27 hl (by decide) rfl (fun ls hl => ?_)
      refine lv_aload_n hx hb dX6_bevel_29 rfl (lv_at hl 3 rfl) ?_
      refine va_get (D := G) (cl := vwCl) (ci := 7) (v := .ref (ad 4)) (C := RX6) (T := TX6) (N := 6) hx hb (hts d0) in_X6_bevel_X6 hown hK.1 (x1 (hX.o_)) 0 rfl rfl 4 (by decide) (hts d0 _ hw_X6_bevel_4) (fun _ h9 => h9) rfl dX6_bevel_30 ?_
      refine lv_aload hx hb dX6_bevel_33 (lv_at hl 1 rfl) ?_
      refine lv_iload_n hx hb dX6_bevel_35 rfl (lv_at hl 5 rfl) ?_
      refine xaald (j := f9) hx hb hK.1 4 (hX.parr_ _ (by omega)) rfl (xix_of (by omega) (by omega)) rfl dX6_bevel_36 ?_
      refine lv_aload hx hb dX6_bevel_37 (lv_at hl 0 rfl) ?_
      refine lv_iload_n hx hb dX6_bevel_39 rfl (lv_at hl 5 rfl) ?_
      refine xaald (j := f9) hx hb hK.1 4 (hX.parr_ _ (by omega)) rfl (xix_of (by omega) (by omega)) rfl dX6_bevel_40 ?_
      refine lv_aload hx hb dX6_bevel_41 (lv_at hl 1 rfl) ?_
      refine lv_iload_n hx hb dX6_bevel_43 rfl (lv_at hl 5 rfl) ?_
      refine lv_iconst (v := nI 1) hx hb dX6_bevel_44 (by decide) ?_
      refine xiaddN hx hb dX6_bevel_45 ?_
      refine xaald (j := f9 + 1) hx hb hK.1 4 (hX.parr_ _ (by omega)) rfl (xix_of (by omega) (by omega)) rfl dX6_bevel_46 ?_
      have cw_3 := cwV (R := rm_X6_bevel) (rm := rm_X2_cross) 3 (hts d0) gX6_bevel_X2_cross rfl rfl rfl (by decide +kernel) ⟨Nat.le_of_ble_eq_true rfl, Nat.le_of_ble_eq_true rfl⟩
      refine xcall hd0 (xintoV (b := (ad 4)) (As := [.ref (ad (100 + 8 * x9 + f9)), .ref (ad (100 + 8 * (x9 + 1) + f9)), .ref (ad (100 + 8 * x9 + (f9 + 1)))]) (rest := []) ⟨hx, hb, hml, hown, hts _⟩ cw_3 (va_recv hK.1 (x1 hn_4) (ci := 3) (q0 := 0) rfl rfl) rfl rfl hl.1 rfl (lv_room (Nat.le_of_ble_eq_true rfl)) dX6_bevel_47) (c_X2_cross (l := l) (G := G) (ty := ty) (b0 := b0) (hW.2.2.2.1 _ (xU_6 (by decide))) hn_4 (hX.place_ _ (by omega) _ (by omega)) (hX.place_ _ (by omega) _ (by omega)) (hX.place_ _ (by omega) _ (by omega)) (fun z => absurd (hW.2.2.2.2 _ _ (xU_place (by omega) (by omega)) (xU_6 (by decide)) z) (by omega)) (fun z => absurd (hW.2.2.2.2 _ _ (xU_place (by omega) (by omega)) (xU_6 (by decide)) z) (by omega)) (fun z => absurd (hW.2.2.2.2 _ _ (xU_place (by omega) (by omega)) (xU_6 (by decide)) z) (by omega))) (xoweB cw_3.1) hK hb0 hS (Nat.le_of_ble_eq_true rfl) (Nat.le_of_ble_eq_true rfl) (fun E_3 ce_3 q9_3 H_3 locs_3 d0 hd0 hp_3 hS hce_3 hcv_3 hcl_3 => ?_) (fun v_3 H_3 locs_3 d0 hd0 hp_3 hS => ?_)
      · exact hp_3.elim
      · obtain ⟨rfl, x_3, y_3, z_3, hs_3, qx_3, qy_3, qz_3⟩ := hp_3
        have hX_3 : xCla G ty ad F R pl un cx cy bu nb wi hi nf fa lo la bx K0 H_3 := hX.put_near hW hs_3
        show W p l e _ (s.setDrawn _) m _ below meth c _ _ _ _ _ (F0 m 50 ls [])
        refine lv_aload_n hx hb dX6_bevel_50 rfl (lv_at hl 3 rfl) ?_
        refine va_get (D := G) (cl := vwCl) (ci := 7) (v := .ref (ad 5)) (C := RX6) (T := TX6) (N := 6) hx hb (hts d0) in_X6_bevel_X6 hown hK.1 (x1 (hX_3.o_)) 0 rfl rfl 5 (by decide) (hts d0 _ hw_X6_bevel_5) (fun _ h9 => h9) rfl dX6_bevel_51 ?_
        refine lv_aload hx hb dX6_bevel_54 (lv_at hl 0 rfl) ?_
        refine lv_iload_n hx hb dX6_bevel_56 rfl (lv_at hl 5 rfl) ?_
        refine xaald (j := f9) hx hb hK.1 4 (hX_3.parr_ _ (by omega)) rfl (xix_of (by omega) (by omega)) rfl dX6_bevel_57 ?_
        refine lv_aload hx hb dX6_bevel_58 (lv_at hl 0 rfl) ?_
        refine lv_iload_n hx hb dX6_bevel_60 rfl (lv_at hl 5 rfl) ?_
        refine lv_iconst (v := nI 1) hx hb dX6_bevel_61 (by decide) ?_
        refine xiaddN hx hb dX6_bevel_62 ?_
        refine xaald (j := f9 + 1) hx hb hK.1 4 (hX_3.parr_ _ (by omega)) rfl (xix_of (by omega) (by omega)) rfl dX6_bevel_63 ?_
        refine lv_aload hx hb dX6_bevel_64 (lv_at hl 1 rfl) ?_
        refine lv_iload_n hx hb dX6_bevel_66 rfl (lv_at hl 5 rfl) ?_
        refine lv_iconst (v := nI 1) hx hb dX6_bevel_67 (by decide) ?_
        refine xiaddN hx hb dX6_bevel_68 ?_
        refine xaald (j := f9 + 1) hx hb hK.1 4 (hX_3.parr_ _ (by omega)) rfl (xix_of (by omega) (by omega)) rfl dX6_bevel_69 ?_
        have cw_4 := cwV (R := rm_X6_bevel) (rm := rm_X2_cross) 3 (hts d0) gX6_bevel_X2_cross rfl rfl rfl (by decide +kernel) ⟨Nat.le_of_ble_eq_true rfl, Nat.le_of_ble_eq_true rfl⟩
        refine xcall hd0 (xintoV (b := (ad 5)) (As := [.ref (ad (100 + 8 * (x9 + 1) + f9)), .ref (ad (100 + 8 * (x9 + 1) + (f9 + 1))), .ref (ad (100 + 8 * x9 + (f9 + 1)))]) (rest := []) ⟨hx, hb, hml, hown, hts _⟩ cw_4 (va_recv hK.1 (x1 (hn_5.kept (hs_3.2.2 _ (fun z => absurd (hW.2.2.2.2 _ _ (xU_6 (by decide)) (xU_6 (by decide)) z) (by decide))))) (ci := 3) (q0 := 0) rfl rfl) rfl rfl hl.1 rfl (lv_room (Nat.le_of_ble_eq_true rfl)) dX6_bevel_70) (c_X2_cross (l := l) (G := G) (ty := ty) (b0 := b0) (hW.2.2.2.1 _ (xU_6 (by decide))) (hn_5.kept (hs_3.2.2 _ (fun z => absurd (hW.2.2.2.2 _ _ (xU_6 (by decide)) (xU_6 (by decide)) z) (by decide)))) (hX_3.place_ _ (by omega) _ (by omega)) (hX_3.place_ _ (by omega) _ (by omega)) (hX_3.place_ _ (by omega) _ (by omega)) (fun z => absurd (hW.2.2.2.2 _ _ (xU_place (by omega) (by omega)) (xU_6 (by decide)) z) (by omega)) (fun z => absurd (hW.2.2.2.2 _ _ (xU_place (by omega) (by omega)) (xU_6 (by decide)) z) (by omega)) (fun z => absurd (hW.2.2.2.2 _ _ (xU_place (by omega) (by omega)) (xU_6 (by decide)) z) (by omega))) (xoweB cw_4.1) hK hb0 hS (Nat.le_of_ble_eq_true rfl) (Nat.le_of_ble_eq_true rfl) (fun E_4 ce_4 q9_4 H_4 locs_4 d0 hd0 hp_4 hS hce_4 hcv_4 hcl_4 => ?_) (fun v_4 H_4 locs_4 d0 hd0 hp_4 hS => ?_)
        · exact hp_4.elim
        · obtain ⟨rfl, x_4, y_4, z_4, hs_4, qx_4, qy_4, qz_4⟩ := hp_4
          have hX_4 : xCla G ty ad F R pl un cx cy bu nb wi hi nf fa lo la bx K0 H_4 := hX_3.put_far hW hs_4
          show W p l e _ (s.setDrawn _) m _ below meth c _ _ _ _ _ (F0 m 73 ls [])
          refine lv_aload_n hx hb dX6_bevel_73 rfl (lv_at hl 3 rfl) ?_
          refine va_get (D := G) (cl := vwCl) (ci := 7) (v := .ref (ad 4)) (C := RX6) (T := TX6) (N := 6) hx hb (hts d0) in_X6_bevel_X6 hown hK.1 (x1 (hX_4.o_)) 0 rfl rfl 4 (by decide) (hts d0 _ hw_X6_bevel_4) (fun _ h9 => h9) rfl dX6_bevel_74 ?_
          refine lv_aload_n hx hb dX6_bevel_77 rfl (lv_at hl 3 rfl) ?_
          refine va_get (D := G) (cl := vwCl) (ci := 7) (v := .ref (ad 4)) (C := RX6) (T := TX6) (N := 6) hx hb (hts d0) in_X6_bevel_X6 hown hK.1 (x1 (hX_4.o_)) 0 rfl rfl 4 (by decide) (hts d0 _ hw_X6_bevel_4) (fun _ h9 => h9) rfl dX6_bevel_78 ?_
          have cw_5 := cwV (R := rm_X6_bevel) (rm := rm_X2_times) 1 (hts d0) gX6_bevel_X2_times rfl rfl rfl (by decide +kernel) ⟨Nat.le_of_ble_eq_true rfl, Nat.le_of_ble_eq_true rfl⟩
          refine xcall hd0 (xintoV (b := (ad 4)) (As := [.ref (ad 4)]) (rest := []) ⟨hx, hb, hml, hown, hts _⟩ cw_5 (va_recv hK.1 (x1 (hs_3.1.kept (hs_4.2.2 _ (fun z => absurd (hW.2.2.2.2 _ _ (xU_6 (by decide)) (xU_6 (by decide)) z) (by decide))))) (ci := 3) (q0 := 0) rfl rfl) rfl rfl hl.1 rfl (lv_room (Nat.le_of_ble_eq_true rfl)) dX6_bevel_81) (c_X2_times (l := l) (G := G) (ty := ty) (b0 := b0) (hs_3.1.kept (hs_4.2.2 _ (fun z => absurd (hW.2.2.2.2 _ _ (xU_6 (by decide)) (xU_6 (by decide)) z) (by decide)))) (hs_3.1.kept (hs_4.2.2 _ (fun z => absurd (hW.2.2.2.2 _ _ (xU_6 (by decide)) (xU_6 (by decide)) z) (by decide)))) qx_3 qy_3 qz_3 qx_3 qy_3 qz_3) (xoweB cw_5.1) hK hb0 hS (Nat.le_of_ble_eq_true rfl) (Nat.le_of_ble_eq_true rfl) (fun E_5 ce_5 q9_5 H_5 locs_5 d0 hd0 hp_5 hS hce_5 hcv_5 hcl_5 => ?_) (fun v_5 H_5 locs_5 d0 hd0 hp_5 hS => ?_)
          · exact hp_5.elim
          · obtain ⟨rfl, r_5, rfl, q_5⟩ := hp_5
            show W p l e _ (s.setDrawn _) m _ below meth c _ _ _ _ _ (F0 m 84 ls [.double r_5])
            have cw_6 := va_cwS (R := rm_X6_bevel) (rm := rm_X6_root) 1 (hts d0) gX6_bevel_X6_root rfl rfl rfl (by decide +kernel) ⟨Nat.le_of_ble_eq_true rfl, Nat.le_of_ble_eq_true rfl⟩
            refine xcall hd0 (xintoS (As := [.double r_5]) (rest := []) ⟨hx, hb, hml, hown, hts _⟩ cw_6 rfl rfl hl.1 rfl (lv_room (Nat.le_of_ble_eq_true rfl)) dX6_bevel_84) (c_X6_root (l := l) (G := G) (ty := ty) (b0 := b0) q_5) (xoweB cw_6.1) hK hb0 hS (Nat.le_of_ble_eq_true rfl) (Nat.le_of_ble_eq_true rfl) (fun E_6 ce_6 q9_6 H_6 locs_6 d0 hd0 hp_6 hS hce_6 hcv_6 hcl_6 => ?_) (fun v_6 H_6 locs_6 d0 hd0 hp_6 hS => ?_)
            · exact hp_6.elim
            · obtain ⟨rfl, r_6, rfl, q_6⟩ := hp_6
              show W p l e _ (s.setDrawn _) m _ below meth c _ _ _ _ _ (F0 m 87 ls [.double r_6])
              refine lv_dstore (lv' := [(6, .double r_6), (5, .ref (ad (20 + (x9 + 1)))), (4, .ref (ad (20 + x9))), (3, .ref (ad (30 + x9))), (0, .ref (ad 0)), (1, .int (nI x9)), (2, .int (nI f9))]) hx hb dX6_bevel_87 hl (by decide) rfl (fun ls hl => ?_)
              refine lv_aload_n hx hb dX6_bevel_89 rfl (lv_at hl 4 rfl) ?_
              refine va_get (D := G) (cl := vwCl) (ci := 7) (v := .ref (ad 5)) (C := RX6) (T := TX6) (N := 6) hx hb (hts d0) in_X6_bevel_X6 hown hK.1 (x1 (hX_4.o_)) 0 rfl rfl 5 (by decide) (hts d0 _ hw_X6_bevel_5) (fun _ h9 => h9) rfl dX6_bevel_90 ?_
              refine lv_aload_n hx hb dX6_bevel_93 rfl (lv_at hl 4 rfl) ?_
              refine va_get (D := G) (cl := vwCl) (ci := 7) (v := .ref (ad 5)) (C := RX6) (T := TX6) (N := 6) hx hb (hts d0) in_X6_bevel_X6 hown hK.1 (x1 (hX_4.o_)) 0 rfl rfl 5 (by decide) (hts d0 _ hw_X6_bevel_5) (fun _ h9 => h9) rfl dX6_bevel_94 ?_
              have cw_7 := cwV (R := rm_X6_bevel) (rm := rm_X2_times) 1 (hts d0) gX6_bevel_X2_times rfl rfl rfl (by decide +kernel) ⟨Nat.le_of_ble_eq_true rfl, Nat.le_of_ble_eq_true rfl⟩
              refine xcall hd0 (xintoV (b := (ad 5)) (As := [.ref (ad 5)]) (rest := []) ⟨hx, hb, hml, hown, hts _⟩ cw_7 (va_recv hK.1 (x1 hs_4.1) (ci := 3) (q0 := 0) rfl rfl) rfl rfl hl.1 rfl (lv_room (Nat.le_of_ble_eq_true rfl)) dX6_bevel_97) (c_X2_times (l := l) (G := G) (ty := ty) (b0 := b0) hs_4.1 hs_4.1 qx_4 qy_4 qz_4 qx_4 qy_4 qz_4) (xoweB cw_7.1) hK hb0 hS (Nat.le_of_ble_eq_true rfl) (Nat.le_of_ble_eq_true rfl) (fun E_7 ce_7 q9_7 H_7 locs_7 d0 hd0 hp_7 hS hce_7 hcv_7 hcl_7 => ?_) (fun v_7 H_7 locs_7 d0 hd0 hp_7 hS => ?_)
              · exact hp_7.elim
              · obtain ⟨rfl, r_7, rfl, q_7⟩ := hp_7
                show W p l e _ (s.setDrawn _) m _ below meth c _ _ _ _ _ (F0 m 100 ls [.double r_7])
                have cw_8 := va_cwS (R := rm_X6_bevel) (rm := rm_X6_root) 1 (hts d0) gX6_bevel_X6_root rfl rfl rfl (by decide +kernel) ⟨Nat.le_of_ble_eq_true rfl, Nat.le_of_ble_eq_true rfl⟩
                refine xcall hd0 (xintoS (As := [.double r_7]) (rest := []) ⟨hx, hb, hml, hown, hts _⟩ cw_8 rfl rfl hl.1 rfl (lv_room (Nat.le_of_ble_eq_true rfl)) dX6_bevel_100) (c_X6_root (l := l) (G := G) (ty := ty) (b0 := b0) q_7) (xoweB cw_8.1) hK hb0 hS (Nat.le_of_ble_eq_true rfl) (Nat.le_of_ble_eq_true rfl) (fun E_8 ce_8 q9_8 H_8 locs_8 d0 hd0 hp_8 hS hce_8 hcv_8 hcl_8 => ?_) (fun v_8 H_8 locs_8 d0 hd0 hp_8 hS => ?_)
                · exact hp_8.elim
                · obtain ⟨rfl, r_8, rfl, q_8⟩ := hp_8
                  show W p l e _ (s.setDrawn _) m _ below meth c _ _ _ _ _ (F0 m 103 ls [.double r_8])
                  refine lv_dstore (lv' := [(8, .double r_8), (6, .double r_6), (5, .ref (ad (20 + (x9 + 1)))), (4, .ref (ad (20 + x9))), (3, .ref (ad (30 + x9))), (0, .ref (ad 0)), (1, .int (nI x9)), (2, .int (nI f9))]) hx hb dX6_bevel_103 hl (by decide) rfl (fun ls hl => ?_)
                  refine lv_dload hx hb dX6_bevel_105 (lv_at hl 1 rfl) ?_
                  refine lv_dconst0 hx hb dX6_bevel_107 ?_
                  refine xcmp_l_eq (tgt := 119) hx hb q_6 (vq_rf _) dX6_bevel_108 dX6_bevel_109 (by decide) (fun c_9 => ?_) (fun c_9 => ?_)
                  · refine lv_dconst1 hx hb dX6_bevel_119 ?_
                    exact xdret hd0 hx hb hr hlocks hS (Nat.le_of_ble_eq_true rfl) (Nat.le_of_ble_eq_true rfl) dX6_bevel_120 ⟨⟨z_x, z_f⟩, hX_4, _, rfl, by rw [nN_nI (by omega), nN_nI (by omega)]; exact pBevC_1 c_9⟩
                  · refine lv_dload hx hb dX6_bevel_112 (lv_at hl 0 rfl) ?_
                    refine lv_dconst0 hx hb dX6_bevel_114 ?_
                    refine xcmp_l_ne (tgt := 121) hx hb q_8 (vq_rf _) dX6_bevel_115 dX6_bevel_116 (by decide) (fun c_10 => ?_) (fun c_10 => ?_)
                    · refine lv_aload_n hx hb dX6_bevel_121 rfl (lv_at hl 5 rfl) ?_
                      refine va_get (D := G) (cl := vwCl) (ci := 7) (v := .ref (ad 4)) (C := RX6) (T := TX6) (N := 6) hx hb (hts d0) in_X6_bevel_X6 hown hK.1 (x1 (hX_4.o_)) 0 rfl rfl 4 (by decide) (hts d0 _ hw_X6_bevel_4) (fun _ h9 => h9) rfl dX6_bevel_122 ?_
                      refine lv_aload_n hx hb dX6_bevel_125 rfl (lv_at hl 5 rfl) ?_
                      refine va_get (D := G) (cl := vwCl) (ci := 7) (v := .ref (ad 5)) (C := RX6) (T := TX6) (N := 6) hx hb (hts d0) in_X6_bevel_X6 hown hK.1 (x1 (hX_4.o_)) 0 rfl rfl 5 (by decide) (hts d0 _ hw_X6_bevel_5) (fun _ h9 => h9) rfl dX6_bevel_126 ?_
                      have cw_11 := cwV (R := rm_X6_bevel) (rm := rm_X2_times) 1 (hts d0) gX6_bevel_X2_times rfl rfl rfl (by decide +kernel) ⟨Nat.le_of_ble_eq_true rfl, Nat.le_of_ble_eq_true rfl⟩
                      refine xcall hd0 (xintoV (b := (ad 4)) (As := [.ref (ad 5)]) (rest := []) ⟨hx, hb, hml, hown, hts _⟩ cw_11 (va_recv hK.1 (x1 (hs_3.1.kept (hs_4.2.2 _ (fun z => absurd (hW.2.2.2.2 _ _ (xU_6 (by decide)) (xU_6 (by decide)) z) (by decide))))) (ci := 3) (q0 := 0) rfl rfl) rfl rfl hl.1 rfl (lv_room (Nat.le_of_ble_eq_true rfl)) dX6_bevel_129) (c_X2_times (l := l) (G := G) (ty := ty) (b0 := b0) (hs_3.1.kept (hs_4.2.2 _ (fun z => absurd (hW.2.2.2.2 _ _ (xU_6 (by decide)) (xU_6 (by decide)) z) (by decide)))) hs_4.1 qx_3 qy_3 qz_3 qx_4 qy_4 qz_4) (xoweB cw_11.1) hK hb0 hS (Nat.le_of_ble_eq_true rfl) (Nat.le_of_ble_eq_true rfl) (fun E_11 ce_11 q9_11 H_11 locs_11 d0 hd0 hp_11 hS hce_11 hcv_11 hcl_11 => ?_) (fun v_11 H_11 locs_11 d0 hd0 hp_11 hS => ?_)
                      · exact hp_11.elim
                      · obtain ⟨rfl, r_11, rfl, q_11⟩ := hp_11
                        show W p l e _ (s.setDrawn _) m _ below meth c _ _ _ _ _ (F0 m 132 ls [.double r_11])
                        refine lv_dload hx hb dX6_bevel_132 (lv_at hl 1 rfl) ?_
                        refine lv_dload hx hb dX6_bevel_134 (lv_at hl 0 rfl) ?_
                        refine xdmul hd0 hx hb q_6 q_8 dX6_bevel_136 (fun r_12 d0 q_12 hd0 => ?_)
                        refine xddiv hd0 hx hb q_11 q_12 dX6_bevel_137 (fun r_13 d0 q_13 hd0 => ?_)
                        exact xdret hd0 hx hb hr hlocks hS (Nat.le_of_ble_eq_true rfl) (Nat.le_of_ble_eq_true rfl) dX6_bevel_138 ⟨⟨z_x, z_f⟩, hX_4, _, rfl, by rw [nN_nI (by omega), nN_nI (by omega)]; exact pBevC_3 c_9 c_10 q_13⟩
                    · refine lv_dconst1 hx hb dX6_bevel_119 ?_
                      exact xdret hd0 hx hb hr hlocks hS (Nat.le_of_ble_eq_true rfl) (Nat.le_of_ble_eq_true rfl) dX6_bevel_120 ⟨⟨z_x, z_f⟩, hX_4, _, rfl, by rw [nN_nI (by omega), nN_nI (by omega)]; exact pBevC_2 c_10⟩
set_option maxRecDepth 20000 in
theorem ggX6_spans_X5_keepsOwn : GoodIn wsX6_spans wsX5_keepsOwn := goodIn_r _ [8, 9, 24, 25, 26, 27, 28, 29, 30, 31, 32] (by decide +kernel) (by decide +kernel)
set_option maxRecDepth 20000 in
theorem gX6_spans_X5_keepsOwn : GoodIn wsX6_spans (wsV RX6 170 RX5 yX5_keepsOwn wsX5_keepsOwn) := goodIn_app (goodIn_of _ (by decide +kernel)) ggX6_spans_X5_keepsOwn
set_option maxRecDepth 20000 in
theorem ggX6_spans_X5_keepsBeside : GoodIn wsX6_spans wsX5_keepsBeside := goodIn_r _ [13, 9, 14, 15, 16, 17, 24, 25, 26, 27, 28, 29, 30, 31, 32] (by decide +kernel) (by decide +kernel)
set_option maxRecDepth 20000 in
theorem gX6_spans_X5_keepsBeside : GoodIn wsX6_spans (wsV RX6 174 RX5 yX5_keepsBeside wsX5_keepsBeside) := goodIn_app (goodIn_of _ (by decide +kernel)) ggX6_spans_X5_keepsBeside
theorem dX6_spans_0 : decode cX6_spans 0 = .ok (.iload_n 1, 1) := by decide +kernel
theorem dX6_spans_1 : decode cX6_spans 1 = .ok (.iconst 1, 1) := by decide +kernel
theorem dX6_spans_2 : decode cX6_spans 2 = .ok (.if_icmp .lt 9, 3) := by decide +kernel
theorem dX6_spans_5 : decode cX6_spans 5 = .ok (.iload_n 1, 1) := by decide +kernel
theorem dX6_spans_6 : decode cX6_spans 6 = .ok (.bipush 8, 2) := by decide +kernel
theorem dX6_spans_8 : decode cX6_spans 8 = .ok (.if_icmp .le 13, 3) := by decide +kernel
theorem dX6_spans_11 : decode cX6_spans 11 = .ok (.new 64, 3) := by decide +kernel
theorem dX6_spans_14 : decode cX6_spans 14 = .ok (.dup, 1) := by decide +kernel
theorem dX6_spans_15 : decode cX6_spans 15 = .ok (.ldc 168, 2) := by decide +kernel
theorem dX6_spans_17 : decode cX6_spans 17 = .ok (.invokespecial 68, 3) := by decide +kernel
theorem dX6_spans_20 : decode cX6_spans 20 = .ok (.athrow, 1) := by decide +kernel
theorem dX6_spans_21 : decode cX6_spans 21 = .ok (.iconst 0, 1) := by decide +kernel
theorem dX6_spans_22 : decode cX6_spans 22 = .ok (.istore_n 2, 1) := by decide +kernel
theorem dX6_spans_23 : decode cX6_spans 23 = .ok (.iload_n 2, 1) := by decide +kernel
theorem dX6_spans_24 : decode cX6_spans 24 = .ok (.aload_n 0, 1) := by decide +kernel
theorem dX6_spans_25 : decode cX6_spans 25 = .ok (.getfield 28, 3) := by decide +kernel
theorem dX6_spans_28 : decode cX6_spans 28 = .ok (.arraylength, 1) := by decide +kernel
theorem dX6_spans_29 : decode cX6_spans 29 = .ok (.if_icmp .ge 53, 3) := by decide +kernel
theorem dX6_spans_32 : decode cX6_spans 32 = .ok (.aload_n 0, 1) := by decide +kernel
theorem dX6_spans_33 : decode cX6_spans 33 = .ok (.getfield 28, 3) := by decide +kernel
theorem dX6_spans_36 : decode cX6_spans 36 = .ok (.iload_n 2, 1) := by decide +kernel
theorem dX6_spans_37 : decode cX6_spans 37 = .ok (.aaload, 1) := by decide +kernel
theorem dX6_spans_38 : decode cX6_spans 38 = .ok (.iconst 2, 1) := by decide +kernel
theorem dX6_spans_39 : decode cX6_spans 39 = .ok (.iload_n 1, 1) := by decide +kernel
theorem dX6_spans_40 : decode cX6_spans 40 = .ok (.imul, 1) := by decide +kernel
theorem dX6_spans_41 : decode cX6_spans 41 = .ok (.invokevirtual 170, 3) := by decide +kernel
theorem dX6_spans_44 : decode cX6_spans 44 = .ok (.ifCond .ne 5, 3) := by decide +kernel
theorem dX6_spans_47 : decode cX6_spans 47 = .ok (.iconst 0, 1) := by decide +kernel
theorem dX6_spans_48 : decode cX6_spans 48 = .ok (.ireturn, 1) := by decide +kernel
theorem dX6_spans_49 : decode cX6_spans 49 = .ok (.iload_n 2, 1) := by decide +kernel
theorem dX6_spans_50 : decode cX6_spans 50 = .ok (.ifCond .le 26, 3) := by decide +kernel
theorem dX6_spans_53 : decode cX6_spans 53 = .ok (.aload_n 0, 1) := by decide +kernel
theorem dX6_spans_54 : decode cX6_spans 54 = .ok (.getfield 28, 3) := by decide +kernel
theorem dX6_spans_57 : decode cX6_spans 57 = .ok (.iload_n 2, 1) := by decide +kernel
theorem dX6_spans_58 : decode cX6_spans 58 = .ok (.aaload, 1) := by decide +kernel
theorem dX6_spans_59 : decode cX6_spans 59 = .ok (.aload_n 0, 1) := by decide +kernel
theorem dX6_spans_60 : decode cX6_spans 60 = .ok (.getfield 28, 3) := by decide +kernel
theorem dX6_spans_63 : decode cX6_spans 63 = .ok (.iload_n 2, 1) := by decide +kernel
theorem dX6_spans_64 : decode cX6_spans 64 = .ok (.iconst 1, 1) := by decide +kernel
theorem dX6_spans_65 : decode cX6_spans 65 = .ok (.isub, 1) := by decide +kernel
theorem dX6_spans_66 : decode cX6_spans 66 = .ok (.aaload, 1) := by decide +kernel
theorem dX6_spans_67 : decode cX6_spans 67 = .ok (.iload_n 1, 1) := by decide +kernel
theorem dX6_spans_68 : decode cX6_spans 68 = .ok (.invokevirtual 174, 3) := by decide +kernel
theorem dX6_spans_71 : decode cX6_spans 71 = .ok (.ifCond .ne 5, 3) := by decide +kernel
theorem dX6_spans_74 : decode cX6_spans 74 = .ok (.iconst 0, 1) := by decide +kernel
theorem dX6_spans_75 : decode cX6_spans 75 = .ok (.ireturn, 1) := by decide +kernel
theorem dX6_spans_76 : decode cX6_spans 76 = .ok (.iinc 2 1, 3) := by decide +kernel
theorem dX6_spans_79 : decode cX6_spans 79 = .ok (.goto (-56), 3) := by decide +kernel
theorem dX6_spans_82 : decode cX6_spans 82 = .ok (.iconst 1, 1) := by decide +kernel
theorem dX6_spans_83 : decode cX6_spans 83 = .ok (.ireturn, 1) := by decide +kernel
abbrev rm_X6_spans : Room := { frames := 10, cells := 20, slots := 150, locals := 400 }
theorem hw_X6_spans_1 : (Cond.classLink RX6 64 "java/lang/IllegalArgumentException") ∈ wsX6_spans := List.mem_of_getElem? (i := 1) rfl
theorem hw_X6_spans_2 : (Cond.initialized "java/lang/IllegalArgumentException") ∈ wsX6_spans := List.mem_of_getElem? (i := 2) rfl
theorem hw_X6_spans_3 : (Cond.fieldLink RX6 28 "PlankUnroll" "strips" "[LPlankUnroll$Strip;") ∈ wsX6_spans := List.mem_of_getElem? (i := 3) rfl
theorem in_X6_spans_X6 : ∀ w ∈ wsX60, w ∈ wsX6_spans := by decide +kernel
theorem ht_X6_spans_1 : ∀ w ∈ (vx_atS RX6 68 "java/lang/IllegalArgumentException" ["java/lang/RuntimeException", "java/lang/Exception"]).filter goodWord, w ∈ wsX6_spans := by decide +kernel
set_option maxHeartbeats 4000000 in
set_option maxRecDepth 100000 in
/-- spans -/
theorem c_X6_spans {l : Launch} {G : va_G} {ty : Nat → ClassId} {b0 : Nat} {H : Heap} (hfl : l.stackTraces = false) {ad : Nat → Nat} {F R nb : Nat} {pl wi hi fa : Nat → UInt64} {un bu lo la : Nat → Int32} {cx cy bx : Nat → Nat → UInt64} {nf : Nat → Nat} {K0 : Heap} (hX : xCla G ty ad F R pl un cx cy bu nb wi hi nf fa lo la bx K0 H) (hW : xWf F R nb nf ad b0) {n : Int32} : xMet l yX6_spans wsX6_spans rm_X6_spans G ty b0 [.ref (ad 0), .int (n)] H (fun v H1 => H = H1 ∧ (¬ n < nI 1 ∧ n ≤ nI 8) ∧ v = some (.int (xP (∀ j : Nat, j < R - 1 → pSpC bu F n.toNatClampNeg j)))) (fun E H1 => E = "java/lang/IllegalArgumentException" ∧ ¬ (¬ n < nI 1 ∧ n ≤ nI 8) ∧ xext H H1) := by
  refine xbody (cc := cX6_spans) (maxL := 3) (ret := (some .boolean)) (C := RX6) (lv := [(0, .ref (ad 0)), (1, .int (n))]) (by decide) rfl rfl (Nat.le_of_ble_eq_true rfl) rfl ?_
  intro p e s m below meth c d0 hx hb hr hts hown hlocks hml hxt hnm0 hK hb0 hH0 hS hd0 ls hl
  obtain ⟨⟨zF2, zF8⟩, ⟨zR2, zR8⟩⟩ := id hW.1
  have zB4 := hW.2.1
  refine lv_iload_n hx hb dX6_spans_0 rfl (lv_at hl 1 rfl) ?_
  refine lv_iconst (v := nI 1) hx hb dX6_spans_1 (by decide) ?_
  refine lv_icmp_lt (tgt := 11) hx hb dX6_spans_2 (by decide) (fun c_1 => ?_) (fun c_1 => ?_)
  · exact xthrowS hfl hd0 hx hb hown hlocks hxt hml hl.1 hts (by decide +kernel) hw_X6_spans_1 hw_X6_spans_2 ht_X6_spans_1 xthrow_ok1 xthrow_gd1 (List.mem_of_getElem? (i := 4) rfl) hK hS dX6_spans_11 dX6_spans_14 dX6_spans_15 dX6_spans_17 dX6_spans_20 (Nat.le_of_ble_eq_true rfl) (Nat.le_of_ble_eq_true rfl) (Nat.le_of_ble_eq_true rfl) (Nat.le_of_ble_eq_true rfl) (Nat.le_of_ble_eq_true rfl) (Nat.le_of_ble_eq_true rfl) (fun H1 h9 => ⟨rfl, fun z => z.1 c_1, h9⟩)
  · refine lv_iload_n hx hb dX6_spans_5 rfl (lv_at hl 1 rfl) ?_
    refine lv_bipush (v := nI 8) hx hb dX6_spans_6 (by decide) ?_
    refine lv_icmp_le (tgt := 21) hx hb dX6_spans_8 (by decide) (fun c_2 => ?_) (fun c_2 => ?_)
    · have z9 : ¬ n < nI 1 ∧ n ≤ nI 8 := ⟨c_1, c_2⟩
      obtain ⟨n9, hn1, hn8, en9⟩ := xspan_of c_1 c_2
      subst en9
      refine lv_iconst (v := nI 0) hx hb dX6_spans_21 (by decide) ?_
      refine lv_istore_n (lv' := [(2, .int (nI 0)), (0, .ref (ad 0)), (1, .int (nI n9))]) hx hb dX6_spans_22 rfl hl (by decide) rfl (fun ls hl => ?_)
      suffices K : ∀ (u9 : Nat) (k : Nat) (locs : List Loc) (d0 : Drawn) (ls : Array Slot), (k + u9 = R - 1 ∧ ∀ j : Nat, j < k → pSpC bu F n9 j) → va_S (xA b0) s.heap H locs → s.drawn.sameBut d0 lw_cs → lv_has ls 3 [(2, .int (nI k)), (0, .ref (ad 0)), (1, .int (nI n9))] → W p l e rm_X6_spans (s.setDrawn d0) m [Value.ref (ad 0), Value.int ((nI n9))].toArray below meth c H locs (0) (0) (xMQ below (fun v H1 => H = H1 ∧ (¬ (nI n9) < nI 1 ∧ (nI n9) ≤ nI 8) ∧ v = some (.int (xP (∀ j : Nat, j < R - 1 → pSpC bu F (nI n9).toNatClampNeg j)))) (fun E H1 => E = "java/lang/IllegalArgumentException" ∧ ¬ (¬ (nI n9) < nI 1 ∧ (nI n9) ≤ nI 8) ∧ xext H H1) [.ref (ad 0), .int ((nI n9))].toArray s rm_X6_spans b0) (F0 m 23 ls []) from K (R - 1) 0 _ d0 ls ⟨by omega, fun _ h => absurd h (Nat.not_lt_zero _)⟩ hS hd0 (lv_sub hl [0, 1, 2] rfl)
      intro u9
      induction u9 with
      | zero =>
        intro k locs d0 ls hinv hS hd0 hl
        obtain ⟨hk, ho⟩ := hinv
        refine lv_iload_n hx hb dX6_spans_23 rfl (lv_at hl 0 rfl) ?_
        refine lv_aload_n hx hb dX6_spans_24 rfl (lv_at hl 1 rfl) ?_
        refine va_get (D := G) (cl := vwCl) (ci := 7) (v := .ref (ad 2)) (C := RX6) (T := TX6) (N := 6) hx hb (hts d0) in_X6_spans_X6 hown hK.1 (x1 (hX.o_)) 0 rfl rfl 2 (by decide) (hts d0 _ hw_X6_spans_3) (fun _ h9 => h9) rfl dX6_spans_25 ?_
        refine xalen hx hb hK.1 6 (hX.strips_) rfl dX6_spans_28 ?_
        refine xicmpN_ge (tgt := 82) hx hb (by omega) (by omega) dX6_spans_29 (by decide) (fun _ => ?_) (fun h9 => absurd h9 (by omega))
        refine lv_iconst (v := nI 1) hx hb dX6_spans_82 (by decide) ?_
        exact xzret (by decide) hd0 hx hb hr hlocks hS (Nat.le_of_ble_eq_true rfl) (Nat.le_of_ble_eq_true rfl) dX6_spans_83 ⟨rfl, z9, by rw [nN_nI (by omega)]; have e9 : k = R - 1 := (by omega); subst e9; exact xz1 ho⟩
      | succ u9 ih =>
        intro k locs d0 ls hinv hS hd0 hl
        obtain ⟨hk, ho⟩ := hinv
        refine lv_iload_n hx hb dX6_spans_23 rfl (lv_at hl 0 rfl) ?_
        refine lv_aload_n hx hb dX6_spans_24 rfl (lv_at hl 1 rfl) ?_
        refine va_get (D := G) (cl := vwCl) (ci := 7) (v := .ref (ad 2)) (C := RX6) (T := TX6) (N := 6) hx hb (hts d0) in_X6_spans_X6 hown hK.1 (x1 (hX.o_)) 0 rfl rfl 2 (by decide) (hts d0 _ hw_X6_spans_3) (fun _ h9 => h9) rfl dX6_spans_25 ?_
        refine xalen hx hb hK.1 6 (hX.strips_) rfl dX6_spans_28 ?_
        refine xicmpN_ge (tgt := 82) hx hb (by omega) (by omega) dX6_spans_29 (by decide) (fun h9 => absurd h9 (by omega)) (fun _ => ?_)
        refine lv_aload_n hx hb dX6_spans_32 rfl (lv_at hl 1 rfl) ?_
        refine va_get (D := G) (cl := vwCl) (ci := 7) (v := .ref (ad 2)) (C := RX6) (T := TX6) (N := 6) hx hb (hts d0) in_X6_spans_X6 hown hK.1 (x1 (hX.o_)) 0 rfl rfl 2 (by decide) (hts d0 _ hw_X6_spans_3) (fun _ h9 => h9) rfl dX6_spans_33 ?_
        refine lv_iload_n hx hb dX6_spans_36 rfl (lv_at hl 0 rfl) ?_
        refine xaald (j := k) hx hb hK.1 6 (hX.strips_) rfl (xix_of (by omega) (by omega)) rfl dX6_spans_37 ?_
        refine lv_iconst (v := nI 2) hx hb dX6_spans_38 (by decide) ?_
        refine lv_iload_n hx hb dX6_spans_39 rfl (lv_at hl 2 rfl) ?_
        refine ximulN hx hb dX6_spans_40 ?_
        have cw_5 := cwV (R := rm_X6_spans) (rm := rm_X5_keepsOwn) 1 (hts d0) gX6_spans_X5_keepsOwn rfl rfl rfl (by decide +kernel) ⟨Nat.le_of_ble_eq_true rfl, Nat.le_of_ble_eq_true rfl⟩
        refine xcall hd0 (xintoV (b := (ad (30 + k))) (As := [.int (nI (2 * n9))]) (rest := []) ⟨hx, hb, hml, hown, hts _⟩ cw_5 (va_recv hK.1 (x1 (hX.strip_ _ (by omega))) (ci := 6) (q0 := 0) rfl rfl) rfl rfl hl.1 rfl (lv_room (Nat.le_of_ble_eq_true rfl)) dX6_spans_41) (c_X5_keepsOwn (l := l) (G := G) (ty := ty) (b0 := b0) hX hW (i := k) (n := 2 * n9) (by omega) (by omega)) (xoweB cw_5.1) hK hb0 hS (Nat.le_of_ble_eq_true rfl) (Nat.le_of_ble_eq_true rfl) (fun E_5 ce_5 q9_5 H_5 locs_5 d0 hd0 hp_5 hS hce_5 hcv_5 hcl_5 => ?_) (fun v_5 H_5 locs_5 d0 hd0 hp_5 hS => ?_)
        · exact hp_5.elim
        · obtain ⟨rfl, rfl⟩ := hp_5
          show W p l e _ (s.setDrawn _) m _ below meth c _ _ _ _ _ (F0 m 44 ls [.int (xP (pKeeps bu F k k (2 * n9)))])
          refine lv_if_ne (tgt := 49) hx hb dX6_spans_44 (by decide) (fun c_6 => ?_) (fun c_6 => ?_)
          · refine lv_iload_n hx hb dX6_spans_49 rfl (lv_at hl 0 rfl) ?_
            refine lv_if_le (tgt := 76) hx hb dX6_spans_50 (by decide) (fun c_7 => ?_) (fun c_7 => ?_)
            · refine xiincN (x := k) (y := 1) (lv' := [(2, .int (nI (k + 1))), (0, .ref (ad 0)), (1, .int (nI n9))]) hx hb dX6_spans_76 hl (k := 0) rfl (by decide) (by decide) rfl (fun ls hl => ?_)
              refine lv_goto (tgt := 23) hx hb dX6_spans_79 (by decide) ?_
              exact ih (k + 1) _ d0 ls ⟨by omega, spc_s ho ⟨xP_ne.mp c_6, Or.inl (nI_le0 (by omega) c_7)⟩⟩ hS hd0 (lv_sub hl [0, 1, 2] rfl)
            · have hk1 := nI_gt0 c_7
              refine lv_aload_n hx hb dX6_spans_53 rfl (lv_at hl 1 rfl) ?_
              refine va_get (D := G) (cl := vwCl) (ci := 7) (v := .ref (ad 2)) (C := RX6) (T := TX6) (N := 6) hx hb (hts d0) in_X6_spans_X6 hown hK.1 (x1 (hX.o_)) 0 rfl rfl 2 (by decide) (hts d0 _ hw_X6_spans_3) (fun _ h9 => h9) rfl dX6_spans_54 ?_
              refine lv_iload_n hx hb dX6_spans_57 rfl (lv_at hl 0 rfl) ?_
              refine xaald (j := k) hx hb hK.1 6 (hX.strips_) rfl (xix_of (by omega) (by omega)) rfl dX6_spans_58 ?_
              refine lv_aload_n hx hb dX6_spans_59 rfl (lv_at hl 1 rfl) ?_
              refine va_get (D := G) (cl := vwCl) (ci := 7) (v := .ref (ad 2)) (C := RX6) (T := TX6) (N := 6) hx hb (hts d0) in_X6_spans_X6 hown hK.1 (x1 (hX.o_)) 0 rfl rfl 2 (by decide) (hts d0 _ hw_X6_spans_3) (fun _ h9 => h9) rfl dX6_spans_60 ?_
              refine lv_iload_n hx hb dX6_spans_63 rfl (lv_at hl 0 rfl) ?_
              refine lv_iconst (v := nI 1) hx hb dX6_spans_64 (by decide) ?_
              refine xisubN hx hb hk1 dX6_spans_65 ?_
              refine xaald (j := k - 1) hx hb hK.1 6 (hX.strips_) rfl (xix_of (by omega) (by omega)) rfl dX6_spans_66 ?_
              refine lv_iload_n hx hb dX6_spans_67 rfl (lv_at hl 2 rfl) ?_
              have cw_8 := cwV (R := rm_X6_spans) (rm := rm_X5_keepsBeside) 2 (hts d0) gX6_spans_X5_keepsBeside rfl rfl rfl (by decide +kernel) ⟨Nat.le_of_ble_eq_true rfl, Nat.le_of_ble_eq_true rfl⟩
              refine xcall hd0 (xintoV (b := (ad (30 + k))) (As := [.ref (ad (30 + (k - 1))), .int (nI n9)]) (rest := []) ⟨hx, hb, hml, hown, hts _⟩ cw_8 (va_recv hK.1 (x1 (hX.strip_ _ (by omega))) (ci := 6) (q0 := 0) rfl rfl) rfl rfl hl.1 rfl (lv_room (Nat.le_of_ble_eq_true rfl)) dX6_spans_68) (c_X5_keepsBeside (l := l) (G := G) (ty := ty) (b0 := b0) hX hW (i := k) (j := k - 1) (n := n9) (by omega) (by omega) (by omega) (by omega)) (xoweB cw_8.1) hK hb0 hS (Nat.le_of_ble_eq_true rfl) (Nat.le_of_ble_eq_true rfl) (fun E_8 ce_8 q9_8 H_8 locs_8 d0 hd0 hp_8 hS hce_8 hcv_8 hcl_8 => ?_) (fun v_8 H_8 locs_8 d0 hd0 hp_8 hS => ?_)
              · exact hp_8.elim
              · obtain ⟨rfl, rfl⟩ := hp_8
                show W p l e _ (s.setDrawn _) m _ below meth c _ _ _ _ _ (F0 m 71 ls [.int (xP (pKeeps bu F (k - 1) k n9))])
                refine lv_if_ne (tgt := 76) hx hb dX6_spans_71 (by decide) (fun c_9 => ?_) (fun c_9 => ?_)
                · refine xiincN (x := k) (y := 1) (lv' := [(2, .int (nI (k + 1))), (0, .ref (ad 0)), (1, .int (nI n9))]) hx hb dX6_spans_76 hl (k := 0) rfl (by decide) (by decide) rfl (fun ls hl => ?_)
                  refine lv_goto (tgt := 23) hx hb dX6_spans_79 (by decide) ?_
                  exact ih (k + 1) _ d0 ls ⟨by omega, spc_s ho ⟨xP_ne.mp c_6, Or.inr (xP_ne.mp c_9)⟩⟩ hS hd0 (lv_sub hl [0, 1, 2] rfl)
                · refine lv_iconst (v := nI 0) hx hb dX6_spans_74 (by decide) ?_
                  exact xzret (by decide) hd0 hx hb hr hlocks hS (Nat.le_of_ble_eq_true rfl) (Nat.le_of_ble_eq_true rfl) dX6_spans_75 ⟨rfl, z9, by rw [nN_nI (by omega)]; exact xz0 (fun z => (z k (by omega)).2.elim (fun y => absurd hk1 (by omega)) (xP_eq.mp c_9))⟩
          · refine lv_iconst (v := nI 0) hx hb dX6_spans_47 (by decide) ?_
            exact xzret (by decide) hd0 hx hb hr hlocks hS (Nat.le_of_ble_eq_true rfl) (Nat.le_of_ble_eq_true rfl) dX6_spans_48 ⟨rfl, z9, by rw [nN_nI (by omega)]; exact xz0 (fun z => xP_eq.mp c_6 (z k (by omega)).1)⟩
    · exact xthrowS hfl hd0 hx hb hown hlocks hxt hml hl.1 hts (by decide +kernel) hw_X6_spans_1 hw_X6_spans_2 ht_X6_spans_1 xthrow_ok1 xthrow_gd1 (List.mem_of_getElem? (i := 4) rfl) hK hS dX6_spans_11 dX6_spans_14 dX6_spans_15 dX6_spans_17 dX6_spans_20 (Nat.le_of_ble_eq_true rfl) (Nat.le_of_ble_eq_true rfl) (Nat.le_of_ble_eq_true rfl) (Nat.le_of_ble_eq_true rfl) (Nat.le_of_ble_eq_true rfl) (Nat.le_of_ble_eq_true rfl) (fun H1 h9 => ⟨rfl, fun z => c_2 z.2, h9⟩)
set_option maxRecDepth 20000 in
theorem ggX6_unroll_X6_stripAt : GoodIn wsX6_unroll wsX6_stripAt := goodIn_ca (goodIn_r _ [9, 10, 11, 12, 59, 60, 61, 62, 63, 64] (by decide +kernel) (by decide +kernel)) (goodIn_sub (fun _ h => List.mem_cons_of_mem _ (List.mem_append_right _ h)) (by decide +kernel))
set_option maxRecDepth 20000 in
theorem gX6_unroll_X6_stripAt : GoodIn wsX6_unroll (wsV RX6 90 RX6 yX6_stripAt wsX6_stripAt) := goodIn_app (goodIn_of _ (by decide +kernel)) ggX6_unroll_X6_stripAt
set_option maxRecDepth 20000 in
theorem ggX6_unroll_X5_layFlat : GoodIn wsX6_unroll wsX5_layFlat := goodIn_r _ [17, 18, 19, 20, 21, 22, 23, 24, 25, 26, 27, 28, 29, 30, 16, 31, 32, 8, 33, 34, 35, 36, 37, 38, 39, 40, 41, 42, 43, 44, 45, 46, 47, 48, 49, 50, 51, 52, 53, 54, 55, 56, 57, 58, 65, 66, 67, 68, 69, 70, 71, 72] (by decide +kernel) (by decide +kernel)
set_option maxRecDepth 20000 in
theorem gX6_unroll_X5_layFlat : GoodIn wsX6_unroll (wsV RX6 98 RX5 yX5_layFlat wsX5_layFlat) := goodIn_app (goodIn_of _ (by decide +kernel)) ggX6_unroll_X5_layFlat
theorem dX6_unroll_0 : decode cX6_unroll 0 = .ok (.aload_n 0, 1) := by decide +kernel
theorem dX6_unroll_1 : decode cX6_unroll 1 = .ok (.iload_n 1, 1) := by decide +kernel
theorem dX6_unroll_2 : decode cX6_unroll 2 = .ok (.invokevirtual 90, 3) := by decide +kernel
theorem dX6_unroll_5 : decode cX6_unroll 5 = .ok (.astore_n 2, 1) := by decide +kernel
theorem dX6_unroll_6 : decode cX6_unroll 6 = .ok (.aload_n 2, 1) := by decide +kernel
theorem dX6_unroll_7 : decode cX6_unroll 7 = .ok (.getfield 94, 3) := by decide +kernel
theorem dX6_unroll_10 : decode cX6_unroll 10 = .ok (.ifCond .ne 20, 3) := by decide +kernel
theorem dX6_unroll_13 : decode cX6_unroll 13 = .ok (.aload_n 2, 1) := by decide +kernel
theorem dX6_unroll_14 : decode cX6_unroll 14 = .ok (.invokevirtual 98, 3) := by decide +kernel
theorem dX6_unroll_17 : decode cX6_unroll 17 = .ok (.ifCond .ne 13, 3) := by decide +kernel
theorem dX6_unroll_20 : decode cX6_unroll 20 = .ok (.new 102, 3) := by decide +kernel
theorem dX6_unroll_23 : decode cX6_unroll 23 = .ok (.dup, 1) := by decide +kernel
theorem dX6_unroll_24 : decode cX6_unroll 24 = .ok (.ldc 104, 2) := by decide +kernel
theorem dX6_unroll_26 : decode cX6_unroll 26 = .ok (.invokespecial 106, 3) := by decide +kernel
theorem dX6_unroll_29 : decode cX6_unroll 29 = .ok (.athrow, 1) := by decide +kernel
theorem dX6_unroll_30 : decode cX6_unroll 30 = .ok (.iconst 2, 1) := by decide +kernel
theorem dX6_unroll_31 : decode cX6_unroll 31 = .ok (.aload_n 0, 1) := by decide +kernel
theorem dX6_unroll_32 : decode cX6_unroll 32 = .ok (.getfield 13, 3) := by decide +kernel
theorem dX6_unroll_35 : decode cX6_unroll 35 = .ok (.iconst 1, 1) := by decide +kernel
theorem dX6_unroll_36 : decode cX6_unroll 36 = .ok (.isub, 1) := by decide +kernel
theorem dX6_unroll_37 : decode cX6_unroll 37 = .ok (.imul, 1) := by decide +kernel
theorem dX6_unroll_38 : decode cX6_unroll 38 = .ok (.ireturn, 1) := by decide +kernel
abbrev rm_X6_unroll : Room := { frames := 10, cells := 20, slots := 150, locals := 400 }
theorem hw_X6_unroll_1 : (Cond.classLink RX6 102 "java/lang/IllegalStateException") ∈ wsX6_unroll := List.mem_of_getElem? (i := 1) rfl
theorem hw_X6_unroll_2 : (Cond.initialized "java/lang/IllegalStateException") ∈ wsX6_unroll := List.mem_of_getElem? (i := 2) rfl
theorem hw_X6_unroll_3 : (Cond.fieldLink RX6 94 "PlankUnroll$Strip" "unrolled" "Z") ∈ wsX6_unroll := List.mem_of_getElem? (i := 3) rfl
theorem hw_X6_unroll_4 : (Cond.fieldLink RX6 13 "PlankUnroll" "frames" "I") ∈ wsX6_unroll := List.mem_of_getElem? (i := 4) rfl
theorem in_X6_unroll_X5 : ∀ w ∈ wsX50, w ∈ wsX6_unroll := by decide +kernel
theorem in_X6_unroll_X6 : ∀ w ∈ wsX60, w ∈ wsX6_unroll := by decide +kernel
theorem ht_X6_unroll_2 : ∀ w ∈ (vx_atS RX6 106 "java/lang/IllegalStateException" ["java/lang/RuntimeException", "java/lang/Exception"]).filter goodWord, w ∈ wsX6_unroll := by decide +kernel
set_option maxHeartbeats 4000000 in
set_option maxRecDepth 100000 in
/-- unroll -/
theorem c_X6_unroll {l : Launch} {G : va_G} {ty : Nat → ClassId} {b0 : Nat} {H : Heap} (hfl : l.stackTraces = false) {ad : Nat → Nat} {F R nb : Nat} {pl wi hi fa : Nat → UInt64} {un bu lo la : Nat → Int32} {cx cy bx : Nat → Nat → UInt64} {nf : Nat → Nat} {K0 : Heap} (hX : xCla G ty ad F R pl un cx cy bu nb wi hi nf fa lo la bx K0 H) (hW : xWf F R nb nf ad b0) {x : Int32} : xMet l yX6_unroll wsX6_unroll rm_X6_unroll G ty b0 [.ref (ad 0), .int (x)] H (fun v H1 => vp_in x (R - 1) ∧ v = some (.int (nI (2 * (F - 1)))) ∧ ∃ (un1 : Nat → Int32) (cx1 cy1 bx1 : Nat → Nat → UInt64), xCla G ty ad F R pl un1 cx1 cy1 bu nb wi hi nf fa lo la bx1 K0 H1 ∧ ((¬ un x.toNatClampNeg = 0 ∧ un1 = un ∧ cx1 = cx ∧ cy1 = cy ∧ bx1 = bx) ∨ (un x.toNatClampNeg = 0 ∧ un1 = upd un x.toNatClampNeg (nI 1) ∧ xOth cx cy cx1 cy1 x.toNatClampNeg ∧ ∃ d : Nat → UInt64, pUnr (pFar pl) x.toNatClampNeg (F - 1) = some d ∧ xCo (cx1 x.toNatClampNeg) (cy1 x.toNatClampNeg) d (2 * F) ∧ ∃ u9 h9 : UInt64, bx1 = xup2 (xup2 bx x.toNatClampNeg 2 u9) x.toNatClampNeg 3 h9 ∧ vq u9 (pExtC d (2 * F) 0) ∧ vq h9 (pExtC d (2 * F) 1)))) (fun E H1 => (E = "java/lang/IndexOutOfBoundsException" ∧ ¬ vp_in x (R - 1) ∧ xext H H1) ∨ (E = "java/lang/IllegalStateException" ∧ vp_in x (R - 1) ∧ un x.toNatClampNeg = 0 ∧ pUnr (pFar pl) x.toNatClampNeg (F - 1) = none ∧ ∃ cx1 cy1 : Nat → Nat → UInt64, xOth cx cy cx1 cy1 x.toNatClampNeg ∧ xCla G ty ad F R pl un cx1 cy1 bu nb wi hi nf fa lo la bx K0 H1)) := by
  refine xbody (cc := cX6_unroll) (maxL := 3) (ret := (some .int)) (C := RX6) (lv := [(0, .ref (ad 0)), (1, .int (x))]) (by decide) rfl rfl (Nat.le_of_ble_eq_true rfl) rfl ?_
  intro p e s m below meth c d0 hx hb hr hts hown hlocks hml hxt hnm0 hK hb0 hH0 hS hd0 ls hl
  obtain ⟨⟨zF2, zF8⟩, ⟨zR2, zR8⟩⟩ := id hW.1
  have zB4 := hW.2.1
  refine lv_aload_n hx hb dX6_unroll_0 rfl (lv_at hl 0 rfl) ?_
  refine lv_iload_n hx hb dX6_unroll_1 rfl (lv_at hl 1 rfl) ?_
  have cw_1 := cwV (R := rm_X6_unroll) (rm := rm_X6_stripAt) 1 (hts d0) gX6_unroll_X6_stripAt rfl rfl rfl (by decide +kernel) ⟨Nat.le_of_ble_eq_true rfl, Nat.le_of_ble_eq_true rfl⟩
  refine xcall hd0 (xintoV (b := (ad 0)) (As := [.int (x)]) (rest := []) ⟨hx, hb, hml, hown, hts _⟩ cw_1 (va_recv hK.1 (x1 (hX.o_)) (ci := 7) (q0 := 0) rfl rfl) rfl rfl hl.1 rfl (lv_room (Nat.le_of_ble_eq_true rfl)) dX6_unroll_2) (c_X6_stripAt (l := l) (G := G) (ty := ty) (b0 := b0) hfl hX hW (x := x)) (xoweB cw_1.1) hK hb0 hS (Nat.le_of_ble_eq_true rfl) (Nat.le_of_ble_eq_true rfl) (fun E_1 ce_1 q9_1 H_1 locs_1 d0 hd0 hp_1 hS hce_1 hcv_1 hcl_1 => ?_) (fun v_1 H_1 locs_1 d0 hd0 hp_1 hS => ?_)
  · exact xout hd0 hxt hlocks hce_1 hcv_1 hcl_1 hS (Nat.le_of_ble_eq_true rfl) (Nat.le_of_ble_eq_true rfl) (Or.inl ⟨hp_1.1, hp_1.2.1, hp_1.2.2⟩)
  · obtain ⟨rfl, z_x, hv_1⟩ := hp_1
    obtain ⟨x9, hx9, ex9⟩ := vp_in_of z_x (by omega)
    subst ex9
    rw [nN_nI (show x9 < 2 ^ 31 by omega)] at hv_1
    subst hv_1
    show W p l e _ (s.setDrawn _) m _ below meth c _ _ _ _ _ (F0 m 5 ls [.ref (ad (30 + x9))])
    refine lv_astore_n (lv' := [(2, .ref (ad (30 + x9))), (0, .ref (ad 0)), (1, .int (nI x9))]) hx hb dX6_unroll_5 rfl hl (by decide) rfl (fun ls hl => ?_)
    refine lv_aload_n hx hb dX6_unroll_6 rfl (lv_at hl 0 rfl) ?_
    refine va_get (D := G) (cl := vwCl) (ci := 6) (v := .int (un x9)) (C := RX5) (T := TX5) (N := 9) hx hb (hts d0) in_X6_unroll_X5 hown hK.1 (x1 (hX.strip_ _ (by omega))) 0 rfl rfl 6 (by decide) (hts d0 _ hw_X6_unroll_3) (fun _ h9 => h9) rfl dX6_unroll_7 ?_
    refine lv_if_ne (tgt := 30) hx hb dX6_unroll_10 (by decide) (fun c_2 => ?_) (fun c_2 => ?_)
    · refine lv_iconst (v := nI 2) hx hb dX6_unroll_30 (by decide) ?_
      refine lv_aload_n hx hb dX6_unroll_31 rfl (lv_at hl 1 rfl) ?_
      refine va_get (D := G) (cl := vwCl) (ci := 7) (v := .int (nI F)) (C := RX6) (T := TX6) (N := 6) hx hb (hts d0) in_X6_unroll_X6 hown hK.1 (x1 (hX.o_)) 0 rfl rfl 0 (by decide) (hts d0 _ hw_X6_unroll_4) (fun _ h9 => h9) rfl dX6_unroll_32 ?_
      refine lv_iconst (v := nI 1) hx hb dX6_unroll_35 (by decide) ?_
      refine xisubN hx hb (by omega) dX6_unroll_36 ?_
      refine ximulN hx hb dX6_unroll_37 ?_
      exact xiret hd0 hx hb hr hlocks hS (Nat.le_of_ble_eq_true rfl) (Nat.le_of_ble_eq_true rfl) dX6_unroll_38 ⟨z_x, rfl, _, _, _, _, hX, by rw [nN_nI (by omega)]; exact Or.inl ⟨c_2, rfl, rfl, rfl, rfl⟩⟩
    · refine lv_aload_n hx hb dX6_unroll_13 rfl (lv_at hl 0 rfl) ?_
      have cw_3 := cwV (R := rm_X6_unroll) (rm := rm_X5_layFlat) 0 (hts d0) gX6_unroll_X5_layFlat rfl rfl rfl (by decide +kernel) ⟨Nat.le_of_ble_eq_true rfl, Nat.le_of_ble_eq_true rfl⟩
      refine xcall hd0 (xintoV (b := (ad (30 + x9))) (As := []) (rest := []) ⟨hx, hb, hml, hown, hts _⟩ cw_3 (va_recv hK.1 (x1 (hX.strip_ _ (by omega))) (ci := 6) (q0 := 0) rfl rfl) rfl rfl hl.1 rfl (lv_room (Nat.le_of_ble_eq_true rfl)) dX6_unroll_14) (c_X5_layFlat (l := l) (G := G) (ty := ty) (b0 := b0) hX hW (i := x9) (by omega)) (xoweB cw_3.1) hK hb0 hS (Nat.le_of_ble_eq_true rfl) (Nat.le_of_ble_eq_true rfl) (fun E_3 ce_3 q9_3 H_3 locs_3 d0 hd0 hp_3 hS hce_3 hcv_3 hcl_3 => ?_) (fun v_3 H_3 locs_3 d0 hd0 hp_3 hS => ?_)
      · exact hp_3.elim
      · obtain ⟨cx_3, cy_3, ho_3, hz_3⟩ := hp_3
        rcases hz_3 with ⟨rfl, hu_3, hX_3⟩ | ⟨rfl, d_3, hu_3, hd_3, bx_3, u_3, h_3, hb_3, qu_3, qh_3, hX_3⟩
        · show W p l e _ (s.setDrawn _) m _ below meth c _ _ _ _ _ (F0 m 17 ls [.int (nI 0)])
          refine lv_if_ne (tgt := 30) hx hb dX6_unroll_17 (by decide) (fun h9 => (show False by revert h9; decide).elim) (fun _ => ?_)
          exact xthrowS hfl hd0 hx hb hown hlocks hxt hml hl.1 hts (by decide +kernel) hw_X6_unroll_1 hw_X6_unroll_2 ht_X6_unroll_2 xthrow_ok2 xthrow_gd2 (List.mem_of_getElem? (i := 1) rfl) hK hS dX6_unroll_20 dX6_unroll_23 dX6_unroll_24 dX6_unroll_26 dX6_unroll_29 (Nat.le_of_ble_eq_true rfl) (Nat.le_of_ble_eq_true rfl) (Nat.le_of_ble_eq_true rfl) (Nat.le_of_ble_eq_true rfl) (Nat.le_of_ble_eq_true rfl) (Nat.le_of_ble_eq_true rfl) (fun H1 h9 => Or.inr ⟨rfl, z_x, by rw [nN_nI (by omega)]; exact ⟨Classical.not_not.mp (fun z => absurd c_2 z), hu_3, _, _, ho_3, hX_3.ext h9⟩⟩)
        · show W p l e _ (s.setDrawn _) m _ below meth c _ _ _ _ _ (F0 m 17 ls [.int (nI 1)])
          refine lv_if_ne (tgt := 30) hx hb dX6_unroll_17 (by decide) (fun _ => ?_) (fun h9 => (show False by revert h9; decide).elim)
          refine lv_iconst (v := nI 2) hx hb dX6_unroll_30 (by decide) ?_
          refine lv_aload_n hx hb dX6_unroll_31 rfl (lv_at hl 1 rfl) ?_
          refine va_get (D := G) (cl := vwCl) (ci := 7) (v := .int (nI F)) (C := RX6) (T := TX6) (N := 6) hx hb (hts d0) in_X6_unroll_X6 hown hK.1 (x1 (hX_3.o_)) 0 rfl rfl 0 (by decide) (hts d0 _ hw_X6_unroll_4) (fun _ h9 => h9) rfl dX6_unroll_32 ?_
          refine lv_iconst (v := nI 1) hx hb dX6_unroll_35 (by decide) ?_
          refine xisubN hx hb (by omega) dX6_unroll_36 ?_
          refine ximulN hx hb dX6_unroll_37 ?_
          exact xiret hd0 hx hb hr hlocks hS (Nat.le_of_ble_eq_true rfl) (Nat.le_of_ble_eq_true rfl) dX6_unroll_38 ⟨z_x, rfl, _, _, _, _, hX_3, by rw [nN_nI (by omega)]; exact Or.inr ⟨c_2, rfl, ho_3, d_3, hu_3, hd_3, u_3, h_3, hb_3, qu_3, qh_3⟩⟩
set_option maxRecDepth 20000 in
theorem ggX6_point_X6_placeAt : GoodIn wsX6_point wsX6_placeAt := goodIn_ca (goodIn_r _ [13, 14, 15, 16, 17, 18, 19, 20, 12, 21, 22, 37, 38, 39, 40, 41, 42, 43] (by decide +kernel) (by decide +kernel)) (goodIn_sub (fun _ h => List.mem_cons_of_mem _ (List.mem_append_right _ h)) (by decide +kernel))
set_option maxRecDepth 20000 in
theorem gX6_point_X6_placeAt : GoodIn wsX6_point (wsV RX6 52 RX6 yX6_placeAt wsX6_placeAt) := goodIn_app (goodIn_of _ (by decide +kernel)) ggX6_point_X6_placeAt
set_option maxRecDepth 20000 in
theorem ggX6_point_X6_within : GoodIn wsX6_point wsX6_within := goodIn_r _ [25] (by decide +kernel) (by decide +kernel)
set_option maxRecDepth 20000 in
theorem gX6_point_X6_within : GoodIn wsX6_point (va_wsS RX6 60 yX6_within wsX6_within) := goodIn_app (goodIn_of _ (by decide +kernel)) ggX6_point_X6_within
set_option maxRecDepth 20000 in
theorem ggX6_point_X5_forget : GoodIn wsX6_point wsX5_forget := goodIn_r _ [30, 31, 32, 33, 44, 45, 46, 47, 48, 49, 50, 51, 52] (by decide +kernel) (by decide +kernel)
set_option maxRecDepth 20000 in
theorem gX6_point_X5_forget : GoodIn wsX6_point (wsV RX6 83 RX5 yX5_forget wsX5_forget) := goodIn_app (goodIn_of _ (by decide +kernel)) ggX6_point_X5_forget
theorem dX6_point_0 : decode cX6_point 0 = .ok (.aload_n 0, 1) := by decide +kernel
theorem dX6_point_1 : decode cX6_point 1 = .ok (.iload_n 1, 1) := by decide +kernel
theorem dX6_point_2 : decode cX6_point 2 = .ok (.iload_n 2, 1) := by decide +kernel
theorem dX6_point_3 : decode cX6_point 3 = .ok (.invokevirtual 52, 3) := by decide +kernel
theorem dX6_point_6 : decode cX6_point 6 = .ok (.astore 9, 2) := by decide +kernel
theorem dX6_point_8 : decode cX6_point 8 = .ok (.dload_n 3, 1) := by decide +kernel
theorem dX6_point_9 : decode cX6_point 9 = .ok (.ldc2_w 56, 3) := by decide +kernel
theorem dX6_point_12 : decode cX6_point 12 = .ok (.ldc2_w 58, 3) := by decide +kernel
theorem dX6_point_15 : decode cX6_point 15 = .ok (.invokestatic 60, 3) := by decide +kernel
theorem dX6_point_18 : decode cX6_point 18 = .ok (.ifCond .eq 31, 3) := by decide +kernel
theorem dX6_point_21 : decode cX6_point 21 = .ok (.dload 5, 2) := by decide +kernel
theorem dX6_point_23 : decode cX6_point 23 = .ok (.ldc2_w 56, 3) := by decide +kernel
theorem dX6_point_26 : decode cX6_point 26 = .ok (.ldc2_w 58, 3) := by decide +kernel
theorem dX6_point_29 : decode cX6_point 29 = .ok (.invokestatic 60, 3) := by decide +kernel
theorem dX6_point_32 : decode cX6_point 32 = .ok (.ifCond .eq 17, 3) := by decide +kernel
theorem dX6_point_35 : decode cX6_point 35 = .ok (.dload 7, 2) := by decide +kernel
theorem dX6_point_37 : decode cX6_point 37 = .ok (.ldc2_w 56, 3) := by decide +kernel
theorem dX6_point_40 : decode cX6_point 40 = .ok (.ldc2_w 58, 3) := by decide +kernel
theorem dX6_point_43 : decode cX6_point 43 = .ok (.invokestatic 60, 3) := by decide +kernel
theorem dX6_point_46 : decode cX6_point 46 = .ok (.ifCond .ne 13, 3) := by decide +kernel
theorem dX6_point_49 : decode cX6_point 49 = .ok (.new 64, 3) := by decide +kernel
theorem dX6_point_52 : decode cX6_point 52 = .ok (.dup, 1) := by decide +kernel
theorem dX6_point_53 : decode cX6_point 53 = .ok (.ldc 66, 2) := by decide +kernel
theorem dX6_point_55 : decode cX6_point 55 = .ok (.invokespecial 68, 3) := by decide +kernel
theorem dX6_point_58 : decode cX6_point 58 = .ok (.athrow, 1) := by decide +kernel
theorem dX6_point_59 : decode cX6_point 59 = .ok (.aload 9, 2) := by decide +kernel
theorem dX6_point_61 : decode cX6_point 61 = .ok (.getfield 71, 3) := by decide +kernel
theorem dX6_point_64 : decode cX6_point 64 = .ok (.dload_n 3, 1) := by decide +kernel
theorem dX6_point_65 : decode cX6_point 65 = .ok (.dcmp .l, 1) := by decide +kernel
theorem dX6_point_66 : decode cX6_point 66 = .ok (.ifCond .ne 27, 3) := by decide +kernel
theorem dX6_point_69 : decode cX6_point 69 = .ok (.aload 9, 2) := by decide +kernel
theorem dX6_point_71 : decode cX6_point 71 = .ok (.getfield 77, 3) := by decide +kernel
theorem dX6_point_74 : decode cX6_point 74 = .ok (.dload 5, 2) := by decide +kernel
theorem dX6_point_76 : decode cX6_point 76 = .ok (.dcmp .l, 1) := by decide +kernel
theorem dX6_point_77 : decode cX6_point 77 = .ok (.ifCond .ne 16, 3) := by decide +kernel
theorem dX6_point_80 : decode cX6_point 80 = .ok (.aload 9, 2) := by decide +kernel
theorem dX6_point_82 : decode cX6_point 82 = .ok (.getfield 80, 3) := by decide +kernel
theorem dX6_point_85 : decode cX6_point 85 = .ok (.dload 7, 2) := by decide +kernel
theorem dX6_point_87 : decode cX6_point 87 = .ok (.dcmp .l, 1) := by decide +kernel
theorem dX6_point_88 : decode cX6_point 88 = .ok (.ifCond .ne 5, 3) := by decide +kernel
theorem dX6_point_91 : decode cX6_point 91 = .ok (.iconst 0, 1) := by decide +kernel
theorem dX6_point_92 : decode cX6_point 92 = .ok (.ireturn, 1) := by decide +kernel
theorem dX6_point_93 : decode cX6_point 93 = .ok (.aload 9, 2) := by decide +kernel
theorem dX6_point_95 : decode cX6_point 95 = .ok (.dload_n 3, 1) := by decide +kernel
theorem dX6_point_96 : decode cX6_point 96 = .ok (.putfield 71, 3) := by decide +kernel
theorem dX6_point_99 : decode cX6_point 99 = .ok (.aload 9, 2) := by decide +kernel
theorem dX6_point_101 : decode cX6_point 101 = .ok (.dload 5, 2) := by decide +kernel
theorem dX6_point_103 : decode cX6_point 103 = .ok (.putfield 77, 3) := by decide +kernel
theorem dX6_point_106 : decode cX6_point 106 = .ok (.aload 9, 2) := by decide +kernel
theorem dX6_point_108 : decode cX6_point 108 = .ok (.dload 7, 2) := by decide +kernel
theorem dX6_point_110 : decode cX6_point 110 = .ok (.putfield 80, 3) := by decide +kernel
theorem dX6_point_113 : decode cX6_point 113 = .ok (.aload_n 0, 1) := by decide +kernel
theorem dX6_point_114 : decode cX6_point 114 = .ok (.getfield 28, 3) := by decide +kernel
theorem dX6_point_117 : decode cX6_point 117 = .ok (.astore 10, 2) := by decide +kernel
theorem dX6_point_119 : decode cX6_point 119 = .ok (.aload 10, 2) := by decide +kernel
theorem dX6_point_121 : decode cX6_point 121 = .ok (.arraylength, 1) := by decide +kernel
theorem dX6_point_122 : decode cX6_point 122 = .ok (.istore 11, 2) := by decide +kernel
theorem dX6_point_124 : decode cX6_point 124 = .ok (.iconst 0, 1) := by decide +kernel
theorem dX6_point_125 : decode cX6_point 125 = .ok (.istore 12, 2) := by decide +kernel
theorem dX6_point_127 : decode cX6_point 127 = .ok (.iload 12, 2) := by decide +kernel
theorem dX6_point_129 : decode cX6_point 129 = .ok (.iload 11, 2) := by decide +kernel
theorem dX6_point_131 : decode cX6_point 131 = .ok (.if_icmp .ge 21, 3) := by decide +kernel
theorem dX6_point_134 : decode cX6_point 134 = .ok (.aload 10, 2) := by decide +kernel
theorem dX6_point_136 : decode cX6_point 136 = .ok (.iload 12, 2) := by decide +kernel
theorem dX6_point_138 : decode cX6_point 138 = .ok (.aaload, 1) := by decide +kernel
theorem dX6_point_139 : decode cX6_point 139 = .ok (.astore 13, 2) := by decide +kernel
theorem dX6_point_141 : decode cX6_point 141 = .ok (.aload 13, 2) := by decide +kernel
theorem dX6_point_143 : decode cX6_point 143 = .ok (.invokevirtual 83, 3) := by decide +kernel
theorem dX6_point_146 : decode cX6_point 146 = .ok (.iinc 12 1, 3) := by decide +kernel
theorem dX6_point_149 : decode cX6_point 149 = .ok (.goto (-22), 3) := by decide +kernel
theorem dX6_point_152 : decode cX6_point 152 = .ok (.iconst 1, 1) := by decide +kernel
theorem dX6_point_153 : decode cX6_point 153 = .ok (.ireturn, 1) := by decide +kernel
abbrev rm_X6_point : Room := { frames := 10, cells := 20, slots := 150, locals := 400 }
theorem hw_X6_point_1 : (Cond.classLink RX6 64 "java/lang/IllegalArgumentException") ∈ wsX6_point := List.mem_of_getElem? (i := 1) rfl
theorem hw_X6_point_2 : (Cond.initialized "java/lang/IllegalArgumentException") ∈ wsX6_point := List.mem_of_getElem? (i := 2) rfl
theorem hw_X6_point_3 : (Cond.constantDouble RX6 56 (13875379345695965184)) ∈ wsX6_point := List.mem_of_getElem? (i := 3) rfl
theorem hw_X6_point_4 : (Cond.constantDouble RX6 58 (4652007308841189376)) ∈ wsX6_point := List.mem_of_getElem? (i := 4) rfl
theorem hw_X6_point_5 : (Cond.fieldLink RX6 71 "PlankUnroll$Place" "x" "D") ∈ wsX6_point := List.mem_of_getElem? (i := 5) rfl
theorem hw_X6_point_6 : (Cond.fieldLink RX6 77 "PlankUnroll$Place" "y" "D") ∈ wsX6_point := List.mem_of_getElem? (i := 6) rfl
theorem hw_X6_point_7 : (Cond.fieldLink RX6 80 "PlankUnroll$Place" "z" "D") ∈ wsX6_point := List.mem_of_getElem? (i := 7) rfl
theorem hw_X6_point_8 : (Cond.fieldLink RX6 28 "PlankUnroll" "strips" "[LPlankUnroll$Strip;") ∈ wsX6_point := List.mem_of_getElem? (i := 8) rfl
theorem in_X6_point_X3 : ∀ w ∈ wsX30, w ∈ wsX6_point := by decide +kernel
theorem in_X6_point_X6 : ∀ w ∈ wsX60, w ∈ wsX6_point := by decide +kernel
theorem ht_X6_point_1 : ∀ w ∈ (vx_atS RX6 68 "java/lang/IllegalArgumentException" ["java/lang/RuntimeException", "java/lang/Exception"]).filter goodWord, w ∈ wsX6_point := by decide +kernel
set_option maxHeartbeats 4000000 in
set_option maxRecDepth 100000 in
/-- point -/
theorem c_X6_point {l : Launch} {G : va_G} {ty : Nat → ClassId} {b0 : Nat} {H : Heap} (hfl : l.stackTraces = false) {ad : Nat → Nat} {F R nb : Nat} {pl wi hi fa : Nat → UInt64} {un bu lo la : Nat → Int32} {cx cy bx : Nat → Nat → UInt64} {nf : Nat → Nat} {K0 : Heap} (hX : xCla G ty ad F R pl un cx cy bu nb wi hi nf fa lo la bx K0 H) (hW : xWf F R nb nf ad b0) {f r : Int32} {x y z ex ey ez : UInt64} (hx9 : vq x ex) (hy9 : vq y ey) (hz9 : vq z ez) : xMet l yX6_point wsX6_point rm_X6_point G ty b0 [.ref (ad 0), .int (f), .int (r), .double x, .double y, .double z] H (fun v H1 => (vp_in f F ∧ vp_in r R) ∧ (pBetween ex 13875379345695965184 4652007308841189376 = true ∧ pBetween ey 13875379345695965184 4652007308841189376 = true ∧ pBetween ez 13875379345695965184 4652007308841189376 = true) ∧ ∃ (pl1 : Nat → UInt64) (un1 lo1 la1 : Nat → Int32), xCla G ty ad F R pl1 un1 cx cy bu nb wi hi nf fa lo1 la1 bx K0 H1 ∧ ((pNew pl f.toNatClampNeg r.toNatClampNeg ex ey ez ∧ v = some (.int (nI 1)) ∧ pl1 = vf_upd (vf_upd (vf_upd pl ((3 * (8 * f.toNatClampNeg + r.toNatClampNeg)) + 0) x) ((3 * (8 * f.toNatClampNeg + r.toNatClampNeg)) + 1) y) ((3 * (8 * f.toNatClampNeg + r.toNatClampNeg)) + 2) z ∧ ∀ j : Nat, j < R - 1 → un1 j = nI 0 ∧ lo1 j = (-1) ∧ la1 j = (-1)) ∨ (¬ pNew pl f.toNatClampNeg r.toNatClampNeg ex ey ez ∧ v = some (.int (nI 0)) ∧ pl1 = pl ∧ un1 = un ∧ lo1 = lo ∧ la1 = la))) (fun E H1 => (E = "java/lang/IndexOutOfBoundsException" ∧ ¬ (vp_in f F ∧ vp_in r R) ∧ xext H H1) ∨ (E = "java/lang/IllegalArgumentException" ∧ (vp_in f F ∧ vp_in r R) ∧ ¬ (pBetween ex 13875379345695965184 4652007308841189376 = true ∧ pBetween ey 13875379345695965184 4652007308841189376 = true ∧ pBetween ez 13875379345695965184 4652007308841189376 = true) ∧ xext H H1)) := by
  refine xbody (cc := cX6_point) (maxL := 14) (ret := (some .boolean)) (C := RX6) (lv := [(0, .ref (ad 0)), (1, .int (f)), (2, .int (r)), (3, .double x), (5, .double y), (7, .double z)]) (by decide) rfl rfl (Nat.le_of_ble_eq_true rfl) rfl ?_
  intro p e s m below meth c d0 hx hb hr hts hown hlocks hml hxt hnm0 hK hb0 hH0 hS hd0 ls hl
  obtain ⟨⟨zF2, zF8⟩, ⟨zR2, zR8⟩⟩ := id hW.1
  have zB4 := hW.2.1
  refine lv_aload_n hx hb dX6_point_0 rfl (lv_at hl 0 rfl) ?_
  refine lv_iload_n hx hb dX6_point_1 rfl (lv_at hl 1 rfl) ?_
  refine lv_iload_n hx hb dX6_point_2 rfl (lv_at hl 2 rfl) ?_
  have cw_1 := cwV (R := rm_X6_point) (rm := rm_X6_placeAt) 2 (hts d0) gX6_point_X6_placeAt rfl rfl rfl (by decide +kernel) ⟨Nat.le_of_ble_eq_true rfl, Nat.le_of_ble_eq_true rfl⟩
  refine xcall hd0 (xintoV (b := (ad 0)) (As := [.int (f), .int (r)]) (rest := []) ⟨hx, hb, hml, hown, hts _⟩ cw_1 (va_recv hK.1 (x1 (hX.o_)) (ci := 7) (q0 := 0) rfl rfl) rfl rfl hl.1 rfl (lv_room (Nat.le_of_ble_eq_true rfl)) dX6_point_3) (c_X6_placeAt (l := l) (G := G) (ty := ty) (b0 := b0) hfl hX hW (f := f) (r := r)) (xoweB cw_1.1) hK hb0 hS (Nat.le_of_ble_eq_true rfl) (Nat.le_of_ble_eq_true rfl) (fun E_1 ce_1 q9_1 H_1 locs_1 d0 hd0 hp_1 hS hce_1 hcv_1 hcl_1 => ?_) (fun v_1 H_1 locs_1 d0 hd0 hp_1 hS => ?_)
  · exact xout hd0 hxt hlocks hce_1 hcv_1 hcl_1 hS (Nat.le_of_ble_eq_true rfl) (Nat.le_of_ble_eq_true rfl) (Or.inl ⟨hp_1.1, hp_1.2.1, hp_1.2.2⟩)
  · obtain ⟨rfl, ⟨z_f, z_r⟩, hv_1⟩ := hp_1
    obtain ⟨f9, hf9, ef9⟩ := vp_in_of z_f (by omega)
    obtain ⟨r9, hr9, er9⟩ := vp_in_of z_r (by omega)
    subst ef9 er9
    rw [nN_nI (show f9 < 2 ^ 31 by omega), nN_nI (show r9 < 2 ^ 31 by omega)] at hv_1
    subst hv_1
    show W p l e _ (s.setDrawn _) m _ below meth c _ _ _ _ _ (F0 m 6 ls [.ref (ad (100 + 8 * r9 + f9))])
    refine lv_astore (lv' := [(9, .ref (ad (100 + 8 * r9 + f9))), (0, .ref (ad 0)), (1, .int (nI f9)), (2, .int (nI r9)), (3, .double x), (5, .double y), (7, .double z)]) hx hb dX6_point_6 hl (by decide) rfl (fun ls hl => ?_)
    refine lv_dload_n hx hb dX6_point_8 rfl (lv_at hl 4 rfl) ?_
    refine lv_ldc2d hx hb hown (hts d0 _ hw_X6_point_3) dX6_point_9 ?_
    refine lv_ldc2d hx hb hown (hts d0 _ hw_X6_point_4) dX6_point_12 ?_
    have cw_2 := va_cwS (R := rm_X6_point) (rm := rm_X6_within) 3 (hts d0) gX6_point_X6_within rfl rfl rfl (by decide +kernel) ⟨Nat.le_of_ble_eq_true rfl, Nat.le_of_ble_eq_true rfl⟩
    refine xcall hd0 (xintoS (As := [.double x, .double 13875379345695965184, .double 4652007308841189376]) (rest := []) ⟨hx, hb, hml, hown, hts _⟩ cw_2 rfl rfl hl.1 rfl (lv_room (Nat.le_of_ble_eq_true rfl)) dX6_point_15) (c_X6_within (l := l) (G := G) (ty := ty) (b0 := b0) hx9 (vq_rf _) (vq_rf _)) (xoweB cw_2.1) hK hb0 hS (Nat.le_of_ble_eq_true rfl) (Nat.le_of_ble_eq_true rfl) (fun E_2 ce_2 q9_2 H_2 locs_2 d0 hd0 hp_2 hS hce_2 hcv_2 hcl_2 => ?_) (fun v_2 H_2 locs_2 d0 hd0 hp_2 hS => ?_)
    · exact hp_2.elim
    · obtain ⟨rfl, rfl⟩ := hp_2
      show W p l e _ (s.setDrawn _) m _ below meth c _ _ _ _ _ (F0 m 18 ls [.int (xB (pBetween ex 13875379345695965184 4652007308841189376))])
      refine lv_if_eq (tgt := 49) hx hb dX6_point_18 (by decide) (fun c_3 => ?_) (fun c_3 => ?_)
      · exact xthrowS hfl hd0 hx hb hown hlocks hxt hml hl.1 hts (by decide +kernel) hw_X6_point_1 hw_X6_point_2 ht_X6_point_1 xthrow_ok1 xthrow_gd1 (List.mem_of_getElem? (i := 0) rfl) hK hS dX6_point_49 dX6_point_52 dX6_point_53 dX6_point_55 dX6_point_58 (Nat.le_of_ble_eq_true rfl) (Nat.le_of_ble_eq_true rfl) (Nat.le_of_ble_eq_true rfl) (Nat.le_of_ble_eq_true rfl) (Nat.le_of_ble_eq_true rfl) (Nat.le_of_ble_eq_true rfl) (fun H1 h9 => Or.inr ⟨rfl, ⟨z_f, z_r⟩, fun z => xtf z.1 (xB_f c_3), h9⟩)
      · refine lv_dload hx hb dX6_point_21 (lv_at hl 5 rfl) ?_
        refine lv_ldc2d hx hb hown (hts d0 _ hw_X6_point_3) dX6_point_23 ?_
        refine lv_ldc2d hx hb hown (hts d0 _ hw_X6_point_4) dX6_point_26 ?_
        have cw_4 := va_cwS (R := rm_X6_point) (rm := rm_X6_within) 3 (hts d0) gX6_point_X6_within rfl rfl rfl (by decide +kernel) ⟨Nat.le_of_ble_eq_true rfl, Nat.le_of_ble_eq_true rfl⟩
        refine xcall hd0 (xintoS (As := [.double y, .double 13875379345695965184, .double 4652007308841189376]) (rest := []) ⟨hx, hb, hml, hown, hts _⟩ cw_4 rfl rfl hl.1 rfl (lv_room (Nat.le_of_ble_eq_true rfl)) dX6_point_29) (c_X6_within (l := l) (G := G) (ty := ty) (b0 := b0) hy9 (vq_rf _) (vq_rf _)) (xoweB cw_4.1) hK hb0 hS (Nat.le_of_ble_eq_true rfl) (Nat.le_of_ble_eq_true rfl) (fun E_4 ce_4 q9_4 H_4 locs_4 d0 hd0 hp_4 hS hce_4 hcv_4 hcl_4 => ?_) (fun v_4 H_4 locs_4 d0 hd0 hp_4 hS => ?_)
        · exact hp_4.elim
        · obtain ⟨rfl, rfl⟩ := hp_4
          show W p l e _ (s.setDrawn _) m _ below meth c _ _ _ _ _ (F0 m 32 ls [.int (xB (pBetween ey 13875379345695965184 4652007308841189376))])
          refine lv_if_eq (tgt := 49) hx hb dX6_point_32 (by decide) (fun c_5 => ?_) (fun c_5 => ?_)
          · exact xthrowS hfl hd0 hx hb hown hlocks hxt hml hl.1 hts (by decide +kernel) hw_X6_point_1 hw_X6_point_2 ht_X6_point_1 xthrow_ok1 xthrow_gd1 (List.mem_of_getElem? (i := 0) rfl) hK hS dX6_point_49 dX6_point_52 dX6_point_53 dX6_point_55 dX6_point_58 (Nat.le_of_ble_eq_true rfl) (Nat.le_of_ble_eq_true rfl) (Nat.le_of_ble_eq_true rfl) (Nat.le_of_ble_eq_true rfl) (Nat.le_of_ble_eq_true rfl) (Nat.le_of_ble_eq_true rfl) (fun H1 h9 => Or.inr ⟨rfl, ⟨z_f, z_r⟩, fun z => xtf z.2.1 (xB_f c_5), h9⟩)
          · refine lv_dload hx hb dX6_point_35 (lv_at hl 6 rfl) ?_
            refine lv_ldc2d hx hb hown (hts d0 _ hw_X6_point_3) dX6_point_37 ?_
            refine lv_ldc2d hx hb hown (hts d0 _ hw_X6_point_4) dX6_point_40 ?_
            have cw_6 := va_cwS (R := rm_X6_point) (rm := rm_X6_within) 3 (hts d0) gX6_point_X6_within rfl rfl rfl (by decide +kernel) ⟨Nat.le_of_ble_eq_true rfl, Nat.le_of_ble_eq_true rfl⟩
            refine xcall hd0 (xintoS (As := [.double z, .double 13875379345695965184, .double 4652007308841189376]) (rest := []) ⟨hx, hb, hml, hown, hts _⟩ cw_6 rfl rfl hl.1 rfl (lv_room (Nat.le_of_ble_eq_true rfl)) dX6_point_43) (c_X6_within (l := l) (G := G) (ty := ty) (b0 := b0) hz9 (vq_rf _) (vq_rf _)) (xoweB cw_6.1) hK hb0 hS (Nat.le_of_ble_eq_true rfl) (Nat.le_of_ble_eq_true rfl) (fun E_6 ce_6 q9_6 H_6 locs_6 d0 hd0 hp_6 hS hce_6 hcv_6 hcl_6 => ?_) (fun v_6 H_6 locs_6 d0 hd0 hp_6 hS => ?_)
            · exact hp_6.elim
            · obtain ⟨rfl, rfl⟩ := hp_6
              show W p l e _ (s.setDrawn _) m _ below meth c _ _ _ _ _ (F0 m 46 ls [.int (xB (pBetween ez 13875379345695965184 4652007308841189376))])
              refine lv_if_ne (tgt := 59) hx hb dX6_point_46 (by decide) (fun c_7 => ?_) (fun c_7 => ?_)
              · have z9 : (pBetween ex 13875379345695965184 4652007308841189376 = true ∧ pBetween ey 13875379345695965184 4652007308841189376 = true ∧ pBetween ez 13875379345695965184 4652007308841189376 = true) := ⟨xB_t c_3, xB_t c_5, xB_t c_7⟩
                by_cases hnew : (pNew pl f9 r9 ex ey ez)
                · have J_8 : ∀ (locs : List Loc) (d0 : Drawn) (ls : Array Slot), va_S (xA b0) s.heap H locs → s.drawn.sameBut d0 lw_cs → lv_has ls 14 [(0, .ref (ad 0)), (3, .double x), (5, .double y), (7, .double z), (9, .ref (ad (100 + 8 * r9 + f9)))] → W p l e rm_X6_point (s.setDrawn d0) m [Value.ref (ad 0), Value.int ((nI f9)), Value.int ((nI r9)), Value.double x, Value.double y, Value.double z].toArray below meth c H locs (0 + rm_X6_placeAt.cells + rm_X6_within.cells + rm_X6_within.cells + rm_X6_within.cells) (0 + rm_X6_placeAt.slots + rm_X6_within.slots + rm_X6_within.slots + rm_X6_within.slots) (xMQ below (fun v H1 => (vp_in (nI f9) F ∧ vp_in (nI r9) R) ∧ (pBetween ex 13875379345695965184 4652007308841189376 = true ∧ pBetween ey 13875379345695965184 4652007308841189376 = true ∧ pBetween ez 13875379345695965184 4652007308841189376 = true) ∧ ∃ (pl1 : Nat → UInt64) (un1 lo1 la1 : Nat → Int32), xCla G ty ad F R pl1 un1 cx cy bu nb wi hi nf fa lo1 la1 bx K0 H1 ∧ ((pNew pl (nI f9).toNatClampNeg (nI r9).toNatClampNeg ex ey ez ∧ v = some (.int (nI 1)) ∧ pl1 = vf_upd (vf_upd (vf_upd pl ((3 * (8 * (nI f9).toNatClampNeg + (nI r9).toNatClampNeg)) + 0) x) ((3 * (8 * (nI f9).toNatClampNeg + (nI r9).toNatClampNeg)) + 1) y) ((3 * (8 * (nI f9).toNatClampNeg + (nI r9).toNatClampNeg)) + 2) z ∧ ∀ j : Nat, j < R - 1 → un1 j = nI 0 ∧ lo1 j = (-1) ∧ la1 j = (-1)) ∨ (¬ pNew pl (nI f9).toNatClampNeg (nI r9).toNatClampNeg ex ey ez ∧ v = some (.int (nI 0)) ∧ pl1 = pl ∧ un1 = un ∧ lo1 = lo ∧ la1 = la))) (fun E H1 => (E = "java/lang/IndexOutOfBoundsException" ∧ ¬ (vp_in (nI f9) F ∧ vp_in (nI r9) R) ∧ xext H H1) ∨ (E = "java/lang/IllegalArgumentException" ∧ (vp_in (nI f9) F ∧ vp_in (nI r9) R) ∧ ¬ (pBetween ex 13875379345695965184 4652007308841189376 = true ∧ pBetween ey 13875379345695965184 4652007308841189376 = true ∧ pBetween ez 13875379345695965184 4652007308841189376 = true) ∧ xext H H1)) [.ref (ad 0), .int ((nI f9)), .int ((nI r9)), .double x, .double y, .double z].toArray s rm_X6_point b0) (F0 m 93 ls []) := by
                    intro locs d0 ls hS hd0 hl
                    refine lv_aload hx hb dX6_point_93 (lv_at hl 4 rfl) ?_
                    refine lv_dload_n hx hb dX6_point_95 rfl (lv_at hl 1 rfl) ?_
                    refine xput (G := G) (ci := 4) (v := .double x) (ty := .double) (C := RX3) (T := TX3) (N := 3) hx hb (hts d0) in_X6_point_X3 tyX3 tyX3_ok nmX3 hown hK.1 (hX.place_ _ (by omega) _ (by omega)) hS (hW.2.2.2.1 _ (xU_place (by omega) (by omega))) rfl 0 (by decide) (hts d0 _ hw_X6_point_5) (fun _ h9 => h9) rfl (by decide +kernel) rfl rfl (Nat.le_of_ble_eq_true rfl) dX6_point_96 (fun H_9 locs_9 hs_9 hS => ?_)
                    have hX_9 : xCla G ty ad F R (vf_upd pl (3 * (8 * f9 + r9) + 0) x) un cx cy bu nb wi hi nf fa lo la bx K0 H_9 := hX.put_p0 (by omega) (by omega) hW hs_9
                    refine lv_aload hx hb dX6_point_99 (lv_at hl 4 rfl) ?_
                    refine lv_dload hx hb dX6_point_101 (lv_at hl 2 rfl) ?_
                    refine xput (G := G) (ci := 4) (v := .double y) (ty := .double) (C := RX3) (T := TX3) (N := 3) hx hb (hts d0) in_X6_point_X3 tyX3 tyX3_ok nmX3 hown hK.1 (hX_9.place_ _ (by omega) _ (by omega)) hS (hW.2.2.2.1 _ (xU_place (by omega) (by omega))) rfl 1 (by decide) (hts d0 _ hw_X6_point_6) (fun _ h9 => h9) rfl (by decide +kernel) rfl rfl (Nat.le_of_ble_eq_true rfl) dX6_point_103 (fun H_10 locs_10 hs_10 hS => ?_)
                    have hX_10 : xCla G ty ad F R (vf_upd (vf_upd pl (3 * (8 * f9 + r9) + 0) x) (3 * (8 * f9 + r9) + 1) y) un cx cy bu nb wi hi nf fa lo la bx K0 H_10 := hX_9.put_p1 (by omega) (by omega) hW hs_10
                    refine lv_aload hx hb dX6_point_106 (lv_at hl 4 rfl) ?_
                    refine lv_dload hx hb dX6_point_108 (lv_at hl 3 rfl) ?_
                    refine xput (G := G) (ci := 4) (v := .double z) (ty := .double) (C := RX3) (T := TX3) (N := 3) hx hb (hts d0) in_X6_point_X3 tyX3 tyX3_ok nmX3 hown hK.1 (hX_10.place_ _ (by omega) _ (by omega)) hS (hW.2.2.2.1 _ (xU_place (by omega) (by omega))) rfl 2 (by decide) (hts d0 _ hw_X6_point_7) (fun _ h9 => h9) rfl (by decide +kernel) rfl rfl (Nat.le_of_ble_eq_true rfl) dX6_point_110 (fun H_11 locs_11 hs_11 hS => ?_)
                    have hX_11 : xCla G ty ad F R (vf_upd (vf_upd (vf_upd pl (3 * (8 * f9 + r9) + 0) x) (3 * (8 * f9 + r9) + 1) y) (3 * (8 * f9 + r9) + 2) z) un cx cy bu nb wi hi nf fa lo la bx K0 H_11 := hX_10.put_p2 (by omega) (by omega) hW hs_11
                    refine lv_aload_n hx hb dX6_point_113 rfl (lv_at hl 0 rfl) ?_
                    refine va_get (D := G) (cl := vwCl) (ci := 7) (v := .ref (ad 2)) (C := RX6) (T := TX6) (N := 6) hx hb (hts d0) in_X6_point_X6 hown hK.1 (x1 (hX_11.o_)) 0 rfl rfl 2 (by decide) (hts d0 _ hw_X6_point_8) (fun _ h9 => h9) rfl dX6_point_114 ?_
                    refine lv_astore (lv' := [(10, .ref (ad 2)), (0, .ref (ad 0)), (3, .double x), (5, .double y), (7, .double z), (9, .ref (ad (100 + 8 * r9 + f9)))]) hx hb dX6_point_117 hl (by decide) rfl (fun ls hl => ?_)
                    refine lv_aload hx hb dX6_point_119 (lv_at hl 0 rfl) ?_
                    refine xalen hx hb hK.1 6 (hX_11.strips_) rfl dX6_point_121 ?_
                    refine lv_istore (lv' := [(11, .int (nI (R - 1))), (10, .ref (ad 2)), (0, .ref (ad 0)), (3, .double x), (5, .double y), (7, .double z), (9, .ref (ad (100 + 8 * r9 + f9)))]) hx hb dX6_point_122 hl (by decide) rfl (fun ls hl => ?_)
                    refine lv_iconst (v := nI 0) hx hb dX6_point_124 (by decide) ?_
                    refine lv_istore (lv' := [(12, .int (nI 0)), (11, .int (nI (R - 1))), (10, .ref (ad 2)), (0, .ref (ad 0)), (3, .double x), (5, .double y), (7, .double z), (9, .ref (ad (100 + 8 * r9 + f9)))]) hx hb dX6_point_125 hl (by decide) rfl (fun ls hl => ?_)
                    suffices K : ∀ (n : Nat) (k : Nat) (un9 lo9 la9 : Nat → Int32) (H9 : Heap) (locs : List Loc) (d0 : Drawn) (ls : Array Slot), (k + n = R - 1 ∧ (∀ j : Nat, j < k → un9 j = nI 0) ∧ (∀ j : Nat, j < k → lo9 j = (-1)) ∧ ∀ j : Nat, j < k → la9 j = (-1)) → xCla G ty ad F R (vf_upd (vf_upd (vf_upd pl (3 * (8 * f9 + r9) + 0) x) (3 * (8 * f9 + r9) + 1) y) (3 * (8 * f9 + r9) + 2) z) un9 cx cy bu nb wi hi nf fa lo9 la9 bx K0 H9 → va_S (xA b0) s.heap H9 locs → s.drawn.sameBut d0 lw_cs → lv_has ls 14 [(12, .int (nI k)), (10, .ref (ad 2)), (11, .int (nI (R - 1)))] → W p l e rm_X6_point (s.setDrawn d0) m [Value.ref (ad 0), Value.int ((nI f9)), Value.int ((nI r9)), Value.double x, Value.double y, Value.double z].toArray below meth c H9 locs (0 + rm_X6_placeAt.cells + rm_X6_within.cells + rm_X6_within.cells + rm_X6_within.cells) (0 + rm_X6_placeAt.slots + rm_X6_within.slots + rm_X6_within.slots + rm_X6_within.slots) (xMQ below (fun v H1 => (vp_in (nI f9) F ∧ vp_in (nI r9) R) ∧ (pBetween ex 13875379345695965184 4652007308841189376 = true ∧ pBetween ey 13875379345695965184 4652007308841189376 = true ∧ pBetween ez 13875379345695965184 4652007308841189376 = true) ∧ ∃ (pl1 : Nat → UInt64) (un1 lo1 la1 : Nat → Int32), xCla G ty ad F R pl1 un1 cx cy bu nb wi hi nf fa lo1 la1 bx K0 H1 ∧ ((pNew pl (nI f9).toNatClampNeg (nI r9).toNatClampNeg ex ey ez ∧ v = some (.int (nI 1)) ∧ pl1 = vf_upd (vf_upd (vf_upd pl ((3 * (8 * (nI f9).toNatClampNeg + (nI r9).toNatClampNeg)) + 0) x) ((3 * (8 * (nI f9).toNatClampNeg + (nI r9).toNatClampNeg)) + 1) y) ((3 * (8 * (nI f9).toNatClampNeg + (nI r9).toNatClampNeg)) + 2) z ∧ ∀ j : Nat, j < R - 1 → un1 j = nI 0 ∧ lo1 j = (-1) ∧ la1 j = (-1)) ∨ (¬ pNew pl (nI f9).toNatClampNeg (nI r9).toNatClampNeg ex ey ez ∧ v = some (.int (nI 0)) ∧ pl1 = pl ∧ un1 = un ∧ lo1 = lo ∧ la1 = la))) (fun E H1 => (E = "java/lang/IndexOutOfBoundsException" ∧ ¬ (vp_in (nI f9) F ∧ vp_in (nI r9) R) ∧ xext H H1) ∨ (E = "java/lang/IllegalArgumentException" ∧ (vp_in (nI f9) F ∧ vp_in (nI r9) R) ∧ ¬ (pBetween ex 13875379345695965184 4652007308841189376 = true ∧ pBetween ey 13875379345695965184 4652007308841189376 = true ∧ pBetween ez 13875379345695965184 4652007308841189376 = true) ∧ xext H H1)) [.ref (ad 0), .int ((nI f9)), .int ((nI r9)), .double x, .double y, .double z].toArray s rm_X6_point b0) (F0 m 127 ls []) from K (R - 1) 0 un lo la H_11 _ d0 ls ⟨by omega, fun _ h => absurd h (Nat.not_lt_zero _), fun _ h => absurd h (Nat.not_lt_zero _), fun _ h => absurd h (Nat.not_lt_zero _)⟩ hX_11 hS hd0 (lv_sub hl [0, 2, 1] rfl)
                    intro n
                    induction n with
                    | zero =>
                      intro k un9 lo9 la9 H9 locs d0 ls hinv hX9 hS hd0 hl
                      obtain ⟨hk, hu, ho, ha⟩ := hinv
                      refine lv_iload hx hb dX6_point_127 (lv_at hl 0 rfl) ?_
                      refine lv_iload hx hb dX6_point_129 (lv_at hl 2 rfl) ?_
                      refine xicmpN_ge (tgt := 152) hx hb (by omega) (by omega) dX6_point_131 (by decide) (fun _ => ?_) (fun h9 => absurd h9 (by omega))
                      refine lv_iconst (v := nI 1) hx hb dX6_point_152 (by decide) ?_
                      exact xzret (by decide) hd0 hx hb hr hlocks hS (Nat.le_of_ble_eq_true rfl) (Nat.le_of_ble_eq_true rfl) dX6_point_153 ⟨⟨z_f, z_r⟩, z9, _, _, _, _, hX9, by rw [nN_nI (show f9 < 2 ^ 31 by omega), nN_nI (show r9 < 2 ^ 31 by omega)]; exact Or.inl ⟨hnew, rfl, rfl, fun j hj => ⟨hu j (by omega), ho j (by omega), ha j (by omega)⟩⟩⟩
                    | succ n ih =>
                      intro k un9 lo9 la9 H9 locs d0 ls hinv hX9 hS hd0 hl
                      obtain ⟨hk, hu, ho, ha⟩ := hinv
                      refine lv_iload hx hb dX6_point_127 (lv_at hl 0 rfl) ?_
                      refine lv_iload hx hb dX6_point_129 (lv_at hl 2 rfl) ?_
                      refine xicmpN_ge (tgt := 152) hx hb (by omega) (by omega) dX6_point_131 (by decide) (fun h9 => absurd h9 (by omega)) (fun _ => ?_)
                      refine lv_aload hx hb dX6_point_134 (lv_at hl 1 rfl) ?_
                      refine lv_iload hx hb dX6_point_136 (lv_at hl 0 rfl) ?_
                      refine xaald (j := k) hx hb hK.1 6 (hX9.strips_) rfl (xix_of (by omega) (by omega)) rfl dX6_point_138 ?_
                      refine lv_astore (lv' := [(13, .ref (ad (30 + k))), (12, .int (nI k)), (10, .ref (ad 2)), (11, .int (nI (R - 1)))]) hx hb dX6_point_139 hl (by decide) rfl (fun ls hl => ?_)
                      refine lv_aload hx hb dX6_point_141 (lv_at hl 0 rfl) ?_
                      have cw_14 := cwV (R := rm_X6_point) (rm := rm_X5_forget) 0 (hts d0) gX6_point_X5_forget rfl rfl rfl (by decide +kernel) ⟨Nat.le_of_ble_eq_true rfl, Nat.le_of_ble_eq_true rfl⟩
                      refine xcall hd0 (xintoV (b := (ad (30 + k))) (As := []) (rest := []) ⟨hx, hb, hml, hown, hts _⟩ cw_14 (va_recv hK.1 (x1 (hX9.strip_ _ (by omega))) (ci := 6) (q0 := 0) rfl rfl) rfl rfl hl.1 rfl (lv_room (Nat.le_of_ble_eq_true rfl)) dX6_point_143) (c_X5_forget (l := l) (G := G) (ty := ty) (b0 := b0) hX9 hW (i := k) (by omega)) (xoweB cw_14.1) hK hb0 hS (Nat.le_of_ble_eq_true rfl) (Nat.le_of_ble_eq_true rfl) (fun E_14 ce_14 q9_14 H_14 locs_14 d0 hd0 hp_14 hS hce_14 hcv_14 hcl_14 => ?_) (fun v_14 H_14 locs_14 d0 hd0 hp_14 hS => ?_)
                      · exact hp_14.elim
                      · obtain ⟨rfl, hX_14⟩ := hp_14
                        show W p l e _ (s.setDrawn _) m _ below meth c _ _ _ _ _ (F0 m 146 ls [])
                        refine xiincN (x := k) (y := 1) (lv' := [(12, .int (nI (k + 1))), (13, .ref (ad (30 + k))), (10, .ref (ad 2)), (11, .int (nI (R - 1)))]) hx hb dX6_point_146 hl (k := 1) rfl (by decide) (by decide) rfl (fun ls hl => ?_)
                        refine lv_goto (tgt := 127) hx hb dX6_point_149 (by decide) ?_
                        exact ih (k + 1) (upd un9 k (nI 0)) (upd lo9 k (-1)) (upd la9 k (-1)) H_14 _ d0 ls ⟨by omega, xupd_in hu, xupd_in ho, xupd_in ha⟩ hX_14 hS hd0 (lv_sub hl [0, 2, 3] rfl)
                  refine lv_aload hx hb dX6_point_59 (lv_at hl 0 rfl) ?_
                  refine va_get (D := G) (cl := vwCl) (ci := 4) (v := .double (pAt pl f9 r9 0)) (C := RX3) (T := TX3) (N := 3) hx hb (hts d0) in_X6_point_X3 hown hK.1 (x1 (hX.place_ _ (by omega) _ (by omega))) 0 rfl rfl 0 (by decide) (hts d0 _ hw_X6_point_5) (fun _ h9 => h9) rfl dX6_point_61 ?_
                  refine lv_dload_n hx hb dX6_point_64 rfl (lv_at hl 4 rfl) ?_
                  refine xcmp_l_ne (tgt := 93) hx hb (vq_rf _) hx9 dX6_point_65 dX6_point_66 (by decide) (fun c_15 => ?_) (fun c_15 => ?_)
                  · exact J_8 _ d0 ls hS hd0 (lv_sub hl [1, 4, 5, 6, 0] rfl)
                  · refine lv_aload hx hb dX6_point_69 (lv_at hl 0 rfl) ?_
                    refine va_get (D := G) (cl := vwCl) (ci := 4) (v := .double (pAt pl f9 r9 1)) (C := RX3) (T := TX3) (N := 3) hx hb (hts d0) in_X6_point_X3 hown hK.1 (x1 (hX.place_ _ (by omega) _ (by omega))) 0 rfl rfl 1 (by decide) (hts d0 _ hw_X6_point_6) (fun _ h9 => h9) rfl dX6_point_71 ?_
                    refine lv_dload hx hb dX6_point_74 (lv_at hl 5 rfl) ?_
                    refine xcmp_l_ne (tgt := 93) hx hb (vq_rf _) hy9 dX6_point_76 dX6_point_77 (by decide) (fun c_16 => ?_) (fun c_16 => ?_)
                    · exact J_8 _ d0 ls hS hd0 (lv_sub hl [1, 4, 5, 6, 0] rfl)
                    · refine lv_aload hx hb dX6_point_80 (lv_at hl 0 rfl) ?_
                      refine va_get (D := G) (cl := vwCl) (ci := 4) (v := .double (pAt pl f9 r9 2)) (C := RX3) (T := TX3) (N := 3) hx hb (hts d0) in_X6_point_X3 hown hK.1 (x1 (hX.place_ _ (by omega) _ (by omega))) 0 rfl rfl 2 (by decide) (hts d0 _ hw_X6_point_7) (fun _ h9 => h9) rfl dX6_point_82 ?_
                      refine lv_dload hx hb dX6_point_85 (lv_at hl 6 rfl) ?_
                      refine xcmp_l_ne (tgt := 93) hx hb (vq_rf _) hz9 dX6_point_87 dX6_point_88 (by decide) (fun c_17 => ?_) (fun c_17 => ?_)
                      · exact J_8 _ d0 ls hS hd0 (lv_sub hl [1, 4, 5, 6, 0] rfl)
                      · exact absurd ⟨c_15, c_16, c_17⟩ hnew
                · refine lv_aload hx hb dX6_point_59 (lv_at hl 0 rfl) ?_
                  refine va_get (D := G) (cl := vwCl) (ci := 4) (v := .double (pAt pl f9 r9 0)) (C := RX3) (T := TX3) (N := 3) hx hb (hts d0) in_X6_point_X3 hown hK.1 (x1 (hX.place_ _ (by omega) _ (by omega))) 0 rfl rfl 0 (by decide) (hts d0 _ hw_X6_point_5) (fun _ h9 => h9) rfl dX6_point_61 ?_
                  refine lv_dload_n hx hb dX6_point_64 rfl (lv_at hl 4 rfl) ?_
                  refine xcmp_l_ne (tgt := 93) hx hb (vq_rf _) hx9 dX6_point_65 dX6_point_66 (by decide) (fun c_18 => ?_) (fun c_18 => ?_)
                  · exact absurd (fun z => xtf z.1 c_18) hnew
                  · refine lv_aload hx hb dX6_point_69 (lv_at hl 0 rfl) ?_
                    refine va_get (D := G) (cl := vwCl) (ci := 4) (v := .double (pAt pl f9 r9 1)) (C := RX3) (T := TX3) (N := 3) hx hb (hts d0) in_X6_point_X3 hown hK.1 (x1 (hX.place_ _ (by omega) _ (by omega))) 0 rfl rfl 1 (by decide) (hts d0 _ hw_X6_point_6) (fun _ h9 => h9) rfl dX6_point_71 ?_
                    refine lv_dload hx hb dX6_point_74 (lv_at hl 5 rfl) ?_
                    refine xcmp_l_ne (tgt := 93) hx hb (vq_rf _) hy9 dX6_point_76 dX6_point_77 (by decide) (fun c_19 => ?_) (fun c_19 => ?_)
                    · exact absurd (fun z => xtf z.2.1 c_19) hnew
                    · refine lv_aload hx hb dX6_point_80 (lv_at hl 0 rfl) ?_
                      refine va_get (D := G) (cl := vwCl) (ci := 4) (v := .double (pAt pl f9 r9 2)) (C := RX3) (T := TX3) (N := 3) hx hb (hts d0) in_X6_point_X3 hown hK.1 (x1 (hX.place_ _ (by omega) _ (by omega))) 0 rfl rfl 2 (by decide) (hts d0 _ hw_X6_point_7) (fun _ h9 => h9) rfl dX6_point_82 ?_
                      refine lv_dload hx hb dX6_point_85 (lv_at hl 6 rfl) ?_
                      refine xcmp_l_ne (tgt := 93) hx hb (vq_rf _) hz9 dX6_point_87 dX6_point_88 (by decide) (fun c_20 => ?_) (fun c_20 => ?_)
                      · exact absurd (fun z => xtf z.2.2 c_20) hnew
                      · refine lv_iconst (v := nI 0) hx hb dX6_point_91 (by decide) ?_
                        exact xzret (by decide) hd0 hx hb hr hlocks hS (Nat.le_of_ble_eq_true rfl) (Nat.le_of_ble_eq_true rfl) dX6_point_92 ⟨⟨z_f, z_r⟩, z9, _, _, _, _, hX, by rw [nN_nI (show f9 < 2 ^ 31 by omega), nN_nI (show r9 < 2 ^ 31 by omega)]; exact Or.inr ⟨hnew, rfl, rfl, rfl, rfl, rfl⟩⟩
              · exact xthrowS hfl hd0 hx hb hown hlocks hxt hml hl.1 hts (by decide +kernel) hw_X6_point_1 hw_X6_point_2 ht_X6_point_1 xthrow_ok1 xthrow_gd1 (List.mem_of_getElem? (i := 0) rfl) hK hS dX6_point_49 dX6_point_52 dX6_point_53 dX6_point_55 dX6_point_58 (Nat.le_of_ble_eq_true rfl) (Nat.le_of_ble_eq_true rfl) (Nat.le_of_ble_eq_true rfl) (Nat.le_of_ble_eq_true rfl) (Nat.le_of_ble_eq_true rfl) (Nat.le_of_ble_eq_true rfl) (fun H1 h9 => Or.inr ⟨rfl, ⟨z_f, z_r⟩, fun z => xtf z.2.2 (xB_f c_7), h9⟩)
