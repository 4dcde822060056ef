/-! THE CLASS: worst, staves; a box that another one overlaps, the least place on a board; nest. -/
/-- the cell with the greatest STRETCH so far, and its size -/
def pWoC (x y pl : Nat → UInt64) (i : Nat) : Nat → Nat × UInt64
  | 0 => (0, pSize (pOffC x y pl i 0))
  | k + 1 => if xgt (pSize (pOffC x y pl i (k + 1))) (pWoC x y pl i k).2 = true then (k + 1, pSize (pOffC x y pl i (k + 1))) else pWoC x y pl i k
theorem pWoC_t {x y pl : Nat → UInt64} {i k : Nat} (h : xgt (pSize (pOffC x y pl i (k + 1))) (pWoC x y pl i k).2 = true) : pWoC x y pl i (k + 1) = (k + 1, pSize (pOffC x y pl i (k + 1))) := if_pos h
theorem pWoC_f {x y pl : Nat → UInt64} {i k : Nat} (h : xgt (pSize (pOffC x y pl i (k + 1))) (pWoC x y pl i k).2 = false) : pWoC x y pl i (k + 1) = pWoC x y pl i k := if_neg (by rw [h]; decide)
theorem pSize_vqt {v a : UInt64} (h : vq v (pSize a)) {b : UInt64} (hb : a = b) : vq v (pSize b) := by rw [← hb]; exact h
set_option maxRecDepth 20000 in
theorem ggX6_worst_X6_stripAt : GoodIn wsX6_worst wsX6_stripAt := goodIn_ca (goodIn_r _ [6, 7, 8, 9, 38, 39, 40, 41, 42, 43] (by decide +kernel) (by decide +kernel)) (goodIn_sub (fun _ h => List.mem_cons_of_mem _ (List.mem_append_left _ (List.mem_append_right _ h))) (by decide +kernel))
set_option maxRecDepth 20000 in
theorem gX6_worst_X6_stripAt : GoodIn wsX6_worst (wsV RX6 90 RX6 yX6_stripAt wsX6_stripAt) := goodIn_app (goodIn_of _ (by decide +kernel)) ggX6_worst_X6_stripAt
set_option maxRecDepth 20000 in
theorem ggX6_worst_X6_needUnrolled : GoodIn wsX6_worst wsX6_needUnrolled := goodIn_ca (goodIn_r _ [12, 13, 14, 15, 44, 45, 46, 47, 48, 49, 50, 51, 52] (by decide +kernel) (by decide +kernel)) (goodIn_sub (fun _ h => List.mem_cons_of_mem _ (List.mem_append_right _ h)) (by decide +kernel))
set_option maxRecDepth 20000 in
theorem gX6_worst_X6_needUnrolled : GoodIn wsX6_worst (va_wsS RX6 114 yX6_needUnrolled wsX6_needUnrolled) := goodIn_app (goodIn_of _ (by decide +kernel)) ggX6_worst_X6_needUnrolled
set_option maxRecDepth 20000 in
theorem ggX6_worst_X5_offDiagonal : GoodIn wsX6_worst wsX5_offDiagonal := goodIn_r _ [20, 21, 22, 23, 24, 25, 26, 5, 27, 28, 29, 30, 31, 32, 33, 34, 44, 45, 46, 47, 48, 49, 50, 51, 52, 53, 54, 55, 56] (by decide +kernel) (by decide +kernel)
set_option maxRecDepth 20000 in
theorem gX6_worst_X5_offDiagonal : GoodIn wsX6_worst (wsV RX6 128 RX5 yX5_offDiagonal wsX5_offDiagonal) := goodIn_app (goodIn_of _ (by decide +kernel)) ggX6_worst_X5_offDiagonal
set_option maxRecDepth 20000 in
theorem ggX6_worst_X6_sizeOf : GoodIn wsX6_worst wsX6_sizeOf := goodIn_r _ [37] (by decide +kernel) (by decide +kernel)
set_option maxRecDepth 20000 in
theorem gX6_worst_X6_sizeOf : GoodIn wsX6_worst (va_wsS RX6 132 yX6_sizeOf wsX6_sizeOf) := goodIn_app (goodIn_of _ (by decide +kernel)) ggX6_worst_X6_sizeOf
theorem dX6_worst_0 : decode cX6_worst 0 = .ok (.aload_n 0, 1) := by decide +kernel
theorem dX6_worst_1 : decode cX6_worst 1 = .ok (.iload_n 1, 1) := by decide +kernel
theorem dX6_worst_2 : decode cX6_worst 2 = .ok (.invokevirtual 90, 3) := by decide +kernel
theorem dX6_worst_5 : decode cX6_worst 5 = .ok (.astore_n 2, 1) := by decide +kernel
theorem dX6_worst_6 : decode cX6_worst 6 = .ok (.aload_n 2, 1) := by decide +kernel
theorem dX6_worst_7 : decode cX6_worst 7 = .ok (.invokestatic 114, 3) := by decide +kernel
theorem dX6_worst_10 : decode cX6_worst 10 = .ok (.iconst 0, 1) := by decide +kernel
theorem dX6_worst_11 : decode cX6_worst 11 = .ok (.istore_n 3, 1) := by decide +kernel
theorem dX6_worst_12 : decode cX6_worst 12 = .ok (.aload_n 2, 1) := by decide +kernel
theorem dX6_worst_13 : decode cX6_worst 13 = .ok (.iconst 0, 1) := by decide +kernel
theorem dX6_worst_14 : decode cX6_worst 14 = .ok (.invokevirtual 128, 3) := by decide +kernel
theorem dX6_worst_17 : decode cX6_worst 17 = .ok (.invokestatic 132, 3) := by decide +kernel
theorem dX6_worst_20 : decode cX6_worst 20 = .ok (.dstore 4, 2) := by decide +kernel
theorem dX6_worst_22 : decode cX6_worst 22 = .ok (.iconst 1, 1) := by decide +kernel
theorem dX6_worst_23 : decode cX6_worst 23 = .ok (.istore 6, 2) := by decide +kernel
theorem dX6_worst_25 : decode cX6_worst 25 = .ok (.iload 6, 2) := by decide +kernel
theorem dX6_worst_27 : decode cX6_worst 27 = .ok (.aload_n 0, 1) := by decide +kernel
theorem dX6_worst_28 : decode cX6_worst 28 = .ok (.getfield 13, 3) := by decide +kernel
theorem dX6_worst_31 : decode cX6_worst 31 = .ok (.iconst 1, 1) := by decide +kernel
theorem dX6_worst_32 : decode cX6_worst 32 = .ok (.isub, 1) := by decide +kernel
theorem dX6_worst_33 : decode cX6_worst 33 = .ok (.if_icmp .ge 35, 3) := by decide +kernel
theorem dX6_worst_36 : decode cX6_worst 36 = .ok (.aload_n 2, 1) := by decide +kernel
theorem dX6_worst_37 : decode cX6_worst 37 = .ok (.iload 6, 2) := by decide +kernel
theorem dX6_worst_39 : decode cX6_worst 39 = .ok (.invokevirtual 128, 3) := by decide +kernel
theorem dX6_worst_42 : decode cX6_worst 42 = .ok (.invokestatic 132, 3) := by decide +kernel
theorem dX6_worst_45 : decode cX6_worst 45 = .ok (.dstore 7, 2) := by decide +kernel
theorem dX6_worst_47 : decode cX6_worst 47 = .ok (.dload 7, 2) := by decide +kernel
theorem dX6_worst_49 : decode cX6_worst 49 = .ok (.dload 4, 2) := by decide +kernel
theorem dX6_worst_51 : decode cX6_worst 51 = .ok (.dcmp .l, 1) := by decide +kernel
theorem dX6_worst_52 : decode cX6_worst 52 = .ok (.ifCond .le 10, 3) := by decide +kernel
theorem dX6_worst_55 : decode cX6_worst 55 = .ok (.dload 7, 2) := by decide +kernel
theorem dX6_worst_57 : decode cX6_worst 57 = .ok (.dstore 4, 2) := by decide +kernel
theorem dX6_worst_59 : decode cX6_worst 59 = .ok (.iload 6, 2) := by decide +kernel
theorem dX6_worst_61 : decode cX6_worst 61 = .ok (.istore_n 3, 1) := by decide +kernel
theorem dX6_worst_62 : decode cX6_worst 62 = .ok (.iinc 6 1, 3) := by decide +kernel
theorem dX6_worst_65 : decode cX6_worst 65 = .ok (.goto (-40), 3) := by decide +kernel
theorem dX6_worst_68 : decode cX6_worst 68 = .ok (.iload_n 3, 1) := by decide +kernel
theorem dX6_worst_69 : decode cX6_worst 69 = .ok (.ireturn, 1) := by decide +kernel
abbrev rm_X6_worst : Room := { frames := 10, cells := 20, slots := 150, locals := 400 }
theorem hw_X6_worst_1 : (Cond.fieldLink RX6 13 "PlankUnroll" "frames" "I") ∈ wsX6_worst := List.mem_of_getElem? (i := 1) rfl
theorem in_X6_worst_X6 : ∀ w ∈ wsX60, w ∈ wsX6_worst := by decide +kernel
set_option maxHeartbeats 4000000 in
set_option maxRecDepth 100000 in
/-- worst -/
theorem c_X6_worst {l : Launch} {G : va_G} {ty : Nat → ClassId} {b0 : Nat} {H : Heap} (hfl : l.stackTraces = false) {ad : Nat → Nat} {F R nb : Nat} {pl wi hi fa : Nat → UInt64} {un bu lo la : Nat → Int32} {cx cy bx : Nat → Nat → UInt64} {nf : Nat → Nat} {K0 : Heap} (hX : xCla G ty ad F R pl un cx cy bu nb wi hi nf fa lo la bx K0 H) (hW : xWf F R nb nf ad b0) {x : Int32} : xMet l yX6_worst wsX6_worst rm_X6_worst G ty b0 [.ref (ad 0), .int (x)] H (fun v H1 => H = H1 ∧ vp_in x (R - 1) ∧ ¬ un x.toNatClampNeg = 0 ∧ v = some (.int (nI (pWoC (cx x.toNatClampNeg) (cy x.toNatClampNeg) pl x.toNatClampNeg (F - 2)).1))) (fun E H1 => (E = "java/lang/IndexOutOfBoundsException" ∧ ¬ (vp_in x (R - 1)) ∧ xext H H1) ∨ (E = "java/lang/IllegalStateException" ∧ (vp_in x (R - 1)) ∧ un x.toNatClampNeg = 0 ∧ xext H H1)) := by
  refine xbody (cc := cX6_worst) (maxL := 9) (ret := (some .int)) (C := RX6) (lv := [(0, .ref (ad 0)), (1, .int (x))]) (by decide) rfl rfl (Nat.le_of_ble_eq_true rfl) rfl ?_
  intro p e s m below meth c d0 hx hb hr hts hown hlocks hml hxt hnm0 hK hb0 hH0 hS hd0 ls hl
  obtain ⟨⟨zF2, zF8⟩, ⟨zR2, zR8⟩⟩ := id hW.1
  have zB4 := hW.2.1
  refine lv_aload_n hx hb dX6_worst_0 rfl (lv_at hl 0 rfl) ?_
  refine lv_iload_n hx hb dX6_worst_1 rfl (lv_at hl 1 rfl) ?_
  have cw_1 := cwV (R := rm_X6_worst) (rm := rm_X6_stripAt) 1 (hts d0) gX6_worst_X6_stripAt rfl rfl rfl (by decide +kernel) ⟨Nat.le_of_ble_eq_true rfl, Nat.le_of_ble_eq_true rfl⟩
  refine xcall hd0 (xintoV (b := (ad 0)) (As := [.int (x)]) (rest := []) ⟨hx, hb, hml, hown, hts _⟩ cw_1 (va_recv hK.1 (x1 (hX.o_)) (ci := 7) (q0 := 0) rfl rfl) rfl rfl hl.1 rfl (lv_room (Nat.le_of_ble_eq_true rfl)) dX6_worst_2) (c_X6_stripAt (l := l) (G := G) (ty := ty) (b0 := b0) hfl hX hW (x := x)) (xoweB cw_1.1) hK hb0 hS (Nat.le_of_ble_eq_true rfl) (Nat.le_of_ble_eq_true rfl) (fun E_1 ce_1 q9_1 H_1 locs_1 d0 hd0 hp_1 hS hce_1 hcv_1 hcl_1 => ?_) (fun v_1 H_1 locs_1 d0 hd0 hp_1 hS => ?_)
  · exact xout hd0 hxt hlocks hce_1 hcv_1 hcl_1 hS (Nat.le_of_ble_eq_true rfl) (Nat.le_of_ble_eq_true rfl) (Or.inl ⟨hp_1.1, hp_1.2.1, hp_1.2.2⟩)
  · obtain ⟨rfl, z_x, hv_1⟩ := hp_1
    obtain ⟨x9, hx9, ex9⟩ := vp_in_of z_x (by omega)
    subst ex9
    rw [nN_nI (show x9 < 2 ^ 31 by omega)] at hv_1
    subst hv_1
    show W p l e _ (s.setDrawn _) m _ below meth c _ _ _ _ _ (F0 m 5 ls [.ref (ad (30 + x9))])
    refine lv_astore_n (lv' := [(2, .ref (ad (30 + x9))), (0, .ref (ad 0)), (1, .int (nI x9))]) hx hb dX6_worst_5 rfl hl (by decide) rfl (fun ls hl => ?_)
    refine lv_aload_n hx hb dX6_worst_6 rfl (lv_at hl 0 rfl) ?_
    have cw_2 := va_cwS (R := rm_X6_worst) (rm := rm_X6_needUnrolled) 1 (hts d0) gX6_worst_X6_needUnrolled rfl rfl rfl (by decide +kernel) ⟨Nat.le_of_ble_eq_true rfl, Nat.le_of_ble_eq_true rfl⟩
    refine xcall hd0 (xintoS (As := [.ref (ad (30 + x9))]) (rest := []) ⟨hx, hb, hml, hown, hts _⟩ cw_2 rfl rfl hl.1 rfl (lv_room (Nat.le_of_ble_eq_true rfl)) dX6_worst_7) (c_X6_needUnrolled (l := l) (G := G) (ty := ty) (b0 := b0) hfl hX hW (i := x9) (by omega)) (xoweB cw_2.1) hK hb0 hS (Nat.le_of_ble_eq_true rfl) (Nat.le_of_ble_eq_true rfl) (fun E_2 ce_2 q9_2 H_2 locs_2 d0 hd0 hp_2 hS hce_2 hcv_2 hcl_2 => ?_) (fun v_2 H_2 locs_2 d0 hd0 hp_2 hS => ?_)
    · exact xout hd0 hxt hlocks hce_2 hcv_2 hcl_2 hS (Nat.le_of_ble_eq_true rfl) (Nat.le_of_ble_eq_true rfl) (Or.inr ⟨hp_2.1, z_x, by rw [nN_nI (by omega)]; exact hp_2.2.1, hp_2.2.2⟩)
    · obtain ⟨rfl, rfl, z_u⟩ := hp_2
      show W p l e _ (s.setDrawn _) m _ below meth c _ _ _ _ _ (F0 m 10 ls [])
      refine lv_iconst (v := nI 0) hx hb dX6_worst_10 (by decide) ?_
      refine lv_istore_n (lv' := [(3, .int (nI 0)), (2, .ref (ad (30 + x9))), (0, .ref (ad 0)), (1, .int (nI x9))]) hx hb dX6_worst_11 rfl hl (by decide) rfl (fun ls hl => ?_)
      refine lv_aload_n hx hb dX6_worst_12 rfl (lv_at hl 1 rfl) ?_
      refine lv_iconst (v := nI 0) hx hb dX6_worst_13 (by decide) ?_
      have cw_3 := cwV (R := rm_X6_worst) (rm := rm_X5_offDiagonal) 1 (hts d0) gX6_worst_X5_offDiagonal rfl rfl rfl (by decide +kernel) ⟨Nat.le_of_ble_eq_true rfl, Nat.le_of_ble_eq_true rfl⟩
      refine xcall hd0 (xintoV (b := (ad (30 + x9))) (As := [.int (nI 0)]) (rest := []) ⟨hx, hb, hml, hown, hts _⟩ cw_3 (va_recv hK.1 (x1 (hX.strip_ _ (by omega))) (ci := 6) (q0 := 0) rfl rfl) rfl rfl hl.1 rfl (lv_room (Nat.le_of_ble_eq_true rfl)) dX6_worst_14) (c_X5_offDiagonal (l := l) (G := G) (ty := ty) (b0 := b0) hX hW (i := x9) (f := 0) (by omega) (by omega)) (xoweB cw_3.1) hK hb0 hS (Nat.le_of_ble_eq_true rfl) (Nat.le_of_ble_eq_true rfl) (fun E_3 ce_3 q9_3 H_3 locs_3 d0 hd0 hp_3 hS hce_3 hcv_3 hcl_3 => ?_) (fun v_3 H_3 locs_3 d0 hd0 hp_3 hS => ?_)
      · exact hp_3.elim
      · obtain ⟨rfl, r_3, rfl, q_3⟩ := hp_3
        show W p l e _ (s.setDrawn _) m _ below meth c _ _ _ _ _ (F0 m 17 ls [.double r_3])
        have cw_4 := va_cwS (R := rm_X6_worst) (rm := rm_X6_sizeOf) 1 (hts d0) gX6_worst_X6_sizeOf rfl rfl rfl (by decide +kernel) ⟨Nat.le_of_ble_eq_true rfl, Nat.le_of_ble_eq_true rfl⟩
        refine xcall hd0 (xintoS (As := [.double r_3]) (rest := []) ⟨hx, hb, hml, hown, hts _⟩ cw_4 rfl rfl hl.1 rfl (lv_room (Nat.le_of_ble_eq_true rfl)) dX6_worst_17) (c_X6_sizeOf (l := l) (G := G) (ty := ty) (b0 := b0) q_3) (xoweB cw_4.1) hK hb0 hS (Nat.le_of_ble_eq_true rfl) (Nat.le_of_ble_eq_true rfl) (fun E_4 ce_4 q9_4 H_4 locs_4 d0 hd0 hp_4 hS hce_4 hcv_4 hcl_4 => ?_) (fun v_4 H_4 locs_4 d0 hd0 hp_4 hS => ?_)
        · exact hp_4.elim
        · obtain ⟨rfl, r_4, rfl, q_4⟩ := hp_4
          show W p l e _ (s.setDrawn _) m _ below meth c _ _ _ _ _ (F0 m 20 ls [.double r_4])
          refine lv_dstore (lv' := [(4, .double r_4), (3, .int (nI 0)), (2, .ref (ad (30 + x9))), (0, .ref (ad 0)), (1, .int (nI x9))]) hx hb dX6_worst_20 hl (by decide) rfl (fun ls hl => ?_)
          refine lv_iconst (v := nI 1) hx hb dX6_worst_22 (by decide) ?_
          refine lv_istore (lv' := [(6, .int (nI 1)), (4, .double r_4), (3, .int (nI 0)), (2, .ref (ad (30 + x9))), (0, .ref (ad 0)), (1, .int (nI x9))]) hx hb dX6_worst_23 hl (by decide) rfl (fun ls hl => ?_)
          suffices K : ∀ (n : Nat) (k : Nat) (mo : UInt64) (locs : List Loc) (d0 : Drawn) (ls : Array Slot), (k + n = F - 2 ∧ vq mo (pWoC (cx x9) (cy x9) pl x9 k).2) → va_S (xA b0) s.heap H locs → s.drawn.sameBut d0 lw_cs → lv_has ls 9 [(6, .int (nI (k + 1))), (4, .double mo), (3, .int (nI ((pWoC (cx x9) (cy x9) pl x9 k).1))), (0, .ref (ad 0)), (2, .ref (ad (30 + x9)))] → W p l e rm_X6_worst (s.setDrawn d0) m [Value.ref (ad 0), Value.int ((nI x9))].toArray below meth c H locs (0 + rm_X6_stripAt.cells + rm_X6_needUnrolled.cells + rm_X5_offDiagonal.cells + rm_X6_sizeOf.cells) (0 + rm_X6_stripAt.slots + rm_X6_needUnrolled.slots + rm_X5_offDiagonal.slots + rm_X6_sizeOf.slots) (xMQ below (fun v H1 => H = H1 ∧ vp_in (nI x9) (R - 1) ∧ ¬ un (nI x9).toNatClampNeg = 0 ∧ v = some (.int (nI (pWoC (cx (nI x9).toNatClampNeg) (cy (nI x9).toNatClampNeg) pl (nI x9).toNatClampNeg (F - 2)).1))) (fun E H1 => (E = "java/lang/IndexOutOfBoundsException" ∧ ¬ (vp_in (nI x9) (R - 1)) ∧ xext H H1) ∨ (E = "java/lang/IllegalStateException" ∧ (vp_in (nI x9) (R - 1)) ∧ un (nI x9).toNatClampNeg = 0 ∧ xext H H1)) [.ref (ad 0), .int ((nI x9))].toArray s rm_X6_worst b0) (F0 m 25 ls []) from K (F - 2) 0 r_4 _ d0 ls ⟨by omega, q_4⟩ hS hd0 (lv_sub hl [0, 1, 2, 4, 3] rfl)
          intro n
          induction n with
          | zero =>
            intro k mo locs d0 ls hinv hS hd0 hl
            obtain ⟨hk, hmo⟩ := hinv
            refine lv_iload hx hb dX6_worst_25 (lv_at hl 0 rfl) ?_
            refine lv_aload_n hx hb dX6_worst_27 rfl (lv_at hl 3 rfl) ?_
            refine va_get (D := G) (cl := vwCl) (ci := 7) (v := .int (nI F)) (C := RX6) (T := TX6) (N := 6) hx hb (hts d0) in_X6_worst_X6 hown hK.1 (x1 (hX.o_)) 0 rfl rfl 0 (by decide) (hts d0 _ hw_X6_worst_1) (fun _ h9 => h9) rfl dX6_worst_28 ?_
            refine lv_iconst (v := nI 1) hx hb dX6_worst_31 (by decide) ?_
            refine xisubN hx hb (by omega) dX6_worst_32 ?_
            refine xicmpN_ge (tgt := 68) hx hb (by omega) (by omega) dX6_worst_33 (by decide) (fun _ => ?_) (fun h9 => absurd h9 (by omega))
            refine lv_iload_n hx hb dX6_worst_68 rfl (lv_at hl 2 rfl) ?_
            exact xiret hd0 hx hb hr hlocks hS (Nat.le_of_ble_eq_true rfl) (Nat.le_of_ble_eq_true rfl) dX6_worst_69 ⟨rfl, z_x, by rw [nN_nI (by omega)]; exact z_u, by have e9 : k = F - 2 := (by omega); subst e9; rw [nN_nI (by omega)]⟩
          | succ n ih =>
            intro k mo locs d0 ls hinv hS hd0 hl
            obtain ⟨hk, hmo⟩ := hinv
            refine lv_iload hx hb dX6_worst_25 (lv_at hl 0 rfl) ?_
            refine lv_aload_n hx hb dX6_worst_27 rfl (lv_at hl 3 rfl) ?_
            refine va_get (D := G) (cl := vwCl) (ci := 7) (v := .int (nI F)) (C := RX6) (T := TX6) (N := 6) hx hb (hts d0) in_X6_worst_X6 hown hK.1 (x1 (hX.o_)) 0 rfl rfl 0 (by decide) (hts d0 _ hw_X6_worst_1) (fun _ h9 => h9) rfl dX6_worst_28 ?_
            refine lv_iconst (v := nI 1) hx hb dX6_worst_31 (by decide) ?_
            refine xisubN hx hb (by omega) dX6_worst_32 ?_
            refine xicmpN_ge (tgt := 68) hx hb (by omega) (by omega) dX6_worst_33 (by decide) (fun h9 => absurd h9 (by omega)) (fun _ => ?_)
            refine lv_aload_n hx hb dX6_worst_36 rfl (lv_at hl 4 rfl) ?_
            refine lv_iload hx hb dX6_worst_37 (lv_at hl 0 rfl) ?_
            have cw_7 := cwV (R := rm_X6_worst) (rm := rm_X5_offDiagonal) 1 (hts d0) gX6_worst_X5_offDiagonal rfl rfl rfl (by decide +kernel) ⟨Nat.le_of_ble_eq_true rfl, Nat.le_of_ble_eq_true rfl⟩
            refine xcall hd0 (xintoV (b := (ad (30 + x9))) (As := [.int (nI (k + 1))]) (rest := []) ⟨hx, hb, hml, hown, hts _⟩ cw_7 (va_recv hK.1 (x1 (hX.strip_ _ (by omega))) (ci := 6) (q0 := 0) rfl rfl) rfl rfl hl.1 rfl (lv_room (Nat.le_of_ble_eq_true rfl)) dX6_worst_39) (c_X5_offDiagonal (l := l) (G := G) (ty := ty) (b0 := b0) hX hW (i := x9) (f := (k + 1)) (by omega) (by omega)) (xoweB cw_7.1) hK hb0 hS (Nat.le_of_ble_eq_true rfl) (Nat.le_of_ble_eq_true rfl) (fun E_7 ce_7 q9_7 H_7 locs_7 d0 hd0 hp_7 hS hce_7 hcv_7 hcl_7 => ?_) (fun v_7 H_7 locs_7 d0 hd0 hp_7 hS => ?_)
            · exact hp_7.elim
            · obtain ⟨rfl, r_7, rfl, q_7⟩ := hp_7
              show W p l e _ (s.setDrawn _) m _ below meth c _ _ _ _ _ (F0 m 42 ls [.double r_7])
              have cw_8 := va_cwS (R := rm_X6_worst) (rm := rm_X6_sizeOf) 1 (hts d0) gX6_worst_X6_sizeOf rfl rfl rfl (by decide +kernel) ⟨Nat.le_of_ble_eq_true rfl, Nat.le_of_ble_eq_true rfl⟩
              refine xcall hd0 (xintoS (As := [.double r_7]) (rest := []) ⟨hx, hb, hml, hown, hts _⟩ cw_8 rfl rfl hl.1 rfl (lv_room (Nat.le_of_ble_eq_true rfl)) dX6_worst_42) (c_X6_sizeOf (l := l) (G := G) (ty := ty) (b0 := b0) q_7) (xoweB cw_8.1) hK hb0 hS (Nat.le_of_ble_eq_true rfl) (Nat.le_of_ble_eq_true rfl) (fun E_8 ce_8 q9_8 H_8 locs_8 d0 hd0 hp_8 hS hce_8 hcv_8 hcl_8 => ?_) (fun v_8 H_8 locs_8 d0 hd0 hp_8 hS => ?_)
              · exact hp_8.elim
              · obtain ⟨rfl, r_8, rfl, q_8⟩ := hp_8
                show W p l e _ (s.setDrawn _) m _ below meth c _ _ _ _ _ (F0 m 45 ls [.double r_8])
                refine lv_dstore (lv' := [(7, .double r_8), (6, .int (nI (k + 1))), (4, .double mo), (3, .int (nI ((pWoC (cx x9) (cy x9) pl x9 k).1))), (0, .ref (ad 0)), (2, .ref (ad (30 + x9)))]) hx hb dX6_worst_45 hl (by decide) rfl (fun ls hl => ?_)
                refine lv_dload hx hb dX6_worst_47 (lv_at hl 0 rfl) ?_
                refine lv_dload hx hb dX6_worst_49 (lv_at hl 2 rfl) ?_
                refine xcmp_l_le (tgt := 62) hx hb q_8 hmo dX6_worst_51 dX6_worst_52 (by decide) (fun c_9 => ?_) (fun c_9 => ?_)
                · refine xiincN (x := k + 1) (y := 1) (lv' := [(6, .int (nI ((k + 1) + 1))), (7, .double r_8), (4, .double mo), (3, .int (nI ((pWoC (cx x9) (cy x9) pl x9 k).1))), (0, .ref (ad 0)), (2, .ref (ad (30 + x9)))]) hx hb dX6_worst_62 hl (k := 1) rfl (by decide) (by decide) rfl (fun ls hl => ?_)
                  refine lv_goto (tgt := 25) hx hb dX6_worst_65 (by decide) ?_
                  exact ih (k + 1) mo _ d0 ls ⟨by omega, by rw [pWoC_f c_9]; exact hmo⟩ hS hd0 (by rw [pWoC_f c_9]; exact lv_sub hl [0, 2, 3, 4, 5] rfl)
                · refine lv_dload hx hb dX6_worst_55 (lv_at hl 0 rfl) ?_
                  refine lv_dstore (lv' := [(4, .double r_8), (7, .double r_8), (6, .int (nI (k + 1))), (3, .int (nI ((pWoC (cx x9) (cy x9) pl x9 k).1))), (0, .ref (ad 0)), (2, .ref (ad (30 + x9)))]) hx hb dX6_worst_57 hl (by decide) rfl (fun ls hl => ?_)
                  refine lv_iload hx hb dX6_worst_59 (lv_at hl 2 rfl) ?_
                  refine lv_istore_n (lv' := [(3, .int (nI (k + 1))), (4, .double r_8), (7, .double r_8), (6, .int (nI (k + 1))), (0, .ref (ad 0)), (2, .ref (ad (30 + x9)))]) hx hb dX6_worst_61 rfl hl (by decide) rfl (fun ls hl => ?_)
                  refine xiincN (x := k + 1) (y := 1) (lv' := [(6, .int (nI ((k + 1) + 1))), (3, .int (nI (k + 1))), (4, .double r_8), (7, .double r_8), (0, .ref (ad 0)), (2, .ref (ad (30 + x9)))]) hx hb dX6_worst_62 hl (k := 3) rfl (by decide) (by decide) rfl (fun ls hl => ?_)
                  refine lv_goto (tgt := 25) hx hb dX6_worst_65 (by decide) ?_
                  exact ih (k + 1) r_8 _ d0 ls ⟨by omega, by rw [pWoC_t c_9]; exact q_8⟩ hS hd0 (by rw [pWoC_t c_9]; exact lv_sub hl [0, 2, 1, 4, 5] rfl)
set_option maxRecDepth 20000 in
theorem ggX6_staves_X6_checkStaves : GoodIn wsX6_staves wsX6_checkStaves := goodIn_ca (goodIn_r _ [9, 10, 11, 12, 13, 14, 15, 8, 16] (by decide +kernel) (by decide +kernel)) (goodIn_sub (fun _ h => List.mem_cons_of_mem _ (List.mem_append_right _ h)) (by decide +kernel))
set_option maxRecDepth 20000 in
theorem gX6_staves_X6_checkStaves : GoodIn wsX6_staves (va_wsS RX6 231 yX6_checkStaves wsX6_checkStaves) := goodIn_app (goodIn_of _ (by decide +kernel)) ggX6_staves_X6_checkStaves
set_option maxRecDepth 20000 in
theorem ggX6_staves_X6_circleOf : GoodIn wsX6_staves wsX6_circleOf := goodIn_r _ [19, 20] (by decide +kernel) (by decide +kernel)
set_option maxRecDepth 20000 in
theorem gX6_staves_X6_circleOf : GoodIn wsX6_staves (va_wsS RX6 234 yX6_circleOf wsX6_circleOf) := goodIn_app (goodIn_of _ (by decide +kernel)) ggX6_staves_X6_circleOf
theorem dX6_staves_0 : decode cX6_staves 0 = .ok (.dload_n 1, 1) := by decide +kernel
theorem dX6_staves_1 : decode cX6_staves 1 = .ok (.dload_n 3, 1) := by decide +kernel
theorem dX6_staves_2 : decode cX6_staves 2 = .ok (.invokestatic 231, 3) := by decide +kernel
theorem dX6_staves_5 : decode cX6_staves 5 = .ok (.dload_n 3, 1) := by decide +kernel
theorem dX6_staves_6 : decode cX6_staves 6 = .ok (.invokestatic 234, 3) := by decide +kernel
theorem dX6_staves_9 : decode cX6_staves 9 = .ok (.dstore 5, 2) := by decide +kernel
theorem dX6_staves_11 : decode cX6_staves 11 = .ok (.iconst 1, 1) := by decide +kernel
theorem dX6_staves_12 : decode cX6_staves 12 = .ok (.dload 5, 2) := by decide +kernel
theorem dX6_staves_14 : decode cX6_staves 14 = .ok (.dload_n 1, 1) := by decide +kernel
theorem dX6_staves_15 : decode cX6_staves 15 = .ok (.ddiv, 1) := by decide +kernel
theorem dX6_staves_16 : decode cX6_staves 16 = .ok (.d2i, 1) := by decide +kernel
theorem dX6_staves_17 : decode cX6_staves 17 = .ok (.iconst 2, 1) := by decide +kernel
theorem dX6_staves_18 : decode cX6_staves 18 = .ok (.isub, 1) := by decide +kernel
theorem dX6_staves_19 : decode cX6_staves 19 = .ok (.invokestatic 237, 3) := by decide +kernel
theorem dX6_staves_22 : decode cX6_staves 22 = .ok (.istore 7, 2) := by decide +kernel
theorem dX6_staves_24 : decode cX6_staves 24 = .ok (.iload 7, 2) := by decide +kernel
theorem dX6_staves_26 : decode cX6_staves 26 = .ok (.istore 8, 2) := by decide +kernel
theorem dX6_staves_28 : decode cX6_staves 28 = .ok (.iload 8, 2) := by decide +kernel
theorem dX6_staves_30 : decode cX6_staves 30 = .ok (.ldc 243, 2) := by decide +kernel
theorem dX6_staves_32 : decode cX6_staves 32 = .ok (.if_icmp .ge 23, 3) := by decide +kernel
theorem dX6_staves_35 : decode cX6_staves 35 = .ok (.iload 8, 2) := by decide +kernel
theorem dX6_staves_37 : decode cX6_staves 37 = .ok (.i2d, 1) := by decide +kernel
theorem dX6_staves_38 : decode cX6_staves 38 = .ok (.dload_n 1, 1) := by decide +kernel
theorem dX6_staves_39 : decode cX6_staves 39 = .ok (.dmul, 1) := by decide +kernel
theorem dX6_staves_40 : decode cX6_staves 40 = .ok (.dload 5, 2) := by decide +kernel
theorem dX6_staves_42 : decode cX6_staves 42 = .ok (.dcmp .l, 1) := by decide +kernel
theorem dX6_staves_43 : decode cX6_staves 43 = .ok (.ifCond .lt 6, 3) := by decide +kernel
theorem dX6_staves_46 : decode cX6_staves 46 = .ok (.iload 8, 2) := by decide +kernel
theorem dX6_staves_48 : decode cX6_staves 48 = .ok (.ireturn, 1) := by decide +kernel
theorem dX6_staves_49 : decode cX6_staves 49 = .ok (.iinc 8 1, 3) := by decide +kernel
theorem dX6_staves_52 : decode cX6_staves 52 = .ok (.goto (-24), 3) := by decide +kernel
theorem dX6_staves_55 : decode cX6_staves 55 = .ok (.ldc 243, 2) := by decide +kernel
theorem dX6_staves_57 : decode cX6_staves 57 = .ok (.ireturn, 1) := by decide +kernel
abbrev rm_X6_staves : Room := { frames := 10, cells := 20, slots := 150, locals := 400 }
theorem hw_X6_staves_1 : (Cond.methodLink RX6 237 Lib.Math.max.name) ∈ wsX6_staves := List.mem_of_getElem? (i := 1) rfl
theorem hw_X6_staves_2 : (Cond.static Lib.Math.max.name) ∈ wsX6_staves := List.mem_of_getElem? (i := 2) rfl
theorem hw_X6_staves_3 : (Cond.initialized "java/lang/Math") ∈ wsX6_staves := List.mem_of_getElem? (i := 3) rfl
theorem hw_X6_staves_4 : (Cond.code Lib.Math.max.name Lib.Math.max.code 2 (some .int)) ∈ wsX6_staves := List.mem_of_getElem? (i := 4) rfl
theorem hw_X6_staves_5 : (Cond.constant RX6 243 (100000)) ∈ wsX6_staves := List.mem_of_getElem? (i := 5) rfl
set_option maxHeartbeats 4000000 in
set_option maxRecDepth 100000 in
/-- staves -/
theorem c_X6_staves {l : Launch} {G : va_G} {ty : Nat → ClassId} {b0 : Nat} {H : Heap} (hfl : l.stackTraces = false) {x0 : Nat} {x d ew ed : UInt64} (hx9 : vq x ew) (hd9 : vq d ed) {f9 n9 : Nat} (hN : pStav ew ed = true → (if nI 1 < FP.d2i (FP.ddiv (FP.dmul ed 4614256656552045848) ew) - nI 2 then FP.d2i (FP.ddiv (FP.dmul ed 4614256656552045848) ew) - nI 2 else nI 1) = nI f9 ∧ 1 ≤ f9 ∧ f9 ≤ n9 ∧ n9 < 100000 ∧ (∀ n : Nat, f9 ≤ n → n < n9 → xge (FP.dmul (FP.i2d (nI n)) ew) (FP.dmul ed 4614256656552045848) = false) ∧ xge (FP.dmul (FP.i2d (nI n9)) ew) (FP.dmul ed 4614256656552045848) = true) : xMet l yX6_staves wsX6_staves rm_X6_staves G ty b0 [.ref x0, .double x, .double d] H (fun v H1 => H = H1 ∧ pStav ew ed = true ∧ v = some (.int (nI n9))) (fun E H1 => E = "java/lang/IllegalArgumentException" ∧ ¬ (pStav ew ed = true) ∧ xext H H1) := by
  refine xbody (cc := cX6_staves) (maxL := 9) (ret := (some .int)) (C := RX6) (lv := [(0, .ref x0), (1, .double x), (3, .double d)]) (by decide) rfl rfl (Nat.le_of_ble_eq_true rfl) rfl ?_
  intro p e s m below meth c d0 hx hb hr hts hown hlocks hml hxt hnm0 hK hb0 hH0 hS hd0 ls hl
  refine lv_dload_n hx hb dX6_staves_0 rfl (lv_at hl 1 rfl) ?_
  refine lv_dload_n hx hb dX6_staves_1 rfl (lv_at hl 2 rfl) ?_
  have cw_1 := va_cwS (R := rm_X6_staves) (rm := rm_X6_checkStaves) 2 (hts d0) gX6_staves_X6_checkStaves rfl rfl rfl (by decide +kernel) ⟨Nat.le_of_ble_eq_true rfl, Nat.le_of_ble_eq_true rfl⟩
  refine xcall hd0 (xintoS (As := [.double x, .double d]) (rest := []) ⟨hx, hb, hml, hown, hts _⟩ cw_1 rfl rfl hl.1 rfl (lv_room (Nat.le_of_ble_eq_true rfl)) dX6_staves_2) (c_X6_checkStaves (l := l) (G := G) (ty := ty) (b0 := b0) hfl hx9 hd9) (xoweB cw_1.1) hK hb0 hS (Nat.le_of_ble_eq_true rfl) (Nat.le_of_ble_eq_true rfl) (fun E_1 ce_1 q9_1 H_1 locs_1 d0 hd0 hp_1 hS hce_1 hcv_1 hcl_1 => ?_) (fun v_1 H_1 locs_1 d0 hd0 hp_1 hS => ?_)
  · exact xout hd0 hxt hlocks hce_1 hcv_1 hcl_1 hS (Nat.le_of_ble_eq_true rfl) (Nat.le_of_ble_eq_true rfl) ⟨hp_1.1, hp_1.2.1, hp_1.2.2⟩
  · obtain ⟨rfl, rfl, z_s⟩ := hp_1
    show W p l e _ (s.setDrawn _) m _ below meth c _ _ _ _ _ (F0 m 5 ls [])
    refine lv_dload_n hx hb dX6_staves_5 rfl (lv_at hl 2 rfl) ?_
    have cw_2 := va_cwS (R := rm_X6_staves) (rm := rm_X6_circleOf) 1 (hts d0) gX6_staves_X6_circleOf rfl rfl rfl (by decide +kernel) ⟨Nat.le_of_ble_eq_true rfl, Nat.le_of_ble_eq_true rfl⟩
    refine xcall hd0 (xintoS (As := [.double d]) (rest := []) ⟨hx, hb, hml, hown, hts _⟩ cw_2 rfl rfl hl.1 rfl (lv_room (Nat.le_of_ble_eq_true rfl)) dX6_staves_6) (c_X6_circleOf (l := l) (G := G) (ty := ty) (b0 := b0) hd9) (xoweB cw_2.1) hK hb0 hS (Nat.le_of_ble_eq_true rfl) (Nat.le_of_ble_eq_true rfl) (fun E_2 ce_2 q9_2 H_2 locs_2 d0 hd0 hp_2 hS hce_2 hcv_2 hcl_2 => ?_) (fun v_2 H_2 locs_2 d0 hd0 hp_2 hS => ?_)
    · exact hp_2.elim
    · obtain ⟨rfl, r_2, rfl, q_2⟩ := hp_2
      show W p l e _ (s.setDrawn _) m _ below meth c _ _ _ _ _ (F0 m 9 ls [.double r_2])
      refine lv_dstore (lv' := [(5, .double r_2), (0, .ref x0), (1, .double x), (3, .double d)]) hx hb dX6_staves_9 hl (by decide) rfl (fun ls hl => ?_)
      obtain ⟨hf1, hf2, hf3, hf4, hf5, hf6⟩ := hN z_s
      refine lv_iconst (v := nI 1) hx hb dX6_staves_11 (by decide) ?_
      refine lv_dload hx hb dX6_staves_12 (lv_at hl 0 rfl) ?_
      refine lv_dload_n hx hb dX6_staves_14 rfl (lv_at hl 2 rfl) ?_
      refine xddiv hd0 hx hb q_2 hx9 dX6_staves_15 (fun r_3 d0 q_3 hd0 => ?_)
      refine xd2i hx hb q_3 dX6_staves_16 ?_
      refine lv_topi (fun i_4 ei_4 => ?_)
      refine lv_iconst (v := nI 2) hx hb dX6_staves_17 (by decide) ?_
      refine lv_isub hx hb dX6_staves_18 ?_
      have hq9 : (if (nI 1) < (i_4 - (nI 2)) then (i_4 - (nI 2)) else (nI 1)) = nI f9 := by rw [ei_4]; exact hf1
      refine va_mmax (s := s.setDrawn d0) hx hb (hml.trans hl.1.symm) hown (hts d0 _ hw_X6_staves_1) (hts d0 _ hw_X6_staves_2) (hts d0 _ hw_X6_staves_3) (hts d0 _ hw_X6_staves_4) (Nat.le_of_ble_eq_true rfl) (Nat.le_of_ble_eq_true rfl) (Nat.le_of_ble_eq_true rfl) (Nat.le_of_ble_eq_true rfl) dX6_staves_19 ?_
      rw [hq9]
      refine lv_istore (lv' := [(7, .int (nI f9)), (5, .double r_2), (0, .ref x0), (1, .double x), (3, .double d)]) hx hb dX6_staves_22 hl (by decide) rfl (fun ls hl => ?_)
      refine lv_iload hx hb dX6_staves_24 (lv_at hl 0 rfl) ?_
      refine lv_istore (lv' := [(8, .int (nI f9)), (7, .int (nI f9)), (5, .double r_2), (0, .ref x0), (1, .double x), (3, .double d)]) hx hb dX6_staves_26 hl (by decide) rfl (fun ls hl => ?_)
      suffices K : ∀ (u9 : Nat) (k : Nat) (locs : List Loc) (d0 : Drawn) (ls : Array Slot), (k + u9 = n9 ∧ f9 ≤ k) → va_S (xA b0) s.heap H locs → s.drawn.sameBut d0 lw_cs → lv_has ls 9 [(8, .int (nI k)), (1, .double x), (5, .double r_2)] → W p l e rm_X6_staves (s.setDrawn d0) m [Value.ref x0, Value.double x, Value.double d].toArray below meth c H locs (0 + rm_X6_checkStaves.cells + rm_X6_circleOf.cells) (0 + rm_X6_checkStaves.slots + rm_X6_circleOf.slots) (xMQ below (fun v H1 => H = H1 ∧ pStav ew ed = true ∧ v = some (.int (nI n9))) (fun E H1 => E = "java/lang/IllegalArgumentException" ∧ ¬ (pStav ew ed = true) ∧ xext H H1) [.ref x0, .double x, .double d].toArray s rm_X6_staves b0) (F0 m 28 ls []) from K (n9 - f9) f9 _ d0 ls ⟨by omega, by omega⟩ hS hd0 (lv_sub hl [0, 4, 2] rfl)
      intro u9
      induction u9 with
      | zero =>
        intro k locs d0 ls hinv hS hd0 hl
        obtain ⟨hk, hk1⟩ := hinv
        have ek : k = n9 := (by omega)
        refine lv_iload hx hb dX6_staves_28 (lv_at hl 0 rfl) ?_
        refine lv_ldc (v := nI 100000) hx hb hown (hts d0 _ hw_X6_staves_5) dX6_staves_30 ?_
        refine xicmpN_ge (tgt := 55) hx hb (by omega) (show (100000 : Nat) < 2 ^ 31 by decide) dX6_staves_32 (by decide) (fun h9 => absurd h9 (by omega)) (fun _ => ?_)
        refine lv_iload hx hb dX6_staves_35 (lv_at hl 0 rfl) ?_
        refine lv_i2d hx hb dX6_staves_37 ?_
        refine lv_dload_n hx hb dX6_staves_38 rfl (lv_at hl 1 rfl) ?_
        refine xdmul hd0 hx hb (vq_rf _) hx9 dX6_staves_39 (fun r_6 d0 q_6 hd0 => ?_)
        refine lv_dload hx hb dX6_staves_40 (lv_at hl 2 rfl) ?_
        refine xcmp_l_lt (tgt := 49) hx hb q_6 q_2 dX6_staves_42 dX6_staves_43 (by decide) (fun c_7 => ?_) (fun c_7 => ?_)
        · exact (xtf hf6 (by rw [← ek]; exact c_7)).elim
        · refine lv_iload hx hb dX6_staves_46 (lv_at hl 0 rfl) ?_
          exact xiret hd0 hx hb hr hlocks hS (Nat.le_of_ble_eq_true rfl) (Nat.le_of_ble_eq_true rfl) dX6_staves_48 ⟨rfl, z_s, by rw [ek]⟩
      | succ u9 ih =>
        intro k locs d0 ls hinv hS hd0 hl
        obtain ⟨hk, hk1⟩ := hinv
        refine lv_iload hx hb dX6_staves_28 (lv_at hl 0 rfl) ?_
        refine lv_ldc (v := nI 100000) hx hb hown (hts d0 _ hw_X6_staves_5) dX6_staves_30 ?_
        refine xicmpN_ge (tgt := 55) hx hb (by omega) (show (100000 : Nat) < 2 ^ 31 by decide) dX6_staves_32 (by decide) (fun h9 => absurd h9 (by omega)) (fun _ => ?_)
        refine lv_iload hx hb dX6_staves_35 (lv_at hl 0 rfl) ?_
        refine lv_i2d hx hb dX6_staves_37 ?_
        refine lv_dload_n hx hb dX6_staves_38 rfl (lv_at hl 1 rfl) ?_
        refine xdmul hd0 hx hb (vq_rf _) hx9 dX6_staves_39 (fun r_9 d0 q_9 hd0 => ?_)
        refine lv_dload hx hb dX6_staves_40 (lv_at hl 2 rfl) ?_
        refine xcmp_l_lt (tgt := 49) hx hb q_9 q_2 dX6_staves_42 dX6_staves_43 (by decide) (fun c_10 => ?_) (fun c_10 => ?_)
        · refine xiincN (x := k) (y := 1) (lv' := [(8, .int (nI (k + 1))), (1, .double x), (5, .double r_2)]) hx hb dX6_staves_49 hl (k := 0) rfl (by decide) (by decide) rfl (fun ls hl => ?_)
          refine lv_goto (tgt := 28) hx hb dX6_staves_52 (by decide) ?_
          exact ih (k + 1) _ d0 ls ⟨by omega, by omega⟩ hS hd0 (lv_sub hl [0, 1, 2] rfl)
        · exact (xtf c_10 (hf5 k (by omega) (by omega))).elim
/-- a box overlaps a fault; a strip's box on the board -/
def pHC (fa : Nat → UInt64) (b k : Nat) (x y w h : UInt64) : Prop := pOv x y w h (fa (32 * b + 4 * k)) (fa (32 * b + 4 * k + 1)) (fa (32 * b + 4 * k + 2)) (fa (32 * b + 4 * k + 3)) = true
def pHT (lo : Nat → Int32) (bx : Nat → Nat → UInt64) (b t : Nat) (x y w h : UInt64) : Prop := lo t = nI b ∧ pOv x y w h (bx t 0) (bx t 1) (bx t 2) (bx t 3) = true
/-- a box is free on a board -/
def pFree (fa : Nat → UInt64) (lo : Nat → Int32) (bx : Nat → Nat → UInt64) (R b n : Nat) (x y w h : UInt64) : Prop := (∀ k : Nat, k < n → ¬ pHC fa b k x y w h) ∧ ∀ t : Nat, t < R - 1 → ¬ pHT lo bx b t x y w h
theorem hitF_s {fa : Nat → UInt64} {b k : Nat} {x y w h : UInt64} (hk : ∀ j : Nat, j < k → ¬ pHC fa b j x y w h) (h2 : ¬ pHC fa b k x y w h) : ∀ j : Nat, j < k + 1 → ¬ pHC fa b j x y w h := fun j hj => by
  by_cases e : j = k
  · subst e; exact h2
  · exact hk j (by omega)
theorem hitT_s {lo : Nat → Int32} {bx : Nat → Nat → UInt64} {b k : Nat} {x y w h : UInt64} (hk : ∀ j : Nat, j < k → ¬ pHT lo bx b j x y w h) (h2 : ¬ pHT lo bx b k x y w h) : ∀ j : Nat, j < k + 1 → ¬ pHT lo bx b j x y w h := fun j hj => by
  by_cases e : j = k
  · subst e; exact h2
  · exact hk j (by omega)
set_option maxRecDepth 20000 in
theorem ggX6_overlapped_Jx4a65c_size_8abf5 : GoodIn wsX6_overlapped wsJx4a65c_size_8abf5 := goodIn_r _ [10, 11, 56, 57, 58] (by decide +kernel) (by decide +kernel)
set_option maxRecDepth 20000 in
theorem gX6_overlapped_Jx4a65c_size_8abf5 : GoodIn wsX6_overlapped (wsV RX6 180 RJx4a65c yJx4a65c_size_8abf5 wsJx4a65c_size_8abf5) := goodIn_app (goodIn_of _ (by decide +kernel)) ggX6_overlapped_Jx4a65c_size_8abf5
set_option maxRecDepth 20000 in
theorem ggX6_overlapped_Jx4a65c_get_915e3 : GoodIn wsX6_overlapped wsJx4a65c_get_915e3 := goodIn_r _ [15, 11, 16, 17, 18, 19, 20, 21, 22, 23, 24, 25, 26, 9, 27, 28, 56, 57, 58] (by decide +kernel) (by decide +kernel)
set_option maxRecDepth 20000 in
theorem gX6_overlapped_Jx4a65c_get_915e3 : GoodIn wsX6_overlapped (wsV RX6 263 RJx4a65c yJx4a65c_get_915e3 wsJx4a65c_get_915e3) := goodIn_app (goodIn_of _ (by decide +kernel)) ggX6_overlapped_Jx4a65c_get_915e3
set_option maxRecDepth 20000 in
theorem ggX6_overlapped_X1_overlaps : GoodIn wsX6_overlapped wsX1_overlaps := goodIn_r _ [33, 34, 35, 36, 37, 59, 60, 61, 62] (by decide +kernel) (by decide +kernel)
set_option maxRecDepth 20000 in
theorem gX6_overlapped_X1_overlaps : GoodIn wsX6_overlapped (wsV RX6 293 RX1 yX1_overlaps wsX1_overlaps) := goodIn_app (goodIn_of _ (by decide +kernel)) ggX6_overlapped_X1_overlaps
theorem dX6_overlapped_0 : decode cX6_overlapped 0 = .ok (.iconst 0, 1) := by decide +kernel
theorem dX6_overlapped_1 : decode cX6_overlapped 1 = .ok (.istore 4, 2) := by decide +kernel
theorem dX6_overlapped_3 : decode cX6_overlapped 3 = .ok (.iload 4, 2) := by decide +kernel
theorem dX6_overlapped_5 : decode cX6_overlapped 5 = .ok (.aload_n 1, 1) := by decide +kernel
theorem dX6_overlapped_6 : decode cX6_overlapped 6 = .ok (.getfield 205, 3) := by decide +kernel
theorem dX6_overlapped_9 : decode cX6_overlapped 9 = .ok (.invokevirtual 180, 3) := by decide +kernel
theorem dX6_overlapped_12 : decode cX6_overlapped 12 = .ok (.if_icmp .ge 35, 3) := by decide +kernel
theorem dX6_overlapped_15 : decode cX6_overlapped 15 = .ok (.aload_n 1, 1) := by decide +kernel
theorem dX6_overlapped_16 : decode cX6_overlapped 16 = .ok (.getfield 205, 3) := by decide +kernel
theorem dX6_overlapped_19 : decode cX6_overlapped 19 = .ok (.iload 4, 2) := by decide +kernel
theorem dX6_overlapped_21 : decode cX6_overlapped 21 = .ok (.invokevirtual 263, 3) := by decide +kernel
theorem dX6_overlapped_24 : decode cX6_overlapped 24 = .ok (.checkcast 208, 3) := by decide +kernel
theorem dX6_overlapped_27 : decode cX6_overlapped 27 = .ok (.astore 5, 2) := by decide +kernel
theorem dX6_overlapped_29 : decode cX6_overlapped 29 = .ok (.aload_n 3, 1) := by decide +kernel
theorem dX6_overlapped_30 : decode cX6_overlapped 30 = .ok (.aload 5, 2) := by decide +kernel
theorem dX6_overlapped_32 : decode cX6_overlapped 32 = .ok (.invokevirtual 293, 3) := by decide +kernel
theorem dX6_overlapped_35 : decode cX6_overlapped 35 = .ok (.ifCond .eq 6, 3) := by decide +kernel
theorem dX6_overlapped_38 : decode cX6_overlapped 38 = .ok (.aload 5, 2) := by decide +kernel
theorem dX6_overlapped_40 : decode cX6_overlapped 40 = .ok (.areturn, 1) := by decide +kernel
theorem dX6_overlapped_41 : decode cX6_overlapped 41 = .ok (.iinc 4 1, 3) := by decide +kernel
theorem dX6_overlapped_44 : decode cX6_overlapped 44 = .ok (.goto (-41), 3) := by decide +kernel
theorem dX6_overlapped_47 : decode cX6_overlapped 47 = .ok (.aload_n 0, 1) := by decide +kernel
theorem dX6_overlapped_48 : decode cX6_overlapped 48 = .ok (.getfield 28, 3) := by decide +kernel
theorem dX6_overlapped_51 : decode cX6_overlapped 51 = .ok (.astore 4, 2) := by decide +kernel
theorem dX6_overlapped_53 : decode cX6_overlapped 53 = .ok (.aload 4, 2) := by decide +kernel
theorem dX6_overlapped_55 : decode cX6_overlapped 55 = .ok (.arraylength, 1) := by decide +kernel
theorem dX6_overlapped_56 : decode cX6_overlapped 56 = .ok (.istore 5, 2) := by decide +kernel
theorem dX6_overlapped_58 : decode cX6_overlapped 58 = .ok (.iconst 0, 1) := by decide +kernel
theorem dX6_overlapped_59 : decode cX6_overlapped 59 = .ok (.istore 6, 2) := by decide +kernel
theorem dX6_overlapped_61 : decode cX6_overlapped 61 = .ok (.iload 6, 2) := by decide +kernel
theorem dX6_overlapped_63 : decode cX6_overlapped 63 = .ok (.iload 5, 2) := by decide +kernel
theorem dX6_overlapped_65 : decode cX6_overlapped 65 = .ok (.if_icmp .ge 43, 3) := by decide +kernel
theorem dX6_overlapped_68 : decode cX6_overlapped 68 = .ok (.aload 4, 2) := by decide +kernel
theorem dX6_overlapped_70 : decode cX6_overlapped 70 = .ok (.iload 6, 2) := by decide +kernel
theorem dX6_overlapped_72 : decode cX6_overlapped 72 = .ok (.aaload, 1) := by decide +kernel
theorem dX6_overlapped_73 : decode cX6_overlapped 73 = .ok (.astore 7, 2) := by decide +kernel
theorem dX6_overlapped_75 : decode cX6_overlapped 75 = .ok (.aload 7, 2) := by decide +kernel
theorem dX6_overlapped_77 : decode cX6_overlapped 77 = .ok (.getfield 213, 3) := by decide +kernel
theorem dX6_overlapped_80 : decode cX6_overlapped 80 = .ok (.iload_n 2, 1) := by decide +kernel
theorem dX6_overlapped_81 : decode cX6_overlapped 81 = .ok (.if_icmp .ne 21, 3) := by decide +kernel
theorem dX6_overlapped_84 : decode cX6_overlapped 84 = .ok (.aload_n 3, 1) := by decide +kernel
theorem dX6_overlapped_85 : decode cX6_overlapped 85 = .ok (.aload 7, 2) := by decide +kernel
theorem dX6_overlapped_87 : decode cX6_overlapped 87 = .ok (.getfield 218, 3) := by decide +kernel
theorem dX6_overlapped_90 : decode cX6_overlapped 90 = .ok (.invokevirtual 293, 3) := by decide +kernel
theorem dX6_overlapped_93 : decode cX6_overlapped 93 = .ok (.ifCond .eq 9, 3) := by decide +kernel
theorem dX6_overlapped_96 : decode cX6_overlapped 96 = .ok (.aload 7, 2) := by decide +kernel
theorem dX6_overlapped_98 : decode cX6_overlapped 98 = .ok (.getfield 218, 3) := by decide +kernel
theorem dX6_overlapped_101 : decode cX6_overlapped 101 = .ok (.areturn, 1) := by decide +kernel
theorem dX6_overlapped_102 : decode cX6_overlapped 102 = .ok (.iinc 6 1, 3) := by decide +kernel
theorem dX6_overlapped_105 : decode cX6_overlapped 105 = .ok (.goto (-44), 3) := by decide +kernel
theorem dX6_overlapped_108 : decode cX6_overlapped 108 = .ok (.aconst_null, 1) := by decide +kernel
theorem dX6_overlapped_109 : decode cX6_overlapped 109 = .ok (.areturn, 1) := by decide +kernel
abbrev rm_X6_overlapped : Room := { frames := 6, cells := 0, slots := 0, locals := 130 }
theorem hw_X6_overlapped_1 : (Cond.fieldLink RX6 205 "PlankUnroll$Board" "faults" "Ljava/util/ArrayList;") ∈ wsX6_overlapped := List.mem_of_getElem? (i := 1) rfl
theorem hw_X6_overlapped_2 : (Cond.classLink RX6 208 "PlankUnroll$Box") ∈ wsX6_overlapped := List.mem_of_getElem? (i := 2) rfl
theorem hw_X6_overlapped_3 : (Cond.fieldLink RX6 28 "PlankUnroll" "strips" "[LPlankUnroll$Strip;") ∈ wsX6_overlapped := List.mem_of_getElem? (i := 3) rfl
theorem hw_X6_overlapped_4 : (Cond.fieldLink RX6 213 "PlankUnroll$Strip" "board" "I") ∈ wsX6_overlapped := List.mem_of_getElem? (i := 4) rfl
theorem hw_X6_overlapped_5 : (Cond.fieldLink RX6 218 "PlankUnroll$Strip" "box" "LPlankUnroll$Box;") ∈ wsX6_overlapped := List.mem_of_getElem? (i := 5) rfl
theorem in_X6_overlapped_X0 : ∀ w ∈ wsX00, w ∈ wsX6_overlapped := by decide +kernel
theorem in_X6_overlapped_X5 : ∀ w ∈ wsX50, w ∈ wsX6_overlapped := by decide +kernel
theorem in_X6_overlapped_X6 : ∀ w ∈ wsX60, w ∈ wsX6_overlapped := by decide +kernel
set_option maxHeartbeats 4000000 in
set_option maxRecDepth 100000 in
/-- what a box overlaps -/
theorem c_X6_overlapped {l : Launch} {G : va_G} {ty : Nat → ClassId} {b0 : Nat} {H : Heap} {ad : Nat → Nat} {F R nb : Nat} {pl wi hi fa : Nat → UInt64} {un bu lo la : Nat → Int32} {cx cy bx : Nat → Nat → UInt64} {nf : Nat → Nat} {K0 : Heap} (hX : xCla G ty ad F R pl un cx cy bu nb wi hi nf fa lo la bx K0 H) (hW : xWf F R nb nf ad b0) {b i : Nat} (hb9 : b < nb) (hi9 : i < R - 1) : xMet l yX6_overlapped wsX6_overlapped rm_X6_overlapped G ty b0 [.ref (ad 0), .ref (ad (200 + b)), .int (nI b), .ref (ad (70 + i))] H (fun v H1 => H = H1 ∧ ((v = some .null ∧ pFree fa lo bx R b (nf b) (bx i 0) (bx i 1) (bx i 2) (bx i 3)) ∨ (∃ k : Nat, k < nf b ∧ v = some (.ref (ad (300 + 8 * b + k))) ∧ pHC fa b k (bx i 0) (bx i 1) (bx i 2) (bx i 3)) ∨ ∃ t : Nat, t < R - 1 ∧ v = some (.ref (ad (70 + t))) ∧ pHT lo bx b t (bx i 0) (bx i 1) (bx i 2) (bx i 3))) (fun _ _ => False) := by
  refine xbody (cc := cX6_overlapped) (maxL := 8) (ret := (some (.object "PlankUnroll$Box"))) (C := RX6) (lv := [(0, .ref (ad 0)), (1, .ref (ad (200 + b))), (2, .int (nI b)), (3, .ref (ad (70 + i)))]) (by decide) rfl rfl (Nat.le_of_ble_eq_true rfl) rfl ?_
  intro p e s m below meth c d0 hx hb hr hts hown hlocks hml hxt hnm0 hK hb0 hH0 hS hd0 ls hl
  obtain ⟨⟨zF2, zF8⟩, ⟨zR2, zR8⟩⟩ := id hW.1
  have zB4 := hW.2.1
  obtain ⟨mc, hl0, hl1⟩ := hX.fls_ b hb9
  have hn8 := hW.2.2.1 b hb9
  refine lv_iconst (v := nI 0) hx hb dX6_overlapped_0 (by decide) ?_
  refine lv_istore (lv' := [(4, .int (nI 0)), (0, .ref (ad 0)), (1, .ref (ad (200 + b))), (2, .int (nI b)), (3, .ref (ad (70 + i)))]) hx hb dX6_overlapped_1 hl (by decide) rfl (fun ls hl => ?_)
  suffices K : ∀ (n : Nat) (k : Nat) (locs : List Loc) (d0 : Drawn) (ls : Array Slot), (k + n = nf b ∧ ∀ j : Nat, j < k → ¬ pHC fa b j (bx i 0) (bx i 1) (bx i 2) (bx i 3)) → va_S (xA b0) s.heap H locs → s.drawn.sameBut d0 lw_cs → lv_has ls 8 [(4, .int (nI k)), (0, .ref (ad 0)), (1, .ref (ad (200 + b))), (2, .int (nI b)), (3, .ref (ad (70 + i)))] → W p l e rm_X6_overlapped (s.setDrawn d0) m [Value.ref (ad 0), Value.ref (ad (200 + b)), Value.int (nI b), Value.ref (ad (70 + i))].toArray below meth c H locs (0) (0) (xMQ below (fun v H1 => H = H1 ∧ ((v = some .null ∧ pFree fa lo bx R b (nf b) (bx i 0) (bx i 1) (bx i 2) (bx i 3)) ∨ (∃ k : Nat, k < nf b ∧ v = some (.ref (ad (300 + 8 * b + k))) ∧ pHC fa b k (bx i 0) (bx i 1) (bx i 2) (bx i 3)) ∨ ∃ t : Nat, t < R - 1 ∧ v = some (.ref (ad (70 + t))) ∧ pHT lo bx b t (bx i 0) (bx i 1) (bx i 2) (bx i 3))) (fun _ _ => False) [.ref (ad 0), .ref (ad (200 + b)), .int (nI b), .ref (ad (70 + i))].toArray s rm_X6_overlapped b0) (F0 m 3 ls []) from K (nf b) 0 _ d0 ls ⟨by omega, fun _ h => absurd h (Nat.not_lt_zero _)⟩ hS hd0 (lv_sub hl [0, 1, 2, 3, 4] rfl)
  intro n
  induction n with
  | zero =>
    intro k locs d0 ls hinv hS hd0 hl
    obtain ⟨hk, ho⟩ := hinv
    refine lv_iload hx hb dX6_overlapped_3 (lv_at hl 0 rfl) ?_
    refine lv_aload_n hx hb dX6_overlapped_5 rfl (lv_at hl 2 rfl) ?_
    refine va_get (D := G) (cl := vwCl) (ci := 1) (v := .ref (ad (210 + b))) (C := RX0) (T := TX0) (N := 3) hx hb (hts d0) in_X6_overlapped_X0 hown hK.1 (x1 (hX.board_ _ (by omega))) 0 rfl rfl 2 (by decide) (hts d0 _ hw_X6_overlapped_1) (fun _ h9 => h9) rfl dX6_overlapped_6 ?_
    have cw_1 := cwV (R := rm_X6_overlapped) (rm := rm_Jx4a65c_size_8abf5) 0 (hts d0) gX6_overlapped_Jx4a65c_size_8abf5 rfl rfl rfl (by decide +kernel) ⟨Nat.le_of_ble_eq_true rfl, Nat.le_of_ble_eq_true rfl⟩
    refine xcall hd0 (xintoV (b := (ad (210 + b))) (As := []) (rest := [.int (nI k)]) ⟨hx, hb, hml, hown, hts _⟩ cw_1 (va_recv hK.1 (x1 hl0) (ci := 0) (q0 := 0) rfl rfl) rfl rfl hl.1 rfl (lv_room (Nat.le_of_ble_eq_true rfl)) dX6_overlapped_9) (c_Jx4a65c_size_8abf5 (l := l) (G := G) (ty := ty) (b0 := b0) hl0) (xoweB cw_1.1) hK hb0 hS (Nat.le_of_ble_eq_true rfl) (Nat.le_of_ble_eq_true rfl) (fun E_1 ce_1 q9_1 H_1 locs_1 d0 hd0 hp_1 hS hce_1 hcv_1 hcl_1 => ?_) (fun v_1 H_1 locs_1 d0 hd0 hp_1 hS => ?_)
    · exact hp_1.elim
    · obtain ⟨rfl, rfl⟩ := hp_1
      show W p l e _ (s.setDrawn _) m _ below meth c _ _ _ _ _ (F0 m 12 ls [.int (nI (nf b)), .int (nI k)])
      refine xicmpN_ge (tgt := 47) hx hb (by omega) (by omega) dX6_overlapped_12 (by decide) (fun _ => ?_) (fun h9 => absurd h9 (by omega))
      have hoF : ∀ j : Nat, j < nf b → ¬ pHC fa b j (bx i 0) (bx i 1) (bx i 2) (bx i 3) := fun j hj => ho j (by omega)
      refine lv_aload_n hx hb dX6_overlapped_47 rfl (lv_at hl 1 rfl) ?_
      refine va_get (D := G) (cl := vwCl) (ci := 7) (v := .ref (ad 2)) (C := RX6) (T := TX6) (N := 6) hx hb (hts d0) in_X6_overlapped_X6 hown hK.1 (x1 (hX.o_)) 0 rfl rfl 2 (by decide) (hts d0 _ hw_X6_overlapped_3) (fun _ h9 => h9) rfl dX6_overlapped_48 ?_
      refine lv_astore (lv' := [(4, .ref (ad 2)), (0, .ref (ad 0)), (1, .ref (ad (200 + b))), (2, .int (nI b)), (3, .ref (ad (70 + i)))]) hx hb dX6_overlapped_51 hl (by decide) rfl (fun ls hl => ?_)
      refine lv_aload hx hb dX6_overlapped_53 (lv_at hl 0 rfl) ?_
      refine xalen hx hb hK.1 6 (hX.strips_) rfl dX6_overlapped_55 ?_
      refine lv_istore (lv' := [(5, .int (nI (R - 1))), (4, .ref (ad 2)), (0, .ref (ad 0)), (1, .ref (ad (200 + b))), (2, .int (nI b)), (3, .ref (ad (70 + i)))]) hx hb dX6_overlapped_56 hl (by decide) rfl (fun ls hl => ?_)
      refine lv_iconst (v := nI 0) hx hb dX6_overlapped_58 (by decide) ?_
      refine lv_istore (lv' := [(6, .int (nI 0)), (5, .int (nI (R - 1))), (4, .ref (ad 2)), (0, .ref (ad 0)), (1, .ref (ad (200 + b))), (2, .int (nI b)), (3, .ref (ad (70 + i)))]) hx hb dX6_overlapped_59 hl (by decide) rfl (fun ls hl => ?_)
      suffices K : ∀ (v9 : Nat) (q : Nat) (locs : List Loc) (d0 : Drawn) (ls : Array Slot), (q + v9 = R - 1 ∧ ∀ t : Nat, t < q → ¬ pHT lo bx b t (bx i 0) (bx i 1) (bx i 2) (bx i 3)) → va_S (xA b0) s.heap H locs → s.drawn.sameBut d0 lw_cs → lv_has ls 8 [(6, .int (nI q)), (2, .int (nI b)), (3, .ref (ad (70 + i))), (4, .ref (ad 2)), (5, .int (nI (R - 1)))] → W p l e rm_X6_overlapped (s.setDrawn d0) m [Value.ref (ad 0), Value.ref (ad (200 + b)), Value.int (nI b), Value.ref (ad (70 + i))].toArray below meth c H locs (0 + rm_Jx4a65c_size_8abf5.cells) (0 + rm_Jx4a65c_size_8abf5.slots) (xMQ below (fun v H1 => H = H1 ∧ ((v = some .null ∧ pFree fa lo bx R b (nf b) (bx i 0) (bx i 1) (bx i 2) (bx i 3)) ∨ (∃ k : Nat, k < nf b ∧ v = some (.ref (ad (300 + 8 * b + k))) ∧ pHC fa b k (bx i 0) (bx i 1) (bx i 2) (bx i 3)) ∨ ∃ t : Nat, t < R - 1 ∧ v = some (.ref (ad (70 + t))) ∧ pHT lo bx b t (bx i 0) (bx i 1) (bx i 2) (bx i 3))) (fun _ _ => False) [.ref (ad 0), .ref (ad (200 + b)), .int (nI b), .ref (ad (70 + i))].toArray s rm_X6_overlapped b0) (F0 m 61 ls []) from K (R - 1) 0 _ d0 ls ⟨by omega, fun _ h => absurd h (Nat.not_lt_zero _)⟩ hS hd0 (lv_sub hl [0, 5, 6, 2, 1] rfl)
      intro v9
      induction v9 with
      | zero =>
        intro q locs d0 ls hinv hS hd0 hl
        obtain ⟨hq, h2⟩ := hinv
        refine lv_iload hx hb dX6_overlapped_61 (lv_at hl 0 rfl) ?_
        refine lv_iload hx hb dX6_overlapped_63 (lv_at hl 4 rfl) ?_
        refine xicmpN_ge (tgt := 108) hx hb (by omega) (by omega) dX6_overlapped_65 (by decide) (fun _ => ?_) (fun h9 => absurd h9 (by omega))
        refine lv_null hx hb dX6_overlapped_108 ?_
        exact xaret (Or.inl ⟨_, rfl⟩) (Or.inl rfl) hd0 hx hb hr hlocks hS (Nat.le_of_ble_eq_true rfl) (Nat.le_of_ble_eq_true rfl) dX6_overlapped_109 ⟨rfl, Or.inl ⟨rfl, hoF, fun t ht => h2 t (by omega)⟩⟩
      | succ v9 ih2 =>
        intro q locs d0 ls hinv hS hd0 hl
        obtain ⟨hq, h2⟩ := hinv
        refine lv_iload hx hb dX6_overlapped_61 (lv_at hl 0 rfl) ?_
        refine lv_iload hx hb dX6_overlapped_63 (lv_at hl 4 rfl) ?_
        refine xicmpN_ge (tgt := 108) hx hb (by omega) (by omega) dX6_overlapped_65 (by decide) (fun h9 => absurd h9 (by omega)) (fun _ => ?_)
        refine lv_aload hx hb dX6_overlapped_68 (lv_at hl 3 rfl) ?_
        refine lv_iload hx hb dX6_overlapped_70 (lv_at hl 0 rfl) ?_
        refine xaald (j := q) hx hb hK.1 6 (hX.strips_) rfl (xix_of (by omega) (by omega)) rfl dX6_overlapped_72 ?_
        refine lv_astore (lv' := [(7, .ref (ad (30 + q))), (6, .int (nI q)), (2, .int (nI b)), (3, .ref (ad (70 + i))), (4, .ref (ad 2)), (5, .int (nI (R - 1)))]) hx hb dX6_overlapped_73 hl (by decide) rfl (fun ls hl => ?_)
        refine lv_aload hx hb dX6_overlapped_75 (lv_at hl 0 rfl) ?_
        refine va_get (D := G) (cl := vwCl) (ci := 6) (v := .int (lo q)) (C := RX5) (T := TX5) (N := 9) hx hb (hts d0) in_X6_overlapped_X5 hown hK.1 (x1 (hX.strip_ _ (by omega))) 0 rfl rfl 7 (by decide) (hts d0 _ hw_X6_overlapped_4) (fun _ h9 => h9) rfl dX6_overlapped_77 ?_
        refine lv_iload_n hx hb dX6_overlapped_80 rfl (lv_at hl 2 rfl) ?_
        refine lv_icmp_ne (tgt := 102) hx hb dX6_overlapped_81 (by decide) (fun c_5 => ?_) (fun c_5 => ?_)
        · refine xiincN (x := q) (y := 1) (lv' := [(6, .int (nI (q + 1))), (7, .ref (ad (30 + q))), (2, .int (nI b)), (3, .ref (ad (70 + i))), (4, .ref (ad 2)), (5, .int (nI (R - 1)))]) hx hb dX6_overlapped_102 hl (k := 1) rfl (by decide) (by decide) rfl (fun ls hl => ?_)
          refine lv_goto (tgt := 61) hx hb dX6_overlapped_105 (by decide) ?_
          exact ih2 (q + 1) _ d0 ls ⟨by omega, hitT_s h2 (fun z => c_5 z.1)⟩ hS hd0 (lv_sub hl [0, 2, 3, 4, 5] rfl)
        · refine lv_aload_n hx hb dX6_overlapped_84 rfl (lv_at hl 3 rfl) ?_
          refine lv_aload hx hb dX6_overlapped_85 (lv_at hl 0 rfl) ?_
          refine va_get (D := G) (cl := vwCl) (ci := 6) (v := .ref (ad (70 + q))) (C := RX5) (T := TX5) (N := 9) hx hb (hts d0) in_X6_overlapped_X5 hown hK.1 (x1 (hX.strip_ _ (by omega))) 0 rfl rfl 5 (by decide) (hts d0 _ hw_X6_overlapped_5) (fun _ h9 => h9) rfl dX6_overlapped_87 ?_
          have cw_6 := cwV (R := rm_X6_overlapped) (rm := rm_X1_overlaps) 1 (hts d0) gX6_overlapped_X1_overlaps rfl rfl rfl (by decide +kernel) ⟨Nat.le_of_ble_eq_true rfl, Nat.le_of_ble_eq_true rfl⟩
          refine xcall hd0 (xintoV (b := (ad (70 + i))) (As := [.ref (ad (70 + q))]) (rest := []) ⟨hx, hb, hml, hown, hts _⟩ cw_6 (va_recv hK.1 (x1 (hX.box_ _ (by omega))) (ci := 2) (q0 := 0) rfl rfl) rfl rfl hl.1 rfl (lv_room (Nat.le_of_ble_eq_true rfl)) dX6_overlapped_90) (c_X1_overlaps (l := l) (G := G) (ty := ty) (b0 := b0) (hX.box_ _ (by omega)) (hX.box_ _ (by omega))) (xoweB cw_6.1) hK hb0 hS (Nat.le_of_ble_eq_true rfl) (Nat.le_of_ble_eq_true rfl) (fun E_6 ce_6 q9_6 H_6 locs_6 d0 hd0 hp_6 hS hce_6 hcv_6 hcl_6 => ?_) (fun v_6 H_6 locs_6 d0 hd0 hp_6 hS => ?_)
          · exact hp_6.elim
          · obtain ⟨rfl, rfl⟩ := hp_6
            show W p l e _ (s.setDrawn _) m _ below meth c _ _ _ _ _ (F0 m 93 ls [.int (xB (pOv (bx i 0) (bx i 1) (bx i 2) (bx i 3) (bx q 0) (bx q 1) (bx q 2) (bx q 3)))])
            refine lv_if_eq (tgt := 102) hx hb dX6_overlapped_93 (by decide) (fun c_7 => ?_) (fun c_7 => ?_)
            · refine xiincN (x := q) (y := 1) (lv' := [(6, .int (nI (q + 1))), (7, .ref (ad (30 + q))), (2, .int (nI b)), (3, .ref (ad (70 + i))), (4, .ref (ad 2)), (5, .int (nI (R - 1)))]) hx hb dX6_overlapped_102 hl (k := 1) rfl (by decide) (by decide) rfl (fun ls hl => ?_)
              refine lv_goto (tgt := 61) hx hb dX6_overlapped_105 (by decide) ?_
              exact ih2 (q + 1) _ d0 ls ⟨by omega, hitT_s h2 (fun z => xtf z.2 (xB_f c_7))⟩ hS hd0 (lv_sub hl [0, 2, 3, 4, 5] rfl)
            · refine lv_aload hx hb dX6_overlapped_96 (lv_at hl 0 rfl) ?_
              refine va_get (D := G) (cl := vwCl) (ci := 6) (v := .ref (ad (70 + q))) (C := RX5) (T := TX5) (N := 9) hx hb (hts d0) in_X6_overlapped_X5 hown hK.1 (x1 (hX.strip_ _ (by omega))) 0 rfl rfl 5 (by decide) (hts d0 _ hw_X6_overlapped_5) (fun _ h9 => h9) rfl dX6_overlapped_98 ?_
              exact xaret (Or.inl ⟨_, rfl⟩) (Or.inr ⟨_, rfl⟩) hd0 hx hb hr hlocks hS (Nat.le_of_ble_eq_true rfl) (Nat.le_of_ble_eq_true rfl) dX6_overlapped_101 ⟨rfl, Or.inr (Or.inr ⟨q, by omega, rfl, c_5, xB_t c_7⟩)⟩
  | succ n ih =>
    intro k locs d0 ls hinv hS hd0 hl
    obtain ⟨hk, ho⟩ := hinv
    refine lv_iload hx hb dX6_overlapped_3 (lv_at hl 0 rfl) ?_
    refine lv_aload_n hx hb dX6_overlapped_5 rfl (lv_at hl 2 rfl) ?_
    refine va_get (D := G) (cl := vwCl) (ci := 1) (v := .ref (ad (210 + b))) (C := RX0) (T := TX0) (N := 3) hx hb (hts d0) in_X6_overlapped_X0 hown hK.1 (x1 (hX.board_ _ (by omega))) 0 rfl rfl 2 (by decide) (hts d0 _ hw_X6_overlapped_1) (fun _ h9 => h9) rfl dX6_overlapped_6 ?_
    have cw_8 := cwV (R := rm_X6_overlapped) (rm := rm_Jx4a65c_size_8abf5) 0 (hts d0) gX6_overlapped_Jx4a65c_size_8abf5 rfl rfl rfl (by decide +kernel) ⟨Nat.le_of_ble_eq_true rfl, Nat.le_of_ble_eq_true rfl⟩
    refine xcall hd0 (xintoV (b := (ad (210 + b))) (As := []) (rest := [.int (nI k)]) ⟨hx, hb, hml, hown, hts _⟩ cw_8 (va_recv hK.1 (x1 hl0) (ci := 0) (q0 := 0) rfl rfl) rfl rfl hl.1 rfl (lv_room (Nat.le_of_ble_eq_true rfl)) dX6_overlapped_9) (c_Jx4a65c_size_8abf5 (l := l) (G := G) (ty := ty) (b0 := b0) hl0) (xoweB cw_8.1) hK hb0 hS (Nat.le_of_ble_eq_true rfl) (Nat.le_of_ble_eq_true rfl) (fun E_8 ce_8 q9_8 H_8 locs_8 d0 hd0 hp_8 hS hce_8 hcv_8 hcl_8 => ?_) (fun v_8 H_8 locs_8 d0 hd0 hp_8 hS => ?_)
    · exact hp_8.elim
    · obtain ⟨rfl, rfl⟩ := hp_8
      show W p l e _ (s.setDrawn _) m _ below meth c _ _ _ _ _ (F0 m 12 ls [.int (nI (nf b)), .int (nI k)])
      refine xicmpN_ge (tgt := 47) hx hb (by omega) (by omega) dX6_overlapped_12 (by decide) (fun h9 => absurd h9 (by omega)) (fun _ => ?_)
      have hl2 := hl0
      rw [if_neg (show ¬ nf b = 0 by omega)] at hl2
      refine lv_aload_n hx hb dX6_overlapped_15 rfl (lv_at hl 2 rfl) ?_
      refine va_get (D := G) (cl := vwCl) (ci := 1) (v := .ref (ad (210 + b))) (C := RX0) (T := TX0) (N := 3) hx hb (hts d0) in_X6_overlapped_X0 hown hK.1 (x1 (hX.board_ _ (by omega))) 0 rfl rfl 2 (by decide) (hts d0 _ hw_X6_overlapped_1) (fun _ h9 => h9) rfl dX6_overlapped_16 ?_
      refine lv_iload hx hb dX6_overlapped_19 (lv_at hl 0 rfl) ?_
      have cw_10 := cwV (R := rm_X6_overlapped) (rm := rm_Jx4a65c_get_915e3) 1 (hts d0) gX6_overlapped_Jx4a65c_get_915e3 rfl rfl rfl (by decide +kernel) ⟨Nat.le_of_ble_eq_true rfl, Nat.le_of_ble_eq_true rfl⟩
      refine xcall hd0 (xintoV (b := (ad (210 + b))) (As := [.int (nI k)]) (rest := []) ⟨hx, hb, hml, hown, hts _⟩ cw_10 (va_recv hK.1 (x1 hl2) (ci := 0) (q0 := 0) rfl rfl) rfl rfl hl.1 rfl (lv_room (Nat.le_of_ble_eq_true rfl)) dX6_overlapped_21) (c_Jx4a65c_get_915e3 (l := l) (G := G) (ty := ty) (b0 := b0) (q1 := ad (300 + 8 * b + k)) hl2 (hl1 (by omega)) (show k < nf b by omega) (by omega) (if_pos (by omega))) (xoweB cw_10.1) hK hb0 hS (Nat.le_of_ble_eq_true rfl) (Nat.le_of_ble_eq_true rfl) (fun E_10 ce_10 q9_10 H_10 locs_10 d0 hd0 hp_10 hS hce_10 hcv_10 hcl_10 => ?_) (fun v_10 H_10 locs_10 d0 hd0 hp_10 hS => ?_)
      · exact hp_10.elim
      · obtain ⟨rfl, rfl⟩ := hp_10
        show W p l e _ (s.setDrawn _) m _ below meth c _ _ _ _ _ (F0 m 24 ls [.ref (ad (300 + 8 * b + k))])
        refine va_castE (s := s.setDrawn d0) hx hb hown (hts d0 _ hw_X6_overlapped_2) (va_recv (s := s.setDrawn d0) hK.1 (x1 (hX.flt_ _ (by omega) _ (by omega))) (ci := 2) (q0 := 0) rfl rfl) dX6_overlapped_24 ?_
        refine lv_astore (lv' := [(5, .ref (ad (300 + 8 * b + k))), (4, .int (nI k)), (0, .ref (ad 0)), (1, .ref (ad (200 + b))), (2, .int (nI b)), (3, .ref (ad (70 + i)))]) hx hb dX6_overlapped_27 hl (by decide) rfl (fun ls hl => ?_)
        refine lv_aload_n hx hb dX6_overlapped_29 rfl (lv_at hl 5 rfl) ?_
        refine lv_aload hx hb dX6_overlapped_30 (lv_at hl 0 rfl) ?_
        have cw_11 := cwV (R := rm_X6_overlapped) (rm := rm_X1_overlaps) 1 (hts d0) gX6_overlapped_X1_overlaps rfl rfl rfl (by decide +kernel) ⟨Nat.le_of_ble_eq_true rfl, Nat.le_of_ble_eq_true rfl⟩
        refine xcall hd0 (xintoV (b := (ad (70 + i))) (As := [.ref (ad (300 + 8 * b + k))]) (rest := []) ⟨hx, hb, hml, hown, hts _⟩ cw_11 (va_recv hK.1 (x1 (hX.box_ _ (by omega))) (ci := 2) (q0 := 0) rfl rfl) rfl rfl hl.1 rfl (lv_room (Nat.le_of_ble_eq_true rfl)) dX6_overlapped_32) (c_X1_overlaps (l := l) (G := G) (ty := ty) (b0 := b0) (hX.box_ _ (by omega)) (hX.flt_ _ (by omega) _ (by omega))) (xoweB cw_11.1) hK hb0 hS (Nat.le_of_ble_eq_true rfl) (Nat.le_of_ble_eq_true rfl) (fun E_11 ce_11 q9_11 H_11 locs_11 d0 hd0 hp_11 hS hce_11 hcv_11 hcl_11 => ?_) (fun v_11 H_11 locs_11 d0 hd0 hp_11 hS => ?_)
        · exact hp_11.elim
        · obtain ⟨rfl, rfl⟩ := hp_11
          show W p l e _ (s.setDrawn _) m _ below meth c _ _ _ _ _ (F0 m 35 ls [.int (xB (pOv (bx i 0) (bx i 1) (bx i 2) (bx i 3) (fa (32 * b + 4 * k)) (fa (32 * b + 4 * k + 1)) (fa (32 * b + 4 * k + 2)) (fa (32 * b + 4 * k + 3))))])
          refine lv_if_eq (tgt := 41) hx hb dX6_overlapped_35 (by decide) (fun c_12 => ?_) (fun c_12 => ?_)
          · refine xiincN (x := k) (y := 1) (lv' := [(4, .int (nI (k + 1))), (5, .ref (ad (300 + 8 * b + k))), (0, .ref (ad 0)), (1, .ref (ad (200 + b))), (2, .int (nI b)), (3, .ref (ad (70 + i)))]) hx hb dX6_overlapped_41 hl (k := 1) rfl (by decide) (by decide) rfl (fun ls hl => ?_)
            refine lv_goto (tgt := 3) hx hb dX6_overlapped_44 (by decide) ?_
            exact ih (k + 1) _ d0 ls ⟨by omega, hitF_s ho (fun z => xtf z (xB_f c_12))⟩ hS hd0 (lv_sub hl [0, 2, 3, 4, 5] rfl)
          · refine lv_aload hx hb dX6_overlapped_38 (lv_at hl 0 rfl) ?_
            exact xaret (Or.inl ⟨_, rfl⟩) (Or.inr ⟨_, rfl⟩) hd0 hx hb hr hlocks hS (Nat.le_of_ble_eq_true rfl) (Nat.le_of_ble_eq_true rfl) dX6_overlapped_40 ⟨rfl, Or.inr (Or.inl ⟨k, by omega, rfl, xB_t c_12⟩)⟩
/-- boxes alike but for where box i lies -/
def xBx (bx bx1 : Nat → Nat → UInt64) (i : Nat) : Prop := (∀ t : Nat, ¬ t = i → bx1 t = bx t) ∧ ∀ k : Nat, ¬ k = 0 → bx1 i k = bx i k
theorem xBx.rf {bx : Nat → Nat → UInt64} {i : Nat} : xBx bx bx i := ⟨fun _ _ => rfl, fun _ _ => rfl⟩
theorem xBx.put {bx bx1 : Nat → Nat → UInt64} {i : Nat} {v : UInt64} (h : xBx bx bx1 i) : xBx bx (xup2 bx1 i 0 v) i := ⟨fun t ht => by rw [xup2_n ht]; exact h.1 t ht, fun k hk => by rw [xup2_s, vupd_n hk]; exact h.2 k hk⟩
theorem xBx_0 {bx1 : Nat → Nat → UInt64} {i : Nat} {v : UInt64} : xup2 bx1 i 0 v i 0 = v := by rw [xup2_s, vupd_s]
theorem pOv_vq {x x' y w h x2 y2 w2 h2 : UInt64} (hx : vq x x') : pOv x y w h x2 y2 w2 h2 = pOv x' y w h x2 y2 w2 h2 := by
  unfold pOv
  rw [vq_lt hx (vq_rf _), vq_add hx (vq_rf w)]
theorem pHC_mv {bx bx1 : Nat → Nat → UInt64} {fa : Nat → UInt64} {b f i : Nat} {e : UInt64} (hB : xBx bx bx1 i) (hr : vq (bx1 i 0) e) : pHC fa b f (bx1 i 0) (bx1 i 1) (bx1 i 2) (bx1 i 3) ↔ pHC fa b f e (bx i 1) (bx i 2) (bx i 3) := by
  unfold pHC
  rw [hB.2 1 (by decide), hB.2 2 (by decide), hB.2 3 (by decide), pOv_vq hr]
theorem pHT_mv {bx bx1 : Nat → Nat → UInt64} {lo : Nat → Int32} {b t i : Nat} {e : UInt64} (hB : xBx bx bx1 i) (hr : vq (bx1 i 0) e) (hlo : ¬ lo i = nI b) : pHT lo bx1 b t (bx1 i 0) (bx1 i 1) (bx1 i 2) (bx1 i 3) ↔ pHT lo bx b t e (bx i 1) (bx i 2) (bx i 3) := by
  by_cases ht : t = i
  · subst ht; exact ⟨fun z => absurd z.1 hlo, fun z => absurd z.1 hlo⟩
  · unfold pHT
    rw [hB.2 1 (by decide), hB.2 2 (by decide), hB.2 3 (by decide), pOv_vq hr, hB.1 t ht]
theorem pFree_mv {bx bx1 : Nat → Nat → UInt64} {fa : Nat → UInt64} {lo : Nat → Int32} {R b n i : Nat} {e : UInt64} (hB : xBx bx bx1 i) (hr : vq (bx1 i 0) e) (hlo : ¬ lo i = nI b) : pFree fa lo bx1 R b n (bx1 i 0) (bx1 i 1) (bx1 i 2) (bx1 i 3) ↔ pFree fa lo bx R b n e (bx i 1) (bx i 2) (bx i 3) :=
  ⟨fun h => ⟨fun k hk z => h.1 k hk ((pHC_mv hB hr).mpr z), fun t ht z => h.2 t ht ((pHT_mv hB hr hlo).mpr z)⟩, fun h => ⟨fun k hk z => h.1 k hk ((pHC_mv hB hr).mp z), fun t ht z => h.2 t ht ((pHT_mv hB hr hlo).mp z)⟩⟩
/-- a box that overlaps another one is not free before the eighths that are tried next -/
def pSkip (fa : Nat → UInt64) (lo : Nat → Int32) (bx : Nat → Nat → UInt64) (R b n i : Nat) : Prop := ∀ k : Nat, k ≤ 8000 → ∀ x2 w2 : UInt64, ((∃ f : Nat, f < n ∧ x2 = fa (32 * b + 4 * f) ∧ w2 = fa (32 * b + 4 * f + 2) ∧ pHC fa b f (pEi k) (bx i 1) (bx i 2) (bx i 3)) ∨ ∃ t : Nat, t < R - 1 ∧ ¬ t = i ∧ x2 = bx t 0 ∧ w2 = bx t 2 ∧ pHT lo bx b t (pEi k) (bx i 1) (bx i 2) (bx i 3)) →
  ∃ m : Nat, (if nI k < pLast (FP.dadd x2 w2) then pLast (FP.dadd x2 w2) else nI k) = nI m ∧ k ≤ m ∧ m < 2 ^ 29 ∧ ∀ j : Nat, k ≤ j → j ≤ m → j ≤ 8000 → ¬ pFree fa lo bx R b n (pEi j) (bx i 1) (bx i 2) (bx i 3)
theorem vq_of_eq {x y : UInt64} (h : x = y) : vq x y := by rw [h]
set_option maxRecDepth 20000 in
theorem ggX6_leastEighths_X6_overlapped : GoodIn wsX6_leastEighths wsX6_overlapped := goodIn_r _ [16, 17, 18, 19, 20, 21, 22, 23, 24, 25, 26, 27, 28, 29, 30, 31, 32, 33, 34, 35, 36, 37, 38, 39, 40, 41, 42, 43, 44, 45, 46, 47, 48, 49, 50, 51, 52, 53, 61, 62, 63, 64, 65, 66, 67, 68, 69, 70, 71, 72, 73, 74, 75, 76, 77, 78, 79, 80, 81, 57, 58, 59, 60] (by decide +kernel) (by decide +kernel)
set_option maxRecDepth 20000 in
theorem gX6_leastEighths_X6_overlapped : GoodIn wsX6_leastEighths (wsV RX6 285 RX6 yX6_overlapped wsX6_overlapped) := goodIn_app (goodIn_of _ (by decide +kernel)) ggX6_leastEighths_X6_overlapped
set_option maxRecDepth 20000 in
theorem ggX6_leastEighths_X6_lastEighthsBefore : GoodIn wsX6_leastEighths wsX6_lastEighthsBefore := goodIn_r _ [56, 4] (by decide +kernel) (by decide +kernel)
set_option maxRecDepth 20000 in
theorem gX6_leastEighths_X6_lastEighthsBefore : GoodIn wsX6_leastEighths (va_wsS RX6 289 yX6_lastEighthsBefore wsX6_lastEighthsBefore) := goodIn_app (goodIn_of _ (by decide +kernel)) ggX6_leastEighths_X6_lastEighthsBefore
theorem dX6_leastEighths_0 : decode cX6_leastEighths 0 = .ok (.aload_n 3, 1) := by decide +kernel
theorem dX6_leastEighths_1 : decode cX6_leastEighths 1 = .ok (.getfield 273, 3) := by decide +kernel
theorem dX6_leastEighths_4 : decode cX6_leastEighths 4 = .ok (.aload_n 3, 1) := by decide +kernel
theorem dX6_leastEighths_5 : decode cX6_leastEighths 5 = .ok (.getfield 274, 3) := by decide +kernel
theorem dX6_leastEighths_8 : decode cX6_leastEighths 8 = .ok (.dadd, 1) := by decide +kernel
theorem dX6_leastEighths_9 : decode cX6_leastEighths 9 = .ok (.aload_n 1, 1) := by decide +kernel
theorem dX6_leastEighths_10 : decode cX6_leastEighths 10 = .ok (.getfield 277, 3) := by decide +kernel
theorem dX6_leastEighths_13 : decode cX6_leastEighths 13 = .ok (.dcmp .l, 1) := by decide +kernel
theorem dX6_leastEighths_14 : decode cX6_leastEighths 14 = .ok (.ifCond .le 5, 3) := by decide +kernel
theorem dX6_leastEighths_17 : decode cX6_leastEighths 17 = .ok (.iconst (-1), 1) := by decide +kernel
theorem dX6_leastEighths_18 : decode cX6_leastEighths 18 = .ok (.ireturn, 1) := by decide +kernel
theorem dX6_leastEighths_19 : decode cX6_leastEighths 19 = .ok (.iconst 0, 1) := by decide +kernel
theorem dX6_leastEighths_20 : decode cX6_leastEighths 20 = .ok (.istore 4, 2) := by decide +kernel
theorem dX6_leastEighths_22 : decode cX6_leastEighths 22 = .ok (.iload 4, 2) := by decide +kernel
theorem dX6_leastEighths_24 : decode cX6_leastEighths 24 = .ok (.sipush 8000, 3) := by decide +kernel
theorem dX6_leastEighths_27 : decode cX6_leastEighths 27 = .ok (.if_icmp .gt 77, 3) := by decide +kernel
theorem dX6_leastEighths_30 : decode cX6_leastEighths 30 = .ok (.aload_n 3, 1) := by decide +kernel
theorem dX6_leastEighths_31 : decode cX6_leastEighths 31 = .ok (.iload 4, 2) := by decide +kernel
theorem dX6_leastEighths_33 : decode cX6_leastEighths 33 = .ok (.i2d, 1) := by decide +kernel
theorem dX6_leastEighths_34 : decode cX6_leastEighths 34 = .ok (.ldc2_w 278, 3) := by decide +kernel
theorem dX6_leastEighths_37 : decode cX6_leastEighths 37 = .ok (.ddiv, 1) := by decide +kernel
theorem dX6_leastEighths_38 : decode cX6_leastEighths 38 = .ok (.putfield 280, 3) := by decide +kernel
theorem dX6_leastEighths_41 : decode cX6_leastEighths 41 = .ok (.aload_n 3, 1) := by decide +kernel
theorem dX6_leastEighths_42 : decode cX6_leastEighths 42 = .ok (.getfield 280, 3) := by decide +kernel
theorem dX6_leastEighths_45 : decode cX6_leastEighths 45 = .ok (.aload_n 3, 1) := by decide +kernel
theorem dX6_leastEighths_46 : decode cX6_leastEighths 46 = .ok (.getfield 281, 3) := by decide +kernel
theorem dX6_leastEighths_49 : decode cX6_leastEighths 49 = .ok (.dadd, 1) := by decide +kernel
theorem dX6_leastEighths_50 : decode cX6_leastEighths 50 = .ok (.aload_n 1, 1) := by decide +kernel
theorem dX6_leastEighths_51 : decode cX6_leastEighths 51 = .ok (.getfield 284, 3) := by decide +kernel
theorem dX6_leastEighths_54 : decode cX6_leastEighths 54 = .ok (.dcmp .l, 1) := by decide +kernel
theorem dX6_leastEighths_55 : decode cX6_leastEighths 55 = .ok (.ifCond .le 5, 3) := by decide +kernel
theorem dX6_leastEighths_58 : decode cX6_leastEighths 58 = .ok (.iconst (-1), 1) := by decide +kernel
theorem dX6_leastEighths_59 : decode cX6_leastEighths 59 = .ok (.ireturn, 1) := by decide +kernel
theorem dX6_leastEighths_60 : decode cX6_leastEighths 60 = .ok (.aload_n 0, 1) := by decide +kernel
theorem dX6_leastEighths_61 : decode cX6_leastEighths 61 = .ok (.aload_n 1, 1) := by decide +kernel
theorem dX6_leastEighths_62 : decode cX6_leastEighths 62 = .ok (.iload_n 2, 1) := by decide +kernel
theorem dX6_leastEighths_63 : decode cX6_leastEighths 63 = .ok (.aload_n 3, 1) := by decide +kernel
theorem dX6_leastEighths_64 : decode cX6_leastEighths 64 = .ok (.invokevirtual 285, 3) := by decide +kernel
theorem dX6_leastEighths_67 : decode cX6_leastEighths 67 = .ok (.astore 5, 2) := by decide +kernel
theorem dX6_leastEighths_69 : decode cX6_leastEighths 69 = .ok (.aload 5, 2) := by decide +kernel
theorem dX6_leastEighths_71 : decode cX6_leastEighths 71 = .ok (.ifnonnull 6, 3) := by decide +kernel
theorem dX6_leastEighths_74 : decode cX6_leastEighths 74 = .ok (.iload 4, 2) := by decide +kernel
theorem dX6_leastEighths_76 : decode cX6_leastEighths 76 = .ok (.ireturn, 1) := by decide +kernel
theorem dX6_leastEighths_77 : decode cX6_leastEighths 77 = .ok (.iload 4, 2) := by decide +kernel
theorem dX6_leastEighths_79 : decode cX6_leastEighths 79 = .ok (.aload 5, 2) := by decide +kernel
theorem dX6_leastEighths_81 : decode cX6_leastEighths 81 = .ok (.getfield 280, 3) := by decide +kernel
theorem dX6_leastEighths_84 : decode cX6_leastEighths 84 = .ok (.aload 5, 2) := by decide +kernel
theorem dX6_leastEighths_86 : decode cX6_leastEighths 86 = .ok (.getfield 281, 3) := by decide +kernel
theorem dX6_leastEighths_89 : decode cX6_leastEighths 89 = .ok (.dadd, 1) := by decide +kernel
theorem dX6_leastEighths_90 : decode cX6_leastEighths 90 = .ok (.invokestatic 289, 3) := by decide +kernel
theorem dX6_leastEighths_93 : decode cX6_leastEighths 93 = .ok (.invokestatic 237, 3) := by decide +kernel
theorem dX6_leastEighths_96 : decode cX6_leastEighths 96 = .ok (.istore 4, 2) := by decide +kernel
theorem dX6_leastEighths_98 : decode cX6_leastEighths 98 = .ok (.iinc 4 1, 3) := by decide +kernel
theorem dX6_leastEighths_101 : decode cX6_leastEighths 101 = .ok (.goto (-79), 3) := by decide +kernel
theorem dX6_leastEighths_104 : decode cX6_leastEighths 104 = .ok (.iconst (-1), 1) := by decide +kernel
theorem dX6_leastEighths_105 : decode cX6_leastEighths 105 = .ok (.ireturn, 1) := by decide +kernel
abbrev rm_X6_leastEighths : Room := { frames := 7, cells := 0, slots := 0, locals := 190 }
theorem hw_X6_leastEighths_1 : (Cond.fieldLink RX6 273 "PlankUnroll$Box" "y" "D") ∈ wsX6_leastEighths := List.mem_of_getElem? (i := 1) rfl
theorem hw_X6_leastEighths_2 : (Cond.fieldLink RX6 274 "PlankUnroll$Box" "h" "D") ∈ wsX6_leastEighths := List.mem_of_getElem? (i := 2) rfl
theorem hw_X6_leastEighths_3 : (Cond.fieldLink RX6 277 "PlankUnroll$Board" "h" "D") ∈ wsX6_leastEighths := List.mem_of_getElem? (i := 3) rfl
theorem hw_X6_leastEighths_4 : (Cond.constantDouble RX6 278 (4620693217682128896)) ∈ wsX6_leastEighths := List.mem_of_getElem? (i := 4) rfl
theorem hw_X6_leastEighths_5 : (Cond.fieldLink RX6 280 "PlankUnroll$Box" "x" "D") ∈ wsX6_leastEighths := List.mem_of_getElem? (i := 5) rfl
theorem hw_X6_leastEighths_6 : (Cond.fieldLink RX6 281 "PlankUnroll$Box" "w" "D") ∈ wsX6_leastEighths := List.mem_of_getElem? (i := 6) rfl
theorem hw_X6_leastEighths_7 : (Cond.fieldLink RX6 284 "PlankUnroll$Board" "w" "D") ∈ wsX6_leastEighths := List.mem_of_getElem? (i := 7) rfl
theorem hw_X6_leastEighths_8 : (Cond.methodLink RX6 237 Lib.Math.max.name) ∈ wsX6_leastEighths := List.mem_of_getElem? (i := 8) rfl
theorem hw_X6_leastEighths_9 : (Cond.static Lib.Math.max.name) ∈ wsX6_leastEighths := List.mem_of_getElem? (i := 9) rfl
theorem hw_X6_leastEighths_10 : (Cond.initialized "java/lang/Math") ∈ wsX6_leastEighths := List.mem_of_getElem? (i := 10) rfl
theorem hw_X6_leastEighths_11 : (Cond.code Lib.Math.max.name Lib.Math.max.code 2 (some .int)) ∈ wsX6_leastEighths := List.mem_of_getElem? (i := 11) rfl
theorem in_X6_leastEighths_X0 : ∀ w ∈ wsX00, w ∈ wsX6_leastEighths := by decide +kernel
theorem in_X6_leastEighths_X1 : ∀ w ∈ wsX10, w ∈ wsX6_leastEighths := by decide +kernel
set_option maxHeartbeats 4000000 in
set_option maxRecDepth 100000 in
/-- the least place on a board -/
theorem c_X6_leastEighths {l : Launch} {G : va_G} {ty : Nat → ClassId} {b0 : Nat} {H : Heap} {ad : Nat → Nat} {F R nb : Nat} {pl wi hi fa : Nat → UInt64} {un bu lo la : Nat → Int32} {cx cy bx : Nat → Nat → UInt64} {nf : Nat → Nat} {K0 : Heap} (hX : xCla G ty ad F R pl un cx cy bu nb wi hi nf fa lo la bx K0 H) (hW : xWf F R nb nf ad b0) {b i : Nat} (hb9 : b < nb) (hi9 : i < R - 1) (hlo : ¬ lo i = nI b) (hSk : pSkip fa lo bx R b (nf b) i) : xMet l yX6_leastEighths wsX6_leastEighths rm_X6_leastEighths G ty b0 [.ref (ad 0), .ref (ad (200 + b)), .int (nI b), .ref (ad (70 + i))] H (fun v H1 => ∃ bx1 : Nat → Nat → UInt64, xCla G ty ad F R pl un cx cy bu nb wi hi nf fa lo la bx1 K0 H1 ∧ xBx bx bx1 i ∧ ((v = some (.int (-1)) ∧ xgt (FP.dadd (bx i 1) (bx i 3)) (hi b) = true) ∨ (xgt (FP.dadd (bx i 1) (bx i 3)) (hi b) = false ∧ ∃ k : Nat, k ≤ 8000 ∧ v = some (.int (nI k)) ∧ xgt (FP.dadd (pEi k) (bx i 2)) (wi b) = false ∧ pFree fa lo bx R b (nf b) (pEi k) (bx i 1) (bx i 2) (bx i 3) ∧ vq (bx1 i 0) (pEi k) ∧ ∀ j : Nat, j < k → ¬ pFree fa lo bx R b (nf b) (pEi j) (bx i 1) (bx i 2) (bx i 3)) ∨ (v = some (.int (-1)) ∧ xgt (FP.dadd (bx i 1) (bx i 3)) (hi b) = false ∧ ∃ k : Nat, (∀ j : Nat, j < k → j ≤ 8000 → ¬ pFree fa lo bx R b (nf b) (pEi j) (bx i 1) (bx i 2) (bx i 3)) ∧ (xgt (FP.dadd (pEi k) (bx i 2)) (wi b) = true ∨ 8000 < k)))) (fun _ _ => False) := by
  refine xbody (cc := cX6_leastEighths) (maxL := 6) (ret := (some .int)) (C := RX6) (lv := [(0, .ref (ad 0)), (1, .ref (ad (200 + b))), (2, .int (nI b)), (3, .ref (ad (70 + i)))]) (by decide) rfl rfl (Nat.le_of_ble_eq_true rfl) rfl ?_
  intro p e s m below meth c d0 hx hb hr hts hown hlocks hml hxt hnm0 hK hb0 hH0 hS hd0 ls hl
  obtain ⟨⟨zF2, zF8⟩, ⟨zR2, zR8⟩⟩ := id hW.1
  have zB4 := hW.2.1
  refine lv_aload_n hx hb dX6_leastEighths_0 rfl (lv_at hl 3 rfl) ?_
  refine va_get (D := G) (cl := vwCl) (ci := 2) (v := .double (bx i 1)) (C := RX1) (T := TX1) (N := 4) hx hb (hts d0) in_X6_leastEighths_X1 hown hK.1 (x1 (hX.box_ _ (by omega))) 0 rfl rfl 1 (by decide) (hts d0 _ hw_X6_leastEighths_1) (fun _ h9 => h9) rfl dX6_leastEighths_1 ?_
  refine lv_aload_n hx hb dX6_leastEighths_4 rfl (lv_at hl 3 rfl) ?_
  refine va_get (D := G) (cl := vwCl) (ci := 2) (v := .double (bx i 3)) (C := RX1) (T := TX1) (N := 4) hx hb (hts d0) in_X6_leastEighths_X1 hown hK.1 (x1 (hX.box_ _ (by omega))) 0 rfl rfl 3 (by decide) (hts d0 _ hw_X6_leastEighths_2) (fun _ h9 => h9) rfl dX6_leastEighths_5 ?_
  refine xdadd hd0 hx hb (vq_rf _) (vq_rf _) dX6_leastEighths_8 (fun r_1 d0 q_1 hd0 => ?_)
  refine lv_aload_n hx hb dX6_leastEighths_9 rfl (lv_at hl 1 rfl) ?_
  refine va_get (D := G) (cl := vwCl) (ci := 1) (v := .double (hi b)) (C := RX0) (T := TX0) (N := 3) hx hb (hts d0) in_X6_leastEighths_X0 hown hK.1 (x1 (hX.board_ _ (by omega))) 0 rfl rfl 1 (by decide) (hts d0 _ hw_X6_leastEighths_3) (fun _ h9 => h9) rfl dX6_leastEighths_10 ?_
  refine xcmp_l_le (tgt := 19) hx hb q_1 (vq_rf _) dX6_leastEighths_13 dX6_leastEighths_14 (by decide) (fun c_2 => ?_) (fun c_2 => ?_)
  · refine lv_iconst (v := nI 0) hx hb dX6_leastEighths_19 (by decide) ?_
    refine lv_istore (lv' := [(4, .int (nI 0)), (0, .ref (ad 0)), (1, .ref (ad (200 + b))), (2, .int (nI b)), (3, .ref (ad (70 + i)))]) hx hb dX6_leastEighths_20 hl (by decide) rfl (fun ls hl => ?_)
    suffices K : ∀ (u9 : Nat) (k : Nat) (bx9 : Nat → Nat → UInt64) (H9 : Heap) (locs : List Loc) (d0 : Drawn) (ls : Array Slot), (8001 ≤ k + u9 ∧ k < 2 ^ 29 + 2 ∧ xBx bx bx9 i ∧ ∀ j : Nat, j < k → j ≤ 8000 → ¬ pFree fa lo bx R b (nf b) (pEi j) (bx i 1) (bx i 2) (bx i 3)) → xCla G ty ad F R pl un cx cy bu nb wi hi nf fa lo la bx9 K0 H9 → va_S (xA b0) s.heap H9 locs → s.drawn.sameBut d0 lw_cs → lv_has ls 6 [(4, .int (nI k)), (0, .ref (ad 0)), (1, .ref (ad (200 + b))), (2, .int (nI b)), (3, .ref (ad (70 + i)))] → W p l e rm_X6_leastEighths (s.setDrawn d0) m [Value.ref (ad 0), Value.ref (ad (200 + b)), Value.int (nI b), Value.ref (ad (70 + i))].toArray below meth c H9 locs (0) (0) (xMQ below (fun v H1 => ∃ bx1 : Nat → Nat → UInt64, xCla G ty ad F R pl un cx cy bu nb wi hi nf fa lo la bx1 K0 H1 ∧ xBx bx bx1 i ∧ ((v = some (.int (-1)) ∧ xgt (FP.dadd (bx i 1) (bx i 3)) (hi b) = true) ∨ (xgt (FP.dadd (bx i 1) (bx i 3)) (hi b) = false ∧ ∃ k : Nat, k ≤ 8000 ∧ v = some (.int (nI k)) ∧ xgt (FP.dadd (pEi k) (bx i 2)) (wi b) = false ∧ pFree fa lo bx R b (nf b) (pEi k) (bx i 1) (bx i 2) (bx i 3) ∧ vq (bx1 i 0) (pEi k) ∧ ∀ j : Nat, j < k → ¬ pFree fa lo bx R b (nf b) (pEi j) (bx i 1) (bx i 2) (bx i 3)) ∨ (v = some (.int (-1)) ∧ xgt (FP.dadd (bx i 1) (bx i 3)) (hi b) = false ∧ ∃ k : Nat, (∀ j : Nat, j < k → j ≤ 8000 → ¬ pFree fa lo bx R b (nf b) (pEi j) (bx i 1) (bx i 2) (bx i 3)) ∧ (xgt (FP.dadd (pEi k) (bx i 2)) (wi b) = true ∨ 8000 < k)))) (fun _ _ => False) [.ref (ad 0), .ref (ad (200 + b)), .int (nI b), .ref (ad (70 + i))].toArray s rm_X6_leastEighths b0) (F0 m 22 ls []) from K 8001 0 bx H _ d0 ls ⟨by omega, by omega, xBx.rf, fun _ h => absurd h (Nat.not_lt_zero _)⟩ hX hS hd0 (lv_sub hl [0, 1, 2, 3, 4] rfl)
    intro u9
    induction u9 with
    | zero =>
      intro k bx9 H9 locs d0 ls hinv hX9 hS hd0 hl
      obtain ⟨hk, hk2, hB9, ho⟩ := hinv
      refine lv_iload hx hb dX6_leastEighths_22 (lv_at hl 0 rfl) ?_
      refine lv_sipush (v := nI 8000) hx hb dX6_leastEighths_24 (by decide) ?_
      refine xicmpN_gt (tgt := 104) hx hb (by omega) (show (8000 : Nat) < 2 ^ 31 by decide) dX6_leastEighths_27 (by decide) (fun _ => ?_) (fun h9 => absurd h9 (by omega))
      refine lv_iconst (v := (-1)) hx hb dX6_leastEighths_104 (by decide) ?_
      exact xiret hd0 hx hb hr hlocks hS (Nat.le_of_ble_eq_true rfl) (Nat.le_of_ble_eq_true rfl) dX6_leastEighths_105 ⟨_, hX9, hB9, Or.inr (Or.inr ⟨rfl, c_2, k, ho, Or.inr (by omega)⟩)⟩
    | succ u9 ih =>
      intro k bx9 H9 locs d0 ls hinv hX9 hS hd0 hl
      obtain ⟨hk, hk2, hB9, ho⟩ := hinv
      refine lv_iload hx hb dX6_leastEighths_22 (lv_at hl 0 rfl) ?_
      refine lv_sipush (v := nI 8000) hx hb dX6_leastEighths_24 (by decide) ?_
      refine xicmpN_gt (tgt := 104) hx hb (by omega) (show (8000 : Nat) < 2 ^ 31 by decide) dX6_leastEighths_27 (by decide) (fun c_4 => ?_) (fun c_4 => ?_)
      · refine lv_iconst (v := (-1)) hx hb dX6_leastEighths_104 (by decide) ?_
        exact xiret hd0 hx hb hr hlocks hS (Nat.le_of_ble_eq_true rfl) (Nat.le_of_ble_eq_true rfl) dX6_leastEighths_105 ⟨_, hX9, hB9, Or.inr (Or.inr ⟨rfl, c_2, k, ho, Or.inr (by omega)⟩)⟩
      · refine lv_aload_n hx hb dX6_leastEighths_30 rfl (lv_at hl 4 rfl) ?_
        refine lv_iload hx hb dX6_leastEighths_31 (lv_at hl 0 rfl) ?_
        refine lv_i2d hx hb dX6_leastEighths_33 ?_
        refine lv_ldc2d hx hb hown (hts d0 _ hw_X6_leastEighths_4) dX6_leastEighths_34 ?_
        refine xddiv hd0 hx hb (vq_rf _) (vq_rf _) dX6_leastEighths_37 (fun r_5 d0 q_5 hd0 => ?_)
        refine xput (G := G) (ci := 2) (v := .double r_5) (ty := .double) (C := RX1) (T := TX1) (N := 4) hx hb (hts d0) in_X6_leastEighths_X1 tyX1 tyX1_ok nmX1 hown hK.1 (hX9.box_ _ (by omega)) hS (hW.2.2.2.1 _ (xU_box (by omega))) rfl 0 (by decide) (hts d0 _ hw_X6_leastEighths_5) (fun _ h9 => h9) rfl (by decide +kernel) rfl rfl (Nat.le_of_ble_eq_true rfl) dX6_leastEighths_38 (fun H_6 locs_6 hs_6 hS => ?_)
        have hX_6 : xCla G ty ad F R pl un cx cy bu nb wi hi nf fa lo la (xup2 bx9 i 0 r_5) K0 H_6 := hX9.put_box0 (by omega) hW hs_6
        have hB_9 : xBx bx (xup2 bx9 i 0 r_5) i := hB9.put
        have hr_9 : vq ((xup2 bx9 i 0 r_5) i 0) (pEi k) := by rw [xBx_0]; exact q_5
        have e2_9 : (xup2 bx9 i 0 r_5) i 2 = bx i 2 := hB_9.2 2 (by decide)
        refine lv_aload_n hx hb dX6_leastEighths_41 rfl (lv_at hl 4 rfl) ?_
        refine va_get (D := G) (cl := vwCl) (ci := 2) (v := .double ((xup2 bx9 i 0 r_5) i 0)) (C := RX1) (T := TX1) (N := 4) hx hb (hts d0) in_X6_leastEighths_X1 hown hK.1 (x1 (hX_6.box_ _ (by omega))) 0 rfl rfl 0 (by decide) (hts d0 _ hw_X6_leastEighths_5) (fun _ h9 => h9) rfl dX6_leastEighths_42 ?_
        refine lv_aload_n hx hb dX6_leastEighths_45 rfl (lv_at hl 4 rfl) ?_
        refine va_get (D := G) (cl := vwCl) (ci := 2) (v := .double ((xup2 bx9 i 0 r_5) i 2)) (C := RX1) (T := TX1) (N := 4) hx hb (hts d0) in_X6_leastEighths_X1 hown hK.1 (x1 (hX_6.box_ _ (by omega))) 0 rfl rfl 2 (by decide) (hts d0 _ hw_X6_leastEighths_6) (fun _ h9 => h9) rfl dX6_leastEighths_46 ?_
        refine xdadd hd0 hx hb (vq_rf _) (vq_rf _) dX6_leastEighths_49 (fun r_7 d0 q_7 hd0 => ?_)
        refine lv_aload_n hx hb dX6_leastEighths_50 rfl (lv_at hl 2 rfl) ?_
        refine va_get (D := G) (cl := vwCl) (ci := 1) (v := .double (wi b)) (C := RX0) (T := TX0) (N := 3) hx hb (hts d0) in_X6_leastEighths_X0 hown hK.1 (x1 (hX_6.board_ _ (by omega))) 0 rfl rfl 0 (by decide) (hts d0 _ hw_X6_leastEighths_7) (fun _ h9 => h9) rfl dX6_leastEighths_51 ?_
        refine xcmp_l_le (tgt := 60) hx hb q_7 (vq_rf _) dX6_leastEighths_54 dX6_leastEighths_55 (by decide) (fun c_8 => ?_) (fun c_8 => ?_)
        · have hfit_9 := c_8
          refine lv_aload_n hx hb dX6_leastEighths_60 rfl (lv_at hl 1 rfl) ?_
          refine lv_aload_n hx hb dX6_leastEighths_61 rfl (lv_at hl 2 rfl) ?_
          refine lv_iload_n hx hb dX6_leastEighths_62 rfl (lv_at hl 3 rfl) ?_
          refine lv_aload_n hx hb dX6_leastEighths_63 rfl (lv_at hl 4 rfl) ?_
          have cw_9 := cwV (R := rm_X6_leastEighths) (rm := rm_X6_overlapped) 3 (hts d0) gX6_leastEighths_X6_overlapped rfl rfl rfl (by decide +kernel) ⟨Nat.le_of_ble_eq_true rfl, Nat.le_of_ble_eq_true rfl⟩
          refine xcall hd0 (xintoV (b := (ad 0)) (As := [.ref (ad (200 + b)), .int (nI b), .ref (ad (70 + i))]) (rest := []) ⟨hx, hb, hml, hown, hts _⟩ cw_9 (va_recv hK.1 (x1 (hX_6.o_)) (ci := 7) (q0 := 0) rfl rfl) rfl rfl hl.1 rfl (lv_room (Nat.le_of_ble_eq_true rfl)) dX6_leastEighths_64) (c_X6_overlapped (l := l) (G := G) (ty := ty) (b0 := b0) hX_6 hW (b := b) (i := i) hb9 hi9) (xoweB cw_9.1) hK hb0 hS (Nat.le_of_ble_eq_true rfl) (Nat.le_of_ble_eq_true rfl) (fun E_9 ce_9 q9_9 H_9 locs_9 d0 hd0 hp_9 hS hce_9 hcv_9 hcl_9 => ?_) (fun v_9 H_9 locs_9 d0 hd0 hp_9 hS => ?_)
          · exact hp_9.elim
          · obtain ⟨rfl, hz_9⟩ := hp_9
            rcases hz_9 with ⟨rfl, hf_9⟩ | ⟨f_9, hf_9, rfl, hh_9⟩ | ⟨t_9, ht_9, rfl, hh_9⟩
            · show W p l e _ (s.setDrawn _) m _ below meth c _ _ _ _ _ (F0 m 67 ls [.null])
              refine lv_astoreN (lv' := [(5, .null), (4, .int (nI k)), (0, .ref (ad 0)), (1, .ref (ad (200 + b))), (2, .int (nI b)), (3, .ref (ad (70 + i)))]) hx hb dX6_leastEighths_67 hl (by decide) rfl (fun ls hl => ?_)
              refine lv_aloadN hx hb dX6_leastEighths_69 (lv_at hl 0 rfl) ?_
              refine lv_ifnonnullN hx hb dX6_leastEighths_71 ?_
              refine lv_iload hx hb dX6_leastEighths_74 (lv_at hl 1 rfl) ?_
              exact xiret hd0 hx hb hr hlocks hS (Nat.le_of_ble_eq_true rfl) (Nat.le_of_ble_eq_true rfl) dX6_leastEighths_76 ⟨_, hX_6, hB_9, Or.inr (Or.inl ⟨c_2, k, by omega, rfl, (by rw [← vq_gt (vq_of_eq (vq_add hr_9 (vq_rf (bx i 2)))) (vq_rf _)]; rw [← e2_9]; exact hfit_9), (pFree_mv hB_9 hr_9 hlo).mp hf_9, hr_9, fun j hj => ho j hj (by omega)⟩)⟩
            · have hh2_9 := (pHC_mv hB_9 hr_9).mp hh_9
              obtain ⟨m_9, hm1_9, hm2_9, hm3_9, hm4_9⟩ := hSk k (by omega) _ _ (Or.inl ⟨f_9, hf_9, rfl, rfl, hh2_9⟩)
              show W p l e _ (s.setDrawn _) m _ below meth c _ _ _ _ _ (F0 m 67 ls [.ref (ad (300 + 8 * b + f_9))])
              refine lv_astore (lv' := [(5, .ref (ad (300 + 8 * b + f_9))), (4, .int (nI k)), (0, .ref (ad 0)), (1, .ref (ad (200 + b))), (2, .int (nI b)), (3, .ref (ad (70 + i)))]) hx hb dX6_leastEighths_67 hl (by decide) rfl (fun ls hl => ?_)
              refine lv_aload hx hb dX6_leastEighths_69 (lv_at hl 0 rfl) ?_
              refine lv_ifnonnull (tgt := 77) hx hb dX6_leastEighths_71 (by decide) ?_
              refine lv_iload hx hb dX6_leastEighths_77 (lv_at hl 1 rfl) ?_
              refine lv_aload hx hb dX6_leastEighths_79 (lv_at hl 0 rfl) ?_
              refine va_get (D := G) (cl := vwCl) (ci := 2) (v := .double (fa (32 * b + 4 * f_9))) (C := RX1) (T := TX1) (N := 4) hx hb (hts d0) in_X6_leastEighths_X1 hown hK.1 (x1 (hX_6.flt_ _ (by omega) _ (by omega))) 0 rfl rfl 0 (by decide) (hts d0 _ hw_X6_leastEighths_5) (fun _ h9 => h9) rfl dX6_leastEighths_81 ?_
              refine lv_aload hx hb dX6_leastEighths_84 (lv_at hl 0 rfl) ?_
              refine va_get (D := G) (cl := vwCl) (ci := 2) (v := .double (fa (32 * b + 4 * f_9 + 2))) (C := RX1) (T := TX1) (N := 4) hx hb (hts d0) in_X6_leastEighths_X1 hown hK.1 (x1 (hX_6.flt_ _ (by omega) _ (by omega))) 0 rfl rfl 2 (by decide) (hts d0 _ hw_X6_leastEighths_6) (fun _ h9 => h9) rfl dX6_leastEighths_86 ?_
              refine xdadd hd0 hx hb (vq_rf _) (vq_rf _) dX6_leastEighths_89 (fun r_10 d0 q_10 hd0 => ?_)
              have cw_11 := va_cwS (R := rm_X6_leastEighths) (rm := rm_X6_lastEighthsBefore) 1 (hts d0) gX6_leastEighths_X6_lastEighthsBefore rfl rfl rfl (by decide +kernel) ⟨Nat.le_of_ble_eq_true rfl, Nat.le_of_ble_eq_true rfl⟩
              refine xcall hd0 (xintoS (As := [.double r_10]) (rest := [.int (nI k)]) ⟨hx, hb, hml, hown, hts _⟩ cw_11 rfl rfl hl.1 rfl (lv_room (Nat.le_of_ble_eq_true rfl)) dX6_leastEighths_90) (c_X6_lastEighthsBefore (l := l) (G := G) (ty := ty) (b0 := b0) q_10) (xoweB cw_11.1) hK hb0 hS (Nat.le_of_ble_eq_true rfl) (Nat.le_of_ble_eq_true rfl) (fun E_11 ce_11 q9_11 H_11 locs_11 d0 hd0 hp_11 hS hce_11 hcv_11 hcl_11 => ?_) (fun v_11 H_11 locs_11 d0 hd0 hp_11 hS => ?_)
              · exact hp_11.elim
              · obtain ⟨rfl, rfl⟩ := hp_11
                show W p l e _ (s.setDrawn _) m _ below meth c _ _ _ _ _ (F0 m 93 ls [.int ((pLast (FP.dadd (fa (32 * b + 4 * f_9)) (fa (32 * b + 4 * f_9 + 2))))), .int (nI k)])
                refine va_mmax (s := s.setDrawn d0) hx hb (hml.trans hl.1.symm) hown (hts d0 _ hw_X6_leastEighths_8) (hts d0 _ hw_X6_leastEighths_9) (hts d0 _ hw_X6_leastEighths_10) (hts d0 _ hw_X6_leastEighths_11) (Nat.le_of_ble_eq_true rfl) (Nat.le_of_ble_eq_true rfl) (Nat.le_of_ble_eq_true rfl) (Nat.le_of_ble_eq_true rfl) dX6_leastEighths_93 ?_
                rw [hm1_9]
                refine lv_istore (lv' := [(4, .int (nI m_9)), (5, .ref (ad (300 + 8 * b + f_9))), (0, .ref (ad 0)), (1, .ref (ad (200 + b))), (2, .int (nI b)), (3, .ref (ad (70 + i)))]) hx hb dX6_leastEighths_96 hl (by decide) rfl (fun ls hl => ?_)
                refine xiincN (x := m_9) (y := 1) (lv' := [(4, .int (nI (m_9 + 1))), (5, .ref (ad (300 + 8 * b + f_9))), (0, .ref (ad 0)), (1, .ref (ad (200 + b))), (2, .int (nI b)), (3, .ref (ad (70 + i)))]) hx hb dX6_leastEighths_98 hl (k := 0) rfl (by decide) (by decide) rfl (fun ls hl => ?_)
                refine lv_goto (tgt := 22) hx hb dX6_leastEighths_101 (by decide) ?_
                exact ih (m_9 + 1) (xup2 bx9 i 0 r_5) H_6 _ d0 ls ⟨by omega, by omega, hB_9, fun j hj hj8 => (by by_cases e : j < k; exact ho j e hj8; exact hm4_9 j (by omega) (by omega) hj8)⟩ hX_6 hS hd0 (lv_sub hl [0, 2, 3, 4, 5] rfl)
            · have hti_9 : ¬ t_9 = i := fun z => hlo (z ▸ hh_9.1)
              have hh2_9 := (pHT_mv hB_9 hr_9 hlo).mp hh_9
              have e9_9 : (xup2 bx9 i 0 r_5) t_9 = bx t_9 := hB_9.1 _ hti_9
              obtain ⟨m_9, hm1_9, hm2_9, hm3_9, hm4_9⟩ := hSk k (by omega) ((xup2 bx9 i 0 r_5) t_9 0) ((xup2 bx9 i 0 r_5) t_9 2) (Or.inr ⟨t_9, ht_9, hti_9, by rw [e9_9], by rw [e9_9], hh2_9⟩)
              show W p l e _ (s.setDrawn _) m _ below meth c _ _ _ _ _ (F0 m 67 ls [.ref (ad (70 + t_9))])
              refine lv_astore (lv' := [(5, .ref (ad (70 + t_9))), (4, .int (nI k)), (0, .ref (ad 0)), (1, .ref (ad (200 + b))), (2, .int (nI b)), (3, .ref (ad (70 + i)))]) hx hb dX6_leastEighths_67 hl (by decide) rfl (fun ls hl => ?_)
              refine lv_aload hx hb dX6_leastEighths_69 (lv_at hl 0 rfl) ?_
              refine lv_ifnonnull (tgt := 77) hx hb dX6_leastEighths_71 (by decide) ?_
              refine lv_iload hx hb dX6_leastEighths_77 (lv_at hl 1 rfl) ?_
              refine lv_aload hx hb dX6_leastEighths_79 (lv_at hl 0 rfl) ?_
              refine va_get (D := G) (cl := vwCl) (ci := 2) (v := .double ((xup2 bx9 i 0 r_5) t_9 0)) (C := RX1) (T := TX1) (N := 4) hx hb (hts d0) in_X6_leastEighths_X1 hown hK.1 (x1 (hX_6.box_ _ (by omega))) 0 rfl rfl 0 (by decide) (hts d0 _ hw_X6_leastEighths_5) (fun _ h9 => h9) rfl dX6_leastEighths_81 ?_
              refine lv_aload hx hb dX6_leastEighths_84 (lv_at hl 0 rfl) ?_
              refine va_get (D := G) (cl := vwCl) (ci := 2) (v := .double ((xup2 bx9 i 0 r_5) t_9 2)) (C := RX1) (T := TX1) (N := 4) hx hb (hts d0) in_X6_leastEighths_X1 hown hK.1 (x1 (hX_6.box_ _ (by omega))) 0 rfl rfl 2 (by decide) (hts d0 _ hw_X6_leastEighths_6) (fun _ h9 => h9) rfl dX6_leastEighths_86 ?_
              refine xdadd hd0 hx hb (vq_rf _) (vq_rf _) dX6_leastEighths_89 (fun r_12 d0 q_12 hd0 => ?_)
              have cw_13 := va_cwS (R := rm_X6_leastEighths) (rm := rm_X6_lastEighthsBefore) 1 (hts d0) gX6_leastEighths_X6_lastEighthsBefore rfl rfl rfl (by decide +kernel) ⟨Nat.le_of_ble_eq_true rfl, Nat.le_of_ble_eq_true rfl⟩
              refine xcall hd0 (xintoS (As := [.double r_12]) (rest := [.int (nI k)]) ⟨hx, hb, hml, hown, hts _⟩ cw_13 rfl rfl hl.1 rfl (lv_room (Nat.le_of_ble_eq_true rfl)) dX6_leastEighths_90) (c_X6_lastEighthsBefore (l := l) (G := G) (ty := ty) (b0 := b0) q_12) (xoweB cw_13.1) hK hb0 hS (Nat.le_of_ble_eq_true rfl) (Nat.le_of_ble_eq_true rfl) (fun E_13 ce_13 q9_13 H_13 locs_13 d0 hd0 hp_13 hS hce_13 hcv_13 hcl_13 => ?_) (fun v_13 H_13 locs_13 d0 hd0 hp_13 hS => ?_)
              · exact hp_13.elim
              · obtain ⟨rfl, rfl⟩ := hp_13
                show W p l e _ (s.setDrawn _) m _ below meth c _ _ _ _ _ (F0 m 93 ls [.int ((pLast (FP.dadd ((xup2 bx9 i 0 r_5) t_9 0) ((xup2 bx9 i 0 r_5) t_9 2)))), .int (nI k)])
                refine va_mmax (s := s.setDrawn d0) hx hb (hml.trans hl.1.symm) hown (hts d0 _ hw_X6_leastEighths_8) (hts d0 _ hw_X6_leastEighths_9) (hts d0 _ hw_X6_leastEighths_10) (hts d0 _ hw_X6_leastEighths_11) (Nat.le_of_ble_eq_true rfl) (Nat.le_of_ble_eq_true rfl) (Nat.le_of_ble_eq_true rfl) (Nat.le_of_ble_eq_true rfl) dX6_leastEighths_93 ?_
                rw [hm1_9]
                refine lv_istore (lv' := [(4, .int (nI m_9)), (5, .ref (ad (70 + t_9))), (0, .ref (ad 0)), (1, .ref (ad (200 + b))), (2, .int (nI b)), (3, .ref (ad (70 + i)))]) hx hb dX6_leastEighths_96 hl (by decide) rfl (fun ls hl => ?_)
                refine xiincN (x := m_9) (y := 1) (lv' := [(4, .int (nI (m_9 + 1))), (5, .ref (ad (70 + t_9))), (0, .ref (ad 0)), (1, .ref (ad (200 + b))), (2, .int (nI b)), (3, .ref (ad (70 + i)))]) hx hb dX6_leastEighths_98 hl (k := 0) rfl (by decide) (by decide) rfl (fun ls hl => ?_)
                refine lv_goto (tgt := 22) hx hb dX6_leastEighths_101 (by decide) ?_
                exact ih (m_9 + 1) (xup2 bx9 i 0 r_5) H_6 _ d0 ls ⟨by omega, by omega, hB_9, fun j hj hj8 => (by by_cases e : j < k; exact ho j e hj8; exact hm4_9 j (by omega) (by omega) hj8)⟩ hX_6 hS hd0 (lv_sub hl [0, 2, 3, 4, 5] rfl)
        · refine lv_iconst (v := (-1)) hx hb dX6_leastEighths_58 (by decide) ?_
          exact xiret hd0 hx hb hr hlocks hS (Nat.le_of_ble_eq_true rfl) (Nat.le_of_ble_eq_true rfl) dX6_leastEighths_59 ⟨_, hX_6, hB_9, Or.inr (Or.inr ⟨rfl, c_2, k, ho, Or.inl (by rw [← vq_gt (vq_of_eq (vq_add hr_9 (vq_rf (bx i 2)))) (vq_rf _)]; rw [← e2_9]; exact c_8)⟩)⟩
  · refine lv_iconst (v := (-1)) hx hb dX6_leastEighths_17 (by decide) ?_
    exact xiret hd0 hx hb hr hlocks hS (Nat.le_of_ble_eq_true rfl) (Nat.le_of_ble_eq_true rfl) dX6_leastEighths_18 ⟨_, hX, xBx.rf, Or.inl ⟨rfl, c_2⟩⟩
set_option maxRecDepth 20000 in
theorem ggX6_nest_X6_boardAt : GoodIn wsX6_nest wsX6_boardAt := goodIn_ca (goodIn_r _ [10, 11, 12, 13, 14, 15, 16, 17, 18, 19, 20, 21, 22, 23, 24, 25, 26, 27, 28, 29, 30, 31, 32, 33, 34, 35, 36, 37, 89, 90, 91, 92, 93, 94, 95, 96, 97] (by decide +kernel) (by decide +kernel)) (goodIn_sub (fun _ h => List.mem_cons_of_mem _ (List.mem_append_right _ h)) (by decide +kernel))
set_option maxRecDepth 20000 in
theorem gX6_nest_X6_boardAt : GoodIn wsX6_nest (wsV RX6 195 RX6 yX6_boardAt wsX6_boardAt) := goodIn_app (goodIn_of _ (by decide +kernel)) ggX6_nest_X6_boardAt
set_option maxRecDepth 20000 in
theorem ggX6_nest_X6_stripAt : GoodIn wsX6_nest wsX6_stripAt := goodIn_ca (goodIn_r _ [41, 11, 12, 42, 89, 90, 91, 92, 93, 94] (by decide +kernel) (by decide +kernel)) (goodIn_sub (fun _ h => List.mem_cons_of_mem _ (List.mem_append_right _ h)) (by decide +kernel))
set_option maxRecDepth 20000 in
theorem gX6_nest_X6_stripAt : GoodIn wsX6_nest (wsV RX6 90 RX6 yX6_stripAt wsX6_stripAt) := goodIn_app (goodIn_of _ (by decide +kernel)) ggX6_nest_X6_stripAt
set_option maxRecDepth 20000 in
theorem ggX6_nest_X6_needUnrolled : GoodIn wsX6_nest wsX6_needUnrolled := goodIn_ca (goodIn_r _ [45, 1, 2, 46, 80, 81, 82, 83, 84, 85, 86, 87, 88] (by decide +kernel) (by decide +kernel)) (goodIn_sub (fun _ h => List.mem_cons_of_mem _ (List.mem_append_left _ (List.mem_append_right _ h))) (by decide +kernel))
set_option maxRecDepth 20000 in
theorem gX6_nest_X6_needUnrolled : GoodIn wsX6_nest (va_wsS RX6 114 yX6_needUnrolled wsX6_needUnrolled) := goodIn_app (goodIn_of _ (by decide +kernel)) ggX6_nest_X6_needUnrolled
set_option maxRecDepth 20000 in
theorem ggX6_nest_X6_leastEighths : GoodIn wsX6_nest wsX6_leastEighths := goodIn_r _ [50, 51, 52, 53, 54, 55, 56, 57, 58, 59, 60, 61, 62, 63, 64, 9, 65, 66, 67, 42, 3, 4, 15, 16, 17, 18, 19, 20, 21, 22, 23, 24, 25, 26, 27, 28, 29, 30, 31, 32, 33, 34, 35, 36, 37, 68, 69, 70, 71, 72, 73, 74, 75, 76, 77, 78, 79, 98, 99, 100, 101, 102, 103, 104, 89, 90, 91, 92, 93, 94, 80, 81, 82, 83, 84, 85, 86, 87, 88, 95, 96, 97] (by decide +kernel) (by decide +kernel)
set_option maxRecDepth 20000 in
theorem gX6_nest_X6_leastEighths : GoodIn wsX6_nest (wsV RX6 222 RX6 yX6_leastEighths wsX6_leastEighths) := goodIn_app (goodIn_of _ (by decide +kernel)) ggX6_nest_X6_leastEighths
theorem dX6_nest_0 : decode cX6_nest 0 = .ok (.aload_n 0, 1) := by decide +kernel
theorem dX6_nest_1 : decode cX6_nest 1 = .ok (.iload_n 1, 1) := by decide +kernel
theorem dX6_nest_2 : decode cX6_nest 2 = .ok (.invokevirtual 195, 3) := by decide +kernel
theorem dX6_nest_5 : decode cX6_nest 5 = .ok (.astore_n 3, 1) := by decide +kernel
theorem dX6_nest_6 : decode cX6_nest 6 = .ok (.aload_n 0, 1) := by decide +kernel
theorem dX6_nest_7 : decode cX6_nest 7 = .ok (.iload_n 2, 1) := by decide +kernel
theorem dX6_nest_8 : decode cX6_nest 8 = .ok (.invokevirtual 90, 3) := by decide +kernel
theorem dX6_nest_11 : decode cX6_nest 11 = .ok (.astore 4, 2) := by decide +kernel
theorem dX6_nest_13 : decode cX6_nest 13 = .ok (.aload 4, 2) := by decide +kernel
theorem dX6_nest_15 : decode cX6_nest 15 = .ok (.invokestatic 114, 3) := by decide +kernel
theorem dX6_nest_18 : decode cX6_nest 18 = .ok (.aload 4, 2) := by decide +kernel
theorem dX6_nest_20 : decode cX6_nest 20 = .ok (.getfield 213, 3) := by decide +kernel
theorem dX6_nest_23 : decode cX6_nest 23 = .ok (.iconst (-1), 1) := by decide +kernel
theorem dX6_nest_24 : decode cX6_nest 24 = .ok (.if_icmp .eq 13, 3) := by decide +kernel
theorem dX6_nest_27 : decode cX6_nest 27 = .ok (.new 102, 3) := by decide +kernel
theorem dX6_nest_30 : decode cX6_nest 30 = .ok (.dup, 1) := by decide +kernel
theorem dX6_nest_31 : decode cX6_nest 31 = .ok (.ldc 216, 2) := by decide +kernel
theorem dX6_nest_33 : decode cX6_nest 33 = .ok (.invokespecial 106, 3) := by decide +kernel
theorem dX6_nest_36 : decode cX6_nest 36 = .ok (.athrow, 1) := by decide +kernel
theorem dX6_nest_37 : decode cX6_nest 37 = .ok (.aload_n 0, 1) := by decide +kernel
theorem dX6_nest_38 : decode cX6_nest 38 = .ok (.aload_n 3, 1) := by decide +kernel
theorem dX6_nest_39 : decode cX6_nest 39 = .ok (.iload_n 1, 1) := by decide +kernel
theorem dX6_nest_40 : decode cX6_nest 40 = .ok (.aload 4, 2) := by decide +kernel
theorem dX6_nest_42 : decode cX6_nest 42 = .ok (.getfield 218, 3) := by decide +kernel
theorem dX6_nest_45 : decode cX6_nest 45 = .ok (.invokevirtual 222, 3) := by decide +kernel
theorem dX6_nest_48 : decode cX6_nest 48 = .ok (.istore 5, 2) := by decide +kernel
theorem dX6_nest_50 : decode cX6_nest 50 = .ok (.iload 5, 2) := by decide +kernel
theorem dX6_nest_52 : decode cX6_nest 52 = .ok (.iconst (-1), 1) := by decide +kernel
theorem dX6_nest_53 : decode cX6_nest 53 = .ok (.if_icmp .eq 16, 3) := by decide +kernel
theorem dX6_nest_56 : decode cX6_nest 56 = .ok (.aload 4, 2) := by decide +kernel
theorem dX6_nest_58 : decode cX6_nest 58 = .ok (.iload_n 1, 1) := by decide +kernel
theorem dX6_nest_59 : decode cX6_nest 59 = .ok (.putfield 213, 3) := by decide +kernel
theorem dX6_nest_62 : decode cX6_nest 62 = .ok (.aload 4, 2) := by decide +kernel
theorem dX6_nest_64 : decode cX6_nest 64 = .ok (.iload 5, 2) := by decide +kernel
theorem dX6_nest_66 : decode cX6_nest 66 = .ok (.putfield 226, 3) := by decide +kernel
theorem dX6_nest_69 : decode cX6_nest 69 = .ok (.iload 5, 2) := by decide +kernel
theorem dX6_nest_71 : decode cX6_nest 71 = .ok (.ireturn, 1) := by decide +kernel
abbrev rm_X6_nest : Room := { frames := 10, cells := 20, slots := 150, locals := 400 }
theorem hw_X6_nest_1 : (Cond.classLink RX6 102 "java/lang/IllegalStateException") ∈ wsX6_nest := List.mem_of_getElem? (i := 1) rfl
theorem hw_X6_nest_2 : (Cond.initialized "java/lang/IllegalStateException") ∈ wsX6_nest := List.mem_of_getElem? (i := 2) rfl
theorem hw_X6_nest_3 : (Cond.fieldLink RX6 213 "PlankUnroll$Strip" "board" "I") ∈ wsX6_nest := List.mem_of_getElem? (i := 3) rfl
theorem hw_X6_nest_4 : (Cond.fieldLink RX6 218 "PlankUnroll$Strip" "box" "LPlankUnroll$Box;") ∈ wsX6_nest := List.mem_of_getElem? (i := 4) rfl
theorem hw_X6_nest_5 : (Cond.fieldLink RX6 226 "PlankUnroll$Strip" "eighths" "I") ∈ wsX6_nest := List.mem_of_getElem? (i := 5) rfl
theorem in_X6_nest_X5 : ∀ w ∈ wsX50, w ∈ wsX6_nest := by decide +kernel
theorem ht_X6_nest_2 : ∀ w ∈ (vx_atS RX6 106 "java/lang/IllegalStateException" ["java/lang/RuntimeException", "java/lang/Exception"]).filter goodWord, w ∈ wsX6_nest := by decide +kernel
set_option maxHeartbeats 4000000 in
set_option maxRecDepth 100000 in
/-- nest -/
theorem c_X6_nest {l : Launch} {G : va_G} {ty : Nat → ClassId} {b0 : Nat} {H : Heap} (hfl : l.stackTraces = false) {ad : Nat → Nat} {F R nb : Nat} {pl wi hi fa : Nat → UInt64} {un bu lo la : Nat → Int32} {cx cy bx : Nat → Nat → UInt64} {nf : Nat → Nat} {K0 : Heap} (hX : xCla G ty ad F R pl un cx cy bu nb wi hi nf fa lo la bx K0 H) (hW : xWf F R nb nf ad b0) {b x : Int32} (hSk : (vp_in b nb ∧ vp_in x (R - 1)) → ¬ un x.toNatClampNeg = 0 → lo x.toNatClampNeg = (-1) → pSkip fa lo bx R b.toNatClampNeg (nf b.toNatClampNeg) x.toNatClampNeg) : xMet l yX6_nest wsX6_nest rm_X6_nest G ty b0 [.ref (ad 0), .int (b), .int (x)] H (fun v H1 => (vp_in b nb ∧ vp_in x (R - 1)) ∧ ¬ un x.toNatClampNeg = 0 ∧ lo x.toNatClampNeg = (-1) ∧ ∃ (bx1 : Nat → Nat → UInt64) (lo1 la1 : Nat → Int32), xCla G ty ad F R pl un cx cy bu nb wi hi nf fa lo1 la1 bx1 K0 H1 ∧ xBx bx bx1 x.toNatClampNeg ∧ ((v = some (.int (-1)) ∧ xgt (FP.dadd (bx x.toNatClampNeg 1) (bx x.toNatClampNeg 3)) (hi b.toNatClampNeg) = true ∧ lo1 = lo ∧ la1 = la) ∨ (xgt (FP.dadd (bx x.toNatClampNeg 1) (bx x.toNatClampNeg 3)) (hi b.toNatClampNeg) = false ∧ ∃ k : Nat, k ≤ 8000 ∧ v = some (.int (nI k)) ∧ xgt (FP.dadd (pEi k) (bx x.toNatClampNeg 2)) (wi b.toNatClampNeg) = false ∧ pFree fa lo bx R b.toNatClampNeg (nf b.toNatClampNeg) (pEi k) (bx x.toNatClampNeg 1) (bx x.toNatClampNeg 2) (bx x.toNatClampNeg 3) ∧ vq (bx1 x.toNatClampNeg 0) (pEi k) ∧ (∀ j : Nat, j < k → ¬ pFree fa lo bx R b.toNatClampNeg (nf b.toNatClampNeg) (pEi j) (bx x.toNatClampNeg 1) (bx x.toNatClampNeg 2) (bx x.toNatClampNeg 3)) ∧ lo1 = upd lo x.toNatClampNeg (nI b.toNatClampNeg) ∧ la1 = upd la x.toNatClampNeg (nI k)) ∨ (v = some (.int (-1)) ∧ xgt (FP.dadd (bx x.toNatClampNeg 1) (bx x.toNatClampNeg 3)) (hi b.toNatClampNeg) = false ∧ (∃ k : Nat, (∀ j : Nat, j < k → j ≤ 8000 → ¬ pFree fa lo bx R b.toNatClampNeg (nf b.toNatClampNeg) (pEi j) (bx x.toNatClampNeg 1) (bx x.toNatClampNeg 2) (bx x.toNatClampNeg 3)) ∧ (xgt (FP.dadd (pEi k) (bx x.toNatClampNeg 2)) (wi b.toNatClampNeg) = true ∨ 8000 < k)) ∧ lo1 = lo ∧ la1 = la))) (fun E H1 => (E = "java/lang/IndexOutOfBoundsException" ∧ ¬ (vp_in b nb ∧ vp_in x (R - 1)) ∧ xext H H1) ∨ (E = "java/lang/IllegalStateException" ∧ (vp_in b nb ∧ vp_in x (R - 1)) ∧ (un x.toNatClampNeg = 0 ∨ ¬ lo x.toNatClampNeg = (-1)) ∧ xext H H1)) := by
  refine xbody (cc := cX6_nest) (maxL := 6) (ret := (some .int)) (C := RX6) (lv := [(0, .ref (ad 0)), (1, .int (b)), (2, .int (x))]) (by decide) rfl rfl (Nat.le_of_ble_eq_true rfl) rfl ?_
  intro p e s m below meth c d0 hx hb hr hts hown hlocks hml hxt hnm0 hK hb0 hH0 hS hd0 ls hl
  obtain ⟨⟨zF2, zF8⟩, ⟨zR2, zR8⟩⟩ := id hW.1
  have zB4 := hW.2.1
  refine lv_aload_n hx hb dX6_nest_0 rfl (lv_at hl 0 rfl) ?_
  refine lv_iload_n hx hb dX6_nest_1 rfl (lv_at hl 1 rfl) ?_
  have cw_1 := cwV (R := rm_X6_nest) (rm := rm_X6_boardAt) 1 (hts d0) gX6_nest_X6_boardAt rfl rfl rfl (by decide +kernel) ⟨Nat.le_of_ble_eq_true rfl, Nat.le_of_ble_eq_true rfl⟩
  refine xcall hd0 (xintoV (b := (ad 0)) (As := [.int (b)]) (rest := []) ⟨hx, hb, hml, hown, hts _⟩ cw_1 (va_recv hK.1 (x1 (hX.o_)) (ci := 7) (q0 := 0) rfl rfl) rfl rfl hl.1 rfl (lv_room (Nat.le_of_ble_eq_true rfl)) dX6_nest_2) (c_X6_boardAt (l := l) (G := G) (ty := ty) (b0 := b0) hfl hX hW (b := b)) (xoweB cw_1.1) hK hb0 hS (Nat.le_of_ble_eq_true rfl) (Nat.le_of_ble_eq_true rfl) (fun E_1 ce_1 q9_1 H_1 locs_1 d0 hd0 hp_1 hS hce_1 hcv_1 hcl_1 => ?_) (fun v_1 H_1 locs_1 d0 hd0 hp_1 hS => ?_)
  · exact xout hd0 hxt hlocks hce_1 hcv_1 hcl_1 hS (Nat.le_of_ble_eq_true rfl) (Nat.le_of_ble_eq_true rfl) (Or.inl ⟨hp_1.1, fun z => hp_1.2.1 z.1, hp_1.2.2⟩)
  · obtain ⟨rfl, z_b, hv_1⟩ := hp_1
    obtain ⟨b9, hb9, eb9⟩ := vp_in_of z_b (by omega)
    subst eb9
    rw [nN_nI (show b9 < 2 ^ 31 by omega)] at hv_1
    subst hv_1
    show W p l e _ (s.setDrawn _) m _ below meth c _ _ _ _ _ (F0 m 5 ls [.ref (ad (200 + b9))])
    refine lv_astore_n (lv' := [(3, .ref (ad (200 + b9))), (0, .ref (ad 0)), (1, .int (nI b9)), (2, .int (x))]) hx hb dX6_nest_5 rfl hl (by decide) rfl (fun ls hl => ?_)
    refine lv_aload_n hx hb dX6_nest_6 rfl (lv_at hl 1 rfl) ?_
    refine lv_iload_n hx hb dX6_nest_7 rfl (lv_at hl 3 rfl) ?_
    have cw_2 := cwV (R := rm_X6_nest) (rm := rm_X6_stripAt) 1 (hts d0) gX6_nest_X6_stripAt rfl rfl rfl (by decide +kernel) ⟨Nat.le_of_ble_eq_true rfl, Nat.le_of_ble_eq_true rfl⟩
    refine xcall hd0 (xintoV (b := (ad 0)) (As := [.int (x)]) (rest := []) ⟨hx, hb, hml, hown, hts _⟩ cw_2 (va_recv hK.1 (x1 (hX.o_)) (ci := 7) (q0 := 0) rfl rfl) rfl rfl hl.1 rfl (lv_room (Nat.le_of_ble_eq_true rfl)) dX6_nest_8) (c_X6_stripAt (l := l) (G := G) (ty := ty) (b0 := b0) hfl hX hW (x := x)) (xoweB cw_2.1) hK hb0 hS (Nat.le_of_ble_eq_true rfl) (Nat.le_of_ble_eq_true rfl) (fun E_2 ce_2 q9_2 H_2 locs_2 d0 hd0 hp_2 hS hce_2 hcv_2 hcl_2 => ?_) (fun v_2 H_2 locs_2 d0 hd0 hp_2 hS => ?_)
    · exact xout hd0 hxt hlocks hce_2 hcv_2 hcl_2 hS (Nat.le_of_ble_eq_true rfl) (Nat.le_of_ble_eq_true rfl) (Or.inl ⟨hp_2.1, fun z => hp_2.2.1 z.2, hp_2.2.2⟩)
    · obtain ⟨rfl, z_x, hv_2⟩ := hp_2
      obtain ⟨x9, hx9, ex9⟩ := vp_in_of z_x (by omega)
      subst ex9
      rw [nN_nI (show x9 < 2 ^ 31 by omega)] at hv_2
      subst hv_2
      show W p l e _ (s.setDrawn _) m _ below meth c _ _ _ _ _ (F0 m 11 ls [.ref (ad (30 + x9))])
      refine lv_astore (lv' := [(4, .ref (ad (30 + x9))), (3, .ref (ad (200 + b9))), (0, .ref (ad 0)), (1, .int (nI b9)), (2, .int (nI x9))]) hx hb dX6_nest_11 hl (by decide) rfl (fun ls hl => ?_)
      refine lv_aload hx hb dX6_nest_13 (lv_at hl 0 rfl) ?_
      have cw_3 := va_cwS (R := rm_X6_nest) (rm := rm_X6_needUnrolled) 1 (hts d0) gX6_nest_X6_needUnrolled rfl rfl rfl (by decide +kernel) ⟨Nat.le_of_ble_eq_true rfl, Nat.le_of_ble_eq_true rfl⟩
      refine xcall hd0 (xintoS (As := [.ref (ad (30 + x9))]) (rest := []) ⟨hx, hb, hml, hown, hts _⟩ cw_3 rfl rfl hl.1 rfl (lv_room (Nat.le_of_ble_eq_true rfl)) dX6_nest_15) (c_X6_needUnrolled (l := l) (G := G) (ty := ty) (b0 := b0) hfl hX hW (i := x9) (by omega)) (xoweB cw_3.1) hK hb0 hS (Nat.le_of_ble_eq_true rfl) (Nat.le_of_ble_eq_true rfl) (fun E_3 ce_3 q9_3 H_3 locs_3 d0 hd0 hp_3 hS hce_3 hcv_3 hcl_3 => ?_) (fun v_3 H_3 locs_3 d0 hd0 hp_3 hS => ?_)
      · exact xout hd0 hxt hlocks hce_3 hcv_3 hcl_3 hS (Nat.le_of_ble_eq_true rfl) (Nat.le_of_ble_eq_true rfl) (Or.inr ⟨hp_3.1, ⟨z_b, z_x⟩, Or.inl (by rw [nN_nI (by omega)]; exact hp_3.2.1), hp_3.2.2⟩)
      · obtain ⟨rfl, rfl, z_u⟩ := hp_3
        show W p l e _ (s.setDrawn _) m _ below meth c _ _ _ _ _ (F0 m 18 ls [])
        refine lv_aload hx hb dX6_nest_18 (lv_at hl 0 rfl) ?_
        refine va_get (D := G) (cl := vwCl) (ci := 6) (v := .int (lo x9)) (C := RX5) (T := TX5) (N := 9) hx hb (hts d0) in_X6_nest_X5 hown hK.1 (x1 (hX.strip_ _ (by omega))) 0 rfl rfl 7 (by decide) (hts d0 _ hw_X6_nest_3) (fun _ h9 => h9) rfl dX6_nest_20 ?_
        refine lv_iconst (v := (-1)) hx hb dX6_nest_23 (by decide) ?_
        refine lv_icmp_eq (tgt := 37) hx hb dX6_nest_24 (by decide) (fun c_4 => ?_) (fun c_4 => ?_)
        · refine lv_aload_n hx hb dX6_nest_37 rfl (lv_at hl 2 rfl) ?_
          refine lv_aload_n hx hb dX6_nest_38 rfl (lv_at hl 1 rfl) ?_
          refine lv_iload_n hx hb dX6_nest_39 rfl (lv_at hl 3 rfl) ?_
          refine lv_aload hx hb dX6_nest_40 (lv_at hl 0 rfl) ?_
          refine va_get (D := G) (cl := vwCl) (ci := 6) (v := .ref (ad (70 + x9))) (C := RX5) (T := TX5) (N := 9) hx hb (hts d0) in_X6_nest_X5 hown hK.1 (x1 (hX.strip_ _ (by omega))) 0 rfl rfl 5 (by decide) (hts d0 _ hw_X6_nest_4) (fun _ h9 => h9) rfl dX6_nest_42 ?_
          have hl9 : lo x9 = (-1) := c_4
          have cw_5 := cwV (R := rm_X6_nest) (rm := rm_X6_leastEighths) 3 (hts d0) gX6_nest_X6_leastEighths rfl rfl rfl (by decide +kernel) ⟨Nat.le_of_ble_eq_true rfl, Nat.le_of_ble_eq_true rfl⟩
          refine xcall hd0 (xintoV (b := (ad 0)) (As := [.ref (ad (200 + b9)), .int (nI b9), .ref (ad (70 + x9))]) (rest := []) ⟨hx, hb, hml, hown, hts _⟩ cw_5 (va_recv hK.1 (x1 (hX.o_)) (ci := 7) (q0 := 0) rfl rfl) rfl rfl hl.1 rfl (lv_room (Nat.le_of_ble_eq_true rfl)) dX6_nest_45) (c_X6_leastEighths (l := l) (G := G) (ty := ty) (b0 := b0) hX hW (b := b9) (i := x9) hb9 hx9 (by rw [hl9]; exact fun z => nI_neg1 (by omega) z.symm) (by have h8 := hSk ⟨z_b, z_x⟩; rw [nN_nI (by omega), nN_nI (by omega)] at h8; exact h8 z_u hl9)) (xoweB cw_5.1) hK hb0 hS (Nat.le_of_ble_eq_true rfl) (Nat.le_of_ble_eq_true rfl) (fun E_5 ce_5 q9_5 H_5 locs_5 d0 hd0 hp_5 hS hce_5 hcv_5 hcl_5 => ?_) (fun v_5 H_5 locs_5 d0 hd0 hp_5 hS => ?_)
          · exact hp_5.elim
          · obtain ⟨bx_5, hX_5, hB_5, hz_5⟩ := hp_5
            rcases hz_5 with ⟨rfl, hz_5⟩ | ⟨hg_5, k_5, hk_5, rfl, hz_5⟩ | ⟨rfl, hz_5⟩
            · show W p l e _ (s.setDrawn _) m _ below meth c _ _ _ _ _ (F0 m 48 ls [.int ((-1))])
              refine lv_istore (lv' := [(5, .int ((-1))), (4, .ref (ad (30 + x9))), (3, .ref (ad (200 + b9))), (0, .ref (ad 0)), (1, .int (nI b9)), (2, .int (nI x9))]) hx hb dX6_nest_48 hl (by decide) rfl (fun ls hl => ?_)
              refine lv_iload hx hb dX6_nest_50 (lv_at hl 0 rfl) ?_
              refine lv_iconst (v := (-1)) hx hb dX6_nest_52 (by decide) ?_
              refine lv_icmp_eq (tgt := 69) hx hb dX6_nest_53 (by decide) (fun _ => ?_) (fun h9 => absurd (rfl) h9)
              refine lv_iload hx hb dX6_nest_69 (lv_at hl 0 rfl) ?_
              exact xiret hd0 hx hb hr hlocks hS (Nat.le_of_ble_eq_true rfl) (Nat.le_of_ble_eq_true rfl) dX6_nest_71 ⟨⟨z_b, z_x⟩, by rw [nN_nI (by omega)]; exact z_u, by rw [nN_nI (by omega)]; exact hl9, _, _, _, hX_5, by rw [nN_nI (show b9 < 2 ^ 31 by omega), nN_nI (show x9 < 2 ^ 31 by omega)]; exact ⟨hB_5, Or.inl ⟨rfl, hz_5, rfl, rfl⟩⟩⟩
            · show W p l e _ (s.setDrawn _) m _ below meth c _ _ _ _ _ (F0 m 48 ls [.int (nI k_5)])
              refine lv_istore (lv' := [(5, .int (nI k_5)), (4, .ref (ad (30 + x9))), (3, .ref (ad (200 + b9))), (0, .ref (ad 0)), (1, .int (nI b9)), (2, .int (nI x9))]) hx hb dX6_nest_48 hl (by decide) rfl (fun ls hl => ?_)
              refine lv_iload hx hb dX6_nest_50 (lv_at hl 0 rfl) ?_
              refine lv_iconst (v := (-1)) hx hb dX6_nest_52 (by decide) ?_
              refine lv_icmp_eq (tgt := 69) hx hb dX6_nest_53 (by decide) (fun h9 => absurd h9 (nI_neg1 (by omega))) (fun _ => ?_)
              refine lv_aload hx hb dX6_nest_56 (lv_at hl 1 rfl) ?_
              refine lv_iload_n hx hb dX6_nest_58 rfl (lv_at hl 4 rfl) ?_
              refine xput (G := G) (ci := 6) (v := .int (nI b9)) (ty := .int) (C := RX5) (T := TX5) (N := 9) hx hb (hts d0) in_X6_nest_X5 tyX5 tyX5_ok nmX5 hown hK.1 (hX_5.strip_ _ (by omega)) hS (hW.2.2.2.1 _ (xU_strip (by omega))) rfl 7 (by decide) (hts d0 _ hw_X6_nest_3) (fun _ h9 => h9) rfl (by decide +kernel) rfl rfl (Nat.le_of_ble_eq_true rfl) dX6_nest_59 (fun H_8 locs_8 hs_8 hS => ?_)
              have hX_8 : xCla G ty ad F R pl un cx cy bu nb wi hi nf fa (upd lo x9 (nI b9)) la bx_5 K0 H_8 := hX_5.put_lo (by omega) hW hs_8
              refine lv_aload hx hb dX6_nest_62 (lv_at hl 1 rfl) ?_
              refine lv_iload hx hb dX6_nest_64 (lv_at hl 0 rfl) ?_
              refine xput (G := G) (ci := 6) (v := .int (nI k_5)) (ty := .int) (C := RX5) (T := TX5) (N := 9) hx hb (hts d0) in_X6_nest_X5 tyX5 tyX5_ok nmX5 hown hK.1 (hX_8.strip_ _ (by omega)) hS (hW.2.2.2.1 _ (xU_strip (by omega))) rfl 8 (by decide) (hts d0 _ hw_X6_nest_5) (fun _ h9 => h9) rfl (by decide +kernel) rfl rfl (Nat.le_of_ble_eq_true rfl) dX6_nest_66 (fun H_9 locs_9 hs_9 hS => ?_)
              have hX_9 : xCla G ty ad F R pl un cx cy bu nb wi hi nf fa (upd lo x9 (nI b9)) (upd la x9 (nI k_5)) bx_5 K0 H_9 := hX_8.put_la (by omega) hW hs_9
              refine lv_iload hx hb dX6_nest_69 (lv_at hl 0 rfl) ?_
              exact xiret hd0 hx hb hr hlocks hS (Nat.le_of_ble_eq_true rfl) (Nat.le_of_ble_eq_true rfl) dX6_nest_71 ⟨⟨z_b, z_x⟩, by rw [nN_nI (by omega)]; exact z_u, by rw [nN_nI (by omega)]; exact hl9, _, _, _, hX_9, by rw [nN_nI (show b9 < 2 ^ 31 by omega), nN_nI (show x9 < 2 ^ 31 by omega)]; exact ⟨hB_5, Or.inr (Or.inl ⟨hg_5, k_5, hk_5, rfl, hz_5.1, hz_5.2.1, hz_5.2.2.1, hz_5.2.2.2, rfl, rfl⟩)⟩⟩
            · show W p l e _ (s.setDrawn _) m _ below meth c _ _ _ _ _ (F0 m 48 ls [.int ((-1))])
              refine lv_istore (lv' := [(5, .int ((-1))), (4, .ref (ad (30 + x9))), (3, .ref (ad (200 + b9))), (0, .ref (ad 0)), (1, .int (nI b9)), (2, .int (nI x9))]) hx hb dX6_nest_48 hl (by decide) rfl (fun ls hl => ?_)
              refine lv_iload hx hb dX6_nest_50 (lv_at hl 0 rfl) ?_
              refine lv_iconst (v := (-1)) hx hb dX6_nest_52 (by decide) ?_
              refine lv_icmp_eq (tgt := 69) hx hb dX6_nest_53 (by decide) (fun _ => ?_) (fun h9 => absurd (rfl) h9)
              refine lv_iload hx hb dX6_nest_69 (lv_at hl 0 rfl) ?_
              exact xiret hd0 hx hb hr hlocks hS (Nat.le_of_ble_eq_true rfl) (Nat.le_of_ble_eq_true rfl) dX6_nest_71 ⟨⟨z_b, z_x⟩, by rw [nN_nI (by omega)]; exact z_u, by rw [nN_nI (by omega)]; exact hl9, _, _, _, hX_5, by rw [nN_nI (show b9 < 2 ^ 31 by omega), nN_nI (show x9 < 2 ^ 31 by omega)]; exact ⟨hB_5, Or.inr (Or.inr ⟨rfl, hz_5.1, hz_5.2, rfl, rfl⟩)⟩⟩
        · exact xthrowS hfl hd0 hx hb hown hlocks hxt hml hl.1 hts (by decide +kernel) hw_X6_nest_1 hw_X6_nest_2 ht_X6_nest_2 xthrow_ok2 xthrow_gd2 (List.mem_of_getElem? (i := 9) rfl) hK hS dX6_nest_27 dX6_nest_30 dX6_nest_31 dX6_nest_33 dX6_nest_36 (Nat.le_of_ble_eq_true rfl) (Nat.le_of_ble_eq_true rfl) (Nat.le_of_ble_eq_true rfl) (Nat.le_of_ble_eq_true rfl) (Nat.le_of_ble_eq_true rfl) (Nat.le_of_ble_eq_true rfl) (fun H1 h9 => Or.inr ⟨rfl, ⟨z_b, z_x⟩, Or.inr (by rw [nN_nI (by omega)]; exact c_4), h9⟩)
