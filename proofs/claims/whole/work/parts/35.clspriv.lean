/-! THE CLASS: what a call names. -/
theorem xCl_eq {x : Int32} : (if nI 2 < (if x < nI 8 then x else nI 8) then (if x < nI 8 then x else nI 8) else nI 2) = nI (xCl x) := by
  by_cases h1 : x < nI 2
  · have h8 : x < nI 8 := Int32.lt_trans h1 (by decide)
    rw [if_pos h8, if_neg (Int32.not_lt.mpr (Int32.le_of_lt h1)), xCl_lo h1]
  · by_cases h2 : x ≤ nI 8
    · rw [xCl_mid h1 h2]
      by_cases h3 : x < nI 8
      · rw [if_pos h3]
        by_cases h4 : nI 2 < x
        · rw [if_pos h4]
        · rw [if_neg h4]; exact Int32.le_antisymm (Int32.not_lt.mp h1) (Int32.not_lt.mp h4)
      · rw [if_neg h3, if_pos (by decide)]; exact Int32.le_antisymm (Int32.not_lt.mp h3) h2
    · rw [xCl_hi h1 h2, if_neg (fun z => h2 (Int32.le_of_lt z)), if_pos (by decide)]
theorem xext.rf {H : Heap} : xext H H := fun _ _ => rfl
/-- the greatest number of eighths before an end, or one less -/
def pLast (x : UInt64) : Int32 := if xlt (FP.ddiv (FP.i2d (FP.d2i (FP.dmul x 4620693217682128896))) 4620693217682128896) x = true then FP.d2i (FP.dmul x 4620693217682128896) else FP.d2i (FP.dmul x 4620693217682128896) - nI 1
theorem dX6_nearestSize_0 : decode cX6_nearestSize 0 = .ok (.iconst 2, 1) := by decide +kernel
theorem dX6_nearestSize_1 : decode cX6_nearestSize 1 = .ok (.bipush 8, 2) := by decide +kernel
theorem dX6_nearestSize_3 : decode cX6_nearestSize 3 = .ok (.iload_n 0, 1) := by decide +kernel
theorem dX6_nearestSize_4 : decode cX6_nearestSize 4 = .ok (.invokestatic 246, 3) := by decide +kernel
theorem dX6_nearestSize_7 : decode cX6_nearestSize 7 = .ok (.invokestatic 237, 3) := by decide +kernel
theorem dX6_nearestSize_10 : decode cX6_nearestSize 10 = .ok (.ireturn, 1) := by decide +kernel
abbrev rm_X6_nearestSize : Room := { frames := 2, cells := 0, slots := 0, locals := 40 }
theorem hw_X6_nearestSize_1 : (Cond.methodLink RX6 246 Lib.Math.min.name) ∈ wsX6_nearestSize := List.mem_of_getElem? (i := 1) rfl
theorem hw_X6_nearestSize_2 : (Cond.static Lib.Math.min.name) ∈ wsX6_nearestSize := List.mem_of_getElem? (i := 2) rfl
theorem hw_X6_nearestSize_3 : (Cond.initialized "java/lang/Math") ∈ wsX6_nearestSize := List.mem_of_getElem? (i := 3) rfl
theorem hw_X6_nearestSize_4 : (Cond.code Lib.Math.min.name Lib.Math.min.code 2 (some .int)) ∈ wsX6_nearestSize := List.mem_of_getElem? (i := 4) rfl
theorem hw_X6_nearestSize_5 : (Cond.methodLink RX6 237 Lib.Math.max.name) ∈ wsX6_nearestSize := List.mem_of_getElem? (i := 5) rfl
theorem hw_X6_nearestSize_6 : (Cond.static Lib.Math.max.name) ∈ wsX6_nearestSize := List.mem_of_getElem? (i := 6) rfl
theorem hw_X6_nearestSize_7 : (Cond.code Lib.Math.max.name Lib.Math.max.code 2 (some .int)) ∈ wsX6_nearestSize := List.mem_of_getElem? (i := 7) rfl
set_option maxHeartbeats 4000000 in
set_option maxRecDepth 100000 in
/-- the nearest size -/
theorem c_X6_nearestSize {l : Launch} {G : va_G} {ty : Nat → ClassId} {b0 : Nat} {H : Heap} {n : Int32} : xMet l yX6_nearestSize wsX6_nearestSize rm_X6_nearestSize G ty b0 [.int (n)] H (fun v H1 => H = H1 ∧ v = some (.int (nI (xCl n)))) (fun _ _ => False) := by
  refine xbody (cc := cX6_nearestSize) (maxL := 1) (ret := (some .int)) (C := RX6) (lv := [(0, .int (n))]) (by decide) rfl rfl (Nat.le_of_ble_eq_true rfl) rfl ?_
  intro p e s m below meth c d0 hx hb hr hts hown hlocks hml hxt hnm0 hK hb0 hH0 hS hd0 ls hl
  refine lv_iconst (v := nI 2) hx hb dX6_nearestSize_0 (by decide) ?_
  refine lv_bipush (v := nI 8) hx hb dX6_nearestSize_1 (by decide) ?_
  refine lv_iload_n hx hb dX6_nearestSize_3 rfl (lv_at hl 0 rfl) ?_
  refine va_mmin (s := s.setDrawn d0) hx hb (hml.trans hl.1.symm) hown (hts d0 _ hw_X6_nearestSize_1) (hts d0 _ hw_X6_nearestSize_2) (hts d0 _ hw_X6_nearestSize_3) (hts d0 _ hw_X6_nearestSize_4) (Nat.le_of_ble_eq_true rfl) (Nat.le_of_ble_eq_true rfl) (Nat.le_of_ble_eq_true rfl) (Nat.le_of_ble_eq_true rfl) dX6_nearestSize_4 ?_
  refine va_mmax (s := s.setDrawn d0) hx hb (hml.trans hl.1.symm) hown (hts d0 _ hw_X6_nearestSize_5) (hts d0 _ hw_X6_nearestSize_6) (hts d0 _ hw_X6_nearestSize_3) (hts d0 _ hw_X6_nearestSize_7) (Nat.le_of_ble_eq_true rfl) (Nat.le_of_ble_eq_true rfl) (Nat.le_of_ble_eq_true rfl) (Nat.le_of_ble_eq_true rfl) dX6_nearestSize_7 ?_
  exact xiret hd0 hx hb hr hlocks hS (Nat.le_of_ble_eq_true rfl) (Nat.le_of_ble_eq_true rfl) dX6_nearestSize_10 ⟨rfl, by rw [xCl_eq]⟩
theorem dX6_checkFrame_0 : decode cX6_checkFrame 0 = .ok (.iload_n 1, 1) := by decide +kernel
theorem dX6_checkFrame_1 : decode cX6_checkFrame 1 = .ok (.ifCond .lt 11, 3) := by decide +kernel
theorem dX6_checkFrame_4 : decode cX6_checkFrame 4 = .ok (.iload_n 1, 1) := by decide +kernel
theorem dX6_checkFrame_5 : decode cX6_checkFrame 5 = .ok (.aload_n 0, 1) := by decide +kernel
theorem dX6_checkFrame_6 : decode cX6_checkFrame 6 = .ok (.getfield 13, 3) := by decide +kernel
theorem dX6_checkFrame_9 : decode cX6_checkFrame 9 = .ok (.if_icmp .lt 13, 3) := by decide +kernel
theorem dX6_checkFrame_12 : decode cX6_checkFrame 12 = .ok (.new 107, 3) := by decide +kernel
theorem dX6_checkFrame_15 : decode cX6_checkFrame 15 = .ok (.dup, 1) := by decide +kernel
theorem dX6_checkFrame_16 : decode cX6_checkFrame 16 = .ok (.ldc 253, 2) := by decide +kernel
theorem dX6_checkFrame_18 : decode cX6_checkFrame 18 = .ok (.invokespecial 111, 3) := by decide +kernel
theorem dX6_checkFrame_21 : decode cX6_checkFrame 21 = .ok (.athrow, 1) := by decide +kernel
theorem dX6_checkFrame_22 : decode cX6_checkFrame 22 = .ok (.return_, 1) := by decide +kernel
abbrev rm_X6_checkFrame : Room := { frames := 6, cells := 1, slots := 6, locals := 95 }
theorem hw_X6_checkFrame_1 : (Cond.classLink RX6 107 "java/lang/IndexOutOfBoundsException") ∈ wsX6_checkFrame := List.mem_of_getElem? (i := 1) rfl
theorem hw_X6_checkFrame_2 : (Cond.initialized "java/lang/IndexOutOfBoundsException") ∈ wsX6_checkFrame := List.mem_of_getElem? (i := 2) rfl
theorem hw_X6_checkFrame_3 : (Cond.fieldLink RX6 13 "PlankUnroll" "frames" "I") ∈ wsX6_checkFrame := List.mem_of_getElem? (i := 3) rfl
theorem in_X6_checkFrame_X6 : ∀ w ∈ wsX60, w ∈ wsX6_checkFrame := by decide +kernel
theorem ht_X6_checkFrame_0 : ∀ w ∈ (vx_atS RX6 111 "java/lang/IndexOutOfBoundsException" ["java/lang/RuntimeException", "java/lang/Exception"]).filter goodWord, w ∈ wsX6_checkFrame := by decide +kernel
set_option maxHeartbeats 4000000 in
set_option maxRecDepth 100000 in
/-- it is there, or it throws -/
theorem c_X6_checkFrame {l : Launch} {G : va_G} {ty : Nat → ClassId} {b0 : Nat} {H : Heap} (hfl : l.stackTraces = false) {ad : Nat → Nat} {F R nb : Nat} {pl wi hi fa : Nat → UInt64} {un bu lo la : Nat → Int32} {cx cy bx : Nat → Nat → UInt64} {nf : Nat → Nat} {K0 : Heap} (hX : xCla G ty ad F R pl un cx cy bu nb wi hi nf fa lo la bx K0 H) (hW : xWf F R nb nf ad b0) {f : Int32} : xMet l yX6_checkFrame wsX6_checkFrame rm_X6_checkFrame G ty b0 [.ref (ad 0), .int (f)] H (fun v H1 => H = H1 ∧ v = none ∧ vp_in f F) (fun E H1 => E = "java/lang/IndexOutOfBoundsException" ∧ ¬ vp_in f F ∧ xext H H1) := by
  refine xbody (cc := cX6_checkFrame) (maxL := 2) (ret := none) (C := RX6) (lv := [(0, .ref (ad 0)), (1, .int (f))]) (by decide) rfl rfl (Nat.le_of_ble_eq_true rfl) rfl ?_
  intro p e s m below meth c d0 hx hb hr hts hown hlocks hml hxt hnm0 hK hb0 hH0 hS hd0 ls hl
  obtain ⟨⟨zF2, zF8⟩, ⟨zR2, zR8⟩⟩ := id hW.1
  have zB4 := hW.2.1
  refine lv_iload_n hx hb dX6_checkFrame_0 rfl (lv_at hl 1 rfl) ?_
  refine lv_if_lt (tgt := 12) hx hb dX6_checkFrame_1 (by decide) (fun c_1 => ?_) (fun c_1 => ?_)
  · exact xthrowS hfl hd0 hx hb hown hlocks hxt hml hl.1 hts (by decide +kernel) hw_X6_checkFrame_1 hw_X6_checkFrame_2 ht_X6_checkFrame_0 xthrow_ok0 xthrow_gd0 (List.mem_of_getElem? (i := 12) rfl) hK hS dX6_checkFrame_12 dX6_checkFrame_15 dX6_checkFrame_16 dX6_checkFrame_18 dX6_checkFrame_21 (Nat.le_of_ble_eq_true rfl) (Nat.le_of_ble_eq_true rfl) (Nat.le_of_ble_eq_true rfl) (Nat.le_of_ble_eq_true rfl) (Nat.le_of_ble_eq_true rfl) (Nat.le_of_ble_eq_true rfl) (fun H1 h9 => ⟨rfl, xin_no0 c_1, h9⟩)
  · refine lv_iload_n hx hb dX6_checkFrame_4 rfl (lv_at hl 1 rfl) ?_
    refine lv_aload_n hx hb dX6_checkFrame_5 rfl (lv_at hl 0 rfl) ?_
    refine va_get (D := G) (cl := vwCl) (ci := 7) (v := .int (nI F)) (C := RX6) (T := TX6) (N := 6) hx hb (hts d0) in_X6_checkFrame_X6 hown hK.1 (x1 (hX.o_)) 0 rfl rfl 0 (by decide) (hts d0 _ hw_X6_checkFrame_3) (fun _ h9 => h9) rfl dX6_checkFrame_6 ?_
    refine lv_icmp_lt (tgt := 22) hx hb dX6_checkFrame_9 (by decide) (fun c_2 => ?_) (fun c_2 => ?_)
    · exact xvret hd0 hx hb hr hlocks hS (Nat.le_of_ble_eq_true rfl) (Nat.le_of_ble_eq_true rfl) dX6_checkFrame_22 ⟨rfl, rfl, xin_lt c_1 c_2 (by omega)⟩
    · exact xthrowS hfl hd0 hx hb hown hlocks hxt hml hl.1 hts (by decide +kernel) hw_X6_checkFrame_1 hw_X6_checkFrame_2 ht_X6_checkFrame_0 xthrow_ok0 xthrow_gd0 (List.mem_of_getElem? (i := 12) rfl) hK hS dX6_checkFrame_12 dX6_checkFrame_15 dX6_checkFrame_16 dX6_checkFrame_18 dX6_checkFrame_21 (Nat.le_of_ble_eq_true rfl) (Nat.le_of_ble_eq_true rfl) (Nat.le_of_ble_eq_true rfl) (Nat.le_of_ble_eq_true rfl) (Nat.le_of_ble_eq_true rfl) (Nat.le_of_ble_eq_true rfl) (fun H1 h9 => ⟨rfl, xin_nlt c_2 (by omega), h9⟩)
theorem dX6_checkCell_0 : decode cX6_checkCell 0 = .ok (.iload_n 1, 1) := by decide +kernel
theorem dX6_checkCell_1 : decode cX6_checkCell 1 = .ok (.ifCond .lt 13, 3) := by decide +kernel
theorem dX6_checkCell_4 : decode cX6_checkCell 4 = .ok (.iload_n 1, 1) := by decide +kernel
theorem dX6_checkCell_5 : decode cX6_checkCell 5 = .ok (.aload_n 0, 1) := by decide +kernel
theorem dX6_checkCell_6 : decode cX6_checkCell 6 = .ok (.getfield 13, 3) := by decide +kernel
theorem dX6_checkCell_9 : decode cX6_checkCell 9 = .ok (.iconst 1, 1) := by decide +kernel
theorem dX6_checkCell_10 : decode cX6_checkCell 10 = .ok (.isub, 1) := by decide +kernel
theorem dX6_checkCell_11 : decode cX6_checkCell 11 = .ok (.if_icmp .lt 13, 3) := by decide +kernel
theorem dX6_checkCell_14 : decode cX6_checkCell 14 = .ok (.new 107, 3) := by decide +kernel
theorem dX6_checkCell_17 : decode cX6_checkCell 17 = .ok (.dup, 1) := by decide +kernel
theorem dX6_checkCell_18 : decode cX6_checkCell 18 = .ok (.ldc 255, 2) := by decide +kernel
theorem dX6_checkCell_20 : decode cX6_checkCell 20 = .ok (.invokespecial 111, 3) := by decide +kernel
theorem dX6_checkCell_23 : decode cX6_checkCell 23 = .ok (.athrow, 1) := by decide +kernel
theorem dX6_checkCell_24 : decode cX6_checkCell 24 = .ok (.return_, 1) := by decide +kernel
abbrev rm_X6_checkCell : Room := { frames := 6, cells := 1, slots := 6, locals := 95 }
theorem hw_X6_checkCell_1 : (Cond.classLink RX6 107 "java/lang/IndexOutOfBoundsException") ∈ wsX6_checkCell := List.mem_of_getElem? (i := 1) rfl
theorem hw_X6_checkCell_2 : (Cond.initialized "java/lang/IndexOutOfBoundsException") ∈ wsX6_checkCell := List.mem_of_getElem? (i := 2) rfl
theorem hw_X6_checkCell_3 : (Cond.fieldLink RX6 13 "PlankUnroll" "frames" "I") ∈ wsX6_checkCell := List.mem_of_getElem? (i := 3) rfl
theorem in_X6_checkCell_X6 : ∀ w ∈ wsX60, w ∈ wsX6_checkCell := by decide +kernel
theorem ht_X6_checkCell_0 : ∀ w ∈ (vx_atS RX6 111 "java/lang/IndexOutOfBoundsException" ["java/lang/RuntimeException", "java/lang/Exception"]).filter goodWord, w ∈ wsX6_checkCell := by decide +kernel
set_option maxHeartbeats 4000000 in
set_option maxRecDepth 100000 in
/-- it is there, or it throws -/
theorem c_X6_checkCell {l : Launch} {G : va_G} {ty : Nat → ClassId} {b0 : Nat} {H : Heap} (hfl : l.stackTraces = false) {ad : Nat → Nat} {F R nb : Nat} {pl wi hi fa : Nat → UInt64} {un bu lo la : Nat → Int32} {cx cy bx : Nat → Nat → UInt64} {nf : Nat → Nat} {K0 : Heap} (hX : xCla G ty ad F R pl un cx cy bu nb wi hi nf fa lo la bx K0 H) (hW : xWf F R nb nf ad b0) {f : Int32} : xMet l yX6_checkCell wsX6_checkCell rm_X6_checkCell G ty b0 [.ref (ad 0), .int (f)] H (fun v H1 => H = H1 ∧ v = none ∧ vp_in f (F - 1)) (fun E H1 => E = "java/lang/IndexOutOfBoundsException" ∧ ¬ vp_in f (F - 1) ∧ xext H H1) := by
  refine xbody (cc := cX6_checkCell) (maxL := 2) (ret := none) (C := RX6) (lv := [(0, .ref (ad 0)), (1, .int (f))]) (by decide) rfl rfl (Nat.le_of_ble_eq_true rfl) rfl ?_
  intro p e s m below meth c d0 hx hb hr hts hown hlocks hml hxt hnm0 hK hb0 hH0 hS hd0 ls hl
  obtain ⟨⟨zF2, zF8⟩, ⟨zR2, zR8⟩⟩ := id hW.1
  have zB4 := hW.2.1
  refine lv_iload_n hx hb dX6_checkCell_0 rfl (lv_at hl 1 rfl) ?_
  refine lv_if_lt (tgt := 14) hx hb dX6_checkCell_1 (by decide) (fun c_1 => ?_) (fun c_1 => ?_)
  · exact xthrowS hfl hd0 hx hb hown hlocks hxt hml hl.1 hts (by decide +kernel) hw_X6_checkCell_1 hw_X6_checkCell_2 ht_X6_checkCell_0 xthrow_ok0 xthrow_gd0 (List.mem_of_getElem? (i := 13) rfl) hK hS dX6_checkCell_14 dX6_checkCell_17 dX6_checkCell_18 dX6_checkCell_20 dX6_checkCell_23 (Nat.le_of_ble_eq_true rfl) (Nat.le_of_ble_eq_true rfl) (Nat.le_of_ble_eq_true rfl) (Nat.le_of_ble_eq_true rfl) (Nat.le_of_ble_eq_true rfl) (Nat.le_of_ble_eq_true rfl) (fun H1 h9 => ⟨rfl, xin_no0 c_1, h9⟩)
  · refine lv_iload_n hx hb dX6_checkCell_4 rfl (lv_at hl 1 rfl) ?_
    refine lv_aload_n hx hb dX6_checkCell_5 rfl (lv_at hl 0 rfl) ?_
    refine va_get (D := G) (cl := vwCl) (ci := 7) (v := .int (nI F)) (C := RX6) (T := TX6) (N := 6) hx hb (hts d0) in_X6_checkCell_X6 hown hK.1 (x1 (hX.o_)) 0 rfl rfl 0 (by decide) (hts d0 _ hw_X6_checkCell_3) (fun _ h9 => h9) rfl dX6_checkCell_6 ?_
    refine lv_iconst (v := nI 1) hx hb dX6_checkCell_9 (by decide) ?_
    refine xisubN hx hb (by omega) dX6_checkCell_10 ?_
    refine lv_icmp_lt (tgt := 24) hx hb dX6_checkCell_11 (by decide) (fun c_2 => ?_) (fun c_2 => ?_)
    · exact xvret hd0 hx hb hr hlocks hS (Nat.le_of_ble_eq_true rfl) (Nat.le_of_ble_eq_true rfl) dX6_checkCell_24 ⟨rfl, rfl, xin_lt c_1 c_2 (by omega)⟩
    · exact xthrowS hfl hd0 hx hb hown hlocks hxt hml hl.1 hts (by decide +kernel) hw_X6_checkCell_1 hw_X6_checkCell_2 ht_X6_checkCell_0 xthrow_ok0 xthrow_gd0 (List.mem_of_getElem? (i := 13) rfl) hK hS dX6_checkCell_14 dX6_checkCell_17 dX6_checkCell_18 dX6_checkCell_20 dX6_checkCell_23 (Nat.le_of_ble_eq_true rfl) (Nat.le_of_ble_eq_true rfl) (Nat.le_of_ble_eq_true rfl) (Nat.le_of_ble_eq_true rfl) (Nat.le_of_ble_eq_true rfl) (Nat.le_of_ble_eq_true rfl) (fun H1 h9 => ⟨rfl, xin_nlt c_2 (by omega), h9⟩)
set_option maxRecDepth 20000 in
theorem ggX6_placeAt_X6_checkFrame : GoodIn wsX6_placeAt wsX6_checkFrame := goodIn_ca (goodIn_r _ [9, 1, 2, 10, 11, 12, 13, 14, 15, 16] (by decide +kernel) (by decide +kernel)) (goodIn_sub (fun _ h => List.mem_cons_of_mem _ (List.mem_append_right _ h)) (by decide +kernel))
set_option maxRecDepth 20000 in
theorem gX6_placeAt_X6_checkFrame : GoodIn wsX6_placeAt (wsV RX6 158 RX6 yX6_checkFrame wsX6_checkFrame) := goodIn_app (goodIn_of _ (by decide +kernel)) ggX6_placeAt_X6_checkFrame
theorem dX6_placeAt_0 : decode cX6_placeAt 0 = .ok (.aload_n 0, 1) := by decide +kernel
theorem dX6_placeAt_1 : decode cX6_placeAt 1 = .ok (.iload_n 1, 1) := by decide +kernel
theorem dX6_placeAt_2 : decode cX6_placeAt 2 = .ok (.invokevirtual 158, 3) := by decide +kernel
theorem dX6_placeAt_5 : decode cX6_placeAt 5 = .ok (.iload_n 2, 1) := by decide +kernel
theorem dX6_placeAt_6 : decode cX6_placeAt 6 = .ok (.ifCond .lt 12, 3) := by decide +kernel
theorem dX6_placeAt_9 : decode cX6_placeAt 9 = .ok (.iload_n 2, 1) := by decide +kernel
theorem dX6_placeAt_10 : decode cX6_placeAt 10 = .ok (.aload_n 0, 1) := by decide +kernel
theorem dX6_placeAt_11 : decode cX6_placeAt 11 = .ok (.getfield 19, 3) := by decide +kernel
theorem dX6_placeAt_14 : decode cX6_placeAt 14 = .ok (.arraylength, 1) := by decide +kernel
theorem dX6_placeAt_15 : decode cX6_placeAt 15 = .ok (.if_icmp .lt 14, 3) := by decide +kernel
theorem dX6_placeAt_18 : decode cX6_placeAt 18 = .ok (.new 107, 3) := by decide +kernel
theorem dX6_placeAt_21 : decode cX6_placeAt 21 = .ok (.dup, 1) := by decide +kernel
theorem dX6_placeAt_22 : decode cX6_placeAt 22 = .ok (.ldc_w 257, 3) := by decide +kernel
theorem dX6_placeAt_25 : decode cX6_placeAt 25 = .ok (.invokespecial 111, 3) := by decide +kernel
theorem dX6_placeAt_28 : decode cX6_placeAt 28 = .ok (.athrow, 1) := by decide +kernel
theorem dX6_placeAt_29 : decode cX6_placeAt 29 = .ok (.aload_n 0, 1) := by decide +kernel
theorem dX6_placeAt_30 : decode cX6_placeAt 30 = .ok (.getfield 19, 3) := by decide +kernel
theorem dX6_placeAt_33 : decode cX6_placeAt 33 = .ok (.iload_n 2, 1) := by decide +kernel
theorem dX6_placeAt_34 : decode cX6_placeAt 34 = .ok (.aaload, 1) := by decide +kernel
theorem dX6_placeAt_35 : decode cX6_placeAt 35 = .ok (.getfield 140, 3) := by decide +kernel
theorem dX6_placeAt_38 : decode cX6_placeAt 38 = .ok (.iload_n 1, 1) := by decide +kernel
theorem dX6_placeAt_39 : decode cX6_placeAt 39 = .ok (.aaload, 1) := by decide +kernel
theorem dX6_placeAt_40 : decode cX6_placeAt 40 = .ok (.areturn, 1) := by decide +kernel
abbrev rm_X6_placeAt : Room := { frames := 7, cells := 3, slots := 18, locals := 150 }
theorem hw_X6_placeAt_1 : (Cond.classLink RX6 107 "java/lang/IndexOutOfBoundsException") ∈ wsX6_placeAt := List.mem_of_getElem? (i := 1) rfl
theorem hw_X6_placeAt_2 : (Cond.initialized "java/lang/IndexOutOfBoundsException") ∈ wsX6_placeAt := List.mem_of_getElem? (i := 2) rfl
theorem hw_X6_placeAt_3 : (Cond.fieldLink RX6 19 "PlankUnroll" "rows" "[LPlankUnroll$Row;") ∈ wsX6_placeAt := List.mem_of_getElem? (i := 3) rfl
theorem hw_X6_placeAt_4 : (Cond.fieldLink RX6 140 "PlankUnroll$Row" "places" "[LPlankUnroll$Place;") ∈ wsX6_placeAt := List.mem_of_getElem? (i := 4) rfl
theorem in_X6_placeAt_X4 : ∀ w ∈ wsX40, w ∈ wsX6_placeAt := by decide +kernel
theorem in_X6_placeAt_X6 : ∀ w ∈ wsX60, w ∈ wsX6_placeAt := by decide +kernel
theorem ht_X6_placeAt_0 : ∀ w ∈ (vx_atS RX6 111 "java/lang/IndexOutOfBoundsException" ["java/lang/RuntimeException", "java/lang/Exception"]).filter goodWord, w ∈ wsX6_placeAt := by decide +kernel
set_option maxHeartbeats 4000000 in
set_option maxRecDepth 100000 in
/-- a place -/
theorem c_X6_placeAt {l : Launch} {G : va_G} {ty : Nat → ClassId} {b0 : Nat} {H : Heap} (hfl : l.stackTraces = false) {ad : Nat → Nat} {F R nb : Nat} {pl wi hi fa : Nat → UInt64} {un bu lo la : Nat → Int32} {cx cy bx : Nat → Nat → UInt64} {nf : Nat → Nat} {K0 : Heap} (hX : xCla G ty ad F R pl un cx cy bu nb wi hi nf fa lo la bx K0 H) (hW : xWf F R nb nf ad b0) {f r : Int32} : xMet l yX6_placeAt wsX6_placeAt rm_X6_placeAt G ty b0 [.ref (ad 0), .int (f), .int (r)] H (fun v H1 => H = H1 ∧ (vp_in f F ∧ vp_in r R) ∧ v = some (.ref (ad (100 + 8 * r.toNatClampNeg + f.toNatClampNeg)))) (fun E H1 => E = "java/lang/IndexOutOfBoundsException" ∧ ¬ (vp_in f F ∧ vp_in r R) ∧ xext H H1) := by
  refine xbody (cc := cX6_placeAt) (maxL := 3) (ret := (some (.object "PlankUnroll$Place"))) (C := RX6) (lv := [(0, .ref (ad 0)), (1, .int (f)), (2, .int (r))]) (by decide) rfl rfl (Nat.le_of_ble_eq_true rfl) rfl ?_
  intro p e s m below meth c d0 hx hb hr hts hown hlocks hml hxt hnm0 hK hb0 hH0 hS hd0 ls hl
  obtain ⟨⟨zF2, zF8⟩, ⟨zR2, zR8⟩⟩ := id hW.1
  have zB4 := hW.2.1
  refine lv_aload_n hx hb dX6_placeAt_0 rfl (lv_at hl 0 rfl) ?_
  refine lv_iload_n hx hb dX6_placeAt_1 rfl (lv_at hl 1 rfl) ?_
  have cw_1 := cwV (R := rm_X6_placeAt) (rm := rm_X6_checkFrame) 1 (hts d0) gX6_placeAt_X6_checkFrame rfl rfl rfl (by decide +kernel) ⟨Nat.le_of_ble_eq_true rfl, Nat.le_of_ble_eq_true rfl⟩
  refine xcall hd0 (xintoV (b := (ad 0)) (As := [.int (f)]) (rest := []) ⟨hx, hb, hml, hown, hts _⟩ cw_1 (va_recv hK.1 (x1 (hX.o_)) (ci := 7) (q0 := 0) rfl rfl) rfl rfl hl.1 rfl (lv_room (Nat.le_of_ble_eq_true rfl)) dX6_placeAt_2) (c_X6_checkFrame (l := l) (G := G) (ty := ty) (b0 := b0) hfl hX hW (f := f)) (xoweB cw_1.1) hK hb0 hS (Nat.le_of_ble_eq_true rfl) (Nat.le_of_ble_eq_true rfl) (fun E_1 ce_1 q9_1 H_1 locs_1 d0 hd0 hp_1 hS hce_1 hcv_1 hcl_1 => ?_) (fun v_1 H_1 locs_1 d0 hd0 hp_1 hS => ?_)
  · exact xout hd0 hxt hlocks hce_1 hcv_1 hcl_1 hS (Nat.le_of_ble_eq_true rfl) (Nat.le_of_ble_eq_true rfl) ⟨hp_1.1, fun z => hp_1.2.1 z.1, hp_1.2.2⟩
  · obtain ⟨rfl, rfl, z_f⟩ := hp_1
    obtain ⟨f9, hf9, ef9⟩ := vp_in_of z_f (by omega)
    subst ef9
    show W p l e _ (s.setDrawn _) m _ below meth c _ _ _ _ _ (F0 m 5 ls [])
    refine lv_iload_n hx hb dX6_placeAt_5 rfl (lv_at hl 2 rfl) ?_
    refine lv_if_lt (tgt := 18) hx hb dX6_placeAt_6 (by decide) (fun c_2 => ?_) (fun c_2 => ?_)
    · exact xthrowSW hfl hd0 hx hb hown hlocks hxt hml hl.1 hts (by decide +kernel) hw_X6_placeAt_1 hw_X6_placeAt_2 ht_X6_placeAt_0 xthrow_ok0 xthrow_gd0 (List.mem_of_getElem? (i := 14) rfl) hK hS dX6_placeAt_18 dX6_placeAt_21 dX6_placeAt_22 dX6_placeAt_25 dX6_placeAt_28 (Nat.le_of_ble_eq_true rfl) (Nat.le_of_ble_eq_true rfl) (Nat.le_of_ble_eq_true rfl) (Nat.le_of_ble_eq_true rfl) (Nat.le_of_ble_eq_true rfl) (Nat.le_of_ble_eq_true rfl) (fun H1 h9 => ⟨rfl, fun z => xin_no0 c_2 z.2, h9⟩)
    · refine lv_iload_n hx hb dX6_placeAt_9 rfl (lv_at hl 2 rfl) ?_
      refine lv_aload_n hx hb dX6_placeAt_10 rfl (lv_at hl 0 rfl) ?_
      refine va_get (D := G) (cl := vwCl) (ci := 7) (v := .ref (ad 1)) (C := RX6) (T := TX6) (N := 6) hx hb (hts d0) in_X6_placeAt_X6 hown hK.1 (x1 (hX.o_)) 0 rfl rfl 1 (by decide) (hts d0 _ hw_X6_placeAt_3) (fun _ h9 => h9) rfl dX6_placeAt_11 ?_
      refine xalen hx hb hK.1 5 (hX.rows_) rfl dX6_placeAt_14 ?_
      refine lv_icmp_lt (tgt := 29) hx hb dX6_placeAt_15 (by decide) (fun c_3 => ?_) (fun c_3 => ?_)
      · have z_r := xin_lt c_2 c_3 (by omega)
        obtain ⟨r9, hr9, er9⟩ := vp_in_of z_r (by omega)
        subst er9
        refine lv_aload_n hx hb dX6_placeAt_29 rfl (lv_at hl 0 rfl) ?_
        refine va_get (D := G) (cl := vwCl) (ci := 7) (v := .ref (ad 1)) (C := RX6) (T := TX6) (N := 6) hx hb (hts d0) in_X6_placeAt_X6 hown hK.1 (x1 (hX.o_)) 0 rfl rfl 1 (by decide) (hts d0 _ hw_X6_placeAt_3) (fun _ h9 => h9) rfl dX6_placeAt_30 ?_
        refine lv_iload_n hx hb dX6_placeAt_33 rfl (lv_at hl 2 rfl) ?_
        refine xaald (j := r9) hx hb hK.1 5 (hX.rows_) rfl (xix_of (by omega) (by omega)) rfl dX6_placeAt_34 ?_
        refine va_get (D := G) (cl := vwCl) (ci := 5) (v := .ref (ad (20 + r9))) (C := RX4) (T := TX4) (N := 1) hx hb (hts d0) in_X6_placeAt_X4 hown hK.1 (x1 (hX.row_ _ (by omega))) 0 rfl rfl 0 (by decide) (hts d0 _ hw_X6_placeAt_4) (fun _ h9 => h9) rfl dX6_placeAt_35 ?_
        refine lv_iload_n hx hb dX6_placeAt_38 rfl (lv_at hl 1 rfl) ?_
        refine xaald (j := f9) hx hb hK.1 4 (hX.parr_ _ (by omega)) rfl (xix_of (by omega) (by omega)) rfl dX6_placeAt_39 ?_
        exact xaret (Or.inl ⟨_, rfl⟩) (Or.inr ⟨_, rfl⟩) hd0 hx hb hr hlocks hS (Nat.le_of_ble_eq_true rfl) (Nat.le_of_ble_eq_true rfl) dX6_placeAt_40 ⟨rfl, ⟨z_f, z_r⟩, by rw [nN_nI (by omega), nN_nI (by omega)]⟩
      · exact xthrowSW hfl hd0 hx hb hown hlocks hxt hml hl.1 hts (by decide +kernel) hw_X6_placeAt_1 hw_X6_placeAt_2 ht_X6_placeAt_0 xthrow_ok0 xthrow_gd0 (List.mem_of_getElem? (i := 14) rfl) hK hS dX6_placeAt_18 dX6_placeAt_21 dX6_placeAt_22 dX6_placeAt_25 dX6_placeAt_28 (Nat.le_of_ble_eq_true rfl) (Nat.le_of_ble_eq_true rfl) (Nat.le_of_ble_eq_true rfl) (Nat.le_of_ble_eq_true rfl) (Nat.le_of_ble_eq_true rfl) (Nat.le_of_ble_eq_true rfl) (fun H1 h9 => ⟨rfl, fun z => xin_nlt c_3 (by omega) z.2, h9⟩)
theorem dX6_stripAt_0 : decode cX6_stripAt 0 = .ok (.iload_n 1, 1) := by decide +kernel
theorem dX6_stripAt_1 : decode cX6_stripAt 1 = .ok (.ifCond .lt 12, 3) := by decide +kernel
theorem dX6_stripAt_4 : decode cX6_stripAt 4 = .ok (.iload_n 1, 1) := by decide +kernel
theorem dX6_stripAt_5 : decode cX6_stripAt 5 = .ok (.aload_n 0, 1) := by decide +kernel
theorem dX6_stripAt_6 : decode cX6_stripAt 6 = .ok (.getfield 28, 3) := by decide +kernel
theorem dX6_stripAt_9 : decode cX6_stripAt 9 = .ok (.arraylength, 1) := by decide +kernel
theorem dX6_stripAt_10 : decode cX6_stripAt 10 = .ok (.if_icmp .lt 14, 3) := by decide +kernel
theorem dX6_stripAt_13 : decode cX6_stripAt 13 = .ok (.new 107, 3) := by decide +kernel
theorem dX6_stripAt_16 : decode cX6_stripAt 16 = .ok (.dup, 1) := by decide +kernel
theorem dX6_stripAt_17 : decode cX6_stripAt 17 = .ok (.ldc_w 259, 3) := by decide +kernel
theorem dX6_stripAt_20 : decode cX6_stripAt 20 = .ok (.invokespecial 111, 3) := by decide +kernel
theorem dX6_stripAt_23 : decode cX6_stripAt 23 = .ok (.athrow, 1) := by decide +kernel
theorem dX6_stripAt_24 : decode cX6_stripAt 24 = .ok (.aload_n 0, 1) := by decide +kernel
theorem dX6_stripAt_25 : decode cX6_stripAt 25 = .ok (.getfield 28, 3) := by decide +kernel
theorem dX6_stripAt_28 : decode cX6_stripAt 28 = .ok (.iload_n 1, 1) := by decide +kernel
theorem dX6_stripAt_29 : decode cX6_stripAt 29 = .ok (.aaload, 1) := by decide +kernel
theorem dX6_stripAt_30 : decode cX6_stripAt 30 = .ok (.areturn, 1) := by decide +kernel
abbrev rm_X6_stripAt : Room := { frames := 6, cells := 1, slots := 6, locals := 95 }
theorem hw_X6_stripAt_1 : (Cond.classLink RX6 107 "java/lang/IndexOutOfBoundsException") ∈ wsX6_stripAt := List.mem_of_getElem? (i := 1) rfl
theorem hw_X6_stripAt_2 : (Cond.initialized "java/lang/IndexOutOfBoundsException") ∈ wsX6_stripAt := List.mem_of_getElem? (i := 2) rfl
theorem hw_X6_stripAt_3 : (Cond.fieldLink RX6 28 "PlankUnroll" "strips" "[LPlankUnroll$Strip;") ∈ wsX6_stripAt := List.mem_of_getElem? (i := 3) rfl
theorem in_X6_stripAt_X6 : ∀ w ∈ wsX60, w ∈ wsX6_stripAt := by decide +kernel
theorem ht_X6_stripAt_0 : ∀ w ∈ (vx_atS RX6 111 "java/lang/IndexOutOfBoundsException" ["java/lang/RuntimeException", "java/lang/Exception"]).filter goodWord, w ∈ wsX6_stripAt := by decide +kernel
set_option maxHeartbeats 4000000 in
set_option maxRecDepth 100000 in
/-- a strip -/
theorem c_X6_stripAt {l : Launch} {G : va_G} {ty : Nat → ClassId} {b0 : Nat} {H : Heap} (hfl : l.stackTraces = false) {ad : Nat → Nat} {F R nb : Nat} {pl wi hi fa : Nat → UInt64} {un bu lo la : Nat → Int32} {cx cy bx : Nat → Nat → UInt64} {nf : Nat → Nat} {K0 : Heap} (hX : xCla G ty ad F R pl un cx cy bu nb wi hi nf fa lo la bx K0 H) (hW : xWf F R nb nf ad b0) {x : Int32} : xMet l yX6_stripAt wsX6_stripAt rm_X6_stripAt G ty b0 [.ref (ad 0), .int (x)] H (fun v H1 => H = H1 ∧ vp_in x (R - 1) ∧ v = some (.ref (ad (30 + x.toNatClampNeg)))) (fun E H1 => E = "java/lang/IndexOutOfBoundsException" ∧ ¬ vp_in x (R - 1) ∧ xext H H1) := by
  refine xbody (cc := cX6_stripAt) (maxL := 2) (ret := (some (.object "PlankUnroll$Strip"))) (C := RX6) (lv := [(0, .ref (ad 0)), (1, .int (x))]) (by decide) rfl rfl (Nat.le_of_ble_eq_true rfl) rfl ?_
  intro p e s m below meth c d0 hx hb hr hts hown hlocks hml hxt hnm0 hK hb0 hH0 hS hd0 ls hl
  obtain ⟨⟨zF2, zF8⟩, ⟨zR2, zR8⟩⟩ := id hW.1
  have zB4 := hW.2.1
  refine lv_iload_n hx hb dX6_stripAt_0 rfl (lv_at hl 1 rfl) ?_
  refine lv_if_lt (tgt := 13) hx hb dX6_stripAt_1 (by decide) (fun c_1 => ?_) (fun c_1 => ?_)
  · exact xthrowSW hfl hd0 hx hb hown hlocks hxt hml hl.1 hts (by decide +kernel) hw_X6_stripAt_1 hw_X6_stripAt_2 ht_X6_stripAt_0 xthrow_ok0 xthrow_gd0 (List.mem_of_getElem? (i := 15) rfl) hK hS dX6_stripAt_13 dX6_stripAt_16 dX6_stripAt_17 dX6_stripAt_20 dX6_stripAt_23 (Nat.le_of_ble_eq_true rfl) (Nat.le_of_ble_eq_true rfl) (Nat.le_of_ble_eq_true rfl) (Nat.le_of_ble_eq_true rfl) (Nat.le_of_ble_eq_true rfl) (Nat.le_of_ble_eq_true rfl) (fun H1 h9 => ⟨rfl, xin_no0 c_1, h9⟩)
  · refine lv_iload_n hx hb dX6_stripAt_4 rfl (lv_at hl 1 rfl) ?_
    refine lv_aload_n hx hb dX6_stripAt_5 rfl (lv_at hl 0 rfl) ?_
    refine va_get (D := G) (cl := vwCl) (ci := 7) (v := .ref (ad 2)) (C := RX6) (T := TX6) (N := 6) hx hb (hts d0) in_X6_stripAt_X6 hown hK.1 (x1 (hX.o_)) 0 rfl rfl 2 (by decide) (hts d0 _ hw_X6_stripAt_3) (fun _ h9 => h9) rfl dX6_stripAt_6 ?_
    refine xalen hx hb hK.1 6 (hX.strips_) rfl dX6_stripAt_9 ?_
    refine lv_icmp_lt (tgt := 24) hx hb dX6_stripAt_10 (by decide) (fun c_2 => ?_) (fun c_2 => ?_)
    · have z_x := xin_lt c_1 c_2 (by omega)
      obtain ⟨x9, hx9, ex9⟩ := vp_in_of z_x (by omega)
      subst ex9
      refine lv_aload_n hx hb dX6_stripAt_24 rfl (lv_at hl 0 rfl) ?_
      refine va_get (D := G) (cl := vwCl) (ci := 7) (v := .ref (ad 2)) (C := RX6) (T := TX6) (N := 6) hx hb (hts d0) in_X6_stripAt_X6 hown hK.1 (x1 (hX.o_)) 0 rfl rfl 2 (by decide) (hts d0 _ hw_X6_stripAt_3) (fun _ h9 => h9) rfl dX6_stripAt_25 ?_
      refine lv_iload_n hx hb dX6_stripAt_28 rfl (lv_at hl 1 rfl) ?_
      refine xaald (j := x9) hx hb hK.1 6 (hX.strips_) rfl (xix_of (by omega) (by omega)) rfl dX6_stripAt_29 ?_
      exact xaret (Or.inl ⟨_, rfl⟩) (Or.inr ⟨_, rfl⟩) hd0 hx hb hr hlocks hS (Nat.le_of_ble_eq_true rfl) (Nat.le_of_ble_eq_true rfl) dX6_stripAt_30 ⟨rfl, z_x, by rw [nN_nI (by omega)]⟩
    · exact xthrowSW hfl hd0 hx hb hown hlocks hxt hml hl.1 hts (by decide +kernel) hw_X6_stripAt_1 hw_X6_stripAt_2 ht_X6_stripAt_0 xthrow_ok0 xthrow_gd0 (List.mem_of_getElem? (i := 15) rfl) hK hS dX6_stripAt_13 dX6_stripAt_16 dX6_stripAt_17 dX6_stripAt_20 dX6_stripAt_23 (Nat.le_of_ble_eq_true rfl) (Nat.le_of_ble_eq_true rfl) (Nat.le_of_ble_eq_true rfl) (Nat.le_of_ble_eq_true rfl) (Nat.le_of_ble_eq_true rfl) (Nat.le_of_ble_eq_true rfl) (fun H1 h9 => ⟨rfl, xin_nlt c_2 (by omega), h9⟩)
set_option maxRecDepth 20000 in
theorem ggX6_boardAt_Jx4a65c_size_8abf5 : GoodIn wsX6_boardAt wsJx4a65c_size_8abf5 := goodIn_r _ [9, 10, 34, 35, 36] (by decide +kernel) (by decide +kernel)
set_option maxRecDepth 20000 in
theorem gX6_boardAt_Jx4a65c_size_8abf5 : GoodIn wsX6_boardAt (wsV RX6 180 RJx4a65c yJx4a65c_size_8abf5 wsJx4a65c_size_8abf5) := goodIn_app (goodIn_of _ (by decide +kernel)) ggX6_boardAt_Jx4a65c_size_8abf5
set_option maxRecDepth 20000 in
theorem ggX6_boardAt_Jx4a65c_get_915e3 : GoodIn wsX6_boardAt wsJx4a65c_get_915e3 := goodIn_r _ [14, 10, 15, 16, 17, 18, 19, 20, 21, 22, 23, 24, 25, 8, 26, 27, 34, 35, 36] (by decide +kernel) (by decide +kernel)
set_option maxRecDepth 20000 in
theorem gX6_boardAt_Jx4a65c_get_915e3 : GoodIn wsX6_boardAt (wsV RX6 263 RJx4a65c yJx4a65c_get_915e3 wsJx4a65c_get_915e3) := goodIn_app (goodIn_of _ (by decide +kernel)) ggX6_boardAt_Jx4a65c_get_915e3
theorem dX6_boardAt_0 : decode cX6_boardAt 0 = .ok (.iload_n 1, 1) := by decide +kernel
theorem dX6_boardAt_1 : decode cX6_boardAt 1 = .ok (.ifCond .lt 14, 3) := by decide +kernel
theorem dX6_boardAt_4 : decode cX6_boardAt 4 = .ok (.iload_n 1, 1) := by decide +kernel
theorem dX6_boardAt_5 : decode cX6_boardAt 5 = .ok (.aload_n 0, 1) := by decide +kernel
theorem dX6_boardAt_6 : decode cX6_boardAt 6 = .ok (.getfield 38, 3) := by decide +kernel
theorem dX6_boardAt_9 : decode cX6_boardAt 9 = .ok (.invokevirtual 180, 3) := by decide +kernel
theorem dX6_boardAt_12 : decode cX6_boardAt 12 = .ok (.if_icmp .lt 14, 3) := by decide +kernel
theorem dX6_boardAt_15 : decode cX6_boardAt 15 = .ok (.new 107, 3) := by decide +kernel
theorem dX6_boardAt_18 : decode cX6_boardAt 18 = .ok (.dup, 1) := by decide +kernel
theorem dX6_boardAt_19 : decode cX6_boardAt 19 = .ok (.ldc_w 261, 3) := by decide +kernel
theorem dX6_boardAt_22 : decode cX6_boardAt 22 = .ok (.invokespecial 111, 3) := by decide +kernel
theorem dX6_boardAt_25 : decode cX6_boardAt 25 = .ok (.athrow, 1) := by decide +kernel
theorem dX6_boardAt_26 : decode cX6_boardAt 26 = .ok (.aload_n 0, 1) := by decide +kernel
theorem dX6_boardAt_27 : decode cX6_boardAt 27 = .ok (.getfield 38, 3) := by decide +kernel
theorem dX6_boardAt_30 : decode cX6_boardAt 30 = .ok (.iload_n 1, 1) := by decide +kernel
theorem dX6_boardAt_31 : decode cX6_boardAt 31 = .ok (.invokevirtual 263, 3) := by decide +kernel
theorem dX6_boardAt_34 : decode cX6_boardAt 34 = .ok (.checkcast 186, 3) := by decide +kernel
theorem dX6_boardAt_37 : decode cX6_boardAt 37 = .ok (.areturn, 1) := by decide +kernel
abbrev rm_X6_boardAt : Room := { frames := 6, cells := 1, slots := 6, locals := 130 }
theorem hw_X6_boardAt_1 : (Cond.classLink RX6 107 "java/lang/IndexOutOfBoundsException") ∈ wsX6_boardAt := List.mem_of_getElem? (i := 1) rfl
theorem hw_X6_boardAt_2 : (Cond.initialized "java/lang/IndexOutOfBoundsException") ∈ wsX6_boardAt := List.mem_of_getElem? (i := 2) rfl
theorem hw_X6_boardAt_3 : (Cond.fieldLink RX6 38 "PlankUnroll" "boards" "Ljava/util/ArrayList;") ∈ wsX6_boardAt := List.mem_of_getElem? (i := 3) rfl
theorem hw_X6_boardAt_4 : (Cond.classLink RX6 186 "PlankUnroll$Board") ∈ wsX6_boardAt := List.mem_of_getElem? (i := 4) rfl
theorem in_X6_boardAt_X6 : ∀ w ∈ wsX60, w ∈ wsX6_boardAt := by decide +kernel
theorem ht_X6_boardAt_0 : ∀ w ∈ (vx_atS RX6 111 "java/lang/IndexOutOfBoundsException" ["java/lang/RuntimeException", "java/lang/Exception"]).filter goodWord, w ∈ wsX6_boardAt := by decide +kernel
set_option maxHeartbeats 4000000 in
set_option maxRecDepth 100000 in
/-- a board -/
theorem c_X6_boardAt {l : Launch} {G : va_G} {ty : Nat → ClassId} {b0 : Nat} {H : Heap} (hfl : l.stackTraces = false) {ad : Nat → Nat} {F R nb : Nat} {pl wi hi fa : Nat → UInt64} {un bu lo la : Nat → Int32} {cx cy bx : Nat → Nat → UInt64} {nf : Nat → Nat} {K0 : Heap} (hX : xCla G ty ad F R pl un cx cy bu nb wi hi nf fa lo la bx K0 H) (hW : xWf F R nb nf ad b0) {b : Int32} : xMet l yX6_boardAt wsX6_boardAt rm_X6_boardAt G ty b0 [.ref (ad 0), .int (b)] H (fun v H1 => H = H1 ∧ vp_in b nb ∧ v = some (.ref (ad (200 + b.toNatClampNeg)))) (fun E H1 => E = "java/lang/IndexOutOfBoundsException" ∧ ¬ vp_in b nb ∧ xext H H1) := by
  refine xbody (cc := cX6_boardAt) (maxL := 2) (ret := (some (.object "PlankUnroll$Board"))) (C := RX6) (lv := [(0, .ref (ad 0)), (1, .int (b))]) (by decide) rfl rfl (Nat.le_of_ble_eq_true rfl) rfl ?_
  intro p e s m below meth c d0 hx hb hr hts hown hlocks hml hxt hnm0 hK hb0 hH0 hS hd0 ls hl
  obtain ⟨⟨zF2, zF8⟩, ⟨zR2, zR8⟩⟩ := id hW.1
  have zB4 := hW.2.1
  obtain ⟨mc, hl0, hl1⟩ := hX.list_
  refine lv_iload_n hx hb dX6_boardAt_0 rfl (lv_at hl 1 rfl) ?_
  refine lv_if_lt (tgt := 15) hx hb dX6_boardAt_1 (by decide) (fun c_1 => ?_) (fun c_1 => ?_)
  · exact xthrowSW hfl hd0 hx hb hown hlocks hxt hml hl.1 hts (by decide +kernel) hw_X6_boardAt_1 hw_X6_boardAt_2 ht_X6_boardAt_0 xthrow_ok0 xthrow_gd0 (List.mem_of_getElem? (i := 16) rfl) hK hS dX6_boardAt_15 dX6_boardAt_18 dX6_boardAt_19 dX6_boardAt_22 dX6_boardAt_25 (Nat.le_of_ble_eq_true rfl) (Nat.le_of_ble_eq_true rfl) (Nat.le_of_ble_eq_true rfl) (Nat.le_of_ble_eq_true rfl) (Nat.le_of_ble_eq_true rfl) (Nat.le_of_ble_eq_true rfl) (fun H1 h9 => ⟨rfl, xin_no0 c_1, h9⟩)
  · refine lv_iload_n hx hb dX6_boardAt_4 rfl (lv_at hl 1 rfl) ?_
    refine lv_aload_n hx hb dX6_boardAt_5 rfl (lv_at hl 0 rfl) ?_
    refine va_get (D := G) (cl := vwCl) (ci := 7) (v := .ref (ad 3)) (C := RX6) (T := TX6) (N := 6) hx hb (hts d0) in_X6_boardAt_X6 hown hK.1 (x1 (hX.o_)) 0 rfl rfl 3 (by decide) (hts d0 _ hw_X6_boardAt_3) (fun _ h9 => h9) rfl dX6_boardAt_6 ?_
    have cw_2 := cwV (R := rm_X6_boardAt) (rm := rm_Jx4a65c_size_8abf5) 0 (hts d0) gX6_boardAt_Jx4a65c_size_8abf5 rfl rfl rfl (by decide +kernel) ⟨Nat.le_of_ble_eq_true rfl, Nat.le_of_ble_eq_true rfl⟩
    refine xcall hd0 (xintoV (b := (ad 3)) (As := []) (rest := [.int (b)]) ⟨hx, hb, hml, hown, hts _⟩ cw_2 (va_recv hK.1 (x1 hl0) (ci := 0) (q0 := 0) rfl rfl) rfl rfl hl.1 rfl (lv_room (Nat.le_of_ble_eq_true rfl)) dX6_boardAt_9) (c_Jx4a65c_size_8abf5 (l := l) (G := G) (ty := ty) (b0 := b0) hl0) (xoweB cw_2.1) hK hb0 hS (Nat.le_of_ble_eq_true rfl) (Nat.le_of_ble_eq_true rfl) (fun E_2 ce_2 q9_2 H_2 locs_2 d0 hd0 hp_2 hS hce_2 hcv_2 hcl_2 => ?_) (fun v_2 H_2 locs_2 d0 hd0 hp_2 hS => ?_)
    · exact hp_2.elim
    · obtain ⟨rfl, rfl⟩ := hp_2
      show W p l e _ (s.setDrawn _) m _ below meth c _ _ _ _ _ (F0 m 12 ls [.int (nI nb), .int (b)])
      refine lv_icmp_lt (tgt := 26) hx hb dX6_boardAt_12 (by decide) (fun c_3 => ?_) (fun c_3 => ?_)
      · have z_b := xin_lt c_1 c_3 (by omega)
        obtain ⟨b9, hb9, eb9⟩ := vp_in_of z_b (by omega)
        subst eb9
        have hl2 := hl0
        rw [if_neg (show ¬ nb = 0 by omega)] at hl2
        refine lv_aload_n hx hb dX6_boardAt_26 rfl (lv_at hl 0 rfl) ?_
        refine va_get (D := G) (cl := vwCl) (ci := 7) (v := .ref (ad 3)) (C := RX6) (T := TX6) (N := 6) hx hb (hts d0) in_X6_boardAt_X6 hown hK.1 (x1 (hX.o_)) 0 rfl rfl 3 (by decide) (hts d0 _ hw_X6_boardAt_3) (fun _ h9 => h9) rfl dX6_boardAt_27 ?_
        refine lv_iload_n hx hb dX6_boardAt_30 rfl (lv_at hl 1 rfl) ?_
        have cw_4 := cwV (R := rm_X6_boardAt) (rm := rm_Jx4a65c_get_915e3) 1 (hts d0) gX6_boardAt_Jx4a65c_get_915e3 rfl rfl rfl (by decide +kernel) ⟨Nat.le_of_ble_eq_true rfl, Nat.le_of_ble_eq_true rfl⟩
        refine xcall hd0 (xintoV (b := (ad 3)) (As := [.int (nI b9)]) (rest := []) ⟨hx, hb, hml, hown, hts _⟩ cw_4 (va_recv hK.1 (x1 hl2) (ci := 0) (q0 := 0) rfl rfl) rfl rfl hl.1 rfl (lv_room (Nat.le_of_ble_eq_true rfl)) dX6_boardAt_31) (c_Jx4a65c_get_915e3 (l := l) (G := G) (ty := ty) (b0 := b0) (q1 := ad (200 + b9)) hl2 (hl1 (by omega)) hb9 (by omega) (if_pos hb9)) (xoweB cw_4.1) hK hb0 hS (Nat.le_of_ble_eq_true rfl) (Nat.le_of_ble_eq_true rfl) (fun E_4 ce_4 q9_4 H_4 locs_4 d0 hd0 hp_4 hS hce_4 hcv_4 hcl_4 => ?_) (fun v_4 H_4 locs_4 d0 hd0 hp_4 hS => ?_)
        · exact hp_4.elim
        · obtain ⟨rfl, rfl⟩ := hp_4
          show W p l e _ (s.setDrawn _) m _ below meth c _ _ _ _ _ (F0 m 34 ls [.ref (ad (200 + b9))])
          refine va_castE (s := s.setDrawn d0) hx hb hown (hts d0 _ hw_X6_boardAt_4) (va_recv (s := s.setDrawn d0) hK.1 (x1 (hX.board_ _ (by omega))) (ci := 1) (q0 := 0) rfl rfl) dX6_boardAt_34 ?_
          exact xaret (Or.inl ⟨_, rfl⟩) (Or.inr ⟨_, rfl⟩) hd0 hx hb hr hlocks hS (Nat.le_of_ble_eq_true rfl) (Nat.le_of_ble_eq_true rfl) dX6_boardAt_37 ⟨rfl, z_b, by rw [nN_nI (by omega)]⟩
      · exact xthrowSW hfl hd0 hx hb hown hlocks hxt hml hl.1 hts (by decide +kernel) hw_X6_boardAt_1 hw_X6_boardAt_2 ht_X6_boardAt_0 xthrow_ok0 xthrow_gd0 (List.mem_of_getElem? (i := 16) rfl) hK hS dX6_boardAt_15 dX6_boardAt_18 dX6_boardAt_19 dX6_boardAt_22 dX6_boardAt_25 (Nat.le_of_ble_eq_true rfl) (Nat.le_of_ble_eq_true rfl) (Nat.le_of_ble_eq_true rfl) (Nat.le_of_ble_eq_true rfl) (Nat.le_of_ble_eq_true rfl) (Nat.le_of_ble_eq_true rfl) (fun H1 h9 => ⟨rfl, xin_nlt c_3 (by omega), h9⟩)
theorem dX6_needUnrolled_0 : decode cX6_needUnrolled 0 = .ok (.aload_n 0, 1) := by decide +kernel
theorem dX6_needUnrolled_1 : decode cX6_needUnrolled 1 = .ok (.getfield 94, 3) := by decide +kernel
theorem dX6_needUnrolled_4 : decode cX6_needUnrolled 4 = .ok (.ifCond .ne 14, 3) := by decide +kernel
theorem dX6_needUnrolled_7 : decode cX6_needUnrolled 7 = .ok (.new 102, 3) := by decide +kernel
theorem dX6_needUnrolled_10 : decode cX6_needUnrolled 10 = .ok (.dup, 1) := by decide +kernel
theorem dX6_needUnrolled_11 : decode cX6_needUnrolled 11 = .ok (.ldc_w 267, 3) := by decide +kernel
theorem dX6_needUnrolled_14 : decode cX6_needUnrolled 14 = .ok (.invokespecial 106, 3) := by decide +kernel
theorem dX6_needUnrolled_17 : decode cX6_needUnrolled 17 = .ok (.athrow, 1) := by decide +kernel
theorem dX6_needUnrolled_18 : decode cX6_needUnrolled 18 = .ok (.return_, 1) := by decide +kernel
abbrev rm_X6_needUnrolled : Room := { frames := 6, cells := 1, slots := 6, locals := 95 }
theorem hw_X6_needUnrolled_1 : (Cond.classLink RX6 102 "java/lang/IllegalStateException") ∈ wsX6_needUnrolled := List.mem_of_getElem? (i := 1) rfl
theorem hw_X6_needUnrolled_2 : (Cond.initialized "java/lang/IllegalStateException") ∈ wsX6_needUnrolled := List.mem_of_getElem? (i := 2) rfl
theorem hw_X6_needUnrolled_3 : (Cond.fieldLink RX6 94 "PlankUnroll$Strip" "unrolled" "Z") ∈ wsX6_needUnrolled := List.mem_of_getElem? (i := 3) rfl
theorem in_X6_needUnrolled_X5 : ∀ w ∈ wsX50, w ∈ wsX6_needUnrolled := by decide +kernel
theorem ht_X6_needUnrolled_2 : ∀ w ∈ (vx_atS RX6 106 "java/lang/IllegalStateException" ["java/lang/RuntimeException", "java/lang/Exception"]).filter goodWord, w ∈ wsX6_needUnrolled := by decide +kernel
set_option maxHeartbeats 4000000 in
set_option maxRecDepth 100000 in
/-- it is unrolled, or it throws -/
theorem c_X6_needUnrolled {l : Launch} {G : va_G} {ty : Nat → ClassId} {b0 : Nat} {H : Heap} (hfl : l.stackTraces = false) {ad : Nat → Nat} {F R nb : Nat} {pl wi hi fa : Nat → UInt64} {un bu lo la : Nat → Int32} {cx cy bx : Nat → Nat → UInt64} {nf : Nat → Nat} {K0 : Heap} (hX : xCla G ty ad F R pl un cx cy bu nb wi hi nf fa lo la bx K0 H) (hW : xWf F R nb nf ad b0) {i : Nat} (hi9 : i < R - 1) : xMet l yX6_needUnrolled wsX6_needUnrolled rm_X6_needUnrolled G ty b0 [.ref (ad (30 + i))] H (fun v H1 => H = H1 ∧ v = none ∧ ¬ un i = 0) (fun E H1 => E = "java/lang/IllegalStateException" ∧ un i = 0 ∧ xext H H1) := by
  refine xbody (cc := cX6_needUnrolled) (maxL := 1) (ret := none) (C := RX6) (lv := [(0, .ref (ad (30 + i)))]) (by decide) rfl rfl (Nat.le_of_ble_eq_true rfl) rfl ?_
  intro p e s m below meth c d0 hx hb hr hts hown hlocks hml hxt hnm0 hK hb0 hH0 hS hd0 ls hl
  obtain ⟨⟨zF2, zF8⟩, ⟨zR2, zR8⟩⟩ := id hW.1
  have zB4 := hW.2.1
  refine lv_aload_n hx hb dX6_needUnrolled_0 rfl (lv_at hl 0 rfl) ?_
  refine va_get (D := G) (cl := vwCl) (ci := 6) (v := .int (un i)) (C := RX5) (T := TX5) (N := 9) hx hb (hts d0) in_X6_needUnrolled_X5 hown hK.1 (x1 (hX.strip_ _ (by omega))) 0 rfl rfl 6 (by decide) (hts d0 _ hw_X6_needUnrolled_3) (fun _ h9 => h9) rfl dX6_needUnrolled_1 ?_
  refine lv_if_ne (tgt := 18) hx hb dX6_needUnrolled_4 (by decide) (fun c_1 => ?_) (fun c_1 => ?_)
  · exact xvret hd0 hx hb hr hlocks hS (Nat.le_of_ble_eq_true rfl) (Nat.le_of_ble_eq_true rfl) dX6_needUnrolled_18 ⟨rfl, rfl, c_1⟩
  · exact xthrowSW hfl hd0 hx hb hown hlocks hxt hml hl.1 hts (by decide +kernel) hw_X6_needUnrolled_1 hw_X6_needUnrolled_2 ht_X6_needUnrolled_2 xthrow_ok2 xthrow_gd2 (List.mem_of_getElem? (i := 17) rfl) hK hS dX6_needUnrolled_7 dX6_needUnrolled_10 dX6_needUnrolled_11 dX6_needUnrolled_14 dX6_needUnrolled_17 (Nat.le_of_ble_eq_true rfl) (Nat.le_of_ble_eq_true rfl) (Nat.le_of_ble_eq_true rfl) (Nat.le_of_ble_eq_true rfl) (Nat.le_of_ble_eq_true rfl) (Nat.le_of_ble_eq_true rfl) (fun H1 h9 => ⟨rfl, c_1, h9⟩)
set_option maxRecDepth 20000 in
theorem ggX6_checkStaves_X6_within : GoodIn wsX6_checkStaves wsX6_within := goodIn_r _ [8] (by decide +kernel) (by decide +kernel)
set_option maxRecDepth 20000 in
theorem gX6_checkStaves_X6_within : GoodIn wsX6_checkStaves (va_wsS RX6 60 yX6_within wsX6_within) := goodIn_app (goodIn_of _ (by decide +kernel)) ggX6_checkStaves_X6_within
theorem dX6_checkStaves_0 : decode cX6_checkStaves 0 = .ok (.dload_n 0, 1) := by decide +kernel
theorem dX6_checkStaves_1 : decode cX6_checkStaves 1 = .ok (.ldc2_w 201, 3) := by decide +kernel
theorem dX6_checkStaves_4 : decode cX6_checkStaves 4 = .ok (.ldc2_w 58, 3) := by decide +kernel
theorem dX6_checkStaves_7 : decode cX6_checkStaves 7 = .ok (.invokestatic 60, 3) := by decide +kernel
theorem dX6_checkStaves_10 : decode cX6_checkStaves 10 = .ok (.ifCond .ne 14, 3) := by decide +kernel
theorem dX6_checkStaves_13 : decode cX6_checkStaves 13 = .ok (.new 64, 3) := by decide +kernel
theorem dX6_checkStaves_16 : decode cX6_checkStaves 16 = .ok (.dup, 1) := by decide +kernel
theorem dX6_checkStaves_17 : decode cX6_checkStaves 17 = .ok (.ldc_w 269, 3) := by decide +kernel
theorem dX6_checkStaves_20 : decode cX6_checkStaves 20 = .ok (.invokespecial 68, 3) := by decide +kernel
theorem dX6_checkStaves_23 : decode cX6_checkStaves 23 = .ok (.athrow, 1) := by decide +kernel
theorem dX6_checkStaves_24 : decode cX6_checkStaves 24 = .ok (.dload_n 2, 1) := by decide +kernel
theorem dX6_checkStaves_25 : decode cX6_checkStaves 25 = .ok (.dconst 0, 1) := by decide +kernel
theorem dX6_checkStaves_26 : decode cX6_checkStaves 26 = .ok (.ldc2_w 58, 3) := by decide +kernel
theorem dX6_checkStaves_29 : decode cX6_checkStaves 29 = .ok (.invokestatic 60, 3) := by decide +kernel
theorem dX6_checkStaves_32 : decode cX6_checkStaves 32 = .ok (.ifCond .ne 14, 3) := by decide +kernel
theorem dX6_checkStaves_35 : decode cX6_checkStaves 35 = .ok (.new 64, 3) := by decide +kernel
theorem dX6_checkStaves_38 : decode cX6_checkStaves 38 = .ok (.dup, 1) := by decide +kernel
theorem dX6_checkStaves_39 : decode cX6_checkStaves 39 = .ok (.ldc_w 271, 3) := by decide +kernel
theorem dX6_checkStaves_42 : decode cX6_checkStaves 42 = .ok (.invokespecial 68, 3) := by decide +kernel
theorem dX6_checkStaves_45 : decode cX6_checkStaves 45 = .ok (.athrow, 1) := by decide +kernel
theorem dX6_checkStaves_46 : decode cX6_checkStaves 46 = .ok (.return_, 1) := by decide +kernel
abbrev rm_X6_checkStaves : Room := { frames := 6, cells := 1, slots := 6, locals := 95 }
theorem hw_X6_checkStaves_1 : (Cond.classLink RX6 64 "java/lang/IllegalArgumentException") ∈ wsX6_checkStaves := List.mem_of_getElem? (i := 1) rfl
theorem hw_X6_checkStaves_2 : (Cond.initialized "java/lang/IllegalArgumentException") ∈ wsX6_checkStaves := List.mem_of_getElem? (i := 2) rfl
theorem hw_X6_checkStaves_3 : (Cond.constantDouble RX6 201 (4593671619917905920)) ∈ wsX6_checkStaves := List.mem_of_getElem? (i := 3) rfl
theorem hw_X6_checkStaves_4 : (Cond.constantDouble RX6 58 (4652007308841189376)) ∈ wsX6_checkStaves := List.mem_of_getElem? (i := 4) rfl
theorem ht_X6_checkStaves_1 : ∀ w ∈ (vx_atS RX6 68 "java/lang/IllegalArgumentException" ["java/lang/RuntimeException", "java/lang/Exception"]).filter goodWord, w ∈ wsX6_checkStaves := by decide +kernel
set_option maxHeartbeats 4000000 in
set_option maxRecDepth 100000 in
/-- staves -/
theorem c_X6_checkStaves {l : Launch} {G : va_G} {ty : Nat → ClassId} {b0 : Nat} {H : Heap} (hfl : l.stackTraces = false) {x d ew ed : UInt64} (hx9 : vq x ew) (hd9 : vq d ed) : xMet l yX6_checkStaves wsX6_checkStaves rm_X6_checkStaves G ty b0 [.double x, .double d] H (fun v H1 => H = H1 ∧ v = none ∧ pStav ew ed = true) (fun E H1 => E = "java/lang/IllegalArgumentException" ∧ ¬ pStav ew ed = true ∧ xext H H1) := by
  refine xbody (cc := cX6_checkStaves) (maxL := 4) (ret := none) (C := RX6) (lv := [(0, .double x), (2, .double d)]) (by decide) rfl rfl (Nat.le_of_ble_eq_true rfl) rfl ?_
  intro p e s m below meth c d0 hx hb hr hts hown hlocks hml hxt hnm0 hK hb0 hH0 hS hd0 ls hl
  refine lv_dload_n hx hb dX6_checkStaves_0 rfl (lv_at hl 0 rfl) ?_
  refine lv_ldc2d hx hb hown (hts d0 _ hw_X6_checkStaves_3) dX6_checkStaves_1 ?_
  refine lv_ldc2d hx hb hown (hts d0 _ hw_X6_checkStaves_4) dX6_checkStaves_4 ?_
  have cw_1 := va_cwS (R := rm_X6_checkStaves) (rm := rm_X6_within) 3 (hts d0) gX6_checkStaves_X6_within rfl rfl rfl (by decide +kernel) ⟨Nat.le_of_ble_eq_true rfl, Nat.le_of_ble_eq_true rfl⟩
  refine xcall hd0 (xintoS (As := [.double x, .double 4593671619917905920, .double 4652007308841189376]) (rest := []) ⟨hx, hb, hml, hown, hts _⟩ cw_1 rfl rfl hl.1 rfl (lv_room (Nat.le_of_ble_eq_true rfl)) dX6_checkStaves_7) (c_X6_within (l := l) (G := G) (ty := ty) (b0 := b0) hx9 (vq_rf _) (vq_rf _)) (xoweB cw_1.1) hK hb0 hS (Nat.le_of_ble_eq_true rfl) (Nat.le_of_ble_eq_true rfl) (fun E_1 ce_1 q9_1 H_1 locs_1 d0 hd0 hp_1 hS hce_1 hcv_1 hcl_1 => ?_) (fun v_1 H_1 locs_1 d0 hd0 hp_1 hS => ?_)
  · exact hp_1.elim
  · obtain ⟨rfl, rfl⟩ := hp_1
    show W p l e _ (s.setDrawn _) m _ below meth c _ _ _ _ _ (F0 m 10 ls [.int (xB (pBetween ew 4593671619917905920 4652007308841189376))])
    refine lv_if_ne (tgt := 24) hx hb dX6_checkStaves_10 (by decide) (fun c_2 => ?_) (fun c_2 => ?_)
    · refine lv_dload_n hx hb dX6_checkStaves_24 rfl (lv_at hl 1 rfl) ?_
      refine lv_dconst0 hx hb dX6_checkStaves_25 ?_
      refine lv_ldc2d hx hb hown (hts d0 _ hw_X6_checkStaves_4) dX6_checkStaves_26 ?_
      have cw_3 := va_cwS (R := rm_X6_checkStaves) (rm := rm_X6_within) 3 (hts d0) gX6_checkStaves_X6_within rfl rfl rfl (by decide +kernel) ⟨Nat.le_of_ble_eq_true rfl, Nat.le_of_ble_eq_true rfl⟩
      refine xcall hd0 (xintoS (As := [.double d, .double FP.dconst0, .double 4652007308841189376]) (rest := []) ⟨hx, hb, hml, hown, hts _⟩ cw_3 rfl rfl hl.1 rfl (lv_room (Nat.le_of_ble_eq_true rfl)) dX6_checkStaves_29) (c_X6_within (l := l) (G := G) (ty := ty) (b0 := b0) hd9 (vq_rf _) (vq_rf _)) (xoweB cw_3.1) hK hb0 hS (Nat.le_of_ble_eq_true rfl) (Nat.le_of_ble_eq_true rfl) (fun E_3 ce_3 q9_3 H_3 locs_3 d0 hd0 hp_3 hS hce_3 hcv_3 hcl_3 => ?_) (fun v_3 H_3 locs_3 d0 hd0 hp_3 hS => ?_)
      · exact hp_3.elim
      · obtain ⟨rfl, rfl⟩ := hp_3
        show W p l e _ (s.setDrawn _) m _ below meth c _ _ _ _ _ (F0 m 32 ls [.int (xB (pBetween ed FP.dconst0 4652007308841189376))])
        refine lv_if_ne (tgt := 46) hx hb dX6_checkStaves_32 (by decide) (fun c_4 => ?_) (fun c_4 => ?_)
        · exact xvret hd0 hx hb hr hlocks hS (Nat.le_of_ble_eq_true rfl) (Nat.le_of_ble_eq_true rfl) dX6_checkStaves_46 ⟨rfl, rfl, xB_t (by rw [pStav_t c_2 c_4]; decide)⟩
        · exact xthrowSW hfl hd0 hx hb hown hlocks hxt hml hl.1 hts (by decide +kernel) hw_X6_checkStaves_1 hw_X6_checkStaves_2 ht_X6_checkStaves_1 xthrow_ok1 xthrow_gd1 (List.mem_of_getElem? (i := 19) rfl) hK hS dX6_checkStaves_35 dX6_checkStaves_38 dX6_checkStaves_39 dX6_checkStaves_42 dX6_checkStaves_45 (Nat.le_of_ble_eq_true rfl) (Nat.le_of_ble_eq_true rfl) (Nat.le_of_ble_eq_true rfl) (Nat.le_of_ble_eq_true rfl) (Nat.le_of_ble_eq_true rfl) (Nat.le_of_ble_eq_true rfl) (fun H1 h9 => ⟨rfl, (fun z => absurd (pStav_f2 (w := ew) (d := ed) c_4) (by rw [z]; decide)), h9⟩)
    · exact xthrowSW hfl hd0 hx hb hown hlocks hxt hml hl.1 hts (by decide +kernel) hw_X6_checkStaves_1 hw_X6_checkStaves_2 ht_X6_checkStaves_1 xthrow_ok1 xthrow_gd1 (List.mem_of_getElem? (i := 18) rfl) hK hS dX6_checkStaves_13 dX6_checkStaves_16 dX6_checkStaves_17 dX6_checkStaves_20 dX6_checkStaves_23 (Nat.le_of_ble_eq_true rfl) (Nat.le_of_ble_eq_true rfl) (Nat.le_of_ble_eq_true rfl) (Nat.le_of_ble_eq_true rfl) (Nat.le_of_ble_eq_true rfl) (Nat.le_of_ble_eq_true rfl) (fun H1 h9 => ⟨rfl, (fun z => absurd (pStav_f1 (w := ew) (d := ed) c_2) (by rw [z]; decide)), h9⟩)
theorem dX6_lastEighthsBefore_0 : decode cX6_lastEighthsBefore 0 = .ok (.dload_n 0, 1) := by decide +kernel
theorem dX6_lastEighthsBefore_1 : decode cX6_lastEighthsBefore 1 = .ok (.ldc2_w 278, 3) := by decide +kernel
theorem dX6_lastEighthsBefore_4 : decode cX6_lastEighthsBefore 4 = .ok (.dmul, 1) := by decide +kernel
theorem dX6_lastEighthsBefore_5 : decode cX6_lastEighthsBefore 5 = .ok (.d2i, 1) := by decide +kernel
theorem dX6_lastEighthsBefore_6 : decode cX6_lastEighthsBefore 6 = .ok (.istore_n 2, 1) := by decide +kernel
theorem dX6_lastEighthsBefore_7 : decode cX6_lastEighthsBefore 7 = .ok (.iload_n 2, 1) := by decide +kernel
theorem dX6_lastEighthsBefore_8 : decode cX6_lastEighthsBefore 8 = .ok (.i2d, 1) := by decide +kernel
theorem dX6_lastEighthsBefore_9 : decode cX6_lastEighthsBefore 9 = .ok (.ldc2_w 278, 3) := by decide +kernel
theorem dX6_lastEighthsBefore_12 : decode cX6_lastEighthsBefore 12 = .ok (.ddiv, 1) := by decide +kernel
theorem dX6_lastEighthsBefore_13 : decode cX6_lastEighthsBefore 13 = .ok (.dload_n 0, 1) := by decide +kernel
theorem dX6_lastEighthsBefore_14 : decode cX6_lastEighthsBefore 14 = .ok (.dcmp .g, 1) := by decide +kernel
theorem dX6_lastEighthsBefore_15 : decode cX6_lastEighthsBefore 15 = .ok (.ifCond .ge 7, 3) := by decide +kernel
theorem dX6_lastEighthsBefore_18 : decode cX6_lastEighthsBefore 18 = .ok (.iload_n 2, 1) := by decide +kernel
theorem dX6_lastEighthsBefore_19 : decode cX6_lastEighthsBefore 19 = .ok (.goto 6, 3) := by decide +kernel
theorem dX6_lastEighthsBefore_22 : decode cX6_lastEighthsBefore 22 = .ok (.iload_n 2, 1) := by decide +kernel
theorem dX6_lastEighthsBefore_23 : decode cX6_lastEighthsBefore 23 = .ok (.iconst 1, 1) := by decide +kernel
theorem dX6_lastEighthsBefore_24 : decode cX6_lastEighthsBefore 24 = .ok (.isub, 1) := by decide +kernel
theorem dX6_lastEighthsBefore_25 : decode cX6_lastEighthsBefore 25 = .ok (.ireturn, 1) := by decide +kernel
abbrev rm_X6_lastEighthsBefore : Room := { frames := 1, cells := 0, slots := 0, locals := 30 }
theorem hw_X6_lastEighthsBefore_1 : (Cond.constantDouble RX6 278 (4620693217682128896)) ∈ wsX6_lastEighthsBefore := List.mem_of_getElem? (i := 1) rfl
set_option maxHeartbeats 4000000 in
set_option maxRecDepth 100000 in
/-- the last eighths before an end -/
theorem c_X6_lastEighthsBefore {l : Launch} {G : va_G} {ty : Nat → ClassId} {b0 : Nat} {H : Heap} {x z : UInt64} (hz : vq x z) : xMet l yX6_lastEighthsBefore wsX6_lastEighthsBefore rm_X6_lastEighthsBefore G ty b0 [.double x] H (fun v H1 => H = H1 ∧ v = some (.int (pLast z))) (fun _ _ => False) := by
  refine xbody (cc := cX6_lastEighthsBefore) (maxL := 3) (ret := (some .int)) (C := RX6) (lv := [(0, .double x)]) (by decide) rfl rfl (Nat.le_of_ble_eq_true rfl) rfl ?_
  intro p e s m below meth c d0 hx hb hr hts hown hlocks hml hxt hnm0 hK hb0 hH0 hS hd0 ls hl
  refine lv_dload_n hx hb dX6_lastEighthsBefore_0 rfl (lv_at hl 0 rfl) ?_
  refine lv_ldc2d hx hb hown (hts d0 _ hw_X6_lastEighthsBefore_1) dX6_lastEighthsBefore_1 ?_
  refine xdmul hd0 hx hb hz (vq_rf _) dX6_lastEighthsBefore_4 (fun r_1 d0 q_1 hd0 => ?_)
  refine xd2i hx hb q_1 dX6_lastEighthsBefore_5 ?_
  refine lv_topi (fun i_2 ei_2 => ?_)
  refine lv_istore_n (lv' := [(2, .int (i_2)), (0, .double x)]) hx hb dX6_lastEighthsBefore_6 rfl hl (by decide) rfl (fun ls hl => ?_)
  refine lv_iload_n hx hb dX6_lastEighthsBefore_7 rfl (lv_at hl 0 rfl) ?_
  refine lv_i2d hx hb dX6_lastEighthsBefore_8 ?_
  refine lv_ldc2d hx hb hown (hts d0 _ hw_X6_lastEighthsBefore_1) dX6_lastEighthsBefore_9 ?_
  refine xddiv hd0 hx hb (vq_rf _) (vq_rf _) dX6_lastEighthsBefore_12 (fun r_3 d0 q_3 hd0 => ?_)
  refine lv_dload_n hx hb dX6_lastEighthsBefore_13 rfl (lv_at hl 1 rfl) ?_
  refine xcmp_g_ge (tgt := 22) hx hb q_3 hz dX6_lastEighthsBefore_14 dX6_lastEighthsBefore_15 (by decide) (fun c_4 => ?_) (fun c_4 => ?_)
  · refine lv_iload_n hx hb dX6_lastEighthsBefore_22 rfl (lv_at hl 0 rfl) ?_
    refine lv_iconst (v := nI 1) hx hb dX6_lastEighthsBefore_23 (by decide) ?_
    refine lv_isub hx hb dX6_lastEighthsBefore_24 ?_
    exact xiret hd0 hx hb hr hlocks hS (Nat.le_of_ble_eq_true rfl) (Nat.le_of_ble_eq_true rfl) dX6_lastEighthsBefore_25 ⟨rfl, by unfold pLast; subst ei_2; first | rw [if_pos c_4] | rw [if_neg (by rw [c_4]; decide)]⟩
  · refine lv_iload_n hx hb dX6_lastEighthsBefore_18 rfl (lv_at hl 0 rfl) ?_
    refine lv_goto (tgt := 25) hx hb dX6_lastEighthsBefore_19 (by decide) ?_
    exact xiret hd0 hx hb hr hlocks hS (Nat.le_of_ble_eq_true rfl) (Nat.le_of_ble_eq_true rfl) dX6_lastEighthsBefore_25 ⟨rfl, by unfold pLast; subst ei_2; first | rw [if_pos c_4] | rw [if_neg (by rw [c_4]; decide)]⟩
