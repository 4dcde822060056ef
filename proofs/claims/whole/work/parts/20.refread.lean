/-! THE REFERENCE: its methods that only read. -/
theorem dX7_noPlace_0 : decode cX7_noPlace 0 = .ok (.iload_n 1, 1) := by decide +kernel
theorem dX7_noPlace_1 : decode cX7_noPlace 1 = .ok (.ifCond .lt 23, 3) := by decide +kernel
theorem dX7_noPlace_4 : decode cX7_noPlace 4 = .ok (.iload_n 1, 1) := by decide +kernel
theorem dX7_noPlace_5 : decode cX7_noPlace 5 = .ok (.aload_n 0, 1) := by decide +kernel
theorem dX7_noPlace_6 : decode cX7_noPlace 6 = .ok (.getfield 45, 3) := by decide +kernel
theorem dX7_noPlace_9 : decode cX7_noPlace 9 = .ok (.if_icmp .ge 15, 3) := by decide +kernel
theorem dX7_noPlace_12 : decode cX7_noPlace 12 = .ok (.iload_n 2, 1) := by decide +kernel
theorem dX7_noPlace_13 : decode cX7_noPlace 13 = .ok (.ifCond .lt 11, 3) := by decide +kernel
theorem dX7_noPlace_16 : decode cX7_noPlace 16 = .ok (.iload_n 2, 1) := by decide +kernel
theorem dX7_noPlace_17 : decode cX7_noPlace 17 = .ok (.aload_n 0, 1) := by decide +kernel
theorem dX7_noPlace_18 : decode cX7_noPlace 18 = .ok (.getfield 49, 3) := by decide +kernel
theorem dX7_noPlace_21 : decode cX7_noPlace 21 = .ok (.if_icmp .lt 7, 3) := by decide +kernel
theorem dX7_noPlace_24 : decode cX7_noPlace 24 = .ok (.iconst 1, 1) := by decide +kernel
theorem dX7_noPlace_25 : decode cX7_noPlace 25 = .ok (.goto 4, 3) := by decide +kernel
theorem dX7_noPlace_28 : decode cX7_noPlace 28 = .ok (.iconst 0, 1) := by decide +kernel
theorem dX7_noPlace_29 : decode cX7_noPlace 29 = .ok (.ireturn, 1) := by decide +kernel
abbrev rm_X7_noPlace : Room := { frames := 5, cells := 0, slots := 0, locals := 40 }
theorem hw_X7_noPlace_1 : (Cond.fieldLink RX7 45 "PlankUnrollModel" "frames" "I") ∈ wsX7_noPlace := List.mem_of_getElem? (i := 1) rfl
theorem hw_X7_noPlace_2 : (Cond.fieldLink RX7 49 "PlankUnrollModel" "rows" "I") ∈ wsX7_noPlace := List.mem_of_getElem? (i := 2) rfl
theorem in_X7_noPlace_X7 : ∀ w ∈ wsX70, w ∈ wsX7_noPlace := by decide +kernel
set_option maxHeartbeats 4000000 in
set_option maxRecDepth 100000 in
/-- no such place -/
theorem c_X7_noPlace {l : Launch} {G : va_G} {ty : Nat → ClassId} {b0 : Nat} {H : Heap} {f r : Int32} {m0 : Nat} {A : Nat → Nat} {th : Int32} {F R nb : Nat} {pl co dr wi hi fa : Nat → UInt64} {un bu fc lo la : Nat → Int32} {px py pz : UInt64} (hY : xRef G ty m0 A th F R pl un co dr bu nb wi hi fc fa lo la px py pz H) (hZ : xSz F R) : xMet l yX7_noPlace wsX7_noPlace rm_X7_noPlace G ty b0 [.ref m0, .int (f), .int (r)] H (fun v H1 => H = H1 ∧ v = some (.int (xP (¬ (vp_in f F ∧ vp_in r R))))) (fun _ _ => False) := by
  refine xbody (cc := cX7_noPlace) (maxL := 3) (ret := (some .boolean)) (C := RX7) (lv := [(0, .ref m0), (1, .int (f)), (2, .int (r))]) (by decide) rfl rfl (Nat.le_of_ble_eq_true rfl) rfl ?_
  intro p e s m below meth c d0 hx hb hr hts hown hlocks hml hxt hnm0 hK hb0 hH0 hS hd0 ls hl
  obtain ⟨y_o, y_0, y_1, y_2, y_3, y_4, y_5, y_6, y_7, y_8, y_9, y_10⟩ := id hY
  obtain ⟨⟨zF2, zF8⟩, ⟨zR2, zR8⟩⟩ := id hZ
  refine lv_iload_n hx hb dX7_noPlace_0 rfl (lv_at hl 1 rfl) ?_
  refine lv_if_lt (tgt := 24) hx hb dX7_noPlace_1 (by decide) (fun c_1 => ?_) (fun c_1 => ?_)
  · refine lv_iconst (v := nI 1) hx hb dX7_noPlace_24 (by decide) ?_
    refine lv_goto (tgt := 29) hx hb dX7_noPlace_25 (by decide) ?_
    exact xzret (by decide) hd0 hx hb hr hlocks hS (Nat.le_of_ble_eq_true rfl) (Nat.le_of_ble_eq_true rfl) dX7_noPlace_29 ⟨rfl, by first | exact xz1 (fun h => xin_no0 (by assumption) h.1) | exact xz1 (fun h => xin_no1 (by assumption) (by omega) h.1) | exact xz1 (fun h => xin_no0 (by assumption) h.2) | exact xz1 (fun h => xin_no1 (Int32.not_lt.mp (by assumption)) (by omega) h.2) | exact xz0 (fun h => h ⟨xin_of (by assumption) (by assumption) (by omega), xin_of (by assumption) (Int32.not_le.mpr (by assumption)) (by omega)⟩)⟩
  · refine lv_iload_n hx hb dX7_noPlace_4 rfl (lv_at hl 1 rfl) ?_
    refine lv_aload_n hx hb dX7_noPlace_5 rfl (lv_at hl 0 rfl) ?_
    refine va_get (D := G) (cl := vwCl) (ci := 8) (v := .int (nI F)) (C := RX7) (T := TX7) (N := 18) hx hb (hts d0) in_X7_noPlace_X7 hown hK.1 (x1 y_o) 0 rfl rfl 1 (by decide) (hts d0 _ hw_X7_noPlace_1) (fun _ h9 => h9) rfl dX7_noPlace_6 ?_
    refine lv_icmp_ge (tgt := 24) hx hb dX7_noPlace_9 (by decide) (fun c_2 => ?_) (fun c_2 => ?_)
    · refine lv_iconst (v := nI 1) hx hb dX7_noPlace_24 (by decide) ?_
      refine lv_goto (tgt := 29) hx hb dX7_noPlace_25 (by decide) ?_
      exact xzret (by decide) hd0 hx hb hr hlocks hS (Nat.le_of_ble_eq_true rfl) (Nat.le_of_ble_eq_true rfl) dX7_noPlace_29 ⟨rfl, by first | exact xz1 (fun h => xin_no0 (by assumption) h.1) | exact xz1 (fun h => xin_no1 (by assumption) (by omega) h.1) | exact xz1 (fun h => xin_no0 (by assumption) h.2) | exact xz1 (fun h => xin_no1 (Int32.not_lt.mp (by assumption)) (by omega) h.2) | exact xz0 (fun h => h ⟨xin_of (by assumption) (by assumption) (by omega), xin_of (by assumption) (Int32.not_le.mpr (by assumption)) (by omega)⟩)⟩
    · refine lv_iload_n hx hb dX7_noPlace_12 rfl (lv_at hl 2 rfl) ?_
      refine lv_if_lt (tgt := 24) hx hb dX7_noPlace_13 (by decide) (fun c_3 => ?_) (fun c_3 => ?_)
      · refine lv_iconst (v := nI 1) hx hb dX7_noPlace_24 (by decide) ?_
        refine lv_goto (tgt := 29) hx hb dX7_noPlace_25 (by decide) ?_
        exact xzret (by decide) hd0 hx hb hr hlocks hS (Nat.le_of_ble_eq_true rfl) (Nat.le_of_ble_eq_true rfl) dX7_noPlace_29 ⟨rfl, by first | exact xz1 (fun h => xin_no0 (by assumption) h.1) | exact xz1 (fun h => xin_no1 (by assumption) (by omega) h.1) | exact xz1 (fun h => xin_no0 (by assumption) h.2) | exact xz1 (fun h => xin_no1 (Int32.not_lt.mp (by assumption)) (by omega) h.2) | exact xz0 (fun h => h ⟨xin_of (by assumption) (by assumption) (by omega), xin_of (by assumption) (Int32.not_le.mpr (by assumption)) (by omega)⟩)⟩
      · refine lv_iload_n hx hb dX7_noPlace_16 rfl (lv_at hl 2 rfl) ?_
        refine lv_aload_n hx hb dX7_noPlace_17 rfl (lv_at hl 0 rfl) ?_
        refine va_get (D := G) (cl := vwCl) (ci := 8) (v := .int (nI R)) (C := RX7) (T := TX7) (N := 18) hx hb (hts d0) in_X7_noPlace_X7 hown hK.1 (x1 y_o) 0 rfl rfl 2 (by decide) (hts d0 _ hw_X7_noPlace_2) (fun _ h9 => h9) rfl dX7_noPlace_18 ?_
        refine lv_icmp_lt (tgt := 28) hx hb dX7_noPlace_21 (by decide) (fun c_4 => ?_) (fun c_4 => ?_)
        · refine lv_iconst (v := nI 0) hx hb dX7_noPlace_28 (by decide) ?_
          exact xzret (by decide) hd0 hx hb hr hlocks hS (Nat.le_of_ble_eq_true rfl) (Nat.le_of_ble_eq_true rfl) dX7_noPlace_29 ⟨rfl, by first | exact xz1 (fun h => xin_no0 (by assumption) h.1) | exact xz1 (fun h => xin_no1 (by assumption) (by omega) h.1) | exact xz1 (fun h => xin_no0 (by assumption) h.2) | exact xz1 (fun h => xin_no1 (Int32.not_lt.mp (by assumption)) (by omega) h.2) | exact xz0 (fun h => h ⟨xin_of (by assumption) (by assumption) (by omega), xin_of (by assumption) (Int32.not_le.mpr (by assumption)) (by omega)⟩)⟩
        · refine lv_iconst (v := nI 1) hx hb dX7_noPlace_24 (by decide) ?_
          refine lv_goto (tgt := 29) hx hb dX7_noPlace_25 (by decide) ?_
          exact xzret (by decide) hd0 hx hb hr hlocks hS (Nat.le_of_ble_eq_true rfl) (Nat.le_of_ble_eq_true rfl) dX7_noPlace_29 ⟨rfl, by first | exact xz1 (fun h => xin_no0 (by assumption) h.1) | exact xz1 (fun h => xin_no1 (by assumption) (by omega) h.1) | exact xz1 (fun h => xin_no0 (by assumption) h.2) | exact xz1 (fun h => xin_no1 (Int32.not_lt.mp (by assumption)) (by omega) h.2) | exact xz0 (fun h => h ⟨xin_of (by assumption) (by assumption) (by omega), xin_of (by assumption) (Int32.not_le.mpr (by assumption)) (by omega)⟩)⟩
theorem xstr_no {x : Int32} {n : Nat} (h : ¬ x ≤ nI (n - 2)) (hn : 2 ≤ n ∧ n ≤ 8) : ¬ vp_in x (n - 1) := by
  intro z
  obtain ⟨j, hj, rfl⟩ := vp_in_of z (by omega)
  exact h (nI_le (by omega) (by omega))
theorem xstr_of {x : Int32} {n : Nat} (h0 : ¬ x < 0) (h : x ≤ nI (n - 2)) (hn : 2 ≤ n ∧ n ≤ 8) : vp_in x (n - 1) := by
  obtain ⟨j, hj, rfl⟩ := nI_of h0
  exact vp_in_nI (by have := (nI_leI hj (by omega)).mp h; omega) (by omega)
theorem dX7_noStrip_0 : decode cX7_noStrip 0 = .ok (.iload_n 1, 1) := by decide +kernel
theorem dX7_noStrip_1 : decode cX7_noStrip 1 = .ok (.ifCond .lt 13, 3) := by decide +kernel
theorem dX7_noStrip_4 : decode cX7_noStrip 4 = .ok (.iload_n 1, 1) := by decide +kernel
theorem dX7_noStrip_5 : decode cX7_noStrip 5 = .ok (.aload_n 0, 1) := by decide +kernel
theorem dX7_noStrip_6 : decode cX7_noStrip 6 = .ok (.getfield 49, 3) := by decide +kernel
theorem dX7_noStrip_9 : decode cX7_noStrip 9 = .ok (.iconst 2, 1) := by decide +kernel
theorem dX7_noStrip_10 : decode cX7_noStrip 10 = .ok (.isub, 1) := by decide +kernel
theorem dX7_noStrip_11 : decode cX7_noStrip 11 = .ok (.if_icmp .le 7, 3) := by decide +kernel
theorem dX7_noStrip_14 : decode cX7_noStrip 14 = .ok (.iconst 1, 1) := by decide +kernel
theorem dX7_noStrip_15 : decode cX7_noStrip 15 = .ok (.goto 4, 3) := by decide +kernel
theorem dX7_noStrip_18 : decode cX7_noStrip 18 = .ok (.iconst 0, 1) := by decide +kernel
theorem dX7_noStrip_19 : decode cX7_noStrip 19 = .ok (.ireturn, 1) := by decide +kernel
abbrev rm_X7_noStrip : Room := { frames := 5, cells := 0, slots := 0, locals := 40 }
theorem hw_X7_noStrip_1 : (Cond.fieldLink RX7 49 "PlankUnrollModel" "rows" "I") ∈ wsX7_noStrip := List.mem_of_getElem? (i := 1) rfl
theorem in_X7_noStrip_X7 : ∀ w ∈ wsX70, w ∈ wsX7_noStrip := by decide +kernel
set_option maxHeartbeats 4000000 in
set_option maxRecDepth 100000 in
/-- no such strip -/
theorem c_X7_noStrip {l : Launch} {G : va_G} {ty : Nat → ClassId} {b0 : Nat} {H : Heap} {x : Int32} {m0 : Nat} {A : Nat → Nat} {th : Int32} {F R nb : Nat} {pl co dr wi hi fa : Nat → UInt64} {un bu fc lo la : Nat → Int32} {px py pz : UInt64} (hY : xRef G ty m0 A th F R pl un co dr bu nb wi hi fc fa lo la px py pz H) (hZ : xSz F R) : xMet l yX7_noStrip wsX7_noStrip rm_X7_noStrip G ty b0 [.ref m0, .int (x)] H (fun v H1 => H = H1 ∧ v = some (.int (xP (¬ vp_in x (R - 1))))) (fun _ _ => False) := by
  refine xbody (cc := cX7_noStrip) (maxL := 2) (ret := (some .boolean)) (C := RX7) (lv := [(0, .ref m0), (1, .int (x))]) (by decide) rfl rfl (Nat.le_of_ble_eq_true rfl) rfl ?_
  intro p e s m below meth c d0 hx hb hr hts hown hlocks hml hxt hnm0 hK hb0 hH0 hS hd0 ls hl
  obtain ⟨y_o, y_0, y_1, y_2, y_3, y_4, y_5, y_6, y_7, y_8, y_9, y_10⟩ := id hY
  obtain ⟨⟨zF2, zF8⟩, ⟨zR2, zR8⟩⟩ := id hZ
  refine lv_iload_n hx hb dX7_noStrip_0 rfl (lv_at hl 1 rfl) ?_
  refine lv_if_lt (tgt := 14) hx hb dX7_noStrip_1 (by decide) (fun c_1 => ?_) (fun c_1 => ?_)
  · refine lv_iconst (v := nI 1) hx hb dX7_noStrip_14 (by decide) ?_
    refine lv_goto (tgt := 19) hx hb dX7_noStrip_15 (by decide) ?_
    exact xzret (by decide) hd0 hx hb hr hlocks hS (Nat.le_of_ble_eq_true rfl) (Nat.le_of_ble_eq_true rfl) dX7_noStrip_19 ⟨rfl, by first | exact xz1 (fun h => xin_no0 (by assumption) h) | exact xz1 (xstr_no (by assumption) (by omega)) | exact xz0 (fun h => h (xstr_of (by assumption) (by assumption) (by omega)))⟩
  · refine lv_iload_n hx hb dX7_noStrip_4 rfl (lv_at hl 1 rfl) ?_
    refine lv_aload_n hx hb dX7_noStrip_5 rfl (lv_at hl 0 rfl) ?_
    refine va_get (D := G) (cl := vwCl) (ci := 8) (v := .int (nI R)) (C := RX7) (T := TX7) (N := 18) hx hb (hts d0) in_X7_noStrip_X7 hown hK.1 (x1 y_o) 0 rfl rfl 2 (by decide) (hts d0 _ hw_X7_noStrip_1) (fun _ h9 => h9) rfl dX7_noStrip_6 ?_
    refine lv_iconst (v := nI 2) hx hb dX7_noStrip_9 (by decide) ?_
    refine xisubN hx hb (by omega) dX7_noStrip_10 ?_
    refine lv_icmp_le (tgt := 18) hx hb dX7_noStrip_11 (by decide) (fun c_2 => ?_) (fun c_2 => ?_)
    · refine lv_iconst (v := nI 0) hx hb dX7_noStrip_18 (by decide) ?_
      exact xzret (by decide) hd0 hx hb hr hlocks hS (Nat.le_of_ble_eq_true rfl) (Nat.le_of_ble_eq_true rfl) dX7_noStrip_19 ⟨rfl, by first | exact xz1 (fun h => xin_no0 (by assumption) h) | exact xz1 (xstr_no (by assumption) (by omega)) | exact xz0 (fun h => h (xstr_of (by assumption) (by assumption) (by omega)))⟩
    · refine lv_iconst (v := nI 1) hx hb dX7_noStrip_14 (by decide) ?_
      refine lv_goto (tgt := 19) hx hb dX7_noStrip_15 (by decide) ?_
      exact xzret (by decide) hd0 hx hb hr hlocks hS (Nat.le_of_ble_eq_true rfl) (Nat.le_of_ble_eq_true rfl) dX7_noStrip_19 ⟨rfl, by first | exact xz1 (fun h => xin_no0 (by assumption) h) | exact xz1 (xstr_no (by assumption) (by omega)) | exact xz0 (fun h => h (xstr_of (by assumption) (by assumption) (by omega)))⟩
theorem dX7_at_0 : decode cX7_at 0 = .ok (.aload_n 0, 1) := by decide +kernel
theorem dX7_at_1 : decode cX7_at 1 = .ok (.getfield 7, 3) := by decide +kernel
theorem dX7_at_4 : decode cX7_at 4 = .ok (.iconst 3, 1) := by decide +kernel
theorem dX7_at_5 : decode cX7_at 5 = .ok (.bipush 8, 2) := by decide +kernel
theorem dX7_at_7 : decode cX7_at 7 = .ok (.iload_n 1, 1) := by decide +kernel
theorem dX7_at_8 : decode cX7_at 8 = .ok (.imul, 1) := by decide +kernel
theorem dX7_at_9 : decode cX7_at 9 = .ok (.iload_n 2, 1) := by decide +kernel
theorem dX7_at_10 : decode cX7_at 10 = .ok (.iadd, 1) := by decide +kernel
theorem dX7_at_11 : decode cX7_at 11 = .ok (.imul, 1) := by decide +kernel
theorem dX7_at_12 : decode cX7_at 12 = .ok (.iload_n 3, 1) := by decide +kernel
theorem dX7_at_13 : decode cX7_at 13 = .ok (.iadd, 1) := by decide +kernel
theorem dX7_at_14 : decode cX7_at 14 = .ok (.daload, 1) := by decide +kernel
theorem dX7_at_15 : decode cX7_at 15 = .ok (.dreturn, 1) := by decide +kernel
abbrev rm_X7_at : Room := { frames := 5, cells := 0, slots := 0, locals := 40 }
theorem hw_X7_at_1 : (Cond.fieldLink RX7 7 "PlankUnrollModel" "places" "[D") ∈ wsX7_at := List.mem_of_getElem? (i := 1) rfl
theorem in_X7_at_X7 : ∀ w ∈ wsX70, w ∈ wsX7_at := by decide +kernel
set_option maxHeartbeats 4000000 in
set_option maxRecDepth 100000 in
/-- a number of a place -/
theorem c_X7_at {l : Launch} {G : va_G} {ty : Nat → ClassId} {b0 : Nat} {H : Heap} {f r k : Nat} (hf : f < 8) (hr9 : r < 8) (hk : k < 3) {m0 : Nat} {A : Nat → Nat} {th : Int32} {F R nb : Nat} {pl co dr wi hi fa : Nat → UInt64} {un bu fc lo la : Nat → Int32} {px py pz : UInt64} (hY : xRef G ty m0 A th F R pl un co dr bu nb wi hi fc fa lo la px py pz H) (hZ : xSz F R) : xMet l yX7_at wsX7_at rm_X7_at G ty b0 [.ref m0, .int (nI f), .int (nI r), .int (nI k)] H (fun v H1 => H = H1 ∧ v = some (.double (pAt pl f r k))) (fun _ _ => False) := by
  refine xbody (cc := cX7_at) (maxL := 4) (ret := (some .double)) (C := RX7) (lv := [(0, .ref m0), (1, .int (nI f)), (2, .int (nI r)), (3, .int (nI k))]) (by decide) rfl rfl (Nat.le_of_ble_eq_true rfl) rfl ?_
  intro p e s m below meth c d0 hx hb hr hts hown hlocks hml hxt hnm0 hK hb0 hH0 hS hd0 ls hl
  obtain ⟨y_o, y_0, y_1, y_2, y_3, y_4, y_5, y_6, y_7, y_8, y_9, y_10⟩ := id hY
  obtain ⟨⟨zF2, zF8⟩, ⟨zR2, zR8⟩⟩ := id hZ
  refine lv_aload_n hx hb dX7_at_0 rfl (lv_at hl 0 rfl) ?_
  refine va_get (D := G) (cl := vwCl) (ci := 8) (v := .ref (A 0)) (C := RX7) (T := TX7) (N := 18) hx hb (hts d0) in_X7_at_X7 hown hK.1 (x1 y_o) 0 rfl rfl 3 (by decide) (hts d0 _ hw_X7_at_1) (fun _ h9 => h9) rfl dX7_at_1 ?_
  refine lv_iconst (v := nI 3) hx hb dX7_at_4 (by decide) ?_
  refine lv_bipush (v := nI 8) hx hb dX7_at_5 (by decide) ?_
  refine lv_iload_n hx hb dX7_at_7 rfl (lv_at hl 1 rfl) ?_
  refine ximulN hx hb dX7_at_8 ?_
  refine lv_iload_n hx hb dX7_at_9 rfl (lv_at hl 2 rfl) ?_
  refine xiaddN hx hb dX7_at_10 ?_
  refine ximulN hx hb dX7_at_11 ?_
  refine lv_iload_n hx hb dX7_at_12 rfl (lv_at hl 3 rfl) ?_
  refine xiaddN hx hb dX7_at_13 ?_
  refine xdald (j := (3 * ((8 * f) + r)) + k) hx hb hK.1 0 y_0 rfl (xix_of (by omega) (by omega)) dX7_at_14 ?_
  exact xdret hd0 hx hb hr hlocks hS (Nat.le_of_ble_eq_true rfl) (Nat.le_of_ble_eq_true rfl) dX7_at_15 ⟨rfl, rfl⟩
set_option maxRecDepth 20000 in
theorem ggX7_far_X7_at : GoodIn wsX7_far wsX7_at := goodIn_r _ [5, 6, 11, 12, 13, 14, 15, 16, 17, 18, 19, 20, 21, 22, 23, 24, 25, 26, 27, 28] (by decide +kernel) (by decide +kernel)
set_option maxRecDepth 20000 in
theorem gX7_far_X7_at : GoodIn wsX7_far (wsV RX7 69 RX7 yX7_at wsX7_at) := goodIn_app (goodIn_of _ (by decide +kernel)) ggX7_far_X7_at
set_option maxRecDepth 20000 in
theorem ggX7_far_X7_root : GoodIn wsX7_far wsX7_root := goodIn_r _ [9, 10] (by decide +kernel) (by decide +kernel)
set_option maxRecDepth 20000 in
theorem gX7_far_X7_root : GoodIn wsX7_far (va_wsS RX7 73 yX7_root wsX7_root) := goodIn_app (goodIn_of _ (by decide +kernel)) ggX7_far_X7_root
theorem dX7_far_0 : decode cX7_far 0 = .ok (.aload_n 0, 1) := by decide +kernel
theorem dX7_far_1 : decode cX7_far 1 = .ok (.iload_n 3, 1) := by decide +kernel
theorem dX7_far_2 : decode cX7_far 2 = .ok (.iload 4, 2) := by decide +kernel
theorem dX7_far_4 : decode cX7_far 4 = .ok (.iconst 0, 1) := by decide +kernel
theorem dX7_far_5 : decode cX7_far 5 = .ok (.invokevirtual 69, 3) := by decide +kernel
theorem dX7_far_8 : decode cX7_far 8 = .ok (.aload_n 0, 1) := by decide +kernel
theorem dX7_far_9 : decode cX7_far 9 = .ok (.iload_n 1, 1) := by decide +kernel
theorem dX7_far_10 : decode cX7_far 10 = .ok (.iload_n 2, 1) := by decide +kernel
theorem dX7_far_11 : decode cX7_far 11 = .ok (.iconst 0, 1) := by decide +kernel
theorem dX7_far_12 : decode cX7_far 12 = .ok (.invokevirtual 69, 3) := by decide +kernel
theorem dX7_far_15 : decode cX7_far 15 = .ok (.dsub, 1) := by decide +kernel
theorem dX7_far_16 : decode cX7_far 16 = .ok (.dstore 5, 2) := by decide +kernel
theorem dX7_far_18 : decode cX7_far 18 = .ok (.aload_n 0, 1) := by decide +kernel
theorem dX7_far_19 : decode cX7_far 19 = .ok (.iload_n 3, 1) := by decide +kernel
theorem dX7_far_20 : decode cX7_far 20 = .ok (.iload 4, 2) := by decide +kernel
theorem dX7_far_22 : decode cX7_far 22 = .ok (.iconst 1, 1) := by decide +kernel
theorem dX7_far_23 : decode cX7_far 23 = .ok (.invokevirtual 69, 3) := by decide +kernel
theorem dX7_far_26 : decode cX7_far 26 = .ok (.aload_n 0, 1) := by decide +kernel
theorem dX7_far_27 : decode cX7_far 27 = .ok (.iload_n 1, 1) := by decide +kernel
theorem dX7_far_28 : decode cX7_far 28 = .ok (.iload_n 2, 1) := by decide +kernel
theorem dX7_far_29 : decode cX7_far 29 = .ok (.iconst 1, 1) := by decide +kernel
theorem dX7_far_30 : decode cX7_far 30 = .ok (.invokevirtual 69, 3) := by decide +kernel
theorem dX7_far_33 : decode cX7_far 33 = .ok (.dsub, 1) := by decide +kernel
theorem dX7_far_34 : decode cX7_far 34 = .ok (.dstore 7, 2) := by decide +kernel
theorem dX7_far_36 : decode cX7_far 36 = .ok (.aload_n 0, 1) := by decide +kernel
theorem dX7_far_37 : decode cX7_far 37 = .ok (.iload_n 3, 1) := by decide +kernel
theorem dX7_far_38 : decode cX7_far 38 = .ok (.iload 4, 2) := by decide +kernel
theorem dX7_far_40 : decode cX7_far 40 = .ok (.iconst 2, 1) := by decide +kernel
theorem dX7_far_41 : decode cX7_far 41 = .ok (.invokevirtual 69, 3) := by decide +kernel
theorem dX7_far_44 : decode cX7_far 44 = .ok (.aload_n 0, 1) := by decide +kernel
theorem dX7_far_45 : decode cX7_far 45 = .ok (.iload_n 1, 1) := by decide +kernel
theorem dX7_far_46 : decode cX7_far 46 = .ok (.iload_n 2, 1) := by decide +kernel
theorem dX7_far_47 : decode cX7_far 47 = .ok (.iconst 2, 1) := by decide +kernel
theorem dX7_far_48 : decode cX7_far 48 = .ok (.invokevirtual 69, 3) := by decide +kernel
theorem dX7_far_51 : decode cX7_far 51 = .ok (.dsub, 1) := by decide +kernel
theorem dX7_far_52 : decode cX7_far 52 = .ok (.dstore 9, 2) := by decide +kernel
theorem dX7_far_54 : decode cX7_far 54 = .ok (.dload 5, 2) := by decide +kernel
theorem dX7_far_56 : decode cX7_far 56 = .ok (.dload 5, 2) := by decide +kernel
theorem dX7_far_58 : decode cX7_far 58 = .ok (.dmul, 1) := by decide +kernel
theorem dX7_far_59 : decode cX7_far 59 = .ok (.dload 7, 2) := by decide +kernel
theorem dX7_far_61 : decode cX7_far 61 = .ok (.dload 7, 2) := by decide +kernel
theorem dX7_far_63 : decode cX7_far 63 = .ok (.dmul, 1) := by decide +kernel
theorem dX7_far_64 : decode cX7_far 64 = .ok (.dadd, 1) := by decide +kernel
theorem dX7_far_65 : decode cX7_far 65 = .ok (.dload 9, 2) := by decide +kernel
theorem dX7_far_67 : decode cX7_far 67 = .ok (.dload 9, 2) := by decide +kernel
theorem dX7_far_69 : decode cX7_far 69 = .ok (.dmul, 1) := by decide +kernel
theorem dX7_far_70 : decode cX7_far 70 = .ok (.dadd, 1) := by decide +kernel
theorem dX7_far_71 : decode cX7_far 71 = .ok (.invokestatic 73, 3) := by decide +kernel
theorem dX7_far_74 : decode cX7_far 74 = .ok (.dreturn, 1) := by decide +kernel
abbrev rm_X7_far : Room := { frames := 6, cells := 0, slots := 0, locals := 90 }
set_option maxHeartbeats 4000000 in
set_option maxRecDepth 100000 in
/-- DISTANCE of two places -/
theorem c_X7_far {l : Launch} {G : va_G} {ty : Nat → ClassId} {b0 : Nat} {H : Heap} {f r g q : Nat} (hf : f < 8) (hr9 : r < 8) (hg : g < 8) (hq : q < 8) {m0 : Nat} {A : Nat → Nat} {th : Int32} {F R nb : Nat} {pl co dr wi hi fa : Nat → UInt64} {un bu fc lo la : Nat → Int32} {px py pz : UInt64} (hY : xRef G ty m0 A th F R pl un co dr bu nb wi hi fc fa lo la px py pz H) (hZ : xSz F R) : xMet l yX7_far wsX7_far rm_X7_far G ty b0 [.ref m0, .int (nI f), .int (nI r), .int (nI g), .int (nI q)] H (fun v H1 => H = H1 ∧ ∃ z9 : UInt64, v = some (.double z9) ∧ vq z9 (pFar pl f r g q)) (fun _ _ => False) := by
  refine xbody (cc := cX7_far) (maxL := 11) (ret := (some .double)) (C := RX7) (lv := [(0, .ref m0), (1, .int (nI f)), (2, .int (nI r)), (3, .int (nI g)), (4, .int (nI q))]) (by decide) rfl rfl (Nat.le_of_ble_eq_true rfl) rfl ?_
  intro p e s m below meth c d0 hx hb hr hts hown hlocks hml hxt hnm0 hK hb0 hH0 hS hd0 ls hl
  obtain ⟨y_o, y_0, y_1, y_2, y_3, y_4, y_5, y_6, y_7, y_8, y_9, y_10⟩ := id hY
  obtain ⟨⟨zF2, zF8⟩, ⟨zR2, zR8⟩⟩ := id hZ
  refine lv_aload_n hx hb dX7_far_0 rfl (lv_at hl 0 rfl) ?_
  refine lv_iload_n hx hb dX7_far_1 rfl (lv_at hl 3 rfl) ?_
  refine lv_iload hx hb dX7_far_2 (lv_at hl 4 rfl) ?_
  refine lv_iconst (v := nI 0) hx hb dX7_far_4 (by decide) ?_
  have cw_1 := cwV (R := rm_X7_far) (rm := rm_X7_at) 3 (hts d0) gX7_far_X7_at rfl rfl rfl (by decide +kernel) ⟨Nat.le_of_ble_eq_true rfl, Nat.le_of_ble_eq_true rfl⟩
  refine xcall hd0 (xintoV (b := m0) (As := [.int (nI g), .int (nI q), .int (nI 0)]) (rest := []) ⟨hx, hb, hml, hown, hts _⟩ cw_1 (va_recv hK.1 (x1 y_o) (ci := 8) (q0 := 0) rfl rfl) rfl rfl hl.1 rfl (lv_room (Nat.le_of_ble_eq_true rfl)) dX7_far_5) (c_X7_at (l := l) (G := G) (ty := ty) (b0 := b0) (f := g) (r := q) (k := 0) (by omega) (by omega) (by omega) hY hZ) (xoweB cw_1.1) hK hb0 hS (Nat.le_of_ble_eq_true rfl) (Nat.le_of_ble_eq_true rfl) (fun E_1 ce_1 q9_1 H_1 locs_1 d0 hd0 hp_1 hS hce_1 hcv_1 hcl_1 => ?_) (fun v_1 H_1 locs_1 d0 hd0 hp_1 hS => ?_)
  · exact hp_1.elim
  · obtain ⟨rfl, rfl⟩ := hp_1
    show W p l e _ (s.setDrawn _) m _ below meth c _ _ _ _ _ (F0 m 8 ls [.double (pAt pl g q 0)])
    refine lv_aload_n hx hb dX7_far_8 rfl (lv_at hl 0 rfl) ?_
    refine lv_iload_n hx hb dX7_far_9 rfl (lv_at hl 1 rfl) ?_
    refine lv_iload_n hx hb dX7_far_10 rfl (lv_at hl 2 rfl) ?_
    refine lv_iconst (v := nI 0) hx hb dX7_far_11 (by decide) ?_
    have cw_2 := cwV (R := rm_X7_far) (rm := rm_X7_at) 3 (hts d0) gX7_far_X7_at rfl rfl rfl (by decide +kernel) ⟨Nat.le_of_ble_eq_true rfl, Nat.le_of_ble_eq_true rfl⟩
    refine xcall hd0 (xintoV (b := m0) (As := [.int (nI f), .int (nI r), .int (nI 0)]) (rest := [.double (pAt pl g q 0)]) ⟨hx, hb, hml, hown, hts _⟩ cw_2 (va_recv hK.1 (x1 y_o) (ci := 8) (q0 := 0) rfl rfl) rfl rfl hl.1 rfl (lv_room (Nat.le_of_ble_eq_true rfl)) dX7_far_12) (c_X7_at (l := l) (G := G) (ty := ty) (b0 := b0) (f := f) (r := r) (k := 0) (by omega) (by omega) (by omega) hY hZ) (xoweB cw_2.1) hK hb0 hS (Nat.le_of_ble_eq_true rfl) (Nat.le_of_ble_eq_true rfl) (fun E_2 ce_2 q9_2 H_2 locs_2 d0 hd0 hp_2 hS hce_2 hcv_2 hcl_2 => ?_) (fun v_2 H_2 locs_2 d0 hd0 hp_2 hS => ?_)
    · exact hp_2.elim
    · obtain ⟨rfl, rfl⟩ := hp_2
      show W p l e _ (s.setDrawn _) m _ below meth c _ _ _ _ _ (F0 m 15 ls [.double (pAt pl f r 0), .double (pAt pl g q 0)])
      refine xdsub hd0 hx hb (vq_rf _) (vq_rf _) dX7_far_15 (fun r_3 d0 q_3 hd0 => ?_)
      refine lv_dstore (lv' := [(5, .double r_3), (0, .ref m0), (1, .int (nI f)), (2, .int (nI r)), (3, .int (nI g)), (4, .int (nI q))]) hx hb dX7_far_16 hl (by decide) rfl (fun ls hl => ?_)
      refine lv_aload_n hx hb dX7_far_18 rfl (lv_at hl 1 rfl) ?_
      refine lv_iload_n hx hb dX7_far_19 rfl (lv_at hl 4 rfl) ?_
      refine lv_iload hx hb dX7_far_20 (lv_at hl 5 rfl) ?_
      refine lv_iconst (v := nI 1) hx hb dX7_far_22 (by decide) ?_
      have cw_4 := cwV (R := rm_X7_far) (rm := rm_X7_at) 3 (hts d0) gX7_far_X7_at rfl rfl rfl (by decide +kernel) ⟨Nat.le_of_ble_eq_true rfl, Nat.le_of_ble_eq_true rfl⟩
      refine xcall hd0 (xintoV (b := m0) (As := [.int (nI g), .int (nI q), .int (nI 1)]) (rest := []) ⟨hx, hb, hml, hown, hts _⟩ cw_4 (va_recv hK.1 (x1 y_o) (ci := 8) (q0 := 0) rfl rfl) rfl rfl hl.1 rfl (lv_room (Nat.le_of_ble_eq_true rfl)) dX7_far_23) (c_X7_at (l := l) (G := G) (ty := ty) (b0 := b0) (f := g) (r := q) (k := 1) (by omega) (by omega) (by omega) hY hZ) (xoweB cw_4.1) hK hb0 hS (Nat.le_of_ble_eq_true rfl) (Nat.le_of_ble_eq_true rfl) (fun E_4 ce_4 q9_4 H_4 locs_4 d0 hd0 hp_4 hS hce_4 hcv_4 hcl_4 => ?_) (fun v_4 H_4 locs_4 d0 hd0 hp_4 hS => ?_)
      · exact hp_4.elim
      · obtain ⟨rfl, rfl⟩ := hp_4
        show W p l e _ (s.setDrawn _) m _ below meth c _ _ _ _ _ (F0 m 26 ls [.double (pAt pl g q 1)])
        refine lv_aload_n hx hb dX7_far_26 rfl (lv_at hl 1 rfl) ?_
        refine lv_iload_n hx hb dX7_far_27 rfl (lv_at hl 2 rfl) ?_
        refine lv_iload_n hx hb dX7_far_28 rfl (lv_at hl 3 rfl) ?_
        refine lv_iconst (v := nI 1) hx hb dX7_far_29 (by decide) ?_
        have cw_5 := cwV (R := rm_X7_far) (rm := rm_X7_at) 3 (hts d0) gX7_far_X7_at rfl rfl rfl (by decide +kernel) ⟨Nat.le_of_ble_eq_true rfl, Nat.le_of_ble_eq_true rfl⟩
        refine xcall hd0 (xintoV (b := m0) (As := [.int (nI f), .int (nI r), .int (nI 1)]) (rest := [.double (pAt pl g q 1)]) ⟨hx, hb, hml, hown, hts _⟩ cw_5 (va_recv hK.1 (x1 y_o) (ci := 8) (q0 := 0) rfl rfl) rfl rfl hl.1 rfl (lv_room (Nat.le_of_ble_eq_true rfl)) dX7_far_30) (c_X7_at (l := l) (G := G) (ty := ty) (b0 := b0) (f := f) (r := r) (k := 1) (by omega) (by omega) (by omega) hY hZ) (xoweB cw_5.1) hK hb0 hS (Nat.le_of_ble_eq_true rfl) (Nat.le_of_ble_eq_true rfl) (fun E_5 ce_5 q9_5 H_5 locs_5 d0 hd0 hp_5 hS hce_5 hcv_5 hcl_5 => ?_) (fun v_5 H_5 locs_5 d0 hd0 hp_5 hS => ?_)
        · exact hp_5.elim
        · obtain ⟨rfl, rfl⟩ := hp_5
          show W p l e _ (s.setDrawn _) m _ below meth c _ _ _ _ _ (F0 m 33 ls [.double (pAt pl f r 1), .double (pAt pl g q 1)])
          refine xdsub hd0 hx hb (vq_rf _) (vq_rf _) dX7_far_33 (fun r_6 d0 q_6 hd0 => ?_)
          refine lv_dstore (lv' := [(7, .double r_6), (5, .double r_3), (0, .ref m0), (1, .int (nI f)), (2, .int (nI r)), (3, .int (nI g)), (4, .int (nI q))]) hx hb dX7_far_34 hl (by decide) rfl (fun ls hl => ?_)
          refine lv_aload_n hx hb dX7_far_36 rfl (lv_at hl 2 rfl) ?_
          refine lv_iload_n hx hb dX7_far_37 rfl (lv_at hl 5 rfl) ?_
          refine lv_iload hx hb dX7_far_38 (lv_at hl 6 rfl) ?_
          refine lv_iconst (v := nI 2) hx hb dX7_far_40 (by decide) ?_
          have cw_7 := cwV (R := rm_X7_far) (rm := rm_X7_at) 3 (hts d0) gX7_far_X7_at rfl rfl rfl (by decide +kernel) ⟨Nat.le_of_ble_eq_true rfl, Nat.le_of_ble_eq_true rfl⟩
          refine xcall hd0 (xintoV (b := m0) (As := [.int (nI g), .int (nI q), .int (nI 2)]) (rest := []) ⟨hx, hb, hml, hown, hts _⟩ cw_7 (va_recv hK.1 (x1 y_o) (ci := 8) (q0 := 0) rfl rfl) rfl rfl hl.1 rfl (lv_room (Nat.le_of_ble_eq_true rfl)) dX7_far_41) (c_X7_at (l := l) (G := G) (ty := ty) (b0 := b0) (f := g) (r := q) (k := 2) (by omega) (by omega) (by omega) hY hZ) (xoweB cw_7.1) hK hb0 hS (Nat.le_of_ble_eq_true rfl) (Nat.le_of_ble_eq_true rfl) (fun E_7 ce_7 q9_7 H_7 locs_7 d0 hd0 hp_7 hS hce_7 hcv_7 hcl_7 => ?_) (fun v_7 H_7 locs_7 d0 hd0 hp_7 hS => ?_)
          · exact hp_7.elim
          · obtain ⟨rfl, rfl⟩ := hp_7
            show W p l e _ (s.setDrawn _) m _ below meth c _ _ _ _ _ (F0 m 44 ls [.double (pAt pl g q 2)])
            refine lv_aload_n hx hb dX7_far_44 rfl (lv_at hl 2 rfl) ?_
            refine lv_iload_n hx hb dX7_far_45 rfl (lv_at hl 3 rfl) ?_
            refine lv_iload_n hx hb dX7_far_46 rfl (lv_at hl 4 rfl) ?_
            refine lv_iconst (v := nI 2) hx hb dX7_far_47 (by decide) ?_
            have cw_8 := cwV (R := rm_X7_far) (rm := rm_X7_at) 3 (hts d0) gX7_far_X7_at rfl rfl rfl (by decide +kernel) ⟨Nat.le_of_ble_eq_true rfl, Nat.le_of_ble_eq_true rfl⟩
            refine xcall hd0 (xintoV (b := m0) (As := [.int (nI f), .int (nI r), .int (nI 2)]) (rest := [.double (pAt pl g q 2)]) ⟨hx, hb, hml, hown, hts _⟩ cw_8 (va_recv hK.1 (x1 y_o) (ci := 8) (q0 := 0) rfl rfl) rfl rfl hl.1 rfl (lv_room (Nat.le_of_ble_eq_true rfl)) dX7_far_48) (c_X7_at (l := l) (G := G) (ty := ty) (b0 := b0) (f := f) (r := r) (k := 2) (by omega) (by omega) (by omega) hY hZ) (xoweB cw_8.1) hK hb0 hS (Nat.le_of_ble_eq_true rfl) (Nat.le_of_ble_eq_true rfl) (fun E_8 ce_8 q9_8 H_8 locs_8 d0 hd0 hp_8 hS hce_8 hcv_8 hcl_8 => ?_) (fun v_8 H_8 locs_8 d0 hd0 hp_8 hS => ?_)
            · exact hp_8.elim
            · obtain ⟨rfl, rfl⟩ := hp_8
              show W p l e _ (s.setDrawn _) m _ below meth c _ _ _ _ _ (F0 m 51 ls [.double (pAt pl f r 2), .double (pAt pl g q 2)])
              refine xdsub hd0 hx hb (vq_rf _) (vq_rf _) dX7_far_51 (fun r_9 d0 q_9 hd0 => ?_)
              refine lv_dstore (lv' := [(9, .double r_9), (7, .double r_6), (5, .double r_3), (0, .ref m0), (1, .int (nI f)), (2, .int (nI r)), (3, .int (nI g)), (4, .int (nI q))]) hx hb dX7_far_52 hl (by decide) rfl (fun ls hl => ?_)
              refine lv_dload hx hb dX7_far_54 (lv_at hl 2 rfl) ?_
              refine lv_dload hx hb dX7_far_56 (lv_at hl 2 rfl) ?_
              refine xdmul hd0 hx hb q_3 q_3 dX7_far_58 (fun r_10 d0 q_10 hd0 => ?_)
              refine lv_dload hx hb dX7_far_59 (lv_at hl 1 rfl) ?_
              refine lv_dload hx hb dX7_far_61 (lv_at hl 1 rfl) ?_
              refine xdmul hd0 hx hb q_6 q_6 dX7_far_63 (fun r_11 d0 q_11 hd0 => ?_)
              refine xdadd hd0 hx hb q_10 q_11 dX7_far_64 (fun r_12 d0 q_12 hd0 => ?_)
              refine lv_dload hx hb dX7_far_65 (lv_at hl 0 rfl) ?_
              refine lv_dload hx hb dX7_far_67 (lv_at hl 0 rfl) ?_
              refine xdmul hd0 hx hb q_9 q_9 dX7_far_69 (fun r_13 d0 q_13 hd0 => ?_)
              refine xdadd hd0 hx hb q_12 q_13 dX7_far_70 (fun r_14 d0 q_14 hd0 => ?_)
              have cw_15 := va_cwS (R := rm_X7_far) (rm := rm_X7_root) 1 (hts d0) gX7_far_X7_root rfl rfl rfl (by decide +kernel) ⟨Nat.le_of_ble_eq_true rfl, Nat.le_of_ble_eq_true rfl⟩
              refine xcall hd0 (xintoS (As := [.double r_14]) (rest := []) ⟨hx, hb, hml, hown, hts _⟩ cw_15 rfl rfl hl.1 rfl (lv_room (Nat.le_of_ble_eq_true rfl)) dX7_far_71) (c_X7_root (l := l) (G := G) (ty := ty) (b0 := b0) q_14) (xoweB cw_15.1) hK hb0 hS (Nat.le_of_ble_eq_true rfl) (Nat.le_of_ble_eq_true rfl) (fun E_15 ce_15 q9_15 H_15 locs_15 d0 hd0 hp_15 hS hce_15 hcv_15 hcl_15 => ?_) (fun v_15 H_15 locs_15 d0 hd0 hp_15 hS => ?_)
              · exact hp_15.elim
              · obtain ⟨rfl, r_15, rfl, q_15⟩ := hp_15
                show W p l e _ (s.setDrawn _) m _ below meth c _ _ _ _ _ (F0 m 74 ls [.double r_15])
                exact xdret hd0 hx hb hr hlocks hS (Nat.le_of_ble_eq_true rfl) (Nat.le_of_ble_eq_true rfl) dX7_far_74 ⟨rfl, _, rfl, q_15⟩
set_option maxRecDepth 20000 in
theorem ggX7_noCell_X7_noStrip : GoodIn wsX7_noCell wsX7_noStrip := goodIn_r _ [6, 7, 8, 9, 10, 11, 12, 13, 14, 15, 16, 17, 18, 19, 20, 21, 22, 23, 24, 25] (by decide +kernel) (by decide +kernel)
set_option maxRecDepth 20000 in
theorem gX7_noCell_X7_noStrip : GoodIn wsX7_noCell (wsV RX7 87 RX7 yX7_noStrip wsX7_noStrip) := goodIn_app (goodIn_of _ (by decide +kernel)) ggX7_noCell_X7_noStrip
theorem dX7_noCell_0 : decode cX7_noCell 0 = .ok (.aload_n 0, 1) := by decide +kernel
theorem dX7_noCell_1 : decode cX7_noCell 1 = .ok (.iload_n 1, 1) := by decide +kernel
theorem dX7_noCell_2 : decode cX7_noCell 2 = .ok (.invokevirtual 87, 3) := by decide +kernel
theorem dX7_noCell_5 : decode cX7_noCell 5 = .ok (.ifCond .ne 17, 3) := by decide +kernel
theorem dX7_noCell_8 : decode cX7_noCell 8 = .ok (.iload_n 2, 1) := by decide +kernel
theorem dX7_noCell_9 : decode cX7_noCell 9 = .ok (.ifCond .lt 13, 3) := by decide +kernel
theorem dX7_noCell_12 : decode cX7_noCell 12 = .ok (.iload_n 2, 1) := by decide +kernel
theorem dX7_noCell_13 : decode cX7_noCell 13 = .ok (.aload_n 0, 1) := by decide +kernel
theorem dX7_noCell_14 : decode cX7_noCell 14 = .ok (.getfield 45, 3) := by decide +kernel
theorem dX7_noCell_17 : decode cX7_noCell 17 = .ok (.iconst 2, 1) := by decide +kernel
theorem dX7_noCell_18 : decode cX7_noCell 18 = .ok (.isub, 1) := by decide +kernel
theorem dX7_noCell_19 : decode cX7_noCell 19 = .ok (.if_icmp .le 7, 3) := by decide +kernel
theorem dX7_noCell_22 : decode cX7_noCell 22 = .ok (.iconst 1, 1) := by decide +kernel
theorem dX7_noCell_23 : decode cX7_noCell 23 = .ok (.goto 4, 3) := by decide +kernel
theorem dX7_noCell_26 : decode cX7_noCell 26 = .ok (.iconst 0, 1) := by decide +kernel
theorem dX7_noCell_27 : decode cX7_noCell 27 = .ok (.ireturn, 1) := by decide +kernel
abbrev rm_X7_noCell : Room := { frames := 6, cells := 0, slots := 0, locals := 90 }
theorem hw_X7_noCell_1 : (Cond.fieldLink RX7 45 "PlankUnrollModel" "frames" "I") ∈ wsX7_noCell := List.mem_of_getElem? (i := 1) rfl
theorem in_X7_noCell_X7 : ∀ w ∈ wsX70, w ∈ wsX7_noCell := by decide +kernel
set_option maxHeartbeats 4000000 in
set_option maxRecDepth 100000 in
/-- no such cell -/
theorem c_X7_noCell {l : Launch} {G : va_G} {ty : Nat → ClassId} {b0 : Nat} {H : Heap} {x f : Int32} {m0 : Nat} {A : Nat → Nat} {th : Int32} {F R nb : Nat} {pl co dr wi hi fa : Nat → UInt64} {un bu fc lo la : Nat → Int32} {px py pz : UInt64} (hY : xRef G ty m0 A th F R pl un co dr bu nb wi hi fc fa lo la px py pz H) (hZ : xSz F R) : xMet l yX7_noCell wsX7_noCell rm_X7_noCell G ty b0 [.ref m0, .int (x), .int (f)] H (fun v H1 => H = H1 ∧ v = some (.int (xP (¬ (vp_in x (R - 1) ∧ vp_in f (F - 1)))))) (fun _ _ => False) := by
  refine xbody (cc := cX7_noCell) (maxL := 3) (ret := (some .boolean)) (C := RX7) (lv := [(0, .ref m0), (1, .int (x)), (2, .int (f))]) (by decide) rfl rfl (Nat.le_of_ble_eq_true rfl) rfl ?_
  intro p e s m below meth c d0 hx hb hr hts hown hlocks hml hxt hnm0 hK hb0 hH0 hS hd0 ls hl
  obtain ⟨y_o, y_0, y_1, y_2, y_3, y_4, y_5, y_6, y_7, y_8, y_9, y_10⟩ := id hY
  obtain ⟨⟨zF2, zF8⟩, ⟨zR2, zR8⟩⟩ := id hZ
  refine lv_aload_n hx hb dX7_noCell_0 rfl (lv_at hl 0 rfl) ?_
  refine lv_iload_n hx hb dX7_noCell_1 rfl (lv_at hl 1 rfl) ?_
  have cw_1 := cwV (R := rm_X7_noCell) (rm := rm_X7_noStrip) 1 (hts d0) gX7_noCell_X7_noStrip rfl rfl rfl (by decide +kernel) ⟨Nat.le_of_ble_eq_true rfl, Nat.le_of_ble_eq_true rfl⟩
  refine xcall hd0 (xintoV (b := m0) (As := [.int (x)]) (rest := []) ⟨hx, hb, hml, hown, hts _⟩ cw_1 (va_recv hK.1 (x1 y_o) (ci := 8) (q0 := 0) rfl rfl) rfl rfl hl.1 rfl (lv_room (Nat.le_of_ble_eq_true rfl)) dX7_noCell_2) (c_X7_noStrip (l := l) (G := G) (ty := ty) (b0 := b0) hY hZ) (xoweB cw_1.1) hK hb0 hS (Nat.le_of_ble_eq_true rfl) (Nat.le_of_ble_eq_true rfl) (fun E_1 ce_1 q9_1 H_1 locs_1 d0 hd0 hp_1 hS hce_1 hcv_1 hcl_1 => ?_) (fun v_1 H_1 locs_1 d0 hd0 hp_1 hS => ?_)
  · exact hp_1.elim
  · obtain ⟨rfl, rfl⟩ := hp_1
    show W p l e _ (s.setDrawn _) m _ below meth c _ _ _ _ _ (F0 m 5 ls [.int (xP (¬ vp_in x (R - 1)))])
    refine lv_if_ne (tgt := 22) hx hb dX7_noCell_5 (by decide) (fun c_2 => ?_) (fun c_2 => ?_)
    · refine lv_iconst (v := nI 1) hx hb dX7_noCell_22 (by decide) ?_
      refine lv_goto (tgt := 27) hx hb dX7_noCell_23 (by decide) ?_
      exact xzret (by decide) hd0 hx hb hr hlocks hS (Nat.le_of_ble_eq_true rfl) (Nat.le_of_ble_eq_true rfl) dX7_noCell_27 ⟨rfl, by first | exact xz1 (fun h => xP_ne.mp c_2 h.1) | exact xz1 (fun h => xin_no0 (by assumption) h.2) | exact xz1 (fun h => xstr_no (by assumption) (by omega) h.2) | exact xz0 (fun h => h ⟨Classical.not_not.mp (xP_eq.mp c_2), xstr_of (by assumption) (by assumption) (by omega)⟩)⟩
    · refine lv_iload_n hx hb dX7_noCell_8 rfl (lv_at hl 2 rfl) ?_
      refine lv_if_lt (tgt := 22) hx hb dX7_noCell_9 (by decide) (fun c_3 => ?_) (fun c_3 => ?_)
      · refine lv_iconst (v := nI 1) hx hb dX7_noCell_22 (by decide) ?_
        refine lv_goto (tgt := 27) hx hb dX7_noCell_23 (by decide) ?_
        exact xzret (by decide) hd0 hx hb hr hlocks hS (Nat.le_of_ble_eq_true rfl) (Nat.le_of_ble_eq_true rfl) dX7_noCell_27 ⟨rfl, by first | exact xz1 (fun h => xP_ne.mp c_2 h.1) | exact xz1 (fun h => xin_no0 (by assumption) h.2) | exact xz1 (fun h => xstr_no (by assumption) (by omega) h.2) | exact xz0 (fun h => h ⟨Classical.not_not.mp (xP_eq.mp c_2), xstr_of (by assumption) (by assumption) (by omega)⟩)⟩
      · refine lv_iload_n hx hb dX7_noCell_12 rfl (lv_at hl 2 rfl) ?_
        refine lv_aload_n hx hb dX7_noCell_13 rfl (lv_at hl 0 rfl) ?_
        refine va_get (D := G) (cl := vwCl) (ci := 8) (v := .int (nI F)) (C := RX7) (T := TX7) (N := 18) hx hb (hts d0) in_X7_noCell_X7 hown hK.1 (x1 y_o) 0 rfl rfl 1 (by decide) (hts d0 _ hw_X7_noCell_1) (fun _ h9 => h9) rfl dX7_noCell_14 ?_
        refine lv_iconst (v := nI 2) hx hb dX7_noCell_17 (by decide) ?_
        refine xisubN hx hb (by omega) dX7_noCell_18 ?_
        refine lv_icmp_le (tgt := 26) hx hb dX7_noCell_19 (by decide) (fun c_4 => ?_) (fun c_4 => ?_)
        · refine lv_iconst (v := nI 0) hx hb dX7_noCell_26 (by decide) ?_
          exact xzret (by decide) hd0 hx hb hr hlocks hS (Nat.le_of_ble_eq_true rfl) (Nat.le_of_ble_eq_true rfl) dX7_noCell_27 ⟨rfl, by first | exact xz1 (fun h => xP_ne.mp c_2 h.1) | exact xz1 (fun h => xin_no0 (by assumption) h.2) | exact xz1 (fun h => xstr_no (by assumption) (by omega) h.2) | exact xz0 (fun h => h ⟨Classical.not_not.mp (xP_eq.mp c_2), xstr_of (by assumption) (by assumption) (by omega)⟩)⟩
        · refine lv_iconst (v := nI 1) hx hb dX7_noCell_22 (by decide) ?_
          refine lv_goto (tgt := 27) hx hb dX7_noCell_23 (by decide) ?_
          exact xzret (by decide) hd0 hx hb hr hlocks hS (Nat.le_of_ble_eq_true rfl) (Nat.le_of_ble_eq_true rfl) dX7_noCell_27 ⟨rfl, by first | exact xz1 (fun h => xP_ne.mp c_2 h.1) | exact xz1 (fun h => xin_no0 (by assumption) h.2) | exact xz1 (fun h => xstr_no (by assumption) (by omega) h.2) | exact xz0 (fun h => h ⟨Classical.not_not.mp (xP_eq.mp c_2), xstr_of (by assumption) (by assumption) (by omega)⟩)⟩
set_option maxRecDepth 20000 in
theorem ggX7_off_X7_length : GoodIn wsX7_off wsX7_length := goodIn_r _ [5, 6, 7, 4, 8, 9] (by decide +kernel) (by decide +kernel)
set_option maxRecDepth 20000 in
theorem gX7_off_X7_length : GoodIn wsX7_off (va_wsS RX7 81 yX7_length wsX7_length) := goodIn_app (goodIn_of _ (by decide +kernel)) ggX7_off_X7_length
set_option maxRecDepth 20000 in
theorem ggX7_off_X7_far : GoodIn wsX7_off wsX7_far := goodIn_r _ [13, 14, 15, 16, 4, 17, 18, 6, 7, 8, 9, 19, 20, 21, 22, 23, 24, 25, 26, 27, 28, 29, 30, 31, 32, 33, 34, 35, 36] (by decide +kernel) (by decide +kernel)
set_option maxRecDepth 20000 in
theorem gX7_off_X7_far : GoodIn wsX7_off (wsV RX7 77 RX7 yX7_far wsX7_far) := goodIn_app (goodIn_of _ (by decide +kernel)) ggX7_off_X7_far
theorem dX7_off_0 : decode cX7_off 0 = .ok (.bipush 32, 2) := by decide +kernel
theorem dX7_off_2 : decode cX7_off 2 = .ok (.iload_n 1, 1) := by decide +kernel
theorem dX7_off_3 : decode cX7_off 3 = .ok (.imul, 1) := by decide +kernel
theorem dX7_off_4 : decode cX7_off 4 = .ok (.iconst 4, 1) := by decide +kernel
theorem dX7_off_5 : decode cX7_off 5 = .ok (.iload_n 2, 1) := by decide +kernel
theorem dX7_off_6 : decode cX7_off 6 = .ok (.imul, 1) := by decide +kernel
theorem dX7_off_7 : decode cX7_off 7 = .ok (.iadd, 1) := by decide +kernel
theorem dX7_off_8 : decode cX7_off 8 = .ok (.istore_n 3, 1) := by decide +kernel
theorem dX7_off_9 : decode cX7_off 9 = .ok (.iload_n 3, 1) := by decide +kernel
theorem dX7_off_10 : decode cX7_off 10 = .ok (.bipush 6, 2) := by decide +kernel
theorem dX7_off_12 : decode cX7_off 12 = .ok (.iadd, 1) := by decide +kernel
theorem dX7_off_13 : decode cX7_off 13 = .ok (.istore 4, 2) := by decide +kernel
theorem dX7_off_15 : decode cX7_off 15 = .ok (.aload_n 0, 1) := by decide +kernel
theorem dX7_off_16 : decode cX7_off 16 = .ok (.getfield 17, 3) := by decide +kernel
theorem dX7_off_19 : decode cX7_off 19 = .ok (.iload 4, 2) := by decide +kernel
theorem dX7_off_21 : decode cX7_off 21 = .ok (.daload, 1) := by decide +kernel
theorem dX7_off_22 : decode cX7_off 22 = .ok (.aload_n 0, 1) := by decide +kernel
theorem dX7_off_23 : decode cX7_off 23 = .ok (.getfield 17, 3) := by decide +kernel
theorem dX7_off_26 : decode cX7_off 26 = .ok (.iload_n 3, 1) := by decide +kernel
theorem dX7_off_27 : decode cX7_off 27 = .ok (.daload, 1) := by decide +kernel
theorem dX7_off_28 : decode cX7_off 28 = .ok (.dsub, 1) := by decide +kernel
theorem dX7_off_29 : decode cX7_off 29 = .ok (.aload_n 0, 1) := by decide +kernel
theorem dX7_off_30 : decode cX7_off 30 = .ok (.getfield 17, 3) := by decide +kernel
theorem dX7_off_33 : decode cX7_off 33 = .ok (.iload 4, 2) := by decide +kernel
theorem dX7_off_35 : decode cX7_off 35 = .ok (.iconst 1, 1) := by decide +kernel
theorem dX7_off_36 : decode cX7_off 36 = .ok (.iadd, 1) := by decide +kernel
theorem dX7_off_37 : decode cX7_off 37 = .ok (.daload, 1) := by decide +kernel
theorem dX7_off_38 : decode cX7_off 38 = .ok (.aload_n 0, 1) := by decide +kernel
theorem dX7_off_39 : decode cX7_off 39 = .ok (.getfield 17, 3) := by decide +kernel
theorem dX7_off_42 : decode cX7_off 42 = .ok (.iload_n 3, 1) := by decide +kernel
theorem dX7_off_43 : decode cX7_off 43 = .ok (.iconst 1, 1) := by decide +kernel
theorem dX7_off_44 : decode cX7_off 44 = .ok (.iadd, 1) := by decide +kernel
theorem dX7_off_45 : decode cX7_off 45 = .ok (.daload, 1) := by decide +kernel
theorem dX7_off_46 : decode cX7_off 46 = .ok (.dsub, 1) := by decide +kernel
theorem dX7_off_47 : decode cX7_off 47 = .ok (.invokestatic 81, 3) := by decide +kernel
theorem dX7_off_50 : decode cX7_off 50 = .ok (.aload_n 0, 1) := by decide +kernel
theorem dX7_off_51 : decode cX7_off 51 = .ok (.iload_n 2, 1) := by decide +kernel
theorem dX7_off_52 : decode cX7_off 52 = .ok (.iload_n 1, 1) := by decide +kernel
theorem dX7_off_53 : decode cX7_off 53 = .ok (.iload_n 2, 1) := by decide +kernel
theorem dX7_off_54 : decode cX7_off 54 = .ok (.iconst 1, 1) := by decide +kernel
theorem dX7_off_55 : decode cX7_off 55 = .ok (.iadd, 1) := by decide +kernel
theorem dX7_off_56 : decode cX7_off 56 = .ok (.iload_n 1, 1) := by decide +kernel
theorem dX7_off_57 : decode cX7_off 57 = .ok (.iconst 1, 1) := by decide +kernel
theorem dX7_off_58 : decode cX7_off 58 = .ok (.iadd, 1) := by decide +kernel
theorem dX7_off_59 : decode cX7_off 59 = .ok (.invokevirtual 77, 3) := by decide +kernel
theorem dX7_off_62 : decode cX7_off 62 = .ok (.dsub, 1) := by decide +kernel
theorem dX7_off_63 : decode cX7_off 63 = .ok (.dreturn, 1) := by decide +kernel
abbrev rm_X7_off : Room := { frames := 7, cells := 0, slots := 0, locals := 140 }
theorem hw_X7_off_1 : (Cond.fieldLink RX7 17 "PlankUnrollModel" "corners" "[D") ∈ wsX7_off := List.mem_of_getElem? (i := 1) rfl
theorem in_X7_off_X7 : ∀ w ∈ wsX70, w ∈ wsX7_off := by decide +kernel
set_option maxHeartbeats 4000000 in
set_option maxRecDepth 100000 in
/-- STRETCH -/
theorem c_X7_off {l : Launch} {G : va_G} {ty : Nat → ClassId} {b0 : Nat} {H : Heap} {m0 : Nat} {A : Nat → Nat} {th : Int32} {F R nb : Nat} {pl co dr wi hi fa : Nat → UInt64} {un bu fc lo la : Nat → Int32} {px py pz : UInt64} (hY : xRef G ty m0 A th F R pl un co dr bu nb wi hi fc fa lo la px py pz H) (hZ : xSz F R) {x f : Nat} (hs9 : x < R - 1) (hf : f < F - 1) : xMet l yX7_off wsX7_off rm_X7_off G ty b0 [.ref m0, .int (nI x), .int (nI f)] H (fun v H1 => H = H1 ∧ ∃ z9 : UInt64, v = some (.double z9) ∧ vq z9 (pOff co pl x f)) (fun _ _ => False) := by
  refine xbody (cc := cX7_off) (maxL := 5) (ret := (some .double)) (C := RX7) (lv := [(0, .ref m0), (1, .int (nI x)), (2, .int (nI f))]) (by decide) rfl rfl (Nat.le_of_ble_eq_true rfl) rfl ?_
  intro p e s m below meth c d0 hx hb hr hts hown hlocks hml hxt hnm0 hK hb0 hH0 hS hd0 ls hl
  obtain ⟨y_o, y_0, y_1, y_2, y_3, y_4, y_5, y_6, y_7, y_8, y_9, y_10⟩ := id hY
  obtain ⟨⟨zF2, zF8⟩, ⟨zR2, zR8⟩⟩ := id hZ
  refine lv_bipush (v := nI 32) hx hb dX7_off_0 (by decide) ?_
  refine lv_iload_n hx hb dX7_off_2 rfl (lv_at hl 1 rfl) ?_
  refine ximulN hx hb dX7_off_3 ?_
  refine lv_iconst (v := nI 4) hx hb dX7_off_4 (by decide) ?_
  refine lv_iload_n hx hb dX7_off_5 rfl (lv_at hl 2 rfl) ?_
  refine ximulN hx hb dX7_off_6 ?_
  refine xiaddN hx hb dX7_off_7 ?_
  refine lv_istore_n (lv' := [(3, .int (nI ((32 * x) + (4 * f)))), (0, .ref m0), (1, .int (nI x)), (2, .int (nI f))]) hx hb dX7_off_8 rfl hl (by decide) rfl (fun ls hl => ?_)
  refine lv_iload_n hx hb dX7_off_9 rfl (lv_at hl 0 rfl) ?_
  refine lv_bipush (v := nI 6) hx hb dX7_off_10 (by decide) ?_
  refine xiaddN hx hb dX7_off_12 ?_
  refine lv_istore (lv' := [(4, .int (nI (((32 * x) + (4 * f)) + 6))), (3, .int (nI ((32 * x) + (4 * f)))), (0, .ref m0), (1, .int (nI x)), (2, .int (nI f))]) hx hb dX7_off_13 hl (by decide) rfl (fun ls hl => ?_)
  refine lv_aload_n hx hb dX7_off_15 rfl (lv_at hl 2 rfl) ?_
  refine va_get (D := G) (cl := vwCl) (ci := 8) (v := .ref (A 2)) (C := RX7) (T := TX7) (N := 18) hx hb (hts d0) in_X7_off_X7 hown hK.1 (x1 y_o) 0 rfl rfl 5 (by decide) (hts d0 _ hw_X7_off_1) (fun _ h9 => h9) rfl dX7_off_16 ?_
  refine lv_iload hx hb dX7_off_19 (lv_at hl 0 rfl) ?_
  refine xdald (j := ((32 * x) + (4 * f)) + 6) hx hb hK.1 0 y_2 rfl (xix_of (by omega) (by omega)) dX7_off_21 ?_
  refine lv_aload_n hx hb dX7_off_22 rfl (lv_at hl 2 rfl) ?_
  refine va_get (D := G) (cl := vwCl) (ci := 8) (v := .ref (A 2)) (C := RX7) (T := TX7) (N := 18) hx hb (hts d0) in_X7_off_X7 hown hK.1 (x1 y_o) 0 rfl rfl 5 (by decide) (hts d0 _ hw_X7_off_1) (fun _ h9 => h9) rfl dX7_off_23 ?_
  refine lv_iload_n hx hb dX7_off_26 rfl (lv_at hl 1 rfl) ?_
  refine xdald (j := (32 * x) + (4 * f)) hx hb hK.1 0 y_2 rfl (xix_of (by omega) (by omega)) dX7_off_27 ?_
  refine xdsub hd0 hx hb (vq_rf _) (vq_rf _) dX7_off_28 (fun r_1 d0 q_1 hd0 => ?_)
  refine lv_aload_n hx hb dX7_off_29 rfl (lv_at hl 2 rfl) ?_
  refine va_get (D := G) (cl := vwCl) (ci := 8) (v := .ref (A 2)) (C := RX7) (T := TX7) (N := 18) hx hb (hts d0) in_X7_off_X7 hown hK.1 (x1 y_o) 0 rfl rfl 5 (by decide) (hts d0 _ hw_X7_off_1) (fun _ h9 => h9) rfl dX7_off_30 ?_
  refine lv_iload hx hb dX7_off_33 (lv_at hl 0 rfl) ?_
  refine lv_iconst (v := nI 1) hx hb dX7_off_35 (by decide) ?_
  refine xiaddN hx hb dX7_off_36 ?_
  refine xdald (j := (((32 * x) + (4 * f)) + 6) + 1) hx hb hK.1 0 y_2 rfl (xix_of (by omega) (by omega)) dX7_off_37 ?_
  refine lv_aload_n hx hb dX7_off_38 rfl (lv_at hl 2 rfl) ?_
  refine va_get (D := G) (cl := vwCl) (ci := 8) (v := .ref (A 2)) (C := RX7) (T := TX7) (N := 18) hx hb (hts d0) in_X7_off_X7 hown hK.1 (x1 y_o) 0 rfl rfl 5 (by decide) (hts d0 _ hw_X7_off_1) (fun _ h9 => h9) rfl dX7_off_39 ?_
  refine lv_iload_n hx hb dX7_off_42 rfl (lv_at hl 1 rfl) ?_
  refine lv_iconst (v := nI 1) hx hb dX7_off_43 (by decide) ?_
  refine xiaddN hx hb dX7_off_44 ?_
  refine xdald (j := ((32 * x) + (4 * f)) + 1) hx hb hK.1 0 y_2 rfl (xix_of (by omega) (by omega)) dX7_off_45 ?_
  refine xdsub hd0 hx hb (vq_rf _) (vq_rf _) dX7_off_46 (fun r_2 d0 q_2 hd0 => ?_)
  have cw_3 := va_cwS (R := rm_X7_off) (rm := rm_X7_length) 2 (hts d0) gX7_off_X7_length rfl rfl rfl (by decide +kernel) ⟨Nat.le_of_ble_eq_true rfl, Nat.le_of_ble_eq_true rfl⟩
  refine xcall hd0 (xintoS (As := [.double r_1, .double r_2]) (rest := []) ⟨hx, hb, hml, hown, hts _⟩ cw_3 rfl rfl hl.1 rfl (lv_room (Nat.le_of_ble_eq_true rfl)) dX7_off_47) (c_X7_length (l := l) (G := G) (ty := ty) (b0 := b0) q_1 q_2) (xoweB cw_3.1) hK hb0 hS (Nat.le_of_ble_eq_true rfl) (Nat.le_of_ble_eq_true rfl) (fun E_3 ce_3 q9_3 H_3 locs_3 d0 hd0 hp_3 hS hce_3 hcv_3 hcl_3 => ?_) (fun v_3 H_3 locs_3 d0 hd0 hp_3 hS => ?_)
  · exact hp_3.elim
  · obtain ⟨rfl, r_3, rfl, q_3⟩ := hp_3
    show W p l e _ (s.setDrawn _) m _ below meth c _ _ _ _ _ (F0 m 50 ls [.double r_3])
    refine lv_aload_n hx hb dX7_off_50 rfl (lv_at hl 2 rfl) ?_
    refine lv_iload_n hx hb dX7_off_51 rfl (lv_at hl 4 rfl) ?_
    refine lv_iload_n hx hb dX7_off_52 rfl (lv_at hl 3 rfl) ?_
    refine lv_iload_n hx hb dX7_off_53 rfl (lv_at hl 4 rfl) ?_
    refine lv_iconst (v := nI 1) hx hb dX7_off_54 (by decide) ?_
    refine xiaddN hx hb dX7_off_55 ?_
    refine lv_iload_n hx hb dX7_off_56 rfl (lv_at hl 3 rfl) ?_
    refine lv_iconst (v := nI 1) hx hb dX7_off_57 (by decide) ?_
    refine xiaddN hx hb dX7_off_58 ?_
    have cw_4 := cwV (R := rm_X7_off) (rm := rm_X7_far) 4 (hts d0) gX7_off_X7_far rfl rfl rfl (by decide +kernel) ⟨Nat.le_of_ble_eq_true rfl, Nat.le_of_ble_eq_true rfl⟩
    refine xcall hd0 (xintoV (b := m0) (As := [.int (nI f), .int (nI x), .int (nI (f + 1)), .int (nI (x + 1))]) (rest := [.double r_3]) ⟨hx, hb, hml, hown, hts _⟩ cw_4 (va_recv hK.1 (x1 y_o) (ci := 8) (q0 := 0) rfl rfl) rfl rfl hl.1 rfl (lv_room (Nat.le_of_ble_eq_true rfl)) dX7_off_59) (c_X7_far (l := l) (G := G) (ty := ty) (b0 := b0) (f := f) (r := x) (g := f + 1) (q := x + 1) (by omega) (by omega) (by omega) (by omega) hY hZ) (xoweB cw_4.1) hK hb0 hS (Nat.le_of_ble_eq_true rfl) (Nat.le_of_ble_eq_true rfl) (fun E_4 ce_4 q9_4 H_4 locs_4 d0 hd0 hp_4 hS hce_4 hcv_4 hcl_4 => ?_) (fun v_4 H_4 locs_4 d0 hd0 hp_4 hS => ?_)
    · exact hp_4.elim
    · obtain ⟨rfl, r_4, rfl, q_4⟩ := hp_4
      show W p l e _ (s.setDrawn _) m _ below meth c _ _ _ _ _ (F0 m 62 ls [.double r_4, .double r_3])
      refine xdsub hd0 hx hb q_3 q_4 dX7_off_62 (fun r_5 d0 q_5 hd0 => ?_)
      exact xdret hd0 hx hb hr hlocks hS (Nat.le_of_ble_eq_true rfl) (Nat.le_of_ble_eq_true rfl) dX7_off_63 ⟨rfl, _, rfl, q_5⟩
