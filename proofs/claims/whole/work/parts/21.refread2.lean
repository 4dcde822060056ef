/-! THE REFERENCE: extents, staggered butts, free places on boards. -/
def pLow (co : Nat → UInt64) (x ax : Nat) : Nat → UInt64
  | 0 => co (32 * x + ax)
  | k + 1 => if xlt (co (32 * x + 2 * (k + 1) + ax)) (pLow co x ax k) = true then co (32 * x + 2 * (k + 1) + ax) else pLow co x ax k
def pHigh (co : Nat → UInt64) (x ax : Nat) : Nat → UInt64
  | 0 => co (32 * x + ax)
  | k + 1 => if xgt (co (32 * x + 2 * (k + 1) + ax)) (pHigh co x ax k) = true then co (32 * x + 2 * (k + 1) + ax) else pHigh co x ax k
theorem pLow_t {co : Nat → UInt64} {x ax k : Nat} (h : xlt (co (32 * x + 2 * (k + 1) + ax)) (pLow co x ax k) = true) : pLow co x ax (k + 1) = co (32 * x + 2 * (k + 1) + ax) := if_pos h
theorem pLow_f {co : Nat → UInt64} {x ax k : Nat} (h : xlt (co (32 * x + 2 * (k + 1) + ax)) (pLow co x ax k) = false) : pLow co x ax (k + 1) = pLow co x ax k := if_neg (by rw [h]; decide)
theorem pHigh_t {co : Nat → UInt64} {x ax k : Nat} (h : xgt (co (32 * x + 2 * (k + 1) + ax)) (pHigh co x ax k) = true) : pHigh co x ax (k + 1) = co (32 * x + 2 * (k + 1) + ax) := if_pos h
theorem pHigh_f {co : Nat → UInt64} {x ax k : Nat} (h : xgt (co (32 * x + 2 * (k + 1) + ax)) (pHigh co x ax k) = false) : pHigh co x ax (k + 1) = pHigh co x ax k := if_neg (by rw [h]; decide)
/-- what a strip takes up, along (0) or across (1) -/
def pExt (co : Nat → UInt64) (F x ax : Nat) : UInt64 := FP.dsub (pHigh co x ax (2 * F - 1)) (pLow co x ax (2 * F - 1))
theorem dX7_size_0 : decode cX7_size 0 = .ok (.aload_n 0, 1) := by decide +kernel
theorem dX7_size_1 : decode cX7_size 1 = .ok (.getfield 17, 3) := by decide +kernel
theorem dX7_size_4 : decode cX7_size 4 = .ok (.bipush 32, 2) := by decide +kernel
theorem dX7_size_6 : decode cX7_size 6 = .ok (.iload_n 1, 1) := by decide +kernel
theorem dX7_size_7 : decode cX7_size 7 = .ok (.imul, 1) := by decide +kernel
theorem dX7_size_8 : decode cX7_size 8 = .ok (.iload_n 2, 1) := by decide +kernel
theorem dX7_size_9 : decode cX7_size 9 = .ok (.iadd, 1) := by decide +kernel
theorem dX7_size_10 : decode cX7_size 10 = .ok (.daload, 1) := by decide +kernel
theorem dX7_size_11 : decode cX7_size 11 = .ok (.dstore_n 3, 1) := by decide +kernel
theorem dX7_size_12 : decode cX7_size 12 = .ok (.dload_n 3, 1) := by decide +kernel
theorem dX7_size_13 : decode cX7_size 13 = .ok (.dstore 5, 2) := by decide +kernel
theorem dX7_size_15 : decode cX7_size 15 = .ok (.iconst 1, 1) := by decide +kernel
theorem dX7_size_16 : decode cX7_size 16 = .ok (.istore 7, 2) := by decide +kernel
theorem dX7_size_18 : decode cX7_size 18 = .ok (.iload 7, 2) := by decide +kernel
theorem dX7_size_20 : decode cX7_size 20 = .ok (.iconst 2, 1) := by decide +kernel
theorem dX7_size_21 : decode cX7_size 21 = .ok (.aload_n 0, 1) := by decide +kernel
theorem dX7_size_22 : decode cX7_size 22 = .ok (.getfield 45, 3) := by decide +kernel
theorem dX7_size_25 : decode cX7_size 25 = .ok (.imul, 1) := by decide +kernel
theorem dX7_size_26 : decode cX7_size 26 = .ok (.if_icmp .ge 58, 3) := by decide +kernel
theorem dX7_size_29 : decode cX7_size 29 = .ok (.aload_n 0, 1) := by decide +kernel
theorem dX7_size_30 : decode cX7_size 30 = .ok (.getfield 17, 3) := by decide +kernel
theorem dX7_size_33 : decode cX7_size 33 = .ok (.bipush 32, 2) := by decide +kernel
theorem dX7_size_35 : decode cX7_size 35 = .ok (.iload_n 1, 1) := by decide +kernel
theorem dX7_size_36 : decode cX7_size 36 = .ok (.imul, 1) := by decide +kernel
theorem dX7_size_37 : decode cX7_size 37 = .ok (.iconst 2, 1) := by decide +kernel
theorem dX7_size_38 : decode cX7_size 38 = .ok (.iload 7, 2) := by decide +kernel
theorem dX7_size_40 : decode cX7_size 40 = .ok (.imul, 1) := by decide +kernel
theorem dX7_size_41 : decode cX7_size 41 = .ok (.iadd, 1) := by decide +kernel
theorem dX7_size_42 : decode cX7_size 42 = .ok (.iload_n 2, 1) := by decide +kernel
theorem dX7_size_43 : decode cX7_size 43 = .ok (.iadd, 1) := by decide +kernel
theorem dX7_size_44 : decode cX7_size 44 = .ok (.daload, 1) := by decide +kernel
theorem dX7_size_45 : decode cX7_size 45 = .ok (.dstore 8, 2) := by decide +kernel
theorem dX7_size_47 : decode cX7_size 47 = .ok (.dload 8, 2) := by decide +kernel
theorem dX7_size_49 : decode cX7_size 49 = .ok (.dload_n 3, 1) := by decide +kernel
theorem dX7_size_50 : decode cX7_size 50 = .ok (.dcmp .g, 1) := by decide +kernel
theorem dX7_size_51 : decode cX7_size 51 = .ok (.ifCond .ge 8, 3) := by decide +kernel
theorem dX7_size_54 : decode cX7_size 54 = .ok (.dload 8, 2) := by decide +kernel
theorem dX7_size_56 : decode cX7_size 56 = .ok (.goto 4, 3) := by decide +kernel
theorem dX7_size_59 : decode cX7_size 59 = .ok (.dload_n 3, 1) := by decide +kernel
theorem dX7_size_60 : decode cX7_size 60 = .ok (.dstore_n 3, 1) := by decide +kernel
theorem dX7_size_61 : decode cX7_size 61 = .ok (.dload 8, 2) := by decide +kernel
theorem dX7_size_63 : decode cX7_size 63 = .ok (.dload 5, 2) := by decide +kernel
theorem dX7_size_65 : decode cX7_size 65 = .ok (.dcmp .l, 1) := by decide +kernel
theorem dX7_size_66 : decode cX7_size 66 = .ok (.ifCond .le 8, 3) := by decide +kernel
theorem dX7_size_69 : decode cX7_size 69 = .ok (.dload 8, 2) := by decide +kernel
theorem dX7_size_71 : decode cX7_size 71 = .ok (.goto 5, 3) := by decide +kernel
theorem dX7_size_74 : decode cX7_size 74 = .ok (.dload 5, 2) := by decide +kernel
theorem dX7_size_76 : decode cX7_size 76 = .ok (.dstore 5, 2) := by decide +kernel
theorem dX7_size_78 : decode cX7_size 78 = .ok (.iinc 7 1, 3) := by decide +kernel
theorem dX7_size_81 : decode cX7_size 81 = .ok (.goto (-63), 3) := by decide +kernel
theorem dX7_size_84 : decode cX7_size 84 = .ok (.dload 5, 2) := by decide +kernel
theorem dX7_size_86 : decode cX7_size 86 = .ok (.dload_n 3, 1) := by decide +kernel
theorem dX7_size_87 : decode cX7_size 87 = .ok (.dsub, 1) := by decide +kernel
theorem dX7_size_88 : decode cX7_size 88 = .ok (.dreturn, 1) := by decide +kernel
abbrev rm_X7_size : Room := { frames := 5, cells := 0, slots := 0, locals := 40 }
theorem hw_X7_size_1 : (Cond.fieldLink RX7 17 "PlankUnrollModel" "corners" "[D") ∈ wsX7_size := List.mem_of_getElem? (i := 1) rfl
theorem hw_X7_size_2 : (Cond.fieldLink RX7 45 "PlankUnrollModel" "frames" "I") ∈ wsX7_size := List.mem_of_getElem? (i := 2) rfl
theorem in_X7_size_X7 : ∀ w ∈ wsX70, w ∈ wsX7_size := by decide +kernel
set_option maxHeartbeats 4000000 in
set_option maxRecDepth 100000 in
/-- what a strip takes up -/
theorem c_X7_size {l : Launch} {G : va_G} {ty : Nat → ClassId} {b0 : Nat} {H : Heap} {m0 : Nat} {A : Nat → Nat} {th : Int32} {F R nb : Nat} {pl co dr wi hi fa : Nat → UInt64} {un bu fc lo la : Nat → Int32} {px py pz : UInt64} (hY : xRef G ty m0 A th F R pl un co dr bu nb wi hi fc fa lo la px py pz H) (hZ : xSz F R) {x ax : Nat} (hs9 : x < R - 1) (hax : ax < 2) : xMet l yX7_size wsX7_size rm_X7_size G ty b0 [.ref m0, .int (nI x), .int (nI ax)] H (fun v H1 => H = H1 ∧ ∃ z9 : UInt64, v = some (.double z9) ∧ vq z9 (pExt co F x ax)) (fun _ _ => False) := by
  refine xbody (cc := cX7_size) (maxL := 10) (ret := (some .double)) (C := RX7) (lv := [(0, .ref m0), (1, .int (nI x)), (2, .int (nI ax))]) (by decide) rfl rfl (Nat.le_of_ble_eq_true rfl) rfl ?_
  intro p e s m below meth c d0 hx hb hr hts hown hlocks hml hxt hnm0 hK hb0 hH0 hS hd0 ls hl
  obtain ⟨y_o, y_0, y_1, y_2, y_3, y_4, y_5, y_6, y_7, y_8, y_9, y_10⟩ := id hY
  obtain ⟨⟨zF2, zF8⟩, ⟨zR2, zR8⟩⟩ := id hZ
  refine lv_aload_n hx hb dX7_size_0 rfl (lv_at hl 0 rfl) ?_
  refine va_get (D := G) (cl := vwCl) (ci := 8) (v := .ref (A 2)) (C := RX7) (T := TX7) (N := 18) hx hb (hts _) in_X7_size_X7 hown hK.1 (x1 y_o) 0 rfl rfl 5 (by decide) (hts _ _ hw_X7_size_1) (fun _ h9 => h9) rfl dX7_size_1 ?_
  refine lv_bipush (v := nI 32) hx hb dX7_size_4 (by decide) ?_
  refine lv_iload_n hx hb dX7_size_6 rfl (lv_at hl 1 rfl) ?_
  refine ximulN hx hb dX7_size_7 ?_
  refine lv_iload_n hx hb dX7_size_8 rfl (lv_at hl 2 rfl) ?_
  refine xiaddN hx hb dX7_size_9 ?_
  refine xdald (j := (32 * x) + ax) hx hb hK.1 0 y_2 rfl (xix_of (by omega) (by omega)) dX7_size_10 ?_
  refine lv_dstore_n (lv' := [(3, .double (co ((32 * x) + ax))), (0, .ref m0), (1, .int (nI x)), (2, .int (nI ax))]) hx hb dX7_size_11 rfl hl (by decide) rfl (fun ls hl => ?_)
  refine lv_dload_n hx hb dX7_size_12 rfl (lv_at hl 0 rfl) ?_
  refine lv_dstore (lv' := [(5, .double (co ((32 * x) + ax))), (3, .double (co ((32 * x) + ax))), (0, .ref m0), (1, .int (nI x)), (2, .int (nI ax))]) hx hb dX7_size_13 hl (by decide) rfl (fun ls hl => ?_)
  refine lv_iconst (v := nI 1) hx hb dX7_size_15 (by decide) ?_
  refine lv_istore (lv' := [(7, .int (nI 1)), (5, .double (co ((32 * x) + ax))), (3, .double (co ((32 * x) + ax))), (0, .ref m0), (1, .int (nI x)), (2, .int (nI ax))]) hx hb dX7_size_16 hl (by decide) rfl (fun ls hl => ?_)
  suffices K : ∀ (n : Nat) (j : Nat) (locs : List Loc) (d0 : Drawn) (ls : Array Slot), j + 1 + n = 2 * F → va_S (xA b0) s.heap H locs → s.drawn.sameBut d0 lw_cs → lv_has ls 10 [(7, .int (nI (j + 1))), (5, .double (pHigh co x ax j)), (3, .double (pLow co x ax j)), (0, .ref m0), (1, .int (nI x)), (2, .int (nI ax))] → W p l e rm_X7_size (s.setDrawn d0) m [Value.ref m0, Value.int (nI x), Value.int (nI ax)].toArray below meth c H locs (0) (0) (xMQ below (fun v H1 => H = H1 ∧ ∃ z9 : UInt64, v = some (.double z9) ∧ vq z9 (pExt co F x ax)) (fun _ _ => False) [.ref m0, .int (nI x), .int (nI ax)].toArray s rm_X7_size b0) (F0 m 18 ls []) from K (2 * F - 1) 0 _ d0 ls (by omega) hS hd0 (lv_sub hl [0, 1, 2, 3, 4, 5] rfl)
  intro n
  induction n with
  | zero =>
    intro j locs d0 ls hinv hS hd0 hl
    refine lv_iload hx hb dX7_size_18 (lv_at hl 0 rfl) ?_
    refine lv_iconst (v := nI 2) hx hb dX7_size_20 (by decide) ?_
    refine lv_aload_n hx hb dX7_size_21 rfl (lv_at hl 3 rfl) ?_
    refine va_get (D := G) (cl := vwCl) (ci := 8) (v := .int (nI F)) (C := RX7) (T := TX7) (N := 18) hx hb (hts _) in_X7_size_X7 hown hK.1 (x1 y_o) 0 rfl rfl 1 (by decide) (hts _ _ hw_X7_size_2) (fun _ h9 => h9) rfl dX7_size_22 ?_
    refine ximulN hx hb dX7_size_25 ?_
    refine xicmpN_ge (tgt := 84) hx hb (by omega) (by omega) dX7_size_26 (by decide) (fun _ => ?_) (fun h9 => absurd h9 (by omega))
    refine lv_dload hx hb dX7_size_84 (lv_at hl 1 rfl) ?_
    refine lv_dload_n hx hb dX7_size_86 rfl (lv_at hl 2 rfl) ?_
    refine xdsub hd0 hx hb (vq_rf _) (vq_rf _) dX7_size_87 (fun r_2 d0 q_2 hd0 => ?_)
    exact xdret hd0 hx hb hr hlocks hS (Nat.le_of_ble_eq_true rfl) (Nat.le_of_ble_eq_true rfl) dX7_size_88 ⟨rfl, _, rfl, by have e9 : j = 2 * F - 1 := (by omega); subst e9; exact q_2⟩
  | succ n ih =>
    intro j locs d0 ls hinv hS hd0 hl
    refine lv_iload hx hb dX7_size_18 (lv_at hl 0 rfl) ?_
    refine lv_iconst (v := nI 2) hx hb dX7_size_20 (by decide) ?_
    refine lv_aload_n hx hb dX7_size_21 rfl (lv_at hl 3 rfl) ?_
    refine va_get (D := G) (cl := vwCl) (ci := 8) (v := .int (nI F)) (C := RX7) (T := TX7) (N := 18) hx hb (hts _) in_X7_size_X7 hown hK.1 (x1 y_o) 0 rfl rfl 1 (by decide) (hts _ _ hw_X7_size_2) (fun _ h9 => h9) rfl dX7_size_22 ?_
    refine ximulN hx hb dX7_size_25 ?_
    refine xicmpN_ge (tgt := 84) hx hb (by omega) (by omega) dX7_size_26 (by decide) (fun h9 => absurd h9 (by omega)) (fun _ => ?_)
    refine lv_aload_n hx hb dX7_size_29 rfl (lv_at hl 3 rfl) ?_
    refine va_get (D := G) (cl := vwCl) (ci := 8) (v := .ref (A 2)) (C := RX7) (T := TX7) (N := 18) hx hb (hts _) in_X7_size_X7 hown hK.1 (x1 y_o) 0 rfl rfl 5 (by decide) (hts _ _ hw_X7_size_1) (fun _ h9 => h9) rfl dX7_size_30 ?_
    refine lv_bipush (v := nI 32) hx hb dX7_size_33 (by decide) ?_
    refine lv_iload_n hx hb dX7_size_35 rfl (lv_at hl 4 rfl) ?_
    refine ximulN hx hb dX7_size_36 ?_
    refine lv_iconst (v := nI 2) hx hb dX7_size_37 (by decide) ?_
    refine lv_iload hx hb dX7_size_38 (lv_at hl 0 rfl) ?_
    refine ximulN hx hb dX7_size_40 ?_
    refine xiaddN hx hb dX7_size_41 ?_
    refine lv_iload_n hx hb dX7_size_42 rfl (lv_at hl 5 rfl) ?_
    refine xiaddN hx hb dX7_size_43 ?_
    refine xdald (j := ((32 * x) + (2 * (j + 1))) + ax) hx hb hK.1 0 y_2 rfl (xix_of (by omega) (by omega)) dX7_size_44 ?_
    refine lv_dstore (lv' := [(8, .double (co (((32 * x) + (2 * (j + 1))) + ax))), (7, .int (nI (j + 1))), (5, .double (pHigh co x ax j)), (3, .double (pLow co x ax j)), (0, .ref m0), (1, .int (nI x)), (2, .int (nI ax))]) hx hb dX7_size_45 hl (by decide) rfl (fun ls hl => ?_)
    refine lv_dload hx hb dX7_size_47 (lv_at hl 0 rfl) ?_
    refine lv_dload_n hx hb dX7_size_49 rfl (lv_at hl 3 rfl) ?_
    refine xcmp_g_ge (tgt := 59) hx hb (vq_rf _) (vq_rf _) dX7_size_50 dX7_size_51 (by decide) (fun c_4 => ?_) (fun c_4 => ?_)
    · refine lv_dload_n hx hb dX7_size_59 rfl (lv_at hl 3 rfl) ?_
      refine lv_dstore_n (lv' := [(3, .double (pLow co x ax j)), (8, .double (co (((32 * x) + (2 * (j + 1))) + ax))), (7, .int (nI (j + 1))), (5, .double (pHigh co x ax j)), (0, .ref m0), (1, .int (nI x)), (2, .int (nI ax))]) hx hb dX7_size_60 rfl hl (by decide) rfl (fun ls hl => ?_)
      refine lv_dload hx hb dX7_size_61 (lv_at hl 1 rfl) ?_
      refine lv_dload hx hb dX7_size_63 (lv_at hl 3 rfl) ?_
      refine xcmp_l_le (tgt := 74) hx hb (vq_rf _) (vq_rf _) dX7_size_65 dX7_size_66 (by decide) (fun c_5 => ?_) (fun c_5 => ?_)
      · refine lv_dload hx hb dX7_size_74 (lv_at hl 3 rfl) ?_
        refine lv_dstore (lv' := [(5, .double (pHigh co x ax j)), (3, .double (pLow co x ax j)), (8, .double (co (((32 * x) + (2 * (j + 1))) + ax))), (7, .int (nI (j + 1))), (0, .ref m0), (1, .int (nI x)), (2, .int (nI ax))]) hx hb dX7_size_76 hl (by decide) rfl (fun ls hl => ?_)
        refine xiincN (x := j + 1) (y := 1) (lv' := [(7, .int (nI ((j + 1) + 1))), (5, .double (pHigh co x ax j)), (3, .double (pLow co x ax j)), (8, .double (co (((32 * x) + (2 * (j + 1))) + ax))), (0, .ref m0), (1, .int (nI x)), (2, .int (nI ax))]) hx hb dX7_size_78 hl (k := 3) rfl (by decide) (by decide) rfl (fun ls hl => ?_)
        refine lv_goto (tgt := 18) hx hb dX7_size_81 (by decide) ?_
        exact ih (j + 1) _ d0 ls (by omega) hS hd0 (by first | (rw [pLow_t c_4, pHigh_t c_5]; exact lv_sub hl [0, 1, 2, 4, 5, 6] rfl) | (rw [pLow_t c_4, pHigh_f c_5]; exact lv_sub hl [0, 1, 2, 4, 5, 6] rfl) | (rw [pLow_f c_4, pHigh_t c_5]; exact lv_sub hl [0, 1, 2, 4, 5, 6] rfl) | (rw [pLow_f c_4, pHigh_f c_5]; exact lv_sub hl [0, 1, 2, 4, 5, 6] rfl))
      · refine lv_dload hx hb dX7_size_69 (lv_at hl 1 rfl) ?_
        refine lv_goto (tgt := 76) hx hb dX7_size_71 (by decide) ?_
        refine lv_dstore (lv' := [(5, .double (co (((32 * x) + (2 * (j + 1))) + ax))), (3, .double (pLow co x ax j)), (8, .double (co (((32 * x) + (2 * (j + 1))) + ax))), (7, .int (nI (j + 1))), (0, .ref m0), (1, .int (nI x)), (2, .int (nI ax))]) hx hb dX7_size_76 hl (by decide) rfl (fun ls hl => ?_)
        refine xiincN (x := j + 1) (y := 1) (lv' := [(7, .int (nI ((j + 1) + 1))), (5, .double (co (((32 * x) + (2 * (j + 1))) + ax))), (3, .double (pLow co x ax j)), (8, .double (co (((32 * x) + (2 * (j + 1))) + ax))), (0, .ref m0), (1, .int (nI x)), (2, .int (nI ax))]) hx hb dX7_size_78 hl (k := 3) rfl (by decide) (by decide) rfl (fun ls hl => ?_)
        refine lv_goto (tgt := 18) hx hb dX7_size_81 (by decide) ?_
        exact ih (j + 1) _ d0 ls (by omega) hS hd0 (by first | (rw [pLow_t c_4, pHigh_t c_5]; exact lv_sub hl [0, 1, 2, 4, 5, 6] rfl) | (rw [pLow_t c_4, pHigh_f c_5]; exact lv_sub hl [0, 1, 2, 4, 5, 6] rfl) | (rw [pLow_f c_4, pHigh_t c_5]; exact lv_sub hl [0, 1, 2, 4, 5, 6] rfl) | (rw [pLow_f c_4, pHigh_f c_5]; exact lv_sub hl [0, 1, 2, 4, 5, 6] rfl))
    · refine lv_dload hx hb dX7_size_54 (lv_at hl 0 rfl) ?_
      refine lv_goto (tgt := 60) hx hb dX7_size_56 (by decide) ?_
      refine lv_dstore_n (lv' := [(3, .double (co (((32 * x) + (2 * (j + 1))) + ax))), (8, .double (co (((32 * x) + (2 * (j + 1))) + ax))), (7, .int (nI (j + 1))), (5, .double (pHigh co x ax j)), (0, .ref m0), (1, .int (nI x)), (2, .int (nI ax))]) hx hb dX7_size_60 rfl hl (by decide) rfl (fun ls hl => ?_)
      refine lv_dload hx hb dX7_size_61 (lv_at hl 1 rfl) ?_
      refine lv_dload hx hb dX7_size_63 (lv_at hl 3 rfl) ?_
      refine xcmp_l_le (tgt := 74) hx hb (vq_rf _) (vq_rf _) dX7_size_65 dX7_size_66 (by decide) (fun c_6 => ?_) (fun c_6 => ?_)
      · refine lv_dload hx hb dX7_size_74 (lv_at hl 3 rfl) ?_
        refine lv_dstore (lv' := [(5, .double (pHigh co x ax j)), (3, .double (co (((32 * x) + (2 * (j + 1))) + ax))), (8, .double (co (((32 * x) + (2 * (j + 1))) + ax))), (7, .int (nI (j + 1))), (0, .ref m0), (1, .int (nI x)), (2, .int (nI ax))]) hx hb dX7_size_76 hl (by decide) rfl (fun ls hl => ?_)
        refine xiincN (x := j + 1) (y := 1) (lv' := [(7, .int (nI ((j + 1) + 1))), (5, .double (pHigh co x ax j)), (3, .double (co (((32 * x) + (2 * (j + 1))) + ax))), (8, .double (co (((32 * x) + (2 * (j + 1))) + ax))), (0, .ref m0), (1, .int (nI x)), (2, .int (nI ax))]) hx hb dX7_size_78 hl (k := 3) rfl (by decide) (by decide) rfl (fun ls hl => ?_)
        refine lv_goto (tgt := 18) hx hb dX7_size_81 (by decide) ?_
        exact ih (j + 1) _ d0 ls (by omega) hS hd0 (by first | (rw [pLow_t c_4, pHigh_t c_6]; exact lv_sub hl [0, 1, 2, 4, 5, 6] rfl) | (rw [pLow_t c_4, pHigh_f c_6]; exact lv_sub hl [0, 1, 2, 4, 5, 6] rfl) | (rw [pLow_f c_4, pHigh_t c_6]; exact lv_sub hl [0, 1, 2, 4, 5, 6] rfl) | (rw [pLow_f c_4, pHigh_f c_6]; exact lv_sub hl [0, 1, 2, 4, 5, 6] rfl))
      · refine lv_dload hx hb dX7_size_69 (lv_at hl 1 rfl) ?_
        refine lv_goto (tgt := 76) hx hb dX7_size_71 (by decide) ?_
        refine lv_dstore (lv' := [(5, .double (co (((32 * x) + (2 * (j + 1))) + ax))), (3, .double (co (((32 * x) + (2 * (j + 1))) + ax))), (8, .double (co (((32 * x) + (2 * (j + 1))) + ax))), (7, .int (nI (j + 1))), (0, .ref m0), (1, .int (nI x)), (2, .int (nI ax))]) hx hb dX7_size_76 hl (by decide) rfl (fun ls hl => ?_)
        refine xiincN (x := j + 1) (y := 1) (lv' := [(7, .int (nI ((j + 1) + 1))), (5, .double (co (((32 * x) + (2 * (j + 1))) + ax))), (3, .double (co (((32 * x) + (2 * (j + 1))) + ax))), (8, .double (co (((32 * x) + (2 * (j + 1))) + ax))), (0, .ref m0), (1, .int (nI x)), (2, .int (nI ax))]) hx hb dX7_size_78 hl (k := 3) rfl (by decide) (by decide) rfl (fun ls hl => ?_)
        refine lv_goto (tgt := 18) hx hb dX7_size_81 (by decide) ?_
        exact ih (j + 1) _ d0 ls (by omega) hS hd0 (by first | (rw [pLow_t c_4, pHigh_t c_6]; exact lv_sub hl [0, 1, 2, 4, 5, 6] rfl) | (rw [pLow_t c_4, pHigh_f c_6]; exact lv_sub hl [0, 1, 2, 4, 5, 6] rfl) | (rw [pLow_f c_4, pHigh_t c_6]; exact lv_sub hl [0, 1, 2, 4, 5, 6] rfl) | (rw [pLow_f c_4, pHigh_f c_6]; exact lv_sub hl [0, 1, 2, 4, 5, 6] rfl))
/-- butts of two strips (or of one) are at least n frames apart -/
def pKp (bu : Nat → Int32) (x t n f g : Nat) : Prop := ¬ bu (8 * x + f) = 0 → ¬ bu (8 * t + g) = 0 → (¬ x = t ∨ ¬ f = g) → n ≤ (if f < g then g - f else f - g)
def pKeeps (bu : Nat → Int32) (F x t n : Nat) : Prop := ∀ f : Nat, f < F → ∀ g : Nat, g < F → pKp bu x t n f g
theorem pKeeps_s {bu : Nat → Int32} {F x t n f : Nat} (h : ∀ f' : Nat, f' < f → ∀ g : Nat, g < F → pKp bu x t n f' g) (h2 : ∀ g : Nat, g < F → pKp bu x t n f g) : ∀ f' : Nat, f' < f + 1 → ∀ g : Nat, g < F → pKp bu x t n f' g := fun f' hf' => (Nat.lt_succ_iff_lt_or_eq.mp hf').elim (fun z => h f' z) (fun z => by rw [z]; exact h2)
theorem xP_nz (p : Prop) : narrow .boolean (.int (xP p)) = .int (xP p) := by
  by_cases h : p
  · rw [xP_t h]; decide
  · rw [xP_f h]; decide
theorem pAp_lt {f g : Nat} (hf : f < 100) (hg : g < 100) : (if f < g then g - f else f - g) < 2 ^ 31 := by
  split <;> omega
theorem pKp_all1 {bu : Nat → Int32} {F x t n f g : Nat} (h : (∀ f9 : Nat, f9 < f → ∀ g9 : Nat, g9 < F → pKp bu x t n f9 g9) ∧ ∀ g9 : Nat, g9 < g → pKp bu x t n f g9) (h2 : ¬ ((¬ bu (8 * x + f) = 0 ∧ ¬ bu (8 * t + g) = 0) ∧ (¬ x = t ∨ ¬ f = g))) : (∀ f9 : Nat, f9 < f → ∀ g9 : Nat, g9 < F → pKp bu x t n f9 g9) ∧ ∀ g9 : Nat, g9 < g + 1 → pKp bu x t n f g9 :=
  ⟨h.1, fun g9 hg9 => (Nat.lt_succ_iff_lt_or_eq.mp hg9).elim (fun z => h.2 g9 z) (fun z => by rw [z]; exact fun a b e => absurd ⟨⟨a, b⟩, e⟩ h2)⟩
theorem pKp_all2 {bu : Nat → Int32} {F x t n f g : Nat} (h : (∀ f9 : Nat, f9 < f → ∀ g9 : Nat, g9 < F → pKp bu x t n f9 g9) ∧ ∀ g9 : Nat, g9 < g → pKp bu x t n f g9) (h2 : n ≤ (if f < g then g - f else f - g)) : (∀ f9 : Nat, f9 < f → ∀ g9 : Nat, g9 < F → pKp bu x t n f9 g9) ∧ ∀ g9 : Nat, g9 < g + 1 → pKp bu x t n f g9 :=
  ⟨h.1, fun g9 hg9 => (Nat.lt_succ_iff_lt_or_eq.mp hg9).elim (fun z => h.2 g9 z) (fun z => by rw [z]; exact fun _ _ _ => h2)⟩
theorem dX7_keeps_0 : decode cX7_keeps 0 = .ok (.iconst 1, 1) := by decide +kernel
theorem dX7_keeps_1 : decode cX7_keeps 1 = .ok (.istore 4, 2) := by decide +kernel
theorem dX7_keeps_3 : decode cX7_keeps 3 = .ok (.iconst 0, 1) := by decide +kernel
theorem dX7_keeps_4 : decode cX7_keeps 4 = .ok (.istore 5, 2) := by decide +kernel
theorem dX7_keeps_6 : decode cX7_keeps 6 = .ok (.iload 5, 2) := by decide +kernel
theorem dX7_keeps_8 : decode cX7_keeps 8 = .ok (.aload_n 0, 1) := by decide +kernel
theorem dX7_keeps_9 : decode cX7_keeps 9 = .ok (.getfield 45, 3) := by decide +kernel
theorem dX7_keeps_12 : decode cX7_keeps 12 = .ok (.if_icmp .ge 121, 3) := by decide +kernel
theorem dX7_keeps_15 : decode cX7_keeps 15 = .ok (.iconst 0, 1) := by decide +kernel
theorem dX7_keeps_16 : decode cX7_keeps 16 = .ok (.istore 6, 2) := by decide +kernel
theorem dX7_keeps_18 : decode cX7_keeps 18 = .ok (.iload 6, 2) := by decide +kernel
theorem dX7_keeps_20 : decode cX7_keeps 20 = .ok (.aload_n 0, 1) := by decide +kernel
theorem dX7_keeps_21 : decode cX7_keeps 21 = .ok (.getfield 45, 3) := by decide +kernel
theorem dX7_keeps_24 : decode cX7_keeps 24 = .ok (.if_icmp .ge 103, 3) := by decide +kernel
theorem dX7_keeps_27 : decode cX7_keeps 27 = .ok (.aload_n 0, 1) := by decide +kernel
theorem dX7_keeps_28 : decode cX7_keeps 28 = .ok (.getfield 23, 3) := by decide +kernel
theorem dX7_keeps_31 : decode cX7_keeps 31 = .ok (.bipush 8, 2) := by decide +kernel
theorem dX7_keeps_33 : decode cX7_keeps 33 = .ok (.iload_n 1, 1) := by decide +kernel
theorem dX7_keeps_34 : decode cX7_keeps 34 = .ok (.imul, 1) := by decide +kernel
theorem dX7_keeps_35 : decode cX7_keeps 35 = .ok (.iload 5, 2) := by decide +kernel
theorem dX7_keeps_37 : decode cX7_keeps 37 = .ok (.iadd, 1) := by decide +kernel
theorem dX7_keeps_38 : decode cX7_keeps 38 = .ok (.baload, 1) := by decide +kernel
theorem dX7_keeps_39 : decode cX7_keeps 39 = .ok (.ifCond .eq 34, 3) := by decide +kernel
theorem dX7_keeps_42 : decode cX7_keeps 42 = .ok (.aload_n 0, 1) := by decide +kernel
theorem dX7_keeps_43 : decode cX7_keeps 43 = .ok (.getfield 23, 3) := by decide +kernel
theorem dX7_keeps_46 : decode cX7_keeps 46 = .ok (.bipush 8, 2) := by decide +kernel
theorem dX7_keeps_48 : decode cX7_keeps 48 = .ok (.iload_n 2, 1) := by decide +kernel
theorem dX7_keeps_49 : decode cX7_keeps 49 = .ok (.imul, 1) := by decide +kernel
theorem dX7_keeps_50 : decode cX7_keeps 50 = .ok (.iload 6, 2) := by decide +kernel
theorem dX7_keeps_52 : decode cX7_keeps 52 = .ok (.iadd, 1) := by decide +kernel
theorem dX7_keeps_53 : decode cX7_keeps 53 = .ok (.baload, 1) := by decide +kernel
theorem dX7_keeps_54 : decode cX7_keeps 54 = .ok (.ifCond .eq 19, 3) := by decide +kernel
theorem dX7_keeps_57 : decode cX7_keeps 57 = .ok (.iload_n 1, 1) := by decide +kernel
theorem dX7_keeps_58 : decode cX7_keeps 58 = .ok (.iload_n 2, 1) := by decide +kernel
theorem dX7_keeps_59 : decode cX7_keeps 59 = .ok (.if_icmp .ne 10, 3) := by decide +kernel
theorem dX7_keeps_62 : decode cX7_keeps 62 = .ok (.iload 5, 2) := by decide +kernel
theorem dX7_keeps_64 : decode cX7_keeps 64 = .ok (.iload 6, 2) := by decide +kernel
theorem dX7_keeps_66 : decode cX7_keeps 66 = .ok (.if_icmp .eq 7, 3) := by decide +kernel
theorem dX7_keeps_69 : decode cX7_keeps 69 = .ok (.iconst 1, 1) := by decide +kernel
theorem dX7_keeps_70 : decode cX7_keeps 70 = .ok (.goto 4, 3) := by decide +kernel
theorem dX7_keeps_73 : decode cX7_keeps 73 = .ok (.iconst 0, 1) := by decide +kernel
theorem dX7_keeps_74 : decode cX7_keeps 74 = .ok (.istore 7, 2) := by decide +kernel
theorem dX7_keeps_76 : decode cX7_keeps 76 = .ok (.iload 5, 2) := by decide +kernel
theorem dX7_keeps_78 : decode cX7_keeps 78 = .ok (.iload 6, 2) := by decide +kernel
theorem dX7_keeps_80 : decode cX7_keeps 80 = .ok (.if_icmp .ge 11, 3) := by decide +kernel
theorem dX7_keeps_83 : decode cX7_keeps 83 = .ok (.iload 6, 2) := by decide +kernel
theorem dX7_keeps_85 : decode cX7_keeps 85 = .ok (.iload 5, 2) := by decide +kernel
theorem dX7_keeps_87 : decode cX7_keeps 87 = .ok (.isub, 1) := by decide +kernel
theorem dX7_keeps_88 : decode cX7_keeps 88 = .ok (.goto 8, 3) := by decide +kernel
theorem dX7_keeps_91 : decode cX7_keeps 91 = .ok (.iload 5, 2) := by decide +kernel
theorem dX7_keeps_93 : decode cX7_keeps 93 = .ok (.iload 6, 2) := by decide +kernel
theorem dX7_keeps_95 : decode cX7_keeps 95 = .ok (.isub, 1) := by decide +kernel
theorem dX7_keeps_96 : decode cX7_keeps 96 = .ok (.istore 8, 2) := by decide +kernel
theorem dX7_keeps_98 : decode cX7_keeps 98 = .ok (.iload 4, 2) := by decide +kernel
theorem dX7_keeps_100 : decode cX7_keeps 100 = .ok (.ifCond .eq 18, 3) := by decide +kernel
theorem dX7_keeps_103 : decode cX7_keeps 103 = .ok (.iload 7, 2) := by decide +kernel
theorem dX7_keeps_105 : decode cX7_keeps 105 = .ok (.ifCond .eq 9, 3) := by decide +kernel
theorem dX7_keeps_108 : decode cX7_keeps 108 = .ok (.iload 8, 2) := by decide +kernel
theorem dX7_keeps_110 : decode cX7_keeps 110 = .ok (.iload_n 3, 1) := by decide +kernel
theorem dX7_keeps_111 : decode cX7_keeps 111 = .ok (.if_icmp .lt 7, 3) := by decide +kernel
theorem dX7_keeps_114 : decode cX7_keeps 114 = .ok (.iconst 1, 1) := by decide +kernel
theorem dX7_keeps_115 : decode cX7_keeps 115 = .ok (.goto 4, 3) := by decide +kernel
theorem dX7_keeps_118 : decode cX7_keeps 118 = .ok (.iconst 0, 1) := by decide +kernel
theorem dX7_keeps_119 : decode cX7_keeps 119 = .ok (.istore 4, 2) := by decide +kernel
theorem dX7_keeps_121 : decode cX7_keeps 121 = .ok (.iinc 6 1, 3) := by decide +kernel
theorem dX7_keeps_124 : decode cX7_keeps 124 = .ok (.goto (-106), 3) := by decide +kernel
theorem dX7_keeps_127 : decode cX7_keeps 127 = .ok (.iinc 5 1, 3) := by decide +kernel
theorem dX7_keeps_130 : decode cX7_keeps 130 = .ok (.goto (-124), 3) := by decide +kernel
theorem dX7_keeps_133 : decode cX7_keeps 133 = .ok (.iload 4, 2) := by decide +kernel
theorem dX7_keeps_135 : decode cX7_keeps 135 = .ok (.ireturn, 1) := by decide +kernel
abbrev rm_X7_keeps : Room := { frames := 5, cells := 0, slots := 0, locals := 40 }
theorem hw_X7_keeps_1 : (Cond.fieldLink RX7 45 "PlankUnrollModel" "frames" "I") ∈ wsX7_keeps := List.mem_of_getElem? (i := 1) rfl
theorem hw_X7_keeps_2 : (Cond.fieldLink RX7 23 "PlankUnrollModel" "butts" "[Z") ∈ wsX7_keeps := List.mem_of_getElem? (i := 2) rfl
theorem in_X7_keeps_X7 : ∀ w ∈ wsX70, w ∈ wsX7_keeps := by decide +kernel
set_option maxHeartbeats 4000000 in
set_option maxRecDepth 100000 in
/-- whether butts keep a span -/
theorem c_X7_keeps {l : Launch} {G : va_G} {ty : Nat → ClassId} {b0 : Nat} {H : Heap} {m0 : Nat} {A : Nat → Nat} {th : Int32} {F R nb : Nat} {pl co dr wi hi fa : Nat → UInt64} {un bu fc lo la : Nat → Int32} {px py pz : UInt64} (hY : xRef G ty m0 A th F R pl un co dr bu nb wi hi fc fa lo la px py pz H) (hZ : xSz F R) {x t n : Nat} (hx9 : x < R - 1) (ht9 : t < R) (hn : n < 100) : xMet l yX7_keeps wsX7_keeps rm_X7_keeps G ty b0 [.ref m0, .int (nI x), .int (nI t), .int (nI n)] H (fun v H1 => H = H1 ∧ v = some (.int (xP (pKeeps bu F x t n)))) (fun _ _ => False) := by
  refine xbody (cc := cX7_keeps) (maxL := 9) (ret := (some .boolean)) (C := RX7) (lv := [(0, .ref m0), (1, .int (nI x)), (2, .int (nI t)), (3, .int (nI n))]) (by decide) rfl rfl (Nat.le_of_ble_eq_true rfl) rfl ?_
  intro p e s m below meth c d0 hx hb hr hts hown hlocks hml hxt hnm0 hK hb0 hH0 hS hd0 ls hl
  obtain ⟨y_o, y_0, y_1, y_2, y_3, y_4, y_5, y_6, y_7, y_8, y_9, y_10⟩ := id hY
  obtain ⟨⟨zF2, zF8⟩, ⟨zR2, zR8⟩⟩ := id hZ
  refine lv_iconst (v := nI 1) hx hb dX7_keeps_0 (by decide) ?_
  refine lv_istore (lv' := [(4, .int (nI 1)), (0, .ref m0), (1, .int (nI x)), (2, .int (nI t)), (3, .int (nI n))]) hx hb dX7_keeps_1 hl (by decide) rfl (fun ls hl => ?_)
  refine lv_iconst (v := nI 0) hx hb dX7_keeps_3 (by decide) ?_
  refine lv_istore (lv' := [(5, .int (nI 0)), (4, .int (nI 1)), (0, .ref m0), (1, .int (nI x)), (2, .int (nI t)), (3, .int (nI n))]) hx hb dX7_keeps_4 hl (by decide) rfl (fun ls hl => ?_)
  have e0 : nI 1 = xP (∀ f9 : Nat, f9 < 0 → ∀ g9 : Nat, g9 < F → pKp bu x t n f9 g9) := (xP_t (fun _ h => absurd h (Nat.not_lt_zero _))).symm
  suffices K : ∀ (k : Nat) (f : Nat) (locs : List Loc) (d0 : Drawn) (ls : Array Slot), f + k = F → va_S (xA b0) s.heap H locs → s.drawn.sameBut d0 lw_cs → lv_has ls 9 [(5, .int (nI f)), (4, .int (xP (∀ f9 : Nat, f9 < f → ∀ g9 : Nat, g9 < F → pKp bu x t n f9 g9))), (0, .ref m0), (1, .int (nI x)), (2, .int (nI t)), (3, .int (nI n))] → W p l e rm_X7_keeps (s.setDrawn d0) m [Value.ref m0, Value.int (nI x), Value.int (nI t), Value.int (nI n)].toArray below meth c H locs (0) (0) (xMQ below (fun v H1 => H = H1 ∧ v = some (.int (xP (pKeeps bu F x t n)))) (fun _ _ => False) [.ref m0, .int (nI x), .int (nI t), .int (nI n)].toArray s rm_X7_keeps b0) (F0 m 6 ls []) from K F 0 _ d0 ls (by omega) hS hd0 (by rw [← e0]; exact lv_sub hl [0, 1, 2, 3, 4, 5] rfl)
  intro k
  induction k with
  | zero =>
    intro f locs d0 ls hinv hS hd0 hl
    refine lv_iload hx hb dX7_keeps_6 (lv_at hl 0 rfl) ?_
    refine lv_aload_n hx hb dX7_keeps_8 rfl (lv_at hl 2 rfl) ?_
    refine va_get (D := G) (cl := vwCl) (ci := 8) (v := .int (nI F)) (C := RX7) (T := TX7) (N := 18) hx hb (hts _) in_X7_keeps_X7 hown hK.1 (x1 y_o) 0 rfl rfl 1 (by decide) (hts _ _ hw_X7_keeps_1) (fun _ h9 => h9) rfl dX7_keeps_9 ?_
    refine xicmpN_ge (tgt := 133) hx hb (by omega) (by omega) dX7_keeps_12 (by decide) (fun _ => ?_) (fun h9 => absurd h9 (by omega))
    refine lv_iload hx hb dX7_keeps_133 (lv_at hl 1 rfl) ?_
    exact xzret (xP_nz _) hd0 hx hb hr hlocks hS (Nat.le_of_ble_eq_true rfl) (Nat.le_of_ble_eq_true rfl) dX7_keeps_135 ⟨rfl, by have e9 : f = F := (by omega); subst e9; rfl⟩
  | succ k ih =>
    intro f locs d0 ls hinv hS hd0 hl
    refine lv_iload hx hb dX7_keeps_6 (lv_at hl 0 rfl) ?_
    refine lv_aload_n hx hb dX7_keeps_8 rfl (lv_at hl 2 rfl) ?_
    refine va_get (D := G) (cl := vwCl) (ci := 8) (v := .int (nI F)) (C := RX7) (T := TX7) (N := 18) hx hb (hts _) in_X7_keeps_X7 hown hK.1 (x1 y_o) 0 rfl rfl 1 (by decide) (hts _ _ hw_X7_keeps_1) (fun _ h9 => h9) rfl dX7_keeps_9 ?_
    refine xicmpN_ge (tgt := 133) hx hb (by omega) (by omega) dX7_keeps_12 (by decide) (fun h9 => absurd h9 (by omega)) (fun _ => ?_)
    refine lv_iconst (v := nI 0) hx hb dX7_keeps_15 (by decide) ?_
    refine lv_istore (lv' := [(6, .int (nI 0)), (5, .int (nI f)), (4, .int (xP (∀ f9 : Nat, f9 < f → ∀ g9 : Nat, g9 < F → pKp bu x t n f9 g9))), (0, .ref m0), (1, .int (nI x)), (2, .int (nI t)), (3, .int (nI n))]) hx hb dX7_keeps_16 hl (by decide) rfl (fun ls hl => ?_)
    have e1 : xP (∀ f9 : Nat, f9 < f → ∀ g9 : Nat, g9 < F → pKp bu x t n f9 g9) = xP ((∀ f9 : Nat, f9 < f → ∀ g9 : Nat, g9 < F → pKp bu x t n f9 g9) ∧ ∀ g9 : Nat, g9 < 0 → pKp bu x t n f g9) := xP_cg ⟨fun h => ⟨h, fun _ h => absurd h (Nat.not_lt_zero _)⟩, fun h => h.1⟩
    suffices K : ∀ (q : Nat) (g : Nat) (locs : List Loc) (d0 : Drawn) (ls : Array Slot), g + q = F → va_S (xA b0) s.heap H locs → s.drawn.sameBut d0 lw_cs → lv_has ls 9 [(6, .int (nI g)), (4, .int (xP ((∀ f9 : Nat, f9 < f → ∀ g9 : Nat, g9 < F → pKp bu x t n f9 g9) ∧ ∀ g9 : Nat, g9 < g → pKp bu x t n f g9))), (5, .int (nI f)), (0, .ref m0), (1, .int (nI x)), (2, .int (nI t)), (3, .int (nI n))] → W p l e rm_X7_keeps (s.setDrawn d0) m [Value.ref m0, Value.int (nI x), Value.int (nI t), Value.int (nI n)].toArray below meth c H locs (0) (0) (xMQ below (fun v H1 => H = H1 ∧ v = some (.int (xP (pKeeps bu F x t n)))) (fun _ _ => False) [.ref m0, .int (nI x), .int (nI t), .int (nI n)].toArray s rm_X7_keeps b0) (F0 m 18 ls []) from K F 0 _ d0 ls (by omega) hS hd0 (by rw [← e1]; exact lv_sub hl [0, 2, 1, 3, 4, 5, 6] rfl)
    intro q
    induction q with
    | zero =>
      intro g locs d0 ls hinv hS hd0 hl
      refine lv_iload hx hb dX7_keeps_18 (lv_at hl 0 rfl) ?_
      refine lv_aload_n hx hb dX7_keeps_20 rfl (lv_at hl 3 rfl) ?_
      refine va_get (D := G) (cl := vwCl) (ci := 8) (v := .int (nI F)) (C := RX7) (T := TX7) (N := 18) hx hb (hts _) in_X7_keeps_X7 hown hK.1 (x1 y_o) 0 rfl rfl 1 (by decide) (hts _ _ hw_X7_keeps_1) (fun _ h9 => h9) rfl dX7_keeps_21 ?_
      refine xicmpN_ge (tgt := 127) hx hb (by omega) (by omega) dX7_keeps_24 (by decide) (fun _ => ?_) (fun h9 => absurd h9 (by omega))
      refine xiincN (x := f) (y := 1) (lv' := [(5, .int (nI (f + 1))), (6, .int (nI g)), (4, .int (xP ((∀ f9 : Nat, f9 < f → ∀ g9 : Nat, g9 < F → pKp bu x t n f9 g9) ∧ ∀ g9 : Nat, g9 < g → pKp bu x t n f g9))), (0, .ref m0), (1, .int (nI x)), (2, .int (nI t)), (3, .int (nI n))]) hx hb dX7_keeps_127 hl (k := 2) rfl (by decide) (by decide) rfl (fun ls hl => ?_)
      refine lv_goto (tgt := 6) hx hb dX7_keeps_130 (by decide) ?_
      refine ih (f + 1) _ d0 ls (by omega) hS hd0 ?_
      rw [show xP (∀ f9 : Nat, f9 < f + 1 → ∀ g9 : Nat, g9 < F → pKp bu x t n f9 g9) = xP ((∀ f9 : Nat, f9 < f → ∀ g9 : Nat, g9 < F → pKp bu x t n f9 g9) ∧ ∀ g9 : Nat, g9 < g → pKp bu x t n f g9) from xP_cg ⟨fun h => ⟨fun f9 hf9 => h f9 (by omega), fun g9 hg9 => h f (by omega) g9 (by omega)⟩, fun h => pKeeps_s h.1 (fun g9 hg9 => h.2 g9 (by omega))⟩]
      exact lv_sub hl [0, 2, 3, 4, 5, 6] rfl
    | succ q ih2 =>
      intro g locs d0 ls hinv hS hd0 hl
      refine lv_iload hx hb dX7_keeps_18 (lv_at hl 0 rfl) ?_
      refine lv_aload_n hx hb dX7_keeps_20 rfl (lv_at hl 3 rfl) ?_
      refine va_get (D := G) (cl := vwCl) (ci := 8) (v := .int (nI F)) (C := RX7) (T := TX7) (N := 18) hx hb (hts _) in_X7_keeps_X7 hown hK.1 (x1 y_o) 0 rfl rfl 1 (by decide) (hts _ _ hw_X7_keeps_1) (fun _ h9 => h9) rfl dX7_keeps_21 ?_
      refine xicmpN_ge (tgt := 127) hx hb (by omega) (by omega) dX7_keeps_24 (by decide) (fun h9 => absurd h9 (by omega)) (fun _ => ?_)
      have J_5 : ∀ (y : Int32) (locs : List Loc) (d0 : Drawn) (ls : Array Slot), y = (xP ((∀ f9 : Nat, f9 < f → ∀ g9 : Nat, g9 < F → pKp bu x t n f9 g9) ∧ ∀ g9 : Nat, g9 < g + 1 → pKp bu x t n f g9)) → va_S (xA b0) s.heap H locs → s.drawn.sameBut d0 lw_cs → lv_has ls 9 [(6, .int (nI g)), (4, .int (xP ((∀ f9 : Nat, f9 < f → ∀ g9 : Nat, g9 < F → pKp bu x t n f9 g9) ∧ ∀ g9 : Nat, g9 < g → pKp bu x t n f g9))), (5, .int (nI f)), (0, .ref m0), (1, .int (nI x)), (2, .int (nI t)), (3, .int (nI n))] → W p l e rm_X7_keeps (s.setDrawn d0) m [Value.ref m0, Value.int (nI x), Value.int (nI t), Value.int (nI n)].toArray below meth c H locs (0) (0) (xMQ below (fun v H1 => H = H1 ∧ v = some (.int (xP (pKeeps bu F x t n)))) (fun _ _ => False) [.ref m0, .int (nI x), .int (nI t), .int (nI n)].toArray s rm_X7_keeps b0) (F0 m 119 ls [.int (y)]) := by
        intro y locs d0 ls hP_5 hS hd0 hl
        subst hP_5
        refine lv_istore (lv' := [(4, .int ((xP ((∀ f9 : Nat, f9 < f → ∀ g9 : Nat, g9 < F → pKp bu x t n f9 g9) ∧ ∀ g9 : Nat, g9 < g + 1 → pKp bu x t n f g9)))), (6, .int (nI g)), (5, .int (nI f)), (0, .ref m0), (1, .int (nI x)), (2, .int (nI t)), (3, .int (nI n))]) hx hb dX7_keeps_119 hl (by decide) rfl (fun ls hl => ?_)
        refine xiincN (x := g) (y := 1) (lv' := [(6, .int (nI (g + 1))), (4, .int ((xP ((∀ f9 : Nat, f9 < f → ∀ g9 : Nat, g9 < F → pKp bu x t n f9 g9) ∧ ∀ g9 : Nat, g9 < g + 1 → pKp bu x t n f g9)))), (5, .int (nI f)), (0, .ref m0), (1, .int (nI x)), (2, .int (nI t)), (3, .int (nI n))]) hx hb dX7_keeps_121 hl (k := 1) rfl (by decide) (by decide) rfl (fun ls hl => ?_)
        refine lv_goto (tgt := 18) hx hb dX7_keeps_124 (by decide) ?_
        exact ih2 (g + 1) _ d0 ls (by omega) hS hd0 (lv_sub hl [0, 1, 2, 3, 4, 5, 6] rfl)
      have J_6 : ∀ (y : Int32) (locs : List Loc) (d0 : Drawn) (ls : Array Slot), y = (nI (if f < g then g - f else f - g)) → va_S (xA b0) s.heap H locs → s.drawn.sameBut d0 lw_cs → lv_has ls 9 [(7, .int (xP ((¬ bu (8 * x + f) = 0 ∧ ¬ bu (8 * t + g) = 0) ∧ (¬ x = t ∨ ¬ f = g)))), (6, .int (nI g)), (4, .int (xP ((∀ f9 : Nat, f9 < f → ∀ g9 : Nat, g9 < F → pKp bu x t n f9 g9) ∧ ∀ g9 : Nat, g9 < g → pKp bu x t n f g9))), (5, .int (nI f)), (0, .ref m0), (1, .int (nI x)), (2, .int (nI t)), (3, .int (nI n))] → W p l e rm_X7_keeps (s.setDrawn d0) m [Value.ref m0, Value.int (nI x), Value.int (nI t), Value.int (nI n)].toArray below meth c H locs (0) (0) (xMQ below (fun v H1 => H = H1 ∧ v = some (.int (xP (pKeeps bu F x t n)))) (fun _ _ => False) [.ref m0, .int (nI x), .int (nI t), .int (nI n)].toArray s rm_X7_keeps b0) (F0 m 96 ls [.int (y)]) := by
        intro y locs d0 ls hP_6 hS hd0 hl
        subst hP_6
        refine lv_istore (lv' := [(8, .int ((nI (if f < g then g - f else f - g)))), (7, .int (xP ((¬ bu (8 * x + f) = 0 ∧ ¬ bu (8 * t + g) = 0) ∧ (¬ x = t ∨ ¬ f = g)))), (6, .int (nI g)), (4, .int (xP ((∀ f9 : Nat, f9 < f → ∀ g9 : Nat, g9 < F → pKp bu x t n f9 g9) ∧ ∀ g9 : Nat, g9 < g → pKp bu x t n f g9))), (5, .int (nI f)), (0, .ref m0), (1, .int (nI x)), (2, .int (nI t)), (3, .int (nI n))]) hx hb dX7_keeps_96 hl (by decide) rfl (fun ls hl => ?_)
        refine lv_iload hx hb dX7_keeps_98 (lv_at hl 3 rfl) ?_
        refine lv_if_eq (tgt := 118) hx hb dX7_keeps_100 (by decide) (fun c_7 => ?_) (fun c_7 => ?_)
        · refine lv_iconst (v := nI 0) hx hb dX7_keeps_118 (by decide) ?_
          exact J_5 _ _ d0 ls (xP_f (fun h => xP_eq.mp c_7 ⟨h.1, fun g9 hg9 => h.2 g9 (by omega)⟩)).symm hS hd0 (lv_sub hl [2, 3, 4, 5, 6, 7, 8] rfl)
        · refine lv_iload hx hb dX7_keeps_103 (lv_at hl 1 rfl) ?_
          refine lv_if_eq (tgt := 114) hx hb dX7_keeps_105 (by decide) (fun c_8 => ?_) (fun c_8 => ?_)
          · refine lv_iconst (v := nI 1) hx hb dX7_keeps_114 (by decide) ?_
            refine lv_goto (tgt := 119) hx hb dX7_keeps_115 (by decide) ?_
            exact J_5 _ _ d0 ls (xP_t (pKp_all1 (xP_ne.mp c_7) (xP_eq.mp c_8))).symm hS hd0 (lv_sub hl [2, 3, 4, 5, 6, 7, 8] rfl)
          · refine lv_iload hx hb dX7_keeps_108 (lv_at hl 0 rfl) ?_
            refine lv_iload_n hx hb dX7_keeps_110 rfl (lv_at hl 8 rfl) ?_
            refine xicmpN_lt (tgt := 118) hx hb (pAp_lt (by omega) (by omega)) (by omega) dX7_keeps_111 (by decide) (fun c_9 => ?_) (fun c_9 => ?_)
            · refine lv_iconst (v := nI 0) hx hb dX7_keeps_118 (by decide) ?_
              exact J_5 _ _ d0 ls (xP_f (fun h => absurd (h.2 g (by omega) (xP_ne.mp c_8).1.1 (xP_ne.mp c_8).1.2 (xP_ne.mp c_8).2) (Nat.not_le.mpr c_9))).symm hS hd0 (lv_sub hl [2, 3, 4, 5, 6, 7, 8] rfl)
            · refine lv_iconst (v := nI 1) hx hb dX7_keeps_114 (by decide) ?_
              refine lv_goto (tgt := 119) hx hb dX7_keeps_115 (by decide) ?_
              exact J_5 _ _ d0 ls (xP_t (pKp_all2 (xP_ne.mp c_7) c_9)).symm hS hd0 (lv_sub hl [2, 3, 4, 5, 6, 7, 8] rfl)
      have J_10 : ∀ (y : Int32) (locs : List Loc) (d0 : Drawn) (ls : Array Slot), y = (xP ((¬ bu (8 * x + f) = 0 ∧ ¬ bu (8 * t + g) = 0) ∧ (¬ x = t ∨ ¬ f = g))) → va_S (xA b0) s.heap H locs → s.drawn.sameBut d0 lw_cs → lv_has ls 9 [(6, .int (nI g)), (4, .int (xP ((∀ f9 : Nat, f9 < f → ∀ g9 : Nat, g9 < F → pKp bu x t n f9 g9) ∧ ∀ g9 : Nat, g9 < g → pKp bu x t n f g9))), (5, .int (nI f)), (0, .ref m0), (1, .int (nI x)), (2, .int (nI t)), (3, .int (nI n))] → W p l e rm_X7_keeps (s.setDrawn d0) m [Value.ref m0, Value.int (nI x), Value.int (nI t), Value.int (nI n)].toArray below meth c H locs (0) (0) (xMQ below (fun v H1 => H = H1 ∧ v = some (.int (xP (pKeeps bu F x t n)))) (fun _ _ => False) [.ref m0, .int (nI x), .int (nI t), .int (nI n)].toArray s rm_X7_keeps b0) (F0 m 74 ls [.int (y)]) := by
        intro y locs d0 ls hP_10 hS hd0 hl
        subst hP_10
        refine lv_istore (lv' := [(7, .int ((xP ((¬ bu (8 * x + f) = 0 ∧ ¬ bu (8 * t + g) = 0) ∧ (¬ x = t ∨ ¬ f = g))))), (6, .int (nI g)), (4, .int (xP ((∀ f9 : Nat, f9 < f → ∀ g9 : Nat, g9 < F → pKp bu x t n f9 g9) ∧ ∀ g9 : Nat, g9 < g → pKp bu x t n f g9))), (5, .int (nI f)), (0, .ref m0), (1, .int (nI x)), (2, .int (nI t)), (3, .int (nI n))]) hx hb dX7_keeps_74 hl (by decide) rfl (fun ls hl => ?_)
        refine lv_iload hx hb dX7_keeps_76 (lv_at hl 3 rfl) ?_
        refine lv_iload hx hb dX7_keeps_78 (lv_at hl 1 rfl) ?_
        refine xicmpN_ge (tgt := 91) hx hb (by omega) (by omega) dX7_keeps_80 (by decide) (fun c_11 => ?_) (fun c_11 => ?_)
        · refine lv_iload hx hb dX7_keeps_91 (lv_at hl 3 rfl) ?_
          refine lv_iload hx hb dX7_keeps_93 (lv_at hl 1 rfl) ?_
          refine xisubN hx hb (by assumption) dX7_keeps_95 ?_
          exact J_6 _ _ d0 ls (congrArg nI (if_neg (Nat.not_lt.mpr c_11)).symm) hS hd0 (lv_sub hl [0, 1, 2, 3, 4, 5, 6, 7] rfl)
        · refine lv_iload hx hb dX7_keeps_83 (lv_at hl 1 rfl) ?_
          refine lv_iload hx hb dX7_keeps_85 (lv_at hl 3 rfl) ?_
          refine xisubN hx hb (Nat.le_of_lt (by assumption)) dX7_keeps_87 ?_
          refine lv_goto (tgt := 96) hx hb dX7_keeps_88 (by decide) ?_
          exact J_6 _ _ d0 ls (congrArg nI (if_pos c_11).symm) hS hd0 (lv_sub hl [0, 1, 2, 3, 4, 5, 6, 7] rfl)
      refine lv_aload_n hx hb dX7_keeps_27 rfl (lv_at hl 3 rfl) ?_
      refine va_get (D := G) (cl := vwCl) (ci := 8) (v := .ref (A 4)) (C := RX7) (T := TX7) (N := 18) hx hb (hts _) in_X7_keeps_X7 hown hK.1 (x1 y_o) 0 rfl rfl 7 (by decide) (hts _ _ hw_X7_keeps_2) (fun _ h9 => h9) rfl dX7_keeps_28 ?_
      refine lv_bipush (v := nI 8) hx hb dX7_keeps_31 (by decide) ?_
      refine lv_iload_n hx hb dX7_keeps_33 rfl (lv_at hl 4 rfl) ?_
      refine ximulN hx hb dX7_keeps_34 ?_
      refine lv_iload hx hb dX7_keeps_35 (lv_at hl 2 rfl) ?_
      refine xiaddN hx hb dX7_keeps_37 ?_
      refine xzald (j := (8 * x) + f) hx hb hK.1 2 y_4 rfl (xix_of (by omega) (by omega)) dX7_keeps_38 ?_
      refine lv_if_eq (tgt := 73) hx hb dX7_keeps_39 (by decide) (fun c_12 => ?_) (fun c_12 => ?_)
      · refine lv_iconst (v := nI 0) hx hb dX7_keeps_73 (by decide) ?_
        exact J_10 _ _ d0 ls (xP_f (fun h => h.1.1 c_12)).symm hS hd0 (lv_sub hl [0, 1, 2, 3, 4, 5, 6] rfl)
      · refine lv_aload_n hx hb dX7_keeps_42 rfl (lv_at hl 3 rfl) ?_
        refine va_get (D := G) (cl := vwCl) (ci := 8) (v := .ref (A 4)) (C := RX7) (T := TX7) (N := 18) hx hb (hts _) in_X7_keeps_X7 hown hK.1 (x1 y_o) 0 rfl rfl 7 (by decide) (hts _ _ hw_X7_keeps_2) (fun _ h9 => h9) rfl dX7_keeps_43 ?_
        refine lv_bipush (v := nI 8) hx hb dX7_keeps_46 (by decide) ?_
        refine lv_iload_n hx hb dX7_keeps_48 rfl (lv_at hl 5 rfl) ?_
        refine ximulN hx hb dX7_keeps_49 ?_
        refine lv_iload hx hb dX7_keeps_50 (lv_at hl 0 rfl) ?_
        refine xiaddN hx hb dX7_keeps_52 ?_
        refine xzald (j := (8 * t) + g) hx hb hK.1 2 y_4 rfl (xix_of (by omega) (by omega)) dX7_keeps_53 ?_
        refine lv_if_eq (tgt := 73) hx hb dX7_keeps_54 (by decide) (fun c_13 => ?_) (fun c_13 => ?_)
        · refine lv_iconst (v := nI 0) hx hb dX7_keeps_73 (by decide) ?_
          exact J_10 _ _ d0 ls (xP_f (fun h => h.1.2 c_13)).symm hS hd0 (lv_sub hl [0, 1, 2, 3, 4, 5, 6] rfl)
        · refine lv_iload_n hx hb dX7_keeps_57 rfl (lv_at hl 4 rfl) ?_
          refine lv_iload_n hx hb dX7_keeps_58 rfl (lv_at hl 5 rfl) ?_
          refine xicmpN_ne (tgt := 69) hx hb (by omega) (by omega) dX7_keeps_59 (by decide) (fun c_14 => ?_) (fun c_14 => ?_)
          · refine lv_iconst (v := nI 1) hx hb dX7_keeps_69 (by decide) ?_
            refine lv_goto (tgt := 74) hx hb dX7_keeps_70 (by decide) ?_
            exact J_10 _ _ d0 ls (xP_t ⟨⟨c_12, c_13⟩, Or.inl c_14⟩).symm hS hd0 (lv_sub hl [0, 1, 2, 3, 4, 5, 6] rfl)
          · refine lv_iload hx hb dX7_keeps_62 (lv_at hl 2 rfl) ?_
            refine lv_iload hx hb dX7_keeps_64 (lv_at hl 0 rfl) ?_
            refine xicmpN_eq (tgt := 73) hx hb (by omega) (by omega) dX7_keeps_66 (by decide) (fun c_15 => ?_) (fun c_15 => ?_)
            · refine lv_iconst (v := nI 0) hx hb dX7_keeps_73 (by decide) ?_
              exact J_10 _ _ d0 ls (xP_f (fun h => h.2.elim (fun z => z c_14) (fun z => z c_15))).symm hS hd0 (lv_sub hl [0, 1, 2, 3, 4, 5, 6] rfl)
            · refine lv_iconst (v := nI 1) hx hb dX7_keeps_69 (by decide) ?_
              refine lv_goto (tgt := 74) hx hb dX7_keeps_70 (by decide) ?_
              exact J_10 _ _ d0 ls (xP_t ⟨⟨c_12, c_13⟩, Or.inr c_15⟩).symm hS hd0 (lv_sub hl [0, 1, 2, 3, 4, 5, 6] rfl)
