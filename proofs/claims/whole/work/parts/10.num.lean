/-! NUMBERS: the methods that only reckon. -/
theorem dX6_root_0 : decode cX6_root 0 = .ok (.dload_n 0, 1) := by decide +kernel
theorem dX6_root_1 : decode cX6_root 1 = .ok (.dconst 0, 1) := by decide +kernel
theorem dX6_root_2 : decode cX6_root 2 = .ok (.dcmp .l, 1) := by decide +kernel
theorem dX6_root_3 : decode cX6_root 3 = .ok (.ifCond .gt 5, 3) := by decide +kernel
theorem dX6_root_6 : decode cX6_root 6 = .ok (.dconst 0, 1) := by decide +kernel
theorem dX6_root_7 : decode cX6_root 7 = .ok (.dreturn, 1) := by decide +kernel
theorem dX6_root_8 : decode cX6_root 8 = .ok (.dconst 1, 1) := by decide +kernel
theorem dX6_root_9 : decode cX6_root 9 = .ok (.dload_n 0, 1) := by decide +kernel
theorem dX6_root_10 : decode cX6_root 10 = .ok (.dadd, 1) := by decide +kernel
theorem dX6_root_11 : decode cX6_root 11 = .ok (.dstore_n 2, 1) := by decide +kernel
theorem dX6_root_12 : decode cX6_root 12 = .ok (.iconst 0, 1) := by decide +kernel
theorem dX6_root_13 : decode cX6_root 13 = .ok (.istore 4, 2) := by decide +kernel
theorem dX6_root_15 : decode cX6_root 15 = .ok (.iload 4, 2) := by decide +kernel
theorem dX6_root_17 : decode cX6_root 17 = .ok (.bipush 40, 2) := by decide +kernel
theorem dX6_root_19 : decode cX6_root 19 = .ok (.if_icmp .ge 19, 3) := by decide +kernel
theorem dX6_root_22 : decode cX6_root 22 = .ok (.dload_n 2, 1) := by decide +kernel
theorem dX6_root_23 : decode cX6_root 23 = .ok (.dload_n 0, 1) := by decide +kernel
theorem dX6_root_24 : decode cX6_root 24 = .ok (.dload_n 2, 1) := by decide +kernel
theorem dX6_root_25 : decode cX6_root 25 = .ok (.ddiv, 1) := by decide +kernel
theorem dX6_root_26 : decode cX6_root 26 = .ok (.dadd, 1) := by decide +kernel
theorem dX6_root_27 : decode cX6_root 27 = .ok (.ldc2_w 249, 3) := by decide +kernel
theorem dX6_root_30 : decode cX6_root 30 = .ok (.ddiv, 1) := by decide +kernel
theorem dX6_root_31 : decode cX6_root 31 = .ok (.dstore_n 2, 1) := by decide +kernel
theorem dX6_root_32 : decode cX6_root 32 = .ok (.iinc 4 1, 3) := by decide +kernel
theorem dX6_root_35 : decode cX6_root 35 = .ok (.goto (-20), 3) := by decide +kernel
theorem dX6_root_38 : decode cX6_root 38 = .ok (.dload_n 2, 1) := by decide +kernel
theorem dX6_root_39 : decode cX6_root 39 = .ok (.dreturn, 1) := by decide +kernel
abbrev rm_X6_root : Room := { frames := 5, cells := 0, slots := 0, locals := 40 }
theorem hw_X6_root_1 : (Cond.constantDouble RX6 249 (4611686018427387904)) ∈ wsX6_root := List.mem_of_getElem? (i := 1) rfl
set_option maxHeartbeats 4000000 in
set_option maxRecDepth 100000 in
/-- ROOT -/
theorem c_X6_root {l : Launch} {G : va_G} {ty : Nat → ClassId} {b0 : Nat} {H : Heap} {x z : UInt64} (hz : vq x z) : xMet l yX6_root wsX6_root rm_X6_root G ty b0 [.double x] H (fun v H1 => H = H1 ∧ ∃ r : UInt64, v = some (.double r) ∧ vq r (pRoot z)) (fun _ _ => False) := by
  refine xbody (cc := cX6_root) (maxL := 5) (ret := (some .double)) (C := RX6) (lv := [(0, .double x)]) (by decide) rfl rfl (Nat.le_of_ble_eq_true rfl) rfl ?_
  intro p e s m below meth c d0 hx hb hr hts hown hlocks hml hxt hnm0 hK hb0 hH0 hS hd0 ls hl
  refine lv_dload_n hx hb dX6_root_0 rfl (lv_at hl 0 rfl) ?_
  refine lv_dconst0 hx hb dX6_root_1 ?_
  refine xcmp_l_gt (tgt := 8) hx hb hz (vq_rf _) dX6_root_2 dX6_root_3 (by decide) (fun c_1 => ?_) (fun c_1 => ?_)
  · refine lv_dconst1 hx hb dX6_root_8 ?_
    refine lv_dload_n hx hb dX6_root_9 rfl (lv_at hl 0 rfl) ?_
    refine xdadd hd0 hx hb (vq_rf _) hz dX6_root_10 (fun r_2 d0 q_2 hd0 => ?_)
    refine lv_dstore_n (lv' := [(2, .double r_2), (0, .double x)]) hx hb dX6_root_11 rfl hl (by decide) rfl (fun ls hl => ?_)
    refine lv_iconst (v := nI 0) hx hb dX6_root_12 (by decide) ?_
    refine lv_istore (lv' := [(4, .int (nI 0)), (2, .double r_2), (0, .double x)]) hx hb dX6_root_13 hl (by decide) rfl (fun ls hl => ?_)
    suffices K : ∀ (n k : Nat) (r : UInt64) (d0 : Drawn) (ls : Array Slot), k + n = 40 → s.drawn.sameBut d0 lw_cs → vq r (pIter z k) → lv_has ls 5 [(4, .int (nI k)), (2, .double r), (0, .double x)] → W p l e rm_X6_root (s.setDrawn d0) m [Value.double x].toArray below meth c H [] 0 0 (xMQ below (fun v H1 => H = H1 ∧ ∃ r : UInt64, v = some (.double r) ∧ vq r (pRoot z)) (fun _ _ => False) [.double x].toArray s rm_X6_root b0) (F0 m 15 ls []) from K 40 0 r_2 d0 ls rfl hd0 q_2 hl
    intro n
    induction n with
    | zero =>
      intro k r d0 ls hk hd0 hr9 hl
      refine lv_iload hx hb dX6_root_15 (lv_at hl 0 rfl) ?_
      refine lv_bipush (v := nI 40) hx hb dX6_root_17 (by decide) ?_
      refine xicmpN_ge (tgt := 38) hx hb (by omega) (by decide) dX6_root_19 (by decide) (fun _ => ?_) (fun h9 => absurd h9 (by omega))
      refine lv_dload_n hx hb dX6_root_38 rfl (lv_at hl 1 rfl) ?_
      exact xdret hd0 hx hb hr hlocks hS (Nat.le_of_ble_eq_true rfl) (Nat.le_of_ble_eq_true rfl) dX6_root_39 ⟨rfl, _, rfl, by have e9 : k = 40 := (by omega); subst e9; rw [pRoot, if_pos c_1]; exact hr9⟩
    | succ n ih =>
      intro k r d0 ls hk hd0 hr9 hl
      refine lv_iload hx hb dX6_root_15 (lv_at hl 0 rfl) ?_
      refine lv_bipush (v := nI 40) hx hb dX6_root_17 (by decide) ?_
      refine xicmpN_ge (tgt := 38) hx hb (by omega) (by decide) dX6_root_19 (by decide) (fun h9 => absurd h9 (by omega)) (fun _ => ?_)
      refine lv_dload_n hx hb dX6_root_22 rfl (lv_at hl 1 rfl) ?_
      refine lv_dload_n hx hb dX6_root_23 rfl (lv_at hl 2 rfl) ?_
      refine lv_dload_n hx hb dX6_root_24 rfl (lv_at hl 1 rfl) ?_
      refine xddiv hd0 hx hb hz hr9 dX6_root_25 (fun r_12 d0 q_12 hd0 => ?_)
      refine xdadd hd0 hx hb hr9 q_12 dX6_root_26 (fun r_13 d0 q_13 hd0 => ?_)
      refine lv_ldc2d hx hb hown (hts _ _ hw_X6_root_1) dX6_root_27 ?_
      refine xddiv hd0 hx hb q_13 (vq_rf _) dX6_root_30 (fun r_14 d0 q_14 hd0 => ?_)
      refine lv_dstore_n (lv' := [(2, .double r_14), (4, .int (nI k)), (0, .double x)]) hx hb dX6_root_31 rfl hl (by decide) rfl (fun ls hl => ?_)
      refine xiincN (x := k) (y := 1) (lv' := [(4, .int (nI (k + 1))), (2, .double r_14), (0, .double x)]) hx hb dX6_root_32 hl (k := 1) rfl (by decide) (by decide) rfl (fun ls hl => ?_)
      refine lv_goto (tgt := 15) hx hb dX6_root_35 (by decide) ?_
      exact ih (k + 1) r_14 d0 ls (by omega) hd0 q_14 (lv_sub hl [0, 1, 2] rfl)
  · refine lv_dconst0 hx hb dX6_root_6 ?_
    exact xdret hd0 hx hb hr hlocks hS (Nat.le_of_ble_eq_true rfl) (Nat.le_of_ble_eq_true rfl) dX6_root_7 ⟨rfl, _, rfl, by rw [pRoot, if_neg (fun h => by rw [c_1] at h; cases h)]⟩
theorem dX7_root_0 : decode cX7_root 0 = .ok (.dload_n 0, 1) := by decide +kernel
theorem dX7_root_1 : decode cX7_root 1 = .ok (.dconst 0, 1) := by decide +kernel
theorem dX7_root_2 : decode cX7_root 2 = .ok (.dcmp .l, 1) := by decide +kernel
theorem dX7_root_3 : decode cX7_root 3 = .ok (.ifCond .gt 5, 3) := by decide +kernel
theorem dX7_root_6 : decode cX7_root 6 = .ok (.dconst 0, 1) := by decide +kernel
theorem dX7_root_7 : decode cX7_root 7 = .ok (.dreturn, 1) := by decide +kernel
theorem dX7_root_8 : decode cX7_root 8 = .ok (.dconst 1, 1) := by decide +kernel
theorem dX7_root_9 : decode cX7_root 9 = .ok (.dload_n 0, 1) := by decide +kernel
theorem dX7_root_10 : decode cX7_root 10 = .ok (.dadd, 1) := by decide +kernel
theorem dX7_root_11 : decode cX7_root 11 = .ok (.dstore_n 2, 1) := by decide +kernel
theorem dX7_root_12 : decode cX7_root 12 = .ok (.iconst 0, 1) := by decide +kernel
theorem dX7_root_13 : decode cX7_root 13 = .ok (.istore 4, 2) := by decide +kernel
theorem dX7_root_15 : decode cX7_root 15 = .ok (.iload 4, 2) := by decide +kernel
theorem dX7_root_17 : decode cX7_root 17 = .ok (.bipush 40, 2) := by decide +kernel
theorem dX7_root_19 : decode cX7_root 19 = .ok (.if_icmp .ge 19, 3) := by decide +kernel
theorem dX7_root_22 : decode cX7_root 22 = .ok (.dload_n 2, 1) := by decide +kernel
theorem dX7_root_23 : decode cX7_root 23 = .ok (.dload_n 0, 1) := by decide +kernel
theorem dX7_root_24 : decode cX7_root 24 = .ok (.dload_n 2, 1) := by decide +kernel
theorem dX7_root_25 : decode cX7_root 25 = .ok (.ddiv, 1) := by decide +kernel
theorem dX7_root_26 : decode cX7_root 26 = .ok (.dadd, 1) := by decide +kernel
theorem dX7_root_27 : decode cX7_root 27 = .ok (.ldc2_w 55, 3) := by decide +kernel
theorem dX7_root_30 : decode cX7_root 30 = .ok (.ddiv, 1) := by decide +kernel
theorem dX7_root_31 : decode cX7_root 31 = .ok (.dstore_n 2, 1) := by decide +kernel
theorem dX7_root_32 : decode cX7_root 32 = .ok (.iinc 4 1, 3) := by decide +kernel
theorem dX7_root_35 : decode cX7_root 35 = .ok (.goto (-20), 3) := by decide +kernel
theorem dX7_root_38 : decode cX7_root 38 = .ok (.dload_n 2, 1) := by decide +kernel
theorem dX7_root_39 : decode cX7_root 39 = .ok (.dreturn, 1) := by decide +kernel
abbrev rm_X7_root : Room := { frames := 5, cells := 0, slots := 0, locals := 40 }
theorem hw_X7_root_1 : (Cond.constantDouble RX7 55 (4611686018427387904)) ∈ wsX7_root := List.mem_of_getElem? (i := 1) rfl
set_option maxHeartbeats 4000000 in
set_option maxRecDepth 100000 in
/-- ROOT -/
theorem c_X7_root {l : Launch} {G : va_G} {ty : Nat → ClassId} {b0 : Nat} {H : Heap} {x z : UInt64} (hz : vq x z) : xMet l yX7_root wsX7_root rm_X7_root G ty b0 [.double x] H (fun v H1 => H = H1 ∧ ∃ r : UInt64, v = some (.double r) ∧ vq r (pRoot z)) (fun _ _ => False) := by
  refine xbody (cc := cX7_root) (maxL := 5) (ret := (some .double)) (C := RX7) (lv := [(0, .double x)]) (by decide) rfl rfl (Nat.le_of_ble_eq_true rfl) rfl ?_
  intro p e s m below meth c d0 hx hb hr hts hown hlocks hml hxt hnm0 hK hb0 hH0 hS hd0 ls hl
  refine lv_dload_n hx hb dX7_root_0 rfl (lv_at hl 0 rfl) ?_
  refine lv_dconst0 hx hb dX7_root_1 ?_
  refine xcmp_l_gt (tgt := 8) hx hb hz (vq_rf _) dX7_root_2 dX7_root_3 (by decide) (fun c_1 => ?_) (fun c_1 => ?_)
  · refine lv_dconst1 hx hb dX7_root_8 ?_
    refine lv_dload_n hx hb dX7_root_9 rfl (lv_at hl 0 rfl) ?_
    refine xdadd hd0 hx hb (vq_rf _) hz dX7_root_10 (fun r_2 d0 q_2 hd0 => ?_)
    refine lv_dstore_n (lv' := [(2, .double r_2), (0, .double x)]) hx hb dX7_root_11 rfl hl (by decide) rfl (fun ls hl => ?_)
    refine lv_iconst (v := nI 0) hx hb dX7_root_12 (by decide) ?_
    refine lv_istore (lv' := [(4, .int (nI 0)), (2, .double r_2), (0, .double x)]) hx hb dX7_root_13 hl (by decide) rfl (fun ls hl => ?_)
    suffices K : ∀ (n k : Nat) (r : UInt64) (d0 : Drawn) (ls : Array Slot), k + n = 40 → s.drawn.sameBut d0 lw_cs → vq r (pIter z k) → lv_has ls 5 [(4, .int (nI k)), (2, .double r), (0, .double x)] → W p l e rm_X7_root (s.setDrawn d0) m [Value.double x].toArray below meth c H [] 0 0 (xMQ below (fun v H1 => H = H1 ∧ ∃ r : UInt64, v = some (.double r) ∧ vq r (pRoot z)) (fun _ _ => False) [.double x].toArray s rm_X7_root b0) (F0 m 15 ls []) from K 40 0 r_2 d0 ls rfl hd0 q_2 hl
    intro n
    induction n with
    | zero =>
      intro k r d0 ls hk hd0 hr9 hl
      refine lv_iload hx hb dX7_root_15 (lv_at hl 0 rfl) ?_
      refine lv_bipush (v := nI 40) hx hb dX7_root_17 (by decide) ?_
      refine xicmpN_ge (tgt := 38) hx hb (by omega) (by decide) dX7_root_19 (by decide) (fun _ => ?_) (fun h9 => absurd h9 (by omega))
      refine lv_dload_n hx hb dX7_root_38 rfl (lv_at hl 1 rfl) ?_
      exact xdret hd0 hx hb hr hlocks hS (Nat.le_of_ble_eq_true rfl) (Nat.le_of_ble_eq_true rfl) dX7_root_39 ⟨rfl, _, rfl, by have e9 : k = 40 := (by omega); subst e9; rw [pRoot, if_pos c_1]; exact hr9⟩
    | succ n ih =>
      intro k r d0 ls hk hd0 hr9 hl
      refine lv_iload hx hb dX7_root_15 (lv_at hl 0 rfl) ?_
      refine lv_bipush (v := nI 40) hx hb dX7_root_17 (by decide) ?_
      refine xicmpN_ge (tgt := 38) hx hb (by omega) (by decide) dX7_root_19 (by decide) (fun h9 => absurd h9 (by omega)) (fun _ => ?_)
      refine lv_dload_n hx hb dX7_root_22 rfl (lv_at hl 1 rfl) ?_
      refine lv_dload_n hx hb dX7_root_23 rfl (lv_at hl 2 rfl) ?_
      refine lv_dload_n hx hb dX7_root_24 rfl (lv_at hl 1 rfl) ?_
      refine xddiv hd0 hx hb hz hr9 dX7_root_25 (fun r_12 d0 q_12 hd0 => ?_)
      refine xdadd hd0 hx hb hr9 q_12 dX7_root_26 (fun r_13 d0 q_13 hd0 => ?_)
      refine lv_ldc2d hx hb hown (hts _ _ hw_X7_root_1) dX7_root_27 ?_
      refine xddiv hd0 hx hb q_13 (vq_rf _) dX7_root_30 (fun r_14 d0 q_14 hd0 => ?_)
      refine lv_dstore_n (lv' := [(2, .double r_14), (4, .int (nI k)), (0, .double x)]) hx hb dX7_root_31 rfl hl (by decide) rfl (fun ls hl => ?_)
      refine xiincN (x := k) (y := 1) (lv' := [(4, .int (nI (k + 1))), (2, .double r_14), (0, .double x)]) hx hb dX7_root_32 hl (k := 1) rfl (by decide) (by decide) rfl (fun ls hl => ?_)
      refine lv_goto (tgt := 15) hx hb dX7_root_35 (by decide) ?_
      exact ih (k + 1) r_14 d0 ls (by omega) hd0 q_14 (lv_sub hl [0, 1, 2] rfl)
  · refine lv_dconst0 hx hb dX7_root_6 ?_
    exact xdret hd0 hx hb hr hlocks hS (Nat.le_of_ble_eq_true rfl) (Nat.le_of_ble_eq_true rfl) dX7_root_7 ⟨rfl, _, rfl, by rw [pRoot, if_neg (fun h => by rw [c_1] at h; cases h)]⟩
theorem dX6_within_0 : decode cX6_within 0 = .ok (.dload_n 0, 1) := by decide +kernel
theorem dX6_within_1 : decode cX6_within 1 = .ok (.dload_n 2, 1) := by decide +kernel
theorem dX6_within_2 : decode cX6_within 2 = .ok (.dcmp .l, 1) := by decide +kernel
theorem dX6_within_3 : decode cX6_within 3 = .ok (.ifCond .lt 14, 3) := by decide +kernel
theorem dX6_within_6 : decode cX6_within 6 = .ok (.dload_n 0, 1) := by decide +kernel
theorem dX6_within_7 : decode cX6_within 7 = .ok (.dload 4, 2) := by decide +kernel
theorem dX6_within_9 : decode cX6_within 9 = .ok (.dcmp .g, 1) := by decide +kernel
theorem dX6_within_10 : decode cX6_within 10 = .ok (.ifCond .gt 7, 3) := by decide +kernel
theorem dX6_within_13 : decode cX6_within 13 = .ok (.iconst 1, 1) := by decide +kernel
theorem dX6_within_14 : decode cX6_within 14 = .ok (.goto 4, 3) := by decide +kernel
theorem dX6_within_17 : decode cX6_within 17 = .ok (.iconst 0, 1) := by decide +kernel
theorem dX6_within_18 : decode cX6_within 18 = .ok (.ireturn, 1) := by decide +kernel
abbrev rm_X6_within : Room := { frames := 5, cells := 0, slots := 0, locals := 40 }
set_option maxHeartbeats 4000000 in
set_option maxRecDepth 100000 in
/-- whether a number lies between two -/
theorem c_X6_within {l : Launch} {G : va_G} {ty : Nat → ClassId} {b0 : Nat} {H : Heap} {x y z a b d : UInt64} (hx9 : vq x a) (hy9 : vq y b) (hz9 : vq z d) : xMet l yX6_within wsX6_within rm_X6_within G ty b0 [.double x, .double y, .double z] H (fun v H1 => H = H1 ∧ v = some (.int (xB (pBetween a b d)))) (fun _ _ => False) := by
  refine xbody (cc := cX6_within) (maxL := 6) (ret := (some .boolean)) (C := RX6) (lv := [(0, .double x), (2, .double y), (4, .double z)]) (by decide) rfl rfl (Nat.le_of_ble_eq_true rfl) rfl ?_
  intro p e s m below meth c d0 hx hb hr hts hown hlocks hml hxt hnm0 hK hb0 hH0 hS hd0 ls hl
  refine lv_dload_n hx hb dX6_within_0 rfl (lv_at hl 0 rfl) ?_
  refine lv_dload_n hx hb dX6_within_1 rfl (lv_at hl 1 rfl) ?_
  refine xcmp_l_lt (tgt := 17) hx hb hx9 hy9 dX6_within_2 dX6_within_3 (by decide) (fun c_1 => ?_) (fun c_1 => ?_)
  · refine lv_iconst (v := nI 0) hx hb dX6_within_17 (by decide) ?_
    exact xzret (by decide) hd0 hx hb hr hlocks hS (Nat.le_of_ble_eq_true rfl) (Nat.le_of_ble_eq_true rfl) dX6_within_18 ⟨rfl, by first | rw [pBetween_t (by assumption) (by assumption)]; rfl | rw [pBetween_f1 (by assumption)]; rfl | rw [pBetween_f2 (by assumption) (by assumption)]; rfl⟩
  · refine lv_dload_n hx hb dX6_within_6 rfl (lv_at hl 0 rfl) ?_
    refine lv_dload hx hb dX6_within_7 (lv_at hl 2 rfl) ?_
    refine xcmp_g_gt (tgt := 17) hx hb hx9 hz9 dX6_within_9 dX6_within_10 (by decide) (fun c_2 => ?_) (fun c_2 => ?_)
    · refine lv_iconst (v := nI 0) hx hb dX6_within_17 (by decide) ?_
      exact xzret (by decide) hd0 hx hb hr hlocks hS (Nat.le_of_ble_eq_true rfl) (Nat.le_of_ble_eq_true rfl) dX6_within_18 ⟨rfl, by first | rw [pBetween_t (by assumption) (by assumption)]; rfl | rw [pBetween_f1 (by assumption)]; rfl | rw [pBetween_f2 (by assumption) (by assumption)]; rfl⟩
    · refine lv_iconst (v := nI 1) hx hb dX6_within_13 (by decide) ?_
      refine lv_goto (tgt := 18) hx hb dX6_within_14 (by decide) ?_
      exact xzret (by decide) hd0 hx hb hr hlocks hS (Nat.le_of_ble_eq_true rfl) (Nat.le_of_ble_eq_true rfl) dX6_within_18 ⟨rfl, by first | rw [pBetween_t (by assumption) (by assumption)]; rfl | rw [pBetween_f1 (by assumption)]; rfl | rw [pBetween_f2 (by assumption) (by assumption)]; rfl⟩
theorem dX7_between_0 : decode cX7_between 0 = .ok (.dload_n 0, 1) := by decide +kernel
theorem dX7_between_1 : decode cX7_between 1 = .ok (.dload_n 2, 1) := by decide +kernel
theorem dX7_between_2 : decode cX7_between 2 = .ok (.dcmp .l, 1) := by decide +kernel
theorem dX7_between_3 : decode cX7_between 3 = .ok (.ifCond .lt 14, 3) := by decide +kernel
theorem dX7_between_6 : decode cX7_between 6 = .ok (.dload_n 0, 1) := by decide +kernel
theorem dX7_between_7 : decode cX7_between 7 = .ok (.dload 4, 2) := by decide +kernel
theorem dX7_between_9 : decode cX7_between 9 = .ok (.dcmp .g, 1) := by decide +kernel
theorem dX7_between_10 : decode cX7_between 10 = .ok (.ifCond .gt 7, 3) := by decide +kernel
theorem dX7_between_13 : decode cX7_between 13 = .ok (.iconst 1, 1) := by decide +kernel
theorem dX7_between_14 : decode cX7_between 14 = .ok (.goto 4, 3) := by decide +kernel
theorem dX7_between_17 : decode cX7_between 17 = .ok (.iconst 0, 1) := by decide +kernel
theorem dX7_between_18 : decode cX7_between 18 = .ok (.ireturn, 1) := by decide +kernel
abbrev rm_X7_between : Room := { frames := 5, cells := 0, slots := 0, locals := 40 }
set_option maxHeartbeats 4000000 in
set_option maxRecDepth 100000 in
/-- whether a number lies between two -/
theorem c_X7_between {l : Launch} {G : va_G} {ty : Nat → ClassId} {b0 : Nat} {H : Heap} {x y z a b d : UInt64} (hx9 : vq x a) (hy9 : vq y b) (hz9 : vq z d) : xMet l yX7_between wsX7_between rm_X7_between G ty b0 [.double x, .double y, .double z] H (fun v H1 => H = H1 ∧ v = some (.int (xB (pBetween a b d)))) (fun _ _ => False) := by
  refine xbody (cc := cX7_between) (maxL := 6) (ret := (some .boolean)) (C := RX7) (lv := [(0, .double x), (2, .double y), (4, .double z)]) (by decide) rfl rfl (Nat.le_of_ble_eq_true rfl) rfl ?_
  intro p e s m below meth c d0 hx hb hr hts hown hlocks hml hxt hnm0 hK hb0 hH0 hS hd0 ls hl
  refine lv_dload_n hx hb dX7_between_0 rfl (lv_at hl 0 rfl) ?_
  refine lv_dload_n hx hb dX7_between_1 rfl (lv_at hl 1 rfl) ?_
  refine xcmp_l_lt (tgt := 17) hx hb hx9 hy9 dX7_between_2 dX7_between_3 (by decide) (fun c_1 => ?_) (fun c_1 => ?_)
  · refine lv_iconst (v := nI 0) hx hb dX7_between_17 (by decide) ?_
    exact xzret (by decide) hd0 hx hb hr hlocks hS (Nat.le_of_ble_eq_true rfl) (Nat.le_of_ble_eq_true rfl) dX7_between_18 ⟨rfl, by first | rw [pBetween_t (by assumption) (by assumption)]; rfl | rw [pBetween_f1 (by assumption)]; rfl | rw [pBetween_f2 (by assumption) (by assumption)]; rfl⟩
  · refine lv_dload_n hx hb dX7_between_6 rfl (lv_at hl 0 rfl) ?_
    refine lv_dload hx hb dX7_between_7 (lv_at hl 2 rfl) ?_
    refine xcmp_g_gt (tgt := 17) hx hb hx9 hz9 dX7_between_9 dX7_between_10 (by decide) (fun c_2 => ?_) (fun c_2 => ?_)
    · refine lv_iconst (v := nI 0) hx hb dX7_between_17 (by decide) ?_
      exact xzret (by decide) hd0 hx hb hr hlocks hS (Nat.le_of_ble_eq_true rfl) (Nat.le_of_ble_eq_true rfl) dX7_between_18 ⟨rfl, by first | rw [pBetween_t (by assumption) (by assumption)]; rfl | rw [pBetween_f1 (by assumption)]; rfl | rw [pBetween_f2 (by assumption) (by assumption)]; rfl⟩
    · refine lv_iconst (v := nI 1) hx hb dX7_between_13 (by decide) ?_
      refine lv_goto (tgt := 18) hx hb dX7_between_14 (by decide) ?_
      exact xzret (by decide) hd0 hx hb hr hlocks hS (Nat.le_of_ble_eq_true rfl) (Nat.le_of_ble_eq_true rfl) dX7_between_18 ⟨rfl, by first | rw [pBetween_t (by assumption) (by assumption)]; rfl | rw [pBetween_f1 (by assumption)]; rfl | rw [pBetween_f2 (by assumption) (by assumption)]; rfl⟩
theorem dX6_sizeOf_0 : decode cX6_sizeOf 0 = .ok (.dload_n 0, 1) := by decide +kernel
theorem dX6_sizeOf_1 : decode cX6_sizeOf 1 = .ok (.dconst 0, 1) := by decide +kernel
theorem dX6_sizeOf_2 : decode cX6_sizeOf 2 = .ok (.dcmp .g, 1) := by decide +kernel
theorem dX6_sizeOf_3 : decode cX6_sizeOf 3 = .ok (.ifCond .ge 8, 3) := by decide +kernel
theorem dX6_sizeOf_6 : decode cX6_sizeOf 6 = .ok (.dload_n 0, 1) := by decide +kernel
theorem dX6_sizeOf_7 : decode cX6_sizeOf 7 = .ok (.dneg, 1) := by decide +kernel
theorem dX6_sizeOf_8 : decode cX6_sizeOf 8 = .ok (.goto 4, 3) := by decide +kernel
theorem dX6_sizeOf_11 : decode cX6_sizeOf 11 = .ok (.dload_n 0, 1) := by decide +kernel
theorem dX6_sizeOf_12 : decode cX6_sizeOf 12 = .ok (.dreturn, 1) := by decide +kernel
abbrev rm_X6_sizeOf : Room := { frames := 5, cells := 0, slots := 0, locals := 40 }
set_option maxHeartbeats 4000000 in
set_option maxRecDepth 100000 in
/-- a number without its sign -/
theorem c_X6_sizeOf {l : Launch} {G : va_G} {ty : Nat → ClassId} {b0 : Nat} {H : Heap} {x a : UInt64} (hx9 : vq x a) : xMet l yX6_sizeOf wsX6_sizeOf rm_X6_sizeOf G ty b0 [.double x] H (fun v H1 => H = H1 ∧ ∃ r : UInt64, v = some (.double r) ∧ vq r (pSize a)) (fun _ _ => False) := by
  refine xbody (cc := cX6_sizeOf) (maxL := 2) (ret := (some .double)) (C := RX6) (lv := [(0, .double x)]) (by decide) rfl rfl (Nat.le_of_ble_eq_true rfl) rfl ?_
  intro p e s m below meth c d0 hx hb hr hts hown hlocks hml hxt hnm0 hK hb0 hH0 hS hd0 ls hl
  refine lv_dload_n hx hb dX6_sizeOf_0 rfl (lv_at hl 0 rfl) ?_
  refine lv_dconst0 hx hb dX6_sizeOf_1 ?_
  refine xcmp_g_ge (tgt := 11) hx hb hx9 (vq_rf _) dX6_sizeOf_2 dX6_sizeOf_3 (by decide) (fun c_1 => ?_) (fun c_1 => ?_)
  · refine lv_dload_n hx hb dX6_sizeOf_11 rfl (lv_at hl 0 rfl) ?_
    exact xdret hd0 hx hb hr hlocks hS (Nat.le_of_ble_eq_true rfl) (Nat.le_of_ble_eq_true rfl) dX6_sizeOf_12 ⟨rfl, _, rfl, by unfold pSize; first | (rw [if_pos c_1]; exact hx9) | (rw [if_neg (by rw [c_1]; decide)]; exact hx9)⟩
  · refine lv_dload_n hx hb dX6_sizeOf_6 rfl (lv_at hl 0 rfl) ?_
    refine lv_dneg hx hb dX6_sizeOf_7 ?_
    refine lv_goto (tgt := 12) hx hb dX6_sizeOf_8 (by decide) ?_
    exact xdret hd0 hx hb hr hlocks hS (Nat.le_of_ble_eq_true rfl) (Nat.le_of_ble_eq_true rfl) dX6_sizeOf_12 ⟨rfl, _, rfl, by unfold pSize; first | (rw [if_pos c_1]; exact (vq_neg hx9)) | (rw [if_neg (by rw [c_1]; decide)]; exact (vq_neg hx9))⟩
theorem dX6_circleOf_0 : decode cX6_circleOf 0 = .ok (.dload_n 0, 1) := by decide +kernel
theorem dX6_circleOf_1 : decode cX6_circleOf 1 = .ok (.ldc2_w 251, 3) := by decide +kernel
theorem dX6_circleOf_4 : decode cX6_circleOf 4 = .ok (.dmul, 1) := by decide +kernel
theorem dX6_circleOf_5 : decode cX6_circleOf 5 = .ok (.dreturn, 1) := by decide +kernel
abbrev rm_X6_circleOf : Room := { frames := 5, cells := 0, slots := 0, locals := 40 }
theorem hw_X6_circleOf_1 : (Cond.constantDouble RX6 251 (4614256656552045848)) ∈ wsX6_circleOf := List.mem_of_getElem? (i := 1) rfl
set_option maxHeartbeats 4000000 in
set_option maxRecDepth 100000 in
/-- a circle -/
theorem c_X6_circleOf {l : Launch} {G : va_G} {ty : Nat → ClassId} {b0 : Nat} {H : Heap} {x a : UInt64} (hx9 : vq x a) : xMet l yX6_circleOf wsX6_circleOf rm_X6_circleOf G ty b0 [.double x] H (fun v H1 => H = H1 ∧ ∃ r : UInt64, v = some (.double r) ∧ vq r (FP.dmul a 4614256656552045848)) (fun _ _ => False) := by
  refine xbody (cc := cX6_circleOf) (maxL := 2) (ret := (some .double)) (C := RX6) (lv := [(0, .double x)]) (by decide) rfl rfl (Nat.le_of_ble_eq_true rfl) rfl ?_
  intro p e s m below meth c d0 hx hb hr hts hown hlocks hml hxt hnm0 hK hb0 hH0 hS hd0 ls hl
  refine lv_dload_n hx hb dX6_circleOf_0 rfl (lv_at hl 0 rfl) ?_
  refine lv_ldc2d hx hb hown (hts _ _ hw_X6_circleOf_1) dX6_circleOf_1 ?_
  refine xdmul hd0 hx hb hx9 (vq_rf _) dX6_circleOf_4 (fun r_1 d0 q_1 hd0 => ?_)
  exact xdret hd0 hx hb hr hlocks hS (Nat.le_of_ble_eq_true rfl) (Nat.le_of_ble_eq_true rfl) dX6_circleOf_5 ⟨rfl, _, rfl, q_1⟩
set_option maxRecDepth 20000 in
theorem ggX7_length_X7_root : GoodIn wsX7_length wsX7_root := goodIn_r _ [4, 5] (by decide +kernel) (by decide +kernel)
set_option maxRecDepth 20000 in
theorem gX7_length_X7_root : GoodIn wsX7_length (va_wsS RX7 73 yX7_root wsX7_root) := goodIn_app (goodIn_of _ (by decide +kernel)) ggX7_length_X7_root
theorem dX7_length_0 : decode cX7_length 0 = .ok (.dload_n 0, 1) := by decide +kernel
theorem dX7_length_1 : decode cX7_length 1 = .ok (.dload_n 0, 1) := by decide +kernel
theorem dX7_length_2 : decode cX7_length 2 = .ok (.dmul, 1) := by decide +kernel
theorem dX7_length_3 : decode cX7_length 3 = .ok (.dload_n 2, 1) := by decide +kernel
theorem dX7_length_4 : decode cX7_length 4 = .ok (.dload_n 2, 1) := by decide +kernel
theorem dX7_length_5 : decode cX7_length 5 = .ok (.dmul, 1) := by decide +kernel
theorem dX7_length_6 : decode cX7_length 6 = .ok (.dadd, 1) := by decide +kernel
theorem dX7_length_7 : decode cX7_length 7 = .ok (.invokestatic 73, 3) := by decide +kernel
theorem dX7_length_10 : decode cX7_length 10 = .ok (.dreturn, 1) := by decide +kernel
abbrev rm_X7_length : Room := { frames := 6, cells := 0, slots := 0, locals := 90 }
set_option maxHeartbeats 4000000 in
set_option maxRecDepth 100000 in
/-- a length -/
theorem c_X7_length {l : Launch} {G : va_G} {ty : Nat → ClassId} {b0 : Nat} {H : Heap} {x y a b : UInt64} (hx9 : vq x a) (hy9 : vq y b) : xMet l yX7_length wsX7_length rm_X7_length G ty b0 [.double x, .double y] H (fun v H1 => H = H1 ∧ ∃ r : UInt64, v = some (.double r) ∧ vq r (pLen a b)) (fun _ _ => False) := by
  refine xbody (cc := cX7_length) (maxL := 4) (ret := (some .double)) (C := RX7) (lv := [(0, .double x), (2, .double y)]) (by decide) rfl rfl (Nat.le_of_ble_eq_true rfl) rfl ?_
  intro p e s m below meth c d0 hx hb hr hts hown hlocks hml hxt hnm0 hK hb0 hH0 hS hd0 ls hl
  refine lv_dload_n hx hb dX7_length_0 rfl (lv_at hl 0 rfl) ?_
  refine lv_dload_n hx hb dX7_length_1 rfl (lv_at hl 0 rfl) ?_
  refine xdmul hd0 hx hb hx9 hx9 dX7_length_2 (fun r_1 d0 q_1 hd0 => ?_)
  refine lv_dload_n hx hb dX7_length_3 rfl (lv_at hl 1 rfl) ?_
  refine lv_dload_n hx hb dX7_length_4 rfl (lv_at hl 1 rfl) ?_
  refine xdmul hd0 hx hb hy9 hy9 dX7_length_5 (fun r_2 d0 q_2 hd0 => ?_)
  refine xdadd hd0 hx hb q_1 q_2 dX7_length_6 (fun r_3 d0 q_3 hd0 => ?_)
  have cw_4 := va_cwS (R := rm_X7_length) (rm := rm_X7_root) 1 (hts d0) gX7_length_X7_root rfl rfl rfl (by decide +kernel) ⟨Nat.le_of_ble_eq_true rfl, Nat.le_of_ble_eq_true rfl⟩
  refine xcall hd0 (xintoS (As := [.double r_3]) (rest := []) ⟨hx, hb, hml, hown, hts _⟩ cw_4 rfl rfl hl.1 rfl (lv_room (Nat.le_of_ble_eq_true rfl)) dX7_length_7) (c_X7_root (l := l) (G := G) (ty := ty) (b0 := b0) q_3) (xoweB cw_4.1) hK hb0 hS (Nat.le_of_ble_eq_true rfl) (Nat.le_of_ble_eq_true rfl) (fun E_4 ce_4 q9_4 H_4 locs_4 d0 hd0 hp_4 hS hce_4 hcv_4 hcl_4 => ?_) (fun v_4 H_4 locs_4 d0 hd0 hp_4 hS => ?_)
  · exact hp_4.elim
  · obtain ⟨rfl, r_4, rfl, q_4⟩ := hp_4
    show W p l e _ (s.setDrawn _) m _ below meth c _ _ _ _ _ (F0 m 10 ls [.double r_4])
    exact xdret hd0 hx hb hr hlocks hS (Nat.le_of_ble_eq_true rfl) (Nat.le_of_ble_eq_true rfl) dX7_length_10 ⟨rfl, _, rfl, q_4⟩
set_option maxRecDepth 20000 in
theorem ggX6_apart_X6_root : GoodIn wsX6_apart wsX6_root := goodIn_r _ [7, 8] (by decide +kernel) (by decide +kernel)
set_option maxRecDepth 20000 in
theorem gX6_apart_X6_root : GoodIn wsX6_apart (va_wsS RX6 155 yX6_root wsX6_root) := goodIn_app (goodIn_of _ (by decide +kernel)) ggX6_apart_X6_root
theorem dX6_apart_0 : decode cX6_apart 0 = .ok (.aload_n 1, 1) := by decide +kernel
theorem dX6_apart_1 : decode cX6_apart 1 = .ok (.getfield 71, 3) := by decide +kernel
theorem dX6_apart_4 : decode cX6_apart 4 = .ok (.aload_n 0, 1) := by decide +kernel
theorem dX6_apart_5 : decode cX6_apart 5 = .ok (.getfield 71, 3) := by decide +kernel
theorem dX6_apart_8 : decode cX6_apart 8 = .ok (.dsub, 1) := by decide +kernel
theorem dX6_apart_9 : decode cX6_apart 9 = .ok (.dstore_n 2, 1) := by decide +kernel
theorem dX6_apart_10 : decode cX6_apart 10 = .ok (.aload_n 1, 1) := by decide +kernel
theorem dX6_apart_11 : decode cX6_apart 11 = .ok (.getfield 77, 3) := by decide +kernel
theorem dX6_apart_14 : decode cX6_apart 14 = .ok (.aload_n 0, 1) := by decide +kernel
theorem dX6_apart_15 : decode cX6_apart 15 = .ok (.getfield 77, 3) := by decide +kernel
theorem dX6_apart_18 : decode cX6_apart 18 = .ok (.dsub, 1) := by decide +kernel
theorem dX6_apart_19 : decode cX6_apart 19 = .ok (.dstore 4, 2) := by decide +kernel
theorem dX6_apart_21 : decode cX6_apart 21 = .ok (.aload_n 1, 1) := by decide +kernel
theorem dX6_apart_22 : decode cX6_apart 22 = .ok (.getfield 80, 3) := by decide +kernel
theorem dX6_apart_25 : decode cX6_apart 25 = .ok (.aload_n 0, 1) := by decide +kernel
theorem dX6_apart_26 : decode cX6_apart 26 = .ok (.getfield 80, 3) := by decide +kernel
theorem dX6_apart_29 : decode cX6_apart 29 = .ok (.dsub, 1) := by decide +kernel
theorem dX6_apart_30 : decode cX6_apart 30 = .ok (.dstore 6, 2) := by decide +kernel
theorem dX6_apart_32 : decode cX6_apart 32 = .ok (.dload_n 2, 1) := by decide +kernel
theorem dX6_apart_33 : decode cX6_apart 33 = .ok (.dload_n 2, 1) := by decide +kernel
theorem dX6_apart_34 : decode cX6_apart 34 = .ok (.dmul, 1) := by decide +kernel
theorem dX6_apart_35 : decode cX6_apart 35 = .ok (.dload 4, 2) := by decide +kernel
theorem dX6_apart_37 : decode cX6_apart 37 = .ok (.dload 4, 2) := by decide +kernel
theorem dX6_apart_39 : decode cX6_apart 39 = .ok (.dmul, 1) := by decide +kernel
theorem dX6_apart_40 : decode cX6_apart 40 = .ok (.dadd, 1) := by decide +kernel
theorem dX6_apart_41 : decode cX6_apart 41 = .ok (.dload 6, 2) := by decide +kernel
theorem dX6_apart_43 : decode cX6_apart 43 = .ok (.dload 6, 2) := by decide +kernel
theorem dX6_apart_45 : decode cX6_apart 45 = .ok (.dmul, 1) := by decide +kernel
theorem dX6_apart_46 : decode cX6_apart 46 = .ok (.dadd, 1) := by decide +kernel
theorem dX6_apart_47 : decode cX6_apart 47 = .ok (.invokestatic 155, 3) := by decide +kernel
theorem dX6_apart_50 : decode cX6_apart 50 = .ok (.dreturn, 1) := by decide +kernel
abbrev rm_X6_apart : Room := { frames := 6, cells := 0, slots := 0, locals := 90 }
theorem hw_X6_apart_1 : (Cond.fieldLink RX6 71 "PlankUnroll$Place" "x" "D") ∈ wsX6_apart := List.mem_of_getElem? (i := 1) rfl
theorem hw_X6_apart_2 : (Cond.fieldLink RX6 77 "PlankUnroll$Place" "y" "D") ∈ wsX6_apart := List.mem_of_getElem? (i := 2) rfl
theorem hw_X6_apart_3 : (Cond.fieldLink RX6 80 "PlankUnroll$Place" "z" "D") ∈ wsX6_apart := List.mem_of_getElem? (i := 3) rfl
theorem in_X6_apart_X3 : ∀ w ∈ wsX30, w ∈ wsX6_apart := by decide +kernel
set_option maxHeartbeats 4000000 in
set_option maxRecDepth 100000 in
/-- DISTANCE -/
theorem c_X6_apart {l : Launch} {G : va_G} {ty : Nat → ClassId} {b0 : Nat} {H : Heap} {q0 q1 : Nat} {u0 v0 w0 u1 v1 w1 a0 a1 a2 a3 a4 a5 : UInt64} (hc0 : xc G q0 (.inr (4, [.double u0, .double v0, .double w0])) H) (hc1 : xc G q1 (.inr (4, [.double u1, .double v1, .double w1])) H) (hx0 : vq u0 a0) (hy0 : vq v0 a1) (hz0 : vq w0 a2) (hx1 : vq u1 a3) (hy1 : vq v1 a4) (hz1 : vq w1 a5) : xMet l yX6_apart wsX6_apart rm_X6_apart G ty b0 [.ref q0, .ref q1] H (fun v H1 => H = H1 ∧ ∃ r : UInt64, v = some (.double r) ∧ vq r (pDist a0 a1 a2 a3 a4 a5)) (fun _ _ => False) := by
  refine xbody (cc := cX6_apart) (maxL := 8) (ret := (some .double)) (C := RX6) (lv := [(0, .ref q0), (1, .ref q1)]) (by decide) rfl rfl (Nat.le_of_ble_eq_true rfl) rfl ?_
  intro p e s m below meth c d0 hx hb hr hts hown hlocks hml hxt hnm0 hK hb0 hH0 hS hd0 ls hl
  refine lv_aload_n hx hb dX6_apart_0 rfl (lv_at hl 1 rfl) ?_
  refine va_get (D := G) (cl := vwCl) (ci := 4) (v := .double u1) (C := RX3) (T := TX3) (N := 3) hx hb (hts _) in_X6_apart_X3 hown hK.1 (x1 hc1) 0 rfl rfl 0 (by decide) (hts _ _ hw_X6_apart_1) (fun _ h9 => h9) rfl dX6_apart_1 ?_
  refine lv_aload_n hx hb dX6_apart_4 rfl (lv_at hl 0 rfl) ?_
  refine va_get (D := G) (cl := vwCl) (ci := 4) (v := .double u0) (C := RX3) (T := TX3) (N := 3) hx hb (hts _) in_X6_apart_X3 hown hK.1 (x1 hc0) 0 rfl rfl 0 (by decide) (hts _ _ hw_X6_apart_1) (fun _ h9 => h9) rfl dX6_apart_5 ?_
  refine xdsub hd0 hx hb hx1 hx0 dX6_apart_8 (fun r_1 d0 q_1 hd0 => ?_)
  refine lv_dstore_n (lv' := [(2, .double r_1), (0, .ref q0), (1, .ref q1)]) hx hb dX6_apart_9 rfl hl (by decide) rfl (fun ls hl => ?_)
  refine lv_aload_n hx hb dX6_apart_10 rfl (lv_at hl 2 rfl) ?_
  refine va_get (D := G) (cl := vwCl) (ci := 4) (v := .double v1) (C := RX3) (T := TX3) (N := 3) hx hb (hts _) in_X6_apart_X3 hown hK.1 (x1 hc1) 0 rfl rfl 1 (by decide) (hts _ _ hw_X6_apart_2) (fun _ h9 => h9) rfl dX6_apart_11 ?_
  refine lv_aload_n hx hb dX6_apart_14 rfl (lv_at hl 1 rfl) ?_
  refine va_get (D := G) (cl := vwCl) (ci := 4) (v := .double v0) (C := RX3) (T := TX3) (N := 3) hx hb (hts _) in_X6_apart_X3 hown hK.1 (x1 hc0) 0 rfl rfl 1 (by decide) (hts _ _ hw_X6_apart_2) (fun _ h9 => h9) rfl dX6_apart_15 ?_
  refine xdsub hd0 hx hb hy1 hy0 dX6_apart_18 (fun r_2 d0 q_2 hd0 => ?_)
  refine lv_dstore (lv' := [(4, .double r_2), (2, .double r_1), (0, .ref q0), (1, .ref q1)]) hx hb dX6_apart_19 hl (by decide) rfl (fun ls hl => ?_)
  refine lv_aload_n hx hb dX6_apart_21 rfl (lv_at hl 3 rfl) ?_
  refine va_get (D := G) (cl := vwCl) (ci := 4) (v := .double w1) (C := RX3) (T := TX3) (N := 3) hx hb (hts _) in_X6_apart_X3 hown hK.1 (x1 hc1) 0 rfl rfl 2 (by decide) (hts _ _ hw_X6_apart_3) (fun _ h9 => h9) rfl dX6_apart_22 ?_
  refine lv_aload_n hx hb dX6_apart_25 rfl (lv_at hl 2 rfl) ?_
  refine va_get (D := G) (cl := vwCl) (ci := 4) (v := .double w0) (C := RX3) (T := TX3) (N := 3) hx hb (hts _) in_X6_apart_X3 hown hK.1 (x1 hc0) 0 rfl rfl 2 (by decide) (hts _ _ hw_X6_apart_3) (fun _ h9 => h9) rfl dX6_apart_26 ?_
  refine xdsub hd0 hx hb hz1 hz0 dX6_apart_29 (fun r_3 d0 q_3 hd0 => ?_)
  refine lv_dstore (lv' := [(6, .double r_3), (4, .double r_2), (2, .double r_1), (0, .ref q0), (1, .ref q1)]) hx hb dX6_apart_30 hl (by decide) rfl (fun ls hl => ?_)
  refine lv_dload_n hx hb dX6_apart_32 rfl (lv_at hl 2 rfl) ?_
  refine lv_dload_n hx hb dX6_apart_33 rfl (lv_at hl 2 rfl) ?_
  refine xdmul hd0 hx hb q_1 q_1 dX6_apart_34 (fun r_4 d0 q_4 hd0 => ?_)
  refine lv_dload hx hb dX6_apart_35 (lv_at hl 1 rfl) ?_
  refine lv_dload hx hb dX6_apart_37 (lv_at hl 1 rfl) ?_
  refine xdmul hd0 hx hb q_2 q_2 dX6_apart_39 (fun r_5 d0 q_5 hd0 => ?_)
  refine xdadd hd0 hx hb q_4 q_5 dX6_apart_40 (fun r_6 d0 q_6 hd0 => ?_)
  refine lv_dload hx hb dX6_apart_41 (lv_at hl 0 rfl) ?_
  refine lv_dload hx hb dX6_apart_43 (lv_at hl 0 rfl) ?_
  refine xdmul hd0 hx hb q_3 q_3 dX6_apart_45 (fun r_7 d0 q_7 hd0 => ?_)
  refine xdadd hd0 hx hb q_6 q_7 dX6_apart_46 (fun r_8 d0 q_8 hd0 => ?_)
  have cw_9 := va_cwS (R := rm_X6_apart) (rm := rm_X6_root) 1 (hts d0) gX6_apart_X6_root rfl rfl rfl (by decide +kernel) ⟨Nat.le_of_ble_eq_true rfl, Nat.le_of_ble_eq_true rfl⟩
  refine xcall hd0 (xintoS (As := [.double r_8]) (rest := []) ⟨hx, hb, hml, hown, hts _⟩ cw_9 rfl rfl hl.1 rfl (lv_room (Nat.le_of_ble_eq_true rfl)) dX6_apart_47) (c_X6_root (l := l) (G := G) (ty := ty) (b0 := b0) q_8) (xoweB cw_9.1) hK hb0 hS (Nat.le_of_ble_eq_true rfl) (Nat.le_of_ble_eq_true rfl) (fun E_9 ce_9 q9_9 H_9 locs_9 d0 hd0 hp_9 hS hce_9 hcv_9 hcl_9 => ?_) (fun v_9 H_9 locs_9 d0 hd0 hp_9 hS => ?_)
  · exact hp_9.elim
  · obtain ⟨rfl, r_9, rfl, q_9⟩ := hp_9
    show W p l e _ (s.setDrawn _) m _ below meth c _ _ _ _ _ (F0 m 50 ls [.double r_9])
    exact xdret hd0 hx hb hr hlocks hS (Nat.le_of_ble_eq_true rfl) (Nat.le_of_ble_eq_true rfl) dX6_apart_50 ⟨rfl, _, rfl, q_9⟩
