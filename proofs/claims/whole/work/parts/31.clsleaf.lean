/-! THE CLASS: boxes, triangles, strips. -/
theorem nB_Jx4a65c : ∀ j : Nat, j < 3 → defaultValue (tyJx4a65c j) = vp_V [.int (nI 0), .null, .int (nI 0)] j := by
  intro j hj
  match j, hj with
  | 0, _ => rfl
  | 1, _ => rfl
  | 2, _ => rfl
  | j + 3, h => exact absurd h (by omega)
theorem nB_X0 : ∀ j : Nat, j < 3 → defaultValue (tyX0 j) = vp_V [.double FP.dconst0, .double FP.dconst0, .null] j := by
  intro j hj
  match j, hj with
  | 0, _ => rfl
  | 1, _ => rfl
  | 2, _ => rfl
  | j + 3, h => exact absurd h (by omega)
theorem nB_X1 : ∀ j : Nat, j < 4 → defaultValue (tyX1 j) = vp_V [.double FP.dconst0, .double FP.dconst0, .double FP.dconst0, .double FP.dconst0] j := by
  intro j hj
  match j, hj with
  | 0, _ => rfl
  | 1, _ => rfl
  | 2, _ => rfl
  | 3, _ => rfl
  | j + 4, h => exact absurd h (by omega)
theorem nB_X2 : ∀ j : Nat, j < 3 → defaultValue (tyX2 j) = vp_V [.double FP.dconst0, .double FP.dconst0, .double FP.dconst0] j := by
  intro j hj
  match j, hj with
  | 0, _ => rfl
  | 1, _ => rfl
  | 2, _ => rfl
  | j + 3, h => exact absurd h (by omega)
theorem nB_X3 : ∀ j : Nat, j < 3 → defaultValue (tyX3 j) = vp_V [.double FP.dconst0, .double FP.dconst0, .double FP.dconst0] j := by
  intro j hj
  match j, hj with
  | 0, _ => rfl
  | 1, _ => rfl
  | 2, _ => rfl
  | j + 3, h => exact absurd h (by omega)
theorem nB_X4 : ∀ j : Nat, j < 1 → defaultValue (tyX4 j) = vp_V [.null] j := by
  intro j hj
  match j, hj with
  | 0, _ => rfl
  | j + 1, h => exact absurd h (by omega)
theorem nB_X5 : ∀ j : Nat, j < 9 → defaultValue (tyX5 j) = vp_V [.null, .null, .null, .null, .null, .null, .int (nI 0), .int (nI 0), .int (nI 0)] j := by
  intro j hj
  match j, hj with
  | 0, _ => rfl
  | 1, _ => rfl
  | 2, _ => rfl
  | 3, _ => rfl
  | 4, _ => rfl
  | 5, _ => rfl
  | 6, _ => rfl
  | 7, _ => rfl
  | 8, _ => rfl
  | j + 9, h => exact absurd h (by omega)
theorem nB_X6 : ∀ j : Nat, j < 6 → defaultValue (tyX6 j) = vp_V [.int (nI 0), .null, .null, .null, .null, .null] j := by
  intro j hj
  match j, hj with
  | 0, _ => rfl
  | 1, _ => rfl
  | 2, _ => rfl
  | 3, _ => rfl
  | 4, _ => rfl
  | 5, _ => rfl
  | j + 6, h => exact absurd h (by omega)
theorem nB_X7 : ∀ j : Nat, j < 18 → defaultValue (tyX7 j) = vp_V [.int (nI 0), .int (nI 0), .int (nI 0), .null, .null, .null, .null, .null, .int (nI 0), .null, .null, .null, .null, .null, .null, .double FP.dconst0, .double FP.dconst0, .double FP.dconst0] j := by
  intro j hj
  match j, hj with
  | 0, _ => rfl
  | 1, _ => rfl
  | 2, _ => rfl
  | 3, _ => rfl
  | 4, _ => rfl
  | 5, _ => rfl
  | 6, _ => rfl
  | 7, _ => rfl
  | 8, _ => rfl
  | 9, _ => rfl
  | 10, _ => rfl
  | 11, _ => rfl
  | 12, _ => rfl
  | 13, _ => rfl
  | 14, _ => rfl
  | 15, _ => rfl
  | 16, _ => rfl
  | 17, _ => rfl
  | j + 18, h => exact absurd h (by omega)
theorem xset.tr {G : va_G} {a : Nat} {e1 e2 : va_E} {H H1 H2 : Heap} (h1 : xset G a e1 H H1) (h2 : xset G a e2 H1 H2) : xset G a e2 H H2 := ⟨h2.1, h2.2.1.trans h1.2.1, fun q z => (h2.2.2 q z).trans (h1.2.2 q z)⟩
/-- two boxes overlap -/
def pOv (x y w h x2 y2 w2 h2 : UInt64) : Bool := xlt x (FP.dadd x2 w2) && xlt x2 (FP.dadd x w) && xlt y (FP.dadd y2 h2) && xlt y2 (FP.dadd y h)
theorem pOv_t {x y w h x2 y2 w2 h2 : UInt64} (a : xlt x (FP.dadd x2 w2) = true) (b : xlt x2 (FP.dadd x w) = true) (c : xlt y (FP.dadd y2 h2) = true) (d : xlt y2 (FP.dadd y h) = true) : some (Value.int (nI 1)) = some (.int (xB (pOv x y w h x2 y2 w2 h2))) := by unfold pOv; rw [a, b, c, d]; rfl
theorem pOv_f1 {x y w h x2 y2 w2 h2 : UInt64} (a : xlt x (FP.dadd x2 w2) = false) : some (Value.int (nI 0)) = some (.int (xB (pOv x y w h x2 y2 w2 h2))) := by unfold pOv; rw [a]; rfl
theorem pOv_f2 {x y w h x2 y2 w2 h2 : UInt64} (b : xlt x2 (FP.dadd x w) = false) : some (Value.int (nI 0)) = some (.int (xB (pOv x y w h x2 y2 w2 h2))) := by unfold pOv; rw [b, Bool.and_false]; rfl
theorem pOv_f3 {x y w h x2 y2 w2 h2 : UInt64} (c : xlt y (FP.dadd y2 h2) = false) : some (Value.int (nI 0)) = some (.int (xB (pOv x y w h x2 y2 w2 h2))) := by unfold pOv; rw [c, Bool.and_false]; rfl
theorem pOv_f4 {x y w h x2 y2 w2 h2 : UInt64} (d : xlt y2 (FP.dadd y h) = false) : some (Value.int (nI 0)) = some (.int (xB (pOv x y w h x2 y2 w2 h2))) := by unfold pOv; rw [d, Bool.and_false]; rfl
theorem dX1_overlaps_0 : decode cX1_overlaps 0 = .ok (.aload_n 0, 1) := by decide +kernel
theorem dX1_overlaps_1 : decode cX1_overlaps 1 = .ok (.getfield 7, 3) := by decide +kernel
theorem dX1_overlaps_4 : decode cX1_overlaps 4 = .ok (.aload_n 1, 1) := by decide +kernel
theorem dX1_overlaps_5 : decode cX1_overlaps 5 = .ok (.getfield 7, 3) := by decide +kernel
theorem dX1_overlaps_8 : decode cX1_overlaps 8 = .ok (.aload_n 1, 1) := by decide +kernel
theorem dX1_overlaps_9 : decode cX1_overlaps 9 = .ok (.getfield 16, 3) := by decide +kernel
theorem dX1_overlaps_12 : decode cX1_overlaps 12 = .ok (.dadd, 1) := by decide +kernel
theorem dX1_overlaps_13 : decode cX1_overlaps 13 = .ok (.dcmp .g, 1) := by decide +kernel
theorem dX1_overlaps_14 : decode cX1_overlaps 14 = .ok (.ifCond .ge 58, 3) := by decide +kernel
theorem dX1_overlaps_17 : decode cX1_overlaps 17 = .ok (.aload_n 1, 1) := by decide +kernel
theorem dX1_overlaps_18 : decode cX1_overlaps 18 = .ok (.getfield 7, 3) := by decide +kernel
theorem dX1_overlaps_21 : decode cX1_overlaps 21 = .ok (.aload_n 0, 1) := by decide +kernel
theorem dX1_overlaps_22 : decode cX1_overlaps 22 = .ok (.getfield 7, 3) := by decide +kernel
theorem dX1_overlaps_25 : decode cX1_overlaps 25 = .ok (.aload_n 0, 1) := by decide +kernel
theorem dX1_overlaps_26 : decode cX1_overlaps 26 = .ok (.getfield 16, 3) := by decide +kernel
theorem dX1_overlaps_29 : decode cX1_overlaps 29 = .ok (.dadd, 1) := by decide +kernel
theorem dX1_overlaps_30 : decode cX1_overlaps 30 = .ok (.dcmp .g, 1) := by decide +kernel
theorem dX1_overlaps_31 : decode cX1_overlaps 31 = .ok (.ifCond .ge 41, 3) := by decide +kernel
theorem dX1_overlaps_34 : decode cX1_overlaps 34 = .ok (.aload_n 0, 1) := by decide +kernel
theorem dX1_overlaps_35 : decode cX1_overlaps 35 = .ok (.getfield 13, 3) := by decide +kernel
theorem dX1_overlaps_38 : decode cX1_overlaps 38 = .ok (.aload_n 1, 1) := by decide +kernel
theorem dX1_overlaps_39 : decode cX1_overlaps 39 = .ok (.getfield 13, 3) := by decide +kernel
theorem dX1_overlaps_42 : decode cX1_overlaps 42 = .ok (.aload_n 1, 1) := by decide +kernel
theorem dX1_overlaps_43 : decode cX1_overlaps 43 = .ok (.getfield 19, 3) := by decide +kernel
theorem dX1_overlaps_46 : decode cX1_overlaps 46 = .ok (.dadd, 1) := by decide +kernel
theorem dX1_overlaps_47 : decode cX1_overlaps 47 = .ok (.dcmp .g, 1) := by decide +kernel
theorem dX1_overlaps_48 : decode cX1_overlaps 48 = .ok (.ifCond .ge 24, 3) := by decide +kernel
theorem dX1_overlaps_51 : decode cX1_overlaps 51 = .ok (.aload_n 1, 1) := by decide +kernel
theorem dX1_overlaps_52 : decode cX1_overlaps 52 = .ok (.getfield 13, 3) := by decide +kernel
theorem dX1_overlaps_55 : decode cX1_overlaps 55 = .ok (.aload_n 0, 1) := by decide +kernel
theorem dX1_overlaps_56 : decode cX1_overlaps 56 = .ok (.getfield 13, 3) := by decide +kernel
theorem dX1_overlaps_59 : decode cX1_overlaps 59 = .ok (.aload_n 0, 1) := by decide +kernel
theorem dX1_overlaps_60 : decode cX1_overlaps 60 = .ok (.getfield 19, 3) := by decide +kernel
theorem dX1_overlaps_63 : decode cX1_overlaps 63 = .ok (.dadd, 1) := by decide +kernel
theorem dX1_overlaps_64 : decode cX1_overlaps 64 = .ok (.dcmp .g, 1) := by decide +kernel
theorem dX1_overlaps_65 : decode cX1_overlaps 65 = .ok (.ifCond .ge 7, 3) := by decide +kernel
theorem dX1_overlaps_68 : decode cX1_overlaps 68 = .ok (.iconst 1, 1) := by decide +kernel
theorem dX1_overlaps_69 : decode cX1_overlaps 69 = .ok (.goto 4, 3) := by decide +kernel
theorem dX1_overlaps_72 : decode cX1_overlaps 72 = .ok (.iconst 0, 1) := by decide +kernel
theorem dX1_overlaps_73 : decode cX1_overlaps 73 = .ok (.ireturn, 1) := by decide +kernel
abbrev rm_X1_overlaps : Room := { frames := 5, cells := 0, slots := 0, locals := 40 }
theorem hw_X1_overlaps_1 : (Cond.fieldLink RX1 7 "PlankUnroll$Box" "x" "D") ∈ wsX1_overlaps := List.mem_of_getElem? (i := 1) rfl
theorem hw_X1_overlaps_2 : (Cond.fieldLink RX1 16 "PlankUnroll$Box" "w" "D") ∈ wsX1_overlaps := List.mem_of_getElem? (i := 2) rfl
theorem hw_X1_overlaps_3 : (Cond.fieldLink RX1 13 "PlankUnroll$Box" "y" "D") ∈ wsX1_overlaps := List.mem_of_getElem? (i := 3) rfl
theorem hw_X1_overlaps_4 : (Cond.fieldLink RX1 19 "PlankUnroll$Box" "h" "D") ∈ wsX1_overlaps := List.mem_of_getElem? (i := 4) rfl
theorem in_X1_overlaps_X1 : ∀ w ∈ wsX10, w ∈ wsX1_overlaps := by decide +kernel
set_option maxHeartbeats 4000000 in
set_option maxRecDepth 100000 in
/-- whether two boxes overlap -/
theorem c_X1_overlaps {l : Launch} {G : va_G} {ty : Nat → ClassId} {b0 : Nat} {H : Heap} {q0 q1 : Nat} {x y u h x2 y2 u2 h2 : UInt64} (hc0 : xc G q0 (.inr (2, [.double x, .double y, .double u, .double h])) H) (hc1 : xc G q1 (.inr (2, [.double x2, .double y2, .double u2, .double h2])) H) : xMet l yX1_overlaps wsX1_overlaps rm_X1_overlaps G ty b0 [.ref q0, .ref q1] H (fun v H1 => H = H1 ∧ v = some (.int (xB (pOv x y u h x2 y2 u2 h2)))) (fun _ _ => False) := by
  refine xbody (cc := cX1_overlaps) (maxL := 2) (ret := (some .boolean)) (C := RX1) (lv := [(0, .ref q0), (1, .ref q1)]) (by decide) rfl rfl (Nat.le_of_ble_eq_true rfl) rfl ?_
  intro p e s m below meth c d0 hx hb hr hts hown hlocks hml hxt hnm0 hK hb0 hH0 hS hd0 ls hl
  refine lv_aload_n hx hb dX1_overlaps_0 rfl (lv_at hl 0 rfl) ?_
  refine va_get (D := G) (cl := vwCl) (ci := 2) (v := .double x) (C := RX1) (T := TX1) (N := 4) hx hb (hts d0) in_X1_overlaps_X1 hown hK.1 (x1 hc0) 0 rfl rfl 0 (by decide) (hts d0 _ hw_X1_overlaps_1) (fun _ h9 => h9) rfl dX1_overlaps_1 ?_
  refine lv_aload_n hx hb dX1_overlaps_4 rfl (lv_at hl 1 rfl) ?_
  refine va_get (D := G) (cl := vwCl) (ci := 2) (v := .double x2) (C := RX1) (T := TX1) (N := 4) hx hb (hts d0) in_X1_overlaps_X1 hown hK.1 (x1 hc1) 0 rfl rfl 0 (by decide) (hts d0 _ hw_X1_overlaps_1) (fun _ h9 => h9) rfl dX1_overlaps_5 ?_
  refine lv_aload_n hx hb dX1_overlaps_8 rfl (lv_at hl 1 rfl) ?_
  refine va_get (D := G) (cl := vwCl) (ci := 2) (v := .double u2) (C := RX1) (T := TX1) (N := 4) hx hb (hts d0) in_X1_overlaps_X1 hown hK.1 (x1 hc1) 0 rfl rfl 2 (by decide) (hts d0 _ hw_X1_overlaps_2) (fun _ h9 => h9) rfl dX1_overlaps_9 ?_
  refine xdadd hd0 hx hb (vq_rf _) (vq_rf _) dX1_overlaps_12 (fun r_1 d0 q_1 hd0 => ?_)
  refine xcmp_g_ge (tgt := 72) hx hb (vq_rf _) q_1 dX1_overlaps_13 dX1_overlaps_14 (by decide) (fun c_2 => ?_) (fun c_2 => ?_)
  · refine lv_iconst (v := nI 0) hx hb dX1_overlaps_72 (by decide) ?_
    exact xzret (by decide) hd0 hx hb hr hlocks hS (Nat.le_of_ble_eq_true rfl) (Nat.le_of_ble_eq_true rfl) dX1_overlaps_73 ⟨rfl, pOv_f1 c_2⟩
  · refine lv_aload_n hx hb dX1_overlaps_17 rfl (lv_at hl 1 rfl) ?_
    refine va_get (D := G) (cl := vwCl) (ci := 2) (v := .double x2) (C := RX1) (T := TX1) (N := 4) hx hb (hts d0) in_X1_overlaps_X1 hown hK.1 (x1 hc1) 0 rfl rfl 0 (by decide) (hts d0 _ hw_X1_overlaps_1) (fun _ h9 => h9) rfl dX1_overlaps_18 ?_
    refine lv_aload_n hx hb dX1_overlaps_21 rfl (lv_at hl 0 rfl) ?_
    refine va_get (D := G) (cl := vwCl) (ci := 2) (v := .double x) (C := RX1) (T := TX1) (N := 4) hx hb (hts d0) in_X1_overlaps_X1 hown hK.1 (x1 hc0) 0 rfl rfl 0 (by decide) (hts d0 _ hw_X1_overlaps_1) (fun _ h9 => h9) rfl dX1_overlaps_22 ?_
    refine lv_aload_n hx hb dX1_overlaps_25 rfl (lv_at hl 0 rfl) ?_
    refine va_get (D := G) (cl := vwCl) (ci := 2) (v := .double u) (C := RX1) (T := TX1) (N := 4) hx hb (hts d0) in_X1_overlaps_X1 hown hK.1 (x1 hc0) 0 rfl rfl 2 (by decide) (hts d0 _ hw_X1_overlaps_2) (fun _ h9 => h9) rfl dX1_overlaps_26 ?_
    refine xdadd hd0 hx hb (vq_rf _) (vq_rf _) dX1_overlaps_29 (fun r_3 d0 q_3 hd0 => ?_)
    refine xcmp_g_ge (tgt := 72) hx hb (vq_rf _) q_3 dX1_overlaps_30 dX1_overlaps_31 (by decide) (fun c_4 => ?_) (fun c_4 => ?_)
    · refine lv_iconst (v := nI 0) hx hb dX1_overlaps_72 (by decide) ?_
      exact xzret (by decide) hd0 hx hb hr hlocks hS (Nat.le_of_ble_eq_true rfl) (Nat.le_of_ble_eq_true rfl) dX1_overlaps_73 ⟨rfl, pOv_f2 c_4⟩
    · refine lv_aload_n hx hb dX1_overlaps_34 rfl (lv_at hl 0 rfl) ?_
      refine va_get (D := G) (cl := vwCl) (ci := 2) (v := .double y) (C := RX1) (T := TX1) (N := 4) hx hb (hts d0) in_X1_overlaps_X1 hown hK.1 (x1 hc0) 0 rfl rfl 1 (by decide) (hts d0 _ hw_X1_overlaps_3) (fun _ h9 => h9) rfl dX1_overlaps_35 ?_
      refine lv_aload_n hx hb dX1_overlaps_38 rfl (lv_at hl 1 rfl) ?_
      refine va_get (D := G) (cl := vwCl) (ci := 2) (v := .double y2) (C := RX1) (T := TX1) (N := 4) hx hb (hts d0) in_X1_overlaps_X1 hown hK.1 (x1 hc1) 0 rfl rfl 1 (by decide) (hts d0 _ hw_X1_overlaps_3) (fun _ h9 => h9) rfl dX1_overlaps_39 ?_
      refine lv_aload_n hx hb dX1_overlaps_42 rfl (lv_at hl 1 rfl) ?_
      refine va_get (D := G) (cl := vwCl) (ci := 2) (v := .double h2) (C := RX1) (T := TX1) (N := 4) hx hb (hts d0) in_X1_overlaps_X1 hown hK.1 (x1 hc1) 0 rfl rfl 3 (by decide) (hts d0 _ hw_X1_overlaps_4) (fun _ h9 => h9) rfl dX1_overlaps_43 ?_
      refine xdadd hd0 hx hb (vq_rf _) (vq_rf _) dX1_overlaps_46 (fun r_5 d0 q_5 hd0 => ?_)
      refine xcmp_g_ge (tgt := 72) hx hb (vq_rf _) q_5 dX1_overlaps_47 dX1_overlaps_48 (by decide) (fun c_6 => ?_) (fun c_6 => ?_)
      · refine lv_iconst (v := nI 0) hx hb dX1_overlaps_72 (by decide) ?_
        exact xzret (by decide) hd0 hx hb hr hlocks hS (Nat.le_of_ble_eq_true rfl) (Nat.le_of_ble_eq_true rfl) dX1_overlaps_73 ⟨rfl, pOv_f3 c_6⟩
      · refine lv_aload_n hx hb dX1_overlaps_51 rfl (lv_at hl 1 rfl) ?_
        refine va_get (D := G) (cl := vwCl) (ci := 2) (v := .double y2) (C := RX1) (T := TX1) (N := 4) hx hb (hts d0) in_X1_overlaps_X1 hown hK.1 (x1 hc1) 0 rfl rfl 1 (by decide) (hts d0 _ hw_X1_overlaps_3) (fun _ h9 => h9) rfl dX1_overlaps_52 ?_
        refine lv_aload_n hx hb dX1_overlaps_55 rfl (lv_at hl 0 rfl) ?_
        refine va_get (D := G) (cl := vwCl) (ci := 2) (v := .double y) (C := RX1) (T := TX1) (N := 4) hx hb (hts d0) in_X1_overlaps_X1 hown hK.1 (x1 hc0) 0 rfl rfl 1 (by decide) (hts d0 _ hw_X1_overlaps_3) (fun _ h9 => h9) rfl dX1_overlaps_56 ?_
        refine lv_aload_n hx hb dX1_overlaps_59 rfl (lv_at hl 0 rfl) ?_
        refine va_get (D := G) (cl := vwCl) (ci := 2) (v := .double h) (C := RX1) (T := TX1) (N := 4) hx hb (hts d0) in_X1_overlaps_X1 hown hK.1 (x1 hc0) 0 rfl rfl 3 (by decide) (hts d0 _ hw_X1_overlaps_4) (fun _ h9 => h9) rfl dX1_overlaps_60 ?_
        refine xdadd hd0 hx hb (vq_rf _) (vq_rf _) dX1_overlaps_63 (fun r_7 d0 q_7 hd0 => ?_)
        refine xcmp_g_ge (tgt := 72) hx hb (vq_rf _) q_7 dX1_overlaps_64 dX1_overlaps_65 (by decide) (fun c_8 => ?_) (fun c_8 => ?_)
        · refine lv_iconst (v := nI 0) hx hb dX1_overlaps_72 (by decide) ?_
          exact xzret (by decide) hd0 hx hb hr hlocks hS (Nat.le_of_ble_eq_true rfl) (Nat.le_of_ble_eq_true rfl) dX1_overlaps_73 ⟨rfl, pOv_f4 c_8⟩
        · refine lv_iconst (v := nI 1) hx hb dX1_overlaps_68 (by decide) ?_
          refine lv_goto (tgt := 73) hx hb dX1_overlaps_69 (by decide) ?_
          exact xzret (by decide) hd0 hx hb hr hlocks hS (Nat.le_of_ble_eq_true rfl) (Nat.le_of_ble_eq_true rfl) dX1_overlaps_73 ⟨rfl, pOv_t c_2 c_4 c_6 c_8⟩
theorem dX2_cross_0 : decode cX2_cross 0 = .ok (.aload_n 2, 1) := by decide +kernel
theorem dX2_cross_1 : decode cX2_cross 1 = .ok (.getfield 7, 3) := by decide +kernel
theorem dX2_cross_4 : decode cX2_cross 4 = .ok (.aload_n 1, 1) := by decide +kernel
theorem dX2_cross_5 : decode cX2_cross 5 = .ok (.getfield 7, 3) := by decide +kernel
theorem dX2_cross_8 : decode cX2_cross 8 = .ok (.dsub, 1) := by decide +kernel
theorem dX2_cross_9 : decode cX2_cross 9 = .ok (.dstore 4, 2) := by decide +kernel
theorem dX2_cross_11 : decode cX2_cross 11 = .ok (.aload_n 2, 1) := by decide +kernel
theorem dX2_cross_12 : decode cX2_cross 12 = .ok (.getfield 13, 3) := by decide +kernel
theorem dX2_cross_15 : decode cX2_cross 15 = .ok (.aload_n 1, 1) := by decide +kernel
theorem dX2_cross_16 : decode cX2_cross 16 = .ok (.getfield 13, 3) := by decide +kernel
theorem dX2_cross_19 : decode cX2_cross 19 = .ok (.dsub, 1) := by decide +kernel
theorem dX2_cross_20 : decode cX2_cross 20 = .ok (.dstore 6, 2) := by decide +kernel
theorem dX2_cross_22 : decode cX2_cross 22 = .ok (.aload_n 2, 1) := by decide +kernel
theorem dX2_cross_23 : decode cX2_cross 23 = .ok (.getfield 16, 3) := by decide +kernel
theorem dX2_cross_26 : decode cX2_cross 26 = .ok (.aload_n 1, 1) := by decide +kernel
theorem dX2_cross_27 : decode cX2_cross 27 = .ok (.getfield 16, 3) := by decide +kernel
theorem dX2_cross_30 : decode cX2_cross 30 = .ok (.dsub, 1) := by decide +kernel
theorem dX2_cross_31 : decode cX2_cross 31 = .ok (.dstore 8, 2) := by decide +kernel
theorem dX2_cross_33 : decode cX2_cross 33 = .ok (.aload_n 3, 1) := by decide +kernel
theorem dX2_cross_34 : decode cX2_cross 34 = .ok (.getfield 7, 3) := by decide +kernel
theorem dX2_cross_37 : decode cX2_cross 37 = .ok (.aload_n 1, 1) := by decide +kernel
theorem dX2_cross_38 : decode cX2_cross 38 = .ok (.getfield 7, 3) := by decide +kernel
theorem dX2_cross_41 : decode cX2_cross 41 = .ok (.dsub, 1) := by decide +kernel
theorem dX2_cross_42 : decode cX2_cross 42 = .ok (.dstore 10, 2) := by decide +kernel
theorem dX2_cross_44 : decode cX2_cross 44 = .ok (.aload_n 3, 1) := by decide +kernel
theorem dX2_cross_45 : decode cX2_cross 45 = .ok (.getfield 13, 3) := by decide +kernel
theorem dX2_cross_48 : decode cX2_cross 48 = .ok (.aload_n 1, 1) := by decide +kernel
theorem dX2_cross_49 : decode cX2_cross 49 = .ok (.getfield 13, 3) := by decide +kernel
theorem dX2_cross_52 : decode cX2_cross 52 = .ok (.dsub, 1) := by decide +kernel
theorem dX2_cross_53 : decode cX2_cross 53 = .ok (.dstore 12, 2) := by decide +kernel
theorem dX2_cross_55 : decode cX2_cross 55 = .ok (.aload_n 3, 1) := by decide +kernel
theorem dX2_cross_56 : decode cX2_cross 56 = .ok (.getfield 16, 3) := by decide +kernel
theorem dX2_cross_59 : decode cX2_cross 59 = .ok (.aload_n 1, 1) := by decide +kernel
theorem dX2_cross_60 : decode cX2_cross 60 = .ok (.getfield 16, 3) := by decide +kernel
theorem dX2_cross_63 : decode cX2_cross 63 = .ok (.dsub, 1) := by decide +kernel
theorem dX2_cross_64 : decode cX2_cross 64 = .ok (.dstore 14, 2) := by decide +kernel
theorem dX2_cross_66 : decode cX2_cross 66 = .ok (.aload_n 0, 1) := by decide +kernel
theorem dX2_cross_67 : decode cX2_cross 67 = .ok (.dload 6, 2) := by decide +kernel
theorem dX2_cross_69 : decode cX2_cross 69 = .ok (.dload 14, 2) := by decide +kernel
theorem dX2_cross_71 : decode cX2_cross 71 = .ok (.dmul, 1) := by decide +kernel
theorem dX2_cross_72 : decode cX2_cross 72 = .ok (.dload 8, 2) := by decide +kernel
theorem dX2_cross_74 : decode cX2_cross 74 = .ok (.dload 12, 2) := by decide +kernel
theorem dX2_cross_76 : decode cX2_cross 76 = .ok (.dmul, 1) := by decide +kernel
theorem dX2_cross_77 : decode cX2_cross 77 = .ok (.dsub, 1) := by decide +kernel
theorem dX2_cross_78 : decode cX2_cross 78 = .ok (.putfield 19, 3) := by decide +kernel
theorem dX2_cross_81 : decode cX2_cross 81 = .ok (.aload_n 0, 1) := by decide +kernel
theorem dX2_cross_82 : decode cX2_cross 82 = .ok (.dload 8, 2) := by decide +kernel
theorem dX2_cross_84 : decode cX2_cross 84 = .ok (.dload 10, 2) := by decide +kernel
theorem dX2_cross_86 : decode cX2_cross 86 = .ok (.dmul, 1) := by decide +kernel
theorem dX2_cross_87 : decode cX2_cross 87 = .ok (.dload 4, 2) := by decide +kernel
theorem dX2_cross_89 : decode cX2_cross 89 = .ok (.dload 14, 2) := by decide +kernel
theorem dX2_cross_91 : decode cX2_cross 91 = .ok (.dmul, 1) := by decide +kernel
theorem dX2_cross_92 : decode cX2_cross 92 = .ok (.dsub, 1) := by decide +kernel
theorem dX2_cross_93 : decode cX2_cross 93 = .ok (.putfield 22, 3) := by decide +kernel
theorem dX2_cross_96 : decode cX2_cross 96 = .ok (.aload_n 0, 1) := by decide +kernel
theorem dX2_cross_97 : decode cX2_cross 97 = .ok (.dload 4, 2) := by decide +kernel
theorem dX2_cross_99 : decode cX2_cross 99 = .ok (.dload 12, 2) := by decide +kernel
theorem dX2_cross_101 : decode cX2_cross 101 = .ok (.dmul, 1) := by decide +kernel
theorem dX2_cross_102 : decode cX2_cross 102 = .ok (.dload 6, 2) := by decide +kernel
theorem dX2_cross_104 : decode cX2_cross 104 = .ok (.dload 10, 2) := by decide +kernel
theorem dX2_cross_106 : decode cX2_cross 106 = .ok (.dmul, 1) := by decide +kernel
theorem dX2_cross_107 : decode cX2_cross 107 = .ok (.dsub, 1) := by decide +kernel
theorem dX2_cross_108 : decode cX2_cross 108 = .ok (.putfield 23, 3) := by decide +kernel
theorem dX2_cross_111 : decode cX2_cross 111 = .ok (.return_, 1) := by decide +kernel
abbrev rm_X2_cross : Room := { frames := 5, cells := 0, slots := 0, locals := 40 }
theorem hw_X2_cross_1 : (Cond.fieldLink RX2 7 "PlankUnroll$Place" "x" "D") ∈ wsX2_cross := List.mem_of_getElem? (i := 1) rfl
theorem hw_X2_cross_2 : (Cond.fieldLink RX2 13 "PlankUnroll$Place" "y" "D") ∈ wsX2_cross := List.mem_of_getElem? (i := 2) rfl
theorem hw_X2_cross_3 : (Cond.fieldLink RX2 16 "PlankUnroll$Place" "z" "D") ∈ wsX2_cross := List.mem_of_getElem? (i := 3) rfl
theorem hw_X2_cross_4 : (Cond.fieldLink RX2 19 "PlankUnroll$Normal" "x" "D") ∈ wsX2_cross := List.mem_of_getElem? (i := 4) rfl
theorem hw_X2_cross_5 : (Cond.fieldLink RX2 22 "PlankUnroll$Normal" "y" "D") ∈ wsX2_cross := List.mem_of_getElem? (i := 5) rfl
theorem hw_X2_cross_6 : (Cond.fieldLink RX2 23 "PlankUnroll$Normal" "z" "D") ∈ wsX2_cross := List.mem_of_getElem? (i := 6) rfl
theorem in_X2_cross_X2 : ∀ w ∈ wsX20, w ∈ wsX2_cross := by decide +kernel
theorem in_X2_cross_X3 : ∀ w ∈ wsX30, w ∈ wsX2_cross := by decide +kernel
set_option maxHeartbeats 4000000 in
set_option maxRecDepth 100000 in
/-- a triangle -/
theorem c_X2_cross {l : Launch} {G : va_G} {ty : Nat → ClassId} {b0 : Nat} {H : Heap} {q0 q1 q2 q3 : Nat} {u0 v0 w0 u1 v1 w1 u2 v2 w2 u3 v3 w3 : UInt64} (hq0 : b0 ≤ q0) (hc0 : xc G q0 (.inr (3, [.double u0, .double v0, .double w0])) H) (hc1 : xc G q1 (.inr (4, [.double u1, .double v1, .double w1])) H) (hc2 : xc G q2 (.inr (4, [.double u2, .double v2, .double w2])) H) (hc3 : xc G q3 (.inr (4, [.double u3, .double v3, .double w3])) H) (hn1 : q1 ≠ q0) (hn2 : q2 ≠ q0) (hn3 : q3 ≠ q0) : xMet l yX2_cross wsX2_cross rm_X2_cross G ty b0 [.ref q0, .ref q1, .ref q2, .ref q3] H (fun v H1 => v = none ∧ ∃ x1 y1 z1 : UInt64, xset G q0 (.inr (3, [.double x1, .double y1, .double z1])) H H1 ∧ vq x1 (pC2 (FP.dsub v2 v1) (FP.dsub w2 w1) (FP.dsub v3 v1) (FP.dsub w3 w1)) ∧ vq y1 (pC2 (FP.dsub w2 w1) (FP.dsub u2 u1) (FP.dsub w3 w1) (FP.dsub u3 u1)) ∧ vq z1 (pC2 (FP.dsub u2 u1) (FP.dsub v2 v1) (FP.dsub u3 u1) (FP.dsub v3 v1))) (fun _ _ => False) := by
  refine xbody (cc := cX2_cross) (maxL := 16) (ret := none) (C := RX2) (lv := [(0, .ref q0), (1, .ref q1), (2, .ref q2), (3, .ref q3)]) (by decide) rfl rfl (Nat.le_of_ble_eq_true rfl) rfl ?_
  intro p e s m below meth c d0 hx hb hr hts hown hlocks hml hxt hnm0 hK hb0 hH0 hS hd0 ls hl
  refine lv_aload_n hx hb dX2_cross_0 rfl (lv_at hl 2 rfl) ?_
  refine va_get (D := G) (cl := vwCl) (ci := 4) (v := .double u2) (C := RX3) (T := TX3) (N := 3) hx hb (hts d0) in_X2_cross_X3 hown hK.1 (x1 hc2) 0 rfl rfl 0 (by decide) (hts d0 _ hw_X2_cross_1) (fun _ h9 => h9) rfl dX2_cross_1 ?_
  refine lv_aload_n hx hb dX2_cross_4 rfl (lv_at hl 1 rfl) ?_
  refine va_get (D := G) (cl := vwCl) (ci := 4) (v := .double u1) (C := RX3) (T := TX3) (N := 3) hx hb (hts d0) in_X2_cross_X3 hown hK.1 (x1 hc1) 0 rfl rfl 0 (by decide) (hts d0 _ hw_X2_cross_1) (fun _ h9 => h9) rfl dX2_cross_5 ?_
  refine xdsub hd0 hx hb (vq_rf _) (vq_rf _) dX2_cross_8 (fun r_1 d0 q_1 hd0 => ?_)
  refine lv_dstore (lv' := [(4, .double r_1), (0, .ref q0), (1, .ref q1), (2, .ref q2), (3, .ref q3)]) hx hb dX2_cross_9 hl (by decide) rfl (fun ls hl => ?_)
  refine lv_aload_n hx hb dX2_cross_11 rfl (lv_at hl 3 rfl) ?_
  refine va_get (D := G) (cl := vwCl) (ci := 4) (v := .double v2) (C := RX3) (T := TX3) (N := 3) hx hb (hts d0) in_X2_cross_X3 hown hK.1 (x1 hc2) 0 rfl rfl 1 (by decide) (hts d0 _ hw_X2_cross_2) (fun _ h9 => h9) rfl dX2_cross_12 ?_
  refine lv_aload_n hx hb dX2_cross_15 rfl (lv_at hl 2 rfl) ?_
  refine va_get (D := G) (cl := vwCl) (ci := 4) (v := .double v1) (C := RX3) (T := TX3) (N := 3) hx hb (hts d0) in_X2_cross_X3 hown hK.1 (x1 hc1) 0 rfl rfl 1 (by decide) (hts d0 _ hw_X2_cross_2) (fun _ h9 => h9) rfl dX2_cross_16 ?_
  refine xdsub hd0 hx hb (vq_rf _) (vq_rf _) dX2_cross_19 (fun r_2 d0 q_2 hd0 => ?_)
  refine lv_dstore (lv' := [(6, .double r_2), (4, .double r_1), (0, .ref q0), (1, .ref q1), (2, .ref q2), (3, .ref q3)]) hx hb dX2_cross_20 hl (by decide) rfl (fun ls hl => ?_)
  refine lv_aload_n hx hb dX2_cross_22 rfl (lv_at hl 4 rfl) ?_
  refine va_get (D := G) (cl := vwCl) (ci := 4) (v := .double w2) (C := RX3) (T := TX3) (N := 3) hx hb (hts d0) in_X2_cross_X3 hown hK.1 (x1 hc2) 0 rfl rfl 2 (by decide) (hts d0 _ hw_X2_cross_3) (fun _ h9 => h9) rfl dX2_cross_23 ?_
  refine lv_aload_n hx hb dX2_cross_26 rfl (lv_at hl 3 rfl) ?_
  refine va_get (D := G) (cl := vwCl) (ci := 4) (v := .double w1) (C := RX3) (T := TX3) (N := 3) hx hb (hts d0) in_X2_cross_X3 hown hK.1 (x1 hc1) 0 rfl rfl 2 (by decide) (hts d0 _ hw_X2_cross_3) (fun _ h9 => h9) rfl dX2_cross_27 ?_
  refine xdsub hd0 hx hb (vq_rf _) (vq_rf _) dX2_cross_30 (fun r_3 d0 q_3 hd0 => ?_)
  refine lv_dstore (lv' := [(8, .double r_3), (6, .double r_2), (4, .double r_1), (0, .ref q0), (1, .ref q1), (2, .ref q2), (3, .ref q3)]) hx hb dX2_cross_31 hl (by decide) rfl (fun ls hl => ?_)
  refine lv_aload_n hx hb dX2_cross_33 rfl (lv_at hl 6 rfl) ?_
  refine va_get (D := G) (cl := vwCl) (ci := 4) (v := .double u3) (C := RX3) (T := TX3) (N := 3) hx hb (hts d0) in_X2_cross_X3 hown hK.1 (x1 hc3) 0 rfl rfl 0 (by decide) (hts d0 _ hw_X2_cross_1) (fun _ h9 => h9) rfl dX2_cross_34 ?_
  refine lv_aload_n hx hb dX2_cross_37 rfl (lv_at hl 4 rfl) ?_
  refine va_get (D := G) (cl := vwCl) (ci := 4) (v := .double u1) (C := RX3) (T := TX3) (N := 3) hx hb (hts d0) in_X2_cross_X3 hown hK.1 (x1 hc1) 0 rfl rfl 0 (by decide) (hts d0 _ hw_X2_cross_1) (fun _ h9 => h9) rfl dX2_cross_38 ?_
  refine xdsub hd0 hx hb (vq_rf _) (vq_rf _) dX2_cross_41 (fun r_4 d0 q_4 hd0 => ?_)
  refine lv_dstore (lv' := [(10, .double r_4), (8, .double r_3), (6, .double r_2), (4, .double r_1), (0, .ref q0), (1, .ref q1), (2, .ref q2), (3, .ref q3)]) hx hb dX2_cross_42 hl (by decide) rfl (fun ls hl => ?_)
  refine lv_aload_n hx hb dX2_cross_44 rfl (lv_at hl 7 rfl) ?_
  refine va_get (D := G) (cl := vwCl) (ci := 4) (v := .double v3) (C := RX3) (T := TX3) (N := 3) hx hb (hts d0) in_X2_cross_X3 hown hK.1 (x1 hc3) 0 rfl rfl 1 (by decide) (hts d0 _ hw_X2_cross_2) (fun _ h9 => h9) rfl dX2_cross_45 ?_
  refine lv_aload_n hx hb dX2_cross_48 rfl (lv_at hl 5 rfl) ?_
  refine va_get (D := G) (cl := vwCl) (ci := 4) (v := .double v1) (C := RX3) (T := TX3) (N := 3) hx hb (hts d0) in_X2_cross_X3 hown hK.1 (x1 hc1) 0 rfl rfl 1 (by decide) (hts d0 _ hw_X2_cross_2) (fun _ h9 => h9) rfl dX2_cross_49 ?_
  refine xdsub hd0 hx hb (vq_rf _) (vq_rf _) dX2_cross_52 (fun r_5 d0 q_5 hd0 => ?_)
  refine lv_dstore (lv' := [(12, .double r_5), (10, .double r_4), (8, .double r_3), (6, .double r_2), (4, .double r_1), (0, .ref q0), (1, .ref q1), (2, .ref q2), (3, .ref q3)]) hx hb dX2_cross_53 hl (by decide) rfl (fun ls hl => ?_)
  refine lv_aload_n hx hb dX2_cross_55 rfl (lv_at hl 8 rfl) ?_
  refine va_get (D := G) (cl := vwCl) (ci := 4) (v := .double w3) (C := RX3) (T := TX3) (N := 3) hx hb (hts d0) in_X2_cross_X3 hown hK.1 (x1 hc3) 0 rfl rfl 2 (by decide) (hts d0 _ hw_X2_cross_3) (fun _ h9 => h9) rfl dX2_cross_56 ?_
  refine lv_aload_n hx hb dX2_cross_59 rfl (lv_at hl 6 rfl) ?_
  refine va_get (D := G) (cl := vwCl) (ci := 4) (v := .double w1) (C := RX3) (T := TX3) (N := 3) hx hb (hts d0) in_X2_cross_X3 hown hK.1 (x1 hc1) 0 rfl rfl 2 (by decide) (hts d0 _ hw_X2_cross_3) (fun _ h9 => h9) rfl dX2_cross_60 ?_
  refine xdsub hd0 hx hb (vq_rf _) (vq_rf _) dX2_cross_63 (fun r_6 d0 q_6 hd0 => ?_)
  refine lv_dstore (lv' := [(14, .double r_6), (12, .double r_5), (10, .double r_4), (8, .double r_3), (6, .double r_2), (4, .double r_1), (0, .ref q0), (1, .ref q1), (2, .ref q2), (3, .ref q3)]) hx hb dX2_cross_64 hl (by decide) rfl (fun ls hl => ?_)
  refine lv_aload_n hx hb dX2_cross_66 rfl (lv_at hl 6 rfl) ?_
  refine lv_dload hx hb dX2_cross_67 (lv_at hl 4 rfl) ?_
  refine lv_dload hx hb dX2_cross_69 (lv_at hl 0 rfl) ?_
  refine xdmul hd0 hx hb q_2 q_6 dX2_cross_71 (fun r_7 d0 q_7 hd0 => ?_)
  refine lv_dload hx hb dX2_cross_72 (lv_at hl 3 rfl) ?_
  refine lv_dload hx hb dX2_cross_74 (lv_at hl 1 rfl) ?_
  refine xdmul hd0 hx hb q_3 q_5 dX2_cross_76 (fun r_8 d0 q_8 hd0 => ?_)
  refine xdsub hd0 hx hb q_7 q_8 dX2_cross_77 (fun r_9 d0 q_9 hd0 => ?_)
  refine xput (G := G) (ci := 3) (v := .double r_9) (ty := .double) (C := RX2) (T := TX2) (N := 3) hx hb (hts d0) in_X2_cross_X2 tyX2 tyX2_ok nmX2 hown hK.1 hc0 hS hq0 rfl 0 (by decide) (hts d0 _ hw_X2_cross_4) (fun _ h9 => h9) rfl (by decide +kernel) rfl rfl (Nat.le_of_ble_eq_true rfl) dX2_cross_78 (fun H_10 locs_10 hs_10 hS => ?_)
  have hc_10 : xc G q0 (.inr (3, [.double r_9, .double v0, .double w0])) H_10 := hs_10.1
  refine lv_aload_n hx hb dX2_cross_81 rfl (lv_at hl 6 rfl) ?_
  refine lv_dload hx hb dX2_cross_82 (lv_at hl 3 rfl) ?_
  refine lv_dload hx hb dX2_cross_84 (lv_at hl 2 rfl) ?_
  refine xdmul hd0 hx hb q_3 q_4 dX2_cross_86 (fun r_11 d0 q_11 hd0 => ?_)
  refine lv_dload hx hb dX2_cross_87 (lv_at hl 5 rfl) ?_
  refine lv_dload hx hb dX2_cross_89 (lv_at hl 0 rfl) ?_
  refine xdmul hd0 hx hb q_1 q_6 dX2_cross_91 (fun r_12 d0 q_12 hd0 => ?_)
  refine xdsub hd0 hx hb q_11 q_12 dX2_cross_92 (fun r_13 d0 q_13 hd0 => ?_)
  refine xput (G := G) (ci := 3) (v := .double r_13) (ty := .double) (C := RX2) (T := TX2) (N := 3) hx hb (hts d0) in_X2_cross_X2 tyX2 tyX2_ok nmX2 hown hK.1 hc_10 hS hq0 rfl 1 (by decide) (hts d0 _ hw_X2_cross_5) (fun _ h9 => h9) rfl (by decide +kernel) rfl rfl (Nat.le_of_ble_eq_true rfl) dX2_cross_93 (fun H_14 locs_14 hs_14 hS => ?_)
  have hc_14 : xc G q0 (.inr (3, [.double r_9, .double r_13, .double w0])) H_14 := hs_14.1
  refine lv_aload_n hx hb dX2_cross_96 rfl (lv_at hl 6 rfl) ?_
  refine lv_dload hx hb dX2_cross_97 (lv_at hl 5 rfl) ?_
  refine lv_dload hx hb dX2_cross_99 (lv_at hl 1 rfl) ?_
  refine xdmul hd0 hx hb q_1 q_5 dX2_cross_101 (fun r_15 d0 q_15 hd0 => ?_)
  refine lv_dload hx hb dX2_cross_102 (lv_at hl 4 rfl) ?_
  refine lv_dload hx hb dX2_cross_104 (lv_at hl 2 rfl) ?_
  refine xdmul hd0 hx hb q_2 q_4 dX2_cross_106 (fun r_16 d0 q_16 hd0 => ?_)
  refine xdsub hd0 hx hb q_15 q_16 dX2_cross_107 (fun r_17 d0 q_17 hd0 => ?_)
  refine xput (G := G) (ci := 3) (v := .double r_17) (ty := .double) (C := RX2) (T := TX2) (N := 3) hx hb (hts d0) in_X2_cross_X2 tyX2 tyX2_ok nmX2 hown hK.1 hc_14 hS hq0 rfl 2 (by decide) (hts d0 _ hw_X2_cross_6) (fun _ h9 => h9) rfl (by decide +kernel) rfl rfl (Nat.le_of_ble_eq_true rfl) dX2_cross_108 (fun H_18 locs_18 hs_18 hS => ?_)
  have hc_18 : xc G q0 (.inr (3, [.double r_9, .double r_13, .double r_17])) H_18 := hs_18.1
  exact xvret hd0 hx hb hr hlocks hS (Nat.le_of_ble_eq_true rfl) (Nat.le_of_ble_eq_true rfl) dX2_cross_111 ⟨rfl, _, _, _, (hs_10.tr hs_14).tr hs_18, q_9, q_13, q_17⟩
def pDo3 (a b c d e f : UInt64) : UInt64 := FP.dadd (FP.dadd (FP.dmul a d) (FP.dmul b e)) (FP.dmul c f)
theorem dX2_times_0 : decode cX2_times 0 = .ok (.aload_n 0, 1) := by decide +kernel
theorem dX2_times_1 : decode cX2_times 1 = .ok (.getfield 19, 3) := by decide +kernel
theorem dX2_times_4 : decode cX2_times 4 = .ok (.aload_n 1, 1) := by decide +kernel
theorem dX2_times_5 : decode cX2_times 5 = .ok (.getfield 19, 3) := by decide +kernel
theorem dX2_times_8 : decode cX2_times 8 = .ok (.dmul, 1) := by decide +kernel
theorem dX2_times_9 : decode cX2_times 9 = .ok (.aload_n 0, 1) := by decide +kernel
theorem dX2_times_10 : decode cX2_times 10 = .ok (.getfield 22, 3) := by decide +kernel
theorem dX2_times_13 : decode cX2_times 13 = .ok (.aload_n 1, 1) := by decide +kernel
theorem dX2_times_14 : decode cX2_times 14 = .ok (.getfield 22, 3) := by decide +kernel
theorem dX2_times_17 : decode cX2_times 17 = .ok (.dmul, 1) := by decide +kernel
theorem dX2_times_18 : decode cX2_times 18 = .ok (.dadd, 1) := by decide +kernel
theorem dX2_times_19 : decode cX2_times 19 = .ok (.aload_n 0, 1) := by decide +kernel
theorem dX2_times_20 : decode cX2_times 20 = .ok (.getfield 23, 3) := by decide +kernel
theorem dX2_times_23 : decode cX2_times 23 = .ok (.aload_n 1, 1) := by decide +kernel
theorem dX2_times_24 : decode cX2_times 24 = .ok (.getfield 23, 3) := by decide +kernel
theorem dX2_times_27 : decode cX2_times 27 = .ok (.dmul, 1) := by decide +kernel
theorem dX2_times_28 : decode cX2_times 28 = .ok (.dadd, 1) := by decide +kernel
theorem dX2_times_29 : decode cX2_times 29 = .ok (.dreturn, 1) := by decide +kernel
abbrev rm_X2_times : Room := { frames := 5, cells := 0, slots := 0, locals := 40 }
theorem hw_X2_times_1 : (Cond.fieldLink RX2 19 "PlankUnroll$Normal" "x" "D") ∈ wsX2_times := List.mem_of_getElem? (i := 1) rfl
theorem hw_X2_times_2 : (Cond.fieldLink RX2 22 "PlankUnroll$Normal" "y" "D") ∈ wsX2_times := List.mem_of_getElem? (i := 2) rfl
theorem hw_X2_times_3 : (Cond.fieldLink RX2 23 "PlankUnroll$Normal" "z" "D") ∈ wsX2_times := List.mem_of_getElem? (i := 3) rfl
theorem in_X2_times_X2 : ∀ w ∈ wsX20, w ∈ wsX2_times := by decide +kernel
set_option maxHeartbeats 4000000 in
set_option maxRecDepth 100000 in
/-- two triangles -/
theorem c_X2_times {l : Launch} {G : va_G} {ty : Nat → ClassId} {b0 : Nat} {H : Heap} {q0 q1 : Nat} {u0 v0 w0 u1 v1 w1 a b d a1 b1 d1 : UInt64} (hc0 : xc G q0 (.inr (3, [.double u0, .double v0, .double w0])) H) (hc1 : xc G q1 (.inr (3, [.double u1, .double v1, .double w1])) H) (hu0 : vq u0 a) (hv0 : vq v0 b) (hw0 : vq w0 d) (hu1 : vq u1 a1) (hv1 : vq v1 b1) (hw1 : vq w1 d1) : xMet l yX2_times wsX2_times rm_X2_times G ty b0 [.ref q0, .ref q1] H (fun v H1 => H = H1 ∧ ∃ z9 : UInt64, v = some (.double z9) ∧ vq z9 (pDo3 a b d a1 b1 d1)) (fun _ _ => False) := by
  refine xbody (cc := cX2_times) (maxL := 2) (ret := (some .double)) (C := RX2) (lv := [(0, .ref q0), (1, .ref q1)]) (by decide) rfl rfl (Nat.le_of_ble_eq_true rfl) rfl ?_
  intro p e s m below meth c d0 hx hb hr hts hown hlocks hml hxt hnm0 hK hb0 hH0 hS hd0 ls hl
  refine lv_aload_n hx hb dX2_times_0 rfl (lv_at hl 0 rfl) ?_
  refine va_get (D := G) (cl := vwCl) (ci := 3) (v := .double u0) (C := RX2) (T := TX2) (N := 3) hx hb (hts d0) in_X2_times_X2 hown hK.1 (x1 hc0) 0 rfl rfl 0 (by decide) (hts d0 _ hw_X2_times_1) (fun _ h9 => h9) rfl dX2_times_1 ?_
  refine lv_aload_n hx hb dX2_times_4 rfl (lv_at hl 1 rfl) ?_
  refine va_get (D := G) (cl := vwCl) (ci := 3) (v := .double u1) (C := RX2) (T := TX2) (N := 3) hx hb (hts d0) in_X2_times_X2 hown hK.1 (x1 hc1) 0 rfl rfl 0 (by decide) (hts d0 _ hw_X2_times_1) (fun _ h9 => h9) rfl dX2_times_5 ?_
  refine xdmul hd0 hx hb hu0 hu1 dX2_times_8 (fun r_1 d0 q_1 hd0 => ?_)
  refine lv_aload_n hx hb dX2_times_9 rfl (lv_at hl 0 rfl) ?_
  refine va_get (D := G) (cl := vwCl) (ci := 3) (v := .double v0) (C := RX2) (T := TX2) (N := 3) hx hb (hts d0) in_X2_times_X2 hown hK.1 (x1 hc0) 0 rfl rfl 1 (by decide) (hts d0 _ hw_X2_times_2) (fun _ h9 => h9) rfl dX2_times_10 ?_
  refine lv_aload_n hx hb dX2_times_13 rfl (lv_at hl 1 rfl) ?_
  refine va_get (D := G) (cl := vwCl) (ci := 3) (v := .double v1) (C := RX2) (T := TX2) (N := 3) hx hb (hts d0) in_X2_times_X2 hown hK.1 (x1 hc1) 0 rfl rfl 1 (by decide) (hts d0 _ hw_X2_times_2) (fun _ h9 => h9) rfl dX2_times_14 ?_
  refine xdmul hd0 hx hb hv0 hv1 dX2_times_17 (fun r_2 d0 q_2 hd0 => ?_)
  refine xdadd hd0 hx hb q_1 q_2 dX2_times_18 (fun r_3 d0 q_3 hd0 => ?_)
  refine lv_aload_n hx hb dX2_times_19 rfl (lv_at hl 0 rfl) ?_
  refine va_get (D := G) (cl := vwCl) (ci := 3) (v := .double w0) (C := RX2) (T := TX2) (N := 3) hx hb (hts d0) in_X2_times_X2 hown hK.1 (x1 hc0) 0 rfl rfl 2 (by decide) (hts d0 _ hw_X2_times_3) (fun _ h9 => h9) rfl dX2_times_20 ?_
  refine lv_aload_n hx hb dX2_times_23 rfl (lv_at hl 1 rfl) ?_
  refine va_get (D := G) (cl := vwCl) (ci := 3) (v := .double w1) (C := RX2) (T := TX2) (N := 3) hx hb (hts d0) in_X2_times_X2 hown hK.1 (x1 hc1) 0 rfl rfl 2 (by decide) (hts d0 _ hw_X2_times_3) (fun _ h9 => h9) rfl dX2_times_24 ?_
  refine xdmul hd0 hx hb hw0 hw1 dX2_times_27 (fun r_4 d0 q_4 hd0 => ?_)
  refine xdadd hd0 hx hb q_3 q_4 dX2_times_28 (fun r_5 d0 q_5 hd0 => ?_)
  exact xdret hd0 hx hb hr hlocks hS (Nat.le_of_ble_eq_true rfl) (Nat.le_of_ble_eq_true rfl) dX2_times_29 ⟨rfl, _, rfl, q_5⟩
set_option maxRecDepth 20000 in
theorem ggX5_across_X6_apart : GoodIn wsX5_across wsX6_apart := goodIn_r _ [6, 7, 8, 9, 10, 11, 5, 12, 13, 24, 25, 26] (by decide +kernel) (by decide +kernel)
set_option maxRecDepth 20000 in
theorem gX5_across_X6_apart_n55 : GoodIn wsX5_across (wsX6_apart) := ggX5_across_X6_apart
theorem dX5_across_0 : decode cX5_across 0 = .ok (.aload_n 0, 1) := by decide +kernel
theorem dX5_across_1 : decode cX5_across 1 = .ok (.getfield 9, 3) := by decide +kernel
theorem dX5_across_4 : decode cX5_across 4 = .ok (.getfield 49, 3) := by decide +kernel
theorem dX5_across_7 : decode cX5_across 7 = .ok (.iload_n 1, 1) := by decide +kernel
theorem dX5_across_8 : decode cX5_across 8 = .ok (.aaload, 1) := by decide +kernel
theorem dX5_across_9 : decode cX5_across 9 = .ok (.aload_n 0, 1) := by decide +kernel
theorem dX5_across_10 : decode cX5_across 10 = .ok (.getfield 15, 3) := by decide +kernel
theorem dX5_across_13 : decode cX5_across 13 = .ok (.getfield 49, 3) := by decide +kernel
theorem dX5_across_16 : decode cX5_across 16 = .ok (.iload_n 1, 1) := by decide +kernel
theorem dX5_across_17 : decode cX5_across 17 = .ok (.aaload, 1) := by decide +kernel
theorem dX5_across_18 : decode cX5_across 18 = .ok (.invokestatic 55, 3) := by decide +kernel
theorem dX5_across_21 : decode cX5_across 21 = .ok (.dreturn, 1) := by decide +kernel
abbrev rm_X5_across : Room := { frames := 7, cells := 0, slots := 0, locals := 140 }
theorem hw_X5_across_1 : (Cond.fieldLink RX5 9 "PlankUnroll$Strip" "a" "LPlankUnroll$Row;") ∈ wsX5_across := List.mem_of_getElem? (i := 1) rfl
theorem hw_X5_across_2 : (Cond.fieldLink RX5 49 "PlankUnroll$Row" "places" "[LPlankUnroll$Place;") ∈ wsX5_across := List.mem_of_getElem? (i := 2) rfl
theorem hw_X5_across_3 : (Cond.fieldLink RX5 15 "PlankUnroll$Strip" "b" "LPlankUnroll$Row;") ∈ wsX5_across := List.mem_of_getElem? (i := 3) rfl
theorem hw_X5_across_4 : (Cond.static yX6_apart) ∈ wsX5_across := List.mem_of_getElem? (i := 4) rfl
theorem hw_X5_across_5 : (Cond.initialized RX6) ∈ wsX5_across := List.mem_of_getElem? (i := 5) rfl
theorem in_X5_across_X4 : ∀ w ∈ wsX40, w ∈ wsX5_across := by decide +kernel
theorem in_X5_across_X5 : ∀ w ∈ wsX50, w ∈ wsX5_across := by decide +kernel
set_option maxHeartbeats 4000000 in
set_option maxRecDepth 100000 in
/-- how wide a strip is -/
theorem c_X5_across {l : Launch} {G : va_G} {ty : Nat → ClassId} {b0 : Nat} {H : Heap} {ad : Nat → Nat} {F R nb : Nat} {pl wi hi fa : Nat → UInt64} {un bu lo la : Nat → Int32} {cx cy bx : Nat → Nat → UInt64} {nf : Nat → Nat} {K0 : Heap} (hX : xCla G ty ad F R pl un cx cy bu nb wi hi nf fa lo la bx K0 H) (hW : xWf F R nb nf ad b0) {i f : Nat} (hi9 : i < R - 1) (hf9 : f < F) : xMet l yX5_across wsX5_across rm_X5_across G ty b0 [.ref (ad (30 + i)), .int (nI f)] H (fun v H1 => H = H1 ∧ ∃ z9 : UInt64, v = some (.double z9) ∧ vq z9 (pFar pl f i f (i + 1))) (fun _ _ => False) := by
  refine xbody (cc := cX5_across) (maxL := 2) (ret := (some .double)) (C := RX5) (lv := [(0, .ref (ad (30 + i))), (1, .int (nI f))]) (by decide) rfl rfl (Nat.le_of_ble_eq_true rfl) rfl ?_
  intro p e s m below meth c d0 hx hb hr hts hown hlocks hml hxt hnm0 hK hb0 hH0 hS hd0 ls hl
  obtain ⟨⟨zF2, zF8⟩, ⟨zR2, zR8⟩⟩ := id hW.1
  have zB4 := hW.2.1
  refine lv_aload_n hx hb dX5_across_0 rfl (lv_at hl 0 rfl) ?_
  refine va_get (D := G) (cl := vwCl) (ci := 6) (v := .ref (ad (10 + i))) (C := RX5) (T := TX5) (N := 9) hx hb (hts d0) in_X5_across_X5 hown hK.1 (x1 (hX.strip_ _ (by omega))) 0 rfl rfl 0 (by decide) (hts d0 _ hw_X5_across_1) (fun _ h9 => h9) rfl dX5_across_1 ?_
  refine va_get (D := G) (cl := vwCl) (ci := 5) (v := .ref (ad (20 + i))) (C := RX4) (T := TX4) (N := 1) hx hb (hts d0) in_X5_across_X4 hown hK.1 (x1 (hX.row_ _ (by omega))) 0 rfl rfl 0 (by decide) (hts d0 _ hw_X5_across_2) (fun _ h9 => h9) rfl dX5_across_4 ?_
  refine lv_iload_n hx hb dX5_across_7 rfl (lv_at hl 1 rfl) ?_
  refine xaald (j := f) hx hb hK.1 4 (hX.parr_ _ (by omega)) rfl (xix_of (by omega) (by omega)) rfl dX5_across_8 ?_
  refine lv_aload_n hx hb dX5_across_9 rfl (lv_at hl 0 rfl) ?_
  refine va_get (D := G) (cl := vwCl) (ci := 6) (v := .ref (ad (10 + (i + 1)))) (C := RX5) (T := TX5) (N := 9) hx hb (hts d0) in_X5_across_X5 hown hK.1 (x1 (hX.strip_ _ (by omega))) 0 rfl rfl 1 (by decide) (hts d0 _ hw_X5_across_3) (fun _ h9 => h9) rfl dX5_across_10 ?_
  refine va_get (D := G) (cl := vwCl) (ci := 5) (v := .ref (ad (20 + (i + 1)))) (C := RX4) (T := TX4) (N := 1) hx hb (hts d0) in_X5_across_X4 hown hK.1 (x1 (hX.row_ _ (by omega))) 0 rfl rfl 0 (by decide) (hts d0 _ hw_X5_across_2) (fun _ h9 => h9) rfl dX5_across_13 ?_
  refine lv_iload_n hx hb dX5_across_16 rfl (lv_at hl 1 rfl) ?_
  refine xaald (j := f) hx hb hK.1 4 (hX.parr_ _ (by omega)) rfl (xix_of (by omega) (by omega)) rfl dX5_across_17 ?_
  have cw_1 := va_cnB (R := rm_X5_across) (rm := rm_X6_apart) (index := 55) 2 (hts d0) gX5_across_X6_apart_n55 rfl rfl rfl (va_Nw.same (u := s) rfl rfl (hK.2.2.2.1 _ (List.mem_of_getElem? (i := 0) rfl))) (hts d0 _ hw_X5_across_5) (by decide +kernel) ⟨Nat.le_of_ble_eq_true rfl, Nat.le_of_ble_eq_true rfl⟩
  have cs_1 : (Cond.static yX6_apart).before _ (s.setDrawn d0) = true := hts d0 _ hw_X5_across_4
  refine xcall hd0 (xintoSN (As := [.ref (ad (100 + 8 * i + f)), .ref (ad (100 + 8 * (i + 1) + f))]) (rest := []) ⟨hx, hb, hml, hown, hts _⟩ ⟨cw_1, cs_1, trivial⟩ rfl rfl hl.1 rfl (lv_room (Nat.le_of_ble_eq_true rfl)) dX5_across_18) (c_X6_apart (l := l) (G := G) (ty := ty) (b0 := b0) (hX.place_ _ (by omega) _ (by omega)) (hX.place_ _ (by omega) _ (by omega)) (vq_rf _) (vq_rf _) (vq_rf _) (vq_rf _) (vq_rf _) (vq_rf _)) (xoweN cw_1) hK hb0 hS (Nat.le_of_ble_eq_true rfl) (Nat.le_of_ble_eq_true rfl) (fun E_1 ce_1 q9_1 H_1 locs_1 d0 hd0 hp_1 hS hce_1 hcv_1 hcl_1 => ?_) (fun v_1 H_1 locs_1 d0 hd0 hp_1 hS => ?_)
  · exact hp_1.elim
  · obtain ⟨rfl, r_1, rfl, q_1⟩ := hp_1
    show W p l e _ (s.setDrawn _) m _ below meth c _ _ _ _ _ (F0 m 21 ls [.double r_1])
    exact xdret hd0 hx hb hr hlocks hS (Nat.le_of_ble_eq_true rfl) (Nat.le_of_ble_eq_true rfl) dX5_across_21 ⟨rfl, _, rfl, q_1⟩
/-- STRETCH, out of the class's corners -/
def pOffC (x y pl : Nat → UInt64) (i f : Nat) : UInt64 := FP.dsub (pLen (FP.dsub (x (2 * f + 3)) (x (2 * f))) (FP.dsub (y (2 * f + 3)) (y (2 * f)))) (pFar pl f i (f + 1) (i + 1))
set_option maxRecDepth 20000 in
theorem ggX5_offDiagonal_X6_root : GoodIn wsX5_offDiagonal wsX6_root := goodIn_r _ [8, 9] (by decide +kernel) (by decide +kernel)
set_option maxRecDepth 20000 in
theorem gX5_offDiagonal_X6_root_n78 : GoodIn wsX5_offDiagonal (wsX6_root) := ggX5_offDiagonal_X6_root
set_option maxRecDepth 20000 in
theorem ggX5_offDiagonal_X6_apart : GoodIn wsX5_offDiagonal wsX6_apart := goodIn_r _ [11, 12, 13, 14, 15, 6, 7, 8, 9, 26, 27, 28] (by decide +kernel) (by decide +kernel)
set_option maxRecDepth 20000 in
theorem gX5_offDiagonal_X6_apart_n55 : GoodIn wsX5_offDiagonal (wsX6_apart) := ggX5_offDiagonal_X6_apart
theorem dX5_offDiagonal_0 : decode cX5_offDiagonal 0 = .ok (.iconst 2, 1) := by decide +kernel
theorem dX5_offDiagonal_1 : decode cX5_offDiagonal 1 = .ok (.iload_n 1, 1) := by decide +kernel
theorem dX5_offDiagonal_2 : decode cX5_offDiagonal 2 = .ok (.imul, 1) := by decide +kernel
theorem dX5_offDiagonal_3 : decode cX5_offDiagonal 3 = .ok (.istore_n 2, 1) := by decide +kernel
theorem dX5_offDiagonal_4 : decode cX5_offDiagonal 4 = .ok (.iconst 2, 1) := by decide +kernel
theorem dX5_offDiagonal_5 : decode cX5_offDiagonal 5 = .ok (.iload_n 1, 1) := by decide +kernel
theorem dX5_offDiagonal_6 : decode cX5_offDiagonal 6 = .ok (.imul, 1) := by decide +kernel
theorem dX5_offDiagonal_7 : decode cX5_offDiagonal 7 = .ok (.iconst 3, 1) := by decide +kernel
theorem dX5_offDiagonal_8 : decode cX5_offDiagonal 8 = .ok (.iadd, 1) := by decide +kernel
theorem dX5_offDiagonal_9 : decode cX5_offDiagonal 9 = .ok (.istore_n 3, 1) := by decide +kernel
theorem dX5_offDiagonal_10 : decode cX5_offDiagonal 10 = .ok (.aload_n 0, 1) := by decide +kernel
theorem dX5_offDiagonal_11 : decode cX5_offDiagonal 11 = .ok (.getfield 18, 3) := by decide +kernel
theorem dX5_offDiagonal_14 : decode cX5_offDiagonal 14 = .ok (.iload_n 3, 1) := by decide +kernel
theorem dX5_offDiagonal_15 : decode cX5_offDiagonal 15 = .ok (.daload, 1) := by decide +kernel
theorem dX5_offDiagonal_16 : decode cX5_offDiagonal 16 = .ok (.aload_n 0, 1) := by decide +kernel
theorem dX5_offDiagonal_17 : decode cX5_offDiagonal 17 = .ok (.getfield 18, 3) := by decide +kernel
theorem dX5_offDiagonal_20 : decode cX5_offDiagonal 20 = .ok (.iload_n 2, 1) := by decide +kernel
theorem dX5_offDiagonal_21 : decode cX5_offDiagonal 21 = .ok (.daload, 1) := by decide +kernel
theorem dX5_offDiagonal_22 : decode cX5_offDiagonal 22 = .ok (.dsub, 1) := by decide +kernel
theorem dX5_offDiagonal_23 : decode cX5_offDiagonal 23 = .ok (.dstore 4, 2) := by decide +kernel
theorem dX5_offDiagonal_25 : decode cX5_offDiagonal 25 = .ok (.aload_n 0, 1) := by decide +kernel
theorem dX5_offDiagonal_26 : decode cX5_offDiagonal 26 = .ok (.getfield 22, 3) := by decide +kernel
theorem dX5_offDiagonal_29 : decode cX5_offDiagonal 29 = .ok (.iload_n 3, 1) := by decide +kernel
theorem dX5_offDiagonal_30 : decode cX5_offDiagonal 30 = .ok (.daload, 1) := by decide +kernel
theorem dX5_offDiagonal_31 : decode cX5_offDiagonal 31 = .ok (.aload_n 0, 1) := by decide +kernel
theorem dX5_offDiagonal_32 : decode cX5_offDiagonal 32 = .ok (.getfield 22, 3) := by decide +kernel
theorem dX5_offDiagonal_35 : decode cX5_offDiagonal 35 = .ok (.iload_n 2, 1) := by decide +kernel
theorem dX5_offDiagonal_36 : decode cX5_offDiagonal 36 = .ok (.daload, 1) := by decide +kernel
theorem dX5_offDiagonal_37 : decode cX5_offDiagonal 37 = .ok (.dsub, 1) := by decide +kernel
theorem dX5_offDiagonal_38 : decode cX5_offDiagonal 38 = .ok (.dstore 6, 2) := by decide +kernel
theorem dX5_offDiagonal_40 : decode cX5_offDiagonal 40 = .ok (.dload 4, 2) := by decide +kernel
theorem dX5_offDiagonal_42 : decode cX5_offDiagonal 42 = .ok (.dload 4, 2) := by decide +kernel
theorem dX5_offDiagonal_44 : decode cX5_offDiagonal 44 = .ok (.dmul, 1) := by decide +kernel
theorem dX5_offDiagonal_45 : decode cX5_offDiagonal 45 = .ok (.dload 6, 2) := by decide +kernel
theorem dX5_offDiagonal_47 : decode cX5_offDiagonal 47 = .ok (.dload 6, 2) := by decide +kernel
theorem dX5_offDiagonal_49 : decode cX5_offDiagonal 49 = .ok (.dmul, 1) := by decide +kernel
theorem dX5_offDiagonal_50 : decode cX5_offDiagonal 50 = .ok (.dadd, 1) := by decide +kernel
theorem dX5_offDiagonal_51 : decode cX5_offDiagonal 51 = .ok (.invokestatic 78, 3) := by decide +kernel
theorem dX5_offDiagonal_54 : decode cX5_offDiagonal 54 = .ok (.aload_n 0, 1) := by decide +kernel
theorem dX5_offDiagonal_55 : decode cX5_offDiagonal 55 = .ok (.getfield 9, 3) := by decide +kernel
theorem dX5_offDiagonal_58 : decode cX5_offDiagonal 58 = .ok (.getfield 49, 3) := by decide +kernel
theorem dX5_offDiagonal_61 : decode cX5_offDiagonal 61 = .ok (.iload_n 1, 1) := by decide +kernel
theorem dX5_offDiagonal_62 : decode cX5_offDiagonal 62 = .ok (.aaload, 1) := by decide +kernel
theorem dX5_offDiagonal_63 : decode cX5_offDiagonal 63 = .ok (.aload_n 0, 1) := by decide +kernel
theorem dX5_offDiagonal_64 : decode cX5_offDiagonal 64 = .ok (.getfield 15, 3) := by decide +kernel
theorem dX5_offDiagonal_67 : decode cX5_offDiagonal 67 = .ok (.getfield 49, 3) := by decide +kernel
theorem dX5_offDiagonal_70 : decode cX5_offDiagonal 70 = .ok (.iload_n 1, 1) := by decide +kernel
theorem dX5_offDiagonal_71 : decode cX5_offDiagonal 71 = .ok (.iconst 1, 1) := by decide +kernel
theorem dX5_offDiagonal_72 : decode cX5_offDiagonal 72 = .ok (.iadd, 1) := by decide +kernel
theorem dX5_offDiagonal_73 : decode cX5_offDiagonal 73 = .ok (.aaload, 1) := by decide +kernel
theorem dX5_offDiagonal_74 : decode cX5_offDiagonal 74 = .ok (.invokestatic 55, 3) := by decide +kernel
theorem dX5_offDiagonal_77 : decode cX5_offDiagonal 77 = .ok (.dsub, 1) := by decide +kernel
theorem dX5_offDiagonal_78 : decode cX5_offDiagonal 78 = .ok (.dreturn, 1) := by decide +kernel
abbrev rm_X5_offDiagonal : Room := { frames := 7, cells := 0, slots := 0, locals := 140 }
theorem hw_X5_offDiagonal_1 : (Cond.fieldLink RX5 18 "PlankUnroll$Strip" "cornerX" "[D") ∈ wsX5_offDiagonal := List.mem_of_getElem? (i := 1) rfl
theorem hw_X5_offDiagonal_2 : (Cond.fieldLink RX5 22 "PlankUnroll$Strip" "cornerY" "[D") ∈ wsX5_offDiagonal := List.mem_of_getElem? (i := 2) rfl
theorem hw_X5_offDiagonal_3 : (Cond.fieldLink RX5 9 "PlankUnroll$Strip" "a" "LPlankUnroll$Row;") ∈ wsX5_offDiagonal := List.mem_of_getElem? (i := 3) rfl
theorem hw_X5_offDiagonal_4 : (Cond.fieldLink RX5 49 "PlankUnroll$Row" "places" "[LPlankUnroll$Place;") ∈ wsX5_offDiagonal := List.mem_of_getElem? (i := 4) rfl
theorem hw_X5_offDiagonal_5 : (Cond.fieldLink RX5 15 "PlankUnroll$Strip" "b" "LPlankUnroll$Row;") ∈ wsX5_offDiagonal := List.mem_of_getElem? (i := 5) rfl
theorem hw_X5_offDiagonal_6 : (Cond.static yX6_root) ∈ wsX5_offDiagonal := List.mem_of_getElem? (i := 6) rfl
theorem hw_X5_offDiagonal_7 : (Cond.initialized RX6) ∈ wsX5_offDiagonal := List.mem_of_getElem? (i := 7) rfl
theorem hw_X5_offDiagonal_10 : (Cond.static yX6_apart) ∈ wsX5_offDiagonal := List.mem_of_getElem? (i := 10) rfl
theorem in_X5_offDiagonal_X4 : ∀ w ∈ wsX40, w ∈ wsX5_offDiagonal := by decide +kernel
theorem in_X5_offDiagonal_X5 : ∀ w ∈ wsX50, w ∈ wsX5_offDiagonal := by decide +kernel
set_option maxHeartbeats 4000000 in
set_option maxRecDepth 100000 in
/-- what the other diagonal is off -/
theorem c_X5_offDiagonal {l : Launch} {G : va_G} {ty : Nat → ClassId} {b0 : Nat} {H : Heap} {ad : Nat → Nat} {F R nb : Nat} {pl wi hi fa : Nat → UInt64} {un bu lo la : Nat → Int32} {cx cy bx : Nat → Nat → UInt64} {nf : Nat → Nat} {K0 : Heap} (hX : xCla G ty ad F R pl un cx cy bu nb wi hi nf fa lo la bx K0 H) (hW : xWf F R nb nf ad b0) {i f : Nat} (hi9 : i < R - 1) (hf9 : f < F - 1) : xMet l yX5_offDiagonal wsX5_offDiagonal rm_X5_offDiagonal G ty b0 [.ref (ad (30 + i)), .int (nI f)] H (fun v H1 => H = H1 ∧ ∃ z9 : UInt64, v = some (.double z9) ∧ vq z9 (pOffC (cx i) (cy i) pl i f)) (fun _ _ => False) := by
  refine xbody (cc := cX5_offDiagonal) (maxL := 8) (ret := (some .double)) (C := RX5) (lv := [(0, .ref (ad (30 + i))), (1, .int (nI f))]) (by decide) rfl rfl (Nat.le_of_ble_eq_true rfl) rfl ?_
  intro p e s m below meth c d0 hx hb hr hts hown hlocks hml hxt hnm0 hK hb0 hH0 hS hd0 ls hl
  obtain ⟨⟨zF2, zF8⟩, ⟨zR2, zR8⟩⟩ := id hW.1
  have zB4 := hW.2.1
  refine lv_iconst (v := nI 2) hx hb dX5_offDiagonal_0 (by decide) ?_
  refine lv_iload_n hx hb dX5_offDiagonal_1 rfl (lv_at hl 1 rfl) ?_
  refine ximulN hx hb dX5_offDiagonal_2 ?_
  refine lv_istore_n (lv' := [(2, .int (nI (2 * f))), (0, .ref (ad (30 + i))), (1, .int (nI f))]) hx hb dX5_offDiagonal_3 rfl hl (by decide) rfl (fun ls hl => ?_)
  refine lv_iconst (v := nI 2) hx hb dX5_offDiagonal_4 (by decide) ?_
  refine lv_iload_n hx hb dX5_offDiagonal_5 rfl (lv_at hl 2 rfl) ?_
  refine ximulN hx hb dX5_offDiagonal_6 ?_
  refine lv_iconst (v := nI 3) hx hb dX5_offDiagonal_7 (by decide) ?_
  refine xiaddN hx hb dX5_offDiagonal_8 ?_
  refine lv_istore_n (lv' := [(3, .int (nI ((2 * f) + 3))), (2, .int (nI (2 * f))), (0, .ref (ad (30 + i))), (1, .int (nI f))]) hx hb dX5_offDiagonal_9 rfl hl (by decide) rfl (fun ls hl => ?_)
  refine lv_aload_n hx hb dX5_offDiagonal_10 rfl (lv_at hl 2 rfl) ?_
  refine va_get (D := G) (cl := vwCl) (ci := 6) (v := .ref (ad (40 + i))) (C := RX5) (T := TX5) (N := 9) hx hb (hts d0) in_X5_offDiagonal_X5 hown hK.1 (x1 (hX.strip_ _ (by omega))) 0 rfl rfl 2 (by decide) (hts d0 _ hw_X5_offDiagonal_1) (fun _ h9 => h9) rfl dX5_offDiagonal_11 ?_
  refine lv_iload_n hx hb dX5_offDiagonal_14 rfl (lv_at hl 0 rfl) ?_
  refine xdald (j := (2 * f) + 3) hx hb hK.1 0 (hX.cx_ _ (by omega)) rfl (xix_of (by omega) (by omega)) dX5_offDiagonal_15 ?_
  refine lv_aload_n hx hb dX5_offDiagonal_16 rfl (lv_at hl 2 rfl) ?_
  refine va_get (D := G) (cl := vwCl) (ci := 6) (v := .ref (ad (40 + i))) (C := RX5) (T := TX5) (N := 9) hx hb (hts d0) in_X5_offDiagonal_X5 hown hK.1 (x1 (hX.strip_ _ (by omega))) 0 rfl rfl 2 (by decide) (hts d0 _ hw_X5_offDiagonal_1) (fun _ h9 => h9) rfl dX5_offDiagonal_17 ?_
  refine lv_iload_n hx hb dX5_offDiagonal_20 rfl (lv_at hl 1 rfl) ?_
  refine xdald (j := 2 * f) hx hb hK.1 0 (hX.cx_ _ (by omega)) rfl (xix_of (by omega) (by omega)) dX5_offDiagonal_21 ?_
  refine xdsub hd0 hx hb (vq_rf _) (vq_rf _) dX5_offDiagonal_22 (fun r_1 d0 q_1 hd0 => ?_)
  refine lv_dstore (lv' := [(4, .double r_1), (3, .int (nI ((2 * f) + 3))), (2, .int (nI (2 * f))), (0, .ref (ad (30 + i))), (1, .int (nI f))]) hx hb dX5_offDiagonal_23 hl (by decide) rfl (fun ls hl => ?_)
  refine lv_aload_n hx hb dX5_offDiagonal_25 rfl (lv_at hl 3 rfl) ?_
  refine va_get (D := G) (cl := vwCl) (ci := 6) (v := .ref (ad (50 + i))) (C := RX5) (T := TX5) (N := 9) hx hb (hts d0) in_X5_offDiagonal_X5 hown hK.1 (x1 (hX.strip_ _ (by omega))) 0 rfl rfl 3 (by decide) (hts d0 _ hw_X5_offDiagonal_2) (fun _ h9 => h9) rfl dX5_offDiagonal_26 ?_
  refine lv_iload_n hx hb dX5_offDiagonal_29 rfl (lv_at hl 1 rfl) ?_
  refine xdald (j := (2 * f) + 3) hx hb hK.1 0 (hX.cy_ _ (by omega)) rfl (xix_of (by omega) (by omega)) dX5_offDiagonal_30 ?_
  refine lv_aload_n hx hb dX5_offDiagonal_31 rfl (lv_at hl 3 rfl) ?_
  refine va_get (D := G) (cl := vwCl) (ci := 6) (v := .ref (ad (50 + i))) (C := RX5) (T := TX5) (N := 9) hx hb (hts d0) in_X5_offDiagonal_X5 hown hK.1 (x1 (hX.strip_ _ (by omega))) 0 rfl rfl 3 (by decide) (hts d0 _ hw_X5_offDiagonal_2) (fun _ h9 => h9) rfl dX5_offDiagonal_32 ?_
  refine lv_iload_n hx hb dX5_offDiagonal_35 rfl (lv_at hl 2 rfl) ?_
  refine xdald (j := 2 * f) hx hb hK.1 0 (hX.cy_ _ (by omega)) rfl (xix_of (by omega) (by omega)) dX5_offDiagonal_36 ?_
  refine xdsub hd0 hx hb (vq_rf _) (vq_rf _) dX5_offDiagonal_37 (fun r_2 d0 q_2 hd0 => ?_)
  refine lv_dstore (lv' := [(6, .double r_2), (4, .double r_1), (3, .int (nI ((2 * f) + 3))), (2, .int (nI (2 * f))), (0, .ref (ad (30 + i))), (1, .int (nI f))]) hx hb dX5_offDiagonal_38 hl (by decide) rfl (fun ls hl => ?_)
  refine lv_dload hx hb dX5_offDiagonal_40 (lv_at hl 1 rfl) ?_
  refine lv_dload hx hb dX5_offDiagonal_42 (lv_at hl 1 rfl) ?_
  refine xdmul hd0 hx hb q_1 q_1 dX5_offDiagonal_44 (fun r_3 d0 q_3 hd0 => ?_)
  refine lv_dload hx hb dX5_offDiagonal_45 (lv_at hl 0 rfl) ?_
  refine lv_dload hx hb dX5_offDiagonal_47 (lv_at hl 0 rfl) ?_
  refine xdmul hd0 hx hb q_2 q_2 dX5_offDiagonal_49 (fun r_4 d0 q_4 hd0 => ?_)
  refine xdadd hd0 hx hb q_3 q_4 dX5_offDiagonal_50 (fun r_5 d0 q_5 hd0 => ?_)
  have cw_6 := va_cnB (R := rm_X5_offDiagonal) (rm := rm_X6_root) (index := 78) 1 (hts d0) gX5_offDiagonal_X6_root_n78 rfl rfl rfl (va_Nw.same (u := s) rfl rfl (hK.2.2.2.1 _ (List.mem_of_getElem? (i := 1) rfl))) (hts d0 _ hw_X5_offDiagonal_7) (by decide +kernel) ⟨Nat.le_of_ble_eq_true rfl, Nat.le_of_ble_eq_true rfl⟩
  have cs_6 : (Cond.static yX6_root).before _ (s.setDrawn d0) = true := hts d0 _ hw_X5_offDiagonal_6
  refine xcall hd0 (xintoSN (As := [.double r_5]) (rest := []) ⟨hx, hb, hml, hown, hts _⟩ ⟨cw_6, cs_6, trivial⟩ rfl rfl hl.1 rfl (lv_room (Nat.le_of_ble_eq_true rfl)) dX5_offDiagonal_51) (c_X6_root (l := l) (G := G) (ty := ty) (b0 := b0) q_5) (xoweN cw_6) hK hb0 hS (Nat.le_of_ble_eq_true rfl) (Nat.le_of_ble_eq_true rfl) (fun E_6 ce_6 q9_6 H_6 locs_6 d0 hd0 hp_6 hS hce_6 hcv_6 hcl_6 => ?_) (fun v_6 H_6 locs_6 d0 hd0 hp_6 hS => ?_)
  · exact hp_6.elim
  · obtain ⟨rfl, r_6, rfl, q_6⟩ := hp_6
    show W p l e _ (s.setDrawn _) m _ below meth c _ _ _ _ _ (F0 m 54 ls [.double r_6])
    refine lv_aload_n hx hb dX5_offDiagonal_54 rfl (lv_at hl 4 rfl) ?_
    refine va_get (D := G) (cl := vwCl) (ci := 6) (v := .ref (ad (10 + i))) (C := RX5) (T := TX5) (N := 9) hx hb (hts d0) in_X5_offDiagonal_X5 hown hK.1 (x1 (hX.strip_ _ (by omega))) 0 rfl rfl 0 (by decide) (hts d0 _ hw_X5_offDiagonal_3) (fun _ h9 => h9) rfl dX5_offDiagonal_55 ?_
    refine va_get (D := G) (cl := vwCl) (ci := 5) (v := .ref (ad (20 + i))) (C := RX4) (T := TX4) (N := 1) hx hb (hts d0) in_X5_offDiagonal_X4 hown hK.1 (x1 (hX.row_ _ (by omega))) 0 rfl rfl 0 (by decide) (hts d0 _ hw_X5_offDiagonal_4) (fun _ h9 => h9) rfl dX5_offDiagonal_58 ?_
    refine lv_iload_n hx hb dX5_offDiagonal_61 rfl (lv_at hl 5 rfl) ?_
    refine xaald (j := f) hx hb hK.1 4 (hX.parr_ _ (by omega)) rfl (xix_of (by omega) (by omega)) rfl dX5_offDiagonal_62 ?_
    refine lv_aload_n hx hb dX5_offDiagonal_63 rfl (lv_at hl 4 rfl) ?_
    refine va_get (D := G) (cl := vwCl) (ci := 6) (v := .ref (ad (10 + (i + 1)))) (C := RX5) (T := TX5) (N := 9) hx hb (hts d0) in_X5_offDiagonal_X5 hown hK.1 (x1 (hX.strip_ _ (by omega))) 0 rfl rfl 1 (by decide) (hts d0 _ hw_X5_offDiagonal_5) (fun _ h9 => h9) rfl dX5_offDiagonal_64 ?_
    refine va_get (D := G) (cl := vwCl) (ci := 5) (v := .ref (ad (20 + (i + 1)))) (C := RX4) (T := TX4) (N := 1) hx hb (hts d0) in_X5_offDiagonal_X4 hown hK.1 (x1 (hX.row_ _ (by omega))) 0 rfl rfl 0 (by decide) (hts d0 _ hw_X5_offDiagonal_4) (fun _ h9 => h9) rfl dX5_offDiagonal_67 ?_
    refine lv_iload_n hx hb dX5_offDiagonal_70 rfl (lv_at hl 5 rfl) ?_
    refine lv_iconst (v := nI 1) hx hb dX5_offDiagonal_71 (by decide) ?_
    refine xiaddN hx hb dX5_offDiagonal_72 ?_
    refine xaald (j := f + 1) hx hb hK.1 4 (hX.parr_ _ (by omega)) rfl (xix_of (by omega) (by omega)) rfl dX5_offDiagonal_73 ?_
    have cw_7 := va_cnB (R := rm_X5_offDiagonal) (rm := rm_X6_apart) (index := 55) 2 (hts d0) gX5_offDiagonal_X6_apart_n55 rfl rfl rfl (va_Nw.same (u := s) rfl rfl (hK.2.2.2.1 _ (List.mem_of_getElem? (i := 0) rfl))) (hts d0 _ hw_X5_offDiagonal_7) (by decide +kernel) ⟨Nat.le_of_ble_eq_true rfl, Nat.le_of_ble_eq_true rfl⟩
    have cs_7 : (Cond.static yX6_apart).before _ (s.setDrawn d0) = true := hts d0 _ hw_X5_offDiagonal_10
    refine xcall hd0 (xintoSN (As := [.ref (ad (100 + 8 * i + f)), .ref (ad (100 + 8 * (i + 1) + (f + 1)))]) (rest := [.double r_6]) ⟨hx, hb, hml, hown, hts _⟩ ⟨cw_7, cs_7, trivial⟩ rfl rfl hl.1 rfl (lv_room (Nat.le_of_ble_eq_true rfl)) dX5_offDiagonal_74) (c_X6_apart (l := l) (G := G) (ty := ty) (b0 := b0) (hX.place_ _ (by omega) _ (by omega)) (hX.place_ _ (by omega) _ (by omega)) (vq_rf _) (vq_rf _) (vq_rf _) (vq_rf _) (vq_rf _) (vq_rf _)) (xoweN cw_7) hK hb0 hS (Nat.le_of_ble_eq_true rfl) (Nat.le_of_ble_eq_true rfl) (fun E_7 ce_7 q9_7 H_7 locs_7 d0 hd0 hp_7 hS hce_7 hcv_7 hcl_7 => ?_) (fun v_7 H_7 locs_7 d0 hd0 hp_7 hS => ?_)
    · exact hp_7.elim
    · obtain ⟨rfl, r_7, rfl, q_7⟩ := hp_7
      show W p l e _ (s.setDrawn _) m _ below meth c _ _ _ _ _ (F0 m 77 ls [.double r_7, .double r_6])
      refine xdsub hd0 hx hb q_6 q_7 dX5_offDiagonal_77 (fun r_8 d0 q_8 hd0 => ?_)
      exact xdret hd0 hx hb hr hlocks hS (Nat.le_of_ble_eq_true rfl) (Nat.le_of_ble_eq_true rfl) dX5_offDiagonal_78 ⟨rfl, _, rfl, q_8⟩
theorem dX5_forget_0 : decode cX5_forget 0 = .ok (.aload_n 0, 1) := by decide +kernel
theorem dX5_forget_1 : decode cX5_forget 1 = .ok (.iconst 0, 1) := by decide +kernel
theorem dX5_forget_2 : decode cX5_forget 2 = .ok (.putfield 45, 3) := by decide +kernel
theorem dX5_forget_5 : decode cX5_forget 5 = .ok (.aload_n 0, 1) := by decide +kernel
theorem dX5_forget_6 : decode cX5_forget 6 = .ok (.iconst (-1), 1) := by decide +kernel
theorem dX5_forget_7 : decode cX5_forget 7 = .ok (.putfield 38, 3) := by decide +kernel
theorem dX5_forget_10 : decode cX5_forget 10 = .ok (.aload_n 0, 1) := by decide +kernel
theorem dX5_forget_11 : decode cX5_forget 11 = .ok (.iconst (-1), 1) := by decide +kernel
theorem dX5_forget_12 : decode cX5_forget 12 = .ok (.putfield 42, 3) := by decide +kernel
theorem dX5_forget_15 : decode cX5_forget 15 = .ok (.return_, 1) := by decide +kernel
abbrev rm_X5_forget : Room := { frames := 5, cells := 0, slots := 0, locals := 40 }
theorem hw_X5_forget_1 : (Cond.fieldLink RX5 45 "PlankUnroll$Strip" "unrolled" "Z") ∈ wsX5_forget := List.mem_of_getElem? (i := 1) rfl
theorem hw_X5_forget_2 : (Cond.fieldLink RX5 38 "PlankUnroll$Strip" "board" "I") ∈ wsX5_forget := List.mem_of_getElem? (i := 2) rfl
theorem hw_X5_forget_3 : (Cond.fieldLink RX5 42 "PlankUnroll$Strip" "eighths" "I") ∈ wsX5_forget := List.mem_of_getElem? (i := 3) rfl
theorem in_X5_forget_X5 : ∀ w ∈ wsX50, w ∈ wsX5_forget := by decide +kernel
set_option maxHeartbeats 4000000 in
set_option maxRecDepth 100000 in
/-- a strip is not unrolled, and lies nowhere -/
theorem c_X5_forget {l : Launch} {G : va_G} {ty : Nat → ClassId} {b0 : Nat} {H : Heap} {ad : Nat → Nat} {F R nb : Nat} {pl wi hi fa : Nat → UInt64} {un bu lo la : Nat → Int32} {cx cy bx : Nat → Nat → UInt64} {nf : Nat → Nat} {K0 : Heap} (hX : xCla G ty ad F R pl un cx cy bu nb wi hi nf fa lo la bx K0 H) (hW : xWf F R nb nf ad b0) {i : Nat} (hi9 : i < R - 1) : xMet l yX5_forget wsX5_forget rm_X5_forget G ty b0 [.ref (ad (30 + i))] H (fun v H1 => v = none ∧ xCla G ty ad F R pl (upd un i (nI 0)) cx cy bu nb wi hi nf fa (upd lo i (-1)) (upd la i (-1)) bx K0 H1) (fun _ _ => False) := by
  refine xbody (cc := cX5_forget) (maxL := 1) (ret := none) (C := RX5) (lv := [(0, .ref (ad (30 + i)))]) (by decide) rfl rfl (Nat.le_of_ble_eq_true rfl) rfl ?_
  intro p e s m below meth c d0 hx hb hr hts hown hlocks hml hxt hnm0 hK hb0 hH0 hS hd0 ls hl
  obtain ⟨⟨zF2, zF8⟩, ⟨zR2, zR8⟩⟩ := id hW.1
  have zB4 := hW.2.1
  refine lv_aload_n hx hb dX5_forget_0 rfl (lv_at hl 0 rfl) ?_
  refine lv_iconst (v := nI 0) hx hb dX5_forget_1 (by decide) ?_
  refine xput (G := G) (ci := 6) (v := .int (nI 0)) (ty := .boolean) (C := RX5) (T := TX5) (N := 9) hx hb (hts d0) in_X5_forget_X5 tyX5 tyX5_ok nmX5 hown hK.1 (hX.strip_ _ (by omega)) hS (hW.2.2.2.1 _ (xU_strip (by omega))) rfl 6 (by decide) (hts d0 _ hw_X5_forget_1) (fun _ h9 => h9) rfl (by decide +kernel) rfl rfl (Nat.le_of_ble_eq_true rfl) dX5_forget_2 (fun H_1 locs_1 hs_1 hS => ?_)
  have hX_1 : xCla G ty ad F R pl (upd un i (nI 0)) cx cy bu nb wi hi nf fa lo la bx K0 H_1 := hX.put_un (by omega) hW hs_1
  refine lv_aload_n hx hb dX5_forget_5 rfl (lv_at hl 0 rfl) ?_
  refine lv_iconst (v := (-1)) hx hb dX5_forget_6 (by decide) ?_
  refine xput (G := G) (ci := 6) (v := .int ((-1))) (ty := .int) (C := RX5) (T := TX5) (N := 9) hx hb (hts d0) in_X5_forget_X5 tyX5 tyX5_ok nmX5 hown hK.1 (hX_1.strip_ _ (by omega)) hS (hW.2.2.2.1 _ (xU_strip (by omega))) rfl 7 (by decide) (hts d0 _ hw_X5_forget_2) (fun _ h9 => h9) rfl (by decide +kernel) rfl rfl (Nat.le_of_ble_eq_true rfl) dX5_forget_7 (fun H_2 locs_2 hs_2 hS => ?_)
  have hX_2 : xCla G ty ad F R pl (upd un i (nI 0)) cx cy bu nb wi hi nf fa (upd lo i (-1)) la bx K0 H_2 := hX_1.put_lo (by omega) hW hs_2
  refine lv_aload_n hx hb dX5_forget_10 rfl (lv_at hl 0 rfl) ?_
  refine lv_iconst (v := (-1)) hx hb dX5_forget_11 (by decide) ?_
  refine xput (G := G) (ci := 6) (v := .int ((-1))) (ty := .int) (C := RX5) (T := TX5) (N := 9) hx hb (hts d0) in_X5_forget_X5 tyX5 tyX5_ok nmX5 hown hK.1 (hX_2.strip_ _ (by omega)) hS (hW.2.2.2.1 _ (xU_strip (by omega))) rfl 8 (by decide) (hts d0 _ hw_X5_forget_3) (fun _ h9 => h9) rfl (by decide +kernel) rfl rfl (Nat.le_of_ble_eq_true rfl) dX5_forget_12 (fun H_3 locs_3 hs_3 hS => ?_)
  have hX_3 : xCla G ty ad F R pl (upd un i (nI 0)) cx cy bu nb wi hi nf fa (upd lo i (-1)) (upd la i (-1)) bx K0 H_3 := hX_2.put_la (by omega) hW hs_3
  exact xvret hd0 hx hb hr hlocks hS (Nat.le_of_ble_eq_true rfl) (Nat.le_of_ble_eq_true rfl) dX5_forget_15 ⟨rfl, hX_3⟩
