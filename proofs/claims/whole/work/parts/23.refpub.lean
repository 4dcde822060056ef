/-! THE REFERENCE: what is asked and told (1). -/
theorem dX7_thrown_0 : decode cX7_thrown 0 = .ok (.aload_n 0, 1) := by decide +kernel
theorem dX7_thrown_1 : decode cX7_thrown 1 = .ok (.getfield 52, 3) := by decide +kernel
theorem dX7_thrown_4 : decode cX7_thrown 4 = .ok (.ireturn, 1) := by decide +kernel
abbrev rm_X7_thrown : Room := { frames := 5, cells := 0, slots := 0, locals := 40 }
theorem hw_X7_thrown_1 : (Cond.fieldLink RX7 52 "PlankUnrollModel" "thrown" "I") ∈ wsX7_thrown := List.mem_of_getElem? (i := 1) rfl
theorem in_X7_thrown_X7 : ∀ w ∈ wsX70, w ∈ wsX7_thrown := by decide +kernel
set_option maxHeartbeats 4000000 in
set_option maxRecDepth 100000 in
/-- what the last call threw -/
theorem c_X7_thrown {l : Launch} {G : va_G} {ty : Nat → ClassId} {b0 : Nat} {H : Heap} {m0 : Nat} {A : Nat → Nat} {th : Int32} {F R nb : Nat} {pl co dr wi hi fa : Nat → UInt64} {un bu fc lo la : Nat → Int32} {px py pz : UInt64} (hY : xRef G ty m0 A th F R pl un co dr bu nb wi hi fc fa lo la px py pz H) (hZ : xSz F R) : xMet l yX7_thrown wsX7_thrown rm_X7_thrown G ty b0 [.ref m0] H (fun v H1 => H = H1 ∧ v = some (.int th)) (fun _ _ => False) := by
  refine xbody (cc := cX7_thrown) (maxL := 1) (ret := (some .int)) (C := RX7) (lv := [(0, .ref m0)]) (by decide) rfl rfl (Nat.le_of_ble_eq_true rfl) rfl ?_
  intro p e s m below meth c d0 hx hb hr hts hown hlocks hml hxt hnm0 hK hb0 hH0 hS hd0 ls hl
  obtain ⟨y_o, y_0, y_1, y_2, y_3, y_4, y_5, y_6, y_7, y_8, y_9, y_10⟩ := id hY
  obtain ⟨⟨zF2, zF8⟩, ⟨zR2, zR8⟩⟩ := id hZ
  refine lv_aload_n hx hb dX7_thrown_0 rfl (lv_at hl 0 rfl) ?_
  refine va_get (D := G) (cl := vwCl) (ci := 8) (v := .int (th)) (C := RX7) (T := TX7) (N := 18) hx hb (hts d0) in_X7_thrown_X7 hown hK.1 (x1 y_o) 0 rfl rfl 0 (by decide) (hts d0 _ hw_X7_thrown_1) (fun _ h9 => h9) rfl dX7_thrown_1 ?_
  exact xiret hd0 hx hb hr hlocks hS (Nat.le_of_ble_eq_true rfl) (Nat.le_of_ble_eq_true rfl) dX7_thrown_4 ⟨rfl, rfl⟩
set_option maxRecDepth 20000 in
theorem ggX7_distance_X7_noPlace : GoodIn wsX7_distance wsX7_noPlace := goodIn_r _ [6, 7, 8, 22, 23, 24, 25, 26, 27, 28, 29, 30, 31, 32, 33, 34, 35, 36, 37, 38, 39] (by decide +kernel) (by decide +kernel)
set_option maxRecDepth 20000 in
theorem gX7_distance_X7_noPlace : GoodIn wsX7_distance (wsV RX7 65 RX7 yX7_noPlace wsX7_noPlace) := goodIn_app (goodIn_of _ (by decide +kernel)) ggX7_distance_X7_noPlace
set_option maxRecDepth 20000 in
theorem ggX7_distance_X7_far : GoodIn wsX7_distance wsX7_far := goodIn_r _ [12, 13, 14, 15, 5, 16, 17, 18, 19, 20, 21, 22, 23, 24, 25, 26, 27, 28, 29, 30, 31, 32, 33, 34, 35, 36, 37, 38, 39] (by decide +kernel) (by decide +kernel)
set_option maxRecDepth 20000 in
theorem gX7_distance_X7_far : GoodIn wsX7_distance (wsV RX7 77 RX7 yX7_far wsX7_far) := goodIn_app (goodIn_of _ (by decide +kernel)) ggX7_distance_X7_far
theorem dX7_distance_0 : decode cX7_distance 0 = .ok (.aload_n 0, 1) := by decide +kernel
theorem dX7_distance_1 : decode cX7_distance 1 = .ok (.aload_n 0, 1) := by decide +kernel
theorem dX7_distance_2 : decode cX7_distance 2 = .ok (.iload_n 1, 1) := by decide +kernel
theorem dX7_distance_3 : decode cX7_distance 3 = .ok (.iload_n 2, 1) := by decide +kernel
theorem dX7_distance_4 : decode cX7_distance 4 = .ok (.invokevirtual 65, 3) := by decide +kernel
theorem dX7_distance_7 : decode cX7_distance 7 = .ok (.ifCond .ne 13, 3) := by decide +kernel
theorem dX7_distance_10 : decode cX7_distance 10 = .ok (.aload_n 0, 1) := by decide +kernel
theorem dX7_distance_11 : decode cX7_distance 11 = .ok (.iload_n 3, 1) := by decide +kernel
theorem dX7_distance_12 : decode cX7_distance 12 = .ok (.iload 4, 2) := by decide +kernel
theorem dX7_distance_14 : decode cX7_distance 14 = .ok (.invokevirtual 65, 3) := by decide +kernel
theorem dX7_distance_17 : decode cX7_distance 17 = .ok (.ifCond .eq 7, 3) := by decide +kernel
theorem dX7_distance_20 : decode cX7_distance 20 = .ok (.iconst 1, 1) := by decide +kernel
theorem dX7_distance_21 : decode cX7_distance 21 = .ok (.goto 4, 3) := by decide +kernel
theorem dX7_distance_24 : decode cX7_distance 24 = .ok (.iconst 0, 1) := by decide +kernel
theorem dX7_distance_25 : decode cX7_distance 25 = .ok (.putfield 52, 3) := by decide +kernel
theorem dX7_distance_28 : decode cX7_distance 28 = .ok (.aload_n 0, 1) := by decide +kernel
theorem dX7_distance_29 : decode cX7_distance 29 = .ok (.getfield 52, 3) := by decide +kernel
theorem dX7_distance_32 : decode cX7_distance 32 = .ok (.ifCond .le 7, 3) := by decide +kernel
theorem dX7_distance_35 : decode cX7_distance 35 = .ok (.dconst 0, 1) := by decide +kernel
theorem dX7_distance_36 : decode cX7_distance 36 = .ok (.goto 12, 3) := by decide +kernel
theorem dX7_distance_39 : decode cX7_distance 39 = .ok (.aload_n 0, 1) := by decide +kernel
theorem dX7_distance_40 : decode cX7_distance 40 = .ok (.iload_n 1, 1) := by decide +kernel
theorem dX7_distance_41 : decode cX7_distance 41 = .ok (.iload_n 2, 1) := by decide +kernel
theorem dX7_distance_42 : decode cX7_distance 42 = .ok (.iload_n 3, 1) := by decide +kernel
theorem dX7_distance_43 : decode cX7_distance 43 = .ok (.iload 4, 2) := by decide +kernel
theorem dX7_distance_45 : decode cX7_distance 45 = .ok (.invokevirtual 77, 3) := by decide +kernel
theorem dX7_distance_48 : decode cX7_distance 48 = .ok (.dreturn, 1) := by decide +kernel
abbrev rm_X7_distance : Room := { frames := 7, cells := 0, slots := 0, locals := 140 }
theorem hw_X7_distance_1 : (Cond.fieldLink RX7 52 "PlankUnrollModel" "thrown" "I") ∈ wsX7_distance := List.mem_of_getElem? (i := 1) rfl
theorem in_X7_distance_X7 : ∀ w ∈ wsX70, w ∈ wsX7_distance := by decide +kernel
set_option maxHeartbeats 4000000 in
set_option maxRecDepth 100000 in
/-- distance -/
theorem c_X7_distance {l : Launch} {G : va_G} {ty : Nat → ClassId} {b0 : Nat} {H : Heap} {f r g q : Int32} {m0 : Nat} {A : Nat → Nat} {th : Int32} {F R nb : Nat} {pl co dr wi hi fa : Nat → UInt64} {un bu fc lo la : Nat → Int32} {px py pz : UInt64} (hY : xRef G ty m0 A th F R pl un co dr bu nb wi hi fc fa lo la px py pz H) (hZ : xSz F R) (hA : xAp m0 A) (hB : xNw b0 m0 A) : xMet l yX7_distance wsX7_distance rm_X7_distance G ty b0 [.ref m0, .int (f), .int (r), .int (g), .int (q)] H (fun v H1 => ∃ T : Int32, xRef G ty m0 A T F R pl un co dr bu nb wi hi fc fa lo la px py pz H1 ∧ xRfr m0 A H H1 ∧ ∃ z : UInt64, v = some (.double z) ∧ ((T = nI 0 ∧ ((vp_in f F ∧ vp_in r R) ∧ (vp_in g F ∧ vp_in q R)) ∧ vq z (pFar pl f.toNatClampNeg r.toNatClampNeg g.toNatClampNeg q.toNatClampNeg)) ∨ (T = nI 1 ∧ ¬ ((vp_in f F ∧ vp_in r R) ∧ (vp_in g F ∧ vp_in q R))))) (fun _ _ => False) := by
  refine xbody (cc := cX7_distance) (maxL := 5) (ret := (some .double)) (C := RX7) (lv := [(0, .ref m0), (1, .int (f)), (2, .int (r)), (3, .int (g)), (4, .int (q))]) (by decide) rfl rfl (Nat.le_of_ble_eq_true rfl) rfl ?_
  intro p e s m below meth c d0 hx hb hr hts hown hlocks hml hxt hnm0 hK hb0 hH0 hS hd0 ls hl
  obtain ⟨y_o, y_0, y_1, y_2, y_3, y_4, y_5, y_6, y_7, y_8, y_9, y_10⟩ := id hY
  obtain ⟨⟨zF2, zF8⟩, ⟨zR2, zR8⟩⟩ := id hZ
  refine lv_aload_n hx hb dX7_distance_0 rfl (lv_at hl 0 rfl) ?_
  refine lv_aload_n hx hb dX7_distance_1 rfl (lv_at hl 0 rfl) ?_
  refine lv_iload_n hx hb dX7_distance_2 rfl (lv_at hl 1 rfl) ?_
  refine lv_iload_n hx hb dX7_distance_3 rfl (lv_at hl 2 rfl) ?_
  have cw_1 := cwV (R := rm_X7_distance) (rm := rm_X7_noPlace) 2 (hts d0) gX7_distance_X7_noPlace rfl rfl rfl (by decide +kernel) ⟨Nat.le_of_ble_eq_true rfl, Nat.le_of_ble_eq_true rfl⟩
  refine xcall hd0 (xintoV (b := m0) (As := [.int (f), .int (r)]) (rest := [.ref m0]) ⟨hx, hb, hml, hown, hts _⟩ cw_1 (va_recv hK.1 (x1 y_o) (ci := 8) (q0 := 0) rfl rfl) rfl rfl hl.1 rfl (lv_room (Nat.le_of_ble_eq_true rfl)) dX7_distance_4) (c_X7_noPlace (l := l) (G := G) (ty := ty) (b0 := b0) (⟨y_o, y_0, y_1, y_2, y_3, y_4, y_5, y_6, y_7, y_8, y_9, y_10⟩ : xRef G ty m0 A (th) F R pl un co dr bu nb wi hi fc fa lo la px py pz H) hZ) (xoweB cw_1.1) hK hb0 hS (Nat.le_of_ble_eq_true rfl) (Nat.le_of_ble_eq_true rfl) (fun E_1 ce_1 q9_1 H_1 locs_1 d0 hd0 hp_1 hS hce_1 hcv_1 hcl_1 => ?_) (fun v_1 H_1 locs_1 d0 hd0 hp_1 hS => ?_)
  · exact hp_1.elim
  · obtain ⟨rfl, rfl⟩ := hp_1
    show W p l e _ (s.setDrawn _) m _ below meth c _ _ _ _ _ (F0 m 7 ls [.int (xP (¬ (vp_in f F ∧ vp_in r R))), .ref m0])
    refine lv_if_ne (tgt := 20) hx hb dX7_distance_7 (by decide) (fun c_2 => ?_) (fun c_2 => ?_)
    · refine lv_iconst (v := nI 1) hx hb dX7_distance_20 (by decide) ?_
      refine lv_goto (tgt := 25) hx hb dX7_distance_21 (by decide) ?_
      refine xput (G := G) (ci := 8) (v := .int (nI 1)) (ty := .int) (C := RX7) (T := TX7) (N := 18) hx hb (hts d0) in_X7_distance_X7 tyX7 tyX7_ok nmX7 hown hK.1 y_o hS hB.1 rfl 0 (by decide) (hts d0 _ hw_X7_distance_1) (fun _ h9 => h9) rfl (by decide +kernel) rfl rfl (Nat.le_of_ble_eq_true rfl) dX7_distance_25 (fun H_3 locs_3 hs_3 hS => ?_)
      have hc_3 : xc G m0 (.inr (8, [.int (nI 1), .int (nI F), .int (nI R), .ref (A 0), .ref (A 1), .ref (A 2), .ref (A 3), .ref (A 4), .int (nI nb), .ref (A 5), .ref (A 6), .ref (A 7), .ref (A 8), .ref (A 9), .ref (A 10), .double px, .double py, .double pz])) H_3 := hs_3.1
      have hc_A0_3 : xc G (A 0) (.inl (ty 0, 192, .inr (.inr (.inr (.inl pl))))) H_3 := y_0.kept (hs_3.2.2 _ (hA.1 0 (by decide)))
      have hc_A1_3 : xc G (A 1) (.inl (ty 2, 8, .inl un)) H_3 := y_1.kept (hs_3.2.2 _ (hA.1 1 (by decide)))
      have hc_A2_3 : xc G (A 2) (.inl (ty 0, 256, .inr (.inr (.inr (.inl co))))) H_3 := y_2.kept (hs_3.2.2 _ (hA.1 2 (by decide)))
      have hc_A3_3 : xc G (A 3) (.inl (ty 0, 32, .inr (.inr (.inr (.inl dr))))) H_3 := y_3.kept (hs_3.2.2 _ (hA.1 3 (by decide)))
      have hc_A4_3 : xc G (A 4) (.inl (ty 2, 64, .inl bu)) H_3 := y_4.kept (hs_3.2.2 _ (hA.1 4 (by decide)))
      have hc_A5_3 : xc G (A 5) (.inl (ty 0, 4, .inr (.inr (.inr (.inl wi))))) H_3 := y_5.kept (hs_3.2.2 _ (hA.1 5 (by decide)))
      have hc_A6_3 : xc G (A 6) (.inl (ty 0, 4, .inr (.inr (.inr (.inl hi))))) H_3 := y_6.kept (hs_3.2.2 _ (hA.1 6 (by decide)))
      have hc_A7_3 : xc G (A 7) (.inl (ty 1, 4, .inl fc)) H_3 := y_7.kept (hs_3.2.2 _ (hA.1 7 (by decide)))
      have hc_A8_3 : xc G (A 8) (.inl (ty 0, 128, .inr (.inr (.inr (.inl fa))))) H_3 := y_8.kept (hs_3.2.2 _ (hA.1 8 (by decide)))
      have hc_A9_3 : xc G (A 9) (.inl (ty 1, 8, .inl lo)) H_3 := y_9.kept (hs_3.2.2 _ (hA.1 9 (by decide)))
      have hc_A10_3 : xc G (A 10) (.inl (ty 1, 8, .inl la)) H_3 := y_10.kept (hs_3.2.2 _ (hA.1 10 (by decide)))
      have hfr_3 : xRfr m0 A H H_3 := xRfr.put0 xRfr.rf hs_3
      refine lv_aload_n hx hb dX7_distance_28 rfl (lv_at hl 0 rfl) ?_
      refine va_get (D := G) (cl := vwCl) (ci := 8) (v := .int (nI 1)) (C := RX7) (T := TX7) (N := 18) hx hb (hts d0) in_X7_distance_X7 hown hK.1 (x1 hc_3) 0 rfl rfl 0 (by decide) (hts d0 _ hw_X7_distance_1) (fun _ h9 => h9) rfl dX7_distance_29 ?_
      refine lv_if_le (tgt := 39) hx hb dX7_distance_32 (by decide) (fun h9 => absurd h9 (by decide)) (fun _ => ?_)
      refine lv_dconst0 hx hb dX7_distance_35 ?_
      refine lv_goto (tgt := 48) hx hb dX7_distance_36 (by decide) ?_
      exact xdret hd0 hx hb hr hlocks hS (Nat.le_of_ble_eq_true rfl) (Nat.le_of_ble_eq_true rfl) dX7_distance_48 ⟨nI 1, ⟨hc_3, hc_A0_3, hc_A1_3, hc_A2_3, hc_A3_3, hc_A4_3, hc_A5_3, hc_A6_3, hc_A7_3, hc_A8_3, hc_A9_3, hc_A10_3⟩, hfr_3, _, rfl, Or.inr ⟨rfl, by first | exact fun z => xP_ne.mp c_3 z.1 | exact fun z => xP_ne.mp c_2 z.2 | exact fun z => xP_ne.mp c_2 z.1⟩⟩
    · refine lv_aload_n hx hb dX7_distance_10 rfl (lv_at hl 0 rfl) ?_
      refine lv_iload_n hx hb dX7_distance_11 rfl (lv_at hl 3 rfl) ?_
      refine lv_iload hx hb dX7_distance_12 (lv_at hl 4 rfl) ?_
      have cw_5 := cwV (R := rm_X7_distance) (rm := rm_X7_noPlace) 2 (hts d0) gX7_distance_X7_noPlace rfl rfl rfl (by decide +kernel) ⟨Nat.le_of_ble_eq_true rfl, Nat.le_of_ble_eq_true rfl⟩
      refine xcall hd0 (xintoV (b := m0) (As := [.int (g), .int (q)]) (rest := [.ref m0]) ⟨hx, hb, hml, hown, hts _⟩ cw_5 (va_recv hK.1 (x1 y_o) (ci := 8) (q0 := 0) rfl rfl) rfl rfl hl.1 rfl (lv_room (Nat.le_of_ble_eq_true rfl)) dX7_distance_14) (c_X7_noPlace (l := l) (G := G) (ty := ty) (b0 := b0) (⟨y_o, y_0, y_1, y_2, y_3, y_4, y_5, y_6, y_7, y_8, y_9, y_10⟩ : xRef G ty m0 A (th) F R pl un co dr bu nb wi hi fc fa lo la px py pz H) hZ) (xoweB cw_5.1) hK hb0 hS (Nat.le_of_ble_eq_true rfl) (Nat.le_of_ble_eq_true rfl) (fun E_5 ce_5 q9_5 H_5 locs_5 d0 hd0 hp_5 hS hce_5 hcv_5 hcl_5 => ?_) (fun v_5 H_5 locs_5 d0 hd0 hp_5 hS => ?_)
      · exact hp_5.elim
      · obtain ⟨rfl, rfl⟩ := hp_5
        show W p l e _ (s.setDrawn _) m _ below meth c _ _ _ _ _ (F0 m 17 ls [.int (xP (¬ (vp_in g F ∧ vp_in q R))), .ref m0])
        refine lv_if_eq (tgt := 24) hx hb dX7_distance_17 (by decide) (fun c_6 => ?_) (fun c_6 => ?_)
        · refine lv_iconst (v := nI 0) hx hb dX7_distance_24 (by decide) ?_
          refine xput (G := G) (ci := 8) (v := .int (nI 0)) (ty := .int) (C := RX7) (T := TX7) (N := 18) hx hb (hts d0) in_X7_distance_X7 tyX7 tyX7_ok nmX7 hown hK.1 y_o hS hB.1 rfl 0 (by decide) (hts d0 _ hw_X7_distance_1) (fun _ h9 => h9) rfl (by decide +kernel) rfl rfl (Nat.le_of_ble_eq_true rfl) dX7_distance_25 (fun H_7 locs_7 hs_7 hS => ?_)
          have hc_7 : xc G m0 (.inr (8, [.int (nI 0), .int (nI F), .int (nI R), .ref (A 0), .ref (A 1), .ref (A 2), .ref (A 3), .ref (A 4), .int (nI nb), .ref (A 5), .ref (A 6), .ref (A 7), .ref (A 8), .ref (A 9), .ref (A 10), .double px, .double py, .double pz])) H_7 := hs_7.1
          have hc_A0_7 : xc G (A 0) (.inl (ty 0, 192, .inr (.inr (.inr (.inl pl))))) H_7 := y_0.kept (hs_7.2.2 _ (hA.1 0 (by decide)))
          have hc_A1_7 : xc G (A 1) (.inl (ty 2, 8, .inl un)) H_7 := y_1.kept (hs_7.2.2 _ (hA.1 1 (by decide)))
          have hc_A2_7 : xc G (A 2) (.inl (ty 0, 256, .inr (.inr (.inr (.inl co))))) H_7 := y_2.kept (hs_7.2.2 _ (hA.1 2 (by decide)))
          have hc_A3_7 : xc G (A 3) (.inl (ty 0, 32, .inr (.inr (.inr (.inl dr))))) H_7 := y_3.kept (hs_7.2.2 _ (hA.1 3 (by decide)))
          have hc_A4_7 : xc G (A 4) (.inl (ty 2, 64, .inl bu)) H_7 := y_4.kept (hs_7.2.2 _ (hA.1 4 (by decide)))
          have hc_A5_7 : xc G (A 5) (.inl (ty 0, 4, .inr (.inr (.inr (.inl wi))))) H_7 := y_5.kept (hs_7.2.2 _ (hA.1 5 (by decide)))
          have hc_A6_7 : xc G (A 6) (.inl (ty 0, 4, .inr (.inr (.inr (.inl hi))))) H_7 := y_6.kept (hs_7.2.2 _ (hA.1 6 (by decide)))
          have hc_A7_7 : xc G (A 7) (.inl (ty 1, 4, .inl fc)) H_7 := y_7.kept (hs_7.2.2 _ (hA.1 7 (by decide)))
          have hc_A8_7 : xc G (A 8) (.inl (ty 0, 128, .inr (.inr (.inr (.inl fa))))) H_7 := y_8.kept (hs_7.2.2 _ (hA.1 8 (by decide)))
          have hc_A9_7 : xc G (A 9) (.inl (ty 1, 8, .inl lo)) H_7 := y_9.kept (hs_7.2.2 _ (hA.1 9 (by decide)))
          have hc_A10_7 : xc G (A 10) (.inl (ty 1, 8, .inl la)) H_7 := y_10.kept (hs_7.2.2 _ (hA.1 10 (by decide)))
          have hfr_7 : xRfr m0 A H H_7 := xRfr.put0 xRfr.rf hs_7
          refine lv_aload_n hx hb dX7_distance_28 rfl (lv_at hl 0 rfl) ?_
          refine va_get (D := G) (cl := vwCl) (ci := 8) (v := .int (nI 0)) (C := RX7) (T := TX7) (N := 18) hx hb (hts d0) in_X7_distance_X7 hown hK.1 (x1 hc_7) 0 rfl rfl 0 (by decide) (hts d0 _ hw_X7_distance_1) (fun _ h9 => h9) rfl dX7_distance_29 ?_
          refine lv_if_le (tgt := 39) hx hb dX7_distance_32 (by decide) (fun _ => ?_) (fun h9 => absurd (by decide) h9)
          have z1 := Classical.not_not.mp (xP_eq.mp c_2)
          have z2 := Classical.not_not.mp (xP_eq.mp c_6)
          obtain ⟨f9, hf9, ef9⟩ := vp_in_of z1.1 (by omega)
          obtain ⟨r9, hr9, er9⟩ := vp_in_of z1.2 (by omega)
          obtain ⟨g9, hg9, eg9⟩ := vp_in_of z2.1 (by omega)
          obtain ⟨q9, hq9, eq9⟩ := vp_in_of z2.2 (by omega)
          subst ef9 er9 eg9 eq9
          refine lv_aload_n hx hb dX7_distance_39 rfl (lv_at hl 0 rfl) ?_
          refine lv_iload_n hx hb dX7_distance_40 rfl (lv_at hl 1 rfl) ?_
          refine lv_iload_n hx hb dX7_distance_41 rfl (lv_at hl 2 rfl) ?_
          refine lv_iload_n hx hb dX7_distance_42 rfl (lv_at hl 3 rfl) ?_
          refine lv_iload hx hb dX7_distance_43 (lv_at hl 4 rfl) ?_
          have cw_9 := cwV (R := rm_X7_distance) (rm := rm_X7_far) 4 (hts d0) gX7_distance_X7_far rfl rfl rfl (by decide +kernel) ⟨Nat.le_of_ble_eq_true rfl, Nat.le_of_ble_eq_true rfl⟩
          refine xcall hd0 (xintoV (b := m0) (As := [.int (nI f9), .int (nI r9), .int (nI g9), .int (nI q9)]) (rest := []) ⟨hx, hb, hml, hown, hts _⟩ cw_9 (va_recv hK.1 (x1 hc_7) (ci := 8) (q0 := 0) rfl rfl) rfl rfl hl.1 rfl (lv_room (Nat.le_of_ble_eq_true rfl)) dX7_distance_45) (c_X7_far (l := l) (G := G) (ty := ty) (b0 := b0) (f := f9) (r := r9) (g := g9) (q := q9) (by omega) (by omega) (by omega) (by omega) (⟨hc_7, hc_A0_7, hc_A1_7, hc_A2_7, hc_A3_7, hc_A4_7, hc_A5_7, hc_A6_7, hc_A7_7, hc_A8_7, hc_A9_7, hc_A10_7⟩ : xRef G ty m0 A (nI 0) F R pl un co dr bu nb wi hi fc fa lo la px py pz H_7) hZ) (xoweB cw_9.1) hK hb0 hS (Nat.le_of_ble_eq_true rfl) (Nat.le_of_ble_eq_true rfl) (fun E_9 ce_9 q9_9 H_9 locs_9 d0 hd0 hp_9 hS hce_9 hcv_9 hcl_9 => ?_) (fun v_9 H_9 locs_9 d0 hd0 hp_9 hS => ?_)
          · exact hp_9.elim
          · obtain ⟨rfl, r_9, rfl, q_9⟩ := hp_9
            show W p l e _ (s.setDrawn _) m _ below meth c _ _ _ _ _ (F0 m 48 ls [.double r_9])
            exact xdret hd0 hx hb hr hlocks hS (Nat.le_of_ble_eq_true rfl) (Nat.le_of_ble_eq_true rfl) dX7_distance_48 ⟨nI 0, ⟨hc_7, hc_A0_7, hc_A1_7, hc_A2_7, hc_A3_7, hc_A4_7, hc_A5_7, hc_A6_7, hc_A7_7, hc_A8_7, hc_A9_7, hc_A10_7⟩, hfr_7, _, rfl, Or.inl ⟨rfl, ⟨z1, z2⟩, by rw [nN_nI (by omega), nN_nI (by omega), nN_nI (by omega), nN_nI (by omega)]; exact q_9⟩⟩
        · refine lv_iconst (v := nI 1) hx hb dX7_distance_20 (by decide) ?_
          refine lv_goto (tgt := 25) hx hb dX7_distance_21 (by decide) ?_
          refine xput (G := G) (ci := 8) (v := .int (nI 1)) (ty := .int) (C := RX7) (T := TX7) (N := 18) hx hb (hts d0) in_X7_distance_X7 tyX7 tyX7_ok nmX7 hown hK.1 y_o hS hB.1 rfl 0 (by decide) (hts d0 _ hw_X7_distance_1) (fun _ h9 => h9) rfl (by decide +kernel) rfl rfl (Nat.le_of_ble_eq_true rfl) dX7_distance_25 (fun H_10 locs_10 hs_10 hS => ?_)
          have hc_10 : xc G m0 (.inr (8, [.int (nI 1), .int (nI F), .int (nI R), .ref (A 0), .ref (A 1), .ref (A 2), .ref (A 3), .ref (A 4), .int (nI nb), .ref (A 5), .ref (A 6), .ref (A 7), .ref (A 8), .ref (A 9), .ref (A 10), .double px, .double py, .double pz])) H_10 := hs_10.1
          have hc_A0_10 : xc G (A 0) (.inl (ty 0, 192, .inr (.inr (.inr (.inl pl))))) H_10 := y_0.kept (hs_10.2.2 _ (hA.1 0 (by decide)))
          have hc_A1_10 : xc G (A 1) (.inl (ty 2, 8, .inl un)) H_10 := y_1.kept (hs_10.2.2 _ (hA.1 1 (by decide)))
          have hc_A2_10 : xc G (A 2) (.inl (ty 0, 256, .inr (.inr (.inr (.inl co))))) H_10 := y_2.kept (hs_10.2.2 _ (hA.1 2 (by decide)))
          have hc_A3_10 : xc G (A 3) (.inl (ty 0, 32, .inr (.inr (.inr (.inl dr))))) H_10 := y_3.kept (hs_10.2.2 _ (hA.1 3 (by decide)))
          have hc_A4_10 : xc G (A 4) (.inl (ty 2, 64, .inl bu)) H_10 := y_4.kept (hs_10.2.2 _ (hA.1 4 (by decide)))
          have hc_A5_10 : xc G (A 5) (.inl (ty 0, 4, .inr (.inr (.inr (.inl wi))))) H_10 := y_5.kept (hs_10.2.2 _ (hA.1 5 (by decide)))
          have hc_A6_10 : xc G (A 6) (.inl (ty 0, 4, .inr (.inr (.inr (.inl hi))))) H_10 := y_6.kept (hs_10.2.2 _ (hA.1 6 (by decide)))
          have hc_A7_10 : xc G (A 7) (.inl (ty 1, 4, .inl fc)) H_10 := y_7.kept (hs_10.2.2 _ (hA.1 7 (by decide)))
          have hc_A8_10 : xc G (A 8) (.inl (ty 0, 128, .inr (.inr (.inr (.inl fa))))) H_10 := y_8.kept (hs_10.2.2 _ (hA.1 8 (by decide)))
          have hc_A9_10 : xc G (A 9) (.inl (ty 1, 8, .inl lo)) H_10 := y_9.kept (hs_10.2.2 _ (hA.1 9 (by decide)))
          have hc_A10_10 : xc G (A 10) (.inl (ty 1, 8, .inl la)) H_10 := y_10.kept (hs_10.2.2 _ (hA.1 10 (by decide)))
          have hfr_10 : xRfr m0 A H H_10 := xRfr.put0 xRfr.rf hs_10
          refine lv_aload_n hx hb dX7_distance_28 rfl (lv_at hl 0 rfl) ?_
          refine va_get (D := G) (cl := vwCl) (ci := 8) (v := .int (nI 1)) (C := RX7) (T := TX7) (N := 18) hx hb (hts d0) in_X7_distance_X7 hown hK.1 (x1 hc_10) 0 rfl rfl 0 (by decide) (hts d0 _ hw_X7_distance_1) (fun _ h9 => h9) rfl dX7_distance_29 ?_
          refine lv_if_le (tgt := 39) hx hb dX7_distance_32 (by decide) (fun h9 => absurd h9 (by decide)) (fun _ => ?_)
          refine lv_dconst0 hx hb dX7_distance_35 ?_
          refine lv_goto (tgt := 48) hx hb dX7_distance_36 (by decide) ?_
          exact xdret hd0 hx hb hr hlocks hS (Nat.le_of_ble_eq_true rfl) (Nat.le_of_ble_eq_true rfl) dX7_distance_48 ⟨nI 1, ⟨hc_10, hc_A0_10, hc_A1_10, hc_A2_10, hc_A3_10, hc_A4_10, hc_A5_10, hc_A6_10, hc_A7_10, hc_A8_10, hc_A9_10, hc_A10_10⟩, hfr_10, _, rfl, Or.inr ⟨rfl, by first | exact fun z => xP_ne.mp c_3 z.1 | exact fun z => xP_ne.mp c_6 z.2 | exact fun z => xP_ne.mp c_2 z.1⟩⟩
theorem xin_le {x : Int32} {n : Nat} (h0 : ¬ x < 0) (h1 : x ≤ nI n) (hn : n < 2 ^ 30) : vp_in x (n + 1) := by
  obtain ⟨j, hj, rfl⟩ := nI_of h0
  exact vp_in_nI (by have := (nI_leI hj (by omega)).mp h1; omega) (by omega)
theorem xin_gt {x : Int32} {n : Nat} (h1 : ¬ x ≤ nI n) (hn : n < 2 ^ 30) : ¬ vp_in x (n + 1) := by
  intro z
  obtain ⟨j, hj, rfl⟩ := vp_in_of z (by omega)
  exact h1 (nI_le (by omega) (by omega))
theorem xin_lt {x : Int32} {n : Nat} (h0 : ¬ x < 0) (h1 : x < nI n) (hn : n < 2 ^ 30) : vp_in x n := xin_of h0 (Int32.not_le.mpr h1) (by omega)
theorem xin_nlt {x : Int32} {n : Nat} (h1 : ¬ x < nI n) (hn : n < 2 ^ 30) : ¬ vp_in x n := xin_no1 (Int32.not_lt.mp h1) (by omega)
def pStav (w d : UInt64) : Bool := pBetween w 4593671619917905920 4652007308841189376 && pBetween d FP.dconst0 4652007308841189376
theorem pStav_t {w d : UInt64} (h1 : ¬ xB (pBetween w 4593671619917905920 4652007308841189376) = 0) (h2 : ¬ xB (pBetween d FP.dconst0 4652007308841189376) = 0) : xB (pStav w d) = 1 := by
  unfold pStav
  cases ha : pBetween w 4593671619917905920 4652007308841189376
  · rw [ha] at h1; exact absurd rfl h1
  · cases hb : pBetween d FP.dconst0 4652007308841189376
    · rw [hb] at h2; exact absurd rfl h2
    · rfl
theorem pStav_f1 {w d : UInt64} (h1 : xB (pBetween w 4593671619917905920 4652007308841189376) = 0) : xB (pStav w d) = 0 := by
  unfold pStav
  cases ha : pBetween w 4593671619917905920 4652007308841189376
  · rfl
  · rw [ha] at h1; exact absurd h1 (by decide)
theorem pStav_f2 {w d : UInt64} (h1 : xB (pBetween d FP.dconst0 4652007308841189376) = 0) : xB (pStav w d) = 0 := by
  unfold pStav
  cases ha : pBetween d FP.dconst0 4652007308841189376
  · cases pBetween w 4593671619917905920 4652007308841189376 <;> rfl
  · rw [ha] at h1; exact absurd h1 (by decide)
theorem xB_t {b : Bool} (h : ¬ xB b = 0) : b = true := by cases b; exact absurd rfl h; rfl
theorem xB_f {b : Bool} (h : xB b = 0) : b = false := by cases b; rfl; exact absurd h (by decide)
theorem xB_nz (b : Bool) : narrow .boolean (.int (xB b)) = .int (xB b) := by cases b <;> decide
set_option maxRecDepth 20000 in
theorem ggX7_flat_X7_noStrip : GoodIn wsX7_flat wsX7_noStrip := goodIn_r _ [9, 10, 11, 12, 13, 14, 15, 16, 17, 18, 19, 20, 21, 22, 23, 24, 25, 26, 27, 28] (by decide +kernel) (by decide +kernel)
set_option maxRecDepth 20000 in
theorem gX7_flat_X7_noStrip : GoodIn wsX7_flat (wsV RX7 87 RX7 yX7_noStrip wsX7_noStrip) := goodIn_app (goodIn_of _ (by decide +kernel)) ggX7_flat_X7_noStrip
theorem dX7_flat_0 : decode cX7_flat 0 = .ok (.aload_n 0, 1) := by decide +kernel
theorem dX7_flat_1 : decode cX7_flat 1 = .ok (.aload_n 0, 1) := by decide +kernel
theorem dX7_flat_2 : decode cX7_flat 2 = .ok (.iload_n 1, 1) := by decide +kernel
theorem dX7_flat_3 : decode cX7_flat 3 = .ok (.invokevirtual 87, 3) := by decide +kernel
theorem dX7_flat_6 : decode cX7_flat 6 = .ok (.ifCond .ne 26, 3) := by decide +kernel
theorem dX7_flat_9 : decode cX7_flat 9 = .ok (.iload_n 2, 1) := by decide +kernel
theorem dX7_flat_10 : decode cX7_flat 10 = .ok (.ifCond .lt 22, 3) := by decide +kernel
theorem dX7_flat_13 : decode cX7_flat 13 = .ok (.iload_n 2, 1) := by decide +kernel
theorem dX7_flat_14 : decode cX7_flat 14 = .ok (.iconst 2, 1) := by decide +kernel
theorem dX7_flat_15 : decode cX7_flat 15 = .ok (.aload_n 0, 1) := by decide +kernel
theorem dX7_flat_16 : decode cX7_flat 16 = .ok (.getfield 45, 3) := by decide +kernel
theorem dX7_flat_19 : decode cX7_flat 19 = .ok (.imul, 1) := by decide +kernel
theorem dX7_flat_20 : decode cX7_flat 20 = .ok (.if_icmp .ge 12, 3) := by decide +kernel
theorem dX7_flat_23 : decode cX7_flat 23 = .ok (.iload_n 3, 1) := by decide +kernel
theorem dX7_flat_24 : decode cX7_flat 24 = .ok (.ifCond .lt 8, 3) := by decide +kernel
theorem dX7_flat_27 : decode cX7_flat 27 = .ok (.iload_n 3, 1) := by decide +kernel
theorem dX7_flat_28 : decode cX7_flat 28 = .ok (.iconst 1, 1) := by decide +kernel
theorem dX7_flat_29 : decode cX7_flat 29 = .ok (.if_icmp .le 7, 3) := by decide +kernel
theorem dX7_flat_32 : decode cX7_flat 32 = .ok (.iconst 1, 1) := by decide +kernel
theorem dX7_flat_33 : decode cX7_flat 33 = .ok (.goto 17, 3) := by decide +kernel
theorem dX7_flat_36 : decode cX7_flat 36 = .ok (.aload_n 0, 1) := by decide +kernel
theorem dX7_flat_37 : decode cX7_flat 37 = .ok (.getfield 13, 3) := by decide +kernel
theorem dX7_flat_40 : decode cX7_flat 40 = .ok (.iload_n 1, 1) := by decide +kernel
theorem dX7_flat_41 : decode cX7_flat 41 = .ok (.baload, 1) := by decide +kernel
theorem dX7_flat_42 : decode cX7_flat 42 = .ok (.ifCond .eq 7, 3) := by decide +kernel
theorem dX7_flat_45 : decode cX7_flat 45 = .ok (.iconst 0, 1) := by decide +kernel
theorem dX7_flat_46 : decode cX7_flat 46 = .ok (.goto 4, 3) := by decide +kernel
theorem dX7_flat_49 : decode cX7_flat 49 = .ok (.iconst 2, 1) := by decide +kernel
theorem dX7_flat_50 : decode cX7_flat 50 = .ok (.putfield 52, 3) := by decide +kernel
theorem dX7_flat_53 : decode cX7_flat 53 = .ok (.aload_n 0, 1) := by decide +kernel
theorem dX7_flat_54 : decode cX7_flat 54 = .ok (.getfield 52, 3) := by decide +kernel
theorem dX7_flat_57 : decode cX7_flat 57 = .ok (.ifCond .le 7, 3) := by decide +kernel
theorem dX7_flat_60 : decode cX7_flat 60 = .ok (.dconst 0, 1) := by decide +kernel
theorem dX7_flat_61 : decode cX7_flat 61 = .ok (.goto 18, 3) := by decide +kernel
theorem dX7_flat_64 : decode cX7_flat 64 = .ok (.aload_n 0, 1) := by decide +kernel
theorem dX7_flat_65 : decode cX7_flat 65 = .ok (.getfield 17, 3) := by decide +kernel
theorem dX7_flat_68 : decode cX7_flat 68 = .ok (.bipush 32, 2) := by decide +kernel
theorem dX7_flat_70 : decode cX7_flat 70 = .ok (.iload_n 1, 1) := by decide +kernel
theorem dX7_flat_71 : decode cX7_flat 71 = .ok (.imul, 1) := by decide +kernel
theorem dX7_flat_72 : decode cX7_flat 72 = .ok (.iconst 2, 1) := by decide +kernel
theorem dX7_flat_73 : decode cX7_flat 73 = .ok (.iload_n 2, 1) := by decide +kernel
theorem dX7_flat_74 : decode cX7_flat 74 = .ok (.imul, 1) := by decide +kernel
theorem dX7_flat_75 : decode cX7_flat 75 = .ok (.iadd, 1) := by decide +kernel
theorem dX7_flat_76 : decode cX7_flat 76 = .ok (.iload_n 3, 1) := by decide +kernel
theorem dX7_flat_77 : decode cX7_flat 77 = .ok (.iadd, 1) := by decide +kernel
theorem dX7_flat_78 : decode cX7_flat 78 = .ok (.daload, 1) := by decide +kernel
theorem dX7_flat_79 : decode cX7_flat 79 = .ok (.dreturn, 1) := by decide +kernel
abbrev rm_X7_flat : Room := { frames := 7, cells := 0, slots := 0, locals := 140 }
theorem hw_X7_flat_1 : (Cond.fieldLink RX7 45 "PlankUnrollModel" "frames" "I") ∈ wsX7_flat := List.mem_of_getElem? (i := 1) rfl
theorem hw_X7_flat_2 : (Cond.fieldLink RX7 13 "PlankUnrollModel" "unrolled" "[Z") ∈ wsX7_flat := List.mem_of_getElem? (i := 2) rfl
theorem hw_X7_flat_3 : (Cond.fieldLink RX7 52 "PlankUnrollModel" "thrown" "I") ∈ wsX7_flat := List.mem_of_getElem? (i := 3) rfl
theorem hw_X7_flat_4 : (Cond.fieldLink RX7 17 "PlankUnrollModel" "corners" "[D") ∈ wsX7_flat := List.mem_of_getElem? (i := 4) rfl
theorem in_X7_flat_X7 : ∀ w ∈ wsX70, w ∈ wsX7_flat := by decide +kernel
set_option maxHeartbeats 4000000 in
set_option maxRecDepth 100000 in
/-- flat -/
theorem c_X7_flat {l : Launch} {G : va_G} {ty : Nat → ClassId} {b0 : Nat} {H : Heap} {x k q : Int32} {m0 : Nat} {A : Nat → Nat} {th : Int32} {F R nb : Nat} {pl co dr wi hi fa : Nat → UInt64} {un bu fc lo la : Nat → Int32} {px py pz : UInt64} (hY : xRef G ty m0 A th F R pl un co dr bu nb wi hi fc fa lo la px py pz H) (hZ : xSz F R) (hA : xAp m0 A) (hB : xNw b0 m0 A) : xMet l yX7_flat wsX7_flat rm_X7_flat G ty b0 [.ref m0, .int (x), .int (k), .int (q)] H (fun v H1 => ∃ T : Int32, xRef G ty m0 A T F R pl un co dr bu nb wi hi fc fa lo la px py pz H1 ∧ xRfr m0 A H H1 ∧ ∃ z : UInt64, v = some (.double z) ∧ ((T = nI 0 ∧ (vp_in x (R - 1) ∧ vp_in k (2 * F) ∧ vp_in q 2) ∧ ¬ un x.toNatClampNeg = 0 ∧ vq z (co (32 * x.toNatClampNeg + 2 * k.toNatClampNeg + q.toNatClampNeg))) ∨ (T = nI 1 ∧ ¬ (vp_in x (R - 1) ∧ vp_in k (2 * F) ∧ vp_in q 2)) ∨ (T = nI 2 ∧ (vp_in x (R - 1) ∧ vp_in k (2 * F) ∧ vp_in q 2) ∧ un x.toNatClampNeg = 0))) (fun _ _ => False) := by
  refine xbody (cc := cX7_flat) (maxL := 4) (ret := (some .double)) (C := RX7) (lv := [(0, .ref m0), (1, .int (x)), (2, .int (k)), (3, .int (q))]) (by decide) rfl rfl (Nat.le_of_ble_eq_true rfl) rfl ?_
  intro p e s m below meth c d0 hx hb hr hts hown hlocks hml hxt hnm0 hK hb0 hH0 hS hd0 ls hl
  obtain ⟨y_o, y_0, y_1, y_2, y_3, y_4, y_5, y_6, y_7, y_8, y_9, y_10⟩ := id hY
  obtain ⟨⟨zF2, zF8⟩, ⟨zR2, zR8⟩⟩ := id hZ
  refine lv_aload_n hx hb dX7_flat_0 rfl (lv_at hl 0 rfl) ?_
  refine lv_aload_n hx hb dX7_flat_1 rfl (lv_at hl 0 rfl) ?_
  refine lv_iload_n hx hb dX7_flat_2 rfl (lv_at hl 1 rfl) ?_
  have cw_1 := cwV (R := rm_X7_flat) (rm := rm_X7_noStrip) 1 (hts d0) gX7_flat_X7_noStrip rfl rfl rfl (by decide +kernel) ⟨Nat.le_of_ble_eq_true rfl, Nat.le_of_ble_eq_true rfl⟩
  refine xcall hd0 (xintoV (b := m0) (As := [.int (x)]) (rest := [.ref m0]) ⟨hx, hb, hml, hown, hts _⟩ cw_1 (va_recv hK.1 (x1 y_o) (ci := 8) (q0 := 0) rfl rfl) rfl rfl hl.1 rfl (lv_room (Nat.le_of_ble_eq_true rfl)) dX7_flat_3) (c_X7_noStrip (l := l) (G := G) (ty := ty) (b0 := b0) (⟨y_o, y_0, y_1, y_2, y_3, y_4, y_5, y_6, y_7, y_8, y_9, y_10⟩ : xRef G ty m0 A (th) F R pl un co dr bu nb wi hi fc fa lo la px py pz H) hZ) (xoweB cw_1.1) hK hb0 hS (Nat.le_of_ble_eq_true rfl) (Nat.le_of_ble_eq_true rfl) (fun E_1 ce_1 q9_1 H_1 locs_1 d0 hd0 hp_1 hS hce_1 hcv_1 hcl_1 => ?_) (fun v_1 H_1 locs_1 d0 hd0 hp_1 hS => ?_)
  · exact hp_1.elim
  · obtain ⟨rfl, rfl⟩ := hp_1
    show W p l e _ (s.setDrawn _) m _ below meth c _ _ _ _ _ (F0 m 6 ls [.int (xP (¬ vp_in x (R - 1))), .ref m0])
    refine lv_if_ne (tgt := 32) hx hb dX7_flat_6 (by decide) (fun c_2 => ?_) (fun c_2 => ?_)
    · refine lv_iconst (v := nI 1) hx hb dX7_flat_32 (by decide) ?_
      refine lv_goto (tgt := 50) hx hb dX7_flat_33 (by decide) ?_
      refine xput (G := G) (ci := 8) (v := .int (nI 1)) (ty := .int) (C := RX7) (T := TX7) (N := 18) hx hb (hts d0) in_X7_flat_X7 tyX7 tyX7_ok nmX7 hown hK.1 y_o hS hB.1 rfl 0 (by decide) (hts d0 _ hw_X7_flat_3) (fun _ h9 => h9) rfl (by decide +kernel) rfl rfl (Nat.le_of_ble_eq_true rfl) dX7_flat_50 (fun H_3 locs_3 hs_3 hS => ?_)
      have hc_3 : xc G m0 (.inr (8, [.int (nI 1), .int (nI F), .int (nI R), .ref (A 0), .ref (A 1), .ref (A 2), .ref (A 3), .ref (A 4), .int (nI nb), .ref (A 5), .ref (A 6), .ref (A 7), .ref (A 8), .ref (A 9), .ref (A 10), .double px, .double py, .double pz])) H_3 := hs_3.1
      have hc_A0_3 : xc G (A 0) (.inl (ty 0, 192, .inr (.inr (.inr (.inl pl))))) H_3 := y_0.kept (hs_3.2.2 _ (hA.1 0 (by decide)))
      have hc_A1_3 : xc G (A 1) (.inl (ty 2, 8, .inl un)) H_3 := y_1.kept (hs_3.2.2 _ (hA.1 1 (by decide)))
      have hc_A2_3 : xc G (A 2) (.inl (ty 0, 256, .inr (.inr (.inr (.inl co))))) H_3 := y_2.kept (hs_3.2.2 _ (hA.1 2 (by decide)))
      have hc_A3_3 : xc G (A 3) (.inl (ty 0, 32, .inr (.inr (.inr (.inl dr))))) H_3 := y_3.kept (hs_3.2.2 _ (hA.1 3 (by decide)))
      have hc_A4_3 : xc G (A 4) (.inl (ty 2, 64, .inl bu)) H_3 := y_4.kept (hs_3.2.2 _ (hA.1 4 (by decide)))
      have hc_A5_3 : xc G (A 5) (.inl (ty 0, 4, .inr (.inr (.inr (.inl wi))))) H_3 := y_5.kept (hs_3.2.2 _ (hA.1 5 (by decide)))
      have hc_A6_3 : xc G (A 6) (.inl (ty 0, 4, .inr (.inr (.inr (.inl hi))))) H_3 := y_6.kept (hs_3.2.2 _ (hA.1 6 (by decide)))
      have hc_A7_3 : xc G (A 7) (.inl (ty 1, 4, .inl fc)) H_3 := y_7.kept (hs_3.2.2 _ (hA.1 7 (by decide)))
      have hc_A8_3 : xc G (A 8) (.inl (ty 0, 128, .inr (.inr (.inr (.inl fa))))) H_3 := y_8.kept (hs_3.2.2 _ (hA.1 8 (by decide)))
      have hc_A9_3 : xc G (A 9) (.inl (ty 1, 8, .inl lo)) H_3 := y_9.kept (hs_3.2.2 _ (hA.1 9 (by decide)))
      have hc_A10_3 : xc G (A 10) (.inl (ty 1, 8, .inl la)) H_3 := y_10.kept (hs_3.2.2 _ (hA.1 10 (by decide)))
      have hfr_3 : xRfr m0 A H H_3 := xRfr.put0 xRfr.rf hs_3
      refine lv_aload_n hx hb dX7_flat_53 rfl (lv_at hl 0 rfl) ?_
      refine va_get (D := G) (cl := vwCl) (ci := 8) (v := .int (nI 1)) (C := RX7) (T := TX7) (N := 18) hx hb (hts d0) in_X7_flat_X7 hown hK.1 (x1 hc_3) 0 rfl rfl 0 (by decide) (hts d0 _ hw_X7_flat_3) (fun _ h9 => h9) rfl dX7_flat_54 ?_
      refine lv_if_le (tgt := 64) hx hb dX7_flat_57 (by decide) (fun h9 => absurd h9 (by decide)) (fun _ => ?_)
      refine lv_dconst0 hx hb dX7_flat_60 ?_
      refine lv_goto (tgt := 79) hx hb dX7_flat_61 (by decide) ?_
      exact xdret hd0 hx hb hr hlocks hS (Nat.le_of_ble_eq_true rfl) (Nat.le_of_ble_eq_true rfl) dX7_flat_79 ⟨nI 1, ⟨hc_3, hc_A0_3, hc_A1_3, hc_A2_3, hc_A3_3, hc_A4_3, hc_A5_3, hc_A6_3, hc_A7_3, hc_A8_3, hc_A9_3, hc_A10_3⟩, hfr_3, _, rfl, Or.inr (Or.inl ⟨rfl, fun z => xP_ne.mp c_2 z.1⟩)⟩
    · refine lv_iload_n hx hb dX7_flat_9 rfl (lv_at hl 2 rfl) ?_
      refine lv_if_lt (tgt := 32) hx hb dX7_flat_10 (by decide) (fun c_5 => ?_) (fun c_5 => ?_)
      · refine lv_iconst (v := nI 1) hx hb dX7_flat_32 (by decide) ?_
        refine lv_goto (tgt := 50) hx hb dX7_flat_33 (by decide) ?_
        refine xput (G := G) (ci := 8) (v := .int (nI 1)) (ty := .int) (C := RX7) (T := TX7) (N := 18) hx hb (hts d0) in_X7_flat_X7 tyX7 tyX7_ok nmX7 hown hK.1 y_o hS hB.1 rfl 0 (by decide) (hts d0 _ hw_X7_flat_3) (fun _ h9 => h9) rfl (by decide +kernel) rfl rfl (Nat.le_of_ble_eq_true rfl) dX7_flat_50 (fun H_6 locs_6 hs_6 hS => ?_)
        have hc_6 : xc G m0 (.inr (8, [.int (nI 1), .int (nI F), .int (nI R), .ref (A 0), .ref (A 1), .ref (A 2), .ref (A 3), .ref (A 4), .int (nI nb), .ref (A 5), .ref (A 6), .ref (A 7), .ref (A 8), .ref (A 9), .ref (A 10), .double px, .double py, .double pz])) H_6 := hs_6.1
        have hc_A0_6 : xc G (A 0) (.inl (ty 0, 192, .inr (.inr (.inr (.inl pl))))) H_6 := y_0.kept (hs_6.2.2 _ (hA.1 0 (by decide)))
        have hc_A1_6 : xc G (A 1) (.inl (ty 2, 8, .inl un)) H_6 := y_1.kept (hs_6.2.2 _ (hA.1 1 (by decide)))
        have hc_A2_6 : xc G (A 2) (.inl (ty 0, 256, .inr (.inr (.inr (.inl co))))) H_6 := y_2.kept (hs_6.2.2 _ (hA.1 2 (by decide)))
        have hc_A3_6 : xc G (A 3) (.inl (ty 0, 32, .inr (.inr (.inr (.inl dr))))) H_6 := y_3.kept (hs_6.2.2 _ (hA.1 3 (by decide)))
        have hc_A4_6 : xc G (A 4) (.inl (ty 2, 64, .inl bu)) H_6 := y_4.kept (hs_6.2.2 _ (hA.1 4 (by decide)))
        have hc_A5_6 : xc G (A 5) (.inl (ty 0, 4, .inr (.inr (.inr (.inl wi))))) H_6 := y_5.kept (hs_6.2.2 _ (hA.1 5 (by decide)))
        have hc_A6_6 : xc G (A 6) (.inl (ty 0, 4, .inr (.inr (.inr (.inl hi))))) H_6 := y_6.kept (hs_6.2.2 _ (hA.1 6 (by decide)))
        have hc_A7_6 : xc G (A 7) (.inl (ty 1, 4, .inl fc)) H_6 := y_7.kept (hs_6.2.2 _ (hA.1 7 (by decide)))
        have hc_A8_6 : xc G (A 8) (.inl (ty 0, 128, .inr (.inr (.inr (.inl fa))))) H_6 := y_8.kept (hs_6.2.2 _ (hA.1 8 (by decide)))
        have hc_A9_6 : xc G (A 9) (.inl (ty 1, 8, .inl lo)) H_6 := y_9.kept (hs_6.2.2 _ (hA.1 9 (by decide)))
        have hc_A10_6 : xc G (A 10) (.inl (ty 1, 8, .inl la)) H_6 := y_10.kept (hs_6.2.2 _ (hA.1 10 (by decide)))
        have hfr_6 : xRfr m0 A H H_6 := xRfr.put0 xRfr.rf hs_6
        refine lv_aload_n hx hb dX7_flat_53 rfl (lv_at hl 0 rfl) ?_
        refine va_get (D := G) (cl := vwCl) (ci := 8) (v := .int (nI 1)) (C := RX7) (T := TX7) (N := 18) hx hb (hts d0) in_X7_flat_X7 hown hK.1 (x1 hc_6) 0 rfl rfl 0 (by decide) (hts d0 _ hw_X7_flat_3) (fun _ h9 => h9) rfl dX7_flat_54 ?_
        refine lv_if_le (tgt := 64) hx hb dX7_flat_57 (by decide) (fun h9 => absurd h9 (by decide)) (fun _ => ?_)
        refine lv_dconst0 hx hb dX7_flat_60 ?_
        refine lv_goto (tgt := 79) hx hb dX7_flat_61 (by decide) ?_
        exact xdret hd0 hx hb hr hlocks hS (Nat.le_of_ble_eq_true rfl) (Nat.le_of_ble_eq_true rfl) dX7_flat_79 ⟨nI 1, ⟨hc_6, hc_A0_6, hc_A1_6, hc_A2_6, hc_A3_6, hc_A4_6, hc_A5_6, hc_A6_6, hc_A7_6, hc_A8_6, hc_A9_6, hc_A10_6⟩, hfr_6, _, rfl, Or.inr (Or.inl ⟨rfl, fun z => xin_no0 c_5 z.2.1⟩)⟩
      · refine lv_iload_n hx hb dX7_flat_13 rfl (lv_at hl 2 rfl) ?_
        refine lv_iconst (v := nI 2) hx hb dX7_flat_14 (by decide) ?_
        refine lv_aload_n hx hb dX7_flat_15 rfl (lv_at hl 0 rfl) ?_
        refine va_get (D := G) (cl := vwCl) (ci := 8) (v := .int (nI F)) (C := RX7) (T := TX7) (N := 18) hx hb (hts d0) in_X7_flat_X7 hown hK.1 (x1 y_o) 0 rfl rfl 1 (by decide) (hts d0 _ hw_X7_flat_1) (fun _ h9 => h9) rfl dX7_flat_16 ?_
        refine ximulN hx hb dX7_flat_19 ?_
        refine lv_icmp_ge (tgt := 32) hx hb dX7_flat_20 (by decide) (fun c_8 => ?_) (fun c_8 => ?_)
        · refine lv_iconst (v := nI 1) hx hb dX7_flat_32 (by decide) ?_
          refine lv_goto (tgt := 50) hx hb dX7_flat_33 (by decide) ?_
          refine xput (G := G) (ci := 8) (v := .int (nI 1)) (ty := .int) (C := RX7) (T := TX7) (N := 18) hx hb (hts d0) in_X7_flat_X7 tyX7 tyX7_ok nmX7 hown hK.1 y_o hS hB.1 rfl 0 (by decide) (hts d0 _ hw_X7_flat_3) (fun _ h9 => h9) rfl (by decide +kernel) rfl rfl (Nat.le_of_ble_eq_true rfl) dX7_flat_50 (fun H_9 locs_9 hs_9 hS => ?_)
          have hc_9 : xc G m0 (.inr (8, [.int (nI 1), .int (nI F), .int (nI R), .ref (A 0), .ref (A 1), .ref (A 2), .ref (A 3), .ref (A 4), .int (nI nb), .ref (A 5), .ref (A 6), .ref (A 7), .ref (A 8), .ref (A 9), .ref (A 10), .double px, .double py, .double pz])) H_9 := hs_9.1
          have hc_A0_9 : xc G (A 0) (.inl (ty 0, 192, .inr (.inr (.inr (.inl pl))))) H_9 := y_0.kept (hs_9.2.2 _ (hA.1 0 (by decide)))
          have hc_A1_9 : xc G (A 1) (.inl (ty 2, 8, .inl un)) H_9 := y_1.kept (hs_9.2.2 _ (hA.1 1 (by decide)))
          have hc_A2_9 : xc G (A 2) (.inl (ty 0, 256, .inr (.inr (.inr (.inl co))))) H_9 := y_2.kept (hs_9.2.2 _ (hA.1 2 (by decide)))
          have hc_A3_9 : xc G (A 3) (.inl (ty 0, 32, .inr (.inr (.inr (.inl dr))))) H_9 := y_3.kept (hs_9.2.2 _ (hA.1 3 (by decide)))
          have hc_A4_9 : xc G (A 4) (.inl (ty 2, 64, .inl bu)) H_9 := y_4.kept (hs_9.2.2 _ (hA.1 4 (by decide)))
          have hc_A5_9 : xc G (A 5) (.inl (ty 0, 4, .inr (.inr (.inr (.inl wi))))) H_9 := y_5.kept (hs_9.2.2 _ (hA.1 5 (by decide)))
          have hc_A6_9 : xc G (A 6) (.inl (ty 0, 4, .inr (.inr (.inr (.inl hi))))) H_9 := y_6.kept (hs_9.2.2 _ (hA.1 6 (by decide)))
          have hc_A7_9 : xc G (A 7) (.inl (ty 1, 4, .inl fc)) H_9 := y_7.kept (hs_9.2.2 _ (hA.1 7 (by decide)))
          have hc_A8_9 : xc G (A 8) (.inl (ty 0, 128, .inr (.inr (.inr (.inl fa))))) H_9 := y_8.kept (hs_9.2.2 _ (hA.1 8 (by decide)))
          have hc_A9_9 : xc G (A 9) (.inl (ty 1, 8, .inl lo)) H_9 := y_9.kept (hs_9.2.2 _ (hA.1 9 (by decide)))
          have hc_A10_9 : xc G (A 10) (.inl (ty 1, 8, .inl la)) H_9 := y_10.kept (hs_9.2.2 _ (hA.1 10 (by decide)))
          have hfr_9 : xRfr m0 A H H_9 := xRfr.put0 xRfr.rf hs_9
          refine lv_aload_n hx hb dX7_flat_53 rfl (lv_at hl 0 rfl) ?_
          refine va_get (D := G) (cl := vwCl) (ci := 8) (v := .int (nI 1)) (C := RX7) (T := TX7) (N := 18) hx hb (hts d0) in_X7_flat_X7 hown hK.1 (x1 hc_9) 0 rfl rfl 0 (by decide) (hts d0 _ hw_X7_flat_3) (fun _ h9 => h9) rfl dX7_flat_54 ?_
          refine lv_if_le (tgt := 64) hx hb dX7_flat_57 (by decide) (fun h9 => absurd h9 (by decide)) (fun _ => ?_)
          refine lv_dconst0 hx hb dX7_flat_60 ?_
          refine lv_goto (tgt := 79) hx hb dX7_flat_61 (by decide) ?_
          exact xdret hd0 hx hb hr hlocks hS (Nat.le_of_ble_eq_true rfl) (Nat.le_of_ble_eq_true rfl) dX7_flat_79 ⟨nI 1, ⟨hc_9, hc_A0_9, hc_A1_9, hc_A2_9, hc_A3_9, hc_A4_9, hc_A5_9, hc_A6_9, hc_A7_9, hc_A8_9, hc_A9_9, hc_A10_9⟩, hfr_9, _, rfl, Or.inr (Or.inl ⟨rfl, fun z => xin_no1 c_8 (by omega) z.2.1⟩)⟩
        · refine lv_iload_n hx hb dX7_flat_23 rfl (lv_at hl 3 rfl) ?_
          refine lv_if_lt (tgt := 32) hx hb dX7_flat_24 (by decide) (fun c_11 => ?_) (fun c_11 => ?_)
          · refine lv_iconst (v := nI 1) hx hb dX7_flat_32 (by decide) ?_
            refine lv_goto (tgt := 50) hx hb dX7_flat_33 (by decide) ?_
            refine xput (G := G) (ci := 8) (v := .int (nI 1)) (ty := .int) (C := RX7) (T := TX7) (N := 18) hx hb (hts d0) in_X7_flat_X7 tyX7 tyX7_ok nmX7 hown hK.1 y_o hS hB.1 rfl 0 (by decide) (hts d0 _ hw_X7_flat_3) (fun _ h9 => h9) rfl (by decide +kernel) rfl rfl (Nat.le_of_ble_eq_true rfl) dX7_flat_50 (fun H_12 locs_12 hs_12 hS => ?_)
            have hc_12 : xc G m0 (.inr (8, [.int (nI 1), .int (nI F), .int (nI R), .ref (A 0), .ref (A 1), .ref (A 2), .ref (A 3), .ref (A 4), .int (nI nb), .ref (A 5), .ref (A 6), .ref (A 7), .ref (A 8), .ref (A 9), .ref (A 10), .double px, .double py, .double pz])) H_12 := hs_12.1
            have hc_A0_12 : xc G (A 0) (.inl (ty 0, 192, .inr (.inr (.inr (.inl pl))))) H_12 := y_0.kept (hs_12.2.2 _ (hA.1 0 (by decide)))
            have hc_A1_12 : xc G (A 1) (.inl (ty 2, 8, .inl un)) H_12 := y_1.kept (hs_12.2.2 _ (hA.1 1 (by decide)))
            have hc_A2_12 : xc G (A 2) (.inl (ty 0, 256, .inr (.inr (.inr (.inl co))))) H_12 := y_2.kept (hs_12.2.2 _ (hA.1 2 (by decide)))
            have hc_A3_12 : xc G (A 3) (.inl (ty 0, 32, .inr (.inr (.inr (.inl dr))))) H_12 := y_3.kept (hs_12.2.2 _ (hA.1 3 (by decide)))
            have hc_A4_12 : xc G (A 4) (.inl (ty 2, 64, .inl bu)) H_12 := y_4.kept (hs_12.2.2 _ (hA.1 4 (by decide)))
            have hc_A5_12 : xc G (A 5) (.inl (ty 0, 4, .inr (.inr (.inr (.inl wi))))) H_12 := y_5.kept (hs_12.2.2 _ (hA.1 5 (by decide)))
            have hc_A6_12 : xc G (A 6) (.inl (ty 0, 4, .inr (.inr (.inr (.inl hi))))) H_12 := y_6.kept (hs_12.2.2 _ (hA.1 6 (by decide)))
            have hc_A7_12 : xc G (A 7) (.inl (ty 1, 4, .inl fc)) H_12 := y_7.kept (hs_12.2.2 _ (hA.1 7 (by decide)))
            have hc_A8_12 : xc G (A 8) (.inl (ty 0, 128, .inr (.inr (.inr (.inl fa))))) H_12 := y_8.kept (hs_12.2.2 _ (hA.1 8 (by decide)))
            have hc_A9_12 : xc G (A 9) (.inl (ty 1, 8, .inl lo)) H_12 := y_9.kept (hs_12.2.2 _ (hA.1 9 (by decide)))
            have hc_A10_12 : xc G (A 10) (.inl (ty 1, 8, .inl la)) H_12 := y_10.kept (hs_12.2.2 _ (hA.1 10 (by decide)))
            have hfr_12 : xRfr m0 A H H_12 := xRfr.put0 xRfr.rf hs_12
            refine lv_aload_n hx hb dX7_flat_53 rfl (lv_at hl 0 rfl) ?_
            refine va_get (D := G) (cl := vwCl) (ci := 8) (v := .int (nI 1)) (C := RX7) (T := TX7) (N := 18) hx hb (hts d0) in_X7_flat_X7 hown hK.1 (x1 hc_12) 0 rfl rfl 0 (by decide) (hts d0 _ hw_X7_flat_3) (fun _ h9 => h9) rfl dX7_flat_54 ?_
            refine lv_if_le (tgt := 64) hx hb dX7_flat_57 (by decide) (fun h9 => absurd h9 (by decide)) (fun _ => ?_)
            refine lv_dconst0 hx hb dX7_flat_60 ?_
            refine lv_goto (tgt := 79) hx hb dX7_flat_61 (by decide) ?_
            exact xdret hd0 hx hb hr hlocks hS (Nat.le_of_ble_eq_true rfl) (Nat.le_of_ble_eq_true rfl) dX7_flat_79 ⟨nI 1, ⟨hc_12, hc_A0_12, hc_A1_12, hc_A2_12, hc_A3_12, hc_A4_12, hc_A5_12, hc_A6_12, hc_A7_12, hc_A8_12, hc_A9_12, hc_A10_12⟩, hfr_12, _, rfl, Or.inr (Or.inl ⟨rfl, fun z => xin_no0 c_11 z.2.2⟩)⟩
          · refine lv_iload_n hx hb dX7_flat_27 rfl (lv_at hl 3 rfl) ?_
            refine lv_iconst (v := nI 1) hx hb dX7_flat_28 (by decide) ?_
            refine lv_icmp_le (tgt := 36) hx hb dX7_flat_29 (by decide) (fun c_14 => ?_) (fun c_14 => ?_)
            · have z_x := Classical.not_not.mp (xP_eq.mp c_2)
              have z_k := xin_of c_5 c_8 (show 2 * F < 2 ^ 31 by omega)
              have z_q := xin_le c_11 c_14 (by decide)
              obtain ⟨x9, hx9, ex9⟩ := vp_in_of z_x (by omega)
              obtain ⟨k9, hk9, ek9⟩ := vp_in_of z_k (by omega)
              obtain ⟨q9, hq9, eq9⟩ := vp_in_of z_q (by omega)
              subst ex9 ek9 eq9
              refine lv_aload_n hx hb dX7_flat_36 rfl (lv_at hl 0 rfl) ?_
              refine va_get (D := G) (cl := vwCl) (ci := 8) (v := .ref (A 1)) (C := RX7) (T := TX7) (N := 18) hx hb (hts d0) in_X7_flat_X7 hown hK.1 (x1 y_o) 0 rfl rfl 4 (by decide) (hts d0 _ hw_X7_flat_2) (fun _ h9 => h9) rfl dX7_flat_37 ?_
              refine lv_iload_n hx hb dX7_flat_40 rfl (lv_at hl 1 rfl) ?_
              refine xzald (j := x9) hx hb hK.1 2 y_1 rfl (xix_of (by omega) (by omega)) dX7_flat_41 ?_
              refine lv_if_eq (tgt := 49) hx hb dX7_flat_42 (by decide) (fun c_15 => ?_) (fun c_15 => ?_)
              · refine lv_iconst (v := nI 2) hx hb dX7_flat_49 (by decide) ?_
                refine xput (G := G) (ci := 8) (v := .int (nI 2)) (ty := .int) (C := RX7) (T := TX7) (N := 18) hx hb (hts d0) in_X7_flat_X7 tyX7 tyX7_ok nmX7 hown hK.1 y_o hS hB.1 rfl 0 (by decide) (hts d0 _ hw_X7_flat_3) (fun _ h9 => h9) rfl (by decide +kernel) rfl rfl (Nat.le_of_ble_eq_true rfl) dX7_flat_50 (fun H_16 locs_16 hs_16 hS => ?_)
                have hc_16 : xc G m0 (.inr (8, [.int (nI 2), .int (nI F), .int (nI R), .ref (A 0), .ref (A 1), .ref (A 2), .ref (A 3), .ref (A 4), .int (nI nb), .ref (A 5), .ref (A 6), .ref (A 7), .ref (A 8), .ref (A 9), .ref (A 10), .double px, .double py, .double pz])) H_16 := hs_16.1
                have hc_A0_16 : xc G (A 0) (.inl (ty 0, 192, .inr (.inr (.inr (.inl pl))))) H_16 := y_0.kept (hs_16.2.2 _ (hA.1 0 (by decide)))
                have hc_A1_16 : xc G (A 1) (.inl (ty 2, 8, .inl un)) H_16 := y_1.kept (hs_16.2.2 _ (hA.1 1 (by decide)))
                have hc_A2_16 : xc G (A 2) (.inl (ty 0, 256, .inr (.inr (.inr (.inl co))))) H_16 := y_2.kept (hs_16.2.2 _ (hA.1 2 (by decide)))
                have hc_A3_16 : xc G (A 3) (.inl (ty 0, 32, .inr (.inr (.inr (.inl dr))))) H_16 := y_3.kept (hs_16.2.2 _ (hA.1 3 (by decide)))
                have hc_A4_16 : xc G (A 4) (.inl (ty 2, 64, .inl bu)) H_16 := y_4.kept (hs_16.2.2 _ (hA.1 4 (by decide)))
                have hc_A5_16 : xc G (A 5) (.inl (ty 0, 4, .inr (.inr (.inr (.inl wi))))) H_16 := y_5.kept (hs_16.2.2 _ (hA.1 5 (by decide)))
                have hc_A6_16 : xc G (A 6) (.inl (ty 0, 4, .inr (.inr (.inr (.inl hi))))) H_16 := y_6.kept (hs_16.2.2 _ (hA.1 6 (by decide)))
                have hc_A7_16 : xc G (A 7) (.inl (ty 1, 4, .inl fc)) H_16 := y_7.kept (hs_16.2.2 _ (hA.1 7 (by decide)))
                have hc_A8_16 : xc G (A 8) (.inl (ty 0, 128, .inr (.inr (.inr (.inl fa))))) H_16 := y_8.kept (hs_16.2.2 _ (hA.1 8 (by decide)))
                have hc_A9_16 : xc G (A 9) (.inl (ty 1, 8, .inl lo)) H_16 := y_9.kept (hs_16.2.2 _ (hA.1 9 (by decide)))
                have hc_A10_16 : xc G (A 10) (.inl (ty 1, 8, .inl la)) H_16 := y_10.kept (hs_16.2.2 _ (hA.1 10 (by decide)))
                have hfr_16 : xRfr m0 A H H_16 := xRfr.put0 xRfr.rf hs_16
                refine lv_aload_n hx hb dX7_flat_53 rfl (lv_at hl 0 rfl) ?_
                refine va_get (D := G) (cl := vwCl) (ci := 8) (v := .int (nI 2)) (C := RX7) (T := TX7) (N := 18) hx hb (hts d0) in_X7_flat_X7 hown hK.1 (x1 hc_16) 0 rfl rfl 0 (by decide) (hts d0 _ hw_X7_flat_3) (fun _ h9 => h9) rfl dX7_flat_54 ?_
                refine lv_if_le (tgt := 64) hx hb dX7_flat_57 (by decide) (fun h9 => absurd h9 (by decide)) (fun _ => ?_)
                refine lv_dconst0 hx hb dX7_flat_60 ?_
                refine lv_goto (tgt := 79) hx hb dX7_flat_61 (by decide) ?_
                exact xdret hd0 hx hb hr hlocks hS (Nat.le_of_ble_eq_true rfl) (Nat.le_of_ble_eq_true rfl) dX7_flat_79 ⟨nI 2, ⟨hc_16, hc_A0_16, hc_A1_16, hc_A2_16, hc_A3_16, hc_A4_16, hc_A5_16, hc_A6_16, hc_A7_16, hc_A8_16, hc_A9_16, hc_A10_16⟩, hfr_16, _, rfl, Or.inr (Or.inr ⟨rfl, ⟨z_x, z_k, z_q⟩, by rw [nN_nI (by omega)]; exact c_15⟩)⟩
              · refine lv_iconst (v := nI 0) hx hb dX7_flat_45 (by decide) ?_
                refine lv_goto (tgt := 50) hx hb dX7_flat_46 (by decide) ?_
                refine xput (G := G) (ci := 8) (v := .int (nI 0)) (ty := .int) (C := RX7) (T := TX7) (N := 18) hx hb (hts d0) in_X7_flat_X7 tyX7 tyX7_ok nmX7 hown hK.1 y_o hS hB.1 rfl 0 (by decide) (hts d0 _ hw_X7_flat_3) (fun _ h9 => h9) rfl (by decide +kernel) rfl rfl (Nat.le_of_ble_eq_true rfl) dX7_flat_50 (fun H_18 locs_18 hs_18 hS => ?_)
                have hc_18 : xc G m0 (.inr (8, [.int (nI 0), .int (nI F), .int (nI R), .ref (A 0), .ref (A 1), .ref (A 2), .ref (A 3), .ref (A 4), .int (nI nb), .ref (A 5), .ref (A 6), .ref (A 7), .ref (A 8), .ref (A 9), .ref (A 10), .double px, .double py, .double pz])) H_18 := hs_18.1
                have hc_A0_18 : xc G (A 0) (.inl (ty 0, 192, .inr (.inr (.inr (.inl pl))))) H_18 := y_0.kept (hs_18.2.2 _ (hA.1 0 (by decide)))
                have hc_A1_18 : xc G (A 1) (.inl (ty 2, 8, .inl un)) H_18 := y_1.kept (hs_18.2.2 _ (hA.1 1 (by decide)))
                have hc_A2_18 : xc G (A 2) (.inl (ty 0, 256, .inr (.inr (.inr (.inl co))))) H_18 := y_2.kept (hs_18.2.2 _ (hA.1 2 (by decide)))
                have hc_A3_18 : xc G (A 3) (.inl (ty 0, 32, .inr (.inr (.inr (.inl dr))))) H_18 := y_3.kept (hs_18.2.2 _ (hA.1 3 (by decide)))
                have hc_A4_18 : xc G (A 4) (.inl (ty 2, 64, .inl bu)) H_18 := y_4.kept (hs_18.2.2 _ (hA.1 4 (by decide)))
                have hc_A5_18 : xc G (A 5) (.inl (ty 0, 4, .inr (.inr (.inr (.inl wi))))) H_18 := y_5.kept (hs_18.2.2 _ (hA.1 5 (by decide)))
                have hc_A6_18 : xc G (A 6) (.inl (ty 0, 4, .inr (.inr (.inr (.inl hi))))) H_18 := y_6.kept (hs_18.2.2 _ (hA.1 6 (by decide)))
                have hc_A7_18 : xc G (A 7) (.inl (ty 1, 4, .inl fc)) H_18 := y_7.kept (hs_18.2.2 _ (hA.1 7 (by decide)))
                have hc_A8_18 : xc G (A 8) (.inl (ty 0, 128, .inr (.inr (.inr (.inl fa))))) H_18 := y_8.kept (hs_18.2.2 _ (hA.1 8 (by decide)))
                have hc_A9_18 : xc G (A 9) (.inl (ty 1, 8, .inl lo)) H_18 := y_9.kept (hs_18.2.2 _ (hA.1 9 (by decide)))
                have hc_A10_18 : xc G (A 10) (.inl (ty 1, 8, .inl la)) H_18 := y_10.kept (hs_18.2.2 _ (hA.1 10 (by decide)))
                have hfr_18 : xRfr m0 A H H_18 := xRfr.put0 xRfr.rf hs_18
                refine lv_aload_n hx hb dX7_flat_53 rfl (lv_at hl 0 rfl) ?_
                refine va_get (D := G) (cl := vwCl) (ci := 8) (v := .int (nI 0)) (C := RX7) (T := TX7) (N := 18) hx hb (hts d0) in_X7_flat_X7 hown hK.1 (x1 hc_18) 0 rfl rfl 0 (by decide) (hts d0 _ hw_X7_flat_3) (fun _ h9 => h9) rfl dX7_flat_54 ?_
                refine lv_if_le (tgt := 64) hx hb dX7_flat_57 (by decide) (fun _ => ?_) (fun h9 => absurd (by decide) h9)
                refine lv_aload_n hx hb dX7_flat_64 rfl (lv_at hl 0 rfl) ?_
                refine va_get (D := G) (cl := vwCl) (ci := 8) (v := .ref (A 2)) (C := RX7) (T := TX7) (N := 18) hx hb (hts d0) in_X7_flat_X7 hown hK.1 (x1 hc_18) 0 rfl rfl 5 (by decide) (hts d0 _ hw_X7_flat_4) (fun _ h9 => h9) rfl dX7_flat_65 ?_
                refine lv_bipush (v := nI 32) hx hb dX7_flat_68 (by decide) ?_
                refine lv_iload_n hx hb dX7_flat_70 rfl (lv_at hl 1 rfl) ?_
                refine ximulN hx hb dX7_flat_71 ?_
                refine lv_iconst (v := nI 2) hx hb dX7_flat_72 (by decide) ?_
                refine lv_iload_n hx hb dX7_flat_73 rfl (lv_at hl 2 rfl) ?_
                refine ximulN hx hb dX7_flat_74 ?_
                refine xiaddN hx hb dX7_flat_75 ?_
                refine lv_iload_n hx hb dX7_flat_76 rfl (lv_at hl 3 rfl) ?_
                refine xiaddN hx hb dX7_flat_77 ?_
                refine xdald (j := ((32 * x9) + (2 * k9)) + q9) hx hb hK.1 0 hc_A2_18 rfl (xix_of (by omega) (by omega)) dX7_flat_78 ?_
                exact xdret hd0 hx hb hr hlocks hS (Nat.le_of_ble_eq_true rfl) (Nat.le_of_ble_eq_true rfl) dX7_flat_79 ⟨nI 0, ⟨hc_18, hc_A0_18, hc_A1_18, hc_A2_18, hc_A3_18, hc_A4_18, hc_A5_18, hc_A6_18, hc_A7_18, hc_A8_18, hc_A9_18, hc_A10_18⟩, hfr_18, _, rfl, Or.inl ⟨rfl, ⟨z_x, z_k, z_q⟩, by rw [nN_nI (by omega)]; exact c_15, by rw [nN_nI (by omega), nN_nI (by omega), nN_nI (by omega)]⟩⟩
            · refine lv_iconst (v := nI 1) hx hb dX7_flat_32 (by decide) ?_
              refine lv_goto (tgt := 50) hx hb dX7_flat_33 (by decide) ?_
              refine xput (G := G) (ci := 8) (v := .int (nI 1)) (ty := .int) (C := RX7) (T := TX7) (N := 18) hx hb (hts d0) in_X7_flat_X7 tyX7 tyX7_ok nmX7 hown hK.1 y_o hS hB.1 rfl 0 (by decide) (hts d0 _ hw_X7_flat_3) (fun _ h9 => h9) rfl (by decide +kernel) rfl rfl (Nat.le_of_ble_eq_true rfl) dX7_flat_50 (fun H_20 locs_20 hs_20 hS => ?_)
              have hc_20 : xc G m0 (.inr (8, [.int (nI 1), .int (nI F), .int (nI R), .ref (A 0), .ref (A 1), .ref (A 2), .ref (A 3), .ref (A 4), .int (nI nb), .ref (A 5), .ref (A 6), .ref (A 7), .ref (A 8), .ref (A 9), .ref (A 10), .double px, .double py, .double pz])) H_20 := hs_20.1
              have hc_A0_20 : xc G (A 0) (.inl (ty 0, 192, .inr (.inr (.inr (.inl pl))))) H_20 := y_0.kept (hs_20.2.2 _ (hA.1 0 (by decide)))
              have hc_A1_20 : xc G (A 1) (.inl (ty 2, 8, .inl un)) H_20 := y_1.kept (hs_20.2.2 _ (hA.1 1 (by decide)))
              have hc_A2_20 : xc G (A 2) (.inl (ty 0, 256, .inr (.inr (.inr (.inl co))))) H_20 := y_2.kept (hs_20.2.2 _ (hA.1 2 (by decide)))
              have hc_A3_20 : xc G (A 3) (.inl (ty 0, 32, .inr (.inr (.inr (.inl dr))))) H_20 := y_3.kept (hs_20.2.2 _ (hA.1 3 (by decide)))
              have hc_A4_20 : xc G (A 4) (.inl (ty 2, 64, .inl bu)) H_20 := y_4.kept (hs_20.2.2 _ (hA.1 4 (by decide)))
              have hc_A5_20 : xc G (A 5) (.inl (ty 0, 4, .inr (.inr (.inr (.inl wi))))) H_20 := y_5.kept (hs_20.2.2 _ (hA.1 5 (by decide)))
              have hc_A6_20 : xc G (A 6) (.inl (ty 0, 4, .inr (.inr (.inr (.inl hi))))) H_20 := y_6.kept (hs_20.2.2 _ (hA.1 6 (by decide)))
              have hc_A7_20 : xc G (A 7) (.inl (ty 1, 4, .inl fc)) H_20 := y_7.kept (hs_20.2.2 _ (hA.1 7 (by decide)))
              have hc_A8_20 : xc G (A 8) (.inl (ty 0, 128, .inr (.inr (.inr (.inl fa))))) H_20 := y_8.kept (hs_20.2.2 _ (hA.1 8 (by decide)))
              have hc_A9_20 : xc G (A 9) (.inl (ty 1, 8, .inl lo)) H_20 := y_9.kept (hs_20.2.2 _ (hA.1 9 (by decide)))
              have hc_A10_20 : xc G (A 10) (.inl (ty 1, 8, .inl la)) H_20 := y_10.kept (hs_20.2.2 _ (hA.1 10 (by decide)))
              have hfr_20 : xRfr m0 A H H_20 := xRfr.put0 xRfr.rf hs_20
              refine lv_aload_n hx hb dX7_flat_53 rfl (lv_at hl 0 rfl) ?_
              refine va_get (D := G) (cl := vwCl) (ci := 8) (v := .int (nI 1)) (C := RX7) (T := TX7) (N := 18) hx hb (hts d0) in_X7_flat_X7 hown hK.1 (x1 hc_20) 0 rfl rfl 0 (by decide) (hts d0 _ hw_X7_flat_3) (fun _ h9 => h9) rfl dX7_flat_54 ?_
              refine lv_if_le (tgt := 64) hx hb dX7_flat_57 (by decide) (fun h9 => absurd h9 (by decide)) (fun _ => ?_)
              refine lv_dconst0 hx hb dX7_flat_60 ?_
              refine lv_goto (tgt := 79) hx hb dX7_flat_61 (by decide) ?_
              exact xdret hd0 hx hb hr hlocks hS (Nat.le_of_ble_eq_true rfl) (Nat.le_of_ble_eq_true rfl) dX7_flat_79 ⟨nI 1, ⟨hc_20, hc_A0_20, hc_A1_20, hc_A2_20, hc_A3_20, hc_A4_20, hc_A5_20, hc_A6_20, hc_A7_20, hc_A8_20, hc_A9_20, hc_A10_20⟩, hfr_20, _, rfl, Or.inr (Or.inl ⟨rfl, fun z => xin_gt c_14 (by decide) z.2.2⟩)⟩
set_option maxRecDepth 20000 in
theorem ggX7_stretch_X7_noCell : GoodIn wsX7_stretch wsX7_noCell := goodIn_r _ [7, 8, 9, 10, 11, 6, 12, 13, 35, 36, 37, 38, 39, 40, 41, 42, 43, 44, 45, 46, 47, 48, 49, 50, 51, 52] (by decide +kernel) (by decide +kernel)
set_option maxRecDepth 20000 in
theorem gX7_stretch_X7_noCell : GoodIn wsX7_stretch (wsV RX7 95 RX7 yX7_noCell wsX7_noCell) := goodIn_app (goodIn_of _ (by decide +kernel)) ggX7_stretch_X7_noCell
set_option maxRecDepth 20000 in
theorem ggX7_stretch_X7_off : GoodIn wsX7_stretch wsX7_off := goodIn_r _ [17, 18, 19, 20, 6, 21, 22, 23, 24, 25, 26, 27, 28, 29, 30, 31, 32, 33, 34, 35, 36, 37, 38, 39, 40, 41, 42, 43, 44, 45, 46, 47, 48, 49, 50, 51, 52] (by decide +kernel) (by decide +kernel)
set_option maxRecDepth 20000 in
theorem gX7_stretch_X7_off : GoodIn wsX7_stretch (wsV RX7 98 RX7 yX7_off wsX7_off) := goodIn_app (goodIn_of _ (by decide +kernel)) ggX7_stretch_X7_off
theorem dX7_stretch_0 : decode cX7_stretch 0 = .ok (.aload_n 0, 1) := by decide +kernel
theorem dX7_stretch_1 : decode cX7_stretch 1 = .ok (.aload_n 0, 1) := by decide +kernel
theorem dX7_stretch_2 : decode cX7_stretch 2 = .ok (.iload_n 1, 1) := by decide +kernel
theorem dX7_stretch_3 : decode cX7_stretch 3 = .ok (.iload_n 2, 1) := by decide +kernel
theorem dX7_stretch_4 : decode cX7_stretch 4 = .ok (.invokevirtual 95, 3) := by decide +kernel
theorem dX7_stretch_7 : decode cX7_stretch 7 = .ok (.ifCond .eq 7, 3) := by decide +kernel
theorem dX7_stretch_10 : decode cX7_stretch 10 = .ok (.iconst 1, 1) := by decide +kernel
theorem dX7_stretch_11 : decode cX7_stretch 11 = .ok (.goto 17, 3) := by decide +kernel
theorem dX7_stretch_14 : decode cX7_stretch 14 = .ok (.aload_n 0, 1) := by decide +kernel
theorem dX7_stretch_15 : decode cX7_stretch 15 = .ok (.getfield 13, 3) := by decide +kernel
theorem dX7_stretch_18 : decode cX7_stretch 18 = .ok (.iload_n 1, 1) := by decide +kernel
theorem dX7_stretch_19 : decode cX7_stretch 19 = .ok (.baload, 1) := by decide +kernel
theorem dX7_stretch_20 : decode cX7_stretch 20 = .ok (.ifCond .eq 7, 3) := by decide +kernel
theorem dX7_stretch_23 : decode cX7_stretch 23 = .ok (.iconst 0, 1) := by decide +kernel
theorem dX7_stretch_24 : decode cX7_stretch 24 = .ok (.goto 4, 3) := by decide +kernel
theorem dX7_stretch_27 : decode cX7_stretch 27 = .ok (.iconst 2, 1) := by decide +kernel
theorem dX7_stretch_28 : decode cX7_stretch 28 = .ok (.putfield 52, 3) := by decide +kernel
theorem dX7_stretch_31 : decode cX7_stretch 31 = .ok (.aload_n 0, 1) := by decide +kernel
theorem dX7_stretch_32 : decode cX7_stretch 32 = .ok (.getfield 52, 3) := by decide +kernel
theorem dX7_stretch_35 : decode cX7_stretch 35 = .ok (.ifCond .le 7, 3) := by decide +kernel
theorem dX7_stretch_38 : decode cX7_stretch 38 = .ok (.dconst 0, 1) := by decide +kernel
theorem dX7_stretch_39 : decode cX7_stretch 39 = .ok (.goto 9, 3) := by decide +kernel
theorem dX7_stretch_42 : decode cX7_stretch 42 = .ok (.aload_n 0, 1) := by decide +kernel
theorem dX7_stretch_43 : decode cX7_stretch 43 = .ok (.iload_n 1, 1) := by decide +kernel
theorem dX7_stretch_44 : decode cX7_stretch 44 = .ok (.iload_n 2, 1) := by decide +kernel
theorem dX7_stretch_45 : decode cX7_stretch 45 = .ok (.invokevirtual 98, 3) := by decide +kernel
theorem dX7_stretch_48 : decode cX7_stretch 48 = .ok (.dreturn, 1) := by decide +kernel
abbrev rm_X7_stretch : Room := { frames := 8, cells := 0, slots := 0, locals := 190 }
theorem hw_X7_stretch_1 : (Cond.fieldLink RX7 13 "PlankUnrollModel" "unrolled" "[Z") ∈ wsX7_stretch := List.mem_of_getElem? (i := 1) rfl
theorem hw_X7_stretch_2 : (Cond.fieldLink RX7 52 "PlankUnrollModel" "thrown" "I") ∈ wsX7_stretch := List.mem_of_getElem? (i := 2) rfl
theorem in_X7_stretch_X7 : ∀ w ∈ wsX70, w ∈ wsX7_stretch := by decide +kernel
set_option maxHeartbeats 4000000 in
set_option maxRecDepth 100000 in
/-- stretch -/
theorem c_X7_stretch {l : Launch} {G : va_G} {ty : Nat → ClassId} {b0 : Nat} {H : Heap} {x f : Int32} {m0 : Nat} {A : Nat → Nat} {th : Int32} {F R nb : Nat} {pl co dr wi hi fa : Nat → UInt64} {un bu fc lo la : Nat → Int32} {px py pz : UInt64} (hY : xRef G ty m0 A th F R pl un co dr bu nb wi hi fc fa lo la px py pz H) (hZ : xSz F R) (hA : xAp m0 A) (hB : xNw b0 m0 A) : xMet l yX7_stretch wsX7_stretch rm_X7_stretch G ty b0 [.ref m0, .int (x), .int (f)] H (fun v H1 => ∃ T : Int32, xRef G ty m0 A T F R pl un co dr bu nb wi hi fc fa lo la px py pz H1 ∧ xRfr m0 A H H1 ∧ ∃ z : UInt64, v = some (.double z) ∧ ((T = nI 0 ∧ (vp_in x (R - 1) ∧ vp_in f (F - 1)) ∧ ¬ un x.toNatClampNeg = 0 ∧ vq z (pOff co pl x.toNatClampNeg f.toNatClampNeg)) ∨ (T = nI 1 ∧ ¬ (vp_in x (R - 1) ∧ vp_in f (F - 1))) ∨ (T = nI 2 ∧ (vp_in x (R - 1) ∧ vp_in f (F - 1)) ∧ un x.toNatClampNeg = 0))) (fun _ _ => False) := by
  refine xbody (cc := cX7_stretch) (maxL := 3) (ret := (some .double)) (C := RX7) (lv := [(0, .ref m0), (1, .int (x)), (2, .int (f))]) (by decide) rfl rfl (Nat.le_of_ble_eq_true rfl) rfl ?_
  intro p e s m below meth c d0 hx hb hr hts hown hlocks hml hxt hnm0 hK hb0 hH0 hS hd0 ls hl
  obtain ⟨y_o, y_0, y_1, y_2, y_3, y_4, y_5, y_6, y_7, y_8, y_9, y_10⟩ := id hY
  obtain ⟨⟨zF2, zF8⟩, ⟨zR2, zR8⟩⟩ := id hZ
  refine lv_aload_n hx hb dX7_stretch_0 rfl (lv_at hl 0 rfl) ?_
  refine lv_aload_n hx hb dX7_stretch_1 rfl (lv_at hl 0 rfl) ?_
  refine lv_iload_n hx hb dX7_stretch_2 rfl (lv_at hl 1 rfl) ?_
  refine lv_iload_n hx hb dX7_stretch_3 rfl (lv_at hl 2 rfl) ?_
  have cw_1 := cwV (R := rm_X7_stretch) (rm := rm_X7_noCell) 2 (hts d0) gX7_stretch_X7_noCell rfl rfl rfl (by decide +kernel) ⟨Nat.le_of_ble_eq_true rfl, Nat.le_of_ble_eq_true rfl⟩
  refine xcall hd0 (xintoV (b := m0) (As := [.int (x), .int (f)]) (rest := [.ref m0]) ⟨hx, hb, hml, hown, hts _⟩ cw_1 (va_recv hK.1 (x1 y_o) (ci := 8) (q0 := 0) rfl rfl) rfl rfl hl.1 rfl (lv_room (Nat.le_of_ble_eq_true rfl)) dX7_stretch_4) (c_X7_noCell (l := l) (G := G) (ty := ty) (b0 := b0) (⟨y_o, y_0, y_1, y_2, y_3, y_4, y_5, y_6, y_7, y_8, y_9, y_10⟩ : xRef G ty m0 A (th) F R pl un co dr bu nb wi hi fc fa lo la px py pz H) hZ) (xoweB cw_1.1) hK hb0 hS (Nat.le_of_ble_eq_true rfl) (Nat.le_of_ble_eq_true rfl) (fun E_1 ce_1 q9_1 H_1 locs_1 d0 hd0 hp_1 hS hce_1 hcv_1 hcl_1 => ?_) (fun v_1 H_1 locs_1 d0 hd0 hp_1 hS => ?_)
  · exact hp_1.elim
  · obtain ⟨rfl, rfl⟩ := hp_1
    show W p l e _ (s.setDrawn _) m _ below meth c _ _ _ _ _ (F0 m 7 ls [.int (xP (¬ (vp_in x (R - 1) ∧ vp_in f (F - 1)))), .ref m0])
    refine lv_if_eq (tgt := 14) hx hb dX7_stretch_7 (by decide) (fun c_2 => ?_) (fun c_2 => ?_)
    · have z9 := Classical.not_not.mp (xP_eq.mp c_2)
      have z_x := z9.1
      have z_f := z9.2
      obtain ⟨x9, hx9, ex9⟩ := vp_in_of z_x (by omega)
      obtain ⟨f9, hf9, ef9⟩ := vp_in_of z_f (by omega)
      subst ex9 ef9
      refine lv_aload_n hx hb dX7_stretch_14 rfl (lv_at hl 0 rfl) ?_
      refine va_get (D := G) (cl := vwCl) (ci := 8) (v := .ref (A 1)) (C := RX7) (T := TX7) (N := 18) hx hb (hts d0) in_X7_stretch_X7 hown hK.1 (x1 y_o) 0 rfl rfl 4 (by decide) (hts d0 _ hw_X7_stretch_1) (fun _ h9 => h9) rfl dX7_stretch_15 ?_
      refine lv_iload_n hx hb dX7_stretch_18 rfl (lv_at hl 1 rfl) ?_
      refine xzald (j := x9) hx hb hK.1 2 y_1 rfl (xix_of (by omega) (by omega)) dX7_stretch_19 ?_
      refine lv_if_eq (tgt := 27) hx hb dX7_stretch_20 (by decide) (fun c_3 => ?_) (fun c_3 => ?_)
      · refine lv_iconst (v := nI 2) hx hb dX7_stretch_27 (by decide) ?_
        refine xput (G := G) (ci := 8) (v := .int (nI 2)) (ty := .int) (C := RX7) (T := TX7) (N := 18) hx hb (hts d0) in_X7_stretch_X7 tyX7 tyX7_ok nmX7 hown hK.1 y_o hS hB.1 rfl 0 (by decide) (hts d0 _ hw_X7_stretch_2) (fun _ h9 => h9) rfl (by decide +kernel) rfl rfl (Nat.le_of_ble_eq_true rfl) dX7_stretch_28 (fun H_4 locs_4 hs_4 hS => ?_)
        have hc_4 : xc G m0 (.inr (8, [.int (nI 2), .int (nI F), .int (nI R), .ref (A 0), .ref (A 1), .ref (A 2), .ref (A 3), .ref (A 4), .int (nI nb), .ref (A 5), .ref (A 6), .ref (A 7), .ref (A 8), .ref (A 9), .ref (A 10), .double px, .double py, .double pz])) H_4 := hs_4.1
        have hc_A0_4 : xc G (A 0) (.inl (ty 0, 192, .inr (.inr (.inr (.inl pl))))) H_4 := y_0.kept (hs_4.2.2 _ (hA.1 0 (by decide)))
        have hc_A1_4 : xc G (A 1) (.inl (ty 2, 8, .inl un)) H_4 := y_1.kept (hs_4.2.2 _ (hA.1 1 (by decide)))
        have hc_A2_4 : xc G (A 2) (.inl (ty 0, 256, .inr (.inr (.inr (.inl co))))) H_4 := y_2.kept (hs_4.2.2 _ (hA.1 2 (by decide)))
        have hc_A3_4 : xc G (A 3) (.inl (ty 0, 32, .inr (.inr (.inr (.inl dr))))) H_4 := y_3.kept (hs_4.2.2 _ (hA.1 3 (by decide)))
        have hc_A4_4 : xc G (A 4) (.inl (ty 2, 64, .inl bu)) H_4 := y_4.kept (hs_4.2.2 _ (hA.1 4 (by decide)))
        have hc_A5_4 : xc G (A 5) (.inl (ty 0, 4, .inr (.inr (.inr (.inl wi))))) H_4 := y_5.kept (hs_4.2.2 _ (hA.1 5 (by decide)))
        have hc_A6_4 : xc G (A 6) (.inl (ty 0, 4, .inr (.inr (.inr (.inl hi))))) H_4 := y_6.kept (hs_4.2.2 _ (hA.1 6 (by decide)))
        have hc_A7_4 : xc G (A 7) (.inl (ty 1, 4, .inl fc)) H_4 := y_7.kept (hs_4.2.2 _ (hA.1 7 (by decide)))
        have hc_A8_4 : xc G (A 8) (.inl (ty 0, 128, .inr (.inr (.inr (.inl fa))))) H_4 := y_8.kept (hs_4.2.2 _ (hA.1 8 (by decide)))
        have hc_A9_4 : xc G (A 9) (.inl (ty 1, 8, .inl lo)) H_4 := y_9.kept (hs_4.2.2 _ (hA.1 9 (by decide)))
        have hc_A10_4 : xc G (A 10) (.inl (ty 1, 8, .inl la)) H_4 := y_10.kept (hs_4.2.2 _ (hA.1 10 (by decide)))
        have hfr_4 : xRfr m0 A H H_4 := xRfr.put0 xRfr.rf hs_4
        refine lv_aload_n hx hb dX7_stretch_31 rfl (lv_at hl 0 rfl) ?_
        refine va_get (D := G) (cl := vwCl) (ci := 8) (v := .int (nI 2)) (C := RX7) (T := TX7) (N := 18) hx hb (hts d0) in_X7_stretch_X7 hown hK.1 (x1 hc_4) 0 rfl rfl 0 (by decide) (hts d0 _ hw_X7_stretch_2) (fun _ h9 => h9) rfl dX7_stretch_32 ?_
        refine lv_if_le (tgt := 42) hx hb dX7_stretch_35 (by decide) (fun h9 => absurd h9 (by decide)) (fun _ => ?_)
        refine lv_dconst0 hx hb dX7_stretch_38 ?_
        refine lv_goto (tgt := 48) hx hb dX7_stretch_39 (by decide) ?_
        exact xdret hd0 hx hb hr hlocks hS (Nat.le_of_ble_eq_true rfl) (Nat.le_of_ble_eq_true rfl) dX7_stretch_48 ⟨nI 2, ⟨hc_4, hc_A0_4, hc_A1_4, hc_A2_4, hc_A3_4, hc_A4_4, hc_A5_4, hc_A6_4, hc_A7_4, hc_A8_4, hc_A9_4, hc_A10_4⟩, hfr_4, _, rfl, Or.inr (Or.inr ⟨rfl, z9, by rw [nN_nI (by omega)]; exact c_3⟩)⟩
      · refine lv_iconst (v := nI 0) hx hb dX7_stretch_23 (by decide) ?_
        refine lv_goto (tgt := 28) hx hb dX7_stretch_24 (by decide) ?_
        refine xput (G := G) (ci := 8) (v := .int (nI 0)) (ty := .int) (C := RX7) (T := TX7) (N := 18) hx hb (hts d0) in_X7_stretch_X7 tyX7 tyX7_ok nmX7 hown hK.1 y_o hS hB.1 rfl 0 (by decide) (hts d0 _ hw_X7_stretch_2) (fun _ h9 => h9) rfl (by decide +kernel) rfl rfl (Nat.le_of_ble_eq_true rfl) dX7_stretch_28 (fun H_6 locs_6 hs_6 hS => ?_)
        have hc_6 : xc G m0 (.inr (8, [.int (nI 0), .int (nI F), .int (nI R), .ref (A 0), .ref (A 1), .ref (A 2), .ref (A 3), .ref (A 4), .int (nI nb), .ref (A 5), .ref (A 6), .ref (A 7), .ref (A 8), .ref (A 9), .ref (A 10), .double px, .double py, .double pz])) H_6 := hs_6.1
        have hc_A0_6 : xc G (A 0) (.inl (ty 0, 192, .inr (.inr (.inr (.inl pl))))) H_6 := y_0.kept (hs_6.2.2 _ (hA.1 0 (by decide)))
        have hc_A1_6 : xc G (A 1) (.inl (ty 2, 8, .inl un)) H_6 := y_1.kept (hs_6.2.2 _ (hA.1 1 (by decide)))
        have hc_A2_6 : xc G (A 2) (.inl (ty 0, 256, .inr (.inr (.inr (.inl co))))) H_6 := y_2.kept (hs_6.2.2 _ (hA.1 2 (by decide)))
        have hc_A3_6 : xc G (A 3) (.inl (ty 0, 32, .inr (.inr (.inr (.inl dr))))) H_6 := y_3.kept (hs_6.2.2 _ (hA.1 3 (by decide)))
        have hc_A4_6 : xc G (A 4) (.inl (ty 2, 64, .inl bu)) H_6 := y_4.kept (hs_6.2.2 _ (hA.1 4 (by decide)))
        have hc_A5_6 : xc G (A 5) (.inl (ty 0, 4, .inr (.inr (.inr (.inl wi))))) H_6 := y_5.kept (hs_6.2.2 _ (hA.1 5 (by decide)))
        have hc_A6_6 : xc G (A 6) (.inl (ty 0, 4, .inr (.inr (.inr (.inl hi))))) H_6 := y_6.kept (hs_6.2.2 _ (hA.1 6 (by decide)))
        have hc_A7_6 : xc G (A 7) (.inl (ty 1, 4, .inl fc)) H_6 := y_7.kept (hs_6.2.2 _ (hA.1 7 (by decide)))
        have hc_A8_6 : xc G (A 8) (.inl (ty 0, 128, .inr (.inr (.inr (.inl fa))))) H_6 := y_8.kept (hs_6.2.2 _ (hA.1 8 (by decide)))
        have hc_A9_6 : xc G (A 9) (.inl (ty 1, 8, .inl lo)) H_6 := y_9.kept (hs_6.2.2 _ (hA.1 9 (by decide)))
        have hc_A10_6 : xc G (A 10) (.inl (ty 1, 8, .inl la)) H_6 := y_10.kept (hs_6.2.2 _ (hA.1 10 (by decide)))
        have hfr_6 : xRfr m0 A H H_6 := xRfr.put0 xRfr.rf hs_6
        refine lv_aload_n hx hb dX7_stretch_31 rfl (lv_at hl 0 rfl) ?_
        refine va_get (D := G) (cl := vwCl) (ci := 8) (v := .int (nI 0)) (C := RX7) (T := TX7) (N := 18) hx hb (hts d0) in_X7_stretch_X7 hown hK.1 (x1 hc_6) 0 rfl rfl 0 (by decide) (hts d0 _ hw_X7_stretch_2) (fun _ h9 => h9) rfl dX7_stretch_32 ?_
        refine lv_if_le (tgt := 42) hx hb dX7_stretch_35 (by decide) (fun _ => ?_) (fun h9 => absurd (by decide) h9)
        refine lv_aload_n hx hb dX7_stretch_42 rfl (lv_at hl 0 rfl) ?_
        refine lv_iload_n hx hb dX7_stretch_43 rfl (lv_at hl 1 rfl) ?_
        refine lv_iload_n hx hb dX7_stretch_44 rfl (lv_at hl 2 rfl) ?_
        have cw_8 := cwV (R := rm_X7_stretch) (rm := rm_X7_off) 2 (hts d0) gX7_stretch_X7_off rfl rfl rfl (by decide +kernel) ⟨Nat.le_of_ble_eq_true rfl, Nat.le_of_ble_eq_true rfl⟩
        refine xcall hd0 (xintoV (b := m0) (As := [.int (nI x9), .int (nI f9)]) (rest := []) ⟨hx, hb, hml, hown, hts _⟩ cw_8 (va_recv hK.1 (x1 hc_6) (ci := 8) (q0 := 0) rfl rfl) rfl rfl hl.1 rfl (lv_room (Nat.le_of_ble_eq_true rfl)) dX7_stretch_45) (c_X7_off (l := l) (G := G) (ty := ty) (b0 := b0) (⟨hc_6, hc_A0_6, hc_A1_6, hc_A2_6, hc_A3_6, hc_A4_6, hc_A5_6, hc_A6_6, hc_A7_6, hc_A8_6, hc_A9_6, hc_A10_6⟩ : xRef G ty m0 A (nI 0) F R pl un co dr bu nb wi hi fc fa lo la px py pz H_6) hZ (x := x9) (f := f9) (by omega) (by omega)) (xoweB cw_8.1) hK hb0 hS (Nat.le_of_ble_eq_true rfl) (Nat.le_of_ble_eq_true rfl) (fun E_8 ce_8 q9_8 H_8 locs_8 d0 hd0 hp_8 hS hce_8 hcv_8 hcl_8 => ?_) (fun v_8 H_8 locs_8 d0 hd0 hp_8 hS => ?_)
        · exact hp_8.elim
        · obtain ⟨rfl, r_8, rfl, q_8⟩ := hp_8
          show W p l e _ (s.setDrawn _) m _ below meth c _ _ _ _ _ (F0 m 48 ls [.double r_8])
          exact xdret hd0 hx hb hr hlocks hS (Nat.le_of_ble_eq_true rfl) (Nat.le_of_ble_eq_true rfl) dX7_stretch_48 ⟨nI 0, ⟨hc_6, hc_A0_6, hc_A1_6, hc_A2_6, hc_A3_6, hc_A4_6, hc_A5_6, hc_A6_6, hc_A7_6, hc_A8_6, hc_A9_6, hc_A10_6⟩, hfr_6, _, rfl, Or.inl ⟨rfl, z9, by rw [nN_nI (by omega)]; exact c_3, by rw [nN_nI (by omega), nN_nI (by omega)]; exact q_8⟩⟩
    · refine lv_iconst (v := nI 1) hx hb dX7_stretch_10 (by decide) ?_
      refine lv_goto (tgt := 28) hx hb dX7_stretch_11 (by decide) ?_
      refine xput (G := G) (ci := 8) (v := .int (nI 1)) (ty := .int) (C := RX7) (T := TX7) (N := 18) hx hb (hts d0) in_X7_stretch_X7 tyX7 tyX7_ok nmX7 hown hK.1 y_o hS hB.1 rfl 0 (by decide) (hts d0 _ hw_X7_stretch_2) (fun _ h9 => h9) rfl (by decide +kernel) rfl rfl (Nat.le_of_ble_eq_true rfl) dX7_stretch_28 (fun H_9 locs_9 hs_9 hS => ?_)
      have hc_9 : xc G m0 (.inr (8, [.int (nI 1), .int (nI F), .int (nI R), .ref (A 0), .ref (A 1), .ref (A 2), .ref (A 3), .ref (A 4), .int (nI nb), .ref (A 5), .ref (A 6), .ref (A 7), .ref (A 8), .ref (A 9), .ref (A 10), .double px, .double py, .double pz])) H_9 := hs_9.1
      have hc_A0_9 : xc G (A 0) (.inl (ty 0, 192, .inr (.inr (.inr (.inl pl))))) H_9 := y_0.kept (hs_9.2.2 _ (hA.1 0 (by decide)))
      have hc_A1_9 : xc G (A 1) (.inl (ty 2, 8, .inl un)) H_9 := y_1.kept (hs_9.2.2 _ (hA.1 1 (by decide)))
      have hc_A2_9 : xc G (A 2) (.inl (ty 0, 256, .inr (.inr (.inr (.inl co))))) H_9 := y_2.kept (hs_9.2.2 _ (hA.1 2 (by decide)))
      have hc_A3_9 : xc G (A 3) (.inl (ty 0, 32, .inr (.inr (.inr (.inl dr))))) H_9 := y_3.kept (hs_9.2.2 _ (hA.1 3 (by decide)))
      have hc_A4_9 : xc G (A 4) (.inl (ty 2, 64, .inl bu)) H_9 := y_4.kept (hs_9.2.2 _ (hA.1 4 (by decide)))
      have hc_A5_9 : xc G (A 5) (.inl (ty 0, 4, .inr (.inr (.inr (.inl wi))))) H_9 := y_5.kept (hs_9.2.2 _ (hA.1 5 (by decide)))
      have hc_A6_9 : xc G (A 6) (.inl (ty 0, 4, .inr (.inr (.inr (.inl hi))))) H_9 := y_6.kept (hs_9.2.2 _ (hA.1 6 (by decide)))
      have hc_A7_9 : xc G (A 7) (.inl (ty 1, 4, .inl fc)) H_9 := y_7.kept (hs_9.2.2 _ (hA.1 7 (by decide)))
      have hc_A8_9 : xc G (A 8) (.inl (ty 0, 128, .inr (.inr (.inr (.inl fa))))) H_9 := y_8.kept (hs_9.2.2 _ (hA.1 8 (by decide)))
      have hc_A9_9 : xc G (A 9) (.inl (ty 1, 8, .inl lo)) H_9 := y_9.kept (hs_9.2.2 _ (hA.1 9 (by decide)))
      have hc_A10_9 : xc G (A 10) (.inl (ty 1, 8, .inl la)) H_9 := y_10.kept (hs_9.2.2 _ (hA.1 10 (by decide)))
      have hfr_9 : xRfr m0 A H H_9 := xRfr.put0 xRfr.rf hs_9
      refine lv_aload_n hx hb dX7_stretch_31 rfl (lv_at hl 0 rfl) ?_
      refine va_get (D := G) (cl := vwCl) (ci := 8) (v := .int (nI 1)) (C := RX7) (T := TX7) (N := 18) hx hb (hts d0) in_X7_stretch_X7 hown hK.1 (x1 hc_9) 0 rfl rfl 0 (by decide) (hts d0 _ hw_X7_stretch_2) (fun _ h9 => h9) rfl dX7_stretch_32 ?_
      refine lv_if_le (tgt := 42) hx hb dX7_stretch_35 (by decide) (fun h9 => absurd h9 (by decide)) (fun _ => ?_)
      refine lv_dconst0 hx hb dX7_stretch_38 ?_
      refine lv_goto (tgt := 48) hx hb dX7_stretch_39 (by decide) ?_
      exact xdret hd0 hx hb hr hlocks hS (Nat.le_of_ble_eq_true rfl) (Nat.le_of_ble_eq_true rfl) dX7_stretch_48 ⟨nI 1, ⟨hc_9, hc_A0_9, hc_A1_9, hc_A2_9, hc_A3_9, hc_A4_9, hc_A5_9, hc_A6_9, hc_A7_9, hc_A8_9, hc_A9_9, hc_A10_9⟩, hfr_9, _, rfl, Or.inr (Or.inl ⟨rfl, xP_ne.mp c_2⟩)⟩
set_option maxRecDepth 20000 in
theorem ggX7_width_X7_noStrip : GoodIn wsX7_width wsX7_noStrip := goodIn_r _ [7, 8, 22, 23, 24, 25, 26, 27, 28, 29, 30, 31, 32, 33, 34, 35, 36, 37, 38, 39] (by decide +kernel) (by decide +kernel)
set_option maxRecDepth 20000 in
theorem gX7_width_X7_noStrip : GoodIn wsX7_width (wsV RX7 87 RX7 yX7_noStrip wsX7_noStrip) := goodIn_app (goodIn_of _ (by decide +kernel)) ggX7_width_X7_noStrip
set_option maxRecDepth 20000 in
theorem ggX7_width_X7_far : GoodIn wsX7_width wsX7_far := goodIn_r _ [12, 13, 14, 15, 6, 16, 17, 18, 19, 20, 21, 22, 23, 24, 25, 26, 27, 28, 29, 30, 31, 32, 33, 34, 35, 36, 37, 38, 39] (by decide +kernel) (by decide +kernel)
set_option maxRecDepth 20000 in
theorem gX7_width_X7_far : GoodIn wsX7_width (wsV RX7 77 RX7 yX7_far wsX7_far) := goodIn_app (goodIn_of _ (by decide +kernel)) ggX7_width_X7_far
theorem dX7_width_0 : decode cX7_width 0 = .ok (.aload_n 0, 1) := by decide +kernel
theorem dX7_width_1 : decode cX7_width 1 = .ok (.aload_n 0, 1) := by decide +kernel
theorem dX7_width_2 : decode cX7_width 2 = .ok (.iload_n 1, 1) := by decide +kernel
theorem dX7_width_3 : decode cX7_width 3 = .ok (.invokevirtual 87, 3) := by decide +kernel
theorem dX7_width_6 : decode cX7_width 6 = .ok (.ifCond .ne 15, 3) := by decide +kernel
theorem dX7_width_9 : decode cX7_width 9 = .ok (.iload_n 2, 1) := by decide +kernel
theorem dX7_width_10 : decode cX7_width 10 = .ok (.ifCond .lt 11, 3) := by decide +kernel
theorem dX7_width_13 : decode cX7_width 13 = .ok (.iload_n 2, 1) := by decide +kernel
theorem dX7_width_14 : decode cX7_width 14 = .ok (.aload_n 0, 1) := by decide +kernel
theorem dX7_width_15 : decode cX7_width 15 = .ok (.getfield 45, 3) := by decide +kernel
theorem dX7_width_18 : decode cX7_width 18 = .ok (.if_icmp .lt 7, 3) := by decide +kernel
theorem dX7_width_21 : decode cX7_width 21 = .ok (.iconst 1, 1) := by decide +kernel
theorem dX7_width_22 : decode cX7_width 22 = .ok (.goto 4, 3) := by decide +kernel
theorem dX7_width_25 : decode cX7_width 25 = .ok (.iconst 0, 1) := by decide +kernel
theorem dX7_width_26 : decode cX7_width 26 = .ok (.putfield 52, 3) := by decide +kernel
theorem dX7_width_29 : decode cX7_width 29 = .ok (.aload_n 0, 1) := by decide +kernel
theorem dX7_width_30 : decode cX7_width 30 = .ok (.getfield 52, 3) := by decide +kernel
theorem dX7_width_33 : decode cX7_width 33 = .ok (.ifCond .le 7, 3) := by decide +kernel
theorem dX7_width_36 : decode cX7_width 36 = .ok (.dconst 0, 1) := by decide +kernel
theorem dX7_width_37 : decode cX7_width 37 = .ok (.goto 13, 3) := by decide +kernel
theorem dX7_width_40 : decode cX7_width 40 = .ok (.aload_n 0, 1) := by decide +kernel
theorem dX7_width_41 : decode cX7_width 41 = .ok (.iload_n 2, 1) := by decide +kernel
theorem dX7_width_42 : decode cX7_width 42 = .ok (.iload_n 1, 1) := by decide +kernel
theorem dX7_width_43 : decode cX7_width 43 = .ok (.iload_n 2, 1) := by decide +kernel
theorem dX7_width_44 : decode cX7_width 44 = .ok (.iload_n 1, 1) := by decide +kernel
theorem dX7_width_45 : decode cX7_width 45 = .ok (.iconst 1, 1) := by decide +kernel
theorem dX7_width_46 : decode cX7_width 46 = .ok (.iadd, 1) := by decide +kernel
theorem dX7_width_47 : decode cX7_width 47 = .ok (.invokevirtual 77, 3) := by decide +kernel
theorem dX7_width_50 : decode cX7_width 50 = .ok (.dreturn, 1) := by decide +kernel
abbrev rm_X7_width : Room := { frames := 7, cells := 0, slots := 0, locals := 140 }
theorem hw_X7_width_1 : (Cond.fieldLink RX7 45 "PlankUnrollModel" "frames" "I") ∈ wsX7_width := List.mem_of_getElem? (i := 1) rfl
theorem hw_X7_width_2 : (Cond.fieldLink RX7 52 "PlankUnrollModel" "thrown" "I") ∈ wsX7_width := List.mem_of_getElem? (i := 2) rfl
theorem in_X7_width_X7 : ∀ w ∈ wsX70, w ∈ wsX7_width := by decide +kernel
set_option maxHeartbeats 4000000 in
set_option maxRecDepth 100000 in
/-- width -/
theorem c_X7_width {l : Launch} {G : va_G} {ty : Nat → ClassId} {b0 : Nat} {H : Heap} {x f : Int32} {m0 : Nat} {A : Nat → Nat} {th : Int32} {F R nb : Nat} {pl co dr wi hi fa : Nat → UInt64} {un bu fc lo la : Nat → Int32} {px py pz : UInt64} (hY : xRef G ty m0 A th F R pl un co dr bu nb wi hi fc fa lo la px py pz H) (hZ : xSz F R) (hA : xAp m0 A) (hB : xNw b0 m0 A) : xMet l yX7_width wsX7_width rm_X7_width G ty b0 [.ref m0, .int (x), .int (f)] H (fun v H1 => ∃ T : Int32, xRef G ty m0 A T F R pl un co dr bu nb wi hi fc fa lo la px py pz H1 ∧ xRfr m0 A H H1 ∧ ∃ z : UInt64, v = some (.double z) ∧ ((T = nI 0 ∧ (vp_in x (R - 1) ∧ vp_in f F) ∧ vq z (pFar pl f.toNatClampNeg x.toNatClampNeg f.toNatClampNeg (x.toNatClampNeg + 1))) ∨ (T = nI 1 ∧ ¬ (vp_in x (R - 1) ∧ vp_in f F)))) (fun _ _ => False) := by
  refine xbody (cc := cX7_width) (maxL := 3) (ret := (some .double)) (C := RX7) (lv := [(0, .ref m0), (1, .int (x)), (2, .int (f))]) (by decide) rfl rfl (Nat.le_of_ble_eq_true rfl) rfl ?_
  intro p e s m below meth c d0 hx hb hr hts hown hlocks hml hxt hnm0 hK hb0 hH0 hS hd0 ls hl
  obtain ⟨y_o, y_0, y_1, y_2, y_3, y_4, y_5, y_6, y_7, y_8, y_9, y_10⟩ := id hY
  obtain ⟨⟨zF2, zF8⟩, ⟨zR2, zR8⟩⟩ := id hZ
  refine lv_aload_n hx hb dX7_width_0 rfl (lv_at hl 0 rfl) ?_
  refine lv_aload_n hx hb dX7_width_1 rfl (lv_at hl 0 rfl) ?_
  refine lv_iload_n hx hb dX7_width_2 rfl (lv_at hl 1 rfl) ?_
  have cw_1 := cwV (R := rm_X7_width) (rm := rm_X7_noStrip) 1 (hts d0) gX7_width_X7_noStrip rfl rfl rfl (by decide +kernel) ⟨Nat.le_of_ble_eq_true rfl, Nat.le_of_ble_eq_true rfl⟩
  refine xcall hd0 (xintoV (b := m0) (As := [.int (x)]) (rest := [.ref m0]) ⟨hx, hb, hml, hown, hts _⟩ cw_1 (va_recv hK.1 (x1 y_o) (ci := 8) (q0 := 0) rfl rfl) rfl rfl hl.1 rfl (lv_room (Nat.le_of_ble_eq_true rfl)) dX7_width_3) (c_X7_noStrip (l := l) (G := G) (ty := ty) (b0 := b0) (⟨y_o, y_0, y_1, y_2, y_3, y_4, y_5, y_6, y_7, y_8, y_9, y_10⟩ : xRef G ty m0 A (th) F R pl un co dr bu nb wi hi fc fa lo la px py pz H) hZ) (xoweB cw_1.1) hK hb0 hS (Nat.le_of_ble_eq_true rfl) (Nat.le_of_ble_eq_true rfl) (fun E_1 ce_1 q9_1 H_1 locs_1 d0 hd0 hp_1 hS hce_1 hcv_1 hcl_1 => ?_) (fun v_1 H_1 locs_1 d0 hd0 hp_1 hS => ?_)
  · exact hp_1.elim
  · obtain ⟨rfl, rfl⟩ := hp_1
    show W p l e _ (s.setDrawn _) m _ below meth c _ _ _ _ _ (F0 m 6 ls [.int (xP (¬ vp_in x (R - 1))), .ref m0])
    refine lv_if_ne (tgt := 21) hx hb dX7_width_6 (by decide) (fun c_2 => ?_) (fun c_2 => ?_)
    · refine lv_iconst (v := nI 1) hx hb dX7_width_21 (by decide) ?_
      refine lv_goto (tgt := 26) hx hb dX7_width_22 (by decide) ?_
      refine xput (G := G) (ci := 8) (v := .int (nI 1)) (ty := .int) (C := RX7) (T := TX7) (N := 18) hx hb (hts d0) in_X7_width_X7 tyX7 tyX7_ok nmX7 hown hK.1 y_o hS hB.1 rfl 0 (by decide) (hts d0 _ hw_X7_width_2) (fun _ h9 => h9) rfl (by decide +kernel) rfl rfl (Nat.le_of_ble_eq_true rfl) dX7_width_26 (fun H_3 locs_3 hs_3 hS => ?_)
      have hc_3 : xc G m0 (.inr (8, [.int (nI 1), .int (nI F), .int (nI R), .ref (A 0), .ref (A 1), .ref (A 2), .ref (A 3), .ref (A 4), .int (nI nb), .ref (A 5), .ref (A 6), .ref (A 7), .ref (A 8), .ref (A 9), .ref (A 10), .double px, .double py, .double pz])) H_3 := hs_3.1
      have hc_A0_3 : xc G (A 0) (.inl (ty 0, 192, .inr (.inr (.inr (.inl pl))))) H_3 := y_0.kept (hs_3.2.2 _ (hA.1 0 (by decide)))
      have hc_A1_3 : xc G (A 1) (.inl (ty 2, 8, .inl un)) H_3 := y_1.kept (hs_3.2.2 _ (hA.1 1 (by decide)))
      have hc_A2_3 : xc G (A 2) (.inl (ty 0, 256, .inr (.inr (.inr (.inl co))))) H_3 := y_2.kept (hs_3.2.2 _ (hA.1 2 (by decide)))
      have hc_A3_3 : xc G (A 3) (.inl (ty 0, 32, .inr (.inr (.inr (.inl dr))))) H_3 := y_3.kept (hs_3.2.2 _ (hA.1 3 (by decide)))
      have hc_A4_3 : xc G (A 4) (.inl (ty 2, 64, .inl bu)) H_3 := y_4.kept (hs_3.2.2 _ (hA.1 4 (by decide)))
      have hc_A5_3 : xc G (A 5) (.inl (ty 0, 4, .inr (.inr (.inr (.inl wi))))) H_3 := y_5.kept (hs_3.2.2 _ (hA.1 5 (by decide)))
      have hc_A6_3 : xc G (A 6) (.inl (ty 0, 4, .inr (.inr (.inr (.inl hi))))) H_3 := y_6.kept (hs_3.2.2 _ (hA.1 6 (by decide)))
      have hc_A7_3 : xc G (A 7) (.inl (ty 1, 4, .inl fc)) H_3 := y_7.kept (hs_3.2.2 _ (hA.1 7 (by decide)))
      have hc_A8_3 : xc G (A 8) (.inl (ty 0, 128, .inr (.inr (.inr (.inl fa))))) H_3 := y_8.kept (hs_3.2.2 _ (hA.1 8 (by decide)))
      have hc_A9_3 : xc G (A 9) (.inl (ty 1, 8, .inl lo)) H_3 := y_9.kept (hs_3.2.2 _ (hA.1 9 (by decide)))
      have hc_A10_3 : xc G (A 10) (.inl (ty 1, 8, .inl la)) H_3 := y_10.kept (hs_3.2.2 _ (hA.1 10 (by decide)))
      have hfr_3 : xRfr m0 A H H_3 := xRfr.put0 xRfr.rf hs_3
      refine lv_aload_n hx hb dX7_width_29 rfl (lv_at hl 0 rfl) ?_
      refine va_get (D := G) (cl := vwCl) (ci := 8) (v := .int (nI 1)) (C := RX7) (T := TX7) (N := 18) hx hb (hts d0) in_X7_width_X7 hown hK.1 (x1 hc_3) 0 rfl rfl 0 (by decide) (hts d0 _ hw_X7_width_2) (fun _ h9 => h9) rfl dX7_width_30 ?_
      refine lv_if_le (tgt := 40) hx hb dX7_width_33 (by decide) (fun h9 => absurd h9 (by decide)) (fun _ => ?_)
      refine lv_dconst0 hx hb dX7_width_36 ?_
      refine lv_goto (tgt := 50) hx hb dX7_width_37 (by decide) ?_
      exact xdret hd0 hx hb hr hlocks hS (Nat.le_of_ble_eq_true rfl) (Nat.le_of_ble_eq_true rfl) dX7_width_50 ⟨nI 1, ⟨hc_3, hc_A0_3, hc_A1_3, hc_A2_3, hc_A3_3, hc_A4_3, hc_A5_3, hc_A6_3, hc_A7_3, hc_A8_3, hc_A9_3, hc_A10_3⟩, hfr_3, _, rfl, Or.inr ⟨rfl, fun z => xP_ne.mp c_2 z.1⟩⟩
    · refine lv_iload_n hx hb dX7_width_9 rfl (lv_at hl 2 rfl) ?_
      refine lv_if_lt (tgt := 21) hx hb dX7_width_10 (by decide) (fun c_5 => ?_) (fun c_5 => ?_)
      · refine lv_iconst (v := nI 1) hx hb dX7_width_21 (by decide) ?_
        refine lv_goto (tgt := 26) hx hb dX7_width_22 (by decide) ?_
        refine xput (G := G) (ci := 8) (v := .int (nI 1)) (ty := .int) (C := RX7) (T := TX7) (N := 18) hx hb (hts d0) in_X7_width_X7 tyX7 tyX7_ok nmX7 hown hK.1 y_o hS hB.1 rfl 0 (by decide) (hts d0 _ hw_X7_width_2) (fun _ h9 => h9) rfl (by decide +kernel) rfl rfl (Nat.le_of_ble_eq_true rfl) dX7_width_26 (fun H_6 locs_6 hs_6 hS => ?_)
        have hc_6 : xc G m0 (.inr (8, [.int (nI 1), .int (nI F), .int (nI R), .ref (A 0), .ref (A 1), .ref (A 2), .ref (A 3), .ref (A 4), .int (nI nb), .ref (A 5), .ref (A 6), .ref (A 7), .ref (A 8), .ref (A 9), .ref (A 10), .double px, .double py, .double pz])) H_6 := hs_6.1
        have hc_A0_6 : xc G (A 0) (.inl (ty 0, 192, .inr (.inr (.inr (.inl pl))))) H_6 := y_0.kept (hs_6.2.2 _ (hA.1 0 (by decide)))
        have hc_A1_6 : xc G (A 1) (.inl (ty 2, 8, .inl un)) H_6 := y_1.kept (hs_6.2.2 _ (hA.1 1 (by decide)))
        have hc_A2_6 : xc G (A 2) (.inl (ty 0, 256, .inr (.inr (.inr (.inl co))))) H_6 := y_2.kept (hs_6.2.2 _ (hA.1 2 (by decide)))
        have hc_A3_6 : xc G (A 3) (.inl (ty 0, 32, .inr (.inr (.inr (.inl dr))))) H_6 := y_3.kept (hs_6.2.2 _ (hA.1 3 (by decide)))
        have hc_A4_6 : xc G (A 4) (.inl (ty 2, 64, .inl bu)) H_6 := y_4.kept (hs_6.2.2 _ (hA.1 4 (by decide)))
        have hc_A5_6 : xc G (A 5) (.inl (ty 0, 4, .inr (.inr (.inr (.inl wi))))) H_6 := y_5.kept (hs_6.2.2 _ (hA.1 5 (by decide)))
        have hc_A6_6 : xc G (A 6) (.inl (ty 0, 4, .inr (.inr (.inr (.inl hi))))) H_6 := y_6.kept (hs_6.2.2 _ (hA.1 6 (by decide)))
        have hc_A7_6 : xc G (A 7) (.inl (ty 1, 4, .inl fc)) H_6 := y_7.kept (hs_6.2.2 _ (hA.1 7 (by decide)))
        have hc_A8_6 : xc G (A 8) (.inl (ty 0, 128, .inr (.inr (.inr (.inl fa))))) H_6 := y_8.kept (hs_6.2.2 _ (hA.1 8 (by decide)))
        have hc_A9_6 : xc G (A 9) (.inl (ty 1, 8, .inl lo)) H_6 := y_9.kept (hs_6.2.2 _ (hA.1 9 (by decide)))
        have hc_A10_6 : xc G (A 10) (.inl (ty 1, 8, .inl la)) H_6 := y_10.kept (hs_6.2.2 _ (hA.1 10 (by decide)))
        have hfr_6 : xRfr m0 A H H_6 := xRfr.put0 xRfr.rf hs_6
        refine lv_aload_n hx hb dX7_width_29 rfl (lv_at hl 0 rfl) ?_
        refine va_get (D := G) (cl := vwCl) (ci := 8) (v := .int (nI 1)) (C := RX7) (T := TX7) (N := 18) hx hb (hts d0) in_X7_width_X7 hown hK.1 (x1 hc_6) 0 rfl rfl 0 (by decide) (hts d0 _ hw_X7_width_2) (fun _ h9 => h9) rfl dX7_width_30 ?_
        refine lv_if_le (tgt := 40) hx hb dX7_width_33 (by decide) (fun h9 => absurd h9 (by decide)) (fun _ => ?_)
        refine lv_dconst0 hx hb dX7_width_36 ?_
        refine lv_goto (tgt := 50) hx hb dX7_width_37 (by decide) ?_
        exact xdret hd0 hx hb hr hlocks hS (Nat.le_of_ble_eq_true rfl) (Nat.le_of_ble_eq_true rfl) dX7_width_50 ⟨nI 1, ⟨hc_6, hc_A0_6, hc_A1_6, hc_A2_6, hc_A3_6, hc_A4_6, hc_A5_6, hc_A6_6, hc_A7_6, hc_A8_6, hc_A9_6, hc_A10_6⟩, hfr_6, _, rfl, Or.inr ⟨rfl, fun z => xin_no0 c_5 z.2⟩⟩
      · refine lv_iload_n hx hb dX7_width_13 rfl (lv_at hl 2 rfl) ?_
        refine lv_aload_n hx hb dX7_width_14 rfl (lv_at hl 0 rfl) ?_
        refine va_get (D := G) (cl := vwCl) (ci := 8) (v := .int (nI F)) (C := RX7) (T := TX7) (N := 18) hx hb (hts d0) in_X7_width_X7 hown hK.1 (x1 y_o) 0 rfl rfl 1 (by decide) (hts d0 _ hw_X7_width_1) (fun _ h9 => h9) rfl dX7_width_15 ?_
        refine lv_icmp_lt (tgt := 25) hx hb dX7_width_18 (by decide) (fun c_8 => ?_) (fun c_8 => ?_)
        · have z9 : vp_in x (R - 1) ∧ vp_in f F := ⟨Classical.not_not.mp (xP_eq.mp c_2), xin_lt c_5 c_8 (by omega)⟩
          have z_x := z9.1
          have z_f := z9.2
          obtain ⟨x9, hx9, ex9⟩ := vp_in_of z_x (by omega)
          obtain ⟨f9, hf9, ef9⟩ := vp_in_of z_f (by omega)
          subst ex9 ef9
          refine lv_iconst (v := nI 0) hx hb dX7_width_25 (by decide) ?_
          refine xput (G := G) (ci := 8) (v := .int (nI 0)) (ty := .int) (C := RX7) (T := TX7) (N := 18) hx hb (hts d0) in_X7_width_X7 tyX7 tyX7_ok nmX7 hown hK.1 y_o hS hB.1 rfl 0 (by decide) (hts d0 _ hw_X7_width_2) (fun _ h9 => h9) rfl (by decide +kernel) rfl rfl (Nat.le_of_ble_eq_true rfl) dX7_width_26 (fun H_9 locs_9 hs_9 hS => ?_)
          have hc_9 : xc G m0 (.inr (8, [.int (nI 0), .int (nI F), .int (nI R), .ref (A 0), .ref (A 1), .ref (A 2), .ref (A 3), .ref (A 4), .int (nI nb), .ref (A 5), .ref (A 6), .ref (A 7), .ref (A 8), .ref (A 9), .ref (A 10), .double px, .double py, .double pz])) H_9 := hs_9.1
          have hc_A0_9 : xc G (A 0) (.inl (ty 0, 192, .inr (.inr (.inr (.inl pl))))) H_9 := y_0.kept (hs_9.2.2 _ (hA.1 0 (by decide)))
          have hc_A1_9 : xc G (A 1) (.inl (ty 2, 8, .inl un)) H_9 := y_1.kept (hs_9.2.2 _ (hA.1 1 (by decide)))
          have hc_A2_9 : xc G (A 2) (.inl (ty 0, 256, .inr (.inr (.inr (.inl co))))) H_9 := y_2.kept (hs_9.2.2 _ (hA.1 2 (by decide)))
          have hc_A3_9 : xc G (A 3) (.inl (ty 0, 32, .inr (.inr (.inr (.inl dr))))) H_9 := y_3.kept (hs_9.2.2 _ (hA.1 3 (by decide)))
          have hc_A4_9 : xc G (A 4) (.inl (ty 2, 64, .inl bu)) H_9 := y_4.kept (hs_9.2.2 _ (hA.1 4 (by decide)))
          have hc_A5_9 : xc G (A 5) (.inl (ty 0, 4, .inr (.inr (.inr (.inl wi))))) H_9 := y_5.kept (hs_9.2.2 _ (hA.1 5 (by decide)))
          have hc_A6_9 : xc G (A 6) (.inl (ty 0, 4, .inr (.inr (.inr (.inl hi))))) H_9 := y_6.kept (hs_9.2.2 _ (hA.1 6 (by decide)))
          have hc_A7_9 : xc G (A 7) (.inl (ty 1, 4, .inl fc)) H_9 := y_7.kept (hs_9.2.2 _ (hA.1 7 (by decide)))
          have hc_A8_9 : xc G (A 8) (.inl (ty 0, 128, .inr (.inr (.inr (.inl fa))))) H_9 := y_8.kept (hs_9.2.2 _ (hA.1 8 (by decide)))
          have hc_A9_9 : xc G (A 9) (.inl (ty 1, 8, .inl lo)) H_9 := y_9.kept (hs_9.2.2 _ (hA.1 9 (by decide)))
          have hc_A10_9 : xc G (A 10) (.inl (ty 1, 8, .inl la)) H_9 := y_10.kept (hs_9.2.2 _ (hA.1 10 (by decide)))
          have hfr_9 : xRfr m0 A H H_9 := xRfr.put0 xRfr.rf hs_9
          refine lv_aload_n hx hb dX7_width_29 rfl (lv_at hl 0 rfl) ?_
          refine va_get (D := G) (cl := vwCl) (ci := 8) (v := .int (nI 0)) (C := RX7) (T := TX7) (N := 18) hx hb (hts d0) in_X7_width_X7 hown hK.1 (x1 hc_9) 0 rfl rfl 0 (by decide) (hts d0 _ hw_X7_width_2) (fun _ h9 => h9) rfl dX7_width_30 ?_
          refine lv_if_le (tgt := 40) hx hb dX7_width_33 (by decide) (fun _ => ?_) (fun h9 => absurd (by decide) h9)
          refine lv_aload_n hx hb dX7_width_40 rfl (lv_at hl 0 rfl) ?_
          refine lv_iload_n hx hb dX7_width_41 rfl (lv_at hl 2 rfl) ?_
          refine lv_iload_n hx hb dX7_width_42 rfl (lv_at hl 1 rfl) ?_
          refine lv_iload_n hx hb dX7_width_43 rfl (lv_at hl 2 rfl) ?_
          refine lv_iload_n hx hb dX7_width_44 rfl (lv_at hl 1 rfl) ?_
          refine lv_iconst (v := nI 1) hx hb dX7_width_45 (by decide) ?_
          refine xiaddN hx hb dX7_width_46 ?_
          have cw_11 := cwV (R := rm_X7_width) (rm := rm_X7_far) 4 (hts d0) gX7_width_X7_far rfl rfl rfl (by decide +kernel) ⟨Nat.le_of_ble_eq_true rfl, Nat.le_of_ble_eq_true rfl⟩
          refine xcall hd0 (xintoV (b := m0) (As := [.int (nI f9), .int (nI x9), .int (nI f9), .int (nI (x9 + 1))]) (rest := []) ⟨hx, hb, hml, hown, hts _⟩ cw_11 (va_recv hK.1 (x1 hc_9) (ci := 8) (q0 := 0) rfl rfl) rfl rfl hl.1 rfl (lv_room (Nat.le_of_ble_eq_true rfl)) dX7_width_47) (c_X7_far (l := l) (G := G) (ty := ty) (b0 := b0) (f := f9) (r := x9) (g := f9) (q := x9 + 1) (by omega) (by omega) (by omega) (by omega) (⟨hc_9, hc_A0_9, hc_A1_9, hc_A2_9, hc_A3_9, hc_A4_9, hc_A5_9, hc_A6_9, hc_A7_9, hc_A8_9, hc_A9_9, hc_A10_9⟩ : xRef G ty m0 A (nI 0) F R pl un co dr bu nb wi hi fc fa lo la px py pz H_9) hZ) (xoweB cw_11.1) hK hb0 hS (Nat.le_of_ble_eq_true rfl) (Nat.le_of_ble_eq_true rfl) (fun E_11 ce_11 q9_11 H_11 locs_11 d0 hd0 hp_11 hS hce_11 hcv_11 hcl_11 => ?_) (fun v_11 H_11 locs_11 d0 hd0 hp_11 hS => ?_)
          · exact hp_11.elim
          · obtain ⟨rfl, r_11, rfl, q_11⟩ := hp_11
            show W p l e _ (s.setDrawn _) m _ below meth c _ _ _ _ _ (F0 m 50 ls [.double r_11])
            exact xdret hd0 hx hb hr hlocks hS (Nat.le_of_ble_eq_true rfl) (Nat.le_of_ble_eq_true rfl) dX7_width_50 ⟨nI 0, ⟨hc_9, hc_A0_9, hc_A1_9, hc_A2_9, hc_A3_9, hc_A4_9, hc_A5_9, hc_A6_9, hc_A7_9, hc_A8_9, hc_A9_9, hc_A10_9⟩, hfr_9, _, rfl, Or.inl ⟨rfl, z9, by rw [nN_nI (by omega), nN_nI (by omega)]; exact q_11⟩⟩
        · refine lv_iconst (v := nI 1) hx hb dX7_width_21 (by decide) ?_
          refine lv_goto (tgt := 26) hx hb dX7_width_22 (by decide) ?_
          refine xput (G := G) (ci := 8) (v := .int (nI 1)) (ty := .int) (C := RX7) (T := TX7) (N := 18) hx hb (hts d0) in_X7_width_X7 tyX7 tyX7_ok nmX7 hown hK.1 y_o hS hB.1 rfl 0 (by decide) (hts d0 _ hw_X7_width_2) (fun _ h9 => h9) rfl (by decide +kernel) rfl rfl (Nat.le_of_ble_eq_true rfl) dX7_width_26 (fun H_12 locs_12 hs_12 hS => ?_)
          have hc_12 : xc G m0 (.inr (8, [.int (nI 1), .int (nI F), .int (nI R), .ref (A 0), .ref (A 1), .ref (A 2), .ref (A 3), .ref (A 4), .int (nI nb), .ref (A 5), .ref (A 6), .ref (A 7), .ref (A 8), .ref (A 9), .ref (A 10), .double px, .double py, .double pz])) H_12 := hs_12.1
          have hc_A0_12 : xc G (A 0) (.inl (ty 0, 192, .inr (.inr (.inr (.inl pl))))) H_12 := y_0.kept (hs_12.2.2 _ (hA.1 0 (by decide)))
          have hc_A1_12 : xc G (A 1) (.inl (ty 2, 8, .inl un)) H_12 := y_1.kept (hs_12.2.2 _ (hA.1 1 (by decide)))
          have hc_A2_12 : xc G (A 2) (.inl (ty 0, 256, .inr (.inr (.inr (.inl co))))) H_12 := y_2.kept (hs_12.2.2 _ (hA.1 2 (by decide)))
          have hc_A3_12 : xc G (A 3) (.inl (ty 0, 32, .inr (.inr (.inr (.inl dr))))) H_12 := y_3.kept (hs_12.2.2 _ (hA.1 3 (by decide)))
          have hc_A4_12 : xc G (A 4) (.inl (ty 2, 64, .inl bu)) H_12 := y_4.kept (hs_12.2.2 _ (hA.1 4 (by decide)))
          have hc_A5_12 : xc G (A 5) (.inl (ty 0, 4, .inr (.inr (.inr (.inl wi))))) H_12 := y_5.kept (hs_12.2.2 _ (hA.1 5 (by decide)))
          have hc_A6_12 : xc G (A 6) (.inl (ty 0, 4, .inr (.inr (.inr (.inl hi))))) H_12 := y_6.kept (hs_12.2.2 _ (hA.1 6 (by decide)))
          have hc_A7_12 : xc G (A 7) (.inl (ty 1, 4, .inl fc)) H_12 := y_7.kept (hs_12.2.2 _ (hA.1 7 (by decide)))
          have hc_A8_12 : xc G (A 8) (.inl (ty 0, 128, .inr (.inr (.inr (.inl fa))))) H_12 := y_8.kept (hs_12.2.2 _ (hA.1 8 (by decide)))
          have hc_A9_12 : xc G (A 9) (.inl (ty 1, 8, .inl lo)) H_12 := y_9.kept (hs_12.2.2 _ (hA.1 9 (by decide)))
          have hc_A10_12 : xc G (A 10) (.inl (ty 1, 8, .inl la)) H_12 := y_10.kept (hs_12.2.2 _ (hA.1 10 (by decide)))
          have hfr_12 : xRfr m0 A H H_12 := xRfr.put0 xRfr.rf hs_12
          refine lv_aload_n hx hb dX7_width_29 rfl (lv_at hl 0 rfl) ?_
          refine va_get (D := G) (cl := vwCl) (ci := 8) (v := .int (nI 1)) (C := RX7) (T := TX7) (N := 18) hx hb (hts d0) in_X7_width_X7 hown hK.1 (x1 hc_12) 0 rfl rfl 0 (by decide) (hts d0 _ hw_X7_width_2) (fun _ h9 => h9) rfl dX7_width_30 ?_
          refine lv_if_le (tgt := 40) hx hb dX7_width_33 (by decide) (fun h9 => absurd h9 (by decide)) (fun _ => ?_)
          refine lv_dconst0 hx hb dX7_width_36 ?_
          refine lv_goto (tgt := 50) hx hb dX7_width_37 (by decide) ?_
          exact xdret hd0 hx hb hr hlocks hS (Nat.le_of_ble_eq_true rfl) (Nat.le_of_ble_eq_true rfl) dX7_width_50 ⟨nI 1, ⟨hc_12, hc_A0_12, hc_A1_12, hc_A2_12, hc_A3_12, hc_A4_12, hc_A5_12, hc_A6_12, hc_A7_12, hc_A8_12, hc_A9_12, hc_A10_12⟩, hfr_12, _, rfl, Or.inr ⟨rfl, fun z => xin_nlt c_8 (by omega) z.2⟩⟩
set_option maxRecDepth 20000 in
theorem ggX7_butt_X7_noStrip : GoodIn wsX7_butt wsX7_noStrip := goodIn_r _ [8, 9, 10, 11, 12, 13, 14, 15, 16, 17, 18, 19, 20, 21, 22, 23, 24, 25, 26, 27] (by decide +kernel) (by decide +kernel)
set_option maxRecDepth 20000 in
theorem gX7_butt_X7_noStrip : GoodIn wsX7_butt (wsV RX7 87 RX7 yX7_noStrip wsX7_noStrip) := goodIn_app (goodIn_of _ (by decide +kernel)) ggX7_butt_X7_noStrip
theorem dX7_butt_0 : decode cX7_butt 0 = .ok (.aload_n 0, 1) := by decide +kernel
theorem dX7_butt_1 : decode cX7_butt 1 = .ok (.aload_n 0, 1) := by decide +kernel
theorem dX7_butt_2 : decode cX7_butt 2 = .ok (.iload_n 1, 1) := by decide +kernel
theorem dX7_butt_3 : decode cX7_butt 3 = .ok (.invokevirtual 87, 3) := by decide +kernel
theorem dX7_butt_6 : decode cX7_butt 6 = .ok (.ifCond .ne 15, 3) := by decide +kernel
theorem dX7_butt_9 : decode cX7_butt 9 = .ok (.iload_n 2, 1) := by decide +kernel
theorem dX7_butt_10 : decode cX7_butt 10 = .ok (.ifCond .lt 11, 3) := by decide +kernel
theorem dX7_butt_13 : decode cX7_butt 13 = .ok (.iload_n 2, 1) := by decide +kernel
theorem dX7_butt_14 : decode cX7_butt 14 = .ok (.aload_n 0, 1) := by decide +kernel
theorem dX7_butt_15 : decode cX7_butt 15 = .ok (.getfield 45, 3) := by decide +kernel
theorem dX7_butt_18 : decode cX7_butt 18 = .ok (.if_icmp .lt 7, 3) := by decide +kernel
theorem dX7_butt_21 : decode cX7_butt 21 = .ok (.iconst 1, 1) := by decide +kernel
theorem dX7_butt_22 : decode cX7_butt 22 = .ok (.goto 4, 3) := by decide +kernel
theorem dX7_butt_25 : decode cX7_butt 25 = .ok (.iconst 0, 1) := by decide +kernel
theorem dX7_butt_26 : decode cX7_butt 26 = .ok (.putfield 52, 3) := by decide +kernel
theorem dX7_butt_29 : decode cX7_butt 29 = .ok (.aload_n 0, 1) := by decide +kernel
theorem dX7_butt_30 : decode cX7_butt 30 = .ok (.getfield 52, 3) := by decide +kernel
theorem dX7_butt_33 : decode cX7_butt 33 = .ok (.ifCond .le 5, 3) := by decide +kernel
theorem dX7_butt_36 : decode cX7_butt 36 = .ok (.iconst 0, 1) := by decide +kernel
theorem dX7_butt_37 : decode cX7_butt 37 = .ok (.ireturn, 1) := by decide +kernel
theorem dX7_butt_38 : decode cX7_butt 38 = .ok (.aload_n 0, 1) := by decide +kernel
theorem dX7_butt_39 : decode cX7_butt 39 = .ok (.getfield 23, 3) := by decide +kernel
theorem dX7_butt_42 : decode cX7_butt 42 = .ok (.bipush 8, 2) := by decide +kernel
theorem dX7_butt_44 : decode cX7_butt 44 = .ok (.iload_n 1, 1) := by decide +kernel
theorem dX7_butt_45 : decode cX7_butt 45 = .ok (.imul, 1) := by decide +kernel
theorem dX7_butt_46 : decode cX7_butt 46 = .ok (.iload_n 2, 1) := by decide +kernel
theorem dX7_butt_47 : decode cX7_butt 47 = .ok (.iadd, 1) := by decide +kernel
theorem dX7_butt_48 : decode cX7_butt 48 = .ok (.baload, 1) := by decide +kernel
theorem dX7_butt_49 : decode cX7_butt 49 = .ok (.iload_n 3, 1) := by decide +kernel
theorem dX7_butt_50 : decode cX7_butt 50 = .ok (.if_icmp .eq 7, 3) := by decide +kernel
theorem dX7_butt_53 : decode cX7_butt 53 = .ok (.iconst 1, 1) := by decide +kernel
theorem dX7_butt_54 : decode cX7_butt 54 = .ok (.goto 4, 3) := by decide +kernel
theorem dX7_butt_57 : decode cX7_butt 57 = .ok (.iconst 0, 1) := by decide +kernel
theorem dX7_butt_58 : decode cX7_butt 58 = .ok (.istore 4, 2) := by decide +kernel
theorem dX7_butt_60 : decode cX7_butt 60 = .ok (.aload_n 0, 1) := by decide +kernel
theorem dX7_butt_61 : decode cX7_butt 61 = .ok (.getfield 23, 3) := by decide +kernel
theorem dX7_butt_64 : decode cX7_butt 64 = .ok (.bipush 8, 2) := by decide +kernel
theorem dX7_butt_66 : decode cX7_butt 66 = .ok (.iload_n 1, 1) := by decide +kernel
theorem dX7_butt_67 : decode cX7_butt 67 = .ok (.imul, 1) := by decide +kernel
theorem dX7_butt_68 : decode cX7_butt 68 = .ok (.iload_n 2, 1) := by decide +kernel
theorem dX7_butt_69 : decode cX7_butt 69 = .ok (.iadd, 1) := by decide +kernel
theorem dX7_butt_70 : decode cX7_butt 70 = .ok (.iload_n 3, 1) := by decide +kernel
theorem dX7_butt_71 : decode cX7_butt 71 = .ok (.bastore, 1) := by decide +kernel
theorem dX7_butt_72 : decode cX7_butt 72 = .ok (.iload 4, 2) := by decide +kernel
theorem dX7_butt_74 : decode cX7_butt 74 = .ok (.ireturn, 1) := by decide +kernel
abbrev rm_X7_butt : Room := { frames := 7, cells := 0, slots := 0, locals := 140 }
theorem hw_X7_butt_1 : (Cond.fieldLink RX7 45 "PlankUnrollModel" "frames" "I") ∈ wsX7_butt := List.mem_of_getElem? (i := 1) rfl
theorem hw_X7_butt_2 : (Cond.fieldLink RX7 52 "PlankUnrollModel" "thrown" "I") ∈ wsX7_butt := List.mem_of_getElem? (i := 2) rfl
theorem hw_X7_butt_3 : (Cond.fieldLink RX7 23 "PlankUnrollModel" "butts" "[Z") ∈ wsX7_butt := List.mem_of_getElem? (i := 3) rfl
theorem in_X7_butt_X7 : ∀ w ∈ wsX70, w ∈ wsX7_butt := by decide +kernel
set_option maxHeartbeats 4000000 in
set_option maxRecDepth 100000 in
/-- butt -/
theorem c_X7_butt {l : Launch} {G : va_G} {ty : Nat → ClassId} {b0 : Nat} {H : Heap} {x f on : Int32} (hon : on = 0 ∨ on = 1) {m0 : Nat} {A : Nat → Nat} {th : Int32} {F R nb : Nat} {pl co dr wi hi fa : Nat → UInt64} {un bu fc lo la : Nat → Int32} {px py pz : UInt64} (hY : xRef G ty m0 A th F R pl un co dr bu nb wi hi fc fa lo la px py pz H) (hZ : xSz F R) (hA : xAp m0 A) (hB : xNw b0 m0 A) : xMet l yX7_butt wsX7_butt rm_X7_butt G ty b0 [.ref m0, .int (x), .int (f), .int (on)] H (fun v H1 => ∃ (T : Int32) (bu1 : Nat → Int32), xRef G ty m0 A T F R pl un co dr bu1 nb wi hi fc fa lo la px py pz H1 ∧ xRfr m0 A H H1 ∧ ∃ z : Int32, v = some (.int z) ∧ ((T = nI 0 ∧ (vp_in x (R - 1) ∧ vp_in f F) ∧ z = xP (¬ bu (8 * x.toNatClampNeg + f.toNatClampNeg) = on) ∧ bu1 = upd bu (8 * x.toNatClampNeg + f.toNatClampNeg) on) ∨ (T = nI 1 ∧ ¬ (vp_in x (R - 1) ∧ vp_in f F) ∧ bu1 = bu))) (fun _ _ => False) := by
  refine xbody (cc := cX7_butt) (maxL := 5) (ret := (some .boolean)) (C := RX7) (lv := [(0, .ref m0), (1, .int (x)), (2, .int (f)), (3, .int (on))]) (by decide) rfl rfl (Nat.le_of_ble_eq_true rfl) rfl ?_
  intro p e s m below meth c d0 hx hb hr hts hown hlocks hml hxt hnm0 hK hb0 hH0 hS hd0 ls hl
  obtain ⟨y_o, y_0, y_1, y_2, y_3, y_4, y_5, y_6, y_7, y_8, y_9, y_10⟩ := id hY
  obtain ⟨⟨zF2, zF8⟩, ⟨zR2, zR8⟩⟩ := id hZ
  refine lv_aload_n hx hb dX7_butt_0 rfl (lv_at hl 0 rfl) ?_
  refine lv_aload_n hx hb dX7_butt_1 rfl (lv_at hl 0 rfl) ?_
  refine lv_iload_n hx hb dX7_butt_2 rfl (lv_at hl 1 rfl) ?_
  have cw_1 := cwV (R := rm_X7_butt) (rm := rm_X7_noStrip) 1 (hts d0) gX7_butt_X7_noStrip rfl rfl rfl (by decide +kernel) ⟨Nat.le_of_ble_eq_true rfl, Nat.le_of_ble_eq_true rfl⟩
  refine xcall hd0 (xintoV (b := m0) (As := [.int (x)]) (rest := [.ref m0]) ⟨hx, hb, hml, hown, hts _⟩ cw_1 (va_recv hK.1 (x1 y_o) (ci := 8) (q0 := 0) rfl rfl) rfl rfl hl.1 rfl (lv_room (Nat.le_of_ble_eq_true rfl)) dX7_butt_3) (c_X7_noStrip (l := l) (G := G) (ty := ty) (b0 := b0) (⟨y_o, y_0, y_1, y_2, y_3, y_4, y_5, y_6, y_7, y_8, y_9, y_10⟩ : xRef G ty m0 A (th) F R pl un co dr bu nb wi hi fc fa lo la px py pz H) hZ) (xoweB cw_1.1) hK hb0 hS (Nat.le_of_ble_eq_true rfl) (Nat.le_of_ble_eq_true rfl) (fun E_1 ce_1 q9_1 H_1 locs_1 d0 hd0 hp_1 hS hce_1 hcv_1 hcl_1 => ?_) (fun v_1 H_1 locs_1 d0 hd0 hp_1 hS => ?_)
  · exact hp_1.elim
  · obtain ⟨rfl, rfl⟩ := hp_1
    show W p l e _ (s.setDrawn _) m _ below meth c _ _ _ _ _ (F0 m 6 ls [.int (xP (¬ vp_in x (R - 1))), .ref m0])
    refine lv_if_ne (tgt := 21) hx hb dX7_butt_6 (by decide) (fun c_2 => ?_) (fun c_2 => ?_)
    · refine lv_iconst (v := nI 1) hx hb dX7_butt_21 (by decide) ?_
      refine lv_goto (tgt := 26) hx hb dX7_butt_22 (by decide) ?_
      refine xput (G := G) (ci := 8) (v := .int (nI 1)) (ty := .int) (C := RX7) (T := TX7) (N := 18) hx hb (hts d0) in_X7_butt_X7 tyX7 tyX7_ok nmX7 hown hK.1 y_o hS hB.1 rfl 0 (by decide) (hts d0 _ hw_X7_butt_2) (fun _ h9 => h9) rfl (by decide +kernel) rfl rfl (Nat.le_of_ble_eq_true rfl) dX7_butt_26 (fun H_3 locs_3 hs_3 hS => ?_)
      have hc_3 : xc G m0 (.inr (8, [.int (nI 1), .int (nI F), .int (nI R), .ref (A 0), .ref (A 1), .ref (A 2), .ref (A 3), .ref (A 4), .int (nI nb), .ref (A 5), .ref (A 6), .ref (A 7), .ref (A 8), .ref (A 9), .ref (A 10), .double px, .double py, .double pz])) H_3 := hs_3.1
      have hc_A0_3 : xc G (A 0) (.inl (ty 0, 192, .inr (.inr (.inr (.inl pl))))) H_3 := y_0.kept (hs_3.2.2 _ (hA.1 0 (by decide)))
      have hc_A1_3 : xc G (A 1) (.inl (ty 2, 8, .inl un)) H_3 := y_1.kept (hs_3.2.2 _ (hA.1 1 (by decide)))
      have hc_A2_3 : xc G (A 2) (.inl (ty 0, 256, .inr (.inr (.inr (.inl co))))) H_3 := y_2.kept (hs_3.2.2 _ (hA.1 2 (by decide)))
      have hc_A3_3 : xc G (A 3) (.inl (ty 0, 32, .inr (.inr (.inr (.inl dr))))) H_3 := y_3.kept (hs_3.2.2 _ (hA.1 3 (by decide)))
      have hc_A4_3 : xc G (A 4) (.inl (ty 2, 64, .inl bu)) H_3 := y_4.kept (hs_3.2.2 _ (hA.1 4 (by decide)))
      have hc_A5_3 : xc G (A 5) (.inl (ty 0, 4, .inr (.inr (.inr (.inl wi))))) H_3 := y_5.kept (hs_3.2.2 _ (hA.1 5 (by decide)))
      have hc_A6_3 : xc G (A 6) (.inl (ty 0, 4, .inr (.inr (.inr (.inl hi))))) H_3 := y_6.kept (hs_3.2.2 _ (hA.1 6 (by decide)))
      have hc_A7_3 : xc G (A 7) (.inl (ty 1, 4, .inl fc)) H_3 := y_7.kept (hs_3.2.2 _ (hA.1 7 (by decide)))
      have hc_A8_3 : xc G (A 8) (.inl (ty 0, 128, .inr (.inr (.inr (.inl fa))))) H_3 := y_8.kept (hs_3.2.2 _ (hA.1 8 (by decide)))
      have hc_A9_3 : xc G (A 9) (.inl (ty 1, 8, .inl lo)) H_3 := y_9.kept (hs_3.2.2 _ (hA.1 9 (by decide)))
      have hc_A10_3 : xc G (A 10) (.inl (ty 1, 8, .inl la)) H_3 := y_10.kept (hs_3.2.2 _ (hA.1 10 (by decide)))
      have hfr_3 : xRfr m0 A H H_3 := xRfr.put0 xRfr.rf hs_3
      refine lv_aload_n hx hb dX7_butt_29 rfl (lv_at hl 0 rfl) ?_
      refine va_get (D := G) (cl := vwCl) (ci := 8) (v := .int (nI 1)) (C := RX7) (T := TX7) (N := 18) hx hb (hts d0) in_X7_butt_X7 hown hK.1 (x1 hc_3) 0 rfl rfl 0 (by decide) (hts d0 _ hw_X7_butt_2) (fun _ h9 => h9) rfl dX7_butt_30 ?_
      refine lv_if_le (tgt := 38) hx hb dX7_butt_33 (by decide) (fun h9 => absurd h9 (by decide)) (fun _ => ?_)
      refine lv_iconst (v := nI 0) hx hb dX7_butt_36 (by decide) ?_
      exact xzret (by decide) hd0 hx hb hr hlocks hS (Nat.le_of_ble_eq_true rfl) (Nat.le_of_ble_eq_true rfl) dX7_butt_37 ⟨nI 1, _, ⟨hc_3, hc_A0_3, hc_A1_3, hc_A2_3, hc_A3_3, hc_A4_3, hc_A5_3, hc_A6_3, hc_A7_3, hc_A8_3, hc_A9_3, hc_A10_3⟩, hfr_3, _, rfl, Or.inr ⟨rfl, fun z => xP_ne.mp c_2 z.1, rfl⟩⟩
    · refine lv_iload_n hx hb dX7_butt_9 rfl (lv_at hl 2 rfl) ?_
      refine lv_if_lt (tgt := 21) hx hb dX7_butt_10 (by decide) (fun c_5 => ?_) (fun c_5 => ?_)
      · refine lv_iconst (v := nI 1) hx hb dX7_butt_21 (by decide) ?_
        refine lv_goto (tgt := 26) hx hb dX7_butt_22 (by decide) ?_
        refine xput (G := G) (ci := 8) (v := .int (nI 1)) (ty := .int) (C := RX7) (T := TX7) (N := 18) hx hb (hts d0) in_X7_butt_X7 tyX7 tyX7_ok nmX7 hown hK.1 y_o hS hB.1 rfl 0 (by decide) (hts d0 _ hw_X7_butt_2) (fun _ h9 => h9) rfl (by decide +kernel) rfl rfl (Nat.le_of_ble_eq_true rfl) dX7_butt_26 (fun H_6 locs_6 hs_6 hS => ?_)
        have hc_6 : xc G m0 (.inr (8, [.int (nI 1), .int (nI F), .int (nI R), .ref (A 0), .ref (A 1), .ref (A 2), .ref (A 3), .ref (A 4), .int (nI nb), .ref (A 5), .ref (A 6), .ref (A 7), .ref (A 8), .ref (A 9), .ref (A 10), .double px, .double py, .double pz])) H_6 := hs_6.1
        have hc_A0_6 : xc G (A 0) (.inl (ty 0, 192, .inr (.inr (.inr (.inl pl))))) H_6 := y_0.kept (hs_6.2.2 _ (hA.1 0 (by decide)))
        have hc_A1_6 : xc G (A 1) (.inl (ty 2, 8, .inl un)) H_6 := y_1.kept (hs_6.2.2 _ (hA.1 1 (by decide)))
        have hc_A2_6 : xc G (A 2) (.inl (ty 0, 256, .inr (.inr (.inr (.inl co))))) H_6 := y_2.kept (hs_6.2.2 _ (hA.1 2 (by decide)))
        have hc_A3_6 : xc G (A 3) (.inl (ty 0, 32, .inr (.inr (.inr (.inl dr))))) H_6 := y_3.kept (hs_6.2.2 _ (hA.1 3 (by decide)))
        have hc_A4_6 : xc G (A 4) (.inl (ty 2, 64, .inl bu)) H_6 := y_4.kept (hs_6.2.2 _ (hA.1 4 (by decide)))
        have hc_A5_6 : xc G (A 5) (.inl (ty 0, 4, .inr (.inr (.inr (.inl wi))))) H_6 := y_5.kept (hs_6.2.2 _ (hA.1 5 (by decide)))
        have hc_A6_6 : xc G (A 6) (.inl (ty 0, 4, .inr (.inr (.inr (.inl hi))))) H_6 := y_6.kept (hs_6.2.2 _ (hA.1 6 (by decide)))
        have hc_A7_6 : xc G (A 7) (.inl (ty 1, 4, .inl fc)) H_6 := y_7.kept (hs_6.2.2 _ (hA.1 7 (by decide)))
        have hc_A8_6 : xc G (A 8) (.inl (ty 0, 128, .inr (.inr (.inr (.inl fa))))) H_6 := y_8.kept (hs_6.2.2 _ (hA.1 8 (by decide)))
        have hc_A9_6 : xc G (A 9) (.inl (ty 1, 8, .inl lo)) H_6 := y_9.kept (hs_6.2.2 _ (hA.1 9 (by decide)))
        have hc_A10_6 : xc G (A 10) (.inl (ty 1, 8, .inl la)) H_6 := y_10.kept (hs_6.2.2 _ (hA.1 10 (by decide)))
        have hfr_6 : xRfr m0 A H H_6 := xRfr.put0 xRfr.rf hs_6
        refine lv_aload_n hx hb dX7_butt_29 rfl (lv_at hl 0 rfl) ?_
        refine va_get (D := G) (cl := vwCl) (ci := 8) (v := .int (nI 1)) (C := RX7) (T := TX7) (N := 18) hx hb (hts d0) in_X7_butt_X7 hown hK.1 (x1 hc_6) 0 rfl rfl 0 (by decide) (hts d0 _ hw_X7_butt_2) (fun _ h9 => h9) rfl dX7_butt_30 ?_
        refine lv_if_le (tgt := 38) hx hb dX7_butt_33 (by decide) (fun h9 => absurd h9 (by decide)) (fun _ => ?_)
        refine lv_iconst (v := nI 0) hx hb dX7_butt_36 (by decide) ?_
        exact xzret (by decide) hd0 hx hb hr hlocks hS (Nat.le_of_ble_eq_true rfl) (Nat.le_of_ble_eq_true rfl) dX7_butt_37 ⟨nI 1, _, ⟨hc_6, hc_A0_6, hc_A1_6, hc_A2_6, hc_A3_6, hc_A4_6, hc_A5_6, hc_A6_6, hc_A7_6, hc_A8_6, hc_A9_6, hc_A10_6⟩, hfr_6, _, rfl, Or.inr ⟨rfl, fun z => xin_no0 c_5 z.2, rfl⟩⟩
      · refine lv_iload_n hx hb dX7_butt_13 rfl (lv_at hl 2 rfl) ?_
        refine lv_aload_n hx hb dX7_butt_14 rfl (lv_at hl 0 rfl) ?_
        refine va_get (D := G) (cl := vwCl) (ci := 8) (v := .int (nI F)) (C := RX7) (T := TX7) (N := 18) hx hb (hts d0) in_X7_butt_X7 hown hK.1 (x1 y_o) 0 rfl rfl 1 (by decide) (hts d0 _ hw_X7_butt_1) (fun _ h9 => h9) rfl dX7_butt_15 ?_
        refine lv_icmp_lt (tgt := 25) hx hb dX7_butt_18 (by decide) (fun c_8 => ?_) (fun c_8 => ?_)
        · have z9 : vp_in x (R - 1) ∧ vp_in f F := ⟨Classical.not_not.mp (xP_eq.mp c_2), xin_lt c_5 c_8 (by omega)⟩
          have z_x := z9.1
          have z_f := z9.2
          obtain ⟨x9, hx9, ex9⟩ := vp_in_of z_x (by omega)
          obtain ⟨f9, hf9, ef9⟩ := vp_in_of z_f (by omega)
          subst ex9 ef9
          refine lv_iconst (v := nI 0) hx hb dX7_butt_25 (by decide) ?_
          refine xput (G := G) (ci := 8) (v := .int (nI 0)) (ty := .int) (C := RX7) (T := TX7) (N := 18) hx hb (hts d0) in_X7_butt_X7 tyX7 tyX7_ok nmX7 hown hK.1 y_o hS hB.1 rfl 0 (by decide) (hts d0 _ hw_X7_butt_2) (fun _ h9 => h9) rfl (by decide +kernel) rfl rfl (Nat.le_of_ble_eq_true rfl) dX7_butt_26 (fun H_9 locs_9 hs_9 hS => ?_)
          have hc_9 : xc G m0 (.inr (8, [.int (nI 0), .int (nI F), .int (nI R), .ref (A 0), .ref (A 1), .ref (A 2), .ref (A 3), .ref (A 4), .int (nI nb), .ref (A 5), .ref (A 6), .ref (A 7), .ref (A 8), .ref (A 9), .ref (A 10), .double px, .double py, .double pz])) H_9 := hs_9.1
          have hc_A0_9 : xc G (A 0) (.inl (ty 0, 192, .inr (.inr (.inr (.inl pl))))) H_9 := y_0.kept (hs_9.2.2 _ (hA.1 0 (by decide)))
          have hc_A1_9 : xc G (A 1) (.inl (ty 2, 8, .inl un)) H_9 := y_1.kept (hs_9.2.2 _ (hA.1 1 (by decide)))
          have hc_A2_9 : xc G (A 2) (.inl (ty 0, 256, .inr (.inr (.inr (.inl co))))) H_9 := y_2.kept (hs_9.2.2 _ (hA.1 2 (by decide)))
          have hc_A3_9 : xc G (A 3) (.inl (ty 0, 32, .inr (.inr (.inr (.inl dr))))) H_9 := y_3.kept (hs_9.2.2 _ (hA.1 3 (by decide)))
          have hc_A4_9 : xc G (A 4) (.inl (ty 2, 64, .inl bu)) H_9 := y_4.kept (hs_9.2.2 _ (hA.1 4 (by decide)))
          have hc_A5_9 : xc G (A 5) (.inl (ty 0, 4, .inr (.inr (.inr (.inl wi))))) H_9 := y_5.kept (hs_9.2.2 _ (hA.1 5 (by decide)))
          have hc_A6_9 : xc G (A 6) (.inl (ty 0, 4, .inr (.inr (.inr (.inl hi))))) H_9 := y_6.kept (hs_9.2.2 _ (hA.1 6 (by decide)))
          have hc_A7_9 : xc G (A 7) (.inl (ty 1, 4, .inl fc)) H_9 := y_7.kept (hs_9.2.2 _ (hA.1 7 (by decide)))
          have hc_A8_9 : xc G (A 8) (.inl (ty 0, 128, .inr (.inr (.inr (.inl fa))))) H_9 := y_8.kept (hs_9.2.2 _ (hA.1 8 (by decide)))
          have hc_A9_9 : xc G (A 9) (.inl (ty 1, 8, .inl lo)) H_9 := y_9.kept (hs_9.2.2 _ (hA.1 9 (by decide)))
          have hc_A10_9 : xc G (A 10) (.inl (ty 1, 8, .inl la)) H_9 := y_10.kept (hs_9.2.2 _ (hA.1 10 (by decide)))
          have hfr_9 : xRfr m0 A H H_9 := xRfr.put0 xRfr.rf hs_9
          refine lv_aload_n hx hb dX7_butt_29 rfl (lv_at hl 0 rfl) ?_
          refine va_get (D := G) (cl := vwCl) (ci := 8) (v := .int (nI 0)) (C := RX7) (T := TX7) (N := 18) hx hb (hts d0) in_X7_butt_X7 hown hK.1 (x1 hc_9) 0 rfl rfl 0 (by decide) (hts d0 _ hw_X7_butt_2) (fun _ h9 => h9) rfl dX7_butt_30 ?_
          refine lv_if_le (tgt := 38) hx hb dX7_butt_33 (by decide) (fun _ => ?_) (fun h9 => absurd (by decide) h9)
          have J_11 : ∀ (y : Int32) (locs : List Loc) (d0 : Drawn) (ls : Array Slot), y = (xP (¬ bu (8 * x9 + f9) = on)) → va_S (xA b0) s.heap H_9 locs → s.drawn.sameBut d0 lw_cs → lv_has ls 5 [(0, .ref m0), (1, .int (nI x9)), (2, .int (nI f9)), (3, .int (on))] → W p l e rm_X7_butt (s.setDrawn d0) m [Value.ref m0, Value.int ((nI x9)), Value.int ((nI f9)), Value.int (on)].toArray below meth c H_9 locs (0 + rm_X7_noStrip.cells) (0 + rm_X7_noStrip.slots) (xMQ below (fun v H1 => ∃ (T : Int32) (bu1 : Nat → Int32), xRef G ty m0 A T F R pl un co dr bu1 nb wi hi fc fa lo la px py pz H1 ∧ xRfr m0 A H H1 ∧ ∃ z : Int32, v = some (.int z) ∧ ((T = nI 0 ∧ (vp_in (nI x9) (R - 1) ∧ vp_in (nI f9) F) ∧ z = xP (¬ bu (8 * (nI x9).toNatClampNeg + (nI f9).toNatClampNeg) = on) ∧ bu1 = upd bu (8 * (nI x9).toNatClampNeg + (nI f9).toNatClampNeg) on) ∨ (T = nI 1 ∧ ¬ (vp_in (nI x9) (R - 1) ∧ vp_in (nI f9) F) ∧ bu1 = bu))) (fun _ _ => False) [.ref m0, .int ((nI x9)), .int ((nI f9)), .int (on)].toArray s rm_X7_butt b0) (F0 m 58 ls [.int (y)]) := by
            intro y locs d0 ls hP_11 hS hd0 hl
            subst hP_11
            refine lv_istore (lv' := [(4, .int ((xP (¬ bu (8 * x9 + f9) = on)))), (0, .ref m0), (1, .int (nI x9)), (2, .int (nI f9)), (3, .int (on))]) hx hb dX7_butt_58 hl (by decide) rfl (fun ls hl => ?_)
            refine lv_aload_n hx hb dX7_butt_60 rfl (lv_at hl 1 rfl) ?_
            refine va_get (D := G) (cl := vwCl) (ci := 8) (v := .ref (A 4)) (C := RX7) (T := TX7) (N := 18) hx hb (hts d0) in_X7_butt_X7 hown hK.1 (x1 hc_9) 0 rfl rfl 7 (by decide) (hts d0 _ hw_X7_butt_3) (fun _ h9 => h9) rfl dX7_butt_61 ?_
            refine lv_bipush (v := nI 8) hx hb dX7_butt_64 (by decide) ?_
            refine lv_iload_n hx hb dX7_butt_66 rfl (lv_at hl 2 rfl) ?_
            refine ximulN hx hb dX7_butt_67 ?_
            refine lv_iload_n hx hb dX7_butt_68 rfl (lv_at hl 3 rfl) ?_
            refine xiaddN hx hb dX7_butt_69 ?_
            refine lv_iload_n hx hb dX7_butt_70 rfl (lv_at hl 4 rfl) ?_
            refine xzastN (s := s.setDrawn d0) (j := (8 * x9) + f9) (x := on) hx hb hK.1 2 hc_A4_9 hS (hB.2 4 (by decide)) rfl (xix_of (by omega) (by omega)) (zNar hon) dX7_butt_71 (fun H_12 locs_12 hs_12 hS => ?_)
            have hc_12 : xc G (A 4) (.inl (ty 2, 64, .inl ((upd bu ((8 * x9) + f9) on)))) H_12 := hs_12.1
            have hc_m0_12 : xc G m0 (.inr (8, [.int (nI 0), .int (nI F), .int (nI R), .ref (A 0), .ref (A 1), .ref (A 2), .ref (A 3), .ref (A 4), .int (nI nb), .ref (A 5), .ref (A 6), .ref (A 7), .ref (A 8), .ref (A 9), .ref (A 10), .double px, .double py, .double pz])) H_12 := hc_9.kept (hs_12.2.2 _ (Ne.symm (hA.1 4 (by decide))))
            have hc_A0_12 : xc G (A 0) (.inl (ty 0, 192, .inr (.inr (.inr (.inl pl))))) H_12 := hc_A0_9.kept (hs_12.2.2 _ (fun z => absurd (hA.2 0 4 (by decide) (by decide) z) (by decide)))
            have hc_A1_12 : xc G (A 1) (.inl (ty 2, 8, .inl un)) H_12 := hc_A1_9.kept (hs_12.2.2 _ (fun z => absurd (hA.2 1 4 (by decide) (by decide) z) (by decide)))
            have hc_A2_12 : xc G (A 2) (.inl (ty 0, 256, .inr (.inr (.inr (.inl co))))) H_12 := hc_A2_9.kept (hs_12.2.2 _ (fun z => absurd (hA.2 2 4 (by decide) (by decide) z) (by decide)))
            have hc_A3_12 : xc G (A 3) (.inl (ty 0, 32, .inr (.inr (.inr (.inl dr))))) H_12 := hc_A3_9.kept (hs_12.2.2 _ (fun z => absurd (hA.2 3 4 (by decide) (by decide) z) (by decide)))
            have hc_A5_12 : xc G (A 5) (.inl (ty 0, 4, .inr (.inr (.inr (.inl wi))))) H_12 := hc_A5_9.kept (hs_12.2.2 _ (fun z => absurd (hA.2 5 4 (by decide) (by decide) z) (by decide)))
            have hc_A6_12 : xc G (A 6) (.inl (ty 0, 4, .inr (.inr (.inr (.inl hi))))) H_12 := hc_A6_9.kept (hs_12.2.2 _ (fun z => absurd (hA.2 6 4 (by decide) (by decide) z) (by decide)))
            have hc_A7_12 : xc G (A 7) (.inl (ty 1, 4, .inl fc)) H_12 := hc_A7_9.kept (hs_12.2.2 _ (fun z => absurd (hA.2 7 4 (by decide) (by decide) z) (by decide)))
            have hc_A8_12 : xc G (A 8) (.inl (ty 0, 128, .inr (.inr (.inr (.inl fa))))) H_12 := hc_A8_9.kept (hs_12.2.2 _ (fun z => absurd (hA.2 8 4 (by decide) (by decide) z) (by decide)))
            have hc_A9_12 : xc G (A 9) (.inl (ty 1, 8, .inl lo)) H_12 := hc_A9_9.kept (hs_12.2.2 _ (fun z => absurd (hA.2 9 4 (by decide) (by decide) z) (by decide)))
            have hc_A10_12 : xc G (A 10) (.inl (ty 1, 8, .inl la)) H_12 := hc_A10_9.kept (hs_12.2.2 _ (fun z => absurd (hA.2 10 4 (by decide) (by decide) z) (by decide)))
            have hfr_12 : xRfr m0 A H H_12 := xRfr.putA hfr_9 4 (by decide) hs_12
            refine lv_iload hx hb dX7_butt_72 (lv_at hl 0 rfl) ?_
            exact xzret (xP_nz _) hd0 hx hb hr hlocks hS (Nat.le_of_ble_eq_true rfl) (Nat.le_of_ble_eq_true rfl) dX7_butt_74 ⟨nI 0, _, ⟨hc_m0_12, hc_A0_12, hc_A1_12, hc_A2_12, hc_A3_12, hc_12, hc_A5_12, hc_A6_12, hc_A7_12, hc_A8_12, hc_A9_12, hc_A10_12⟩, hfr_12, _, rfl, Or.inl ⟨rfl, z9, by rw [nN_nI (by omega), nN_nI (by omega)]; exact ⟨rfl, rfl⟩⟩⟩
          refine lv_aload_n hx hb dX7_butt_38 rfl (lv_at hl 0 rfl) ?_
          refine va_get (D := G) (cl := vwCl) (ci := 8) (v := .ref (A 4)) (C := RX7) (T := TX7) (N := 18) hx hb (hts d0) in_X7_butt_X7 hown hK.1 (x1 hc_9) 0 rfl rfl 7 (by decide) (hts d0 _ hw_X7_butt_3) (fun _ h9 => h9) rfl dX7_butt_39 ?_
          refine lv_bipush (v := nI 8) hx hb dX7_butt_42 (by decide) ?_
          refine lv_iload_n hx hb dX7_butt_44 rfl (lv_at hl 1 rfl) ?_
          refine ximulN hx hb dX7_butt_45 ?_
          refine lv_iload_n hx hb dX7_butt_46 rfl (lv_at hl 2 rfl) ?_
          refine xiaddN hx hb dX7_butt_47 ?_
          refine xzald (j := (8 * x9) + f9) hx hb hK.1 2 hc_A4_9 rfl (xix_of (by omega) (by omega)) dX7_butt_48 ?_
          refine lv_iload_n hx hb dX7_butt_49 rfl (lv_at hl 3 rfl) ?_
          refine lv_icmp_eq (tgt := 57) hx hb dX7_butt_50 (by decide) (fun c_13 => ?_) (fun c_13 => ?_)
          · refine lv_iconst (v := nI 0) hx hb dX7_butt_57 (by decide) ?_
            exact J_11 _ _ d0 ls (xP_f (fun z => z c_13)).symm hS hd0 (lv_sub hl [0, 1, 2, 3] rfl)
          · refine lv_iconst (v := nI 1) hx hb dX7_butt_53 (by decide) ?_
            refine lv_goto (tgt := 58) hx hb dX7_butt_54 (by decide) ?_
            exact J_11 _ _ d0 ls (xP_t c_13).symm hS hd0 (lv_sub hl [0, 1, 2, 3] rfl)
        · refine lv_iconst (v := nI 1) hx hb dX7_butt_21 (by decide) ?_
          refine lv_goto (tgt := 26) hx hb dX7_butt_22 (by decide) ?_
          refine xput (G := G) (ci := 8) (v := .int (nI 1)) (ty := .int) (C := RX7) (T := TX7) (N := 18) hx hb (hts d0) in_X7_butt_X7 tyX7 tyX7_ok nmX7 hown hK.1 y_o hS hB.1 rfl 0 (by decide) (hts d0 _ hw_X7_butt_2) (fun _ h9 => h9) rfl (by decide +kernel) rfl rfl (Nat.le_of_ble_eq_true rfl) dX7_butt_26 (fun H_14 locs_14 hs_14 hS => ?_)
          have hc_14 : xc G m0 (.inr (8, [.int (nI 1), .int (nI F), .int (nI R), .ref (A 0), .ref (A 1), .ref (A 2), .ref (A 3), .ref (A 4), .int (nI nb), .ref (A 5), .ref (A 6), .ref (A 7), .ref (A 8), .ref (A 9), .ref (A 10), .double px, .double py, .double pz])) H_14 := hs_14.1
          have hc_A0_14 : xc G (A 0) (.inl (ty 0, 192, .inr (.inr (.inr (.inl pl))))) H_14 := y_0.kept (hs_14.2.2 _ (hA.1 0 (by decide)))
          have hc_A1_14 : xc G (A 1) (.inl (ty 2, 8, .inl un)) H_14 := y_1.kept (hs_14.2.2 _ (hA.1 1 (by decide)))
          have hc_A2_14 : xc G (A 2) (.inl (ty 0, 256, .inr (.inr (.inr (.inl co))))) H_14 := y_2.kept (hs_14.2.2 _ (hA.1 2 (by decide)))
          have hc_A3_14 : xc G (A 3) (.inl (ty 0, 32, .inr (.inr (.inr (.inl dr))))) H_14 := y_3.kept (hs_14.2.2 _ (hA.1 3 (by decide)))
          have hc_A4_14 : xc G (A 4) (.inl (ty 2, 64, .inl bu)) H_14 := y_4.kept (hs_14.2.2 _ (hA.1 4 (by decide)))
          have hc_A5_14 : xc G (A 5) (.inl (ty 0, 4, .inr (.inr (.inr (.inl wi))))) H_14 := y_5.kept (hs_14.2.2 _ (hA.1 5 (by decide)))
          have hc_A6_14 : xc G (A 6) (.inl (ty 0, 4, .inr (.inr (.inr (.inl hi))))) H_14 := y_6.kept (hs_14.2.2 _ (hA.1 6 (by decide)))
          have hc_A7_14 : xc G (A 7) (.inl (ty 1, 4, .inl fc)) H_14 := y_7.kept (hs_14.2.2 _ (hA.1 7 (by decide)))
          have hc_A8_14 : xc G (A 8) (.inl (ty 0, 128, .inr (.inr (.inr (.inl fa))))) H_14 := y_8.kept (hs_14.2.2 _ (hA.1 8 (by decide)))
          have hc_A9_14 : xc G (A 9) (.inl (ty 1, 8, .inl lo)) H_14 := y_9.kept (hs_14.2.2 _ (hA.1 9 (by decide)))
          have hc_A10_14 : xc G (A 10) (.inl (ty 1, 8, .inl la)) H_14 := y_10.kept (hs_14.2.2 _ (hA.1 10 (by decide)))
          have hfr_14 : xRfr m0 A H H_14 := xRfr.put0 xRfr.rf hs_14
          refine lv_aload_n hx hb dX7_butt_29 rfl (lv_at hl 0 rfl) ?_
          refine va_get (D := G) (cl := vwCl) (ci := 8) (v := .int (nI 1)) (C := RX7) (T := TX7) (N := 18) hx hb (hts d0) in_X7_butt_X7 hown hK.1 (x1 hc_14) 0 rfl rfl 0 (by decide) (hts d0 _ hw_X7_butt_2) (fun _ h9 => h9) rfl dX7_butt_30 ?_
          refine lv_if_le (tgt := 38) hx hb dX7_butt_33 (by decide) (fun h9 => absurd h9 (by decide)) (fun _ => ?_)
          refine lv_iconst (v := nI 0) hx hb dX7_butt_36 (by decide) ?_
          exact xzret (by decide) hd0 hx hb hr hlocks hS (Nat.le_of_ble_eq_true rfl) (Nat.le_of_ble_eq_true rfl) dX7_butt_37 ⟨nI 1, _, ⟨hc_14, hc_A0_14, hc_A1_14, hc_A2_14, hc_A3_14, hc_A4_14, hc_A5_14, hc_A6_14, hc_A7_14, hc_A8_14, hc_A9_14, hc_A10_14⟩, hfr_14, _, rfl, Or.inr ⟨rfl, fun z => xin_nlt c_8 (by omega) z.2, rfl⟩⟩
set_option maxRecDepth 20000 in
theorem ggX7_lies_X7_noStrip : GoodIn wsX7_lies wsX7_noStrip := goodIn_r _ [8, 9, 10, 11, 12, 13, 14, 15, 16, 17, 18, 19, 20, 21, 22, 23, 24, 25, 26, 27] (by decide +kernel) (by decide +kernel)
set_option maxRecDepth 20000 in
theorem gX7_lies_X7_noStrip : GoodIn wsX7_lies (wsV RX7 87 RX7 yX7_noStrip wsX7_noStrip) := goodIn_app (goodIn_of _ (by decide +kernel)) ggX7_lies_X7_noStrip
theorem dX7_lies_0 : decode cX7_lies 0 = .ok (.aload_n 0, 1) := by decide +kernel
theorem dX7_lies_1 : decode cX7_lies 1 = .ok (.aload_n 0, 1) := by decide +kernel
theorem dX7_lies_2 : decode cX7_lies 2 = .ok (.iload_n 1, 1) := by decide +kernel
theorem dX7_lies_3 : decode cX7_lies 3 = .ok (.invokevirtual 87, 3) := by decide +kernel
theorem dX7_lies_6 : decode cX7_lies 6 = .ok (.ifCond .ne 12, 3) := by decide +kernel
theorem dX7_lies_9 : decode cX7_lies 9 = .ok (.iload_n 2, 1) := by decide +kernel
theorem dX7_lies_10 : decode cX7_lies 10 = .ok (.ifCond .lt 8, 3) := by decide +kernel
theorem dX7_lies_13 : decode cX7_lies 13 = .ok (.iload_n 2, 1) := by decide +kernel
theorem dX7_lies_14 : decode cX7_lies 14 = .ok (.iconst 1, 1) := by decide +kernel
theorem dX7_lies_15 : decode cX7_lies 15 = .ok (.if_icmp .le 7, 3) := by decide +kernel
theorem dX7_lies_18 : decode cX7_lies 18 = .ok (.iconst 1, 1) := by decide +kernel
theorem dX7_lies_19 : decode cX7_lies 19 = .ok (.goto 4, 3) := by decide +kernel
theorem dX7_lies_22 : decode cX7_lies 22 = .ok (.iconst 0, 1) := by decide +kernel
theorem dX7_lies_23 : decode cX7_lies 23 = .ok (.putfield 52, 3) := by decide +kernel
theorem dX7_lies_26 : decode cX7_lies 26 = .ok (.aload_n 0, 1) := by decide +kernel
theorem dX7_lies_27 : decode cX7_lies 27 = .ok (.getfield 52, 3) := by decide +kernel
theorem dX7_lies_30 : decode cX7_lies 30 = .ok (.ifCond .le 7, 3) := by decide +kernel
theorem dX7_lies_33 : decode cX7_lies 33 = .ok (.iconst 0, 1) := by decide +kernel
theorem dX7_lies_34 : decode cX7_lies 34 = .ok (.goto 22, 3) := by decide +kernel
theorem dX7_lies_37 : decode cX7_lies 37 = .ok (.iload_n 2, 1) := by decide +kernel
theorem dX7_lies_38 : decode cX7_lies 38 = .ok (.ifCond .ne 12, 3) := by decide +kernel
theorem dX7_lies_41 : decode cX7_lies 41 = .ok (.aload_n 0, 1) := by decide +kernel
theorem dX7_lies_42 : decode cX7_lies 42 = .ok (.getfield 39, 3) := by decide +kernel
theorem dX7_lies_45 : decode cX7_lies 45 = .ok (.iload_n 1, 1) := by decide +kernel
theorem dX7_lies_46 : decode cX7_lies 46 = .ok (.iaload, 1) := by decide +kernel
theorem dX7_lies_47 : decode cX7_lies 47 = .ok (.goto 9, 3) := by decide +kernel
theorem dX7_lies_50 : decode cX7_lies 50 = .ok (.aload_n 0, 1) := by decide +kernel
theorem dX7_lies_51 : decode cX7_lies 51 = .ok (.getfield 42, 3) := by decide +kernel
theorem dX7_lies_54 : decode cX7_lies 54 = .ok (.iload_n 1, 1) := by decide +kernel
theorem dX7_lies_55 : decode cX7_lies 55 = .ok (.iaload, 1) := by decide +kernel
theorem dX7_lies_56 : decode cX7_lies 56 = .ok (.ireturn, 1) := by decide +kernel
abbrev rm_X7_lies : Room := { frames := 7, cells := 0, slots := 0, locals := 140 }
theorem hw_X7_lies_1 : (Cond.fieldLink RX7 52 "PlankUnrollModel" "thrown" "I") ∈ wsX7_lies := List.mem_of_getElem? (i := 1) rfl
theorem hw_X7_lies_2 : (Cond.fieldLink RX7 39 "PlankUnrollModel" "liesOn" "[I") ∈ wsX7_lies := List.mem_of_getElem? (i := 2) rfl
theorem hw_X7_lies_3 : (Cond.fieldLink RX7 42 "PlankUnrollModel" "liesAt" "[I") ∈ wsX7_lies := List.mem_of_getElem? (i := 3) rfl
theorem in_X7_lies_X7 : ∀ w ∈ wsX70, w ∈ wsX7_lies := by decide +kernel
set_option maxHeartbeats 4000000 in
set_option maxRecDepth 100000 in
/-- lies -/
theorem c_X7_lies {l : Launch} {G : va_G} {ty : Nat → ClassId} {b0 : Nat} {H : Heap} {x k : Int32} {m0 : Nat} {A : Nat → Nat} {th : Int32} {F R nb : Nat} {pl co dr wi hi fa : Nat → UInt64} {un bu fc lo la : Nat → Int32} {px py pz : UInt64} (hY : xRef G ty m0 A th F R pl un co dr bu nb wi hi fc fa lo la px py pz H) (hZ : xSz F R) (hA : xAp m0 A) (hB : xNw b0 m0 A) : xMet l yX7_lies wsX7_lies rm_X7_lies G ty b0 [.ref m0, .int (x), .int (k)] H (fun v H1 => ∃ T : Int32, xRef G ty m0 A T F R pl un co dr bu nb wi hi fc fa lo la px py pz H1 ∧ xRfr m0 A H H1 ∧ ∃ z : Int32, v = some (.int z) ∧ ((T = nI 0 ∧ (vp_in x (R - 1) ∧ vp_in k 2) ∧ z = (if k = 0 then lo x.toNatClampNeg else la x.toNatClampNeg)) ∨ (T = nI 1 ∧ ¬ (vp_in x (R - 1) ∧ vp_in k 2)))) (fun _ _ => False) := by
  refine xbody (cc := cX7_lies) (maxL := 3) (ret := (some .int)) (C := RX7) (lv := [(0, .ref m0), (1, .int (x)), (2, .int (k))]) (by decide) rfl rfl (Nat.le_of_ble_eq_true rfl) rfl ?_
  intro p e s m below meth c d0 hx hb hr hts hown hlocks hml hxt hnm0 hK hb0 hH0 hS hd0 ls hl
  obtain ⟨y_o, y_0, y_1, y_2, y_3, y_4, y_5, y_6, y_7, y_8, y_9, y_10⟩ := id hY
  obtain ⟨⟨zF2, zF8⟩, ⟨zR2, zR8⟩⟩ := id hZ
  refine lv_aload_n hx hb dX7_lies_0 rfl (lv_at hl 0 rfl) ?_
  refine lv_aload_n hx hb dX7_lies_1 rfl (lv_at hl 0 rfl) ?_
  refine lv_iload_n hx hb dX7_lies_2 rfl (lv_at hl 1 rfl) ?_
  have cw_1 := cwV (R := rm_X7_lies) (rm := rm_X7_noStrip) 1 (hts d0) gX7_lies_X7_noStrip rfl rfl rfl (by decide +kernel) ⟨Nat.le_of_ble_eq_true rfl, Nat.le_of_ble_eq_true rfl⟩
  refine xcall hd0 (xintoV (b := m0) (As := [.int (x)]) (rest := [.ref m0]) ⟨hx, hb, hml, hown, hts _⟩ cw_1 (va_recv hK.1 (x1 y_o) (ci := 8) (q0 := 0) rfl rfl) rfl rfl hl.1 rfl (lv_room (Nat.le_of_ble_eq_true rfl)) dX7_lies_3) (c_X7_noStrip (l := l) (G := G) (ty := ty) (b0 := b0) (⟨y_o, y_0, y_1, y_2, y_3, y_4, y_5, y_6, y_7, y_8, y_9, y_10⟩ : xRef G ty m0 A (th) F R pl un co dr bu nb wi hi fc fa lo la px py pz H) hZ) (xoweB cw_1.1) hK hb0 hS (Nat.le_of_ble_eq_true rfl) (Nat.le_of_ble_eq_true rfl) (fun E_1 ce_1 q9_1 H_1 locs_1 d0 hd0 hp_1 hS hce_1 hcv_1 hcl_1 => ?_) (fun v_1 H_1 locs_1 d0 hd0 hp_1 hS => ?_)
  · exact hp_1.elim
  · obtain ⟨rfl, rfl⟩ := hp_1
    show W p l e _ (s.setDrawn _) m _ below meth c _ _ _ _ _ (F0 m 6 ls [.int (xP (¬ vp_in x (R - 1))), .ref m0])
    refine lv_if_ne (tgt := 18) hx hb dX7_lies_6 (by decide) (fun c_2 => ?_) (fun c_2 => ?_)
    · refine lv_iconst (v := nI 1) hx hb dX7_lies_18 (by decide) ?_
      refine lv_goto (tgt := 23) hx hb dX7_lies_19 (by decide) ?_
      refine xput (G := G) (ci := 8) (v := .int (nI 1)) (ty := .int) (C := RX7) (T := TX7) (N := 18) hx hb (hts d0) in_X7_lies_X7 tyX7 tyX7_ok nmX7 hown hK.1 y_o hS hB.1 rfl 0 (by decide) (hts d0 _ hw_X7_lies_1) (fun _ h9 => h9) rfl (by decide +kernel) rfl rfl (Nat.le_of_ble_eq_true rfl) dX7_lies_23 (fun H_3 locs_3 hs_3 hS => ?_)
      have hc_3 : xc G m0 (.inr (8, [.int (nI 1), .int (nI F), .int (nI R), .ref (A 0), .ref (A 1), .ref (A 2), .ref (A 3), .ref (A 4), .int (nI nb), .ref (A 5), .ref (A 6), .ref (A 7), .ref (A 8), .ref (A 9), .ref (A 10), .double px, .double py, .double pz])) H_3 := hs_3.1
      have hc_A0_3 : xc G (A 0) (.inl (ty 0, 192, .inr (.inr (.inr (.inl pl))))) H_3 := y_0.kept (hs_3.2.2 _ (hA.1 0 (by decide)))
      have hc_A1_3 : xc G (A 1) (.inl (ty 2, 8, .inl un)) H_3 := y_1.kept (hs_3.2.2 _ (hA.1 1 (by decide)))
      have hc_A2_3 : xc G (A 2) (.inl (ty 0, 256, .inr (.inr (.inr (.inl co))))) H_3 := y_2.kept (hs_3.2.2 _ (hA.1 2 (by decide)))
      have hc_A3_3 : xc G (A 3) (.inl (ty 0, 32, .inr (.inr (.inr (.inl dr))))) H_3 := y_3.kept (hs_3.2.2 _ (hA.1 3 (by decide)))
      have hc_A4_3 : xc G (A 4) (.inl (ty 2, 64, .inl bu)) H_3 := y_4.kept (hs_3.2.2 _ (hA.1 4 (by decide)))
      have hc_A5_3 : xc G (A 5) (.inl (ty 0, 4, .inr (.inr (.inr (.inl wi))))) H_3 := y_5.kept (hs_3.2.2 _ (hA.1 5 (by decide)))
      have hc_A6_3 : xc G (A 6) (.inl (ty 0, 4, .inr (.inr (.inr (.inl hi))))) H_3 := y_6.kept (hs_3.2.2 _ (hA.1 6 (by decide)))
      have hc_A7_3 : xc G (A 7) (.inl (ty 1, 4, .inl fc)) H_3 := y_7.kept (hs_3.2.2 _ (hA.1 7 (by decide)))
      have hc_A8_3 : xc G (A 8) (.inl (ty 0, 128, .inr (.inr (.inr (.inl fa))))) H_3 := y_8.kept (hs_3.2.2 _ (hA.1 8 (by decide)))
      have hc_A9_3 : xc G (A 9) (.inl (ty 1, 8, .inl lo)) H_3 := y_9.kept (hs_3.2.2 _ (hA.1 9 (by decide)))
      have hc_A10_3 : xc G (A 10) (.inl (ty 1, 8, .inl la)) H_3 := y_10.kept (hs_3.2.2 _ (hA.1 10 (by decide)))
      have hfr_3 : xRfr m0 A H H_3 := xRfr.put0 xRfr.rf hs_3
      refine lv_aload_n hx hb dX7_lies_26 rfl (lv_at hl 0 rfl) ?_
      refine va_get (D := G) (cl := vwCl) (ci := 8) (v := .int (nI 1)) (C := RX7) (T := TX7) (N := 18) hx hb (hts d0) in_X7_lies_X7 hown hK.1 (x1 hc_3) 0 rfl rfl 0 (by decide) (hts d0 _ hw_X7_lies_1) (fun _ h9 => h9) rfl dX7_lies_27 ?_
      refine lv_if_le (tgt := 37) hx hb dX7_lies_30 (by decide) (fun h9 => absurd h9 (by decide)) (fun _ => ?_)
      refine lv_iconst (v := nI 0) hx hb dX7_lies_33 (by decide) ?_
      refine lv_goto (tgt := 56) hx hb dX7_lies_34 (by decide) ?_
      exact xiret hd0 hx hb hr hlocks hS (Nat.le_of_ble_eq_true rfl) (Nat.le_of_ble_eq_true rfl) dX7_lies_56 ⟨nI 1, ⟨hc_3, hc_A0_3, hc_A1_3, hc_A2_3, hc_A3_3, hc_A4_3, hc_A5_3, hc_A6_3, hc_A7_3, hc_A8_3, hc_A9_3, hc_A10_3⟩, hfr_3, _, rfl, Or.inr ⟨rfl, fun z => xP_ne.mp c_2 z.1⟩⟩
    · refine lv_iload_n hx hb dX7_lies_9 rfl (lv_at hl 2 rfl) ?_
      refine lv_if_lt (tgt := 18) hx hb dX7_lies_10 (by decide) (fun c_5 => ?_) (fun c_5 => ?_)
      · refine lv_iconst (v := nI 1) hx hb dX7_lies_18 (by decide) ?_
        refine lv_goto (tgt := 23) hx hb dX7_lies_19 (by decide) ?_
        refine xput (G := G) (ci := 8) (v := .int (nI 1)) (ty := .int) (C := RX7) (T := TX7) (N := 18) hx hb (hts d0) in_X7_lies_X7 tyX7 tyX7_ok nmX7 hown hK.1 y_o hS hB.1 rfl 0 (by decide) (hts d0 _ hw_X7_lies_1) (fun _ h9 => h9) rfl (by decide +kernel) rfl rfl (Nat.le_of_ble_eq_true rfl) dX7_lies_23 (fun H_6 locs_6 hs_6 hS => ?_)
        have hc_6 : xc G m0 (.inr (8, [.int (nI 1), .int (nI F), .int (nI R), .ref (A 0), .ref (A 1), .ref (A 2), .ref (A 3), .ref (A 4), .int (nI nb), .ref (A 5), .ref (A 6), .ref (A 7), .ref (A 8), .ref (A 9), .ref (A 10), .double px, .double py, .double pz])) H_6 := hs_6.1
        have hc_A0_6 : xc G (A 0) (.inl (ty 0, 192, .inr (.inr (.inr (.inl pl))))) H_6 := y_0.kept (hs_6.2.2 _ (hA.1 0 (by decide)))
        have hc_A1_6 : xc G (A 1) (.inl (ty 2, 8, .inl un)) H_6 := y_1.kept (hs_6.2.2 _ (hA.1 1 (by decide)))
        have hc_A2_6 : xc G (A 2) (.inl (ty 0, 256, .inr (.inr (.inr (.inl co))))) H_6 := y_2.kept (hs_6.2.2 _ (hA.1 2 (by decide)))
        have hc_A3_6 : xc G (A 3) (.inl (ty 0, 32, .inr (.inr (.inr (.inl dr))))) H_6 := y_3.kept (hs_6.2.2 _ (hA.1 3 (by decide)))
        have hc_A4_6 : xc G (A 4) (.inl (ty 2, 64, .inl bu)) H_6 := y_4.kept (hs_6.2.2 _ (hA.1 4 (by decide)))
        have hc_A5_6 : xc G (A 5) (.inl (ty 0, 4, .inr (.inr (.inr (.inl wi))))) H_6 := y_5.kept (hs_6.2.2 _ (hA.1 5 (by decide)))
        have hc_A6_6 : xc G (A 6) (.inl (ty 0, 4, .inr (.inr (.inr (.inl hi))))) H_6 := y_6.kept (hs_6.2.2 _ (hA.1 6 (by decide)))
        have hc_A7_6 : xc G (A 7) (.inl (ty 1, 4, .inl fc)) H_6 := y_7.kept (hs_6.2.2 _ (hA.1 7 (by decide)))
        have hc_A8_6 : xc G (A 8) (.inl (ty 0, 128, .inr (.inr (.inr (.inl fa))))) H_6 := y_8.kept (hs_6.2.2 _ (hA.1 8 (by decide)))
        have hc_A9_6 : xc G (A 9) (.inl (ty 1, 8, .inl lo)) H_6 := y_9.kept (hs_6.2.2 _ (hA.1 9 (by decide)))
        have hc_A10_6 : xc G (A 10) (.inl (ty 1, 8, .inl la)) H_6 := y_10.kept (hs_6.2.2 _ (hA.1 10 (by decide)))
        have hfr_6 : xRfr m0 A H H_6 := xRfr.put0 xRfr.rf hs_6
        refine lv_aload_n hx hb dX7_lies_26 rfl (lv_at hl 0 rfl) ?_
        refine va_get (D := G) (cl := vwCl) (ci := 8) (v := .int (nI 1)) (C := RX7) (T := TX7) (N := 18) hx hb (hts d0) in_X7_lies_X7 hown hK.1 (x1 hc_6) 0 rfl rfl 0 (by decide) (hts d0 _ hw_X7_lies_1) (fun _ h9 => h9) rfl dX7_lies_27 ?_
        refine lv_if_le (tgt := 37) hx hb dX7_lies_30 (by decide) (fun h9 => absurd h9 (by decide)) (fun _ => ?_)
        refine lv_iconst (v := nI 0) hx hb dX7_lies_33 (by decide) ?_
        refine lv_goto (tgt := 56) hx hb dX7_lies_34 (by decide) ?_
        exact xiret hd0 hx hb hr hlocks hS (Nat.le_of_ble_eq_true rfl) (Nat.le_of_ble_eq_true rfl) dX7_lies_56 ⟨nI 1, ⟨hc_6, hc_A0_6, hc_A1_6, hc_A2_6, hc_A3_6, hc_A4_6, hc_A5_6, hc_A6_6, hc_A7_6, hc_A8_6, hc_A9_6, hc_A10_6⟩, hfr_6, _, rfl, Or.inr ⟨rfl, fun z => xin_no0 c_5 z.2⟩⟩
      · refine lv_iload_n hx hb dX7_lies_13 rfl (lv_at hl 2 rfl) ?_
        refine lv_iconst (v := nI 1) hx hb dX7_lies_14 (by decide) ?_
        refine lv_icmp_le (tgt := 22) hx hb dX7_lies_15 (by decide) (fun c_8 => ?_) (fun c_8 => ?_)
        · have z9 : vp_in x (R - 1) ∧ vp_in k 2 := ⟨Classical.not_not.mp (xP_eq.mp c_2), xin_le c_5 c_8 (by decide)⟩
          have z_x := z9.1
          have z_k := z9.2
          obtain ⟨x9, hx9, ex9⟩ := vp_in_of z_x (by omega)
          obtain ⟨k9, hk9, ek9⟩ := vp_in_of z_k (by omega)
          subst ex9 ek9
          refine lv_iconst (v := nI 0) hx hb dX7_lies_22 (by decide) ?_
          refine xput (G := G) (ci := 8) (v := .int (nI 0)) (ty := .int) (C := RX7) (T := TX7) (N := 18) hx hb (hts d0) in_X7_lies_X7 tyX7 tyX7_ok nmX7 hown hK.1 y_o hS hB.1 rfl 0 (by decide) (hts d0 _ hw_X7_lies_1) (fun _ h9 => h9) rfl (by decide +kernel) rfl rfl (Nat.le_of_ble_eq_true rfl) dX7_lies_23 (fun H_9 locs_9 hs_9 hS => ?_)
          have hc_9 : xc G m0 (.inr (8, [.int (nI 0), .int (nI F), .int (nI R), .ref (A 0), .ref (A 1), .ref (A 2), .ref (A 3), .ref (A 4), .int (nI nb), .ref (A 5), .ref (A 6), .ref (A 7), .ref (A 8), .ref (A 9), .ref (A 10), .double px, .double py, .double pz])) H_9 := hs_9.1
          have hc_A0_9 : xc G (A 0) (.inl (ty 0, 192, .inr (.inr (.inr (.inl pl))))) H_9 := y_0.kept (hs_9.2.2 _ (hA.1 0 (by decide)))
          have hc_A1_9 : xc G (A 1) (.inl (ty 2, 8, .inl un)) H_9 := y_1.kept (hs_9.2.2 _ (hA.1 1 (by decide)))
          have hc_A2_9 : xc G (A 2) (.inl (ty 0, 256, .inr (.inr (.inr (.inl co))))) H_9 := y_2.kept (hs_9.2.2 _ (hA.1 2 (by decide)))
          have hc_A3_9 : xc G (A 3) (.inl (ty 0, 32, .inr (.inr (.inr (.inl dr))))) H_9 := y_3.kept (hs_9.2.2 _ (hA.1 3 (by decide)))
          have hc_A4_9 : xc G (A 4) (.inl (ty 2, 64, .inl bu)) H_9 := y_4.kept (hs_9.2.2 _ (hA.1 4 (by decide)))
          have hc_A5_9 : xc G (A 5) (.inl (ty 0, 4, .inr (.inr (.inr (.inl wi))))) H_9 := y_5.kept (hs_9.2.2 _ (hA.1 5 (by decide)))
          have hc_A6_9 : xc G (A 6) (.inl (ty 0, 4, .inr (.inr (.inr (.inl hi))))) H_9 := y_6.kept (hs_9.2.2 _ (hA.1 6 (by decide)))
          have hc_A7_9 : xc G (A 7) (.inl (ty 1, 4, .inl fc)) H_9 := y_7.kept (hs_9.2.2 _ (hA.1 7 (by decide)))
          have hc_A8_9 : xc G (A 8) (.inl (ty 0, 128, .inr (.inr (.inr (.inl fa))))) H_9 := y_8.kept (hs_9.2.2 _ (hA.1 8 (by decide)))
          have hc_A9_9 : xc G (A 9) (.inl (ty 1, 8, .inl lo)) H_9 := y_9.kept (hs_9.2.2 _ (hA.1 9 (by decide)))
          have hc_A10_9 : xc G (A 10) (.inl (ty 1, 8, .inl la)) H_9 := y_10.kept (hs_9.2.2 _ (hA.1 10 (by decide)))
          have hfr_9 : xRfr m0 A H H_9 := xRfr.put0 xRfr.rf hs_9
          refine lv_aload_n hx hb dX7_lies_26 rfl (lv_at hl 0 rfl) ?_
          refine va_get (D := G) (cl := vwCl) (ci := 8) (v := .int (nI 0)) (C := RX7) (T := TX7) (N := 18) hx hb (hts d0) in_X7_lies_X7 hown hK.1 (x1 hc_9) 0 rfl rfl 0 (by decide) (hts d0 _ hw_X7_lies_1) (fun _ h9 => h9) rfl dX7_lies_27 ?_
          refine lv_if_le (tgt := 37) hx hb dX7_lies_30 (by decide) (fun _ => ?_) (fun h9 => absurd (by decide) h9)
          refine lv_iload_n hx hb dX7_lies_37 rfl (lv_at hl 2 rfl) ?_
          refine lv_if_ne (tgt := 50) hx hb dX7_lies_38 (by decide) (fun c_11 => ?_) (fun c_11 => ?_)
          · refine lv_aload_n hx hb dX7_lies_50 rfl (lv_at hl 0 rfl) ?_
            refine va_get (D := G) (cl := vwCl) (ci := 8) (v := .ref (A 10)) (C := RX7) (T := TX7) (N := 18) hx hb (hts d0) in_X7_lies_X7 hown hK.1 (x1 hc_9) 0 rfl rfl 14 (by decide) (hts d0 _ hw_X7_lies_3) (fun _ h9 => h9) rfl dX7_lies_51 ?_
            refine lv_iload_n hx hb dX7_lies_54 rfl (lv_at hl 1 rfl) ?_
            refine xiald (j := x9) hx hb hK.1 1 hc_A10_9 rfl (xix_of (by omega) (by omega)) dX7_lies_55 ?_
            exact xiret hd0 hx hb hr hlocks hS (Nat.le_of_ble_eq_true rfl) (Nat.le_of_ble_eq_true rfl) dX7_lies_56 ⟨nI 0, ⟨hc_9, hc_A0_9, hc_A1_9, hc_A2_9, hc_A3_9, hc_A4_9, hc_A5_9, hc_A6_9, hc_A7_9, hc_A8_9, hc_A9_9, hc_A10_9⟩, hfr_9, _, rfl, Or.inl ⟨rfl, z9, by rw [if_neg c_11, nN_nI (by omega)]⟩⟩
          · refine lv_aload_n hx hb dX7_lies_41 rfl (lv_at hl 0 rfl) ?_
            refine va_get (D := G) (cl := vwCl) (ci := 8) (v := .ref (A 9)) (C := RX7) (T := TX7) (N := 18) hx hb (hts d0) in_X7_lies_X7 hown hK.1 (x1 hc_9) 0 rfl rfl 13 (by decide) (hts d0 _ hw_X7_lies_2) (fun _ h9 => h9) rfl dX7_lies_42 ?_
            refine lv_iload_n hx hb dX7_lies_45 rfl (lv_at hl 1 rfl) ?_
            refine xiald (j := x9) hx hb hK.1 1 hc_A9_9 rfl (xix_of (by omega) (by omega)) dX7_lies_46 ?_
            refine lv_goto (tgt := 56) hx hb dX7_lies_47 (by decide) ?_
            exact xiret hd0 hx hb hr hlocks hS (Nat.le_of_ble_eq_true rfl) (Nat.le_of_ble_eq_true rfl) dX7_lies_56 ⟨nI 0, ⟨hc_9, hc_A0_9, hc_A1_9, hc_A2_9, hc_A3_9, hc_A4_9, hc_A5_9, hc_A6_9, hc_A7_9, hc_A8_9, hc_A9_9, hc_A10_9⟩, hfr_9, _, rfl, Or.inl ⟨rfl, z9, by rw [if_pos c_11, nN_nI (by omega)]⟩⟩
        · refine lv_iconst (v := nI 1) hx hb dX7_lies_18 (by decide) ?_
          refine lv_goto (tgt := 23) hx hb dX7_lies_19 (by decide) ?_
          refine xput (G := G) (ci := 8) (v := .int (nI 1)) (ty := .int) (C := RX7) (T := TX7) (N := 18) hx hb (hts d0) in_X7_lies_X7 tyX7 tyX7_ok nmX7 hown hK.1 y_o hS hB.1 rfl 0 (by decide) (hts d0 _ hw_X7_lies_1) (fun _ h9 => h9) rfl (by decide +kernel) rfl rfl (Nat.le_of_ble_eq_true rfl) dX7_lies_23 (fun H_12 locs_12 hs_12 hS => ?_)
          have hc_12 : xc G m0 (.inr (8, [.int (nI 1), .int (nI F), .int (nI R), .ref (A 0), .ref (A 1), .ref (A 2), .ref (A 3), .ref (A 4), .int (nI nb), .ref (A 5), .ref (A 6), .ref (A 7), .ref (A 8), .ref (A 9), .ref (A 10), .double px, .double py, .double pz])) H_12 := hs_12.1
          have hc_A0_12 : xc G (A 0) (.inl (ty 0, 192, .inr (.inr (.inr (.inl pl))))) H_12 := y_0.kept (hs_12.2.2 _ (hA.1 0 (by decide)))
          have hc_A1_12 : xc G (A 1) (.inl (ty 2, 8, .inl un)) H_12 := y_1.kept (hs_12.2.2 _ (hA.1 1 (by decide)))
          have hc_A2_12 : xc G (A 2) (.inl (ty 0, 256, .inr (.inr (.inr (.inl co))))) H_12 := y_2.kept (hs_12.2.2 _ (hA.1 2 (by decide)))
          have hc_A3_12 : xc G (A 3) (.inl (ty 0, 32, .inr (.inr (.inr (.inl dr))))) H_12 := y_3.kept (hs_12.2.2 _ (hA.1 3 (by decide)))
          have hc_A4_12 : xc G (A 4) (.inl (ty 2, 64, .inl bu)) H_12 := y_4.kept (hs_12.2.2 _ (hA.1 4 (by decide)))
          have hc_A5_12 : xc G (A 5) (.inl (ty 0, 4, .inr (.inr (.inr (.inl wi))))) H_12 := y_5.kept (hs_12.2.2 _ (hA.1 5 (by decide)))
          have hc_A6_12 : xc G (A 6) (.inl (ty 0, 4, .inr (.inr (.inr (.inl hi))))) H_12 := y_6.kept (hs_12.2.2 _ (hA.1 6 (by decide)))
          have hc_A7_12 : xc G (A 7) (.inl (ty 1, 4, .inl fc)) H_12 := y_7.kept (hs_12.2.2 _ (hA.1 7 (by decide)))
          have hc_A8_12 : xc G (A 8) (.inl (ty 0, 128, .inr (.inr (.inr (.inl fa))))) H_12 := y_8.kept (hs_12.2.2 _ (hA.1 8 (by decide)))
          have hc_A9_12 : xc G (A 9) (.inl (ty 1, 8, .inl lo)) H_12 := y_9.kept (hs_12.2.2 _ (hA.1 9 (by decide)))
          have hc_A10_12 : xc G (A 10) (.inl (ty 1, 8, .inl la)) H_12 := y_10.kept (hs_12.2.2 _ (hA.1 10 (by decide)))
          have hfr_12 : xRfr m0 A H H_12 := xRfr.put0 xRfr.rf hs_12
          refine lv_aload_n hx hb dX7_lies_26 rfl (lv_at hl 0 rfl) ?_
          refine va_get (D := G) (cl := vwCl) (ci := 8) (v := .int (nI 1)) (C := RX7) (T := TX7) (N := 18) hx hb (hts d0) in_X7_lies_X7 hown hK.1 (x1 hc_12) 0 rfl rfl 0 (by decide) (hts d0 _ hw_X7_lies_1) (fun _ h9 => h9) rfl dX7_lies_27 ?_
          refine lv_if_le (tgt := 37) hx hb dX7_lies_30 (by decide) (fun h9 => absurd h9 (by decide)) (fun _ => ?_)
          refine lv_iconst (v := nI 0) hx hb dX7_lies_33 (by decide) ?_
          refine lv_goto (tgt := 56) hx hb dX7_lies_34 (by decide) ?_
          exact xiret hd0 hx hb hr hlocks hS (Nat.le_of_ble_eq_true rfl) (Nat.le_of_ble_eq_true rfl) dX7_lies_56 ⟨nI 1, ⟨hc_12, hc_A0_12, hc_A1_12, hc_A2_12, hc_A3_12, hc_A4_12, hc_A5_12, hc_A6_12, hc_A7_12, hc_A8_12, hc_A9_12, hc_A10_12⟩, hfr_12, _, rfl, Or.inr ⟨rfl, fun z => xin_gt c_8 (by decide) z.2⟩⟩
set_option maxRecDepth 20000 in
theorem ggX7_areStaves_X7_between : GoodIn wsX7_areStaves wsX7_between := goodIn_r _ [6] (by decide +kernel) (by decide +kernel)
set_option maxRecDepth 20000 in
theorem gX7_areStaves_X7_between : GoodIn wsX7_areStaves (va_wsS RX7 61 yX7_between wsX7_between) := goodIn_app (goodIn_of _ (by decide +kernel)) ggX7_areStaves_X7_between
theorem dX7_areStaves_0 : decode cX7_areStaves 0 = .ok (.dload_n 0, 1) := by decide +kernel
theorem dX7_areStaves_1 : decode cX7_areStaves 1 = .ok (.ldc2_w 125, 3) := by decide +kernel
theorem dX7_areStaves_4 : decode cX7_areStaves 4 = .ok (.ldc2_w 59, 3) := by decide +kernel
theorem dX7_areStaves_7 : decode cX7_areStaves 7 = .ok (.invokestatic 61, 3) := by decide +kernel
theorem dX7_areStaves_10 : decode cX7_areStaves 10 = .ok (.ifCond .eq 18, 3) := by decide +kernel
theorem dX7_areStaves_13 : decode cX7_areStaves 13 = .ok (.dload_n 2, 1) := by decide +kernel
theorem dX7_areStaves_14 : decode cX7_areStaves 14 = .ok (.dconst 0, 1) := by decide +kernel
theorem dX7_areStaves_15 : decode cX7_areStaves 15 = .ok (.ldc2_w 59, 3) := by decide +kernel
theorem dX7_areStaves_18 : decode cX7_areStaves 18 = .ok (.invokestatic 61, 3) := by decide +kernel
theorem dX7_areStaves_21 : decode cX7_areStaves 21 = .ok (.ifCond .eq 7, 3) := by decide +kernel
theorem dX7_areStaves_24 : decode cX7_areStaves 24 = .ok (.iconst 1, 1) := by decide +kernel
theorem dX7_areStaves_25 : decode cX7_areStaves 25 = .ok (.goto 4, 3) := by decide +kernel
theorem dX7_areStaves_28 : decode cX7_areStaves 28 = .ok (.iconst 0, 1) := by decide +kernel
theorem dX7_areStaves_29 : decode cX7_areStaves 29 = .ok (.ireturn, 1) := by decide +kernel
abbrev rm_X7_areStaves : Room := { frames := 6, cells := 0, slots := 0, locals := 90 }
theorem hw_X7_areStaves_1 : (Cond.constantDouble RX7 125 (4593671619917905920)) ∈ wsX7_areStaves := List.mem_of_getElem? (i := 1) rfl
theorem hw_X7_areStaves_2 : (Cond.constantDouble RX7 59 (4652007308841189376)) ∈ wsX7_areStaves := List.mem_of_getElem? (i := 2) rfl
set_option maxHeartbeats 4000000 in
set_option maxRecDepth 100000 in
/-- whether staves may be so -/
theorem c_X7_areStaves {l : Launch} {G : va_G} {ty : Nat → ClassId} {b0 : Nat} {H : Heap} {x d ew ed : UInt64} (hx9 : vq x ew) (hd9 : vq d ed) : xMet l yX7_areStaves wsX7_areStaves rm_X7_areStaves G ty b0 [.double x, .double d] H (fun v H1 => H = H1 ∧ v = some (.int (xB (pStav ew ed)))) (fun _ _ => False) := by
  refine xbody (cc := cX7_areStaves) (maxL := 4) (ret := (some .boolean)) (C := RX7) (lv := [(0, .double x), (2, .double d)]) (by decide) rfl rfl (Nat.le_of_ble_eq_true rfl) rfl ?_
  intro p e s m below meth c d0 hx hb hr hts hown hlocks hml hxt hnm0 hK hb0 hH0 hS hd0 ls hl
  refine lv_dload_n hx hb dX7_areStaves_0 rfl (lv_at hl 0 rfl) ?_
  refine lv_ldc2d hx hb hown (hts d0 _ hw_X7_areStaves_1) dX7_areStaves_1 ?_
  refine lv_ldc2d hx hb hown (hts d0 _ hw_X7_areStaves_2) dX7_areStaves_4 ?_
  have cw_1 := va_cwS (R := rm_X7_areStaves) (rm := rm_X7_between) 3 (hts d0) gX7_areStaves_X7_between rfl rfl rfl (by decide +kernel) ⟨Nat.le_of_ble_eq_true rfl, Nat.le_of_ble_eq_true rfl⟩
  refine xcall hd0 (xintoS (As := [.double x, .double 4593671619917905920, .double 4652007308841189376]) (rest := []) ⟨hx, hb, hml, hown, hts _⟩ cw_1 rfl rfl hl.1 rfl (lv_room (Nat.le_of_ble_eq_true rfl)) dX7_areStaves_7) (c_X7_between (l := l) (G := G) (ty := ty) (b0 := b0) hx9 (vq_rf _) (vq_rf _)) (xoweB cw_1.1) hK hb0 hS (Nat.le_of_ble_eq_true rfl) (Nat.le_of_ble_eq_true rfl) (fun E_1 ce_1 q9_1 H_1 locs_1 d0 hd0 hp_1 hS hce_1 hcv_1 hcl_1 => ?_) (fun v_1 H_1 locs_1 d0 hd0 hp_1 hS => ?_)
  · exact hp_1.elim
  · obtain ⟨rfl, rfl⟩ := hp_1
    show W p l e _ (s.setDrawn _) m _ below meth c _ _ _ _ _ (F0 m 10 ls [.int (xB (pBetween ew 4593671619917905920 4652007308841189376))])
    refine lv_if_eq (tgt := 28) hx hb dX7_areStaves_10 (by decide) (fun c_2 => ?_) (fun c_2 => ?_)
    · refine lv_iconst (v := nI 0) hx hb dX7_areStaves_28 (by decide) ?_
      exact xzret (by decide) hd0 hx hb hr hlocks hS (Nat.le_of_ble_eq_true rfl) (Nat.le_of_ble_eq_true rfl) dX7_areStaves_29 ⟨rfl, by rw [pStav_f1 c_2]; rfl⟩
    · refine lv_dload_n hx hb dX7_areStaves_13 rfl (lv_at hl 1 rfl) ?_
      refine lv_dconst0 hx hb dX7_areStaves_14 ?_
      refine lv_ldc2d hx hb hown (hts d0 _ hw_X7_areStaves_2) dX7_areStaves_15 ?_
      have cw_3 := va_cwS (R := rm_X7_areStaves) (rm := rm_X7_between) 3 (hts d0) gX7_areStaves_X7_between rfl rfl rfl (by decide +kernel) ⟨Nat.le_of_ble_eq_true rfl, Nat.le_of_ble_eq_true rfl⟩
      refine xcall hd0 (xintoS (As := [.double d, .double FP.dconst0, .double 4652007308841189376]) (rest := []) ⟨hx, hb, hml, hown, hts _⟩ cw_3 rfl rfl hl.1 rfl (lv_room (Nat.le_of_ble_eq_true rfl)) dX7_areStaves_18) (c_X7_between (l := l) (G := G) (ty := ty) (b0 := b0) hd9 (vq_rf _) (vq_rf _)) (xoweB cw_3.1) hK hb0 hS (Nat.le_of_ble_eq_true rfl) (Nat.le_of_ble_eq_true rfl) (fun E_3 ce_3 q9_3 H_3 locs_3 d0 hd0 hp_3 hS hce_3 hcv_3 hcl_3 => ?_) (fun v_3 H_3 locs_3 d0 hd0 hp_3 hS => ?_)
      · exact hp_3.elim
      · obtain ⟨rfl, rfl⟩ := hp_3
        show W p l e _ (s.setDrawn _) m _ below meth c _ _ _ _ _ (F0 m 21 ls [.int (xB (pBetween ed FP.dconst0 4652007308841189376))])
        refine lv_if_eq (tgt := 28) hx hb dX7_areStaves_21 (by decide) (fun c_4 => ?_) (fun c_4 => ?_)
        · refine lv_iconst (v := nI 0) hx hb dX7_areStaves_28 (by decide) ?_
          exact xzret (by decide) hd0 hx hb hr hlocks hS (Nat.le_of_ble_eq_true rfl) (Nat.le_of_ble_eq_true rfl) dX7_areStaves_29 ⟨rfl, by rw [pStav_f2 c_4]; rfl⟩
        · refine lv_iconst (v := nI 1) hx hb dX7_areStaves_24 (by decide) ?_
          refine lv_goto (tgt := 29) hx hb dX7_areStaves_25 (by decide) ?_
          exact xzret (by decide) hd0 hx hb hr hlocks hS (Nat.le_of_ble_eq_true rfl) (Nat.le_of_ble_eq_true rfl) dX7_areStaves_29 ⟨rfl, by rw [pStav_t c_2 c_4]; rfl⟩
set_option maxRecDepth 20000 in
theorem ggX7_closes_X7_areStaves : GoodIn wsX7_closes wsX7_areStaves := goodIn_r _ [7, 8, 9, 10, 11, 6, 12] (by decide +kernel) (by decide +kernel)
set_option maxRecDepth 20000 in
theorem gX7_closes_X7_areStaves : GoodIn wsX7_closes (va_wsS RX7 136 yX7_areStaves wsX7_areStaves) := goodIn_app (goodIn_of _ (by decide +kernel)) ggX7_closes_X7_areStaves
theorem dX7_closes_0 : decode cX7_closes 0 = .ok (.aload_n 0, 1) := by decide +kernel
theorem dX7_closes_1 : decode cX7_closes 1 = .ok (.dload_n 2, 1) := by decide +kernel
theorem dX7_closes_2 : decode cX7_closes 2 = .ok (.dload 4, 2) := by decide +kernel
theorem dX7_closes_4 : decode cX7_closes 4 = .ok (.invokestatic 136, 3) := by decide +kernel
theorem dX7_closes_7 : decode cX7_closes 7 = .ok (.ifCond .eq 18, 3) := by decide +kernel
theorem dX7_closes_10 : decode cX7_closes 10 = .ok (.iload_n 1, 1) := by decide +kernel
theorem dX7_closes_11 : decode cX7_closes 11 = .ok (.iconst 1, 1) := by decide +kernel
theorem dX7_closes_12 : decode cX7_closes 12 = .ok (.if_icmp .lt 13, 3) := by decide +kernel
theorem dX7_closes_15 : decode cX7_closes 15 = .ok (.iload_n 1, 1) := by decide +kernel
theorem dX7_closes_16 : decode cX7_closes 16 = .ok (.ldc 142, 2) := by decide +kernel
theorem dX7_closes_18 : decode cX7_closes 18 = .ok (.if_icmp .gt 7, 3) := by decide +kernel
theorem dX7_closes_21 : decode cX7_closes 21 = .ok (.iconst 0, 1) := by decide +kernel
theorem dX7_closes_22 : decode cX7_closes 22 = .ok (.goto 4, 3) := by decide +kernel
theorem dX7_closes_25 : decode cX7_closes 25 = .ok (.iconst 1, 1) := by decide +kernel
theorem dX7_closes_26 : decode cX7_closes 26 = .ok (.putfield 52, 3) := by decide +kernel
theorem dX7_closes_29 : decode cX7_closes 29 = .ok (.aload_n 0, 1) := by decide +kernel
theorem dX7_closes_30 : decode cX7_closes 30 = .ok (.getfield 52, 3) := by decide +kernel
theorem dX7_closes_33 : decode cX7_closes 33 = .ok (.ifCond .le 7, 3) := by decide +kernel
theorem dX7_closes_36 : decode cX7_closes 36 = .ok (.dconst 0, 1) := by decide +kernel
theorem dX7_closes_37 : decode cX7_closes 37 = .ok (.goto 14, 3) := by decide +kernel
theorem dX7_closes_40 : decode cX7_closes 40 = .ok (.iload_n 1, 1) := by decide +kernel
theorem dX7_closes_41 : decode cX7_closes 41 = .ok (.i2d, 1) := by decide +kernel
theorem dX7_closes_42 : decode cX7_closes 42 = .ok (.dload_n 2, 1) := by decide +kernel
theorem dX7_closes_43 : decode cX7_closes 43 = .ok (.dmul, 1) := by decide +kernel
theorem dX7_closes_44 : decode cX7_closes 44 = .ok (.dload 4, 2) := by decide +kernel
theorem dX7_closes_46 : decode cX7_closes 46 = .ok (.ldc2_w 140, 3) := by decide +kernel
theorem dX7_closes_49 : decode cX7_closes 49 = .ok (.dmul, 1) := by decide +kernel
theorem dX7_closes_50 : decode cX7_closes 50 = .ok (.dsub, 1) := by decide +kernel
theorem dX7_closes_51 : decode cX7_closes 51 = .ok (.dreturn, 1) := by decide +kernel
abbrev rm_X7_closes : Room := { frames := 7, cells := 0, slots := 0, locals := 140 }
theorem hw_X7_closes_1 : (Cond.constant RX7 142 (100000)) ∈ wsX7_closes := List.mem_of_getElem? (i := 1) rfl
theorem hw_X7_closes_2 : (Cond.fieldLink RX7 52 "PlankUnrollModel" "thrown" "I") ∈ wsX7_closes := List.mem_of_getElem? (i := 2) rfl
theorem hw_X7_closes_3 : (Cond.constantDouble RX7 140 (4614256656552045848)) ∈ wsX7_closes := List.mem_of_getElem? (i := 3) rfl
theorem in_X7_closes_X7 : ∀ w ∈ wsX70, w ∈ wsX7_closes := by decide +kernel
set_option maxHeartbeats 4000000 in
set_option maxRecDepth 100000 in
/-- closes -/
theorem c_X7_closes {l : Launch} {G : va_G} {ty : Nat → ClassId} {b0 : Nat} {H : Heap} {n : Int32} {x d ew ed : UInt64} (hx9 : vq x ew) (hd9 : vq d ed) {m0 : Nat} {A : Nat → Nat} {th : Int32} {F R nb : Nat} {pl co dr wi hi fa : Nat → UInt64} {un bu fc lo la : Nat → Int32} {px py pz : UInt64} (hY : xRef G ty m0 A th F R pl un co dr bu nb wi hi fc fa lo la px py pz H) (hZ : xSz F R) (hA : xAp m0 A) (hB : xNw b0 m0 A) : xMet l yX7_closes wsX7_closes rm_X7_closes G ty b0 [.ref m0, .int (n), .double x, .double d] H (fun v H1 => ∃ T : Int32, xRef G ty m0 A T F R pl un co dr bu nb wi hi fc fa lo la px py pz H1 ∧ xRfr m0 A H H1 ∧ ∃ z : UInt64, v = some (.double z) ∧ ((T = nI 0 ∧ (pStav ew ed = true ∧ ¬ n < nI 1 ∧ ¬ nI 100000 < n) ∧ vq z (FP.dsub (FP.dmul (FP.i2d n) ew) (FP.dmul ed 4614256656552045848))) ∨ (T = nI 1 ∧ ¬ (pStav ew ed = true ∧ ¬ n < nI 1 ∧ ¬ nI 100000 < n)))) (fun _ _ => False) := by
  refine xbody (cc := cX7_closes) (maxL := 6) (ret := (some .double)) (C := RX7) (lv := [(0, .ref m0), (1, .int (n)), (2, .double x), (4, .double d)]) (by decide) rfl rfl (Nat.le_of_ble_eq_true rfl) rfl ?_
  intro p e s m below meth c d0 hx hb hr hts hown hlocks hml hxt hnm0 hK hb0 hH0 hS hd0 ls hl
  obtain ⟨y_o, y_0, y_1, y_2, y_3, y_4, y_5, y_6, y_7, y_8, y_9, y_10⟩ := id hY
  obtain ⟨⟨zF2, zF8⟩, ⟨zR2, zR8⟩⟩ := id hZ
  refine lv_aload_n hx hb dX7_closes_0 rfl (lv_at hl 0 rfl) ?_
  refine lv_dload_n hx hb dX7_closes_1 rfl (lv_at hl 2 rfl) ?_
  refine lv_dload hx hb dX7_closes_2 (lv_at hl 3 rfl) ?_
  have cw_1 := va_cwS (R := rm_X7_closes) (rm := rm_X7_areStaves) 2 (hts d0) gX7_closes_X7_areStaves rfl rfl rfl (by decide +kernel) ⟨Nat.le_of_ble_eq_true rfl, Nat.le_of_ble_eq_true rfl⟩
  refine xcall hd0 (xintoS (As := [.double x, .double d]) (rest := [.ref m0]) ⟨hx, hb, hml, hown, hts _⟩ cw_1 rfl rfl hl.1 rfl (lv_room (Nat.le_of_ble_eq_true rfl)) dX7_closes_4) (c_X7_areStaves (l := l) (G := G) (ty := ty) (b0 := b0) hx9 hd9) (xoweB cw_1.1) hK hb0 hS (Nat.le_of_ble_eq_true rfl) (Nat.le_of_ble_eq_true rfl) (fun E_1 ce_1 q9_1 H_1 locs_1 d0 hd0 hp_1 hS hce_1 hcv_1 hcl_1 => ?_) (fun v_1 H_1 locs_1 d0 hd0 hp_1 hS => ?_)
  · exact hp_1.elim
  · obtain ⟨rfl, rfl⟩ := hp_1
    show W p l e _ (s.setDrawn _) m _ below meth c _ _ _ _ _ (F0 m 7 ls [.int (xB (pStav ew ed)), .ref m0])
    refine lv_if_eq (tgt := 25) hx hb dX7_closes_7 (by decide) (fun c_2 => ?_) (fun c_2 => ?_)
    · refine lv_iconst (v := nI 1) hx hb dX7_closes_25 (by decide) ?_
      refine xput (G := G) (ci := 8) (v := .int (nI 1)) (ty := .int) (C := RX7) (T := TX7) (N := 18) hx hb (hts d0) in_X7_closes_X7 tyX7 tyX7_ok nmX7 hown hK.1 y_o hS hB.1 rfl 0 (by decide) (hts d0 _ hw_X7_closes_2) (fun _ h9 => h9) rfl (by decide +kernel) rfl rfl (Nat.le_of_ble_eq_true rfl) dX7_closes_26 (fun H_3 locs_3 hs_3 hS => ?_)
      have hc_3 : xc G m0 (.inr (8, [.int (nI 1), .int (nI F), .int (nI R), .ref (A 0), .ref (A 1), .ref (A 2), .ref (A 3), .ref (A 4), .int (nI nb), .ref (A 5), .ref (A 6), .ref (A 7), .ref (A 8), .ref (A 9), .ref (A 10), .double px, .double py, .double pz])) H_3 := hs_3.1
      have hc_A0_3 : xc G (A 0) (.inl (ty 0, 192, .inr (.inr (.inr (.inl pl))))) H_3 := y_0.kept (hs_3.2.2 _ (hA.1 0 (by decide)))
      have hc_A1_3 : xc G (A 1) (.inl (ty 2, 8, .inl un)) H_3 := y_1.kept (hs_3.2.2 _ (hA.1 1 (by decide)))
      have hc_A2_3 : xc G (A 2) (.inl (ty 0, 256, .inr (.inr (.inr (.inl co))))) H_3 := y_2.kept (hs_3.2.2 _ (hA.1 2 (by decide)))
      have hc_A3_3 : xc G (A 3) (.inl (ty 0, 32, .inr (.inr (.inr (.inl dr))))) H_3 := y_3.kept (hs_3.2.2 _ (hA.1 3 (by decide)))
      have hc_A4_3 : xc G (A 4) (.inl (ty 2, 64, .inl bu)) H_3 := y_4.kept (hs_3.2.2 _ (hA.1 4 (by decide)))
      have hc_A5_3 : xc G (A 5) (.inl (ty 0, 4, .inr (.inr (.inr (.inl wi))))) H_3 := y_5.kept (hs_3.2.2 _ (hA.1 5 (by decide)))
      have hc_A6_3 : xc G (A 6) (.inl (ty 0, 4, .inr (.inr (.inr (.inl hi))))) H_3 := y_6.kept (hs_3.2.2 _ (hA.1 6 (by decide)))
      have hc_A7_3 : xc G (A 7) (.inl (ty 1, 4, .inl fc)) H_3 := y_7.kept (hs_3.2.2 _ (hA.1 7 (by decide)))
      have hc_A8_3 : xc G (A 8) (.inl (ty 0, 128, .inr (.inr (.inr (.inl fa))))) H_3 := y_8.kept (hs_3.2.2 _ (hA.1 8 (by decide)))
      have hc_A9_3 : xc G (A 9) (.inl (ty 1, 8, .inl lo)) H_3 := y_9.kept (hs_3.2.2 _ (hA.1 9 (by decide)))
      have hc_A10_3 : xc G (A 10) (.inl (ty 1, 8, .inl la)) H_3 := y_10.kept (hs_3.2.2 _ (hA.1 10 (by decide)))
      have hfr_3 : xRfr m0 A H H_3 := xRfr.put0 xRfr.rf hs_3
      refine lv_aload_n hx hb dX7_closes_29 rfl (lv_at hl 0 rfl) ?_
      refine va_get (D := G) (cl := vwCl) (ci := 8) (v := .int (nI 1)) (C := RX7) (T := TX7) (N := 18) hx hb (hts d0) in_X7_closes_X7 hown hK.1 (x1 hc_3) 0 rfl rfl 0 (by decide) (hts d0 _ hw_X7_closes_2) (fun _ h9 => h9) rfl dX7_closes_30 ?_
      refine lv_if_le (tgt := 40) hx hb dX7_closes_33 (by decide) (fun h9 => absurd h9 (by decide)) (fun _ => ?_)
      refine lv_dconst0 hx hb dX7_closes_36 ?_
      refine lv_goto (tgt := 51) hx hb dX7_closes_37 (by decide) ?_
      exact xdret hd0 hx hb hr hlocks hS (Nat.le_of_ble_eq_true rfl) (Nat.le_of_ble_eq_true rfl) dX7_closes_51 ⟨nI 1, ⟨hc_3, hc_A0_3, hc_A1_3, hc_A2_3, hc_A3_3, hc_A4_3, hc_A5_3, hc_A6_3, hc_A7_3, hc_A8_3, hc_A9_3, hc_A10_3⟩, hfr_3, _, rfl, Or.inr ⟨rfl, fun z => xtf z.1 (xB_f c_2)⟩⟩
    · refine lv_iload_n hx hb dX7_closes_10 rfl (lv_at hl 1 rfl) ?_
      refine lv_iconst (v := nI 1) hx hb dX7_closes_11 (by decide) ?_
      refine lv_icmp_lt (tgt := 25) hx hb dX7_closes_12 (by decide) (fun c_5 => ?_) (fun c_5 => ?_)
      · refine lv_iconst (v := nI 1) hx hb dX7_closes_25 (by decide) ?_
        refine xput (G := G) (ci := 8) (v := .int (nI 1)) (ty := .int) (C := RX7) (T := TX7) (N := 18) hx hb (hts d0) in_X7_closes_X7 tyX7 tyX7_ok nmX7 hown hK.1 y_o hS hB.1 rfl 0 (by decide) (hts d0 _ hw_X7_closes_2) (fun _ h9 => h9) rfl (by decide +kernel) rfl rfl (Nat.le_of_ble_eq_true rfl) dX7_closes_26 (fun H_6 locs_6 hs_6 hS => ?_)
        have hc_6 : xc G m0 (.inr (8, [.int (nI 1), .int (nI F), .int (nI R), .ref (A 0), .ref (A 1), .ref (A 2), .ref (A 3), .ref (A 4), .int (nI nb), .ref (A 5), .ref (A 6), .ref (A 7), .ref (A 8), .ref (A 9), .ref (A 10), .double px, .double py, .double pz])) H_6 := hs_6.1
        have hc_A0_6 : xc G (A 0) (.inl (ty 0, 192, .inr (.inr (.inr (.inl pl))))) H_6 := y_0.kept (hs_6.2.2 _ (hA.1 0 (by decide)))
        have hc_A1_6 : xc G (A 1) (.inl (ty 2, 8, .inl un)) H_6 := y_1.kept (hs_6.2.2 _ (hA.1 1 (by decide)))
        have hc_A2_6 : xc G (A 2) (.inl (ty 0, 256, .inr (.inr (.inr (.inl co))))) H_6 := y_2.kept (hs_6.2.2 _ (hA.1 2 (by decide)))
        have hc_A3_6 : xc G (A 3) (.inl (ty 0, 32, .inr (.inr (.inr (.inl dr))))) H_6 := y_3.kept (hs_6.2.2 _ (hA.1 3 (by decide)))
        have hc_A4_6 : xc G (A 4) (.inl (ty 2, 64, .inl bu)) H_6 := y_4.kept (hs_6.2.2 _ (hA.1 4 (by decide)))
        have hc_A5_6 : xc G (A 5) (.inl (ty 0, 4, .inr (.inr (.inr (.inl wi))))) H_6 := y_5.kept (hs_6.2.2 _ (hA.1 5 (by decide)))
        have hc_A6_6 : xc G (A 6) (.inl (ty 0, 4, .inr (.inr (.inr (.inl hi))))) H_6 := y_6.kept (hs_6.2.2 _ (hA.1 6 (by decide)))
        have hc_A7_6 : xc G (A 7) (.inl (ty 1, 4, .inl fc)) H_6 := y_7.kept (hs_6.2.2 _ (hA.1 7 (by decide)))
        have hc_A8_6 : xc G (A 8) (.inl (ty 0, 128, .inr (.inr (.inr (.inl fa))))) H_6 := y_8.kept (hs_6.2.2 _ (hA.1 8 (by decide)))
        have hc_A9_6 : xc G (A 9) (.inl (ty 1, 8, .inl lo)) H_6 := y_9.kept (hs_6.2.2 _ (hA.1 9 (by decide)))
        have hc_A10_6 : xc G (A 10) (.inl (ty 1, 8, .inl la)) H_6 := y_10.kept (hs_6.2.2 _ (hA.1 10 (by decide)))
        have hfr_6 : xRfr m0 A H H_6 := xRfr.put0 xRfr.rf hs_6
        refine lv_aload_n hx hb dX7_closes_29 rfl (lv_at hl 0 rfl) ?_
        refine va_get (D := G) (cl := vwCl) (ci := 8) (v := .int (nI 1)) (C := RX7) (T := TX7) (N := 18) hx hb (hts d0) in_X7_closes_X7 hown hK.1 (x1 hc_6) 0 rfl rfl 0 (by decide) (hts d0 _ hw_X7_closes_2) (fun _ h9 => h9) rfl dX7_closes_30 ?_
        refine lv_if_le (tgt := 40) hx hb dX7_closes_33 (by decide) (fun h9 => absurd h9 (by decide)) (fun _ => ?_)
        refine lv_dconst0 hx hb dX7_closes_36 ?_
        refine lv_goto (tgt := 51) hx hb dX7_closes_37 (by decide) ?_
        exact xdret hd0 hx hb hr hlocks hS (Nat.le_of_ble_eq_true rfl) (Nat.le_of_ble_eq_true rfl) dX7_closes_51 ⟨nI 1, ⟨hc_6, hc_A0_6, hc_A1_6, hc_A2_6, hc_A3_6, hc_A4_6, hc_A5_6, hc_A6_6, hc_A7_6, hc_A8_6, hc_A9_6, hc_A10_6⟩, hfr_6, _, rfl, Or.inr ⟨rfl, fun z => z.2.1 c_5⟩⟩
      · refine lv_iload_n hx hb dX7_closes_15 rfl (lv_at hl 1 rfl) ?_
        refine lv_ldc (v := nI 100000) hx hb hown (hts d0 _ hw_X7_closes_1) dX7_closes_16 ?_
        refine lv_icmp_gt (tgt := 25) hx hb dX7_closes_18 (by decide) (fun c_8 => ?_) (fun c_8 => ?_)
        · refine lv_iconst (v := nI 1) hx hb dX7_closes_25 (by decide) ?_
          refine xput (G := G) (ci := 8) (v := .int (nI 1)) (ty := .int) (C := RX7) (T := TX7) (N := 18) hx hb (hts d0) in_X7_closes_X7 tyX7 tyX7_ok nmX7 hown hK.1 y_o hS hB.1 rfl 0 (by decide) (hts d0 _ hw_X7_closes_2) (fun _ h9 => h9) rfl (by decide +kernel) rfl rfl (Nat.le_of_ble_eq_true rfl) dX7_closes_26 (fun H_9 locs_9 hs_9 hS => ?_)
          have hc_9 : xc G m0 (.inr (8, [.int (nI 1), .int (nI F), .int (nI R), .ref (A 0), .ref (A 1), .ref (A 2), .ref (A 3), .ref (A 4), .int (nI nb), .ref (A 5), .ref (A 6), .ref (A 7), .ref (A 8), .ref (A 9), .ref (A 10), .double px, .double py, .double pz])) H_9 := hs_9.1
          have hc_A0_9 : xc G (A 0) (.inl (ty 0, 192, .inr (.inr (.inr (.inl pl))))) H_9 := y_0.kept (hs_9.2.2 _ (hA.1 0 (by decide)))
          have hc_A1_9 : xc G (A 1) (.inl (ty 2, 8, .inl un)) H_9 := y_1.kept (hs_9.2.2 _ (hA.1 1 (by decide)))
          have hc_A2_9 : xc G (A 2) (.inl (ty 0, 256, .inr (.inr (.inr (.inl co))))) H_9 := y_2.kept (hs_9.2.2 _ (hA.1 2 (by decide)))
          have hc_A3_9 : xc G (A 3) (.inl (ty 0, 32, .inr (.inr (.inr (.inl dr))))) H_9 := y_3.kept (hs_9.2.2 _ (hA.1 3 (by decide)))
          have hc_A4_9 : xc G (A 4) (.inl (ty 2, 64, .inl bu)) H_9 := y_4.kept (hs_9.2.2 _ (hA.1 4 (by decide)))
          have hc_A5_9 : xc G (A 5) (.inl (ty 0, 4, .inr (.inr (.inr (.inl wi))))) H_9 := y_5.kept (hs_9.2.2 _ (hA.1 5 (by decide)))
          have hc_A6_9 : xc G (A 6) (.inl (ty 0, 4, .inr (.inr (.inr (.inl hi))))) H_9 := y_6.kept (hs_9.2.2 _ (hA.1 6 (by decide)))
          have hc_A7_9 : xc G (A 7) (.inl (ty 1, 4, .inl fc)) H_9 := y_7.kept (hs_9.2.2 _ (hA.1 7 (by decide)))
          have hc_A8_9 : xc G (A 8) (.inl (ty 0, 128, .inr (.inr (.inr (.inl fa))))) H_9 := y_8.kept (hs_9.2.2 _ (hA.1 8 (by decide)))
          have hc_A9_9 : xc G (A 9) (.inl (ty 1, 8, .inl lo)) H_9 := y_9.kept (hs_9.2.2 _ (hA.1 9 (by decide)))
          have hc_A10_9 : xc G (A 10) (.inl (ty 1, 8, .inl la)) H_9 := y_10.kept (hs_9.2.2 _ (hA.1 10 (by decide)))
          have hfr_9 : xRfr m0 A H H_9 := xRfr.put0 xRfr.rf hs_9
          refine lv_aload_n hx hb dX7_closes_29 rfl (lv_at hl 0 rfl) ?_
          refine va_get (D := G) (cl := vwCl) (ci := 8) (v := .int (nI 1)) (C := RX7) (T := TX7) (N := 18) hx hb (hts d0) in_X7_closes_X7 hown hK.1 (x1 hc_9) 0 rfl rfl 0 (by decide) (hts d0 _ hw_X7_closes_2) (fun _ h9 => h9) rfl dX7_closes_30 ?_
          refine lv_if_le (tgt := 40) hx hb dX7_closes_33 (by decide) (fun h9 => absurd h9 (by decide)) (fun _ => ?_)
          refine lv_dconst0 hx hb dX7_closes_36 ?_
          refine lv_goto (tgt := 51) hx hb dX7_closes_37 (by decide) ?_
          exact xdret hd0 hx hb hr hlocks hS (Nat.le_of_ble_eq_true rfl) (Nat.le_of_ble_eq_true rfl) dX7_closes_51 ⟨nI 1, ⟨hc_9, hc_A0_9, hc_A1_9, hc_A2_9, hc_A3_9, hc_A4_9, hc_A5_9, hc_A6_9, hc_A7_9, hc_A8_9, hc_A9_9, hc_A10_9⟩, hfr_9, _, rfl, Or.inr ⟨rfl, fun z => z.2.2 c_8⟩⟩
        · refine lv_iconst (v := nI 0) hx hb dX7_closes_21 (by decide) ?_
          refine lv_goto (tgt := 26) hx hb dX7_closes_22 (by decide) ?_
          refine xput (G := G) (ci := 8) (v := .int (nI 0)) (ty := .int) (C := RX7) (T := TX7) (N := 18) hx hb (hts d0) in_X7_closes_X7 tyX7 tyX7_ok nmX7 hown hK.1 y_o hS hB.1 rfl 0 (by decide) (hts d0 _ hw_X7_closes_2) (fun _ h9 => h9) rfl (by decide +kernel) rfl rfl (Nat.le_of_ble_eq_true rfl) dX7_closes_26 (fun H_11 locs_11 hs_11 hS => ?_)
          have hc_11 : xc G m0 (.inr (8, [.int (nI 0), .int (nI F), .int (nI R), .ref (A 0), .ref (A 1), .ref (A 2), .ref (A 3), .ref (A 4), .int (nI nb), .ref (A 5), .ref (A 6), .ref (A 7), .ref (A 8), .ref (A 9), .ref (A 10), .double px, .double py, .double pz])) H_11 := hs_11.1
          have hc_A0_11 : xc G (A 0) (.inl (ty 0, 192, .inr (.inr (.inr (.inl pl))))) H_11 := y_0.kept (hs_11.2.2 _ (hA.1 0 (by decide)))
          have hc_A1_11 : xc G (A 1) (.inl (ty 2, 8, .inl un)) H_11 := y_1.kept (hs_11.2.2 _ (hA.1 1 (by decide)))
          have hc_A2_11 : xc G (A 2) (.inl (ty 0, 256, .inr (.inr (.inr (.inl co))))) H_11 := y_2.kept (hs_11.2.2 _ (hA.1 2 (by decide)))
          have hc_A3_11 : xc G (A 3) (.inl (ty 0, 32, .inr (.inr (.inr (.inl dr))))) H_11 := y_3.kept (hs_11.2.2 _ (hA.1 3 (by decide)))
          have hc_A4_11 : xc G (A 4) (.inl (ty 2, 64, .inl bu)) H_11 := y_4.kept (hs_11.2.2 _ (hA.1 4 (by decide)))
          have hc_A5_11 : xc G (A 5) (.inl (ty 0, 4, .inr (.inr (.inr (.inl wi))))) H_11 := y_5.kept (hs_11.2.2 _ (hA.1 5 (by decide)))
          have hc_A6_11 : xc G (A 6) (.inl (ty 0, 4, .inr (.inr (.inr (.inl hi))))) H_11 := y_6.kept (hs_11.2.2 _ (hA.1 6 (by decide)))
          have hc_A7_11 : xc G (A 7) (.inl (ty 1, 4, .inl fc)) H_11 := y_7.kept (hs_11.2.2 _ (hA.1 7 (by decide)))
          have hc_A8_11 : xc G (A 8) (.inl (ty 0, 128, .inr (.inr (.inr (.inl fa))))) H_11 := y_8.kept (hs_11.2.2 _ (hA.1 8 (by decide)))
          have hc_A9_11 : xc G (A 9) (.inl (ty 1, 8, .inl lo)) H_11 := y_9.kept (hs_11.2.2 _ (hA.1 9 (by decide)))
          have hc_A10_11 : xc G (A 10) (.inl (ty 1, 8, .inl la)) H_11 := y_10.kept (hs_11.2.2 _ (hA.1 10 (by decide)))
          have hfr_11 : xRfr m0 A H H_11 := xRfr.put0 xRfr.rf hs_11
          refine lv_aload_n hx hb dX7_closes_29 rfl (lv_at hl 0 rfl) ?_
          refine va_get (D := G) (cl := vwCl) (ci := 8) (v := .int (nI 0)) (C := RX7) (T := TX7) (N := 18) hx hb (hts d0) in_X7_closes_X7 hown hK.1 (x1 hc_11) 0 rfl rfl 0 (by decide) (hts d0 _ hw_X7_closes_2) (fun _ h9 => h9) rfl dX7_closes_30 ?_
          refine lv_if_le (tgt := 40) hx hb dX7_closes_33 (by decide) (fun _ => ?_) (fun h9 => absurd (by decide) h9)
          refine lv_iload_n hx hb dX7_closes_40 rfl (lv_at hl 1 rfl) ?_
          refine lv_i2d hx hb dX7_closes_41 ?_
          refine lv_dload_n hx hb dX7_closes_42 rfl (lv_at hl 2 rfl) ?_
          refine xdmul hd0 hx hb (vq_rf _) hx9 dX7_closes_43 (fun r_13 d0 q_13 hd0 => ?_)
          refine lv_dload hx hb dX7_closes_44 (lv_at hl 3 rfl) ?_
          refine lv_ldc2d hx hb hown (hts d0 _ hw_X7_closes_3) dX7_closes_46 ?_
          refine xdmul hd0 hx hb hd9 (vq_rf _) dX7_closes_49 (fun r_14 d0 q_14 hd0 => ?_)
          refine xdsub hd0 hx hb q_13 q_14 dX7_closes_50 (fun r_15 d0 q_15 hd0 => ?_)
          exact xdret hd0 hx hb hr hlocks hS (Nat.le_of_ble_eq_true rfl) (Nat.le_of_ble_eq_true rfl) dX7_closes_51 ⟨nI 0, ⟨hc_11, hc_A0_11, hc_A1_11, hc_A2_11, hc_A3_11, hc_A4_11, hc_A5_11, hc_A6_11, hc_A7_11, hc_A8_11, hc_A9_11, hc_A10_11⟩, hfr_11, _, rfl, Or.inl ⟨rfl, ⟨xB_t c_2, c_5, c_8⟩, q_15⟩⟩
set_option maxRecDepth 20000 in
theorem ggX7_board_X7_between : GoodIn wsX7_board wsX7_between := goodIn_r _ [9] (by decide +kernel) (by decide +kernel)
set_option maxRecDepth 20000 in
theorem gX7_board_X7_between : GoodIn wsX7_board (va_wsS RX7 61 yX7_between wsX7_between) := goodIn_app (goodIn_of _ (by decide +kernel)) ggX7_board_X7_between
theorem dX7_board_0 : decode cX7_board 0 = .ok (.aload_n 0, 1) := by decide +kernel
theorem dX7_board_1 : decode cX7_board 1 = .ok (.dload_n 1, 1) := by decide +kernel
theorem dX7_board_2 : decode cX7_board 2 = .ok (.dconst 1, 1) := by decide +kernel
theorem dX7_board_3 : decode cX7_board 3 = .ok (.ldc2_w 59, 3) := by decide +kernel
theorem dX7_board_6 : decode cX7_board 6 = .ok (.invokestatic 61, 3) := by decide +kernel
theorem dX7_board_9 : decode cX7_board 9 = .ok (.ifCond .eq 14, 3) := by decide +kernel
theorem dX7_board_12 : decode cX7_board 12 = .ok (.dload_n 3, 1) := by decide +kernel
theorem dX7_board_13 : decode cX7_board 13 = .ok (.dconst 1, 1) := by decide +kernel
theorem dX7_board_14 : decode cX7_board 14 = .ok (.ldc2_w 59, 3) := by decide +kernel
theorem dX7_board_17 : decode cX7_board 17 = .ok (.invokestatic 61, 3) := by decide +kernel
theorem dX7_board_20 : decode cX7_board 20 = .ok (.ifCond .ne 7, 3) := by decide +kernel
theorem dX7_board_23 : decode cX7_board 23 = .ok (.iconst 1, 1) := by decide +kernel
theorem dX7_board_24 : decode cX7_board 24 = .ok (.goto 16, 3) := by decide +kernel
theorem dX7_board_27 : decode cX7_board 27 = .ok (.aload_n 0, 1) := by decide +kernel
theorem dX7_board_28 : decode cX7_board 28 = .ok (.getfield 122, 3) := by decide +kernel
theorem dX7_board_31 : decode cX7_board 31 = .ok (.iconst 4, 1) := by decide +kernel
theorem dX7_board_32 : decode cX7_board 32 = .ok (.if_icmp .ne 7, 3) := by decide +kernel
theorem dX7_board_35 : decode cX7_board 35 = .ok (.iconst 2, 1) := by decide +kernel
theorem dX7_board_36 : decode cX7_board 36 = .ok (.goto 4, 3) := by decide +kernel
theorem dX7_board_39 : decode cX7_board 39 = .ok (.iconst 0, 1) := by decide +kernel
theorem dX7_board_40 : decode cX7_board 40 = .ok (.putfield 52, 3) := by decide +kernel
theorem dX7_board_43 : decode cX7_board 43 = .ok (.aload_n 0, 1) := by decide +kernel
theorem dX7_board_44 : decode cX7_board 44 = .ok (.getfield 52, 3) := by decide +kernel
theorem dX7_board_47 : decode cX7_board 47 = .ok (.ifCond .le 5, 3) := by decide +kernel
theorem dX7_board_50 : decode cX7_board 50 = .ok (.iconst 0, 1) := by decide +kernel
theorem dX7_board_51 : decode cX7_board 51 = .ok (.ireturn, 1) := by decide +kernel
theorem dX7_board_52 : decode cX7_board 52 = .ok (.aload_n 0, 1) := by decide +kernel
theorem dX7_board_53 : decode cX7_board 53 = .ok (.getfield 26, 3) := by decide +kernel
theorem dX7_board_56 : decode cX7_board 56 = .ok (.aload_n 0, 1) := by decide +kernel
theorem dX7_board_57 : decode cX7_board 57 = .ok (.getfield 122, 3) := by decide +kernel
theorem dX7_board_60 : decode cX7_board 60 = .ok (.dload_n 1, 1) := by decide +kernel
theorem dX7_board_61 : decode cX7_board 61 = .ok (.dastore, 1) := by decide +kernel
theorem dX7_board_62 : decode cX7_board 62 = .ok (.aload_n 0, 1) := by decide +kernel
theorem dX7_board_63 : decode cX7_board 63 = .ok (.getfield 29, 3) := by decide +kernel
theorem dX7_board_66 : decode cX7_board 66 = .ok (.aload_n 0, 1) := by decide +kernel
theorem dX7_board_67 : decode cX7_board 67 = .ok (.getfield 122, 3) := by decide +kernel
theorem dX7_board_70 : decode cX7_board 70 = .ok (.dload_n 3, 1) := by decide +kernel
theorem dX7_board_71 : decode cX7_board 71 = .ok (.dastore, 1) := by decide +kernel
theorem dX7_board_72 : decode cX7_board 72 = .ok (.aload_n 0, 1) := by decide +kernel
theorem dX7_board_73 : decode cX7_board 73 = .ok (.dup, 1) := by decide +kernel
theorem dX7_board_74 : decode cX7_board 74 = .ok (.getfield 122, 3) := by decide +kernel
theorem dX7_board_77 : decode cX7_board 77 = .ok (.iconst 1, 1) := by decide +kernel
theorem dX7_board_78 : decode cX7_board 78 = .ok (.iadd, 1) := by decide +kernel
theorem dX7_board_79 : decode cX7_board 79 = .ok (.putfield 122, 3) := by decide +kernel
theorem dX7_board_82 : decode cX7_board 82 = .ok (.aload_n 0, 1) := by decide +kernel
theorem dX7_board_83 : decode cX7_board 83 = .ok (.getfield 122, 3) := by decide +kernel
theorem dX7_board_86 : decode cX7_board 86 = .ok (.iconst 1, 1) := by decide +kernel
theorem dX7_board_87 : decode cX7_board 87 = .ok (.isub, 1) := by decide +kernel
theorem dX7_board_88 : decode cX7_board 88 = .ok (.ireturn, 1) := by decide +kernel
abbrev rm_X7_board : Room := { frames := 7, cells := 0, slots := 0, locals := 140 }
theorem hw_X7_board_1 : (Cond.constantDouble RX7 59 (4652007308841189376)) ∈ wsX7_board := List.mem_of_getElem? (i := 1) rfl
theorem hw_X7_board_2 : (Cond.fieldLink RX7 122 "PlankUnrollModel" "boards" "I") ∈ wsX7_board := List.mem_of_getElem? (i := 2) rfl
theorem hw_X7_board_3 : (Cond.fieldLink RX7 52 "PlankUnrollModel" "thrown" "I") ∈ wsX7_board := List.mem_of_getElem? (i := 3) rfl
theorem hw_X7_board_4 : (Cond.fieldLink RX7 26 "PlankUnrollModel" "wides" "[D") ∈ wsX7_board := List.mem_of_getElem? (i := 4) rfl
theorem hw_X7_board_5 : (Cond.fieldLink RX7 29 "PlankUnrollModel" "highs" "[D") ∈ wsX7_board := List.mem_of_getElem? (i := 5) rfl
theorem in_X7_board_X7 : ∀ w ∈ wsX70, w ∈ wsX7_board := by decide +kernel
set_option maxHeartbeats 4000000 in
set_option maxRecDepth 100000 in
/-- board -/
theorem c_X7_board {l : Launch} {G : va_G} {ty : Nat → ClassId} {b0 : Nat} {H : Heap} {m0 : Nat} {A : Nat → Nat} {th : Int32} {F R nb : Nat} {pl co dr wi hi fa : Nat → UInt64} {un bu fc lo la : Nat → Int32} {px py pz : UInt64} (hY : xRef G ty m0 A th F R pl un co dr bu nb wi hi fc fa lo la px py pz H) (hZ : xSz F R) (hA : xAp m0 A) (hB : xNw b0 m0 A) {x h ew eh : UInt64} (hnb : nb ≤ 4) (hx9 : vq x ew) (hh9 : vq h eh) : xMet l yX7_board wsX7_board rm_X7_board G ty b0 [.ref m0, .double x, .double h] H (fun v H1 => ∃ (T : Int32) (nb1 : Nat) (wi1 hi1 : Nat → UInt64), xRef G ty m0 A T F R pl un co dr bu nb1 wi1 hi1 fc fa lo la px py pz H1 ∧ xRfr m0 A H H1 ∧ ∃ z : Int32, v = some (.int z) ∧ ((T = nI 0 ∧ (pBetween ew FP.dconst1 4652007308841189376 = true ∧ pBetween eh FP.dconst1 4652007308841189376 = true) ∧ ¬ nb = 4 ∧ z = nI nb ∧ nb1 = nb + 1 ∧ wi1 = vf_upd wi nb x ∧ hi1 = vf_upd hi nb h) ∨ (T = nI 1 ∧ ¬ (pBetween ew FP.dconst1 4652007308841189376 = true ∧ pBetween eh FP.dconst1 4652007308841189376 = true) ∧ nb1 = nb ∧ wi1 = wi ∧ hi1 = hi) ∨ (T = nI 2 ∧ (pBetween ew FP.dconst1 4652007308841189376 = true ∧ pBetween eh FP.dconst1 4652007308841189376 = true) ∧ nb = 4 ∧ nb1 = nb ∧ wi1 = wi ∧ hi1 = hi))) (fun _ _ => False) := by
  refine xbody (cc := cX7_board) (maxL := 5) (ret := (some .int)) (C := RX7) (lv := [(0, .ref m0), (1, .double x), (3, .double h)]) (by decide) rfl rfl (Nat.le_of_ble_eq_true rfl) rfl ?_
  intro p e s m below meth c d0 hx hb hr hts hown hlocks hml hxt hnm0 hK hb0 hH0 hS hd0 ls hl
  obtain ⟨y_o, y_0, y_1, y_2, y_3, y_4, y_5, y_6, y_7, y_8, y_9, y_10⟩ := id hY
  obtain ⟨⟨zF2, zF8⟩, ⟨zR2, zR8⟩⟩ := id hZ
  refine lv_aload_n hx hb dX7_board_0 rfl (lv_at hl 0 rfl) ?_
  refine lv_dload_n hx hb dX7_board_1 rfl (lv_at hl 1 rfl) ?_
  refine lv_dconst1 hx hb dX7_board_2 ?_
  refine lv_ldc2d hx hb hown (hts d0 _ hw_X7_board_1) dX7_board_3 ?_
  have cw_1 := va_cwS (R := rm_X7_board) (rm := rm_X7_between) 3 (hts d0) gX7_board_X7_between rfl rfl rfl (by decide +kernel) ⟨Nat.le_of_ble_eq_true rfl, Nat.le_of_ble_eq_true rfl⟩
  refine xcall hd0 (xintoS (As := [.double x, .double FP.dconst1, .double 4652007308841189376]) (rest := [.ref m0]) ⟨hx, hb, hml, hown, hts _⟩ cw_1 rfl rfl hl.1 rfl (lv_room (Nat.le_of_ble_eq_true rfl)) dX7_board_6) (c_X7_between (l := l) (G := G) (ty := ty) (b0 := b0) hx9 (vq_rf _) (vq_rf _)) (xoweB cw_1.1) hK hb0 hS (Nat.le_of_ble_eq_true rfl) (Nat.le_of_ble_eq_true rfl) (fun E_1 ce_1 q9_1 H_1 locs_1 d0 hd0 hp_1 hS hce_1 hcv_1 hcl_1 => ?_) (fun v_1 H_1 locs_1 d0 hd0 hp_1 hS => ?_)
  · exact hp_1.elim
  · obtain ⟨rfl, rfl⟩ := hp_1
    show W p l e _ (s.setDrawn _) m _ below meth c _ _ _ _ _ (F0 m 9 ls [.int (xB (pBetween ew FP.dconst1 4652007308841189376)), .ref m0])
    refine lv_if_eq (tgt := 23) hx hb dX7_board_9 (by decide) (fun c_2 => ?_) (fun c_2 => ?_)
    · refine lv_iconst (v := nI 1) hx hb dX7_board_23 (by decide) ?_
      refine lv_goto (tgt := 40) hx hb dX7_board_24 (by decide) ?_
      refine xput (G := G) (ci := 8) (v := .int (nI 1)) (ty := .int) (C := RX7) (T := TX7) (N := 18) hx hb (hts d0) in_X7_board_X7 tyX7 tyX7_ok nmX7 hown hK.1 y_o hS hB.1 rfl 0 (by decide) (hts d0 _ hw_X7_board_3) (fun _ h9 => h9) rfl (by decide +kernel) rfl rfl (Nat.le_of_ble_eq_true rfl) dX7_board_40 (fun H_3 locs_3 hs_3 hS => ?_)
      have hc_3 : xc G m0 (.inr (8, [.int (nI 1), .int (nI F), .int (nI R), .ref (A 0), .ref (A 1), .ref (A 2), .ref (A 3), .ref (A 4), .int (nI nb), .ref (A 5), .ref (A 6), .ref (A 7), .ref (A 8), .ref (A 9), .ref (A 10), .double px, .double py, .double pz])) H_3 := hs_3.1
      have hc_A0_3 : xc G (A 0) (.inl (ty 0, 192, .inr (.inr (.inr (.inl pl))))) H_3 := y_0.kept (hs_3.2.2 _ (hA.1 0 (by decide)))
      have hc_A1_3 : xc G (A 1) (.inl (ty 2, 8, .inl un)) H_3 := y_1.kept (hs_3.2.2 _ (hA.1 1 (by decide)))
      have hc_A2_3 : xc G (A 2) (.inl (ty 0, 256, .inr (.inr (.inr (.inl co))))) H_3 := y_2.kept (hs_3.2.2 _ (hA.1 2 (by decide)))
      have hc_A3_3 : xc G (A 3) (.inl (ty 0, 32, .inr (.inr (.inr (.inl dr))))) H_3 := y_3.kept (hs_3.2.2 _ (hA.1 3 (by decide)))
      have hc_A4_3 : xc G (A 4) (.inl (ty 2, 64, .inl bu)) H_3 := y_4.kept (hs_3.2.2 _ (hA.1 4 (by decide)))
      have hc_A5_3 : xc G (A 5) (.inl (ty 0, 4, .inr (.inr (.inr (.inl wi))))) H_3 := y_5.kept (hs_3.2.2 _ (hA.1 5 (by decide)))
      have hc_A6_3 : xc G (A 6) (.inl (ty 0, 4, .inr (.inr (.inr (.inl hi))))) H_3 := y_6.kept (hs_3.2.2 _ (hA.1 6 (by decide)))
      have hc_A7_3 : xc G (A 7) (.inl (ty 1, 4, .inl fc)) H_3 := y_7.kept (hs_3.2.2 _ (hA.1 7 (by decide)))
      have hc_A8_3 : xc G (A 8) (.inl (ty 0, 128, .inr (.inr (.inr (.inl fa))))) H_3 := y_8.kept (hs_3.2.2 _ (hA.1 8 (by decide)))
      have hc_A9_3 : xc G (A 9) (.inl (ty 1, 8, .inl lo)) H_3 := y_9.kept (hs_3.2.2 _ (hA.1 9 (by decide)))
      have hc_A10_3 : xc G (A 10) (.inl (ty 1, 8, .inl la)) H_3 := y_10.kept (hs_3.2.2 _ (hA.1 10 (by decide)))
      have hfr_3 : xRfr m0 A H H_3 := xRfr.put0 xRfr.rf hs_3
      refine lv_aload_n hx hb dX7_board_43 rfl (lv_at hl 0 rfl) ?_
      refine va_get (D := G) (cl := vwCl) (ci := 8) (v := .int (nI 1)) (C := RX7) (T := TX7) (N := 18) hx hb (hts d0) in_X7_board_X7 hown hK.1 (x1 hc_3) 0 rfl rfl 0 (by decide) (hts d0 _ hw_X7_board_3) (fun _ h9 => h9) rfl dX7_board_44 ?_
      refine lv_if_le (tgt := 52) hx hb dX7_board_47 (by decide) (fun h9 => absurd h9 (by decide)) (fun _ => ?_)
      refine lv_iconst (v := nI 0) hx hb dX7_board_50 (by decide) ?_
      exact xiret hd0 hx hb hr hlocks hS (Nat.le_of_ble_eq_true rfl) (Nat.le_of_ble_eq_true rfl) dX7_board_51 ⟨nI 1, _, _, _, ⟨hc_3, hc_A0_3, hc_A1_3, hc_A2_3, hc_A3_3, hc_A4_3, hc_A5_3, hc_A6_3, hc_A7_3, hc_A8_3, hc_A9_3, hc_A10_3⟩, hfr_3, _, rfl, Or.inr (Or.inl ⟨rfl, fun z => xtf z.1 (xB_f c_2), rfl, rfl, rfl⟩)⟩
    · refine lv_dload_n hx hb dX7_board_12 rfl (lv_at hl 2 rfl) ?_
      refine lv_dconst1 hx hb dX7_board_13 ?_
      refine lv_ldc2d hx hb hown (hts d0 _ hw_X7_board_1) dX7_board_14 ?_
      have cw_5 := va_cwS (R := rm_X7_board) (rm := rm_X7_between) 3 (hts d0) gX7_board_X7_between rfl rfl rfl (by decide +kernel) ⟨Nat.le_of_ble_eq_true rfl, Nat.le_of_ble_eq_true rfl⟩
      refine xcall hd0 (xintoS (As := [.double h, .double FP.dconst1, .double 4652007308841189376]) (rest := [.ref m0]) ⟨hx, hb, hml, hown, hts _⟩ cw_5 rfl rfl hl.1 rfl (lv_room (Nat.le_of_ble_eq_true rfl)) dX7_board_17) (c_X7_between (l := l) (G := G) (ty := ty) (b0 := b0) hh9 (vq_rf _) (vq_rf _)) (xoweB cw_5.1) hK hb0 hS (Nat.le_of_ble_eq_true rfl) (Nat.le_of_ble_eq_true rfl) (fun E_5 ce_5 q9_5 H_5 locs_5 d0 hd0 hp_5 hS hce_5 hcv_5 hcl_5 => ?_) (fun v_5 H_5 locs_5 d0 hd0 hp_5 hS => ?_)
      · exact hp_5.elim
      · obtain ⟨rfl, rfl⟩ := hp_5
        show W p l e _ (s.setDrawn _) m _ below meth c _ _ _ _ _ (F0 m 20 ls [.int (xB (pBetween eh FP.dconst1 4652007308841189376)), .ref m0])
        refine lv_if_ne (tgt := 27) hx hb dX7_board_20 (by decide) (fun c_6 => ?_) (fun c_6 => ?_)
        · refine lv_aload_n hx hb dX7_board_27 rfl (lv_at hl 0 rfl) ?_
          refine va_get (D := G) (cl := vwCl) (ci := 8) (v := .int (nI nb)) (C := RX7) (T := TX7) (N := 18) hx hb (hts d0) in_X7_board_X7 hown hK.1 (x1 y_o) 0 rfl rfl 8 (by decide) (hts d0 _ hw_X7_board_2) (fun _ h9 => h9) rfl dX7_board_28 ?_
          refine lv_iconst (v := nI 4) hx hb dX7_board_31 (by decide) ?_
          refine xicmpN_ne (tgt := 39) hx hb (by omega) (by decide) dX7_board_32 (by decide) (fun c_7 => ?_) (fun c_7 => ?_)
          · refine lv_iconst (v := nI 0) hx hb dX7_board_39 (by decide) ?_
            refine xput (G := G) (ci := 8) (v := .int (nI 0)) (ty := .int) (C := RX7) (T := TX7) (N := 18) hx hb (hts d0) in_X7_board_X7 tyX7 tyX7_ok nmX7 hown hK.1 y_o hS hB.1 rfl 0 (by decide) (hts d0 _ hw_X7_board_3) (fun _ h9 => h9) rfl (by decide +kernel) rfl rfl (Nat.le_of_ble_eq_true rfl) dX7_board_40 (fun H_8 locs_8 hs_8 hS => ?_)
            have hc_8 : xc G m0 (.inr (8, [.int (nI 0), .int (nI F), .int (nI R), .ref (A 0), .ref (A 1), .ref (A 2), .ref (A 3), .ref (A 4), .int (nI nb), .ref (A 5), .ref (A 6), .ref (A 7), .ref (A 8), .ref (A 9), .ref (A 10), .double px, .double py, .double pz])) H_8 := hs_8.1
            have hc_A0_8 : xc G (A 0) (.inl (ty 0, 192, .inr (.inr (.inr (.inl pl))))) H_8 := y_0.kept (hs_8.2.2 _ (hA.1 0 (by decide)))
            have hc_A1_8 : xc G (A 1) (.inl (ty 2, 8, .inl un)) H_8 := y_1.kept (hs_8.2.2 _ (hA.1 1 (by decide)))
            have hc_A2_8 : xc G (A 2) (.inl (ty 0, 256, .inr (.inr (.inr (.inl co))))) H_8 := y_2.kept (hs_8.2.2 _ (hA.1 2 (by decide)))
            have hc_A3_8 : xc G (A 3) (.inl (ty 0, 32, .inr (.inr (.inr (.inl dr))))) H_8 := y_3.kept (hs_8.2.2 _ (hA.1 3 (by decide)))
            have hc_A4_8 : xc G (A 4) (.inl (ty 2, 64, .inl bu)) H_8 := y_4.kept (hs_8.2.2 _ (hA.1 4 (by decide)))
            have hc_A5_8 : xc G (A 5) (.inl (ty 0, 4, .inr (.inr (.inr (.inl wi))))) H_8 := y_5.kept (hs_8.2.2 _ (hA.1 5 (by decide)))
            have hc_A6_8 : xc G (A 6) (.inl (ty 0, 4, .inr (.inr (.inr (.inl hi))))) H_8 := y_6.kept (hs_8.2.2 _ (hA.1 6 (by decide)))
            have hc_A7_8 : xc G (A 7) (.inl (ty 1, 4, .inl fc)) H_8 := y_7.kept (hs_8.2.2 _ (hA.1 7 (by decide)))
            have hc_A8_8 : xc G (A 8) (.inl (ty 0, 128, .inr (.inr (.inr (.inl fa))))) H_8 := y_8.kept (hs_8.2.2 _ (hA.1 8 (by decide)))
            have hc_A9_8 : xc G (A 9) (.inl (ty 1, 8, .inl lo)) H_8 := y_9.kept (hs_8.2.2 _ (hA.1 9 (by decide)))
            have hc_A10_8 : xc G (A 10) (.inl (ty 1, 8, .inl la)) H_8 := y_10.kept (hs_8.2.2 _ (hA.1 10 (by decide)))
            have hfr_8 : xRfr m0 A H H_8 := xRfr.put0 xRfr.rf hs_8
            refine lv_aload_n hx hb dX7_board_43 rfl (lv_at hl 0 rfl) ?_
            refine va_get (D := G) (cl := vwCl) (ci := 8) (v := .int (nI 0)) (C := RX7) (T := TX7) (N := 18) hx hb (hts d0) in_X7_board_X7 hown hK.1 (x1 hc_8) 0 rfl rfl 0 (by decide) (hts d0 _ hw_X7_board_3) (fun _ h9 => h9) rfl dX7_board_44 ?_
            refine lv_if_le (tgt := 52) hx hb dX7_board_47 (by decide) (fun _ => ?_) (fun h9 => absurd (by decide) h9)
            refine lv_aload_n hx hb dX7_board_52 rfl (lv_at hl 0 rfl) ?_
            refine va_get (D := G) (cl := vwCl) (ci := 8) (v := .ref (A 5)) (C := RX7) (T := TX7) (N := 18) hx hb (hts d0) in_X7_board_X7 hown hK.1 (x1 hc_8) 0 rfl rfl 9 (by decide) (hts d0 _ hw_X7_board_4) (fun _ h9 => h9) rfl dX7_board_53 ?_
            refine lv_aload_n hx hb dX7_board_56 rfl (lv_at hl 0 rfl) ?_
            refine va_get (D := G) (cl := vwCl) (ci := 8) (v := .int (nI nb)) (C := RX7) (T := TX7) (N := 18) hx hb (hts d0) in_X7_board_X7 hown hK.1 (x1 hc_8) 0 rfl rfl 8 (by decide) (hts d0 _ hw_X7_board_2) (fun _ h9 => h9) rfl dX7_board_57 ?_
            refine lv_dload_n hx hb dX7_board_60 rfl (lv_at hl 1 rfl) ?_
            refine xdastN (s := s.setDrawn d0) (j := nb) (x := x) hx hb hK.1 0 hc_A5_8 hS (hB.2 5 (by decide)) rfl (xix_of (by omega) (by omega)) dX7_board_61 (fun H_10 locs_10 hs_10 hS => ?_)
            have hc_10 : xc G (A 5) (.inl (ty 0, 4, .inr (.inr (.inr (.inl ((vf_upd wi nb x))))))) H_10 := hs_10.1
            have hc_m0_10 : xc G m0 (.inr (8, [.int (nI 0), .int (nI F), .int (nI R), .ref (A 0), .ref (A 1), .ref (A 2), .ref (A 3), .ref (A 4), .int (nI nb), .ref (A 5), .ref (A 6), .ref (A 7), .ref (A 8), .ref (A 9), .ref (A 10), .double px, .double py, .double pz])) H_10 := hc_8.kept (hs_10.2.2 _ (Ne.symm (hA.1 5 (by decide))))
            have hc_A0_10 : xc G (A 0) (.inl (ty 0, 192, .inr (.inr (.inr (.inl pl))))) H_10 := hc_A0_8.kept (hs_10.2.2 _ (fun z => absurd (hA.2 0 5 (by decide) (by decide) z) (by decide)))
            have hc_A1_10 : xc G (A 1) (.inl (ty 2, 8, .inl un)) H_10 := hc_A1_8.kept (hs_10.2.2 _ (fun z => absurd (hA.2 1 5 (by decide) (by decide) z) (by decide)))
            have hc_A2_10 : xc G (A 2) (.inl (ty 0, 256, .inr (.inr (.inr (.inl co))))) H_10 := hc_A2_8.kept (hs_10.2.2 _ (fun z => absurd (hA.2 2 5 (by decide) (by decide) z) (by decide)))
            have hc_A3_10 : xc G (A 3) (.inl (ty 0, 32, .inr (.inr (.inr (.inl dr))))) H_10 := hc_A3_8.kept (hs_10.2.2 _ (fun z => absurd (hA.2 3 5 (by decide) (by decide) z) (by decide)))
            have hc_A4_10 : xc G (A 4) (.inl (ty 2, 64, .inl bu)) H_10 := hc_A4_8.kept (hs_10.2.2 _ (fun z => absurd (hA.2 4 5 (by decide) (by decide) z) (by decide)))
            have hc_A6_10 : xc G (A 6) (.inl (ty 0, 4, .inr (.inr (.inr (.inl hi))))) H_10 := hc_A6_8.kept (hs_10.2.2 _ (fun z => absurd (hA.2 6 5 (by decide) (by decide) z) (by decide)))
            have hc_A7_10 : xc G (A 7) (.inl (ty 1, 4, .inl fc)) H_10 := hc_A7_8.kept (hs_10.2.2 _ (fun z => absurd (hA.2 7 5 (by decide) (by decide) z) (by decide)))
            have hc_A8_10 : xc G (A 8) (.inl (ty 0, 128, .inr (.inr (.inr (.inl fa))))) H_10 := hc_A8_8.kept (hs_10.2.2 _ (fun z => absurd (hA.2 8 5 (by decide) (by decide) z) (by decide)))
            have hc_A9_10 : xc G (A 9) (.inl (ty 1, 8, .inl lo)) H_10 := hc_A9_8.kept (hs_10.2.2 _ (fun z => absurd (hA.2 9 5 (by decide) (by decide) z) (by decide)))
            have hc_A10_10 : xc G (A 10) (.inl (ty 1, 8, .inl la)) H_10 := hc_A10_8.kept (hs_10.2.2 _ (fun z => absurd (hA.2 10 5 (by decide) (by decide) z) (by decide)))
            have hfr_10 : xRfr m0 A H H_10 := xRfr.putA hfr_8 5 (by decide) hs_10
            refine lv_aload_n hx hb dX7_board_62 rfl (lv_at hl 0 rfl) ?_
            refine va_get (D := G) (cl := vwCl) (ci := 8) (v := .ref (A 6)) (C := RX7) (T := TX7) (N := 18) hx hb (hts d0) in_X7_board_X7 hown hK.1 (x1 hc_m0_10) 0 rfl rfl 10 (by decide) (hts d0 _ hw_X7_board_5) (fun _ h9 => h9) rfl dX7_board_63 ?_
            refine lv_aload_n hx hb dX7_board_66 rfl (lv_at hl 0 rfl) ?_
            refine va_get (D := G) (cl := vwCl) (ci := 8) (v := .int (nI nb)) (C := RX7) (T := TX7) (N := 18) hx hb (hts d0) in_X7_board_X7 hown hK.1 (x1 hc_m0_10) 0 rfl rfl 8 (by decide) (hts d0 _ hw_X7_board_2) (fun _ h9 => h9) rfl dX7_board_67 ?_
            refine lv_dload_n hx hb dX7_board_70 rfl (lv_at hl 2 rfl) ?_
            refine xdastN (s := s.setDrawn d0) (j := nb) (x := h) hx hb hK.1 0 hc_A6_10 hS (hB.2 6 (by decide)) rfl (xix_of (by omega) (by omega)) dX7_board_71 (fun H_11 locs_11 hs_11 hS => ?_)
            have hc_11 : xc G (A 6) (.inl (ty 0, 4, .inr (.inr (.inr (.inl ((vf_upd hi nb h))))))) H_11 := hs_11.1
            have hc_m0_11 : xc G m0 (.inr (8, [.int (nI 0), .int (nI F), .int (nI R), .ref (A 0), .ref (A 1), .ref (A 2), .ref (A 3), .ref (A 4), .int (nI nb), .ref (A 5), .ref (A 6), .ref (A 7), .ref (A 8), .ref (A 9), .ref (A 10), .double px, .double py, .double pz])) H_11 := hc_m0_10.kept (hs_11.2.2 _ (Ne.symm (hA.1 6 (by decide))))
            have hc_A0_11 : xc G (A 0) (.inl (ty 0, 192, .inr (.inr (.inr (.inl pl))))) H_11 := hc_A0_10.kept (hs_11.2.2 _ (fun z => absurd (hA.2 0 6 (by decide) (by decide) z) (by decide)))
            have hc_A1_11 : xc G (A 1) (.inl (ty 2, 8, .inl un)) H_11 := hc_A1_10.kept (hs_11.2.2 _ (fun z => absurd (hA.2 1 6 (by decide) (by decide) z) (by decide)))
            have hc_A2_11 : xc G (A 2) (.inl (ty 0, 256, .inr (.inr (.inr (.inl co))))) H_11 := hc_A2_10.kept (hs_11.2.2 _ (fun z => absurd (hA.2 2 6 (by decide) (by decide) z) (by decide)))
            have hc_A3_11 : xc G (A 3) (.inl (ty 0, 32, .inr (.inr (.inr (.inl dr))))) H_11 := hc_A3_10.kept (hs_11.2.2 _ (fun z => absurd (hA.2 3 6 (by decide) (by decide) z) (by decide)))
            have hc_A4_11 : xc G (A 4) (.inl (ty 2, 64, .inl bu)) H_11 := hc_A4_10.kept (hs_11.2.2 _ (fun z => absurd (hA.2 4 6 (by decide) (by decide) z) (by decide)))
            have hc_A5_11 : xc G (A 5) (.inl (ty 0, 4, .inr (.inr (.inr (.inl ((vf_upd wi nb x))))))) H_11 := hc_10.kept (hs_11.2.2 _ (fun z => absurd (hA.2 5 6 (by decide) (by decide) z) (by decide)))
            have hc_A7_11 : xc G (A 7) (.inl (ty 1, 4, .inl fc)) H_11 := hc_A7_10.kept (hs_11.2.2 _ (fun z => absurd (hA.2 7 6 (by decide) (by decide) z) (by decide)))
            have hc_A8_11 : xc G (A 8) (.inl (ty 0, 128, .inr (.inr (.inr (.inl fa))))) H_11 := hc_A8_10.kept (hs_11.2.2 _ (fun z => absurd (hA.2 8 6 (by decide) (by decide) z) (by decide)))
            have hc_A9_11 : xc G (A 9) (.inl (ty 1, 8, .inl lo)) H_11 := hc_A9_10.kept (hs_11.2.2 _ (fun z => absurd (hA.2 9 6 (by decide) (by decide) z) (by decide)))
            have hc_A10_11 : xc G (A 10) (.inl (ty 1, 8, .inl la)) H_11 := hc_A10_10.kept (hs_11.2.2 _ (fun z => absurd (hA.2 10 6 (by decide) (by decide) z) (by decide)))
            have hfr_11 : xRfr m0 A H H_11 := xRfr.putA hfr_10 6 (by decide) hs_11
            refine lv_aload_n hx hb dX7_board_72 rfl (lv_at hl 0 rfl) ?_
            refine lv_dup hx hb dX7_board_73 rfl ?_
            refine va_get (D := G) (cl := vwCl) (ci := 8) (v := .int (nI nb)) (C := RX7) (T := TX7) (N := 18) hx hb (hts d0) in_X7_board_X7 hown hK.1 (x1 hc_m0_11) 0 rfl rfl 8 (by decide) (hts d0 _ hw_X7_board_2) (fun _ h9 => h9) rfl dX7_board_74 ?_
            refine lv_iconst (v := nI 1) hx hb dX7_board_77 (by decide) ?_
            refine xiaddN hx hb dX7_board_78 ?_
            refine xput (G := G) (ci := 8) (v := .int (nI (nb + 1))) (ty := .int) (C := RX7) (T := TX7) (N := 18) hx hb (hts d0) in_X7_board_X7 tyX7 tyX7_ok nmX7 hown hK.1 hc_m0_11 hS hB.1 rfl 8 (by decide) (hts d0 _ hw_X7_board_2) (fun _ h9 => h9) rfl (by decide +kernel) rfl rfl (Nat.le_of_ble_eq_true rfl) dX7_board_79 (fun H_12 locs_12 hs_12 hS => ?_)
            have hc_12 : xc G m0 (.inr (8, [.int (nI 0), .int (nI F), .int (nI R), .ref (A 0), .ref (A 1), .ref (A 2), .ref (A 3), .ref (A 4), .int (nI (nb + 1)), .ref (A 5), .ref (A 6), .ref (A 7), .ref (A 8), .ref (A 9), .ref (A 10), .double px, .double py, .double pz])) H_12 := hs_12.1
            have hc_A0_12 : xc G (A 0) (.inl (ty 0, 192, .inr (.inr (.inr (.inl pl))))) H_12 := hc_A0_11.kept (hs_12.2.2 _ (hA.1 0 (by decide)))
            have hc_A1_12 : xc G (A 1) (.inl (ty 2, 8, .inl un)) H_12 := hc_A1_11.kept (hs_12.2.2 _ (hA.1 1 (by decide)))
            have hc_A2_12 : xc G (A 2) (.inl (ty 0, 256, .inr (.inr (.inr (.inl co))))) H_12 := hc_A2_11.kept (hs_12.2.2 _ (hA.1 2 (by decide)))
            have hc_A3_12 : xc G (A 3) (.inl (ty 0, 32, .inr (.inr (.inr (.inl dr))))) H_12 := hc_A3_11.kept (hs_12.2.2 _ (hA.1 3 (by decide)))
            have hc_A4_12 : xc G (A 4) (.inl (ty 2, 64, .inl bu)) H_12 := hc_A4_11.kept (hs_12.2.2 _ (hA.1 4 (by decide)))
            have hc_A5_12 : xc G (A 5) (.inl (ty 0, 4, .inr (.inr (.inr (.inl ((vf_upd wi nb x))))))) H_12 := hc_A5_11.kept (hs_12.2.2 _ (hA.1 5 (by decide)))
            have hc_A6_12 : xc G (A 6) (.inl (ty 0, 4, .inr (.inr (.inr (.inl ((vf_upd hi nb h))))))) H_12 := hc_11.kept (hs_12.2.2 _ (hA.1 6 (by decide)))
            have hc_A7_12 : xc G (A 7) (.inl (ty 1, 4, .inl fc)) H_12 := hc_A7_11.kept (hs_12.2.2 _ (hA.1 7 (by decide)))
            have hc_A8_12 : xc G (A 8) (.inl (ty 0, 128, .inr (.inr (.inr (.inl fa))))) H_12 := hc_A8_11.kept (hs_12.2.2 _ (hA.1 8 (by decide)))
            have hc_A9_12 : xc G (A 9) (.inl (ty 1, 8, .inl lo)) H_12 := hc_A9_11.kept (hs_12.2.2 _ (hA.1 9 (by decide)))
            have hc_A10_12 : xc G (A 10) (.inl (ty 1, 8, .inl la)) H_12 := hc_A10_11.kept (hs_12.2.2 _ (hA.1 10 (by decide)))
            have hfr_12 : xRfr m0 A H H_12 := xRfr.put0 hfr_11 hs_12
            refine lv_aload_n hx hb dX7_board_82 rfl (lv_at hl 0 rfl) ?_
            refine va_get (D := G) (cl := vwCl) (ci := 8) (v := .int (nI (nb + 1))) (C := RX7) (T := TX7) (N := 18) hx hb (hts d0) in_X7_board_X7 hown hK.1 (x1 hc_12) 0 rfl rfl 8 (by decide) (hts d0 _ hw_X7_board_2) (fun _ h9 => h9) rfl dX7_board_83 ?_
            refine lv_iconst (v := nI 1) hx hb dX7_board_86 (by decide) ?_
            refine xisubN hx hb (by omega) dX7_board_87 ?_
            exact xiret hd0 hx hb hr hlocks hS (Nat.le_of_ble_eq_true rfl) (Nat.le_of_ble_eq_true rfl) dX7_board_88 ⟨nI 0, _, _, _, ⟨hc_12, hc_A0_12, hc_A1_12, hc_A2_12, hc_A3_12, hc_A4_12, hc_A5_12, hc_A6_12, hc_A7_12, hc_A8_12, hc_A9_12, hc_A10_12⟩, hfr_12, _, rfl, Or.inl ⟨rfl, ⟨xB_t c_2, xB_t c_6⟩, c_7, rfl, rfl, rfl, rfl⟩⟩
          · refine lv_iconst (v := nI 2) hx hb dX7_board_35 (by decide) ?_
            refine lv_goto (tgt := 40) hx hb dX7_board_36 (by decide) ?_
            refine xput (G := G) (ci := 8) (v := .int (nI 2)) (ty := .int) (C := RX7) (T := TX7) (N := 18) hx hb (hts d0) in_X7_board_X7 tyX7 tyX7_ok nmX7 hown hK.1 y_o hS hB.1 rfl 0 (by decide) (hts d0 _ hw_X7_board_3) (fun _ h9 => h9) rfl (by decide +kernel) rfl rfl (Nat.le_of_ble_eq_true rfl) dX7_board_40 (fun H_13 locs_13 hs_13 hS => ?_)
            have hc_13 : xc G m0 (.inr (8, [.int (nI 2), .int (nI F), .int (nI R), .ref (A 0), .ref (A 1), .ref (A 2), .ref (A 3), .ref (A 4), .int (nI nb), .ref (A 5), .ref (A 6), .ref (A 7), .ref (A 8), .ref (A 9), .ref (A 10), .double px, .double py, .double pz])) H_13 := hs_13.1
            have hc_A0_13 : xc G (A 0) (.inl (ty 0, 192, .inr (.inr (.inr (.inl pl))))) H_13 := y_0.kept (hs_13.2.2 _ (hA.1 0 (by decide)))
            have hc_A1_13 : xc G (A 1) (.inl (ty 2, 8, .inl un)) H_13 := y_1.kept (hs_13.2.2 _ (hA.1 1 (by decide)))
            have hc_A2_13 : xc G (A 2) (.inl (ty 0, 256, .inr (.inr (.inr (.inl co))))) H_13 := y_2.kept (hs_13.2.2 _ (hA.1 2 (by decide)))
            have hc_A3_13 : xc G (A 3) (.inl (ty 0, 32, .inr (.inr (.inr (.inl dr))))) H_13 := y_3.kept (hs_13.2.2 _ (hA.1 3 (by decide)))
            have hc_A4_13 : xc G (A 4) (.inl (ty 2, 64, .inl bu)) H_13 := y_4.kept (hs_13.2.2 _ (hA.1 4 (by decide)))
            have hc_A5_13 : xc G (A 5) (.inl (ty 0, 4, .inr (.inr (.inr (.inl wi))))) H_13 := y_5.kept (hs_13.2.2 _ (hA.1 5 (by decide)))
            have hc_A6_13 : xc G (A 6) (.inl (ty 0, 4, .inr (.inr (.inr (.inl hi))))) H_13 := y_6.kept (hs_13.2.2 _ (hA.1 6 (by decide)))
            have hc_A7_13 : xc G (A 7) (.inl (ty 1, 4, .inl fc)) H_13 := y_7.kept (hs_13.2.2 _ (hA.1 7 (by decide)))
            have hc_A8_13 : xc G (A 8) (.inl (ty 0, 128, .inr (.inr (.inr (.inl fa))))) H_13 := y_8.kept (hs_13.2.2 _ (hA.1 8 (by decide)))
            have hc_A9_13 : xc G (A 9) (.inl (ty 1, 8, .inl lo)) H_13 := y_9.kept (hs_13.2.2 _ (hA.1 9 (by decide)))
            have hc_A10_13 : xc G (A 10) (.inl (ty 1, 8, .inl la)) H_13 := y_10.kept (hs_13.2.2 _ (hA.1 10 (by decide)))
            have hfr_13 : xRfr m0 A H H_13 := xRfr.put0 xRfr.rf hs_13
            refine lv_aload_n hx hb dX7_board_43 rfl (lv_at hl 0 rfl) ?_
            refine va_get (D := G) (cl := vwCl) (ci := 8) (v := .int (nI 2)) (C := RX7) (T := TX7) (N := 18) hx hb (hts d0) in_X7_board_X7 hown hK.1 (x1 hc_13) 0 rfl rfl 0 (by decide) (hts d0 _ hw_X7_board_3) (fun _ h9 => h9) rfl dX7_board_44 ?_
            refine lv_if_le (tgt := 52) hx hb dX7_board_47 (by decide) (fun h9 => absurd h9 (by decide)) (fun _ => ?_)
            refine lv_iconst (v := nI 0) hx hb dX7_board_50 (by decide) ?_
            exact xiret hd0 hx hb hr hlocks hS (Nat.le_of_ble_eq_true rfl) (Nat.le_of_ble_eq_true rfl) dX7_board_51 ⟨nI 2, _, _, _, ⟨hc_13, hc_A0_13, hc_A1_13, hc_A2_13, hc_A3_13, hc_A4_13, hc_A5_13, hc_A6_13, hc_A7_13, hc_A8_13, hc_A9_13, hc_A10_13⟩, hfr_13, _, rfl, Or.inr (Or.inr ⟨rfl, ⟨xB_t c_2, xB_t c_6⟩, c_7, rfl, rfl, rfl⟩)⟩
        · refine lv_iconst (v := nI 1) hx hb dX7_board_23 (by decide) ?_
          refine lv_goto (tgt := 40) hx hb dX7_board_24 (by decide) ?_
          refine xput (G := G) (ci := 8) (v := .int (nI 1)) (ty := .int) (C := RX7) (T := TX7) (N := 18) hx hb (hts d0) in_X7_board_X7 tyX7 tyX7_ok nmX7 hown hK.1 y_o hS hB.1 rfl 0 (by decide) (hts d0 _ hw_X7_board_3) (fun _ h9 => h9) rfl (by decide +kernel) rfl rfl (Nat.le_of_ble_eq_true rfl) dX7_board_40 (fun H_15 locs_15 hs_15 hS => ?_)
          have hc_15 : xc G m0 (.inr (8, [.int (nI 1), .int (nI F), .int (nI R), .ref (A 0), .ref (A 1), .ref (A 2), .ref (A 3), .ref (A 4), .int (nI nb), .ref (A 5), .ref (A 6), .ref (A 7), .ref (A 8), .ref (A 9), .ref (A 10), .double px, .double py, .double pz])) H_15 := hs_15.1
          have hc_A0_15 : xc G (A 0) (.inl (ty 0, 192, .inr (.inr (.inr (.inl pl))))) H_15 := y_0.kept (hs_15.2.2 _ (hA.1 0 (by decide)))
          have hc_A1_15 : xc G (A 1) (.inl (ty 2, 8, .inl un)) H_15 := y_1.kept (hs_15.2.2 _ (hA.1 1 (by decide)))
          have hc_A2_15 : xc G (A 2) (.inl (ty 0, 256, .inr (.inr (.inr (.inl co))))) H_15 := y_2.kept (hs_15.2.2 _ (hA.1 2 (by decide)))
          have hc_A3_15 : xc G (A 3) (.inl (ty 0, 32, .inr (.inr (.inr (.inl dr))))) H_15 := y_3.kept (hs_15.2.2 _ (hA.1 3 (by decide)))
          have hc_A4_15 : xc G (A 4) (.inl (ty 2, 64, .inl bu)) H_15 := y_4.kept (hs_15.2.2 _ (hA.1 4 (by decide)))
          have hc_A5_15 : xc G (A 5) (.inl (ty 0, 4, .inr (.inr (.inr (.inl wi))))) H_15 := y_5.kept (hs_15.2.2 _ (hA.1 5 (by decide)))
          have hc_A6_15 : xc G (A 6) (.inl (ty 0, 4, .inr (.inr (.inr (.inl hi))))) H_15 := y_6.kept (hs_15.2.2 _ (hA.1 6 (by decide)))
          have hc_A7_15 : xc G (A 7) (.inl (ty 1, 4, .inl fc)) H_15 := y_7.kept (hs_15.2.2 _ (hA.1 7 (by decide)))
          have hc_A8_15 : xc G (A 8) (.inl (ty 0, 128, .inr (.inr (.inr (.inl fa))))) H_15 := y_8.kept (hs_15.2.2 _ (hA.1 8 (by decide)))
          have hc_A9_15 : xc G (A 9) (.inl (ty 1, 8, .inl lo)) H_15 := y_9.kept (hs_15.2.2 _ (hA.1 9 (by decide)))
          have hc_A10_15 : xc G (A 10) (.inl (ty 1, 8, .inl la)) H_15 := y_10.kept (hs_15.2.2 _ (hA.1 10 (by decide)))
          have hfr_15 : xRfr m0 A H H_15 := xRfr.put0 xRfr.rf hs_15
          refine lv_aload_n hx hb dX7_board_43 rfl (lv_at hl 0 rfl) ?_
          refine va_get (D := G) (cl := vwCl) (ci := 8) (v := .int (nI 1)) (C := RX7) (T := TX7) (N := 18) hx hb (hts d0) in_X7_board_X7 hown hK.1 (x1 hc_15) 0 rfl rfl 0 (by decide) (hts d0 _ hw_X7_board_3) (fun _ h9 => h9) rfl dX7_board_44 ?_
          refine lv_if_le (tgt := 52) hx hb dX7_board_47 (by decide) (fun h9 => absurd h9 (by decide)) (fun _ => ?_)
          refine lv_iconst (v := nI 0) hx hb dX7_board_50 (by decide) ?_
          exact xiret hd0 hx hb hr hlocks hS (Nat.le_of_ble_eq_true rfl) (Nat.le_of_ble_eq_true rfl) dX7_board_51 ⟨nI 1, _, _, _, ⟨hc_15, hc_A0_15, hc_A1_15, hc_A2_15, hc_A3_15, hc_A4_15, hc_A5_15, hc_A6_15, hc_A7_15, hc_A8_15, hc_A9_15, hc_A10_15⟩, hfr_15, _, rfl, Or.inr (Or.inl ⟨rfl, fun z => xtf z.2 (xB_f c_6), rfl, rfl, rfl⟩)⟩
