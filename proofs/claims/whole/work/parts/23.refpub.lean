/-! THE REFERENCE: what is asked and told (1). -/
theorem dX7_thrown_0 : decode cX7_thrown 0 = .ok (.aload_n 0, 1) := by decide +kernel
theorem dX7_thrown_1 : decode cX7_thrown 1 = .ok (.getfield 52, 3) := by decide +kernel
theorem dX7_thrown_4 : decode cX7_thrown 4 = .ok (.ireturn, 1) := by decide +kernel
abbrev rm_X7_thrown : Room := { frames := 5, cells := 0, slots := 0, locals := 40 }
theorem hw_X7_thrown_1 : (Cond.fieldLink RX7 52 "PlankUnrollModel" "thrown" "I") ∈ wsX7_thrown := List.mem_of_getElem? (i := 1) rfl
theorem in_X7_thrown_X7 : ∀ w ∈ wsX70, w ∈ wsX7_thrown := by decide +kernel
set_option maxHeartbeats 4000000 in
set_option maxRecDepth 100000 in
/-- what the last call threw -/
theorem c_X7_thrown {l : Launch} {G : va_G} {ty : Nat → ClassId} {b0 : Nat} {H : Heap} {m0 : Nat} {A : Nat → Nat} {th : Int32} {F R nb : Nat} {pl co dr wi hi fa : Nat → UInt64} {un bu fc lo la : Nat → Int32} {px py pz : UInt64} (hY : xRef G ty m0 A th F R pl un co dr bu nb wi hi fc fa lo la px py pz H) (hZ : xSz F R) : xMet l yX7_thrown wsX7_thrown rm_X7_thrown G ty b0 [.ref m0] H (fun v H1 => H = H1 ∧ v = some (.int th)) (fun _ _ => False) := by
  refine xbody (cc := cX7_thrown) (maxL := 1) (ret := (some .int)) (C := RX7) (lv := [(0, .ref m0)]) (by decide) rfl rfl (Nat.le_of_ble_eq_true rfl) rfl ?_
  intro p e s m below meth c d0 hx hb hr hts hown hlocks hml hxt hnm0 hK hb0 hH0 hS hd0 ls hl
  obtain ⟨y_o, y_0, y_1, y_2, y_3, y_4, y_5, y_6, y_7, y_8, y_9, y_10⟩ := id hY
  obtain ⟨⟨zF2, zF8⟩, ⟨zR2, zR8⟩⟩ := id hZ
  refine lv_aload_n hx hb dX7_thrown_0 rfl (lv_at hl 0 rfl) ?_
  refine va_get (D := G) (cl := vwCl) (ci := 8) (v := .int (th)) (C := RX7) (T := TX7) (N := 18) hx hb (hts d0) in_X7_thrown_X7 hown hK.1 (x1 y_o) 0 rfl rfl 0 (by decide) (hts d0 _ hw_X7_thrown_1) (fun _ h9 => h9) rfl dX7_thrown_1 ?_
  exact xiret hd0 hx hb hr hlocks hS (Nat.le_of_ble_eq_true rfl) (Nat.le_of_ble_eq_true rfl) dX7_thrown_4 ⟨rfl, rfl⟩
set_option maxRecDepth 20000 in
theorem ggX7_distance_X7_noPlace : GoodIn wsX7_distance wsX7_noPlace := goodIn_r _ [6, 7, 8, 22, 23, 24, 25, 26, 27, 28, 29, 30, 31, 32, 33, 34, 35, 36, 37, 38, 39] (by decide +kernel) (by decide +kernel)
set_option maxRecDepth 20000 in
theorem gX7_distance_X7_noPlace : GoodIn wsX7_distance (wsV RX7 65 RX7 yX7_noPlace wsX7_noPlace) := goodIn_app (goodIn_of _ (by decide +kernel)) ggX7_distance_X7_noPlace
set_option maxRecDepth 20000 in
theorem ggX7_distance_X7_far : GoodIn wsX7_distance wsX7_far := goodIn_r _ [12, 13, 14, 15, 5, 16, 17, 18, 19, 20, 21, 22, 23, 24, 25, 26, 27, 28, 29, 30, 31, 32, 33, 34, 35, 36, 37, 38, 39] (by decide +kernel) (by decide +kernel)
set_option maxRecDepth 20000 in
theorem gX7_distance_X7_far : GoodIn wsX7_distance (wsV RX7 77 RX7 yX7_far wsX7_far) := goodIn_app (goodIn_of _ (by decide +kernel)) ggX7_distance_X7_far
theorem dX7_distance_0 : decode cX7_distance 0 = .ok (.aload_n 0, 1) := by decide +kernel
theorem dX7_distance_1 : decode cX7_distance 1 = .ok (.aload_n 0, 1) := by decide +kernel
theorem dX7_distance_2 : decode cX7_distance 2 = .ok (.iload_n 1, 1) := by decide +kernel
theorem dX7_distance_3 : decode cX7_distance 3 = .ok (.iload_n 2, 1) := by decide +kernel
theorem dX7_distance_4 : decode cX7_distance 4 = .ok (.invokevirtual 65, 3) := by decide +kernel
theorem dX7_distance_7 : decode cX7_distance 7 = .ok (.ifCond .ne 13, 3) := by decide +kernel
theorem dX7_distance_10 : decode cX7_distance 10 = .ok (.aload_n 0, 1) := by decide +kernel
theorem dX7_distance_11 : decode cX7_distance 11 = .ok (.iload_n 3, 1) := by decide +kernel
theorem dX7_distance_12 : decode cX7_distance 12 = .ok (.iload 4, 2) := by decide +kernel
theorem dX7_distance_14 : decode cX7_distance 14 = .ok (.invokevirtual 65, 3) := by decide +kernel
theorem dX7_distance_17 : decode cX7_distance 17 = .ok (.ifCond .eq 7, 3) := by decide +kernel
theorem dX7_distance_20 : decode cX7_distance 20 = .ok (.iconst 1, 1) := by decide +kernel
theorem dX7_distance_21 : decode cX7_distance 21 = .ok (.goto 4, 3) := by decide +kernel
theorem dX7_distance_24 : decode cX7_distance 24 = .ok (.iconst 0, 1) := by decide +kernel
theorem dX7_distance_25 : decode cX7_distance 25 = .ok (.putfield 52, 3) := by decide +kernel
theorem dX7_distance_28 : decode cX7_distance 28 = .ok (.aload_n 0, 1) := by decide +kernel
theorem dX7_distance_29 : decode cX7_distance 29 = .ok (.getfield 52, 3) := by decide +kernel
theorem dX7_distance_32 : decode cX7_distance 32 = .ok (.ifCond .le 7, 3) := by decide +kernel
theorem dX7_distance_35 : decode cX7_distance 35 = .ok (.dconst 0, 1) := by decide +kernel
theorem dX7_distance_36 : decode cX7_distance 36 = .ok (.goto 12, 3) := by decide +kernel
theorem dX7_distance_39 : decode cX7_distance 39 = .ok (.aload_n 0, 1) := by decide +kernel
theorem dX7_distance_40 : decode cX7_distance 40 = .ok (.iload_n 1, 1) := by decide +kernel
theorem dX7_distance_41 : decode cX7_distance 41 = .ok (.iload_n 2, 1) := by decide +kernel
theorem dX7_distance_42 : decode cX7_distance 42 = .ok (.iload_n 3, 1) := by decide +kernel
theorem dX7_distance_43 : decode cX7_distance 43 = .ok (.iload 4, 2) := by decide +kernel
theorem dX7_distance_45 : decode cX7_distance 45 = .ok (.invokevirtual 77, 3) := by decide +kernel
theorem dX7_distance_48 : decode cX7_distance 48 = .ok (.dreturn, 1) := by decide +kernel
abbrev rm_X7_distance : Room := { frames := 7, cells := 0, slots := 0, locals := 140 }
theorem hw_X7_distance_1 : (Cond.fieldLink RX7 52 "PlankUnrollModel" "thrown" "I") ∈ wsX7_distance := List.mem_of_getElem? (i := 1) rfl
theorem in_X7_distance_X7 : ∀ w ∈ wsX70, w ∈ wsX7_distance := by decide +kernel
set_option maxHeartbeats 4000000 in
set_option maxRecDepth 100000 in
/-- distance -/
theorem c_X7_distance {l : Launch} {G : va_G} {ty : Nat → ClassId} {b0 : Nat} {H : Heap} {f r g q : Int32} {m0 : Nat} {A : Nat → Nat} {th : Int32} {F R nb : Nat} {pl co dr wi hi fa : Nat → UInt64} {un bu fc lo la : Nat → Int32} {px py pz : UInt64} (hY : xRef G ty m0 A th F R pl un co dr bu nb wi hi fc fa lo la px py pz H) (hZ : xSz F R) (hA : xAp m0 A) (hB : xNw b0 m0 A) : xMet l yX7_distance wsX7_distance rm_X7_distance G ty b0 [.ref m0, .int (f), .int (r), .int (g), .int (q)] H (fun v H1 => ∃ T : Int32, xRef G ty m0 A T F R pl un co dr bu nb wi hi fc fa lo la px py pz H1 ∧ xRfr m0 A H H1 ∧ ∃ z : UInt64, v = some (.double z) ∧ ((T = nI 0 ∧ ((vp_in f F ∧ vp_in r R) ∧ (vp_in g F ∧ vp_in q R)) ∧ vq z (pFar pl f.toNatClampNeg r.toNatClampNeg g.toNatClampNeg q.toNatClampNeg)) ∨ (T = nI 1 ∧ ¬ ((vp_in f F ∧ vp_in r R) ∧ (vp_in g F ∧ vp_in q R))))) (fun _ _ => False) := by
  refine xbody (cc := cX7_distance) (maxL := 5) (ret := (some .double)) (C := RX7) (lv := [(0, .ref m0), (1, .int (f)), (2, .int (r)), (3, .int (g)), (4, .int (q))]) (by decide) rfl rfl (Nat.le_of_ble_eq_true rfl) rfl ?_
  intro p e s m below meth c d0 hx hb hr hts hown hlocks hml hxt hnm0 hK hb0 hH0 hS hd0 ls hl
  obtain ⟨y_o, y_0, y_1, y_2, y_3, y_4, y_5, y_6, y_7, y_8, y_9, y_10⟩ := id hY
  obtain ⟨⟨zF2, zF8⟩, ⟨zR2, zR8⟩⟩ := id hZ
  refine lv_aload_n hx hb dX7_distance_0 rfl (lv_at hl 0 rfl) ?_
  refine lv_aload_n hx hb dX7_distance_1 rfl (lv_at hl 0 rfl) ?_
  refine lv_iload_n hx hb dX7_distance_2 rfl (lv_at hl 1 rfl) ?_
  refine lv_iload_n hx hb dX7_distance_3 rfl (lv_at hl 2 rfl) ?_
  have cw_1 := cwV (R := rm_X7_distance) (rm := rm_X7_noPlace) 2 (hts d0) gX7_distance_X7_noPlace rfl rfl rfl (by decide +kernel) ⟨Nat.le_of_ble_eq_true rfl, Nat.le_of_ble_eq_true rfl⟩
  refine xcall hd0 (xintoV (b := m0) (As := [.int (f), .int (r)]) (rest := [.ref m0]) ⟨hx, hb, hml, hown, hts _⟩ cw_1 (va_recv hK.1 (x1 y_o) (ci := 8) (q0 := 0) rfl rfl) rfl rfl hl.1 rfl (lv_room (Nat.le_of_ble_eq_true rfl)) dX7_distance_4) (c_X7_noPlace (l := l) (G := G) (ty := ty) (b0 := b0) (⟨y_o, y_0, y_1, y_2, y_3, y_4, y_5, y_6, y_7, y_8, y_9, y_10⟩ : xRef G ty m0 A (th) F R pl un co dr bu nb wi hi fc fa lo la px py pz H) hZ) (xoweB cw_1.1) hK hb0 hS (Nat.le_of_ble_eq_true rfl) (Nat.le_of_ble_eq_true rfl) (fun E_1 ce_1 q9_1 H_1 locs_1 d0 hd0 hp_1 hS hce_1 hcv_1 hcl_1 => ?_) (fun v_1 H_1 locs_1 d0 hd0 hp_1 hS => ?_)
  · exact hp_1.elim
  · obtain ⟨rfl, rfl⟩ := hp_1
    show W p l e _ (s.setDrawn _) m _ below meth c _ _ _ _ _ (F0 m 7 ls [.int (xP (¬ (vp_in f F ∧ vp_in r R))), .ref m0])
    refine lv_if_ne (tgt := 20) hx hb dX7_distance_7 (by decide) (fun c_2 => ?_) (fun c_2 => ?_)
    · refine lv_iconst (v := nI 1) hx hb dX7_distance_20 (by decide) ?_
      refine lv_goto (tgt := 25) hx hb dX7_distance_21 (by decide) ?_
      refine xput (G := G) (ci := 8) (v := .int (nI 1)) (ty := .int) (C := RX7) (T := TX7) (N := 18) hx hb (hts d0) in_X7_distance_X7 tyX7 tyX7_ok nmX7 hown hK.1 y_o hS hB.1 rfl 0 (by decide) (hts d0 _ hw_X7_distance_1) (fun _ h9 => h9) rfl (by decide +kernel) rfl rfl (Nat.le_of_ble_eq_true rfl) dX7_distance_25 (fun H_3 locs_3 hs_3 hS => ?_)
      have hc_3 : xc G m0 (.inr (8, [.int (nI 1), .int (nI F), .int (nI R), .ref (A 0), .ref (A 1), .ref (A 2), .ref (A 3), .ref (A 4), .int (nI nb), .ref (A 5), .ref (A 6), .ref (A 7), .ref (A 8), .ref (A 9), .ref (A 10), .double px, .double py, .double pz])) H_3 := hs_3.1
      have hc_A0_3 : xc G (A 0) (.inl (ty 0, 192, .inr (.inr (.inr (.inl pl))))) H_3 := y_0.kept (hs_3.2.2 _ (hA.1 0 (by decide)))
      have hc_A1_3 : xc G (A 1) (.inl (ty 2, 8, .inl un)) H_3 := y_1.kept (hs_3.2.2 _ (hA.1 1 (by decide)))
      have hc_A2_3 : xc G (A 2) (.inl (ty 0, 256, .inr (.inr (.inr (.inl co))))) H_3 := y_2.kept (hs_3.2.2 _ (hA.1 2 (by decide)))
      have hc_A3_3 : xc G (A 3) (.inl (ty 0, 32, .inr (.inr (.inr (.inl dr))))) H_3 := y_3.kept (hs_3.2.2 _ (hA.1 3 (by decide)))
      have hc_A4_3 : xc G (A 4) (.inl (ty 2, 64, .inl bu)) H_3 := y_4.kept (hs_3.2.2 _ (hA.1 4 (by decide)))
      have hc_A5_3 : xc G (A 5) (.inl (ty 0, 4, .inr (.inr (.inr (.inl wi))))) H_3 := y_5.kept (hs_3.2.2 _ (hA.1 5 (by decide)))
      have hc_A6_3 : xc G (A 6) (.inl (ty 0, 4, .inr (.inr (.inr (.inl hi))))) H_3 := y_6.kept (hs_3.2.2 _ (hA.1 6 (by decide)))
      have hc_A7_3 : xc G (A 7) (.inl (ty 1, 4, .inl fc)) H_3 := y_7.kept (hs_3.2.2 _ (hA.1 7 (by decide)))
      have hc_A8_3 : xc G (A 8) (.inl (ty 0, 128, .inr (.inr (.inr (.inl fa))))) H_3 := y_8.kept (hs_3.2.2 _ (hA.1 8 (by decide)))
      have hc_A9_3 : xc G (A 9) (.inl (ty 1, 8, .inl lo)) H_3 := y_9.kept (hs_3.2.2 _ (hA.1 9 (by decide)))
      have hc_A10_3 : xc G (A 10) (.inl (ty 1, 8, .inl la)) H_3 := y_10.kept (hs_3.2.2 _ (hA.1 10 (by decide)))
      have hfr_3 : xRfr m0 A H H_3 := xRfr.put0 xRfr.rf hs_3
      refine lv_aload_n hx hb dX7_distance_28 rfl (lv_at hl 0 rfl) ?_
      refine va_get (D := G) (cl := vwCl) (ci := 8) (v := .int (nI 1)) (C := RX7) (T := TX7) (N := 18) hx hb (hts d0) in_X7_distance_X7 hown hK.1 (x1 hc_3) 0 rfl rfl 0 (by decide) (hts d0 _ hw_X7_distance_1) (fun _ h9 => h9) rfl dX7_distance_29 ?_
      refine lv_if_le (tgt := 39) hx hb dX7_distance_32 (by decide) (fun h9 => absurd h9 (by decide)) (fun _ => ?_)
      refine lv_dconst0 hx hb dX7_distance_35 ?_
      refine lv_goto (tgt := 48) hx hb dX7_distance_36 (by decide) ?_
      exact xdret hd0 hx hb hr hlocks hS (Nat.le_of_ble_eq_true rfl) (Nat.le_of_ble_eq_true rfl) dX7_distance_48 ⟨nI 1, ⟨hc_3, hc_A0_3, hc_A1_3, hc_A2_3, hc_A3_3, hc_A4_3, hc_A5_3, hc_A6_3, hc_A7_3, hc_A8_3, hc_A9_3, hc_A10_3⟩, hfr_3, _, rfl, Or.inr ⟨rfl, by first | exact fun z => xP_ne.mp c_3 z.1 | exact fun z => xP_ne.mp c_2 z.2 | exact fun z => xP_ne.mp c_2 z.1⟩⟩
    · refine lv_aload_n hx hb dX7_distance_10 rfl (lv_at hl 0 rfl) ?_
      refine lv_iload_n hx hb dX7_distance_11 rfl (lv_at hl 3 rfl) ?_
      refine lv_iload hx hb dX7_distance_12 (lv_at hl 4 rfl) ?_
      have cw_5 := cwV (R := rm_X7_distance) (rm := rm_X7_noPlace) 2 (hts d0) gX7_distance_X7_noPlace rfl rfl rfl (by decide +kernel) ⟨Nat.le_of_ble_eq_true rfl, Nat.le_of_ble_eq_true rfl⟩
      refine xcall hd0 (xintoV (b := m0) (As := [.int (g), .int (q)]) (rest := [.ref m0]) ⟨hx, hb, hml, hown, hts _⟩ cw_5 (va_recv hK.1 (x1 y_o) (ci := 8) (q0 := 0) rfl rfl) rfl rfl hl.1 rfl (lv_room (Nat.le_of_ble_eq_true rfl)) dX7_distance_14) (c_X7_noPlace (l := l) (G := G) (ty := ty) (b0 := b0) (⟨y_o, y_0, y_1, y_2, y_3, y_4, y_5, y_6, y_7, y_8, y_9, y_10⟩ : xRef G ty m0 A (th) F R pl un co dr bu nb wi hi fc fa lo la px py pz H) hZ) (xoweB cw_5.1) hK hb0 hS (Nat.le_of_ble_eq_true rfl) (Nat.le_of_ble_eq_true rfl) (fun E_5 ce_5 q9_5 H_5 locs_5 d0 hd0 hp_5 hS hce_5 hcv_5 hcl_5 => ?_) (fun v_5 H_5 locs_5 d0 hd0 hp_5 hS => ?_)
      · exact hp_5.elim
      · obtain ⟨rfl, rfl⟩ := hp_5
        show W p l e _ (s.setDrawn _) m _ below meth c _ _ _ _ _ (F0 m 17 ls [.int (xP (¬ (vp_in g F ∧ vp_in q R))), .ref m0])
        refine lv_if_eq (tgt := 24) hx hb dX7_distance_17 (by decide) (fun c_6 => ?_) (fun c_6 => ?_)
        · refine lv_iconst (v := nI 0) hx hb dX7_distance_24 (by decide) ?_
          refine xput (G := G) (ci := 8) (v := .int (nI 0)) (ty := .int) (C := RX7) (T := TX7) (N := 18) hx hb (hts d0) in_X7_distance_X7 tyX7 tyX7_ok nmX7 hown hK.1 y_o hS hB.1 rfl 0 (by decide) (hts d0 _ hw_X7_distance_1) (fun _ h9 => h9) rfl (by decide +kernel) rfl rfl (Nat.le_of_ble_eq_true rfl) dX7_distance_25 (fun H_7 locs_7 hs_7 hS => ?_)
          have hc_7 : xc G m0 (.inr (8, [.int (nI 0), .int (nI F), .int (nI R), .ref (A 0), .ref (A 1), .ref (A 2), .ref (A 3), .ref (A 4), .int (nI nb), .ref (A 5), .ref (A 6), .ref (A 7), .ref (A 8), .ref (A 9), .ref (A 10), .double px, .double py, .double pz])) H_7 := hs_7.1
          have hc_A0_7 : xc G (A 0) (.inl (ty 0, 192, .inr (.inr (.inr (.inl pl))))) H_7 := y_0.kept (hs_7.2.2 _ (hA.1 0 (by decide)))
          have hc_A1_7 : xc G (A 1) (.inl (ty 2, 8, .inl un)) H_7 := y_1.kept (hs_7.2.2 _ (hA.1 1 (by decide)))
          have hc_A2_7 : xc G (A 2) (.inl (ty 0, 256, .inr (.inr (.inr (.inl co))))) H_7 := y_2.kept (hs_7.2.2 _ (hA.1 2 (by decide)))
          have hc_A3_7 : xc G (A 3) (.inl (ty 0, 32, .inr (.inr (.inr (.inl dr))))) H_7 := y_3.kept (hs_7.2.2 _ (hA.1 3 (by decide)))
          have hc_A4_7 : xc G (A 4) (.inl (ty 2, 64, .inl bu)) H_7 := y_4.kept (hs_7.2.2 _ (hA.1 4 (by decide)))
          have hc_A5_7 : xc G (A 5) (.inl (ty 0, 4, .inr (.inr (.inr (.inl wi))))) H_7 := y_5.kept (hs_7.2.2 _ (hA.1 5 (by decide)))
          have hc_A6_7 : xc G (A 6) (.inl (ty 0, 4, .inr (.inr (.inr (.inl hi))))) H_7 := y_6.kept (hs_7.2.2 _ (hA.1 6 (by decide)))
          have hc_A7_7 : xc G (A 7) (.inl (ty 1, 4, .inl fc)) H_7 := y_7.kept (hs_7.2.2 _ (hA.1 7 (by decide)))
          have hc_A8_7 : xc G (A 8) (.inl (ty 0, 128, .inr (.inr (.inr (.inl fa))))) H_7 := y_8.kept (hs_7.2.2 _ (hA.1 8 (by decide)))
          have hc_A9_7 : xc G (A 9) (.inl (ty 1, 8, .inl lo)) H_7 := y_9.kept (hs_7.2.2 _ (hA.1 9 (by decide)))
          have hc_A10_7 : xc G (A 10) (.inl (ty 1, 8, .inl la)) H_7 := y_10.kept (hs_7.2.2 _ (hA.1 10 (by decide)))
          have hfr_7 : xRfr m0 A H H_7 := xRfr.put0 xRfr.rf hs_7
          refine lv_aload_n hx hb dX7_distance_28 rfl (lv_at hl 0 rfl) ?_
          refine va_get (D := G) (cl := vwCl) (ci := 8) (v := .int (nI 0)) (C := RX7) (T := TX7) (N := 18) hx hb (hts d0) in_X7_distance_X7 hown hK.1 (x1 hc_7) 0 rfl rfl 0 (by decide) (hts d0 _ hw_X7_distance_1) (fun _ h9 => h9) rfl dX7_distance_29 ?_
          refine lv_if_le (tgt := 39) hx hb dX7_distance_32 (by decide) (fun _ => ?_) (fun h9 => absurd (by decide) h9)
          have z1 := Classical.not_not.mp (xP_eq.mp c_2)
          have z2 := Classical.not_not.mp (xP_eq.mp c_6)
          obtain ⟨f9, hf9, ef9⟩ := vp_in_of z1.1 (by omega)
          obtain ⟨r9, hr9, er9⟩ := vp_in_of z1.2 (by omega)
          obtain ⟨g9, hg9, eg9⟩ := vp_in_of z2.1 (by omega)
          obtain ⟨q9, hq9, eq9⟩ := vp_in_of z2.2 (by omega)
          subst ef9 er9 eg9 eq9
          refine lv_aload_n hx hb dX7_distance_39 rfl (lv_at hl 0 rfl) ?_
          refine lv_iload_n hx hb dX7_distance_40 rfl (lv_at hl 1 rfl) ?_
          refine lv_iload_n hx hb dX7_distance_41 rfl (lv_at hl 2 rfl) ?_
          refine lv_iload_n hx hb dX7_distance_42 rfl (lv_at hl 3 rfl) ?_
          refine lv_iload hx hb dX7_distance_43 (lv_at hl 4 rfl) ?_
          have cw_9 := cwV (R := rm_X7_distance) (rm := rm_X7_far) 4 (hts d0) gX7_distance_X7_far rfl rfl rfl (by decide +kernel) ⟨Nat.le_of_ble_eq_true rfl, Nat.le_of_ble_eq_true rfl⟩
          refine xcall hd0 (xintoV (b := m0) (As := [.int (nI f9), .int (nI r9), .int (nI g9), .int (nI q9)]) (rest := []) ⟨hx, hb, hml, hown, hts _⟩ cw_9 (va_recv hK.1 (x1 hc_7) (ci := 8) (q0 := 0) rfl rfl) rfl rfl hl.1 rfl (lv_room (Nat.le_of_ble_eq_true rfl)) dX7_distance_45) (c_X7_far (l := l) (G := G) (ty := ty) (b0 := b0) (f := f9) (r := r9) (g := g9) (q := q9) (by omega) (by omega) (by omega) (by omega) (⟨hc_7, hc_A0_7, hc_A1_7, hc_A2_7, hc_A3_7, hc_A4_7, hc_A5_7, hc_A6_7, hc_A7_7, hc_A8_7, hc_A9_7, hc_A10_7⟩ : xRef G ty m0 A (nI 0) F R pl un co dr bu nb wi hi fc fa lo la px py pz H_7) hZ) (xoweB cw_9.1) hK hb0 hS (Nat.le_of_ble_eq_true rfl) (Nat.le_of_ble_eq_true rfl) (fun E_9 ce_9 q9_9 H_9 locs_9 d0 hd0 hp_9 hS hce_9 hcv_9 hcl_9 => ?_) (fun v_9 H_9 locs_9 d0 hd0 hp_9 hS => ?_)
          · exact hp_9.elim
          · obtain ⟨rfl, r_9, rfl, q_9⟩ := hp_9
            show W p l e _ (s.setDrawn _) m _ below meth c _ _ _ _ _ (F0 m 48 ls [.double r_9])
            exact xdret hd0 hx hb hr hlocks hS (Nat.le_of_ble_eq_true rfl) (Nat.le_of_ble_eq_true rfl) dX7_distance_48 ⟨nI 0, ⟨hc_7, hc_A0_7, hc_A1_7, hc_A2_7, hc_A3_7, hc_A4_7, hc_A5_7, hc_A6_7, hc_A7_7, hc_A8_7, hc_A9_7, hc_A10_7⟩, hfr_7, _, rfl, Or.inl ⟨rfl, ⟨z1, z2⟩, by rw [nN_nI (by omega), nN_nI (by omega), nN_nI (by omega), nN_nI (by omega)]; exact q_9⟩⟩
        · refine lv_iconst (v := nI 1) hx hb dX7_distance_20 (by decide) ?_
          refine lv_goto (tgt := 25) hx hb dX7_distance_21 (by decide) ?_
          refine xput (G := G) (ci := 8) (v := .int (nI 1)) (ty := .int) (C := RX7) (T := TX7) (N := 18) hx hb (hts d0) in_X7_distance_X7 tyX7 tyX7_ok nmX7 hown hK.1 y_o hS hB.1 rfl 0 (by decide) (hts d0 _ hw_X7_distance_1) (fun _ h9 => h9) rfl (by decide +kernel) rfl rfl (Nat.le_of_ble_eq_true rfl) dX7_distance_25 (fun H_10 locs_10 hs_10 hS => ?_)
          have hc_10 : xc G m0 (.inr (8, [.int (nI 1), .int (nI F), .int (nI R), .ref (A 0), .ref (A 1), .ref (A 2), .ref (A 3), .ref (A 4), .int (nI nb), .ref (A 5), .ref (A 6), .ref (A 7), .ref (A 8), .ref (A 9), .ref (A 10), .double px, .double py, .double pz])) H_10 := hs_10.1
          have hc_A0_10 : xc G (A 0) (.inl (ty 0, 192, .inr (.inr (.inr (.inl pl))))) H_10 := y_0.kept (hs_10.2.2 _ (hA.1 0 (by decide)))
          have hc_A1_10 : xc G (A 1) (.inl (ty 2, 8, .inl un)) H_10 := y_1.kept (hs_10.2.2 _ (hA.1 1 (by decide)))
          have hc_A2_10 : xc G (A 2) (.inl (ty 0, 256, .inr (.inr (.inr (.inl co))))) H_10 := y_2.kept (hs_10.2.2 _ (hA.1 2 (by decide)))
          have hc_A3_10 : xc G (A 3) (.inl (ty 0, 32, .inr (.inr (.inr (.inl dr))))) H_10 := y_3.kept (hs_10.2.2 _ (hA.1 3 (by decide)))
          have hc_A4_10 : xc G (A 4) (.inl (ty 2, 64, .inl bu)) H_10 := y_4.kept (hs_10.2.2 _ (hA.1 4 (by decide)))
          have hc_A5_10 : xc G (A 5) (.inl (ty 0, 4, .inr (.inr (.inr (.inl wi))))) H_10 := y_5.kept (hs_10.2.2 _ (hA.1 5 (by decide)))
          have hc_A6_10 : xc G (A 6) (.inl (ty 0, 4, .inr (.inr (.inr (.inl hi))))) H_10 := y_6.kept (hs_10.2.2 _ (hA.1 6 (by decide)))
          have hc_A7_10 : xc G (A 7) (.inl (ty 1, 4, .inl fc)) H_10 := y_7.kept (hs_10.2.2 _ (hA.1 7 (by decide)))
          have hc_A8_10 : xc G (A 8) (.inl (ty 0, 128, .inr (.inr (.inr (.inl fa))))) H_10 := y_8.kept (hs_10.2.2 _ (hA.1 8 (by decide)))
          have hc_A9_10 : xc G (A 9) (.inl (ty 1, 8, .inl lo)) H_10 := y_9.kept (hs_10.2.2 _ (hA.1 9 (by decide)))
          have hc_A10_10 : xc G (A 10) (.inl (ty 1, 8, .inl la)) H_10 := y_10.kept (hs_10.2.2 _ (hA.1 10 (by decide)))
          have hfr_10 : xRfr m0 A H H_10 := xRfr.put0 xRfr.rf hs_10
          refine lv_aload_n hx hb dX7_distance_28 rfl (lv_at hl 0 rfl) ?_
          refine va_get (D := G) (cl := vwCl) (ci := 8) (v := .int (nI 1)) (C := RX7) (T := TX7) (N := 18) hx hb (hts d0) in_X7_distance_X7 hown hK.1 (x1 hc_10) 0 rfl rfl 0 (by decide) (hts d0 _ hw_X7_distance_1) (fun _ h9 => h9) rfl dX7_distance_29 ?_
          refine lv_if_le (tgt := 39) hx hb dX7_distance_32 (by decide) (fun h9 => absurd h9 (by decide)) (fun _ => ?_)
          refine lv_dconst0 hx hb dX7_distance_35 ?_
          refine lv_goto (tgt := 48) hx hb dX7_distance_36 (by decide) ?_
          exact xdret hd0 hx hb hr hlocks hS (Nat.le_of_ble_eq_true rfl) (Nat.le_of_ble_eq_true rfl) dX7_distance_48 ⟨nI 1, ⟨hc_10, hc_A0_10, hc_A1_10, hc_A2_10, hc_A3_10, hc_A4_10, hc_A5_10, hc_A6_10, hc_A7_10, hc_A8_10, hc_A9_10, hc_A10_10⟩, hfr_10, _, rfl, Or.inr ⟨rfl, by first | exact fun z => xP_ne.mp c_3 z.1 | exact fun z => xP_ne.mp c_6 z.2 | exact fun z => xP_ne.mp c_2 z.1⟩⟩
