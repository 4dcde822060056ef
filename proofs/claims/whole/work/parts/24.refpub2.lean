/-! THE REFERENCE: what is asked and told (2). -/
def pGir (pl : Nat → UInt64) (f : Nat) : Nat → UInt64
  | 0 => FP.dconst0
  | k + 1 => FP.dadd (pGir pl f k) (pFar pl f k f (k + 1))
theorem xspan_of {n : Int32} (h0 : ¬ n < nI 1) (h1 : n ≤ nI 8) : ∃ j : Nat, 1 ≤ j ∧ j ≤ 8 ∧ n = nI j := by
  have h2 : ¬ n < 0 := fun h => h0 (by have := Int32.lt_iff_toInt_lt.mp h; exact Int32.lt_iff_toInt_lt.mpr (by rw [nI_toInt (by decide)]; simp at this; omega))
  obtain ⟨j, hj, rfl⟩ := nI_of h2
  exact ⟨j, by rcases Nat.lt_or_ge j 1 with h | h; exact absurd (nI_lt h (by decide)) h0; exact h, (nI_leI hj (by decide)).mp h1, rfl⟩
set_option maxRecDepth 20000 in
theorem ggX7_girth_X7_far : GoodIn wsX7_girth wsX7_far := goodIn_r _ [8, 9, 10, 11, 7, 12, 13, 14, 15, 16, 17, 18, 19, 20, 21, 22, 23, 24, 25, 26, 27, 28, 29, 30, 31, 32, 33, 34, 35] (by decide +kernel) (by decide +kernel)
set_option maxRecDepth 20000 in
theorem gX7_girth_X7_far : GoodIn wsX7_girth (wsV RX7 77 RX7 yX7_far wsX7_far) := goodIn_app (goodIn_of _ (by decide +kernel)) ggX7_girth_X7_far
theorem dX7_girth_0 : decode cX7_girth 0 = .ok (.aload_n 0, 1) := by decide +kernel
theorem dX7_girth_1 : decode cX7_girth 1 = .ok (.iload_n 1, 1) := by decide +kernel
theorem dX7_girth_2 : decode cX7_girth 2 = .ok (.ifCond .lt 11, 3) := by decide +kernel
theorem dX7_girth_5 : decode cX7_girth 5 = .ok (.iload_n 1, 1) := by decide +kernel
theorem dX7_girth_6 : decode cX7_girth 6 = .ok (.aload_n 0, 1) := by decide +kernel
theorem dX7_girth_7 : decode cX7_girth 7 = .ok (.getfield 45, 3) := by decide +kernel
theorem dX7_girth_10 : decode cX7_girth 10 = .ok (.if_icmp .lt 7, 3) := by decide +kernel
theorem dX7_girth_13 : decode cX7_girth 13 = .ok (.iconst 1, 1) := by decide +kernel
theorem dX7_girth_14 : decode cX7_girth 14 = .ok (.goto 4, 3) := by decide +kernel
theorem dX7_girth_17 : decode cX7_girth 17 = .ok (.iconst 0, 1) := by decide +kernel
theorem dX7_girth_18 : decode cX7_girth 18 = .ok (.putfield 52, 3) := by decide +kernel
theorem dX7_girth_21 : decode cX7_girth 21 = .ok (.dconst 0, 1) := by decide +kernel
theorem dX7_girth_22 : decode cX7_girth 22 = .ok (.dstore_n 2, 1) := by decide +kernel
theorem dX7_girth_23 : decode cX7_girth 23 = .ok (.iconst 0, 1) := by decide +kernel
theorem dX7_girth_24 : decode cX7_girth 24 = .ok (.istore 4, 2) := by decide +kernel
theorem dX7_girth_26 : decode cX7_girth 26 = .ok (.iload 4, 2) := by decide +kernel
theorem dX7_girth_28 : decode cX7_girth 28 = .ok (.aload_n 0, 1) := by decide +kernel
theorem dX7_girth_29 : decode cX7_girth 29 = .ok (.getfield 49, 3) := by decide +kernel
theorem dX7_girth_32 : decode cX7_girth 32 = .ok (.iconst 1, 1) := by decide +kernel
theorem dX7_girth_33 : decode cX7_girth 33 = .ok (.isub, 1) := by decide +kernel
theorem dX7_girth_34 : decode cX7_girth 34 = .ok (.if_icmp .ge 31, 3) := by decide +kernel
theorem dX7_girth_37 : decode cX7_girth 37 = .ok (.aload_n 0, 1) := by decide +kernel
theorem dX7_girth_38 : decode cX7_girth 38 = .ok (.getfield 52, 3) := by decide +kernel
theorem dX7_girth_41 : decode cX7_girth 41 = .ok (.ifCond .ne 24, 3) := by decide +kernel
theorem dX7_girth_44 : decode cX7_girth 44 = .ok (.dload_n 2, 1) := by decide +kernel
theorem dX7_girth_45 : decode cX7_girth 45 = .ok (.aload_n 0, 1) := by decide +kernel
theorem dX7_girth_46 : decode cX7_girth 46 = .ok (.iload_n 1, 1) := by decide +kernel
theorem dX7_girth_47 : decode cX7_girth 47 = .ok (.iload 4, 2) := by decide +kernel
theorem dX7_girth_49 : decode cX7_girth 49 = .ok (.iload_n 1, 1) := by decide +kernel
theorem dX7_girth_50 : decode cX7_girth 50 = .ok (.iload 4, 2) := by decide +kernel
theorem dX7_girth_52 : decode cX7_girth 52 = .ok (.iconst 1, 1) := by decide +kernel
theorem dX7_girth_53 : decode cX7_girth 53 = .ok (.iadd, 1) := by decide +kernel
theorem dX7_girth_54 : decode cX7_girth 54 = .ok (.invokevirtual 77, 3) := by decide +kernel
theorem dX7_girth_57 : decode cX7_girth 57 = .ok (.dadd, 1) := by decide +kernel
theorem dX7_girth_58 : decode cX7_girth 58 = .ok (.dstore_n 2, 1) := by decide +kernel
theorem dX7_girth_59 : decode cX7_girth 59 = .ok (.iinc 4 1, 3) := by decide +kernel
theorem dX7_girth_62 : decode cX7_girth 62 = .ok (.goto (-36), 3) := by decide +kernel
theorem dX7_girth_65 : decode cX7_girth 65 = .ok (.dload_n 2, 1) := by decide +kernel
theorem dX7_girth_66 : decode cX7_girth 66 = .ok (.dreturn, 1) := by decide +kernel
abbrev rm_X7_girth : Room := { frames := 7, cells := 0, slots := 0, locals := 140 }
theorem hw_X7_girth_1 : (Cond.fieldLink RX7 45 "PlankUnrollModel" "frames" "I") ∈ wsX7_girth := List.mem_of_getElem? (i := 1) rfl
theorem hw_X7_girth_2 : (Cond.fieldLink RX7 52 "PlankUnrollModel" "thrown" "I") ∈ wsX7_girth := List.mem_of_getElem? (i := 2) rfl
theorem hw_X7_girth_3 : (Cond.fieldLink RX7 49 "PlankUnrollModel" "rows" "I") ∈ wsX7_girth := List.mem_of_getElem? (i := 3) rfl
theorem in_X7_girth_X7 : ∀ w ∈ wsX70, w ∈ wsX7_girth := by decide +kernel
set_option maxHeartbeats 4000000 in
set_option maxRecDepth 100000 in
/-- girth -/
theorem c_X7_girth {l : Launch} {G : va_G} {ty : Nat → ClassId} {b0 : Nat} {H : Heap} {f : Int32} {m0 : Nat} {A : Nat → Nat} {th : Int32} {F R nb : Nat} {pl co dr wi hi fa : Nat → UInt64} {un bu fc lo la : Nat → Int32} {px py pz : UInt64} (hY : xRef G ty m0 A th F R pl un co dr bu nb wi hi fc fa lo la px py pz H) (hZ : xSz F R) (hA : xAp m0 A) (hB : xNw b0 m0 A) : xMet l yX7_girth wsX7_girth rm_X7_girth G ty b0 [.ref m0, .int (f)] H (fun v H1 => ∃ T : Int32, xRef G ty m0 A T F R pl un co dr bu nb wi hi fc fa lo la px py pz H1 ∧ xRfr m0 A H H1 ∧ ∃ z : UInt64, v = some (.double z) ∧ ((T = nI 0 ∧ (vp_in f F) ∧ vq z (pGir pl f.toNatClampNeg (R - 1))) ∨ (T = nI 1 ∧ ¬ (vp_in f F)))) (fun _ _ => False) := by
  refine xbody (cc := cX7_girth) (maxL := 5) (ret := (some .double)) (C := RX7) (lv := [(0, .ref m0), (1, .int (f))]) (by decide) rfl rfl (Nat.le_of_ble_eq_true rfl) rfl ?_
  intro p e s m below meth c d0 hx hb hr hts hown hlocks hml hxt hnm0 hK hb0 hH0 hS hd0 ls hl
  obtain ⟨y_o, y_0, y_1, y_2, y_3, y_4, y_5, y_6, y_7, y_8, y_9, y_10⟩ := id hY
  obtain ⟨⟨zF2, zF8⟩, ⟨zR2, zR8⟩⟩ := id hZ
  refine lv_aload_n hx hb dX7_girth_0 rfl (lv_at hl 0 rfl) ?_
  refine lv_iload_n hx hb dX7_girth_1 rfl (lv_at hl 1 rfl) ?_
  refine lv_if_lt (tgt := 13) hx hb dX7_girth_2 (by decide) (fun c_1 => ?_) (fun c_1 => ?_)
  · refine lv_iconst (v := nI 1) hx hb dX7_girth_13 (by decide) ?_
    refine lv_goto (tgt := 18) hx hb dX7_girth_14 (by decide) ?_
    refine xput (G := G) (ci := 8) (v := .int (nI 1)) (ty := .int) (C := RX7) (T := TX7) (N := 18) hx hb (hts d0) in_X7_girth_X7 tyX7 tyX7_ok nmX7 hown hK.1 y_o hS hB.1 rfl 0 (by decide) (hts d0 _ hw_X7_girth_2) (fun _ h9 => h9) rfl (by decide +kernel) rfl rfl (Nat.le_of_ble_eq_true rfl) dX7_girth_18 (fun H_2 locs_2 hs_2 hS => ?_)
    have hc_2 : xc G m0 (.inr (8, [.int (nI 1), .int (nI F), .int (nI R), .ref (A 0), .ref (A 1), .ref (A 2), .ref (A 3), .ref (A 4), .int (nI nb), .ref (A 5), .ref (A 6), .ref (A 7), .ref (A 8), .ref (A 9), .ref (A 10), .double px, .double py, .double pz])) H_2 := hs_2.1
    have hc_A0_2 : xc G (A 0) (.inl (ty 0, 192, .inr (.inr (.inr (.inl pl))))) H_2 := y_0.kept (hs_2.2.2 _ (hA.1 0 (by decide)))
    have hc_A1_2 : xc G (A 1) (.inl (ty 2, 8, .inl un)) H_2 := y_1.kept (hs_2.2.2 _ (hA.1 1 (by decide)))
    have hc_A2_2 : xc G (A 2) (.inl (ty 0, 256, .inr (.inr (.inr (.inl co))))) H_2 := y_2.kept (hs_2.2.2 _ (hA.1 2 (by decide)))
    have hc_A3_2 : xc G (A 3) (.inl (ty 0, 32, .inr (.inr (.inr (.inl dr))))) H_2 := y_3.kept (hs_2.2.2 _ (hA.1 3 (by decide)))
    have hc_A4_2 : xc G (A 4) (.inl (ty 2, 64, .inl bu)) H_2 := y_4.kept (hs_2.2.2 _ (hA.1 4 (by decide)))
    have hc_A5_2 : xc G (A 5) (.inl (ty 0, 4, .inr (.inr (.inr (.inl wi))))) H_2 := y_5.kept (hs_2.2.2 _ (hA.1 5 (by decide)))
    have hc_A6_2 : xc G (A 6) (.inl (ty 0, 4, .inr (.inr (.inr (.inl hi))))) H_2 := y_6.kept (hs_2.2.2 _ (hA.1 6 (by decide)))
    have hc_A7_2 : xc G (A 7) (.inl (ty 1, 4, .inl fc)) H_2 := y_7.kept (hs_2.2.2 _ (hA.1 7 (by decide)))
    have hc_A8_2 : xc G (A 8) (.inl (ty 0, 128, .inr (.inr (.inr (.inl fa))))) H_2 := y_8.kept (hs_2.2.2 _ (hA.1 8 (by decide)))
    have hc_A9_2 : xc G (A 9) (.inl (ty 1, 8, .inl lo)) H_2 := y_9.kept (hs_2.2.2 _ (hA.1 9 (by decide)))
    have hc_A10_2 : xc G (A 10) (.inl (ty 1, 8, .inl la)) H_2 := y_10.kept (hs_2.2.2 _ (hA.1 10 (by decide)))
    have hfr_2 : xRfr m0 A H H_2 := xRfr.put0 xRfr.rf hs_2
    refine lv_dconst0 hx hb dX7_girth_21 ?_
    refine lv_dstore_n (lv' := [(2, .double FP.dconst0), (0, .ref m0), (1, .int (f))]) hx hb dX7_girth_22 rfl hl (by decide) rfl (fun ls hl => ?_)
    refine lv_iconst (v := nI 0) hx hb dX7_girth_23 (by decide) ?_
    refine lv_istore (lv' := [(4, .int (nI 0)), (2, .double FP.dconst0), (0, .ref m0), (1, .int (f))]) hx hb dX7_girth_24 hl (by decide) rfl (fun ls hl => ?_)
    refine lv_iload hx hb dX7_girth_26 (lv_at hl 0 rfl) ?_
    refine lv_aload_n hx hb dX7_girth_28 rfl (lv_at hl 2 rfl) ?_
    refine va_get (D := G) (cl := vwCl) (ci := 8) (v := .int (nI R)) (C := RX7) (T := TX7) (N := 18) hx hb (hts d0) in_X7_girth_X7 hown hK.1 (x1 hc_2) 0 rfl rfl 2 (by decide) (hts d0 _ hw_X7_girth_3) (fun _ h9 => h9) rfl dX7_girth_29 ?_
    refine lv_iconst (v := nI 1) hx hb dX7_girth_32 (by decide) ?_
    refine xisubN hx hb (by omega) dX7_girth_33 ?_
    refine xicmpN_ge (tgt := 65) hx hb (by decide) (by omega) dX7_girth_34 (by decide) (fun h9 => absurd h9 (by omega)) (fun _ => ?_)
    refine lv_aload_n hx hb dX7_girth_37 rfl (lv_at hl 2 rfl) ?_
    refine va_get (D := G) (cl := vwCl) (ci := 8) (v := .int (nI 1)) (C := RX7) (T := TX7) (N := 18) hx hb (hts d0) in_X7_girth_X7 hown hK.1 (x1 hc_2) 0 rfl rfl 0 (by decide) (hts d0 _ hw_X7_girth_2) (fun _ h9 => h9) rfl dX7_girth_38 ?_
    refine lv_if_ne (tgt := 65) hx hb dX7_girth_41 (by decide) (fun _ => ?_) (fun h9 => (show False by revert h9; decide).elim)
    refine lv_dload_n hx hb dX7_girth_65 rfl (lv_at hl 1 rfl) ?_
    exact xdret hd0 hx hb hr hlocks hS (Nat.le_of_ble_eq_true rfl) (Nat.le_of_ble_eq_true rfl) dX7_girth_66 ⟨nI 1, ⟨hc_2, hc_A0_2, hc_A1_2, hc_A2_2, hc_A3_2, hc_A4_2, hc_A5_2, hc_A6_2, hc_A7_2, hc_A8_2, hc_A9_2, hc_A10_2⟩, hfr_2, _, rfl, Or.inr ⟨rfl, xin_no0 c_1⟩⟩
  · refine lv_iload_n hx hb dX7_girth_5 rfl (lv_at hl 1 rfl) ?_
    refine lv_aload_n hx hb dX7_girth_6 rfl (lv_at hl 0 rfl) ?_
    refine va_get (D := G) (cl := vwCl) (ci := 8) (v := .int (nI F)) (C := RX7) (T := TX7) (N := 18) hx hb (hts d0) in_X7_girth_X7 hown hK.1 (x1 y_o) 0 rfl rfl 1 (by decide) (hts d0 _ hw_X7_girth_1) (fun _ h9 => h9) rfl dX7_girth_7 ?_
    refine lv_icmp_lt (tgt := 17) hx hb dX7_girth_10 (by decide) (fun c_5 => ?_) (fun c_5 => ?_)
    · have z_f := xin_lt c_1 c_5 (by omega)
      obtain ⟨f9, hf9, ef9⟩ := vp_in_of z_f (by omega)
      subst ef9
      refine lv_iconst (v := nI 0) hx hb dX7_girth_17 (by decide) ?_
      refine xput (G := G) (ci := 8) (v := .int (nI 0)) (ty := .int) (C := RX7) (T := TX7) (N := 18) hx hb (hts d0) in_X7_girth_X7 tyX7 tyX7_ok nmX7 hown hK.1 y_o hS hB.1 rfl 0 (by decide) (hts d0 _ hw_X7_girth_2) (fun _ h9 => h9) rfl (by decide +kernel) rfl rfl (Nat.le_of_ble_eq_true rfl) dX7_girth_18 (fun H_6 locs_6 hs_6 hS => ?_)
      have hc_6 : xc G m0 (.inr (8, [.int (nI 0), .int (nI F), .int (nI R), .ref (A 0), .ref (A 1), .ref (A 2), .ref (A 3), .ref (A 4), .int (nI nb), .ref (A 5), .ref (A 6), .ref (A 7), .ref (A 8), .ref (A 9), .ref (A 10), .double px, .double py, .double pz])) H_6 := hs_6.1
      have hc_A0_6 : xc G (A 0) (.inl (ty 0, 192, .inr (.inr (.inr (.inl pl))))) H_6 := y_0.kept (hs_6.2.2 _ (hA.1 0 (by decide)))
      have hc_A1_6 : xc G (A 1) (.inl (ty 2, 8, .inl un)) H_6 := y_1.kept (hs_6.2.2 _ (hA.1 1 (by decide)))
      have hc_A2_6 : xc G (A 2) (.inl (ty 0, 256, .inr (.inr (.inr (.inl co))))) H_6 := y_2.kept (hs_6.2.2 _ (hA.1 2 (by decide)))
      have hc_A3_6 : xc G (A 3) (.inl (ty 0, 32, .inr (.inr (.inr (.inl dr))))) H_6 := y_3.kept (hs_6.2.2 _ (hA.1 3 (by decide)))
      have hc_A4_6 : xc G (A 4) (.inl (ty 2, 64, .inl bu)) H_6 := y_4.kept (hs_6.2.2 _ (hA.1 4 (by decide)))
      have hc_A5_6 : xc G (A 5) (.inl (ty 0, 4, .inr (.inr (.inr (.inl wi))))) H_6 := y_5.kept (hs_6.2.2 _ (hA.1 5 (by decide)))
      have hc_A6_6 : xc G (A 6) (.inl (ty 0, 4, .inr (.inr (.inr (.inl hi))))) H_6 := y_6.kept (hs_6.2.2 _ (hA.1 6 (by decide)))
      have hc_A7_6 : xc G (A 7) (.inl (ty 1, 4, .inl fc)) H_6 := y_7.kept (hs_6.2.2 _ (hA.1 7 (by decide)))
      have hc_A8_6 : xc G (A 8) (.inl (ty 0, 128, .inr (.inr (.inr (.inl fa))))) H_6 := y_8.kept (hs_6.2.2 _ (hA.1 8 (by decide)))
      have hc_A9_6 : xc G (A 9) (.inl (ty 1, 8, .inl lo)) H_6 := y_9.kept (hs_6.2.2 _ (hA.1 9 (by decide)))
      have hc_A10_6 : xc G (A 10) (.inl (ty 1, 8, .inl la)) H_6 := y_10.kept (hs_6.2.2 _ (hA.1 10 (by decide)))
      have hfr_6 : xRfr m0 A H H_6 := xRfr.put0 xRfr.rf hs_6
      refine lv_dconst0 hx hb dX7_girth_21 ?_
      refine lv_dstore_n (lv' := [(2, .double FP.dconst0), (0, .ref m0), (1, .int (nI f9))]) hx hb dX7_girth_22 rfl hl (by decide) rfl (fun ls hl => ?_)
      refine lv_iconst (v := nI 0) hx hb dX7_girth_23 (by decide) ?_
      refine lv_istore (lv' := [(4, .int (nI 0)), (2, .double FP.dconst0), (0, .ref m0), (1, .int (nI f9))]) hx hb dX7_girth_24 hl (by decide) rfl (fun ls hl => ?_)
      suffices K : ∀ (n : Nat) (k : Nat) (sm : UInt64) (locs : List Loc) (d0 : Drawn) (ls : Array Slot), k + n = R - 1 ∧ vq sm (pGir pl f9 k) → va_S (xA b0) s.heap H_6 locs → s.drawn.sameBut d0 lw_cs → lv_has ls 5 [(4, .int (nI k)), (2, .double sm), (0, .ref m0), (1, .int (nI f9))] → W p l e rm_X7_girth (s.setDrawn d0) m [Value.ref m0, Value.int ((nI f9))].toArray below meth c H_6 locs (0) (0) (xMQ below (fun v H1 => ∃ T : Int32, xRef G ty m0 A T F R pl un co dr bu nb wi hi fc fa lo la px py pz H1 ∧ xRfr m0 A H H1 ∧ ∃ z : UInt64, v = some (.double z) ∧ ((T = nI 0 ∧ (vp_in (nI f9) F) ∧ vq z (pGir pl (nI f9).toNatClampNeg (R - 1))) ∨ (T = nI 1 ∧ ¬ (vp_in (nI f9) F)))) (fun _ _ => False) [.ref m0, .int ((nI f9))].toArray s rm_X7_girth b0) (F0 m 26 ls []) from K (R - 1) 0 FP.dconst0 _ d0 ls ⟨by omega, vq_rf _⟩ hS hd0 (lv_sub hl [0, 1, 2, 3] rfl)
      intro n
      induction n with
      | zero =>
        intro k sm locs d0 ls hinv hS hd0 hl
        obtain ⟨hk, hsm⟩ := hinv
        refine lv_iload hx hb dX7_girth_26 (lv_at hl 0 rfl) ?_
        refine lv_aload_n hx hb dX7_girth_28 rfl (lv_at hl 2 rfl) ?_
        refine va_get (D := G) (cl := vwCl) (ci := 8) (v := .int (nI R)) (C := RX7) (T := TX7) (N := 18) hx hb (hts d0) in_X7_girth_X7 hown hK.1 (x1 hc_6) 0 rfl rfl 2 (by decide) (hts d0 _ hw_X7_girth_3) (fun _ h9 => h9) rfl dX7_girth_29 ?_
        refine lv_iconst (v := nI 1) hx hb dX7_girth_32 (by decide) ?_
        refine xisubN hx hb (by omega) dX7_girth_33 ?_
        refine xicmpN_ge (tgt := 65) hx hb (by omega) (by omega) dX7_girth_34 (by decide) (fun _ => ?_) (fun h9 => absurd h9 (by omega))
        refine lv_dload_n hx hb dX7_girth_65 rfl (lv_at hl 1 rfl) ?_
        exact xdret hd0 hx hb hr hlocks hS (Nat.le_of_ble_eq_true rfl) (Nat.le_of_ble_eq_true rfl) dX7_girth_66 ⟨nI 0, ⟨hc_6, hc_A0_6, hc_A1_6, hc_A2_6, hc_A3_6, hc_A4_6, hc_A5_6, hc_A6_6, hc_A7_6, hc_A8_6, hc_A9_6, hc_A10_6⟩, hfr_6, _, rfl, Or.inl ⟨rfl, z_f, by have e9 : k = R - 1 := (by omega); subst e9; rw [nN_nI (by omega)]; exact hsm⟩⟩
      | succ n ih =>
        intro k sm locs d0 ls hinv hS hd0 hl
        obtain ⟨hk, hsm⟩ := hinv
        refine lv_iload hx hb dX7_girth_26 (lv_at hl 0 rfl) ?_
        refine lv_aload_n hx hb dX7_girth_28 rfl (lv_at hl 2 rfl) ?_
        refine va_get (D := G) (cl := vwCl) (ci := 8) (v := .int (nI R)) (C := RX7) (T := TX7) (N := 18) hx hb (hts d0) in_X7_girth_X7 hown hK.1 (x1 hc_6) 0 rfl rfl 2 (by decide) (hts d0 _ hw_X7_girth_3) (fun _ h9 => h9) rfl dX7_girth_29 ?_
        refine lv_iconst (v := nI 1) hx hb dX7_girth_32 (by decide) ?_
        refine xisubN hx hb (by omega) dX7_girth_33 ?_
        refine xicmpN_ge (tgt := 65) hx hb (by omega) (by omega) dX7_girth_34 (by decide) (fun h9 => absurd h9 (by omega)) (fun _ => ?_)
        refine lv_aload_n hx hb dX7_girth_37 rfl (lv_at hl 2 rfl) ?_
        refine va_get (D := G) (cl := vwCl) (ci := 8) (v := .int (nI 0)) (C := RX7) (T := TX7) (N := 18) hx hb (hts d0) in_X7_girth_X7 hown hK.1 (x1 hc_6) 0 rfl rfl 0 (by decide) (hts d0 _ hw_X7_girth_2) (fun _ h9 => h9) rfl dX7_girth_38 ?_
        refine lv_if_ne (tgt := 65) hx hb dX7_girth_41 (by decide) (fun h9 => (show False by revert h9; decide).elim) (fun _ => ?_)
        refine lv_dload_n hx hb dX7_girth_44 rfl (lv_at hl 1 rfl) ?_
        refine lv_aload_n hx hb dX7_girth_45 rfl (lv_at hl 2 rfl) ?_
        refine lv_iload_n hx hb dX7_girth_46 rfl (lv_at hl 3 rfl) ?_
        refine lv_iload hx hb dX7_girth_47 (lv_at hl 0 rfl) ?_
        refine lv_iload_n hx hb dX7_girth_49 rfl (lv_at hl 3 rfl) ?_
        refine lv_iload hx hb dX7_girth_50 (lv_at hl 0 rfl) ?_
        refine lv_iconst (v := nI 1) hx hb dX7_girth_52 (by decide) ?_
        refine xiaddN hx hb dX7_girth_53 ?_
        have cw_10 := cwV (R := rm_X7_girth) (rm := rm_X7_far) 4 (hts d0) gX7_girth_X7_far rfl rfl rfl (by decide +kernel) ⟨Nat.le_of_ble_eq_true rfl, Nat.le_of_ble_eq_true rfl⟩
        refine xcall hd0 (xintoV (b := m0) (As := [.int (nI f9), .int (nI k), .int (nI f9), .int (nI (k + 1))]) (rest := [.double sm]) ⟨hx, hb, hml, hown, hts _⟩ cw_10 (va_recv hK.1 (x1 hc_6) (ci := 8) (q0 := 0) rfl rfl) rfl rfl hl.1 rfl (lv_room (Nat.le_of_ble_eq_true rfl)) dX7_girth_54) (c_X7_far (l := l) (G := G) (ty := ty) (b0 := b0) (f := f9) (r := k) (g := f9) (q := k + 1) (by omega) (by omega) (by omega) (by omega) (⟨hc_6, hc_A0_6, hc_A1_6, hc_A2_6, hc_A3_6, hc_A4_6, hc_A5_6, hc_A6_6, hc_A7_6, hc_A8_6, hc_A9_6, hc_A10_6⟩ : xRef G ty m0 A (nI 0) F R pl un co dr bu nb wi hi fc fa lo la px py pz H_6) hZ) (xoweB cw_10.1) hK hb0 hS (Nat.le_of_ble_eq_true rfl) (Nat.le_of_ble_eq_true rfl) (fun E_10 ce_10 q9_10 H_10 locs_10 d0 hd0 hp_10 hS hce_10 hcv_10 hcl_10 => ?_) (fun v_10 H_10 locs_10 d0 hd0 hp_10 hS => ?_)
        · exact hp_10.elim
        · obtain ⟨rfl, r_10, rfl, q_10⟩ := hp_10
          show W p l e _ (s.setDrawn _) m _ below meth c _ _ _ _ _ (F0 m 57 ls [.double r_10, .double sm])
          refine xdadd hd0 hx hb hsm q_10 dX7_girth_57 (fun r_11 d0 q_11 hd0 => ?_)
          refine lv_dstore_n (lv' := [(2, .double r_11), (4, .int (nI k)), (0, .ref m0), (1, .int (nI f9))]) hx hb dX7_girth_58 rfl hl (by decide) rfl (fun ls hl => ?_)
          refine xiincN (x := k) (y := 1) (lv' := [(4, .int (nI (k + 1))), (2, .double r_11), (0, .ref m0), (1, .int (nI f9))]) hx hb dX7_girth_59 hl (k := 1) rfl (by decide) (by decide) rfl (fun ls hl => ?_)
          refine lv_goto (tgt := 26) hx hb dX7_girth_62 (by decide) ?_
          exact ih (k + 1) r_11 _ d0 ls ⟨by omega, q_11⟩ hS hd0 (lv_sub hl [0, 1, 2, 3] rfl)
    · refine lv_iconst (v := nI 1) hx hb dX7_girth_13 (by decide) ?_
      refine lv_goto (tgt := 18) hx hb dX7_girth_14 (by decide) ?_
      refine xput (G := G) (ci := 8) (v := .int (nI 1)) (ty := .int) (C := RX7) (T := TX7) (N := 18) hx hb (hts d0) in_X7_girth_X7 tyX7 tyX7_ok nmX7 hown hK.1 y_o hS hB.1 rfl 0 (by decide) (hts d0 _ hw_X7_girth_2) (fun _ h9 => h9) rfl (by decide +kernel) rfl rfl (Nat.le_of_ble_eq_true rfl) dX7_girth_18 (fun H_12 locs_12 hs_12 hS => ?_)
      have hc_12 : xc G m0 (.inr (8, [.int (nI 1), .int (nI F), .int (nI R), .ref (A 0), .ref (A 1), .ref (A 2), .ref (A 3), .ref (A 4), .int (nI nb), .ref (A 5), .ref (A 6), .ref (A 7), .ref (A 8), .ref (A 9), .ref (A 10), .double px, .double py, .double pz])) H_12 := hs_12.1
      have hc_A0_12 : xc G (A 0) (.inl (ty 0, 192, .inr (.inr (.inr (.inl pl))))) H_12 := y_0.kept (hs_12.2.2 _ (hA.1 0 (by decide)))
      have hc_A1_12 : xc G (A 1) (.inl (ty 2, 8, .inl un)) H_12 := y_1.kept (hs_12.2.2 _ (hA.1 1 (by decide)))
      have hc_A2_12 : xc G (A 2) (.inl (ty 0, 256, .inr (.inr (.inr (.inl co))))) H_12 := y_2.kept (hs_12.2.2 _ (hA.1 2 (by decide)))
      have hc_A3_12 : xc G (A 3) (.inl (ty 0, 32, .inr (.inr (.inr (.inl dr))))) H_12 := y_3.kept (hs_12.2.2 _ (hA.1 3 (by decide)))
      have hc_A4_12 : xc G (A 4) (.inl (ty 2, 64, .inl bu)) H_12 := y_4.kept (hs_12.2.2 _ (hA.1 4 (by decide)))
      have hc_A5_12 : xc G (A 5) (.inl (ty 0, 4, .inr (.inr (.inr (.inl wi))))) H_12 := y_5.kept (hs_12.2.2 _ (hA.1 5 (by decide)))
      have hc_A6_12 : xc G (A 6) (.inl (ty 0, 4, .inr (.inr (.inr (.inl hi))))) H_12 := y_6.kept (hs_12.2.2 _ (hA.1 6 (by decide)))
      have hc_A7_12 : xc G (A 7) (.inl (ty 1, 4, .inl fc)) H_12 := y_7.kept (hs_12.2.2 _ (hA.1 7 (by decide)))
      have hc_A8_12 : xc G (A 8) (.inl (ty 0, 128, .inr (.inr (.inr (.inl fa))))) H_12 := y_8.kept (hs_12.2.2 _ (hA.1 8 (by decide)))
      have hc_A9_12 : xc G (A 9) (.inl (ty 1, 8, .inl lo)) H_12 := y_9.kept (hs_12.2.2 _ (hA.1 9 (by decide)))
      have hc_A10_12 : xc G (A 10) (.inl (ty 1, 8, .inl la)) H_12 := y_10.kept (hs_12.2.2 _ (hA.1 10 (by decide)))
      have hfr_12 : xRfr m0 A H H_12 := xRfr.put0 xRfr.rf hs_12
      refine lv_dconst0 hx hb dX7_girth_21 ?_
      refine lv_dstore_n (lv' := [(2, .double FP.dconst0), (0, .ref m0), (1, .int (f))]) hx hb dX7_girth_22 rfl hl (by decide) rfl (fun ls hl => ?_)
      refine lv_iconst (v := nI 0) hx hb dX7_girth_23 (by decide) ?_
      refine lv_istore (lv' := [(4, .int (nI 0)), (2, .double FP.dconst0), (0, .ref m0), (1, .int (f))]) hx hb dX7_girth_24 hl (by decide) rfl (fun ls hl => ?_)
      refine lv_iload hx hb dX7_girth_26 (lv_at hl 0 rfl) ?_
      refine lv_aload_n hx hb dX7_girth_28 rfl (lv_at hl 2 rfl) ?_
      refine va_get (D := G) (cl := vwCl) (ci := 8) (v := .int (nI R)) (C := RX7) (T := TX7) (N := 18) hx hb (hts d0) in_X7_girth_X7 hown hK.1 (x1 hc_12) 0 rfl rfl 2 (by decide) (hts d0 _ hw_X7_girth_3) (fun _ h9 => h9) rfl dX7_girth_29 ?_
      refine lv_iconst (v := nI 1) hx hb dX7_girth_32 (by decide) ?_
      refine xisubN hx hb (by omega) dX7_girth_33 ?_
      refine xicmpN_ge (tgt := 65) hx hb (by decide) (by omega) dX7_girth_34 (by decide) (fun h9 => absurd h9 (by omega)) (fun _ => ?_)
      refine lv_aload_n hx hb dX7_girth_37 rfl (lv_at hl 2 rfl) ?_
      refine va_get (D := G) (cl := vwCl) (ci := 8) (v := .int (nI 1)) (C := RX7) (T := TX7) (N := 18) hx hb (hts d0) in_X7_girth_X7 hown hK.1 (x1 hc_12) 0 rfl rfl 0 (by decide) (hts d0 _ hw_X7_girth_2) (fun _ h9 => h9) rfl dX7_girth_38 ?_
      refine lv_if_ne (tgt := 65) hx hb dX7_girth_41 (by decide) (fun _ => ?_) (fun h9 => (show False by revert h9; decide).elim)
      refine lv_dload_n hx hb dX7_girth_65 rfl (lv_at hl 1 rfl) ?_
      exact xdret hd0 hx hb hr hlocks hS (Nat.le_of_ble_eq_true rfl) (Nat.le_of_ble_eq_true rfl) dX7_girth_66 ⟨nI 1, ⟨hc_12, hc_A0_12, hc_A1_12, hc_A2_12, hc_A3_12, hc_A4_12, hc_A5_12, hc_A6_12, hc_A7_12, hc_A8_12, hc_A9_12, hc_A10_12⟩, hfr_12, _, rfl, Or.inr ⟨rfl, xin_nlt c_5 (by omega)⟩⟩
/-- a strip and the next one keep a span -/
def pSp (bu : Nat → Int32) (F R n x : Nat) : Prop := pKeeps bu F x x (2 * n) ∧ (x = R - 2 ∨ pKeeps bu F x (x + 1) n)
set_option maxRecDepth 20000 in
theorem ggX7_spans_X7_keeps : GoodIn wsX7_spans wsX7_keeps := goodIn_r _ [7, 8, 9, 10, 11, 12, 13, 14, 15, 16, 17, 18, 19, 20, 21, 22, 23, 24, 25, 26, 27] (by decide +kernel) (by decide +kernel)
set_option maxRecDepth 20000 in
theorem gX7_spans_X7_keeps : GoodIn wsX7_spans (wsV RX7 118 RX7 yX7_keeps wsX7_keeps) := goodIn_app (goodIn_of _ (by decide +kernel)) ggX7_spans_X7_keeps
theorem dX7_spans_0 : decode cX7_spans 0 = .ok (.aload_n 0, 1) := by decide +kernel
theorem dX7_spans_1 : decode cX7_spans 1 = .ok (.iload_n 1, 1) := by decide +kernel
theorem dX7_spans_2 : decode cX7_spans 2 = .ok (.iconst 1, 1) := by decide +kernel
theorem dX7_spans_3 : decode cX7_spans 3 = .ok (.if_icmp .lt 9, 3) := by decide +kernel
theorem dX7_spans_6 : decode cX7_spans 6 = .ok (.iload_n 1, 1) := by decide +kernel
theorem dX7_spans_7 : decode cX7_spans 7 = .ok (.bipush 8, 2) := by decide +kernel
theorem dX7_spans_9 : decode cX7_spans 9 = .ok (.if_icmp .le 7, 3) := by decide +kernel
theorem dX7_spans_12 : decode cX7_spans 12 = .ok (.iconst 1, 1) := by decide +kernel
theorem dX7_spans_13 : decode cX7_spans 13 = .ok (.goto 4, 3) := by decide +kernel
theorem dX7_spans_16 : decode cX7_spans 16 = .ok (.iconst 0, 1) := by decide +kernel
theorem dX7_spans_17 : decode cX7_spans 17 = .ok (.putfield 52, 3) := by decide +kernel
theorem dX7_spans_20 : decode cX7_spans 20 = .ok (.aload_n 0, 1) := by decide +kernel
theorem dX7_spans_21 : decode cX7_spans 21 = .ok (.getfield 52, 3) := by decide +kernel
theorem dX7_spans_24 : decode cX7_spans 24 = .ok (.ifCond .ne 7, 3) := by decide +kernel
theorem dX7_spans_27 : decode cX7_spans 27 = .ok (.iconst 1, 1) := by decide +kernel
theorem dX7_spans_28 : decode cX7_spans 28 = .ok (.goto 4, 3) := by decide +kernel
theorem dX7_spans_31 : decode cX7_spans 31 = .ok (.iconst 0, 1) := by decide +kernel
theorem dX7_spans_32 : decode cX7_spans 32 = .ok (.istore_n 2, 1) := by decide +kernel
theorem dX7_spans_33 : decode cX7_spans 33 = .ok (.iconst 0, 1) := by decide +kernel
theorem dX7_spans_34 : decode cX7_spans 34 = .ok (.istore_n 3, 1) := by decide +kernel
theorem dX7_spans_35 : decode cX7_spans 35 = .ok (.iload_n 3, 1) := by decide +kernel
theorem dX7_spans_36 : decode cX7_spans 36 = .ok (.aload_n 0, 1) := by decide +kernel
theorem dX7_spans_37 : decode cX7_spans 37 = .ok (.getfield 49, 3) := by decide +kernel
theorem dX7_spans_40 : decode cX7_spans 40 = .ok (.iconst 1, 1) := by decide +kernel
theorem dX7_spans_41 : decode cX7_spans 41 = .ok (.isub, 1) := by decide +kernel
theorem dX7_spans_42 : decode cX7_spans 42 = .ok (.if_icmp .ge 53, 3) := by decide +kernel
theorem dX7_spans_45 : decode cX7_spans 45 = .ok (.iload_n 2, 1) := by decide +kernel
theorem dX7_spans_46 : decode cX7_spans 46 = .ok (.ifCond .eq 49, 3) := by decide +kernel
theorem dX7_spans_49 : decode cX7_spans 49 = .ok (.aload_n 0, 1) := by decide +kernel
theorem dX7_spans_50 : decode cX7_spans 50 = .ok (.iload_n 3, 1) := by decide +kernel
theorem dX7_spans_51 : decode cX7_spans 51 = .ok (.iload_n 3, 1) := by decide +kernel
theorem dX7_spans_52 : decode cX7_spans 52 = .ok (.iconst 2, 1) := by decide +kernel
theorem dX7_spans_53 : decode cX7_spans 53 = .ok (.iload_n 1, 1) := by decide +kernel
theorem dX7_spans_54 : decode cX7_spans 54 = .ok (.imul, 1) := by decide +kernel
theorem dX7_spans_55 : decode cX7_spans 55 = .ok (.invokevirtual 118, 3) := by decide +kernel
theorem dX7_spans_58 : decode cX7_spans 58 = .ok (.ifCond .eq 29, 3) := by decide +kernel
theorem dX7_spans_61 : decode cX7_spans 61 = .ok (.iload_n 3, 1) := by decide +kernel
theorem dX7_spans_62 : decode cX7_spans 62 = .ok (.aload_n 0, 1) := by decide +kernel
theorem dX7_spans_63 : decode cX7_spans 63 = .ok (.getfield 49, 3) := by decide +kernel
theorem dX7_spans_66 : decode cX7_spans 66 = .ok (.iconst 2, 1) := by decide +kernel
theorem dX7_spans_67 : decode cX7_spans 67 = .ok (.isub, 1) := by decide +kernel
theorem dX7_spans_68 : decode cX7_spans 68 = .ok (.if_icmp .eq 15, 3) := by decide +kernel
theorem dX7_spans_71 : decode cX7_spans 71 = .ok (.aload_n 0, 1) := by decide +kernel
theorem dX7_spans_72 : decode cX7_spans 72 = .ok (.iload_n 3, 1) := by decide +kernel
theorem dX7_spans_73 : decode cX7_spans 73 = .ok (.iload_n 3, 1) := by decide +kernel
theorem dX7_spans_74 : decode cX7_spans 74 = .ok (.iconst 1, 1) := by decide +kernel
theorem dX7_spans_75 : decode cX7_spans 75 = .ok (.iadd, 1) := by decide +kernel
theorem dX7_spans_76 : decode cX7_spans 76 = .ok (.iload_n 1, 1) := by decide +kernel
theorem dX7_spans_77 : decode cX7_spans 77 = .ok (.invokevirtual 118, 3) := by decide +kernel
theorem dX7_spans_80 : decode cX7_spans 80 = .ok (.ifCond .eq 7, 3) := by decide +kernel
theorem dX7_spans_83 : decode cX7_spans 83 = .ok (.iconst 1, 1) := by decide +kernel
theorem dX7_spans_84 : decode cX7_spans 84 = .ok (.goto 4, 3) := by decide +kernel
theorem dX7_spans_87 : decode cX7_spans 87 = .ok (.iconst 0, 1) := by decide +kernel
theorem dX7_spans_88 : decode cX7_spans 88 = .ok (.istore_n 2, 1) := by decide +kernel
theorem dX7_spans_89 : decode cX7_spans 89 = .ok (.iinc 3 1, 3) := by decide +kernel
theorem dX7_spans_92 : decode cX7_spans 92 = .ok (.goto (-57), 3) := by decide +kernel
theorem dX7_spans_95 : decode cX7_spans 95 = .ok (.iload_n 2, 1) := by decide +kernel
theorem dX7_spans_96 : decode cX7_spans 96 = .ok (.ireturn, 1) := by decide +kernel
abbrev rm_X7_spans : Room := { frames := 7, cells := 0, slots := 0, locals := 140 }
theorem hw_X7_spans_1 : (Cond.fieldLink RX7 52 "PlankUnrollModel" "thrown" "I") ∈ wsX7_spans := List.mem_of_getElem? (i := 1) rfl
theorem hw_X7_spans_2 : (Cond.fieldLink RX7 49 "PlankUnrollModel" "rows" "I") ∈ wsX7_spans := List.mem_of_getElem? (i := 2) rfl
theorem in_X7_spans_X7 : ∀ w ∈ wsX70, w ∈ wsX7_spans := by decide +kernel
set_option maxHeartbeats 4000000 in
set_option maxRecDepth 100000 in
/-- spans -/
theorem c_X7_spans {l : Launch} {G : va_G} {ty : Nat → ClassId} {b0 : Nat} {H : Heap} {n : Int32} {m0 : Nat} {A : Nat → Nat} {th : Int32} {F R nb : Nat} {pl co dr wi hi fa : Nat → UInt64} {un bu fc lo la : Nat → Int32} {px py pz : UInt64} (hY : xRef G ty m0 A th F R pl un co dr bu nb wi hi fc fa lo la px py pz H) (hZ : xSz F R) (hA : xAp m0 A) (hB : xNw b0 m0 A) : xMet l yX7_spans wsX7_spans rm_X7_spans G ty b0 [.ref m0, .int (n)] H (fun v H1 => ∃ T : Int32, xRef G ty m0 A T F R pl un co dr bu nb wi hi fc fa lo la px py pz H1 ∧ xRfr m0 A H H1 ∧ ∃ z : Int32, v = some (.int z) ∧ ((T = nI 0 ∧ (¬ n < nI 1 ∧ n ≤ nI 8) ∧ z = xP (∀ x9 : Nat, x9 < R - 1 → pSp bu F R n.toNatClampNeg x9)) ∨ (T = nI 1 ∧ ¬ (¬ n < nI 1 ∧ n ≤ nI 8)))) (fun _ _ => False) := by
  refine xbody (cc := cX7_spans) (maxL := 4) (ret := (some .boolean)) (C := RX7) (lv := [(0, .ref m0), (1, .int (n))]) (by decide) rfl rfl (Nat.le_of_ble_eq_true rfl) rfl ?_
  intro p e s m below meth c d0 hx hb hr hts hown hlocks hml hxt hnm0 hK hb0 hH0 hS hd0 ls hl
  obtain ⟨y_o, y_0, y_1, y_2, y_3, y_4, y_5, y_6, y_7, y_8, y_9, y_10⟩ := id hY
  obtain ⟨⟨zF2, zF8⟩, ⟨zR2, zR8⟩⟩ := id hZ
  refine lv_aload_n hx hb dX7_spans_0 rfl (lv_at hl 0 rfl) ?_
  refine lv_iload_n hx hb dX7_spans_1 rfl (lv_at hl 1 rfl) ?_
  refine lv_iconst (v := nI 1) hx hb dX7_spans_2 (by decide) ?_
  refine lv_icmp_lt (tgt := 12) hx hb dX7_spans_3 (by decide) (fun c_1 => ?_) (fun c_1 => ?_)
  · refine lv_iconst (v := nI 1) hx hb dX7_spans_12 (by decide) ?_
    refine lv_goto (tgt := 17) hx hb dX7_spans_13 (by decide) ?_
    refine xput (G := G) (ci := 8) (v := .int (nI 1)) (ty := .int) (C := RX7) (T := TX7) (N := 18) hx hb (hts d0) in_X7_spans_X7 tyX7 tyX7_ok nmX7 hown hK.1 y_o hS hB.1 rfl 0 (by decide) (hts d0 _ hw_X7_spans_1) (fun _ h9 => h9) rfl (by decide +kernel) rfl rfl (Nat.le_of_ble_eq_true rfl) dX7_spans_17 (fun H_2 locs_2 hs_2 hS => ?_)
    have hc_2 : xc G m0 (.inr (8, [.int (nI 1), .int (nI F), .int (nI R), .ref (A 0), .ref (A 1), .ref (A 2), .ref (A 3), .ref (A 4), .int (nI nb), .ref (A 5), .ref (A 6), .ref (A 7), .ref (A 8), .ref (A 9), .ref (A 10), .double px, .double py, .double pz])) H_2 := hs_2.1
    have hc_A0_2 : xc G (A 0) (.inl (ty 0, 192, .inr (.inr (.inr (.inl pl))))) H_2 := y_0.kept (hs_2.2.2 _ (hA.1 0 (by decide)))
    have hc_A1_2 : xc G (A 1) (.inl (ty 2, 8, .inl un)) H_2 := y_1.kept (hs_2.2.2 _ (hA.1 1 (by decide)))
    have hc_A2_2 : xc G (A 2) (.inl (ty 0, 256, .inr (.inr (.inr (.inl co))))) H_2 := y_2.kept (hs_2.2.2 _ (hA.1 2 (by decide)))
    have hc_A3_2 : xc G (A 3) (.inl (ty 0, 32, .inr (.inr (.inr (.inl dr))))) H_2 := y_3.kept (hs_2.2.2 _ (hA.1 3 (by decide)))
    have hc_A4_2 : xc G (A 4) (.inl (ty 2, 64, .inl bu)) H_2 := y_4.kept (hs_2.2.2 _ (hA.1 4 (by decide)))
    have hc_A5_2 : xc G (A 5) (.inl (ty 0, 4, .inr (.inr (.inr (.inl wi))))) H_2 := y_5.kept (hs_2.2.2 _ (hA.1 5 (by decide)))
    have hc_A6_2 : xc G (A 6) (.inl (ty 0, 4, .inr (.inr (.inr (.inl hi))))) H_2 := y_6.kept (hs_2.2.2 _ (hA.1 6 (by decide)))
    have hc_A7_2 : xc G (A 7) (.inl (ty 1, 4, .inl fc)) H_2 := y_7.kept (hs_2.2.2 _ (hA.1 7 (by decide)))
    have hc_A8_2 : xc G (A 8) (.inl (ty 0, 128, .inr (.inr (.inr (.inl fa))))) H_2 := y_8.kept (hs_2.2.2 _ (hA.1 8 (by decide)))
    have hc_A9_2 : xc G (A 9) (.inl (ty 1, 8, .inl lo)) H_2 := y_9.kept (hs_2.2.2 _ (hA.1 9 (by decide)))
    have hc_A10_2 : xc G (A 10) (.inl (ty 1, 8, .inl la)) H_2 := y_10.kept (hs_2.2.2 _ (hA.1 10 (by decide)))
    have hfr_2 : xRfr m0 A H H_2 := xRfr.put0 xRfr.rf hs_2
    refine lv_aload_n hx hb dX7_spans_20 rfl (lv_at hl 0 rfl) ?_
    refine va_get (D := G) (cl := vwCl) (ci := 8) (v := .int (nI 1)) (C := RX7) (T := TX7) (N := 18) hx hb (hts d0) in_X7_spans_X7 hown hK.1 (x1 hc_2) 0 rfl rfl 0 (by decide) (hts d0 _ hw_X7_spans_1) (fun _ h9 => h9) rfl dX7_spans_21 ?_
    refine lv_if_ne (tgt := 31) hx hb dX7_spans_24 (by decide) (fun _ => ?_) (fun h9 => (show False by revert h9; decide).elim)
    refine lv_iconst (v := nI 0) hx hb dX7_spans_31 (by decide) ?_
    refine lv_istore_n (lv' := [(2, .int (nI 0)), (0, .ref m0), (1, .int (n))]) hx hb dX7_spans_32 rfl hl (by decide) rfl (fun ls hl => ?_)
    refine lv_iconst (v := nI 0) hx hb dX7_spans_33 (by decide) ?_
    refine lv_istore_n (lv' := [(3, .int (nI 0)), (2, .int (nI 0)), (0, .ref m0), (1, .int (n))]) hx hb dX7_spans_34 rfl hl (by decide) rfl (fun ls hl => ?_)
    refine lv_iload_n hx hb dX7_spans_35 rfl (lv_at hl 0 rfl) ?_
    refine lv_aload_n hx hb dX7_spans_36 rfl (lv_at hl 2 rfl) ?_
    refine va_get (D := G) (cl := vwCl) (ci := 8) (v := .int (nI R)) (C := RX7) (T := TX7) (N := 18) hx hb (hts d0) in_X7_spans_X7 hown hK.1 (x1 hc_2) 0 rfl rfl 2 (by decide) (hts d0 _ hw_X7_spans_2) (fun _ h9 => h9) rfl dX7_spans_37 ?_
    refine lv_iconst (v := nI 1) hx hb dX7_spans_40 (by decide) ?_
    refine xisubN hx hb (by omega) dX7_spans_41 ?_
    refine xicmpN_ge (tgt := 95) hx hb (by decide) (by omega) dX7_spans_42 (by decide) (fun h9 => absurd h9 (by omega)) (fun _ => ?_)
    refine lv_iload_n hx hb dX7_spans_45 rfl (lv_at hl 1 rfl) ?_
    refine lv_if_eq (tgt := 95) hx hb dX7_spans_46 (by decide) (fun _ => ?_) (fun h9 => (show False by revert h9; decide).elim)
    refine lv_iload_n hx hb dX7_spans_95 rfl (lv_at hl 1 rfl) ?_
    exact xzret (by decide) hd0 hx hb hr hlocks hS (Nat.le_of_ble_eq_true rfl) (Nat.le_of_ble_eq_true rfl) dX7_spans_96 ⟨nI 1, ⟨hc_2, hc_A0_2, hc_A1_2, hc_A2_2, hc_A3_2, hc_A4_2, hc_A5_2, hc_A6_2, hc_A7_2, hc_A8_2, hc_A9_2, hc_A10_2⟩, hfr_2, _, rfl, Or.inr ⟨rfl, fun z => z.1 c_1⟩⟩
  · refine lv_iload_n hx hb dX7_spans_6 rfl (lv_at hl 1 rfl) ?_
    refine lv_bipush (v := nI 8) hx hb dX7_spans_7 (by decide) ?_
    refine lv_icmp_le (tgt := 16) hx hb dX7_spans_9 (by decide) (fun c_6 => ?_) (fun c_6 => ?_)
    · have z9 : ¬ n < nI 1 ∧ n ≤ nI 8 := ⟨c_1, c_6⟩
      obtain ⟨n9, hn1, hn8, en9⟩ := xspan_of c_1 c_6
      subst en9
      refine lv_iconst (v := nI 0) hx hb dX7_spans_16 (by decide) ?_
      refine xput (G := G) (ci := 8) (v := .int (nI 0)) (ty := .int) (C := RX7) (T := TX7) (N := 18) hx hb (hts d0) in_X7_spans_X7 tyX7 tyX7_ok nmX7 hown hK.1 y_o hS hB.1 rfl 0 (by decide) (hts d0 _ hw_X7_spans_1) (fun _ h9 => h9) rfl (by decide +kernel) rfl rfl (Nat.le_of_ble_eq_true rfl) dX7_spans_17 (fun H_7 locs_7 hs_7 hS => ?_)
      have hc_7 : xc G m0 (.inr (8, [.int (nI 0), .int (nI F), .int (nI R), .ref (A 0), .ref (A 1), .ref (A 2), .ref (A 3), .ref (A 4), .int (nI nb), .ref (A 5), .ref (A 6), .ref (A 7), .ref (A 8), .ref (A 9), .ref (A 10), .double px, .double py, .double pz])) H_7 := hs_7.1
      have hc_A0_7 : xc G (A 0) (.inl (ty 0, 192, .inr (.inr (.inr (.inl pl))))) H_7 := y_0.kept (hs_7.2.2 _ (hA.1 0 (by decide)))
      have hc_A1_7 : xc G (A 1) (.inl (ty 2, 8, .inl un)) H_7 := y_1.kept (hs_7.2.2 _ (hA.1 1 (by decide)))
      have hc_A2_7 : xc G (A 2) (.inl (ty 0, 256, .inr (.inr (.inr (.inl co))))) H_7 := y_2.kept (hs_7.2.2 _ (hA.1 2 (by decide)))
      have hc_A3_7 : xc G (A 3) (.inl (ty 0, 32, .inr (.inr (.inr (.inl dr))))) H_7 := y_3.kept (hs_7.2.2 _ (hA.1 3 (by decide)))
      have hc_A4_7 : xc G (A 4) (.inl (ty 2, 64, .inl bu)) H_7 := y_4.kept (hs_7.2.2 _ (hA.1 4 (by decide)))
      have hc_A5_7 : xc G (A 5) (.inl (ty 0, 4, .inr (.inr (.inr (.inl wi))))) H_7 := y_5.kept (hs_7.2.2 _ (hA.1 5 (by decide)))
      have hc_A6_7 : xc G (A 6) (.inl (ty 0, 4, .inr (.inr (.inr (.inl hi))))) H_7 := y_6.kept (hs_7.2.2 _ (hA.1 6 (by decide)))
      have hc_A7_7 : xc G (A 7) (.inl (ty 1, 4, .inl fc)) H_7 := y_7.kept (hs_7.2.2 _ (hA.1 7 (by decide)))
      have hc_A8_7 : xc G (A 8) (.inl (ty 0, 128, .inr (.inr (.inr (.inl fa))))) H_7 := y_8.kept (hs_7.2.2 _ (hA.1 8 (by decide)))
      have hc_A9_7 : xc G (A 9) (.inl (ty 1, 8, .inl lo)) H_7 := y_9.kept (hs_7.2.2 _ (hA.1 9 (by decide)))
      have hc_A10_7 : xc G (A 10) (.inl (ty 1, 8, .inl la)) H_7 := y_10.kept (hs_7.2.2 _ (hA.1 10 (by decide)))
      have hfr_7 : xRfr m0 A H H_7 := xRfr.put0 xRfr.rf hs_7
      refine lv_aload_n hx hb dX7_spans_20 rfl (lv_at hl 0 rfl) ?_
      refine va_get (D := G) (cl := vwCl) (ci := 8) (v := .int (nI 0)) (C := RX7) (T := TX7) (N := 18) hx hb (hts d0) in_X7_spans_X7 hown hK.1 (x1 hc_7) 0 rfl rfl 0 (by decide) (hts d0 _ hw_X7_spans_1) (fun _ h9 => h9) rfl dX7_spans_21 ?_
      refine lv_if_ne (tgt := 31) hx hb dX7_spans_24 (by decide) (fun h9 => (show False by revert h9; decide).elim) (fun _ => ?_)
      refine lv_iconst (v := nI 1) hx hb dX7_spans_27 (by decide) ?_
      refine lv_goto (tgt := 32) hx hb dX7_spans_28 (by decide) ?_
      refine lv_istore_n (lv' := [(2, .int (nI 1)), (0, .ref m0), (1, .int (nI n9))]) hx hb dX7_spans_32 rfl hl (by decide) rfl (fun ls hl => ?_)
      refine lv_iconst (v := nI 0) hx hb dX7_spans_33 (by decide) ?_
      refine lv_istore_n (lv' := [(3, .int (nI 0)), (2, .int (nI 1)), (0, .ref m0), (1, .int (nI n9))]) hx hb dX7_spans_34 rfl hl (by decide) rfl (fun ls hl => ?_)
      have e0 : nI 1 = (xP (∀ x9 : Nat, x9 < 0 → pSp bu F R n9 x9)) := (xP_t (fun _ h => absurd h (Nat.not_lt_zero _))).symm
      suffices K : ∀ (q : Nat) (k : Nat) (locs : List Loc) (d0 : Drawn) (ls : Array Slot), k + q = R - 1 → va_S (xA b0) s.heap H_7 locs → s.drawn.sameBut d0 lw_cs → lv_has ls 4 [(3, .int (nI k)), (2, .int ((xP (∀ x9 : Nat, x9 < k → pSp bu F R n9 x9)))), (0, .ref m0), (1, .int (nI n9))] → W p l e rm_X7_spans (s.setDrawn d0) m [Value.ref m0, Value.int ((nI n9))].toArray below meth c H_7 locs (0) (0) (xMQ below (fun v H1 => ∃ T : Int32, xRef G ty m0 A T F R pl un co dr bu nb wi hi fc fa lo la px py pz H1 ∧ xRfr m0 A H H1 ∧ ∃ z : Int32, v = some (.int z) ∧ ((T = nI 0 ∧ (¬ (nI n9) < nI 1 ∧ (nI n9) ≤ nI 8) ∧ z = xP (∀ x9 : Nat, x9 < R - 1 → pSp bu F R (nI n9).toNatClampNeg x9)) ∨ (T = nI 1 ∧ ¬ (¬ (nI n9) < nI 1 ∧ (nI n9) ≤ nI 8)))) (fun _ _ => False) [.ref m0, .int ((nI n9))].toArray s rm_X7_spans b0) (F0 m 35 ls []) from K (R - 1) 0 _ d0 ls (by omega) hS hd0 (by rw [← e0]; exact lv_sub hl [0, 1, 2, 3] rfl)
      intro q
      induction q with
      | zero =>
        intro k locs d0 ls hinv hS hd0 hl
        refine lv_iload_n hx hb dX7_spans_35 rfl (lv_at hl 0 rfl) ?_
        refine lv_aload_n hx hb dX7_spans_36 rfl (lv_at hl 2 rfl) ?_
        refine va_get (D := G) (cl := vwCl) (ci := 8) (v := .int (nI R)) (C := RX7) (T := TX7) (N := 18) hx hb (hts d0) in_X7_spans_X7 hown hK.1 (x1 hc_7) 0 rfl rfl 2 (by decide) (hts d0 _ hw_X7_spans_2) (fun _ h9 => h9) rfl dX7_spans_37 ?_
        refine lv_iconst (v := nI 1) hx hb dX7_spans_40 (by decide) ?_
        refine xisubN hx hb (by omega) dX7_spans_41 ?_
        refine xicmpN_ge (tgt := 95) hx hb (by omega) (by omega) dX7_spans_42 (by decide) (fun _ => ?_) (fun h9 => absurd h9 (by omega))
        refine lv_iload_n hx hb dX7_spans_95 rfl (lv_at hl 1 rfl) ?_
        exact xzret (xP_nz _) hd0 hx hb hr hlocks hS (Nat.le_of_ble_eq_true rfl) (Nat.le_of_ble_eq_true rfl) dX7_spans_96 ⟨nI 0, ⟨hc_7, hc_A0_7, hc_A1_7, hc_A2_7, hc_A3_7, hc_A4_7, hc_A5_7, hc_A6_7, hc_A7_7, hc_A8_7, hc_A9_7, hc_A10_7⟩, hfr_7, _, rfl, Or.inl ⟨rfl, z9, by have e9 : k = R - 1 := (by omega); subst e9; rw [nN_nI (by omega)]⟩⟩
      | succ q ih =>
        intro k locs d0 ls hinv hS hd0 hl
        refine lv_iload_n hx hb dX7_spans_35 rfl (lv_at hl 0 rfl) ?_
        refine lv_aload_n hx hb dX7_spans_36 rfl (lv_at hl 2 rfl) ?_
        refine va_get (D := G) (cl := vwCl) (ci := 8) (v := .int (nI R)) (C := RX7) (T := TX7) (N := 18) hx hb (hts d0) in_X7_spans_X7 hown hK.1 (x1 hc_7) 0 rfl rfl 2 (by decide) (hts d0 _ hw_X7_spans_2) (fun _ h9 => h9) rfl dX7_spans_37 ?_
        refine lv_iconst (v := nI 1) hx hb dX7_spans_40 (by decide) ?_
        refine xisubN hx hb (by omega) dX7_spans_41 ?_
        refine xicmpN_ge (tgt := 95) hx hb (by omega) (by omega) dX7_spans_42 (by decide) (fun h9 => absurd h9 (by omega)) (fun _ => ?_)
        refine lv_iload_n hx hb dX7_spans_45 rfl (lv_at hl 1 rfl) ?_
        refine lv_if_eq (tgt := 95) hx hb dX7_spans_46 (by decide) (fun c_11 => ?_) (fun c_11 => ?_)
        · refine lv_iload_n hx hb dX7_spans_95 rfl (lv_at hl 1 rfl) ?_
          exact xzret (xP_nz _) hd0 hx hb hr hlocks hS (Nat.le_of_ble_eq_true rfl) (Nat.le_of_ble_eq_true rfl) dX7_spans_96 ⟨nI 0, ⟨hc_7, hc_A0_7, hc_A1_7, hc_A2_7, hc_A3_7, hc_A4_7, hc_A5_7, hc_A6_7, hc_A7_7, hc_A8_7, hc_A9_7, hc_A10_7⟩, hfr_7, _, rfl, Or.inl ⟨rfl, z9, by rw [nN_nI (by omega)]; exact (xP_eq.mpr (xP_eq.mp c_11)).trans (xP_f (fun z => xP_eq.mp c_11 (fun x9 hx9 => z x9 (by omega)))).symm⟩⟩
        · have J_12 : ∀ (y : Int32) (locs : List Loc) (d0 : Drawn) (ls : Array Slot), y = (xP (∀ x9 : Nat, x9 < (k + 1) → pSp bu F R n9 x9)) → va_S (xA b0) s.heap H_7 locs → s.drawn.sameBut d0 lw_cs → lv_has ls 4 [(3, .int (nI k)), (2, .int ((xP (∀ x9 : Nat, x9 < k → pSp bu F R n9 x9)))), (0, .ref m0), (1, .int (nI n9))] → W p l e rm_X7_spans (s.setDrawn d0) m [Value.ref m0, Value.int ((nI n9))].toArray below meth c H_7 locs (0) (0) (xMQ below (fun v H1 => ∃ T : Int32, xRef G ty m0 A T F R pl un co dr bu nb wi hi fc fa lo la px py pz H1 ∧ xRfr m0 A H H1 ∧ ∃ z : Int32, v = some (.int z) ∧ ((T = nI 0 ∧ (¬ (nI n9) < nI 1 ∧ (nI n9) ≤ nI 8) ∧ z = xP (∀ x9 : Nat, x9 < R - 1 → pSp bu F R (nI n9).toNatClampNeg x9)) ∨ (T = nI 1 ∧ ¬ (¬ (nI n9) < nI 1 ∧ (nI n9) ≤ nI 8)))) (fun _ _ => False) [.ref m0, .int ((nI n9))].toArray s rm_X7_spans b0) (F0 m 88 ls [.int (y)]) := by
            intro y locs d0 ls hP_12 hS hd0 hl
            subst hP_12
            refine lv_istore_n (lv' := [(2, .int ((xP (∀ x9 : Nat, x9 < (k + 1) → pSp bu F R n9 x9)))), (3, .int (nI k)), (0, .ref m0), (1, .int (nI n9))]) hx hb dX7_spans_88 rfl hl (by decide) rfl (fun ls hl => ?_)
            refine xiincN (x := k) (y := 1) (lv' := [(3, .int (nI (k + 1))), (2, .int ((xP (∀ x9 : Nat, x9 < (k + 1) → pSp bu F R n9 x9)))), (0, .ref m0), (1, .int (nI n9))]) hx hb dX7_spans_89 hl (k := 1) rfl (by decide) (by decide) rfl (fun ls hl => ?_)
            refine lv_goto (tgt := 35) hx hb dX7_spans_92 (by decide) ?_
            exact ih (k + 1) _ d0 ls (by omega) hS hd0 (lv_sub hl [0, 1, 2, 3] rfl)
          refine lv_aload_n hx hb dX7_spans_49 rfl (lv_at hl 2 rfl) ?_
          refine lv_iload_n hx hb dX7_spans_50 rfl (lv_at hl 0 rfl) ?_
          refine lv_iload_n hx hb dX7_spans_51 rfl (lv_at hl 0 rfl) ?_
          refine lv_iconst (v := nI 2) hx hb dX7_spans_52 (by decide) ?_
          refine lv_iload_n hx hb dX7_spans_53 rfl (lv_at hl 3 rfl) ?_
          refine ximulN hx hb dX7_spans_54 ?_
          have cw_13 := cwV (R := rm_X7_spans) (rm := rm_X7_keeps) 3 (hts d0) gX7_spans_X7_keeps rfl rfl rfl (by decide +kernel) ⟨Nat.le_of_ble_eq_true rfl, Nat.le_of_ble_eq_true rfl⟩
          refine xcall hd0 (xintoV (b := m0) (As := [.int (nI k), .int (nI k), .int (nI (2 * n9))]) (rest := []) ⟨hx, hb, hml, hown, hts _⟩ cw_13 (va_recv hK.1 (x1 hc_7) (ci := 8) (q0 := 0) rfl rfl) rfl rfl hl.1 rfl (lv_room (Nat.le_of_ble_eq_true rfl)) dX7_spans_55) (c_X7_keeps (l := l) (G := G) (ty := ty) (b0 := b0) (⟨hc_7, hc_A0_7, hc_A1_7, hc_A2_7, hc_A3_7, hc_A4_7, hc_A5_7, hc_A6_7, hc_A7_7, hc_A8_7, hc_A9_7, hc_A10_7⟩ : xRef G ty m0 A (nI 0) F R pl un co dr bu nb wi hi fc fa lo la px py pz H_7) hZ (x := k) (t := k) (n := 2 * n9) (by omega) (by omega) (by omega)) (xoweB cw_13.1) hK hb0 hS (Nat.le_of_ble_eq_true rfl) (Nat.le_of_ble_eq_true rfl) (fun E_13 ce_13 q9_13 H_13 locs_13 d0 hd0 hp_13 hS hce_13 hcv_13 hcl_13 => ?_) (fun v_13 H_13 locs_13 d0 hd0 hp_13 hS => ?_)
          · exact hp_13.elim
          · obtain ⟨rfl, rfl⟩ := hp_13
            show W p l e _ (s.setDrawn _) m _ below meth c _ _ _ _ _ (F0 m 58 ls [.int (xP (pKeeps bu F k k (2 * n9)))])
            refine lv_if_eq (tgt := 87) hx hb dX7_spans_58 (by decide) (fun c_14 => ?_) (fun c_14 => ?_)
            · refine lv_iconst (v := nI 0) hx hb dX7_spans_87 (by decide) ?_
              exact J_12 _ _ d0 ls (xP_f (fun z => xP_eq.mp c_14 (z k (by omega)).1)).symm hS hd0 (lv_sub hl [0, 1, 2, 3] rfl)
            · refine lv_iload_n hx hb dX7_spans_61 rfl (lv_at hl 0 rfl) ?_
              refine lv_aload_n hx hb dX7_spans_62 rfl (lv_at hl 2 rfl) ?_
              refine va_get (D := G) (cl := vwCl) (ci := 8) (v := .int (nI R)) (C := RX7) (T := TX7) (N := 18) hx hb (hts d0) in_X7_spans_X7 hown hK.1 (x1 hc_7) 0 rfl rfl 2 (by decide) (hts d0 _ hw_X7_spans_2) (fun _ h9 => h9) rfl dX7_spans_63 ?_
              refine lv_iconst (v := nI 2) hx hb dX7_spans_66 (by decide) ?_
              refine xisubN hx hb (by omega) dX7_spans_67 ?_
              refine xicmpN_eq (tgt := 83) hx hb (by omega) (by omega) dX7_spans_68 (by decide) (fun c_15 => ?_) (fun c_15 => ?_)
              · refine lv_iconst (v := nI 1) hx hb dX7_spans_83 (by decide) ?_
                refine lv_goto (tgt := 88) hx hb dX7_spans_84 (by decide) ?_
                exact J_12 _ _ d0 ls (xP_t (xall_s (xP_ne.mp c_11) ⟨xP_ne.mp c_14, Or.inl c_15⟩)).symm hS hd0 (lv_sub hl [0, 1, 2, 3] rfl)
              · refine lv_aload_n hx hb dX7_spans_71 rfl (lv_at hl 2 rfl) ?_
                refine lv_iload_n hx hb dX7_spans_72 rfl (lv_at hl 0 rfl) ?_
                refine lv_iload_n hx hb dX7_spans_73 rfl (lv_at hl 0 rfl) ?_
                refine lv_iconst (v := nI 1) hx hb dX7_spans_74 (by decide) ?_
                refine xiaddN hx hb dX7_spans_75 ?_
                refine lv_iload_n hx hb dX7_spans_76 rfl (lv_at hl 3 rfl) ?_
                have cw_16 := cwV (R := rm_X7_spans) (rm := rm_X7_keeps) 3 (hts d0) gX7_spans_X7_keeps rfl rfl rfl (by decide +kernel) ⟨Nat.le_of_ble_eq_true rfl, Nat.le_of_ble_eq_true rfl⟩
                refine xcall hd0 (xintoV (b := m0) (As := [.int (nI k), .int (nI (k + 1)), .int (nI n9)]) (rest := []) ⟨hx, hb, hml, hown, hts _⟩ cw_16 (va_recv hK.1 (x1 hc_7) (ci := 8) (q0 := 0) rfl rfl) rfl rfl hl.1 rfl (lv_room (Nat.le_of_ble_eq_true rfl)) dX7_spans_77) (c_X7_keeps (l := l) (G := G) (ty := ty) (b0 := b0) (⟨hc_7, hc_A0_7, hc_A1_7, hc_A2_7, hc_A3_7, hc_A4_7, hc_A5_7, hc_A6_7, hc_A7_7, hc_A8_7, hc_A9_7, hc_A10_7⟩ : xRef G ty m0 A (nI 0) F R pl un co dr bu nb wi hi fc fa lo la px py pz H_7) hZ (x := k) (t := k + 1) (n := n9) (by omega) (by omega) (by omega)) (xoweB cw_16.1) hK hb0 hS (Nat.le_of_ble_eq_true rfl) (Nat.le_of_ble_eq_true rfl) (fun E_16 ce_16 q9_16 H_16 locs_16 d0 hd0 hp_16 hS hce_16 hcv_16 hcl_16 => ?_) (fun v_16 H_16 locs_16 d0 hd0 hp_16 hS => ?_)
                · exact hp_16.elim
                · obtain ⟨rfl, rfl⟩ := hp_16
                  show W p l e _ (s.setDrawn _) m _ below meth c _ _ _ _ _ (F0 m 80 ls [.int (xP (pKeeps bu F k (k + 1) n9))])
                  refine lv_if_eq (tgt := 87) hx hb dX7_spans_80 (by decide) (fun c_17 => ?_) (fun c_17 => ?_)
                  · refine lv_iconst (v := nI 0) hx hb dX7_spans_87 (by decide) ?_
                    exact J_12 _ _ d0 ls (xP_f (fun z => (z k (by omega)).2.elim c_15 (xP_eq.mp c_17))).symm hS hd0 (lv_sub hl [0, 1, 2, 3] rfl)
                  · refine lv_iconst (v := nI 1) hx hb dX7_spans_83 (by decide) ?_
                    refine lv_goto (tgt := 88) hx hb dX7_spans_84 (by decide) ?_
                    exact J_12 _ _ d0 ls (xP_t (xall_s (xP_ne.mp c_11) ⟨xP_ne.mp c_14, Or.inr (xP_ne.mp c_17)⟩)).symm hS hd0 (lv_sub hl [0, 1, 2, 3] rfl)
    · refine lv_iconst (v := nI 1) hx hb dX7_spans_12 (by decide) ?_
      refine lv_goto (tgt := 17) hx hb dX7_spans_13 (by decide) ?_
      refine xput (G := G) (ci := 8) (v := .int (nI 1)) (ty := .int) (C := RX7) (T := TX7) (N := 18) hx hb (hts d0) in_X7_spans_X7 tyX7 tyX7_ok nmX7 hown hK.1 y_o hS hB.1 rfl 0 (by decide) (hts d0 _ hw_X7_spans_1) (fun _ h9 => h9) rfl (by decide +kernel) rfl rfl (Nat.le_of_ble_eq_true rfl) dX7_spans_17 (fun H_18 locs_18 hs_18 hS => ?_)
      have hc_18 : xc G m0 (.inr (8, [.int (nI 1), .int (nI F), .int (nI R), .ref (A 0), .ref (A 1), .ref (A 2), .ref (A 3), .ref (A 4), .int (nI nb), .ref (A 5), .ref (A 6), .ref (A 7), .ref (A 8), .ref (A 9), .ref (A 10), .double px, .double py, .double pz])) H_18 := hs_18.1
      have hc_A0_18 : xc G (A 0) (.inl (ty 0, 192, .inr (.inr (.inr (.inl pl))))) H_18 := y_0.kept (hs_18.2.2 _ (hA.1 0 (by decide)))
      have hc_A1_18 : xc G (A 1) (.inl (ty 2, 8, .inl un)) H_18 := y_1.kept (hs_18.2.2 _ (hA.1 1 (by decide)))
      have hc_A2_18 : xc G (A 2) (.inl (ty 0, 256, .inr (.inr (.inr (.inl co))))) H_18 := y_2.kept (hs_18.2.2 _ (hA.1 2 (by decide)))
      have hc_A3_18 : xc G (A 3) (.inl (ty 0, 32, .inr (.inr (.inr (.inl dr))))) H_18 := y_3.kept (hs_18.2.2 _ (hA.1 3 (by decide)))
      have hc_A4_18 : xc G (A 4) (.inl (ty 2, 64, .inl bu)) H_18 := y_4.kept (hs_18.2.2 _ (hA.1 4 (by decide)))
      have hc_A5_18 : xc G (A 5) (.inl (ty 0, 4, .inr (.inr (.inr (.inl wi))))) H_18 := y_5.kept (hs_18.2.2 _ (hA.1 5 (by decide)))
      have hc_A6_18 : xc G (A 6) (.inl (ty 0, 4, .inr (.inr (.inr (.inl hi))))) H_18 := y_6.kept (hs_18.2.2 _ (hA.1 6 (by decide)))
      have hc_A7_18 : xc G (A 7) (.inl (ty 1, 4, .inl fc)) H_18 := y_7.kept (hs_18.2.2 _ (hA.1 7 (by decide)))
      have hc_A8_18 : xc G (A 8) (.inl (ty 0, 128, .inr (.inr (.inr (.inl fa))))) H_18 := y_8.kept (hs_18.2.2 _ (hA.1 8 (by decide)))
      have hc_A9_18 : xc G (A 9) (.inl (ty 1, 8, .inl lo)) H_18 := y_9.kept (hs_18.2.2 _ (hA.1 9 (by decide)))
      have hc_A10_18 : xc G (A 10) (.inl (ty 1, 8, .inl la)) H_18 := y_10.kept (hs_18.2.2 _ (hA.1 10 (by decide)))
      have hfr_18 : xRfr m0 A H H_18 := xRfr.put0 xRfr.rf hs_18
      refine lv_aload_n hx hb dX7_spans_20 rfl (lv_at hl 0 rfl) ?_
      refine va_get (D := G) (cl := vwCl) (ci := 8) (v := .int (nI 1)) (C := RX7) (T := TX7) (N := 18) hx hb (hts d0) in_X7_spans_X7 hown hK.1 (x1 hc_18) 0 rfl rfl 0 (by decide) (hts d0 _ hw_X7_spans_1) (fun _ h9 => h9) rfl dX7_spans_21 ?_
      refine lv_if_ne (tgt := 31) hx hb dX7_spans_24 (by decide) (fun _ => ?_) (fun h9 => (show False by revert h9; decide).elim)
      refine lv_iconst (v := nI 0) hx hb dX7_spans_31 (by decide) ?_
      refine lv_istore_n (lv' := [(2, .int (nI 0)), (0, .ref m0), (1, .int (n))]) hx hb dX7_spans_32 rfl hl (by decide) rfl (fun ls hl => ?_)
      refine lv_iconst (v := nI 0) hx hb dX7_spans_33 (by decide) ?_
      refine lv_istore_n (lv' := [(3, .int (nI 0)), (2, .int (nI 0)), (0, .ref m0), (1, .int (n))]) hx hb dX7_spans_34 rfl hl (by decide) rfl (fun ls hl => ?_)
      refine lv_iload_n hx hb dX7_spans_35 rfl (lv_at hl 0 rfl) ?_
      refine lv_aload_n hx hb dX7_spans_36 rfl (lv_at hl 2 rfl) ?_
      refine va_get (D := G) (cl := vwCl) (ci := 8) (v := .int (nI R)) (C := RX7) (T := TX7) (N := 18) hx hb (hts d0) in_X7_spans_X7 hown hK.1 (x1 hc_18) 0 rfl rfl 2 (by decide) (hts d0 _ hw_X7_spans_2) (fun _ h9 => h9) rfl dX7_spans_37 ?_
      refine lv_iconst (v := nI 1) hx hb dX7_spans_40 (by decide) ?_
      refine xisubN hx hb (by omega) dX7_spans_41 ?_
      refine xicmpN_ge (tgt := 95) hx hb (by decide) (by omega) dX7_spans_42 (by decide) (fun h9 => absurd h9 (by omega)) (fun _ => ?_)
      refine lv_iload_n hx hb dX7_spans_45 rfl (lv_at hl 1 rfl) ?_
      refine lv_if_eq (tgt := 95) hx hb dX7_spans_46 (by decide) (fun _ => ?_) (fun h9 => (show False by revert h9; decide).elim)
      refine lv_iload_n hx hb dX7_spans_95 rfl (lv_at hl 1 rfl) ?_
      exact xzret (by decide) hd0 hx hb hr hlocks hS (Nat.le_of_ble_eq_true rfl) (Nat.le_of_ble_eq_true rfl) dX7_spans_96 ⟨nI 1, ⟨hc_18, hc_A0_18, hc_A1_18, hc_A2_18, hc_A3_18, hc_A4_18, hc_A5_18, hc_A6_18, hc_A7_18, hc_A8_18, hc_A9_18, hc_A10_18⟩, hfr_18, _, rfl, Or.inr ⟨rfl, fun z => c_6 z.2⟩⟩
/-- the cell with the greatest STRETCH so far, and its size -/
def pWor (co pl : Nat → UInt64) (x : Nat) : Nat → Nat × UInt64
  | 0 => (0, 13830554455654793216)
  | k + 1 => if xgt (pSize (pOff co pl x k)) (pWor co pl x k).2 = true then (k, pSize (pOff co pl x k)) else pWor co pl x k
theorem pWor_t {co pl : Nat → UInt64} {x k : Nat} (h : xgt (pSize (pOff co pl x k)) (pWor co pl x k).2 = true) : pWor co pl x (k + 1) = (k, pSize (pOff co pl x k)) := if_pos h
theorem pWor_f {co pl : Nat → UInt64} {x k : Nat} (h : xgt (pSize (pOff co pl x k)) (pWor co pl x k).2 = false) : pWor co pl x (k + 1) = pWor co pl x k := if_neg (by rw [h]; decide)
theorem pSize_t {v e : UInt64} (h : xlt e FP.dconst0 = true) (hv : vq v (FP.dneg e)) : vq v (pSize e) := by unfold pSize; rw [if_pos h]; exact hv
theorem pSize_f {v e : UInt64} (h : xlt e FP.dconst0 = false) (hv : vq v e) : vq v (pSize e) := by unfold pSize; rw [if_neg (by rw [h]; decide)]; exact hv
theorem pWor_le (co pl : Nat → UInt64) (x : Nat) : ∀ k : Nat, (pWor co pl x k).1 ≤ k := by
  intro k
  induction k with
  | zero => exact Nat.le_refl _
  | succ k ih =>
    cases h : xgt (pSize (pOff co pl x k)) (pWor co pl x k).2
    · rw [pWor_f h]; omega
    · rw [pWor_t h]; exact Nat.le_succ k
set_option maxRecDepth 20000 in
theorem ggX7_worst_X7_noStrip : GoodIn wsX7_worst wsX7_noStrip := goodIn_r _ [9, 10, 32, 33, 34, 35, 36, 37, 38, 39, 40, 41, 42, 43, 44, 45, 46, 47, 48, 49] (by decide +kernel) (by decide +kernel)
set_option maxRecDepth 20000 in
theorem gX7_worst_X7_noStrip : GoodIn wsX7_worst (wsV RX7 87 RX7 yX7_noStrip wsX7_noStrip) := goodIn_app (goodIn_of _ (by decide +kernel)) ggX7_worst_X7_noStrip
set_option maxRecDepth 20000 in
theorem ggX7_worst_X7_off : GoodIn wsX7_worst wsX7_off := goodIn_r _ [14, 15, 16, 17, 8, 18, 19, 20, 21, 22, 23, 24, 25, 26, 27, 28, 29, 30, 31, 32, 33, 34, 35, 36, 37, 38, 39, 40, 41, 42, 43, 44, 45, 46, 47, 48, 49] (by decide +kernel) (by decide +kernel)
set_option maxRecDepth 20000 in
theorem gX7_worst_X7_off : GoodIn wsX7_worst (wsV RX7 98 RX7 yX7_off wsX7_off) := goodIn_app (goodIn_of _ (by decide +kernel)) ggX7_worst_X7_off
theorem dX7_worst_0 : decode cX7_worst 0 = .ok (.aload_n 0, 1) := by decide +kernel
theorem dX7_worst_1 : decode cX7_worst 1 = .ok (.aload_n 0, 1) := by decide +kernel
theorem dX7_worst_2 : decode cX7_worst 2 = .ok (.iload_n 1, 1) := by decide +kernel
theorem dX7_worst_3 : decode cX7_worst 3 = .ok (.invokevirtual 87, 3) := by decide +kernel
theorem dX7_worst_6 : decode cX7_worst 6 = .ok (.ifCond .eq 7, 3) := by decide +kernel
theorem dX7_worst_9 : decode cX7_worst 9 = .ok (.iconst 1, 1) := by decide +kernel
theorem dX7_worst_10 : decode cX7_worst 10 = .ok (.goto 17, 3) := by decide +kernel
theorem dX7_worst_13 : decode cX7_worst 13 = .ok (.aload_n 0, 1) := by decide +kernel
theorem dX7_worst_14 : decode cX7_worst 14 = .ok (.getfield 13, 3) := by decide +kernel
theorem dX7_worst_17 : decode cX7_worst 17 = .ok (.iload_n 1, 1) := by decide +kernel
theorem dX7_worst_18 : decode cX7_worst 18 = .ok (.baload, 1) := by decide +kernel
theorem dX7_worst_19 : decode cX7_worst 19 = .ok (.ifCond .eq 7, 3) := by decide +kernel
theorem dX7_worst_22 : decode cX7_worst 22 = .ok (.iconst 0, 1) := by decide +kernel
theorem dX7_worst_23 : decode cX7_worst 23 = .ok (.goto 4, 3) := by decide +kernel
theorem dX7_worst_26 : decode cX7_worst 26 = .ok (.iconst 2, 1) := by decide +kernel
theorem dX7_worst_27 : decode cX7_worst 27 = .ok (.putfield 52, 3) := by decide +kernel
theorem dX7_worst_30 : decode cX7_worst 30 = .ok (.iconst 0, 1) := by decide +kernel
theorem dX7_worst_31 : decode cX7_worst 31 = .ok (.istore_n 2, 1) := by decide +kernel
theorem dX7_worst_32 : decode cX7_worst 32 = .ok (.ldc2_w 102, 3) := by decide +kernel
theorem dX7_worst_35 : decode cX7_worst 35 = .ok (.dstore_n 3, 1) := by decide +kernel
theorem dX7_worst_36 : decode cX7_worst 36 = .ok (.iconst 0, 1) := by decide +kernel
theorem dX7_worst_37 : decode cX7_worst 37 = .ok (.istore 5, 2) := by decide +kernel
theorem dX7_worst_39 : decode cX7_worst 39 = .ok (.iload 5, 2) := by decide +kernel
theorem dX7_worst_41 : decode cX7_worst 41 = .ok (.aload_n 0, 1) := by decide +kernel
theorem dX7_worst_42 : decode cX7_worst 42 = .ok (.getfield 45, 3) := by decide +kernel
theorem dX7_worst_45 : decode cX7_worst 45 = .ok (.iconst 1, 1) := by decide +kernel
theorem dX7_worst_46 : decode cX7_worst 46 = .ok (.isub, 1) := by decide +kernel
theorem dX7_worst_47 : decode cX7_worst 47 = .ok (.if_icmp .ge 70, 3) := by decide +kernel
theorem dX7_worst_50 : decode cX7_worst 50 = .ok (.aload_n 0, 1) := by decide +kernel
theorem dX7_worst_51 : decode cX7_worst 51 = .ok (.getfield 52, 3) := by decide +kernel
theorem dX7_worst_54 : decode cX7_worst 54 = .ok (.ifCond .ne 63, 3) := by decide +kernel
theorem dX7_worst_57 : decode cX7_worst 57 = .ok (.aload_n 0, 1) := by decide +kernel
theorem dX7_worst_58 : decode cX7_worst 58 = .ok (.iload_n 1, 1) := by decide +kernel
theorem dX7_worst_59 : decode cX7_worst 59 = .ok (.iload 5, 2) := by decide +kernel
theorem dX7_worst_61 : decode cX7_worst 61 = .ok (.invokevirtual 98, 3) := by decide +kernel
theorem dX7_worst_64 : decode cX7_worst 64 = .ok (.dstore 6, 2) := by decide +kernel
theorem dX7_worst_66 : decode cX7_worst 66 = .ok (.dload 6, 2) := by decide +kernel
theorem dX7_worst_68 : decode cX7_worst 68 = .ok (.dconst 0, 1) := by decide +kernel
theorem dX7_worst_69 : decode cX7_worst 69 = .ok (.dcmp .g, 1) := by decide +kernel
theorem dX7_worst_70 : decode cX7_worst 70 = .ok (.ifCond .ge 9, 3) := by decide +kernel
theorem dX7_worst_73 : decode cX7_worst 73 = .ok (.dload 6, 2) := by decide +kernel
theorem dX7_worst_75 : decode cX7_worst 75 = .ok (.dneg, 1) := by decide +kernel
theorem dX7_worst_76 : decode cX7_worst 76 = .ok (.goto 5, 3) := by decide +kernel
theorem dX7_worst_79 : decode cX7_worst 79 = .ok (.dload 6, 2) := by decide +kernel
theorem dX7_worst_81 : decode cX7_worst 81 = .ok (.dstore 6, 2) := by decide +kernel
theorem dX7_worst_83 : decode cX7_worst 83 = .ok (.dload 6, 2) := by decide +kernel
theorem dX7_worst_85 : decode cX7_worst 85 = .ok (.dload_n 3, 1) := by decide +kernel
theorem dX7_worst_86 : decode cX7_worst 86 = .ok (.dcmp .l, 1) := by decide +kernel
theorem dX7_worst_87 : decode cX7_worst 87 = .ok (.ifCond .le 8, 3) := by decide +kernel
theorem dX7_worst_90 : decode cX7_worst 90 = .ok (.iload 5, 2) := by decide +kernel
theorem dX7_worst_92 : decode cX7_worst 92 = .ok (.goto 4, 3) := by decide +kernel
theorem dX7_worst_95 : decode cX7_worst 95 = .ok (.iload_n 2, 1) := by decide +kernel
theorem dX7_worst_96 : decode cX7_worst 96 = .ok (.istore_n 2, 1) := by decide +kernel
theorem dX7_worst_97 : decode cX7_worst 97 = .ok (.dload 6, 2) := by decide +kernel
theorem dX7_worst_99 : decode cX7_worst 99 = .ok (.dload_n 3, 1) := by decide +kernel
theorem dX7_worst_100 : decode cX7_worst 100 = .ok (.dcmp .l, 1) := by decide +kernel
theorem dX7_worst_101 : decode cX7_worst 101 = .ok (.ifCond .le 8, 3) := by decide +kernel
theorem dX7_worst_104 : decode cX7_worst 104 = .ok (.dload 6, 2) := by decide +kernel
theorem dX7_worst_106 : decode cX7_worst 106 = .ok (.goto 4, 3) := by decide +kernel
theorem dX7_worst_109 : decode cX7_worst 109 = .ok (.dload_n 3, 1) := by decide +kernel
theorem dX7_worst_110 : decode cX7_worst 110 = .ok (.dstore_n 3, 1) := by decide +kernel
theorem dX7_worst_111 : decode cX7_worst 111 = .ok (.iinc 5 1, 3) := by decide +kernel
theorem dX7_worst_114 : decode cX7_worst 114 = .ok (.goto (-75), 3) := by decide +kernel
theorem dX7_worst_117 : decode cX7_worst 117 = .ok (.iload_n 2, 1) := by decide +kernel
theorem dX7_worst_118 : decode cX7_worst 118 = .ok (.ireturn, 1) := by decide +kernel
abbrev rm_X7_worst : Room := { frames := 8, cells := 0, slots := 0, locals := 190 }
theorem hw_X7_worst_1 : (Cond.fieldLink RX7 13 "PlankUnrollModel" "unrolled" "[Z") ∈ wsX7_worst := List.mem_of_getElem? (i := 1) rfl
theorem hw_X7_worst_2 : (Cond.fieldLink RX7 52 "PlankUnrollModel" "thrown" "I") ∈ wsX7_worst := List.mem_of_getElem? (i := 2) rfl
theorem hw_X7_worst_3 : (Cond.constantDouble RX7 102 (13830554455654793216)) ∈ wsX7_worst := List.mem_of_getElem? (i := 3) rfl
theorem hw_X7_worst_4 : (Cond.fieldLink RX7 45 "PlankUnrollModel" "frames" "I") ∈ wsX7_worst := List.mem_of_getElem? (i := 4) rfl
theorem in_X7_worst_X7 : ∀ w ∈ wsX70, w ∈ wsX7_worst := by decide +kernel
set_option maxHeartbeats 4000000 in
set_option maxRecDepth 100000 in
/-- worst -/
theorem c_X7_worst {l : Launch} {G : va_G} {ty : Nat → ClassId} {b0 : Nat} {H : Heap} {x : Int32} {m0 : Nat} {A : Nat → Nat} {th : Int32} {F R nb : Nat} {pl co dr wi hi fa : Nat → UInt64} {un bu fc lo la : Nat → Int32} {px py pz : UInt64} (hY : xRef G ty m0 A th F R pl un co dr bu nb wi hi fc fa lo la px py pz H) (hZ : xSz F R) (hA : xAp m0 A) (hB : xNw b0 m0 A) : xMet l yX7_worst wsX7_worst rm_X7_worst G ty b0 [.ref m0, .int (x)] H (fun v H1 => ∃ T : Int32, xRef G ty m0 A T F R pl un co dr bu nb wi hi fc fa lo la px py pz H1 ∧ xRfr m0 A H H1 ∧ ∃ z : Int32, v = some (.int z) ∧ ((T = nI 0 ∧ (vp_in x (R - 1)) ∧ ¬ un x.toNatClampNeg = 0 ∧ z = nI (pWor co pl x.toNatClampNeg (F - 1)).1) ∨ (T = nI 1 ∧ ¬ (vp_in x (R - 1))) ∨ (T = nI 2 ∧ (vp_in x (R - 1)) ∧ un x.toNatClampNeg = 0))) (fun _ _ => False) := by
  refine xbody (cc := cX7_worst) (maxL := 8) (ret := (some .int)) (C := RX7) (lv := [(0, .ref m0), (1, .int (x))]) (by decide) rfl rfl (Nat.le_of_ble_eq_true rfl) rfl ?_
  intro p e s m below meth c d0 hx hb hr hts hown hlocks hml hxt hnm0 hK hb0 hH0 hS hd0 ls hl
  obtain ⟨y_o, y_0, y_1, y_2, y_3, y_4, y_5, y_6, y_7, y_8, y_9, y_10⟩ := id hY
  obtain ⟨⟨zF2, zF8⟩, ⟨zR2, zR8⟩⟩ := id hZ
  refine lv_aload_n hx hb dX7_worst_0 rfl (lv_at hl 0 rfl) ?_
  refine lv_aload_n hx hb dX7_worst_1 rfl (lv_at hl 0 rfl) ?_
  refine lv_iload_n hx hb dX7_worst_2 rfl (lv_at hl 1 rfl) ?_
  have cw_1 := cwV (R := rm_X7_worst) (rm := rm_X7_noStrip) 1 (hts d0) gX7_worst_X7_noStrip rfl rfl rfl (by decide +kernel) ⟨Nat.le_of_ble_eq_true rfl, Nat.le_of_ble_eq_true rfl⟩
  refine xcall hd0 (xintoV (b := m0) (As := [.int (x)]) (rest := [.ref m0]) ⟨hx, hb, hml, hown, hts _⟩ cw_1 (va_recv hK.1 (x1 y_o) (ci := 8) (q0 := 0) rfl rfl) rfl rfl hl.1 rfl (lv_room (Nat.le_of_ble_eq_true rfl)) dX7_worst_3) (c_X7_noStrip (l := l) (G := G) (ty := ty) (b0 := b0) (⟨y_o, y_0, y_1, y_2, y_3, y_4, y_5, y_6, y_7, y_8, y_9, y_10⟩ : xRef G ty m0 A (th) F R pl un co dr bu nb wi hi fc fa lo la px py pz H) hZ) (xoweB cw_1.1) hK hb0 hS (Nat.le_of_ble_eq_true rfl) (Nat.le_of_ble_eq_true rfl) (fun E_1 ce_1 q9_1 H_1 locs_1 d0 hd0 hp_1 hS hce_1 hcv_1 hcl_1 => ?_) (fun v_1 H_1 locs_1 d0 hd0 hp_1 hS => ?_)
  · exact hp_1.elim
  · obtain ⟨rfl, rfl⟩ := hp_1
    show W p l e _ (s.setDrawn _) m _ below meth c _ _ _ _ _ (F0 m 6 ls [.int (xP (¬ vp_in x (R - 1))), .ref m0])
    refine lv_if_eq (tgt := 13) hx hb dX7_worst_6 (by decide) (fun c_2 => ?_) (fun c_2 => ?_)
    · have z9 := Classical.not_not.mp (xP_eq.mp c_2)
      have z_x := z9
      obtain ⟨x9, hx9, ex9⟩ := vp_in_of z_x (by omega)
      subst ex9
      refine lv_aload_n hx hb dX7_worst_13 rfl (lv_at hl 0 rfl) ?_
      refine va_get (D := G) (cl := vwCl) (ci := 8) (v := .ref (A 1)) (C := RX7) (T := TX7) (N := 18) hx hb (hts d0) in_X7_worst_X7 hown hK.1 (x1 y_o) 0 rfl rfl 4 (by decide) (hts d0 _ hw_X7_worst_1) (fun _ h9 => h9) rfl dX7_worst_14 ?_
      refine lv_iload_n hx hb dX7_worst_17 rfl (lv_at hl 1 rfl) ?_
      refine xzald (j := x9) hx hb hK.1 2 y_1 rfl (xix_of (by omega) (by omega)) dX7_worst_18 ?_
      refine lv_if_eq (tgt := 26) hx hb dX7_worst_19 (by decide) (fun c_3 => ?_) (fun c_3 => ?_)
      · refine lv_iconst (v := nI 2) hx hb dX7_worst_26 (by decide) ?_
        refine xput (G := G) (ci := 8) (v := .int (nI 2)) (ty := .int) (C := RX7) (T := TX7) (N := 18) hx hb (hts d0) in_X7_worst_X7 tyX7 tyX7_ok nmX7 hown hK.1 y_o hS hB.1 rfl 0 (by decide) (hts d0 _ hw_X7_worst_2) (fun _ h9 => h9) rfl (by decide +kernel) rfl rfl (Nat.le_of_ble_eq_true rfl) dX7_worst_27 (fun H_4 locs_4 hs_4 hS => ?_)
        have hc_4 : xc G m0 (.inr (8, [.int (nI 2), .int (nI F), .int (nI R), .ref (A 0), .ref (A 1), .ref (A 2), .ref (A 3), .ref (A 4), .int (nI nb), .ref (A 5), .ref (A 6), .ref (A 7), .ref (A 8), .ref (A 9), .ref (A 10), .double px, .double py, .double pz])) H_4 := hs_4.1
        have hc_A0_4 : xc G (A 0) (.inl (ty 0, 192, .inr (.inr (.inr (.inl pl))))) H_4 := y_0.kept (hs_4.2.2 _ (hA.1 0 (by decide)))
        have hc_A1_4 : xc G (A 1) (.inl (ty 2, 8, .inl un)) H_4 := y_1.kept (hs_4.2.2 _ (hA.1 1 (by decide)))
        have hc_A2_4 : xc G (A 2) (.inl (ty 0, 256, .inr (.inr (.inr (.inl co))))) H_4 := y_2.kept (hs_4.2.2 _ (hA.1 2 (by decide)))
        have hc_A3_4 : xc G (A 3) (.inl (ty 0, 32, .inr (.inr (.inr (.inl dr))))) H_4 := y_3.kept (hs_4.2.2 _ (hA.1 3 (by decide)))
        have hc_A4_4 : xc G (A 4) (.inl (ty 2, 64, .inl bu)) H_4 := y_4.kept (hs_4.2.2 _ (hA.1 4 (by decide)))
        have hc_A5_4 : xc G (A 5) (.inl (ty 0, 4, .inr (.inr (.inr (.inl wi))))) H_4 := y_5.kept (hs_4.2.2 _ (hA.1 5 (by decide)))
        have hc_A6_4 : xc G (A 6) (.inl (ty 0, 4, .inr (.inr (.inr (.inl hi))))) H_4 := y_6.kept (hs_4.2.2 _ (hA.1 6 (by decide)))
        have hc_A7_4 : xc G (A 7) (.inl (ty 1, 4, .inl fc)) H_4 := y_7.kept (hs_4.2.2 _ (hA.1 7 (by decide)))
        have hc_A8_4 : xc G (A 8) (.inl (ty 0, 128, .inr (.inr (.inr (.inl fa))))) H_4 := y_8.kept (hs_4.2.2 _ (hA.1 8 (by decide)))
        have hc_A9_4 : xc G (A 9) (.inl (ty 1, 8, .inl lo)) H_4 := y_9.kept (hs_4.2.2 _ (hA.1 9 (by decide)))
        have hc_A10_4 : xc G (A 10) (.inl (ty 1, 8, .inl la)) H_4 := y_10.kept (hs_4.2.2 _ (hA.1 10 (by decide)))
        have hfr_4 : xRfr m0 A H H_4 := xRfr.put0 xRfr.rf hs_4
        refine lv_iconst (v := nI 0) hx hb dX7_worst_30 (by decide) ?_
        refine lv_istore_n (lv' := [(2, .int (nI 0)), (0, .ref m0), (1, .int (nI x9))]) hx hb dX7_worst_31 rfl hl (by decide) rfl (fun ls hl => ?_)
        refine lv_ldc2d hx hb hown (hts d0 _ hw_X7_worst_3) dX7_worst_32 ?_
        refine lv_dstore_n (lv' := [(3, .double 13830554455654793216), (2, .int (nI 0)), (0, .ref m0), (1, .int (nI x9))]) hx hb dX7_worst_35 rfl hl (by decide) rfl (fun ls hl => ?_)
        refine lv_iconst (v := nI 0) hx hb dX7_worst_36 (by decide) ?_
        refine lv_istore (lv' := [(5, .int (nI 0)), (3, .double 13830554455654793216), (2, .int (nI 0)), (0, .ref m0), (1, .int (nI x9))]) hx hb dX7_worst_37 hl (by decide) rfl (fun ls hl => ?_)
        refine lv_iload hx hb dX7_worst_39 (lv_at hl 0 rfl) ?_
        refine lv_aload_n hx hb dX7_worst_41 rfl (lv_at hl 3 rfl) ?_
        refine va_get (D := G) (cl := vwCl) (ci := 8) (v := .int (nI F)) (C := RX7) (T := TX7) (N := 18) hx hb (hts d0) in_X7_worst_X7 hown hK.1 (x1 hc_4) 0 rfl rfl 1 (by decide) (hts d0 _ hw_X7_worst_4) (fun _ h9 => h9) rfl dX7_worst_42 ?_
        refine lv_iconst (v := nI 1) hx hb dX7_worst_45 (by decide) ?_
        refine xisubN hx hb (by omega) dX7_worst_46 ?_
        refine xicmpN_ge (tgt := 117) hx hb (by decide) (by omega) dX7_worst_47 (by decide) (fun h9 => absurd h9 (by omega)) (fun _ => ?_)
        refine lv_aload_n hx hb dX7_worst_50 rfl (lv_at hl 3 rfl) ?_
        refine va_get (D := G) (cl := vwCl) (ci := 8) (v := .int (nI 2)) (C := RX7) (T := TX7) (N := 18) hx hb (hts d0) in_X7_worst_X7 hown hK.1 (x1 hc_4) 0 rfl rfl 0 (by decide) (hts d0 _ hw_X7_worst_2) (fun _ h9 => h9) rfl dX7_worst_51 ?_
        refine lv_if_ne (tgt := 117) hx hb dX7_worst_54 (by decide) (fun _ => ?_) (fun h9 => (show False by revert h9; decide).elim)
        refine lv_iload_n hx hb dX7_worst_117 rfl (lv_at hl 2 rfl) ?_
        exact xiret hd0 hx hb hr hlocks hS (Nat.le_of_ble_eq_true rfl) (Nat.le_of_ble_eq_true rfl) dX7_worst_118 ⟨nI 2, ⟨hc_4, hc_A0_4, hc_A1_4, hc_A2_4, hc_A3_4, hc_A4_4, hc_A5_4, hc_A6_4, hc_A7_4, hc_A8_4, hc_A9_4, hc_A10_4⟩, hfr_4, _, rfl, Or.inr (Or.inr ⟨rfl, z9, by rw [nN_nI (by omega)]; exact c_3⟩)⟩
      · refine lv_iconst (v := nI 0) hx hb dX7_worst_22 (by decide) ?_
        refine lv_goto (tgt := 27) hx hb dX7_worst_23 (by decide) ?_
        refine xput (G := G) (ci := 8) (v := .int (nI 0)) (ty := .int) (C := RX7) (T := TX7) (N := 18) hx hb (hts d0) in_X7_worst_X7 tyX7 tyX7_ok nmX7 hown hK.1 y_o hS hB.1 rfl 0 (by decide) (hts d0 _ hw_X7_worst_2) (fun _ h9 => h9) rfl (by decide +kernel) rfl rfl (Nat.le_of_ble_eq_true rfl) dX7_worst_27 (fun H_7 locs_7 hs_7 hS => ?_)
        have hc_7 : xc G m0 (.inr (8, [.int (nI 0), .int (nI F), .int (nI R), .ref (A 0), .ref (A 1), .ref (A 2), .ref (A 3), .ref (A 4), .int (nI nb), .ref (A 5), .ref (A 6), .ref (A 7), .ref (A 8), .ref (A 9), .ref (A 10), .double px, .double py, .double pz])) H_7 := hs_7.1
        have hc_A0_7 : xc G (A 0) (.inl (ty 0, 192, .inr (.inr (.inr (.inl pl))))) H_7 := y_0.kept (hs_7.2.2 _ (hA.1 0 (by decide)))
        have hc_A1_7 : xc G (A 1) (.inl (ty 2, 8, .inl un)) H_7 := y_1.kept (hs_7.2.2 _ (hA.1 1 (by decide)))
        have hc_A2_7 : xc G (A 2) (.inl (ty 0, 256, .inr (.inr (.inr (.inl co))))) H_7 := y_2.kept (hs_7.2.2 _ (hA.1 2 (by decide)))
        have hc_A3_7 : xc G (A 3) (.inl (ty 0, 32, .inr (.inr (.inr (.inl dr))))) H_7 := y_3.kept (hs_7.2.2 _ (hA.1 3 (by decide)))
        have hc_A4_7 : xc G (A 4) (.inl (ty 2, 64, .inl bu)) H_7 := y_4.kept (hs_7.2.2 _ (hA.1 4 (by decide)))
        have hc_A5_7 : xc G (A 5) (.inl (ty 0, 4, .inr (.inr (.inr (.inl wi))))) H_7 := y_5.kept (hs_7.2.2 _ (hA.1 5 (by decide)))
        have hc_A6_7 : xc G (A 6) (.inl (ty 0, 4, .inr (.inr (.inr (.inl hi))))) H_7 := y_6.kept (hs_7.2.2 _ (hA.1 6 (by decide)))
        have hc_A7_7 : xc G (A 7) (.inl (ty 1, 4, .inl fc)) H_7 := y_7.kept (hs_7.2.2 _ (hA.1 7 (by decide)))
        have hc_A8_7 : xc G (A 8) (.inl (ty 0, 128, .inr (.inr (.inr (.inl fa))))) H_7 := y_8.kept (hs_7.2.2 _ (hA.1 8 (by decide)))
        have hc_A9_7 : xc G (A 9) (.inl (ty 1, 8, .inl lo)) H_7 := y_9.kept (hs_7.2.2 _ (hA.1 9 (by decide)))
        have hc_A10_7 : xc G (A 10) (.inl (ty 1, 8, .inl la)) H_7 := y_10.kept (hs_7.2.2 _ (hA.1 10 (by decide)))
        have hfr_7 : xRfr m0 A H H_7 := xRfr.put0 xRfr.rf hs_7
        refine lv_iconst (v := nI 0) hx hb dX7_worst_30 (by decide) ?_
        refine lv_istore_n (lv' := [(2, .int (nI 0)), (0, .ref m0), (1, .int (nI x9))]) hx hb dX7_worst_31 rfl hl (by decide) rfl (fun ls hl => ?_)
        refine lv_ldc2d hx hb hown (hts d0 _ hw_X7_worst_3) dX7_worst_32 ?_
        refine lv_dstore_n (lv' := [(3, .double 13830554455654793216), (2, .int (nI 0)), (0, .ref m0), (1, .int (nI x9))]) hx hb dX7_worst_35 rfl hl (by decide) rfl (fun ls hl => ?_)
        refine lv_iconst (v := nI 0) hx hb dX7_worst_36 (by decide) ?_
        refine lv_istore (lv' := [(5, .int (nI 0)), (3, .double 13830554455654793216), (2, .int (nI 0)), (0, .ref m0), (1, .int (nI x9))]) hx hb dX7_worst_37 hl (by decide) rfl (fun ls hl => ?_)
        suffices K : ∀ (n : Nat) (k : Nat) (mo : UInt64) (locs : List Loc) (d0 : Drawn) (ls : Array Slot), k + n = F - 1 ∧ vq mo (pWor co pl x9 k).2 → va_S (xA b0) s.heap H_7 locs → s.drawn.sameBut d0 lw_cs → lv_has ls 8 [(5, .int (nI k)), (3, .double mo), (2, .int (nI ((pWor co pl x9 k).1))), (0, .ref m0), (1, .int (nI x9))] → W p l e rm_X7_worst (s.setDrawn d0) m [Value.ref m0, Value.int ((nI x9))].toArray below meth c H_7 locs (0 + rm_X7_noStrip.cells) (0 + rm_X7_noStrip.slots) (xMQ below (fun v H1 => ∃ T : Int32, xRef G ty m0 A T F R pl un co dr bu nb wi hi fc fa lo la px py pz H1 ∧ xRfr m0 A H H1 ∧ ∃ z : Int32, v = some (.int z) ∧ ((T = nI 0 ∧ (vp_in (nI x9) (R - 1)) ∧ ¬ un (nI x9).toNatClampNeg = 0 ∧ z = nI (pWor co pl (nI x9).toNatClampNeg (F - 1)).1) ∨ (T = nI 1 ∧ ¬ (vp_in (nI x9) (R - 1))) ∨ (T = nI 2 ∧ (vp_in (nI x9) (R - 1)) ∧ un (nI x9).toNatClampNeg = 0))) (fun _ _ => False) [.ref m0, .int ((nI x9))].toArray s rm_X7_worst b0) (F0 m 39 ls []) from K (F - 1) 0 _ _ d0 ls ⟨by omega, vq_rf _⟩ hS hd0 (lv_sub hl [0, 1, 2, 3, 4] rfl)
        intro n
        induction n with
        | zero =>
          intro k mo locs d0 ls hinv hS hd0 hl
          obtain ⟨hk, hmo⟩ := hinv
          refine lv_iload hx hb dX7_worst_39 (lv_at hl 0 rfl) ?_
          refine lv_aload_n hx hb dX7_worst_41 rfl (lv_at hl 3 rfl) ?_
          refine va_get (D := G) (cl := vwCl) (ci := 8) (v := .int (nI F)) (C := RX7) (T := TX7) (N := 18) hx hb (hts d0) in_X7_worst_X7 hown hK.1 (x1 hc_7) 0 rfl rfl 1 (by decide) (hts d0 _ hw_X7_worst_4) (fun _ h9 => h9) rfl dX7_worst_42 ?_
          refine lv_iconst (v := nI 1) hx hb dX7_worst_45 (by decide) ?_
          refine xisubN hx hb (by omega) dX7_worst_46 ?_
          refine xicmpN_ge (tgt := 117) hx hb (by omega) (by omega) dX7_worst_47 (by decide) (fun _ => ?_) (fun h9 => absurd h9 (by omega))
          refine lv_iload_n hx hb dX7_worst_117 rfl (lv_at hl 2 rfl) ?_
          exact xiret hd0 hx hb hr hlocks hS (Nat.le_of_ble_eq_true rfl) (Nat.le_of_ble_eq_true rfl) dX7_worst_118 ⟨nI 0, ⟨hc_7, hc_A0_7, hc_A1_7, hc_A2_7, hc_A3_7, hc_A4_7, hc_A5_7, hc_A6_7, hc_A7_7, hc_A8_7, hc_A9_7, hc_A10_7⟩, hfr_7, _, rfl, Or.inl ⟨rfl, z9, by rw [nN_nI (by omega)]; exact c_3, by have e9 : k = F - 1 := (by omega); subst e9; rw [nN_nI (by omega)]⟩⟩
        | succ n ih =>
          intro k mo locs d0 ls hinv hS hd0 hl
          obtain ⟨hk, hmo⟩ := hinv
          refine lv_iload hx hb dX7_worst_39 (lv_at hl 0 rfl) ?_
          refine lv_aload_n hx hb dX7_worst_41 rfl (lv_at hl 3 rfl) ?_
          refine va_get (D := G) (cl := vwCl) (ci := 8) (v := .int (nI F)) (C := RX7) (T := TX7) (N := 18) hx hb (hts d0) in_X7_worst_X7 hown hK.1 (x1 hc_7) 0 rfl rfl 1 (by decide) (hts d0 _ hw_X7_worst_4) (fun _ h9 => h9) rfl dX7_worst_42 ?_
          refine lv_iconst (v := nI 1) hx hb dX7_worst_45 (by decide) ?_
          refine xisubN hx hb (by omega) dX7_worst_46 ?_
          refine xicmpN_ge (tgt := 117) hx hb (by omega) (by omega) dX7_worst_47 (by decide) (fun h9 => absurd h9 (by omega)) (fun _ => ?_)
          refine lv_aload_n hx hb dX7_worst_50 rfl (lv_at hl 3 rfl) ?_
          refine va_get (D := G) (cl := vwCl) (ci := 8) (v := .int (nI 0)) (C := RX7) (T := TX7) (N := 18) hx hb (hts d0) in_X7_worst_X7 hown hK.1 (x1 hc_7) 0 rfl rfl 0 (by decide) (hts d0 _ hw_X7_worst_2) (fun _ h9 => h9) rfl dX7_worst_51 ?_
          refine lv_if_ne (tgt := 117) hx hb dX7_worst_54 (by decide) (fun h9 => (show False by revert h9; decide).elim) (fun _ => ?_)
          refine lv_aload_n hx hb dX7_worst_57 rfl (lv_at hl 3 rfl) ?_
          refine lv_iload_n hx hb dX7_worst_58 rfl (lv_at hl 4 rfl) ?_
          refine lv_iload hx hb dX7_worst_59 (lv_at hl 0 rfl) ?_
          have cw_11 := cwV (R := rm_X7_worst) (rm := rm_X7_off) 2 (hts d0) gX7_worst_X7_off rfl rfl rfl (by decide +kernel) ⟨Nat.le_of_ble_eq_true rfl, Nat.le_of_ble_eq_true rfl⟩
          refine xcall hd0 (xintoV (b := m0) (As := [.int (nI x9), .int (nI k)]) (rest := []) ⟨hx, hb, hml, hown, hts _⟩ cw_11 (va_recv hK.1 (x1 hc_7) (ci := 8) (q0 := 0) rfl rfl) rfl rfl hl.1 rfl (lv_room (Nat.le_of_ble_eq_true rfl)) dX7_worst_61) (c_X7_off (l := l) (G := G) (ty := ty) (b0 := b0) (⟨hc_7, hc_A0_7, hc_A1_7, hc_A2_7, hc_A3_7, hc_A4_7, hc_A5_7, hc_A6_7, hc_A7_7, hc_A8_7, hc_A9_7, hc_A10_7⟩ : xRef G ty m0 A (nI 0) F R pl un co dr bu nb wi hi fc fa lo la px py pz H_7) hZ (x := x9) (f := k) (by omega) (by omega)) (xoweB cw_11.1) hK hb0 hS (Nat.le_of_ble_eq_true rfl) (Nat.le_of_ble_eq_true rfl) (fun E_11 ce_11 q9_11 H_11 locs_11 d0 hd0 hp_11 hS hce_11 hcv_11 hcl_11 => ?_) (fun v_11 H_11 locs_11 d0 hd0 hp_11 hS => ?_)
          · exact hp_11.elim
          · obtain ⟨rfl, r_11, rfl, q_11⟩ := hp_11
            show W p l e _ (s.setDrawn _) m _ below meth c _ _ _ _ _ (F0 m 64 ls [.double r_11])
            refine lv_dstore (lv' := [(6, .double r_11), (5, .int (nI k)), (3, .double mo), (2, .int (nI ((pWor co pl x9 k).1))), (0, .ref m0), (1, .int (nI x9))]) hx hb dX7_worst_64 hl (by decide) rfl (fun ls hl => ?_)
            have J_12 : ∀ (y : UInt64) (locs : List Loc) (d0 : Drawn) (ls : Array Slot), vq y (pSize (pOff co pl x9 k)) → va_S (xA b0) s.heap H_7 locs → s.drawn.sameBut d0 lw_cs → lv_has ls 8 [(5, .int (nI k)), (3, .double mo), (2, .int (nI ((pWor co pl x9 k).1))), (0, .ref m0), (1, .int (nI x9))] → W p l e rm_X7_worst (s.setDrawn d0) m [Value.ref m0, Value.int ((nI x9))].toArray below meth c H_7 locs (0 + rm_X7_noStrip.cells + rm_X7_off.cells) (0 + rm_X7_noStrip.slots + rm_X7_off.slots) (xMQ below (fun v H1 => ∃ T : Int32, xRef G ty m0 A T F R pl un co dr bu nb wi hi fc fa lo la px py pz H1 ∧ xRfr m0 A H H1 ∧ ∃ z : Int32, v = some (.int z) ∧ ((T = nI 0 ∧ (vp_in (nI x9) (R - 1)) ∧ ¬ un (nI x9).toNatClampNeg = 0 ∧ z = nI (pWor co pl (nI x9).toNatClampNeg (F - 1)).1) ∨ (T = nI 1 ∧ ¬ (vp_in (nI x9) (R - 1))) ∨ (T = nI 2 ∧ (vp_in (nI x9) (R - 1)) ∧ un (nI x9).toNatClampNeg = 0))) (fun _ _ => False) [.ref m0, .int ((nI x9))].toArray s rm_X7_worst b0) (F0 m 81 ls [.double y]) := by
              intro y locs d0 ls hP_12 hS hd0 hl
              refine lv_dstore (lv' := [(6, .double y), (5, .int (nI k)), (3, .double mo), (2, .int (nI ((pWor co pl x9 k).1))), (0, .ref m0), (1, .int (nI x9))]) hx hb dX7_worst_81 hl (by decide) rfl (fun ls hl => ?_)
              refine lv_dload hx hb dX7_worst_83 (lv_at hl 0 rfl) ?_
              refine lv_dload_n hx hb dX7_worst_85 rfl (lv_at hl 2 rfl) ?_
              refine xcmp_l_le (tgt := 95) hx hb hP_12 hmo dX7_worst_86 dX7_worst_87 (by decide) (fun c_13 => ?_) (fun c_13 => ?_)
              · refine lv_iload_n hx hb dX7_worst_95 rfl (lv_at hl 3 rfl) ?_
                refine lv_istore_n (lv' := [(2, .int (nI ((pWor co pl x9 k).1))), (6, .double y), (5, .int (nI k)), (3, .double mo), (0, .ref m0), (1, .int (nI x9))]) hx hb dX7_worst_96 rfl hl (by decide) rfl (fun ls hl => ?_)
                refine lv_dload hx hb dX7_worst_97 (lv_at hl 1 rfl) ?_
                refine lv_dload_n hx hb dX7_worst_99 rfl (lv_at hl 3 rfl) ?_
                refine xcmp_l_le (tgt := 109) hx hb hP_12 hmo dX7_worst_100 dX7_worst_101 (by decide) (fun c_14 => ?_) (fun c_14 => ?_)
                · refine lv_dload_n hx hb dX7_worst_109 rfl (lv_at hl 3 rfl) ?_
                  refine lv_dstore_n (lv' := [(3, .double mo), (2, .int (nI ((pWor co pl x9 k).1))), (6, .double y), (5, .int (nI k)), (0, .ref m0), (1, .int (nI x9))]) hx hb dX7_worst_110 rfl hl (by decide) rfl (fun ls hl => ?_)
                  refine xiincN (x := k) (y := 1) (lv' := [(5, .int (nI (k + 1))), (3, .double mo), (2, .int (nI ((pWor co pl x9 k).1))), (6, .double y), (0, .ref m0), (1, .int (nI x9))]) hx hb dX7_worst_111 hl (k := 3) rfl (by decide) (by decide) rfl (fun ls hl => ?_)
                  refine lv_goto (tgt := 39) hx hb dX7_worst_114 (by decide) ?_
                  first | exact (xtf c_13 c_14).elim | exact (xtf c_14 c_13).elim | exact ih (k + 1) mo _ d0 ls ⟨by omega, by rw [pWor_t c_13]; exact hmo⟩ hS hd0 (by rw [pWor_t c_13]; exact lv_sub hl [0, 1, 2, 4, 5] rfl) | exact ih (k + 1) mo _ d0 ls ⟨by omega, by rw [pWor_f c_13]; exact hmo⟩ hS hd0 (by rw [pWor_f c_13]; exact lv_sub hl [0, 1, 2, 4, 5] rfl)
                · refine lv_dload hx hb dX7_worst_104 (lv_at hl 1 rfl) ?_
                  refine lv_goto (tgt := 110) hx hb dX7_worst_106 (by decide) ?_
                  refine lv_dstore_n (lv' := [(3, .double y), (2, .int (nI ((pWor co pl x9 k).1))), (6, .double y), (5, .int (nI k)), (0, .ref m0), (1, .int (nI x9))]) hx hb dX7_worst_110 rfl hl (by decide) rfl (fun ls hl => ?_)
                  refine xiincN (x := k) (y := 1) (lv' := [(5, .int (nI (k + 1))), (3, .double y), (2, .int (nI ((pWor co pl x9 k).1))), (6, .double y), (0, .ref m0), (1, .int (nI x9))]) hx hb dX7_worst_111 hl (k := 3) rfl (by decide) (by decide) rfl (fun ls hl => ?_)
                  refine lv_goto (tgt := 39) hx hb dX7_worst_114 (by decide) ?_
                  first | exact (xtf c_13 c_14).elim | exact (xtf c_14 c_13).elim | exact ih (k + 1) y _ d0 ls ⟨by omega, by rw [pWor_t c_13]; exact hP_12⟩ hS hd0 (by rw [pWor_t c_13]; exact lv_sub hl [0, 1, 2, 4, 5] rfl) | exact ih (k + 1) y _ d0 ls ⟨by omega, by rw [pWor_f c_13]; exact hP_12⟩ hS hd0 (by rw [pWor_f c_13]; exact lv_sub hl [0, 1, 2, 4, 5] rfl)
              · refine lv_iload hx hb dX7_worst_90 (lv_at hl 1 rfl) ?_
                refine lv_goto (tgt := 96) hx hb dX7_worst_92 (by decide) ?_
                refine lv_istore_n (lv' := [(2, .int (nI k)), (6, .double y), (5, .int (nI k)), (3, .double mo), (0, .ref m0), (1, .int (nI x9))]) hx hb dX7_worst_96 rfl hl (by decide) rfl (fun ls hl => ?_)
                refine lv_dload hx hb dX7_worst_97 (lv_at hl 1 rfl) ?_
                refine lv_dload_n hx hb dX7_worst_99 rfl (lv_at hl 3 rfl) ?_
                refine xcmp_l_le (tgt := 109) hx hb hP_12 hmo dX7_worst_100 dX7_worst_101 (by decide) (fun c_15 => ?_) (fun c_15 => ?_)
                · refine lv_dload_n hx hb dX7_worst_109 rfl (lv_at hl 3 rfl) ?_
                  refine lv_dstore_n (lv' := [(3, .double mo), (2, .int (nI k)), (6, .double y), (5, .int (nI k)), (0, .ref m0), (1, .int (nI x9))]) hx hb dX7_worst_110 rfl hl (by decide) rfl (fun ls hl => ?_)
                  refine xiincN (x := k) (y := 1) (lv' := [(5, .int (nI (k + 1))), (3, .double mo), (2, .int (nI k)), (6, .double y), (0, .ref m0), (1, .int (nI x9))]) hx hb dX7_worst_111 hl (k := 3) rfl (by decide) (by decide) rfl (fun ls hl => ?_)
                  refine lv_goto (tgt := 39) hx hb dX7_worst_114 (by decide) ?_
                  first | exact (xtf c_13 c_15).elim | exact (xtf c_15 c_13).elim | exact ih (k + 1) mo _ d0 ls ⟨by omega, by rw [pWor_t c_13]; exact hmo⟩ hS hd0 (by rw [pWor_t c_13]; exact lv_sub hl [0, 1, 2, 4, 5] rfl) | exact ih (k + 1) mo _ d0 ls ⟨by omega, by rw [pWor_f c_13]; exact hmo⟩ hS hd0 (by rw [pWor_f c_13]; exact lv_sub hl [0, 1, 2, 4, 5] rfl)
                · refine lv_dload hx hb dX7_worst_104 (lv_at hl 1 rfl) ?_
                  refine lv_goto (tgt := 110) hx hb dX7_worst_106 (by decide) ?_
                  refine lv_dstore_n (lv' := [(3, .double y), (2, .int (nI k)), (6, .double y), (5, .int (nI k)), (0, .ref m0), (1, .int (nI x9))]) hx hb dX7_worst_110 rfl hl (by decide) rfl (fun ls hl => ?_)
                  refine xiincN (x := k) (y := 1) (lv' := [(5, .int (nI (k + 1))), (3, .double y), (2, .int (nI k)), (6, .double y), (0, .ref m0), (1, .int (nI x9))]) hx hb dX7_worst_111 hl (k := 3) rfl (by decide) (by decide) rfl (fun ls hl => ?_)
                  refine lv_goto (tgt := 39) hx hb dX7_worst_114 (by decide) ?_
                  first | exact (xtf c_13 c_15).elim | exact (xtf c_15 c_13).elim | exact ih (k + 1) y _ d0 ls ⟨by omega, by rw [pWor_t c_13]; exact hP_12⟩ hS hd0 (by rw [pWor_t c_13]; exact lv_sub hl [0, 1, 2, 4, 5] rfl) | exact ih (k + 1) y _ d0 ls ⟨by omega, by rw [pWor_f c_13]; exact hP_12⟩ hS hd0 (by rw [pWor_f c_13]; exact lv_sub hl [0, 1, 2, 4, 5] rfl)
            refine lv_dload hx hb dX7_worst_66 (lv_at hl 0 rfl) ?_
            refine lv_dconst0 hx hb dX7_worst_68 ?_
            refine xcmp_g_ge (tgt := 79) hx hb q_11 (vq_rf _) dX7_worst_69 dX7_worst_70 (by decide) (fun c_16 => ?_) (fun c_16 => ?_)
            · refine lv_dload hx hb dX7_worst_79 (lv_at hl 0 rfl) ?_
              exact J_12 _ _ d0 ls (by first | exact pSize_t c_16 q_11 | exact pSize_f c_16 q_11) hS hd0 (lv_sub hl [1, 2, 3, 4, 5] rfl)
            · refine lv_dload hx hb dX7_worst_73 (lv_at hl 0 rfl) ?_
              refine lv_dneg hx hb dX7_worst_75 ?_
              refine lv_goto (tgt := 81) hx hb dX7_worst_76 (by decide) ?_
              exact J_12 _ _ d0 ls (by first | exact pSize_t c_16 (vq_neg q_11) | exact pSize_f c_16 (vq_neg q_11)) hS hd0 (lv_sub hl [1, 2, 3, 4, 5] rfl)
    · refine lv_iconst (v := nI 1) hx hb dX7_worst_9 (by decide) ?_
      refine lv_goto (tgt := 27) hx hb dX7_worst_10 (by decide) ?_
      refine xput (G := G) (ci := 8) (v := .int (nI 1)) (ty := .int) (C := RX7) (T := TX7) (N := 18) hx hb (hts d0) in_X7_worst_X7 tyX7 tyX7_ok nmX7 hown hK.1 y_o hS hB.1 rfl 0 (by decide) (hts d0 _ hw_X7_worst_2) (fun _ h9 => h9) rfl (by decide +kernel) rfl rfl (Nat.le_of_ble_eq_true rfl) dX7_worst_27 (fun H_17 locs_17 hs_17 hS => ?_)
      have hc_17 : xc G m0 (.inr (8, [.int (nI 1), .int (nI F), .int (nI R), .ref (A 0), .ref (A 1), .ref (A 2), .ref (A 3), .ref (A 4), .int (nI nb), .ref (A 5), .ref (A 6), .ref (A 7), .ref (A 8), .ref (A 9), .ref (A 10), .double px, .double py, .double pz])) H_17 := hs_17.1
      have hc_A0_17 : xc G (A 0) (.inl (ty 0, 192, .inr (.inr (.inr (.inl pl))))) H_17 := y_0.kept (hs_17.2.2 _ (hA.1 0 (by decide)))
      have hc_A1_17 : xc G (A 1) (.inl (ty 2, 8, .inl un)) H_17 := y_1.kept (hs_17.2.2 _ (hA.1 1 (by decide)))
      have hc_A2_17 : xc G (A 2) (.inl (ty 0, 256, .inr (.inr (.inr (.inl co))))) H_17 := y_2.kept (hs_17.2.2 _ (hA.1 2 (by decide)))
      have hc_A3_17 : xc G (A 3) (.inl (ty 0, 32, .inr (.inr (.inr (.inl dr))))) H_17 := y_3.kept (hs_17.2.2 _ (hA.1 3 (by decide)))
      have hc_A4_17 : xc G (A 4) (.inl (ty 2, 64, .inl bu)) H_17 := y_4.kept (hs_17.2.2 _ (hA.1 4 (by decide)))
      have hc_A5_17 : xc G (A 5) (.inl (ty 0, 4, .inr (.inr (.inr (.inl wi))))) H_17 := y_5.kept (hs_17.2.2 _ (hA.1 5 (by decide)))
      have hc_A6_17 : xc G (A 6) (.inl (ty 0, 4, .inr (.inr (.inr (.inl hi))))) H_17 := y_6.kept (hs_17.2.2 _ (hA.1 6 (by decide)))
      have hc_A7_17 : xc G (A 7) (.inl (ty 1, 4, .inl fc)) H_17 := y_7.kept (hs_17.2.2 _ (hA.1 7 (by decide)))
      have hc_A8_17 : xc G (A 8) (.inl (ty 0, 128, .inr (.inr (.inr (.inl fa))))) H_17 := y_8.kept (hs_17.2.2 _ (hA.1 8 (by decide)))
      have hc_A9_17 : xc G (A 9) (.inl (ty 1, 8, .inl lo)) H_17 := y_9.kept (hs_17.2.2 _ (hA.1 9 (by decide)))
      have hc_A10_17 : xc G (A 10) (.inl (ty 1, 8, .inl la)) H_17 := y_10.kept (hs_17.2.2 _ (hA.1 10 (by decide)))
      have hfr_17 : xRfr m0 A H H_17 := xRfr.put0 xRfr.rf hs_17
      refine lv_iconst (v := nI 0) hx hb dX7_worst_30 (by decide) ?_
      refine lv_istore_n (lv' := [(2, .int (nI 0)), (0, .ref m0), (1, .int (x))]) hx hb dX7_worst_31 rfl hl (by decide) rfl (fun ls hl => ?_)
      refine lv_ldc2d hx hb hown (hts d0 _ hw_X7_worst_3) dX7_worst_32 ?_
      refine lv_dstore_n (lv' := [(3, .double 13830554455654793216), (2, .int (nI 0)), (0, .ref m0), (1, .int (x))]) hx hb dX7_worst_35 rfl hl (by decide) rfl (fun ls hl => ?_)
      refine lv_iconst (v := nI 0) hx hb dX7_worst_36 (by decide) ?_
      refine lv_istore (lv' := [(5, .int (nI 0)), (3, .double 13830554455654793216), (2, .int (nI 0)), (0, .ref m0), (1, .int (x))]) hx hb dX7_worst_37 hl (by decide) rfl (fun ls hl => ?_)
      refine lv_iload hx hb dX7_worst_39 (lv_at hl 0 rfl) ?_
      refine lv_aload_n hx hb dX7_worst_41 rfl (lv_at hl 3 rfl) ?_
      refine va_get (D := G) (cl := vwCl) (ci := 8) (v := .int (nI F)) (C := RX7) (T := TX7) (N := 18) hx hb (hts d0) in_X7_worst_X7 hown hK.1 (x1 hc_17) 0 rfl rfl 1 (by decide) (hts d0 _ hw_X7_worst_4) (fun _ h9 => h9) rfl dX7_worst_42 ?_
      refine lv_iconst (v := nI 1) hx hb dX7_worst_45 (by decide) ?_
      refine xisubN hx hb (by omega) dX7_worst_46 ?_
      refine xicmpN_ge (tgt := 117) hx hb (by decide) (by omega) dX7_worst_47 (by decide) (fun h9 => absurd h9 (by omega)) (fun _ => ?_)
      refine lv_aload_n hx hb dX7_worst_50 rfl (lv_at hl 3 rfl) ?_
      refine va_get (D := G) (cl := vwCl) (ci := 8) (v := .int (nI 1)) (C := RX7) (T := TX7) (N := 18) hx hb (hts d0) in_X7_worst_X7 hown hK.1 (x1 hc_17) 0 rfl rfl 0 (by decide) (hts d0 _ hw_X7_worst_2) (fun _ h9 => h9) rfl dX7_worst_51 ?_
      refine lv_if_ne (tgt := 117) hx hb dX7_worst_54 (by decide) (fun _ => ?_) (fun h9 => (show False by revert h9; decide).elim)
      refine lv_iload_n hx hb dX7_worst_117 rfl (lv_at hl 2 rfl) ?_
      exact xiret hd0 hx hb hr hlocks hS (Nat.le_of_ble_eq_true rfl) (Nat.le_of_ble_eq_true rfl) dX7_worst_118 ⟨nI 1, ⟨hc_17, hc_A0_17, hc_A1_17, hc_A2_17, hc_A3_17, hc_A4_17, hc_A5_17, hc_A6_17, hc_A7_17, hc_A8_17, hc_A9_17, hc_A10_17⟩, hfr_17, _, rfl, Or.inr (Or.inl ⟨rfl, xP_ne.mp c_2⟩)⟩
set_option maxRecDepth 20000 in
theorem ggX7_staves_X7_areStaves : GoodIn wsX7_staves wsX7_areStaves := goodIn_r _ [6, 7, 8, 9, 10, 5, 11] (by decide +kernel) (by decide +kernel)
set_option maxRecDepth 20000 in
theorem gX7_staves_X7_areStaves : GoodIn wsX7_staves (va_wsS RX7 136 yX7_areStaves wsX7_areStaves) := goodIn_app (goodIn_of _ (by decide +kernel)) ggX7_staves_X7_areStaves
theorem dX7_staves_0 : decode cX7_staves 0 = .ok (.aload_n 0, 1) := by decide +kernel
theorem dX7_staves_1 : decode cX7_staves 1 = .ok (.dload_n 1, 1) := by decide +kernel
theorem dX7_staves_2 : decode cX7_staves 2 = .ok (.dload_n 3, 1) := by decide +kernel
theorem dX7_staves_3 : decode cX7_staves 3 = .ok (.invokestatic 136, 3) := by decide +kernel
theorem dX7_staves_6 : decode cX7_staves 6 = .ok (.ifCond .eq 7, 3) := by decide +kernel
theorem dX7_staves_9 : decode cX7_staves 9 = .ok (.iconst 0, 1) := by decide +kernel
theorem dX7_staves_10 : decode cX7_staves 10 = .ok (.goto 4, 3) := by decide +kernel
theorem dX7_staves_13 : decode cX7_staves 13 = .ok (.iconst 1, 1) := by decide +kernel
theorem dX7_staves_14 : decode cX7_staves 14 = .ok (.putfield 52, 3) := by decide +kernel
theorem dX7_staves_17 : decode cX7_staves 17 = .ok (.iconst 1, 1) := by decide +kernel
theorem dX7_staves_18 : decode cX7_staves 18 = .ok (.istore 5, 2) := by decide +kernel
theorem dX7_staves_20 : decode cX7_staves 20 = .ok (.aload_n 0, 1) := by decide +kernel
theorem dX7_staves_21 : decode cX7_staves 21 = .ok (.getfield 52, 3) := by decide +kernel
theorem dX7_staves_24 : decode cX7_staves 24 = .ok (.ifCond .ne 23, 3) := by decide +kernel
theorem dX7_staves_27 : decode cX7_staves 27 = .ok (.iload 5, 2) := by decide +kernel
theorem dX7_staves_29 : decode cX7_staves 29 = .ok (.i2d, 1) := by decide +kernel
theorem dX7_staves_30 : decode cX7_staves 30 = .ok (.dload_n 1, 1) := by decide +kernel
theorem dX7_staves_31 : decode cX7_staves 31 = .ok (.dmul, 1) := by decide +kernel
theorem dX7_staves_32 : decode cX7_staves 32 = .ok (.dload_n 3, 1) := by decide +kernel
theorem dX7_staves_33 : decode cX7_staves 33 = .ok (.ldc2_w 140, 3) := by decide +kernel
theorem dX7_staves_36 : decode cX7_staves 36 = .ok (.dmul, 1) := by decide +kernel
theorem dX7_staves_37 : decode cX7_staves 37 = .ok (.dcmp .g, 1) := by decide +kernel
theorem dX7_staves_38 : decode cX7_staves 38 = .ok (.ifCond .ge 9, 3) := by decide +kernel
theorem dX7_staves_41 : decode cX7_staves 41 = .ok (.iinc 5 1, 3) := by decide +kernel
theorem dX7_staves_44 : decode cX7_staves 44 = .ok (.goto (-24), 3) := by decide +kernel
theorem dX7_staves_47 : decode cX7_staves 47 = .ok (.aload_n 0, 1) := by decide +kernel
theorem dX7_staves_48 : decode cX7_staves 48 = .ok (.getfield 52, 3) := by decide +kernel
theorem dX7_staves_51 : decode cX7_staves 51 = .ok (.ifCond .le 7, 3) := by decide +kernel
theorem dX7_staves_54 : decode cX7_staves 54 = .ok (.iconst 0, 1) := by decide +kernel
theorem dX7_staves_55 : decode cX7_staves 55 = .ok (.goto 5, 3) := by decide +kernel
theorem dX7_staves_58 : decode cX7_staves 58 = .ok (.iload 5, 2) := by decide +kernel
theorem dX7_staves_60 : decode cX7_staves 60 = .ok (.ireturn, 1) := by decide +kernel
abbrev rm_X7_staves : Room := { frames := 7, cells := 0, slots := 0, locals := 140 }
theorem hw_X7_staves_1 : (Cond.fieldLink RX7 52 "PlankUnrollModel" "thrown" "I") ∈ wsX7_staves := List.mem_of_getElem? (i := 1) rfl
theorem hw_X7_staves_2 : (Cond.constantDouble RX7 140 (4614256656552045848)) ∈ wsX7_staves := List.mem_of_getElem? (i := 2) rfl
theorem in_X7_staves_X7 : ∀ w ∈ wsX70, w ∈ wsX7_staves := by decide +kernel
set_option maxHeartbeats 4000000 in
set_option maxRecDepth 100000 in
/-- staves -/
theorem c_X7_staves {l : Launch} {G : va_G} {ty : Nat → ClassId} {b0 : Nat} {H : Heap} {m0 : Nat} {A : Nat → Nat} {th : Int32} {F R nb : Nat} {pl co dr wi hi fa : Nat → UInt64} {un bu fc lo la : Nat → Int32} {px py pz : UInt64} (hY : xRef G ty m0 A th F R pl un co dr bu nb wi hi fc fa lo la px py pz H) (hZ : xSz F R) (hA : xAp m0 A) (hB : xNw b0 m0 A) {x d ew ed : UInt64} {N : Nat} (hx9 : vq x ew) (hd9 : vq d ed) (hN : pStav ew ed = true → 1 ≤ N ∧ N < 2 ^ 30 ∧ (∀ n : Nat, 1 ≤ n → n < N → xlt (FP.dmul (FP.i2d (nI n)) ew) (FP.dmul ed 4614256656552045848) = true) ∧ xlt (FP.dmul (FP.i2d (nI N)) ew) (FP.dmul ed 4614256656552045848) = false) : xMet l yX7_staves wsX7_staves rm_X7_staves G ty b0 [.ref m0, .double x, .double d] H (fun v H1 => ∃ T : Int32, xRef G ty m0 A T F R pl un co dr bu nb wi hi fc fa lo la px py pz H1 ∧ xRfr m0 A H H1 ∧ ∃ z : Int32, v = some (.int z) ∧ ((T = nI 0 ∧ (pStav ew ed = true) ∧ z = nI N) ∨ (T = nI 1 ∧ ¬ (pStav ew ed = true)))) (fun _ _ => False) := by
  refine xbody (cc := cX7_staves) (maxL := 6) (ret := (some .int)) (C := RX7) (lv := [(0, .ref m0), (1, .double x), (3, .double d)]) (by decide) rfl rfl (Nat.le_of_ble_eq_true rfl) rfl ?_
  intro p e s m below meth c d0 hx hb hr hts hown hlocks hml hxt hnm0 hK hb0 hH0 hS hd0 ls hl
  obtain ⟨y_o, y_0, y_1, y_2, y_3, y_4, y_5, y_6, y_7, y_8, y_9, y_10⟩ := id hY
  obtain ⟨⟨zF2, zF8⟩, ⟨zR2, zR8⟩⟩ := id hZ
  refine lv_aload_n hx hb dX7_staves_0 rfl (lv_at hl 0 rfl) ?_
  refine lv_dload_n hx hb dX7_staves_1 rfl (lv_at hl 1 rfl) ?_
  refine lv_dload_n hx hb dX7_staves_2 rfl (lv_at hl 2 rfl) ?_
  have cw_1 := va_cwS (R := rm_X7_staves) (rm := rm_X7_areStaves) 2 (hts d0) gX7_staves_X7_areStaves rfl rfl rfl (by decide +kernel) ⟨Nat.le_of_ble_eq_true rfl, Nat.le_of_ble_eq_true rfl⟩
  refine xcall hd0 (xintoS (As := [.double x, .double d]) (rest := [.ref m0]) ⟨hx, hb, hml, hown, hts _⟩ cw_1 rfl rfl hl.1 rfl (lv_room (Nat.le_of_ble_eq_true rfl)) dX7_staves_3) (c_X7_areStaves (l := l) (G := G) (ty := ty) (b0 := b0) hx9 hd9) (xoweB cw_1.1) hK hb0 hS (Nat.le_of_ble_eq_true rfl) (Nat.le_of_ble_eq_true rfl) (fun E_1 ce_1 q9_1 H_1 locs_1 d0 hd0 hp_1 hS hce_1 hcv_1 hcl_1 => ?_) (fun v_1 H_1 locs_1 d0 hd0 hp_1 hS => ?_)
  · exact hp_1.elim
  · obtain ⟨rfl, rfl⟩ := hp_1
    show W p l e _ (s.setDrawn _) m _ below meth c _ _ _ _ _ (F0 m 6 ls [.int (xB (pStav ew ed)), .ref m0])
    refine lv_if_eq (tgt := 13) hx hb dX7_staves_6 (by decide) (fun c_2 => ?_) (fun c_2 => ?_)
    · refine lv_iconst (v := nI 1) hx hb dX7_staves_13 (by decide) ?_
      refine xput (G := G) (ci := 8) (v := .int (nI 1)) (ty := .int) (C := RX7) (T := TX7) (N := 18) hx hb (hts d0) in_X7_staves_X7 tyX7 tyX7_ok nmX7 hown hK.1 y_o hS hB.1 rfl 0 (by decide) (hts d0 _ hw_X7_staves_1) (fun _ h9 => h9) rfl (by decide +kernel) rfl rfl (Nat.le_of_ble_eq_true rfl) dX7_staves_14 (fun H_3 locs_3 hs_3 hS => ?_)
      have hc_3 : xc G m0 (.inr (8, [.int (nI 1), .int (nI F), .int (nI R), .ref (A 0), .ref (A 1), .ref (A 2), .ref (A 3), .ref (A 4), .int (nI nb), .ref (A 5), .ref (A 6), .ref (A 7), .ref (A 8), .ref (A 9), .ref (A 10), .double px, .double py, .double pz])) H_3 := hs_3.1
      have hc_A0_3 : xc G (A 0) (.inl (ty 0, 192, .inr (.inr (.inr (.inl pl))))) H_3 := y_0.kept (hs_3.2.2 _ (hA.1 0 (by decide)))
      have hc_A1_3 : xc G (A 1) (.inl (ty 2, 8, .inl un)) H_3 := y_1.kept (hs_3.2.2 _ (hA.1 1 (by decide)))
      have hc_A2_3 : xc G (A 2) (.inl (ty 0, 256, .inr (.inr (.inr (.inl co))))) H_3 := y_2.kept (hs_3.2.2 _ (hA.1 2 (by decide)))
      have hc_A3_3 : xc G (A 3) (.inl (ty 0, 32, .inr (.inr (.inr (.inl dr))))) H_3 := y_3.kept (hs_3.2.2 _ (hA.1 3 (by decide)))
      have hc_A4_3 : xc G (A 4) (.inl (ty 2, 64, .inl bu)) H_3 := y_4.kept (hs_3.2.2 _ (hA.1 4 (by decide)))
      have hc_A5_3 : xc G (A 5) (.inl (ty 0, 4, .inr (.inr (.inr (.inl wi))))) H_3 := y_5.kept (hs_3.2.2 _ (hA.1 5 (by decide)))
      have hc_A6_3 : xc G (A 6) (.inl (ty 0, 4, .inr (.inr (.inr (.inl hi))))) H_3 := y_6.kept (hs_3.2.2 _ (hA.1 6 (by decide)))
      have hc_A7_3 : xc G (A 7) (.inl (ty 1, 4, .inl fc)) H_3 := y_7.kept (hs_3.2.2 _ (hA.1 7 (by decide)))
      have hc_A8_3 : xc G (A 8) (.inl (ty 0, 128, .inr (.inr (.inr (.inl fa))))) H_3 := y_8.kept (hs_3.2.2 _ (hA.1 8 (by decide)))
      have hc_A9_3 : xc G (A 9) (.inl (ty 1, 8, .inl lo)) H_3 := y_9.kept (hs_3.2.2 _ (hA.1 9 (by decide)))
      have hc_A10_3 : xc G (A 10) (.inl (ty 1, 8, .inl la)) H_3 := y_10.kept (hs_3.2.2 _ (hA.1 10 (by decide)))
      have hfr_3 : xRfr m0 A H H_3 := xRfr.put0 xRfr.rf hs_3
      refine lv_iconst (v := nI 1) hx hb dX7_staves_17 (by decide) ?_
      refine lv_istore (lv' := [(5, .int (nI 1)), (0, .ref m0), (1, .double x), (3, .double d)]) hx hb dX7_staves_18 hl (by decide) rfl (fun ls hl => ?_)
      refine lv_aload_n hx hb dX7_staves_20 rfl (lv_at hl 1 rfl) ?_
      refine va_get (D := G) (cl := vwCl) (ci := 8) (v := .int (nI 1)) (C := RX7) (T := TX7) (N := 18) hx hb (hts d0) in_X7_staves_X7 hown hK.1 (x1 hc_3) 0 rfl rfl 0 (by decide) (hts d0 _ hw_X7_staves_1) (fun _ h9 => h9) rfl dX7_staves_21 ?_
      refine lv_if_ne (tgt := 47) hx hb dX7_staves_24 (by decide) (fun _ => ?_) (fun h9 => (show False by revert h9; decide).elim)
      refine lv_aload_n hx hb dX7_staves_47 rfl (lv_at hl 1 rfl) ?_
      refine va_get (D := G) (cl := vwCl) (ci := 8) (v := .int (nI 1)) (C := RX7) (T := TX7) (N := 18) hx hb (hts d0) in_X7_staves_X7 hown hK.1 (x1 hc_3) 0 rfl rfl 0 (by decide) (hts d0 _ hw_X7_staves_1) (fun _ h9 => h9) rfl dX7_staves_48 ?_
      refine lv_if_le (tgt := 58) hx hb dX7_staves_51 (by decide) (fun h9 => (show False by revert h9; decide).elim) (fun _ => ?_)
      refine lv_iconst (v := nI 0) hx hb dX7_staves_54 (by decide) ?_
      refine lv_goto (tgt := 60) hx hb dX7_staves_55 (by decide) ?_
      exact xiret hd0 hx hb hr hlocks hS (Nat.le_of_ble_eq_true rfl) (Nat.le_of_ble_eq_true rfl) dX7_staves_60 ⟨nI 1, ⟨hc_3, hc_A0_3, hc_A1_3, hc_A2_3, hc_A3_3, hc_A4_3, hc_A5_3, hc_A6_3, hc_A7_3, hc_A8_3, hc_A9_3, hc_A10_3⟩, hfr_3, _, rfl, Or.inr ⟨rfl, fun z => xtf z (xB_f c_2)⟩⟩
    · refine lv_iconst (v := nI 0) hx hb dX7_staves_9 (by decide) ?_
      refine lv_goto (tgt := 14) hx hb dX7_staves_10 (by decide) ?_
      refine xput (G := G) (ci := 8) (v := .int (nI 0)) (ty := .int) (C := RX7) (T := TX7) (N := 18) hx hb (hts d0) in_X7_staves_X7 tyX7 tyX7_ok nmX7 hown hK.1 y_o hS hB.1 rfl 0 (by decide) (hts d0 _ hw_X7_staves_1) (fun _ h9 => h9) rfl (by decide +kernel) rfl rfl (Nat.le_of_ble_eq_true rfl) dX7_staves_14 (fun H_6 locs_6 hs_6 hS => ?_)
      have hc_6 : xc G m0 (.inr (8, [.int (nI 0), .int (nI F), .int (nI R), .ref (A 0), .ref (A 1), .ref (A 2), .ref (A 3), .ref (A 4), .int (nI nb), .ref (A 5), .ref (A 6), .ref (A 7), .ref (A 8), .ref (A 9), .ref (A 10), .double px, .double py, .double pz])) H_6 := hs_6.1
      have hc_A0_6 : xc G (A 0) (.inl (ty 0, 192, .inr (.inr (.inr (.inl pl))))) H_6 := y_0.kept (hs_6.2.2 _ (hA.1 0 (by decide)))
      have hc_A1_6 : xc G (A 1) (.inl (ty 2, 8, .inl un)) H_6 := y_1.kept (hs_6.2.2 _ (hA.1 1 (by decide)))
      have hc_A2_6 : xc G (A 2) (.inl (ty 0, 256, .inr (.inr (.inr (.inl co))))) H_6 := y_2.kept (hs_6.2.2 _ (hA.1 2 (by decide)))
      have hc_A3_6 : xc G (A 3) (.inl (ty 0, 32, .inr (.inr (.inr (.inl dr))))) H_6 := y_3.kept (hs_6.2.2 _ (hA.1 3 (by decide)))
      have hc_A4_6 : xc G (A 4) (.inl (ty 2, 64, .inl bu)) H_6 := y_4.kept (hs_6.2.2 _ (hA.1 4 (by decide)))
      have hc_A5_6 : xc G (A 5) (.inl (ty 0, 4, .inr (.inr (.inr (.inl wi))))) H_6 := y_5.kept (hs_6.2.2 _ (hA.1 5 (by decide)))
      have hc_A6_6 : xc G (A 6) (.inl (ty 0, 4, .inr (.inr (.inr (.inl hi))))) H_6 := y_6.kept (hs_6.2.2 _ (hA.1 6 (by decide)))
      have hc_A7_6 : xc G (A 7) (.inl (ty 1, 4, .inl fc)) H_6 := y_7.kept (hs_6.2.2 _ (hA.1 7 (by decide)))
      have hc_A8_6 : xc G (A 8) (.inl (ty 0, 128, .inr (.inr (.inr (.inl fa))))) H_6 := y_8.kept (hs_6.2.2 _ (hA.1 8 (by decide)))
      have hc_A9_6 : xc G (A 9) (.inl (ty 1, 8, .inl lo)) H_6 := y_9.kept (hs_6.2.2 _ (hA.1 9 (by decide)))
      have hc_A10_6 : xc G (A 10) (.inl (ty 1, 8, .inl la)) H_6 := y_10.kept (hs_6.2.2 _ (hA.1 10 (by decide)))
      have hfr_6 : xRfr m0 A H H_6 := xRfr.put0 xRfr.rf hs_6
      refine lv_iconst (v := nI 1) hx hb dX7_staves_17 (by decide) ?_
      refine lv_istore (lv' := [(5, .int (nI 1)), (0, .ref m0), (1, .double x), (3, .double d)]) hx hb dX7_staves_18 hl (by decide) rfl (fun ls hl => ?_)
      have z9 : pStav ew ed = true := xB_t c_2
      obtain ⟨hN1, hN2, hNl, hNg⟩ := hN z9
      suffices K : ∀ (n : Nat) (k : Nat) (locs : List Loc) (d0 : Drawn) (ls : Array Slot), k + n = N ∧ 1 ≤ k → va_S (xA b0) s.heap H_6 locs → s.drawn.sameBut d0 lw_cs → lv_has ls 6 [(5, .int (nI k)), (0, .ref m0), (1, .double x), (3, .double d)] → W p l e rm_X7_staves (s.setDrawn d0) m [Value.ref m0, Value.double x, Value.double d].toArray below meth c H_6 locs (0 + rm_X7_areStaves.cells) (0 + rm_X7_areStaves.slots) (xMQ below (fun v H1 => ∃ T : Int32, xRef G ty m0 A T F R pl un co dr bu nb wi hi fc fa lo la px py pz H1 ∧ xRfr m0 A H H1 ∧ ∃ z : Int32, v = some (.int z) ∧ ((T = nI 0 ∧ (pStav ew ed = true) ∧ z = nI N) ∨ (T = nI 1 ∧ ¬ (pStav ew ed = true)))) (fun _ _ => False) [.ref m0, .double x, .double d].toArray s rm_X7_staves b0) (F0 m 20 ls []) from K (N - 1) 1 _ d0 ls ⟨by omega, by omega⟩ hS hd0 (lv_sub hl [0, 1, 2, 3] rfl)
      intro n
      induction n with
      | zero =>
        intro k locs d0 ls hinv hS hd0 hl
        have ek : k = N := (by omega)
        refine lv_aload_n hx hb dX7_staves_20 rfl (lv_at hl 1 rfl) ?_
        refine va_get (D := G) (cl := vwCl) (ci := 8) (v := .int (nI 0)) (C := RX7) (T := TX7) (N := 18) hx hb (hts d0) in_X7_staves_X7 hown hK.1 (x1 hc_6) 0 rfl rfl 0 (by decide) (hts d0 _ hw_X7_staves_1) (fun _ h9 => h9) rfl dX7_staves_21 ?_
        refine lv_if_ne (tgt := 47) hx hb dX7_staves_24 (by decide) (fun h9 => (show False by revert h9; decide).elim) (fun _ => ?_)
        refine lv_iload hx hb dX7_staves_27 (lv_at hl 0 rfl) ?_
        refine lv_i2d hx hb dX7_staves_29 ?_
        refine lv_dload_n hx hb dX7_staves_30 rfl (lv_at hl 2 rfl) ?_
        refine xdmul hd0 hx hb (vq_rf _) hx9 dX7_staves_31 (fun r_8 d0 q_8 hd0 => ?_)
        refine lv_dload_n hx hb dX7_staves_32 rfl (lv_at hl 3 rfl) ?_
        refine lv_ldc2d hx hb hown (hts d0 _ hw_X7_staves_2) dX7_staves_33 ?_
        refine xdmul hd0 hx hb hd9 (vq_rf _) dX7_staves_36 (fun r_9 d0 q_9 hd0 => ?_)
        refine xcmp_g_ge (tgt := 47) hx hb q_8 q_9 dX7_staves_37 dX7_staves_38 (by decide) (fun c_10 => ?_) (fun c_10 => ?_)
        · refine lv_aload_n hx hb dX7_staves_47 rfl (lv_at hl 1 rfl) ?_
          refine va_get (D := G) (cl := vwCl) (ci := 8) (v := .int (nI 0)) (C := RX7) (T := TX7) (N := 18) hx hb (hts d0) in_X7_staves_X7 hown hK.1 (x1 hc_6) 0 rfl rfl 0 (by decide) (hts d0 _ hw_X7_staves_1) (fun _ h9 => h9) rfl dX7_staves_48 ?_
          refine lv_if_le (tgt := 58) hx hb dX7_staves_51 (by decide) (fun _ => ?_) (fun h9 => (show False by revert h9; decide).elim)
          refine lv_iload hx hb dX7_staves_58 (lv_at hl 0 rfl) ?_
          exact xiret hd0 hx hb hr hlocks hS (Nat.le_of_ble_eq_true rfl) (Nat.le_of_ble_eq_true rfl) dX7_staves_60 ⟨nI 0, ⟨hc_6, hc_A0_6, hc_A1_6, hc_A2_6, hc_A3_6, hc_A4_6, hc_A5_6, hc_A6_6, hc_A7_6, hc_A8_6, hc_A9_6, hc_A10_6⟩, hfr_6, _, rfl, Or.inl ⟨rfl, z9, by rw [ek]⟩⟩
        · exact (xtf c_10 (by rw [ek]; exact hNg)).elim
      | succ n ih =>
        intro k locs d0 ls hinv hS hd0 hl
        refine lv_aload_n hx hb dX7_staves_20 rfl (lv_at hl 1 rfl) ?_
        refine va_get (D := G) (cl := vwCl) (ci := 8) (v := .int (nI 0)) (C := RX7) (T := TX7) (N := 18) hx hb (hts d0) in_X7_staves_X7 hown hK.1 (x1 hc_6) 0 rfl rfl 0 (by decide) (hts d0 _ hw_X7_staves_1) (fun _ h9 => h9) rfl dX7_staves_21 ?_
        refine lv_if_ne (tgt := 47) hx hb dX7_staves_24 (by decide) (fun h9 => (show False by revert h9; decide).elim) (fun _ => ?_)
        refine lv_iload hx hb dX7_staves_27 (lv_at hl 0 rfl) ?_
        refine lv_i2d hx hb dX7_staves_29 ?_
        refine lv_dload_n hx hb dX7_staves_30 rfl (lv_at hl 2 rfl) ?_
        refine xdmul hd0 hx hb (vq_rf _) hx9 dX7_staves_31 (fun r_13 d0 q_13 hd0 => ?_)
        refine lv_dload_n hx hb dX7_staves_32 rfl (lv_at hl 3 rfl) ?_
        refine lv_ldc2d hx hb hown (hts d0 _ hw_X7_staves_2) dX7_staves_33 ?_
        refine xdmul hd0 hx hb hd9 (vq_rf _) dX7_staves_36 (fun r_14 d0 q_14 hd0 => ?_)
        refine xcmp_g_ge (tgt := 47) hx hb q_13 q_14 dX7_staves_37 dX7_staves_38 (by decide) (fun c_15 => ?_) (fun c_15 => ?_)
        · exact (xtf (hNl k (by omega) (by omega)) c_15).elim
        · refine xiincN (x := k) (y := 1) (lv' := [(5, .int (nI (k + 1))), (0, .ref m0), (1, .double x), (3, .double d)]) hx hb dX7_staves_41 hl (k := 0) rfl (by decide) (by decide) rfl (fun ls hl => ?_)
          refine lv_goto (tgt := 20) hx hb dX7_staves_44 (by decide) ?_
          exact ih (k + 1) _ d0 ls ⟨by omega, by omega⟩ hS hd0 (lv_sub hl [0, 1, 2, 3] rfl)
