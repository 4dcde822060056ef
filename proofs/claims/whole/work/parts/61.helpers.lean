/-! THE LAW: its helpers, which catch. -/
theorem xab_no {ad : Nat → Nat} {F R nb B o k : Nat} {nf : Nat → Nat} (hF : F ≤ 8) (hR : R ≤ 8) (hn : nb < 4) (hno : ∀ k : Nat, xU F R nb nf k → o ≠ ad k) (ho : o < B) (hk : xU F R (nb + 1) (xnf nf nb) k) : o ≠ xab ad nb B k := by
  rcases xU_abc hk with h | rfl | rfl | ⟨rfl, h⟩
  · rw [xab_old (nf := nf) hF hR hn k h]; exact hno k h
  · rw [xab_1]; omega
  · rw [xab_2]; omega
  · rw [xab_3 h]; omega
theorem in_lt0 {x : Int32} {n : Nat} (h : vp_in x n) : x.toNatClampNeg < n := Nat.lt_of_not_le fun z => h (Or.inr z)
theorem xaf_no {ad : Nat → Nat} {F R nb B o k b b0 : Nat} {nf : Nat → Nat} (hW : xWf F R nb nf ad b0) (hb : b < nb) (h8 : ¬ nf b = 8) (hno : ∀ k : Nat, xU F R nb nf k → o ≠ ad k) (ho : o < B) (hk : xU F R nb (xnfi nf b) k) : o ≠ xaf ad b (nf b) B k := by
  have hn := hW.2.2.1 b hb
  have hn4 := hW.2.1
  rcases xU_afc hk with h | rfl | ⟨rfl, h⟩
  · rw [xaf_old (nf := nf) hW.1.1.2 hW.1.2.2 hn4 hW.2.2.1 hb (by omega) k h]; exact hno k h
  · rw [xaf_1]; omega
  · rw [xaf_2 (by omega) h]; omega
set_option maxRecDepth 20000 in
theorem ggL_point_X6_point : GoodIn wsL_point wsX6_point := goodIn_ca (goodIn_ca (goodIn_r _ [7, 8, 9, 10, 11, 12, 13, 14, 15, 16, 17, 18, 6, 19, 20, 21, 22, 23, 24, 25, 26, 27, 28, 29, 30, 31, 32, 33, 34, 35, 36, 37, 38, 39, 40, 41, 42, 43, 44, 45, 46, 47, 48, 49, 50, 51, 52, 53, 54, 55, 56, 57, 58] (by decide +kernel) (by decide +kernel)) (goodIn_sub (fun _ h => List.mem_cons_of_mem _ (List.mem_append_left _ (List.mem_append_right _ h))) (by decide +kernel))) (goodIn_sub (fun _ h => List.mem_cons_of_mem _ (List.mem_append_right _ h)) (by decide +kernel))
set_option maxRecDepth 20000 in
theorem gL_point_X6_point : GoodIn wsL_point (wsV RL 7 RX6 yX6_point wsX6_point) := goodIn_app (goodIn_of _ (by decide +kernel)) ggL_point_X6_point
theorem dL_point_0 : decode cL_point 0 = .ok (.aload 9, 2) := by decide +kernel
theorem dL_point_2 : decode cL_point 2 = .ok (.iconst 0, 1) := by decide +kernel
theorem dL_point_3 : decode cL_point 3 = .ok (.aload_n 0, 1) := by decide +kernel
theorem dL_point_4 : decode cL_point 4 = .ok (.iload_n 1, 1) := by decide +kernel
theorem dL_point_5 : decode cL_point 5 = .ok (.iload_n 2, 1) := by decide +kernel
theorem dL_point_6 : decode cL_point 6 = .ok (.dload_n 3, 1) := by decide +kernel
theorem dL_point_7 : decode cL_point 7 = .ok (.dload 5, 2) := by decide +kernel
theorem dL_point_9 : decode cL_point 9 = .ok (.dload 7, 2) := by decide +kernel
theorem dL_point_11 : decode cL_point 11 = .ok (.invokevirtual 7, 3) := by decide +kernel
theorem dL_point_14 : decode cL_point 14 = .ok (.ifCond .eq 7, 3) := by decide +kernel
theorem dL_point_17 : decode cL_point 17 = .ok (.lconst 1, 1) := by decide +kernel
theorem dL_point_18 : decode cL_point 18 = .ok (.goto 4, 3) := by decide +kernel
theorem dL_point_21 : decode cL_point 21 = .ok (.lconst 0, 1) := by decide +kernel
theorem dL_point_22 : decode cL_point 22 = .ok (.lastore, 1) := by decide +kernel
theorem dL_point_23 : decode cL_point 23 = .ok (.goto 11, 3) := by decide +kernel
theorem dL_point_26 : decode cL_point 26 = .ok (.astore 10, 2) := by decide +kernel
theorem dL_point_28 : decode cL_point 28 = .ok (.iconst 1, 1) := by decide +kernel
theorem dL_point_29 : decode cL_point 29 = .ok (.ireturn, 1) := by decide +kernel
theorem dL_point_30 : decode cL_point 30 = .ok (.astore 10, 2) := by decide +kernel
theorem dL_point_32 : decode cL_point 32 = .ok (.iconst 2, 1) := by decide +kernel
theorem dL_point_33 : decode cL_point 33 = .ok (.ireturn, 1) := by decide +kernel
theorem dL_point_34 : decode cL_point 34 = .ok (.iconst 0, 1) := by decide +kernel
theorem dL_point_35 : decode cL_point 35 = .ok (.ireturn, 1) := by decide +kernel
abbrev rm_L_point : Room := { frames := 11, cells := 20, slots := 150, locals := 435 }
theorem hw_L_point_1 : (Cond.classLink RL 13 "java/lang/IndexOutOfBoundsException") ∈ wsL_point := List.mem_of_getElem? (i := 1) rfl
theorem hw_L_point_2 : (Cond.classLink RL 15 "java/lang/IllegalArgumentException") ∈ wsL_point := List.mem_of_getElem? (i := 2) rfl
set_option maxHeartbeats 4000000 in
set_option maxRecDepth 100000 in
/-- a helper of the law -/
theorem c_L_point {l : Launch} {G : va_G} {ty : Nat → ClassId} {b0 : Nat} {H : Heap} (hfl : l.stackTraces = false) {ad : Nat → Nat} {F R nb : Nat} {pl wi hi fa : Nat → UInt64} {un bu lo la : Nat → Int32} {cx cy bx : Nat → Nat → UInt64} {nf : Nat → Nat} (hX : xCla G ty ad F R pl un cx cy bu nb wi hi nf fa lo la bx H H) (hW : xWf F R nb nf ad b0) {f r : Int32} {x y z ex ey ez : UInt64} (hx9 : vq x ex) (hy9 : vq y ey) (hz9 : vq z ez) {o : Nat} {fo : Nat → Int64} (ho : b0 ≤ o) (hco : xc G o (.inl (ty 3, 1, .inr (.inl fo))) H) (hno : ∀ k : Nat, xU F R nb nf k → o ≠ ad k) : xMet l yL_point wsL_point rm_L_point G ty b0 [.ref (ad 0), .int (f), .int (r), .double x, .double y, .double z, .ref o] H (fun v H1 => (v = some (.int (nI 0)) ∧ ∃ (bv : Int32) (H0 : Heap), (fun (v : Option Value) (H1 : Heap) => (vp_in f F ∧ vp_in r R) ∧ (pBetween ex 13875379345695965184 4652007308841189376 = true ∧ pBetween ey 13875379345695965184 4652007308841189376 = true ∧ pBetween ez 13875379345695965184 4652007308841189376 = true) ∧ ∃ (pl1 : Nat → UInt64) (un1 lo1 la1 : Nat → Int32), xCla G ty ad F R pl1 un1 cx cy bu nb wi hi nf fa lo1 la1 bx H H1 ∧ ((pNew pl f.toNatClampNeg r.toNatClampNeg ex ey ez ∧ v = some (.int (nI 1)) ∧ pl1 = vf_upd (vf_upd (vf_upd pl ((3 * (8 * f.toNatClampNeg + r.toNatClampNeg)) + 0) x) ((3 * (8 * f.toNatClampNeg + r.toNatClampNeg)) + 1) y) ((3 * (8 * f.toNatClampNeg + r.toNatClampNeg)) + 2) z ∧ ∀ j : Nat, j < R - 1 → un1 j = nI 0 ∧ lo1 j = (-1) ∧ la1 j = (-1)) ∨ (¬ pNew pl f.toNatClampNeg r.toNatClampNeg ex ey ez ∧ v = some (.int (nI 0)) ∧ pl1 = pl ∧ un1 = un ∧ lo1 = lo ∧ la1 = la))) (some (.int bv)) H0 ∧ xset G o (.inl (ty 3, 1, .inr (.inl (vp_updL fo 0 (if bv = 0 then (0 : Int64) else 1))))) H0 H1) ∨ (v = some (.int (nI 1)) ∧ (fun (E : String) (H1 : Heap) => (E = "java/lang/IndexOutOfBoundsException" ∧ ¬ (vp_in f F ∧ vp_in r R) ∧ xext H H1) ∨ (E = "java/lang/IllegalArgumentException" ∧ (vp_in f F ∧ vp_in r R) ∧ ¬ (pBetween ex 13875379345695965184 4652007308841189376 = true ∧ pBetween ey 13875379345695965184 4652007308841189376 = true ∧ pBetween ez 13875379345695965184 4652007308841189376 = true) ∧ xext H H1)) "java/lang/IndexOutOfBoundsException" H1) ∨ (v = some (.int (nI 2)) ∧ (fun (E : String) (H1 : Heap) => (E = "java/lang/IndexOutOfBoundsException" ∧ ¬ (vp_in f F ∧ vp_in r R) ∧ xext H H1) ∨ (E = "java/lang/IllegalArgumentException" ∧ (vp_in f F ∧ vp_in r R) ∧ ¬ (pBetween ex 13875379345695965184 4652007308841189376 = true ∧ pBetween ey 13875379345695965184 4652007308841189376 = true ∧ pBetween ez 13875379345695965184 4652007308841189376 = true) ∧ xext H H1)) "java/lang/IllegalArgumentException" H1)) (fun _ _ => False) := by
  refine xbodyH (hh := [(0, 23, 26, 13), (0, 23, 30, 15)]) (cc := cL_point) (maxL := 11) (ret := (some .int)) (C := RL) (lv := [(0, .ref (ad 0)), (1, .int (f)), (2, .int (r)), (3, .double x), (5, .double y), (7, .double z), (9, .ref o)]) (by decide) rfl rfl (Nat.le_of_ble_eq_true rfl) rfl ?_
  intro p e s m below meth c d0 hx hb hr hts hown hlocks hml hxt hnm0 hK hb0 hH0 hS hd0 ls hl
  obtain ⟨⟨zF2, zF8⟩, ⟨zR2, zR8⟩⟩ := id hW.1
  have zB4 := hW.2.1
  refine lv_aload hx hb dL_point_0 (lv_at hl 6 rfl) ?_
  refine lv_iconst (v := nI 0) hx hb dL_point_2 (by decide) ?_
  refine lv_aload_n hx hb dL_point_3 rfl (lv_at hl 0 rfl) ?_
  refine lv_iload_n hx hb dL_point_4 rfl (lv_at hl 1 rfl) ?_
  refine lv_iload_n hx hb dL_point_5 rfl (lv_at hl 2 rfl) ?_
  refine lv_dload_n hx hb dL_point_6 rfl (lv_at hl 3 rfl) ?_
  refine lv_dload hx hb dL_point_7 (lv_at hl 4 rfl) ?_
  refine lv_dload hx hb dL_point_9 (lv_at hl 5 rfl) ?_
  have cw_1 := cwV (R := rm_L_point) (rm := rm_X6_point) 5 (hts d0) gL_point_X6_point rfl rfl rfl (by decide +kernel) ⟨Nat.le_of_ble_eq_true rfl, Nat.le_of_ble_eq_true rfl⟩
  refine xcall hd0 (xintoV (b := (ad 0)) (As := [.int (f), .int (r), .double x, .double y, .double z]) (rest := [.int (nI 0), .ref o]) ⟨hx, hb, hml, hown, hts _⟩ cw_1 (va_recv hK.1 (x1 (hX.o_)) (ci := 7) (q0 := 0) rfl rfl) rfl rfl hl.1 rfl (lv_room (Nat.le_of_ble_eq_true rfl)) dL_point_11) (c_X6_point (l := l) (G := G) (ty := ty) (b0 := b0) hfl hX hW hx9 hy9 hz9) (xoweB cw_1.1) hK hb0 hS (Nat.le_of_ble_eq_true rfl) (Nat.le_of_ble_eq_true rfl) (fun E_1 ce_1 q9_1 H_1 locs_1 d0 hd0 hp_1 hS hce_1 hcv_1 hcl_1 => ?_) (fun v_1 H_1 locs_1 d0 hd0 hp_1 hS => ?_)
  · rcases (show E_1 = "java/lang/IndexOutOfBoundsException" ∨ E_1 = "java/lang/IllegalArgumentException" from (by rcases hp_1 with h | h; exact Or.inl h.1; exact Or.inr h.1)) with rfl | rfl
    · refine xcatch (own := RL) (hh := [(0, 23, 26, 13), (0, 23, 30, 15)]) (name := "java/lang/IndexOutOfBoundsException") hown hxt [] (⟨0, 23, 26, 13⟩ : ExceptionTableEntry) [(⟨0, 23, 30, 15⟩ : ExceptionTableEntry)] rfl (fun z hz => absurd hz List.not_mem_nil) (by decide) (by decide) (hts d0 _ hw_L_point_1) (by decide +kernel) hK hce_1 hcv_1 hcl_1 ?_
      show W p l e _ (s.setDrawn _) m _ below meth c _ _ _ _ _ (F0 m 26 ls [.ref q9_1])
      refine lv_astore (lv' := [(10, .ref q9_1), (0, .ref (ad 0)), (1, .int (f)), (2, .int (r)), (3, .double x), (5, .double y), (7, .double z), (9, .ref o)]) hx hb dL_point_26 hl (by decide) rfl (fun ls hl => ?_)
      refine lv_iconst (v := nI 1) hx hb dL_point_28 (by decide) ?_
      exact xiret hd0 hx hb hr hlocks hS (Nat.le_of_ble_eq_true rfl) (Nat.le_of_ble_eq_true rfl) dL_point_29 (Or.inr (Or.inl ⟨rfl, hp_1⟩))
    · refine xcatch (own := RL) (hh := [(0, 23, 26, 13), (0, 23, 30, 15)]) (name := "java/lang/IllegalArgumentException") hown hxt [(⟨0, 23, 26, 13⟩ : ExceptionTableEntry)] (⟨0, 23, 30, 15⟩ : ExceptionTableEntry) [] rfl (fun z hz => by cases List.mem_singleton.mp hz; exact ⟨by decide, _, (hts d0 _ hw_L_point_1), by decide⟩) (by decide) (by decide) (hts d0 _ hw_L_point_2) (by decide +kernel) hK hce_1 hcv_1 hcl_1 ?_
      show W p l e _ (s.setDrawn _) m _ below meth c _ _ _ _ _ (F0 m 30 ls [.ref q9_1])
      refine lv_astore (lv' := [(10, .ref q9_1), (0, .ref (ad 0)), (1, .int (f)), (2, .int (r)), (3, .double x), (5, .double y), (7, .double z), (9, .ref o)]) hx hb dL_point_30 hl (by decide) rfl (fun ls hl => ?_)
      refine lv_iconst (v := nI 2) hx hb dL_point_32 (by decide) ?_
      exact xiret hd0 hx hb hr hlocks hS (Nat.le_of_ble_eq_true rfl) (Nat.le_of_ble_eq_true rfl) dL_point_33 (Or.inr (Or.inr ⟨rfl, hp_1⟩))
  · obtain ⟨bv, hbv_1⟩ : ∃ bv : Int32, v_1 = some (.int bv) := by obtain ⟨-, -, _, _, _, _, -, h | h⟩ := hp_1 <;> exact ⟨_, h.2.1⟩
    subst hbv_1
    have hk_1 : H_1[o]? = H[o]? := by obtain ⟨-, -, _, _, _, _, hz, -⟩ := hp_1; exact hz.fr_ o hco.lt hno
    show W p l e _ (s.setDrawn _) m _ below meth c _ _ _ _ _ (F0 m 14 ls [.int (bv), .int (nI 0), .ref o])
    refine lv_if_eq (tgt := 21) hx hb dL_point_14 (by decide) (fun c_2 => ?_) (fun c_2 => ?_)
    · refine lv_lconst (v := 0) hx hb dL_point_21 (by decide) ?_
      refine xlastN (s := s.setDrawn d0) (j := 0) (x := 0) hx hb hK.1 3 (hco.kept hk_1) hS ho rfl (xix_of (by omega) (by omega)) dL_point_22 (fun H_3 locs_3 hs_3 hS => ?_)
      have hc_3 : xc G o (.inl (ty 3, 1, .inr (.inl ((vp_updL fo 0 0))))) H_3 := hs_3.1
      refine lv_goto (tgt := 34) hx hb dL_point_23 (by decide) ?_
      refine lv_iconst (v := nI 0) hx hb dL_point_34 (by decide) ?_
      exact xiret hd0 hx hb hr hlocks hS (Nat.le_of_ble_eq_true rfl) (Nat.le_of_ble_eq_true rfl) dL_point_35 (Or.inl ⟨rfl, bv, _, hp_1, (by rw [if_pos c_2]; exact hs_3)⟩)
    · refine lv_lconst (v := 1) hx hb dL_point_17 (by decide) ?_
      refine lv_goto (tgt := 22) hx hb dL_point_18 (by decide) ?_
      refine xlastN (s := s.setDrawn d0) (j := 0) (x := 1) hx hb hK.1 3 (hco.kept hk_1) hS ho rfl (xix_of (by omega) (by omega)) dL_point_22 (fun H_4 locs_4 hs_4 hS => ?_)
      have hc_4 : xc G o (.inl (ty 3, 1, .inr (.inl ((vp_updL fo 0 1))))) H_4 := hs_4.1
      refine lv_goto (tgt := 34) hx hb dL_point_23 (by decide) ?_
      refine lv_iconst (v := nI 0) hx hb dL_point_34 (by decide) ?_
      exact xiret hd0 hx hb hr hlocks hS (Nat.le_of_ble_eq_true rfl) (Nat.le_of_ble_eq_true rfl) dL_point_35 (Or.inl ⟨rfl, bv, _, hp_1, (by rw [if_neg c_2]; exact hs_4)⟩)
set_option maxRecDepth 20000 in
theorem ggL_distance_X6_distance : GoodIn wsL_distance wsX6_distance := goodIn_ca (goodIn_r _ [6, 7, 8, 9, 5, 10, 11, 12, 13, 14, 15, 16, 17, 18, 19, 20, 21, 22, 23, 24, 25, 26, 27, 28, 29, 30, 31, 32, 33, 34, 35, 36, 37, 38, 39] (by decide +kernel) (by decide +kernel)) (goodIn_sub (fun _ h => List.mem_cons_of_mem _ (List.mem_append_right _ h)) (by decide +kernel))
set_option maxRecDepth 20000 in
theorem gL_distance_X6_distance : GoodIn wsL_distance (wsV RL 17 RX6 yX6_distance wsX6_distance) := goodIn_app (goodIn_of _ (by decide +kernel)) ggL_distance_X6_distance
theorem dL_distance_0 : decode cL_distance 0 = .ok (.aload 5, 2) := by decide +kernel
theorem dL_distance_2 : decode cL_distance 2 = .ok (.iconst 0, 1) := by decide +kernel
theorem dL_distance_3 : decode cL_distance 3 = .ok (.aload_n 0, 1) := by decide +kernel
theorem dL_distance_4 : decode cL_distance 4 = .ok (.iload_n 1, 1) := by decide +kernel
theorem dL_distance_5 : decode cL_distance 5 = .ok (.iload_n 2, 1) := by decide +kernel
theorem dL_distance_6 : decode cL_distance 6 = .ok (.iload_n 3, 1) := by decide +kernel
theorem dL_distance_7 : decode cL_distance 7 = .ok (.iload 4, 2) := by decide +kernel
theorem dL_distance_9 : decode cL_distance 9 = .ok (.invokevirtual 17, 3) := by decide +kernel
theorem dL_distance_12 : decode cL_distance 12 = .ok (.dastore, 1) := by decide +kernel
theorem dL_distance_13 : decode cL_distance 13 = .ok (.goto 7, 3) := by decide +kernel
theorem dL_distance_16 : decode cL_distance 16 = .ok (.astore 6, 2) := by decide +kernel
theorem dL_distance_18 : decode cL_distance 18 = .ok (.iconst 1, 1) := by decide +kernel
theorem dL_distance_19 : decode cL_distance 19 = .ok (.ireturn, 1) := by decide +kernel
theorem dL_distance_20 : decode cL_distance 20 = .ok (.iconst 0, 1) := by decide +kernel
theorem dL_distance_21 : decode cL_distance 21 = .ok (.ireturn, 1) := by decide +kernel
abbrev rm_L_distance : Room := { frames := 11, cells := 20, slots := 150, locals := 435 }
theorem hw_L_distance_1 : (Cond.classLink RL 13 "java/lang/IndexOutOfBoundsException") ∈ wsL_distance := List.mem_of_getElem? (i := 1) rfl
set_option maxHeartbeats 4000000 in
set_option maxRecDepth 100000 in
/-- a helper of the law -/
theorem c_L_distance {l : Launch} {G : va_G} {ty : Nat → ClassId} {b0 : Nat} {H : Heap} (hfl : l.stackTraces = false) {ad : Nat → Nat} {F R nb : Nat} {pl wi hi fa : Nat → UInt64} {un bu lo la : Nat → Int32} {cx cy bx : Nat → Nat → UInt64} {nf : Nat → Nat} (hX : xCla G ty ad F R pl un cx cy bu nb wi hi nf fa lo la bx H H) (hW : xWf F R nb nf ad b0) {f r g q : Int32} {o : Nat} {fo : Nat → UInt64} (ho : b0 ≤ o) (hco : xc G o (.inl (ty 0, 1, .inr (.inr (.inr (.inl fo))))) H) (hno : ∀ k : Nat, xU F R nb nf k → o ≠ ad k) : xMet l yL_distance wsL_distance rm_L_distance G ty b0 [.ref (ad 0), .int (f), .int (r), .int (g), .int (q), .ref o] H (fun v H1 => (v = some (.int (nI 0)) ∧ ∃ (bv : UInt64) (H0 : Heap), (fun (v : Option Value) (H1 : Heap) => H = H1 ∧ ((vp_in f F ∧ vp_in r R) ∧ (vp_in g F ∧ vp_in q R)) ∧ ∃ z9 : UInt64, v = some (.double z9) ∧ vq z9 (pFar pl f.toNatClampNeg r.toNatClampNeg g.toNatClampNeg q.toNatClampNeg)) (some (.double bv)) H0 ∧ xset G o (.inl (ty 0, 1, .inr (.inr (.inr (.inl (vf_upd fo 0 bv)))))) H0 H1) ∨ (v = some (.int (nI 1)) ∧ (fun (E : String) (H1 : Heap) => E = "java/lang/IndexOutOfBoundsException" ∧ ¬ ((vp_in f F ∧ vp_in r R) ∧ (vp_in g F ∧ vp_in q R)) ∧ xext H H1) "java/lang/IndexOutOfBoundsException" H1)) (fun _ _ => False) := by
  refine xbodyH (hh := [(0, 13, 16, 13)]) (cc := cL_distance) (maxL := 7) (ret := (some .int)) (C := RL) (lv := [(0, .ref (ad 0)), (1, .int (f)), (2, .int (r)), (3, .int (g)), (4, .int (q)), (5, .ref o)]) (by decide) rfl rfl (Nat.le_of_ble_eq_true rfl) rfl ?_
  intro p e s m below meth c d0 hx hb hr hts hown hlocks hml hxt hnm0 hK hb0 hH0 hS hd0 ls hl
  obtain ⟨⟨zF2, zF8⟩, ⟨zR2, zR8⟩⟩ := id hW.1
  have zB4 := hW.2.1
  refine lv_aload hx hb dL_distance_0 (lv_at hl 5 rfl) ?_
  refine lv_iconst (v := nI 0) hx hb dL_distance_2 (by decide) ?_
  refine lv_aload_n hx hb dL_distance_3 rfl (lv_at hl 0 rfl) ?_
  refine lv_iload_n hx hb dL_distance_4 rfl (lv_at hl 1 rfl) ?_
  refine lv_iload_n hx hb dL_distance_5 rfl (lv_at hl 2 rfl) ?_
  refine lv_iload_n hx hb dL_distance_6 rfl (lv_at hl 3 rfl) ?_
  refine lv_iload hx hb dL_distance_7 (lv_at hl 4 rfl) ?_
  have cw_1 := cwV (R := rm_L_distance) (rm := rm_X6_distance) 4 (hts d0) gL_distance_X6_distance rfl rfl rfl (by decide +kernel) ⟨Nat.le_of_ble_eq_true rfl, Nat.le_of_ble_eq_true rfl⟩
  refine xcall hd0 (xintoV (b := (ad 0)) (As := [.int (f), .int (r), .int (g), .int (q)]) (rest := [.int (nI 0), .ref o]) ⟨hx, hb, hml, hown, hts _⟩ cw_1 (va_recv hK.1 (x1 (hX.o_)) (ci := 7) (q0 := 0) rfl rfl) rfl rfl hl.1 rfl (lv_room (Nat.le_of_ble_eq_true rfl)) dL_distance_9) (c_X6_distance (l := l) (G := G) (ty := ty) (b0 := b0) hfl hX hW) (xoweB cw_1.1) hK hb0 hS (Nat.le_of_ble_eq_true rfl) (Nat.le_of_ble_eq_true rfl) (fun E_1 ce_1 q9_1 H_1 locs_1 d0 hd0 hp_1 hS hce_1 hcv_1 hcl_1 => ?_) (fun v_1 H_1 locs_1 d0 hd0 hp_1 hS => ?_)
  · have hE_1 := hp_1.1
    subst hE_1
    refine xcatch (own := RL) (hh := [(0, 13, 16, 13)]) (name := "java/lang/IndexOutOfBoundsException") hown hxt [] (⟨0, 13, 16, 13⟩ : ExceptionTableEntry) [] rfl (fun z hz => absurd hz List.not_mem_nil) (by decide) (by decide) (hts d0 _ hw_L_distance_1) (by decide +kernel) hK hce_1 hcv_1 hcl_1 ?_
    show W p l e _ (s.setDrawn _) m _ below meth c _ _ _ _ _ (F0 m 16 ls [.ref q9_1])
    refine lv_astore (lv' := [(6, .ref q9_1), (0, .ref (ad 0)), (1, .int (f)), (2, .int (r)), (3, .int (g)), (4, .int (q)), (5, .ref o)]) hx hb dL_distance_16 hl (by decide) rfl (fun ls hl => ?_)
    refine lv_iconst (v := nI 1) hx hb dL_distance_18 (by decide) ?_
    exact xiret hd0 hx hb hr hlocks hS (Nat.le_of_ble_eq_true rfl) (Nat.le_of_ble_eq_true rfl) dL_distance_19 (Or.inr ⟨rfl, hp_1⟩)
  · obtain ⟨bv, hbv_1⟩ : ∃ bv : UInt64, v_1 = some (.double bv) := ⟨_, hp_1.2.2.choose_spec.1⟩
    subst hbv_1
    have hk_1 : H_1[o]? = H[o]? := by rw [← hp_1.1]
    show W p l e _ (s.setDrawn _) m _ below meth c _ _ _ _ _ (F0 m 12 ls [.double bv, .int (nI 0), .ref o])
    refine xdastN (s := s.setDrawn d0) (j := 0) (x := bv) hx hb hK.1 0 (hco.kept hk_1) hS ho rfl (xix_of (by omega) (by omega)) dL_distance_12 (fun H_2 locs_2 hs_2 hS => ?_)
    have hc_2 : xc G o (.inl (ty 0, 1, .inr (.inr (.inr (.inl ((vf_upd fo 0 bv))))))) H_2 := hs_2.1
    refine lv_goto (tgt := 20) hx hb dL_distance_13 (by decide) ?_
    refine lv_iconst (v := nI 0) hx hb dL_distance_20 (by decide) ?_
    exact xiret hd0 hx hb hr hlocks hS (Nat.le_of_ble_eq_true rfl) (Nat.le_of_ble_eq_true rfl) dL_distance_21 (Or.inl ⟨rfl, bv, _, hp_1, hs_2⟩)
set_option maxRecDepth 20000 in
theorem ggL_unroll_X6_unroll : GoodIn wsL_unroll wsX6_unroll := goodIn_ca (goodIn_ca (goodIn_r _ [7, 8, 9, 10, 11, 12, 13, 14, 6, 15, 16, 17, 18, 19, 20, 21, 22, 23, 24, 25, 26, 27, 28, 29, 30, 31, 32, 33, 34, 35, 36, 37, 38, 39, 40, 41, 42, 43, 44, 45, 46, 47, 48, 49, 50, 51, 52, 53, 54, 55, 56, 57, 58, 59, 60, 61, 62, 63, 64, 65, 66, 67, 68, 69, 70, 71, 72, 73, 74, 75, 76, 77, 78] (by decide +kernel) (by decide +kernel)) (goodIn_sub (fun _ h => List.mem_cons_of_mem _ (List.mem_append_left _ (List.mem_append_right _ h))) (by decide +kernel))) (goodIn_sub (fun _ h => List.mem_cons_of_mem _ (List.mem_append_right _ h)) (by decide +kernel))
set_option maxRecDepth 20000 in
theorem gL_unroll_X6_unroll : GoodIn wsL_unroll (wsV RL 21 RX6 yX6_unroll wsX6_unroll) := goodIn_app (goodIn_of _ (by decide +kernel)) ggL_unroll_X6_unroll
theorem dL_unroll_0 : decode cL_unroll 0 = .ok (.aload_n 2, 1) := by decide +kernel
theorem dL_unroll_1 : decode cL_unroll 1 = .ok (.iconst 0, 1) := by decide +kernel
theorem dL_unroll_2 : decode cL_unroll 2 = .ok (.aload_n 0, 1) := by decide +kernel
theorem dL_unroll_3 : decode cL_unroll 3 = .ok (.iload_n 1, 1) := by decide +kernel
theorem dL_unroll_4 : decode cL_unroll 4 = .ok (.invokevirtual 21, 3) := by decide +kernel
theorem dL_unroll_7 : decode cL_unroll 7 = .ok (.i2l, 1) := by decide +kernel
theorem dL_unroll_8 : decode cL_unroll 8 = .ok (.lastore, 1) := by decide +kernel
theorem dL_unroll_9 : decode cL_unroll 9 = .ok (.goto 9, 3) := by decide +kernel
theorem dL_unroll_12 : decode cL_unroll 12 = .ok (.astore_n 3, 1) := by decide +kernel
theorem dL_unroll_13 : decode cL_unroll 13 = .ok (.iconst 1, 1) := by decide +kernel
theorem dL_unroll_14 : decode cL_unroll 14 = .ok (.ireturn, 1) := by decide +kernel
theorem dL_unroll_15 : decode cL_unroll 15 = .ok (.astore_n 3, 1) := by decide +kernel
theorem dL_unroll_16 : decode cL_unroll 16 = .ok (.iconst 2, 1) := by decide +kernel
theorem dL_unroll_17 : decode cL_unroll 17 = .ok (.ireturn, 1) := by decide +kernel
theorem dL_unroll_18 : decode cL_unroll 18 = .ok (.iconst 0, 1) := by decide +kernel
theorem dL_unroll_19 : decode cL_unroll 19 = .ok (.ireturn, 1) := by decide +kernel
abbrev rm_L_unroll : Room := { frames := 11, cells := 20, slots := 150, locals := 435 }
theorem hw_L_unroll_1 : (Cond.classLink RL 13 "java/lang/IndexOutOfBoundsException") ∈ wsL_unroll := List.mem_of_getElem? (i := 1) rfl
theorem hw_L_unroll_2 : (Cond.classLink RL 25 "java/lang/IllegalStateException") ∈ wsL_unroll := List.mem_of_getElem? (i := 2) rfl
set_option maxHeartbeats 4000000 in
set_option maxRecDepth 100000 in
/-- a helper of the law -/
theorem c_L_unroll {l : Launch} {G : va_G} {ty : Nat → ClassId} {b0 : Nat} {H : Heap} (hfl : l.stackTraces = false) {ad : Nat → Nat} {F R nb : Nat} {pl wi hi fa : Nat → UInt64} {un bu lo la : Nat → Int32} {cx cy bx : Nat → Nat → UInt64} {nf : Nat → Nat} (hX : xCla G ty ad F R pl un cx cy bu nb wi hi nf fa lo la bx H H) (hW : xWf F R nb nf ad b0) {x : Int32} {o : Nat} {fo : Nat → Int64} (ho : b0 ≤ o) (hco : xc G o (.inl (ty 3, 1, .inr (.inl fo))) H) (hno : ∀ k : Nat, xU F R nb nf k → o ≠ ad k) : xMet l yL_unroll wsL_unroll rm_L_unroll G ty b0 [.ref (ad 0), .int (x), .ref o] H (fun v H1 => (v = some (.int (nI 0)) ∧ ∃ (bv : Int32) (H0 : Heap), (fun (v : Option Value) (H1 : Heap) => vp_in x (R - 1) ∧ v = some (.int (nI (2 * (F - 1)))) ∧ ∃ (un1 : Nat → Int32) (cx1 cy1 bx1 : Nat → Nat → UInt64), xCla G ty ad F R pl un1 cx1 cy1 bu nb wi hi nf fa lo la bx1 H H1 ∧ ((¬ un x.toNatClampNeg = 0 ∧ un1 = un ∧ cx1 = cx ∧ cy1 = cy ∧ bx1 = bx) ∨ (un x.toNatClampNeg = 0 ∧ un1 = upd un x.toNatClampNeg (nI 1) ∧ xOth cx cy cx1 cy1 x.toNatClampNeg ∧ ∃ d : Nat → UInt64, pUnr (pFar pl) x.toNatClampNeg (F - 1) = some d ∧ xCo (cx1 x.toNatClampNeg) (cy1 x.toNatClampNeg) d (2 * F) ∧ ∃ u9 h9 : UInt64, bx1 = xup2 (xup2 bx x.toNatClampNeg 2 u9) x.toNatClampNeg 3 h9 ∧ vq u9 (pExtC d (2 * F) 0) ∧ vq h9 (pExtC d (2 * F) 1)))) (some (.int bv)) H0 ∧ xset G o (.inl (ty 3, 1, .inr (.inl (vp_updL fo 0 bv.toInt64)))) H0 H1) ∨ (v = some (.int (nI 1)) ∧ (fun (E : String) (H1 : Heap) => (E = "java/lang/IndexOutOfBoundsException" ∧ ¬ vp_in x (R - 1) ∧ xext H H1) ∨ (E = "java/lang/IllegalStateException" ∧ vp_in x (R - 1) ∧ un x.toNatClampNeg = 0 ∧ pUnr (pFar pl) x.toNatClampNeg (F - 1) = none ∧ ∃ cx1 cy1 : Nat → Nat → UInt64, xOth cx cy cx1 cy1 x.toNatClampNeg ∧ xCla G ty ad F R pl un cx1 cy1 bu nb wi hi nf fa lo la bx H H1)) "java/lang/IndexOutOfBoundsException" H1) ∨ (v = some (.int (nI 2)) ∧ (fun (E : String) (H1 : Heap) => (E = "java/lang/IndexOutOfBoundsException" ∧ ¬ vp_in x (R - 1) ∧ xext H H1) ∨ (E = "java/lang/IllegalStateException" ∧ vp_in x (R - 1) ∧ un x.toNatClampNeg = 0 ∧ pUnr (pFar pl) x.toNatClampNeg (F - 1) = none ∧ ∃ cx1 cy1 : Nat → Nat → UInt64, xOth cx cy cx1 cy1 x.toNatClampNeg ∧ xCla G ty ad F R pl un cx1 cy1 bu nb wi hi nf fa lo la bx H H1)) "java/lang/IllegalStateException" H1)) (fun _ _ => False) := by
  refine xbodyH (hh := [(0, 9, 12, 13), (0, 9, 15, 25)]) (cc := cL_unroll) (maxL := 4) (ret := (some .int)) (C := RL) (lv := [(0, .ref (ad 0)), (1, .int (x)), (2, .ref o)]) (by decide) rfl rfl (Nat.le_of_ble_eq_true rfl) rfl ?_
  intro p e s m below meth c d0 hx hb hr hts hown hlocks hml hxt hnm0 hK hb0 hH0 hS hd0 ls hl
  obtain ⟨⟨zF2, zF8⟩, ⟨zR2, zR8⟩⟩ := id hW.1
  have zB4 := hW.2.1
  refine lv_aload_n hx hb dL_unroll_0 rfl (lv_at hl 2 rfl) ?_
  refine lv_iconst (v := nI 0) hx hb dL_unroll_1 (by decide) ?_
  refine lv_aload_n hx hb dL_unroll_2 rfl (lv_at hl 0 rfl) ?_
  refine lv_iload_n hx hb dL_unroll_3 rfl (lv_at hl 1 rfl) ?_
  have cw_1 := cwV (R := rm_L_unroll) (rm := rm_X6_unroll) 1 (hts d0) gL_unroll_X6_unroll rfl rfl rfl (by decide +kernel) ⟨Nat.le_of_ble_eq_true rfl, Nat.le_of_ble_eq_true rfl⟩
  refine xcall hd0 (xintoV (b := (ad 0)) (As := [.int (x)]) (rest := [.int (nI 0), .ref o]) ⟨hx, hb, hml, hown, hts _⟩ cw_1 (va_recv hK.1 (x1 (hX.o_)) (ci := 7) (q0 := 0) rfl rfl) rfl rfl hl.1 rfl (lv_room (Nat.le_of_ble_eq_true rfl)) dL_unroll_4) (c_X6_unroll (l := l) (G := G) (ty := ty) (b0 := b0) hfl hX hW) (xoweB cw_1.1) hK hb0 hS (Nat.le_of_ble_eq_true rfl) (Nat.le_of_ble_eq_true rfl) (fun E_1 ce_1 q9_1 H_1 locs_1 d0 hd0 hp_1 hS hce_1 hcv_1 hcl_1 => ?_) (fun v_1 H_1 locs_1 d0 hd0 hp_1 hS => ?_)
  · rcases (show E_1 = "java/lang/IndexOutOfBoundsException" ∨ E_1 = "java/lang/IllegalStateException" from (by rcases hp_1 with h | h; exact Or.inl h.1; exact Or.inr h.1)) with rfl | rfl
    · refine xcatch (own := RL) (hh := [(0, 9, 12, 13), (0, 9, 15, 25)]) (name := "java/lang/IndexOutOfBoundsException") hown hxt [] (⟨0, 9, 12, 13⟩ : ExceptionTableEntry) [(⟨0, 9, 15, 25⟩ : ExceptionTableEntry)] rfl (fun z hz => absurd hz List.not_mem_nil) (by decide) (by decide) (hts d0 _ hw_L_unroll_1) (by decide +kernel) hK hce_1 hcv_1 hcl_1 ?_
      show W p l e _ (s.setDrawn _) m _ below meth c _ _ _ _ _ (F0 m 12 ls [.ref q9_1])
      refine lv_astore_n (lv' := [(3, .ref q9_1), (0, .ref (ad 0)), (1, .int (x)), (2, .ref o)]) hx hb dL_unroll_12 rfl hl (by decide) rfl (fun ls hl => ?_)
      refine lv_iconst (v := nI 1) hx hb dL_unroll_13 (by decide) ?_
      exact xiret hd0 hx hb hr hlocks hS (Nat.le_of_ble_eq_true rfl) (Nat.le_of_ble_eq_true rfl) dL_unroll_14 (Or.inr (Or.inl ⟨rfl, hp_1⟩))
    · refine xcatch (own := RL) (hh := [(0, 9, 12, 13), (0, 9, 15, 25)]) (name := "java/lang/IllegalStateException") hown hxt [(⟨0, 9, 12, 13⟩ : ExceptionTableEntry)] (⟨0, 9, 15, 25⟩ : ExceptionTableEntry) [] rfl (fun z hz => by cases List.mem_singleton.mp hz; exact ⟨by decide, _, (hts d0 _ hw_L_unroll_1), by decide⟩) (by decide) (by decide) (hts d0 _ hw_L_unroll_2) (by decide +kernel) hK hce_1 hcv_1 hcl_1 ?_
      show W p l e _ (s.setDrawn _) m _ below meth c _ _ _ _ _ (F0 m 15 ls [.ref q9_1])
      refine lv_astore_n (lv' := [(3, .ref q9_1), (0, .ref (ad 0)), (1, .int (x)), (2, .ref o)]) hx hb dL_unroll_15 rfl hl (by decide) rfl (fun ls hl => ?_)
      refine lv_iconst (v := nI 2) hx hb dL_unroll_16 (by decide) ?_
      exact xiret hd0 hx hb hr hlocks hS (Nat.le_of_ble_eq_true rfl) (Nat.le_of_ble_eq_true rfl) dL_unroll_17 (Or.inr (Or.inr ⟨rfl, hp_1⟩))
  · obtain ⟨bv, hbv_1⟩ : ∃ bv : Int32, v_1 = some (.int bv) := ⟨_, hp_1.2.1⟩
    subst hbv_1
    have hk_1 : H_1[o]? = H[o]? := by obtain ⟨-, -, _, _, _, _, hz, -⟩ := hp_1; exact hz.fr_ o hco.lt hno
    show W p l e _ (s.setDrawn _) m _ below meth c _ _ _ _ _ (F0 m 7 ls [.int (bv), .int (nI 0), .ref o])
    refine lv_i2l (v := (bv).toInt64) hx hb dL_unroll_7 rfl ?_
    refine xlastN (s := s.setDrawn d0) (j := 0) (x := (bv).toInt64) hx hb hK.1 3 (hco.kept hk_1) hS ho rfl (xix_of (by omega) (by omega)) dL_unroll_8 (fun H_2 locs_2 hs_2 hS => ?_)
    have hc_2 : xc G o (.inl (ty 3, 1, .inr (.inl ((vp_updL fo 0 ((bv).toInt64)))))) H_2 := hs_2.1
    refine lv_goto (tgt := 18) hx hb dL_unroll_9 (by decide) ?_
    refine lv_iconst (v := nI 0) hx hb dL_unroll_18 (by decide) ?_
    exact xiret hd0 hx hb hr hlocks hS (Nat.le_of_ble_eq_true rfl) (Nat.le_of_ble_eq_true rfl) dL_unroll_19 (Or.inl ⟨rfl, bv, _, hp_1, hs_2⟩)
set_option maxRecDepth 20000 in
theorem ggL_flat_X6_flat : GoodIn wsL_flat wsX6_flat := goodIn_ca (goodIn_ca (goodIn_r _ [7, 8, 9, 10, 11, 12, 13, 14, 15, 6, 16, 17, 18, 19, 20, 21, 22, 23, 24, 25, 26, 27, 28, 29, 30, 31, 32, 33, 34, 35, 36, 37, 38] (by decide +kernel) (by decide +kernel)) (goodIn_sub (fun _ h => List.mem_cons_of_mem _ (List.mem_append_left _ (List.mem_append_right _ h))) (by decide +kernel))) (goodIn_sub (fun _ h => List.mem_cons_of_mem _ (List.mem_append_right _ h)) (by decide +kernel))
set_option maxRecDepth 20000 in
theorem gL_flat_X6_flat : GoodIn wsL_flat (wsV RL 27 RX6 yX6_flat wsX6_flat) := goodIn_app (goodIn_of _ (by decide +kernel)) ggL_flat_X6_flat
theorem dL_flat_0 : decode cL_flat 0 = .ok (.aload 4, 2) := by decide +kernel
theorem dL_flat_2 : decode cL_flat 2 = .ok (.iconst 0, 1) := by decide +kernel
theorem dL_flat_3 : decode cL_flat 3 = .ok (.aload_n 0, 1) := by decide +kernel
theorem dL_flat_4 : decode cL_flat 4 = .ok (.iload_n 1, 1) := by decide +kernel
theorem dL_flat_5 : decode cL_flat 5 = .ok (.iload_n 2, 1) := by decide +kernel
theorem dL_flat_6 : decode cL_flat 6 = .ok (.iload_n 3, 1) := by decide +kernel
theorem dL_flat_7 : decode cL_flat 7 = .ok (.invokevirtual 27, 3) := by decide +kernel
theorem dL_flat_10 : decode cL_flat 10 = .ok (.dastore, 1) := by decide +kernel
theorem dL_flat_11 : decode cL_flat 11 = .ok (.goto 11, 3) := by decide +kernel
theorem dL_flat_14 : decode cL_flat 14 = .ok (.astore 5, 2) := by decide +kernel
theorem dL_flat_16 : decode cL_flat 16 = .ok (.iconst 1, 1) := by decide +kernel
theorem dL_flat_17 : decode cL_flat 17 = .ok (.ireturn, 1) := by decide +kernel
theorem dL_flat_18 : decode cL_flat 18 = .ok (.astore 5, 2) := by decide +kernel
theorem dL_flat_20 : decode cL_flat 20 = .ok (.iconst 2, 1) := by decide +kernel
theorem dL_flat_21 : decode cL_flat 21 = .ok (.ireturn, 1) := by decide +kernel
theorem dL_flat_22 : decode cL_flat 22 = .ok (.iconst 0, 1) := by decide +kernel
theorem dL_flat_23 : decode cL_flat 23 = .ok (.ireturn, 1) := by decide +kernel
abbrev rm_L_flat : Room := { frames := 11, cells := 20, slots := 150, locals := 435 }
theorem hw_L_flat_1 : (Cond.classLink RL 13 "java/lang/IndexOutOfBoundsException") ∈ wsL_flat := List.mem_of_getElem? (i := 1) rfl
theorem hw_L_flat_2 : (Cond.classLink RL 25 "java/lang/IllegalStateException") ∈ wsL_flat := List.mem_of_getElem? (i := 2) rfl
set_option maxHeartbeats 4000000 in
set_option maxRecDepth 100000 in
/-- a helper of the law -/
theorem c_L_flat {l : Launch} {G : va_G} {ty : Nat → ClassId} {b0 : Nat} {H : Heap} (hfl : l.stackTraces = false) {ad : Nat → Nat} {F R nb : Nat} {pl wi hi fa : Nat → UInt64} {un bu lo la : Nat → Int32} {cx cy bx : Nat → Nat → UInt64} {nf : Nat → Nat} (hX : xCla G ty ad F R pl un cx cy bu nb wi hi nf fa lo la bx H H) (hW : xWf F R nb nf ad b0) {x k q : Int32} {o : Nat} {fo : Nat → UInt64} (ho : b0 ≤ o) (hco : xc G o (.inl (ty 0, 1, .inr (.inr (.inr (.inl fo))))) H) (hno : ∀ k : Nat, xU F R nb nf k → o ≠ ad k) : xMet l yL_flat wsL_flat rm_L_flat G ty b0 [.ref (ad 0), .int (x), .int (k), .int (q), .ref o] H (fun v H1 => (v = some (.int (nI 0)) ∧ ∃ (bv : UInt64) (H0 : Heap), (fun (v : Option Value) (H1 : Heap) => H = H1 ∧ (vp_in x (R - 1) ∧ vp_in k (2 * F) ∧ vp_in q 2) ∧ ¬ un x.toNatClampNeg = 0 ∧ v = some (.double (if q = 0 then cx x.toNatClampNeg k.toNatClampNeg else cy x.toNatClampNeg k.toNatClampNeg))) (some (.double bv)) H0 ∧ xset G o (.inl (ty 0, 1, .inr (.inr (.inr (.inl (vf_upd fo 0 bv)))))) H0 H1) ∨ (v = some (.int (nI 1)) ∧ (fun (E : String) (H1 : Heap) => (E = "java/lang/IndexOutOfBoundsException" ∧ ¬ (vp_in x (R - 1) ∧ vp_in k (2 * F) ∧ vp_in q 2) ∧ xext H H1) ∨ (E = "java/lang/IllegalStateException" ∧ (vp_in x (R - 1) ∧ vp_in k (2 * F) ∧ vp_in q 2) ∧ un x.toNatClampNeg = 0 ∧ xext H H1)) "java/lang/IndexOutOfBoundsException" H1) ∨ (v = some (.int (nI 2)) ∧ (fun (E : String) (H1 : Heap) => (E = "java/lang/IndexOutOfBoundsException" ∧ ¬ (vp_in x (R - 1) ∧ vp_in k (2 * F) ∧ vp_in q 2) ∧ xext H H1) ∨ (E = "java/lang/IllegalStateException" ∧ (vp_in x (R - 1) ∧ vp_in k (2 * F) ∧ vp_in q 2) ∧ un x.toNatClampNeg = 0 ∧ xext H H1)) "java/lang/IllegalStateException" H1)) (fun _ _ => False) := by
  refine xbodyH (hh := [(0, 11, 14, 13), (0, 11, 18, 25)]) (cc := cL_flat) (maxL := 6) (ret := (some .int)) (C := RL) (lv := [(0, .ref (ad 0)), (1, .int (x)), (2, .int (k)), (3, .int (q)), (4, .ref o)]) (by decide) rfl rfl (Nat.le_of_ble_eq_true rfl) rfl ?_
  intro p e s m below meth c d0 hx hb hr hts hown hlocks hml hxt hnm0 hK hb0 hH0 hS hd0 ls hl
  obtain ⟨⟨zF2, zF8⟩, ⟨zR2, zR8⟩⟩ := id hW.1
  have zB4 := hW.2.1
  refine lv_aload hx hb dL_flat_0 (lv_at hl 4 rfl) ?_
  refine lv_iconst (v := nI 0) hx hb dL_flat_2 (by decide) ?_
  refine lv_aload_n hx hb dL_flat_3 rfl (lv_at hl 0 rfl) ?_
  refine lv_iload_n hx hb dL_flat_4 rfl (lv_at hl 1 rfl) ?_
  refine lv_iload_n hx hb dL_flat_5 rfl (lv_at hl 2 rfl) ?_
  refine lv_iload_n hx hb dL_flat_6 rfl (lv_at hl 3 rfl) ?_
  have cw_1 := cwV (R := rm_L_flat) (rm := rm_X6_flat) 3 (hts d0) gL_flat_X6_flat rfl rfl rfl (by decide +kernel) ⟨Nat.le_of_ble_eq_true rfl, Nat.le_of_ble_eq_true rfl⟩
  refine xcall hd0 (xintoV (b := (ad 0)) (As := [.int (x), .int (k), .int (q)]) (rest := [.int (nI 0), .ref o]) ⟨hx, hb, hml, hown, hts _⟩ cw_1 (va_recv hK.1 (x1 (hX.o_)) (ci := 7) (q0 := 0) rfl rfl) rfl rfl hl.1 rfl (lv_room (Nat.le_of_ble_eq_true rfl)) dL_flat_7) (c_X6_flat (l := l) (G := G) (ty := ty) (b0 := b0) hfl hX hW) (xoweB cw_1.1) hK hb0 hS (Nat.le_of_ble_eq_true rfl) (Nat.le_of_ble_eq_true rfl) (fun E_1 ce_1 q9_1 H_1 locs_1 d0 hd0 hp_1 hS hce_1 hcv_1 hcl_1 => ?_) (fun v_1 H_1 locs_1 d0 hd0 hp_1 hS => ?_)
  · rcases (show E_1 = "java/lang/IndexOutOfBoundsException" ∨ E_1 = "java/lang/IllegalStateException" from (by rcases hp_1 with h | h; exact Or.inl h.1; exact Or.inr h.1)) with rfl | rfl
    · refine xcatch (own := RL) (hh := [(0, 11, 14, 13), (0, 11, 18, 25)]) (name := "java/lang/IndexOutOfBoundsException") hown hxt [] (⟨0, 11, 14, 13⟩ : ExceptionTableEntry) [(⟨0, 11, 18, 25⟩ : ExceptionTableEntry)] rfl (fun z hz => absurd hz List.not_mem_nil) (by decide) (by decide) (hts d0 _ hw_L_flat_1) (by decide +kernel) hK hce_1 hcv_1 hcl_1 ?_
      show W p l e _ (s.setDrawn _) m _ below meth c _ _ _ _ _ (F0 m 14 ls [.ref q9_1])
      refine lv_astore (lv' := [(5, .ref q9_1), (0, .ref (ad 0)), (1, .int (x)), (2, .int (k)), (3, .int (q)), (4, .ref o)]) hx hb dL_flat_14 hl (by decide) rfl (fun ls hl => ?_)
      refine lv_iconst (v := nI 1) hx hb dL_flat_16 (by decide) ?_
      exact xiret hd0 hx hb hr hlocks hS (Nat.le_of_ble_eq_true rfl) (Nat.le_of_ble_eq_true rfl) dL_flat_17 (Or.inr (Or.inl ⟨rfl, hp_1⟩))
    · refine xcatch (own := RL) (hh := [(0, 11, 14, 13), (0, 11, 18, 25)]) (name := "java/lang/IllegalStateException") hown hxt [(⟨0, 11, 14, 13⟩ : ExceptionTableEntry)] (⟨0, 11, 18, 25⟩ : ExceptionTableEntry) [] rfl (fun z hz => by cases List.mem_singleton.mp hz; exact ⟨by decide, _, (hts d0 _ hw_L_flat_1), by decide⟩) (by decide) (by decide) (hts d0 _ hw_L_flat_2) (by decide +kernel) hK hce_1 hcv_1 hcl_1 ?_
      show W p l e _ (s.setDrawn _) m _ below meth c _ _ _ _ _ (F0 m 18 ls [.ref q9_1])
      refine lv_astore (lv' := [(5, .ref q9_1), (0, .ref (ad 0)), (1, .int (x)), (2, .int (k)), (3, .int (q)), (4, .ref o)]) hx hb dL_flat_18 hl (by decide) rfl (fun ls hl => ?_)
      refine lv_iconst (v := nI 2) hx hb dL_flat_20 (by decide) ?_
      exact xiret hd0 hx hb hr hlocks hS (Nat.le_of_ble_eq_true rfl) (Nat.le_of_ble_eq_true rfl) dL_flat_21 (Or.inr (Or.inr ⟨rfl, hp_1⟩))
  · obtain ⟨bv, hbv_1⟩ : ∃ bv : UInt64, v_1 = some (.double bv) := ⟨_, hp_1.2.2.2⟩
    subst hbv_1
    have hk_1 : H_1[o]? = H[o]? := by rw [← hp_1.1]
    show W p l e _ (s.setDrawn _) m _ below meth c _ _ _ _ _ (F0 m 10 ls [.double bv, .int (nI 0), .ref o])
    refine xdastN (s := s.setDrawn d0) (j := 0) (x := bv) hx hb hK.1 0 (hco.kept hk_1) hS ho rfl (xix_of (by omega) (by omega)) dL_flat_10 (fun H_2 locs_2 hs_2 hS => ?_)
    have hc_2 : xc G o (.inl (ty 0, 1, .inr (.inr (.inr (.inl ((vf_upd fo 0 bv))))))) H_2 := hs_2.1
    refine lv_goto (tgt := 22) hx hb dL_flat_11 (by decide) ?_
    refine lv_iconst (v := nI 0) hx hb dL_flat_22 (by decide) ?_
    exact xiret hd0 hx hb hr hlocks hS (Nat.le_of_ble_eq_true rfl) (Nat.le_of_ble_eq_true rfl) dL_flat_23 (Or.inl ⟨rfl, bv, _, hp_1, hs_2⟩)
set_option maxRecDepth 20000 in
theorem ggL_stretch_X6_stretch : GoodIn wsL_stretch wsX6_stretch := goodIn_ca (goodIn_ca (goodIn_r _ [7, 8, 9, 10, 6, 11, 12, 13, 14, 15, 16, 17, 18, 19, 20, 21, 22, 23, 24, 25, 26, 27, 28, 29, 30, 31, 32, 33, 34, 35, 36, 37, 38, 39, 40, 41, 42, 43, 44, 45, 46, 47, 48, 49, 50, 51, 52, 53, 54, 55, 56, 57, 58, 59, 60, 61, 62, 63] (by decide +kernel) (by decide +kernel)) (goodIn_sub (fun _ h => List.mem_cons_of_mem _ (List.mem_append_left _ (List.mem_append_right _ h))) (by decide +kernel))) (goodIn_sub (fun _ h => List.mem_cons_of_mem _ (List.mem_append_right _ h)) (by decide +kernel))
set_option maxRecDepth 20000 in
theorem gL_stretch_X6_stretch : GoodIn wsL_stretch (wsV RL 31 RX6 yX6_stretch wsX6_stretch) := goodIn_app (goodIn_of _ (by decide +kernel)) ggL_stretch_X6_stretch
theorem dL_stretch_0 : decode cL_stretch 0 = .ok (.aload_n 3, 1) := by decide +kernel
theorem dL_stretch_1 : decode cL_stretch 1 = .ok (.iconst 0, 1) := by decide +kernel
theorem dL_stretch_2 : decode cL_stretch 2 = .ok (.aload_n 0, 1) := by decide +kernel
theorem dL_stretch_3 : decode cL_stretch 3 = .ok (.iload_n 1, 1) := by decide +kernel
theorem dL_stretch_4 : decode cL_stretch 4 = .ok (.iload_n 2, 1) := by decide +kernel
theorem dL_stretch_5 : decode cL_stretch 5 = .ok (.invokevirtual 31, 3) := by decide +kernel
theorem dL_stretch_8 : decode cL_stretch 8 = .ok (.dastore, 1) := by decide +kernel
theorem dL_stretch_9 : decode cL_stretch 9 = .ok (.goto 11, 3) := by decide +kernel
theorem dL_stretch_12 : decode cL_stretch 12 = .ok (.astore 4, 2) := by decide +kernel
theorem dL_stretch_14 : decode cL_stretch 14 = .ok (.iconst 1, 1) := by decide +kernel
theorem dL_stretch_15 : decode cL_stretch 15 = .ok (.ireturn, 1) := by decide +kernel
theorem dL_stretch_16 : decode cL_stretch 16 = .ok (.astore 4, 2) := by decide +kernel
theorem dL_stretch_18 : decode cL_stretch 18 = .ok (.iconst 2, 1) := by decide +kernel
theorem dL_stretch_19 : decode cL_stretch 19 = .ok (.ireturn, 1) := by decide +kernel
theorem dL_stretch_20 : decode cL_stretch 20 = .ok (.iconst 0, 1) := by decide +kernel
theorem dL_stretch_21 : decode cL_stretch 21 = .ok (.ireturn, 1) := by decide +kernel
abbrev rm_L_stretch : Room := { frames := 11, cells := 20, slots := 150, locals := 435 }
theorem hw_L_stretch_1 : (Cond.classLink RL 13 "java/lang/IndexOutOfBoundsException") ∈ wsL_stretch := List.mem_of_getElem? (i := 1) rfl
theorem hw_L_stretch_2 : (Cond.classLink RL 25 "java/lang/IllegalStateException") ∈ wsL_stretch := List.mem_of_getElem? (i := 2) rfl
set_option maxHeartbeats 4000000 in
set_option maxRecDepth 100000 in
/-- a helper of the law -/
theorem c_L_stretch {l : Launch} {G : va_G} {ty : Nat → ClassId} {b0 : Nat} {H : Heap} (hfl : l.stackTraces = false) {ad : Nat → Nat} {F R nb : Nat} {pl wi hi fa : Nat → UInt64} {un bu lo la : Nat → Int32} {cx cy bx : Nat → Nat → UInt64} {nf : Nat → Nat} (hX : xCla G ty ad F R pl un cx cy bu nb wi hi nf fa lo la bx H H) (hW : xWf F R nb nf ad b0) {x f : Int32} {o : Nat} {fo : Nat → UInt64} (ho : b0 ≤ o) (hco : xc G o (.inl (ty 0, 1, .inr (.inr (.inr (.inl fo))))) H) (hno : ∀ k : Nat, xU F R nb nf k → o ≠ ad k) : xMet l yL_stretch wsL_stretch rm_L_stretch G ty b0 [.ref (ad 0), .int (x), .int (f), .ref o] H (fun v H1 => (v = some (.int (nI 0)) ∧ ∃ (bv : UInt64) (H0 : Heap), (fun (v : Option Value) (H1 : Heap) => H = H1 ∧ (vp_in x (R - 1) ∧ vp_in f (F - 1)) ∧ ¬ un x.toNatClampNeg = 0 ∧ ∃ z9 : UInt64, v = some (.double z9) ∧ vq z9 (pOffC (cx x.toNatClampNeg) (cy x.toNatClampNeg) pl x.toNatClampNeg f.toNatClampNeg)) (some (.double bv)) H0 ∧ xset G o (.inl (ty 0, 1, .inr (.inr (.inr (.inl (vf_upd fo 0 bv)))))) H0 H1) ∨ (v = some (.int (nI 1)) ∧ (fun (E : String) (H1 : Heap) => (E = "java/lang/IndexOutOfBoundsException" ∧ ¬ (vp_in x (R - 1) ∧ vp_in f (F - 1)) ∧ xext H H1) ∨ (E = "java/lang/IllegalStateException" ∧ (vp_in x (R - 1) ∧ vp_in f (F - 1)) ∧ un x.toNatClampNeg = 0 ∧ xext H H1)) "java/lang/IndexOutOfBoundsException" H1) ∨ (v = some (.int (nI 2)) ∧ (fun (E : String) (H1 : Heap) => (E = "java/lang/IndexOutOfBoundsException" ∧ ¬ (vp_in x (R - 1) ∧ vp_in f (F - 1)) ∧ xext H H1) ∨ (E = "java/lang/IllegalStateException" ∧ (vp_in x (R - 1) ∧ vp_in f (F - 1)) ∧ un x.toNatClampNeg = 0 ∧ xext H H1)) "java/lang/IllegalStateException" H1)) (fun _ _ => False) := by
  refine xbodyH (hh := [(0, 9, 12, 13), (0, 9, 16, 25)]) (cc := cL_stretch) (maxL := 5) (ret := (some .int)) (C := RL) (lv := [(0, .ref (ad 0)), (1, .int (x)), (2, .int (f)), (3, .ref o)]) (by decide) rfl rfl (Nat.le_of_ble_eq_true rfl) rfl ?_
  intro p e s m below meth c d0 hx hb hr hts hown hlocks hml hxt hnm0 hK hb0 hH0 hS hd0 ls hl
  obtain ⟨⟨zF2, zF8⟩, ⟨zR2, zR8⟩⟩ := id hW.1
  have zB4 := hW.2.1
  refine lv_aload_n hx hb dL_stretch_0 rfl (lv_at hl 3 rfl) ?_
  refine lv_iconst (v := nI 0) hx hb dL_stretch_1 (by decide) ?_
  refine lv_aload_n hx hb dL_stretch_2 rfl (lv_at hl 0 rfl) ?_
  refine lv_iload_n hx hb dL_stretch_3 rfl (lv_at hl 1 rfl) ?_
  refine lv_iload_n hx hb dL_stretch_4 rfl (lv_at hl 2 rfl) ?_
  have cw_1 := cwV (R := rm_L_stretch) (rm := rm_X6_stretch) 2 (hts d0) gL_stretch_X6_stretch rfl rfl rfl (by decide +kernel) ⟨Nat.le_of_ble_eq_true rfl, Nat.le_of_ble_eq_true rfl⟩
  refine xcall hd0 (xintoV (b := (ad 0)) (As := [.int (x), .int (f)]) (rest := [.int (nI 0), .ref o]) ⟨hx, hb, hml, hown, hts _⟩ cw_1 (va_recv hK.1 (x1 (hX.o_)) (ci := 7) (q0 := 0) rfl rfl) rfl rfl hl.1 rfl (lv_room (Nat.le_of_ble_eq_true rfl)) dL_stretch_5) (c_X6_stretch (l := l) (G := G) (ty := ty) (b0 := b0) hfl hX hW) (xoweB cw_1.1) hK hb0 hS (Nat.le_of_ble_eq_true rfl) (Nat.le_of_ble_eq_true rfl) (fun E_1 ce_1 q9_1 H_1 locs_1 d0 hd0 hp_1 hS hce_1 hcv_1 hcl_1 => ?_) (fun v_1 H_1 locs_1 d0 hd0 hp_1 hS => ?_)
  · rcases (show E_1 = "java/lang/IndexOutOfBoundsException" ∨ E_1 = "java/lang/IllegalStateException" from (by rcases hp_1 with h | h; exact Or.inl h.1; exact Or.inr h.1)) with rfl | rfl
    · refine xcatch (own := RL) (hh := [(0, 9, 12, 13), (0, 9, 16, 25)]) (name := "java/lang/IndexOutOfBoundsException") hown hxt [] (⟨0, 9, 12, 13⟩ : ExceptionTableEntry) [(⟨0, 9, 16, 25⟩ : ExceptionTableEntry)] rfl (fun z hz => absurd hz List.not_mem_nil) (by decide) (by decide) (hts d0 _ hw_L_stretch_1) (by decide +kernel) hK hce_1 hcv_1 hcl_1 ?_
      show W p l e _ (s.setDrawn _) m _ below meth c _ _ _ _ _ (F0 m 12 ls [.ref q9_1])
      refine lv_astore (lv' := [(4, .ref q9_1), (0, .ref (ad 0)), (1, .int (x)), (2, .int (f)), (3, .ref o)]) hx hb dL_stretch_12 hl (by decide) rfl (fun ls hl => ?_)
      refine lv_iconst (v := nI 1) hx hb dL_stretch_14 (by decide) ?_
      exact xiret hd0 hx hb hr hlocks hS (Nat.le_of_ble_eq_true rfl) (Nat.le_of_ble_eq_true rfl) dL_stretch_15 (Or.inr (Or.inl ⟨rfl, hp_1⟩))
    · refine xcatch (own := RL) (hh := [(0, 9, 12, 13), (0, 9, 16, 25)]) (name := "java/lang/IllegalStateException") hown hxt [(⟨0, 9, 12, 13⟩ : ExceptionTableEntry)] (⟨0, 9, 16, 25⟩ : ExceptionTableEntry) [] rfl (fun z hz => by cases List.mem_singleton.mp hz; exact ⟨by decide, _, (hts d0 _ hw_L_stretch_1), by decide⟩) (by decide) (by decide) (hts d0 _ hw_L_stretch_2) (by decide +kernel) hK hce_1 hcv_1 hcl_1 ?_
      show W p l e _ (s.setDrawn _) m _ below meth c _ _ _ _ _ (F0 m 16 ls [.ref q9_1])
      refine lv_astore (lv' := [(4, .ref q9_1), (0, .ref (ad 0)), (1, .int (x)), (2, .int (f)), (3, .ref o)]) hx hb dL_stretch_16 hl (by decide) rfl (fun ls hl => ?_)
      refine lv_iconst (v := nI 2) hx hb dL_stretch_18 (by decide) ?_
      exact xiret hd0 hx hb hr hlocks hS (Nat.le_of_ble_eq_true rfl) (Nat.le_of_ble_eq_true rfl) dL_stretch_19 (Or.inr (Or.inr ⟨rfl, hp_1⟩))
  · obtain ⟨bv, hbv_1⟩ : ∃ bv : UInt64, v_1 = some (.double bv) := ⟨_, hp_1.2.2.2.choose_spec.1⟩
    subst hbv_1
    have hk_1 : H_1[o]? = H[o]? := by rw [← hp_1.1]
    show W p l e _ (s.setDrawn _) m _ below meth c _ _ _ _ _ (F0 m 8 ls [.double bv, .int (nI 0), .ref o])
    refine xdastN (s := s.setDrawn d0) (j := 0) (x := bv) hx hb hK.1 0 (hco.kept hk_1) hS ho rfl (xix_of (by omega) (by omega)) dL_stretch_8 (fun H_2 locs_2 hs_2 hS => ?_)
    have hc_2 : xc G o (.inl (ty 0, 1, .inr (.inr (.inr (.inl ((vf_upd fo 0 bv))))))) H_2 := hs_2.1
    refine lv_goto (tgt := 20) hx hb dL_stretch_9 (by decide) ?_
    refine lv_iconst (v := nI 0) hx hb dL_stretch_20 (by decide) ?_
    exact xiret hd0 hx hb hr hlocks hS (Nat.le_of_ble_eq_true rfl) (Nat.le_of_ble_eq_true rfl) dL_stretch_21 (Or.inl ⟨rfl, bv, _, hp_1, hs_2⟩)
set_option maxRecDepth 20000 in
theorem ggL_worst_X6_worst : GoodIn wsL_worst wsX6_worst := goodIn_ca (goodIn_ca (goodIn_r _ [7, 8, 9, 10, 11, 6, 12, 13, 14, 15, 16, 17, 18, 19, 20, 21, 22, 23, 24, 25, 26, 27, 28, 29, 30, 31, 32, 33, 34, 35, 36, 37, 38, 39, 40, 41, 42, 43, 44, 45, 46, 47, 48, 49, 50, 51, 52, 53, 54, 55, 56, 57, 58, 59, 60, 61, 62] (by decide +kernel) (by decide +kernel)) (goodIn_sub (fun _ h => List.mem_cons_of_mem _ (List.mem_append_left _ (List.mem_append_right _ h))) (by decide +kernel))) (goodIn_sub (fun _ h => List.mem_cons_of_mem _ (List.mem_append_right _ h)) (by decide +kernel))
set_option maxRecDepth 20000 in
theorem gL_worst_X6_worst : GoodIn wsL_worst (wsV RL 35 RX6 yX6_worst wsX6_worst) := goodIn_app (goodIn_of _ (by decide +kernel)) ggL_worst_X6_worst
theorem dL_worst_0 : decode cL_worst 0 = .ok (.aload_n 2, 1) := by decide +kernel
theorem dL_worst_1 : decode cL_worst 1 = .ok (.iconst 0, 1) := by decide +kernel
theorem dL_worst_2 : decode cL_worst 2 = .ok (.aload_n 0, 1) := by decide +kernel
theorem dL_worst_3 : decode cL_worst 3 = .ok (.iload_n 1, 1) := by decide +kernel
theorem dL_worst_4 : decode cL_worst 4 = .ok (.invokevirtual 35, 3) := by decide +kernel
theorem dL_worst_7 : decode cL_worst 7 = .ok (.i2l, 1) := by decide +kernel
theorem dL_worst_8 : decode cL_worst 8 = .ok (.lastore, 1) := by decide +kernel
theorem dL_worst_9 : decode cL_worst 9 = .ok (.goto 9, 3) := by decide +kernel
theorem dL_worst_12 : decode cL_worst 12 = .ok (.astore_n 3, 1) := by decide +kernel
theorem dL_worst_13 : decode cL_worst 13 = .ok (.iconst 1, 1) := by decide +kernel
theorem dL_worst_14 : decode cL_worst 14 = .ok (.ireturn, 1) := by decide +kernel
theorem dL_worst_15 : decode cL_worst 15 = .ok (.astore_n 3, 1) := by decide +kernel
theorem dL_worst_16 : decode cL_worst 16 = .ok (.iconst 2, 1) := by decide +kernel
theorem dL_worst_17 : decode cL_worst 17 = .ok (.ireturn, 1) := by decide +kernel
theorem dL_worst_18 : decode cL_worst 18 = .ok (.iconst 0, 1) := by decide +kernel
theorem dL_worst_19 : decode cL_worst 19 = .ok (.ireturn, 1) := by decide +kernel
abbrev rm_L_worst : Room := { frames := 11, cells := 20, slots := 150, locals := 435 }
theorem hw_L_worst_1 : (Cond.classLink RL 13 "java/lang/IndexOutOfBoundsException") ∈ wsL_worst := List.mem_of_getElem? (i := 1) rfl
theorem hw_L_worst_2 : (Cond.classLink RL 25 "java/lang/IllegalStateException") ∈ wsL_worst := List.mem_of_getElem? (i := 2) rfl
set_option maxHeartbeats 4000000 in
set_option maxRecDepth 100000 in
/-- a helper of the law -/
theorem c_L_worst {l : Launch} {G : va_G} {ty : Nat → ClassId} {b0 : Nat} {H : Heap} (hfl : l.stackTraces = false) {ad : Nat → Nat} {F R nb : Nat} {pl wi hi fa : Nat → UInt64} {un bu lo la : Nat → Int32} {cx cy bx : Nat → Nat → UInt64} {nf : Nat → Nat} (hX : xCla G ty ad F R pl un cx cy bu nb wi hi nf fa lo la bx H H) (hW : xWf F R nb nf ad b0) {x : Int32} {o : Nat} {fo : Nat → Int64} (ho : b0 ≤ o) (hco : xc G o (.inl (ty 3, 1, .inr (.inl fo))) H) (hno : ∀ k : Nat, xU F R nb nf k → o ≠ ad k) : xMet l yL_worst wsL_worst rm_L_worst G ty b0 [.ref (ad 0), .int (x), .ref o] H (fun v H1 => (v = some (.int (nI 0)) ∧ ∃ (bv : Int32) (H0 : Heap), (fun (v : Option Value) (H1 : Heap) => H = H1 ∧ vp_in x (R - 1) ∧ ¬ un x.toNatClampNeg = 0 ∧ v = some (.int (nI (pWoC (cx x.toNatClampNeg) (cy x.toNatClampNeg) pl x.toNatClampNeg (F - 2)).1))) (some (.int bv)) H0 ∧ xset G o (.inl (ty 3, 1, .inr (.inl (vp_updL fo 0 bv.toInt64)))) H0 H1) ∨ (v = some (.int (nI 1)) ∧ (fun (E : String) (H1 : Heap) => (E = "java/lang/IndexOutOfBoundsException" ∧ ¬ (vp_in x (R - 1)) ∧ xext H H1) ∨ (E = "java/lang/IllegalStateException" ∧ (vp_in x (R - 1)) ∧ un x.toNatClampNeg = 0 ∧ xext H H1)) "java/lang/IndexOutOfBoundsException" H1) ∨ (v = some (.int (nI 2)) ∧ (fun (E : String) (H1 : Heap) => (E = "java/lang/IndexOutOfBoundsException" ∧ ¬ (vp_in x (R - 1)) ∧ xext H H1) ∨ (E = "java/lang/IllegalStateException" ∧ (vp_in x (R - 1)) ∧ un x.toNatClampNeg = 0 ∧ xext H H1)) "java/lang/IllegalStateException" H1)) (fun _ _ => False) := by
  refine xbodyH (hh := [(0, 9, 12, 13), (0, 9, 15, 25)]) (cc := cL_worst) (maxL := 4) (ret := (some .int)) (C := RL) (lv := [(0, .ref (ad 0)), (1, .int (x)), (2, .ref o)]) (by decide) rfl rfl (Nat.le_of_ble_eq_true rfl) rfl ?_
  intro p e s m below meth c d0 hx hb hr hts hown hlocks hml hxt hnm0 hK hb0 hH0 hS hd0 ls hl
  obtain ⟨⟨zF2, zF8⟩, ⟨zR2, zR8⟩⟩ := id hW.1
  have zB4 := hW.2.1
  refine lv_aload_n hx hb dL_worst_0 rfl (lv_at hl 2 rfl) ?_
  refine lv_iconst (v := nI 0) hx hb dL_worst_1 (by decide) ?_
  refine lv_aload_n hx hb dL_worst_2 rfl (lv_at hl 0 rfl) ?_
  refine lv_iload_n hx hb dL_worst_3 rfl (lv_at hl 1 rfl) ?_
  have cw_1 := cwV (R := rm_L_worst) (rm := rm_X6_worst) 1 (hts d0) gL_worst_X6_worst rfl rfl rfl (by decide +kernel) ⟨Nat.le_of_ble_eq_true rfl, Nat.le_of_ble_eq_true rfl⟩
  refine xcall hd0 (xintoV (b := (ad 0)) (As := [.int (x)]) (rest := [.int (nI 0), .ref o]) ⟨hx, hb, hml, hown, hts _⟩ cw_1 (va_recv hK.1 (x1 (hX.o_)) (ci := 7) (q0 := 0) rfl rfl) rfl rfl hl.1 rfl (lv_room (Nat.le_of_ble_eq_true rfl)) dL_worst_4) (c_X6_worst (l := l) (G := G) (ty := ty) (b0 := b0) hfl hX hW) (xoweB cw_1.1) hK hb0 hS (Nat.le_of_ble_eq_true rfl) (Nat.le_of_ble_eq_true rfl) (fun E_1 ce_1 q9_1 H_1 locs_1 d0 hd0 hp_1 hS hce_1 hcv_1 hcl_1 => ?_) (fun v_1 H_1 locs_1 d0 hd0 hp_1 hS => ?_)
  · rcases (show E_1 = "java/lang/IndexOutOfBoundsException" ∨ E_1 = "java/lang/IllegalStateException" from (by rcases hp_1 with h | h; exact Or.inl h.1; exact Or.inr h.1)) with rfl | rfl
    · refine xcatch (own := RL) (hh := [(0, 9, 12, 13), (0, 9, 15, 25)]) (name := "java/lang/IndexOutOfBoundsException") hown hxt [] (⟨0, 9, 12, 13⟩ : ExceptionTableEntry) [(⟨0, 9, 15, 25⟩ : ExceptionTableEntry)] rfl (fun z hz => absurd hz List.not_mem_nil) (by decide) (by decide) (hts d0 _ hw_L_worst_1) (by decide +kernel) hK hce_1 hcv_1 hcl_1 ?_
      show W p l e _ (s.setDrawn _) m _ below meth c _ _ _ _ _ (F0 m 12 ls [.ref q9_1])
      refine lv_astore_n (lv' := [(3, .ref q9_1), (0, .ref (ad 0)), (1, .int (x)), (2, .ref o)]) hx hb dL_worst_12 rfl hl (by decide) rfl (fun ls hl => ?_)
      refine lv_iconst (v := nI 1) hx hb dL_worst_13 (by decide) ?_
      exact xiret hd0 hx hb hr hlocks hS (Nat.le_of_ble_eq_true rfl) (Nat.le_of_ble_eq_true rfl) dL_worst_14 (Or.inr (Or.inl ⟨rfl, hp_1⟩))
    · refine xcatch (own := RL) (hh := [(0, 9, 12, 13), (0, 9, 15, 25)]) (name := "java/lang/IllegalStateException") hown hxt [(⟨0, 9, 12, 13⟩ : ExceptionTableEntry)] (⟨0, 9, 15, 25⟩ : ExceptionTableEntry) [] rfl (fun z hz => by cases List.mem_singleton.mp hz; exact ⟨by decide, _, (hts d0 _ hw_L_worst_1), by decide⟩) (by decide) (by decide) (hts d0 _ hw_L_worst_2) (by decide +kernel) hK hce_1 hcv_1 hcl_1 ?_
      show W p l e _ (s.setDrawn _) m _ below meth c _ _ _ _ _ (F0 m 15 ls [.ref q9_1])
      refine lv_astore_n (lv' := [(3, .ref q9_1), (0, .ref (ad 0)), (1, .int (x)), (2, .ref o)]) hx hb dL_worst_15 rfl hl (by decide) rfl (fun ls hl => ?_)
      refine lv_iconst (v := nI 2) hx hb dL_worst_16 (by decide) ?_
      exact xiret hd0 hx hb hr hlocks hS (Nat.le_of_ble_eq_true rfl) (Nat.le_of_ble_eq_true rfl) dL_worst_17 (Or.inr (Or.inr ⟨rfl, hp_1⟩))
  · obtain ⟨bv, hbv_1⟩ : ∃ bv : Int32, v_1 = some (.int bv) := ⟨_, hp_1.2.2.2⟩
    subst hbv_1
    have hk_1 : H_1[o]? = H[o]? := by rw [← hp_1.1]
    show W p l e _ (s.setDrawn _) m _ below meth c _ _ _ _ _ (F0 m 7 ls [.int (bv), .int (nI 0), .ref o])
    refine lv_i2l (v := (bv).toInt64) hx hb dL_worst_7 rfl ?_
    refine xlastN (s := s.setDrawn d0) (j := 0) (x := (bv).toInt64) hx hb hK.1 3 (hco.kept hk_1) hS ho rfl (xix_of (by omega) (by omega)) dL_worst_8 (fun H_2 locs_2 hs_2 hS => ?_)
    have hc_2 : xc G o (.inl (ty 3, 1, .inr (.inl ((vp_updL fo 0 ((bv).toInt64)))))) H_2 := hs_2.1
    refine lv_goto (tgt := 18) hx hb dL_worst_9 (by decide) ?_
    refine lv_iconst (v := nI 0) hx hb dL_worst_18 (by decide) ?_
    exact xiret hd0 hx hb hr hlocks hS (Nat.le_of_ble_eq_true rfl) (Nat.le_of_ble_eq_true rfl) dL_worst_19 (Or.inl ⟨rfl, bv, _, hp_1, hs_2⟩)
set_option maxRecDepth 20000 in
theorem ggL_bevel_X6_bevel : GoodIn wsL_bevel wsX6_bevel := goodIn_ca (goodIn_r _ [6, 7, 8, 9, 10, 11, 12, 13, 14, 5, 15, 16, 17, 18, 19, 20, 21, 22, 23, 24, 25, 26, 27, 28, 29, 30, 31, 32, 33, 34, 35, 36, 37, 38, 39, 40, 41, 42, 43, 44, 45, 46, 47, 48, 49, 50, 51, 52, 53, 54, 55, 56, 57, 58, 59, 60, 61, 62, 63, 64] (by decide +kernel) (by decide +kernel)) (goodIn_sub (fun _ h => List.mem_cons_of_mem _ (List.mem_append_right _ h)) (by decide +kernel))
set_option maxRecDepth 20000 in
theorem gL_bevel_X6_bevel : GoodIn wsL_bevel (wsV RL 38 RX6 yX6_bevel wsX6_bevel) := goodIn_app (goodIn_of _ (by decide +kernel)) ggL_bevel_X6_bevel
theorem dL_bevel_0 : decode cL_bevel 0 = .ok (.aload_n 3, 1) := by decide +kernel
theorem dL_bevel_1 : decode cL_bevel 1 = .ok (.iconst 0, 1) := by decide +kernel
theorem dL_bevel_2 : decode cL_bevel 2 = .ok (.aload_n 0, 1) := by decide +kernel
theorem dL_bevel_3 : decode cL_bevel 3 = .ok (.iload_n 1, 1) := by decide +kernel
theorem dL_bevel_4 : decode cL_bevel 4 = .ok (.iload_n 2, 1) := by decide +kernel
theorem dL_bevel_5 : decode cL_bevel 5 = .ok (.invokevirtual 38, 3) := by decide +kernel
theorem dL_bevel_8 : decode cL_bevel 8 = .ok (.dastore, 1) := by decide +kernel
theorem dL_bevel_9 : decode cL_bevel 9 = .ok (.goto 7, 3) := by decide +kernel
theorem dL_bevel_12 : decode cL_bevel 12 = .ok (.astore 4, 2) := by decide +kernel
theorem dL_bevel_14 : decode cL_bevel 14 = .ok (.iconst 1, 1) := by decide +kernel
theorem dL_bevel_15 : decode cL_bevel 15 = .ok (.ireturn, 1) := by decide +kernel
theorem dL_bevel_16 : decode cL_bevel 16 = .ok (.iconst 0, 1) := by decide +kernel
theorem dL_bevel_17 : decode cL_bevel 17 = .ok (.ireturn, 1) := by decide +kernel
abbrev rm_L_bevel : Room := { frames := 11, cells := 20, slots := 150, locals := 435 }
theorem hw_L_bevel_1 : (Cond.classLink RL 13 "java/lang/IndexOutOfBoundsException") ∈ wsL_bevel := List.mem_of_getElem? (i := 1) rfl
set_option maxHeartbeats 4000000 in
set_option maxRecDepth 100000 in
/-- a helper of the law -/
theorem c_L_bevel {l : Launch} {G : va_G} {ty : Nat → ClassId} {b0 : Nat} {H : Heap} (hfl : l.stackTraces = false) {ad : Nat → Nat} {F R nb : Nat} {pl wi hi fa : Nat → UInt64} {un bu lo la : Nat → Int32} {cx cy bx : Nat → Nat → UInt64} {nf : Nat → Nat} (hX : xCla G ty ad F R pl un cx cy bu nb wi hi nf fa lo la bx H H) (hW : xWf F R nb nf ad b0) {x f : Int32} {o : Nat} {fo : Nat → UInt64} (ho : b0 ≤ o) (hco : xc G o (.inl (ty 0, 1, .inr (.inr (.inr (.inl fo))))) H) (hno : ∀ k : Nat, xU F R nb nf k → o ≠ ad k) : xMet l yL_bevel wsL_bevel rm_L_bevel G ty b0 [.ref (ad 0), .int (x), .int (f), .ref o] H (fun v H1 => (v = some (.int (nI 0)) ∧ ∃ (bv : UInt64) (H0 : Heap), (fun (v : Option Value) (H1 : Heap) => (vp_in x (R - 1) ∧ vp_in f (F - 1)) ∧ xCla G ty ad F R pl un cx cy bu nb wi hi nf fa lo la bx H H1 ∧ ∃ z9 : UInt64, v = some (.double z9) ∧ vq z9 (pBevelC pl x.toNatClampNeg f.toNatClampNeg)) (some (.double bv)) H0 ∧ xset G o (.inl (ty 0, 1, .inr (.inr (.inr (.inl (vf_upd fo 0 bv)))))) H0 H1) ∨ (v = some (.int (nI 1)) ∧ (fun (E : String) (H1 : Heap) => E = "java/lang/IndexOutOfBoundsException" ∧ ¬ (vp_in x (R - 1) ∧ vp_in f (F - 1)) ∧ xext H H1) "java/lang/IndexOutOfBoundsException" H1)) (fun _ _ => False) := by
  refine xbodyH (hh := [(0, 9, 12, 13)]) (cc := cL_bevel) (maxL := 5) (ret := (some .int)) (C := RL) (lv := [(0, .ref (ad 0)), (1, .int (x)), (2, .int (f)), (3, .ref o)]) (by decide) rfl rfl (Nat.le_of_ble_eq_true rfl) rfl ?_
  intro p e s m below meth c d0 hx hb hr hts hown hlocks hml hxt hnm0 hK hb0 hH0 hS hd0 ls hl
  obtain ⟨⟨zF2, zF8⟩, ⟨zR2, zR8⟩⟩ := id hW.1
  have zB4 := hW.2.1
  refine lv_aload_n hx hb dL_bevel_0 rfl (lv_at hl 3 rfl) ?_
  refine lv_iconst (v := nI 0) hx hb dL_bevel_1 (by decide) ?_
  refine lv_aload_n hx hb dL_bevel_2 rfl (lv_at hl 0 rfl) ?_
  refine lv_iload_n hx hb dL_bevel_3 rfl (lv_at hl 1 rfl) ?_
  refine lv_iload_n hx hb dL_bevel_4 rfl (lv_at hl 2 rfl) ?_
  have cw_1 := cwV (R := rm_L_bevel) (rm := rm_X6_bevel) 2 (hts d0) gL_bevel_X6_bevel rfl rfl rfl (by decide +kernel) ⟨Nat.le_of_ble_eq_true rfl, Nat.le_of_ble_eq_true rfl⟩
  refine xcall hd0 (xintoV (b := (ad 0)) (As := [.int (x), .int (f)]) (rest := [.int (nI 0), .ref o]) ⟨hx, hb, hml, hown, hts _⟩ cw_1 (va_recv hK.1 (x1 (hX.o_)) (ci := 7) (q0 := 0) rfl rfl) rfl rfl hl.1 rfl (lv_room (Nat.le_of_ble_eq_true rfl)) dL_bevel_5) (c_X6_bevel (l := l) (G := G) (ty := ty) (b0 := b0) hfl hX hW) (xoweB cw_1.1) hK hb0 hS (Nat.le_of_ble_eq_true rfl) (Nat.le_of_ble_eq_true rfl) (fun E_1 ce_1 q9_1 H_1 locs_1 d0 hd0 hp_1 hS hce_1 hcv_1 hcl_1 => ?_) (fun v_1 H_1 locs_1 d0 hd0 hp_1 hS => ?_)
  · have hE_1 := hp_1.1
    subst hE_1
    refine xcatch (own := RL) (hh := [(0, 9, 12, 13)]) (name := "java/lang/IndexOutOfBoundsException") hown hxt [] (⟨0, 9, 12, 13⟩ : ExceptionTableEntry) [] rfl (fun z hz => absurd hz List.not_mem_nil) (by decide) (by decide) (hts d0 _ hw_L_bevel_1) (by decide +kernel) hK hce_1 hcv_1 hcl_1 ?_
    show W p l e _ (s.setDrawn _) m _ below meth c _ _ _ _ _ (F0 m 12 ls [.ref q9_1])
    refine lv_astore (lv' := [(4, .ref q9_1), (0, .ref (ad 0)), (1, .int (x)), (2, .int (f)), (3, .ref o)]) hx hb dL_bevel_12 hl (by decide) rfl (fun ls hl => ?_)
    refine lv_iconst (v := nI 1) hx hb dL_bevel_14 (by decide) ?_
    exact xiret hd0 hx hb hr hlocks hS (Nat.le_of_ble_eq_true rfl) (Nat.le_of_ble_eq_true rfl) dL_bevel_15 (Or.inr ⟨rfl, hp_1⟩)
  · obtain ⟨bv, hbv_1⟩ : ∃ bv : UInt64, v_1 = some (.double bv) := ⟨_, hp_1.2.2.choose_spec.1⟩
    subst hbv_1
    have hk_1 : H_1[o]? = H[o]? := hp_1.2.1.fr_ o hco.lt hno
    show W p l e _ (s.setDrawn _) m _ below meth c _ _ _ _ _ (F0 m 8 ls [.double bv, .int (nI 0), .ref o])
    refine xdastN (s := s.setDrawn d0) (j := 0) (x := bv) hx hb hK.1 0 (hco.kept hk_1) hS ho rfl (xix_of (by omega) (by omega)) dL_bevel_8 (fun H_2 locs_2 hs_2 hS => ?_)
    have hc_2 : xc G o (.inl (ty 0, 1, .inr (.inr (.inr (.inl ((vf_upd fo 0 bv))))))) H_2 := hs_2.1
    refine lv_goto (tgt := 16) hx hb dL_bevel_9 (by decide) ?_
    refine lv_iconst (v := nI 0) hx hb dL_bevel_16 (by decide) ?_
    exact xiret hd0 hx hb hr hlocks hS (Nat.le_of_ble_eq_true rfl) (Nat.le_of_ble_eq_true rfl) dL_bevel_17 (Or.inl ⟨rfl, bv, _, hp_1, hs_2⟩)
set_option maxRecDepth 20000 in
theorem ggL_width_X6_width : GoodIn wsL_width wsX6_width := goodIn_ca (goodIn_r _ [6, 7, 8, 9, 5, 10, 11, 12, 13, 14, 15, 16, 17, 18, 19, 20, 21, 22, 23, 24, 25, 26, 27, 28, 29, 30, 31, 32, 33, 34, 35, 36, 37, 38, 39, 40, 41, 42, 43, 44, 45, 46, 47, 48, 49, 50, 51, 52, 53, 54] (by decide +kernel) (by decide +kernel)) (goodIn_sub (fun _ h => List.mem_cons_of_mem _ (List.mem_append_right _ h)) (by decide +kernel))
set_option maxRecDepth 20000 in
theorem gL_width_X6_width : GoodIn wsL_width (wsV RL 41 RX6 yX6_width wsX6_width) := goodIn_app (goodIn_of _ (by decide +kernel)) ggL_width_X6_width
theorem dL_width_0 : decode cL_width 0 = .ok (.aload_n 3, 1) := by decide +kernel
theorem dL_width_1 : decode cL_width 1 = .ok (.iconst 0, 1) := by decide +kernel
theorem dL_width_2 : decode cL_width 2 = .ok (.aload_n 0, 1) := by decide +kernel
theorem dL_width_3 : decode cL_width 3 = .ok (.iload_n 1, 1) := by decide +kernel
theorem dL_width_4 : decode cL_width 4 = .ok (.iload_n 2, 1) := by decide +kernel
theorem dL_width_5 : decode cL_width 5 = .ok (.invokevirtual 41, 3) := by decide +kernel
theorem dL_width_8 : decode cL_width 8 = .ok (.dastore, 1) := by decide +kernel
theorem dL_width_9 : decode cL_width 9 = .ok (.goto 7, 3) := by decide +kernel
theorem dL_width_12 : decode cL_width 12 = .ok (.astore 4, 2) := by decide +kernel
theorem dL_width_14 : decode cL_width 14 = .ok (.iconst 1, 1) := by decide +kernel
theorem dL_width_15 : decode cL_width 15 = .ok (.ireturn, 1) := by decide +kernel
theorem dL_width_16 : decode cL_width 16 = .ok (.iconst 0, 1) := by decide +kernel
theorem dL_width_17 : decode cL_width 17 = .ok (.ireturn, 1) := by decide +kernel
abbrev rm_L_width : Room := { frames := 11, cells := 20, slots := 150, locals := 435 }
theorem hw_L_width_1 : (Cond.classLink RL 13 "java/lang/IndexOutOfBoundsException") ∈ wsL_width := List.mem_of_getElem? (i := 1) rfl
set_option maxHeartbeats 4000000 in
set_option maxRecDepth 100000 in
/-- a helper of the law -/
theorem c_L_width {l : Launch} {G : va_G} {ty : Nat → ClassId} {b0 : Nat} {H : Heap} (hfl : l.stackTraces = false) {ad : Nat → Nat} {F R nb : Nat} {pl wi hi fa : Nat → UInt64} {un bu lo la : Nat → Int32} {cx cy bx : Nat → Nat → UInt64} {nf : Nat → Nat} (hX : xCla G ty ad F R pl un cx cy bu nb wi hi nf fa lo la bx H H) (hW : xWf F R nb nf ad b0) {x f : Int32} {o : Nat} {fo : Nat → UInt64} (ho : b0 ≤ o) (hco : xc G o (.inl (ty 0, 1, .inr (.inr (.inr (.inl fo))))) H) (hno : ∀ k : Nat, xU F R nb nf k → o ≠ ad k) : xMet l yL_width wsL_width rm_L_width G ty b0 [.ref (ad 0), .int (x), .int (f), .ref o] H (fun v H1 => (v = some (.int (nI 0)) ∧ ∃ (bv : UInt64) (H0 : Heap), (fun (v : Option Value) (H1 : Heap) => H = H1 ∧ (vp_in x (R - 1) ∧ vp_in f F) ∧ ∃ z9 : UInt64, v = some (.double z9) ∧ vq z9 (pFar pl f.toNatClampNeg x.toNatClampNeg f.toNatClampNeg (x.toNatClampNeg + 1))) (some (.double bv)) H0 ∧ xset G o (.inl (ty 0, 1, .inr (.inr (.inr (.inl (vf_upd fo 0 bv)))))) H0 H1) ∨ (v = some (.int (nI 1)) ∧ (fun (E : String) (H1 : Heap) => E = "java/lang/IndexOutOfBoundsException" ∧ ¬ (vp_in x (R - 1) ∧ vp_in f F) ∧ xext H H1) "java/lang/IndexOutOfBoundsException" H1)) (fun _ _ => False) := by
  refine xbodyH (hh := [(0, 9, 12, 13)]) (cc := cL_width) (maxL := 5) (ret := (some .int)) (C := RL) (lv := [(0, .ref (ad 0)), (1, .int (x)), (2, .int (f)), (3, .ref o)]) (by decide) rfl rfl (Nat.le_of_ble_eq_true rfl) rfl ?_
  intro p e s m below meth c d0 hx hb hr hts hown hlocks hml hxt hnm0 hK hb0 hH0 hS hd0 ls hl
  obtain ⟨⟨zF2, zF8⟩, ⟨zR2, zR8⟩⟩ := id hW.1
  have zB4 := hW.2.1
  refine lv_aload_n hx hb dL_width_0 rfl (lv_at hl 3 rfl) ?_
  refine lv_iconst (v := nI 0) hx hb dL_width_1 (by decide) ?_
  refine lv_aload_n hx hb dL_width_2 rfl (lv_at hl 0 rfl) ?_
  refine lv_iload_n hx hb dL_width_3 rfl (lv_at hl 1 rfl) ?_
  refine lv_iload_n hx hb dL_width_4 rfl (lv_at hl 2 rfl) ?_
  have cw_1 := cwV (R := rm_L_width) (rm := rm_X6_width) 2 (hts d0) gL_width_X6_width rfl rfl rfl (by decide +kernel) ⟨Nat.le_of_ble_eq_true rfl, Nat.le_of_ble_eq_true rfl⟩
  refine xcall hd0 (xintoV (b := (ad 0)) (As := [.int (x), .int (f)]) (rest := [.int (nI 0), .ref o]) ⟨hx, hb, hml, hown, hts _⟩ cw_1 (va_recv hK.1 (x1 (hX.o_)) (ci := 7) (q0 := 0) rfl rfl) rfl rfl hl.1 rfl (lv_room (Nat.le_of_ble_eq_true rfl)) dL_width_5) (c_X6_width (l := l) (G := G) (ty := ty) (b0 := b0) hfl hX hW) (xoweB cw_1.1) hK hb0 hS (Nat.le_of_ble_eq_true rfl) (Nat.le_of_ble_eq_true rfl) (fun E_1 ce_1 q9_1 H_1 locs_1 d0 hd0 hp_1 hS hce_1 hcv_1 hcl_1 => ?_) (fun v_1 H_1 locs_1 d0 hd0 hp_1 hS => ?_)
  · have hE_1 := hp_1.1
    subst hE_1
    refine xcatch (own := RL) (hh := [(0, 9, 12, 13)]) (name := "java/lang/IndexOutOfBoundsException") hown hxt [] (⟨0, 9, 12, 13⟩ : ExceptionTableEntry) [] rfl (fun z hz => absurd hz List.not_mem_nil) (by decide) (by decide) (hts d0 _ hw_L_width_1) (by decide +kernel) hK hce_1 hcv_1 hcl_1 ?_
    show W p l e _ (s.setDrawn _) m _ below meth c _ _ _ _ _ (F0 m 12 ls [.ref q9_1])
    refine lv_astore (lv' := [(4, .ref q9_1), (0, .ref (ad 0)), (1, .int (x)), (2, .int (f)), (3, .ref o)]) hx hb dL_width_12 hl (by decide) rfl (fun ls hl => ?_)
    refine lv_iconst (v := nI 1) hx hb dL_width_14 (by decide) ?_
    exact xiret hd0 hx hb hr hlocks hS (Nat.le_of_ble_eq_true rfl) (Nat.le_of_ble_eq_true rfl) dL_width_15 (Or.inr ⟨rfl, hp_1⟩)
  · obtain ⟨bv, hbv_1⟩ : ∃ bv : UInt64, v_1 = some (.double bv) := ⟨_, hp_1.2.2.choose_spec.1⟩
    subst hbv_1
    have hk_1 : H_1[o]? = H[o]? := by rw [← hp_1.1]
    show W p l e _ (s.setDrawn _) m _ below meth c _ _ _ _ _ (F0 m 8 ls [.double bv, .int (nI 0), .ref o])
    refine xdastN (s := s.setDrawn d0) (j := 0) (x := bv) hx hb hK.1 0 (hco.kept hk_1) hS ho rfl (xix_of (by omega) (by omega)) dL_width_8 (fun H_2 locs_2 hs_2 hS => ?_)
    have hc_2 : xc G o (.inl (ty 0, 1, .inr (.inr (.inr (.inl ((vf_upd fo 0 bv))))))) H_2 := hs_2.1
    refine lv_goto (tgt := 16) hx hb dL_width_9 (by decide) ?_
    refine lv_iconst (v := nI 0) hx hb dL_width_16 (by decide) ?_
    exact xiret hd0 hx hb hr hlocks hS (Nat.le_of_ble_eq_true rfl) (Nat.le_of_ble_eq_true rfl) dL_width_17 (Or.inl ⟨rfl, bv, _, hp_1, hs_2⟩)
set_option maxRecDepth 20000 in
theorem ggL_girth_X6_girth : GoodIn wsL_girth wsX6_girth := goodIn_ca (goodIn_r _ [6, 7, 8, 9, 10, 5, 11, 12, 13, 14, 15, 16, 17, 18, 19, 20, 21, 22, 23, 24, 25, 26, 27, 28, 29, 30, 31, 32, 33, 34, 35, 36, 37, 38, 39, 40, 41, 42, 43, 44, 45, 46, 47, 48, 49, 50] (by decide +kernel) (by decide +kernel)) (goodIn_sub (fun _ h => List.mem_cons_of_mem _ (List.mem_append_right _ h)) (by decide +kernel))
set_option maxRecDepth 20000 in
theorem gL_girth_X6_girth : GoodIn wsL_girth (wsV RL 44 RX6 yX6_girth wsX6_girth) := goodIn_app (goodIn_of _ (by decide +kernel)) ggL_girth_X6_girth
theorem dL_girth_0 : decode cL_girth 0 = .ok (.aload_n 2, 1) := by decide +kernel
theorem dL_girth_1 : decode cL_girth 1 = .ok (.iconst 0, 1) := by decide +kernel
theorem dL_girth_2 : decode cL_girth 2 = .ok (.aload_n 0, 1) := by decide +kernel
theorem dL_girth_3 : decode cL_girth 3 = .ok (.iload_n 1, 1) := by decide +kernel
theorem dL_girth_4 : decode cL_girth 4 = .ok (.invokevirtual 44, 3) := by decide +kernel
theorem dL_girth_7 : decode cL_girth 7 = .ok (.dastore, 1) := by decide +kernel
theorem dL_girth_8 : decode cL_girth 8 = .ok (.goto 6, 3) := by decide +kernel
theorem dL_girth_11 : decode cL_girth 11 = .ok (.astore_n 3, 1) := by decide +kernel
theorem dL_girth_12 : decode cL_girth 12 = .ok (.iconst 1, 1) := by decide +kernel
theorem dL_girth_13 : decode cL_girth 13 = .ok (.ireturn, 1) := by decide +kernel
theorem dL_girth_14 : decode cL_girth 14 = .ok (.iconst 0, 1) := by decide +kernel
theorem dL_girth_15 : decode cL_girth 15 = .ok (.ireturn, 1) := by decide +kernel
abbrev rm_L_girth : Room := { frames := 11, cells := 20, slots := 150, locals := 435 }
theorem hw_L_girth_1 : (Cond.classLink RL 13 "java/lang/IndexOutOfBoundsException") ∈ wsL_girth := List.mem_of_getElem? (i := 1) rfl
set_option maxHeartbeats 4000000 in
set_option maxRecDepth 100000 in
/-- a helper of the law -/
theorem c_L_girth {l : Launch} {G : va_G} {ty : Nat → ClassId} {b0 : Nat} {H : Heap} (hfl : l.stackTraces = false) {ad : Nat → Nat} {F R nb : Nat} {pl wi hi fa : Nat → UInt64} {un bu lo la : Nat → Int32} {cx cy bx : Nat → Nat → UInt64} {nf : Nat → Nat} (hX : xCla G ty ad F R pl un cx cy bu nb wi hi nf fa lo la bx H H) (hW : xWf F R nb nf ad b0) {f : Int32} {o : Nat} {fo : Nat → UInt64} (ho : b0 ≤ o) (hco : xc G o (.inl (ty 0, 1, .inr (.inr (.inr (.inl fo))))) H) (hno : ∀ k : Nat, xU F R nb nf k → o ≠ ad k) : xMet l yL_girth wsL_girth rm_L_girth G ty b0 [.ref (ad 0), .int (f), .ref o] H (fun v H1 => (v = some (.int (nI 0)) ∧ ∃ (bv : UInt64) (H0 : Heap), (fun (v : Option Value) (H1 : Heap) => H = H1 ∧ (vp_in f F) ∧ ∃ z9 : UInt64, v = some (.double z9) ∧ vq z9 (pGir pl f.toNatClampNeg (R - 1))) (some (.double bv)) H0 ∧ xset G o (.inl (ty 0, 1, .inr (.inr (.inr (.inl (vf_upd fo 0 bv)))))) H0 H1) ∨ (v = some (.int (nI 1)) ∧ (fun (E : String) (H1 : Heap) => E = "java/lang/IndexOutOfBoundsException" ∧ ¬ (vp_in f F) ∧ xext H H1) "java/lang/IndexOutOfBoundsException" H1)) (fun _ _ => False) := by
  refine xbodyH (hh := [(0, 8, 11, 13)]) (cc := cL_girth) (maxL := 4) (ret := (some .int)) (C := RL) (lv := [(0, .ref (ad 0)), (1, .int (f)), (2, .ref o)]) (by decide) rfl rfl (Nat.le_of_ble_eq_true rfl) rfl ?_
  intro p e s m below meth c d0 hx hb hr hts hown hlocks hml hxt hnm0 hK hb0 hH0 hS hd0 ls hl
  obtain ⟨⟨zF2, zF8⟩, ⟨zR2, zR8⟩⟩ := id hW.1
  have zB4 := hW.2.1
  refine lv_aload_n hx hb dL_girth_0 rfl (lv_at hl 2 rfl) ?_
  refine lv_iconst (v := nI 0) hx hb dL_girth_1 (by decide) ?_
  refine lv_aload_n hx hb dL_girth_2 rfl (lv_at hl 0 rfl) ?_
  refine lv_iload_n hx hb dL_girth_3 rfl (lv_at hl 1 rfl) ?_
  have cw_1 := cwV (R := rm_L_girth) (rm := rm_X6_girth) 1 (hts d0) gL_girth_X6_girth rfl rfl rfl (by decide +kernel) ⟨Nat.le_of_ble_eq_true rfl, Nat.le_of_ble_eq_true rfl⟩
  refine xcall hd0 (xintoV (b := (ad 0)) (As := [.int (f)]) (rest := [.int (nI 0), .ref o]) ⟨hx, hb, hml, hown, hts _⟩ cw_1 (va_recv hK.1 (x1 (hX.o_)) (ci := 7) (q0 := 0) rfl rfl) rfl rfl hl.1 rfl (lv_room (Nat.le_of_ble_eq_true rfl)) dL_girth_4) (c_X6_girth (l := l) (G := G) (ty := ty) (b0 := b0) hfl hX hW) (xoweB cw_1.1) hK hb0 hS (Nat.le_of_ble_eq_true rfl) (Nat.le_of_ble_eq_true rfl) (fun E_1 ce_1 q9_1 H_1 locs_1 d0 hd0 hp_1 hS hce_1 hcv_1 hcl_1 => ?_) (fun v_1 H_1 locs_1 d0 hd0 hp_1 hS => ?_)
  · have hE_1 := hp_1.1
    subst hE_1
    refine xcatch (own := RL) (hh := [(0, 8, 11, 13)]) (name := "java/lang/IndexOutOfBoundsException") hown hxt [] (⟨0, 8, 11, 13⟩ : ExceptionTableEntry) [] rfl (fun z hz => absurd hz List.not_mem_nil) (by decide) (by decide) (hts d0 _ hw_L_girth_1) (by decide +kernel) hK hce_1 hcv_1 hcl_1 ?_
    show W p l e _ (s.setDrawn _) m _ below meth c _ _ _ _ _ (F0 m 11 ls [.ref q9_1])
    refine lv_astore_n (lv' := [(3, .ref q9_1), (0, .ref (ad 0)), (1, .int (f)), (2, .ref o)]) hx hb dL_girth_11 rfl hl (by decide) rfl (fun ls hl => ?_)
    refine lv_iconst (v := nI 1) hx hb dL_girth_12 (by decide) ?_
    exact xiret hd0 hx hb hr hlocks hS (Nat.le_of_ble_eq_true rfl) (Nat.le_of_ble_eq_true rfl) dL_girth_13 (Or.inr ⟨rfl, hp_1⟩)
  · obtain ⟨bv, hbv_1⟩ : ∃ bv : UInt64, v_1 = some (.double bv) := ⟨_, hp_1.2.2.choose_spec.1⟩
    subst hbv_1
    have hk_1 : H_1[o]? = H[o]? := by rw [← hp_1.1]
    show W p l e _ (s.setDrawn _) m _ below meth c _ _ _ _ _ (F0 m 7 ls [.double bv, .int (nI 0), .ref o])
    refine xdastN (s := s.setDrawn d0) (j := 0) (x := bv) hx hb hK.1 0 (hco.kept hk_1) hS ho rfl (xix_of (by omega) (by omega)) dL_girth_7 (fun H_2 locs_2 hs_2 hS => ?_)
    have hc_2 : xc G o (.inl (ty 0, 1, .inr (.inr (.inr (.inl ((vf_upd fo 0 bv))))))) H_2 := hs_2.1
    refine lv_goto (tgt := 14) hx hb dL_girth_8 (by decide) ?_
    refine lv_iconst (v := nI 0) hx hb dL_girth_14 (by decide) ?_
    exact xiret hd0 hx hb hr hlocks hS (Nat.le_of_ble_eq_true rfl) (Nat.le_of_ble_eq_true rfl) dL_girth_15 (Or.inl ⟨rfl, bv, _, hp_1, hs_2⟩)
set_option maxRecDepth 20000 in
theorem ggL_butt_X6_butt : GoodIn wsL_butt wsX6_butt := goodIn_ca (goodIn_r _ [6, 7, 8, 9, 10, 5, 11, 12, 13, 14, 15, 16, 17, 18, 19, 20, 21, 22, 23, 24, 25, 26, 27, 28, 29, 30, 31, 32, 33, 34] (by decide +kernel) (by decide +kernel)) (goodIn_sub (fun _ h => List.mem_cons_of_mem _ (List.mem_append_right _ h)) (by decide +kernel))
set_option maxRecDepth 20000 in
theorem gL_butt_X6_butt : GoodIn wsL_butt (wsV RL 48 RX6 yX6_butt wsX6_butt) := goodIn_app (goodIn_of _ (by decide +kernel)) ggL_butt_X6_butt
theorem dL_butt_0 : decode cL_butt 0 = .ok (.aload 4, 2) := by decide +kernel
theorem dL_butt_2 : decode cL_butt 2 = .ok (.iconst 0, 1) := by decide +kernel
theorem dL_butt_3 : decode cL_butt 3 = .ok (.aload_n 0, 1) := by decide +kernel
theorem dL_butt_4 : decode cL_butt 4 = .ok (.iload_n 1, 1) := by decide +kernel
theorem dL_butt_5 : decode cL_butt 5 = .ok (.iload_n 2, 1) := by decide +kernel
theorem dL_butt_6 : decode cL_butt 6 = .ok (.iload_n 3, 1) := by decide +kernel
theorem dL_butt_7 : decode cL_butt 7 = .ok (.invokevirtual 48, 3) := by decide +kernel
theorem dL_butt_10 : decode cL_butt 10 = .ok (.ifCond .eq 7, 3) := by decide +kernel
theorem dL_butt_13 : decode cL_butt 13 = .ok (.lconst 1, 1) := by decide +kernel
theorem dL_butt_14 : decode cL_butt 14 = .ok (.goto 4, 3) := by decide +kernel
theorem dL_butt_17 : decode cL_butt 17 = .ok (.lconst 0, 1) := by decide +kernel
theorem dL_butt_18 : decode cL_butt 18 = .ok (.lastore, 1) := by decide +kernel
theorem dL_butt_19 : decode cL_butt 19 = .ok (.goto 7, 3) := by decide +kernel
theorem dL_butt_22 : decode cL_butt 22 = .ok (.astore 5, 2) := by decide +kernel
theorem dL_butt_24 : decode cL_butt 24 = .ok (.iconst 1, 1) := by decide +kernel
theorem dL_butt_25 : decode cL_butt 25 = .ok (.ireturn, 1) := by decide +kernel
theorem dL_butt_26 : decode cL_butt 26 = .ok (.iconst 0, 1) := by decide +kernel
theorem dL_butt_27 : decode cL_butt 27 = .ok (.ireturn, 1) := by decide +kernel
abbrev rm_L_butt : Room := { frames := 11, cells := 20, slots := 150, locals := 435 }
theorem hw_L_butt_1 : (Cond.classLink RL 13 "java/lang/IndexOutOfBoundsException") ∈ wsL_butt := List.mem_of_getElem? (i := 1) rfl
set_option maxHeartbeats 4000000 in
set_option maxRecDepth 100000 in
/-- a helper of the law -/
theorem c_L_butt {l : Launch} {G : va_G} {ty : Nat → ClassId} {b0 : Nat} {H : Heap} (hfl : l.stackTraces = false) {ad : Nat → Nat} {F R nb : Nat} {pl wi hi fa : Nat → UInt64} {un bu lo la : Nat → Int32} {cx cy bx : Nat → Nat → UInt64} {nf : Nat → Nat} (hX : xCla G ty ad F R pl un cx cy bu nb wi hi nf fa lo la bx H H) (hW : xWf F R nb nf ad b0) {x f on : Int32} (hon : on = 0 ∨ on = 1) {o : Nat} {fo : Nat → Int64} (ho : b0 ≤ o) (hco : xc G o (.inl (ty 3, 1, .inr (.inl fo))) H) (hno : ∀ k : Nat, xU F R nb nf k → o ≠ ad k) : xMet l yL_butt wsL_butt rm_L_butt G ty b0 [.ref (ad 0), .int (x), .int (f), .int (on), .ref o] H (fun v H1 => (v = some (.int (nI 0)) ∧ ∃ (bv : Int32) (H0 : Heap), (fun (v : Option Value) (H1 : Heap) => (vp_in x (R - 1) ∧ vp_in f F) ∧ v = some (.int (xP (¬ bu (8 * x.toNatClampNeg + f.toNatClampNeg) = on))) ∧ xCla G ty ad F R pl un cx cy (upd bu (8 * x.toNatClampNeg + f.toNatClampNeg) on) nb wi hi nf fa lo la bx H H1) (some (.int bv)) H0 ∧ xset G o (.inl (ty 3, 1, .inr (.inl (vp_updL fo 0 (if bv = 0 then (0 : Int64) else 1))))) H0 H1) ∨ (v = some (.int (nI 1)) ∧ (fun (E : String) (H1 : Heap) => E = "java/lang/IndexOutOfBoundsException" ∧ ¬ (vp_in x (R - 1) ∧ vp_in f F) ∧ xext H H1) "java/lang/IndexOutOfBoundsException" H1)) (fun _ _ => False) := by
  refine xbodyH (hh := [(0, 19, 22, 13)]) (cc := cL_butt) (maxL := 6) (ret := (some .int)) (C := RL) (lv := [(0, .ref (ad 0)), (1, .int (x)), (2, .int (f)), (3, .int (on)), (4, .ref o)]) (by decide) rfl rfl (Nat.le_of_ble_eq_true rfl) rfl ?_
  intro p e s m below meth c d0 hx hb hr hts hown hlocks hml hxt hnm0 hK hb0 hH0 hS hd0 ls hl
  obtain ⟨⟨zF2, zF8⟩, ⟨zR2, zR8⟩⟩ := id hW.1
  have zB4 := hW.2.1
  refine lv_aload hx hb dL_butt_0 (lv_at hl 4 rfl) ?_
  refine lv_iconst (v := nI 0) hx hb dL_butt_2 (by decide) ?_
  refine lv_aload_n hx hb dL_butt_3 rfl (lv_at hl 0 rfl) ?_
  refine lv_iload_n hx hb dL_butt_4 rfl (lv_at hl 1 rfl) ?_
  refine lv_iload_n hx hb dL_butt_5 rfl (lv_at hl 2 rfl) ?_
  refine lv_iload_n hx hb dL_butt_6 rfl (lv_at hl 3 rfl) ?_
  have cw_1 := cwV (R := rm_L_butt) (rm := rm_X6_butt) 3 (hts d0) gL_butt_X6_butt rfl rfl rfl (by decide +kernel) ⟨Nat.le_of_ble_eq_true rfl, Nat.le_of_ble_eq_true rfl⟩
  refine xcall hd0 (xintoV (b := (ad 0)) (As := [.int (x), .int (f), .int (on)]) (rest := [.int (nI 0), .ref o]) ⟨hx, hb, hml, hown, hts _⟩ cw_1 (va_recv hK.1 (x1 (hX.o_)) (ci := 7) (q0 := 0) rfl rfl) rfl rfl hl.1 rfl (lv_room (Nat.le_of_ble_eq_true rfl)) dL_butt_7) (c_X6_butt (l := l) (G := G) (ty := ty) (b0 := b0) hfl hX hW hon) (xoweB cw_1.1) hK hb0 hS (Nat.le_of_ble_eq_true rfl) (Nat.le_of_ble_eq_true rfl) (fun E_1 ce_1 q9_1 H_1 locs_1 d0 hd0 hp_1 hS hce_1 hcv_1 hcl_1 => ?_) (fun v_1 H_1 locs_1 d0 hd0 hp_1 hS => ?_)
  · have hE_1 := hp_1.1
    subst hE_1
    refine xcatch (own := RL) (hh := [(0, 19, 22, 13)]) (name := "java/lang/IndexOutOfBoundsException") hown hxt [] (⟨0, 19, 22, 13⟩ : ExceptionTableEntry) [] rfl (fun z hz => absurd hz List.not_mem_nil) (by decide) (by decide) (hts d0 _ hw_L_butt_1) (by decide +kernel) hK hce_1 hcv_1 hcl_1 ?_
    show W p l e _ (s.setDrawn _) m _ below meth c _ _ _ _ _ (F0 m 22 ls [.ref q9_1])
    refine lv_astore (lv' := [(5, .ref q9_1), (0, .ref (ad 0)), (1, .int (x)), (2, .int (f)), (3, .int (on)), (4, .ref o)]) hx hb dL_butt_22 hl (by decide) rfl (fun ls hl => ?_)
    refine lv_iconst (v := nI 1) hx hb dL_butt_24 (by decide) ?_
    exact xiret hd0 hx hb hr hlocks hS (Nat.le_of_ble_eq_true rfl) (Nat.le_of_ble_eq_true rfl) dL_butt_25 (Or.inr ⟨rfl, hp_1⟩)
  · obtain ⟨bv, hbv_1⟩ : ∃ bv : Int32, v_1 = some (.int bv) := ⟨_, hp_1.2.1⟩
    subst hbv_1
    have hk_1 : H_1[o]? = H[o]? := hp_1.2.2.fr_ o hco.lt hno
    show W p l e _ (s.setDrawn _) m _ below meth c _ _ _ _ _ (F0 m 10 ls [.int (bv), .int (nI 0), .ref o])
    refine lv_if_eq (tgt := 17) hx hb dL_butt_10 (by decide) (fun c_2 => ?_) (fun c_2 => ?_)
    · refine lv_lconst (v := 0) hx hb dL_butt_17 (by decide) ?_
      refine xlastN (s := s.setDrawn d0) (j := 0) (x := 0) hx hb hK.1 3 (hco.kept hk_1) hS ho rfl (xix_of (by omega) (by omega)) dL_butt_18 (fun H_3 locs_3 hs_3 hS => ?_)
      have hc_3 : xc G o (.inl (ty 3, 1, .inr (.inl ((vp_updL fo 0 0))))) H_3 := hs_3.1
      refine lv_goto (tgt := 26) hx hb dL_butt_19 (by decide) ?_
      refine lv_iconst (v := nI 0) hx hb dL_butt_26 (by decide) ?_
      exact xiret hd0 hx hb hr hlocks hS (Nat.le_of_ble_eq_true rfl) (Nat.le_of_ble_eq_true rfl) dL_butt_27 (Or.inl ⟨rfl, bv, _, hp_1, (by rw [if_pos c_2]; exact hs_3)⟩)
    · refine lv_lconst (v := 1) hx hb dL_butt_13 (by decide) ?_
      refine lv_goto (tgt := 18) hx hb dL_butt_14 (by decide) ?_
      refine xlastN (s := s.setDrawn d0) (j := 0) (x := 1) hx hb hK.1 3 (hco.kept hk_1) hS ho rfl (xix_of (by omega) (by omega)) dL_butt_18 (fun H_4 locs_4 hs_4 hS => ?_)
      have hc_4 : xc G o (.inl (ty 3, 1, .inr (.inl ((vp_updL fo 0 1))))) H_4 := hs_4.1
      refine lv_goto (tgt := 26) hx hb dL_butt_19 (by decide) ?_
      refine lv_iconst (v := nI 0) hx hb dL_butt_26 (by decide) ?_
      exact xiret hd0 hx hb hr hlocks hS (Nat.le_of_ble_eq_true rfl) (Nat.le_of_ble_eq_true rfl) dL_butt_27 (Or.inl ⟨rfl, bv, _, hp_1, (by rw [if_neg c_2]; exact hs_4)⟩)
set_option maxRecDepth 20000 in
theorem ggL_spans_X6_spans : GoodIn wsL_spans wsX6_spans := goodIn_ca (goodIn_r _ [6, 7, 8, 9, 10, 11, 12, 13, 14, 15, 16, 17, 18, 19, 20, 21, 22, 23, 24, 25, 26, 27, 28, 29, 30, 31, 32, 33, 34, 35, 36, 37, 38] (by decide +kernel) (by decide +kernel)) (goodIn_sub (fun _ h => List.mem_cons_of_mem _ (List.mem_append_right _ h)) (by decide +kernel))
set_option maxRecDepth 20000 in
theorem gL_spans_X6_spans : GoodIn wsL_spans (wsV RL 52 RX6 yX6_spans wsX6_spans) := goodIn_app (goodIn_of _ (by decide +kernel)) ggL_spans_X6_spans
theorem dL_spans_0 : decode cL_spans 0 = .ok (.aload_n 2, 1) := by decide +kernel
theorem dL_spans_1 : decode cL_spans 1 = .ok (.iconst 0, 1) := by decide +kernel
theorem dL_spans_2 : decode cL_spans 2 = .ok (.aload_n 0, 1) := by decide +kernel
theorem dL_spans_3 : decode cL_spans 3 = .ok (.iload_n 1, 1) := by decide +kernel
theorem dL_spans_4 : decode cL_spans 4 = .ok (.invokevirtual 52, 3) := by decide +kernel
theorem dL_spans_7 : decode cL_spans 7 = .ok (.ifCond .eq 7, 3) := by decide +kernel
theorem dL_spans_10 : decode cL_spans 10 = .ok (.lconst 1, 1) := by decide +kernel
theorem dL_spans_11 : decode cL_spans 11 = .ok (.goto 4, 3) := by decide +kernel
theorem dL_spans_14 : decode cL_spans 14 = .ok (.lconst 0, 1) := by decide +kernel
theorem dL_spans_15 : decode cL_spans 15 = .ok (.lastore, 1) := by decide +kernel
theorem dL_spans_16 : decode cL_spans 16 = .ok (.goto 6, 3) := by decide +kernel
theorem dL_spans_19 : decode cL_spans 19 = .ok (.astore_n 3, 1) := by decide +kernel
theorem dL_spans_20 : decode cL_spans 20 = .ok (.iconst 1, 1) := by decide +kernel
theorem dL_spans_21 : decode cL_spans 21 = .ok (.ireturn, 1) := by decide +kernel
theorem dL_spans_22 : decode cL_spans 22 = .ok (.iconst 0, 1) := by decide +kernel
theorem dL_spans_23 : decode cL_spans 23 = .ok (.ireturn, 1) := by decide +kernel
abbrev rm_L_spans : Room := { frames := 11, cells := 20, slots := 150, locals := 435 }
theorem hw_L_spans_1 : (Cond.classLink RL 15 "java/lang/IllegalArgumentException") ∈ wsL_spans := List.mem_of_getElem? (i := 1) rfl
set_option maxHeartbeats 4000000 in
set_option maxRecDepth 100000 in
/-- a helper of the law -/
theorem c_L_spans {l : Launch} {G : va_G} {ty : Nat → ClassId} {b0 : Nat} {H : Heap} (hfl : l.stackTraces = false) {ad : Nat → Nat} {F R nb : Nat} {pl wi hi fa : Nat → UInt64} {un bu lo la : Nat → Int32} {cx cy bx : Nat → Nat → UInt64} {nf : Nat → Nat} (hX : xCla G ty ad F R pl un cx cy bu nb wi hi nf fa lo la bx H H) (hW : xWf F R nb nf ad b0) {n : Int32} {o : Nat} {fo : Nat → Int64} (ho : b0 ≤ o) (hco : xc G o (.inl (ty 3, 1, .inr (.inl fo))) H) (hno : ∀ k : Nat, xU F R nb nf k → o ≠ ad k) : xMet l yL_spans wsL_spans rm_L_spans G ty b0 [.ref (ad 0), .int (n), .ref o] H (fun v H1 => (v = some (.int (nI 0)) ∧ ∃ (bv : Int32) (H0 : Heap), (fun (v : Option Value) (H1 : Heap) => H = H1 ∧ (¬ n < nI 1 ∧ n ≤ nI 8) ∧ v = some (.int (xP (∀ j : Nat, j < R - 1 → pSpC bu F n.toNatClampNeg j)))) (some (.int bv)) H0 ∧ xset G o (.inl (ty 3, 1, .inr (.inl (vp_updL fo 0 (if bv = 0 then (0 : Int64) else 1))))) H0 H1) ∨ (v = some (.int (nI 1)) ∧ (fun (E : String) (H1 : Heap) => E = "java/lang/IllegalArgumentException" ∧ ¬ (¬ n < nI 1 ∧ n ≤ nI 8) ∧ xext H H1) "java/lang/IllegalArgumentException" H1)) (fun _ _ => False) := by
  refine xbodyH (hh := [(0, 16, 19, 15)]) (cc := cL_spans) (maxL := 4) (ret := (some .int)) (C := RL) (lv := [(0, .ref (ad 0)), (1, .int (n)), (2, .ref o)]) (by decide) rfl rfl (Nat.le_of_ble_eq_true rfl) rfl ?_
  intro p e s m below meth c d0 hx hb hr hts hown hlocks hml hxt hnm0 hK hb0 hH0 hS hd0 ls hl
  obtain ⟨⟨zF2, zF8⟩, ⟨zR2, zR8⟩⟩ := id hW.1
  have zB4 := hW.2.1
  refine lv_aload_n hx hb dL_spans_0 rfl (lv_at hl 2 rfl) ?_
  refine lv_iconst (v := nI 0) hx hb dL_spans_1 (by decide) ?_
  refine lv_aload_n hx hb dL_spans_2 rfl (lv_at hl 0 rfl) ?_
  refine lv_iload_n hx hb dL_spans_3 rfl (lv_at hl 1 rfl) ?_
  have cw_1 := cwV (R := rm_L_spans) (rm := rm_X6_spans) 1 (hts d0) gL_spans_X6_spans rfl rfl rfl (by decide +kernel) ⟨Nat.le_of_ble_eq_true rfl, Nat.le_of_ble_eq_true rfl⟩
  refine xcall hd0 (xintoV (b := (ad 0)) (As := [.int (n)]) (rest := [.int (nI 0), .ref o]) ⟨hx, hb, hml, hown, hts _⟩ cw_1 (va_recv hK.1 (x1 (hX.o_)) (ci := 7) (q0 := 0) rfl rfl) rfl rfl hl.1 rfl (lv_room (Nat.le_of_ble_eq_true rfl)) dL_spans_4) (c_X6_spans (l := l) (G := G) (ty := ty) (b0 := b0) hfl hX hW) (xoweB cw_1.1) hK hb0 hS (Nat.le_of_ble_eq_true rfl) (Nat.le_of_ble_eq_true rfl) (fun E_1 ce_1 q9_1 H_1 locs_1 d0 hd0 hp_1 hS hce_1 hcv_1 hcl_1 => ?_) (fun v_1 H_1 locs_1 d0 hd0 hp_1 hS => ?_)
  · have hE_1 := hp_1.1
    subst hE_1
    refine xcatch (own := RL) (hh := [(0, 16, 19, 15)]) (name := "java/lang/IllegalArgumentException") hown hxt [] (⟨0, 16, 19, 15⟩ : ExceptionTableEntry) [] rfl (fun z hz => absurd hz List.not_mem_nil) (by decide) (by decide) (hts d0 _ hw_L_spans_1) (by decide +kernel) hK hce_1 hcv_1 hcl_1 ?_
    show W p l e _ (s.setDrawn _) m _ below meth c _ _ _ _ _ (F0 m 19 ls [.ref q9_1])
    refine lv_astore_n (lv' := [(3, .ref q9_1), (0, .ref (ad 0)), (1, .int (n)), (2, .ref o)]) hx hb dL_spans_19 rfl hl (by decide) rfl (fun ls hl => ?_)
    refine lv_iconst (v := nI 1) hx hb dL_spans_20 (by decide) ?_
    exact xiret hd0 hx hb hr hlocks hS (Nat.le_of_ble_eq_true rfl) (Nat.le_of_ble_eq_true rfl) dL_spans_21 (Or.inr ⟨rfl, hp_1⟩)
  · obtain ⟨bv, hbv_1⟩ : ∃ bv : Int32, v_1 = some (.int bv) := ⟨_, hp_1.2.2⟩
    subst hbv_1
    have hk_1 : H_1[o]? = H[o]? := by rw [← hp_1.1]
    show W p l e _ (s.setDrawn _) m _ below meth c _ _ _ _ _ (F0 m 7 ls [.int (bv), .int (nI 0), .ref o])
    refine lv_if_eq (tgt := 14) hx hb dL_spans_7 (by decide) (fun c_2 => ?_) (fun c_2 => ?_)
    · refine lv_lconst (v := 0) hx hb dL_spans_14 (by decide) ?_
      refine xlastN (s := s.setDrawn d0) (j := 0) (x := 0) hx hb hK.1 3 (hco.kept hk_1) hS ho rfl (xix_of (by omega) (by omega)) dL_spans_15 (fun H_3 locs_3 hs_3 hS => ?_)
      have hc_3 : xc G o (.inl (ty 3, 1, .inr (.inl ((vp_updL fo 0 0))))) H_3 := hs_3.1
      refine lv_goto (tgt := 22) hx hb dL_spans_16 (by decide) ?_
      refine lv_iconst (v := nI 0) hx hb dL_spans_22 (by decide) ?_
      exact xiret hd0 hx hb hr hlocks hS (Nat.le_of_ble_eq_true rfl) (Nat.le_of_ble_eq_true rfl) dL_spans_23 (Or.inl ⟨rfl, bv, _, hp_1, (by rw [if_pos c_2]; exact hs_3)⟩)
    · refine lv_lconst (v := 1) hx hb dL_spans_10 (by decide) ?_
      refine lv_goto (tgt := 15) hx hb dL_spans_11 (by decide) ?_
      refine xlastN (s := s.setDrawn d0) (j := 0) (x := 1) hx hb hK.1 3 (hco.kept hk_1) hS ho rfl (xix_of (by omega) (by omega)) dL_spans_15 (fun H_4 locs_4 hs_4 hS => ?_)
      have hc_4 : xc G o (.inl (ty 3, 1, .inr (.inl ((vp_updL fo 0 1))))) H_4 := hs_4.1
      refine lv_goto (tgt := 22) hx hb dL_spans_16 (by decide) ?_
      refine lv_iconst (v := nI 0) hx hb dL_spans_22 (by decide) ?_
      exact xiret hd0 hx hb hr hlocks hS (Nat.le_of_ble_eq_true rfl) (Nat.le_of_ble_eq_true rfl) dL_spans_23 (Or.inl ⟨rfl, bv, _, hp_1, (by rw [if_neg c_2]; exact hs_4)⟩)
set_option maxRecDepth 20000 in
theorem ggL_board_X6_board : GoodIn wsL_board wsX6_board := goodIn_ca (goodIn_ca (goodIn_r _ [7, 8, 9, 10, 11, 12, 13, 14, 15, 16, 17, 18, 6, 19, 20, 21, 22, 23, 24, 25, 26, 27, 28, 29, 30, 31, 32, 33, 34, 35, 36, 37, 38, 39, 40, 41, 42, 43, 44, 45, 46, 47, 48, 49, 50, 51, 52, 53, 54, 55, 56, 57, 58, 59, 60, 61, 62, 63, 64, 65, 66, 67, 68, 69, 70, 71, 72, 73, 74, 75, 76, 77, 78, 79, 80, 81, 82, 83, 84, 85, 86, 87, 88, 89, 90, 91, 92, 93, 94, 95, 96, 97, 98, 99, 100, 101, 102, 103, 104, 105, 106, 107, 108, 109, 110, 111, 112, 113, 114, 115] (by decide +kernel) (by decide +kernel)) (goodIn_sub (fun _ h => List.mem_cons_of_mem _ (List.mem_append_left _ (List.mem_append_right _ h))) (by decide +kernel))) (goodIn_sub (fun _ h => List.mem_cons_of_mem _ (List.mem_append_right _ h)) (by decide +kernel))
set_option maxRecDepth 20000 in
theorem gL_board_X6_board : GoodIn wsL_board (wsV RL 56 RX6 yX6_board wsX6_board) := goodIn_app (goodIn_of _ (by decide +kernel)) ggL_board_X6_board
theorem dL_board_0 : decode cL_board 0 = .ok (.aload 5, 2) := by decide +kernel
theorem dL_board_2 : decode cL_board 2 = .ok (.iconst 0, 1) := by decide +kernel
theorem dL_board_3 : decode cL_board 3 = .ok (.aload_n 0, 1) := by decide +kernel
theorem dL_board_4 : decode cL_board 4 = .ok (.dload_n 1, 1) := by decide +kernel
theorem dL_board_5 : decode cL_board 5 = .ok (.dload_n 3, 1) := by decide +kernel
theorem dL_board_6 : decode cL_board 6 = .ok (.invokevirtual 56, 3) := by decide +kernel
theorem dL_board_9 : decode cL_board 9 = .ok (.i2l, 1) := by decide +kernel
theorem dL_board_10 : decode cL_board 10 = .ok (.lastore, 1) := by decide +kernel
theorem dL_board_11 : decode cL_board 11 = .ok (.goto 11, 3) := by decide +kernel
theorem dL_board_14 : decode cL_board 14 = .ok (.astore 6, 2) := by decide +kernel
theorem dL_board_16 : decode cL_board 16 = .ok (.iconst 1, 1) := by decide +kernel
theorem dL_board_17 : decode cL_board 17 = .ok (.ireturn, 1) := by decide +kernel
theorem dL_board_18 : decode cL_board 18 = .ok (.astore 6, 2) := by decide +kernel
theorem dL_board_20 : decode cL_board 20 = .ok (.iconst 2, 1) := by decide +kernel
theorem dL_board_21 : decode cL_board 21 = .ok (.ireturn, 1) := by decide +kernel
theorem dL_board_22 : decode cL_board 22 = .ok (.iconst 0, 1) := by decide +kernel
theorem dL_board_23 : decode cL_board 23 = .ok (.ireturn, 1) := by decide +kernel
abbrev rm_L_board : Room := { frames := 11, cells := 20, slots := 150, locals := 435 }
theorem hw_L_board_1 : (Cond.classLink RL 15 "java/lang/IllegalArgumentException") ∈ wsL_board := List.mem_of_getElem? (i := 1) rfl
theorem hw_L_board_2 : (Cond.classLink RL 25 "java/lang/IllegalStateException") ∈ wsL_board := List.mem_of_getElem? (i := 2) rfl
set_option maxHeartbeats 4000000 in
set_option maxRecDepth 100000 in
/-- a helper of the law -/
theorem c_L_board {l : Launch} {G : va_G} {ty : Nat → ClassId} {b0 : Nat} {H : Heap} (hfl : l.stackTraces = false) {ad : Nat → Nat} {F R nb : Nat} {pl wi hi fa : Nat → UInt64} {un bu lo la : Nat → Int32} {cx cy bx : Nat → Nat → UInt64} {nf : Nat → Nat} (hX : xCla G ty ad F R pl un cx cy bu nb wi hi nf fa lo la bx H H) (hW : xWf F R nb nf ad b0) {x y ew eh : UInt64} (hx9 : vq x ew) (hy9 : vq y eh) {o : Nat} {fo : Nat → Int64} (ho : b0 ≤ o) (hco : xc G o (.inl (ty 3, 1, .inr (.inl fo))) H) (hno : ∀ k : Nat, xU F R nb nf k → o ≠ ad k) : xMet l yL_board wsL_board rm_L_board G ty b0 [.ref (ad 0), .double x, .double y, .ref o] H (fun v H1 => (v = some (.int (nI 0)) ∧ ∃ (bv : Int32) (H0 : Heap), (fun (v : Option Value) (H1 : Heap) => (pBetween ew FP.dconst1 4652007308841189376 = true ∧ pBetween eh FP.dconst1 4652007308841189376 = true) ∧ ¬ nb = 4 ∧ v = some (.int (nI nb)) ∧ (∀ k : Nat, xU F R nb nf k → xab ad nb H.size k = ad k) ∧ xWf F R (nb + 1) (xnf nf nb) (xab ad nb H.size) b0 ∧ xCla G ty (xab ad nb H.size) F R pl un cx cy bu (nb + 1) (vf_upd wi nb x) (vf_upd hi nb y) (xnf nf nb) fa lo la bx H H1) (some (.int bv)) H0 ∧ xset G o (.inl (ty 3, 1, .inr (.inl (vp_updL fo 0 bv.toInt64)))) H0 H1) ∨ (v = some (.int (nI 1)) ∧ (fun (E : String) (H1 : Heap) => (E = "java/lang/IllegalArgumentException" ∧ ¬ (pBetween ew FP.dconst1 4652007308841189376 = true ∧ pBetween eh FP.dconst1 4652007308841189376 = true) ∧ xext H H1) ∨ (E = "java/lang/IllegalStateException" ∧ (pBetween ew FP.dconst1 4652007308841189376 = true ∧ pBetween eh FP.dconst1 4652007308841189376 = true) ∧ nb = 4 ∧ xext H H1)) "java/lang/IllegalArgumentException" H1) ∨ (v = some (.int (nI 2)) ∧ (fun (E : String) (H1 : Heap) => (E = "java/lang/IllegalArgumentException" ∧ ¬ (pBetween ew FP.dconst1 4652007308841189376 = true ∧ pBetween eh FP.dconst1 4652007308841189376 = true) ∧ xext H H1) ∨ (E = "java/lang/IllegalStateException" ∧ (pBetween ew FP.dconst1 4652007308841189376 = true ∧ pBetween eh FP.dconst1 4652007308841189376 = true) ∧ nb = 4 ∧ xext H H1)) "java/lang/IllegalStateException" H1)) (fun _ _ => False) := by
  refine xbodyH (hh := [(0, 11, 14, 15), (0, 11, 18, 25)]) (cc := cL_board) (maxL := 7) (ret := (some .int)) (C := RL) (lv := [(0, .ref (ad 0)), (1, .double x), (3, .double y), (5, .ref o)]) (by decide) rfl rfl (Nat.le_of_ble_eq_true rfl) rfl ?_
  intro p e s m below meth c d0 hx hb hr hts hown hlocks hml hxt hnm0 hK hb0 hH0 hS hd0 ls hl
  obtain ⟨⟨zF2, zF8⟩, ⟨zR2, zR8⟩⟩ := id hW.1
  have zB4 := hW.2.1
  refine lv_aload hx hb dL_board_0 (lv_at hl 3 rfl) ?_
  refine lv_iconst (v := nI 0) hx hb dL_board_2 (by decide) ?_
  refine lv_aload_n hx hb dL_board_3 rfl (lv_at hl 0 rfl) ?_
  refine lv_dload_n hx hb dL_board_4 rfl (lv_at hl 1 rfl) ?_
  refine lv_dload_n hx hb dL_board_5 rfl (lv_at hl 2 rfl) ?_
  have cw_1 := cwV (R := rm_L_board) (rm := rm_X6_board) 2 (hts d0) gL_board_X6_board rfl rfl rfl (by decide +kernel) ⟨Nat.le_of_ble_eq_true rfl, Nat.le_of_ble_eq_true rfl⟩
  refine xcall hd0 (xintoV (b := (ad 0)) (As := [.double x, .double y]) (rest := [.int (nI 0), .ref o]) ⟨hx, hb, hml, hown, hts _⟩ cw_1 (va_recv hK.1 (x1 (hX.o_)) (ci := 7) (q0 := 0) rfl rfl) rfl rfl hl.1 rfl (lv_room (Nat.le_of_ble_eq_true rfl)) dL_board_6) (c_X6_board (l := l) (G := G) (ty := ty) (b0 := b0) hfl hX hW hx9 hy9) (xoweB cw_1.1) hK hb0 hS (Nat.le_of_ble_eq_true rfl) (Nat.le_of_ble_eq_true rfl) (fun E_1 ce_1 q9_1 H_1 locs_1 d0 hd0 hp_1 hS hce_1 hcv_1 hcl_1 => ?_) (fun v_1 H_1 locs_1 d0 hd0 hp_1 hS => ?_)
  · rcases (show E_1 = "java/lang/IllegalArgumentException" ∨ E_1 = "java/lang/IllegalStateException" from (by rcases hp_1 with h | h; exact Or.inl h.1; exact Or.inr h.1)) with rfl | rfl
    · refine xcatch (own := RL) (hh := [(0, 11, 14, 15), (0, 11, 18, 25)]) (name := "java/lang/IllegalArgumentException") hown hxt [] (⟨0, 11, 14, 15⟩ : ExceptionTableEntry) [(⟨0, 11, 18, 25⟩ : ExceptionTableEntry)] rfl (fun z hz => absurd hz List.not_mem_nil) (by decide) (by decide) (hts d0 _ hw_L_board_1) (by decide +kernel) hK hce_1 hcv_1 hcl_1 ?_
      show W p l e _ (s.setDrawn _) m _ below meth c _ _ _ _ _ (F0 m 14 ls [.ref q9_1])
      refine lv_astore (lv' := [(6, .ref q9_1), (0, .ref (ad 0)), (1, .double x), (3, .double y), (5, .ref o)]) hx hb dL_board_14 hl (by decide) rfl (fun ls hl => ?_)
      refine lv_iconst (v := nI 1) hx hb dL_board_16 (by decide) ?_
      exact xiret hd0 hx hb hr hlocks hS (Nat.le_of_ble_eq_true rfl) (Nat.le_of_ble_eq_true rfl) dL_board_17 (Or.inr (Or.inl ⟨rfl, hp_1⟩))
    · refine xcatch (own := RL) (hh := [(0, 11, 14, 15), (0, 11, 18, 25)]) (name := "java/lang/IllegalStateException") hown hxt [(⟨0, 11, 14, 15⟩ : ExceptionTableEntry)] (⟨0, 11, 18, 25⟩ : ExceptionTableEntry) [] rfl (fun z hz => by cases List.mem_singleton.mp hz; exact ⟨by decide, _, (hts d0 _ hw_L_board_1), by decide⟩) (by decide) (by decide) (hts d0 _ hw_L_board_2) (by decide +kernel) hK hce_1 hcv_1 hcl_1 ?_
      show W p l e _ (s.setDrawn _) m _ below meth c _ _ _ _ _ (F0 m 18 ls [.ref q9_1])
      refine lv_astore (lv' := [(6, .ref q9_1), (0, .ref (ad 0)), (1, .double x), (3, .double y), (5, .ref o)]) hx hb dL_board_18 hl (by decide) rfl (fun ls hl => ?_)
      refine lv_iconst (v := nI 2) hx hb dL_board_20 (by decide) ?_
      exact xiret hd0 hx hb hr hlocks hS (Nat.le_of_ble_eq_true rfl) (Nat.le_of_ble_eq_true rfl) dL_board_21 (Or.inr (Or.inr ⟨rfl, hp_1⟩))
  · obtain ⟨bv, hbv_1⟩ : ∃ bv : Int32, v_1 = some (.int bv) := ⟨_, hp_1.2.2.1⟩
    subst hbv_1
    have hk_1 : H_1[o]? = H[o]? := hp_1.2.2.2.2.2.fr_ o hco.lt (fun k hk => xab_no hW.1.1.2 hW.1.2.2 (by have := hW.2.1; have := hp_1.2.1; omega) hno hco.lt hk)
    show W p l e _ (s.setDrawn _) m _ below meth c _ _ _ _ _ (F0 m 9 ls [.int (bv), .int (nI 0), .ref o])
    refine lv_i2l (v := (bv).toInt64) hx hb dL_board_9 rfl ?_
    refine xlastN (s := s.setDrawn d0) (j := 0) (x := (bv).toInt64) hx hb hK.1 3 (hco.kept hk_1) hS ho rfl (xix_of (by omega) (by omega)) dL_board_10 (fun H_2 locs_2 hs_2 hS => ?_)
    have hc_2 : xc G o (.inl (ty 3, 1, .inr (.inl ((vp_updL fo 0 ((bv).toInt64)))))) H_2 := hs_2.1
    refine lv_goto (tgt := 22) hx hb dL_board_11 (by decide) ?_
    refine lv_iconst (v := nI 0) hx hb dL_board_22 (by decide) ?_
    exact xiret hd0 hx hb hr hlocks hS (Nat.le_of_ble_eq_true rfl) (Nat.le_of_ble_eq_true rfl) dL_board_23 (Or.inl ⟨rfl, bv, _, hp_1, hs_2⟩)
set_option maxRecDepth 20000 in
theorem ggL_fault_X6_fault : GoodIn wsL_fault wsX6_fault := goodIn_ca (goodIn_ca (goodIn_r _ [7, 8, 9, 10, 11, 12, 13, 14, 15, 16, 17, 18, 6, 19, 20, 21, 22, 23, 24, 25, 26, 27, 28, 29, 30, 31, 32, 33, 34, 35, 36, 37, 38, 39, 40, 41, 42, 43, 44, 45, 46, 47, 48, 49, 50, 51, 52, 53, 54, 55, 56, 57, 58, 59, 60, 61, 62, 63, 64, 65, 66, 67, 68, 69, 70, 71, 72, 73, 74, 75, 76, 77, 78, 79, 80, 81, 82, 83, 84, 85, 86, 87, 88, 89, 90, 91, 92, 93, 94, 95, 96, 97, 98, 99, 100, 101, 102, 103, 104, 105, 106, 107, 108, 109, 110, 111, 112, 113, 114, 115, 116, 117, 118, 119, 120, 121, 122, 123, 124, 125, 126, 127, 128] (by decide +kernel) (by decide +kernel)) (goodIn_sub (fun _ h => List.mem_cons_of_mem _ (List.mem_append_left _ (List.mem_append_right _ h))) (by decide +kernel))) (goodIn_sub (fun _ h => List.mem_cons_of_mem _ (List.mem_append_right _ h)) (by decide +kernel))
set_option maxRecDepth 20000 in
theorem gL_fault_X6_fault : GoodIn wsL_fault (wsV RL 60 RX6 yX6_fault wsX6_fault) := goodIn_app (goodIn_of _ (by decide +kernel)) ggL_fault_X6_fault
theorem dL_fault_0 : decode cL_fault 0 = .ok (.aload 10, 2) := by decide +kernel
theorem dL_fault_2 : decode cL_fault 2 = .ok (.iconst 0, 1) := by decide +kernel
theorem dL_fault_3 : decode cL_fault 3 = .ok (.aload_n 0, 1) := by decide +kernel
theorem dL_fault_4 : decode cL_fault 4 = .ok (.iload_n 1, 1) := by decide +kernel
theorem dL_fault_5 : decode cL_fault 5 = .ok (.dload_n 2, 1) := by decide +kernel
theorem dL_fault_6 : decode cL_fault 6 = .ok (.dload 4, 2) := by decide +kernel
theorem dL_fault_8 : decode cL_fault 8 = .ok (.dload 6, 2) := by decide +kernel
theorem dL_fault_10 : decode cL_fault 10 = .ok (.dload 8, 2) := by decide +kernel
theorem dL_fault_12 : decode cL_fault 12 = .ok (.invokevirtual 60, 3) := by decide +kernel
theorem dL_fault_15 : decode cL_fault 15 = .ok (.ifCond .eq 7, 3) := by decide +kernel
theorem dL_fault_18 : decode cL_fault 18 = .ok (.lconst 1, 1) := by decide +kernel
theorem dL_fault_19 : decode cL_fault 19 = .ok (.goto 4, 3) := by decide +kernel
theorem dL_fault_22 : decode cL_fault 22 = .ok (.lconst 0, 1) := by decide +kernel
theorem dL_fault_23 : decode cL_fault 23 = .ok (.lastore, 1) := by decide +kernel
theorem dL_fault_24 : decode cL_fault 24 = .ok (.goto 11, 3) := by decide +kernel
theorem dL_fault_27 : decode cL_fault 27 = .ok (.astore 11, 2) := by decide +kernel
theorem dL_fault_29 : decode cL_fault 29 = .ok (.iconst 1, 1) := by decide +kernel
theorem dL_fault_30 : decode cL_fault 30 = .ok (.ireturn, 1) := by decide +kernel
theorem dL_fault_31 : decode cL_fault 31 = .ok (.astore 11, 2) := by decide +kernel
theorem dL_fault_33 : decode cL_fault 33 = .ok (.iconst 2, 1) := by decide +kernel
theorem dL_fault_34 : decode cL_fault 34 = .ok (.ireturn, 1) := by decide +kernel
theorem dL_fault_35 : decode cL_fault 35 = .ok (.iconst 0, 1) := by decide +kernel
theorem dL_fault_36 : decode cL_fault 36 = .ok (.ireturn, 1) := by decide +kernel
abbrev rm_L_fault : Room := { frames := 11, cells := 20, slots := 150, locals := 435 }
theorem hw_L_fault_1 : (Cond.classLink RL 13 "java/lang/IndexOutOfBoundsException") ∈ wsL_fault := List.mem_of_getElem? (i := 1) rfl
theorem hw_L_fault_2 : (Cond.classLink RL 15 "java/lang/IllegalArgumentException") ∈ wsL_fault := List.mem_of_getElem? (i := 2) rfl
set_option maxHeartbeats 4000000 in
set_option maxRecDepth 100000 in
/-- a helper of the law -/
theorem c_L_fault {l : Launch} {G : va_G} {ty : Nat → ClassId} {b0 : Nat} {H : Heap} (hfl : l.stackTraces = false) {ad : Nat → Nat} {F R nb : Nat} {pl wi hi fa : Nat → UInt64} {un bu lo la : Nat → Int32} {cx cy bx : Nat → Nat → UInt64} {nf : Nat → Nat} (hX : xCla G ty ad F R pl un cx cy bu nb wi hi nf fa lo la bx H H) (hW : xWf F R nb nf ad b0) {b : Int32} {x y u h ex ey eu eh : UInt64} (hx9 : vq x ex) (hy9 : vq y ey) (hu9 : vq u eu) (hh9 : vq h eh) {o : Nat} {fo : Nat → Int64} (ho : b0 ≤ o) (hco : xc G o (.inl (ty 3, 1, .inr (.inl fo))) H) (hno : ∀ k : Nat, xU F R nb nf k → o ≠ ad k) : xMet l yL_fault wsL_fault rm_L_fault G ty b0 [.ref (ad 0), .int (b), .double x, .double y, .double u, .double h, .ref o] H (fun v H1 => (v = some (.int (nI 0)) ∧ ∃ (bv : Int32) (H0 : Heap), (fun (v : Option Value) (H1 : Heap) => vp_in b nb ∧ (pBetween ex FP.dconst0 4652007308841189376 = true ∧ pBetween ey FP.dconst0 4652007308841189376 = true ∧ pBetween eu 4593671619917905920 4652007308841189376 = true ∧ pBetween eh 4593671619917905920 4652007308841189376 = true) ∧ ((nf b.toNatClampNeg = 8 ∧ v = some (.int (nI 0)) ∧ xCla G ty ad F R pl un cx cy bu nb wi hi nf fa lo la bx H H1) ∨ (¬ nf b.toNatClampNeg = 8 ∧ v = some (.int (nI 1)) ∧ (∀ k : Nat, xU F R nb nf k → (xaf ad b.toNatClampNeg (nf b.toNatClampNeg) H.size) k = ad k) ∧ xWf F R nb (xnfi nf b.toNatClampNeg) (xaf ad b.toNatClampNeg (nf b.toNatClampNeg) H.size) b0 ∧ xCla G ty (xaf ad b.toNatClampNeg (nf b.toNatClampNeg) H.size) F R pl un cx cy bu nb wi hi (xnfi nf b.toNatClampNeg) (vf_upd (vf_upd (vf_upd (vf_upd (fa) (32 * (b.toNatClampNeg) + 4 * nf (b.toNatClampNeg)) x) (32 * (b.toNatClampNeg) + 4 * nf (b.toNatClampNeg) + 1) y) (32 * (b.toNatClampNeg) + 4 * nf (b.toNatClampNeg) + 2) u) (32 * (b.toNatClampNeg) + 4 * nf (b.toNatClampNeg) + 3) h) lo la bx H H1))) (some (.int bv)) H0 ∧ xset G o (.inl (ty 3, 1, .inr (.inl (vp_updL fo 0 (if bv = 0 then (0 : Int64) else 1))))) H0 H1) ∨ (v = some (.int (nI 1)) ∧ (fun (E : String) (H1 : Heap) => (E = "java/lang/IndexOutOfBoundsException" ∧ ¬ vp_in b nb ∧ xext H H1) ∨ (E = "java/lang/IllegalArgumentException" ∧ vp_in b nb ∧ ¬ (pBetween ex FP.dconst0 4652007308841189376 = true ∧ pBetween ey FP.dconst0 4652007308841189376 = true ∧ pBetween eu 4593671619917905920 4652007308841189376 = true ∧ pBetween eh 4593671619917905920 4652007308841189376 = true) ∧ xext H H1)) "java/lang/IndexOutOfBoundsException" H1) ∨ (v = some (.int (nI 2)) ∧ (fun (E : String) (H1 : Heap) => (E = "java/lang/IndexOutOfBoundsException" ∧ ¬ vp_in b nb ∧ xext H H1) ∨ (E = "java/lang/IllegalArgumentException" ∧ vp_in b nb ∧ ¬ (pBetween ex FP.dconst0 4652007308841189376 = true ∧ pBetween ey FP.dconst0 4652007308841189376 = true ∧ pBetween eu 4593671619917905920 4652007308841189376 = true ∧ pBetween eh 4593671619917905920 4652007308841189376 = true) ∧ xext H H1)) "java/lang/IllegalArgumentException" H1)) (fun _ _ => False) := by
  refine xbodyH (hh := [(0, 24, 27, 13), (0, 24, 31, 15)]) (cc := cL_fault) (maxL := 12) (ret := (some .int)) (C := RL) (lv := [(0, .ref (ad 0)), (1, .int (b)), (2, .double x), (4, .double y), (6, .double u), (8, .double h), (10, .ref o)]) (by decide) rfl rfl (Nat.le_of_ble_eq_true rfl) rfl ?_
  intro p e s m below meth c d0 hx hb hr hts hown hlocks hml hxt hnm0 hK hb0 hH0 hS hd0 ls hl
  obtain ⟨⟨zF2, zF8⟩, ⟨zR2, zR8⟩⟩ := id hW.1
  have zB4 := hW.2.1
  refine lv_aload hx hb dL_fault_0 (lv_at hl 6 rfl) ?_
  refine lv_iconst (v := nI 0) hx hb dL_fault_2 (by decide) ?_
  refine lv_aload_n hx hb dL_fault_3 rfl (lv_at hl 0 rfl) ?_
  refine lv_iload_n hx hb dL_fault_4 rfl (lv_at hl 1 rfl) ?_
  refine lv_dload_n hx hb dL_fault_5 rfl (lv_at hl 2 rfl) ?_
  refine lv_dload hx hb dL_fault_6 (lv_at hl 3 rfl) ?_
  refine lv_dload hx hb dL_fault_8 (lv_at hl 4 rfl) ?_
  refine lv_dload hx hb dL_fault_10 (lv_at hl 5 rfl) ?_
  have cw_1 := cwV (R := rm_L_fault) (rm := rm_X6_fault) 5 (hts d0) gL_fault_X6_fault rfl rfl rfl (by decide +kernel) ⟨Nat.le_of_ble_eq_true rfl, Nat.le_of_ble_eq_true rfl⟩
  refine xcall hd0 (xintoV (b := (ad 0)) (As := [.int (b), .double x, .double y, .double u, .double h]) (rest := [.int (nI 0), .ref o]) ⟨hx, hb, hml, hown, hts _⟩ cw_1 (va_recv hK.1 (x1 (hX.o_)) (ci := 7) (q0 := 0) rfl rfl) rfl rfl hl.1 rfl (lv_room (Nat.le_of_ble_eq_true rfl)) dL_fault_12) (c_X6_fault (l := l) (G := G) (ty := ty) (b0 := b0) hfl hX hW hx9 hy9 hu9 hh9) (xoweB cw_1.1) hK hb0 hS (Nat.le_of_ble_eq_true rfl) (Nat.le_of_ble_eq_true rfl) (fun E_1 ce_1 q9_1 H_1 locs_1 d0 hd0 hp_1 hS hce_1 hcv_1 hcl_1 => ?_) (fun v_1 H_1 locs_1 d0 hd0 hp_1 hS => ?_)
  · rcases (show E_1 = "java/lang/IndexOutOfBoundsException" ∨ E_1 = "java/lang/IllegalArgumentException" from (by rcases hp_1 with h | h; exact Or.inl h.1; exact Or.inr h.1)) with rfl | rfl
    · refine xcatch (own := RL) (hh := [(0, 24, 27, 13), (0, 24, 31, 15)]) (name := "java/lang/IndexOutOfBoundsException") hown hxt [] (⟨0, 24, 27, 13⟩ : ExceptionTableEntry) [(⟨0, 24, 31, 15⟩ : ExceptionTableEntry)] rfl (fun z hz => absurd hz List.not_mem_nil) (by decide) (by decide) (hts d0 _ hw_L_fault_1) (by decide +kernel) hK hce_1 hcv_1 hcl_1 ?_
      show W p l e _ (s.setDrawn _) m _ below meth c _ _ _ _ _ (F0 m 27 ls [.ref q9_1])
      refine lv_astore (lv' := [(11, .ref q9_1), (0, .ref (ad 0)), (1, .int (b)), (2, .double x), (4, .double y), (6, .double u), (8, .double h), (10, .ref o)]) hx hb dL_fault_27 hl (by decide) rfl (fun ls hl => ?_)
      refine lv_iconst (v := nI 1) hx hb dL_fault_29 (by decide) ?_
      exact xiret hd0 hx hb hr hlocks hS (Nat.le_of_ble_eq_true rfl) (Nat.le_of_ble_eq_true rfl) dL_fault_30 (Or.inr (Or.inl ⟨rfl, hp_1⟩))
    · refine xcatch (own := RL) (hh := [(0, 24, 27, 13), (0, 24, 31, 15)]) (name := "java/lang/IllegalArgumentException") hown hxt [(⟨0, 24, 27, 13⟩ : ExceptionTableEntry)] (⟨0, 24, 31, 15⟩ : ExceptionTableEntry) [] rfl (fun z hz => by cases List.mem_singleton.mp hz; exact ⟨by decide, _, (hts d0 _ hw_L_fault_1), by decide⟩) (by decide) (by decide) (hts d0 _ hw_L_fault_2) (by decide +kernel) hK hce_1 hcv_1 hcl_1 ?_
      show W p l e _ (s.setDrawn _) m _ below meth c _ _ _ _ _ (F0 m 31 ls [.ref q9_1])
      refine lv_astore (lv' := [(11, .ref q9_1), (0, .ref (ad 0)), (1, .int (b)), (2, .double x), (4, .double y), (6, .double u), (8, .double h), (10, .ref o)]) hx hb dL_fault_31 hl (by decide) rfl (fun ls hl => ?_)
      refine lv_iconst (v := nI 2) hx hb dL_fault_33 (by decide) ?_
      exact xiret hd0 hx hb hr hlocks hS (Nat.le_of_ble_eq_true rfl) (Nat.le_of_ble_eq_true rfl) dL_fault_34 (Or.inr (Or.inr ⟨rfl, hp_1⟩))
  · obtain ⟨bv, hbv_1⟩ : ∃ bv : Int32, v_1 = some (.int bv) := by obtain ⟨-, -, h | h⟩ := hp_1; exact ⟨_, h.2.1⟩; exact ⟨_, h.2.1⟩
    subst hbv_1
    have hk_1 : H_1[o]? = H[o]? := by obtain ⟨zb, -, ⟨-, -, h⟩ | ⟨z8, -, -, -, h⟩⟩ := hp_1; exact h.fr_ o hco.lt hno; exact h.fr_ o hco.lt (fun k hk => xaf_no hW (in_lt zb) z8 hno hco.lt hk)
    show W p l e _ (s.setDrawn _) m _ below meth c _ _ _ _ _ (F0 m 15 ls [.int (bv), .int (nI 0), .ref o])
    refine lv_if_eq (tgt := 22) hx hb dL_fault_15 (by decide) (fun c_2 => ?_) (fun c_2 => ?_)
    · refine lv_lconst (v := 0) hx hb dL_fault_22 (by decide) ?_
      refine xlastN (s := s.setDrawn d0) (j := 0) (x := 0) hx hb hK.1 3 (hco.kept hk_1) hS ho rfl (xix_of (by omega) (by omega)) dL_fault_23 (fun H_3 locs_3 hs_3 hS => ?_)
      have hc_3 : xc G o (.inl (ty 3, 1, .inr (.inl ((vp_updL fo 0 0))))) H_3 := hs_3.1
      refine lv_goto (tgt := 35) hx hb dL_fault_24 (by decide) ?_
      refine lv_iconst (v := nI 0) hx hb dL_fault_35 (by decide) ?_
      exact xiret hd0 hx hb hr hlocks hS (Nat.le_of_ble_eq_true rfl) (Nat.le_of_ble_eq_true rfl) dL_fault_36 (Or.inl ⟨rfl, bv, _, hp_1, (by rw [if_pos c_2]; exact hs_3)⟩)
    · refine lv_lconst (v := 1) hx hb dL_fault_18 (by decide) ?_
      refine lv_goto (tgt := 23) hx hb dL_fault_19 (by decide) ?_
      refine xlastN (s := s.setDrawn d0) (j := 0) (x := 1) hx hb hK.1 3 (hco.kept hk_1) hS ho rfl (xix_of (by omega) (by omega)) dL_fault_23 (fun H_4 locs_4 hs_4 hS => ?_)
      have hc_4 : xc G o (.inl (ty 3, 1, .inr (.inl ((vp_updL fo 0 1))))) H_4 := hs_4.1
      refine lv_goto (tgt := 35) hx hb dL_fault_24 (by decide) ?_
      refine lv_iconst (v := nI 0) hx hb dL_fault_35 (by decide) ?_
      exact xiret hd0 hx hb hr hlocks hS (Nat.le_of_ble_eq_true rfl) (Nat.le_of_ble_eq_true rfl) dL_fault_36 (Or.inl ⟨rfl, bv, _, hp_1, (by rw [if_neg c_2]; exact hs_4)⟩)
set_option maxRecDepth 20000 in
theorem ggL_nest_X6_nest : GoodIn wsL_nest wsX6_nest := goodIn_ca (goodIn_ca (goodIn_r _ [7, 8, 9, 10, 11, 12, 13, 14, 15, 6, 16, 17, 18, 19, 20, 21, 22, 23, 24, 25, 26, 27, 28, 29, 30, 31, 32, 33, 34, 35, 36, 37, 38, 39, 40, 41, 42, 43, 44, 45, 46, 47, 48, 49, 50, 51, 52, 53, 54, 55, 56, 57, 58, 59, 60, 61, 62, 63, 64, 65, 66, 67, 68, 69, 70, 71, 72, 73, 74, 75, 76, 77, 78, 79, 80, 81, 82, 83, 84, 85, 86, 87, 88, 89, 90, 91, 92, 93, 94, 95, 96, 97, 98, 99, 100, 101, 102, 103, 104, 105, 106, 107, 108, 109, 110] (by decide +kernel) (by decide +kernel)) (goodIn_sub (fun _ h => List.mem_cons_of_mem _ (List.mem_append_left _ (List.mem_append_right _ h))) (by decide +kernel))) (goodIn_sub (fun _ h => List.mem_cons_of_mem _ (List.mem_append_right _ h)) (by decide +kernel))
set_option maxRecDepth 20000 in
theorem gL_nest_X6_nest : GoodIn wsL_nest (wsV RL 64 RX6 yX6_nest wsX6_nest) := goodIn_app (goodIn_of _ (by decide +kernel)) ggL_nest_X6_nest
theorem dL_nest_0 : decode cL_nest 0 = .ok (.aload_n 3, 1) := by decide +kernel
theorem dL_nest_1 : decode cL_nest 1 = .ok (.iconst 0, 1) := by decide +kernel
theorem dL_nest_2 : decode cL_nest 2 = .ok (.aload_n 0, 1) := by decide +kernel
theorem dL_nest_3 : decode cL_nest 3 = .ok (.iload_n 1, 1) := by decide +kernel
theorem dL_nest_4 : decode cL_nest 4 = .ok (.iload_n 2, 1) := by decide +kernel
theorem dL_nest_5 : decode cL_nest 5 = .ok (.invokevirtual 64, 3) := by decide +kernel
theorem dL_nest_8 : decode cL_nest 8 = .ok (.i2l, 1) := by decide +kernel
theorem dL_nest_9 : decode cL_nest 9 = .ok (.lastore, 1) := by decide +kernel
theorem dL_nest_10 : decode cL_nest 10 = .ok (.goto 11, 3) := by decide +kernel
theorem dL_nest_13 : decode cL_nest 13 = .ok (.astore 4, 2) := by decide +kernel
theorem dL_nest_15 : decode cL_nest 15 = .ok (.iconst 1, 1) := by decide +kernel
theorem dL_nest_16 : decode cL_nest 16 = .ok (.ireturn, 1) := by decide +kernel
theorem dL_nest_17 : decode cL_nest 17 = .ok (.astore 4, 2) := by decide +kernel
theorem dL_nest_19 : decode cL_nest 19 = .ok (.iconst 2, 1) := by decide +kernel
theorem dL_nest_20 : decode cL_nest 20 = .ok (.ireturn, 1) := by decide +kernel
theorem dL_nest_21 : decode cL_nest 21 = .ok (.iconst 0, 1) := by decide +kernel
theorem dL_nest_22 : decode cL_nest 22 = .ok (.ireturn, 1) := by decide +kernel
abbrev rm_L_nest : Room := { frames := 11, cells := 20, slots := 150, locals := 435 }
theorem hw_L_nest_1 : (Cond.classLink RL 13 "java/lang/IndexOutOfBoundsException") ∈ wsL_nest := List.mem_of_getElem? (i := 1) rfl
theorem hw_L_nest_2 : (Cond.classLink RL 25 "java/lang/IllegalStateException") ∈ wsL_nest := List.mem_of_getElem? (i := 2) rfl
set_option maxHeartbeats 4000000 in
set_option maxRecDepth 100000 in
/-- a helper of the law -/
theorem c_L_nest {l : Launch} {G : va_G} {ty : Nat → ClassId} {b0 : Nat} {H : Heap} (hfl : l.stackTraces = false) {ad : Nat → Nat} {F R nb : Nat} {pl wi hi fa : Nat → UInt64} {un bu lo la : Nat → Int32} {cx cy bx : Nat → Nat → UInt64} {nf : Nat → Nat} (hX : xCla G ty ad F R pl un cx cy bu nb wi hi nf fa lo la bx H H) (hW : xWf F R nb nf ad b0) {b x : Int32} (hSk : (vp_in b nb ∧ vp_in x (R - 1)) → ¬ un x.toNatClampNeg = 0 → lo x.toNatClampNeg = (-1) → pSkip fa lo bx R b.toNatClampNeg (nf b.toNatClampNeg) x.toNatClampNeg) {o : Nat} {fo : Nat → Int64} (ho : b0 ≤ o) (hco : xc G o (.inl (ty 3, 1, .inr (.inl fo))) H) (hno : ∀ k : Nat, xU F R nb nf k → o ≠ ad k) : xMet l yL_nest wsL_nest rm_L_nest G ty b0 [.ref (ad 0), .int (b), .int (x), .ref o] H (fun v H1 => (v = some (.int (nI 0)) ∧ ∃ (bv : Int32) (H0 : Heap), (fun (v : Option Value) (H1 : Heap) => (vp_in b nb ∧ vp_in x (R - 1)) ∧ ¬ un x.toNatClampNeg = 0 ∧ lo x.toNatClampNeg = (-1) ∧ ∃ (bx1 : Nat → Nat → UInt64) (lo1 la1 : Nat → Int32), xCla G ty ad F R pl un cx cy bu nb wi hi nf fa lo1 la1 bx1 H H1 ∧ xBx bx bx1 x.toNatClampNeg ∧ ((v = some (.int (-1)) ∧ xgt (FP.dadd (bx x.toNatClampNeg 1) (bx x.toNatClampNeg 3)) (hi b.toNatClampNeg) = true ∧ lo1 = lo ∧ la1 = la) ∨ (xgt (FP.dadd (bx x.toNatClampNeg 1) (bx x.toNatClampNeg 3)) (hi b.toNatClampNeg) = false ∧ ∃ k : Nat, k ≤ 8000 ∧ v = some (.int (nI k)) ∧ xgt (FP.dadd (pEi k) (bx x.toNatClampNeg 2)) (wi b.toNatClampNeg) = false ∧ pFree fa lo bx R b.toNatClampNeg (nf b.toNatClampNeg) (pEi k) (bx x.toNatClampNeg 1) (bx x.toNatClampNeg 2) (bx x.toNatClampNeg 3) ∧ vq (bx1 x.toNatClampNeg 0) (pEi k) ∧ (∀ j : Nat, j < k → ¬ pFree fa lo bx R b.toNatClampNeg (nf b.toNatClampNeg) (pEi j) (bx x.toNatClampNeg 1) (bx x.toNatClampNeg 2) (bx x.toNatClampNeg 3)) ∧ lo1 = upd lo x.toNatClampNeg (nI b.toNatClampNeg) ∧ la1 = upd la x.toNatClampNeg (nI k)) ∨ (v = some (.int (-1)) ∧ xgt (FP.dadd (bx x.toNatClampNeg 1) (bx x.toNatClampNeg 3)) (hi b.toNatClampNeg) = false ∧ (∃ k : Nat, (∀ j : Nat, j < k → j ≤ 8000 → ¬ pFree fa lo bx R b.toNatClampNeg (nf b.toNatClampNeg) (pEi j) (bx x.toNatClampNeg 1) (bx x.toNatClampNeg 2) (bx x.toNatClampNeg 3)) ∧ (xgt (FP.dadd (pEi k) (bx x.toNatClampNeg 2)) (wi b.toNatClampNeg) = true ∨ 8000 < k)) ∧ lo1 = lo ∧ la1 = la))) (some (.int bv)) H0 ∧ xset G o (.inl (ty 3, 1, .inr (.inl (vp_updL fo 0 bv.toInt64)))) H0 H1) ∨ (v = some (.int (nI 1)) ∧ (fun (E : String) (H1 : Heap) => (E = "java/lang/IndexOutOfBoundsException" ∧ ¬ (vp_in b nb ∧ vp_in x (R - 1)) ∧ xext H H1) ∨ (E = "java/lang/IllegalStateException" ∧ (vp_in b nb ∧ vp_in x (R - 1)) ∧ (un x.toNatClampNeg = 0 ∨ ¬ lo x.toNatClampNeg = (-1)) ∧ xext H H1)) "java/lang/IndexOutOfBoundsException" H1) ∨ (v = some (.int (nI 2)) ∧ (fun (E : String) (H1 : Heap) => (E = "java/lang/IndexOutOfBoundsException" ∧ ¬ (vp_in b nb ∧ vp_in x (R - 1)) ∧ xext H H1) ∨ (E = "java/lang/IllegalStateException" ∧ (vp_in b nb ∧ vp_in x (R - 1)) ∧ (un x.toNatClampNeg = 0 ∨ ¬ lo x.toNatClampNeg = (-1)) ∧ xext H H1)) "java/lang/IllegalStateException" H1)) (fun _ _ => False) := by
  refine xbodyH (hh := [(0, 10, 13, 13), (0, 10, 17, 25)]) (cc := cL_nest) (maxL := 5) (ret := (some .int)) (C := RL) (lv := [(0, .ref (ad 0)), (1, .int (b)), (2, .int (x)), (3, .ref o)]) (by decide) rfl rfl (Nat.le_of_ble_eq_true rfl) rfl ?_
  intro p e s m below meth c d0 hx hb hr hts hown hlocks hml hxt hnm0 hK hb0 hH0 hS hd0 ls hl
  obtain ⟨⟨zF2, zF8⟩, ⟨zR2, zR8⟩⟩ := id hW.1
  have zB4 := hW.2.1
  refine lv_aload_n hx hb dL_nest_0 rfl (lv_at hl 3 rfl) ?_
  refine lv_iconst (v := nI 0) hx hb dL_nest_1 (by decide) ?_
  refine lv_aload_n hx hb dL_nest_2 rfl (lv_at hl 0 rfl) ?_
  refine lv_iload_n hx hb dL_nest_3 rfl (lv_at hl 1 rfl) ?_
  refine lv_iload_n hx hb dL_nest_4 rfl (lv_at hl 2 rfl) ?_
  have cw_1 := cwV (R := rm_L_nest) (rm := rm_X6_nest) 2 (hts d0) gL_nest_X6_nest rfl rfl rfl (by decide +kernel) ⟨Nat.le_of_ble_eq_true rfl, Nat.le_of_ble_eq_true rfl⟩
  refine xcall hd0 (xintoV (b := (ad 0)) (As := [.int (b), .int (x)]) (rest := [.int (nI 0), .ref o]) ⟨hx, hb, hml, hown, hts _⟩ cw_1 (va_recv hK.1 (x1 (hX.o_)) (ci := 7) (q0 := 0) rfl rfl) rfl rfl hl.1 rfl (lv_room (Nat.le_of_ble_eq_true rfl)) dL_nest_5) (c_X6_nest (l := l) (G := G) (ty := ty) (b0 := b0) hfl hX hW hSk) (xoweB cw_1.1) hK hb0 hS (Nat.le_of_ble_eq_true rfl) (Nat.le_of_ble_eq_true rfl) (fun E_1 ce_1 q9_1 H_1 locs_1 d0 hd0 hp_1 hS hce_1 hcv_1 hcl_1 => ?_) (fun v_1 H_1 locs_1 d0 hd0 hp_1 hS => ?_)
  · rcases (show E_1 = "java/lang/IndexOutOfBoundsException" ∨ E_1 = "java/lang/IllegalStateException" from (by rcases hp_1 with h | h; exact Or.inl h.1; exact Or.inr h.1)) with rfl | rfl
    · refine xcatch (own := RL) (hh := [(0, 10, 13, 13), (0, 10, 17, 25)]) (name := "java/lang/IndexOutOfBoundsException") hown hxt [] (⟨0, 10, 13, 13⟩ : ExceptionTableEntry) [(⟨0, 10, 17, 25⟩ : ExceptionTableEntry)] rfl (fun z hz => absurd hz List.not_mem_nil) (by decide) (by decide) (hts d0 _ hw_L_nest_1) (by decide +kernel) hK hce_1 hcv_1 hcl_1 ?_
      show W p l e _ (s.setDrawn _) m _ below meth c _ _ _ _ _ (F0 m 13 ls [.ref q9_1])
      refine lv_astore (lv' := [(4, .ref q9_1), (0, .ref (ad 0)), (1, .int (b)), (2, .int (x)), (3, .ref o)]) hx hb dL_nest_13 hl (by decide) rfl (fun ls hl => ?_)
      refine lv_iconst (v := nI 1) hx hb dL_nest_15 (by decide) ?_
      exact xiret hd0 hx hb hr hlocks hS (Nat.le_of_ble_eq_true rfl) (Nat.le_of_ble_eq_true rfl) dL_nest_16 (Or.inr (Or.inl ⟨rfl, hp_1⟩))
    · refine xcatch (own := RL) (hh := [(0, 10, 13, 13), (0, 10, 17, 25)]) (name := "java/lang/IllegalStateException") hown hxt [(⟨0, 10, 13, 13⟩ : ExceptionTableEntry)] (⟨0, 10, 17, 25⟩ : ExceptionTableEntry) [] rfl (fun z hz => by cases List.mem_singleton.mp hz; exact ⟨by decide, _, (hts d0 _ hw_L_nest_1), by decide⟩) (by decide) (by decide) (hts d0 _ hw_L_nest_2) (by decide +kernel) hK hce_1 hcv_1 hcl_1 ?_
      show W p l e _ (s.setDrawn _) m _ below meth c _ _ _ _ _ (F0 m 17 ls [.ref q9_1])
      refine lv_astore (lv' := [(4, .ref q9_1), (0, .ref (ad 0)), (1, .int (b)), (2, .int (x)), (3, .ref o)]) hx hb dL_nest_17 hl (by decide) rfl (fun ls hl => ?_)
      refine lv_iconst (v := nI 2) hx hb dL_nest_19 (by decide) ?_
      exact xiret hd0 hx hb hr hlocks hS (Nat.le_of_ble_eq_true rfl) (Nat.le_of_ble_eq_true rfl) dL_nest_20 (Or.inr (Or.inr ⟨rfl, hp_1⟩))
  · obtain ⟨bv, hbv_1⟩ : ∃ bv : Int32, v_1 = some (.int bv) := by obtain ⟨-, -, -, _, _, _, -, -, h | ⟨-, k, -, h, -⟩ | h⟩ := hp_1; exact ⟨_, h.1⟩; exact ⟨_, h⟩; exact ⟨_, h.1⟩
    subst hbv_1
    have hk_1 : H_1[o]? = H[o]? := by obtain ⟨-, -, -, _, _, _, hz, -⟩ := hp_1; exact hz.fr_ o hco.lt hno
    show W p l e _ (s.setDrawn _) m _ below meth c _ _ _ _ _ (F0 m 8 ls [.int (bv), .int (nI 0), .ref o])
    refine lv_i2l (v := (bv).toInt64) hx hb dL_nest_8 rfl ?_
    refine xlastN (s := s.setDrawn d0) (j := 0) (x := (bv).toInt64) hx hb hK.1 3 (hco.kept hk_1) hS ho rfl (xix_of (by omega) (by omega)) dL_nest_9 (fun H_2 locs_2 hs_2 hS => ?_)
    have hc_2 : xc G o (.inl (ty 3, 1, .inr (.inl ((vp_updL fo 0 ((bv).toInt64)))))) H_2 := hs_2.1
    refine lv_goto (tgt := 21) hx hb dL_nest_10 (by decide) ?_
    refine lv_iconst (v := nI 0) hx hb dL_nest_21 (by decide) ?_
    exact xiret hd0 hx hb hr hlocks hS (Nat.le_of_ble_eq_true rfl) (Nat.le_of_ble_eq_true rfl) dL_nest_22 (Or.inl ⟨rfl, bv, _, hp_1, hs_2⟩)
set_option maxRecDepth 20000 in
theorem ggL_lies_X6_lies : GoodIn wsL_lies wsX6_lies := goodIn_ca (goodIn_r _ [6, 7, 8, 9, 10, 11, 12, 13, 5, 14, 15, 16, 17, 18, 19, 20, 21, 22, 23, 24, 25, 26, 27, 28, 29, 30] (by decide +kernel) (by decide +kernel)) (goodIn_sub (fun _ h => List.mem_cons_of_mem _ (List.mem_append_right _ h)) (by decide +kernel))
set_option maxRecDepth 20000 in
theorem gL_lies_X6_lies : GoodIn wsL_lies (wsV RL 68 RX6 yX6_lies wsX6_lies) := goodIn_app (goodIn_of _ (by decide +kernel)) ggL_lies_X6_lies
theorem dL_lies_0 : decode cL_lies 0 = .ok (.aload_n 3, 1) := by decide +kernel
theorem dL_lies_1 : decode cL_lies 1 = .ok (.iconst 0, 1) := by decide +kernel
theorem dL_lies_2 : decode cL_lies 2 = .ok (.aload_n 0, 1) := by decide +kernel
theorem dL_lies_3 : decode cL_lies 3 = .ok (.iload_n 1, 1) := by decide +kernel
theorem dL_lies_4 : decode cL_lies 4 = .ok (.iload_n 2, 1) := by decide +kernel
theorem dL_lies_5 : decode cL_lies 5 = .ok (.invokevirtual 68, 3) := by decide +kernel
theorem dL_lies_8 : decode cL_lies 8 = .ok (.i2l, 1) := by decide +kernel
theorem dL_lies_9 : decode cL_lies 9 = .ok (.lastore, 1) := by decide +kernel
theorem dL_lies_10 : decode cL_lies 10 = .ok (.goto 7, 3) := by decide +kernel
theorem dL_lies_13 : decode cL_lies 13 = .ok (.astore 4, 2) := by decide +kernel
theorem dL_lies_15 : decode cL_lies 15 = .ok (.iconst 1, 1) := by decide +kernel
theorem dL_lies_16 : decode cL_lies 16 = .ok (.ireturn, 1) := by decide +kernel
theorem dL_lies_17 : decode cL_lies 17 = .ok (.iconst 0, 1) := by decide +kernel
theorem dL_lies_18 : decode cL_lies 18 = .ok (.ireturn, 1) := by decide +kernel
abbrev rm_L_lies : Room := { frames := 11, cells := 20, slots := 150, locals := 435 }
theorem hw_L_lies_1 : (Cond.classLink RL 13 "java/lang/IndexOutOfBoundsException") ∈ wsL_lies := List.mem_of_getElem? (i := 1) rfl
set_option maxHeartbeats 4000000 in
set_option maxRecDepth 100000 in
/-- a helper of the law -/
theorem c_L_lies {l : Launch} {G : va_G} {ty : Nat → ClassId} {b0 : Nat} {H : Heap} (hfl : l.stackTraces = false) {ad : Nat → Nat} {F R nb : Nat} {pl wi hi fa : Nat → UInt64} {un bu lo la : Nat → Int32} {cx cy bx : Nat → Nat → UInt64} {nf : Nat → Nat} (hX : xCla G ty ad F R pl un cx cy bu nb wi hi nf fa lo la bx H H) (hW : xWf F R nb nf ad b0) {x k : Int32} {o : Nat} {fo : Nat → Int64} (ho : b0 ≤ o) (hco : xc G o (.inl (ty 3, 1, .inr (.inl fo))) H) (hno : ∀ k : Nat, xU F R nb nf k → o ≠ ad k) : xMet l yL_lies wsL_lies rm_L_lies G ty b0 [.ref (ad 0), .int (x), .int (k), .ref o] H (fun v H1 => (v = some (.int (nI 0)) ∧ ∃ (bv : Int32) (H0 : Heap), (fun (v : Option Value) (H1 : Heap) => H = H1 ∧ (vp_in x (R - 1) ∧ vp_in k 2) ∧ v = some (.int (if k = 0 then lo x.toNatClampNeg else la x.toNatClampNeg))) (some (.int bv)) H0 ∧ xset G o (.inl (ty 3, 1, .inr (.inl (vp_updL fo 0 bv.toInt64)))) H0 H1) ∨ (v = some (.int (nI 1)) ∧ (fun (E : String) (H1 : Heap) => E = "java/lang/IndexOutOfBoundsException" ∧ ¬ (vp_in x (R - 1) ∧ vp_in k 2) ∧ xext H H1) "java/lang/IndexOutOfBoundsException" H1)) (fun _ _ => False) := by
  refine xbodyH (hh := [(0, 10, 13, 13)]) (cc := cL_lies) (maxL := 5) (ret := (some .int)) (C := RL) (lv := [(0, .ref (ad 0)), (1, .int (x)), (2, .int (k)), (3, .ref o)]) (by decide) rfl rfl (Nat.le_of_ble_eq_true rfl) rfl ?_
  intro p e s m below meth c d0 hx hb hr hts hown hlocks hml hxt hnm0 hK hb0 hH0 hS hd0 ls hl
  obtain ⟨⟨zF2, zF8⟩, ⟨zR2, zR8⟩⟩ := id hW.1
  have zB4 := hW.2.1
  refine lv_aload_n hx hb dL_lies_0 rfl (lv_at hl 3 rfl) ?_
  refine lv_iconst (v := nI 0) hx hb dL_lies_1 (by decide) ?_
  refine lv_aload_n hx hb dL_lies_2 rfl (lv_at hl 0 rfl) ?_
  refine lv_iload_n hx hb dL_lies_3 rfl (lv_at hl 1 rfl) ?_
  refine lv_iload_n hx hb dL_lies_4 rfl (lv_at hl 2 rfl) ?_
  have cw_1 := cwV (R := rm_L_lies) (rm := rm_X6_lies) 2 (hts d0) gL_lies_X6_lies rfl rfl rfl (by decide +kernel) ⟨Nat.le_of_ble_eq_true rfl, Nat.le_of_ble_eq_true rfl⟩
  refine xcall hd0 (xintoV (b := (ad 0)) (As := [.int (x), .int (k)]) (rest := [.int (nI 0), .ref o]) ⟨hx, hb, hml, hown, hts _⟩ cw_1 (va_recv hK.1 (x1 (hX.o_)) (ci := 7) (q0 := 0) rfl rfl) rfl rfl hl.1 rfl (lv_room (Nat.le_of_ble_eq_true rfl)) dL_lies_5) (c_X6_lies (l := l) (G := G) (ty := ty) (b0 := b0) hfl hX hW) (xoweB cw_1.1) hK hb0 hS (Nat.le_of_ble_eq_true rfl) (Nat.le_of_ble_eq_true rfl) (fun E_1 ce_1 q9_1 H_1 locs_1 d0 hd0 hp_1 hS hce_1 hcv_1 hcl_1 => ?_) (fun v_1 H_1 locs_1 d0 hd0 hp_1 hS => ?_)
  · have hE_1 := hp_1.1
    subst hE_1
    refine xcatch (own := RL) (hh := [(0, 10, 13, 13)]) (name := "java/lang/IndexOutOfBoundsException") hown hxt [] (⟨0, 10, 13, 13⟩ : ExceptionTableEntry) [] rfl (fun z hz => absurd hz List.not_mem_nil) (by decide) (by decide) (hts d0 _ hw_L_lies_1) (by decide +kernel) hK hce_1 hcv_1 hcl_1 ?_
    show W p l e _ (s.setDrawn _) m _ below meth c _ _ _ _ _ (F0 m 13 ls [.ref q9_1])
    refine lv_astore (lv' := [(4, .ref q9_1), (0, .ref (ad 0)), (1, .int (x)), (2, .int (k)), (3, .ref o)]) hx hb dL_lies_13 hl (by decide) rfl (fun ls hl => ?_)
    refine lv_iconst (v := nI 1) hx hb dL_lies_15 (by decide) ?_
    exact xiret hd0 hx hb hr hlocks hS (Nat.le_of_ble_eq_true rfl) (Nat.le_of_ble_eq_true rfl) dL_lies_16 (Or.inr ⟨rfl, hp_1⟩)
  · obtain ⟨bv, hbv_1⟩ : ∃ bv : Int32, v_1 = some (.int bv) := ⟨_, hp_1.2.2⟩
    subst hbv_1
    have hk_1 : H_1[o]? = H[o]? := by rw [← hp_1.1]
    show W p l e _ (s.setDrawn _) m _ below meth c _ _ _ _ _ (F0 m 8 ls [.int (bv), .int (nI 0), .ref o])
    refine lv_i2l (v := (bv).toInt64) hx hb dL_lies_8 rfl ?_
    refine xlastN (s := s.setDrawn d0) (j := 0) (x := (bv).toInt64) hx hb hK.1 3 (hco.kept hk_1) hS ho rfl (xix_of (by omega) (by omega)) dL_lies_9 (fun H_2 locs_2 hs_2 hS => ?_)
    have hc_2 : xc G o (.inl (ty 3, 1, .inr (.inl ((vp_updL fo 0 ((bv).toInt64)))))) H_2 := hs_2.1
    refine lv_goto (tgt := 17) hx hb dL_lies_10 (by decide) ?_
    refine lv_iconst (v := nI 0) hx hb dL_lies_17 (by decide) ?_
    exact xiret hd0 hx hb hr hlocks hS (Nat.le_of_ble_eq_true rfl) (Nat.le_of_ble_eq_true rfl) dL_lies_18 (Or.inl ⟨rfl, bv, _, hp_1, hs_2⟩)
set_option maxRecDepth 20000 in
theorem ggL_staves_X6_staves : GoodIn wsL_staves wsX6_staves := goodIn_ca (goodIn_r _ [6, 7, 8, 9, 10, 11, 12, 13, 5, 14, 15, 16, 17, 18, 19, 20, 21, 22, 23, 24, 25] (by decide +kernel) (by decide +kernel)) (goodIn_sub (fun _ h => List.mem_cons_of_mem _ (List.mem_append_right _ h)) (by decide +kernel))
set_option maxRecDepth 20000 in
theorem gL_staves_X6_staves : GoodIn wsL_staves (wsV RL 71 RX6 yX6_staves wsX6_staves) := goodIn_app (goodIn_of _ (by decide +kernel)) ggL_staves_X6_staves
theorem dL_staves_0 : decode cL_staves 0 = .ok (.aload 5, 2) := by decide +kernel
theorem dL_staves_2 : decode cL_staves 2 = .ok (.iconst 0, 1) := by decide +kernel
theorem dL_staves_3 : decode cL_staves 3 = .ok (.aload_n 0, 1) := by decide +kernel
theorem dL_staves_4 : decode cL_staves 4 = .ok (.dload_n 1, 1) := by decide +kernel
theorem dL_staves_5 : decode cL_staves 5 = .ok (.dload_n 3, 1) := by decide +kernel
theorem dL_staves_6 : decode cL_staves 6 = .ok (.invokevirtual 71, 3) := by decide +kernel
theorem dL_staves_9 : decode cL_staves 9 = .ok (.i2l, 1) := by decide +kernel
theorem dL_staves_10 : decode cL_staves 10 = .ok (.lastore, 1) := by decide +kernel
theorem dL_staves_11 : decode cL_staves 11 = .ok (.goto 7, 3) := by decide +kernel
theorem dL_staves_14 : decode cL_staves 14 = .ok (.astore 6, 2) := by decide +kernel
theorem dL_staves_16 : decode cL_staves 16 = .ok (.iconst 1, 1) := by decide +kernel
theorem dL_staves_17 : decode cL_staves 17 = .ok (.ireturn, 1) := by decide +kernel
theorem dL_staves_18 : decode cL_staves 18 = .ok (.iconst 0, 1) := by decide +kernel
theorem dL_staves_19 : decode cL_staves 19 = .ok (.ireturn, 1) := by decide +kernel
abbrev rm_L_staves : Room := { frames := 11, cells := 20, slots := 150, locals := 435 }
theorem hw_L_staves_1 : (Cond.classLink RL 15 "java/lang/IllegalArgumentException") ∈ wsL_staves := List.mem_of_getElem? (i := 1) rfl
set_option maxHeartbeats 4000000 in
set_option maxRecDepth 100000 in
/-- a helper of the law -/
theorem c_L_staves {l : Launch} {G : va_G} {ty : Nat → ClassId} {b0 : Nat} {H : Heap} (hfl : l.stackTraces = false) {ad : Nat → Nat} {F R nb : Nat} {pl wi hi fa : Nat → UInt64} {un bu lo la : Nat → Int32} {cx cy bx : Nat → Nat → UInt64} {nf : Nat → Nat} (hX : xCla G ty ad F R pl un cx cy bu nb wi hi nf fa lo la bx H H) (hW : xWf F R nb nf ad b0) {x d ew ed : UInt64} (hx9 : vq x ew) (hd9 : vq d ed) {f9 n9 : Nat} (hN : pStav ew ed = true → (if nI 1 < FP.d2i (FP.ddiv (FP.dmul ed 4614256656552045848) ew) - nI 2 then FP.d2i (FP.ddiv (FP.dmul ed 4614256656552045848) ew) - nI 2 else nI 1) = nI f9 ∧ 1 ≤ f9 ∧ f9 ≤ n9 ∧ n9 < 100000 ∧ (∀ n : Nat, f9 ≤ n → n < n9 → xge (FP.dmul (FP.i2d (nI n)) ew) (FP.dmul ed 4614256656552045848) = false) ∧ xge (FP.dmul (FP.i2d (nI n9)) ew) (FP.dmul ed 4614256656552045848) = true) {o : Nat} {fo : Nat → Int64} (ho : b0 ≤ o) (hco : xc G o (.inl (ty 3, 1, .inr (.inl fo))) H) (hno : ∀ k : Nat, xU F R nb nf k → o ≠ ad k) : xMet l yL_staves wsL_staves rm_L_staves G ty b0 [.ref (ad 0), .double x, .double d, .ref o] H (fun v H1 => (v = some (.int (nI 0)) ∧ ∃ (bv : Int32) (H0 : Heap), (fun (v : Option Value) (H1 : Heap) => H = H1 ∧ pStav ew ed = true ∧ v = some (.int (nI n9))) (some (.int bv)) H0 ∧ xset G o (.inl (ty 3, 1, .inr (.inl (vp_updL fo 0 bv.toInt64)))) H0 H1) ∨ (v = some (.int (nI 1)) ∧ (fun (E : String) (H1 : Heap) => E = "java/lang/IllegalArgumentException" ∧ ¬ (pStav ew ed = true) ∧ xext H H1) "java/lang/IllegalArgumentException" H1)) (fun _ _ => False) := by
  refine xbodyH (hh := [(0, 11, 14, 15)]) (cc := cL_staves) (maxL := 7) (ret := (some .int)) (C := RL) (lv := [(0, .ref (ad 0)), (1, .double x), (3, .double d), (5, .ref o)]) (by decide) rfl rfl (Nat.le_of_ble_eq_true rfl) rfl ?_
  intro p e s m below meth c d0 hx hb hr hts hown hlocks hml hxt hnm0 hK hb0 hH0 hS hd0 ls hl
  obtain ⟨⟨zF2, zF8⟩, ⟨zR2, zR8⟩⟩ := id hW.1
  have zB4 := hW.2.1
  refine lv_aload hx hb dL_staves_0 (lv_at hl 3 rfl) ?_
  refine lv_iconst (v := nI 0) hx hb dL_staves_2 (by decide) ?_
  refine lv_aload_n hx hb dL_staves_3 rfl (lv_at hl 0 rfl) ?_
  refine lv_dload_n hx hb dL_staves_4 rfl (lv_at hl 1 rfl) ?_
  refine lv_dload_n hx hb dL_staves_5 rfl (lv_at hl 2 rfl) ?_
  have cw_1 := cwV (R := rm_L_staves) (rm := rm_X6_staves) 2 (hts d0) gL_staves_X6_staves rfl rfl rfl (by decide +kernel) ⟨Nat.le_of_ble_eq_true rfl, Nat.le_of_ble_eq_true rfl⟩
  refine xcall hd0 (xintoV (b := (ad 0)) (As := [.double x, .double d]) (rest := [.int (nI 0), .ref o]) ⟨hx, hb, hml, hown, hts _⟩ cw_1 (va_recv hK.1 (x1 (hX.o_)) (ci := 7) (q0 := 0) rfl rfl) rfl rfl hl.1 rfl (lv_room (Nat.le_of_ble_eq_true rfl)) dL_staves_6) (c_X6_staves (l := l) (G := G) (ty := ty) (b0 := b0) hfl hx9 hd9 hN) (xoweB cw_1.1) hK hb0 hS (Nat.le_of_ble_eq_true rfl) (Nat.le_of_ble_eq_true rfl) (fun E_1 ce_1 q9_1 H_1 locs_1 d0 hd0 hp_1 hS hce_1 hcv_1 hcl_1 => ?_) (fun v_1 H_1 locs_1 d0 hd0 hp_1 hS => ?_)
  · have hE_1 := hp_1.1
    subst hE_1
    refine xcatch (own := RL) (hh := [(0, 11, 14, 15)]) (name := "java/lang/IllegalArgumentException") hown hxt [] (⟨0, 11, 14, 15⟩ : ExceptionTableEntry) [] rfl (fun z hz => absurd hz List.not_mem_nil) (by decide) (by decide) (hts d0 _ hw_L_staves_1) (by decide +kernel) hK hce_1 hcv_1 hcl_1 ?_
    show W p l e _ (s.setDrawn _) m _ below meth c _ _ _ _ _ (F0 m 14 ls [.ref q9_1])
    refine lv_astore (lv' := [(6, .ref q9_1), (0, .ref (ad 0)), (1, .double x), (3, .double d), (5, .ref o)]) hx hb dL_staves_14 hl (by decide) rfl (fun ls hl => ?_)
    refine lv_iconst (v := nI 1) hx hb dL_staves_16 (by decide) ?_
    exact xiret hd0 hx hb hr hlocks hS (Nat.le_of_ble_eq_true rfl) (Nat.le_of_ble_eq_true rfl) dL_staves_17 (Or.inr ⟨rfl, hp_1⟩)
  · obtain ⟨bv, hbv_1⟩ : ∃ bv : Int32, v_1 = some (.int bv) := ⟨_, hp_1.2.2⟩
    subst hbv_1
    have hk_1 : H_1[o]? = H[o]? := by rw [← hp_1.1]
    show W p l e _ (s.setDrawn _) m _ below meth c _ _ _ _ _ (F0 m 9 ls [.int (bv), .int (nI 0), .ref o])
    refine lv_i2l (v := (bv).toInt64) hx hb dL_staves_9 rfl ?_
    refine xlastN (s := s.setDrawn d0) (j := 0) (x := (bv).toInt64) hx hb hK.1 3 (hco.kept hk_1) hS ho rfl (xix_of (by omega) (by omega)) dL_staves_10 (fun H_2 locs_2 hs_2 hS => ?_)
    have hc_2 : xc G o (.inl (ty 3, 1, .inr (.inl ((vp_updL fo 0 ((bv).toInt64)))))) H_2 := hs_2.1
    refine lv_goto (tgt := 18) hx hb dL_staves_11 (by decide) ?_
    refine lv_iconst (v := nI 0) hx hb dL_staves_18 (by decide) ?_
    exact xiret hd0 hx hb hr hlocks hS (Nat.le_of_ble_eq_true rfl) (Nat.le_of_ble_eq_true rfl) dL_staves_19 (Or.inl ⟨rfl, bv, _, hp_1, hs_2⟩)
set_option maxRecDepth 20000 in
theorem ggL_closes_X6_closes : GoodIn wsL_closes wsX6_closes := goodIn_ca (goodIn_r _ [6, 7, 8, 9, 10, 11, 5, 12, 13, 14, 15, 16, 17, 18, 19, 20, 21] (by decide +kernel) (by decide +kernel)) (goodIn_sub (fun _ h => List.mem_cons_of_mem _ (List.mem_append_right _ h)) (by decide +kernel))
set_option maxRecDepth 20000 in
theorem gL_closes_X6_closes : GoodIn wsL_closes (wsV RL 74 RX6 yX6_closes wsX6_closes) := goodIn_app (goodIn_of _ (by decide +kernel)) ggL_closes_X6_closes
theorem dL_closes_0 : decode cL_closes 0 = .ok (.aload 6, 2) := by decide +kernel
theorem dL_closes_2 : decode cL_closes 2 = .ok (.iconst 0, 1) := by decide +kernel
theorem dL_closes_3 : decode cL_closes 3 = .ok (.aload_n 0, 1) := by decide +kernel
theorem dL_closes_4 : decode cL_closes 4 = .ok (.iload_n 1, 1) := by decide +kernel
theorem dL_closes_5 : decode cL_closes 5 = .ok (.dload_n 2, 1) := by decide +kernel
theorem dL_closes_6 : decode cL_closes 6 = .ok (.dload 4, 2) := by decide +kernel
theorem dL_closes_8 : decode cL_closes 8 = .ok (.invokevirtual 74, 3) := by decide +kernel
theorem dL_closes_11 : decode cL_closes 11 = .ok (.dastore, 1) := by decide +kernel
theorem dL_closes_12 : decode cL_closes 12 = .ok (.goto 7, 3) := by decide +kernel
theorem dL_closes_15 : decode cL_closes 15 = .ok (.astore 7, 2) := by decide +kernel
theorem dL_closes_17 : decode cL_closes 17 = .ok (.iconst 1, 1) := by decide +kernel
theorem dL_closes_18 : decode cL_closes 18 = .ok (.ireturn, 1) := by decide +kernel
theorem dL_closes_19 : decode cL_closes 19 = .ok (.iconst 0, 1) := by decide +kernel
theorem dL_closes_20 : decode cL_closes 20 = .ok (.ireturn, 1) := by decide +kernel
abbrev rm_L_closes : Room := { frames := 11, cells := 20, slots := 150, locals := 435 }
theorem hw_L_closes_1 : (Cond.classLink RL 15 "java/lang/IllegalArgumentException") ∈ wsL_closes := List.mem_of_getElem? (i := 1) rfl
set_option maxHeartbeats 4000000 in
set_option maxRecDepth 100000 in
/-- a helper of the law -/
theorem c_L_closes {l : Launch} {G : va_G} {ty : Nat → ClassId} {b0 : Nat} {H : Heap} (hfl : l.stackTraces = false) {ad : Nat → Nat} {F R nb : Nat} {pl wi hi fa : Nat → UInt64} {un bu lo la : Nat → Int32} {cx cy bx : Nat → Nat → UInt64} {nf : Nat → Nat} (hX : xCla G ty ad F R pl un cx cy bu nb wi hi nf fa lo la bx H H) (hW : xWf F R nb nf ad b0) {n : Int32} {x d ew ed : UInt64} (hx9 : vq x ew) (hd9 : vq d ed) {o : Nat} {fo : Nat → UInt64} (ho : b0 ≤ o) (hco : xc G o (.inl (ty 0, 1, .inr (.inr (.inr (.inl fo))))) H) (hno : ∀ k : Nat, xU F R nb nf k → o ≠ ad k) : xMet l yL_closes wsL_closes rm_L_closes G ty b0 [.ref (ad 0), .int (n), .double x, .double d, .ref o] H (fun v H1 => (v = some (.int (nI 0)) ∧ ∃ (bv : UInt64) (H0 : Heap), (fun (v : Option Value) (H1 : Heap) => H = H1 ∧ (pStav ew ed = true ∧ ¬ n < nI 1 ∧ ¬ nI 100000 < n) ∧ ∃ z9 : UInt64, v = some (.double z9) ∧ vq z9 (FP.dsub (FP.dmul (FP.i2d n) ew) (FP.dmul ed 4614256656552045848))) (some (.double bv)) H0 ∧ xset G o (.inl (ty 0, 1, .inr (.inr (.inr (.inl (vf_upd fo 0 bv)))))) H0 H1) ∨ (v = some (.int (nI 1)) ∧ (fun (E : String) (H1 : Heap) => E = "java/lang/IllegalArgumentException" ∧ ¬ (pStav ew ed = true ∧ ¬ n < nI 1 ∧ ¬ nI 100000 < n) ∧ xext H H1) "java/lang/IllegalArgumentException" H1)) (fun _ _ => False) := by
  refine xbodyH (hh := [(0, 12, 15, 15)]) (cc := cL_closes) (maxL := 8) (ret := (some .int)) (C := RL) (lv := [(0, .ref (ad 0)), (1, .int (n)), (2, .double x), (4, .double d), (6, .ref o)]) (by decide) rfl rfl (Nat.le_of_ble_eq_true rfl) rfl ?_
  intro p e s m below meth c d0 hx hb hr hts hown hlocks hml hxt hnm0 hK hb0 hH0 hS hd0 ls hl
  obtain ⟨⟨zF2, zF8⟩, ⟨zR2, zR8⟩⟩ := id hW.1
  have zB4 := hW.2.1
  refine lv_aload hx hb dL_closes_0 (lv_at hl 4 rfl) ?_
  refine lv_iconst (v := nI 0) hx hb dL_closes_2 (by decide) ?_
  refine lv_aload_n hx hb dL_closes_3 rfl (lv_at hl 0 rfl) ?_
  refine lv_iload_n hx hb dL_closes_4 rfl (lv_at hl 1 rfl) ?_
  refine lv_dload_n hx hb dL_closes_5 rfl (lv_at hl 2 rfl) ?_
  refine lv_dload hx hb dL_closes_6 (lv_at hl 3 rfl) ?_
  have cw_1 := cwV (R := rm_L_closes) (rm := rm_X6_closes) 3 (hts d0) gL_closes_X6_closes rfl rfl rfl (by decide +kernel) ⟨Nat.le_of_ble_eq_true rfl, Nat.le_of_ble_eq_true rfl⟩
  refine xcall hd0 (xintoV (b := (ad 0)) (As := [.int (n), .double x, .double d]) (rest := [.int (nI 0), .ref o]) ⟨hx, hb, hml, hown, hts _⟩ cw_1 (va_recv hK.1 (x1 (hX.o_)) (ci := 7) (q0 := 0) rfl rfl) rfl rfl hl.1 rfl (lv_room (Nat.le_of_ble_eq_true rfl)) dL_closes_8) (c_X6_closes (l := l) (G := G) (ty := ty) (b0 := b0) hfl hx9 hd9) (xoweB cw_1.1) hK hb0 hS (Nat.le_of_ble_eq_true rfl) (Nat.le_of_ble_eq_true rfl) (fun E_1 ce_1 q9_1 H_1 locs_1 d0 hd0 hp_1 hS hce_1 hcv_1 hcl_1 => ?_) (fun v_1 H_1 locs_1 d0 hd0 hp_1 hS => ?_)
  · have hE_1 := hp_1.1
    subst hE_1
    refine xcatch (own := RL) (hh := [(0, 12, 15, 15)]) (name := "java/lang/IllegalArgumentException") hown hxt [] (⟨0, 12, 15, 15⟩ : ExceptionTableEntry) [] rfl (fun z hz => absurd hz List.not_mem_nil) (by decide) (by decide) (hts d0 _ hw_L_closes_1) (by decide +kernel) hK hce_1 hcv_1 hcl_1 ?_
    show W p l e _ (s.setDrawn _) m _ below meth c _ _ _ _ _ (F0 m 15 ls [.ref q9_1])
    refine lv_astore (lv' := [(7, .ref q9_1), (0, .ref (ad 0)), (1, .int (n)), (2, .double x), (4, .double d), (6, .ref o)]) hx hb dL_closes_15 hl (by decide) rfl (fun ls hl => ?_)
    refine lv_iconst (v := nI 1) hx hb dL_closes_17 (by decide) ?_
    exact xiret hd0 hx hb hr hlocks hS (Nat.le_of_ble_eq_true rfl) (Nat.le_of_ble_eq_true rfl) dL_closes_18 (Or.inr ⟨rfl, hp_1⟩)
  · obtain ⟨bv, hbv_1⟩ : ∃ bv : UInt64, v_1 = some (.double bv) := ⟨_, hp_1.2.2.choose_spec.1⟩
    subst hbv_1
    have hk_1 : H_1[o]? = H[o]? := by rw [← hp_1.1]
    show W p l e _ (s.setDrawn _) m _ below meth c _ _ _ _ _ (F0 m 11 ls [.double bv, .int (nI 0), .ref o])
    refine xdastN (s := s.setDrawn d0) (j := 0) (x := bv) hx hb hK.1 0 (hco.kept hk_1) hS ho rfl (xix_of (by omega) (by omega)) dL_closes_11 (fun H_2 locs_2 hs_2 hS => ?_)
    have hc_2 : xc G o (.inl (ty 0, 1, .inr (.inr (.inr (.inl ((vf_upd fo 0 bv))))))) H_2 := hs_2.1
    refine lv_goto (tgt := 19) hx hb dL_closes_12 (by decide) ?_
    refine lv_iconst (v := nI 0) hx hb dL_closes_19 (by decide) ?_
    exact xiret hd0 hx hb hr hlocks hS (Nat.le_of_ble_eq_true rfl) (Nat.le_of_ble_eq_true rfl) dL_closes_20 (Or.inl ⟨rfl, bv, _, hp_1, hs_2⟩)
