/-! THE CLASS: what is asked and told (1). -/
theorem xext.siz {H H1 : Heap} (h : xext H H1) : H.size ≤ H1.size := by
  rcases Nat.eq_zero_or_pos H.size with e | e
  · rw [e]; exact Nat.zero_le _
  · have h1 := h (H.size - 1) (by omega)
    rw [Array.getElem?_eq_getElem (show H.size - 1 < H.size by omega)] at h1
    have := (Array.getElem?_eq_some_iff.mp h1).1
    omega
theorem xc.ext {G : va_G} {a : Nat} {e : va_E} {H H1 : Heap} (h : xc G a e H) (hx : xext H H1) : xc G a e H1 := h.kept (hx a h.lt)
theorem xL.ext {G : va_G} {ty : Nat → ClassId} {a d n : Nat} {f : Nat → Nat} {H H1 : Heap} (h : xL G ty a d n f H) (hx : xext H H1) : xL G ty a d n f H1 := by
  obtain ⟨mc, g1, g2⟩ := h
  exact ⟨mc, g1.ext hx, fun z => (g2 z).ext hx⟩
theorem xN3.ext {G : va_G} {a : Nat} {H H1 : Heap} (h : xN3 G a H) (hx : xext H H1) : xN3 G a H1 := by
  obtain ⟨u, v, w, g⟩ := h
  exact ⟨u, v, w, g.ext hx⟩
theorem xCla.ext {G : va_G} {ty : Nat → ClassId} {ad : Nat → Nat} {F R nb : Nat} {pl wi hi fa : Nat → UInt64} {un bu lo la : Nat → Int32} {cx cy bx : Nat → Nat → UInt64} {nf : Nat → Nat} {K0 H H1 : Heap} (h : xCla G ty ad F R pl un cx cy bu nb wi hi nf fa lo la bx K0 H) (hx : xext H H1) : xCla G ty ad F R pl un cx cy bu nb wi hi nf fa lo la bx K0 H1 :=
  ⟨h.o_.ext hx, h.rows_.ext hx, h.strips_.ext hx, h.near_.ext hx, h.far_.ext hx, fun r z => (h.row_ r z).ext hx, fun r z => (h.parr_ r z).ext hx, fun r z f y => (h.place_ r z f y).ext hx, fun r z => (h.strip_ r z).ext hx, fun r z => (h.cx_ r z).ext hx, fun r z => (h.cy_ r z).ext hx, fun r z => (h.bt_ r z).ext hx, fun r z => (h.box_ r z).ext hx, h.list_.ext hx, fun r z => (h.board_ r z).ext hx, fun r z => (h.fls_ r z).ext hx, fun r z k y => (h.flt_ r z k y).ext hx, Nat.le_trans h.siz_ hx.siz, fun q a b => (hx q (Nat.lt_of_lt_of_le a h.siz_)).trans (h.fr_ q a b)⟩
theorem xin_le1 {x : Int32} {n : Nat} (h0 : ¬ x < 0) (h1 : x ≤ nI n) (hn : n < 2 ^ 30) : vp_in x (n + 1) := by
  obtain ⟨j, hj, rfl⟩ := nI_of h0
  exact vp_in_nI (by have := (nI_leI hj (by omega)).mp h1; omega) (by omega)
theorem xin_gt1 {x : Int32} {n : Nat} (h1 : ¬ x ≤ nI n) (hn : n < 2 ^ 30) : ¬ vp_in x (n + 1) := by
  intro z
  obtain ⟨j, hj, rfl⟩ := vp_in_of z (by omega)
  exact h1 (nI_le (by omega) (by omega))
set_option maxRecDepth 20000 in
theorem ggX6_distance_X6_placeAt : GoodIn wsX6_distance wsX6_placeAt := goodIn_ca (goodIn_r _ [5, 6, 7, 8, 9, 10, 11, 12, 4, 13, 14, 25, 26, 27, 28, 29, 30, 31] (by decide +kernel) (by decide +kernel)) (goodIn_sub (fun _ h => List.mem_cons_of_mem _ (List.mem_append_right _ h)) (by decide +kernel))
set_option maxRecDepth 20000 in
theorem gX6_distance_X6_placeAt : GoodIn wsX6_distance (wsV RX6 52 RX6 yX6_placeAt wsX6_placeAt) := goodIn_app (goodIn_of _ (by decide +kernel)) ggX6_distance_X6_placeAt
set_option maxRecDepth 20000 in
theorem ggX6_distance_X6_apart : GoodIn wsX6_distance wsX6_apart := goodIn_r _ [17, 18, 19, 20, 21, 22, 4, 23, 24, 32, 33, 34] (by decide +kernel) (by decide +kernel)
set_option maxRecDepth 20000 in
theorem gX6_distance_X6_apart : GoodIn wsX6_distance (va_wsS RX6 86 yX6_apart wsX6_apart) := goodIn_app (goodIn_of _ (by decide +kernel)) ggX6_distance_X6_apart
theorem dX6_distance_0 : decode cX6_distance 0 = .ok (.aload_n 0, 1) := by decide +kernel
theorem dX6_distance_1 : decode cX6_distance 1 = .ok (.iload_n 1, 1) := by decide +kernel
theorem dX6_distance_2 : decode cX6_distance 2 = .ok (.iload_n 2, 1) := by decide +kernel
theorem dX6_distance_3 : decode cX6_distance 3 = .ok (.invokevirtual 52, 3) := by decide +kernel
theorem dX6_distance_6 : decode cX6_distance 6 = .ok (.aload_n 0, 1) := by decide +kernel
theorem dX6_distance_7 : decode cX6_distance 7 = .ok (.iload_n 3, 1) := by decide +kernel
theorem dX6_distance_8 : decode cX6_distance 8 = .ok (.iload 4, 2) := by decide +kernel
theorem dX6_distance_10 : decode cX6_distance 10 = .ok (.invokevirtual 52, 3) := by decide +kernel
theorem dX6_distance_13 : decode cX6_distance 13 = .ok (.invokestatic 86, 3) := by decide +kernel
theorem dX6_distance_16 : decode cX6_distance 16 = .ok (.dreturn, 1) := by decide +kernel
abbrev rm_X6_distance : Room := { frames := 10, cells := 20, slots := 150, locals := 400 }
set_option maxHeartbeats 4000000 in
set_option maxRecDepth 100000 in
/-- distance -/
theorem c_X6_distance {l : Launch} {G : va_G} {ty : Nat → ClassId} {b0 : Nat} {H : Heap} (hfl : l.stackTraces = false) {ad : Nat → Nat} {F R nb : Nat} {pl wi hi fa : Nat → UInt64} {un bu lo la : Nat → Int32} {cx cy bx : Nat → Nat → UInt64} {nf : Nat → Nat} {K0 : Heap} (hX : xCla G ty ad F R pl un cx cy bu nb wi hi nf fa lo la bx K0 H) (hW : xWf F R nb nf ad b0) {f r g q : Int32} : xMet l yX6_distance wsX6_distance rm_X6_distance G ty b0 [.ref (ad 0), .int (f), .int (r), .int (g), .int (q)] H (fun v H1 => H = H1 ∧ ((vp_in f F ∧ vp_in r R) ∧ (vp_in g F ∧ vp_in q R)) ∧ ∃ z9 : UInt64, v = some (.double z9) ∧ vq z9 (pFar pl f.toNatClampNeg r.toNatClampNeg g.toNatClampNeg q.toNatClampNeg)) (fun E H1 => E = "java/lang/IndexOutOfBoundsException" ∧ ¬ ((vp_in f F ∧ vp_in r R) ∧ (vp_in g F ∧ vp_in q R)) ∧ xext H H1) := by
  refine xbody (cc := cX6_distance) (maxL := 5) (ret := (some .double)) (C := RX6) (lv := [(0, .ref (ad 0)), (1, .int (f)), (2, .int (r)), (3, .int (g)), (4, .int (q))]) (by decide) rfl rfl (Nat.le_of_ble_eq_true rfl) rfl ?_
  intro p e s m below meth c d0 hx hb hr hts hown hlocks hml hxt hnm0 hK hb0 hH0 hS hd0 ls hl
  obtain ⟨⟨zF2, zF8⟩, ⟨zR2, zR8⟩⟩ := id hW.1
  have zB4 := hW.2.1
  refine lv_aload_n hx hb dX6_distance_0 rfl (lv_at hl 0 rfl) ?_
  refine lv_iload_n hx hb dX6_distance_1 rfl (lv_at hl 1 rfl) ?_
  refine lv_iload_n hx hb dX6_distance_2 rfl (lv_at hl 2 rfl) ?_
  have cw_1 := cwV (R := rm_X6_distance) (rm := rm_X6_placeAt) 2 (hts d0) gX6_distance_X6_placeAt rfl rfl rfl (by decide +kernel) ⟨Nat.le_of_ble_eq_true rfl, Nat.le_of_ble_eq_true rfl⟩
  refine xcall hd0 (xintoV (b := (ad 0)) (As := [.int (f), .int (r)]) (rest := []) ⟨hx, hb, hml, hown, hts _⟩ cw_1 (va_recv hK.1 (x1 (hX.o_)) (ci := 7) (q0 := 0) rfl rfl) rfl rfl hl.1 rfl (lv_room (Nat.le_of_ble_eq_true rfl)) dX6_distance_3) (c_X6_placeAt (l := l) (G := G) (ty := ty) (b0 := b0) hfl hX hW (f := f) (r := r)) (xoweB cw_1.1) hK hb0 hS (Nat.le_of_ble_eq_true rfl) (Nat.le_of_ble_eq_true rfl) (fun E_1 ce_1 q9_1 H_1 locs_1 d0 hd0 hp_1 hS hce_1 hcv_1 hcl_1 => ?_) (fun v_1 H_1 locs_1 d0 hd0 hp_1 hS => ?_)
  · exact xout hd0 hxt hlocks hce_1 hcv_1 hcl_1 hS (Nat.le_of_ble_eq_true rfl) (Nat.le_of_ble_eq_true rfl) ⟨hp_1.1, fun z => hp_1.2.1 z.1, hp_1.2.2⟩
  · obtain ⟨rfl, ⟨z_f, z_r⟩, hv_1⟩ := hp_1
    obtain ⟨f9, hf9, ef9⟩ := vp_in_of z_f (by omega)
    obtain ⟨r9, hr9, er9⟩ := vp_in_of z_r (by omega)
    subst ef9 er9
    rw [nN_nI (show f9 < 2 ^ 31 by omega), nN_nI (show r9 < 2 ^ 31 by omega)] at hv_1
    subst hv_1
    show W p l e _ (s.setDrawn _) m _ below meth c _ _ _ _ _ (F0 m 6 ls [.ref (ad (100 + 8 * r9 + f9))])
    refine lv_aload_n hx hb dX6_distance_6 rfl (lv_at hl 0 rfl) ?_
    refine lv_iload_n hx hb dX6_distance_7 rfl (lv_at hl 3 rfl) ?_
    refine lv_iload hx hb dX6_distance_8 (lv_at hl 4 rfl) ?_
    have cw_2 := cwV (R := rm_X6_distance) (rm := rm_X6_placeAt) 2 (hts d0) gX6_distance_X6_placeAt rfl rfl rfl (by decide +kernel) ⟨Nat.le_of_ble_eq_true rfl, Nat.le_of_ble_eq_true rfl⟩
    refine xcall hd0 (xintoV (b := (ad 0)) (As := [.int (g), .int (q)]) (rest := [.ref (ad (100 + 8 * r9 + f9))]) ⟨hx, hb, hml, hown, hts _⟩ cw_2 (va_recv hK.1 (x1 (hX.o_)) (ci := 7) (q0 := 0) rfl rfl) rfl rfl hl.1 rfl (lv_room (Nat.le_of_ble_eq_true rfl)) dX6_distance_10) (c_X6_placeAt (l := l) (G := G) (ty := ty) (b0 := b0) hfl hX hW (f := g) (r := q)) (xoweB cw_2.1) hK hb0 hS (Nat.le_of_ble_eq_true rfl) (Nat.le_of_ble_eq_true rfl) (fun E_2 ce_2 q9_2 H_2 locs_2 d0 hd0 hp_2 hS hce_2 hcv_2 hcl_2 => ?_) (fun v_2 H_2 locs_2 d0 hd0 hp_2 hS => ?_)
    · exact xout hd0 hxt hlocks hce_2 hcv_2 hcl_2 hS (Nat.le_of_ble_eq_true rfl) (Nat.le_of_ble_eq_true rfl) ⟨hp_2.1, fun z => hp_2.2.1 z.2, hp_2.2.2⟩
    · obtain ⟨rfl, ⟨z_g, z_q⟩, hv_2⟩ := hp_2
      obtain ⟨g9, hg9, eg9⟩ := vp_in_of z_g (by omega)
      obtain ⟨q9, hq9, eq9⟩ := vp_in_of z_q (by omega)
      subst eg9 eq9
      rw [nN_nI (show g9 < 2 ^ 31 by omega), nN_nI (show q9 < 2 ^ 31 by omega)] at hv_2
      subst hv_2
      show W p l e _ (s.setDrawn _) m _ below meth c _ _ _ _ _ (F0 m 13 ls [.ref (ad (100 + 8 * q9 + g9)), .ref (ad (100 + 8 * r9 + f9))])
      have cw_3 := va_cwS (R := rm_X6_distance) (rm := rm_X6_apart) 2 (hts d0) gX6_distance_X6_apart rfl rfl rfl (by decide +kernel) ⟨Nat.le_of_ble_eq_true rfl, Nat.le_of_ble_eq_true rfl⟩
      refine xcall hd0 (xintoS (As := [.ref (ad (100 + 8 * r9 + f9)), .ref (ad (100 + 8 * q9 + g9))]) (rest := []) ⟨hx, hb, hml, hown, hts _⟩ cw_3 rfl rfl hl.1 rfl (lv_room (Nat.le_of_ble_eq_true rfl)) dX6_distance_13) (c_X6_apart (l := l) (G := G) (ty := ty) (b0 := b0) (hX.place_ _ (by omega) _ (by omega)) (hX.place_ _ (by omega) _ (by omega)) (vq_rf _) (vq_rf _) (vq_rf _) (vq_rf _) (vq_rf _) (vq_rf _)) (xoweB cw_3.1) hK hb0 hS (Nat.le_of_ble_eq_true rfl) (Nat.le_of_ble_eq_true rfl) (fun E_3 ce_3 q9_3 H_3 locs_3 d0 hd0 hp_3 hS hce_3 hcv_3 hcl_3 => ?_) (fun v_3 H_3 locs_3 d0 hd0 hp_3 hS => ?_)
      · exact hp_3.elim
      · obtain ⟨rfl, r_3, rfl, q_3⟩ := hp_3
        show W p l e _ (s.setDrawn _) m _ below meth c _ _ _ _ _ (F0 m 16 ls [.double r_3])
        exact xdret hd0 hx hb hr hlocks hS (Nat.le_of_ble_eq_true rfl) (Nat.le_of_ble_eq_true rfl) dX6_distance_16 ⟨rfl, ⟨⟨z_f, z_r⟩, ⟨z_g, z_q⟩⟩, _, rfl, by rw [nN_nI (by omega), nN_nI (by omega), nN_nI (by omega), nN_nI (by omega)]; exact q_3⟩
set_option maxRecDepth 20000 in
theorem ggX6_flat_X6_stripAt : GoodIn wsX6_flat wsX6_stripAt := goodIn_ca (goodIn_r _ [10, 1, 2, 11, 18, 19, 20, 21, 22, 23] (by decide +kernel) (by decide +kernel)) (goodIn_sub (fun _ h => List.mem_cons_of_mem _ (List.mem_append_left _ (List.mem_append_right _ h))) (by decide +kernel))
set_option maxRecDepth 20000 in
theorem gX6_flat_X6_stripAt : GoodIn wsX6_flat (wsV RX6 90 RX6 yX6_stripAt wsX6_stripAt) := goodIn_app (goodIn_of _ (by decide +kernel)) ggX6_flat_X6_stripAt
set_option maxRecDepth 20000 in
theorem ggX6_flat_X6_needUnrolled : GoodIn wsX6_flat wsX6_needUnrolled := goodIn_ca (goodIn_r _ [14, 15, 16, 17, 24, 25, 26, 27, 28, 29, 30, 31, 32] (by decide +kernel) (by decide +kernel)) (goodIn_sub (fun _ h => List.mem_cons_of_mem _ (List.mem_append_right _ h)) (by decide +kernel))
set_option maxRecDepth 20000 in
theorem gX6_flat_X6_needUnrolled : GoodIn wsX6_flat (va_wsS RX6 114 yX6_needUnrolled wsX6_needUnrolled) := goodIn_app (goodIn_of _ (by decide +kernel)) ggX6_flat_X6_needUnrolled
theorem dX6_flat_0 : decode cX6_flat 0 = .ok (.aload_n 0, 1) := by decide +kernel
theorem dX6_flat_1 : decode cX6_flat 1 = .ok (.iload_n 1, 1) := by decide +kernel
theorem dX6_flat_2 : decode cX6_flat 2 = .ok (.invokevirtual 90, 3) := by decide +kernel
theorem dX6_flat_5 : decode cX6_flat 5 = .ok (.astore 4, 2) := by decide +kernel
theorem dX6_flat_7 : decode cX6_flat 7 = .ok (.iload_n 2, 1) := by decide +kernel
theorem dX6_flat_8 : decode cX6_flat 8 = .ok (.ifCond .lt 13, 3) := by decide +kernel
theorem dX6_flat_11 : decode cX6_flat 11 = .ok (.iload_n 2, 1) := by decide +kernel
theorem dX6_flat_12 : decode cX6_flat 12 = .ok (.iconst 2, 1) := by decide +kernel
theorem dX6_flat_13 : decode cX6_flat 13 = .ok (.aload_n 0, 1) := by decide +kernel
theorem dX6_flat_14 : decode cX6_flat 14 = .ok (.getfield 13, 3) := by decide +kernel
theorem dX6_flat_17 : decode cX6_flat 17 = .ok (.imul, 1) := by decide +kernel
theorem dX6_flat_18 : decode cX6_flat 18 = .ok (.if_icmp .lt 13, 3) := by decide +kernel
theorem dX6_flat_21 : decode cX6_flat 21 = .ok (.new 107, 3) := by decide +kernel
theorem dX6_flat_24 : decode cX6_flat 24 = .ok (.dup, 1) := by decide +kernel
theorem dX6_flat_25 : decode cX6_flat 25 = .ok (.ldc 109, 2) := by decide +kernel
theorem dX6_flat_27 : decode cX6_flat 27 = .ok (.invokespecial 111, 3) := by decide +kernel
theorem dX6_flat_30 : decode cX6_flat 30 = .ok (.athrow, 1) := by decide +kernel
theorem dX6_flat_31 : decode cX6_flat 31 = .ok (.iload_n 3, 1) := by decide +kernel
theorem dX6_flat_32 : decode cX6_flat 32 = .ok (.ifCond .lt 8, 3) := by decide +kernel
theorem dX6_flat_35 : decode cX6_flat 35 = .ok (.iload_n 3, 1) := by decide +kernel
theorem dX6_flat_36 : decode cX6_flat 36 = .ok (.iconst 1, 1) := by decide +kernel
theorem dX6_flat_37 : decode cX6_flat 37 = .ok (.if_icmp .le 13, 3) := by decide +kernel
theorem dX6_flat_40 : decode cX6_flat 40 = .ok (.new 107, 3) := by decide +kernel
theorem dX6_flat_43 : decode cX6_flat 43 = .ok (.dup, 1) := by decide +kernel
theorem dX6_flat_44 : decode cX6_flat 44 = .ok (.ldc 112, 2) := by decide +kernel
theorem dX6_flat_46 : decode cX6_flat 46 = .ok (.invokespecial 111, 3) := by decide +kernel
theorem dX6_flat_49 : decode cX6_flat 49 = .ok (.athrow, 1) := by decide +kernel
theorem dX6_flat_50 : decode cX6_flat 50 = .ok (.aload 4, 2) := by decide +kernel
theorem dX6_flat_52 : decode cX6_flat 52 = .ok (.invokestatic 114, 3) := by decide +kernel
theorem dX6_flat_55 : decode cX6_flat 55 = .ok (.iload_n 3, 1) := by decide +kernel
theorem dX6_flat_56 : decode cX6_flat 56 = .ok (.ifCond .ne 13, 3) := by decide +kernel
theorem dX6_flat_59 : decode cX6_flat 59 = .ok (.aload 4, 2) := by decide +kernel
theorem dX6_flat_61 : decode cX6_flat 61 = .ok (.getfield 118, 3) := by decide +kernel
theorem dX6_flat_64 : decode cX6_flat 64 = .ok (.iload_n 2, 1) := by decide +kernel
theorem dX6_flat_65 : decode cX6_flat 65 = .ok (.daload, 1) := by decide +kernel
theorem dX6_flat_66 : decode cX6_flat 66 = .ok (.goto 10, 3) := by decide +kernel
theorem dX6_flat_69 : decode cX6_flat 69 = .ok (.aload 4, 2) := by decide +kernel
theorem dX6_flat_71 : decode cX6_flat 71 = .ok (.getfield 122, 3) := by decide +kernel
theorem dX6_flat_74 : decode cX6_flat 74 = .ok (.iload_n 2, 1) := by decide +kernel
theorem dX6_flat_75 : decode cX6_flat 75 = .ok (.daload, 1) := by decide +kernel
theorem dX6_flat_76 : decode cX6_flat 76 = .ok (.dreturn, 1) := by decide +kernel
abbrev rm_X6_flat : Room := { frames := 10, cells := 20, slots := 150, locals := 400 }
theorem hw_X6_flat_1 : (Cond.classLink RX6 107 "java/lang/IndexOutOfBoundsException") ∈ wsX6_flat := List.mem_of_getElem? (i := 1) rfl
theorem hw_X6_flat_2 : (Cond.initialized "java/lang/IndexOutOfBoundsException") ∈ wsX6_flat := List.mem_of_getElem? (i := 2) rfl
theorem hw_X6_flat_3 : (Cond.fieldLink RX6 13 "PlankUnroll" "frames" "I") ∈ wsX6_flat := List.mem_of_getElem? (i := 3) rfl
theorem hw_X6_flat_4 : (Cond.fieldLink RX6 118 "PlankUnroll$Strip" "cornerX" "[D") ∈ wsX6_flat := List.mem_of_getElem? (i := 4) rfl
theorem hw_X6_flat_5 : (Cond.fieldLink RX6 122 "PlankUnroll$Strip" "cornerY" "[D") ∈ wsX6_flat := List.mem_of_getElem? (i := 5) rfl
theorem in_X6_flat_X5 : ∀ w ∈ wsX50, w ∈ wsX6_flat := by decide +kernel
theorem in_X6_flat_X6 : ∀ w ∈ wsX60, w ∈ wsX6_flat := by decide +kernel
theorem ht_X6_flat_0 : ∀ w ∈ (vx_atS RX6 111 "java/lang/IndexOutOfBoundsException" ["java/lang/RuntimeException", "java/lang/Exception"]).filter goodWord, w ∈ wsX6_flat := by decide +kernel
set_option maxHeartbeats 4000000 in
set_option maxRecDepth 100000 in
/-- flat -/
theorem c_X6_flat {l : Launch} {G : va_G} {ty : Nat → ClassId} {b0 : Nat} {H : Heap} (hfl : l.stackTraces = false) {ad : Nat → Nat} {F R nb : Nat} {pl wi hi fa : Nat → UInt64} {un bu lo la : Nat → Int32} {cx cy bx : Nat → Nat → UInt64} {nf : Nat → Nat} {K0 : Heap} (hX : xCla G ty ad F R pl un cx cy bu nb wi hi nf fa lo la bx K0 H) (hW : xWf F R nb nf ad b0) {x k q : Int32} : xMet l yX6_flat wsX6_flat rm_X6_flat G ty b0 [.ref (ad 0), .int (x), .int (k), .int (q)] H (fun v H1 => H = H1 ∧ (vp_in x (R - 1) ∧ vp_in k (2 * F) ∧ vp_in q 2) ∧ ¬ un x.toNatClampNeg = 0 ∧ v = some (.double (if q = 0 then cx x.toNatClampNeg k.toNatClampNeg else cy x.toNatClampNeg k.toNatClampNeg))) (fun E H1 => (E = "java/lang/IndexOutOfBoundsException" ∧ ¬ (vp_in x (R - 1) ∧ vp_in k (2 * F) ∧ vp_in q 2) ∧ xext H H1) ∨ (E = "java/lang/IllegalStateException" ∧ (vp_in x (R - 1) ∧ vp_in k (2 * F) ∧ vp_in q 2) ∧ un x.toNatClampNeg = 0 ∧ xext H H1)) := by
  refine xbody (cc := cX6_flat) (maxL := 5) (ret := (some .double)) (C := RX6) (lv := [(0, .ref (ad 0)), (1, .int (x)), (2, .int (k)), (3, .int (q))]) (by decide) rfl rfl (Nat.le_of_ble_eq_true rfl) rfl ?_
  intro p e s m below meth c d0 hx hb hr hts hown hlocks hml hxt hnm0 hK hb0 hH0 hS hd0 ls hl
  obtain ⟨⟨zF2, zF8⟩, ⟨zR2, zR8⟩⟩ := id hW.1
  have zB4 := hW.2.1
  refine lv_aload_n hx hb dX6_flat_0 rfl (lv_at hl 0 rfl) ?_
  refine lv_iload_n hx hb dX6_flat_1 rfl (lv_at hl 1 rfl) ?_
  have cw_1 := cwV (R := rm_X6_flat) (rm := rm_X6_stripAt) 1 (hts d0) gX6_flat_X6_stripAt rfl rfl rfl (by decide +kernel) ⟨Nat.le_of_ble_eq_true rfl, Nat.le_of_ble_eq_true rfl⟩
  refine xcall hd0 (xintoV (b := (ad 0)) (As := [.int (x)]) (rest := []) ⟨hx, hb, hml, hown, hts _⟩ cw_1 (va_recv hK.1 (x1 (hX.o_)) (ci := 7) (q0 := 0) rfl rfl) rfl rfl hl.1 rfl (lv_room (Nat.le_of_ble_eq_true rfl)) dX6_flat_2) (c_X6_stripAt (l := l) (G := G) (ty := ty) (b0 := b0) hfl hX hW (x := x)) (xoweB cw_1.1) hK hb0 hS (Nat.le_of_ble_eq_true rfl) (Nat.le_of_ble_eq_true rfl) (fun E_1 ce_1 q9_1 H_1 locs_1 d0 hd0 hp_1 hS hce_1 hcv_1 hcl_1 => ?_) (fun v_1 H_1 locs_1 d0 hd0 hp_1 hS => ?_)
  · exact xout hd0 hxt hlocks hce_1 hcv_1 hcl_1 hS (Nat.le_of_ble_eq_true rfl) (Nat.le_of_ble_eq_true rfl) (Or.inl ⟨hp_1.1, fun z => hp_1.2.1 z.1, hp_1.2.2⟩)
  · obtain ⟨rfl, z_x, hv_1⟩ := hp_1
    obtain ⟨x9, hx9, ex9⟩ := vp_in_of z_x (by omega)
    subst ex9
    rw [nN_nI (show x9 < 2 ^ 31 by omega)] at hv_1
    subst hv_1
    show W p l e _ (s.setDrawn _) m _ below meth c _ _ _ _ _ (F0 m 5 ls [.ref (ad (30 + x9))])
    refine lv_astore (lv' := [(4, .ref (ad (30 + x9))), (0, .ref (ad 0)), (1, .int (nI x9)), (2, .int (k)), (3, .int (q))]) hx hb dX6_flat_5 hl (by decide) rfl (fun ls hl => ?_)
    refine lv_iload_n hx hb dX6_flat_7 rfl (lv_at hl 3 rfl) ?_
    refine lv_if_lt (tgt := 21) hx hb dX6_flat_8 (by decide) (fun c_2 => ?_) (fun c_2 => ?_)
    · exact xthrowS hfl hd0 hx hb hown hlocks hxt hml hl.1 hts (by decide +kernel) hw_X6_flat_1 hw_X6_flat_2 ht_X6_flat_0 xthrow_ok0 xthrow_gd0 (List.mem_of_getElem? (i := 2) rfl) hK hS dX6_flat_21 dX6_flat_24 dX6_flat_25 dX6_flat_27 dX6_flat_30 (Nat.le_of_ble_eq_true rfl) (Nat.le_of_ble_eq_true rfl) (Nat.le_of_ble_eq_true rfl) (Nat.le_of_ble_eq_true rfl) (Nat.le_of_ble_eq_true rfl) (Nat.le_of_ble_eq_true rfl) (fun H1 h9 => Or.inl ⟨rfl, fun z => xin_no0 c_2 z.2.1, h9⟩)
    · refine lv_iload_n hx hb dX6_flat_11 rfl (lv_at hl 3 rfl) ?_
      refine lv_iconst (v := nI 2) hx hb dX6_flat_12 (by decide) ?_
      refine lv_aload_n hx hb dX6_flat_13 rfl (lv_at hl 1 rfl) ?_
      refine va_get (D := G) (cl := vwCl) (ci := 7) (v := .int (nI F)) (C := RX6) (T := TX6) (N := 6) hx hb (hts d0) in_X6_flat_X6 hown hK.1 (x1 (hX.o_)) 0 rfl rfl 0 (by decide) (hts d0 _ hw_X6_flat_3) (fun _ h9 => h9) rfl dX6_flat_14 ?_
      refine ximulN hx hb dX6_flat_17 ?_
      refine lv_icmp_lt (tgt := 31) hx hb dX6_flat_18 (by decide) (fun c_3 => ?_) (fun c_3 => ?_)
      · have z_k : vp_in k (2 * F) := xin_lt c_2 c_3 (by omega)
        obtain ⟨k9, hk9, ek9⟩ := vp_in_of z_k (by omega)
        subst ek9
        refine lv_iload_n hx hb dX6_flat_31 rfl (lv_at hl 4 rfl) ?_
        refine lv_if_lt (tgt := 40) hx hb dX6_flat_32 (by decide) (fun c_4 => ?_) (fun c_4 => ?_)
        · exact xthrowS hfl hd0 hx hb hown hlocks hxt hml hl.1 hts (by decide +kernel) hw_X6_flat_1 hw_X6_flat_2 ht_X6_flat_0 xthrow_ok0 xthrow_gd0 (List.mem_of_getElem? (i := 3) rfl) hK hS dX6_flat_40 dX6_flat_43 dX6_flat_44 dX6_flat_46 dX6_flat_49 (Nat.le_of_ble_eq_true rfl) (Nat.le_of_ble_eq_true rfl) (Nat.le_of_ble_eq_true rfl) (Nat.le_of_ble_eq_true rfl) (Nat.le_of_ble_eq_true rfl) (Nat.le_of_ble_eq_true rfl) (fun H1 h9 => Or.inl ⟨rfl, fun z => xin_no0 c_4 z.2.2, h9⟩)
        · refine lv_iload_n hx hb dX6_flat_35 rfl (lv_at hl 4 rfl) ?_
          refine lv_iconst (v := nI 1) hx hb dX6_flat_36 (by decide) ?_
          refine lv_icmp_le (tgt := 50) hx hb dX6_flat_37 (by decide) (fun c_5 => ?_) (fun c_5 => ?_)
          · have z_q : vp_in q 2 := xin_le1 (n := 1) c_4 c_5 (by decide)
            obtain ⟨q9, hq9, eq9⟩ := vp_in_of z_q (by omega)
            subst eq9
            refine lv_aload hx hb dX6_flat_50 (lv_at hl 0 rfl) ?_
            have cw_6 := va_cwS (R := rm_X6_flat) (rm := rm_X6_needUnrolled) 1 (hts d0) gX6_flat_X6_needUnrolled rfl rfl rfl (by decide +kernel) ⟨Nat.le_of_ble_eq_true rfl, Nat.le_of_ble_eq_true rfl⟩
            refine xcall hd0 (xintoS (As := [.ref (ad (30 + x9))]) (rest := []) ⟨hx, hb, hml, hown, hts _⟩ cw_6 rfl rfl hl.1 rfl (lv_room (Nat.le_of_ble_eq_true rfl)) dX6_flat_52) (c_X6_needUnrolled (l := l) (G := G) (ty := ty) (b0 := b0) hfl hX hW (i := x9) (by omega)) (xoweB cw_6.1) hK hb0 hS (Nat.le_of_ble_eq_true rfl) (Nat.le_of_ble_eq_true rfl) (fun E_6 ce_6 q9_6 H_6 locs_6 d0 hd0 hp_6 hS hce_6 hcv_6 hcl_6 => ?_) (fun v_6 H_6 locs_6 d0 hd0 hp_6 hS => ?_)
            · exact xout hd0 hxt hlocks hce_6 hcv_6 hcl_6 hS (Nat.le_of_ble_eq_true rfl) (Nat.le_of_ble_eq_true rfl) (Or.inr ⟨hp_6.1, ⟨z_x, z_k, z_q⟩, by rw [nN_nI (by omega)]; exact hp_6.2.1, hp_6.2.2⟩)
            · obtain ⟨rfl, rfl, z_u⟩ := hp_6
              show W p l e _ (s.setDrawn _) m _ below meth c _ _ _ _ _ (F0 m 55 ls [])
              refine lv_iload_n hx hb dX6_flat_55 rfl (lv_at hl 4 rfl) ?_
              refine lv_if_ne (tgt := 69) hx hb dX6_flat_56 (by decide) (fun c_7 => ?_) (fun c_7 => ?_)
              · refine lv_aload hx hb dX6_flat_69 (lv_at hl 0 rfl) ?_
                refine va_get (D := G) (cl := vwCl) (ci := 6) (v := .ref (ad (50 + x9))) (C := RX5) (T := TX5) (N := 9) hx hb (hts d0) in_X6_flat_X5 hown hK.1 (x1 (hX.strip_ _ (by omega))) 0 rfl rfl 3 (by decide) (hts d0 _ hw_X6_flat_5) (fun _ h9 => h9) rfl dX6_flat_71 ?_
                refine lv_iload_n hx hb dX6_flat_74 rfl (lv_at hl 3 rfl) ?_
                refine xdald (j := k9) hx hb hK.1 0 (hX.cy_ _ (by omega)) rfl (xix_of (by omega) (by omega)) dX6_flat_75 ?_
                exact xdret hd0 hx hb hr hlocks hS (Nat.le_of_ble_eq_true rfl) (Nat.le_of_ble_eq_true rfl) dX6_flat_76 ⟨rfl, ⟨z_x, z_k, z_q⟩, by rw [nN_nI (by omega)]; exact z_u, by rw [nN_nI (by omega), nN_nI (by omega), if_neg c_7]⟩
              · refine lv_aload hx hb dX6_flat_59 (lv_at hl 0 rfl) ?_
                refine va_get (D := G) (cl := vwCl) (ci := 6) (v := .ref (ad (40 + x9))) (C := RX5) (T := TX5) (N := 9) hx hb (hts d0) in_X6_flat_X5 hown hK.1 (x1 (hX.strip_ _ (by omega))) 0 rfl rfl 2 (by decide) (hts d0 _ hw_X6_flat_4) (fun _ h9 => h9) rfl dX6_flat_61 ?_
                refine lv_iload_n hx hb dX6_flat_64 rfl (lv_at hl 3 rfl) ?_
                refine xdald (j := k9) hx hb hK.1 0 (hX.cx_ _ (by omega)) rfl (xix_of (by omega) (by omega)) dX6_flat_65 ?_
                refine lv_goto (tgt := 76) hx hb dX6_flat_66 (by decide) ?_
                exact xdret hd0 hx hb hr hlocks hS (Nat.le_of_ble_eq_true rfl) (Nat.le_of_ble_eq_true rfl) dX6_flat_76 ⟨rfl, ⟨z_x, z_k, z_q⟩, by rw [nN_nI (by omega)]; exact z_u, by rw [nN_nI (by omega), nN_nI (by omega), if_pos c_7]⟩
          · exact xthrowS hfl hd0 hx hb hown hlocks hxt hml hl.1 hts (by decide +kernel) hw_X6_flat_1 hw_X6_flat_2 ht_X6_flat_0 xthrow_ok0 xthrow_gd0 (List.mem_of_getElem? (i := 3) rfl) hK hS dX6_flat_40 dX6_flat_43 dX6_flat_44 dX6_flat_46 dX6_flat_49 (Nat.le_of_ble_eq_true rfl) (Nat.le_of_ble_eq_true rfl) (Nat.le_of_ble_eq_true rfl) (Nat.le_of_ble_eq_true rfl) (Nat.le_of_ble_eq_true rfl) (Nat.le_of_ble_eq_true rfl) (fun H1 h9 => Or.inl ⟨rfl, fun z => xin_gt1 (n := 1) c_5 (by decide) z.2.2, h9⟩)
      · exact xthrowS hfl hd0 hx hb hown hlocks hxt hml hl.1 hts (by decide +kernel) hw_X6_flat_1 hw_X6_flat_2 ht_X6_flat_0 xthrow_ok0 xthrow_gd0 (List.mem_of_getElem? (i := 2) rfl) hK hS dX6_flat_21 dX6_flat_24 dX6_flat_25 dX6_flat_27 dX6_flat_30 (Nat.le_of_ble_eq_true rfl) (Nat.le_of_ble_eq_true rfl) (Nat.le_of_ble_eq_true rfl) (Nat.le_of_ble_eq_true rfl) (Nat.le_of_ble_eq_true rfl) (Nat.le_of_ble_eq_true rfl) (fun H1 h9 => Or.inl ⟨rfl, fun z => xin_nlt c_3 (by omega) z.2.1, h9⟩)
set_option maxRecDepth 20000 in
theorem ggX6_stretch_X6_stripAt : GoodIn wsX6_stretch wsX6_stripAt := goodIn_ca (goodIn_r _ [5, 6, 7, 8, 39, 40, 41, 42, 43, 44] (by decide +kernel) (by decide +kernel)) (goodIn_sub (fun _ h => List.mem_cons_of_mem _ (List.mem_append_left _ (List.mem_append_right _ h))) (by decide +kernel))
set_option maxRecDepth 20000 in
theorem gX6_stretch_X6_stripAt : GoodIn wsX6_stretch (wsV RX6 90 RX6 yX6_stripAt wsX6_stripAt) := goodIn_app (goodIn_of _ (by decide +kernel)) ggX6_stretch_X6_stripAt
set_option maxRecDepth 20000 in
theorem ggX6_stretch_X6_checkCell : GoodIn wsX6_stretch wsX6_checkCell := goodIn_ca (goodIn_r _ [12, 6, 7, 13, 39, 40, 41, 42, 43, 44] (by decide +kernel) (by decide +kernel)) (goodIn_sub (fun _ h => List.mem_cons_of_mem _ (List.mem_append_left _ (List.mem_append_right _ h))) (by decide +kernel))
set_option maxRecDepth 20000 in
theorem gX6_stretch_X6_checkCell : GoodIn wsX6_stretch (wsV RX6 125 RX6 yX6_checkCell wsX6_checkCell) := goodIn_app (goodIn_of _ (by decide +kernel)) ggX6_stretch_X6_checkCell
set_option maxRecDepth 20000 in
theorem ggX6_stretch_X6_needUnrolled : GoodIn wsX6_stretch wsX6_needUnrolled := goodIn_ca (goodIn_r _ [16, 17, 18, 19, 45, 46, 47, 48, 49, 50, 51, 52, 53] (by decide +kernel) (by decide +kernel)) (goodIn_sub (fun _ h => List.mem_cons_of_mem _ (List.mem_append_right _ h)) (by decide +kernel))
set_option maxRecDepth 20000 in
theorem gX6_stretch_X6_needUnrolled : GoodIn wsX6_stretch (va_wsS RX6 114 yX6_needUnrolled wsX6_needUnrolled) := goodIn_app (goodIn_of _ (by decide +kernel)) ggX6_stretch_X6_needUnrolled
set_option maxRecDepth 20000 in
theorem ggX6_stretch_X5_offDiagonal : GoodIn wsX6_stretch wsX5_offDiagonal := goodIn_r _ [24, 25, 26, 27, 28, 29, 30, 4, 31, 32, 33, 34, 35, 36, 37, 38, 45, 46, 47, 48, 49, 50, 51, 52, 53, 54, 55, 56, 57] (by decide +kernel) (by decide +kernel)
set_option maxRecDepth 20000 in
theorem gX6_stretch_X5_offDiagonal : GoodIn wsX6_stretch (wsV RX6 128 RX5 yX5_offDiagonal wsX5_offDiagonal) := goodIn_app (goodIn_of _ (by decide +kernel)) ggX6_stretch_X5_offDiagonal
theorem dX6_stretch_0 : decode cX6_stretch 0 = .ok (.aload_n 0, 1) := by decide +kernel
theorem dX6_stretch_1 : decode cX6_stretch 1 = .ok (.iload_n 1, 1) := by decide +kernel
theorem dX6_stretch_2 : decode cX6_stretch 2 = .ok (.invokevirtual 90, 3) := by decide +kernel
theorem dX6_stretch_5 : decode cX6_stretch 5 = .ok (.astore_n 3, 1) := by decide +kernel
theorem dX6_stretch_6 : decode cX6_stretch 6 = .ok (.aload_n 0, 1) := by decide +kernel
theorem dX6_stretch_7 : decode cX6_stretch 7 = .ok (.iload_n 2, 1) := by decide +kernel
theorem dX6_stretch_8 : decode cX6_stretch 8 = .ok (.invokevirtual 125, 3) := by decide +kernel
theorem dX6_stretch_11 : decode cX6_stretch 11 = .ok (.aload_n 3, 1) := by decide +kernel
theorem dX6_stretch_12 : decode cX6_stretch 12 = .ok (.invokestatic 114, 3) := by decide +kernel
theorem dX6_stretch_15 : decode cX6_stretch 15 = .ok (.aload_n 3, 1) := by decide +kernel
theorem dX6_stretch_16 : decode cX6_stretch 16 = .ok (.iload_n 2, 1) := by decide +kernel
theorem dX6_stretch_17 : decode cX6_stretch 17 = .ok (.invokevirtual 128, 3) := by decide +kernel
theorem dX6_stretch_20 : decode cX6_stretch 20 = .ok (.dreturn, 1) := by decide +kernel
abbrev rm_X6_stretch : Room := { frames := 10, cells := 20, slots := 150, locals := 400 }
set_option maxHeartbeats 4000000 in
set_option maxRecDepth 100000 in
/-- stretch -/
theorem c_X6_stretch {l : Launch} {G : va_G} {ty : Nat → ClassId} {b0 : Nat} {H : Heap} (hfl : l.stackTraces = false) {ad : Nat → Nat} {F R nb : Nat} {pl wi hi fa : Nat → UInt64} {un bu lo la : Nat → Int32} {cx cy bx : Nat → Nat → UInt64} {nf : Nat → Nat} {K0 : Heap} (hX : xCla G ty ad F R pl un cx cy bu nb wi hi nf fa lo la bx K0 H) (hW : xWf F R nb nf ad b0) {x f : Int32} : xMet l yX6_stretch wsX6_stretch rm_X6_stretch G ty b0 [.ref (ad 0), .int (x), .int (f)] H (fun v H1 => H = H1 ∧ (vp_in x (R - 1) ∧ vp_in f (F - 1)) ∧ ¬ un x.toNatClampNeg = 0 ∧ ∃ z9 : UInt64, v = some (.double z9) ∧ vq z9 (pOffC (cx x.toNatClampNeg) (cy x.toNatClampNeg) pl x.toNatClampNeg f.toNatClampNeg)) (fun E H1 => (E = "java/lang/IndexOutOfBoundsException" ∧ ¬ (vp_in x (R - 1) ∧ vp_in f (F - 1)) ∧ xext H H1) ∨ (E = "java/lang/IllegalStateException" ∧ (vp_in x (R - 1) ∧ vp_in f (F - 1)) ∧ un x.toNatClampNeg = 0 ∧ xext H H1)) := by
  refine xbody (cc := cX6_stretch) (maxL := 4) (ret := (some .double)) (C := RX6) (lv := [(0, .ref (ad 0)), (1, .int (x)), (2, .int (f))]) (by decide) rfl rfl (Nat.le_of_ble_eq_true rfl) rfl ?_
  intro p e s m below meth c d0 hx hb hr hts hown hlocks hml hxt hnm0 hK hb0 hH0 hS hd0 ls hl
  obtain ⟨⟨zF2, zF8⟩, ⟨zR2, zR8⟩⟩ := id hW.1
  have zB4 := hW.2.1
  refine lv_aload_n hx hb dX6_stretch_0 rfl (lv_at hl 0 rfl) ?_
  refine lv_iload_n hx hb dX6_stretch_1 rfl (lv_at hl 1 rfl) ?_
  have cw_1 := cwV (R := rm_X6_stretch) (rm := rm_X6_stripAt) 1 (hts d0) gX6_stretch_X6_stripAt rfl rfl rfl (by decide +kernel) ⟨Nat.le_of_ble_eq_true rfl, Nat.le_of_ble_eq_true rfl⟩
  refine xcall hd0 (xintoV (b := (ad 0)) (As := [.int (x)]) (rest := []) ⟨hx, hb, hml, hown, hts _⟩ cw_1 (va_recv hK.1 (x1 (hX.o_)) (ci := 7) (q0 := 0) rfl rfl) rfl rfl hl.1 rfl (lv_room (Nat.le_of_ble_eq_true rfl)) dX6_stretch_2) (c_X6_stripAt (l := l) (G := G) (ty := ty) (b0 := b0) hfl hX hW (x := x)) (xoweB cw_1.1) hK hb0 hS (Nat.le_of_ble_eq_true rfl) (Nat.le_of_ble_eq_true rfl) (fun E_1 ce_1 q9_1 H_1 locs_1 d0 hd0 hp_1 hS hce_1 hcv_1 hcl_1 => ?_) (fun v_1 H_1 locs_1 d0 hd0 hp_1 hS => ?_)
  · exact xout hd0 hxt hlocks hce_1 hcv_1 hcl_1 hS (Nat.le_of_ble_eq_true rfl) (Nat.le_of_ble_eq_true rfl) (Or.inl ⟨hp_1.1, fun z => hp_1.2.1 z.1, hp_1.2.2⟩)
  · obtain ⟨rfl, z_x, hv_1⟩ := hp_1
    obtain ⟨x9, hx9, ex9⟩ := vp_in_of z_x (by omega)
    subst ex9
    rw [nN_nI (show x9 < 2 ^ 31 by omega)] at hv_1
    subst hv_1
    show W p l e _ (s.setDrawn _) m _ below meth c _ _ _ _ _ (F0 m 5 ls [.ref (ad (30 + x9))])
    refine lv_astore_n (lv' := [(3, .ref (ad (30 + x9))), (0, .ref (ad 0)), (1, .int (nI x9)), (2, .int (f))]) hx hb dX6_stretch_5 rfl hl (by decide) rfl (fun ls hl => ?_)
    refine lv_aload_n hx hb dX6_stretch_6 rfl (lv_at hl 1 rfl) ?_
    refine lv_iload_n hx hb dX6_stretch_7 rfl (lv_at hl 3 rfl) ?_
    have cw_2 := cwV (R := rm_X6_stretch) (rm := rm_X6_checkCell) 1 (hts d0) gX6_stretch_X6_checkCell rfl rfl rfl (by decide +kernel) ⟨Nat.le_of_ble_eq_true rfl, Nat.le_of_ble_eq_true rfl⟩
    refine xcall hd0 (xintoV (b := (ad 0)) (As := [.int (f)]) (rest := []) ⟨hx, hb, hml, hown, hts _⟩ cw_2 (va_recv hK.1 (x1 (hX.o_)) (ci := 7) (q0 := 0) rfl rfl) rfl rfl hl.1 rfl (lv_room (Nat.le_of_ble_eq_true rfl)) dX6_stretch_8) (c_X6_checkCell (l := l) (G := G) (ty := ty) (b0 := b0) hfl hX hW (f := f)) (xoweB cw_2.1) hK hb0 hS (Nat.le_of_ble_eq_true rfl) (Nat.le_of_ble_eq_true rfl) (fun E_2 ce_2 q9_2 H_2 locs_2 d0 hd0 hp_2 hS hce_2 hcv_2 hcl_2 => ?_) (fun v_2 H_2 locs_2 d0 hd0 hp_2 hS => ?_)
    · exact xout hd0 hxt hlocks hce_2 hcv_2 hcl_2 hS (Nat.le_of_ble_eq_true rfl) (Nat.le_of_ble_eq_true rfl) (Or.inl ⟨hp_2.1, fun z => hp_2.2.1 z.2, hp_2.2.2⟩)
    · obtain ⟨rfl, rfl, z_f⟩ := hp_2
      obtain ⟨f9, hf9, ef9⟩ := vp_in_of z_f (by omega)
      subst ef9
      show W p l e _ (s.setDrawn _) m _ below meth c _ _ _ _ _ (F0 m 11 ls [])
      refine lv_aload_n hx hb dX6_stretch_11 rfl (lv_at hl 0 rfl) ?_
      have cw_3 := va_cwS (R := rm_X6_stretch) (rm := rm_X6_needUnrolled) 1 (hts d0) gX6_stretch_X6_needUnrolled rfl rfl rfl (by decide +kernel) ⟨Nat.le_of_ble_eq_true rfl, Nat.le_of_ble_eq_true rfl⟩
      refine xcall hd0 (xintoS (As := [.ref (ad (30 + x9))]) (rest := []) ⟨hx, hb, hml, hown, hts _⟩ cw_3 rfl rfl hl.1 rfl (lv_room (Nat.le_of_ble_eq_true rfl)) dX6_stretch_12) (c_X6_needUnrolled (l := l) (G := G) (ty := ty) (b0 := b0) hfl hX hW (i := x9) (by omega)) (xoweB cw_3.1) hK hb0 hS (Nat.le_of_ble_eq_true rfl) (Nat.le_of_ble_eq_true rfl) (fun E_3 ce_3 q9_3 H_3 locs_3 d0 hd0 hp_3 hS hce_3 hcv_3 hcl_3 => ?_) (fun v_3 H_3 locs_3 d0 hd0 hp_3 hS => ?_)
      · exact xout hd0 hxt hlocks hce_3 hcv_3 hcl_3 hS (Nat.le_of_ble_eq_true rfl) (Nat.le_of_ble_eq_true rfl) (Or.inr ⟨hp_3.1, ⟨z_x, z_f⟩, by rw [nN_nI (by omega)]; exact hp_3.2.1, hp_3.2.2⟩)
      · obtain ⟨rfl, rfl, z_u⟩ := hp_3
        show W p l e _ (s.setDrawn _) m _ below meth c _ _ _ _ _ (F0 m 15 ls [])
        refine lv_aload_n hx hb dX6_stretch_15 rfl (lv_at hl 0 rfl) ?_
        refine lv_iload_n hx hb dX6_stretch_16 rfl (lv_at hl 3 rfl) ?_
        have cw_4 := cwV (R := rm_X6_stretch) (rm := rm_X5_offDiagonal) 1 (hts d0) gX6_stretch_X5_offDiagonal rfl rfl rfl (by decide +kernel) ⟨Nat.le_of_ble_eq_true rfl, Nat.le_of_ble_eq_true rfl⟩
        refine xcall hd0 (xintoV (b := (ad (30 + x9))) (As := [.int (nI f9)]) (rest := []) ⟨hx, hb, hml, hown, hts _⟩ cw_4 (va_recv hK.1 (x1 (hX.strip_ _ (by omega))) (ci := 6) (q0 := 0) rfl rfl) rfl rfl hl.1 rfl (lv_room (Nat.le_of_ble_eq_true rfl)) dX6_stretch_17) (c_X5_offDiagonal (l := l) (G := G) (ty := ty) (b0 := b0) hX hW (i := x9) (f := f9) (by omega) (by omega)) (xoweB cw_4.1) hK hb0 hS (Nat.le_of_ble_eq_true rfl) (Nat.le_of_ble_eq_true rfl) (fun E_4 ce_4 q9_4 H_4 locs_4 d0 hd0 hp_4 hS hce_4 hcv_4 hcl_4 => ?_) (fun v_4 H_4 locs_4 d0 hd0 hp_4 hS => ?_)
        · exact hp_4.elim
        · obtain ⟨rfl, r_4, rfl, q_4⟩ := hp_4
          show W p l e _ (s.setDrawn _) m _ below meth c _ _ _ _ _ (F0 m 20 ls [.double r_4])
          exact xdret hd0 hx hb hr hlocks hS (Nat.le_of_ble_eq_true rfl) (Nat.le_of_ble_eq_true rfl) dX6_stretch_20 ⟨rfl, ⟨z_x, z_f⟩, by rw [nN_nI (by omega)]; exact z_u, _, rfl, by rw [nN_nI (by omega), nN_nI (by omega)]; exact q_4⟩
set_option maxRecDepth 20000 in
theorem ggX6_width_X6_stripAt : GoodIn wsX6_width wsX6_stripAt := goodIn_ca (goodIn_r _ [5, 6, 7, 8, 31, 32, 33, 34, 35, 36] (by decide +kernel) (by decide +kernel)) (goodIn_sub (fun _ h => List.mem_cons_of_mem _ (List.mem_append_right _ h)) (by decide +kernel))
set_option maxRecDepth 20000 in
theorem gX6_width_X6_stripAt : GoodIn wsX6_width (wsV RX6 90 RX6 yX6_stripAt wsX6_stripAt) := goodIn_app (goodIn_of _ (by decide +kernel)) ggX6_width_X6_stripAt
set_option maxRecDepth 20000 in
theorem ggX6_width_X6_checkFrame : GoodIn wsX6_width wsX6_checkFrame := goodIn_ca (goodIn_r _ [12, 6, 7, 13, 31, 32, 33, 34, 35, 36] (by decide +kernel) (by decide +kernel)) (goodIn_sub (fun _ h => List.mem_cons_of_mem _ (List.mem_append_right _ h)) (by decide +kernel))
set_option maxRecDepth 20000 in
theorem gX6_width_X6_checkFrame : GoodIn wsX6_width (wsV RX6 158 RX6 yX6_checkFrame wsX6_checkFrame) := goodIn_app (goodIn_of _ (by decide +kernel)) ggX6_width_X6_checkFrame
set_option maxRecDepth 20000 in
theorem ggX6_width_X5_across : GoodIn wsX6_width wsX5_across := goodIn_r _ [18, 19, 20, 21, 22, 4, 23, 24, 25, 26, 27, 28, 29, 30, 37, 38, 39, 40, 41, 42, 43, 44, 45, 46, 47, 48, 49] (by decide +kernel) (by decide +kernel)
set_option maxRecDepth 20000 in
theorem gX6_width_X5_across : GoodIn wsX6_width (wsV RX6 161 RX5 yX5_across wsX5_across) := goodIn_app (goodIn_of _ (by decide +kernel)) ggX6_width_X5_across
theorem dX6_width_0 : decode cX6_width 0 = .ok (.aload_n 0, 1) := by decide +kernel
theorem dX6_width_1 : decode cX6_width 1 = .ok (.iload_n 1, 1) := by decide +kernel
theorem dX6_width_2 : decode cX6_width 2 = .ok (.invokevirtual 90, 3) := by decide +kernel
theorem dX6_width_5 : decode cX6_width 5 = .ok (.astore_n 3, 1) := by decide +kernel
theorem dX6_width_6 : decode cX6_width 6 = .ok (.aload_n 0, 1) := by decide +kernel
theorem dX6_width_7 : decode cX6_width 7 = .ok (.iload_n 2, 1) := by decide +kernel
theorem dX6_width_8 : decode cX6_width 8 = .ok (.invokevirtual 158, 3) := by decide +kernel
theorem dX6_width_11 : decode cX6_width 11 = .ok (.aload_n 3, 1) := by decide +kernel
theorem dX6_width_12 : decode cX6_width 12 = .ok (.iload_n 2, 1) := by decide +kernel
theorem dX6_width_13 : decode cX6_width 13 = .ok (.invokevirtual 161, 3) := by decide +kernel
theorem dX6_width_16 : decode cX6_width 16 = .ok (.dreturn, 1) := by decide +kernel
abbrev rm_X6_width : Room := { frames := 10, cells := 20, slots := 150, locals := 400 }
set_option maxHeartbeats 4000000 in
set_option maxRecDepth 100000 in
/-- width -/
theorem c_X6_width {l : Launch} {G : va_G} {ty : Nat → ClassId} {b0 : Nat} {H : Heap} (hfl : l.stackTraces = false) {ad : Nat → Nat} {F R nb : Nat} {pl wi hi fa : Nat → UInt64} {un bu lo la : Nat → Int32} {cx cy bx : Nat → Nat → UInt64} {nf : Nat → Nat} {K0 : Heap} (hX : xCla G ty ad F R pl un cx cy bu nb wi hi nf fa lo la bx K0 H) (hW : xWf F R nb nf ad b0) {x f : Int32} : xMet l yX6_width wsX6_width rm_X6_width G ty b0 [.ref (ad 0), .int (x), .int (f)] H (fun v H1 => H = H1 ∧ (vp_in x (R - 1) ∧ vp_in f F) ∧ ∃ z9 : UInt64, v = some (.double z9) ∧ vq z9 (pFar pl f.toNatClampNeg x.toNatClampNeg f.toNatClampNeg (x.toNatClampNeg + 1))) (fun E H1 => E = "java/lang/IndexOutOfBoundsException" ∧ ¬ (vp_in x (R - 1) ∧ vp_in f F) ∧ xext H H1) := by
  refine xbody (cc := cX6_width) (maxL := 4) (ret := (some .double)) (C := RX6) (lv := [(0, .ref (ad 0)), (1, .int (x)), (2, .int (f))]) (by decide) rfl rfl (Nat.le_of_ble_eq_true rfl) rfl ?_
  intro p e s m below meth c d0 hx hb hr hts hown hlocks hml hxt hnm0 hK hb0 hH0 hS hd0 ls hl
  obtain ⟨⟨zF2, zF8⟩, ⟨zR2, zR8⟩⟩ := id hW.1
  have zB4 := hW.2.1
  refine lv_aload_n hx hb dX6_width_0 rfl (lv_at hl 0 rfl) ?_
  refine lv_iload_n hx hb dX6_width_1 rfl (lv_at hl 1 rfl) ?_
  have cw_1 := cwV (R := rm_X6_width) (rm := rm_X6_stripAt) 1 (hts d0) gX6_width_X6_stripAt rfl rfl rfl (by decide +kernel) ⟨Nat.le_of_ble_eq_true rfl, Nat.le_of_ble_eq_true rfl⟩
  refine xcall hd0 (xintoV (b := (ad 0)) (As := [.int (x)]) (rest := []) ⟨hx, hb, hml, hown, hts _⟩ cw_1 (va_recv hK.1 (x1 (hX.o_)) (ci := 7) (q0 := 0) rfl rfl) rfl rfl hl.1 rfl (lv_room (Nat.le_of_ble_eq_true rfl)) dX6_width_2) (c_X6_stripAt (l := l) (G := G) (ty := ty) (b0 := b0) hfl hX hW (x := x)) (xoweB cw_1.1) hK hb0 hS (Nat.le_of_ble_eq_true rfl) (Nat.le_of_ble_eq_true rfl) (fun E_1 ce_1 q9_1 H_1 locs_1 d0 hd0 hp_1 hS hce_1 hcv_1 hcl_1 => ?_) (fun v_1 H_1 locs_1 d0 hd0 hp_1 hS => ?_)
  · exact xout hd0 hxt hlocks hce_1 hcv_1 hcl_1 hS (Nat.le_of_ble_eq_true rfl) (Nat.le_of_ble_eq_true rfl) ⟨hp_1.1, fun z => hp_1.2.1 z.1, hp_1.2.2⟩
  · obtain ⟨rfl, z_x, hv_1⟩ := hp_1
    obtain ⟨x9, hx9, ex9⟩ := vp_in_of z_x (by omega)
    subst ex9
    rw [nN_nI (show x9 < 2 ^ 31 by omega)] at hv_1
    subst hv_1
    show W p l e _ (s.setDrawn _) m _ below meth c _ _ _ _ _ (F0 m 5 ls [.ref (ad (30 + x9))])
    refine lv_astore_n (lv' := [(3, .ref (ad (30 + x9))), (0, .ref (ad 0)), (1, .int (nI x9)), (2, .int (f))]) hx hb dX6_width_5 rfl hl (by decide) rfl (fun ls hl => ?_)
    refine lv_aload_n hx hb dX6_width_6 rfl (lv_at hl 1 rfl) ?_
    refine lv_iload_n hx hb dX6_width_7 rfl (lv_at hl 3 rfl) ?_
    have cw_2 := cwV (R := rm_X6_width) (rm := rm_X6_checkFrame) 1 (hts d0) gX6_width_X6_checkFrame rfl rfl rfl (by decide +kernel) ⟨Nat.le_of_ble_eq_true rfl, Nat.le_of_ble_eq_true rfl⟩
    refine xcall hd0 (xintoV (b := (ad 0)) (As := [.int (f)]) (rest := []) ⟨hx, hb, hml, hown, hts _⟩ cw_2 (va_recv hK.1 (x1 (hX.o_)) (ci := 7) (q0 := 0) rfl rfl) rfl rfl hl.1 rfl (lv_room (Nat.le_of_ble_eq_true rfl)) dX6_width_8) (c_X6_checkFrame (l := l) (G := G) (ty := ty) (b0 := b0) hfl hX hW (f := f)) (xoweB cw_2.1) hK hb0 hS (Nat.le_of_ble_eq_true rfl) (Nat.le_of_ble_eq_true rfl) (fun E_2 ce_2 q9_2 H_2 locs_2 d0 hd0 hp_2 hS hce_2 hcv_2 hcl_2 => ?_) (fun v_2 H_2 locs_2 d0 hd0 hp_2 hS => ?_)
    · exact xout hd0 hxt hlocks hce_2 hcv_2 hcl_2 hS (Nat.le_of_ble_eq_true rfl) (Nat.le_of_ble_eq_true rfl) ⟨hp_2.1, fun z => hp_2.2.1 z.2, hp_2.2.2⟩
    · obtain ⟨rfl, rfl, z_f⟩ := hp_2
      obtain ⟨f9, hf9, ef9⟩ := vp_in_of z_f (by omega)
      subst ef9
      show W p l e _ (s.setDrawn _) m _ below meth c _ _ _ _ _ (F0 m 11 ls [])
      refine lv_aload_n hx hb dX6_width_11 rfl (lv_at hl 0 rfl) ?_
      refine lv_iload_n hx hb dX6_width_12 rfl (lv_at hl 3 rfl) ?_
      have cw_3 := cwV (R := rm_X6_width) (rm := rm_X5_across) 1 (hts d0) gX6_width_X5_across rfl rfl rfl (by decide +kernel) ⟨Nat.le_of_ble_eq_true rfl, Nat.le_of_ble_eq_true rfl⟩
      refine xcall hd0 (xintoV (b := (ad (30 + x9))) (As := [.int (nI f9)]) (rest := []) ⟨hx, hb, hml, hown, hts _⟩ cw_3 (va_recv hK.1 (x1 (hX.strip_ _ (by omega))) (ci := 6) (q0 := 0) rfl rfl) rfl rfl hl.1 rfl (lv_room (Nat.le_of_ble_eq_true rfl)) dX6_width_13) (c_X5_across (l := l) (G := G) (ty := ty) (b0 := b0) hX hW (i := x9) (f := f9) (by omega) (by omega)) (xoweB cw_3.1) hK hb0 hS (Nat.le_of_ble_eq_true rfl) (Nat.le_of_ble_eq_true rfl) (fun E_3 ce_3 q9_3 H_3 locs_3 d0 hd0 hp_3 hS hce_3 hcv_3 hcl_3 => ?_) (fun v_3 H_3 locs_3 d0 hd0 hp_3 hS => ?_)
      · exact hp_3.elim
      · obtain ⟨rfl, r_3, rfl, q_3⟩ := hp_3
        show W p l e _ (s.setDrawn _) m _ below meth c _ _ _ _ _ (F0 m 16 ls [.double r_3])
        exact xdret hd0 hx hb hr hlocks hS (Nat.le_of_ble_eq_true rfl) (Nat.le_of_ble_eq_true rfl) dX6_width_16 ⟨rfl, ⟨z_x, z_f⟩, _, rfl, by rw [nN_nI (by omega), nN_nI (by omega)]; exact q_3⟩
set_option maxRecDepth 20000 in
theorem ggX6_girth_X6_checkFrame : GoodIn wsX6_girth wsX6_checkFrame := goodIn_ca (goodIn_r _ [6, 7, 8, 9, 27, 28, 29, 30, 31, 32] (by decide +kernel) (by decide +kernel)) (goodIn_sub (fun _ h => List.mem_cons_of_mem _ (List.mem_append_right _ h)) (by decide +kernel))
set_option maxRecDepth 20000 in
theorem gX6_girth_X6_checkFrame : GoodIn wsX6_girth (wsV RX6 158 RX6 yX6_checkFrame wsX6_checkFrame) := goodIn_app (goodIn_of _ (by decide +kernel)) ggX6_girth_X6_checkFrame
set_option maxRecDepth 20000 in
theorem ggX6_girth_X5_across : GoodIn wsX6_girth wsX5_across := goodIn_r _ [14, 15, 16, 17, 18, 5, 19, 20, 21, 22, 23, 24, 25, 26, 33, 34, 35, 36, 37, 38, 39, 40, 41, 42, 43, 44, 45] (by decide +kernel) (by decide +kernel)
set_option maxRecDepth 20000 in
theorem gX6_girth_X5_across : GoodIn wsX6_girth (wsV RX6 161 RX5 yX5_across wsX5_across) := goodIn_app (goodIn_of _ (by decide +kernel)) ggX6_girth_X5_across
theorem dX6_girth_0 : decode cX6_girth 0 = .ok (.aload_n 0, 1) := by decide +kernel
theorem dX6_girth_1 : decode cX6_girth 1 = .ok (.iload_n 1, 1) := by decide +kernel
theorem dX6_girth_2 : decode cX6_girth 2 = .ok (.invokevirtual 158, 3) := by decide +kernel
theorem dX6_girth_5 : decode cX6_girth 5 = .ok (.dconst 0, 1) := by decide +kernel
theorem dX6_girth_6 : decode cX6_girth 6 = .ok (.dstore_n 2, 1) := by decide +kernel
theorem dX6_girth_7 : decode cX6_girth 7 = .ok (.aload_n 0, 1) := by decide +kernel
theorem dX6_girth_8 : decode cX6_girth 8 = .ok (.getfield 28, 3) := by decide +kernel
theorem dX6_girth_11 : decode cX6_girth 11 = .ok (.astore 4, 2) := by decide +kernel
theorem dX6_girth_13 : decode cX6_girth 13 = .ok (.aload 4, 2) := by decide +kernel
theorem dX6_girth_15 : decode cX6_girth 15 = .ok (.arraylength, 1) := by decide +kernel
theorem dX6_girth_16 : decode cX6_girth 16 = .ok (.istore 5, 2) := by decide +kernel
theorem dX6_girth_18 : decode cX6_girth 18 = .ok (.iconst 0, 1) := by decide +kernel
theorem dX6_girth_19 : decode cX6_girth 19 = .ok (.istore 6, 2) := by decide +kernel
theorem dX6_girth_21 : decode cX6_girth 21 = .ok (.iload 6, 2) := by decide +kernel
theorem dX6_girth_23 : decode cX6_girth 23 = .ok (.iload 5, 2) := by decide +kernel
theorem dX6_girth_25 : decode cX6_girth 25 = .ok (.if_icmp .ge 25, 3) := by decide +kernel
theorem dX6_girth_28 : decode cX6_girth 28 = .ok (.aload 4, 2) := by decide +kernel
theorem dX6_girth_30 : decode cX6_girth 30 = .ok (.iload 6, 2) := by decide +kernel
theorem dX6_girth_32 : decode cX6_girth 32 = .ok (.aaload, 1) := by decide +kernel
theorem dX6_girth_33 : decode cX6_girth 33 = .ok (.astore 7, 2) := by decide +kernel
theorem dX6_girth_35 : decode cX6_girth 35 = .ok (.dload_n 2, 1) := by decide +kernel
theorem dX6_girth_36 : decode cX6_girth 36 = .ok (.aload 7, 2) := by decide +kernel
theorem dX6_girth_38 : decode cX6_girth 38 = .ok (.iload_n 1, 1) := by decide +kernel
theorem dX6_girth_39 : decode cX6_girth 39 = .ok (.invokevirtual 161, 3) := by decide +kernel
theorem dX6_girth_42 : decode cX6_girth 42 = .ok (.dadd, 1) := by decide +kernel
theorem dX6_girth_43 : decode cX6_girth 43 = .ok (.dstore_n 2, 1) := by decide +kernel
theorem dX6_girth_44 : decode cX6_girth 44 = .ok (.iinc 6 1, 3) := by decide +kernel
theorem dX6_girth_47 : decode cX6_girth 47 = .ok (.goto (-26), 3) := by decide +kernel
theorem dX6_girth_50 : decode cX6_girth 50 = .ok (.dload_n 2, 1) := by decide +kernel
theorem dX6_girth_51 : decode cX6_girth 51 = .ok (.dreturn, 1) := by decide +kernel
abbrev rm_X6_girth : Room := { frames := 10, cells := 20, slots := 150, locals := 400 }
theorem hw_X6_girth_1 : (Cond.fieldLink RX6 28 "PlankUnroll" "strips" "[LPlankUnroll$Strip;") ∈ wsX6_girth := List.mem_of_getElem? (i := 1) rfl
theorem in_X6_girth_X6 : ∀ w ∈ wsX60, w ∈ wsX6_girth := by decide +kernel
set_option maxHeartbeats 4000000 in
set_option maxRecDepth 100000 in
/-- girth -/
theorem c_X6_girth {l : Launch} {G : va_G} {ty : Nat → ClassId} {b0 : Nat} {H : Heap} (hfl : l.stackTraces = false) {ad : Nat → Nat} {F R nb : Nat} {pl wi hi fa : Nat → UInt64} {un bu lo la : Nat → Int32} {cx cy bx : Nat → Nat → UInt64} {nf : Nat → Nat} {K0 : Heap} (hX : xCla G ty ad F R pl un cx cy bu nb wi hi nf fa lo la bx K0 H) (hW : xWf F R nb nf ad b0) {f : Int32} : xMet l yX6_girth wsX6_girth rm_X6_girth G ty b0 [.ref (ad 0), .int (f)] H (fun v H1 => H = H1 ∧ (vp_in f F) ∧ ∃ z9 : UInt64, v = some (.double z9) ∧ vq z9 (pGir pl f.toNatClampNeg (R - 1))) (fun E H1 => E = "java/lang/IndexOutOfBoundsException" ∧ ¬ (vp_in f F) ∧ xext H H1) := by
  refine xbody (cc := cX6_girth) (maxL := 8) (ret := (some .double)) (C := RX6) (lv := [(0, .ref (ad 0)), (1, .int (f))]) (by decide) rfl rfl (Nat.le_of_ble_eq_true rfl) rfl ?_
  intro p e s m below meth c d0 hx hb hr hts hown hlocks hml hxt hnm0 hK hb0 hH0 hS hd0 ls hl
  obtain ⟨⟨zF2, zF8⟩, ⟨zR2, zR8⟩⟩ := id hW.1
  have zB4 := hW.2.1
  refine lv_aload_n hx hb dX6_girth_0 rfl (lv_at hl 0 rfl) ?_
  refine lv_iload_n hx hb dX6_girth_1 rfl (lv_at hl 1 rfl) ?_
  have cw_1 := cwV (R := rm_X6_girth) (rm := rm_X6_checkFrame) 1 (hts d0) gX6_girth_X6_checkFrame rfl rfl rfl (by decide +kernel) ⟨Nat.le_of_ble_eq_true rfl, Nat.le_of_ble_eq_true rfl⟩
  refine xcall hd0 (xintoV (b := (ad 0)) (As := [.int (f)]) (rest := []) ⟨hx, hb, hml, hown, hts _⟩ cw_1 (va_recv hK.1 (x1 (hX.o_)) (ci := 7) (q0 := 0) rfl rfl) rfl rfl hl.1 rfl (lv_room (Nat.le_of_ble_eq_true rfl)) dX6_girth_2) (c_X6_checkFrame (l := l) (G := G) (ty := ty) (b0 := b0) hfl hX hW (f := f)) (xoweB cw_1.1) hK hb0 hS (Nat.le_of_ble_eq_true rfl) (Nat.le_of_ble_eq_true rfl) (fun E_1 ce_1 q9_1 H_1 locs_1 d0 hd0 hp_1 hS hce_1 hcv_1 hcl_1 => ?_) (fun v_1 H_1 locs_1 d0 hd0 hp_1 hS => ?_)
  · exact xout hd0 hxt hlocks hce_1 hcv_1 hcl_1 hS (Nat.le_of_ble_eq_true rfl) (Nat.le_of_ble_eq_true rfl) ⟨hp_1.1, fun z => hp_1.2.1 z, hp_1.2.2⟩
  · obtain ⟨rfl, rfl, z_f⟩ := hp_1
    obtain ⟨f9, hf9, ef9⟩ := vp_in_of z_f (by omega)
    subst ef9
    show W p l e _ (s.setDrawn _) m _ below meth c _ _ _ _ _ (F0 m 5 ls [])
    refine lv_dconst0 hx hb dX6_girth_5 ?_
    refine lv_dstore_n (lv' := [(2, .double FP.dconst0), (0, .ref (ad 0)), (1, .int (nI f9))]) hx hb dX6_girth_6 rfl hl (by decide) rfl (fun ls hl => ?_)
    refine lv_aload_n hx hb dX6_girth_7 rfl (lv_at hl 1 rfl) ?_
    refine va_get (D := G) (cl := vwCl) (ci := 7) (v := .ref (ad 2)) (C := RX6) (T := TX6) (N := 6) hx hb (hts d0) in_X6_girth_X6 hown hK.1 (x1 (hX.o_)) 0 rfl rfl 2 (by decide) (hts d0 _ hw_X6_girth_1) (fun _ h9 => h9) rfl dX6_girth_8 ?_
    refine lv_astore (lv' := [(4, .ref (ad 2)), (2, .double FP.dconst0), (0, .ref (ad 0)), (1, .int (nI f9))]) hx hb dX6_girth_11 hl (by decide) rfl (fun ls hl => ?_)
    refine lv_aload hx hb dX6_girth_13 (lv_at hl 0 rfl) ?_
    refine xalen hx hb hK.1 6 (hX.strips_) rfl dX6_girth_15 ?_
    refine lv_istore (lv' := [(5, .int (nI (R - 1))), (4, .ref (ad 2)), (2, .double FP.dconst0), (0, .ref (ad 0)), (1, .int (nI f9))]) hx hb dX6_girth_16 hl (by decide) rfl (fun ls hl => ?_)
    refine lv_iconst (v := nI 0) hx hb dX6_girth_18 (by decide) ?_
    refine lv_istore (lv' := [(6, .int (nI 0)), (5, .int (nI (R - 1))), (4, .ref (ad 2)), (2, .double FP.dconst0), (0, .ref (ad 0)), (1, .int (nI f9))]) hx hb dX6_girth_19 hl (by decide) rfl (fun ls hl => ?_)
    suffices K : ∀ (n : Nat) (k : Nat) (sm : UInt64) (locs : List Loc) (d0 : Drawn) (ls : Array Slot), (k + n = R - 1 ∧ vq sm (pGir pl f9 k)) → va_S (xA b0) s.heap H locs → s.drawn.sameBut d0 lw_cs → lv_has ls 8 [(6, .int (nI k)), (2, .double sm), (1, .int (nI f9)), (4, .ref (ad 2)), (5, .int (nI (R - 1)))] → W p l e rm_X6_girth (s.setDrawn d0) m [Value.ref (ad 0), Value.int ((nI f9))].toArray below meth c H locs (0 + rm_X6_checkFrame.cells) (0 + rm_X6_checkFrame.slots) (xMQ below (fun v H1 => H = H1 ∧ (vp_in (nI f9) F) ∧ ∃ z9 : UInt64, v = some (.double z9) ∧ vq z9 (pGir pl (nI f9).toNatClampNeg (R - 1))) (fun E H1 => E = "java/lang/IndexOutOfBoundsException" ∧ ¬ (vp_in (nI f9) F) ∧ xext H H1) [.ref (ad 0), .int ((nI f9))].toArray s rm_X6_girth b0) (F0 m 21 ls []) from K (R - 1) 0 FP.dconst0 _ d0 ls ⟨by omega, vq_rf _⟩ hS hd0 (lv_sub hl [0, 3, 5, 2, 1] rfl)
    intro n
    induction n with
    | zero =>
      intro k sm locs d0 ls hinv hS hd0 hl
      obtain ⟨hk, hsm⟩ := hinv
      refine lv_iload hx hb dX6_girth_21 (lv_at hl 0 rfl) ?_
      refine lv_iload hx hb dX6_girth_23 (lv_at hl 4 rfl) ?_
      refine xicmpN_ge (tgt := 50) hx hb (by omega) (by omega) dX6_girth_25 (by decide) (fun _ => ?_) (fun h9 => absurd h9 (by omega))
      refine lv_dload_n hx hb dX6_girth_50 rfl (lv_at hl 1 rfl) ?_
      exact xdret hd0 hx hb hr hlocks hS (Nat.le_of_ble_eq_true rfl) (Nat.le_of_ble_eq_true rfl) dX6_girth_51 ⟨rfl, z_f, _, rfl, by have e9 : k = R - 1 := (by omega); subst e9; rw [nN_nI (by omega)]; exact hsm⟩
    | succ n ih =>
      intro k sm locs d0 ls hinv hS hd0 hl
      obtain ⟨hk, hsm⟩ := hinv
      refine lv_iload hx hb dX6_girth_21 (lv_at hl 0 rfl) ?_
      refine lv_iload hx hb dX6_girth_23 (lv_at hl 4 rfl) ?_
      refine xicmpN_ge (tgt := 50) hx hb (by omega) (by omega) dX6_girth_25 (by decide) (fun h9 => absurd h9 (by omega)) (fun _ => ?_)
      refine lv_aload hx hb dX6_girth_28 (lv_at hl 3 rfl) ?_
      refine lv_iload hx hb dX6_girth_30 (lv_at hl 0 rfl) ?_
      refine xaald (j := k) hx hb hK.1 6 (hX.strips_) rfl (xix_of (by omega) (by omega)) rfl dX6_girth_32 ?_
      refine lv_astore (lv' := [(7, .ref (ad (30 + k))), (6, .int (nI k)), (2, .double sm), (1, .int (nI f9)), (4, .ref (ad 2)), (5, .int (nI (R - 1)))]) hx hb dX6_girth_33 hl (by decide) rfl (fun ls hl => ?_)
      refine lv_dload_n hx hb dX6_girth_35 rfl (lv_at hl 2 rfl) ?_
      refine lv_aload hx hb dX6_girth_36 (lv_at hl 0 rfl) ?_
      refine lv_iload_n hx hb dX6_girth_38 rfl (lv_at hl 3 rfl) ?_
      have cw_4 := cwV (R := rm_X6_girth) (rm := rm_X5_across) 1 (hts d0) gX6_girth_X5_across rfl rfl rfl (by decide +kernel) ⟨Nat.le_of_ble_eq_true rfl, Nat.le_of_ble_eq_true rfl⟩
      refine xcall hd0 (xintoV (b := (ad (30 + k))) (As := [.int (nI f9)]) (rest := [.double sm]) ⟨hx, hb, hml, hown, hts _⟩ cw_4 (va_recv hK.1 (x1 (hX.strip_ _ (by omega))) (ci := 6) (q0 := 0) rfl rfl) rfl rfl hl.1 rfl (lv_room (Nat.le_of_ble_eq_true rfl)) dX6_girth_39) (c_X5_across (l := l) (G := G) (ty := ty) (b0 := b0) hX hW (i := k) (f := f9) (by omega) (by omega)) (xoweB cw_4.1) hK hb0 hS (Nat.le_of_ble_eq_true rfl) (Nat.le_of_ble_eq_true rfl) (fun E_4 ce_4 q9_4 H_4 locs_4 d0 hd0 hp_4 hS hce_4 hcv_4 hcl_4 => ?_) (fun v_4 H_4 locs_4 d0 hd0 hp_4 hS => ?_)
      · exact hp_4.elim
      · obtain ⟨rfl, r_4, rfl, q_4⟩ := hp_4
        show W p l e _ (s.setDrawn _) m _ below meth c _ _ _ _ _ (F0 m 42 ls [.double r_4, .double sm])
        refine xdadd hd0 hx hb hsm q_4 dX6_girth_42 (fun r_5 d0 q_5 hd0 => ?_)
        refine lv_dstore_n (lv' := [(2, .double r_5), (7, .ref (ad (30 + k))), (6, .int (nI k)), (1, .int (nI f9)), (4, .ref (ad 2)), (5, .int (nI (R - 1)))]) hx hb dX6_girth_43 rfl hl (by decide) rfl (fun ls hl => ?_)
        refine xiincN (x := k) (y := 1) (lv' := [(6, .int (nI (k + 1))), (2, .double r_5), (7, .ref (ad (30 + k))), (1, .int (nI f9)), (4, .ref (ad 2)), (5, .int (nI (R - 1)))]) hx hb dX6_girth_44 hl (k := 2) rfl (by decide) (by decide) rfl (fun ls hl => ?_)
        refine lv_goto (tgt := 21) hx hb dX6_girth_47 (by decide) ?_
        exact ih (k + 1) r_5 _ d0 ls ⟨by omega, q_5⟩ hS hd0 (lv_sub hl [0, 1, 3, 4, 5] rfl)
set_option maxRecDepth 20000 in
theorem ggX6_lies_X6_stripAt : GoodIn wsX6_lies wsX6_stripAt := goodIn_ca (goodIn_r _ [9, 1, 2, 10, 20, 21, 22, 23, 24, 25] (by decide +kernel) (by decide +kernel)) (goodIn_sub (fun _ h => List.mem_cons_of_mem _ (List.mem_append_right _ h)) (by decide +kernel))
set_option maxRecDepth 20000 in
theorem gX6_lies_X6_stripAt : GoodIn wsX6_lies (wsV RX6 90 RX6 yX6_stripAt wsX6_stripAt) := goodIn_app (goodIn_of _ (by decide +kernel)) ggX6_lies_X6_stripAt
theorem dX6_lies_0 : decode cX6_lies 0 = .ok (.aload_n 0, 1) := by decide +kernel
theorem dX6_lies_1 : decode cX6_lies 1 = .ok (.iload_n 1, 1) := by decide +kernel
theorem dX6_lies_2 : decode cX6_lies 2 = .ok (.invokevirtual 90, 3) := by decide +kernel
theorem dX6_lies_5 : decode cX6_lies 5 = .ok (.astore_n 3, 1) := by decide +kernel
theorem dX6_lies_6 : decode cX6_lies 6 = .ok (.iload_n 2, 1) := by decide +kernel
theorem dX6_lies_7 : decode cX6_lies 7 = .ok (.ifCond .lt 8, 3) := by decide +kernel
theorem dX6_lies_10 : decode cX6_lies 10 = .ok (.iload_n 2, 1) := by decide +kernel
theorem dX6_lies_11 : decode cX6_lies 11 = .ok (.iconst 1, 1) := by decide +kernel
theorem dX6_lies_12 : decode cX6_lies 12 = .ok (.if_icmp .le 13, 3) := by decide +kernel
theorem dX6_lies_15 : decode cX6_lies 15 = .ok (.new 107, 3) := by decide +kernel
theorem dX6_lies_18 : decode cX6_lies 18 = .ok (.dup, 1) := by decide +kernel
theorem dX6_lies_19 : decode cX6_lies 19 = .ok (.ldc 229, 2) := by decide +kernel
theorem dX6_lies_21 : decode cX6_lies 21 = .ok (.invokespecial 111, 3) := by decide +kernel
theorem dX6_lies_24 : decode cX6_lies 24 = .ok (.athrow, 1) := by decide +kernel
theorem dX6_lies_25 : decode cX6_lies 25 = .ok (.iload_n 2, 1) := by decide +kernel
theorem dX6_lies_26 : decode cX6_lies 26 = .ok (.ifCond .ne 10, 3) := by decide +kernel
theorem dX6_lies_29 : decode cX6_lies 29 = .ok (.aload_n 3, 1) := by decide +kernel
theorem dX6_lies_30 : decode cX6_lies 30 = .ok (.getfield 213, 3) := by decide +kernel
theorem dX6_lies_33 : decode cX6_lies 33 = .ok (.goto 7, 3) := by decide +kernel
theorem dX6_lies_36 : decode cX6_lies 36 = .ok (.aload_n 3, 1) := by decide +kernel
theorem dX6_lies_37 : decode cX6_lies 37 = .ok (.getfield 226, 3) := by decide +kernel
theorem dX6_lies_40 : decode cX6_lies 40 = .ok (.ireturn, 1) := by decide +kernel
abbrev rm_X6_lies : Room := { frames := 10, cells := 20, slots := 150, locals := 400 }
theorem hw_X6_lies_1 : (Cond.classLink RX6 107 "java/lang/IndexOutOfBoundsException") ∈ wsX6_lies := List.mem_of_getElem? (i := 1) rfl
theorem hw_X6_lies_2 : (Cond.initialized "java/lang/IndexOutOfBoundsException") ∈ wsX6_lies := List.mem_of_getElem? (i := 2) rfl
theorem hw_X6_lies_3 : (Cond.fieldLink RX6 213 "PlankUnroll$Strip" "board" "I") ∈ wsX6_lies := List.mem_of_getElem? (i := 3) rfl
theorem hw_X6_lies_4 : (Cond.fieldLink RX6 226 "PlankUnroll$Strip" "eighths" "I") ∈ wsX6_lies := List.mem_of_getElem? (i := 4) rfl
theorem in_X6_lies_X5 : ∀ w ∈ wsX50, w ∈ wsX6_lies := by decide +kernel
theorem ht_X6_lies_0 : ∀ w ∈ (vx_atS RX6 111 "java/lang/IndexOutOfBoundsException" ["java/lang/RuntimeException", "java/lang/Exception"]).filter goodWord, w ∈ wsX6_lies := by decide +kernel
set_option maxHeartbeats 4000000 in
set_option maxRecDepth 100000 in
/-- lies -/
theorem c_X6_lies {l : Launch} {G : va_G} {ty : Nat → ClassId} {b0 : Nat} {H : Heap} (hfl : l.stackTraces = false) {ad : Nat → Nat} {F R nb : Nat} {pl wi hi fa : Nat → UInt64} {un bu lo la : Nat → Int32} {cx cy bx : Nat → Nat → UInt64} {nf : Nat → Nat} {K0 : Heap} (hX : xCla G ty ad F R pl un cx cy bu nb wi hi nf fa lo la bx K0 H) (hW : xWf F R nb nf ad b0) {x k : Int32} : xMet l yX6_lies wsX6_lies rm_X6_lies G ty b0 [.ref (ad 0), .int (x), .int (k)] H (fun v H1 => H = H1 ∧ (vp_in x (R - 1) ∧ vp_in k 2) ∧ v = some (.int (if k = 0 then lo x.toNatClampNeg else la x.toNatClampNeg))) (fun E H1 => E = "java/lang/IndexOutOfBoundsException" ∧ ¬ (vp_in x (R - 1) ∧ vp_in k 2) ∧ xext H H1) := by
  refine xbody (cc := cX6_lies) (maxL := 4) (ret := (some .int)) (C := RX6) (lv := [(0, .ref (ad 0)), (1, .int (x)), (2, .int (k))]) (by decide) rfl rfl (Nat.le_of_ble_eq_true rfl) rfl ?_
  intro p e s m below meth c d0 hx hb hr hts hown hlocks hml hxt hnm0 hK hb0 hH0 hS hd0 ls hl
  obtain ⟨⟨zF2, zF8⟩, ⟨zR2, zR8⟩⟩ := id hW.1
  have zB4 := hW.2.1
  refine lv_aload_n hx hb dX6_lies_0 rfl (lv_at hl 0 rfl) ?_
  refine lv_iload_n hx hb dX6_lies_1 rfl (lv_at hl 1 rfl) ?_
  have cw_1 := cwV (R := rm_X6_lies) (rm := rm_X6_stripAt) 1 (hts d0) gX6_lies_X6_stripAt rfl rfl rfl (by decide +kernel) ⟨Nat.le_of_ble_eq_true rfl, Nat.le_of_ble_eq_true rfl⟩
  refine xcall hd0 (xintoV (b := (ad 0)) (As := [.int (x)]) (rest := []) ⟨hx, hb, hml, hown, hts _⟩ cw_1 (va_recv hK.1 (x1 (hX.o_)) (ci := 7) (q0 := 0) rfl rfl) rfl rfl hl.1 rfl (lv_room (Nat.le_of_ble_eq_true rfl)) dX6_lies_2) (c_X6_stripAt (l := l) (G := G) (ty := ty) (b0 := b0) hfl hX hW (x := x)) (xoweB cw_1.1) hK hb0 hS (Nat.le_of_ble_eq_true rfl) (Nat.le_of_ble_eq_true rfl) (fun E_1 ce_1 q9_1 H_1 locs_1 d0 hd0 hp_1 hS hce_1 hcv_1 hcl_1 => ?_) (fun v_1 H_1 locs_1 d0 hd0 hp_1 hS => ?_)
  · exact xout hd0 hxt hlocks hce_1 hcv_1 hcl_1 hS (Nat.le_of_ble_eq_true rfl) (Nat.le_of_ble_eq_true rfl) ⟨hp_1.1, fun z => hp_1.2.1 z.1, hp_1.2.2⟩
  · obtain ⟨rfl, z_x, hv_1⟩ := hp_1
    obtain ⟨x9, hx9, ex9⟩ := vp_in_of z_x (by omega)
    subst ex9
    rw [nN_nI (show x9 < 2 ^ 31 by omega)] at hv_1
    subst hv_1
    show W p l e _ (s.setDrawn _) m _ below meth c _ _ _ _ _ (F0 m 5 ls [.ref (ad (30 + x9))])
    refine lv_astore_n (lv' := [(3, .ref (ad (30 + x9))), (0, .ref (ad 0)), (1, .int (nI x9)), (2, .int (k))]) hx hb dX6_lies_5 rfl hl (by decide) rfl (fun ls hl => ?_)
    refine lv_iload_n hx hb dX6_lies_6 rfl (lv_at hl 3 rfl) ?_
    refine lv_if_lt (tgt := 15) hx hb dX6_lies_7 (by decide) (fun c_2 => ?_) (fun c_2 => ?_)
    · exact xthrowS hfl hd0 hx hb hown hlocks hxt hml hl.1 hts (by decide +kernel) hw_X6_lies_1 hw_X6_lies_2 ht_X6_lies_0 xthrow_ok0 xthrow_gd0 (List.mem_of_getElem? (i := 10) rfl) hK hS dX6_lies_15 dX6_lies_18 dX6_lies_19 dX6_lies_21 dX6_lies_24 (Nat.le_of_ble_eq_true rfl) (Nat.le_of_ble_eq_true rfl) (Nat.le_of_ble_eq_true rfl) (Nat.le_of_ble_eq_true rfl) (Nat.le_of_ble_eq_true rfl) (Nat.le_of_ble_eq_true rfl) (fun H1 h9 => ⟨rfl, fun z => xin_no0 c_2 z.2, h9⟩)
    · refine lv_iload_n hx hb dX6_lies_10 rfl (lv_at hl 3 rfl) ?_
      refine lv_iconst (v := nI 1) hx hb dX6_lies_11 (by decide) ?_
      refine lv_icmp_le (tgt := 25) hx hb dX6_lies_12 (by decide) (fun c_3 => ?_) (fun c_3 => ?_)
      · have z_k : vp_in k 2 := xin_le1 (n := 1) c_2 c_3 (by decide)
        refine lv_iload_n hx hb dX6_lies_25 rfl (lv_at hl 3 rfl) ?_
        refine lv_if_ne (tgt := 36) hx hb dX6_lies_26 (by decide) (fun c_4 => ?_) (fun c_4 => ?_)
        · refine lv_aload_n hx hb dX6_lies_36 rfl (lv_at hl 0 rfl) ?_
          refine va_get (D := G) (cl := vwCl) (ci := 6) (v := .int (la x9)) (C := RX5) (T := TX5) (N := 9) hx hb (hts d0) in_X6_lies_X5 hown hK.1 (x1 (hX.strip_ _ (by omega))) 0 rfl rfl 8 (by decide) (hts d0 _ hw_X6_lies_4) (fun _ h9 => h9) rfl dX6_lies_37 ?_
          exact xiret hd0 hx hb hr hlocks hS (Nat.le_of_ble_eq_true rfl) (Nat.le_of_ble_eq_true rfl) dX6_lies_40 ⟨rfl, ⟨z_x, z_k⟩, by rw [nN_nI (by omega), if_neg c_4]⟩
        · refine lv_aload_n hx hb dX6_lies_29 rfl (lv_at hl 0 rfl) ?_
          refine va_get (D := G) (cl := vwCl) (ci := 6) (v := .int (lo x9)) (C := RX5) (T := TX5) (N := 9) hx hb (hts d0) in_X6_lies_X5 hown hK.1 (x1 (hX.strip_ _ (by omega))) 0 rfl rfl 7 (by decide) (hts d0 _ hw_X6_lies_3) (fun _ h9 => h9) rfl dX6_lies_30 ?_
          refine lv_goto (tgt := 40) hx hb dX6_lies_33 (by decide) ?_
          exact xiret hd0 hx hb hr hlocks hS (Nat.le_of_ble_eq_true rfl) (Nat.le_of_ble_eq_true rfl) dX6_lies_40 ⟨rfl, ⟨z_x, z_k⟩, by rw [nN_nI (by omega), if_pos c_4]⟩
      · exact xthrowS hfl hd0 hx hb hown hlocks hxt hml hl.1 hts (by decide +kernel) hw_X6_lies_1 hw_X6_lies_2 ht_X6_lies_0 xthrow_ok0 xthrow_gd0 (List.mem_of_getElem? (i := 10) rfl) hK hS dX6_lies_15 dX6_lies_18 dX6_lies_19 dX6_lies_21 dX6_lies_24 (Nat.le_of_ble_eq_true rfl) (Nat.le_of_ble_eq_true rfl) (Nat.le_of_ble_eq_true rfl) (Nat.le_of_ble_eq_true rfl) (Nat.le_of_ble_eq_true rfl) (Nat.le_of_ble_eq_true rfl) (fun H1 h9 => ⟨rfl, fun z => xin_gt1 (n := 1) c_3 (by decide) z.2, h9⟩)
set_option maxRecDepth 20000 in
theorem ggX6_butt_X6_stripAt : GoodIn wsX6_butt wsX6_stripAt := goodIn_ca (goodIn_r _ [6, 7, 8, 9, 24, 25, 26, 27, 28, 29] (by decide +kernel) (by decide +kernel)) (goodIn_sub (fun _ h => List.mem_cons_of_mem _ (List.mem_append_right _ h)) (by decide +kernel))
set_option maxRecDepth 20000 in
theorem gX6_butt_X6_stripAt : GoodIn wsX6_butt (wsV RX6 90 RX6 yX6_stripAt wsX6_stripAt) := goodIn_app (goodIn_of _ (by decide +kernel)) ggX6_butt_X6_stripAt
set_option maxRecDepth 20000 in
theorem ggX6_butt_X6_checkFrame : GoodIn wsX6_butt wsX6_checkFrame := goodIn_ca (goodIn_r _ [13, 7, 8, 14, 24, 25, 26, 27, 28, 29] (by decide +kernel) (by decide +kernel)) (goodIn_sub (fun _ h => List.mem_cons_of_mem _ (List.mem_append_right _ h)) (by decide +kernel))
set_option maxRecDepth 20000 in
theorem gX6_butt_X6_checkFrame : GoodIn wsX6_butt (wsV RX6 158 RX6 yX6_checkFrame wsX6_checkFrame) := goodIn_app (goodIn_of _ (by decide +kernel)) ggX6_butt_X6_checkFrame
theorem dX6_butt_0 : decode cX6_butt 0 = .ok (.aload_n 0, 1) := by decide +kernel
theorem dX6_butt_1 : decode cX6_butt 1 = .ok (.iload_n 1, 1) := by decide +kernel
theorem dX6_butt_2 : decode cX6_butt 2 = .ok (.invokevirtual 90, 3) := by decide +kernel
theorem dX6_butt_5 : decode cX6_butt 5 = .ok (.astore 4, 2) := by decide +kernel
theorem dX6_butt_7 : decode cX6_butt 7 = .ok (.aload_n 0, 1) := by decide +kernel
theorem dX6_butt_8 : decode cX6_butt 8 = .ok (.iload_n 2, 1) := by decide +kernel
theorem dX6_butt_9 : decode cX6_butt 9 = .ok (.invokevirtual 158, 3) := by decide +kernel
theorem dX6_butt_12 : decode cX6_butt 12 = .ok (.aload 4, 2) := by decide +kernel
theorem dX6_butt_14 : decode cX6_butt 14 = .ok (.getfield 164, 3) := by decide +kernel
theorem dX6_butt_17 : decode cX6_butt 17 = .ok (.iload_n 2, 1) := by decide +kernel
theorem dX6_butt_18 : decode cX6_butt 18 = .ok (.baload, 1) := by decide +kernel
theorem dX6_butt_19 : decode cX6_butt 19 = .ok (.iload_n 3, 1) := by decide +kernel
theorem dX6_butt_20 : decode cX6_butt 20 = .ok (.if_icmp .eq 7, 3) := by decide +kernel
theorem dX6_butt_23 : decode cX6_butt 23 = .ok (.iconst 1, 1) := by decide +kernel
theorem dX6_butt_24 : decode cX6_butt 24 = .ok (.goto 4, 3) := by decide +kernel
theorem dX6_butt_27 : decode cX6_butt 27 = .ok (.iconst 0, 1) := by decide +kernel
theorem dX6_butt_28 : decode cX6_butt 28 = .ok (.istore 5, 2) := by decide +kernel
theorem dX6_butt_30 : decode cX6_butt 30 = .ok (.aload 4, 2) := by decide +kernel
theorem dX6_butt_32 : decode cX6_butt 32 = .ok (.getfield 164, 3) := by decide +kernel
theorem dX6_butt_35 : decode cX6_butt 35 = .ok (.iload_n 2, 1) := by decide +kernel
theorem dX6_butt_36 : decode cX6_butt 36 = .ok (.iload_n 3, 1) := by decide +kernel
theorem dX6_butt_37 : decode cX6_butt 37 = .ok (.bastore, 1) := by decide +kernel
theorem dX6_butt_38 : decode cX6_butt 38 = .ok (.iload 5, 2) := by decide +kernel
theorem dX6_butt_40 : decode cX6_butt 40 = .ok (.ireturn, 1) := by decide +kernel
abbrev rm_X6_butt : Room := { frames := 10, cells := 20, slots := 150, locals := 400 }
theorem hw_X6_butt_1 : (Cond.fieldLink RX6 164 "PlankUnroll$Strip" "butts" "[Z") ∈ wsX6_butt := List.mem_of_getElem? (i := 1) rfl
theorem in_X6_butt_X5 : ∀ w ∈ wsX50, w ∈ wsX6_butt := by decide +kernel
set_option maxHeartbeats 4000000 in
set_option maxRecDepth 100000 in
/-- butt -/
theorem c_X6_butt {l : Launch} {G : va_G} {ty : Nat → ClassId} {b0 : Nat} {H : Heap} (hfl : l.stackTraces = false) {ad : Nat → Nat} {F R nb : Nat} {pl wi hi fa : Nat → UInt64} {un bu lo la : Nat → Int32} {cx cy bx : Nat → Nat → UInt64} {nf : Nat → Nat} {K0 : Heap} (hX : xCla G ty ad F R pl un cx cy bu nb wi hi nf fa lo la bx K0 H) (hW : xWf F R nb nf ad b0) {x f on : Int32} (hon : on = 0 ∨ on = 1) : xMet l yX6_butt wsX6_butt rm_X6_butt G ty b0 [.ref (ad 0), .int (x), .int (f), .int (on)] H (fun v H1 => (vp_in x (R - 1) ∧ vp_in f F) ∧ v = some (.int (xP (¬ bu (8 * x.toNatClampNeg + f.toNatClampNeg) = on))) ∧ xCla G ty ad F R pl un cx cy (upd bu (8 * x.toNatClampNeg + f.toNatClampNeg) on) nb wi hi nf fa lo la bx K0 H1) (fun E H1 => E = "java/lang/IndexOutOfBoundsException" ∧ ¬ (vp_in x (R - 1) ∧ vp_in f F) ∧ xext H H1) := by
  refine xbody (cc := cX6_butt) (maxL := 6) (ret := (some .boolean)) (C := RX6) (lv := [(0, .ref (ad 0)), (1, .int (x)), (2, .int (f)), (3, .int (on))]) (by decide) rfl rfl (Nat.le_of_ble_eq_true rfl) rfl ?_
  intro p e s m below meth c d0 hx hb hr hts hown hlocks hml hxt hnm0 hK hb0 hH0 hS hd0 ls hl
  obtain ⟨⟨zF2, zF8⟩, ⟨zR2, zR8⟩⟩ := id hW.1
  have zB4 := hW.2.1
  refine lv_aload_n hx hb dX6_butt_0 rfl (lv_at hl 0 rfl) ?_
  refine lv_iload_n hx hb dX6_butt_1 rfl (lv_at hl 1 rfl) ?_
  have cw_1 := cwV (R := rm_X6_butt) (rm := rm_X6_stripAt) 1 (hts d0) gX6_butt_X6_stripAt rfl rfl rfl (by decide +kernel) ⟨Nat.le_of_ble_eq_true rfl, Nat.le_of_ble_eq_true rfl⟩
  refine xcall hd0 (xintoV (b := (ad 0)) (As := [.int (x)]) (rest := []) ⟨hx, hb, hml, hown, hts _⟩ cw_1 (va_recv hK.1 (x1 (hX.o_)) (ci := 7) (q0 := 0) rfl rfl) rfl rfl hl.1 rfl (lv_room (Nat.le_of_ble_eq_true rfl)) dX6_butt_2) (c_X6_stripAt (l := l) (G := G) (ty := ty) (b0 := b0) hfl hX hW (x := x)) (xoweB cw_1.1) hK hb0 hS (Nat.le_of_ble_eq_true rfl) (Nat.le_of_ble_eq_true rfl) (fun E_1 ce_1 q9_1 H_1 locs_1 d0 hd0 hp_1 hS hce_1 hcv_1 hcl_1 => ?_) (fun v_1 H_1 locs_1 d0 hd0 hp_1 hS => ?_)
  · exact xout hd0 hxt hlocks hce_1 hcv_1 hcl_1 hS (Nat.le_of_ble_eq_true rfl) (Nat.le_of_ble_eq_true rfl) ⟨hp_1.1, fun z => hp_1.2.1 z.1, hp_1.2.2⟩
  · obtain ⟨rfl, z_x, hv_1⟩ := hp_1
    obtain ⟨x9, hx9, ex9⟩ := vp_in_of z_x (by omega)
    subst ex9
    rw [nN_nI (show x9 < 2 ^ 31 by omega)] at hv_1
    subst hv_1
    show W p l e _ (s.setDrawn _) m _ below meth c _ _ _ _ _ (F0 m 5 ls [.ref (ad (30 + x9))])
    refine lv_astore (lv' := [(4, .ref (ad (30 + x9))), (0, .ref (ad 0)), (1, .int (nI x9)), (2, .int (f)), (3, .int (on))]) hx hb dX6_butt_5 hl (by decide) rfl (fun ls hl => ?_)
    refine lv_aload_n hx hb dX6_butt_7 rfl (lv_at hl 1 rfl) ?_
    refine lv_iload_n hx hb dX6_butt_8 rfl (lv_at hl 3 rfl) ?_
    have cw_2 := cwV (R := rm_X6_butt) (rm := rm_X6_checkFrame) 1 (hts d0) gX6_butt_X6_checkFrame rfl rfl rfl (by decide +kernel) ⟨Nat.le_of_ble_eq_true rfl, Nat.le_of_ble_eq_true rfl⟩
    refine xcall hd0 (xintoV (b := (ad 0)) (As := [.int (f)]) (rest := []) ⟨hx, hb, hml, hown, hts _⟩ cw_2 (va_recv hK.1 (x1 (hX.o_)) (ci := 7) (q0 := 0) rfl rfl) rfl rfl hl.1 rfl (lv_room (Nat.le_of_ble_eq_true rfl)) dX6_butt_9) (c_X6_checkFrame (l := l) (G := G) (ty := ty) (b0 := b0) hfl hX hW (f := f)) (xoweB cw_2.1) hK hb0 hS (Nat.le_of_ble_eq_true rfl) (Nat.le_of_ble_eq_true rfl) (fun E_2 ce_2 q9_2 H_2 locs_2 d0 hd0 hp_2 hS hce_2 hcv_2 hcl_2 => ?_) (fun v_2 H_2 locs_2 d0 hd0 hp_2 hS => ?_)
    · exact xout hd0 hxt hlocks hce_2 hcv_2 hcl_2 hS (Nat.le_of_ble_eq_true rfl) (Nat.le_of_ble_eq_true rfl) ⟨hp_2.1, fun z => hp_2.2.1 z.2, hp_2.2.2⟩
    · obtain ⟨rfl, rfl, z_f⟩ := hp_2
      obtain ⟨f9, hf9, ef9⟩ := vp_in_of z_f (by omega)
      subst ef9
      show W p l e _ (s.setDrawn _) m _ below meth c _ _ _ _ _ (F0 m 12 ls [])
      have J_3 : ∀ (jy : Int32) (locs : List Loc) (d0 : Drawn) (ls : Array Slot), jy = (xP (¬ bu (8 * x9 + f9) = on)) → va_S (xA b0) s.heap H locs → s.drawn.sameBut d0 lw_cs → lv_has ls 6 [(0, .ref (ad 0)), (2, .int (nI f9)), (3, .int (on)), (4, .ref (ad (30 + x9)))] → W p l e rm_X6_butt (s.setDrawn d0) m [Value.ref (ad 0), Value.int ((nI x9)), Value.int ((nI f9)), Value.int (on)].toArray below meth c H locs (0 + rm_X6_stripAt.cells + rm_X6_checkFrame.cells) (0 + rm_X6_stripAt.slots + rm_X6_checkFrame.slots) (xMQ below (fun v H1 => (vp_in (nI x9) (R - 1) ∧ vp_in (nI f9) F) ∧ v = some (.int (xP (¬ bu (8 * (nI x9).toNatClampNeg + (nI f9).toNatClampNeg) = on))) ∧ xCla G ty ad F R pl un cx cy (upd bu (8 * (nI x9).toNatClampNeg + (nI f9).toNatClampNeg) on) nb wi hi nf fa lo la bx K0 H1) (fun E H1 => E = "java/lang/IndexOutOfBoundsException" ∧ ¬ (vp_in (nI x9) (R - 1) ∧ vp_in (nI f9) F) ∧ xext H H1) [.ref (ad 0), .int ((nI x9)), .int ((nI f9)), .int (on)].toArray s rm_X6_butt b0) (F0 m 28 ls [.int (jy)]) := by
        intro jy locs d0 ls hP_3 hS hd0 hl
        subst hP_3
        refine lv_istore (lv' := [(5, .int ((xP (¬ bu (8 * x9 + f9) = on)))), (0, .ref (ad 0)), (2, .int (nI f9)), (3, .int (on)), (4, .ref (ad (30 + x9)))]) hx hb dX6_butt_28 hl (by decide) rfl (fun ls hl => ?_)
        refine lv_aload hx hb dX6_butt_30 (lv_at hl 4 rfl) ?_
        refine va_get (D := G) (cl := vwCl) (ci := 6) (v := .ref (ad (60 + x9))) (C := RX5) (T := TX5) (N := 9) hx hb (hts d0) in_X6_butt_X5 hown hK.1 (x1 (hX.strip_ _ (by omega))) 0 rfl rfl 4 (by decide) (hts d0 _ hw_X6_butt_1) (fun _ h9 => h9) rfl dX6_butt_32 ?_
        refine lv_iload_n hx hb dX6_butt_35 rfl (lv_at hl 2 rfl) ?_
        refine lv_iload_n hx hb dX6_butt_36 rfl (lv_at hl 3 rfl) ?_
        refine xzastN (s := s.setDrawn d0) (j := f9) (x := on) hx hb hK.1 2 (hX.bt_ _ (by omega)) hS (hW.2.2.2.1 _ (xU_bt (by omega))) rfl (xix_of (by omega) (by omega)) (zNar hon) dX6_butt_37 (fun H_4 locs_4 hs_4 hS => ?_)
        have hX_4 : xCla G ty ad F R pl un cx cy (upd bu (8 * x9 + f9) on) nb wi hi nf fa lo la bx K0 H_4 := hX.put_bt (by omega) (by omega) hW hs_4
        refine lv_iload hx hb dX6_butt_38 (lv_at hl 0 rfl) ?_
        exact xzret (xP_nz _) hd0 hx hb hr hlocks hS (Nat.le_of_ble_eq_true rfl) (Nat.le_of_ble_eq_true rfl) dX6_butt_40 ⟨⟨z_x, z_f⟩, by rw [nN_nI (by omega), nN_nI (by omega)], by rw [nN_nI (by omega), nN_nI (by omega)]; exact hX_4⟩
      refine lv_aload hx hb dX6_butt_12 (lv_at hl 0 rfl) ?_
      refine va_get (D := G) (cl := vwCl) (ci := 6) (v := .ref (ad (60 + x9))) (C := RX5) (T := TX5) (N := 9) hx hb (hts d0) in_X6_butt_X5 hown hK.1 (x1 (hX.strip_ _ (by omega))) 0 rfl rfl 4 (by decide) (hts d0 _ hw_X6_butt_1) (fun _ h9 => h9) rfl dX6_butt_14 ?_
      refine lv_iload_n hx hb dX6_butt_17 rfl (lv_at hl 3 rfl) ?_
      refine xzald (j := f9) hx hb hK.1 2 (hX.bt_ _ (by omega)) rfl (xix_of (by omega) (by omega)) dX6_butt_18 ?_
      refine lv_iload_n hx hb dX6_butt_19 rfl (lv_at hl 4 rfl) ?_
      refine lv_icmp_eq (tgt := 27) hx hb dX6_butt_20 (by decide) (fun c_5 => ?_) (fun c_5 => ?_)
      · refine lv_iconst (v := nI 0) hx hb dX6_butt_27 (by decide) ?_
        exact J_3 _ _ d0 ls (xP_f (fun z => z c_5)).symm hS hd0 (lv_sub hl [1, 3, 4, 0] rfl)
      · refine lv_iconst (v := nI 1) hx hb dX6_butt_23 (by decide) ?_
        refine lv_goto (tgt := 28) hx hb dX6_butt_24 (by decide) ?_
        exact J_3 _ _ d0 ls (xP_t c_5).symm hS hd0 (lv_sub hl [1, 3, 4, 0] rfl)
set_option maxRecDepth 20000 in
theorem ggX6_closes_X6_checkStaves : GoodIn wsX6_closes wsX6_checkStaves := goodIn_ca (goodIn_r _ [7, 1, 2, 8, 9, 10, 11, 6, 12] (by decide +kernel) (by decide +kernel)) (goodIn_sub (fun _ h => List.mem_cons_of_mem _ (List.mem_append_right _ h)) (by decide +kernel))
set_option maxRecDepth 20000 in
theorem gX6_closes_X6_checkStaves : GoodIn wsX6_closes (va_wsS RX6 231 yX6_checkStaves wsX6_checkStaves) := goodIn_app (goodIn_of _ (by decide +kernel)) ggX6_closes_X6_checkStaves
set_option maxRecDepth 20000 in
theorem ggX6_closes_X6_circleOf : GoodIn wsX6_closes wsX6_circleOf := goodIn_r _ [15, 16] (by decide +kernel) (by decide +kernel)
set_option maxRecDepth 20000 in
theorem gX6_closes_X6_circleOf : GoodIn wsX6_closes (va_wsS RX6 234 yX6_circleOf wsX6_circleOf) := goodIn_app (goodIn_of _ (by decide +kernel)) ggX6_closes_X6_circleOf
theorem dX6_closes_0 : decode cX6_closes 0 = .ok (.dload_n 2, 1) := by decide +kernel
theorem dX6_closes_1 : decode cX6_closes 1 = .ok (.dload 4, 2) := by decide +kernel
theorem dX6_closes_3 : decode cX6_closes 3 = .ok (.invokestatic 231, 3) := by decide +kernel
theorem dX6_closes_6 : decode cX6_closes 6 = .ok (.iload_n 1, 1) := by decide +kernel
theorem dX6_closes_7 : decode cX6_closes 7 = .ok (.iconst 1, 1) := by decide +kernel
theorem dX6_closes_8 : decode cX6_closes 8 = .ok (.if_icmp .lt 9, 3) := by decide +kernel
theorem dX6_closes_11 : decode cX6_closes 11 = .ok (.iload_n 1, 1) := by decide +kernel
theorem dX6_closes_12 : decode cX6_closes 12 = .ok (.ldc 243, 2) := by decide +kernel
theorem dX6_closes_14 : decode cX6_closes 14 = .ok (.if_icmp .le 13, 3) := by decide +kernel
theorem dX6_closes_17 : decode cX6_closes 17 = .ok (.new 64, 3) := by decide +kernel
theorem dX6_closes_20 : decode cX6_closes 20 = .ok (.dup, 1) := by decide +kernel
theorem dX6_closes_21 : decode cX6_closes 21 = .ok (.ldc 244, 2) := by decide +kernel
theorem dX6_closes_23 : decode cX6_closes 23 = .ok (.invokespecial 68, 3) := by decide +kernel
theorem dX6_closes_26 : decode cX6_closes 26 = .ok (.athrow, 1) := by decide +kernel
theorem dX6_closes_27 : decode cX6_closes 27 = .ok (.iload_n 1, 1) := by decide +kernel
theorem dX6_closes_28 : decode cX6_closes 28 = .ok (.i2d, 1) := by decide +kernel
theorem dX6_closes_29 : decode cX6_closes 29 = .ok (.dload_n 2, 1) := by decide +kernel
theorem dX6_closes_30 : decode cX6_closes 30 = .ok (.dmul, 1) := by decide +kernel
theorem dX6_closes_31 : decode cX6_closes 31 = .ok (.dload 4, 2) := by decide +kernel
theorem dX6_closes_33 : decode cX6_closes 33 = .ok (.invokestatic 234, 3) := by decide +kernel
theorem dX6_closes_36 : decode cX6_closes 36 = .ok (.dsub, 1) := by decide +kernel
theorem dX6_closes_37 : decode cX6_closes 37 = .ok (.dreturn, 1) := by decide +kernel
abbrev rm_X6_closes : Room := { frames := 10, cells := 20, slots := 150, locals := 400 }
theorem hw_X6_closes_1 : (Cond.classLink RX6 64 "java/lang/IllegalArgumentException") ∈ wsX6_closes := List.mem_of_getElem? (i := 1) rfl
theorem hw_X6_closes_2 : (Cond.initialized "java/lang/IllegalArgumentException") ∈ wsX6_closes := List.mem_of_getElem? (i := 2) rfl
theorem hw_X6_closes_3 : (Cond.constant RX6 243 (100000)) ∈ wsX6_closes := List.mem_of_getElem? (i := 3) rfl
theorem ht_X6_closes_1 : ∀ w ∈ (vx_atS RX6 68 "java/lang/IllegalArgumentException" ["java/lang/RuntimeException", "java/lang/Exception"]).filter goodWord, w ∈ wsX6_closes := by decide +kernel
set_option maxHeartbeats 4000000 in
set_option maxRecDepth 100000 in
/-- closes -/
theorem c_X6_closes {l : Launch} {G : va_G} {ty : Nat → ClassId} {b0 : Nat} {H : Heap} (hfl : l.stackTraces = false) {x0 : Nat} {n : Int32} {x d ew ed : UInt64} (hx9 : vq x ew) (hd9 : vq d ed) : xMet l yX6_closes wsX6_closes rm_X6_closes G ty b0 [.ref x0, .int (n), .double x, .double d] H (fun v H1 => H = H1 ∧ (pStav ew ed = true ∧ ¬ n < nI 1 ∧ ¬ nI 100000 < n) ∧ ∃ z9 : UInt64, v = some (.double z9) ∧ vq z9 (FP.dsub (FP.dmul (FP.i2d n) ew) (FP.dmul ed 4614256656552045848))) (fun E H1 => E = "java/lang/IllegalArgumentException" ∧ ¬ (pStav ew ed = true ∧ ¬ n < nI 1 ∧ ¬ nI 100000 < n) ∧ xext H H1) := by
  refine xbody (cc := cX6_closes) (maxL := 6) (ret := (some .double)) (C := RX6) (lv := [(0, .ref x0), (1, .int (n)), (2, .double x), (4, .double d)]) (by decide) rfl rfl (Nat.le_of_ble_eq_true rfl) rfl ?_
  intro p e s m below meth c d0 hx hb hr hts hown hlocks hml hxt hnm0 hK hb0 hH0 hS hd0 ls hl
  refine lv_dload_n hx hb dX6_closes_0 rfl (lv_at hl 2 rfl) ?_
  refine lv_dload hx hb dX6_closes_1 (lv_at hl 3 rfl) ?_
  have cw_1 := va_cwS (R := rm_X6_closes) (rm := rm_X6_checkStaves) 2 (hts d0) gX6_closes_X6_checkStaves rfl rfl rfl (by decide +kernel) ⟨Nat.le_of_ble_eq_true rfl, Nat.le_of_ble_eq_true rfl⟩
  refine xcall hd0 (xintoS (As := [.double x, .double d]) (rest := []) ⟨hx, hb, hml, hown, hts _⟩ cw_1 rfl rfl hl.1 rfl (lv_room (Nat.le_of_ble_eq_true rfl)) dX6_closes_3) (c_X6_checkStaves (l := l) (G := G) (ty := ty) (b0 := b0) hfl hx9 hd9) (xoweB cw_1.1) hK hb0 hS (Nat.le_of_ble_eq_true rfl) (Nat.le_of_ble_eq_true rfl) (fun E_1 ce_1 q9_1 H_1 locs_1 d0 hd0 hp_1 hS hce_1 hcv_1 hcl_1 => ?_) (fun v_1 H_1 locs_1 d0 hd0 hp_1 hS => ?_)
  · exact xout hd0 hxt hlocks hce_1 hcv_1 hcl_1 hS (Nat.le_of_ble_eq_true rfl) (Nat.le_of_ble_eq_true rfl) ⟨hp_1.1, fun z => hp_1.2.1 z.1, hp_1.2.2⟩
  · obtain ⟨rfl, rfl, z_s⟩ := hp_1
    show W p l e _ (s.setDrawn _) m _ below meth c _ _ _ _ _ (F0 m 6 ls [])
    refine lv_iload_n hx hb dX6_closes_6 rfl (lv_at hl 1 rfl) ?_
    refine lv_iconst (v := nI 1) hx hb dX6_closes_7 (by decide) ?_
    refine lv_icmp_lt (tgt := 17) hx hb dX6_closes_8 (by decide) (fun c_2 => ?_) (fun c_2 => ?_)
    · exact xthrowS hfl hd0 hx hb hown hlocks hxt hml hl.1 hts (by decide +kernel) hw_X6_closes_1 hw_X6_closes_2 ht_X6_closes_1 xthrow_ok1 xthrow_gd1 (List.mem_of_getElem? (i := 11) rfl) hK hS dX6_closes_17 dX6_closes_20 dX6_closes_21 dX6_closes_23 dX6_closes_26 (Nat.le_of_ble_eq_true rfl) (Nat.le_of_ble_eq_true rfl) (Nat.le_of_ble_eq_true rfl) (Nat.le_of_ble_eq_true rfl) (Nat.le_of_ble_eq_true rfl) (Nat.le_of_ble_eq_true rfl) (fun H1 h9 => ⟨rfl, fun z => z.2.1 c_2, h9⟩)
    · refine lv_iload_n hx hb dX6_closes_11 rfl (lv_at hl 1 rfl) ?_
      refine lv_ldc (v := nI 100000) hx hb hown (hts d0 _ hw_X6_closes_3) dX6_closes_12 ?_
      refine lv_icmp_le (tgt := 27) hx hb dX6_closes_14 (by decide) (fun c_3 => ?_) (fun c_3 => ?_)
      · refine lv_iload_n hx hb dX6_closes_27 rfl (lv_at hl 1 rfl) ?_
        refine lv_i2d hx hb dX6_closes_28 ?_
        refine lv_dload_n hx hb dX6_closes_29 rfl (lv_at hl 2 rfl) ?_
        refine xdmul hd0 hx hb (vq_rf _) hx9 dX6_closes_30 (fun r_4 d0 q_4 hd0 => ?_)
        refine lv_dload hx hb dX6_closes_31 (lv_at hl 3 rfl) ?_
        have cw_5 := va_cwS (R := rm_X6_closes) (rm := rm_X6_circleOf) 1 (hts d0) gX6_closes_X6_circleOf rfl rfl rfl (by decide +kernel) ⟨Nat.le_of_ble_eq_true rfl, Nat.le_of_ble_eq_true rfl⟩
        refine xcall hd0 (xintoS (As := [.double d]) (rest := [.double r_4]) ⟨hx, hb, hml, hown, hts _⟩ cw_5 rfl rfl hl.1 rfl (lv_room (Nat.le_of_ble_eq_true rfl)) dX6_closes_33) (c_X6_circleOf (l := l) (G := G) (ty := ty) (b0 := b0) hd9) (xoweB cw_5.1) hK hb0 hS (Nat.le_of_ble_eq_true rfl) (Nat.le_of_ble_eq_true rfl) (fun E_5 ce_5 q9_5 H_5 locs_5 d0 hd0 hp_5 hS hce_5 hcv_5 hcl_5 => ?_) (fun v_5 H_5 locs_5 d0 hd0 hp_5 hS => ?_)
        · exact hp_5.elim
        · obtain ⟨rfl, r_5, rfl, q_5⟩ := hp_5
          show W p l e _ (s.setDrawn _) m _ below meth c _ _ _ _ _ (F0 m 36 ls [.double r_5, .double r_4])
          refine xdsub hd0 hx hb q_4 q_5 dX6_closes_36 (fun r_6 d0 q_6 hd0 => ?_)
          exact xdret hd0 hx hb hr hlocks hS (Nat.le_of_ble_eq_true rfl) (Nat.le_of_ble_eq_true rfl) dX6_closes_37 ⟨rfl, ⟨z_s, c_2, Int32.not_lt.mpr c_3⟩, _, rfl, q_6⟩
      · exact xthrowS hfl hd0 hx hb hown hlocks hxt hml hl.1 hts (by decide +kernel) hw_X6_closes_1 hw_X6_closes_2 ht_X6_closes_1 xthrow_ok1 xthrow_gd1 (List.mem_of_getElem? (i := 11) rfl) hK hS dX6_closes_17 dX6_closes_20 dX6_closes_21 dX6_closes_23 dX6_closes_26 (Nat.le_of_ble_eq_true rfl) (Nat.le_of_ble_eq_true rfl) (Nat.le_of_ble_eq_true rfl) (Nat.le_of_ble_eq_true rfl) (Nat.le_of_ble_eq_true rfl) (Nat.le_of_ble_eq_true rfl) (fun H1 h9 => ⟨rfl, fun z => z.2.2 (Int32.not_le.mp c_3), h9⟩)
