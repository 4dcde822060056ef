/-! THE LAW: its beginning. -/
section LawStart
variable {p : Program} {l : Launch} {e : Env} {s : State} {m : MethodId} {below : List Frame} {meth : Method} {c : Code} {H : Heap} {locs : List Loc} {cells slots : Nat} {Q : State → Prop} {d0 : Drawn} {ls : Array Slot} {rest : List Value}
variable {G : va_G} {ty : Nat → ClassId} {b0 b L : Nat} {xs : Nat → Int32}
theorem law_cell (hC : lwC p s m c b L xs G ty b0) (hS : va_S (xA b0) s.heap H locs) (hz : ls.size = 9) {k pc : Nat} (hk : k < 2 ^ 31) (hrest : 2 * (0 : Nat) + (rest.map fun v => v.category).sum ≤ 8) (hdg : decode cL_law pc = .ok (.invokestatic 78, 3)) (hc : cells ≤ 675798) (hs : slots ≤ 7068677)
    (kk : ∀ (H1 : Heap) (locs1 : List Loc), H.size ≤ H1.size → (∀ q : Nat, q < H.size → H1[q]? = H[q]?) → va_S (xA b0) s.heap H1 locs1 → W p l e rm_L_law (s.setDrawn d0) m #[Value.ref b] below meth c H1 locs1 cells slots Q (F0 m (pc + 3) ls (.int (pCell L xs k) :: rest))) :
    W p l e rm_L_law (s.setDrawn d0) m #[Value.ref b] below meth c H locs cells slots Q (F0 m pc ls (.int (nI k) :: .ref b :: rest)) := by
  obtain ⟨hx, hb, hml, hown, hts0, hXs, hbl, hbA, hL, hK, hb0⟩ := hC
  have hts : ∀ w ∈ wsL_law, w.before #[Value.ref b] (s.setDrawn d0) = true := dr_words hts0 d0
  have hXH : va_X b L xs s H := hXs.kept (hS.2.1 b hbl hbA)
  have cw := va_cwS (R := rm_L_law) (rm := rm_L_cell) 2 hts gL_law_L_cell rfl rfl rfl (by decide +kernel) ⟨Nat.le_of_ble_eq_true rfl, Nat.le_of_ble_eq_true rfl⟩
  have hM := c_L_cell (l := l) (b := b) (L := L) (k := k) (xs := xs) (H := H) (by omega) hk
  refine va_calli (s := s.setDrawn d0) (A0 := xA b0) (H0 := s.heap) (va_runS (As := [.ref b, .int (nI k)]) (rest := rest) ⟨hx, hb, hml, hown, hts⟩ hM cw ⟨fun a U g mk q => ⟨q.1, q.2.1, va_X.moved (u := U) (U := U.calling g mk a) (Vm.Alike.refl U.vm) q.2.2⟩, fun U hU hW => ⟨rfl, hU, va_X.moved (u := s) hW.alike hXH⟩⟩ rfl rfl hz rfl hrest hdg ⟨hc, hs⟩) hS (fun q _ h => h.elim) (fun q h => h.elim) (fun r u t H1 locs1 ht hvm hw hB hz1 hk1 hS1 => ?_)
  subst hw
  exact kk H1 locs1 hz1 (fun q hq => hk1 q hq (fun h => h)) hS1
end LawStart
set_option maxHeartbeats 4000000 in
/-- FROM THE ENTRY TO THE END -/
theorem law_all {p : Program} {e : Env} {s : State} {m : MethodId} {below : List Frame} {meth : Method} {c : Code} {l : Launch} (hfl : l.stackTraces = false) {G : va_G} {ty : Nat → ClassId} {b L : Nat} {xs : Nat → Int32} (hC : lwC p s m c b L xs G ty s.heap.size) (hr : meth.sig.returnType = ret) (hlocks : meth.locks = false) {d0 : Drawn} (hd0 : s.drawn.sameBut d0 lw_cs) {ls : Array Slot} (hl : lv_has ls 9 [(0, .ref b)]) :
    W p l e rm_L_law (s.setDrawn d0) m #[Value.ref b] below meth c s.heap [] 0 0 (lw_Z below #[Value.ref b] s) (F0 m 0 ls []) := by
  obtain ⟨hx, hb, hml, hown, hts0, hXs, hbl, hbA, hL, hK, hb0⟩ := id hC
  have hts : ∀ d0 : Drawn, ∀ w ∈ wsL_law, w.before #[Value.ref b] (s.setDrawn d0) = true := fun d0 => dr_words hts0 d0
  have hS : va_S (xA s.heap.size) s.heap s.heap [] := va_S.rf
  refine xnew (G := G) (s := s.setDrawn d0) (fs := [.int (nI 0), .null, .null, .null, .null, .null]) hx hb (hts d0) in_L_law_X6 tyX6 tyX6_ok hown (hts d0 _ hw_L_law_1) (hts d0 _ hw_L_law_2) (hts d0 _ hw_L_law_3) hK.1 hS (ci := 7) rfl nB_X6 (Nat.le_of_ble_eq_true rfl) (Nat.le_of_ble_eq_true rfl) dL_law_0 (fun q0 H1 hg1 hS => ?_)
  have hq0 : s.heap.size = q0 := hg1.2.1
  refine lv_dup hx hb dL_law_3 rfl ?_
  refine lv_aload_n hx hb dL_law_4 rfl (lv_at hl 0 rfl) ?_
  refine lv_iconst (v := nI 0) hx hb dL_law_5 (by decide) ?_
  refine law_cell hC hS hl.1 (by decide) (Nat.le_of_ble_eq_true rfl) dL_law_6 (Nat.le_of_ble_eq_true rfl) (Nat.le_of_ble_eq_true rfl) (fun H2 locs z2 k2 hS => ?_)
  refine lv_aload_n hx hb dL_law_9 rfl (lv_at hl 0 rfl) ?_
  refine lv_iconst (v := nI 1) hx hb dL_law_10 (by decide) ?_
  refine law_cell hC hS hl.1 (by decide) (Nat.le_of_ble_eq_true rfl) dL_law_11 (Nat.le_of_ble_eq_true rfl) (Nat.le_of_ble_eq_true rfl) (fun H3 locs z3 k3 hS => ?_)
  have y1 : q0 < H1.size := hg1.1.lt
  have c3 : xc G q0 (.inr (7, [.int (nI 0), .null, .null, .null, .null, .null])) H3 := (hg1.1.kept (k2 q0 y1)).kept (k3 q0 (by omega))
  have cw1 := cwI (R := rm_L_law) (rm := rm_X6_init) 2 (hts d0) gL_law_X6_init rfl rfl rfl (hts d0 _ hw_L_law_3) (hts d0 _ hw_L_law_9) (hts d0 _ hw_L_law_10) rfl (by decide +kernel) ⟨Nat.le_of_ble_eq_true rfl, Nat.le_of_ble_eq_true rfl⟩
  generalize hF : xCl (pCell L xs 0) = F
  generalize hR : xCl (pCell L xs 1) = R
  refine xcall hd0 (xintoI (b := q0) (As := [.int (pCell L xs 0), .int (pCell L xs 1)]) (rest := [.ref q0]) ⟨hx, hb, hml, hown, hts _⟩ cw1 rfl rfl hl.1 rfl (lv_room (Nat.le_of_ble_eq_true rfl)) dL_law_14) (c_X6_new (l := l) (G := G) (ty := ty) (b0 := s.heap.size) hF hR (by omega) c3) (xoweB cw1.1) hK hb0 hS (Nat.le_of_ble_eq_true rfl) (Nat.le_of_ble_eq_true rfl) (fun _ _ _ _ _ _ _ hp _ _ _ _ => hp.elim) (fun v H4 locs d0 hd0 hp hS => ?_)
  obtain ⟨rfl, hW, hX, hold⟩ := hp
  have had := hX.lt
  have h00 : xad q0 H3.size F R 0 = q0 := xad_0
  generalize xad q0 H3.size F R = ad at hW hX had h00
  show W p l e _ (s.setDrawn d0) m _ below meth c _ _ _ _ _ (F0 m 17 ls [.ref q0])
  refine lv_astore_n (lv' := [(1, .ref q0), (0, .ref b)]) hx hb dL_law_17 rfl hl (by decide) rfl (fun ls hl => ?_)
  refine xnew (G := G) (s := s.setDrawn d0) (fs := [.int (nI 0), .int (nI 0), .int (nI 0), .null, .null, .null, .null, .null, .int (nI 0), .null, .null, .null, .null, .null, .null, .double FP.dconst0, .double FP.dconst0, .double FP.dconst0]) hx hb (hts d0) in_L_law_X7 tyX7 tyX7_ok hown (hts d0 _ hw_L_law_4) (hts d0 _ hw_L_law_5) (hts d0 _ hw_L_law_6) hK.1 hS (ci := 8) rfl nB_X7 (Nat.le_of_ble_eq_true rfl) (Nat.le_of_ble_eq_true rfl) dL_law_18 (fun m0 H5 hg5 hS => ?_)
  have hm0 : H4.size = m0 := hg5.2.1
  refine lv_dup hx hb dL_law_21 rfl ?_
  refine lv_aload_n hx hb dL_law_22 rfl (lv_at hl 1 rfl) ?_
  refine lv_iconst (v := nI 0) hx hb dL_law_23 (by decide) ?_
  refine law_cell hC hS hl.1 (by decide) (Nat.le_of_ble_eq_true rfl) dL_law_24 (Nat.le_of_ble_eq_true rfl) (Nat.le_of_ble_eq_true rfl) (fun H6 locs z6 k6 hS => ?_)
  refine lv_aload_n hx hb dL_law_27 rfl (lv_at hl 1 rfl) ?_
  refine lv_iconst (v := nI 1) hx hb dL_law_28 (by decide) ?_
  refine law_cell hC hS hl.1 (by decide) (Nat.le_of_ble_eq_true rfl) dL_law_29 (Nat.le_of_ble_eq_true rfl) (Nat.le_of_ble_eq_true rfl) (fun H7 locs z7 k7 hS => ?_)
  have y5 : m0 < H5.size := hg5.1.lt
  have c7 : xc G m0 (.inr (8, [.int (nI 0), .int (nI 0), .int (nI 0), .null, .null, .null, .null, .null, .int (nI 0), .null, .null, .null, .null, .null, .null, .double FP.dconst0, .double FP.dconst0, .double FP.dconst0])) H7 := (hg5.1.kept (k6 m0 y5)).kept (k7 m0 (by omega))
  have hs4 : s.heap.size ≤ H4.size := by have := hold.1; omega
  have cw2 := cwI (R := rm_L_law) (rm := rm_X7_init) 2 (hts d0) gL_law_X7_init rfl rfl rfl (hts d0 _ hw_L_law_6) (hts d0 _ hw_L_law_11) (hts d0 _ hw_L_law_12) rfl (by decide +kernel) ⟨Nat.le_of_ble_eq_true rfl, Nat.le_of_ble_eq_true rfl⟩
  refine xcall hd0 (xintoI (b := m0) (As := [.int (pCell L xs 0), .int (pCell L xs 1)]) (rest := [.ref m0]) ⟨hx, hb, hml, hown, hts _⟩ cw2 rfl rfl hl.1 rfl (lv_room (Nat.le_of_ble_eq_true rfl)) dL_law_32) (c_X7_init (l := l) (G := G) (ty := ty) (b0 := s.heap.size) (by omega) c7) (xoweB cw2.1) hK hb0 hS (Nat.le_of_ble_eq_true rfl) (Nat.le_of_ble_eq_true rfl) (fun _ _ _ _ _ _ _ hp _ _ _ _ => hp.elim) (fun v H8 locs d0 hd0 hp hS => ?_)
  obtain ⟨rfl, A, lo, la, hY, hAp, hNw, hA7, hold8, hl8, ha8⟩ := hp
  rw [hF, hR] at hY
  show W p l e _ (s.setDrawn d0) m _ below meth c _ _ _ _ _ (F0 m 35 ls [.ref m0])
  refine lv_astore_n (lv' := [(2, .ref m0), (1, .ref q0), (0, .ref b)]) hx hb dL_law_35 rfl hl (by decide) rfl (fun ls hl => ?_)
  refine lv_iconst (v := nI 1) hx hb dL_law_36 (by decide) ?_
  refine xnewaL (G := G) (s := s.setDrawn d0) hx hb (hts d0 _ hw_L_law_7) hK.1 3 rfl hS (by decide) (Nat.le_of_ble_eq_true rfl) (Nat.le_of_ble_eq_true rfl) dL_law_37 (fun o1 H9 hg9 hS => ?_)
  refine lv_astore_n (lv' := [(3, .ref o1), (2, .ref m0), (1, .ref q0), (0, .ref b)]) hx hb dL_law_39 rfl hl (by decide) rfl (fun ls hl => ?_)
  refine lv_iconst (v := nI 1) hx hb dL_law_40 (by decide) ?_
  refine xnewaD (G := G) (s := s.setDrawn d0) hx hb (hts d0 _ hw_L_law_8) hK.1 0 rfl hS (by decide) (Nat.le_of_ble_eq_true rfl) (Nat.le_of_ble_eq_true rfl) dL_law_41 (fun o2 H10 hg10 hS => ?_)
  refine lv_astore (lv' := [(4, .ref o2), (3, .ref o1), (2, .ref m0), (1, .ref q0), (0, .ref b)]) hx hb dL_law_43 hl (by decide) rfl (fun ls hl => ?_)
  refine lv_iconst (v := nI 2) hx hb dL_law_45 (by decide) ?_
  refine lv_istore (lv' := [(5, .int (nI 2)), (4, .ref o2), (3, .ref o1), (2, .ref m0), (1, .ref q0), (0, .ref b)]) hx hb dL_law_46 hl (by decide) rfl (fun ls hl => ?_)
  -- what lies where
  have e1 : H8.size = o1 := hg9.2.1
  have e2 : H9.size = o2 := hg10.2.1
  have e3 : H9.size = o1 + 1 := hg9.2.2.1
  have e8 := hold8.1
  have k58 : ∀ q : Nat, q < m0 → H8[q]? = H4[q]? := fun q hq => (hold8.2 q (by omega) (by omega)).trans ((k7 q (by omega)).trans ((k6 q (by omega)).trans (hg5.2.2.2 q hq)))
  have k10 : ∀ q : Nat, q < H8.size → H10[q]? = H8[q]? := fun q hq => (hg10.2.2.2 q (by omega)).trans (hg9.2.2.2 q (by omega))
  have hXT : xCla G ty ad F R (fun _ => FP.dconst0) (fun _ => nI 0) (fun _ _ => FP.dconst0) (fun _ _ => FP.dconst0) (fun _ => nI 0) 0 (fun _ => FP.dconst0) (fun _ => FP.dconst0) (fun _ => 0) (fun _ => FP.dconst0) (fun _ => -1) (fun _ => -1) (fun _ _ => FP.dconst0) H10 H10 :=
    hX.kp fun k hk => by have := had k hk; exact (k10 _ (by omega)).trans (k58 _ (by omega))
  have hMl := hY.lt
  have hYT := hY.kp (H1 := H10) fun q hq => k10 q (hMl q hq)
  have hO : xAo s.heap.size m0 A o1 o2 := ⟨hAp, hNw, by omega, by omega, by omega, fun q hq => by have := hMl q hq; omega⟩
  have hnm : ∀ k : Nat, xU F R 0 (fun _ => 0) k → ¬ xM m0 A (ad k) ∧ ad k ≠ o1 ∧ ad k ≠ o2 := by
    intro k hk
    have h9 := had k hk
    refine ⟨?_, by omega, by omega⟩
    rintro (h | ⟨i, -, h⟩)
    · omega
    · have := hA7 i; omega
  have hJ : xJ G ty s.heap.size F R m0 A o1 o2 q0 (nI 0) (fun _ => 0) (fun _ => FP.dconst0) H10 :=
    xJ.mk h00 ⟨hW, hXT, hnm, hg10.keep hg9.1, hg10.1⟩ hYT (rel_0 hW.1.2.2 hl8 ha8)
  refine W.widen (k := 200 + 20 * 0) (n := 2000 + 150 * 0) (Nat.le_of_ble_eq_true rfl) (Nat.le_of_ble_eq_true rfl) ?_
  exact law_loop hC hfl hO hr hlocks 600 0 (nI 0) _ _ H10 _ d0 ls rfl hJ hS hd0 (lv_sub hl [5, 4, 3, 2, 1, 0] rfl)
