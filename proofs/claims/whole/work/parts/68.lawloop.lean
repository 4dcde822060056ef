/-! THE LAW: its loop. -/
theorem law_more {L i : Nat} (hL : L ≤ 3074) (hi : i ≤ 4000) (h : ¬ (nI L - nI 6 < nI i)) : i + 6 ≤ L := by
  have h1 : (nI L - nI 6).toInt = (L : Int) - 6 := by
    rw [Int32.toInt_sub, nI_toInt (by omega), nI_toInt (by decide)]
    show Int.bmod ((L : Int) - 6) 4294967296 = (L : Int) - 6
    rw [Int.bmod_def]
    omega
  have h2 : ¬ (nI L - nI 6).toInt < (nI i).toInt := fun z => h (Int32.lt_iff_toInt_lt.mpr z)
  rw [h1, nI_toInt (by omega)] at h2
  omega
section LawLoop
variable {p : Program} {l : Launch} {e : Env} {s : State} {m : MethodId} {below : List Frame} {meth : Method} {c : Code} {H : Heap} {locs : List Loc} {cells slots : Nat} {Q : State → Prop} {d0 : Drawn} {ls : Array Slot}
variable {G : va_G} {ty : Nat → ClassId} {b0 b L i F R m0 o1 o2 q0 : Nat} {A : Nat → Nat} {xs : Nat → Int32} {th : Int32} {f1 : Nat → Int64} {f2 : Nat → UInt64}
/-- one operation -/
theorem law_body (hC : lwC p s m c b L xs G ty b0) (hfl : l.stackTraces = false) (hO : xAo b0 m0 A o1 o2) (hi6 : i + 6 ≤ L) (hJ : xJ G ty b0 F R m0 A o1 o2 q0 th f1 f2 H) (hS : va_S (xA b0) s.heap H locs) (hd0 : s.drawn.sameBut d0 lw_cs) (hl : lv_has ls 9 [(0, .ref b), (1, .ref q0), (2, .ref m0), (3, .ref o1), (4, .ref o2), (5, .int (nI i))]) (hc : cells + 20 ≤ 675798) (hs : slots + 150 ≤ 7068677)
    (kk : ∀ (th : Int32) (f1 : Nat → Int64) (f2 : Nat → UInt64) (H1 : Heap) (locs1 : List Loc) (d1 : Drawn) (ls1 : Array Slot), xJ G ty b0 F R m0 A o1 o2 q0 th f1 f2 H1 → va_S (xA b0) s.heap H1 locs1 → s.drawn.sameBut d1 lw_cs → lv_has ls1 9 [(0, .ref b), (1, .ref q0), (2, .ref m0), (3, .ref o1), (4, .ref o2), (5, .int (nI (i + 6)))] → W p l e rm_L_law (s.setDrawn d1) m #[Value.ref b] below meth c H1 locs1 (cells + 20) (slots + 150) Q (F0 m 48 ls1 [])) :
    W p l e rm_L_law (s.setDrawn d0) m #[Value.ref b] below meth c H locs cells slots Q (F0 m 58 ls []) := by
  obtain ⟨hx, hb, hml, hown, hts0, hXs, hbl, hbA, hL, hK, hb0⟩ := id hC
  have k9 : ∀ (th : Int32) (f1 : Nat → Int64) (f2 : Nat → UInt64) (H1 : Heap) (locs1 : List Loc) (d1 : Drawn) (ls1 : Array Slot), xJ G ty b0 F R m0 A o1 o2 q0 th f1 f2 H1 → va_S (xA b0) s.heap H1 locs1 → s.drawn.sameBut d1 lw_cs → lv_has ls1 9 [(0, .ref b), (1, .ref q0), (2, .ref m0), (3, .ref o1), (4, .ref o2), (5, .int (nI i))] → W p l e rm_L_law (s.setDrawn d1) m #[Value.ref b] below meth c H1 locs1 (cells + 20) (slots + 150) Q (F0 m 1709 ls1 []) := by
    intro th f1 f2 H1 locs1 d1 ls1 hJ hS hd0 hl
    refine xiincN (x := i) (y := 6) (lv' := [(5, .int (nI (i + 6))), (0, .ref b), (1, .ref q0), (2, .ref m0), (3, .ref o1), (4, .ref o2)]) hx hb dL_law_1709 hl (k := 5) rfl (by decide) (by decide) rfl (fun ls hl => ?_)
    refine lv_goto (tgt := 48) hx hb dL_law_1712 (by decide) ?_
    exact kk th f1 f2 H1 locs1 d1 ls hJ hS hd0 (lv_sub hl [1, 2, 3, 4, 5, 0] rfl)
  refine lv_aload_n hx hb dL_law_58 rfl (lv_at hl 0 rfl) ?_
  refine lv_iload hx hb dL_law_59 (lv_at hl 5 rfl) ?_
  refine xsld hx hb hXs hbl hbA hS hL (j := i) (by omega) dL_law_61 ?_
  refine lv_bipush (v := nI 31) hx hb dL_law_62 (by decide) ?_
  refine lv_iand hx hb dL_law_64 ?_
  refine lv_topi (fun x9 _ => ?_)
  by_cases h0 : x9.toInt < 0
  · refine lv_tableOut (tgt := 1709) hx hb dL_law_65 (Or.inl h0) (by decide) ?_
    exact W.widen (Nat.le_add_right _ _) (Nat.le_add_right _ _) (k9 th f1 f2 H locs d0 ls hJ hS hd0 hl)
  by_cases h1 : 16 < x9.toInt
  · refine lv_tableOut (tgt := 1709) hx hb dL_law_65 (Or.inr h1) (by decide) ?_
    exact W.widen (Nat.le_add_right _ _) (Nat.le_add_right _ _) (k9 th f1 f2 H locs d0 ls hJ hS hd0 hl)
  rcases (show x9.toInt = 0 ∨ x9.toInt = 1 ∨ x9.toInt = 2 ∨ x9.toInt = 3 ∨ x9.toInt = 4 ∨ x9.toInt = 5 ∨ x9.toInt = 6 ∨ x9.toInt = 7 ∨ x9.toInt = 8 ∨ x9.toInt = 9 ∨ x9.toInt = 10 ∨ x9.toInt = 11 ∨ x9.toInt = 12 ∨ x9.toInt = 13 ∨ x9.toInt = 14 ∨ x9.toInt = 15 ∨ x9.toInt = 16 by omega) with h | h | h | h | h | h | h | h | h | h | h | h | h | h | h | h | h
  · exact lv_tableIn (tgt := 148) hx hb dL_law_65 h0 h1 (by rw [h]; rfl) (by decide) (case_point hC hfl hO hi6 hJ hS hd0 hl hc hs k9)
  · exact lv_tableIn (tgt := 289) hx hb dL_law_65 h0 h1 (by rw [h]; rfl) (by decide) (case_distance hC hfl hO hi6 hJ hS hd0 hl hc hs k9)
  · exact lv_tableIn (tgt := 402) hx hb dL_law_65 h0 h1 (by rw [h]; rfl) (by decide) (case_unroll hC hfl hO hi6 hJ hS hd0 hl hc hs k9)
  · exact lv_tableIn (tgt := 458) hx hb dL_law_65 h0 h1 (by rw [h]; rfl) (by decide) (case_flat hC hfl hO hi6 hJ hS hd0 hl hc hs k9)
  · exact lv_tableIn (tgt := 559) hx hb dL_law_65 h0 h1 (by rw [h]; rfl) (by decide) (case_stretch hC hfl hO hi6 hJ hS hd0 hl hc hs k9)
  · exact lv_tableIn (tgt := 648) hx hb dL_law_65 h0 h1 (by rw [h]; rfl) (by decide) (case_worst hC hfl hO hi6 hJ hS hd0 hl hc hs k9)
  · exact lv_tableIn (tgt := 704) hx hb dL_law_65 h0 h1 (by rw [h]; rfl) (by decide) (case_bevel hC hfl hO hi6 hJ hS hd0 hl hc hs k9)
  · exact lv_tableIn (tgt := 793) hx hb dL_law_65 h0 h1 (by rw [h]; rfl) (by decide) (case_width hC hfl hO hi6 hJ hS hd0 hl hc hs k9)
  · exact lv_tableIn (tgt := 882) hx hb dL_law_65 h0 h1 (by rw [h]; rfl) (by decide) (case_girth hC hfl hO hi6 hJ hS hd0 hl hc hs k9)
  · exact lv_tableIn (tgt := 959) hx hb dL_law_65 h0 h1 (by rw [h]; rfl) (by decide) (case_butt hC hfl hO hi6 hJ hS hd0 hl hc hs k9)
  · exact lv_tableIn (tgt := 1062) hx hb dL_law_65 h0 h1 (by rw [h]; rfl) (by decide) (case_spans hC hfl hO hi6 hJ hS hd0 hl hc hs k9)
  · exact lv_tableIn (tgt := 1125) hx hb dL_law_65 h0 h1 (by rw [h]; rfl) (by decide) (case_board hC hfl hO hi6 hJ hS hd0 hl hc hs k9)
  · exact lv_tableIn (tgt := 1213) hx hb dL_law_65 h0 h1 (by rw [h]; rfl) (by decide) (case_fault hC hfl hO hi6 hJ hS hd0 hl hc hs k9)
  · exact lv_tableIn (tgt := 1364) hx hb dL_law_65 h0 h1 (by rw [h]; rfl) (by decide) (case_nest hC hfl hO hi6 hJ hS hd0 hl hc hs k9)
  · exact lv_tableIn (tgt := 1432) hx hb dL_law_65 h0 h1 (by rw [h]; rfl) (by decide) (case_lies hC hfl hO hi6 hJ hS hd0 hl hc hs k9)
  · exact lv_tableIn (tgt := 1500) hx hb dL_law_65 h0 h1 (by rw [h]; rfl) (by decide) (case_staves hC hfl hO hi6 hJ hS hd0 hl hc hs k9)
  · exact lv_tableIn (tgt := 1588) hx hb dL_law_65 h0 h1 (by rw [h]; rfl) (by decide) (case_closes hC hfl hO hi6 hJ hS hd0 hl hc hs k9)
/-- the loop, to the end -/
theorem law_loop (hC : lwC p s m c b L xs G ty s.heap.size) (hfl : l.stackTraces = false) (hO : xAo s.heap.size m0 A o1 o2) (hr : meth.sig.returnType = ret) (hlocks : meth.locks = false) : ∀ (u n : Nat) (th : Int32) (f1 : Nat → Int64) (f2 : Nat → UInt64) (H : Heap) (locs : List Loc) (d0 : Drawn) (ls : Array Slot), n + u = 600 → xJ G ty s.heap.size F R m0 A o1 o2 q0 th f1 f2 H → va_S (xA s.heap.size) s.heap H locs → s.drawn.sameBut d0 lw_cs → lv_has ls 9 [(0, .ref b), (1, .ref q0), (2, .ref m0), (3, .ref o1), (4, .ref o2), (5, .int (nI (2 + 6 * n)))] →
    W p l e rm_L_law (s.setDrawn d0) m #[Value.ref b] below meth c H locs (200 + 20 * n) (2000 + 150 * n) (lw_Z below #[Value.ref b] s) (F0 m 48 ls []) := by
  obtain ⟨hx, hb, hml, hown, hts0, hXs, hbl, hbA, hL, hK, hb0⟩ := id hC
  have head : ∀ (n : Nat) (H : Heap) (locs : List Loc) (d0 : Drawn) (ls : Array Slot), n ≤ 600 → va_S (xA s.heap.size) s.heap H locs → s.drawn.sameBut d0 lw_cs → lv_has ls 9 [(0, .ref b), (1, .ref q0), (2, .ref m0), (3, .ref o1), (4, .ref o2), (5, .int (nI (2 + 6 * n)))] → (2 + 6 * n + 6 ≤ L → W p l e rm_L_law (s.setDrawn d0) m #[Value.ref b] below meth c H locs (200 + 20 * n) (2000 + 150 * n) (lw_Z below #[Value.ref b] s) (F0 m 58 ls [])) →
      W p l e rm_L_law (s.setDrawn d0) m #[Value.ref b] below meth c H locs (200 + 20 * n) (2000 + 150 * n) (lw_Z below #[Value.ref b] s) (F0 m 48 ls []) := by
    intro n H locs d0 ls hn hS hd0 hl kb
    refine lv_iload hx hb dL_law_48 (lv_at hl 5 rfl) ?_
    refine lv_aload_n hx hb dL_law_50 rfl (lv_at hl 0 rfl) ?_
    refine va_slen (s := s.setDrawn d0) (H0 := s.heap) hx hb (va_X.moved (u := s) (Vm.Alike.refl _) hXs) hbl hbA hS dL_law_51 ?_
    refine lv_bipush (v := nI 6) hx hb dL_law_52 (by decide) ?_
    refine lv_isub hx hb dL_law_54 ?_
    refine lv_icmp_gt (tgt := 1715) hx hb dL_law_55 (by decide) (fun _ => ?_) (fun h9 => kb (law_more hL (by omega) h9))
    refine va_forget (s := s.setDrawn d0) (fun q hq => hS.2.2 q hq) ?_
    refine lv_iconst (v := 1) hx hb dL_law_1715 (by decide) ?_
    exact W.widen (by omega) (by omega) (lw_ret hd0 hx hb hr hlocks dL_law_1716)
  intro u
  induction u with
  | zero =>
    intro n th f1 f2 H locs d0 ls hn hJ hS hd0 hl
    exact head n H locs d0 ls (by omega) hS hd0 hl (fun z => absurd z (by omega))
  | succ u ih =>
    intro n th f1 f2 H locs d0 ls hn hJ hS hd0 hl
    refine head n H locs d0 ls (by omega) hS hd0 hl (fun z => ?_)
    refine law_body hC hfl hO z hJ hS hd0 hl (by omega) (by omega) (fun th f1 f2 H1 locs1 d1 ls1 hJ hS hd0 hl => ?_)
    exact ih (n + 1) th f1 f2 H1 locs1 d1 ls1 (by omega) hJ hS hd0 hl
end LawLoop
