/-! THE LAW: the cases of its switch. -/
section LawCases
variable {p : Program} {l : Launch} {e : Env} {s : State} {m : MethodId} {below : List Frame} {meth : Method} {c : Code} {H : Heap} {locs : List Loc} {cells slots : Nat} {Q : State → Prop} {d0 : Drawn} {ls : Array Slot}
variable {G : va_G} {ty : Nat → ClassId} {b0 b L i F R m0 o1 o2 q0 : Nat} {A : Nat → Nat} {xs : Nat → Int32} {th : Int32} {f1 : Nat → Int64} {f2 : Nat → UInt64}
set_option maxHeartbeats 4000000 in
set_option maxRecDepth 100000 in
theorem case_point (hC : lwC p s m c b L xs G ty b0) (hfl : l.stackTraces = false) (hO : xAo b0 m0 A o1 o2) (hi6 : i + 6 ≤ L) (hJ : xJ G ty b0 F R m0 A o1 o2 q0 th f1 f2 H) (hS : va_S (xA b0) s.heap H locs) (hd0 : s.drawn.sameBut d0 lw_cs) (hl : lv_has ls 9 [(0, .ref b), (1, .ref q0), (2, .ref m0), (3, .ref o1), (4, .ref o2), (5, .int (nI i))]) (hc : cells + 20 ≤ 675798) (hs : slots + 150 ≤ 7068677)
    (kk : ∀ (th : Int32) (f1 : Nat → Int64) (f2 : Nat → UInt64) (H1 : Heap) (locs1 : List Loc) (d1 : Drawn) (ls1 : Array Slot), xJ G ty b0 F R m0 A o1 o2 q0 th f1 f2 H1 → va_S (xA b0) s.heap H1 locs1 → s.drawn.sameBut d1 lw_cs → lv_has ls1 9 [(0, .ref b), (1, .ref q0), (2, .ref m0), (3, .ref o1), (4, .ref o2), (5, .int (nI i))] → W p l e rm_L_law (s.setDrawn d1) m #[Value.ref b] below meth c H1 locs1 (cells + 20) (slots + 150) Q (F0 m 1709 ls1 [])) :
    W p l e rm_L_law (s.setDrawn d0) m #[Value.ref b] below meth c H locs cells slots Q (F0 m 148 ls []) := by
  obtain ⟨hx, hb, hml, hown, hts0, hXs, hbl, hbA, hL, hK, hb0⟩ := hC
  have hts : ∀ d0 : Drawn, ∀ w ∈ wsL_law, w.before #[Value.ref b] (s.setDrawn d0) = true := fun d0 => dr_words hts0 d0
  obtain ⟨ad, nb, pl, wi, hi, fa, un, bu, lo, la, cx, cy, bx, nf, co, dr, un2, fc, lo2, la2, px, py, pz, hq, hT, hY, hR⟩ := hJ
  subst hq
  obtain ⟨⟨zF2, zF8⟩, ⟨zR2, zR8⟩⟩ := id hT.1.1
  have zB4 := hT.1.2.1
  refine lv_aload_n hx hb dL_law_148 rfl (lv_at hl 1 rfl) ?_
  refine lv_aload_n hx hb dL_law_149 rfl (lv_at hl 0 rfl) ?_
  refine lv_iload hx hb dL_law_150 (lv_at hl 5 rfl) ?_
  refine lv_iconst (v := nI 1) hx hb dL_law_152 (by decide) ?_
  refine xiaddN hx hb dL_law_153 ?_
  refine xsld hx hb hXs hbl hbA hS hL (j := i + 1) (by omega) dL_law_154 ?_
  refine lv_aload_n hx hb dL_law_155 rfl (lv_at hl 0 rfl) ?_
  refine lv_iload hx hb dL_law_156 (lv_at hl 5 rfl) ?_
  refine lv_iconst (v := nI 2) hx hb dL_law_158 (by decide) ?_
  refine xiaddN hx hb dL_law_159 ?_
  refine xsld hx hb hXs hbl hbA hS hL (j := i + 2) (by omega) dL_law_160 ?_
  refine lv_aload_n hx hb dL_law_161 rfl (lv_at hl 0 rfl) ?_
  refine lv_iload hx hb dL_law_162 (lv_at hl 5 rfl) ?_
  refine lv_iconst (v := nI 3) hx hb dL_law_164 (by decide) ?_
  refine xiaddN hx hb dL_law_165 ?_
  refine xsld hx hb hXs hbl hbA hS hL (j := i + 3) (by omega) dL_law_166 ?_
  refine lv_i2d hx hb dL_law_167 ?_
  refine lv_ldc2d hx hb hown (hts d0 _ hw_L_law_0) dL_law_168 ?_
  refine xdmul hd0 hx hb (vq_rf _) (vq_rf _) dL_law_171 (fun r_1 d0 q_1 hd0 => ?_)
  have e_1 : r_1 = xE (xs (i + 3)) := vq_same q_1 (xE_fin _).1.nn
  subst e_1
  refine lv_aload_n hx hb dL_law_172 rfl (lv_at hl 0 rfl) ?_
  refine lv_iload hx hb dL_law_173 (lv_at hl 5 rfl) ?_
  refine lv_iconst (v := nI 4) hx hb dL_law_175 (by decide) ?_
  refine xiaddN hx hb dL_law_176 ?_
  refine xsld hx hb hXs hbl hbA hS hL (j := i + 4) (by omega) dL_law_177 ?_
  refine lv_i2d hx hb dL_law_178 ?_
  refine lv_ldc2d hx hb hown (hts d0 _ hw_L_law_0) dL_law_179 ?_
  refine xdmul hd0 hx hb (vq_rf _) (vq_rf _) dL_law_182 (fun r_2 d0 q_2 hd0 => ?_)
  have e_2 : r_2 = xE (xs (i + 4)) := vq_same q_2 (xE_fin _).1.nn
  subst e_2
  refine lv_aload_n hx hb dL_law_183 rfl (lv_at hl 0 rfl) ?_
  refine lv_iload hx hb dL_law_184 (lv_at hl 5 rfl) ?_
  refine lv_iconst (v := nI 5) hx hb dL_law_186 (by decide) ?_
  refine xiaddN hx hb dL_law_187 ?_
  refine xsld hx hb hXs hbl hbA hS hL (j := i + 5) (by omega) dL_law_188 ?_
  refine lv_i2d hx hb dL_law_189 ?_
  refine lv_ldc2d hx hb hown (hts d0 _ hw_L_law_0) dL_law_190 ?_
  refine xdmul hd0 hx hb (vq_rf _) (vq_rf _) dL_law_193 (fun r_3 d0 q_3 hd0 => ?_)
  have e_3 : r_3 = xE (xs (i + 5)) := vq_same q_3 (xE_fin _).1.nn
  subst e_3
  refine lv_aload_n hx hb dL_law_194 rfl (lv_at hl 3 rfl) ?_
  have cw_4 := vx_cwSW (R := rm_L_law) (rm := rm_L_point) 7 (hts d0) gL_law_L_point rfl rfl rfl (by decide +kernel) ⟨Nat.le_of_ble_eq_true rfl, Nat.le_of_ble_eq_true rfl⟩
  refine xcallW hd0 (xintoSW (As := [.ref (ad 0), .int ((xs (i + 1))), .int ((xs (i + 2))), .double (xE (xs (i + 3))), .double (xE (xs (i + 4))), .double (xE (xs (i + 5))), .ref o1]) (rest := []) ⟨hx, hb, hml, hown, hts _⟩ cw_4 rfl rfl hl.1 rfl (lv_room (Nat.le_of_ble_eq_true rfl)) dL_law_195) (c_L_point (l := l) (G := G) (ty := ty) (b0 := b0) hfl hT.2.1 hT.1 (f := (xs (i + 1))) (r := (xs (i + 2))) (x := (xE (xs (i + 3)))) (y := (xE (xs (i + 4)))) (z := (xE (xs (i + 5)))) (vq_rf _) (vq_rf _) (vq_rf _) hO.2.2.1 hT.2.2.2.1 (fun k z => Ne.symm (hT.2.2.1 k z).2.1)) (xoweW cw_4) hK hb0 hS hc hs (fun E_4 ce_4 q9_4 H_4 locs_4 d0 hd0 hp_4 hS _ _ _ => hp_4.elim) (fun v_4 H_4 locs_4 d0 hd0 hp_4 hS => ?_)
  obtain ⟨t9, rfl, hY_4, hj⟩ := j_point hO hT hY hR (pGz_E _) (pGz_E _) (pGz_E _) hp_4
  show W p l e _ (s.setDrawn _) m _ below meth c _ _ _ _ _ (F0 m 198 ls [.int (t9)])
  refine lv_istore (lv' := [(6, .int (t9)), (0, .ref b), (1, .ref (ad 0)), (2, .ref m0), (3, .ref o1), (4, .ref o2), (5, .int (nI i))]) hx hb dL_law_198 hl (by decide) rfl (fun ls hl => ?_)
  refine lv_aload_n hx hb dL_law_200 rfl (lv_at hl 3 rfl) ?_
  refine lv_aload_n hx hb dL_law_201 rfl (lv_at hl 1 rfl) ?_
  refine lv_iload hx hb dL_law_202 (lv_at hl 6 rfl) ?_
  refine lv_iconst (v := nI 1) hx hb dL_law_204 (by decide) ?_
  refine xiaddN hx hb dL_law_205 ?_
  refine xsld hx hb hXs hbl hbA hS hL (j := i + 1) (by omega) dL_law_206 ?_
  refine lv_aload_n hx hb dL_law_207 rfl (lv_at hl 1 rfl) ?_
  refine lv_iload hx hb dL_law_208 (lv_at hl 6 rfl) ?_
  refine lv_iconst (v := nI 2) hx hb dL_law_210 (by decide) ?_
  refine xiaddN hx hb dL_law_211 ?_
  refine xsld hx hb hXs hbl hbA hS hL (j := i + 2) (by omega) dL_law_212 ?_
  refine lv_aload_n hx hb dL_law_213 rfl (lv_at hl 1 rfl) ?_
  refine lv_iload hx hb dL_law_214 (lv_at hl 6 rfl) ?_
  refine lv_iconst (v := nI 3) hx hb dL_law_216 (by decide) ?_
  refine xiaddN hx hb dL_law_217 ?_
  refine xsld hx hb hXs hbl hbA hS hL (j := i + 3) (by omega) dL_law_218 ?_
  refine lv_i2d hx hb dL_law_219 ?_
  refine lv_ldc2d hx hb hown (hts d0 _ hw_L_law_0) dL_law_220 ?_
  refine xdmul hd0 hx hb (vq_rf _) (vq_rf _) dL_law_223 (fun r_5 d0 q_5 hd0 => ?_)
  have e_5 : r_5 = xE (xs (i + 3)) := vq_same q_5 (xE_fin _).1.nn
  subst e_5
  refine lv_aload_n hx hb dL_law_224 rfl (lv_at hl 1 rfl) ?_
  refine lv_iload hx hb dL_law_225 (lv_at hl 6 rfl) ?_
  refine lv_iconst (v := nI 4) hx hb dL_law_227 (by decide) ?_
  refine xiaddN hx hb dL_law_228 ?_
  refine xsld hx hb hXs hbl hbA hS hL (j := i + 4) (by omega) dL_law_229 ?_
  refine lv_i2d hx hb dL_law_230 ?_
  refine lv_ldc2d hx hb hown (hts d0 _ hw_L_law_0) dL_law_231 ?_
  refine xdmul hd0 hx hb (vq_rf _) (vq_rf _) dL_law_234 (fun r_6 d0 q_6 hd0 => ?_)
  have e_6 : r_6 = xE (xs (i + 4)) := vq_same q_6 (xE_fin _).1.nn
  subst e_6
  refine lv_aload_n hx hb dL_law_235 rfl (lv_at hl 1 rfl) ?_
  refine lv_iload hx hb dL_law_236 (lv_at hl 6 rfl) ?_
  refine lv_iconst (v := nI 5) hx hb dL_law_238 (by decide) ?_
  refine xiaddN hx hb dL_law_239 ?_
  refine xsld hx hb hXs hbl hbA hS hL (j := i + 5) (by omega) dL_law_240 ?_
  refine lv_i2d hx hb dL_law_241 ?_
  refine lv_ldc2d hx hb hown (hts d0 _ hw_L_law_0) dL_law_242 ?_
  refine xdmul hd0 hx hb (vq_rf _) (vq_rf _) dL_law_245 (fun r_7 d0 q_7 hd0 => ?_)
  have e_7 : r_7 = xE (xs (i + 5)) := vq_same q_7 (xE_fin _).1.nn
  subst e_7
  have cw_8 := cwV (R := rm_L_law) (rm := rm_X7_point) 5 (hts d0) gL_law_X7_point rfl rfl rfl (by decide +kernel) ⟨Nat.le_of_ble_eq_true rfl, Nat.le_of_ble_eq_true rfl⟩
  refine xcall hd0 (xintoV (b := m0) (As := [.int ((xs (i + 1))), .int ((xs (i + 2))), .double (xE (xs (i + 3))), .double (xE (xs (i + 4))), .double (xE (xs (i + 5)))]) (rest := []) ⟨hx, hb, hml, hown, hts _⟩ cw_8 (va_recv hK.1 (x1 hY_4.1) (ci := 8) (q0 := 0) rfl rfl) rfl rfl hl.1 rfl (lv_room (Nat.le_of_ble_eq_true rfl)) dL_law_246) (c_X7_point (l := l) (G := G) (ty := ty) (b0 := b0) (f := (xs (i + 1))) (r := (xs (i + 2))) (x := (xE (xs (i + 3)))) (y := (xE (xs (i + 4)))) (z := (xE (xs (i + 5)))) hY_4 hT.1.1 hO.1 hO.2.1 (vq_rf _) (vq_rf _) (vq_rf _)) (xoweB cw_8.1) hK hb0 hS hc hs (fun E_8 ce_8 q9_8 H_8 locs_8 d0 hd0 hp_8 hS _ _ _ => hp_8.elim) (fun v_8 H_8 locs_8 d0 hd0 hp_8 hS => ?_)
  obtain ⟨z9, g1, g2, rfl, hJ2, ha⟩ := hj _ _ hp_8
  obtain ⟨ad2, nb2, pl2, wi2, hi2, fa2, un3, bu2, lo3, la3, cx2, cy2, bx2, nf2, co2, dr2, un4, fc2, lo4, la4, px2, py2, pz2, hq2, hT2, hY2, -⟩ := id hJ2
  show W p l e _ (s.setDrawn _) m _ below meth c _ _ _ _ _ (F0 m 249 ls [.int (z9)])
  refine lv_istore (lv' := [(7, .int (z9)), (6, .int (t9)), (0, .ref b), (1, .ref (ad 0)), (2, .ref m0), (3, .ref o1), (4, .ref o2), (5, .int (nI i))]) hx hb dL_law_249 hl (by decide) rfl (fun ls hl => ?_)
  refine lv_aload_n hx hb dL_law_251 rfl (lv_at hl 4 rfl) ?_
  have cw_9 := cwV (R := rm_L_law) (rm := rm_X7_thrown) 0 (hts d0) gL_law_X7_thrown rfl rfl rfl (by decide +kernel) ⟨Nat.le_of_ble_eq_true rfl, Nat.le_of_ble_eq_true rfl⟩
  refine xcall hd0 (xintoV (b := m0) (As := []) (rest := []) ⟨hx, hb, hml, hown, hts _⟩ cw_9 (va_recv hK.1 (x1 hY2.1) (ci := 8) (q0 := 0) rfl rfl) rfl rfl hl.1 rfl (lv_room (Nat.le_of_ble_eq_true rfl)) dL_law_252) (c_X7_thrown (l := l) (G := G) (ty := ty) (b0 := b0) hY2 hT2.1.1) (xoweB cw_9.1) hK hb0 hS hc hs (fun E_9 ce_9 q9_9 H_9 locs_9 d0 hd0 hp_9 hS _ _ _ => hp_9.elim) (fun v_9 H_9 locs_9 d0 hd0 hp_9 hS => ?_)
  obtain ⟨rfl, rfl⟩ := hp_9
  show W p l e _ (s.setDrawn _) m _ below meth c _ _ _ _ _ (F0 m 255 ls [.int (t9)])
  refine lv_iload hx hb dL_law_255 (lv_at hl 1 rfl) ?_
  refine lv_icmp_eq (tgt := 262) hx hb dL_law_257 (by decide) (fun _ => ?_) (fun h9 => absurd (rfl) h9)
  refine lv_iload hx hb dL_law_262 (lv_at hl 1 rfl) ?_
  refine lv_if_ne (tgt := 286) hx hb dL_law_264 (by decide) (fun c_11 => ?_) (fun c_11 => ?_)
  · refine lv_goto (tgt := 1709) hx hb dL_law_286 (by decide) ?_
    exact kk _ _ _ _ _ _ _ hJ2 hS hd0 (lv_sub hl [2, 3, 4, 5, 6, 7] rfl)
  · have ha := ha c_11
    refine lv_aload_n hx hb dL_law_267 rfl (lv_at hl 5 rfl) ?_
    refine lv_iconst (v := nI 0) hx hb dL_law_268 (by decide) ?_
    refine xlald (j := 0) hx hb hK.1 3 hT2.2.2.2.1 rfl (xix_of (by omega) (by omega)) dL_law_269 ?_
    refine lv_iload hx hb dL_law_270 (lv_at hl 0 rfl) ?_
    refine lv_if_eq (tgt := 279) hx hb dL_law_272 (by decide) (fun c_12 => ?_) (fun c_12 => ?_)
    · refine lv_lconst (v := 0) hx hb dL_law_279 (by decide) ?_
      rw [if_pos c_12] at ha
      refine W.lcmp hx hb dL_law_280 ?_
      refine lv_if_eq (tgt := 286) hx hb dL_law_281 (by decide) (fun _ => ?_) (fun h9 => absurd (by rw [ha]; exact lg_self _) h9)
      refine lv_goto (tgt := 1709) hx hb dL_law_286 (by decide) ?_
      exact kk _ _ _ _ _ _ _ hJ2 hS hd0 (lv_sub hl [2, 3, 4, 5, 6, 7] rfl)
    · refine lv_lconst (v := 1) hx hb dL_law_275 (by decide) ?_
      refine lv_goto (tgt := 280) hx hb dL_law_276 (by decide) ?_
      rw [if_neg c_12] at ha
      refine W.lcmp hx hb dL_law_280 ?_
      refine lv_if_eq (tgt := 286) hx hb dL_law_281 (by decide) (fun _ => ?_) (fun h9 => absurd (by rw [ha]; exact lg_self _) h9)
      refine lv_goto (tgt := 1709) hx hb dL_law_286 (by decide) ?_
      exact kk _ _ _ _ _ _ _ hJ2 hS hd0 (lv_sub hl [2, 3, 4, 5, 6, 7] rfl)
set_option maxHeartbeats 4000000 in
set_option maxRecDepth 100000 in
theorem case_distance (hC : lwC p s m c b L xs G ty b0) (hfl : l.stackTraces = false) (hO : xAo b0 m0 A o1 o2) (hi6 : i + 6 ≤ L) (hJ : xJ G ty b0 F R m0 A o1 o2 q0 th f1 f2 H) (hS : va_S (xA b0) s.heap H locs) (hd0 : s.drawn.sameBut d0 lw_cs) (hl : lv_has ls 9 [(0, .ref b), (1, .ref q0), (2, .ref m0), (3, .ref o1), (4, .ref o2), (5, .int (nI i))]) (hc : cells + 20 ≤ 675798) (hs : slots + 150 ≤ 7068677)
    (kk : ∀ (th : Int32) (f1 : Nat → Int64) (f2 : Nat → UInt64) (H1 : Heap) (locs1 : List Loc) (d1 : Drawn) (ls1 : Array Slot), xJ G ty b0 F R m0 A o1 o2 q0 th f1 f2 H1 → va_S (xA b0) s.heap H1 locs1 → s.drawn.sameBut d1 lw_cs → lv_has ls1 9 [(0, .ref b), (1, .ref q0), (2, .ref m0), (3, .ref o1), (4, .ref o2), (5, .int (nI i))] → W p l e rm_L_law (s.setDrawn d1) m #[Value.ref b] below meth c H1 locs1 (cells + 20) (slots + 150) Q (F0 m 1709 ls1 [])) :
    W p l e rm_L_law (s.setDrawn d0) m #[Value.ref b] below meth c H locs cells slots Q (F0 m 289 ls []) := by
  obtain ⟨hx, hb, hml, hown, hts0, hXs, hbl, hbA, hL, hK, hb0⟩ := hC
  have hts : ∀ d0 : Drawn, ∀ w ∈ wsL_law, w.before #[Value.ref b] (s.setDrawn d0) = true := fun d0 => dr_words hts0 d0
  obtain ⟨ad, nb, pl, wi, hi, fa, un, bu, lo, la, cx, cy, bx, nf, co, dr, un2, fc, lo2, la2, px, py, pz, hq, hT, hY, hR⟩ := hJ
  subst hq
  obtain ⟨⟨zF2, zF8⟩, ⟨zR2, zR8⟩⟩ := id hT.1.1
  have zB4 := hT.1.2.1
  refine lv_aload_n hx hb dL_law_289 rfl (lv_at hl 1 rfl) ?_
  refine lv_aload_n hx hb dL_law_290 rfl (lv_at hl 0 rfl) ?_
  refine lv_iload hx hb dL_law_291 (lv_at hl 5 rfl) ?_
  refine lv_iconst (v := nI 1) hx hb dL_law_293 (by decide) ?_
  refine xiaddN hx hb dL_law_294 ?_
  refine xsld hx hb hXs hbl hbA hS hL (j := i + 1) (by omega) dL_law_295 ?_
  refine lv_aload_n hx hb dL_law_296 rfl (lv_at hl 0 rfl) ?_
  refine lv_iload hx hb dL_law_297 (lv_at hl 5 rfl) ?_
  refine lv_iconst (v := nI 2) hx hb dL_law_299 (by decide) ?_
  refine xiaddN hx hb dL_law_300 ?_
  refine xsld hx hb hXs hbl hbA hS hL (j := i + 2) (by omega) dL_law_301 ?_
  refine lv_aload_n hx hb dL_law_302 rfl (lv_at hl 0 rfl) ?_
  refine lv_iload hx hb dL_law_303 (lv_at hl 5 rfl) ?_
  refine lv_iconst (v := nI 3) hx hb dL_law_305 (by decide) ?_
  refine xiaddN hx hb dL_law_306 ?_
  refine xsld hx hb hXs hbl hbA hS hL (j := i + 3) (by omega) dL_law_307 ?_
  refine lv_aload_n hx hb dL_law_308 rfl (lv_at hl 0 rfl) ?_
  refine lv_iload hx hb dL_law_309 (lv_at hl 5 rfl) ?_
  refine lv_iconst (v := nI 4) hx hb dL_law_311 (by decide) ?_
  refine xiaddN hx hb dL_law_312 ?_
  refine xsld hx hb hXs hbl hbA hS hL (j := i + 4) (by omega) dL_law_313 ?_
  refine lv_aload hx hb dL_law_314 (lv_at hl 4 rfl) ?_
  have cw_1 := vx_cwSW (R := rm_L_law) (rm := rm_L_distance) 6 (hts d0) gL_law_L_distance rfl rfl rfl (by decide +kernel) ⟨Nat.le_of_ble_eq_true rfl, Nat.le_of_ble_eq_true rfl⟩
  refine xcallW hd0 (xintoSW (As := [.ref (ad 0), .int ((xs (i + 1))), .int ((xs (i + 2))), .int ((xs (i + 3))), .int ((xs (i + 4))), .ref o2]) (rest := []) ⟨hx, hb, hml, hown, hts _⟩ cw_1 rfl rfl hl.1 rfl (lv_room (Nat.le_of_ble_eq_true rfl)) dL_law_316) (c_L_distance (l := l) (G := G) (ty := ty) (b0 := b0) hfl hT.2.1 hT.1 (f := (xs (i + 1))) (r := (xs (i + 2))) (g := (xs (i + 3))) (q := (xs (i + 4))) hO.2.2.2.1 hT.2.2.2.2 (fun k z => Ne.symm (hT.2.2.1 k z).2.2)) (xoweW cw_1) hK hb0 hS hc hs (fun E_1 ce_1 q9_1 H_1 locs_1 d0 hd0 hp_1 hS _ _ _ => hp_1.elim) (fun v_1 H_1 locs_1 d0 hd0 hp_1 hS => ?_)
  obtain ⟨t9, rfl, hY_1, hj⟩ := j_distance hO hT hY hR hp_1
  show W p l e _ (s.setDrawn _) m _ below meth c _ _ _ _ _ (F0 m 319 ls [.int (t9)])
  refine lv_istore (lv' := [(6, .int (t9)), (0, .ref b), (1, .ref (ad 0)), (2, .ref m0), (3, .ref o1), (4, .ref o2), (5, .int (nI i))]) hx hb dL_law_319 hl (by decide) rfl (fun ls hl => ?_)
  refine lv_aload_n hx hb dL_law_321 rfl (lv_at hl 3 rfl) ?_
  refine lv_aload_n hx hb dL_law_322 rfl (lv_at hl 1 rfl) ?_
  refine lv_iload hx hb dL_law_323 (lv_at hl 6 rfl) ?_
  refine lv_iconst (v := nI 1) hx hb dL_law_325 (by decide) ?_
  refine xiaddN hx hb dL_law_326 ?_
  refine xsld hx hb hXs hbl hbA hS hL (j := i + 1) (by omega) dL_law_327 ?_
  refine lv_aload_n hx hb dL_law_328 rfl (lv_at hl 1 rfl) ?_
  refine lv_iload hx hb dL_law_329 (lv_at hl 6 rfl) ?_
  refine lv_iconst (v := nI 2) hx hb dL_law_331 (by decide) ?_
  refine xiaddN hx hb dL_law_332 ?_
  refine xsld hx hb hXs hbl hbA hS hL (j := i + 2) (by omega) dL_law_333 ?_
  refine lv_aload_n hx hb dL_law_334 rfl (lv_at hl 1 rfl) ?_
  refine lv_iload hx hb dL_law_335 (lv_at hl 6 rfl) ?_
  refine lv_iconst (v := nI 3) hx hb dL_law_337 (by decide) ?_
  refine xiaddN hx hb dL_law_338 ?_
  refine xsld hx hb hXs hbl hbA hS hL (j := i + 3) (by omega) dL_law_339 ?_
  refine lv_aload_n hx hb dL_law_340 rfl (lv_at hl 1 rfl) ?_
  refine lv_iload hx hb dL_law_341 (lv_at hl 6 rfl) ?_
  refine lv_iconst (v := nI 4) hx hb dL_law_343 (by decide) ?_
  refine xiaddN hx hb dL_law_344 ?_
  refine xsld hx hb hXs hbl hbA hS hL (j := i + 4) (by omega) dL_law_345 ?_
  have cw_2 := cwV (R := rm_L_law) (rm := rm_X7_distance) 4 (hts d0) gL_law_X7_distance rfl rfl rfl (by decide +kernel) ⟨Nat.le_of_ble_eq_true rfl, Nat.le_of_ble_eq_true rfl⟩
  refine xcall hd0 (xintoV (b := m0) (As := [.int ((xs (i + 1))), .int ((xs (i + 2))), .int ((xs (i + 3))), .int ((xs (i + 4)))]) (rest := []) ⟨hx, hb, hml, hown, hts _⟩ cw_2 (va_recv hK.1 (x1 hY_1.1) (ci := 8) (q0 := 0) rfl rfl) rfl rfl hl.1 rfl (lv_room (Nat.le_of_ble_eq_true rfl)) dL_law_346) (c_X7_distance (l := l) (G := G) (ty := ty) (b0 := b0) (f := (xs (i + 1))) (r := (xs (i + 2))) (g := (xs (i + 3))) (q := (xs (i + 4))) hY_1 hT.1.1 hO.1 hO.2.1) (xoweB cw_2.1) hK hb0 hS hc hs (fun E_2 ce_2 q9_2 H_2 locs_2 d0 hd0 hp_2 hS _ _ _ => hp_2.elim) (fun v_2 H_2 locs_2 d0 hd0 hp_2 hS => ?_)
  obtain ⟨z9, g1, g2, rfl, hJ2, ha⟩ := hj _ _ hp_2
  obtain ⟨ad2, nb2, pl2, wi2, hi2, fa2, un3, bu2, lo3, la3, cx2, cy2, bx2, nf2, co2, dr2, un4, fc2, lo4, la4, px2, py2, pz2, hq2, hT2, hY2, -⟩ := id hJ2
  show W p l e _ (s.setDrawn _) m _ below meth c _ _ _ _ _ (F0 m 349 ls [.double z9])
  refine lv_dstore (lv' := [(7, .double z9), (6, .int (t9)), (0, .ref b), (1, .ref (ad 0)), (2, .ref m0), (3, .ref o1), (4, .ref o2), (5, .int (nI i))]) hx hb dL_law_349 hl (by decide) rfl (fun ls hl => ?_)
  refine lv_aload_n hx hb dL_law_351 rfl (lv_at hl 4 rfl) ?_
  have cw_3 := cwV (R := rm_L_law) (rm := rm_X7_thrown) 0 (hts d0) gL_law_X7_thrown rfl rfl rfl (by decide +kernel) ⟨Nat.le_of_ble_eq_true rfl, Nat.le_of_ble_eq_true rfl⟩
  refine xcall hd0 (xintoV (b := m0) (As := []) (rest := []) ⟨hx, hb, hml, hown, hts _⟩ cw_3 (va_recv hK.1 (x1 hY2.1) (ci := 8) (q0 := 0) rfl rfl) rfl rfl hl.1 rfl (lv_room (Nat.le_of_ble_eq_true rfl)) dL_law_352) (c_X7_thrown (l := l) (G := G) (ty := ty) (b0 := b0) hY2 hT2.1.1) (xoweB cw_3.1) hK hb0 hS hc hs (fun E_3 ce_3 q9_3 H_3 locs_3 d0 hd0 hp_3 hS _ _ _ => hp_3.elim) (fun v_3 H_3 locs_3 d0 hd0 hp_3 hS => ?_)
  obtain ⟨rfl, rfl⟩ := hp_3
  show W p l e _ (s.setDrawn _) m _ below meth c _ _ _ _ _ (F0 m 355 ls [.int (t9)])
  refine lv_iload hx hb dL_law_355 (lv_at hl 1 rfl) ?_
  refine lv_icmp_eq (tgt := 362) hx hb dL_law_357 (by decide) (fun _ => ?_) (fun h9 => absurd (rfl) h9)
  refine lv_iload hx hb dL_law_362 (lv_at hl 1 rfl) ?_
  refine lv_if_ne (tgt := 399) hx hb dL_law_364 (by decide) (fun c_5 => ?_) (fun c_5 => ?_)
  · refine lv_goto (tgt := 1709) hx hb dL_law_399 (by decide) ?_
    exact kk _ _ _ _ _ _ _ hJ2 hS hd0 (lv_sub hl [2, 3, 4, 5, 6, 7] rfl)
  · have ha := ha c_5
    refine lv_aload hx hb dL_law_367 (lv_at hl 6 rfl) ?_
    refine lv_iconst (v := nI 0) hx hb dL_law_369 (by decide) ?_
    refine xdald (j := 0) hx hb hK.1 0 hT2.2.2.2.2 rfl (xix_of (by omega) (by omega)) dL_law_370 ?_
    refine lv_dload hx hb dL_law_371 (lv_at hl 0 rfl) ?_
    refine xcmp_l_eq (tgt := 399) hx hb (vq_rf _) (vq_rf _) dL_law_373 dL_law_374 (by decide) (fun c_6 => ?_) (fun c_6 => ?_)
    · refine lv_goto (tgt := 1709) hx hb dL_law_399 (by decide) ?_
      exact kk _ _ _ _ _ _ _ hJ2 hS hd0 (lv_sub hl [2, 3, 4, 5, 6, 7] rfl)
    · refine lv_aload hx hb dL_law_377 (lv_at hl 6 rfl) ?_
      refine lv_iconst (v := nI 0) hx hb dL_law_379 (by decide) ?_
      refine xdald (j := 0) hx hb hK.1 0 hT2.2.2.2.2 rfl (xix_of (by omega) (by omega)) dL_law_380 ?_
      refine lv_aload hx hb dL_law_381 (lv_at hl 6 rfl) ?_
      refine lv_iconst (v := nI 0) hx hb dL_law_383 (by decide) ?_
      refine xdald (j := 0) hx hb hK.1 0 hT2.2.2.2.2 rfl (xix_of (by omega) (by omega)) dL_law_384 ?_
      refine xcmp_l_eq (tgt := 397) hx hb (vq_rf _) (vq_rf _) dL_law_385 dL_law_386 (by decide) (fun c_7 => ?_) (fun c_7 => ?_)
      · exact (pSame_no1 ha c_6 c_7).elim
      · refine lv_dload hx hb dL_law_389 (lv_at hl 0 rfl) ?_
        refine lv_dload hx hb dL_law_391 (lv_at hl 0 rfl) ?_
        refine xcmp_l_ne (tgt := 399) hx hb (vq_rf _) (vq_rf _) dL_law_393 dL_law_394 (by decide) (fun c_8 => ?_) (fun c_8 => ?_)
        · refine lv_goto (tgt := 1709) hx hb dL_law_399 (by decide) ?_
          exact kk _ _ _ _ _ _ _ hJ2 hS hd0 (lv_sub hl [2, 3, 4, 5, 6, 7] rfl)
        · exact (pSame_no2 ha c_6 c_8).elim
end LawCases
