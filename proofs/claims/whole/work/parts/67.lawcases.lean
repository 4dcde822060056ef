/-! THE LAW: the cases of its switch. -/
section LawCases
variable {p : Program} {l : Launch} {e : Env} {s : State} {m : MethodId} {below : List Frame} {meth : Method} {c : Code} {H : Heap} {locs : List Loc} {cells slots : Nat} {Q : State → Prop} {d0 : Drawn} {ls : Array Slot}
variable {G : va_G} {ty : Nat → ClassId} {b0 b L i F R m0 o1 o2 q0 : Nat} {A : Nat → Nat} {xs : Nat → Int32} {th : Int32} {f1 : Nat → Int64} {f2 : Nat → UInt64}
set_option maxHeartbeats 4000000 in
set_option maxRecDepth 100000 in
theorem case_point (hC : lwC p s m c b L xs G ty b0) (hfl : l.stackTraces = false) (hO : xAo b0 m0 A o1 o2) (hi6 : i + 6 ≤ L) (hJ : xJ G ty b0 F R m0 A o1 o2 q0 th f1 f2 H) (hS : va_S (xA b0) s.heap H locs) (hd0 : s.drawn.sameBut d0 lw_cs) (hl : lv_has ls 9 [(0, .ref b), (1, .ref q0), (2, .ref m0), (3, .ref o1), (4, .ref o2), (5, .int (nI i))]) (hc : cells + 20 ≤ 675798) (hs : slots + 150 ≤ 7068677)
    (kk : ∀ (th : Int32) (f1 : Nat → Int64) (f2 : Nat → UInt64) (H1 : Heap) (locs1 : List Loc) (d1 : Drawn) (ls1 : Array Slot), xJ G ty b0 F R m0 A o1 o2 q0 th f1 f2 H1 → va_S (xA b0) s.heap H1 locs1 → s.drawn.sameBut d1 lw_cs → lv_has ls1 9 [(0, .ref b), (1, .ref q0), (2, .ref m0), (3, .ref o1), (4, .ref o2), (5, .int (nI i))] → W p l e rm_L_law (s.setDrawn d1) m #[Value.ref b] below meth c H1 locs1 (cells + 20) (slots + 150) Q (F0 m 1709 ls1 [])) :
    W p l e rm_L_law (s.setDrawn d0) m #[Value.ref b] below meth c H locs cells slots Q (F0 m 148 ls []) := by
  obtain ⟨hx, hb, hml, hown, hts0, hXs, hbl, hbA, hL, hK, hb0⟩ := hC
  have hts : ∀ d0 : Drawn, ∀ w ∈ wsL_law, w.before #[Value.ref b] (s.setDrawn d0) = true := fun d0 => dr_words hts0 d0
  obtain ⟨ad, nb, pl, wi, hi, fa, un, bu, lo, la, cx, cy, bx, nf, co, dr, un2, fc, lo2, la2, px, py, pz, hq, hT, hY, hR⟩ := hJ
  subst hq
  obtain ⟨⟨zF2, zF8⟩, ⟨zR2, zR8⟩⟩ := id hT.1.1
  have zB4 := hT.1.2.1
  refine lv_aload_n hx hb dL_law_148 rfl (lv_at hl 1 rfl) ?_
  refine lv_aload_n hx hb dL_law_149 rfl (lv_at hl 0 rfl) ?_
  refine lv_iload hx hb dL_law_150 (lv_at hl 5 rfl) ?_
  refine lv_iconst (v := nI 1) hx hb dL_law_152 (by decide) ?_
  refine xiaddN hx hb dL_law_153 ?_
  refine xsld hx hb hXs hbl hbA hS hL (j := i + 1) (by omega) dL_law_154 ?_
  refine lv_aload_n hx hb dL_law_155 rfl (lv_at hl 0 rfl) ?_
  refine lv_iload hx hb dL_law_156 (lv_at hl 5 rfl) ?_
  refine lv_iconst (v := nI 2) hx hb dL_law_158 (by decide) ?_
  refine xiaddN hx hb dL_law_159 ?_
  refine xsld hx hb hXs hbl hbA hS hL (j := i + 2) (by omega) dL_law_160 ?_
  refine lv_aload_n hx hb dL_law_161 rfl (lv_at hl 0 rfl) ?_
  refine lv_iload hx hb dL_law_162 (lv_at hl 5 rfl) ?_
  refine lv_iconst (v := nI 3) hx hb dL_law_164 (by decide) ?_
  refine xiaddN hx hb dL_law_165 ?_
  refine xsld hx hb hXs hbl hbA hS hL (j := i + 3) (by omega) dL_law_166 ?_
  refine lv_i2d hx hb dL_law_167 ?_
  refine lv_ldc2d hx hb hown (hts d0 _ hw_L_law_0) dL_law_168 ?_
  refine xdmul hd0 hx hb (vq_rf _) (vq_rf _) dL_law_171 (fun r_1 d0 q_1 hd0 => ?_)
  have e_1 : r_1 = xE (xs (i + 3)) := vq_same q_1 (xE_fin _).1.nn
  subst e_1
  refine lv_aload_n hx hb dL_law_172 rfl (lv_at hl 0 rfl) ?_
  refine lv_iload hx hb dL_law_173 (lv_at hl 5 rfl) ?_
  refine lv_iconst (v := nI 4) hx hb dL_law_175 (by decide) ?_
  refine xiaddN hx hb dL_law_176 ?_
  refine xsld hx hb hXs hbl hbA hS hL (j := i + 4) (by omega) dL_law_177 ?_
  refine lv_i2d hx hb dL_law_178 ?_
  refine lv_ldc2d hx hb hown (hts d0 _ hw_L_law_0) dL_law_179 ?_
  refine xdmul hd0 hx hb (vq_rf _) (vq_rf _) dL_law_182 (fun r_2 d0 q_2 hd0 => ?_)
  have e_2 : r_2 = xE (xs (i + 4)) := vq_same q_2 (xE_fin _).1.nn
  subst e_2
  refine lv_aload_n hx hb dL_law_183 rfl (lv_at hl 0 rfl) ?_
  refine lv_iload hx hb dL_law_184 (lv_at hl 5 rfl) ?_
  refine lv_iconst (v := nI 5) hx hb dL_law_186 (by decide) ?_
  refine xiaddN hx hb dL_law_187 ?_
  refine xsld hx hb hXs hbl hbA hS hL (j := i + 5) (by omega) dL_law_188 ?_
  refine lv_i2d hx hb dL_law_189 ?_
  refine lv_ldc2d hx hb hown (hts d0 _ hw_L_law_0) dL_law_190 ?_
  refine xdmul hd0 hx hb (vq_rf _) (vq_rf _) dL_law_193 (fun r_3 d0 q_3 hd0 => ?_)
  have e_3 : r_3 = xE (xs (i + 5)) := vq_same q_3 (xE_fin _).1.nn
  subst e_3
  refine lv_aload_n hx hb dL_law_194 rfl (lv_at hl 3 rfl) ?_
  have cw_4 := vx_cwSW (R := rm_L_law) (rm := rm_L_point) 7 (hts d0) gL_law_L_point rfl rfl rfl (by decide +kernel) ⟨Nat.le_of_ble_eq_true rfl, Nat.le_of_ble_eq_true rfl⟩
  refine xcallW hd0 (xintoSW (As := [.ref (ad 0), .int ((xs (i + 1))), .int ((xs (i + 2))), .double (xE (xs (i + 3))), .double (xE (xs (i + 4))), .double (xE (xs (i + 5))), .ref o1]) (rest := []) ⟨hx, hb, hml, hown, hts _⟩ cw_4 rfl rfl hl.1 rfl (lv_room (Nat.le_of_ble_eq_true rfl)) dL_law_195) (c_L_point (l := l) (G := G) (ty := ty) (b0 := b0) hfl hT.2.1 hT.1 (f := (xs (i + 1))) (r := (xs (i + 2))) (x := (xE (xs (i + 3)))) (y := (xE (xs (i + 4)))) (z := (xE (xs (i + 5)))) (vq_rf _) (vq_rf _) (vq_rf _) hO.2.2.1 hT.2.2.2.1 (fun k z => Ne.symm (hT.2.2.1 k z).2.1)) (xoweW cw_4) hK hb0 hS hc hs (fun E_4 ce_4 q9_4 H_4 locs_4 d0 hd0 hp_4 hS _ _ _ => hp_4.elim) (fun v_4 H_4 locs_4 d0 hd0 hp_4 hS => ?_)
  obtain ⟨t9, rfl, hY_4, hj⟩ := j_point hO hT hY hR (pGz_E _) (pGz_E _) (pGz_E _) hp_4
  show W p l e _ (s.setDrawn _) m _ below meth c _ _ _ _ _ (F0 m 198 ls [.int (t9)])
  refine lv_istore (lv' := [(6, .int (t9)), (0, .ref b), (1, .ref (ad 0)), (2, .ref m0), (3, .ref o1), (4, .ref o2), (5, .int (nI i))]) hx hb dL_law_198 hl (by decide) rfl (fun ls hl => ?_)
  refine lv_aload_n hx hb dL_law_200 rfl (lv_at hl 3 rfl) ?_
  refine lv_aload_n hx hb dL_law_201 rfl (lv_at hl 1 rfl) ?_
  refine lv_iload hx hb dL_law_202 (lv_at hl 6 rfl) ?_
  refine lv_iconst (v := nI 1) hx hb dL_law_204 (by decide) ?_
  refine xiaddN hx hb dL_law_205 ?_
  refine xsld hx hb hXs hbl hbA hS hL (j := i + 1) (by omega) dL_law_206 ?_
  refine lv_aload_n hx hb dL_law_207 rfl (lv_at hl 1 rfl) ?_
  refine lv_iload hx hb dL_law_208 (lv_at hl 6 rfl) ?_
  refine lv_iconst (v := nI 2) hx hb dL_law_210 (by decide) ?_
  refine xiaddN hx hb dL_law_211 ?_
  refine xsld hx hb hXs hbl hbA hS hL (j := i + 2) (by omega) dL_law_212 ?_
  refine lv_aload_n hx hb dL_law_213 rfl (lv_at hl 1 rfl) ?_
  refine lv_iload hx hb dL_law_214 (lv_at hl 6 rfl) ?_
  refine lv_iconst (v := nI 3) hx hb dL_law_216 (by decide) ?_
  refine xiaddN hx hb dL_law_217 ?_
  refine xsld hx hb hXs hbl hbA hS hL (j := i + 3) (by omega) dL_law_218 ?_
  refine lv_i2d hx hb dL_law_219 ?_
  refine lv_ldc2d hx hb hown (hts d0 _ hw_L_law_0) dL_law_220 ?_
  refine xdmul hd0 hx hb (vq_rf _) (vq_rf _) dL_law_223 (fun r_5 d0 q_5 hd0 => ?_)
  have e_5 : r_5 = xE (xs (i + 3)) := vq_same q_5 (xE_fin _).1.nn
  subst e_5
  refine lv_aload_n hx hb dL_law_224 rfl (lv_at hl 1 rfl) ?_
  refine lv_iload hx hb dL_law_225 (lv_at hl 6 rfl) ?_
  refine lv_iconst (v := nI 4) hx hb dL_law_227 (by decide) ?_
  refine xiaddN hx hb dL_law_228 ?_
  refine xsld hx hb hXs hbl hbA hS hL (j := i + 4) (by omega) dL_law_229 ?_
  refine lv_i2d hx hb dL_law_230 ?_
  refine lv_ldc2d hx hb hown (hts d0 _ hw_L_law_0) dL_law_231 ?_
  refine xdmul hd0 hx hb (vq_rf _) (vq_rf _) dL_law_234 (fun r_6 d0 q_6 hd0 => ?_)
  have e_6 : r_6 = xE (xs (i + 4)) := vq_same q_6 (xE_fin _).1.nn
  subst e_6
  refine lv_aload_n hx hb dL_law_235 rfl (lv_at hl 1 rfl) ?_
  refine lv_iload hx hb dL_law_236 (lv_at hl 6 rfl) ?_
  refine lv_iconst (v := nI 5) hx hb dL_law_238 (by decide) ?_
  refine xiaddN hx hb dL_law_239 ?_
  refine xsld hx hb hXs hbl hbA hS hL (j := i + 5) (by omega) dL_law_240 ?_
  refine lv_i2d hx hb dL_law_241 ?_
  refine lv_ldc2d hx hb hown (hts d0 _ hw_L_law_0) dL_law_242 ?_
  refine xdmul hd0 hx hb (vq_rf _) (vq_rf _) dL_law_245 (fun r_7 d0 q_7 hd0 => ?_)
  have e_7 : r_7 = xE (xs (i + 5)) := vq_same q_7 (xE_fin _).1.nn
  subst e_7
  have cw_8 := cwV (R := rm_L_law) (rm := rm_X7_point) 5 (hts d0) gL_law_X7_point rfl rfl rfl (by decide +kernel) ⟨Nat.le_of_ble_eq_true rfl, Nat.le_of_ble_eq_true rfl⟩
  refine xcall hd0 (xintoV (b := m0) (As := [.int ((xs (i + 1))), .int ((xs (i + 2))), .double (xE (xs (i + 3))), .double (xE (xs (i + 4))), .double (xE (xs (i + 5)))]) (rest := []) ⟨hx, hb, hml, hown, hts _⟩ cw_8 (va_recv hK.1 (x1 hY_4.1) (ci := 8) (q0 := 0) rfl rfl) rfl rfl hl.1 rfl (lv_room (Nat.le_of_ble_eq_true rfl)) dL_law_246) (c_X7_point (l := l) (G := G) (ty := ty) (b0 := b0) (f := (xs (i + 1))) (r := (xs (i + 2))) (x := (xE (xs (i + 3)))) (y := (xE (xs (i + 4)))) (z := (xE (xs (i + 5)))) hY_4 hT.1.1 hO.1 hO.2.1 (vq_rf _) (vq_rf _) (vq_rf _)) (xoweB cw_8.1) hK hb0 hS hc hs (fun E_8 ce_8 q9_8 H_8 locs_8 d0 hd0 hp_8 hS _ _ _ => hp_8.elim) (fun v_8 H_8 locs_8 d0 hd0 hp_8 hS => ?_)
  obtain ⟨z9, g1, g2, rfl, hJ2, ha⟩ := hj _ _ hp_8
  obtain ⟨ad2, nb2, pl2, wi2, hi2, fa2, un3, bu2, lo3, la3, cx2, cy2, bx2, nf2, co2, dr2, un4, fc2, lo4, la4, px2, py2, pz2, hq2, hT2, hY2, -⟩ := id hJ2
  show W p l e _ (s.setDrawn _) m _ below meth c _ _ _ _ _ (F0 m 249 ls [.int (z9)])
  refine lv_istore (lv' := [(7, .int (z9)), (6, .int (t9)), (0, .ref b), (1, .ref (ad 0)), (2, .ref m0), (3, .ref o1), (4, .ref o2), (5, .int (nI i))]) hx hb dL_law_249 hl (by decide) rfl (fun ls hl => ?_)
  refine lv_aload_n hx hb dL_law_251 rfl (lv_at hl 4 rfl) ?_
  have cw_9 := cwV (R := rm_L_law) (rm := rm_X7_thrown) 0 (hts d0) gL_law_X7_thrown rfl rfl rfl (by decide +kernel) ⟨Nat.le_of_ble_eq_true rfl, Nat.le_of_ble_eq_true rfl⟩
  refine xcall hd0 (xintoV (b := m0) (As := []) (rest := []) ⟨hx, hb, hml, hown, hts _⟩ cw_9 (va_recv hK.1 (x1 hY2.1) (ci := 8) (q0 := 0) rfl rfl) rfl rfl hl.1 rfl (lv_room (Nat.le_of_ble_eq_true rfl)) dL_law_252) (c_X7_thrown (l := l) (G := G) (ty := ty) (b0 := b0) hY2 hT2.1.1) (xoweB cw_9.1) hK hb0 hS hc hs (fun E_9 ce_9 q9_9 H_9 locs_9 d0 hd0 hp_9 hS _ _ _ => hp_9.elim) (fun v_9 H_9 locs_9 d0 hd0 hp_9 hS => ?_)
  obtain ⟨rfl, rfl⟩ := hp_9
  show W p l e _ (s.setDrawn _) m _ below meth c _ _ _ _ _ (F0 m 255 ls [.int (t9)])
  refine lv_iload hx hb dL_law_255 (lv_at hl 1 rfl) ?_
  refine lv_icmp_eq (tgt := 262) hx hb dL_law_257 (by decide) (fun _ => ?_) (fun h9 => absurd (rfl) h9)
  refine lv_iload hx hb dL_law_262 (lv_at hl 1 rfl) ?_
  refine lv_if_ne (tgt := 286) hx hb dL_law_264 (by decide) (fun c_11 => ?_) (fun c_11 => ?_)
  · refine lv_goto (tgt := 1709) hx hb dL_law_286 (by decide) ?_
    exact kk _ _ _ _ _ _ _ hJ2 hS hd0 (lv_sub hl [2, 3, 4, 5, 6, 7] rfl)
  · have ha := ha c_11
    refine lv_aload_n hx hb dL_law_267 rfl (lv_at hl 5 rfl) ?_
    refine lv_iconst (v := nI 0) hx hb dL_law_268 (by decide) ?_
    refine xlald (j := 0) hx hb hK.1 3 hT2.2.2.2.1 rfl (xix_of (by omega) (by omega)) dL_law_269 ?_
    refine lv_iload hx hb dL_law_270 (lv_at hl 0 rfl) ?_
    refine lv_if_eq (tgt := 279) hx hb dL_law_272 (by decide) (fun c_12 => ?_) (fun c_12 => ?_)
    · refine lv_lconst (v := 0) hx hb dL_law_279 (by decide) ?_
      rw [if_pos c_12] at ha
      refine W.lcmp hx hb dL_law_280 ?_
      refine lv_if_eq (tgt := 286) hx hb dL_law_281 (by decide) (fun _ => ?_) (fun h9 => absurd (by rw [ha]; exact lg_self _) h9)
      refine lv_goto (tgt := 1709) hx hb dL_law_286 (by decide) ?_
      exact kk _ _ _ _ _ _ _ hJ2 hS hd0 (lv_sub hl [2, 3, 4, 5, 6, 7] rfl)
    · refine lv_lconst (v := 1) hx hb dL_law_275 (by decide) ?_
      refine lv_goto (tgt := 280) hx hb dL_law_276 (by decide) ?_
      rw [if_neg c_12] at ha
      refine W.lcmp hx hb dL_law_280 ?_
      refine lv_if_eq (tgt := 286) hx hb dL_law_281 (by decide) (fun _ => ?_) (fun h9 => absurd (by rw [ha]; exact lg_self _) h9)
      refine lv_goto (tgt := 1709) hx hb dL_law_286 (by decide) ?_
      exact kk _ _ _ _ _ _ _ hJ2 hS hd0 (lv_sub hl [2, 3, 4, 5, 6, 7] rfl)
set_option maxHeartbeats 4000000 in
set_option maxRecDepth 100000 in
theorem case_distance (hC : lwC p s m c b L xs G ty b0) (hfl : l.stackTraces = false) (hO : xAo b0 m0 A o1 o2) (hi6 : i + 6 ≤ L) (hJ : xJ G ty b0 F R m0 A o1 o2 q0 th f1 f2 H) (hS : va_S (xA b0) s.heap H locs) (hd0 : s.drawn.sameBut d0 lw_cs) (hl : lv_has ls 9 [(0, .ref b), (1, .ref q0), (2, .ref m0), (3, .ref o1), (4, .ref o2), (5, .int (nI i))]) (hc : cells + 20 ≤ 675798) (hs : slots + 150 ≤ 7068677)
    (kk : ∀ (th : Int32) (f1 : Nat → Int64) (f2 : Nat → UInt64) (H1 : Heap) (locs1 : List Loc) (d1 : Drawn) (ls1 : Array Slot), xJ G ty b0 F R m0 A o1 o2 q0 th f1 f2 H1 → va_S (xA b0) s.heap H1 locs1 → s.drawn.sameBut d1 lw_cs → lv_has ls1 9 [(0, .ref b), (1, .ref q0), (2, .ref m0), (3, .ref o1), (4, .ref o2), (5, .int (nI i))] → W p l e rm_L_law (s.setDrawn d1) m #[Value.ref b] below meth c H1 locs1 (cells + 20) (slots + 150) Q (F0 m 1709 ls1 [])) :
    W p l e rm_L_law (s.setDrawn d0) m #[Value.ref b] below meth c H locs cells slots Q (F0 m 289 ls []) := by
  obtain ⟨hx, hb, hml, hown, hts0, hXs, hbl, hbA, hL, hK, hb0⟩ := hC
  have hts : ∀ d0 : Drawn, ∀ w ∈ wsL_law, w.before #[Value.ref b] (s.setDrawn d0) = true := fun d0 => dr_words hts0 d0
  obtain ⟨ad, nb, pl, wi, hi, fa, un, bu, lo, la, cx, cy, bx, nf, co, dr, un2, fc, lo2, la2, px, py, pz, hq, hT, hY, hR⟩ := hJ
  subst hq
  obtain ⟨⟨zF2, zF8⟩, ⟨zR2, zR8⟩⟩ := id hT.1.1
  have zB4 := hT.1.2.1
  refine lv_aload_n hx hb dL_law_289 rfl (lv_at hl 1 rfl) ?_
  refine lv_aload_n hx hb dL_law_290 rfl (lv_at hl 0 rfl) ?_
  refine lv_iload hx hb dL_law_291 (lv_at hl 5 rfl) ?_
  refine lv_iconst (v := nI 1) hx hb dL_law_293 (by decide) ?_
  refine xiaddN hx hb dL_law_294 ?_
  refine xsld hx hb hXs hbl hbA hS hL (j := i + 1) (by omega) dL_law_295 ?_
  refine lv_aload_n hx hb dL_law_296 rfl (lv_at hl 0 rfl) ?_
  refine lv_iload hx hb dL_law_297 (lv_at hl 5 rfl) ?_
  refine lv_iconst (v := nI 2) hx hb dL_law_299 (by decide) ?_
  refine xiaddN hx hb dL_law_300 ?_
  refine xsld hx hb hXs hbl hbA hS hL (j := i + 2) (by omega) dL_law_301 ?_
  refine lv_aload_n hx hb dL_law_302 rfl (lv_at hl 0 rfl) ?_
  refine lv_iload hx hb dL_law_303 (lv_at hl 5 rfl) ?_
  refine lv_iconst (v := nI 3) hx hb dL_law_305 (by decide) ?_
  refine xiaddN hx hb dL_law_306 ?_
  refine xsld hx hb hXs hbl hbA hS hL (j := i + 3) (by omega) dL_law_307 ?_
  refine lv_aload_n hx hb dL_law_308 rfl (lv_at hl 0 rfl) ?_
  refine lv_iload hx hb dL_law_309 (lv_at hl 5 rfl) ?_
  refine lv_iconst (v := nI 4) hx hb dL_law_311 (by decide) ?_
  refine xiaddN hx hb dL_law_312 ?_
  refine xsld hx hb hXs hbl hbA hS hL (j := i + 4) (by omega) dL_law_313 ?_
  refine lv_aload hx hb dL_law_314 (lv_at hl 4 rfl) ?_
  have cw_1 := vx_cwSW (R := rm_L_law) (rm := rm_L_distance) 6 (hts d0) gL_law_L_distance rfl rfl rfl (by decide +kernel) ⟨Nat.le_of_ble_eq_true rfl, Nat.le_of_ble_eq_true rfl⟩
  refine xcallW hd0 (xintoSW (As := [.ref (ad 0), .int ((xs (i + 1))), .int ((xs (i + 2))), .int ((xs (i + 3))), .int ((xs (i + 4))), .ref o2]) (rest := []) ⟨hx, hb, hml, hown, hts _⟩ cw_1 rfl rfl hl.1 rfl (lv_room (Nat.le_of_ble_eq_true rfl)) dL_law_316) (c_L_distance (l := l) (G := G) (ty := ty) (b0 := b0) hfl hT.2.1 hT.1 (f := (xs (i + 1))) (r := (xs (i + 2))) (g := (xs (i + 3))) (q := (xs (i + 4))) hO.2.2.2.1 hT.2.2.2.2 (fun k z => Ne.symm (hT.2.2.1 k z).2.2)) (xoweW cw_1) hK hb0 hS hc hs (fun E_1 ce_1 q9_1 H_1 locs_1 d0 hd0 hp_1 hS _ _ _ => hp_1.elim) (fun v_1 H_1 locs_1 d0 hd0 hp_1 hS => ?_)
  obtain ⟨t9, rfl, hY_1, hj⟩ := j_distance hO hT hY hR hp_1
  show W p l e _ (s.setDrawn _) m _ below meth c _ _ _ _ _ (F0 m 319 ls [.int (t9)])
  refine lv_istore (lv' := [(6, .int (t9)), (0, .ref b), (1, .ref (ad 0)), (2, .ref m0), (3, .ref o1), (4, .ref o2), (5, .int (nI i))]) hx hb dL_law_319 hl (by decide) rfl (fun ls hl => ?_)
  refine lv_aload_n hx hb dL_law_321 rfl (lv_at hl 3 rfl) ?_
  refine lv_aload_n hx hb dL_law_322 rfl (lv_at hl 1 rfl) ?_
  refine lv_iload hx hb dL_law_323 (lv_at hl 6 rfl) ?_
  refine lv_iconst (v := nI 1) hx hb dL_law_325 (by decide) ?_
  refine xiaddN hx hb dL_law_326 ?_
  refine xsld hx hb hXs hbl hbA hS hL (j := i + 1) (by omega) dL_law_327 ?_
  refine lv_aload_n hx hb dL_law_328 rfl (lv_at hl 1 rfl) ?_
  refine lv_iload hx hb dL_law_329 (lv_at hl 6 rfl) ?_
  refine lv_iconst (v := nI 2) hx hb dL_law_331 (by decide) ?_
  refine xiaddN hx hb dL_law_332 ?_
  refine xsld hx hb hXs hbl hbA hS hL (j := i + 2) (by omega) dL_law_333 ?_
  refine lv_aload_n hx hb dL_law_334 rfl (lv_at hl 1 rfl) ?_
  refine lv_iload hx hb dL_law_335 (lv_at hl 6 rfl) ?_
  refine lv_iconst (v := nI 3) hx hb dL_law_337 (by decide) ?_
  refine xiaddN hx hb dL_law_338 ?_
  refine xsld hx hb hXs hbl hbA hS hL (j := i + 3) (by omega) dL_law_339 ?_
  refine lv_aload_n hx hb dL_law_340 rfl (lv_at hl 1 rfl) ?_
  refine lv_iload hx hb dL_law_341 (lv_at hl 6 rfl) ?_
  refine lv_iconst (v := nI 4) hx hb dL_law_343 (by decide) ?_
  refine xiaddN hx hb dL_law_344 ?_
  refine xsld hx hb hXs hbl hbA hS hL (j := i + 4) (by omega) dL_law_345 ?_
  have cw_2 := cwV (R := rm_L_law) (rm := rm_X7_distance) 4 (hts d0) gL_law_X7_distance rfl rfl rfl (by decide +kernel) ⟨Nat.le_of_ble_eq_true rfl, Nat.le_of_ble_eq_true rfl⟩
  refine xcall hd0 (xintoV (b := m0) (As := [.int ((xs (i + 1))), .int ((xs (i + 2))), .int ((xs (i + 3))), .int ((xs (i + 4)))]) (rest := []) ⟨hx, hb, hml, hown, hts _⟩ cw_2 (va_recv hK.1 (x1 hY_1.1) (ci := 8) (q0 := 0) rfl rfl) rfl rfl hl.1 rfl (lv_room (Nat.le_of_ble_eq_true rfl)) dL_law_346) (c_X7_distance (l := l) (G := G) (ty := ty) (b0 := b0) (f := (xs (i + 1))) (r := (xs (i + 2))) (g := (xs (i + 3))) (q := (xs (i + 4))) hY_1 hT.1.1 hO.1 hO.2.1) (xoweB cw_2.1) hK hb0 hS hc hs (fun E_2 ce_2 q9_2 H_2 locs_2 d0 hd0 hp_2 hS _ _ _ => hp_2.elim) (fun v_2 H_2 locs_2 d0 hd0 hp_2 hS => ?_)
  obtain ⟨z9, g1, g2, rfl, hJ2, ha⟩ := hj _ _ hp_2
  obtain ⟨ad2, nb2, pl2, wi2, hi2, fa2, un3, bu2, lo3, la3, cx2, cy2, bx2, nf2, co2, dr2, un4, fc2, lo4, la4, px2, py2, pz2, hq2, hT2, hY2, -⟩ := id hJ2
  show W p l e _ (s.setDrawn _) m _ below meth c _ _ _ _ _ (F0 m 349 ls [.double z9])
  refine lv_dstore (lv' := [(7, .double z9), (6, .int (t9)), (0, .ref b), (1, .ref (ad 0)), (2, .ref m0), (3, .ref o1), (4, .ref o2), (5, .int (nI i))]) hx hb dL_law_349 hl (by decide) rfl (fun ls hl => ?_)
  refine lv_aload_n hx hb dL_law_351 rfl (lv_at hl 4 rfl) ?_
  have cw_3 := cwV (R := rm_L_law) (rm := rm_X7_thrown) 0 (hts d0) gL_law_X7_thrown rfl rfl rfl (by decide +kernel) ⟨Nat.le_of_ble_eq_true rfl, Nat.le_of_ble_eq_true rfl⟩
  refine xcall hd0 (xintoV (b := m0) (As := []) (rest := []) ⟨hx, hb, hml, hown, hts _⟩ cw_3 (va_recv hK.1 (x1 hY2.1) (ci := 8) (q0 := 0) rfl rfl) rfl rfl hl.1 rfl (lv_room (Nat.le_of_ble_eq_true rfl)) dL_law_352) (c_X7_thrown (l := l) (G := G) (ty := ty) (b0 := b0) hY2 hT2.1.1) (xoweB cw_3.1) hK hb0 hS hc hs (fun E_3 ce_3 q9_3 H_3 locs_3 d0 hd0 hp_3 hS _ _ _ => hp_3.elim) (fun v_3 H_3 locs_3 d0 hd0 hp_3 hS => ?_)
  obtain ⟨rfl, rfl⟩ := hp_3
  show W p l e _ (s.setDrawn _) m _ below meth c _ _ _ _ _ (F0 m 355 ls [.int (t9)])
  refine lv_iload hx hb dL_law_355 (lv_at hl 1 rfl) ?_
  refine lv_icmp_eq (tgt := 362) hx hb dL_law_357 (by decide) (fun _ => ?_) (fun h9 => absurd (rfl) h9)
  refine lv_iload hx hb dL_law_362 (lv_at hl 1 rfl) ?_
  refine lv_if_ne (tgt := 399) hx hb dL_law_364 (by decide) (fun c_5 => ?_) (fun c_5 => ?_)
  · refine lv_goto (tgt := 1709) hx hb dL_law_399 (by decide) ?_
    exact kk _ _ _ _ _ _ _ hJ2 hS hd0 (lv_sub hl [2, 3, 4, 5, 6, 7] rfl)
  · have ha := ha c_5
    refine lv_aload hx hb dL_law_367 (lv_at hl 6 rfl) ?_
    refine lv_iconst (v := nI 0) hx hb dL_law_369 (by decide) ?_
    refine xdald (j := 0) hx hb hK.1 0 hT2.2.2.2.2 rfl (xix_of (by omega) (by omega)) dL_law_370 ?_
    refine lv_dload hx hb dL_law_371 (lv_at hl 0 rfl) ?_
    refine xcmp_l_eq (tgt := 399) hx hb (vq_rf _) (vq_rf _) dL_law_373 dL_law_374 (by decide) (fun c_6 => ?_) (fun c_6 => ?_)
    · refine lv_goto (tgt := 1709) hx hb dL_law_399 (by decide) ?_
      exact kk _ _ _ _ _ _ _ hJ2 hS hd0 (lv_sub hl [2, 3, 4, 5, 6, 7] rfl)
    · refine lv_aload hx hb dL_law_377 (lv_at hl 6 rfl) ?_
      refine lv_iconst (v := nI 0) hx hb dL_law_379 (by decide) ?_
      refine xdald (j := 0) hx hb hK.1 0 hT2.2.2.2.2 rfl (xix_of (by omega) (by omega)) dL_law_380 ?_
      refine lv_aload hx hb dL_law_381 (lv_at hl 6 rfl) ?_
      refine lv_iconst (v := nI 0) hx hb dL_law_383 (by decide) ?_
      refine xdald (j := 0) hx hb hK.1 0 hT2.2.2.2.2 rfl (xix_of (by omega) (by omega)) dL_law_384 ?_
      refine xcmp_l_eq (tgt := 397) hx hb (vq_rf _) (vq_rf _) dL_law_385 dL_law_386 (by decide) (fun c_7 => ?_) (fun c_7 => ?_)
      · exact (pSame_no1 ha c_6 c_7).elim
      · refine lv_dload hx hb dL_law_389 (lv_at hl 0 rfl) ?_
        refine lv_dload hx hb dL_law_391 (lv_at hl 0 rfl) ?_
        refine xcmp_l_ne (tgt := 399) hx hb (vq_rf _) (vq_rf _) dL_law_393 dL_law_394 (by decide) (fun c_8 => ?_) (fun c_8 => ?_)
        · refine lv_goto (tgt := 1709) hx hb dL_law_399 (by decide) ?_
          exact kk _ _ _ _ _ _ _ hJ2 hS hd0 (lv_sub hl [2, 3, 4, 5, 6, 7] rfl)
        · exact (pSame_no2 ha c_6 c_8).elim
set_option maxHeartbeats 4000000 in
set_option maxRecDepth 100000 in
theorem case_unroll (hC : lwC p s m c b L xs G ty b0) (hfl : l.stackTraces = false) (hO : xAo b0 m0 A o1 o2) (hi6 : i + 6 ≤ L) (hJ : xJ G ty b0 F R m0 A o1 o2 q0 th f1 f2 H) (hS : va_S (xA b0) s.heap H locs) (hd0 : s.drawn.sameBut d0 lw_cs) (hl : lv_has ls 9 [(0, .ref b), (1, .ref q0), (2, .ref m0), (3, .ref o1), (4, .ref o2), (5, .int (nI i))]) (hc : cells + 20 ≤ 675798) (hs : slots + 150 ≤ 7068677)
    (kk : ∀ (th : Int32) (f1 : Nat → Int64) (f2 : Nat → UInt64) (H1 : Heap) (locs1 : List Loc) (d1 : Drawn) (ls1 : Array Slot), xJ G ty b0 F R m0 A o1 o2 q0 th f1 f2 H1 → va_S (xA b0) s.heap H1 locs1 → s.drawn.sameBut d1 lw_cs → lv_has ls1 9 [(0, .ref b), (1, .ref q0), (2, .ref m0), (3, .ref o1), (4, .ref o2), (5, .int (nI i))] → W p l e rm_L_law (s.setDrawn d1) m #[Value.ref b] below meth c H1 locs1 (cells + 20) (slots + 150) Q (F0 m 1709 ls1 [])) :
    W p l e rm_L_law (s.setDrawn d0) m #[Value.ref b] below meth c H locs cells slots Q (F0 m 402 ls []) := by
  obtain ⟨hx, hb, hml, hown, hts0, hXs, hbl, hbA, hL, hK, hb0⟩ := hC
  have hts : ∀ d0 : Drawn, ∀ w ∈ wsL_law, w.before #[Value.ref b] (s.setDrawn d0) = true := fun d0 => dr_words hts0 d0
  obtain ⟨ad, nb, pl, wi, hi, fa, un, bu, lo, la, cx, cy, bx, nf, co, dr, un2, fc, lo2, la2, px, py, pz, hq, hT, hY, hR⟩ := hJ
  subst hq
  obtain ⟨⟨zF2, zF8⟩, ⟨zR2, zR8⟩⟩ := id hT.1.1
  have zB4 := hT.1.2.1
  refine lv_aload_n hx hb dL_law_402 rfl (lv_at hl 1 rfl) ?_
  refine lv_aload_n hx hb dL_law_403 rfl (lv_at hl 0 rfl) ?_
  refine lv_iload hx hb dL_law_404 (lv_at hl 5 rfl) ?_
  refine lv_iconst (v := nI 1) hx hb dL_law_406 (by decide) ?_
  refine xiaddN hx hb dL_law_407 ?_
  refine xsld hx hb hXs hbl hbA hS hL (j := i + 1) (by omega) dL_law_408 ?_
  refine lv_aload_n hx hb dL_law_409 rfl (lv_at hl 3 rfl) ?_
  have cw_1 := vx_cwSW (R := rm_L_law) (rm := rm_L_unroll) 3 (hts d0) gL_law_L_unroll rfl rfl rfl (by decide +kernel) ⟨Nat.le_of_ble_eq_true rfl, Nat.le_of_ble_eq_true rfl⟩
  refine xcallW hd0 (xintoSW (As := [.ref (ad 0), .int ((xs (i + 1))), .ref o1]) (rest := []) ⟨hx, hb, hml, hown, hts _⟩ cw_1 rfl rfl hl.1 rfl (lv_room (Nat.le_of_ble_eq_true rfl)) dL_law_410) (c_L_unroll (l := l) (G := G) (ty := ty) (b0 := b0) hfl hT.2.1 hT.1 (x := (xs (i + 1))) hO.2.2.1 hT.2.2.2.1 (fun k z => Ne.symm (hT.2.2.1 k z).2.1)) (xoweW cw_1) hK hb0 hS hc hs (fun E_1 ce_1 q9_1 H_1 locs_1 d0 hd0 hp_1 hS _ _ _ => hp_1.elim) (fun v_1 H_1 locs_1 d0 hd0 hp_1 hS => ?_)
  obtain ⟨t9, rfl, hY_1, hj⟩ := j_unroll hO hT hY hR hp_1
  show W p l e _ (s.setDrawn _) m _ below meth c _ _ _ _ _ (F0 m 413 ls [.int (t9)])
  refine lv_istore (lv' := [(6, .int (t9)), (0, .ref b), (1, .ref (ad 0)), (2, .ref m0), (3, .ref o1), (4, .ref o2), (5, .int (nI i))]) hx hb dL_law_413 hl (by decide) rfl (fun ls hl => ?_)
  refine lv_aload_n hx hb dL_law_415 rfl (lv_at hl 3 rfl) ?_
  refine lv_aload_n hx hb dL_law_416 rfl (lv_at hl 1 rfl) ?_
  refine lv_iload hx hb dL_law_417 (lv_at hl 6 rfl) ?_
  refine lv_iconst (v := nI 1) hx hb dL_law_419 (by decide) ?_
  refine xiaddN hx hb dL_law_420 ?_
  refine xsld hx hb hXs hbl hbA hS hL (j := i + 1) (by omega) dL_law_421 ?_
  have cw_2 := cwV (R := rm_L_law) (rm := rm_X7_unroll) 1 (hts d0) gL_law_X7_unroll rfl rfl rfl (by decide +kernel) ⟨Nat.le_of_ble_eq_true rfl, Nat.le_of_ble_eq_true rfl⟩
  refine xcall hd0 (xintoV (b := m0) (As := [.int ((xs (i + 1)))]) (rest := []) ⟨hx, hb, hml, hown, hts _⟩ cw_2 (va_recv hK.1 (x1 hY_1.1) (ci := 8) (q0 := 0) rfl rfl) rfl rfl hl.1 rfl (lv_room (Nat.le_of_ble_eq_true rfl)) dL_law_422) (c_X7_unroll (l := l) (G := G) (ty := ty) (b0 := b0) (x := (xs (i + 1))) hY_1 hT.1.1 hO.1 hO.2.1) (xoweB cw_2.1) hK hb0 hS hc hs (fun E_2 ce_2 q9_2 H_2 locs_2 d0 hd0 hp_2 hS _ _ _ => hp_2.elim) (fun v_2 H_2 locs_2 d0 hd0 hp_2 hS => ?_)
  obtain ⟨z9, g1, g2, rfl, hJ2, ha⟩ := hj _ _ hp_2
  obtain ⟨ad2, nb2, pl2, wi2, hi2, fa2, un3, bu2, lo3, la3, cx2, cy2, bx2, nf2, co2, dr2, un4, fc2, lo4, la4, px2, py2, pz2, hq2, hT2, hY2, -⟩ := id hJ2
  show W p l e _ (s.setDrawn _) m _ below meth c _ _ _ _ _ (F0 m 425 ls [.int (z9)])
  refine lv_istore (lv' := [(7, .int (z9)), (6, .int (t9)), (0, .ref b), (1, .ref (ad 0)), (2, .ref m0), (3, .ref o1), (4, .ref o2), (5, .int (nI i))]) hx hb dL_law_425 hl (by decide) rfl (fun ls hl => ?_)
  refine lv_aload_n hx hb dL_law_427 rfl (lv_at hl 4 rfl) ?_
  have cw_3 := cwV (R := rm_L_law) (rm := rm_X7_thrown) 0 (hts d0) gL_law_X7_thrown rfl rfl rfl (by decide +kernel) ⟨Nat.le_of_ble_eq_true rfl, Nat.le_of_ble_eq_true rfl⟩
  refine xcall hd0 (xintoV (b := m0) (As := []) (rest := []) ⟨hx, hb, hml, hown, hts _⟩ cw_3 (va_recv hK.1 (x1 hY2.1) (ci := 8) (q0 := 0) rfl rfl) rfl rfl hl.1 rfl (lv_room (Nat.le_of_ble_eq_true rfl)) dL_law_428) (c_X7_thrown (l := l) (G := G) (ty := ty) (b0 := b0) hY2 hT2.1.1) (xoweB cw_3.1) hK hb0 hS hc hs (fun E_3 ce_3 q9_3 H_3 locs_3 d0 hd0 hp_3 hS _ _ _ => hp_3.elim) (fun v_3 H_3 locs_3 d0 hd0 hp_3 hS => ?_)
  obtain ⟨rfl, rfl⟩ := hp_3
  show W p l e _ (s.setDrawn _) m _ below meth c _ _ _ _ _ (F0 m 431 ls [.int (t9)])
  refine lv_iload hx hb dL_law_431 (lv_at hl 1 rfl) ?_
  refine lv_icmp_eq (tgt := 438) hx hb dL_law_433 (by decide) (fun _ => ?_) (fun h9 => absurd (rfl) h9)
  refine lv_iload hx hb dL_law_438 (lv_at hl 1 rfl) ?_
  refine lv_if_ne (tgt := 455) hx hb dL_law_440 (by decide) (fun c_5 => ?_) (fun c_5 => ?_)
  · refine lv_goto (tgt := 1709) hx hb dL_law_455 (by decide) ?_
    exact kk _ _ _ _ _ _ _ hJ2 hS hd0 (lv_sub hl [2, 3, 4, 5, 6, 7] rfl)
  · have ha := ha c_5
    refine lv_aload_n hx hb dL_law_443 rfl (lv_at hl 5 rfl) ?_
    refine lv_iconst (v := nI 0) hx hb dL_law_444 (by decide) ?_
    refine xlald (j := 0) hx hb hK.1 3 hT2.2.2.2.1 rfl (xix_of (by omega) (by omega)) dL_law_445 ?_
    refine lv_iload hx hb dL_law_446 (lv_at hl 0 rfl) ?_
    refine lv_i2l (v := (z9).toInt64) hx hb dL_law_448 rfl ?_
    refine W.lcmp hx hb dL_law_449 ?_
    refine lv_if_eq (tgt := 455) hx hb dL_law_450 (by decide) (fun _ => ?_) (fun h9 => absurd (by rw [ha]; exact lg_self _) h9)
    refine lv_goto (tgt := 1709) hx hb dL_law_455 (by decide) ?_
    exact kk _ _ _ _ _ _ _ hJ2 hS hd0 (lv_sub hl [2, 3, 4, 5, 6, 7] rfl)
set_option maxHeartbeats 4000000 in
set_option maxRecDepth 100000 in
theorem case_flat (hC : lwC p s m c b L xs G ty b0) (hfl : l.stackTraces = false) (hO : xAo b0 m0 A o1 o2) (hi6 : i + 6 ≤ L) (hJ : xJ G ty b0 F R m0 A o1 o2 q0 th f1 f2 H) (hS : va_S (xA b0) s.heap H locs) (hd0 : s.drawn.sameBut d0 lw_cs) (hl : lv_has ls 9 [(0, .ref b), (1, .ref q0), (2, .ref m0), (3, .ref o1), (4, .ref o2), (5, .int (nI i))]) (hc : cells + 20 ≤ 675798) (hs : slots + 150 ≤ 7068677)
    (kk : ∀ (th : Int32) (f1 : Nat → Int64) (f2 : Nat → UInt64) (H1 : Heap) (locs1 : List Loc) (d1 : Drawn) (ls1 : Array Slot), xJ G ty b0 F R m0 A o1 o2 q0 th f1 f2 H1 → va_S (xA b0) s.heap H1 locs1 → s.drawn.sameBut d1 lw_cs → lv_has ls1 9 [(0, .ref b), (1, .ref q0), (2, .ref m0), (3, .ref o1), (4, .ref o2), (5, .int (nI i))] → W p l e rm_L_law (s.setDrawn d1) m #[Value.ref b] below meth c H1 locs1 (cells + 20) (slots + 150) Q (F0 m 1709 ls1 [])) :
    W p l e rm_L_law (s.setDrawn d0) m #[Value.ref b] below meth c H locs cells slots Q (F0 m 458 ls []) := by
  obtain ⟨hx, hb, hml, hown, hts0, hXs, hbl, hbA, hL, hK, hb0⟩ := hC
  have hts : ∀ d0 : Drawn, ∀ w ∈ wsL_law, w.before #[Value.ref b] (s.setDrawn d0) = true := fun d0 => dr_words hts0 d0
  obtain ⟨ad, nb, pl, wi, hi, fa, un, bu, lo, la, cx, cy, bx, nf, co, dr, un2, fc, lo2, la2, px, py, pz, hq, hT, hY, hR⟩ := hJ
  subst hq
  obtain ⟨⟨zF2, zF8⟩, ⟨zR2, zR8⟩⟩ := id hT.1.1
  have zB4 := hT.1.2.1
  refine lv_aload_n hx hb dL_law_458 rfl (lv_at hl 1 rfl) ?_
  refine lv_aload_n hx hb dL_law_459 rfl (lv_at hl 0 rfl) ?_
  refine lv_iload hx hb dL_law_460 (lv_at hl 5 rfl) ?_
  refine lv_iconst (v := nI 1) hx hb dL_law_462 (by decide) ?_
  refine xiaddN hx hb dL_law_463 ?_
  refine xsld hx hb hXs hbl hbA hS hL (j := i + 1) (by omega) dL_law_464 ?_
  refine lv_aload_n hx hb dL_law_465 rfl (lv_at hl 0 rfl) ?_
  refine lv_iload hx hb dL_law_466 (lv_at hl 5 rfl) ?_
  refine lv_iconst (v := nI 2) hx hb dL_law_468 (by decide) ?_
  refine xiaddN hx hb dL_law_469 ?_
  refine xsld hx hb hXs hbl hbA hS hL (j := i + 2) (by omega) dL_law_470 ?_
  refine lv_aload_n hx hb dL_law_471 rfl (lv_at hl 0 rfl) ?_
  refine lv_iload hx hb dL_law_472 (lv_at hl 5 rfl) ?_
  refine lv_iconst (v := nI 3) hx hb dL_law_474 (by decide) ?_
  refine xiaddN hx hb dL_law_475 ?_
  refine xsld hx hb hXs hbl hbA hS hL (j := i + 3) (by omega) dL_law_476 ?_
  refine lv_aload hx hb dL_law_477 (lv_at hl 4 rfl) ?_
  have cw_1 := vx_cwSW (R := rm_L_law) (rm := rm_L_flat) 5 (hts d0) gL_law_L_flat rfl rfl rfl (by decide +kernel) ⟨Nat.le_of_ble_eq_true rfl, Nat.le_of_ble_eq_true rfl⟩
  refine xcallW hd0 (xintoSW (As := [.ref (ad 0), .int ((xs (i + 1))), .int ((xs (i + 2))), .int ((xs (i + 3))), .ref o2]) (rest := []) ⟨hx, hb, hml, hown, hts _⟩ cw_1 rfl rfl hl.1 rfl (lv_room (Nat.le_of_ble_eq_true rfl)) dL_law_479) (c_L_flat (l := l) (G := G) (ty := ty) (b0 := b0) hfl hT.2.1 hT.1 (x := (xs (i + 1))) (k := (xs (i + 2))) (q := (xs (i + 3))) hO.2.2.2.1 hT.2.2.2.2 (fun k z => Ne.symm (hT.2.2.1 k z).2.2)) (xoweW cw_1) hK hb0 hS hc hs (fun E_1 ce_1 q9_1 H_1 locs_1 d0 hd0 hp_1 hS _ _ _ => hp_1.elim) (fun v_1 H_1 locs_1 d0 hd0 hp_1 hS => ?_)
  obtain ⟨t9, rfl, hY_1, hj⟩ := j_flat hO hT hY hR hp_1
  show W p l e _ (s.setDrawn _) m _ below meth c _ _ _ _ _ (F0 m 482 ls [.int (t9)])
  refine lv_istore (lv' := [(6, .int (t9)), (0, .ref b), (1, .ref (ad 0)), (2, .ref m0), (3, .ref o1), (4, .ref o2), (5, .int (nI i))]) hx hb dL_law_482 hl (by decide) rfl (fun ls hl => ?_)
  refine lv_aload_n hx hb dL_law_484 rfl (lv_at hl 3 rfl) ?_
  refine lv_aload_n hx hb dL_law_485 rfl (lv_at hl 1 rfl) ?_
  refine lv_iload hx hb dL_law_486 (lv_at hl 6 rfl) ?_
  refine lv_iconst (v := nI 1) hx hb dL_law_488 (by decide) ?_
  refine xiaddN hx hb dL_law_489 ?_
  refine xsld hx hb hXs hbl hbA hS hL (j := i + 1) (by omega) dL_law_490 ?_
  refine lv_aload_n hx hb dL_law_491 rfl (lv_at hl 1 rfl) ?_
  refine lv_iload hx hb dL_law_492 (lv_at hl 6 rfl) ?_
  refine lv_iconst (v := nI 2) hx hb dL_law_494 (by decide) ?_
  refine xiaddN hx hb dL_law_495 ?_
  refine xsld hx hb hXs hbl hbA hS hL (j := i + 2) (by omega) dL_law_496 ?_
  refine lv_aload_n hx hb dL_law_497 rfl (lv_at hl 1 rfl) ?_
  refine lv_iload hx hb dL_law_498 (lv_at hl 6 rfl) ?_
  refine lv_iconst (v := nI 3) hx hb dL_law_500 (by decide) ?_
  refine xiaddN hx hb dL_law_501 ?_
  refine xsld hx hb hXs hbl hbA hS hL (j := i + 3) (by omega) dL_law_502 ?_
  have cw_2 := cwV (R := rm_L_law) (rm := rm_X7_flat) 3 (hts d0) gL_law_X7_flat rfl rfl rfl (by decide +kernel) ⟨Nat.le_of_ble_eq_true rfl, Nat.le_of_ble_eq_true rfl⟩
  refine xcall hd0 (xintoV (b := m0) (As := [.int ((xs (i + 1))), .int ((xs (i + 2))), .int ((xs (i + 3)))]) (rest := []) ⟨hx, hb, hml, hown, hts _⟩ cw_2 (va_recv hK.1 (x1 hY_1.1) (ci := 8) (q0 := 0) rfl rfl) rfl rfl hl.1 rfl (lv_room (Nat.le_of_ble_eq_true rfl)) dL_law_503) (c_X7_flat (l := l) (G := G) (ty := ty) (b0 := b0) (x := (xs (i + 1))) (k := (xs (i + 2))) (q := (xs (i + 3))) hY_1 hT.1.1 hO.1 hO.2.1) (xoweB cw_2.1) hK hb0 hS hc hs (fun E_2 ce_2 q9_2 H_2 locs_2 d0 hd0 hp_2 hS _ _ _ => hp_2.elim) (fun v_2 H_2 locs_2 d0 hd0 hp_2 hS => ?_)
  obtain ⟨z9, g1, g2, rfl, hJ2, ha⟩ := hj _ _ hp_2
  obtain ⟨ad2, nb2, pl2, wi2, hi2, fa2, un3, bu2, lo3, la3, cx2, cy2, bx2, nf2, co2, dr2, un4, fc2, lo4, la4, px2, py2, pz2, hq2, hT2, hY2, -⟩ := id hJ2
  show W p l e _ (s.setDrawn _) m _ below meth c _ _ _ _ _ (F0 m 506 ls [.double z9])
  refine lv_dstore (lv' := [(7, .double z9), (6, .int (t9)), (0, .ref b), (1, .ref (ad 0)), (2, .ref m0), (3, .ref o1), (4, .ref o2), (5, .int (nI i))]) hx hb dL_law_506 hl (by decide) rfl (fun ls hl => ?_)
  refine lv_aload_n hx hb dL_law_508 rfl (lv_at hl 4 rfl) ?_
  have cw_3 := cwV (R := rm_L_law) (rm := rm_X7_thrown) 0 (hts d0) gL_law_X7_thrown rfl rfl rfl (by decide +kernel) ⟨Nat.le_of_ble_eq_true rfl, Nat.le_of_ble_eq_true rfl⟩
  refine xcall hd0 (xintoV (b := m0) (As := []) (rest := []) ⟨hx, hb, hml, hown, hts _⟩ cw_3 (va_recv hK.1 (x1 hY2.1) (ci := 8) (q0 := 0) rfl rfl) rfl rfl hl.1 rfl (lv_room (Nat.le_of_ble_eq_true rfl)) dL_law_509) (c_X7_thrown (l := l) (G := G) (ty := ty) (b0 := b0) hY2 hT2.1.1) (xoweB cw_3.1) hK hb0 hS hc hs (fun E_3 ce_3 q9_3 H_3 locs_3 d0 hd0 hp_3 hS _ _ _ => hp_3.elim) (fun v_3 H_3 locs_3 d0 hd0 hp_3 hS => ?_)
  obtain ⟨rfl, rfl⟩ := hp_3
  show W p l e _ (s.setDrawn _) m _ below meth c _ _ _ _ _ (F0 m 512 ls [.int (t9)])
  refine lv_iload hx hb dL_law_512 (lv_at hl 1 rfl) ?_
  refine lv_icmp_eq (tgt := 519) hx hb dL_law_514 (by decide) (fun _ => ?_) (fun h9 => absurd (rfl) h9)
  refine lv_iload hx hb dL_law_519 (lv_at hl 1 rfl) ?_
  refine lv_if_ne (tgt := 556) hx hb dL_law_521 (by decide) (fun c_5 => ?_) (fun c_5 => ?_)
  · refine lv_goto (tgt := 1709) hx hb dL_law_556 (by decide) ?_
    exact kk _ _ _ _ _ _ _ hJ2 hS hd0 (lv_sub hl [2, 3, 4, 5, 6, 7] rfl)
  · have ha := ha c_5
    refine lv_aload hx hb dL_law_524 (lv_at hl 6 rfl) ?_
    refine lv_iconst (v := nI 0) hx hb dL_law_526 (by decide) ?_
    refine xdald (j := 0) hx hb hK.1 0 hT2.2.2.2.2 rfl (xix_of (by omega) (by omega)) dL_law_527 ?_
    refine lv_dload hx hb dL_law_528 (lv_at hl 0 rfl) ?_
    refine xcmp_l_eq (tgt := 556) hx hb (vq_rf _) (vq_rf _) dL_law_530 dL_law_531 (by decide) (fun c_6 => ?_) (fun c_6 => ?_)
    · refine lv_goto (tgt := 1709) hx hb dL_law_556 (by decide) ?_
      exact kk _ _ _ _ _ _ _ hJ2 hS hd0 (lv_sub hl [2, 3, 4, 5, 6, 7] rfl)
    · refine lv_aload hx hb dL_law_534 (lv_at hl 6 rfl) ?_
      refine lv_iconst (v := nI 0) hx hb dL_law_536 (by decide) ?_
      refine xdald (j := 0) hx hb hK.1 0 hT2.2.2.2.2 rfl (xix_of (by omega) (by omega)) dL_law_537 ?_
      refine lv_aload hx hb dL_law_538 (lv_at hl 6 rfl) ?_
      refine lv_iconst (v := nI 0) hx hb dL_law_540 (by decide) ?_
      refine xdald (j := 0) hx hb hK.1 0 hT2.2.2.2.2 rfl (xix_of (by omega) (by omega)) dL_law_541 ?_
      refine xcmp_l_eq (tgt := 554) hx hb (vq_rf _) (vq_rf _) dL_law_542 dL_law_543 (by decide) (fun c_7 => ?_) (fun c_7 => ?_)
      · exact (pSame_no1 ha c_6 c_7).elim
      · refine lv_dload hx hb dL_law_546 (lv_at hl 0 rfl) ?_
        refine lv_dload hx hb dL_law_548 (lv_at hl 0 rfl) ?_
        refine xcmp_l_ne (tgt := 556) hx hb (vq_rf _) (vq_rf _) dL_law_550 dL_law_551 (by decide) (fun c_8 => ?_) (fun c_8 => ?_)
        · refine lv_goto (tgt := 1709) hx hb dL_law_556 (by decide) ?_
          exact kk _ _ _ _ _ _ _ hJ2 hS hd0 (lv_sub hl [2, 3, 4, 5, 6, 7] rfl)
        · exact (pSame_no2 ha c_6 c_8).elim
set_option maxHeartbeats 4000000 in
set_option maxRecDepth 100000 in
theorem case_stretch (hC : lwC p s m c b L xs G ty b0) (hfl : l.stackTraces = false) (hO : xAo b0 m0 A o1 o2) (hi6 : i + 6 ≤ L) (hJ : xJ G ty b0 F R m0 A o1 o2 q0 th f1 f2 H) (hS : va_S (xA b0) s.heap H locs) (hd0 : s.drawn.sameBut d0 lw_cs) (hl : lv_has ls 9 [(0, .ref b), (1, .ref q0), (2, .ref m0), (3, .ref o1), (4, .ref o2), (5, .int (nI i))]) (hc : cells + 20 ≤ 675798) (hs : slots + 150 ≤ 7068677)
    (kk : ∀ (th : Int32) (f1 : Nat → Int64) (f2 : Nat → UInt64) (H1 : Heap) (locs1 : List Loc) (d1 : Drawn) (ls1 : Array Slot), xJ G ty b0 F R m0 A o1 o2 q0 th f1 f2 H1 → va_S (xA b0) s.heap H1 locs1 → s.drawn.sameBut d1 lw_cs → lv_has ls1 9 [(0, .ref b), (1, .ref q0), (2, .ref m0), (3, .ref o1), (4, .ref o2), (5, .int (nI i))] → W p l e rm_L_law (s.setDrawn d1) m #[Value.ref b] below meth c H1 locs1 (cells + 20) (slots + 150) Q (F0 m 1709 ls1 [])) :
    W p l e rm_L_law (s.setDrawn d0) m #[Value.ref b] below meth c H locs cells slots Q (F0 m 559 ls []) := by
  obtain ⟨hx, hb, hml, hown, hts0, hXs, hbl, hbA, hL, hK, hb0⟩ := hC
  have hts : ∀ d0 : Drawn, ∀ w ∈ wsL_law, w.before #[Value.ref b] (s.setDrawn d0) = true := fun d0 => dr_words hts0 d0
  obtain ⟨ad, nb, pl, wi, hi, fa, un, bu, lo, la, cx, cy, bx, nf, co, dr, un2, fc, lo2, la2, px, py, pz, hq, hT, hY, hR⟩ := hJ
  subst hq
  obtain ⟨⟨zF2, zF8⟩, ⟨zR2, zR8⟩⟩ := id hT.1.1
  have zB4 := hT.1.2.1
  refine lv_aload_n hx hb dL_law_559 rfl (lv_at hl 1 rfl) ?_
  refine lv_aload_n hx hb dL_law_560 rfl (lv_at hl 0 rfl) ?_
  refine lv_iload hx hb dL_law_561 (lv_at hl 5 rfl) ?_
  refine lv_iconst (v := nI 1) hx hb dL_law_563 (by decide) ?_
  refine xiaddN hx hb dL_law_564 ?_
  refine xsld hx hb hXs hbl hbA hS hL (j := i + 1) (by omega) dL_law_565 ?_
  refine lv_aload_n hx hb dL_law_566 rfl (lv_at hl 0 rfl) ?_
  refine lv_iload hx hb dL_law_567 (lv_at hl 5 rfl) ?_
  refine lv_iconst (v := nI 2) hx hb dL_law_569 (by decide) ?_
  refine xiaddN hx hb dL_law_570 ?_
  refine xsld hx hb hXs hbl hbA hS hL (j := i + 2) (by omega) dL_law_571 ?_
  refine lv_aload hx hb dL_law_572 (lv_at hl 4 rfl) ?_
  have cw_1 := vx_cwSW (R := rm_L_law) (rm := rm_L_stretch) 4 (hts d0) gL_law_L_stretch rfl rfl rfl (by decide +kernel) ⟨Nat.le_of_ble_eq_true rfl, Nat.le_of_ble_eq_true rfl⟩
  refine xcallW hd0 (xintoSW (As := [.ref (ad 0), .int ((xs (i + 1))), .int ((xs (i + 2))), .ref o2]) (rest := []) ⟨hx, hb, hml, hown, hts _⟩ cw_1 rfl rfl hl.1 rfl (lv_room (Nat.le_of_ble_eq_true rfl)) dL_law_574) (c_L_stretch (l := l) (G := G) (ty := ty) (b0 := b0) hfl hT.2.1 hT.1 (x := (xs (i + 1))) (f := (xs (i + 2))) hO.2.2.2.1 hT.2.2.2.2 (fun k z => Ne.symm (hT.2.2.1 k z).2.2)) (xoweW cw_1) hK hb0 hS hc hs (fun E_1 ce_1 q9_1 H_1 locs_1 d0 hd0 hp_1 hS _ _ _ => hp_1.elim) (fun v_1 H_1 locs_1 d0 hd0 hp_1 hS => ?_)
  obtain ⟨t9, rfl, hY_1, hj⟩ := j_stretch hO hT hY hR hp_1
  show W p l e _ (s.setDrawn _) m _ below meth c _ _ _ _ _ (F0 m 577 ls [.int (t9)])
  refine lv_istore (lv' := [(6, .int (t9)), (0, .ref b), (1, .ref (ad 0)), (2, .ref m0), (3, .ref o1), (4, .ref o2), (5, .int (nI i))]) hx hb dL_law_577 hl (by decide) rfl (fun ls hl => ?_)
  refine lv_aload_n hx hb dL_law_579 rfl (lv_at hl 3 rfl) ?_
  refine lv_aload_n hx hb dL_law_580 rfl (lv_at hl 1 rfl) ?_
  refine lv_iload hx hb dL_law_581 (lv_at hl 6 rfl) ?_
  refine lv_iconst (v := nI 1) hx hb dL_law_583 (by decide) ?_
  refine xiaddN hx hb dL_law_584 ?_
  refine xsld hx hb hXs hbl hbA hS hL (j := i + 1) (by omega) dL_law_585 ?_
  refine lv_aload_n hx hb dL_law_586 rfl (lv_at hl 1 rfl) ?_
  refine lv_iload hx hb dL_law_587 (lv_at hl 6 rfl) ?_
  refine lv_iconst (v := nI 2) hx hb dL_law_589 (by decide) ?_
  refine xiaddN hx hb dL_law_590 ?_
  refine xsld hx hb hXs hbl hbA hS hL (j := i + 2) (by omega) dL_law_591 ?_
  have cw_2 := cwV (R := rm_L_law) (rm := rm_X7_stretch) 2 (hts d0) gL_law_X7_stretch rfl rfl rfl (by decide +kernel) ⟨Nat.le_of_ble_eq_true rfl, Nat.le_of_ble_eq_true rfl⟩
  refine xcall hd0 (xintoV (b := m0) (As := [.int ((xs (i + 1))), .int ((xs (i + 2)))]) (rest := []) ⟨hx, hb, hml, hown, hts _⟩ cw_2 (va_recv hK.1 (x1 hY_1.1) (ci := 8) (q0 := 0) rfl rfl) rfl rfl hl.1 rfl (lv_room (Nat.le_of_ble_eq_true rfl)) dL_law_592) (c_X7_stretch (l := l) (G := G) (ty := ty) (b0 := b0) (x := (xs (i + 1))) (f := (xs (i + 2))) hY_1 hT.1.1 hO.1 hO.2.1) (xoweB cw_2.1) hK hb0 hS hc hs (fun E_2 ce_2 q9_2 H_2 locs_2 d0 hd0 hp_2 hS _ _ _ => hp_2.elim) (fun v_2 H_2 locs_2 d0 hd0 hp_2 hS => ?_)
  obtain ⟨z9, g1, g2, rfl, hJ2, ha⟩ := hj _ _ hp_2
  obtain ⟨ad2, nb2, pl2, wi2, hi2, fa2, un3, bu2, lo3, la3, cx2, cy2, bx2, nf2, co2, dr2, un4, fc2, lo4, la4, px2, py2, pz2, hq2, hT2, hY2, -⟩ := id hJ2
  show W p l e _ (s.setDrawn _) m _ below meth c _ _ _ _ _ (F0 m 595 ls [.double z9])
  refine lv_dstore (lv' := [(7, .double z9), (6, .int (t9)), (0, .ref b), (1, .ref (ad 0)), (2, .ref m0), (3, .ref o1), (4, .ref o2), (5, .int (nI i))]) hx hb dL_law_595 hl (by decide) rfl (fun ls hl => ?_)
  refine lv_aload_n hx hb dL_law_597 rfl (lv_at hl 4 rfl) ?_
  have cw_3 := cwV (R := rm_L_law) (rm := rm_X7_thrown) 0 (hts d0) gL_law_X7_thrown rfl rfl rfl (by decide +kernel) ⟨Nat.le_of_ble_eq_true rfl, Nat.le_of_ble_eq_true rfl⟩
  refine xcall hd0 (xintoV (b := m0) (As := []) (rest := []) ⟨hx, hb, hml, hown, hts _⟩ cw_3 (va_recv hK.1 (x1 hY2.1) (ci := 8) (q0 := 0) rfl rfl) rfl rfl hl.1 rfl (lv_room (Nat.le_of_ble_eq_true rfl)) dL_law_598) (c_X7_thrown (l := l) (G := G) (ty := ty) (b0 := b0) hY2 hT2.1.1) (xoweB cw_3.1) hK hb0 hS hc hs (fun E_3 ce_3 q9_3 H_3 locs_3 d0 hd0 hp_3 hS _ _ _ => hp_3.elim) (fun v_3 H_3 locs_3 d0 hd0 hp_3 hS => ?_)
  obtain ⟨rfl, rfl⟩ := hp_3
  show W p l e _ (s.setDrawn _) m _ below meth c _ _ _ _ _ (F0 m 601 ls [.int (t9)])
  refine lv_iload hx hb dL_law_601 (lv_at hl 1 rfl) ?_
  refine lv_icmp_eq (tgt := 608) hx hb dL_law_603 (by decide) (fun _ => ?_) (fun h9 => absurd (rfl) h9)
  refine lv_iload hx hb dL_law_608 (lv_at hl 1 rfl) ?_
  refine lv_if_ne (tgt := 645) hx hb dL_law_610 (by decide) (fun c_5 => ?_) (fun c_5 => ?_)
  · refine lv_goto (tgt := 1709) hx hb dL_law_645 (by decide) ?_
    exact kk _ _ _ _ _ _ _ hJ2 hS hd0 (lv_sub hl [2, 3, 4, 5, 6, 7] rfl)
  · have ha := ha c_5
    refine lv_aload hx hb dL_law_613 (lv_at hl 6 rfl) ?_
    refine lv_iconst (v := nI 0) hx hb dL_law_615 (by decide) ?_
    refine xdald (j := 0) hx hb hK.1 0 hT2.2.2.2.2 rfl (xix_of (by omega) (by omega)) dL_law_616 ?_
    refine lv_dload hx hb dL_law_617 (lv_at hl 0 rfl) ?_
    refine xcmp_l_eq (tgt := 645) hx hb (vq_rf _) (vq_rf _) dL_law_619 dL_law_620 (by decide) (fun c_6 => ?_) (fun c_6 => ?_)
    · refine lv_goto (tgt := 1709) hx hb dL_law_645 (by decide) ?_
      exact kk _ _ _ _ _ _ _ hJ2 hS hd0 (lv_sub hl [2, 3, 4, 5, 6, 7] rfl)
    · refine lv_aload hx hb dL_law_623 (lv_at hl 6 rfl) ?_
      refine lv_iconst (v := nI 0) hx hb dL_law_625 (by decide) ?_
      refine xdald (j := 0) hx hb hK.1 0 hT2.2.2.2.2 rfl (xix_of (by omega) (by omega)) dL_law_626 ?_
      refine lv_aload hx hb dL_law_627 (lv_at hl 6 rfl) ?_
      refine lv_iconst (v := nI 0) hx hb dL_law_629 (by decide) ?_
      refine xdald (j := 0) hx hb hK.1 0 hT2.2.2.2.2 rfl (xix_of (by omega) (by omega)) dL_law_630 ?_
      refine xcmp_l_eq (tgt := 643) hx hb (vq_rf _) (vq_rf _) dL_law_631 dL_law_632 (by decide) (fun c_7 => ?_) (fun c_7 => ?_)
      · exact (pSame_no1 ha c_6 c_7).elim
      · refine lv_dload hx hb dL_law_635 (lv_at hl 0 rfl) ?_
        refine lv_dload hx hb dL_law_637 (lv_at hl 0 rfl) ?_
        refine xcmp_l_ne (tgt := 645) hx hb (vq_rf _) (vq_rf _) dL_law_639 dL_law_640 (by decide) (fun c_8 => ?_) (fun c_8 => ?_)
        · refine lv_goto (tgt := 1709) hx hb dL_law_645 (by decide) ?_
          exact kk _ _ _ _ _ _ _ hJ2 hS hd0 (lv_sub hl [2, 3, 4, 5, 6, 7] rfl)
        · exact (pSame_no2 ha c_6 c_8).elim
set_option maxHeartbeats 4000000 in
set_option maxRecDepth 100000 in
theorem case_worst (hC : lwC p s m c b L xs G ty b0) (hfl : l.stackTraces = false) (hO : xAo b0 m0 A o1 o2) (hi6 : i + 6 ≤ L) (hJ : xJ G ty b0 F R m0 A o1 o2 q0 th f1 f2 H) (hS : va_S (xA b0) s.heap H locs) (hd0 : s.drawn.sameBut d0 lw_cs) (hl : lv_has ls 9 [(0, .ref b), (1, .ref q0), (2, .ref m0), (3, .ref o1), (4, .ref o2), (5, .int (nI i))]) (hc : cells + 20 ≤ 675798) (hs : slots + 150 ≤ 7068677)
    (kk : ∀ (th : Int32) (f1 : Nat → Int64) (f2 : Nat → UInt64) (H1 : Heap) (locs1 : List Loc) (d1 : Drawn) (ls1 : Array Slot), xJ G ty b0 F R m0 A o1 o2 q0 th f1 f2 H1 → va_S (xA b0) s.heap H1 locs1 → s.drawn.sameBut d1 lw_cs → lv_has ls1 9 [(0, .ref b), (1, .ref q0), (2, .ref m0), (3, .ref o1), (4, .ref o2), (5, .int (nI i))] → W p l e rm_L_law (s.setDrawn d1) m #[Value.ref b] below meth c H1 locs1 (cells + 20) (slots + 150) Q (F0 m 1709 ls1 [])) :
    W p l e rm_L_law (s.setDrawn d0) m #[Value.ref b] below meth c H locs cells slots Q (F0 m 648 ls []) := by
  obtain ⟨hx, hb, hml, hown, hts0, hXs, hbl, hbA, hL, hK, hb0⟩ := hC
  have hts : ∀ d0 : Drawn, ∀ w ∈ wsL_law, w.before #[Value.ref b] (s.setDrawn d0) = true := fun d0 => dr_words hts0 d0
  obtain ⟨ad, nb, pl, wi, hi, fa, un, bu, lo, la, cx, cy, bx, nf, co, dr, un2, fc, lo2, la2, px, py, pz, hq, hT, hY, hR⟩ := hJ
  subst hq
  obtain ⟨⟨zF2, zF8⟩, ⟨zR2, zR8⟩⟩ := id hT.1.1
  have zB4 := hT.1.2.1
  refine lv_aload_n hx hb dL_law_648 rfl (lv_at hl 1 rfl) ?_
  refine lv_aload_n hx hb dL_law_649 rfl (lv_at hl 0 rfl) ?_
  refine lv_iload hx hb dL_law_650 (lv_at hl 5 rfl) ?_
  refine lv_iconst (v := nI 1) hx hb dL_law_652 (by decide) ?_
  refine xiaddN hx hb dL_law_653 ?_
  refine xsld hx hb hXs hbl hbA hS hL (j := i + 1) (by omega) dL_law_654 ?_
  refine lv_aload_n hx hb dL_law_655 rfl (lv_at hl 3 rfl) ?_
  have cw_1 := vx_cwSW (R := rm_L_law) (rm := rm_L_worst) 3 (hts d0) gL_law_L_worst rfl rfl rfl (by decide +kernel) ⟨Nat.le_of_ble_eq_true rfl, Nat.le_of_ble_eq_true rfl⟩
  refine xcallW hd0 (xintoSW (As := [.ref (ad 0), .int ((xs (i + 1))), .ref o1]) (rest := []) ⟨hx, hb, hml, hown, hts _⟩ cw_1 rfl rfl hl.1 rfl (lv_room (Nat.le_of_ble_eq_true rfl)) dL_law_656) (c_L_worst (l := l) (G := G) (ty := ty) (b0 := b0) hfl hT.2.1 hT.1 (x := (xs (i + 1))) hO.2.2.1 hT.2.2.2.1 (fun k z => Ne.symm (hT.2.2.1 k z).2.1)) (xoweW cw_1) hK hb0 hS hc hs (fun E_1 ce_1 q9_1 H_1 locs_1 d0 hd0 hp_1 hS _ _ _ => hp_1.elim) (fun v_1 H_1 locs_1 d0 hd0 hp_1 hS => ?_)
  obtain ⟨t9, rfl, hY_1, hj⟩ := j_worst hO hT hY hR hp_1
  show W p l e _ (s.setDrawn _) m _ below meth c _ _ _ _ _ (F0 m 659 ls [.int (t9)])
  refine lv_istore (lv' := [(6, .int (t9)), (0, .ref b), (1, .ref (ad 0)), (2, .ref m0), (3, .ref o1), (4, .ref o2), (5, .int (nI i))]) hx hb dL_law_659 hl (by decide) rfl (fun ls hl => ?_)
  refine lv_aload_n hx hb dL_law_661 rfl (lv_at hl 3 rfl) ?_
  refine lv_aload_n hx hb dL_law_662 rfl (lv_at hl 1 rfl) ?_
  refine lv_iload hx hb dL_law_663 (lv_at hl 6 rfl) ?_
  refine lv_iconst (v := nI 1) hx hb dL_law_665 (by decide) ?_
  refine xiaddN hx hb dL_law_666 ?_
  refine xsld hx hb hXs hbl hbA hS hL (j := i + 1) (by omega) dL_law_667 ?_
  have cw_2 := cwV (R := rm_L_law) (rm := rm_X7_worst) 1 (hts d0) gL_law_X7_worst rfl rfl rfl (by decide +kernel) ⟨Nat.le_of_ble_eq_true rfl, Nat.le_of_ble_eq_true rfl⟩
  refine xcall hd0 (xintoV (b := m0) (As := [.int ((xs (i + 1)))]) (rest := []) ⟨hx, hb, hml, hown, hts _⟩ cw_2 (va_recv hK.1 (x1 hY_1.1) (ci := 8) (q0 := 0) rfl rfl) rfl rfl hl.1 rfl (lv_room (Nat.le_of_ble_eq_true rfl)) dL_law_668) (c_X7_worst (l := l) (G := G) (ty := ty) (b0 := b0) (x := (xs (i + 1))) hY_1 hT.1.1 hO.1 hO.2.1) (xoweB cw_2.1) hK hb0 hS hc hs (fun E_2 ce_2 q9_2 H_2 locs_2 d0 hd0 hp_2 hS _ _ _ => hp_2.elim) (fun v_2 H_2 locs_2 d0 hd0 hp_2 hS => ?_)
  obtain ⟨z9, g1, g2, rfl, hJ2, ha⟩ := hj _ _ hp_2
  obtain ⟨ad2, nb2, pl2, wi2, hi2, fa2, un3, bu2, lo3, la3, cx2, cy2, bx2, nf2, co2, dr2, un4, fc2, lo4, la4, px2, py2, pz2, hq2, hT2, hY2, -⟩ := id hJ2
  show W p l e _ (s.setDrawn _) m _ below meth c _ _ _ _ _ (F0 m 671 ls [.int (z9)])
  refine lv_istore (lv' := [(7, .int (z9)), (6, .int (t9)), (0, .ref b), (1, .ref (ad 0)), (2, .ref m0), (3, .ref o1), (4, .ref o2), (5, .int (nI i))]) hx hb dL_law_671 hl (by decide) rfl (fun ls hl => ?_)
  refine lv_aload_n hx hb dL_law_673 rfl (lv_at hl 4 rfl) ?_
  have cw_3 := cwV (R := rm_L_law) (rm := rm_X7_thrown) 0 (hts d0) gL_law_X7_thrown rfl rfl rfl (by decide +kernel) ⟨Nat.le_of_ble_eq_true rfl, Nat.le_of_ble_eq_true rfl⟩
  refine xcall hd0 (xintoV (b := m0) (As := []) (rest := []) ⟨hx, hb, hml, hown, hts _⟩ cw_3 (va_recv hK.1 (x1 hY2.1) (ci := 8) (q0 := 0) rfl rfl) rfl rfl hl.1 rfl (lv_room (Nat.le_of_ble_eq_true rfl)) dL_law_674) (c_X7_thrown (l := l) (G := G) (ty := ty) (b0 := b0) hY2 hT2.1.1) (xoweB cw_3.1) hK hb0 hS hc hs (fun E_3 ce_3 q9_3 H_3 locs_3 d0 hd0 hp_3 hS _ _ _ => hp_3.elim) (fun v_3 H_3 locs_3 d0 hd0 hp_3 hS => ?_)
  obtain ⟨rfl, rfl⟩ := hp_3
  show W p l e _ (s.setDrawn _) m _ below meth c _ _ _ _ _ (F0 m 677 ls [.int (t9)])
  refine lv_iload hx hb dL_law_677 (lv_at hl 1 rfl) ?_
  refine lv_icmp_eq (tgt := 684) hx hb dL_law_679 (by decide) (fun _ => ?_) (fun h9 => absurd (rfl) h9)
  refine lv_iload hx hb dL_law_684 (lv_at hl 1 rfl) ?_
  refine lv_if_ne (tgt := 701) hx hb dL_law_686 (by decide) (fun c_5 => ?_) (fun c_5 => ?_)
  · refine lv_goto (tgt := 1709) hx hb dL_law_701 (by decide) ?_
    exact kk _ _ _ _ _ _ _ hJ2 hS hd0 (lv_sub hl [2, 3, 4, 5, 6, 7] rfl)
  · have ha := ha c_5
    refine lv_aload_n hx hb dL_law_689 rfl (lv_at hl 5 rfl) ?_
    refine lv_iconst (v := nI 0) hx hb dL_law_690 (by decide) ?_
    refine xlald (j := 0) hx hb hK.1 3 hT2.2.2.2.1 rfl (xix_of (by omega) (by omega)) dL_law_691 ?_
    refine lv_iload hx hb dL_law_692 (lv_at hl 0 rfl) ?_
    refine lv_i2l (v := (z9).toInt64) hx hb dL_law_694 rfl ?_
    refine W.lcmp hx hb dL_law_695 ?_
    refine lv_if_eq (tgt := 701) hx hb dL_law_696 (by decide) (fun _ => ?_) (fun h9 => absurd (by rw [ha]; exact lg_self _) h9)
    refine lv_goto (tgt := 1709) hx hb dL_law_701 (by decide) ?_
    exact kk _ _ _ _ _ _ _ hJ2 hS hd0 (lv_sub hl [2, 3, 4, 5, 6, 7] rfl)
set_option maxHeartbeats 4000000 in
set_option maxRecDepth 100000 in
theorem case_bevel (hC : lwC p s m c b L xs G ty b0) (hfl : l.stackTraces = false) (hO : xAo b0 m0 A o1 o2) (hi6 : i + 6 ≤ L) (hJ : xJ G ty b0 F R m0 A o1 o2 q0 th f1 f2 H) (hS : va_S (xA b0) s.heap H locs) (hd0 : s.drawn.sameBut d0 lw_cs) (hl : lv_has ls 9 [(0, .ref b), (1, .ref q0), (2, .ref m0), (3, .ref o1), (4, .ref o2), (5, .int (nI i))]) (hc : cells + 20 ≤ 675798) (hs : slots + 150 ≤ 7068677)
    (kk : ∀ (th : Int32) (f1 : Nat → Int64) (f2 : Nat → UInt64) (H1 : Heap) (locs1 : List Loc) (d1 : Drawn) (ls1 : Array Slot), xJ G ty b0 F R m0 A o1 o2 q0 th f1 f2 H1 → va_S (xA b0) s.heap H1 locs1 → s.drawn.sameBut d1 lw_cs → lv_has ls1 9 [(0, .ref b), (1, .ref q0), (2, .ref m0), (3, .ref o1), (4, .ref o2), (5, .int (nI i))] → W p l e rm_L_law (s.setDrawn d1) m #[Value.ref b] below meth c H1 locs1 (cells + 20) (slots + 150) Q (F0 m 1709 ls1 [])) :
    W p l e rm_L_law (s.setDrawn d0) m #[Value.ref b] below meth c H locs cells slots Q (F0 m 704 ls []) := by
  obtain ⟨hx, hb, hml, hown, hts0, hXs, hbl, hbA, hL, hK, hb0⟩ := hC
  have hts : ∀ d0 : Drawn, ∀ w ∈ wsL_law, w.before #[Value.ref b] (s.setDrawn d0) = true := fun d0 => dr_words hts0 d0
  obtain ⟨ad, nb, pl, wi, hi, fa, un, bu, lo, la, cx, cy, bx, nf, co, dr, un2, fc, lo2, la2, px, py, pz, hq, hT, hY, hR⟩ := hJ
  subst hq
  obtain ⟨⟨zF2, zF8⟩, ⟨zR2, zR8⟩⟩ := id hT.1.1
  have zB4 := hT.1.2.1
  refine lv_aload_n hx hb dL_law_704 rfl (lv_at hl 1 rfl) ?_
  refine lv_aload_n hx hb dL_law_705 rfl (lv_at hl 0 rfl) ?_
  refine lv_iload hx hb dL_law_706 (lv_at hl 5 rfl) ?_
  refine lv_iconst (v := nI 1) hx hb dL_law_708 (by decide) ?_
  refine xiaddN hx hb dL_law_709 ?_
  refine xsld hx hb hXs hbl hbA hS hL (j := i + 1) (by omega) dL_law_710 ?_
  refine lv_aload_n hx hb dL_law_711 rfl (lv_at hl 0 rfl) ?_
  refine lv_iload hx hb dL_law_712 (lv_at hl 5 rfl) ?_
  refine lv_iconst (v := nI 2) hx hb dL_law_714 (by decide) ?_
  refine xiaddN hx hb dL_law_715 ?_
  refine xsld hx hb hXs hbl hbA hS hL (j := i + 2) (by omega) dL_law_716 ?_
  refine lv_aload hx hb dL_law_717 (lv_at hl 4 rfl) ?_
  have cw_1 := vx_cwSW (R := rm_L_law) (rm := rm_L_bevel) 4 (hts d0) gL_law_L_bevel rfl rfl rfl (by decide +kernel) ⟨Nat.le_of_ble_eq_true rfl, Nat.le_of_ble_eq_true rfl⟩
  refine xcallW hd0 (xintoSW (As := [.ref (ad 0), .int ((xs (i + 1))), .int ((xs (i + 2))), .ref o2]) (rest := []) ⟨hx, hb, hml, hown, hts _⟩ cw_1 rfl rfl hl.1 rfl (lv_room (Nat.le_of_ble_eq_true rfl)) dL_law_719) (c_L_bevel (l := l) (G := G) (ty := ty) (b0 := b0) hfl hT.2.1 hT.1 (x := (xs (i + 1))) (f := (xs (i + 2))) hO.2.2.2.1 hT.2.2.2.2 (fun k z => Ne.symm (hT.2.2.1 k z).2.2)) (xoweW cw_1) hK hb0 hS hc hs (fun E_1 ce_1 q9_1 H_1 locs_1 d0 hd0 hp_1 hS _ _ _ => hp_1.elim) (fun v_1 H_1 locs_1 d0 hd0 hp_1 hS => ?_)
  obtain ⟨t9, rfl, hY_1, hj⟩ := j_bevel hO hT hY hR hp_1
  show W p l e _ (s.setDrawn _) m _ below meth c _ _ _ _ _ (F0 m 722 ls [.int (t9)])
  refine lv_istore (lv' := [(6, .int (t9)), (0, .ref b), (1, .ref (ad 0)), (2, .ref m0), (3, .ref o1), (4, .ref o2), (5, .int (nI i))]) hx hb dL_law_722 hl (by decide) rfl (fun ls hl => ?_)
  refine lv_aload_n hx hb dL_law_724 rfl (lv_at hl 3 rfl) ?_
  refine lv_aload_n hx hb dL_law_725 rfl (lv_at hl 1 rfl) ?_
  refine lv_iload hx hb dL_law_726 (lv_at hl 6 rfl) ?_
  refine lv_iconst (v := nI 1) hx hb dL_law_728 (by decide) ?_
  refine xiaddN hx hb dL_law_729 ?_
  refine xsld hx hb hXs hbl hbA hS hL (j := i + 1) (by omega) dL_law_730 ?_
  refine lv_aload_n hx hb dL_law_731 rfl (lv_at hl 1 rfl) ?_
  refine lv_iload hx hb dL_law_732 (lv_at hl 6 rfl) ?_
  refine lv_iconst (v := nI 2) hx hb dL_law_734 (by decide) ?_
  refine xiaddN hx hb dL_law_735 ?_
  refine xsld hx hb hXs hbl hbA hS hL (j := i + 2) (by omega) dL_law_736 ?_
  have cw_2 := cwV (R := rm_L_law) (rm := rm_X7_bevel) 2 (hts d0) gL_law_X7_bevel rfl rfl rfl (by decide +kernel) ⟨Nat.le_of_ble_eq_true rfl, Nat.le_of_ble_eq_true rfl⟩
  refine xcall hd0 (xintoV (b := m0) (As := [.int ((xs (i + 1))), .int ((xs (i + 2)))]) (rest := []) ⟨hx, hb, hml, hown, hts _⟩ cw_2 (va_recv hK.1 (x1 hY_1.1) (ci := 8) (q0 := 0) rfl rfl) rfl rfl hl.1 rfl (lv_room (Nat.le_of_ble_eq_true rfl)) dL_law_737) (c_X7_bevel (l := l) (G := G) (ty := ty) (b0 := b0) (x := (xs (i + 1))) (f := (xs (i + 2))) hY_1 hT.1.1 hO.1 hO.2.1) (xoweB cw_2.1) hK hb0 hS hc hs (fun E_2 ce_2 q9_2 H_2 locs_2 d0 hd0 hp_2 hS _ _ _ => hp_2.elim) (fun v_2 H_2 locs_2 d0 hd0 hp_2 hS => ?_)
  obtain ⟨z9, g1, g2, rfl, hJ2, ha⟩ := hj _ _ hp_2
  obtain ⟨ad2, nb2, pl2, wi2, hi2, fa2, un3, bu2, lo3, la3, cx2, cy2, bx2, nf2, co2, dr2, un4, fc2, lo4, la4, px2, py2, pz2, hq2, hT2, hY2, -⟩ := id hJ2
  show W p l e _ (s.setDrawn _) m _ below meth c _ _ _ _ _ (F0 m 740 ls [.double z9])
  refine lv_dstore (lv' := [(7, .double z9), (6, .int (t9)), (0, .ref b), (1, .ref (ad 0)), (2, .ref m0), (3, .ref o1), (4, .ref o2), (5, .int (nI i))]) hx hb dL_law_740 hl (by decide) rfl (fun ls hl => ?_)
  refine lv_aload_n hx hb dL_law_742 rfl (lv_at hl 4 rfl) ?_
  have cw_3 := cwV (R := rm_L_law) (rm := rm_X7_thrown) 0 (hts d0) gL_law_X7_thrown rfl rfl rfl (by decide +kernel) ⟨Nat.le_of_ble_eq_true rfl, Nat.le_of_ble_eq_true rfl⟩
  refine xcall hd0 (xintoV (b := m0) (As := []) (rest := []) ⟨hx, hb, hml, hown, hts _⟩ cw_3 (va_recv hK.1 (x1 hY2.1) (ci := 8) (q0 := 0) rfl rfl) rfl rfl hl.1 rfl (lv_room (Nat.le_of_ble_eq_true rfl)) dL_law_743) (c_X7_thrown (l := l) (G := G) (ty := ty) (b0 := b0) hY2 hT2.1.1) (xoweB cw_3.1) hK hb0 hS hc hs (fun E_3 ce_3 q9_3 H_3 locs_3 d0 hd0 hp_3 hS _ _ _ => hp_3.elim) (fun v_3 H_3 locs_3 d0 hd0 hp_3 hS => ?_)
  obtain ⟨rfl, rfl⟩ := hp_3
  show W p l e _ (s.setDrawn _) m _ below meth c _ _ _ _ _ (F0 m 746 ls [.int (t9)])
  refine lv_iload hx hb dL_law_746 (lv_at hl 1 rfl) ?_
  refine lv_icmp_eq (tgt := 753) hx hb dL_law_748 (by decide) (fun _ => ?_) (fun h9 => absurd (rfl) h9)
  refine lv_iload hx hb dL_law_753 (lv_at hl 1 rfl) ?_
  refine lv_if_ne (tgt := 790) hx hb dL_law_755 (by decide) (fun c_5 => ?_) (fun c_5 => ?_)
  · refine lv_goto (tgt := 1709) hx hb dL_law_790 (by decide) ?_
    exact kk _ _ _ _ _ _ _ hJ2 hS hd0 (lv_sub hl [2, 3, 4, 5, 6, 7] rfl)
  · have ha := ha c_5
    refine lv_aload hx hb dL_law_758 (lv_at hl 6 rfl) ?_
    refine lv_iconst (v := nI 0) hx hb dL_law_760 (by decide) ?_
    refine xdald (j := 0) hx hb hK.1 0 hT2.2.2.2.2 rfl (xix_of (by omega) (by omega)) dL_law_761 ?_
    refine lv_dload hx hb dL_law_762 (lv_at hl 0 rfl) ?_
    refine xcmp_l_eq (tgt := 790) hx hb (vq_rf _) (vq_rf _) dL_law_764 dL_law_765 (by decide) (fun c_6 => ?_) (fun c_6 => ?_)
    · refine lv_goto (tgt := 1709) hx hb dL_law_790 (by decide) ?_
      exact kk _ _ _ _ _ _ _ hJ2 hS hd0 (lv_sub hl [2, 3, 4, 5, 6, 7] rfl)
    · refine lv_aload hx hb dL_law_768 (lv_at hl 6 rfl) ?_
      refine lv_iconst (v := nI 0) hx hb dL_law_770 (by decide) ?_
      refine xdald (j := 0) hx hb hK.1 0 hT2.2.2.2.2 rfl (xix_of (by omega) (by omega)) dL_law_771 ?_
      refine lv_aload hx hb dL_law_772 (lv_at hl 6 rfl) ?_
      refine lv_iconst (v := nI 0) hx hb dL_law_774 (by decide) ?_
      refine xdald (j := 0) hx hb hK.1 0 hT2.2.2.2.2 rfl (xix_of (by omega) (by omega)) dL_law_775 ?_
      refine xcmp_l_eq (tgt := 788) hx hb (vq_rf _) (vq_rf _) dL_law_776 dL_law_777 (by decide) (fun c_7 => ?_) (fun c_7 => ?_)
      · exact (pSame_no1 ha c_6 c_7).elim
      · refine lv_dload hx hb dL_law_780 (lv_at hl 0 rfl) ?_
        refine lv_dload hx hb dL_law_782 (lv_at hl 0 rfl) ?_
        refine xcmp_l_ne (tgt := 790) hx hb (vq_rf _) (vq_rf _) dL_law_784 dL_law_785 (by decide) (fun c_8 => ?_) (fun c_8 => ?_)
        · refine lv_goto (tgt := 1709) hx hb dL_law_790 (by decide) ?_
          exact kk _ _ _ _ _ _ _ hJ2 hS hd0 (lv_sub hl [2, 3, 4, 5, 6, 7] rfl)
        · exact (pSame_no2 ha c_6 c_8).elim
set_option maxHeartbeats 4000000 in
set_option maxRecDepth 100000 in
theorem case_width (hC : lwC p s m c b L xs G ty b0) (hfl : l.stackTraces = false) (hO : xAo b0 m0 A o1 o2) (hi6 : i + 6 ≤ L) (hJ : xJ G ty b0 F R m0 A o1 o2 q0 th f1 f2 H) (hS : va_S (xA b0) s.heap H locs) (hd0 : s.drawn.sameBut d0 lw_cs) (hl : lv_has ls 9 [(0, .ref b), (1, .ref q0), (2, .ref m0), (3, .ref o1), (4, .ref o2), (5, .int (nI i))]) (hc : cells + 20 ≤ 675798) (hs : slots + 150 ≤ 7068677)
    (kk : ∀ (th : Int32) (f1 : Nat → Int64) (f2 : Nat → UInt64) (H1 : Heap) (locs1 : List Loc) (d1 : Drawn) (ls1 : Array Slot), xJ G ty b0 F R m0 A o1 o2 q0 th f1 f2 H1 → va_S (xA b0) s.heap H1 locs1 → s.drawn.sameBut d1 lw_cs → lv_has ls1 9 [(0, .ref b), (1, .ref q0), (2, .ref m0), (3, .ref o1), (4, .ref o2), (5, .int (nI i))] → W p l e rm_L_law (s.setDrawn d1) m #[Value.ref b] below meth c H1 locs1 (cells + 20) (slots + 150) Q (F0 m 1709 ls1 [])) :
    W p l e rm_L_law (s.setDrawn d0) m #[Value.ref b] below meth c H locs cells slots Q (F0 m 793 ls []) := by
  obtain ⟨hx, hb, hml, hown, hts0, hXs, hbl, hbA, hL, hK, hb0⟩ := hC
  have hts : ∀ d0 : Drawn, ∀ w ∈ wsL_law, w.before #[Value.ref b] (s.setDrawn d0) = true := fun d0 => dr_words hts0 d0
  obtain ⟨ad, nb, pl, wi, hi, fa, un, bu, lo, la, cx, cy, bx, nf, co, dr, un2, fc, lo2, la2, px, py, pz, hq, hT, hY, hR⟩ := hJ
  subst hq
  obtain ⟨⟨zF2, zF8⟩, ⟨zR2, zR8⟩⟩ := id hT.1.1
  have zB4 := hT.1.2.1
  refine lv_aload_n hx hb dL_law_793 rfl (lv_at hl 1 rfl) ?_
  refine lv_aload_n hx hb dL_law_794 rfl (lv_at hl 0 rfl) ?_
  refine lv_iload hx hb dL_law_795 (lv_at hl 5 rfl) ?_
  refine lv_iconst (v := nI 1) hx hb dL_law_797 (by decide) ?_
  refine xiaddN hx hb dL_law_798 ?_
  refine xsld hx hb hXs hbl hbA hS hL (j := i + 1) (by omega) dL_law_799 ?_
  refine lv_aload_n hx hb dL_law_800 rfl (lv_at hl 0 rfl) ?_
  refine lv_iload hx hb dL_law_801 (lv_at hl 5 rfl) ?_
  refine lv_iconst (v := nI 2) hx hb dL_law_803 (by decide) ?_
  refine xiaddN hx hb dL_law_804 ?_
  refine xsld hx hb hXs hbl hbA hS hL (j := i + 2) (by omega) dL_law_805 ?_
  refine lv_aload hx hb dL_law_806 (lv_at hl 4 rfl) ?_
  have cw_1 := vx_cwSW (R := rm_L_law) (rm := rm_L_width) 4 (hts d0) gL_law_L_width rfl rfl rfl (by decide +kernel) ⟨Nat.le_of_ble_eq_true rfl, Nat.le_of_ble_eq_true rfl⟩
  refine xcallW hd0 (xintoSW (As := [.ref (ad 0), .int ((xs (i + 1))), .int ((xs (i + 2))), .ref o2]) (rest := []) ⟨hx, hb, hml, hown, hts _⟩ cw_1 rfl rfl hl.1 rfl (lv_room (Nat.le_of_ble_eq_true rfl)) dL_law_808) (c_L_width (l := l) (G := G) (ty := ty) (b0 := b0) hfl hT.2.1 hT.1 (x := (xs (i + 1))) (f := (xs (i + 2))) hO.2.2.2.1 hT.2.2.2.2 (fun k z => Ne.symm (hT.2.2.1 k z).2.2)) (xoweW cw_1) hK hb0 hS hc hs (fun E_1 ce_1 q9_1 H_1 locs_1 d0 hd0 hp_1 hS _ _ _ => hp_1.elim) (fun v_1 H_1 locs_1 d0 hd0 hp_1 hS => ?_)
  obtain ⟨t9, rfl, hY_1, hj⟩ := j_width hO hT hY hR hp_1
  show W p l e _ (s.setDrawn _) m _ below meth c _ _ _ _ _ (F0 m 811 ls [.int (t9)])
  refine lv_istore (lv' := [(6, .int (t9)), (0, .ref b), (1, .ref (ad 0)), (2, .ref m0), (3, .ref o1), (4, .ref o2), (5, .int (nI i))]) hx hb dL_law_811 hl (by decide) rfl (fun ls hl => ?_)
  refine lv_aload_n hx hb dL_law_813 rfl (lv_at hl 3 rfl) ?_
  refine lv_aload_n hx hb dL_law_814 rfl (lv_at hl 1 rfl) ?_
  refine lv_iload hx hb dL_law_815 (lv_at hl 6 rfl) ?_
  refine lv_iconst (v := nI 1) hx hb dL_law_817 (by decide) ?_
  refine xiaddN hx hb dL_law_818 ?_
  refine xsld hx hb hXs hbl hbA hS hL (j := i + 1) (by omega) dL_law_819 ?_
  refine lv_aload_n hx hb dL_law_820 rfl (lv_at hl 1 rfl) ?_
  refine lv_iload hx hb dL_law_821 (lv_at hl 6 rfl) ?_
  refine lv_iconst (v := nI 2) hx hb dL_law_823 (by decide) ?_
  refine xiaddN hx hb dL_law_824 ?_
  refine xsld hx hb hXs hbl hbA hS hL (j := i + 2) (by omega) dL_law_825 ?_
  have cw_2 := cwV (R := rm_L_law) (rm := rm_X7_width) 2 (hts d0) gL_law_X7_width rfl rfl rfl (by decide +kernel) ⟨Nat.le_of_ble_eq_true rfl, Nat.le_of_ble_eq_true rfl⟩
  refine xcall hd0 (xintoV (b := m0) (As := [.int ((xs (i + 1))), .int ((xs (i + 2)))]) (rest := []) ⟨hx, hb, hml, hown, hts _⟩ cw_2 (va_recv hK.1 (x1 hY_1.1) (ci := 8) (q0 := 0) rfl rfl) rfl rfl hl.1 rfl (lv_room (Nat.le_of_ble_eq_true rfl)) dL_law_826) (c_X7_width (l := l) (G := G) (ty := ty) (b0 := b0) (x := (xs (i + 1))) (f := (xs (i + 2))) hY_1 hT.1.1 hO.1 hO.2.1) (xoweB cw_2.1) hK hb0 hS hc hs (fun E_2 ce_2 q9_2 H_2 locs_2 d0 hd0 hp_2 hS _ _ _ => hp_2.elim) (fun v_2 H_2 locs_2 d0 hd0 hp_2 hS => ?_)
  obtain ⟨z9, g1, g2, rfl, hJ2, ha⟩ := hj _ _ hp_2
  obtain ⟨ad2, nb2, pl2, wi2, hi2, fa2, un3, bu2, lo3, la3, cx2, cy2, bx2, nf2, co2, dr2, un4, fc2, lo4, la4, px2, py2, pz2, hq2, hT2, hY2, -⟩ := id hJ2
  show W p l e _ (s.setDrawn _) m _ below meth c _ _ _ _ _ (F0 m 829 ls [.double z9])
  refine lv_dstore (lv' := [(7, .double z9), (6, .int (t9)), (0, .ref b), (1, .ref (ad 0)), (2, .ref m0), (3, .ref o1), (4, .ref o2), (5, .int (nI i))]) hx hb dL_law_829 hl (by decide) rfl (fun ls hl => ?_)
  refine lv_aload_n hx hb dL_law_831 rfl (lv_at hl 4 rfl) ?_
  have cw_3 := cwV (R := rm_L_law) (rm := rm_X7_thrown) 0 (hts d0) gL_law_X7_thrown rfl rfl rfl (by decide +kernel) ⟨Nat.le_of_ble_eq_true rfl, Nat.le_of_ble_eq_true rfl⟩
  refine xcall hd0 (xintoV (b := m0) (As := []) (rest := []) ⟨hx, hb, hml, hown, hts _⟩ cw_3 (va_recv hK.1 (x1 hY2.1) (ci := 8) (q0 := 0) rfl rfl) rfl rfl hl.1 rfl (lv_room (Nat.le_of_ble_eq_true rfl)) dL_law_832) (c_X7_thrown (l := l) (G := G) (ty := ty) (b0 := b0) hY2 hT2.1.1) (xoweB cw_3.1) hK hb0 hS hc hs (fun E_3 ce_3 q9_3 H_3 locs_3 d0 hd0 hp_3 hS _ _ _ => hp_3.elim) (fun v_3 H_3 locs_3 d0 hd0 hp_3 hS => ?_)
  obtain ⟨rfl, rfl⟩ := hp_3
  show W p l e _ (s.setDrawn _) m _ below meth c _ _ _ _ _ (F0 m 835 ls [.int (t9)])
  refine lv_iload hx hb dL_law_835 (lv_at hl 1 rfl) ?_
  refine lv_icmp_eq (tgt := 842) hx hb dL_law_837 (by decide) (fun _ => ?_) (fun h9 => absurd (rfl) h9)
  refine lv_iload hx hb dL_law_842 (lv_at hl 1 rfl) ?_
  refine lv_if_ne (tgt := 879) hx hb dL_law_844 (by decide) (fun c_5 => ?_) (fun c_5 => ?_)
  · refine lv_goto (tgt := 1709) hx hb dL_law_879 (by decide) ?_
    exact kk _ _ _ _ _ _ _ hJ2 hS hd0 (lv_sub hl [2, 3, 4, 5, 6, 7] rfl)
  · have ha := ha c_5
    refine lv_aload hx hb dL_law_847 (lv_at hl 6 rfl) ?_
    refine lv_iconst (v := nI 0) hx hb dL_law_849 (by decide) ?_
    refine xdald (j := 0) hx hb hK.1 0 hT2.2.2.2.2 rfl (xix_of (by omega) (by omega)) dL_law_850 ?_
    refine lv_dload hx hb dL_law_851 (lv_at hl 0 rfl) ?_
    refine xcmp_l_eq (tgt := 879) hx hb (vq_rf _) (vq_rf _) dL_law_853 dL_law_854 (by decide) (fun c_6 => ?_) (fun c_6 => ?_)
    · refine lv_goto (tgt := 1709) hx hb dL_law_879 (by decide) ?_
      exact kk _ _ _ _ _ _ _ hJ2 hS hd0 (lv_sub hl [2, 3, 4, 5, 6, 7] rfl)
    · refine lv_aload hx hb dL_law_857 (lv_at hl 6 rfl) ?_
      refine lv_iconst (v := nI 0) hx hb dL_law_859 (by decide) ?_
      refine xdald (j := 0) hx hb hK.1 0 hT2.2.2.2.2 rfl (xix_of (by omega) (by omega)) dL_law_860 ?_
      refine lv_aload hx hb dL_law_861 (lv_at hl 6 rfl) ?_
      refine lv_iconst (v := nI 0) hx hb dL_law_863 (by decide) ?_
      refine xdald (j := 0) hx hb hK.1 0 hT2.2.2.2.2 rfl (xix_of (by omega) (by omega)) dL_law_864 ?_
      refine xcmp_l_eq (tgt := 877) hx hb (vq_rf _) (vq_rf _) dL_law_865 dL_law_866 (by decide) (fun c_7 => ?_) (fun c_7 => ?_)
      · exact (pSame_no1 ha c_6 c_7).elim
      · refine lv_dload hx hb dL_law_869 (lv_at hl 0 rfl) ?_
        refine lv_dload hx hb dL_law_871 (lv_at hl 0 rfl) ?_
        refine xcmp_l_ne (tgt := 879) hx hb (vq_rf _) (vq_rf _) dL_law_873 dL_law_874 (by decide) (fun c_8 => ?_) (fun c_8 => ?_)
        · refine lv_goto (tgt := 1709) hx hb dL_law_879 (by decide) ?_
          exact kk _ _ _ _ _ _ _ hJ2 hS hd0 (lv_sub hl [2, 3, 4, 5, 6, 7] rfl)
        · exact (pSame_no2 ha c_6 c_8).elim
set_option maxHeartbeats 4000000 in
set_option maxRecDepth 100000 in
theorem case_girth (hC : lwC p s m c b L xs G ty b0) (hfl : l.stackTraces = false) (hO : xAo b0 m0 A o1 o2) (hi6 : i + 6 ≤ L) (hJ : xJ G ty b0 F R m0 A o1 o2 q0 th f1 f2 H) (hS : va_S (xA b0) s.heap H locs) (hd0 : s.drawn.sameBut d0 lw_cs) (hl : lv_has ls 9 [(0, .ref b), (1, .ref q0), (2, .ref m0), (3, .ref o1), (4, .ref o2), (5, .int (nI i))]) (hc : cells + 20 ≤ 675798) (hs : slots + 150 ≤ 7068677)
    (kk : ∀ (th : Int32) (f1 : Nat → Int64) (f2 : Nat → UInt64) (H1 : Heap) (locs1 : List Loc) (d1 : Drawn) (ls1 : Array Slot), xJ G ty b0 F R m0 A o1 o2 q0 th f1 f2 H1 → va_S (xA b0) s.heap H1 locs1 → s.drawn.sameBut d1 lw_cs → lv_has ls1 9 [(0, .ref b), (1, .ref q0), (2, .ref m0), (3, .ref o1), (4, .ref o2), (5, .int (nI i))] → W p l e rm_L_law (s.setDrawn d1) m #[Value.ref b] below meth c H1 locs1 (cells + 20) (slots + 150) Q (F0 m 1709 ls1 [])) :
    W p l e rm_L_law (s.setDrawn d0) m #[Value.ref b] below meth c H locs cells slots Q (F0 m 882 ls []) := by
  obtain ⟨hx, hb, hml, hown, hts0, hXs, hbl, hbA, hL, hK, hb0⟩ := hC
  have hts : ∀ d0 : Drawn, ∀ w ∈ wsL_law, w.before #[Value.ref b] (s.setDrawn d0) = true := fun d0 => dr_words hts0 d0
  obtain ⟨ad, nb, pl, wi, hi, fa, un, bu, lo, la, cx, cy, bx, nf, co, dr, un2, fc, lo2, la2, px, py, pz, hq, hT, hY, hR⟩ := hJ
  subst hq
  obtain ⟨⟨zF2, zF8⟩, ⟨zR2, zR8⟩⟩ := id hT.1.1
  have zB4 := hT.1.2.1
  refine lv_aload_n hx hb dL_law_882 rfl (lv_at hl 1 rfl) ?_
  refine lv_aload_n hx hb dL_law_883 rfl (lv_at hl 0 rfl) ?_
  refine lv_iload hx hb dL_law_884 (lv_at hl 5 rfl) ?_
  refine lv_iconst (v := nI 1) hx hb dL_law_886 (by decide) ?_
  refine xiaddN hx hb dL_law_887 ?_
  refine xsld hx hb hXs hbl hbA hS hL (j := i + 1) (by omega) dL_law_888 ?_
  refine lv_aload hx hb dL_law_889 (lv_at hl 4 rfl) ?_
  have cw_1 := vx_cwSW (R := rm_L_law) (rm := rm_L_girth) 3 (hts d0) gL_law_L_girth rfl rfl rfl (by decide +kernel) ⟨Nat.le_of_ble_eq_true rfl, Nat.le_of_ble_eq_true rfl⟩
  refine xcallW hd0 (xintoSW (As := [.ref (ad 0), .int ((xs (i + 1))), .ref o2]) (rest := []) ⟨hx, hb, hml, hown, hts _⟩ cw_1 rfl rfl hl.1 rfl (lv_room (Nat.le_of_ble_eq_true rfl)) dL_law_891) (c_L_girth (l := l) (G := G) (ty := ty) (b0 := b0) hfl hT.2.1 hT.1 (f := (xs (i + 1))) hO.2.2.2.1 hT.2.2.2.2 (fun k z => Ne.symm (hT.2.2.1 k z).2.2)) (xoweW cw_1) hK hb0 hS hc hs (fun E_1 ce_1 q9_1 H_1 locs_1 d0 hd0 hp_1 hS _ _ _ => hp_1.elim) (fun v_1 H_1 locs_1 d0 hd0 hp_1 hS => ?_)
  obtain ⟨t9, rfl, hY_1, hj⟩ := j_girth hO hT hY hR hp_1
  show W p l e _ (s.setDrawn _) m _ below meth c _ _ _ _ _ (F0 m 894 ls [.int (t9)])
  refine lv_istore (lv' := [(6, .int (t9)), (0, .ref b), (1, .ref (ad 0)), (2, .ref m0), (3, .ref o1), (4, .ref o2), (5, .int (nI i))]) hx hb dL_law_894 hl (by decide) rfl (fun ls hl => ?_)
  refine lv_aload_n hx hb dL_law_896 rfl (lv_at hl 3 rfl) ?_
  refine lv_aload_n hx hb dL_law_897 rfl (lv_at hl 1 rfl) ?_
  refine lv_iload hx hb dL_law_898 (lv_at hl 6 rfl) ?_
  refine lv_iconst (v := nI 1) hx hb dL_law_900 (by decide) ?_
  refine xiaddN hx hb dL_law_901 ?_
  refine xsld hx hb hXs hbl hbA hS hL (j := i + 1) (by omega) dL_law_902 ?_
  have cw_2 := cwV (R := rm_L_law) (rm := rm_X7_girth) 1 (hts d0) gL_law_X7_girth rfl rfl rfl (by decide +kernel) ⟨Nat.le_of_ble_eq_true rfl, Nat.le_of_ble_eq_true rfl⟩
  refine xcall hd0 (xintoV (b := m0) (As := [.int ((xs (i + 1)))]) (rest := []) ⟨hx, hb, hml, hown, hts _⟩ cw_2 (va_recv hK.1 (x1 hY_1.1) (ci := 8) (q0 := 0) rfl rfl) rfl rfl hl.1 rfl (lv_room (Nat.le_of_ble_eq_true rfl)) dL_law_903) (c_X7_girth (l := l) (G := G) (ty := ty) (b0 := b0) (f := (xs (i + 1))) hY_1 hT.1.1 hO.1 hO.2.1) (xoweB cw_2.1) hK hb0 hS hc hs (fun E_2 ce_2 q9_2 H_2 locs_2 d0 hd0 hp_2 hS _ _ _ => hp_2.elim) (fun v_2 H_2 locs_2 d0 hd0 hp_2 hS => ?_)
  obtain ⟨z9, g1, g2, rfl, hJ2, ha⟩ := hj _ _ hp_2
  obtain ⟨ad2, nb2, pl2, wi2, hi2, fa2, un3, bu2, lo3, la3, cx2, cy2, bx2, nf2, co2, dr2, un4, fc2, lo4, la4, px2, py2, pz2, hq2, hT2, hY2, -⟩ := id hJ2
  show W p l e _ (s.setDrawn _) m _ below meth c _ _ _ _ _ (F0 m 906 ls [.double z9])
  refine lv_dstore (lv' := [(7, .double z9), (6, .int (t9)), (0, .ref b), (1, .ref (ad 0)), (2, .ref m0), (3, .ref o1), (4, .ref o2), (5, .int (nI i))]) hx hb dL_law_906 hl (by decide) rfl (fun ls hl => ?_)
  refine lv_aload_n hx hb dL_law_908 rfl (lv_at hl 4 rfl) ?_
  have cw_3 := cwV (R := rm_L_law) (rm := rm_X7_thrown) 0 (hts d0) gL_law_X7_thrown rfl rfl rfl (by decide +kernel) ⟨Nat.le_of_ble_eq_true rfl, Nat.le_of_ble_eq_true rfl⟩
  refine xcall hd0 (xintoV (b := m0) (As := []) (rest := []) ⟨hx, hb, hml, hown, hts _⟩ cw_3 (va_recv hK.1 (x1 hY2.1) (ci := 8) (q0 := 0) rfl rfl) rfl rfl hl.1 rfl (lv_room (Nat.le_of_ble_eq_true rfl)) dL_law_909) (c_X7_thrown (l := l) (G := G) (ty := ty) (b0 := b0) hY2 hT2.1.1) (xoweB cw_3.1) hK hb0 hS hc hs (fun E_3 ce_3 q9_3 H_3 locs_3 d0 hd0 hp_3 hS _ _ _ => hp_3.elim) (fun v_3 H_3 locs_3 d0 hd0 hp_3 hS => ?_)
  obtain ⟨rfl, rfl⟩ := hp_3
  show W p l e _ (s.setDrawn _) m _ below meth c _ _ _ _ _ (F0 m 912 ls [.int (t9)])
  refine lv_iload hx hb dL_law_912 (lv_at hl 1 rfl) ?_
  refine lv_icmp_eq (tgt := 919) hx hb dL_law_914 (by decide) (fun _ => ?_) (fun h9 => absurd (rfl) h9)
  refine lv_iload hx hb dL_law_919 (lv_at hl 1 rfl) ?_
  refine lv_if_ne (tgt := 956) hx hb dL_law_921 (by decide) (fun c_5 => ?_) (fun c_5 => ?_)
  · refine lv_goto (tgt := 1709) hx hb dL_law_956 (by decide) ?_
    exact kk _ _ _ _ _ _ _ hJ2 hS hd0 (lv_sub hl [2, 3, 4, 5, 6, 7] rfl)
  · have ha := ha c_5
    refine lv_aload hx hb dL_law_924 (lv_at hl 6 rfl) ?_
    refine lv_iconst (v := nI 0) hx hb dL_law_926 (by decide) ?_
    refine xdald (j := 0) hx hb hK.1 0 hT2.2.2.2.2 rfl (xix_of (by omega) (by omega)) dL_law_927 ?_
    refine lv_dload hx hb dL_law_928 (lv_at hl 0 rfl) ?_
    refine xcmp_l_eq (tgt := 956) hx hb (vq_rf _) (vq_rf _) dL_law_930 dL_law_931 (by decide) (fun c_6 => ?_) (fun c_6 => ?_)
    · refine lv_goto (tgt := 1709) hx hb dL_law_956 (by decide) ?_
      exact kk _ _ _ _ _ _ _ hJ2 hS hd0 (lv_sub hl [2, 3, 4, 5, 6, 7] rfl)
    · refine lv_aload hx hb dL_law_934 (lv_at hl 6 rfl) ?_
      refine lv_iconst (v := nI 0) hx hb dL_law_936 (by decide) ?_
      refine xdald (j := 0) hx hb hK.1 0 hT2.2.2.2.2 rfl (xix_of (by omega) (by omega)) dL_law_937 ?_
      refine lv_aload hx hb dL_law_938 (lv_at hl 6 rfl) ?_
      refine lv_iconst (v := nI 0) hx hb dL_law_940 (by decide) ?_
      refine xdald (j := 0) hx hb hK.1 0 hT2.2.2.2.2 rfl (xix_of (by omega) (by omega)) dL_law_941 ?_
      refine xcmp_l_eq (tgt := 954) hx hb (vq_rf _) (vq_rf _) dL_law_942 dL_law_943 (by decide) (fun c_7 => ?_) (fun c_7 => ?_)
      · exact (pSame_no1 ha c_6 c_7).elim
      · refine lv_dload hx hb dL_law_946 (lv_at hl 0 rfl) ?_
        refine lv_dload hx hb dL_law_948 (lv_at hl 0 rfl) ?_
        refine xcmp_l_ne (tgt := 956) hx hb (vq_rf _) (vq_rf _) dL_law_950 dL_law_951 (by decide) (fun c_8 => ?_) (fun c_8 => ?_)
        · refine lv_goto (tgt := 1709) hx hb dL_law_956 (by decide) ?_
          exact kk _ _ _ _ _ _ _ hJ2 hS hd0 (lv_sub hl [2, 3, 4, 5, 6, 7] rfl)
        · exact (pSame_no2 ha c_6 c_8).elim
set_option maxHeartbeats 4000000 in
set_option maxRecDepth 100000 in
theorem case_butt (hC : lwC p s m c b L xs G ty b0) (hfl : l.stackTraces = false) (hO : xAo b0 m0 A o1 o2) (hi6 : i + 6 ≤ L) (hJ : xJ G ty b0 F R m0 A o1 o2 q0 th f1 f2 H) (hS : va_S (xA b0) s.heap H locs) (hd0 : s.drawn.sameBut d0 lw_cs) (hl : lv_has ls 9 [(0, .ref b), (1, .ref q0), (2, .ref m0), (3, .ref o1), (4, .ref o2), (5, .int (nI i))]) (hc : cells + 20 ≤ 675798) (hs : slots + 150 ≤ 7068677)
    (kk : ∀ (th : Int32) (f1 : Nat → Int64) (f2 : Nat → UInt64) (H1 : Heap) (locs1 : List Loc) (d1 : Drawn) (ls1 : Array Slot), xJ G ty b0 F R m0 A o1 o2 q0 th f1 f2 H1 → va_S (xA b0) s.heap H1 locs1 → s.drawn.sameBut d1 lw_cs → lv_has ls1 9 [(0, .ref b), (1, .ref q0), (2, .ref m0), (3, .ref o1), (4, .ref o2), (5, .int (nI i))] → W p l e rm_L_law (s.setDrawn d1) m #[Value.ref b] below meth c H1 locs1 (cells + 20) (slots + 150) Q (F0 m 1709 ls1 [])) :
    W p l e rm_L_law (s.setDrawn d0) m #[Value.ref b] below meth c H locs cells slots Q (F0 m 959 ls []) := by
  obtain ⟨hx, hb, hml, hown, hts0, hXs, hbl, hbA, hL, hK, hb0⟩ := hC
  have hts : ∀ d0 : Drawn, ∀ w ∈ wsL_law, w.before #[Value.ref b] (s.setDrawn d0) = true := fun d0 => dr_words hts0 d0
  obtain ⟨ad, nb, pl, wi, hi, fa, un, bu, lo, la, cx, cy, bx, nf, co, dr, un2, fc, lo2, la2, px, py, pz, hq, hT, hY, hR⟩ := hJ
  subst hq
  obtain ⟨⟨zF2, zF8⟩, ⟨zR2, zR8⟩⟩ := id hT.1.1
  have zB4 := hT.1.2.1
  by_cases hz9 : xs (i + 3) = 0
  · refine lv_aload_n hx hb dL_law_959 rfl (lv_at hl 1 rfl) ?_
    refine lv_aload_n hx hb dL_law_960 rfl (lv_at hl 0 rfl) ?_
    refine lv_iload hx hb dL_law_961 (lv_at hl 5 rfl) ?_
    refine lv_iconst (v := nI 1) hx hb dL_law_963 (by decide) ?_
    refine xiaddN hx hb dL_law_964 ?_
    refine xsld hx hb hXs hbl hbA hS hL (j := i + 1) (by omega) dL_law_965 ?_
    refine lv_aload_n hx hb dL_law_966 rfl (lv_at hl 0 rfl) ?_
    refine lv_iload hx hb dL_law_967 (lv_at hl 5 rfl) ?_
    refine lv_iconst (v := nI 2) hx hb dL_law_969 (by decide) ?_
    refine xiaddN hx hb dL_law_970 ?_
    refine xsld hx hb hXs hbl hbA hS hL (j := i + 2) (by omega) dL_law_971 ?_
    refine lv_aload_n hx hb dL_law_972 rfl (lv_at hl 0 rfl) ?_
    refine lv_iload hx hb dL_law_973 (lv_at hl 5 rfl) ?_
    refine lv_iconst (v := nI 3) hx hb dL_law_975 (by decide) ?_
    refine xiaddN hx hb dL_law_976 ?_
    refine xsld hx hb hXs hbl hbA hS hL (j := i + 3) (by omega) dL_law_977 ?_
    refine lv_if_eq (tgt := 985) hx hb dL_law_978 (by decide) (fun _ => ?_) (fun h9 => absurd (hz9) h9)
    refine lv_iconst (v := nI 0) hx hb dL_law_985 (by decide) ?_
    refine lv_aload_n hx hb dL_law_986 rfl (lv_at hl 3 rfl) ?_
    have hon_2 : nI 0 = 0 ∨ nI 0 = 1 := Or.inl rfl
    have cw_2 := vx_cwSW (R := rm_L_law) (rm := rm_L_butt) 5 (hts d0) gL_law_L_butt rfl rfl rfl (by decide +kernel) ⟨Nat.le_of_ble_eq_true rfl, Nat.le_of_ble_eq_true rfl⟩
    refine xcallW hd0 (xintoSW (As := [.ref (ad 0), .int ((xs (i + 1))), .int ((xs (i + 2))), .int (nI 0), .ref o1]) (rest := []) ⟨hx, hb, hml, hown, hts _⟩ cw_2 rfl rfl hl.1 rfl (lv_room (Nat.le_of_ble_eq_true rfl)) dL_law_987) (c_L_butt (l := l) (G := G) (ty := ty) (b0 := b0) hfl hT.2.1 hT.1 (x := (xs (i + 1))) (f := (xs (i + 2))) (on := nI 0) hon_2 hO.2.2.1 hT.2.2.2.1 (fun k z => Ne.symm (hT.2.2.1 k z).2.1)) (xoweW cw_2) hK hb0 hS hc hs (fun E_2 ce_2 q9_2 H_2 locs_2 d0 hd0 hp_2 hS _ _ _ => hp_2.elim) (fun v_2 H_2 locs_2 d0 hd0 hp_2 hS => ?_)
    obtain ⟨t9, rfl, hY_2, hj⟩ := j_butt hO hT hY hR hp_2
    show W p l e _ (s.setDrawn _) m _ below meth c _ _ _ _ _ (F0 m 990 ls [.int (t9)])
    refine lv_istore (lv' := [(6, .int (t9)), (0, .ref b), (1, .ref (ad 0)), (2, .ref m0), (3, .ref o1), (4, .ref o2), (5, .int (nI i))]) hx hb dL_law_990 hl (by decide) rfl (fun ls hl => ?_)
    refine lv_aload_n hx hb dL_law_992 rfl (lv_at hl 3 rfl) ?_
    refine lv_aload_n hx hb dL_law_993 rfl (lv_at hl 1 rfl) ?_
    refine lv_iload hx hb dL_law_994 (lv_at hl 6 rfl) ?_
    refine lv_iconst (v := nI 1) hx hb dL_law_996 (by decide) ?_
    refine xiaddN hx hb dL_law_997 ?_
    refine xsld hx hb hXs hbl hbA hS hL (j := i + 1) (by omega) dL_law_998 ?_
    refine lv_aload_n hx hb dL_law_999 rfl (lv_at hl 1 rfl) ?_
    refine lv_iload hx hb dL_law_1000 (lv_at hl 6 rfl) ?_
    refine lv_iconst (v := nI 2) hx hb dL_law_1002 (by decide) ?_
    refine xiaddN hx hb dL_law_1003 ?_
    refine xsld hx hb hXs hbl hbA hS hL (j := i + 2) (by omega) dL_law_1004 ?_
    refine lv_aload_n hx hb dL_law_1005 rfl (lv_at hl 1 rfl) ?_
    refine lv_iload hx hb dL_law_1006 (lv_at hl 6 rfl) ?_
    refine lv_iconst (v := nI 3) hx hb dL_law_1008 (by decide) ?_
    refine xiaddN hx hb dL_law_1009 ?_
    refine xsld hx hb hXs hbl hbA hS hL (j := i + 3) (by omega) dL_law_1010 ?_
    refine lv_if_eq (tgt := 1018) hx hb dL_law_1011 (by decide) (fun _ => ?_) (fun h9 => absurd (hz9) h9)
    refine lv_iconst (v := nI 0) hx hb dL_law_1018 (by decide) ?_
    have cw_4 := cwV (R := rm_L_law) (rm := rm_X7_butt) 3 (hts d0) gL_law_X7_butt rfl rfl rfl (by decide +kernel) ⟨Nat.le_of_ble_eq_true rfl, Nat.le_of_ble_eq_true rfl⟩
    have hon9 : nI 0 = 0 ∨ nI 0 = 1 := Or.inl rfl
    refine xcall hd0 (xintoV (b := m0) (As := [.int ((xs (i + 1))), .int ((xs (i + 2))), .int (nI 0)]) (rest := []) ⟨hx, hb, hml, hown, hts _⟩ cw_4 (va_recv hK.1 (x1 hY_2.1) (ci := 8) (q0 := 0) rfl rfl) rfl rfl hl.1 rfl (lv_room (Nat.le_of_ble_eq_true rfl)) dL_law_1019) (c_X7_butt (l := l) (G := G) (ty := ty) (b0 := b0) (x := (xs (i + 1))) (f := (xs (i + 2))) (on := nI 0) hon9 hY_2 hT.1.1 hO.1 hO.2.1) (xoweB cw_4.1) hK hb0 hS hc hs (fun E_4 ce_4 q9_4 H_4 locs_4 d0 hd0 hp_4 hS _ _ _ => hp_4.elim) (fun v_4 H_4 locs_4 d0 hd0 hp_4 hS => ?_)
    obtain ⟨z9, g1, g2, rfl, hJ2, ha⟩ := hj _ _ hp_4
    obtain ⟨ad2, nb2, pl2, wi2, hi2, fa2, un3, bu2, lo3, la3, cx2, cy2, bx2, nf2, co2, dr2, un4, fc2, lo4, la4, px2, py2, pz2, hq2, hT2, hY2, -⟩ := id hJ2
    show W p l e _ (s.setDrawn _) m _ below meth c _ _ _ _ _ (F0 m 1022 ls [.int (z9)])
    refine lv_istore (lv' := [(7, .int (z9)), (6, .int (t9)), (0, .ref b), (1, .ref (ad 0)), (2, .ref m0), (3, .ref o1), (4, .ref o2), (5, .int (nI i))]) hx hb dL_law_1022 hl (by decide) rfl (fun ls hl => ?_)
    refine lv_aload_n hx hb dL_law_1024 rfl (lv_at hl 4 rfl) ?_
    have cw_5 := cwV (R := rm_L_law) (rm := rm_X7_thrown) 0 (hts d0) gL_law_X7_thrown rfl rfl rfl (by decide +kernel) ⟨Nat.le_of_ble_eq_true rfl, Nat.le_of_ble_eq_true rfl⟩
    refine xcall hd0 (xintoV (b := m0) (As := []) (rest := []) ⟨hx, hb, hml, hown, hts _⟩ cw_5 (va_recv hK.1 (x1 hY2.1) (ci := 8) (q0 := 0) rfl rfl) rfl rfl hl.1 rfl (lv_room (Nat.le_of_ble_eq_true rfl)) dL_law_1025) (c_X7_thrown (l := l) (G := G) (ty := ty) (b0 := b0) hY2 hT2.1.1) (xoweB cw_5.1) hK hb0 hS hc hs (fun E_5 ce_5 q9_5 H_5 locs_5 d0 hd0 hp_5 hS _ _ _ => hp_5.elim) (fun v_5 H_5 locs_5 d0 hd0 hp_5 hS => ?_)
    obtain ⟨rfl, rfl⟩ := hp_5
    show W p l e _ (s.setDrawn _) m _ below meth c _ _ _ _ _ (F0 m 1028 ls [.int (t9)])
    refine lv_iload hx hb dL_law_1028 (lv_at hl 1 rfl) ?_
    refine lv_icmp_eq (tgt := 1035) hx hb dL_law_1030 (by decide) (fun _ => ?_) (fun h9 => absurd (rfl) h9)
    refine lv_iload hx hb dL_law_1035 (lv_at hl 1 rfl) ?_
    refine lv_if_ne (tgt := 1059) hx hb dL_law_1037 (by decide) (fun c_7 => ?_) (fun c_7 => ?_)
    · refine lv_goto (tgt := 1709) hx hb dL_law_1059 (by decide) ?_
      exact kk _ _ _ _ _ _ _ hJ2 hS hd0 (lv_sub hl [2, 3, 4, 5, 6, 7] rfl)
    · have ha := ha c_7
      refine lv_aload_n hx hb dL_law_1040 rfl (lv_at hl 5 rfl) ?_
      refine lv_iconst (v := nI 0) hx hb dL_law_1041 (by decide) ?_
      refine xlald (j := 0) hx hb hK.1 3 hT2.2.2.2.1 rfl (xix_of (by omega) (by omega)) dL_law_1042 ?_
      refine lv_iload hx hb dL_law_1043 (lv_at hl 0 rfl) ?_
      refine lv_if_eq (tgt := 1052) hx hb dL_law_1045 (by decide) (fun c_8 => ?_) (fun c_8 => ?_)
      · refine lv_lconst (v := 0) hx hb dL_law_1052 (by decide) ?_
        rw [if_pos c_8] at ha
        refine W.lcmp hx hb dL_law_1053 ?_
        refine lv_if_eq (tgt := 1059) hx hb dL_law_1054 (by decide) (fun _ => ?_) (fun h9 => absurd (by rw [ha]; exact lg_self _) h9)
        refine lv_goto (tgt := 1709) hx hb dL_law_1059 (by decide) ?_
        exact kk _ _ _ _ _ _ _ hJ2 hS hd0 (lv_sub hl [2, 3, 4, 5, 6, 7] rfl)
      · refine lv_lconst (v := 1) hx hb dL_law_1048 (by decide) ?_
        refine lv_goto (tgt := 1053) hx hb dL_law_1049 (by decide) ?_
        rw [if_neg c_8] at ha
        refine W.lcmp hx hb dL_law_1053 ?_
        refine lv_if_eq (tgt := 1059) hx hb dL_law_1054 (by decide) (fun _ => ?_) (fun h9 => absurd (by rw [ha]; exact lg_self _) h9)
        refine lv_goto (tgt := 1709) hx hb dL_law_1059 (by decide) ?_
        exact kk _ _ _ _ _ _ _ hJ2 hS hd0 (lv_sub hl [2, 3, 4, 5, 6, 7] rfl)
  · refine lv_aload_n hx hb dL_law_959 rfl (lv_at hl 1 rfl) ?_
    refine lv_aload_n hx hb dL_law_960 rfl (lv_at hl 0 rfl) ?_
    refine lv_iload hx hb dL_law_961 (lv_at hl 5 rfl) ?_
    refine lv_iconst (v := nI 1) hx hb dL_law_963 (by decide) ?_
    refine xiaddN hx hb dL_law_964 ?_
    refine xsld hx hb hXs hbl hbA hS hL (j := i + 1) (by omega) dL_law_965 ?_
    refine lv_aload_n hx hb dL_law_966 rfl (lv_at hl 0 rfl) ?_
    refine lv_iload hx hb dL_law_967 (lv_at hl 5 rfl) ?_
    refine lv_iconst (v := nI 2) hx hb dL_law_969 (by decide) ?_
    refine xiaddN hx hb dL_law_970 ?_
    refine xsld hx hb hXs hbl hbA hS hL (j := i + 2) (by omega) dL_law_971 ?_
    refine lv_aload_n hx hb dL_law_972 rfl (lv_at hl 0 rfl) ?_
    refine lv_iload hx hb dL_law_973 (lv_at hl 5 rfl) ?_
    refine lv_iconst (v := nI 3) hx hb dL_law_975 (by decide) ?_
    refine xiaddN hx hb dL_law_976 ?_
    refine xsld hx hb hXs hbl hbA hS hL (j := i + 3) (by omega) dL_law_977 ?_
    refine lv_if_eq (tgt := 985) hx hb dL_law_978 (by decide) (fun h9 => absurd h9 (hz9)) (fun _ => ?_)
    refine lv_iconst (v := nI 1) hx hb dL_law_981 (by decide) ?_
    refine lv_goto (tgt := 986) hx hb dL_law_982 (by decide) ?_
    refine lv_aload_n hx hb dL_law_986 rfl (lv_at hl 3 rfl) ?_
    have hon_12 : nI 1 = 0 ∨ nI 1 = 1 := Or.inr rfl
    have cw_12 := vx_cwSW (R := rm_L_law) (rm := rm_L_butt) 5 (hts d0) gL_law_L_butt rfl rfl rfl (by decide +kernel) ⟨Nat.le_of_ble_eq_true rfl, Nat.le_of_ble_eq_true rfl⟩
    refine xcallW hd0 (xintoSW (As := [.ref (ad 0), .int ((xs (i + 1))), .int ((xs (i + 2))), .int (nI 1), .ref o1]) (rest := []) ⟨hx, hb, hml, hown, hts _⟩ cw_12 rfl rfl hl.1 rfl (lv_room (Nat.le_of_ble_eq_true rfl)) dL_law_987) (c_L_butt (l := l) (G := G) (ty := ty) (b0 := b0) hfl hT.2.1 hT.1 (x := (xs (i + 1))) (f := (xs (i + 2))) (on := nI 1) hon_12 hO.2.2.1 hT.2.2.2.1 (fun k z => Ne.symm (hT.2.2.1 k z).2.1)) (xoweW cw_12) hK hb0 hS hc hs (fun E_12 ce_12 q9_12 H_12 locs_12 d0 hd0 hp_12 hS _ _ _ => hp_12.elim) (fun v_12 H_12 locs_12 d0 hd0 hp_12 hS => ?_)
    obtain ⟨t9, rfl, hY_12, hj⟩ := j_butt hO hT hY hR hp_12
    show W p l e _ (s.setDrawn _) m _ below meth c _ _ _ _ _ (F0 m 990 ls [.int (t9)])
    refine lv_istore (lv' := [(6, .int (t9)), (0, .ref b), (1, .ref (ad 0)), (2, .ref m0), (3, .ref o1), (4, .ref o2), (5, .int (nI i))]) hx hb dL_law_990 hl (by decide) rfl (fun ls hl => ?_)
    refine lv_aload_n hx hb dL_law_992 rfl (lv_at hl 3 rfl) ?_
    refine lv_aload_n hx hb dL_law_993 rfl (lv_at hl 1 rfl) ?_
    refine lv_iload hx hb dL_law_994 (lv_at hl 6 rfl) ?_
    refine lv_iconst (v := nI 1) hx hb dL_law_996 (by decide) ?_
    refine xiaddN hx hb dL_law_997 ?_
    refine xsld hx hb hXs hbl hbA hS hL (j := i + 1) (by omega) dL_law_998 ?_
    refine lv_aload_n hx hb dL_law_999 rfl (lv_at hl 1 rfl) ?_
    refine lv_iload hx hb dL_law_1000 (lv_at hl 6 rfl) ?_
    refine lv_iconst (v := nI 2) hx hb dL_law_1002 (by decide) ?_
    refine xiaddN hx hb dL_law_1003 ?_
    refine xsld hx hb hXs hbl hbA hS hL (j := i + 2) (by omega) dL_law_1004 ?_
    refine lv_aload_n hx hb dL_law_1005 rfl (lv_at hl 1 rfl) ?_
    refine lv_iload hx hb dL_law_1006 (lv_at hl 6 rfl) ?_
    refine lv_iconst (v := nI 3) hx hb dL_law_1008 (by decide) ?_
    refine xiaddN hx hb dL_law_1009 ?_
    refine xsld hx hb hXs hbl hbA hS hL (j := i + 3) (by omega) dL_law_1010 ?_
    refine lv_if_eq (tgt := 1018) hx hb dL_law_1011 (by decide) (fun h9 => absurd h9 (hz9)) (fun _ => ?_)
    refine lv_iconst (v := nI 1) hx hb dL_law_1014 (by decide) ?_
    refine lv_goto (tgt := 1019) hx hb dL_law_1015 (by decide) ?_
    have cw_14 := cwV (R := rm_L_law) (rm := rm_X7_butt) 3 (hts d0) gL_law_X7_butt rfl rfl rfl (by decide +kernel) ⟨Nat.le_of_ble_eq_true rfl, Nat.le_of_ble_eq_true rfl⟩
    have hon9 : nI 1 = 0 ∨ nI 1 = 1 := Or.inr rfl
    refine xcall hd0 (xintoV (b := m0) (As := [.int ((xs (i + 1))), .int ((xs (i + 2))), .int (nI 1)]) (rest := []) ⟨hx, hb, hml, hown, hts _⟩ cw_14 (va_recv hK.1 (x1 hY_12.1) (ci := 8) (q0 := 0) rfl rfl) rfl rfl hl.1 rfl (lv_room (Nat.le_of_ble_eq_true rfl)) dL_law_1019) (c_X7_butt (l := l) (G := G) (ty := ty) (b0 := b0) (x := (xs (i + 1))) (f := (xs (i + 2))) (on := nI 1) hon9 hY_12 hT.1.1 hO.1 hO.2.1) (xoweB cw_14.1) hK hb0 hS hc hs (fun E_14 ce_14 q9_14 H_14 locs_14 d0 hd0 hp_14 hS _ _ _ => hp_14.elim) (fun v_14 H_14 locs_14 d0 hd0 hp_14 hS => ?_)
    obtain ⟨z9, g1, g2, rfl, hJ2, ha⟩ := hj _ _ hp_14
    obtain ⟨ad2, nb2, pl2, wi2, hi2, fa2, un3, bu2, lo3, la3, cx2, cy2, bx2, nf2, co2, dr2, un4, fc2, lo4, la4, px2, py2, pz2, hq2, hT2, hY2, -⟩ := id hJ2
    show W p l e _ (s.setDrawn _) m _ below meth c _ _ _ _ _ (F0 m 1022 ls [.int (z9)])
    refine lv_istore (lv' := [(7, .int (z9)), (6, .int (t9)), (0, .ref b), (1, .ref (ad 0)), (2, .ref m0), (3, .ref o1), (4, .ref o2), (5, .int (nI i))]) hx hb dL_law_1022 hl (by decide) rfl (fun ls hl => ?_)
    refine lv_aload_n hx hb dL_law_1024 rfl (lv_at hl 4 rfl) ?_
    have cw_15 := cwV (R := rm_L_law) (rm := rm_X7_thrown) 0 (hts d0) gL_law_X7_thrown rfl rfl rfl (by decide +kernel) ⟨Nat.le_of_ble_eq_true rfl, Nat.le_of_ble_eq_true rfl⟩
    refine xcall hd0 (xintoV (b := m0) (As := []) (rest := []) ⟨hx, hb, hml, hown, hts _⟩ cw_15 (va_recv hK.1 (x1 hY2.1) (ci := 8) (q0 := 0) rfl rfl) rfl rfl hl.1 rfl (lv_room (Nat.le_of_ble_eq_true rfl)) dL_law_1025) (c_X7_thrown (l := l) (G := G) (ty := ty) (b0 := b0) hY2 hT2.1.1) (xoweB cw_15.1) hK hb0 hS hc hs (fun E_15 ce_15 q9_15 H_15 locs_15 d0 hd0 hp_15 hS _ _ _ => hp_15.elim) (fun v_15 H_15 locs_15 d0 hd0 hp_15 hS => ?_)
    obtain ⟨rfl, rfl⟩ := hp_15
    show W p l e _ (s.setDrawn _) m _ below meth c _ _ _ _ _ (F0 m 1028 ls [.int (t9)])
    refine lv_iload hx hb dL_law_1028 (lv_at hl 1 rfl) ?_
    refine lv_icmp_eq (tgt := 1035) hx hb dL_law_1030 (by decide) (fun _ => ?_) (fun h9 => absurd (rfl) h9)
    refine lv_iload hx hb dL_law_1035 (lv_at hl 1 rfl) ?_
    refine lv_if_ne (tgt := 1059) hx hb dL_law_1037 (by decide) (fun c_17 => ?_) (fun c_17 => ?_)
    · refine lv_goto (tgt := 1709) hx hb dL_law_1059 (by decide) ?_
      exact kk _ _ _ _ _ _ _ hJ2 hS hd0 (lv_sub hl [2, 3, 4, 5, 6, 7] rfl)
    · have ha := ha c_17
      refine lv_aload_n hx hb dL_law_1040 rfl (lv_at hl 5 rfl) ?_
      refine lv_iconst (v := nI 0) hx hb dL_law_1041 (by decide) ?_
      refine xlald (j := 0) hx hb hK.1 3 hT2.2.2.2.1 rfl (xix_of (by omega) (by omega)) dL_law_1042 ?_
      refine lv_iload hx hb dL_law_1043 (lv_at hl 0 rfl) ?_
      refine lv_if_eq (tgt := 1052) hx hb dL_law_1045 (by decide) (fun c_18 => ?_) (fun c_18 => ?_)
      · refine lv_lconst (v := 0) hx hb dL_law_1052 (by decide) ?_
        rw [if_pos c_18] at ha
        refine W.lcmp hx hb dL_law_1053 ?_
        refine lv_if_eq (tgt := 1059) hx hb dL_law_1054 (by decide) (fun _ => ?_) (fun h9 => absurd (by rw [ha]; exact lg_self _) h9)
        refine lv_goto (tgt := 1709) hx hb dL_law_1059 (by decide) ?_
        exact kk _ _ _ _ _ _ _ hJ2 hS hd0 (lv_sub hl [2, 3, 4, 5, 6, 7] rfl)
      · refine lv_lconst (v := 1) hx hb dL_law_1048 (by decide) ?_
        refine lv_goto (tgt := 1053) hx hb dL_law_1049 (by decide) ?_
        rw [if_neg c_18] at ha
        refine W.lcmp hx hb dL_law_1053 ?_
        refine lv_if_eq (tgt := 1059) hx hb dL_law_1054 (by decide) (fun _ => ?_) (fun h9 => absurd (by rw [ha]; exact lg_self _) h9)
        refine lv_goto (tgt := 1709) hx hb dL_law_1059 (by decide) ?_
        exact kk _ _ _ _ _ _ _ hJ2 hS hd0 (lv_sub hl [2, 3, 4, 5, 6, 7] rfl)
set_option maxHeartbeats 4000000 in
set_option maxRecDepth 100000 in
theorem case_spans (hC : lwC p s m c b L xs G ty b0) (hfl : l.stackTraces = false) (hO : xAo b0 m0 A o1 o2) (hi6 : i + 6 ≤ L) (hJ : xJ G ty b0 F R m0 A o1 o2 q0 th f1 f2 H) (hS : va_S (xA b0) s.heap H locs) (hd0 : s.drawn.sameBut d0 lw_cs) (hl : lv_has ls 9 [(0, .ref b), (1, .ref q0), (2, .ref m0), (3, .ref o1), (4, .ref o2), (5, .int (nI i))]) (hc : cells + 20 ≤ 675798) (hs : slots + 150 ≤ 7068677)
    (kk : ∀ (th : Int32) (f1 : Nat → Int64) (f2 : Nat → UInt64) (H1 : Heap) (locs1 : List Loc) (d1 : Drawn) (ls1 : Array Slot), xJ G ty b0 F R m0 A o1 o2 q0 th f1 f2 H1 → va_S (xA b0) s.heap H1 locs1 → s.drawn.sameBut d1 lw_cs → lv_has ls1 9 [(0, .ref b), (1, .ref q0), (2, .ref m0), (3, .ref o1), (4, .ref o2), (5, .int (nI i))] → W p l e rm_L_law (s.setDrawn d1) m #[Value.ref b] below meth c H1 locs1 (cells + 20) (slots + 150) Q (F0 m 1709 ls1 [])) :
    W p l e rm_L_law (s.setDrawn d0) m #[Value.ref b] below meth c H locs cells slots Q (F0 m 1062 ls []) := by
  obtain ⟨hx, hb, hml, hown, hts0, hXs, hbl, hbA, hL, hK, hb0⟩ := hC
  have hts : ∀ d0 : Drawn, ∀ w ∈ wsL_law, w.before #[Value.ref b] (s.setDrawn d0) = true := fun d0 => dr_words hts0 d0
  obtain ⟨ad, nb, pl, wi, hi, fa, un, bu, lo, la, cx, cy, bx, nf, co, dr, un2, fc, lo2, la2, px, py, pz, hq, hT, hY, hR⟩ := hJ
  subst hq
  obtain ⟨⟨zF2, zF8⟩, ⟨zR2, zR8⟩⟩ := id hT.1.1
  have zB4 := hT.1.2.1
  refine lv_aload_n hx hb dL_law_1062 rfl (lv_at hl 1 rfl) ?_
  refine lv_aload_n hx hb dL_law_1063 rfl (lv_at hl 0 rfl) ?_
  refine lv_iload hx hb dL_law_1064 (lv_at hl 5 rfl) ?_
  refine lv_iconst (v := nI 1) hx hb dL_law_1066 (by decide) ?_
  refine xiaddN hx hb dL_law_1067 ?_
  refine xsld hx hb hXs hbl hbA hS hL (j := i + 1) (by omega) dL_law_1068 ?_
  refine lv_aload_n hx hb dL_law_1069 rfl (lv_at hl 3 rfl) ?_
  have cw_1 := vx_cwSW (R := rm_L_law) (rm := rm_L_spans) 3 (hts d0) gL_law_L_spans rfl rfl rfl (by decide +kernel) ⟨Nat.le_of_ble_eq_true rfl, Nat.le_of_ble_eq_true rfl⟩
  refine xcallW hd0 (xintoSW (As := [.ref (ad 0), .int ((xs (i + 1))), .ref o1]) (rest := []) ⟨hx, hb, hml, hown, hts _⟩ cw_1 rfl rfl hl.1 rfl (lv_room (Nat.le_of_ble_eq_true rfl)) dL_law_1070) (c_L_spans (l := l) (G := G) (ty := ty) (b0 := b0) hfl hT.2.1 hT.1 (n := (xs (i + 1))) hO.2.2.1 hT.2.2.2.1 (fun k z => Ne.symm (hT.2.2.1 k z).2.1)) (xoweW cw_1) hK hb0 hS hc hs (fun E_1 ce_1 q9_1 H_1 locs_1 d0 hd0 hp_1 hS _ _ _ => hp_1.elim) (fun v_1 H_1 locs_1 d0 hd0 hp_1 hS => ?_)
  obtain ⟨t9, rfl, hY_1, hj⟩ := j_spans hO hT hY hR hp_1
  show W p l e _ (s.setDrawn _) m _ below meth c _ _ _ _ _ (F0 m 1073 ls [.int (t9)])
  refine lv_istore (lv' := [(6, .int (t9)), (0, .ref b), (1, .ref (ad 0)), (2, .ref m0), (3, .ref o1), (4, .ref o2), (5, .int (nI i))]) hx hb dL_law_1073 hl (by decide) rfl (fun ls hl => ?_)
  refine lv_aload_n hx hb dL_law_1075 rfl (lv_at hl 3 rfl) ?_
  refine lv_aload_n hx hb dL_law_1076 rfl (lv_at hl 1 rfl) ?_
  refine lv_iload hx hb dL_law_1077 (lv_at hl 6 rfl) ?_
  refine lv_iconst (v := nI 1) hx hb dL_law_1079 (by decide) ?_
  refine xiaddN hx hb dL_law_1080 ?_
  refine xsld hx hb hXs hbl hbA hS hL (j := i + 1) (by omega) dL_law_1081 ?_
  have cw_2 := cwV (R := rm_L_law) (rm := rm_X7_spans) 1 (hts d0) gL_law_X7_spans rfl rfl rfl (by decide +kernel) ⟨Nat.le_of_ble_eq_true rfl, Nat.le_of_ble_eq_true rfl⟩
  refine xcall hd0 (xintoV (b := m0) (As := [.int ((xs (i + 1)))]) (rest := []) ⟨hx, hb, hml, hown, hts _⟩ cw_2 (va_recv hK.1 (x1 hY_1.1) (ci := 8) (q0 := 0) rfl rfl) rfl rfl hl.1 rfl (lv_room (Nat.le_of_ble_eq_true rfl)) dL_law_1082) (c_X7_spans (l := l) (G := G) (ty := ty) (b0 := b0) (n := (xs (i + 1))) hY_1 hT.1.1 hO.1 hO.2.1) (xoweB cw_2.1) hK hb0 hS hc hs (fun E_2 ce_2 q9_2 H_2 locs_2 d0 hd0 hp_2 hS _ _ _ => hp_2.elim) (fun v_2 H_2 locs_2 d0 hd0 hp_2 hS => ?_)
  obtain ⟨z9, g1, g2, rfl, hJ2, ha⟩ := hj _ _ hp_2
  obtain ⟨ad2, nb2, pl2, wi2, hi2, fa2, un3, bu2, lo3, la3, cx2, cy2, bx2, nf2, co2, dr2, un4, fc2, lo4, la4, px2, py2, pz2, hq2, hT2, hY2, -⟩ := id hJ2
  show W p l e _ (s.setDrawn _) m _ below meth c _ _ _ _ _ (F0 m 1085 ls [.int (z9)])
  refine lv_istore (lv' := [(7, .int (z9)), (6, .int (t9)), (0, .ref b), (1, .ref (ad 0)), (2, .ref m0), (3, .ref o1), (4, .ref o2), (5, .int (nI i))]) hx hb dL_law_1085 hl (by decide) rfl (fun ls hl => ?_)
  refine lv_aload_n hx hb dL_law_1087 rfl (lv_at hl 4 rfl) ?_
  have cw_3 := cwV (R := rm_L_law) (rm := rm_X7_thrown) 0 (hts d0) gL_law_X7_thrown rfl rfl rfl (by decide +kernel) ⟨Nat.le_of_ble_eq_true rfl, Nat.le_of_ble_eq_true rfl⟩
  refine xcall hd0 (xintoV (b := m0) (As := []) (rest := []) ⟨hx, hb, hml, hown, hts _⟩ cw_3 (va_recv hK.1 (x1 hY2.1) (ci := 8) (q0 := 0) rfl rfl) rfl rfl hl.1 rfl (lv_room (Nat.le_of_ble_eq_true rfl)) dL_law_1088) (c_X7_thrown (l := l) (G := G) (ty := ty) (b0 := b0) hY2 hT2.1.1) (xoweB cw_3.1) hK hb0 hS hc hs (fun E_3 ce_3 q9_3 H_3 locs_3 d0 hd0 hp_3 hS _ _ _ => hp_3.elim) (fun v_3 H_3 locs_3 d0 hd0 hp_3 hS => ?_)
  obtain ⟨rfl, rfl⟩ := hp_3
  show W p l e _ (s.setDrawn _) m _ below meth c _ _ _ _ _ (F0 m 1091 ls [.int (t9)])
  refine lv_iload hx hb dL_law_1091 (lv_at hl 1 rfl) ?_
  refine lv_icmp_eq (tgt := 1098) hx hb dL_law_1093 (by decide) (fun _ => ?_) (fun h9 => absurd (rfl) h9)
  refine lv_iload hx hb dL_law_1098 (lv_at hl 1 rfl) ?_
  refine lv_if_ne (tgt := 1122) hx hb dL_law_1100 (by decide) (fun c_5 => ?_) (fun c_5 => ?_)
  · refine lv_goto (tgt := 1709) hx hb dL_law_1122 (by decide) ?_
    exact kk _ _ _ _ _ _ _ hJ2 hS hd0 (lv_sub hl [2, 3, 4, 5, 6, 7] rfl)
  · have ha := ha c_5
    refine lv_aload_n hx hb dL_law_1103 rfl (lv_at hl 5 rfl) ?_
    refine lv_iconst (v := nI 0) hx hb dL_law_1104 (by decide) ?_
    refine xlald (j := 0) hx hb hK.1 3 hT2.2.2.2.1 rfl (xix_of (by omega) (by omega)) dL_law_1105 ?_
    refine lv_iload hx hb dL_law_1106 (lv_at hl 0 rfl) ?_
    refine lv_if_eq (tgt := 1115) hx hb dL_law_1108 (by decide) (fun c_6 => ?_) (fun c_6 => ?_)
    · refine lv_lconst (v := 0) hx hb dL_law_1115 (by decide) ?_
      rw [if_pos c_6] at ha
      refine W.lcmp hx hb dL_law_1116 ?_
      refine lv_if_eq (tgt := 1122) hx hb dL_law_1117 (by decide) (fun _ => ?_) (fun h9 => absurd (by rw [ha]; exact lg_self _) h9)
      refine lv_goto (tgt := 1709) hx hb dL_law_1122 (by decide) ?_
      exact kk _ _ _ _ _ _ _ hJ2 hS hd0 (lv_sub hl [2, 3, 4, 5, 6, 7] rfl)
    · refine lv_lconst (v := 1) hx hb dL_law_1111 (by decide) ?_
      refine lv_goto (tgt := 1116) hx hb dL_law_1112 (by decide) ?_
      rw [if_neg c_6] at ha
      refine W.lcmp hx hb dL_law_1116 ?_
      refine lv_if_eq (tgt := 1122) hx hb dL_law_1117 (by decide) (fun _ => ?_) (fun h9 => absurd (by rw [ha]; exact lg_self _) h9)
      refine lv_goto (tgt := 1709) hx hb dL_law_1122 (by decide) ?_
      exact kk _ _ _ _ _ _ _ hJ2 hS hd0 (lv_sub hl [2, 3, 4, 5, 6, 7] rfl)
set_option maxHeartbeats 4000000 in
set_option maxRecDepth 100000 in
theorem case_board (hC : lwC p s m c b L xs G ty b0) (hfl : l.stackTraces = false) (hO : xAo b0 m0 A o1 o2) (hi6 : i + 6 ≤ L) (hJ : xJ G ty b0 F R m0 A o1 o2 q0 th f1 f2 H) (hS : va_S (xA b0) s.heap H locs) (hd0 : s.drawn.sameBut d0 lw_cs) (hl : lv_has ls 9 [(0, .ref b), (1, .ref q0), (2, .ref m0), (3, .ref o1), (4, .ref o2), (5, .int (nI i))]) (hc : cells + 20 ≤ 675798) (hs : slots + 150 ≤ 7068677)
    (kk : ∀ (th : Int32) (f1 : Nat → Int64) (f2 : Nat → UInt64) (H1 : Heap) (locs1 : List Loc) (d1 : Drawn) (ls1 : Array Slot), xJ G ty b0 F R m0 A o1 o2 q0 th f1 f2 H1 → va_S (xA b0) s.heap H1 locs1 → s.drawn.sameBut d1 lw_cs → lv_has ls1 9 [(0, .ref b), (1, .ref q0), (2, .ref m0), (3, .ref o1), (4, .ref o2), (5, .int (nI i))] → W p l e rm_L_law (s.setDrawn d1) m #[Value.ref b] below meth c H1 locs1 (cells + 20) (slots + 150) Q (F0 m 1709 ls1 [])) :
    W p l e rm_L_law (s.setDrawn d0) m #[Value.ref b] below meth c H locs cells slots Q (F0 m 1125 ls []) := by
  obtain ⟨hx, hb, hml, hown, hts0, hXs, hbl, hbA, hL, hK, hb0⟩ := hC
  have hts : ∀ d0 : Drawn, ∀ w ∈ wsL_law, w.before #[Value.ref b] (s.setDrawn d0) = true := fun d0 => dr_words hts0 d0
  obtain ⟨ad, nb, pl, wi, hi, fa, un, bu, lo, la, cx, cy, bx, nf, co, dr, un2, fc, lo2, la2, px, py, pz, hq, hT, hY, hR⟩ := hJ
  subst hq
  obtain ⟨⟨zF2, zF8⟩, ⟨zR2, zR8⟩⟩ := id hT.1.1
  have zB4 := hT.1.2.1
  refine lv_aload_n hx hb dL_law_1125 rfl (lv_at hl 1 rfl) ?_
  refine lv_aload_n hx hb dL_law_1126 rfl (lv_at hl 0 rfl) ?_
  refine lv_iload hx hb dL_law_1127 (lv_at hl 5 rfl) ?_
  refine lv_iconst (v := nI 1) hx hb dL_law_1129 (by decide) ?_
  refine xiaddN hx hb dL_law_1130 ?_
  refine xsld hx hb hXs hbl hbA hS hL (j := i + 1) (by omega) dL_law_1131 ?_
  refine lv_i2d hx hb dL_law_1132 ?_
  refine lv_ldc2d hx hb hown (hts d0 _ hw_L_law_0) dL_law_1133 ?_
  refine xdmul hd0 hx hb (vq_rf _) (vq_rf _) dL_law_1136 (fun r_1 d0 q_1 hd0 => ?_)
  have e_1 : r_1 = xE (xs (i + 1)) := vq_same q_1 (xE_fin _).1.nn
  subst e_1
  refine lv_aload_n hx hb dL_law_1137 rfl (lv_at hl 0 rfl) ?_
  refine lv_iload hx hb dL_law_1138 (lv_at hl 5 rfl) ?_
  refine lv_iconst (v := nI 2) hx hb dL_law_1140 (by decide) ?_
  refine xiaddN hx hb dL_law_1141 ?_
  refine xsld hx hb hXs hbl hbA hS hL (j := i + 2) (by omega) dL_law_1142 ?_
  refine lv_i2d hx hb dL_law_1143 ?_
  refine lv_ldc2d hx hb hown (hts d0 _ hw_L_law_0) dL_law_1144 ?_
  refine xdmul hd0 hx hb (vq_rf _) (vq_rf _) dL_law_1147 (fun r_2 d0 q_2 hd0 => ?_)
  have e_2 : r_2 = xE (xs (i + 2)) := vq_same q_2 (xE_fin _).1.nn
  subst e_2
  refine lv_aload_n hx hb dL_law_1148 rfl (lv_at hl 3 rfl) ?_
  have cw_3 := vx_cwSW (R := rm_L_law) (rm := rm_L_board) 4 (hts d0) gL_law_L_board rfl rfl rfl (by decide +kernel) ⟨Nat.le_of_ble_eq_true rfl, Nat.le_of_ble_eq_true rfl⟩
  refine xcallW hd0 (xintoSW (As := [.ref (ad 0), .double (xE (xs (i + 1))), .double (xE (xs (i + 2))), .ref o1]) (rest := []) ⟨hx, hb, hml, hown, hts _⟩ cw_3 rfl rfl hl.1 rfl (lv_room (Nat.le_of_ble_eq_true rfl)) dL_law_1149) (c_L_board (l := l) (G := G) (ty := ty) (b0 := b0) hfl hT.2.1 hT.1 (x := (xE (xs (i + 1)))) (y := (xE (xs (i + 2)))) (vq_rf _) (vq_rf _) hO.2.2.1 hT.2.2.2.1 (fun k z => Ne.symm (hT.2.2.1 k z).2.1)) (xoweW cw_3) hK hb0 hS hc hs (fun E_3 ce_3 q9_3 H_3 locs_3 d0 hd0 hp_3 hS _ _ _ => hp_3.elim) (fun v_3 H_3 locs_3 d0 hd0 hp_3 hS => ?_)
  obtain ⟨t9, rfl, hY_3, hj⟩ := j_board hO hT hY hR hp_3
  show W p l e _ (s.setDrawn _) m _ below meth c _ _ _ _ _ (F0 m 1152 ls [.int (t9)])
  refine lv_istore (lv' := [(6, .int (t9)), (0, .ref b), (1, .ref (ad 0)), (2, .ref m0), (3, .ref o1), (4, .ref o2), (5, .int (nI i))]) hx hb dL_law_1152 hl (by decide) rfl (fun ls hl => ?_)
  refine lv_aload_n hx hb dL_law_1154 rfl (lv_at hl 3 rfl) ?_
  refine lv_aload_n hx hb dL_law_1155 rfl (lv_at hl 1 rfl) ?_
  refine lv_iload hx hb dL_law_1156 (lv_at hl 6 rfl) ?_
  refine lv_iconst (v := nI 1) hx hb dL_law_1158 (by decide) ?_
  refine xiaddN hx hb dL_law_1159 ?_
  refine xsld hx hb hXs hbl hbA hS hL (j := i + 1) (by omega) dL_law_1160 ?_
  refine lv_i2d hx hb dL_law_1161 ?_
  refine lv_ldc2d hx hb hown (hts d0 _ hw_L_law_0) dL_law_1162 ?_
  refine xdmul hd0 hx hb (vq_rf _) (vq_rf _) dL_law_1165 (fun r_4 d0 q_4 hd0 => ?_)
  have e_4 : r_4 = xE (xs (i + 1)) := vq_same q_4 (xE_fin _).1.nn
  subst e_4
  refine lv_aload_n hx hb dL_law_1166 rfl (lv_at hl 1 rfl) ?_
  refine lv_iload hx hb dL_law_1167 (lv_at hl 6 rfl) ?_
  refine lv_iconst (v := nI 2) hx hb dL_law_1169 (by decide) ?_
  refine xiaddN hx hb dL_law_1170 ?_
  refine xsld hx hb hXs hbl hbA hS hL (j := i + 2) (by omega) dL_law_1171 ?_
  refine lv_i2d hx hb dL_law_1172 ?_
  refine lv_ldc2d hx hb hown (hts d0 _ hw_L_law_0) dL_law_1173 ?_
  refine xdmul hd0 hx hb (vq_rf _) (vq_rf _) dL_law_1176 (fun r_5 d0 q_5 hd0 => ?_)
  have e_5 : r_5 = xE (xs (i + 2)) := vq_same q_5 (xE_fin _).1.nn
  subst e_5
  have cw_6 := cwV (R := rm_L_law) (rm := rm_X7_board) 2 (hts d0) gL_law_X7_board rfl rfl rfl (by decide +kernel) ⟨Nat.le_of_ble_eq_true rfl, Nat.le_of_ble_eq_true rfl⟩
  refine xcall hd0 (xintoV (b := m0) (As := [.double (xE (xs (i + 1))), .double (xE (xs (i + 2)))]) (rest := []) ⟨hx, hb, hml, hown, hts _⟩ cw_6 (va_recv hK.1 (x1 hY_3.1) (ci := 8) (q0 := 0) rfl rfl) rfl rfl hl.1 rfl (lv_room (Nat.le_of_ble_eq_true rfl)) dL_law_1177) (c_X7_board (l := l) (G := G) (ty := ty) (b0 := b0) (x := (xE (xs (i + 1)))) (h := (xE (xs (i + 2)))) hY_3 hT.1.1 hO.1 hO.2.1 zB4 (vq_rf _) (vq_rf _)) (xoweB cw_6.1) hK hb0 hS hc hs (fun E_6 ce_6 q9_6 H_6 locs_6 d0 hd0 hp_6 hS _ _ _ => hp_6.elim) (fun v_6 H_6 locs_6 d0 hd0 hp_6 hS => ?_)
  obtain ⟨z9, g1, g2, rfl, hJ2, ha⟩ := hj _ _ hp_6
  obtain ⟨ad2, nb2, pl2, wi2, hi2, fa2, un3, bu2, lo3, la3, cx2, cy2, bx2, nf2, co2, dr2, un4, fc2, lo4, la4, px2, py2, pz2, hq2, hT2, hY2, -⟩ := id hJ2
  show W p l e _ (s.setDrawn _) m _ below meth c _ _ _ _ _ (F0 m 1180 ls [.int (z9)])
  refine lv_istore (lv' := [(7, .int (z9)), (6, .int (t9)), (0, .ref b), (1, .ref (ad 0)), (2, .ref m0), (3, .ref o1), (4, .ref o2), (5, .int (nI i))]) hx hb dL_law_1180 hl (by decide) rfl (fun ls hl => ?_)
  refine lv_aload_n hx hb dL_law_1182 rfl (lv_at hl 4 rfl) ?_
  have cw_7 := cwV (R := rm_L_law) (rm := rm_X7_thrown) 0 (hts d0) gL_law_X7_thrown rfl rfl rfl (by decide +kernel) ⟨Nat.le_of_ble_eq_true rfl, Nat.le_of_ble_eq_true rfl⟩
  refine xcall hd0 (xintoV (b := m0) (As := []) (rest := []) ⟨hx, hb, hml, hown, hts _⟩ cw_7 (va_recv hK.1 (x1 hY2.1) (ci := 8) (q0 := 0) rfl rfl) rfl rfl hl.1 rfl (lv_room (Nat.le_of_ble_eq_true rfl)) dL_law_1183) (c_X7_thrown (l := l) (G := G) (ty := ty) (b0 := b0) hY2 hT2.1.1) (xoweB cw_7.1) hK hb0 hS hc hs (fun E_7 ce_7 q9_7 H_7 locs_7 d0 hd0 hp_7 hS _ _ _ => hp_7.elim) (fun v_7 H_7 locs_7 d0 hd0 hp_7 hS => ?_)
  obtain ⟨rfl, rfl⟩ := hp_7
  show W p l e _ (s.setDrawn _) m _ below meth c _ _ _ _ _ (F0 m 1186 ls [.int (t9)])
  refine lv_iload hx hb dL_law_1186 (lv_at hl 1 rfl) ?_
  refine lv_icmp_eq (tgt := 1193) hx hb dL_law_1188 (by decide) (fun _ => ?_) (fun h9 => absurd (rfl) h9)
  refine lv_iload hx hb dL_law_1193 (lv_at hl 1 rfl) ?_
  refine lv_if_ne (tgt := 1210) hx hb dL_law_1195 (by decide) (fun c_9 => ?_) (fun c_9 => ?_)
  · refine lv_goto (tgt := 1709) hx hb dL_law_1210 (by decide) ?_
    exact kk _ _ _ _ _ _ _ hJ2 hS hd0 (lv_sub hl [2, 3, 4, 5, 6, 7] rfl)
  · have ha := ha c_9
    refine lv_aload_n hx hb dL_law_1198 rfl (lv_at hl 5 rfl) ?_
    refine lv_iconst (v := nI 0) hx hb dL_law_1199 (by decide) ?_
    refine xlald (j := 0) hx hb hK.1 3 hT2.2.2.2.1 rfl (xix_of (by omega) (by omega)) dL_law_1200 ?_
    refine lv_iload hx hb dL_law_1201 (lv_at hl 0 rfl) ?_
    refine lv_i2l (v := (z9).toInt64) hx hb dL_law_1203 rfl ?_
    refine W.lcmp hx hb dL_law_1204 ?_
    refine lv_if_eq (tgt := 1210) hx hb dL_law_1205 (by decide) (fun _ => ?_) (fun h9 => absurd (by rw [ha]; exact lg_self _) h9)
    refine lv_goto (tgt := 1709) hx hb dL_law_1210 (by decide) ?_
    exact kk _ _ _ _ _ _ _ hJ2 hS hd0 (lv_sub hl [2, 3, 4, 5, 6, 7] rfl)
set_option maxHeartbeats 4000000 in
set_option maxRecDepth 100000 in
theorem case_fault (hC : lwC p s m c b L xs G ty b0) (hfl : l.stackTraces = false) (hO : xAo b0 m0 A o1 o2) (hi6 : i + 6 ≤ L) (hJ : xJ G ty b0 F R m0 A o1 o2 q0 th f1 f2 H) (hS : va_S (xA b0) s.heap H locs) (hd0 : s.drawn.sameBut d0 lw_cs) (hl : lv_has ls 9 [(0, .ref b), (1, .ref q0), (2, .ref m0), (3, .ref o1), (4, .ref o2), (5, .int (nI i))]) (hc : cells + 20 ≤ 675798) (hs : slots + 150 ≤ 7068677)
    (kk : ∀ (th : Int32) (f1 : Nat → Int64) (f2 : Nat → UInt64) (H1 : Heap) (locs1 : List Loc) (d1 : Drawn) (ls1 : Array Slot), xJ G ty b0 F R m0 A o1 o2 q0 th f1 f2 H1 → va_S (xA b0) s.heap H1 locs1 → s.drawn.sameBut d1 lw_cs → lv_has ls1 9 [(0, .ref b), (1, .ref q0), (2, .ref m0), (3, .ref o1), (4, .ref o2), (5, .int (nI i))] → W p l e rm_L_law (s.setDrawn d1) m #[Value.ref b] below meth c H1 locs1 (cells + 20) (slots + 150) Q (F0 m 1709 ls1 [])) :
    W p l e rm_L_law (s.setDrawn d0) m #[Value.ref b] below meth c H locs cells slots Q (F0 m 1213 ls []) := by
  obtain ⟨hx, hb, hml, hown, hts0, hXs, hbl, hbA, hL, hK, hb0⟩ := hC
  have hts : ∀ d0 : Drawn, ∀ w ∈ wsL_law, w.before #[Value.ref b] (s.setDrawn d0) = true := fun d0 => dr_words hts0 d0
  obtain ⟨ad, nb, pl, wi, hi, fa, un, bu, lo, la, cx, cy, bx, nf, co, dr, un2, fc, lo2, la2, px, py, pz, hq, hT, hY, hR⟩ := hJ
  subst hq
  obtain ⟨⟨zF2, zF8⟩, ⟨zR2, zR8⟩⟩ := id hT.1.1
  have zB4 := hT.1.2.1
  refine lv_aload_n hx hb dL_law_1213 rfl (lv_at hl 1 rfl) ?_
  refine lv_aload_n hx hb dL_law_1214 rfl (lv_at hl 0 rfl) ?_
  refine lv_iload hx hb dL_law_1215 (lv_at hl 5 rfl) ?_
  refine lv_iconst (v := nI 1) hx hb dL_law_1217 (by decide) ?_
  refine xiaddN hx hb dL_law_1218 ?_
  refine xsld hx hb hXs hbl hbA hS hL (j := i + 1) (by omega) dL_law_1219 ?_
  refine lv_aload_n hx hb dL_law_1220 rfl (lv_at hl 0 rfl) ?_
  refine lv_iload hx hb dL_law_1221 (lv_at hl 5 rfl) ?_
  refine lv_iconst (v := nI 2) hx hb dL_law_1223 (by decide) ?_
  refine xiaddN hx hb dL_law_1224 ?_
  refine xsld hx hb hXs hbl hbA hS hL (j := i + 2) (by omega) dL_law_1225 ?_
  refine lv_i2d hx hb dL_law_1226 ?_
  refine lv_ldc2d hx hb hown (hts d0 _ hw_L_law_0) dL_law_1227 ?_
  refine xdmul hd0 hx hb (vq_rf _) (vq_rf _) dL_law_1230 (fun r_1 d0 q_1 hd0 => ?_)
  have e_1 : r_1 = xE (xs (i + 2)) := vq_same q_1 (xE_fin _).1.nn
  subst e_1
  refine lv_aload_n hx hb dL_law_1231 rfl (lv_at hl 0 rfl) ?_
  refine lv_iload hx hb dL_law_1232 (lv_at hl 5 rfl) ?_
  refine lv_iconst (v := nI 3) hx hb dL_law_1234 (by decide) ?_
  refine xiaddN hx hb dL_law_1235 ?_
  refine xsld hx hb hXs hbl hbA hS hL (j := i + 3) (by omega) dL_law_1236 ?_
  refine lv_i2d hx hb dL_law_1237 ?_
  refine lv_ldc2d hx hb hown (hts d0 _ hw_L_law_0) dL_law_1238 ?_
  refine xdmul hd0 hx hb (vq_rf _) (vq_rf _) dL_law_1241 (fun r_2 d0 q_2 hd0 => ?_)
  have e_2 : r_2 = xE (xs (i + 3)) := vq_same q_2 (xE_fin _).1.nn
  subst e_2
  refine lv_aload_n hx hb dL_law_1242 rfl (lv_at hl 0 rfl) ?_
  refine lv_iload hx hb dL_law_1243 (lv_at hl 5 rfl) ?_
  refine lv_iconst (v := nI 4) hx hb dL_law_1245 (by decide) ?_
  refine xiaddN hx hb dL_law_1246 ?_
  refine xsld hx hb hXs hbl hbA hS hL (j := i + 4) (by omega) dL_law_1247 ?_
  refine lv_i2d hx hb dL_law_1248 ?_
  refine lv_ldc2d hx hb hown (hts d0 _ hw_L_law_0) dL_law_1249 ?_
  refine xdmul hd0 hx hb (vq_rf _) (vq_rf _) dL_law_1252 (fun r_3 d0 q_3 hd0 => ?_)
  have e_3 : r_3 = xE (xs (i + 4)) := vq_same q_3 (xE_fin _).1.nn
  subst e_3
  refine lv_aload_n hx hb dL_law_1253 rfl (lv_at hl 0 rfl) ?_
  refine lv_iload hx hb dL_law_1254 (lv_at hl 5 rfl) ?_
  refine lv_iconst (v := nI 5) hx hb dL_law_1256 (by decide) ?_
  refine xiaddN hx hb dL_law_1257 ?_
  refine xsld hx hb hXs hbl hbA hS hL (j := i + 5) (by omega) dL_law_1258 ?_
  refine lv_i2d hx hb dL_law_1259 ?_
  refine lv_ldc2d hx hb hown (hts d0 _ hw_L_law_0) dL_law_1260 ?_
  refine xdmul hd0 hx hb (vq_rf _) (vq_rf _) dL_law_1263 (fun r_4 d0 q_4 hd0 => ?_)
  have e_4 : r_4 = xE (xs (i + 5)) := vq_same q_4 (xE_fin _).1.nn
  subst e_4
  refine lv_aload_n hx hb dL_law_1264 rfl (lv_at hl 3 rfl) ?_
  have cw_5 := vx_cwSW (R := rm_L_law) (rm := rm_L_fault) 7 (hts d0) gL_law_L_fault rfl rfl rfl (by decide +kernel) ⟨Nat.le_of_ble_eq_true rfl, Nat.le_of_ble_eq_true rfl⟩
  refine xcallW hd0 (xintoSW (As := [.ref (ad 0), .int ((xs (i + 1))), .double (xE (xs (i + 2))), .double (xE (xs (i + 3))), .double (xE (xs (i + 4))), .double (xE (xs (i + 5))), .ref o1]) (rest := []) ⟨hx, hb, hml, hown, hts _⟩ cw_5 rfl rfl hl.1 rfl (lv_room (Nat.le_of_ble_eq_true rfl)) dL_law_1265) (c_L_fault (l := l) (G := G) (ty := ty) (b0 := b0) hfl hT.2.1 hT.1 (b := (xs (i + 1))) (x := (xE (xs (i + 2)))) (y := (xE (xs (i + 3)))) (u := (xE (xs (i + 4)))) (h := (xE (xs (i + 5)))) (vq_rf _) (vq_rf _) (vq_rf _) (vq_rf _) hO.2.2.1 hT.2.2.2.1 (fun k z => Ne.symm (hT.2.2.1 k z).2.1)) (xoweW cw_5) hK hb0 hS hc hs (fun E_5 ce_5 q9_5 H_5 locs_5 d0 hd0 hp_5 hS _ _ _ => hp_5.elim) (fun v_5 H_5 locs_5 d0 hd0 hp_5 hS => ?_)
  obtain ⟨t9, rfl, hY_5, hj⟩ := j_fault hO hT hY hR hp_5
  show W p l e _ (s.setDrawn _) m _ below meth c _ _ _ _ _ (F0 m 1268 ls [.int (t9)])
  refine lv_istore (lv' := [(6, .int (t9)), (0, .ref b), (1, .ref (ad 0)), (2, .ref m0), (3, .ref o1), (4, .ref o2), (5, .int (nI i))]) hx hb dL_law_1268 hl (by decide) rfl (fun ls hl => ?_)
  refine lv_aload_n hx hb dL_law_1270 rfl (lv_at hl 3 rfl) ?_
  refine lv_aload_n hx hb dL_law_1271 rfl (lv_at hl 1 rfl) ?_
  refine lv_iload hx hb dL_law_1272 (lv_at hl 6 rfl) ?_
  refine lv_iconst (v := nI 1) hx hb dL_law_1274 (by decide) ?_
  refine xiaddN hx hb dL_law_1275 ?_
  refine xsld hx hb hXs hbl hbA hS hL (j := i + 1) (by omega) dL_law_1276 ?_
  refine lv_aload_n hx hb dL_law_1277 rfl (lv_at hl 1 rfl) ?_
  refine lv_iload hx hb dL_law_1278 (lv_at hl 6 rfl) ?_
  refine lv_iconst (v := nI 2) hx hb dL_law_1280 (by decide) ?_
  refine xiaddN hx hb dL_law_1281 ?_
  refine xsld hx hb hXs hbl hbA hS hL (j := i + 2) (by omega) dL_law_1282 ?_
  refine lv_i2d hx hb dL_law_1283 ?_
  refine lv_ldc2d hx hb hown (hts d0 _ hw_L_law_0) dL_law_1284 ?_
  refine xdmul hd0 hx hb (vq_rf _) (vq_rf _) dL_law_1287 (fun r_6 d0 q_6 hd0 => ?_)
  have e_6 : r_6 = xE (xs (i + 2)) := vq_same q_6 (xE_fin _).1.nn
  subst e_6
  refine lv_aload_n hx hb dL_law_1288 rfl (lv_at hl 1 rfl) ?_
  refine lv_iload hx hb dL_law_1289 (lv_at hl 6 rfl) ?_
  refine lv_iconst (v := nI 3) hx hb dL_law_1291 (by decide) ?_
  refine xiaddN hx hb dL_law_1292 ?_
  refine xsld hx hb hXs hbl hbA hS hL (j := i + 3) (by omega) dL_law_1293 ?_
  refine lv_i2d hx hb dL_law_1294 ?_
  refine lv_ldc2d hx hb hown (hts d0 _ hw_L_law_0) dL_law_1295 ?_
  refine xdmul hd0 hx hb (vq_rf _) (vq_rf _) dL_law_1298 (fun r_7 d0 q_7 hd0 => ?_)
  have e_7 : r_7 = xE (xs (i + 3)) := vq_same q_7 (xE_fin _).1.nn
  subst e_7
  refine lv_aload_n hx hb dL_law_1299 rfl (lv_at hl 1 rfl) ?_
  refine lv_iload hx hb dL_law_1300 (lv_at hl 6 rfl) ?_
  refine lv_iconst (v := nI 4) hx hb dL_law_1302 (by decide) ?_
  refine xiaddN hx hb dL_law_1303 ?_
  refine xsld hx hb hXs hbl hbA hS hL (j := i + 4) (by omega) dL_law_1304 ?_
  refine lv_i2d hx hb dL_law_1305 ?_
  refine lv_ldc2d hx hb hown (hts d0 _ hw_L_law_0) dL_law_1306 ?_
  refine xdmul hd0 hx hb (vq_rf _) (vq_rf _) dL_law_1309 (fun r_8 d0 q_8 hd0 => ?_)
  have e_8 : r_8 = xE (xs (i + 4)) := vq_same q_8 (xE_fin _).1.nn
  subst e_8
  refine lv_aload_n hx hb dL_law_1310 rfl (lv_at hl 1 rfl) ?_
  refine lv_iload hx hb dL_law_1311 (lv_at hl 6 rfl) ?_
  refine lv_iconst (v := nI 5) hx hb dL_law_1313 (by decide) ?_
  refine xiaddN hx hb dL_law_1314 ?_
  refine xsld hx hb hXs hbl hbA hS hL (j := i + 5) (by omega) dL_law_1315 ?_
  refine lv_i2d hx hb dL_law_1316 ?_
  refine lv_ldc2d hx hb hown (hts d0 _ hw_L_law_0) dL_law_1317 ?_
  refine xdmul hd0 hx hb (vq_rf _) (vq_rf _) dL_law_1320 (fun r_9 d0 q_9 hd0 => ?_)
  have e_9 : r_9 = xE (xs (i + 5)) := vq_same q_9 (xE_fin _).1.nn
  subst e_9
  have cw_10 := cwV (R := rm_L_law) (rm := rm_X7_fault) 5 (hts d0) gL_law_X7_fault rfl rfl rfl (by decide +kernel) ⟨Nat.le_of_ble_eq_true rfl, Nat.le_of_ble_eq_true rfl⟩
  refine xcall hd0 (xintoV (b := m0) (As := [.int ((xs (i + 1))), .double (xE (xs (i + 2))), .double (xE (xs (i + 3))), .double (xE (xs (i + 4))), .double (xE (xs (i + 5)))]) (rest := []) ⟨hx, hb, hml, hown, hts _⟩ cw_10 (va_recv hK.1 (x1 hY_5.1) (ci := 8) (q0 := 0) rfl rfl) rfl rfl hl.1 rfl (lv_room (Nat.le_of_ble_eq_true rfl)) dL_law_1321) (c_X7_fault (l := l) (G := G) (ty := ty) (b0 := b0) (b := (xs (i + 1))) (x := (xE (xs (i + 2)))) (y := (xE (xs (i + 3)))) (u := (xE (xs (i + 4)))) (h := (xE (xs (i + 5)))) hY_5 hT.1.1 hO.1 hO.2.1 zB4 (fun b9 z => ⟨(hR.2.2.2.1 b9 z).2, hT.1.2.2.1 b9 z⟩) (vq_rf _) (vq_rf _) (vq_rf _) (vq_rf _)) (xoweB cw_10.1) hK hb0 hS hc hs (fun E_10 ce_10 q9_10 H_10 locs_10 d0 hd0 hp_10 hS _ _ _ => hp_10.elim) (fun v_10 H_10 locs_10 d0 hd0 hp_10 hS => ?_)
  obtain ⟨z9, g1, g2, rfl, hJ2, ha⟩ := hj _ _ hp_10
  obtain ⟨ad2, nb2, pl2, wi2, hi2, fa2, un3, bu2, lo3, la3, cx2, cy2, bx2, nf2, co2, dr2, un4, fc2, lo4, la4, px2, py2, pz2, hq2, hT2, hY2, -⟩ := id hJ2
  show W p l e _ (s.setDrawn _) m _ below meth c _ _ _ _ _ (F0 m 1324 ls [.int (z9)])
  refine lv_istore (lv' := [(7, .int (z9)), (6, .int (t9)), (0, .ref b), (1, .ref (ad 0)), (2, .ref m0), (3, .ref o1), (4, .ref o2), (5, .int (nI i))]) hx hb dL_law_1324 hl (by decide) rfl (fun ls hl => ?_)
  refine lv_aload_n hx hb dL_law_1326 rfl (lv_at hl 4 rfl) ?_
  have cw_11 := cwV (R := rm_L_law) (rm := rm_X7_thrown) 0 (hts d0) gL_law_X7_thrown rfl rfl rfl (by decide +kernel) ⟨Nat.le_of_ble_eq_true rfl, Nat.le_of_ble_eq_true rfl⟩
  refine xcall hd0 (xintoV (b := m0) (As := []) (rest := []) ⟨hx, hb, hml, hown, hts _⟩ cw_11 (va_recv hK.1 (x1 hY2.1) (ci := 8) (q0 := 0) rfl rfl) rfl rfl hl.1 rfl (lv_room (Nat.le_of_ble_eq_true rfl)) dL_law_1327) (c_X7_thrown (l := l) (G := G) (ty := ty) (b0 := b0) hY2 hT2.1.1) (xoweB cw_11.1) hK hb0 hS hc hs (fun E_11 ce_11 q9_11 H_11 locs_11 d0 hd0 hp_11 hS _ _ _ => hp_11.elim) (fun v_11 H_11 locs_11 d0 hd0 hp_11 hS => ?_)
  obtain ⟨rfl, rfl⟩ := hp_11
  show W p l e _ (s.setDrawn _) m _ below meth c _ _ _ _ _ (F0 m 1330 ls [.int (t9)])
  refine lv_iload hx hb dL_law_1330 (lv_at hl 1 rfl) ?_
  refine lv_icmp_eq (tgt := 1337) hx hb dL_law_1332 (by decide) (fun _ => ?_) (fun h9 => absurd (rfl) h9)
  refine lv_iload hx hb dL_law_1337 (lv_at hl 1 rfl) ?_
  refine lv_if_ne (tgt := 1361) hx hb dL_law_1339 (by decide) (fun c_13 => ?_) (fun c_13 => ?_)
  · refine lv_goto (tgt := 1709) hx hb dL_law_1361 (by decide) ?_
    exact kk _ _ _ _ _ _ _ hJ2 hS hd0 (lv_sub hl [2, 3, 4, 5, 6, 7] rfl)
  · have ha := ha c_13
    refine lv_aload_n hx hb dL_law_1342 rfl (lv_at hl 5 rfl) ?_
    refine lv_iconst (v := nI 0) hx hb dL_law_1343 (by decide) ?_
    refine xlald (j := 0) hx hb hK.1 3 hT2.2.2.2.1 rfl (xix_of (by omega) (by omega)) dL_law_1344 ?_
    refine lv_iload hx hb dL_law_1345 (lv_at hl 0 rfl) ?_
    refine lv_if_eq (tgt := 1354) hx hb dL_law_1347 (by decide) (fun c_14 => ?_) (fun c_14 => ?_)
    · refine lv_lconst (v := 0) hx hb dL_law_1354 (by decide) ?_
      rw [if_pos c_14] at ha
      refine W.lcmp hx hb dL_law_1355 ?_
      refine lv_if_eq (tgt := 1361) hx hb dL_law_1356 (by decide) (fun _ => ?_) (fun h9 => absurd (by rw [ha]; exact lg_self _) h9)
      refine lv_goto (tgt := 1709) hx hb dL_law_1361 (by decide) ?_
      exact kk _ _ _ _ _ _ _ hJ2 hS hd0 (lv_sub hl [2, 3, 4, 5, 6, 7] rfl)
    · refine lv_lconst (v := 1) hx hb dL_law_1350 (by decide) ?_
      refine lv_goto (tgt := 1355) hx hb dL_law_1351 (by decide) ?_
      rw [if_neg c_14] at ha
      refine W.lcmp hx hb dL_law_1355 ?_
      refine lv_if_eq (tgt := 1361) hx hb dL_law_1356 (by decide) (fun _ => ?_) (fun h9 => absurd (by rw [ha]; exact lg_self _) h9)
      refine lv_goto (tgt := 1709) hx hb dL_law_1361 (by decide) ?_
      exact kk _ _ _ _ _ _ _ hJ2 hS hd0 (lv_sub hl [2, 3, 4, 5, 6, 7] rfl)
set_option maxHeartbeats 4000000 in
set_option maxRecDepth 100000 in
theorem case_nest (hC : lwC p s m c b L xs G ty b0) (hfl : l.stackTraces = false) (hO : xAo b0 m0 A o1 o2) (hi6 : i + 6 ≤ L) (hJ : xJ G ty b0 F R m0 A o1 o2 q0 th f1 f2 H) (hS : va_S (xA b0) s.heap H locs) (hd0 : s.drawn.sameBut d0 lw_cs) (hl : lv_has ls 9 [(0, .ref b), (1, .ref q0), (2, .ref m0), (3, .ref o1), (4, .ref o2), (5, .int (nI i))]) (hc : cells + 20 ≤ 675798) (hs : slots + 150 ≤ 7068677)
    (kk : ∀ (th : Int32) (f1 : Nat → Int64) (f2 : Nat → UInt64) (H1 : Heap) (locs1 : List Loc) (d1 : Drawn) (ls1 : Array Slot), xJ G ty b0 F R m0 A o1 o2 q0 th f1 f2 H1 → va_S (xA b0) s.heap H1 locs1 → s.drawn.sameBut d1 lw_cs → lv_has ls1 9 [(0, .ref b), (1, .ref q0), (2, .ref m0), (3, .ref o1), (4, .ref o2), (5, .int (nI i))] → W p l e rm_L_law (s.setDrawn d1) m #[Value.ref b] below meth c H1 locs1 (cells + 20) (slots + 150) Q (F0 m 1709 ls1 [])) :
    W p l e rm_L_law (s.setDrawn d0) m #[Value.ref b] below meth c H locs cells slots Q (F0 m 1364 ls []) := by
  obtain ⟨hx, hb, hml, hown, hts0, hXs, hbl, hbA, hL, hK, hb0⟩ := hC
  have hts : ∀ d0 : Drawn, ∀ w ∈ wsL_law, w.before #[Value.ref b] (s.setDrawn d0) = true := fun d0 => dr_words hts0 d0
  obtain ⟨ad, nb, pl, wi, hi, fa, un, bu, lo, la, cx, cy, bx, nf, co, dr, un2, fc, lo2, la2, px, py, pz, hq, hT, hY, hR⟩ := hJ
  subst hq
  obtain ⟨⟨zF2, zF8⟩, ⟨zR2, zR8⟩⟩ := id hT.1.1
  have zB4 := hT.1.2.1
  refine lv_aload_n hx hb dL_law_1364 rfl (lv_at hl 1 rfl) ?_
  refine lv_aload_n hx hb dL_law_1365 rfl (lv_at hl 0 rfl) ?_
  refine lv_iload hx hb dL_law_1366 (lv_at hl 5 rfl) ?_
  refine lv_iconst (v := nI 1) hx hb dL_law_1368 (by decide) ?_
  refine xiaddN hx hb dL_law_1369 ?_
  refine xsld hx hb hXs hbl hbA hS hL (j := i + 1) (by omega) dL_law_1370 ?_
  refine lv_aload_n hx hb dL_law_1371 rfl (lv_at hl 0 rfl) ?_
  refine lv_iload hx hb dL_law_1372 (lv_at hl 5 rfl) ?_
  refine lv_iconst (v := nI 2) hx hb dL_law_1374 (by decide) ?_
  refine xiaddN hx hb dL_law_1375 ?_
  refine xsld hx hb hXs hbl hbA hS hL (j := i + 2) (by omega) dL_law_1376 ?_
  refine lv_aload_n hx hb dL_law_1377 rfl (lv_at hl 3 rfl) ?_
  have cw_1 := vx_cwSW (R := rm_L_law) (rm := rm_L_nest) 4 (hts d0) gL_law_L_nest rfl rfl rfl (by decide +kernel) ⟨Nat.le_of_ble_eq_true rfl, Nat.le_of_ble_eq_true rfl⟩
  refine xcallW hd0 (xintoSW (As := [.ref (ad 0), .int ((xs (i + 1))), .int ((xs (i + 2))), .ref o1]) (rest := []) ⟨hx, hb, hml, hown, hts _⟩ cw_1 rfl rfl hl.1 rfl (lv_room (Nat.le_of_ble_eq_true rfl)) dL_law_1378) (c_L_nest (l := l) (G := G) (ty := ty) (b0 := b0) hfl hT.2.1 hT.1 (b := (xs (i + 1))) (x := (xs (i + 2))) (fun z hu _ => nest_skip hR zF2 (in_lt z.1) (by have := in_lt z.1; omega) (in_lt z.2) hu) hO.2.2.1 hT.2.2.2.1 (fun k z => Ne.symm (hT.2.2.1 k z).2.1)) (xoweW cw_1) hK hb0 hS hc hs (fun E_1 ce_1 q9_1 H_1 locs_1 d0 hd0 hp_1 hS _ _ _ => hp_1.elim) (fun v_1 H_1 locs_1 d0 hd0 hp_1 hS => ?_)
  obtain ⟨t9, rfl, hY_1, hj⟩ := j_nest hO hT hY hR hp_1
  show W p l e _ (s.setDrawn _) m _ below meth c _ _ _ _ _ (F0 m 1381 ls [.int (t9)])
  refine lv_istore (lv' := [(6, .int (t9)), (0, .ref b), (1, .ref (ad 0)), (2, .ref m0), (3, .ref o1), (4, .ref o2), (5, .int (nI i))]) hx hb dL_law_1381 hl (by decide) rfl (fun ls hl => ?_)
  refine lv_aload_n hx hb dL_law_1383 rfl (lv_at hl 3 rfl) ?_
  refine lv_aload_n hx hb dL_law_1384 rfl (lv_at hl 1 rfl) ?_
  refine lv_iload hx hb dL_law_1385 (lv_at hl 6 rfl) ?_
  refine lv_iconst (v := nI 1) hx hb dL_law_1387 (by decide) ?_
  refine xiaddN hx hb dL_law_1388 ?_
  refine xsld hx hb hXs hbl hbA hS hL (j := i + 1) (by omega) dL_law_1389 ?_
  refine lv_aload_n hx hb dL_law_1390 rfl (lv_at hl 1 rfl) ?_
  refine lv_iload hx hb dL_law_1391 (lv_at hl 6 rfl) ?_
  refine lv_iconst (v := nI 2) hx hb dL_law_1393 (by decide) ?_
  refine xiaddN hx hb dL_law_1394 ?_
  refine xsld hx hb hXs hbl hbA hS hL (j := i + 2) (by omega) dL_law_1395 ?_
  have cw_2 := cwV (R := rm_L_law) (rm := rm_X7_nest) 2 (hts d0) gL_law_X7_nest rfl rfl rfl (by decide +kernel) ⟨Nat.le_of_ble_eq_true rfl, Nat.le_of_ble_eq_true rfl⟩
  refine xcall hd0 (xintoV (b := m0) (As := [.int ((xs (i + 1))), .int ((xs (i + 2)))]) (rest := []) ⟨hx, hb, hml, hown, hts _⟩ cw_2 (va_recv hK.1 (x1 hY_1.1) (ci := 8) (q0 := 0) rfl rfl) rfl rfl hl.1 rfl (lv_room (Nat.le_of_ble_eq_true rfl)) dL_law_1396) (c_X7_nest (l := l) (G := G) (ty := ty) (b0 := b0) (b := (xs (i + 1))) (x := (xs (i + 2))) hY_1 hT.1.1 hO.1 hO.2.1 zB4 (fun b9 z => ⟨(hR.2.2.2.1 b9 z).2, hT.1.2.2.1 b9 z⟩) (N := 8001) (by decide) (fun z hu => nest_end hR zF2 (in_lt z.1) (in_lt z.2) (fun hz => hu ((hR.u z.2).mpr hz)))) (xoweB cw_2.1) hK hb0 hS hc hs (fun E_2 ce_2 q9_2 H_2 locs_2 d0 hd0 hp_2 hS _ _ _ => hp_2.elim) (fun v_2 H_2 locs_2 d0 hd0 hp_2 hS => ?_)
  obtain ⟨z9, g1, g2, rfl, hJ2, ha⟩ := hj _ _ hp_2
  obtain ⟨ad2, nb2, pl2, wi2, hi2, fa2, un3, bu2, lo3, la3, cx2, cy2, bx2, nf2, co2, dr2, un4, fc2, lo4, la4, px2, py2, pz2, hq2, hT2, hY2, -⟩ := id hJ2
  show W p l e _ (s.setDrawn _) m _ below meth c _ _ _ _ _ (F0 m 1399 ls [.int (z9)])
  refine lv_istore (lv' := [(7, .int (z9)), (6, .int (t9)), (0, .ref b), (1, .ref (ad 0)), (2, .ref m0), (3, .ref o1), (4, .ref o2), (5, .int (nI i))]) hx hb dL_law_1399 hl (by decide) rfl (fun ls hl => ?_)
  refine lv_aload_n hx hb dL_law_1401 rfl (lv_at hl 4 rfl) ?_
  have cw_3 := cwV (R := rm_L_law) (rm := rm_X7_thrown) 0 (hts d0) gL_law_X7_thrown rfl rfl rfl (by decide +kernel) ⟨Nat.le_of_ble_eq_true rfl, Nat.le_of_ble_eq_true rfl⟩
  refine xcall hd0 (xintoV (b := m0) (As := []) (rest := []) ⟨hx, hb, hml, hown, hts _⟩ cw_3 (va_recv hK.1 (x1 hY2.1) (ci := 8) (q0 := 0) rfl rfl) rfl rfl hl.1 rfl (lv_room (Nat.le_of_ble_eq_true rfl)) dL_law_1402) (c_X7_thrown (l := l) (G := G) (ty := ty) (b0 := b0) hY2 hT2.1.1) (xoweB cw_3.1) hK hb0 hS hc hs (fun E_3 ce_3 q9_3 H_3 locs_3 d0 hd0 hp_3 hS _ _ _ => hp_3.elim) (fun v_3 H_3 locs_3 d0 hd0 hp_3 hS => ?_)
  obtain ⟨rfl, rfl⟩ := hp_3
  show W p l e _ (s.setDrawn _) m _ below meth c _ _ _ _ _ (F0 m 1405 ls [.int (t9)])
  refine lv_iload hx hb dL_law_1405 (lv_at hl 1 rfl) ?_
  refine lv_icmp_eq (tgt := 1412) hx hb dL_law_1407 (by decide) (fun _ => ?_) (fun h9 => absurd (rfl) h9)
  refine lv_iload hx hb dL_law_1412 (lv_at hl 1 rfl) ?_
  refine lv_if_ne (tgt := 1429) hx hb dL_law_1414 (by decide) (fun c_5 => ?_) (fun c_5 => ?_)
  · refine lv_goto (tgt := 1709) hx hb dL_law_1429 (by decide) ?_
    exact kk _ _ _ _ _ _ _ hJ2 hS hd0 (lv_sub hl [2, 3, 4, 5, 6, 7] rfl)
  · have ha := ha c_5
    refine lv_aload_n hx hb dL_law_1417 rfl (lv_at hl 5 rfl) ?_
    refine lv_iconst (v := nI 0) hx hb dL_law_1418 (by decide) ?_
    refine xlald (j := 0) hx hb hK.1 3 hT2.2.2.2.1 rfl (xix_of (by omega) (by omega)) dL_law_1419 ?_
    refine lv_iload hx hb dL_law_1420 (lv_at hl 0 rfl) ?_
    refine lv_i2l (v := (z9).toInt64) hx hb dL_law_1422 rfl ?_
    refine W.lcmp hx hb dL_law_1423 ?_
    refine lv_if_eq (tgt := 1429) hx hb dL_law_1424 (by decide) (fun _ => ?_) (fun h9 => absurd (by rw [ha]; exact lg_self _) h9)
    refine lv_goto (tgt := 1709) hx hb dL_law_1429 (by decide) ?_
    exact kk _ _ _ _ _ _ _ hJ2 hS hd0 (lv_sub hl [2, 3, 4, 5, 6, 7] rfl)
set_option maxHeartbeats 4000000 in
set_option maxRecDepth 100000 in
theorem case_lies (hC : lwC p s m c b L xs G ty b0) (hfl : l.stackTraces = false) (hO : xAo b0 m0 A o1 o2) (hi6 : i + 6 ≤ L) (hJ : xJ G ty b0 F R m0 A o1 o2 q0 th f1 f2 H) (hS : va_S (xA b0) s.heap H locs) (hd0 : s.drawn.sameBut d0 lw_cs) (hl : lv_has ls 9 [(0, .ref b), (1, .ref q0), (2, .ref m0), (3, .ref o1), (4, .ref o2), (5, .int (nI i))]) (hc : cells + 20 ≤ 675798) (hs : slots + 150 ≤ 7068677)
    (kk : ∀ (th : Int32) (f1 : Nat → Int64) (f2 : Nat → UInt64) (H1 : Heap) (locs1 : List Loc) (d1 : Drawn) (ls1 : Array Slot), xJ G ty b0 F R m0 A o1 o2 q0 th f1 f2 H1 → va_S (xA b0) s.heap H1 locs1 → s.drawn.sameBut d1 lw_cs → lv_has ls1 9 [(0, .ref b), (1, .ref q0), (2, .ref m0), (3, .ref o1), (4, .ref o2), (5, .int (nI i))] → W p l e rm_L_law (s.setDrawn d1) m #[Value.ref b] below meth c H1 locs1 (cells + 20) (slots + 150) Q (F0 m 1709 ls1 [])) :
    W p l e rm_L_law (s.setDrawn d0) m #[Value.ref b] below meth c H locs cells slots Q (F0 m 1432 ls []) := by
  obtain ⟨hx, hb, hml, hown, hts0, hXs, hbl, hbA, hL, hK, hb0⟩ := hC
  have hts : ∀ d0 : Drawn, ∀ w ∈ wsL_law, w.before #[Value.ref b] (s.setDrawn d0) = true := fun d0 => dr_words hts0 d0
  obtain ⟨ad, nb, pl, wi, hi, fa, un, bu, lo, la, cx, cy, bx, nf, co, dr, un2, fc, lo2, la2, px, py, pz, hq, hT, hY, hR⟩ := hJ
  subst hq
  obtain ⟨⟨zF2, zF8⟩, ⟨zR2, zR8⟩⟩ := id hT.1.1
  have zB4 := hT.1.2.1
  refine lv_aload_n hx hb dL_law_1432 rfl (lv_at hl 1 rfl) ?_
  refine lv_aload_n hx hb dL_law_1433 rfl (lv_at hl 0 rfl) ?_
  refine lv_iload hx hb dL_law_1434 (lv_at hl 5 rfl) ?_
  refine lv_iconst (v := nI 1) hx hb dL_law_1436 (by decide) ?_
  refine xiaddN hx hb dL_law_1437 ?_
  refine xsld hx hb hXs hbl hbA hS hL (j := i + 1) (by omega) dL_law_1438 ?_
  refine lv_aload_n hx hb dL_law_1439 rfl (lv_at hl 0 rfl) ?_
  refine lv_iload hx hb dL_law_1440 (lv_at hl 5 rfl) ?_
  refine lv_iconst (v := nI 2) hx hb dL_law_1442 (by decide) ?_
  refine xiaddN hx hb dL_law_1443 ?_
  refine xsld hx hb hXs hbl hbA hS hL (j := i + 2) (by omega) dL_law_1444 ?_
  refine lv_aload_n hx hb dL_law_1445 rfl (lv_at hl 3 rfl) ?_
  have cw_1 := vx_cwSW (R := rm_L_law) (rm := rm_L_lies) 4 (hts d0) gL_law_L_lies rfl rfl rfl (by decide +kernel) ⟨Nat.le_of_ble_eq_true rfl, Nat.le_of_ble_eq_true rfl⟩
  refine xcallW hd0 (xintoSW (As := [.ref (ad 0), .int ((xs (i + 1))), .int ((xs (i + 2))), .ref o1]) (rest := []) ⟨hx, hb, hml, hown, hts _⟩ cw_1 rfl rfl hl.1 rfl (lv_room (Nat.le_of_ble_eq_true rfl)) dL_law_1446) (c_L_lies (l := l) (G := G) (ty := ty) (b0 := b0) hfl hT.2.1 hT.1 (x := (xs (i + 1))) (k := (xs (i + 2))) hO.2.2.1 hT.2.2.2.1 (fun k z => Ne.symm (hT.2.2.1 k z).2.1)) (xoweW cw_1) hK hb0 hS hc hs (fun E_1 ce_1 q9_1 H_1 locs_1 d0 hd0 hp_1 hS _ _ _ => hp_1.elim) (fun v_1 H_1 locs_1 d0 hd0 hp_1 hS => ?_)
  obtain ⟨t9, rfl, hY_1, hj⟩ := j_lies hO hT hY hR hp_1
  show W p l e _ (s.setDrawn _) m _ below meth c _ _ _ _ _ (F0 m 1449 ls [.int (t9)])
  refine lv_istore (lv' := [(6, .int (t9)), (0, .ref b), (1, .ref (ad 0)), (2, .ref m0), (3, .ref o1), (4, .ref o2), (5, .int (nI i))]) hx hb dL_law_1449 hl (by decide) rfl (fun ls hl => ?_)
  refine lv_aload_n hx hb dL_law_1451 rfl (lv_at hl 3 rfl) ?_
  refine lv_aload_n hx hb dL_law_1452 rfl (lv_at hl 1 rfl) ?_
  refine lv_iload hx hb dL_law_1453 (lv_at hl 6 rfl) ?_
  refine lv_iconst (v := nI 1) hx hb dL_law_1455 (by decide) ?_
  refine xiaddN hx hb dL_law_1456 ?_
  refine xsld hx hb hXs hbl hbA hS hL (j := i + 1) (by omega) dL_law_1457 ?_
  refine lv_aload_n hx hb dL_law_1458 rfl (lv_at hl 1 rfl) ?_
  refine lv_iload hx hb dL_law_1459 (lv_at hl 6 rfl) ?_
  refine lv_iconst (v := nI 2) hx hb dL_law_1461 (by decide) ?_
  refine xiaddN hx hb dL_law_1462 ?_
  refine xsld hx hb hXs hbl hbA hS hL (j := i + 2) (by omega) dL_law_1463 ?_
  have cw_2 := cwV (R := rm_L_law) (rm := rm_X7_lies) 2 (hts d0) gL_law_X7_lies rfl rfl rfl (by decide +kernel) ⟨Nat.le_of_ble_eq_true rfl, Nat.le_of_ble_eq_true rfl⟩
  refine xcall hd0 (xintoV (b := m0) (As := [.int ((xs (i + 1))), .int ((xs (i + 2)))]) (rest := []) ⟨hx, hb, hml, hown, hts _⟩ cw_2 (va_recv hK.1 (x1 hY_1.1) (ci := 8) (q0 := 0) rfl rfl) rfl rfl hl.1 rfl (lv_room (Nat.le_of_ble_eq_true rfl)) dL_law_1464) (c_X7_lies (l := l) (G := G) (ty := ty) (b0 := b0) (x := (xs (i + 1))) (k := (xs (i + 2))) hY_1 hT.1.1 hO.1 hO.2.1) (xoweB cw_2.1) hK hb0 hS hc hs (fun E_2 ce_2 q9_2 H_2 locs_2 d0 hd0 hp_2 hS _ _ _ => hp_2.elim) (fun v_2 H_2 locs_2 d0 hd0 hp_2 hS => ?_)
  obtain ⟨z9, g1, g2, rfl, hJ2, ha⟩ := hj _ _ hp_2
  obtain ⟨ad2, nb2, pl2, wi2, hi2, fa2, un3, bu2, lo3, la3, cx2, cy2, bx2, nf2, co2, dr2, un4, fc2, lo4, la4, px2, py2, pz2, hq2, hT2, hY2, -⟩ := id hJ2
  show W p l e _ (s.setDrawn _) m _ below meth c _ _ _ _ _ (F0 m 1467 ls [.int (z9)])
  refine lv_istore (lv' := [(7, .int (z9)), (6, .int (t9)), (0, .ref b), (1, .ref (ad 0)), (2, .ref m0), (3, .ref o1), (4, .ref o2), (5, .int (nI i))]) hx hb dL_law_1467 hl (by decide) rfl (fun ls hl => ?_)
  refine lv_aload_n hx hb dL_law_1469 rfl (lv_at hl 4 rfl) ?_
  have cw_3 := cwV (R := rm_L_law) (rm := rm_X7_thrown) 0 (hts d0) gL_law_X7_thrown rfl rfl rfl (by decide +kernel) ⟨Nat.le_of_ble_eq_true rfl, Nat.le_of_ble_eq_true rfl⟩
  refine xcall hd0 (xintoV (b := m0) (As := []) (rest := []) ⟨hx, hb, hml, hown, hts _⟩ cw_3 (va_recv hK.1 (x1 hY2.1) (ci := 8) (q0 := 0) rfl rfl) rfl rfl hl.1 rfl (lv_room (Nat.le_of_ble_eq_true rfl)) dL_law_1470) (c_X7_thrown (l := l) (G := G) (ty := ty) (b0 := b0) hY2 hT2.1.1) (xoweB cw_3.1) hK hb0 hS hc hs (fun E_3 ce_3 q9_3 H_3 locs_3 d0 hd0 hp_3 hS _ _ _ => hp_3.elim) (fun v_3 H_3 locs_3 d0 hd0 hp_3 hS => ?_)
  obtain ⟨rfl, rfl⟩ := hp_3
  show W p l e _ (s.setDrawn _) m _ below meth c _ _ _ _ _ (F0 m 1473 ls [.int (t9)])
  refine lv_iload hx hb dL_law_1473 (lv_at hl 1 rfl) ?_
  refine lv_icmp_eq (tgt := 1480) hx hb dL_law_1475 (by decide) (fun _ => ?_) (fun h9 => absurd (rfl) h9)
  refine lv_iload hx hb dL_law_1480 (lv_at hl 1 rfl) ?_
  refine lv_if_ne (tgt := 1497) hx hb dL_law_1482 (by decide) (fun c_5 => ?_) (fun c_5 => ?_)
  · refine lv_goto (tgt := 1709) hx hb dL_law_1497 (by decide) ?_
    exact kk _ _ _ _ _ _ _ hJ2 hS hd0 (lv_sub hl [2, 3, 4, 5, 6, 7] rfl)
  · have ha := ha c_5
    refine lv_aload_n hx hb dL_law_1485 rfl (lv_at hl 5 rfl) ?_
    refine lv_iconst (v := nI 0) hx hb dL_law_1486 (by decide) ?_
    refine xlald (j := 0) hx hb hK.1 3 hT2.2.2.2.1 rfl (xix_of (by omega) (by omega)) dL_law_1487 ?_
    refine lv_iload hx hb dL_law_1488 (lv_at hl 0 rfl) ?_
    refine lv_i2l (v := (z9).toInt64) hx hb dL_law_1490 rfl ?_
    refine W.lcmp hx hb dL_law_1491 ?_
    refine lv_if_eq (tgt := 1497) hx hb dL_law_1492 (by decide) (fun _ => ?_) (fun h9 => absurd (by rw [ha]; exact lg_self _) h9)
    refine lv_goto (tgt := 1709) hx hb dL_law_1497 (by decide) ?_
    exact kk _ _ _ _ _ _ _ hJ2 hS hd0 (lv_sub hl [2, 3, 4, 5, 6, 7] rfl)
set_option maxHeartbeats 4000000 in
set_option maxRecDepth 100000 in
theorem case_staves (hC : lwC p s m c b L xs G ty b0) (hfl : l.stackTraces = false) (hO : xAo b0 m0 A o1 o2) (hi6 : i + 6 ≤ L) (hJ : xJ G ty b0 F R m0 A o1 o2 q0 th f1 f2 H) (hS : va_S (xA b0) s.heap H locs) (hd0 : s.drawn.sameBut d0 lw_cs) (hl : lv_has ls 9 [(0, .ref b), (1, .ref q0), (2, .ref m0), (3, .ref o1), (4, .ref o2), (5, .int (nI i))]) (hc : cells + 20 ≤ 675798) (hs : slots + 150 ≤ 7068677)
    (kk : ∀ (th : Int32) (f1 : Nat → Int64) (f2 : Nat → UInt64) (H1 : Heap) (locs1 : List Loc) (d1 : Drawn) (ls1 : Array Slot), xJ G ty b0 F R m0 A o1 o2 q0 th f1 f2 H1 → va_S (xA b0) s.heap H1 locs1 → s.drawn.sameBut d1 lw_cs → lv_has ls1 9 [(0, .ref b), (1, .ref q0), (2, .ref m0), (3, .ref o1), (4, .ref o2), (5, .int (nI i))] → W p l e rm_L_law (s.setDrawn d1) m #[Value.ref b] below meth c H1 locs1 (cells + 20) (slots + 150) Q (F0 m 1709 ls1 [])) :
    W p l e rm_L_law (s.setDrawn d0) m #[Value.ref b] below meth c H locs cells slots Q (F0 m 1500 ls []) := by
  obtain ⟨hx, hb, hml, hown, hts0, hXs, hbl, hbA, hL, hK, hb0⟩ := hC
  have hts : ∀ d0 : Drawn, ∀ w ∈ wsL_law, w.before #[Value.ref b] (s.setDrawn d0) = true := fun d0 => dr_words hts0 d0
  obtain ⟨ad, nb, pl, wi, hi, fa, un, bu, lo, la, cx, cy, bx, nf, co, dr, un2, fc, lo2, la2, px, py, pz, hq, hT, hY, hR⟩ := hJ
  subst hq
  obtain ⟨⟨zF2, zF8⟩, ⟨zR2, zR8⟩⟩ := id hT.1.1
  have zB4 := hT.1.2.1
  refine lv_aload_n hx hb dL_law_1500 rfl (lv_at hl 1 rfl) ?_
  refine lv_aload_n hx hb dL_law_1501 rfl (lv_at hl 0 rfl) ?_
  refine lv_iload hx hb dL_law_1502 (lv_at hl 5 rfl) ?_
  refine lv_iconst (v := nI 1) hx hb dL_law_1504 (by decide) ?_
  refine xiaddN hx hb dL_law_1505 ?_
  refine xsld hx hb hXs hbl hbA hS hL (j := i + 1) (by omega) dL_law_1506 ?_
  refine lv_i2d hx hb dL_law_1507 ?_
  refine lv_ldc2d hx hb hown (hts d0 _ hw_L_law_0) dL_law_1508 ?_
  refine xdmul hd0 hx hb (vq_rf _) (vq_rf _) dL_law_1511 (fun r_1 d0 q_1 hd0 => ?_)
  have e_1 : r_1 = xE (xs (i + 1)) := vq_same q_1 (xE_fin _).1.nn
  subst e_1
  refine lv_aload_n hx hb dL_law_1512 rfl (lv_at hl 0 rfl) ?_
  refine lv_iload hx hb dL_law_1513 (lv_at hl 5 rfl) ?_
  refine lv_iconst (v := nI 2) hx hb dL_law_1515 (by decide) ?_
  refine xiaddN hx hb dL_law_1516 ?_
  refine xsld hx hb hXs hbl hbA hS hL (j := i + 2) (by omega) dL_law_1517 ?_
  refine lv_i2d hx hb dL_law_1518 ?_
  refine lv_ldc2d hx hb hown (hts d0 _ hw_L_law_0) dL_law_1519 ?_
  refine xdmul hd0 hx hb (vq_rf _) (vq_rf _) dL_law_1522 (fun r_2 d0 q_2 hd0 => ?_)
  have e_2 : r_2 = xE (xs (i + 2)) := vq_same q_2 (xE_fin _).1.nn
  subst e_2
  refine lv_aload_n hx hb dL_law_1523 rfl (lv_at hl 3 rfl) ?_
  obtain ⟨n9, f9, hNr, hNc⟩ := staves_all (xs (i + 1)) (xs (i + 2))
  have cw_3 := vx_cwSW (R := rm_L_law) (rm := rm_L_staves) 4 (hts d0) gL_law_L_staves rfl rfl rfl (by decide +kernel) ⟨Nat.le_of_ble_eq_true rfl, Nat.le_of_ble_eq_true rfl⟩
  refine xcallW hd0 (xintoSW (As := [.ref (ad 0), .double (xE (xs (i + 1))), .double (xE (xs (i + 2))), .ref o1]) (rest := []) ⟨hx, hb, hml, hown, hts _⟩ cw_3 rfl rfl hl.1 rfl (lv_room (Nat.le_of_ble_eq_true rfl)) dL_law_1524) (c_L_staves (l := l) (G := G) (ty := ty) (b0 := b0) hfl hT.2.1 hT.1 (x := (xE (xs (i + 1)))) (d := (xE (xs (i + 2)))) (vq_rf _) (vq_rf _) hNc hO.2.2.1 hT.2.2.2.1 (fun k z => Ne.symm (hT.2.2.1 k z).2.1)) (xoweW cw_3) hK hb0 hS hc hs (fun E_3 ce_3 q9_3 H_3 locs_3 d0 hd0 hp_3 hS _ _ _ => hp_3.elim) (fun v_3 H_3 locs_3 d0 hd0 hp_3 hS => ?_)
  obtain ⟨t9, rfl, hY_3, hj⟩ := j_staves hO hT hY hR hp_3
  show W p l e _ (s.setDrawn _) m _ below meth c _ _ _ _ _ (F0 m 1527 ls [.int (t9)])
  refine lv_istore (lv' := [(6, .int (t9)), (0, .ref b), (1, .ref (ad 0)), (2, .ref m0), (3, .ref o1), (4, .ref o2), (5, .int (nI i))]) hx hb dL_law_1527 hl (by decide) rfl (fun ls hl => ?_)
  refine lv_aload_n hx hb dL_law_1529 rfl (lv_at hl 3 rfl) ?_
  refine lv_aload_n hx hb dL_law_1530 rfl (lv_at hl 1 rfl) ?_
  refine lv_iload hx hb dL_law_1531 (lv_at hl 6 rfl) ?_
  refine lv_iconst (v := nI 1) hx hb dL_law_1533 (by decide) ?_
  refine xiaddN hx hb dL_law_1534 ?_
  refine xsld hx hb hXs hbl hbA hS hL (j := i + 1) (by omega) dL_law_1535 ?_
  refine lv_i2d hx hb dL_law_1536 ?_
  refine lv_ldc2d hx hb hown (hts d0 _ hw_L_law_0) dL_law_1537 ?_
  refine xdmul hd0 hx hb (vq_rf _) (vq_rf _) dL_law_1540 (fun r_4 d0 q_4 hd0 => ?_)
  have e_4 : r_4 = xE (xs (i + 1)) := vq_same q_4 (xE_fin _).1.nn
  subst e_4
  refine lv_aload_n hx hb dL_law_1541 rfl (lv_at hl 1 rfl) ?_
  refine lv_iload hx hb dL_law_1542 (lv_at hl 6 rfl) ?_
  refine lv_iconst (v := nI 2) hx hb dL_law_1544 (by decide) ?_
  refine xiaddN hx hb dL_law_1545 ?_
  refine xsld hx hb hXs hbl hbA hS hL (j := i + 2) (by omega) dL_law_1546 ?_
  refine lv_i2d hx hb dL_law_1547 ?_
  refine lv_ldc2d hx hb hown (hts d0 _ hw_L_law_0) dL_law_1548 ?_
  refine xdmul hd0 hx hb (vq_rf _) (vq_rf _) dL_law_1551 (fun r_5 d0 q_5 hd0 => ?_)
  have e_5 : r_5 = xE (xs (i + 2)) := vq_same q_5 (xE_fin _).1.nn
  subst e_5
  have cw_6 := cwV (R := rm_L_law) (rm := rm_X7_staves) 2 (hts d0) gL_law_X7_staves rfl rfl rfl (by decide +kernel) ⟨Nat.le_of_ble_eq_true rfl, Nat.le_of_ble_eq_true rfl⟩
  refine xcall hd0 (xintoV (b := m0) (As := [.double (xE (xs (i + 1))), .double (xE (xs (i + 2)))]) (rest := []) ⟨hx, hb, hml, hown, hts _⟩ cw_6 (va_recv hK.1 (x1 hY_3.1) (ci := 8) (q0 := 0) rfl rfl) rfl rfl hl.1 rfl (lv_room (Nat.le_of_ble_eq_true rfl)) dL_law_1552) (c_X7_staves (l := l) (G := G) (ty := ty) (b0 := b0) (x := (xE (xs (i + 1)))) (d := (xE (xs (i + 2)))) hY_3 hT.1.1 hO.1 hO.2.1 (vq_rf _) (vq_rf _) hNr) (xoweB cw_6.1) hK hb0 hS hc hs (fun E_6 ce_6 q9_6 H_6 locs_6 d0 hd0 hp_6 hS _ _ _ => hp_6.elim) (fun v_6 H_6 locs_6 d0 hd0 hp_6 hS => ?_)
  obtain ⟨z9, g1, g2, rfl, hJ2, ha⟩ := hj _ _ hp_6
  obtain ⟨ad2, nb2, pl2, wi2, hi2, fa2, un3, bu2, lo3, la3, cx2, cy2, bx2, nf2, co2, dr2, un4, fc2, lo4, la4, px2, py2, pz2, hq2, hT2, hY2, -⟩ := id hJ2
  show W p l e _ (s.setDrawn _) m _ below meth c _ _ _ _ _ (F0 m 1555 ls [.int (z9)])
  refine lv_istore (lv' := [(7, .int (z9)), (6, .int (t9)), (0, .ref b), (1, .ref (ad 0)), (2, .ref m0), (3, .ref o1), (4, .ref o2), (5, .int (nI i))]) hx hb dL_law_1555 hl (by decide) rfl (fun ls hl => ?_)
  refine lv_aload_n hx hb dL_law_1557 rfl (lv_at hl 4 rfl) ?_
  have cw_7 := cwV (R := rm_L_law) (rm := rm_X7_thrown) 0 (hts d0) gL_law_X7_thrown rfl rfl rfl (by decide +kernel) ⟨Nat.le_of_ble_eq_true rfl, Nat.le_of_ble_eq_true rfl⟩
  refine xcall hd0 (xintoV (b := m0) (As := []) (rest := []) ⟨hx, hb, hml, hown, hts _⟩ cw_7 (va_recv hK.1 (x1 hY2.1) (ci := 8) (q0 := 0) rfl rfl) rfl rfl hl.1 rfl (lv_room (Nat.le_of_ble_eq_true rfl)) dL_law_1558) (c_X7_thrown (l := l) (G := G) (ty := ty) (b0 := b0) hY2 hT2.1.1) (xoweB cw_7.1) hK hb0 hS hc hs (fun E_7 ce_7 q9_7 H_7 locs_7 d0 hd0 hp_7 hS _ _ _ => hp_7.elim) (fun v_7 H_7 locs_7 d0 hd0 hp_7 hS => ?_)
  obtain ⟨rfl, rfl⟩ := hp_7
  show W p l e _ (s.setDrawn _) m _ below meth c _ _ _ _ _ (F0 m 1561 ls [.int (t9)])
  refine lv_iload hx hb dL_law_1561 (lv_at hl 1 rfl) ?_
  refine lv_icmp_eq (tgt := 1568) hx hb dL_law_1563 (by decide) (fun _ => ?_) (fun h9 => absurd (rfl) h9)
  refine lv_iload hx hb dL_law_1568 (lv_at hl 1 rfl) ?_
  refine lv_if_ne (tgt := 1585) hx hb dL_law_1570 (by decide) (fun c_9 => ?_) (fun c_9 => ?_)
  · refine lv_goto (tgt := 1709) hx hb dL_law_1585 (by decide) ?_
    exact kk _ _ _ _ _ _ _ hJ2 hS hd0 (lv_sub hl [2, 3, 4, 5, 6, 7] rfl)
  · have ha := ha c_9
    refine lv_aload_n hx hb dL_law_1573 rfl (lv_at hl 5 rfl) ?_
    refine lv_iconst (v := nI 0) hx hb dL_law_1574 (by decide) ?_
    refine xlald (j := 0) hx hb hK.1 3 hT2.2.2.2.1 rfl (xix_of (by omega) (by omega)) dL_law_1575 ?_
    refine lv_iload hx hb dL_law_1576 (lv_at hl 0 rfl) ?_
    refine lv_i2l (v := (z9).toInt64) hx hb dL_law_1578 rfl ?_
    refine W.lcmp hx hb dL_law_1579 ?_
    refine lv_if_eq (tgt := 1585) hx hb dL_law_1580 (by decide) (fun _ => ?_) (fun h9 => absurd (by rw [ha]; exact lg_self _) h9)
    refine lv_goto (tgt := 1709) hx hb dL_law_1585 (by decide) ?_
    exact kk _ _ _ _ _ _ _ hJ2 hS hd0 (lv_sub hl [2, 3, 4, 5, 6, 7] rfl)
set_option maxHeartbeats 4000000 in
set_option maxRecDepth 100000 in
theorem case_closes (hC : lwC p s m c b L xs G ty b0) (hfl : l.stackTraces = false) (hO : xAo b0 m0 A o1 o2) (hi6 : i + 6 ≤ L) (hJ : xJ G ty b0 F R m0 A o1 o2 q0 th f1 f2 H) (hS : va_S (xA b0) s.heap H locs) (hd0 : s.drawn.sameBut d0 lw_cs) (hl : lv_has ls 9 [(0, .ref b), (1, .ref q0), (2, .ref m0), (3, .ref o1), (4, .ref o2), (5, .int (nI i))]) (hc : cells + 20 ≤ 675798) (hs : slots + 150 ≤ 7068677)
    (kk : ∀ (th : Int32) (f1 : Nat → Int64) (f2 : Nat → UInt64) (H1 : Heap) (locs1 : List Loc) (d1 : Drawn) (ls1 : Array Slot), xJ G ty b0 F R m0 A o1 o2 q0 th f1 f2 H1 → va_S (xA b0) s.heap H1 locs1 → s.drawn.sameBut d1 lw_cs → lv_has ls1 9 [(0, .ref b), (1, .ref q0), (2, .ref m0), (3, .ref o1), (4, .ref o2), (5, .int (nI i))] → W p l e rm_L_law (s.setDrawn d1) m #[Value.ref b] below meth c H1 locs1 (cells + 20) (slots + 150) Q (F0 m 1709 ls1 [])) :
    W p l e rm_L_law (s.setDrawn d0) m #[Value.ref b] below meth c H locs cells slots Q (F0 m 1588 ls []) := by
  obtain ⟨hx, hb, hml, hown, hts0, hXs, hbl, hbA, hL, hK, hb0⟩ := hC
  have hts : ∀ d0 : Drawn, ∀ w ∈ wsL_law, w.before #[Value.ref b] (s.setDrawn d0) = true := fun d0 => dr_words hts0 d0
  obtain ⟨ad, nb, pl, wi, hi, fa, un, bu, lo, la, cx, cy, bx, nf, co, dr, un2, fc, lo2, la2, px, py, pz, hq, hT, hY, hR⟩ := hJ
  subst hq
  obtain ⟨⟨zF2, zF8⟩, ⟨zR2, zR8⟩⟩ := id hT.1.1
  have zB4 := hT.1.2.1
  refine lv_aload_n hx hb dL_law_1588 rfl (lv_at hl 1 rfl) ?_
  refine lv_aload_n hx hb dL_law_1589 rfl (lv_at hl 0 rfl) ?_
  refine lv_iload hx hb dL_law_1590 (lv_at hl 5 rfl) ?_
  refine lv_iconst (v := nI 1) hx hb dL_law_1592 (by decide) ?_
  refine xiaddN hx hb dL_law_1593 ?_
  refine xsld hx hb hXs hbl hbA hS hL (j := i + 1) (by omega) dL_law_1594 ?_
  refine lv_aload_n hx hb dL_law_1595 rfl (lv_at hl 0 rfl) ?_
  refine lv_iload hx hb dL_law_1596 (lv_at hl 5 rfl) ?_
  refine lv_iconst (v := nI 2) hx hb dL_law_1598 (by decide) ?_
  refine xiaddN hx hb dL_law_1599 ?_
  refine xsld hx hb hXs hbl hbA hS hL (j := i + 2) (by omega) dL_law_1600 ?_
  refine lv_i2d hx hb dL_law_1601 ?_
  refine lv_ldc2d hx hb hown (hts d0 _ hw_L_law_0) dL_law_1602 ?_
  refine xdmul hd0 hx hb (vq_rf _) (vq_rf _) dL_law_1605 (fun r_1 d0 q_1 hd0 => ?_)
  have e_1 : r_1 = xE (xs (i + 2)) := vq_same q_1 (xE_fin _).1.nn
  subst e_1
  refine lv_aload_n hx hb dL_law_1606 rfl (lv_at hl 0 rfl) ?_
  refine lv_iload hx hb dL_law_1607 (lv_at hl 5 rfl) ?_
  refine lv_iconst (v := nI 3) hx hb dL_law_1609 (by decide) ?_
  refine xiaddN hx hb dL_law_1610 ?_
  refine xsld hx hb hXs hbl hbA hS hL (j := i + 3) (by omega) dL_law_1611 ?_
  refine lv_i2d hx hb dL_law_1612 ?_
  refine lv_ldc2d hx hb hown (hts d0 _ hw_L_law_0) dL_law_1613 ?_
  refine xdmul hd0 hx hb (vq_rf _) (vq_rf _) dL_law_1616 (fun r_2 d0 q_2 hd0 => ?_)
  have e_2 : r_2 = xE (xs (i + 3)) := vq_same q_2 (xE_fin _).1.nn
  subst e_2
  refine lv_aload hx hb dL_law_1617 (lv_at hl 4 rfl) ?_
  have cw_3 := vx_cwSW (R := rm_L_law) (rm := rm_L_closes) 5 (hts d0) gL_law_L_closes rfl rfl rfl (by decide +kernel) ⟨Nat.le_of_ble_eq_true rfl, Nat.le_of_ble_eq_true rfl⟩
  refine xcallW hd0 (xintoSW (As := [.ref (ad 0), .int ((xs (i + 1))), .double (xE (xs (i + 2))), .double (xE (xs (i + 3))), .ref o2]) (rest := []) ⟨hx, hb, hml, hown, hts _⟩ cw_3 rfl rfl hl.1 rfl (lv_room (Nat.le_of_ble_eq_true rfl)) dL_law_1619) (c_L_closes (l := l) (G := G) (ty := ty) (b0 := b0) hfl hT.2.1 hT.1 (n := (xs (i + 1))) (x := (xE (xs (i + 2)))) (d := (xE (xs (i + 3)))) (vq_rf _) (vq_rf _) hO.2.2.2.1 hT.2.2.2.2 (fun k z => Ne.symm (hT.2.2.1 k z).2.2)) (xoweW cw_3) hK hb0 hS hc hs (fun E_3 ce_3 q9_3 H_3 locs_3 d0 hd0 hp_3 hS _ _ _ => hp_3.elim) (fun v_3 H_3 locs_3 d0 hd0 hp_3 hS => ?_)
  obtain ⟨t9, rfl, hY_3, hj⟩ := j_closes hO hT hY hR hp_3
  show W p l e _ (s.setDrawn _) m _ below meth c _ _ _ _ _ (F0 m 1622 ls [.int (t9)])
  refine lv_istore (lv' := [(6, .int (t9)), (0, .ref b), (1, .ref (ad 0)), (2, .ref m0), (3, .ref o1), (4, .ref o2), (5, .int (nI i))]) hx hb dL_law_1622 hl (by decide) rfl (fun ls hl => ?_)
  refine lv_aload_n hx hb dL_law_1624 rfl (lv_at hl 3 rfl) ?_
  refine lv_aload_n hx hb dL_law_1625 rfl (lv_at hl 1 rfl) ?_
  refine lv_iload hx hb dL_law_1626 (lv_at hl 6 rfl) ?_
  refine lv_iconst (v := nI 1) hx hb dL_law_1628 (by decide) ?_
  refine xiaddN hx hb dL_law_1629 ?_
  refine xsld hx hb hXs hbl hbA hS hL (j := i + 1) (by omega) dL_law_1630 ?_
  refine lv_aload_n hx hb dL_law_1631 rfl (lv_at hl 1 rfl) ?_
  refine lv_iload hx hb dL_law_1632 (lv_at hl 6 rfl) ?_
  refine lv_iconst (v := nI 2) hx hb dL_law_1634 (by decide) ?_
  refine xiaddN hx hb dL_law_1635 ?_
  refine xsld hx hb hXs hbl hbA hS hL (j := i + 2) (by omega) dL_law_1636 ?_
  refine lv_i2d hx hb dL_law_1637 ?_
  refine lv_ldc2d hx hb hown (hts d0 _ hw_L_law_0) dL_law_1638 ?_
  refine xdmul hd0 hx hb (vq_rf _) (vq_rf _) dL_law_1641 (fun r_4 d0 q_4 hd0 => ?_)
  have e_4 : r_4 = xE (xs (i + 2)) := vq_same q_4 (xE_fin _).1.nn
  subst e_4
  refine lv_aload_n hx hb dL_law_1642 rfl (lv_at hl 1 rfl) ?_
  refine lv_iload hx hb dL_law_1643 (lv_at hl 6 rfl) ?_
  refine lv_iconst (v := nI 3) hx hb dL_law_1645 (by decide) ?_
  refine xiaddN hx hb dL_law_1646 ?_
  refine xsld hx hb hXs hbl hbA hS hL (j := i + 3) (by omega) dL_law_1647 ?_
  refine lv_i2d hx hb dL_law_1648 ?_
  refine lv_ldc2d hx hb hown (hts d0 _ hw_L_law_0) dL_law_1649 ?_
  refine xdmul hd0 hx hb (vq_rf _) (vq_rf _) dL_law_1652 (fun r_5 d0 q_5 hd0 => ?_)
  have e_5 : r_5 = xE (xs (i + 3)) := vq_same q_5 (xE_fin _).1.nn
  subst e_5
  have cw_6 := cwV (R := rm_L_law) (rm := rm_X7_closes) 3 (hts d0) gL_law_X7_closes rfl rfl rfl (by decide +kernel) ⟨Nat.le_of_ble_eq_true rfl, Nat.le_of_ble_eq_true rfl⟩
  refine xcall hd0 (xintoV (b := m0) (As := [.int ((xs (i + 1))), .double (xE (xs (i + 2))), .double (xE (xs (i + 3)))]) (rest := []) ⟨hx, hb, hml, hown, hts _⟩ cw_6 (va_recv hK.1 (x1 hY_3.1) (ci := 8) (q0 := 0) rfl rfl) rfl rfl hl.1 rfl (lv_room (Nat.le_of_ble_eq_true rfl)) dL_law_1653) (c_X7_closes (l := l) (G := G) (ty := ty) (b0 := b0) (n := (xs (i + 1))) (x := (xE (xs (i + 2)))) (d := (xE (xs (i + 3)))) (vq_rf _) (vq_rf _) hY_3 hT.1.1 hO.1 hO.2.1) (xoweB cw_6.1) hK hb0 hS hc hs (fun E_6 ce_6 q9_6 H_6 locs_6 d0 hd0 hp_6 hS _ _ _ => hp_6.elim) (fun v_6 H_6 locs_6 d0 hd0 hp_6 hS => ?_)
  obtain ⟨z9, g1, g2, rfl, hJ2, ha⟩ := hj _ _ hp_6
  obtain ⟨ad2, nb2, pl2, wi2, hi2, fa2, un3, bu2, lo3, la3, cx2, cy2, bx2, nf2, co2, dr2, un4, fc2, lo4, la4, px2, py2, pz2, hq2, hT2, hY2, -⟩ := id hJ2
  show W p l e _ (s.setDrawn _) m _ below meth c _ _ _ _ _ (F0 m 1656 ls [.double z9])
  refine lv_dstore (lv' := [(7, .double z9), (6, .int (t9)), (0, .ref b), (1, .ref (ad 0)), (2, .ref m0), (3, .ref o1), (4, .ref o2), (5, .int (nI i))]) hx hb dL_law_1656 hl (by decide) rfl (fun ls hl => ?_)
  refine lv_aload_n hx hb dL_law_1658 rfl (lv_at hl 4 rfl) ?_
  have cw_7 := cwV (R := rm_L_law) (rm := rm_X7_thrown) 0 (hts d0) gL_law_X7_thrown rfl rfl rfl (by decide +kernel) ⟨Nat.le_of_ble_eq_true rfl, Nat.le_of_ble_eq_true rfl⟩
  refine xcall hd0 (xintoV (b := m0) (As := []) (rest := []) ⟨hx, hb, hml, hown, hts _⟩ cw_7 (va_recv hK.1 (x1 hY2.1) (ci := 8) (q0 := 0) rfl rfl) rfl rfl hl.1 rfl (lv_room (Nat.le_of_ble_eq_true rfl)) dL_law_1659) (c_X7_thrown (l := l) (G := G) (ty := ty) (b0 := b0) hY2 hT2.1.1) (xoweB cw_7.1) hK hb0 hS hc hs (fun E_7 ce_7 q9_7 H_7 locs_7 d0 hd0 hp_7 hS _ _ _ => hp_7.elim) (fun v_7 H_7 locs_7 d0 hd0 hp_7 hS => ?_)
  obtain ⟨rfl, rfl⟩ := hp_7
  show W p l e _ (s.setDrawn _) m _ below meth c _ _ _ _ _ (F0 m 1662 ls [.int (t9)])
  refine lv_iload hx hb dL_law_1662 (lv_at hl 1 rfl) ?_
  refine lv_icmp_eq (tgt := 1669) hx hb dL_law_1664 (by decide) (fun _ => ?_) (fun h9 => absurd (rfl) h9)
  refine lv_iload hx hb dL_law_1669 (lv_at hl 1 rfl) ?_
  refine lv_if_ne (tgt := 1706) hx hb dL_law_1671 (by decide) (fun c_9 => ?_) (fun c_9 => ?_)
  · refine lv_goto (tgt := 1709) hx hb dL_law_1706 (by decide) ?_
    exact kk _ _ _ _ _ _ _ hJ2 hS hd0 (lv_sub hl [2, 3, 4, 5, 6, 7] rfl)
  · have ha := ha c_9
    refine lv_aload hx hb dL_law_1674 (lv_at hl 6 rfl) ?_
    refine lv_iconst (v := nI 0) hx hb dL_law_1676 (by decide) ?_
    refine xdald (j := 0) hx hb hK.1 0 hT2.2.2.2.2 rfl (xix_of (by omega) (by omega)) dL_law_1677 ?_
    refine lv_dload hx hb dL_law_1678 (lv_at hl 0 rfl) ?_
    refine xcmp_l_eq (tgt := 1706) hx hb (vq_rf _) (vq_rf _) dL_law_1680 dL_law_1681 (by decide) (fun c_10 => ?_) (fun c_10 => ?_)
    · refine lv_goto (tgt := 1709) hx hb dL_law_1706 (by decide) ?_
      exact kk _ _ _ _ _ _ _ hJ2 hS hd0 (lv_sub hl [2, 3, 4, 5, 6, 7] rfl)
    · refine lv_aload hx hb dL_law_1684 (lv_at hl 6 rfl) ?_
      refine lv_iconst (v := nI 0) hx hb dL_law_1686 (by decide) ?_
      refine xdald (j := 0) hx hb hK.1 0 hT2.2.2.2.2 rfl (xix_of (by omega) (by omega)) dL_law_1687 ?_
      refine lv_aload hx hb dL_law_1688 (lv_at hl 6 rfl) ?_
      refine lv_iconst (v := nI 0) hx hb dL_law_1690 (by decide) ?_
      refine xdald (j := 0) hx hb hK.1 0 hT2.2.2.2.2 rfl (xix_of (by omega) (by omega)) dL_law_1691 ?_
      refine xcmp_l_eq (tgt := 1704) hx hb (vq_rf _) (vq_rf _) dL_law_1692 dL_law_1693 (by decide) (fun c_11 => ?_) (fun c_11 => ?_)
      · exact (pSame_no1 ha c_10 c_11).elim
      · refine lv_dload hx hb dL_law_1696 (lv_at hl 0 rfl) ?_
        refine lv_dload hx hb dL_law_1698 (lv_at hl 0 rfl) ?_
        refine xcmp_l_ne (tgt := 1706) hx hb (vq_rf _) (vq_rf _) dL_law_1700 dL_law_1701 (by decide) (fun c_12 => ?_) (fun c_12 => ?_)
        · refine lv_goto (tgt := 1709) hx hb dL_law_1706 (by decide) ?_
          exact kk _ _ _ _ _ _ _ hJ2 hS hd0 (lv_sub hl [2, 3, 4, 5, 6, 7] rfl)
        · exact (pSame_no2 ha c_10 c_12).elim
end LawCases
