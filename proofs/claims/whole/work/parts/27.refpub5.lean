/-! THE REFERENCE: fault, nest, point. -/
set_option maxRecDepth 20000 in
theorem ggX7_fault_X7_between : GoodIn wsX7_fault wsX7_between := goodIn_r _ [10] (by decide +kernel) (by decide +kernel)
set_option maxRecDepth 20000 in
theorem gX7_fault_X7_between : GoodIn wsX7_fault (va_wsS RX7 61 yX7_between wsX7_between) := goodIn_app (goodIn_of _ (by decide +kernel)) ggX7_fault_X7_between
theorem dX7_fault_0 : decode cX7_fault 0 = .ok (.dload_n 2, 1) := by decide +kernel
theorem dX7_fault_1 : decode cX7_fault 1 = .ok (.dconst 0, 1) := by decide +kernel
theorem dX7_fault_2 : decode cX7_fault 2 = .ok (.ldc2_w 59, 3) := by decide +kernel
theorem dX7_fault_5 : decode cX7_fault 5 = .ok (.invokestatic 61, 3) := by decide +kernel
theorem dX7_fault_8 : decode cX7_fault 8 = .ok (.ifCond .eq 47, 3) := by decide +kernel
theorem dX7_fault_11 : decode cX7_fault 11 = .ok (.dload 4, 2) := by decide +kernel
theorem dX7_fault_13 : decode cX7_fault 13 = .ok (.dconst 0, 1) := by decide +kernel
theorem dX7_fault_14 : decode cX7_fault 14 = .ok (.ldc2_w 59, 3) := by decide +kernel
theorem dX7_fault_17 : decode cX7_fault 17 = .ok (.invokestatic 61, 3) := by decide +kernel
theorem dX7_fault_20 : decode cX7_fault 20 = .ok (.ifCond .eq 35, 3) := by decide +kernel
theorem dX7_fault_23 : decode cX7_fault 23 = .ok (.dload 6, 2) := by decide +kernel
theorem dX7_fault_25 : decode cX7_fault 25 = .ok (.ldc2_w 125, 3) := by decide +kernel
theorem dX7_fault_28 : decode cX7_fault 28 = .ok (.ldc2_w 59, 3) := by decide +kernel
theorem dX7_fault_31 : decode cX7_fault 31 = .ok (.invokestatic 61, 3) := by decide +kernel
theorem dX7_fault_34 : decode cX7_fault 34 = .ok (.ifCond .eq 21, 3) := by decide +kernel
theorem dX7_fault_37 : decode cX7_fault 37 = .ok (.dload 8, 2) := by decide +kernel
theorem dX7_fault_39 : decode cX7_fault 39 = .ok (.ldc2_w 125, 3) := by decide +kernel
theorem dX7_fault_42 : decode cX7_fault 42 = .ok (.ldc2_w 59, 3) := by decide +kernel
theorem dX7_fault_45 : decode cX7_fault 45 = .ok (.invokestatic 61, 3) := by decide +kernel
theorem dX7_fault_48 : decode cX7_fault 48 = .ok (.ifCond .eq 7, 3) := by decide +kernel
theorem dX7_fault_51 : decode cX7_fault 51 = .ok (.iconst 1, 1) := by decide +kernel
theorem dX7_fault_52 : decode cX7_fault 52 = .ok (.goto 4, 3) := by decide +kernel
theorem dX7_fault_55 : decode cX7_fault 55 = .ok (.iconst 0, 1) := by decide +kernel
theorem dX7_fault_56 : decode cX7_fault 56 = .ok (.istore 10, 2) := by decide +kernel
theorem dX7_fault_58 : decode cX7_fault 58 = .ok (.aload_n 0, 1) := by decide +kernel
theorem dX7_fault_59 : decode cX7_fault 59 = .ok (.iload_n 1, 1) := by decide +kernel
theorem dX7_fault_60 : decode cX7_fault 60 = .ok (.ifCond .lt 11, 3) := by decide +kernel
theorem dX7_fault_63 : decode cX7_fault 63 = .ok (.iload_n 1, 1) := by decide +kernel
theorem dX7_fault_64 : decode cX7_fault 64 = .ok (.aload_n 0, 1) := by decide +kernel
theorem dX7_fault_65 : decode cX7_fault 65 = .ok (.getfield 122, 3) := by decide +kernel
theorem dX7_fault_68 : decode cX7_fault 68 = .ok (.if_icmp .lt 7, 3) := by decide +kernel
theorem dX7_fault_71 : decode cX7_fault 71 = .ok (.iconst 1, 1) := by decide +kernel
theorem dX7_fault_72 : decode cX7_fault 72 = .ok (.goto 13, 3) := by decide +kernel
theorem dX7_fault_75 : decode cX7_fault 75 = .ok (.iload 10, 2) := by decide +kernel
theorem dX7_fault_77 : decode cX7_fault 77 = .ok (.ifCond .eq 7, 3) := by decide +kernel
theorem dX7_fault_80 : decode cX7_fault 80 = .ok (.iconst 0, 1) := by decide +kernel
theorem dX7_fault_81 : decode cX7_fault 81 = .ok (.goto 4, 3) := by decide +kernel
theorem dX7_fault_84 : decode cX7_fault 84 = .ok (.iconst 2, 1) := by decide +kernel
theorem dX7_fault_85 : decode cX7_fault 85 = .ok (.putfield 52, 3) := by decide +kernel
theorem dX7_fault_88 : decode cX7_fault 88 = .ok (.aload_n 0, 1) := by decide +kernel
theorem dX7_fault_89 : decode cX7_fault 89 = .ok (.getfield 52, 3) := by decide +kernel
theorem dX7_fault_92 : decode cX7_fault 92 = .ok (.ifCond .gt 14, 3) := by decide +kernel
theorem dX7_fault_95 : decode cX7_fault 95 = .ok (.aload_n 0, 1) := by decide +kernel
theorem dX7_fault_96 : decode cX7_fault 96 = .ok (.getfield 32, 3) := by decide +kernel
theorem dX7_fault_99 : decode cX7_fault 99 = .ok (.iload_n 1, 1) := by decide +kernel
theorem dX7_fault_100 : decode cX7_fault 100 = .ok (.iaload, 1) := by decide +kernel
theorem dX7_fault_101 : decode cX7_fault 101 = .ok (.bipush 8, 2) := by decide +kernel
theorem dX7_fault_103 : decode cX7_fault 103 = .ok (.if_icmp .ne 5, 3) := by decide +kernel
theorem dX7_fault_106 : decode cX7_fault 106 = .ok (.iconst 0, 1) := by decide +kernel
theorem dX7_fault_107 : decode cX7_fault 107 = .ok (.ireturn, 1) := by decide +kernel
theorem dX7_fault_108 : decode cX7_fault 108 = .ok (.bipush 32, 2) := by decide +kernel
theorem dX7_fault_110 : decode cX7_fault 110 = .ok (.iload_n 1, 1) := by decide +kernel
theorem dX7_fault_111 : decode cX7_fault 111 = .ok (.imul, 1) := by decide +kernel
theorem dX7_fault_112 : decode cX7_fault 112 = .ok (.iconst 4, 1) := by decide +kernel
theorem dX7_fault_113 : decode cX7_fault 113 = .ok (.aload_n 0, 1) := by decide +kernel
theorem dX7_fault_114 : decode cX7_fault 114 = .ok (.getfield 32, 3) := by decide +kernel
theorem dX7_fault_117 : decode cX7_fault 117 = .ok (.iload_n 1, 1) := by decide +kernel
theorem dX7_fault_118 : decode cX7_fault 118 = .ok (.iaload, 1) := by decide +kernel
theorem dX7_fault_119 : decode cX7_fault 119 = .ok (.imul, 1) := by decide +kernel
theorem dX7_fault_120 : decode cX7_fault 120 = .ok (.iadd, 1) := by decide +kernel
theorem dX7_fault_121 : decode cX7_fault 121 = .ok (.istore 11, 2) := by decide +kernel
theorem dX7_fault_123 : decode cX7_fault 123 = .ok (.aload_n 0, 1) := by decide +kernel
theorem dX7_fault_124 : decode cX7_fault 124 = .ok (.getfield 36, 3) := by decide +kernel
theorem dX7_fault_127 : decode cX7_fault 127 = .ok (.iload 11, 2) := by decide +kernel
theorem dX7_fault_129 : decode cX7_fault 129 = .ok (.dload_n 2, 1) := by decide +kernel
theorem dX7_fault_130 : decode cX7_fault 130 = .ok (.dastore, 1) := by decide +kernel
theorem dX7_fault_131 : decode cX7_fault 131 = .ok (.aload_n 0, 1) := by decide +kernel
theorem dX7_fault_132 : decode cX7_fault 132 = .ok (.getfield 36, 3) := by decide +kernel
theorem dX7_fault_135 : decode cX7_fault 135 = .ok (.iload 11, 2) := by decide +kernel
theorem dX7_fault_137 : decode cX7_fault 137 = .ok (.iconst 1, 1) := by decide +kernel
theorem dX7_fault_138 : decode cX7_fault 138 = .ok (.iadd, 1) := by decide +kernel
theorem dX7_fault_139 : decode cX7_fault 139 = .ok (.dload 4, 2) := by decide +kernel
theorem dX7_fault_141 : decode cX7_fault 141 = .ok (.dastore, 1) := by decide +kernel
theorem dX7_fault_142 : decode cX7_fault 142 = .ok (.aload_n 0, 1) := by decide +kernel
theorem dX7_fault_143 : decode cX7_fault 143 = .ok (.getfield 36, 3) := by decide +kernel
theorem dX7_fault_146 : decode cX7_fault 146 = .ok (.iload 11, 2) := by decide +kernel
theorem dX7_fault_148 : decode cX7_fault 148 = .ok (.iconst 2, 1) := by decide +kernel
theorem dX7_fault_149 : decode cX7_fault 149 = .ok (.iadd, 1) := by decide +kernel
theorem dX7_fault_150 : decode cX7_fault 150 = .ok (.dload 6, 2) := by decide +kernel
theorem dX7_fault_152 : decode cX7_fault 152 = .ok (.dastore, 1) := by decide +kernel
theorem dX7_fault_153 : decode cX7_fault 153 = .ok (.aload_n 0, 1) := by decide +kernel
theorem dX7_fault_154 : decode cX7_fault 154 = .ok (.getfield 36, 3) := by decide +kernel
theorem dX7_fault_157 : decode cX7_fault 157 = .ok (.iload 11, 2) := by decide +kernel
theorem dX7_fault_159 : decode cX7_fault 159 = .ok (.iconst 3, 1) := by decide +kernel
theorem dX7_fault_160 : decode cX7_fault 160 = .ok (.iadd, 1) := by decide +kernel
theorem dX7_fault_161 : decode cX7_fault 161 = .ok (.dload 8, 2) := by decide +kernel
theorem dX7_fault_163 : decode cX7_fault 163 = .ok (.dastore, 1) := by decide +kernel
theorem dX7_fault_164 : decode cX7_fault 164 = .ok (.aload_n 0, 1) := by decide +kernel
theorem dX7_fault_165 : decode cX7_fault 165 = .ok (.getfield 32, 3) := by decide +kernel
theorem dX7_fault_168 : decode cX7_fault 168 = .ok (.iload_n 1, 1) := by decide +kernel
theorem dX7_fault_169 : decode cX7_fault 169 = .ok (.dup2, 1) := by decide +kernel
theorem dX7_fault_170 : decode cX7_fault 170 = .ok (.iaload, 1) := by decide +kernel
theorem dX7_fault_171 : decode cX7_fault 171 = .ok (.iconst 1, 1) := by decide +kernel
theorem dX7_fault_172 : decode cX7_fault 172 = .ok (.iadd, 1) := by decide +kernel
theorem dX7_fault_173 : decode cX7_fault 173 = .ok (.iastore, 1) := by decide +kernel
theorem dX7_fault_174 : decode cX7_fault 174 = .ok (.iconst 1, 1) := by decide +kernel
theorem dX7_fault_175 : decode cX7_fault 175 = .ok (.ireturn, 1) := by decide +kernel
abbrev rm_X7_fault : Room := { frames := 7, cells := 0, slots := 0, locals := 140 }
theorem hw_X7_fault_1 : (Cond.constantDouble RX7 59 (4652007308841189376)) ∈ wsX7_fault := List.mem_of_getElem? (i := 1) rfl
theorem hw_X7_fault_2 : (Cond.constantDouble RX7 125 (4593671619917905920)) ∈ wsX7_fault := List.mem_of_getElem? (i := 2) rfl
theorem hw_X7_fault_3 : (Cond.fieldLink RX7 122 "PlankUnrollModel" "boards" "I") ∈ wsX7_fault := List.mem_of_getElem? (i := 3) rfl
theorem hw_X7_fault_4 : (Cond.fieldLink RX7 52 "PlankUnrollModel" "thrown" "I") ∈ wsX7_fault := List.mem_of_getElem? (i := 4) rfl
theorem hw_X7_fault_5 : (Cond.fieldLink RX7 32 "PlankUnrollModel" "faultCount" "[I") ∈ wsX7_fault := List.mem_of_getElem? (i := 5) rfl
theorem hw_X7_fault_6 : (Cond.fieldLink RX7 36 "PlankUnrollModel" "faults" "[D") ∈ wsX7_fault := List.mem_of_getElem? (i := 6) rfl
theorem in_X7_fault_X7 : ∀ w ∈ wsX70, w ∈ wsX7_fault := by decide +kernel
set_option maxHeartbeats 4000000 in
set_option maxRecDepth 100000 in
/-- fault -/
theorem c_X7_fault {l : Launch} {G : va_G} {ty : Nat → ClassId} {b0 : Nat} {H : Heap} {m0 : Nat} {A : Nat → Nat} {th : Int32} {F R nb : Nat} {pl co dr wi hi fa : Nat → UInt64} {un bu fc lo la : Nat → Int32} {px py pz : UInt64} (hY : xRef G ty m0 A th F R pl un co dr bu nb wi hi fc fa lo la px py pz H) (hZ : xSz F R) (hA : xAp m0 A) (hB : xNw b0 m0 A) {b : Int32} {x y u h ex ey eu eh : UInt64} {nf : Nat → Nat} (hnb : nb ≤ 4) (hfc : ∀ b9 : Nat, b9 < nb → fc b9 = nI (nf b9) ∧ nf b9 ≤ 8) (hx9 : vq x ex) (hy9 : vq y ey) (hu9 : vq u eu) (hh9 : vq h eh) : xMet l yX7_fault wsX7_fault rm_X7_fault G ty b0 [.ref m0, .int (b), .double x, .double y, .double u, .double h] H (fun v H1 => ∃ (T : Int32) (fa1 : Nat → UInt64) (fc1 : Nat → Int32), xRef G ty m0 A T F R pl un co dr bu nb wi hi fc1 fa1 lo la px py pz H1 ∧ xRfr m0 A H H1 ∧ ∃ z : Int32, v = some (.int z) ∧ ((T = nI 0 ∧ vp_in b nb ∧ (pBetween ex FP.dconst0 4652007308841189376 = true ∧ pBetween ey FP.dconst0 4652007308841189376 = true ∧ pBetween eu 4593671619917905920 4652007308841189376 = true ∧ pBetween eh 4593671619917905920 4652007308841189376 = true) ∧ ((nf b.toNatClampNeg = 8 ∧ z = nI 0 ∧ fa1 = fa ∧ fc1 = fc) ∨ (¬ nf b.toNatClampNeg = 8 ∧ z = nI 1 ∧ fa1 = vf_upd (vf_upd (vf_upd (vf_upd (fa) (32 * b.toNatClampNeg + 4 * nf b.toNatClampNeg) x) (32 * b.toNatClampNeg + 4 * nf b.toNatClampNeg + 1) y) (32 * b.toNatClampNeg + 4 * nf b.toNatClampNeg + 2) u) (32 * b.toNatClampNeg + 4 * nf b.toNatClampNeg + 3) h ∧ fc1 = upd fc b.toNatClampNeg (nI (nf b.toNatClampNeg + 1))))) ∨ (T = nI 1 ∧ ¬ vp_in b nb ∧ fa1 = fa ∧ fc1 = fc) ∨ (T = nI 2 ∧ vp_in b nb ∧ ¬ (pBetween ex FP.dconst0 4652007308841189376 = true ∧ pBetween ey FP.dconst0 4652007308841189376 = true ∧ pBetween eu 4593671619917905920 4652007308841189376 = true ∧ pBetween eh 4593671619917905920 4652007308841189376 = true) ∧ fa1 = fa ∧ fc1 = fc))) (fun _ _ => False) := by
  refine xbody (cc := cX7_fault) (maxL := 12) (ret := (some .boolean)) (C := RX7) (lv := [(0, .ref m0), (1, .int (b)), (2, .double x), (4, .double y), (6, .double u), (8, .double h)]) (by decide) rfl rfl (Nat.le_of_ble_eq_true rfl) rfl ?_
  intro p e s m below meth c d0 hx hb hr hts hown hlocks hml hxt hnm0 hK hb0 hH0 hS hd0 ls hl
  obtain ⟨y_o, y_0, y_1, y_2, y_3, y_4, y_5, y_6, y_7, y_8, y_9, y_10⟩ := id hY
  obtain ⟨⟨zF2, zF8⟩, ⟨zR2, zR8⟩⟩ := id hZ
  have J_1 : ∀ (jy : Int32) (locs : List Loc) (d0 : Drawn) (ls : Array Slot), jy = (xP (pBetween ex FP.dconst0 4652007308841189376 = true ∧ pBetween ey FP.dconst0 4652007308841189376 = true ∧ pBetween eu 4593671619917905920 4652007308841189376 = true ∧ pBetween eh 4593671619917905920 4652007308841189376 = true)) → va_S (xA b0) s.heap H locs → s.drawn.sameBut d0 lw_cs → lv_has ls 12 [(0, .ref m0), (1, .int (b)), (2, .double x), (4, .double y), (6, .double u), (8, .double h)] → W p l e rm_X7_fault (s.setDrawn d0) m [Value.ref m0, Value.int (b), Value.double x, Value.double y, Value.double u, Value.double h].toArray below meth c H locs (0) (0) (xMQ below (fun v H1 => ∃ (T : Int32) (fa1 : Nat → UInt64) (fc1 : Nat → Int32), xRef G ty m0 A T F R pl un co dr bu nb wi hi fc1 fa1 lo la px py pz H1 ∧ xRfr m0 A H H1 ∧ ∃ z : Int32, v = some (.int z) ∧ ((T = nI 0 ∧ vp_in b nb ∧ (pBetween ex FP.dconst0 4652007308841189376 = true ∧ pBetween ey FP.dconst0 4652007308841189376 = true ∧ pBetween eu 4593671619917905920 4652007308841189376 = true ∧ pBetween eh 4593671619917905920 4652007308841189376 = true) ∧ ((nf b.toNatClampNeg = 8 ∧ z = nI 0 ∧ fa1 = fa ∧ fc1 = fc) ∨ (¬ nf b.toNatClampNeg = 8 ∧ z = nI 1 ∧ fa1 = vf_upd (vf_upd (vf_upd (vf_upd (fa) (32 * b.toNatClampNeg + 4 * nf b.toNatClampNeg) x) (32 * b.toNatClampNeg + 4 * nf b.toNatClampNeg + 1) y) (32 * b.toNatClampNeg + 4 * nf b.toNatClampNeg + 2) u) (32 * b.toNatClampNeg + 4 * nf b.toNatClampNeg + 3) h ∧ fc1 = upd fc b.toNatClampNeg (nI (nf b.toNatClampNeg + 1))))) ∨ (T = nI 1 ∧ ¬ vp_in b nb ∧ fa1 = fa ∧ fc1 = fc) ∨ (T = nI 2 ∧ vp_in b nb ∧ ¬ (pBetween ex FP.dconst0 4652007308841189376 = true ∧ pBetween ey FP.dconst0 4652007308841189376 = true ∧ pBetween eu 4593671619917905920 4652007308841189376 = true ∧ pBetween eh 4593671619917905920 4652007308841189376 = true) ∧ fa1 = fa ∧ fc1 = fc))) (fun _ _ => False) [.ref m0, .int (b), .double x, .double y, .double u, .double h].toArray s rm_X7_fault b0) (F0 m 56 ls [.int (jy)]) := by
    intro jy locs d0 ls hP_1 hS hd0 hl
    subst hP_1
    refine lv_istore (lv' := [(10, .int ((xP (pBetween ex FP.dconst0 4652007308841189376 = true ∧ pBetween ey FP.dconst0 4652007308841189376 = true ∧ pBetween eu 4593671619917905920 4652007308841189376 = true ∧ pBetween eh 4593671619917905920 4652007308841189376 = true)))), (0, .ref m0), (1, .int (b)), (2, .double x), (4, .double y), (6, .double u), (8, .double h)]) hx hb dX7_fault_56 hl (by decide) rfl (fun ls hl => ?_)
    refine lv_aload_n hx hb dX7_fault_58 rfl (lv_at hl 1 rfl) ?_
    refine lv_iload_n hx hb dX7_fault_59 rfl (lv_at hl 2 rfl) ?_
    refine lv_if_lt (tgt := 71) hx hb dX7_fault_60 (by decide) (fun c_2 => ?_) (fun c_2 => ?_)
    · refine lv_iconst (v := nI 1) hx hb dX7_fault_71 (by decide) ?_
      refine lv_goto (tgt := 85) hx hb dX7_fault_72 (by decide) ?_
      refine xput (G := G) (ci := 8) (v := .int (nI 1)) (ty := .int) (C := RX7) (T := TX7) (N := 18) hx hb (hts d0) in_X7_fault_X7 tyX7 tyX7_ok nmX7 hown hK.1 y_o hS hB.1 rfl 0 (by decide) (hts d0 _ hw_X7_fault_4) (fun _ h9 => h9) rfl (by decide +kernel) rfl rfl (Nat.le_of_ble_eq_true rfl) dX7_fault_85 (fun H_3 locs_3 hs_3 hS => ?_)
      have hc_3 : xc G m0 (.inr (8, [.int (nI 1), .int (nI F), .int (nI R), .ref (A 0), .ref (A 1), .ref (A 2), .ref (A 3), .ref (A 4), .int (nI nb), .ref (A 5), .ref (A 6), .ref (A 7), .ref (A 8), .ref (A 9), .ref (A 10), .double px, .double py, .double pz])) H_3 := hs_3.1
      have hc_A0_3 : xc G (A 0) (.inl (ty 0, 192, .inr (.inr (.inr (.inl pl))))) H_3 := y_0.kept (hs_3.2.2 _ (hA.1 0 (by decide)))
      have hc_A1_3 : xc G (A 1) (.inl (ty 2, 8, .inl un)) H_3 := y_1.kept (hs_3.2.2 _ (hA.1 1 (by decide)))
      have hc_A2_3 : xc G (A 2) (.inl (ty 0, 256, .inr (.inr (.inr (.inl co))))) H_3 := y_2.kept (hs_3.2.2 _ (hA.1 2 (by decide)))
      have hc_A3_3 : xc G (A 3) (.inl (ty 0, 32, .inr (.inr (.inr (.inl dr))))) H_3 := y_3.kept (hs_3.2.2 _ (hA.1 3 (by decide)))
      have hc_A4_3 : xc G (A 4) (.inl (ty 2, 64, .inl bu)) H_3 := y_4.kept (hs_3.2.2 _ (hA.1 4 (by decide)))
      have hc_A5_3 : xc G (A 5) (.inl (ty 0, 4, .inr (.inr (.inr (.inl wi))))) H_3 := y_5.kept (hs_3.2.2 _ (hA.1 5 (by decide)))
      have hc_A6_3 : xc G (A 6) (.inl (ty 0, 4, .inr (.inr (.inr (.inl hi))))) H_3 := y_6.kept (hs_3.2.2 _ (hA.1 6 (by decide)))
      have hc_A7_3 : xc G (A 7) (.inl (ty 1, 4, .inl fc)) H_3 := y_7.kept (hs_3.2.2 _ (hA.1 7 (by decide)))
      have hc_A8_3 : xc G (A 8) (.inl (ty 0, 128, .inr (.inr (.inr (.inl fa))))) H_3 := y_8.kept (hs_3.2.2 _ (hA.1 8 (by decide)))
      have hc_A9_3 : xc G (A 9) (.inl (ty 1, 8, .inl lo)) H_3 := y_9.kept (hs_3.2.2 _ (hA.1 9 (by decide)))
      have hc_A10_3 : xc G (A 10) (.inl (ty 1, 8, .inl la)) H_3 := y_10.kept (hs_3.2.2 _ (hA.1 10 (by decide)))
      have hfr_3 : xRfr m0 A H H_3 := xRfr.put0 xRfr.rf hs_3
      refine lv_aload_n hx hb dX7_fault_88 rfl (lv_at hl 1 rfl) ?_
      refine va_get (D := G) (cl := vwCl) (ci := 8) (v := .int (nI 1)) (C := RX7) (T := TX7) (N := 18) hx hb (hts d0) in_X7_fault_X7 hown hK.1 (x1 hc_3) 0 rfl rfl 0 (by decide) (hts d0 _ hw_X7_fault_4) (fun _ h9 => h9) rfl dX7_fault_89 ?_
      refine lv_if_gt (tgt := 106) hx hb dX7_fault_92 (by decide) (fun _ => ?_) (fun h9 => (show False by revert h9; decide).elim)
      refine lv_iconst (v := nI 0) hx hb dX7_fault_106 (by decide) ?_
      exact xzret (by decide) hd0 hx hb hr hlocks hS (Nat.le_of_ble_eq_true rfl) (Nat.le_of_ble_eq_true rfl) dX7_fault_107 ⟨nI 1, _, _, ⟨hc_3, hc_A0_3, hc_A1_3, hc_A2_3, hc_A3_3, hc_A4_3, hc_A5_3, hc_A6_3, hc_A7_3, hc_A8_3, hc_A9_3, hc_A10_3⟩, hfr_3, _, rfl, Or.inr (Or.inl ⟨rfl, xin_no0 c_2, rfl, rfl⟩)⟩
    · refine lv_iload_n hx hb dX7_fault_63 rfl (lv_at hl 2 rfl) ?_
      refine lv_aload_n hx hb dX7_fault_64 rfl (lv_at hl 1 rfl) ?_
      refine va_get (D := G) (cl := vwCl) (ci := 8) (v := .int (nI nb)) (C := RX7) (T := TX7) (N := 18) hx hb (hts d0) in_X7_fault_X7 hown hK.1 (x1 y_o) 0 rfl rfl 8 (by decide) (hts d0 _ hw_X7_fault_3) (fun _ h9 => h9) rfl dX7_fault_65 ?_
      refine lv_icmp_lt (tgt := 75) hx hb dX7_fault_68 (by decide) (fun c_5 => ?_) (fun c_5 => ?_)
      · refine lv_iload hx hb dX7_fault_75 (lv_at hl 0 rfl) ?_
        refine lv_if_eq (tgt := 84) hx hb dX7_fault_77 (by decide) (fun c_6 => ?_) (fun c_6 => ?_)
        · have z_b := xin_lt c_2 c_5 (by omega)
          obtain ⟨b9, hb9, eb9⟩ := vp_in_of z_b (by omega)
          subst eb9
          obtain ⟨hfc9, hnf9⟩ := hfc b9 hb9
          refine lv_iconst (v := nI 2) hx hb dX7_fault_84 (by decide) ?_
          refine xput (G := G) (ci := 8) (v := .int (nI 2)) (ty := .int) (C := RX7) (T := TX7) (N := 18) hx hb (hts d0) in_X7_fault_X7 tyX7 tyX7_ok nmX7 hown hK.1 y_o hS hB.1 rfl 0 (by decide) (hts d0 _ hw_X7_fault_4) (fun _ h9 => h9) rfl (by decide +kernel) rfl rfl (Nat.le_of_ble_eq_true rfl) dX7_fault_85 (fun H_7 locs_7 hs_7 hS => ?_)
          have hc_7 : xc G m0 (.inr (8, [.int (nI 2), .int (nI F), .int (nI R), .ref (A 0), .ref (A 1), .ref (A 2), .ref (A 3), .ref (A 4), .int (nI nb), .ref (A 5), .ref (A 6), .ref (A 7), .ref (A 8), .ref (A 9), .ref (A 10), .double px, .double py, .double pz])) H_7 := hs_7.1
          have hc_A0_7 : xc G (A 0) (.inl (ty 0, 192, .inr (.inr (.inr (.inl pl))))) H_7 := y_0.kept (hs_7.2.2 _ (hA.1 0 (by decide)))
          have hc_A1_7 : xc G (A 1) (.inl (ty 2, 8, .inl un)) H_7 := y_1.kept (hs_7.2.2 _ (hA.1 1 (by decide)))
          have hc_A2_7 : xc G (A 2) (.inl (ty 0, 256, .inr (.inr (.inr (.inl co))))) H_7 := y_2.kept (hs_7.2.2 _ (hA.1 2 (by decide)))
          have hc_A3_7 : xc G (A 3) (.inl (ty 0, 32, .inr (.inr (.inr (.inl dr))))) H_7 := y_3.kept (hs_7.2.2 _ (hA.1 3 (by decide)))
          have hc_A4_7 : xc G (A 4) (.inl (ty 2, 64, .inl bu)) H_7 := y_4.kept (hs_7.2.2 _ (hA.1 4 (by decide)))
          have hc_A5_7 : xc G (A 5) (.inl (ty 0, 4, .inr (.inr (.inr (.inl wi))))) H_7 := y_5.kept (hs_7.2.2 _ (hA.1 5 (by decide)))
          have hc_A6_7 : xc G (A 6) (.inl (ty 0, 4, .inr (.inr (.inr (.inl hi))))) H_7 := y_6.kept (hs_7.2.2 _ (hA.1 6 (by decide)))
          have hc_A7_7 : xc G (A 7) (.inl (ty 1, 4, .inl fc)) H_7 := y_7.kept (hs_7.2.2 _ (hA.1 7 (by decide)))
          have hc_A8_7 : xc G (A 8) (.inl (ty 0, 128, .inr (.inr (.inr (.inl fa))))) H_7 := y_8.kept (hs_7.2.2 _ (hA.1 8 (by decide)))
          have hc_A9_7 : xc G (A 9) (.inl (ty 1, 8, .inl lo)) H_7 := y_9.kept (hs_7.2.2 _ (hA.1 9 (by decide)))
          have hc_A10_7 : xc G (A 10) (.inl (ty 1, 8, .inl la)) H_7 := y_10.kept (hs_7.2.2 _ (hA.1 10 (by decide)))
          have hfr_7 : xRfr m0 A H H_7 := xRfr.put0 xRfr.rf hs_7
          refine lv_aload_n hx hb dX7_fault_88 rfl (lv_at hl 1 rfl) ?_
          refine va_get (D := G) (cl := vwCl) (ci := 8) (v := .int (nI 2)) (C := RX7) (T := TX7) (N := 18) hx hb (hts d0) in_X7_fault_X7 hown hK.1 (x1 hc_7) 0 rfl rfl 0 (by decide) (hts d0 _ hw_X7_fault_4) (fun _ h9 => h9) rfl dX7_fault_89 ?_
          refine lv_if_gt (tgt := 106) hx hb dX7_fault_92 (by decide) (fun _ => ?_) (fun h9 => (show False by revert h9; decide).elim)
          refine lv_iconst (v := nI 0) hx hb dX7_fault_106 (by decide) ?_
          exact xzret (by decide) hd0 hx hb hr hlocks hS (Nat.le_of_ble_eq_true rfl) (Nat.le_of_ble_eq_true rfl) dX7_fault_107 ⟨nI 2, _, _, ⟨hc_7, hc_A0_7, hc_A1_7, hc_A2_7, hc_A3_7, hc_A4_7, hc_A5_7, hc_A6_7, hc_A7_7, hc_A8_7, hc_A9_7, hc_A10_7⟩, hfr_7, _, rfl, Or.inr (Or.inr ⟨rfl, z_b, xP_eq.mp c_6, rfl, rfl⟩)⟩
        · have z_b := xin_lt c_2 c_5 (by omega)
          obtain ⟨b9, hb9, eb9⟩ := vp_in_of z_b (by omega)
          subst eb9
          obtain ⟨hfc9, hnf9⟩ := hfc b9 hb9
          refine lv_iconst (v := nI 0) hx hb dX7_fault_80 (by decide) ?_
          refine lv_goto (tgt := 85) hx hb dX7_fault_81 (by decide) ?_
          refine xput (G := G) (ci := 8) (v := .int (nI 0)) (ty := .int) (C := RX7) (T := TX7) (N := 18) hx hb (hts d0) in_X7_fault_X7 tyX7 tyX7_ok nmX7 hown hK.1 y_o hS hB.1 rfl 0 (by decide) (hts d0 _ hw_X7_fault_4) (fun _ h9 => h9) rfl (by decide +kernel) rfl rfl (Nat.le_of_ble_eq_true rfl) dX7_fault_85 (fun H_9 locs_9 hs_9 hS => ?_)
          have hc_9 : xc G m0 (.inr (8, [.int (nI 0), .int (nI F), .int (nI R), .ref (A 0), .ref (A 1), .ref (A 2), .ref (A 3), .ref (A 4), .int (nI nb), .ref (A 5), .ref (A 6), .ref (A 7), .ref (A 8), .ref (A 9), .ref (A 10), .double px, .double py, .double pz])) H_9 := hs_9.1
          have hc_A0_9 : xc G (A 0) (.inl (ty 0, 192, .inr (.inr (.inr (.inl pl))))) H_9 := y_0.kept (hs_9.2.2 _ (hA.1 0 (by decide)))
          have hc_A1_9 : xc G (A 1) (.inl (ty 2, 8, .inl un)) H_9 := y_1.kept (hs_9.2.2 _ (hA.1 1 (by decide)))
          have hc_A2_9 : xc G (A 2) (.inl (ty 0, 256, .inr (.inr (.inr (.inl co))))) H_9 := y_2.kept (hs_9.2.2 _ (hA.1 2 (by decide)))
          have hc_A3_9 : xc G (A 3) (.inl (ty 0, 32, .inr (.inr (.inr (.inl dr))))) H_9 := y_3.kept (hs_9.2.2 _ (hA.1 3 (by decide)))
          have hc_A4_9 : xc G (A 4) (.inl (ty 2, 64, .inl bu)) H_9 := y_4.kept (hs_9.2.2 _ (hA.1 4 (by decide)))
          have hc_A5_9 : xc G (A 5) (.inl (ty 0, 4, .inr (.inr (.inr (.inl wi))))) H_9 := y_5.kept (hs_9.2.2 _ (hA.1 5 (by decide)))
          have hc_A6_9 : xc G (A 6) (.inl (ty 0, 4, .inr (.inr (.inr (.inl hi))))) H_9 := y_6.kept (hs_9.2.2 _ (hA.1 6 (by decide)))
          have hc_A7_9 : xc G (A 7) (.inl (ty 1, 4, .inl fc)) H_9 := y_7.kept (hs_9.2.2 _ (hA.1 7 (by decide)))
          have hc_A8_9 : xc G (A 8) (.inl (ty 0, 128, .inr (.inr (.inr (.inl fa))))) H_9 := y_8.kept (hs_9.2.2 _ (hA.1 8 (by decide)))
          have hc_A9_9 : xc G (A 9) (.inl (ty 1, 8, .inl lo)) H_9 := y_9.kept (hs_9.2.2 _ (hA.1 9 (by decide)))
          have hc_A10_9 : xc G (A 10) (.inl (ty 1, 8, .inl la)) H_9 := y_10.kept (hs_9.2.2 _ (hA.1 10 (by decide)))
          have hfr_9 : xRfr m0 A H H_9 := xRfr.put0 xRfr.rf hs_9
          refine lv_aload_n hx hb dX7_fault_88 rfl (lv_at hl 1 rfl) ?_
          refine va_get (D := G) (cl := vwCl) (ci := 8) (v := .int (nI 0)) (C := RX7) (T := TX7) (N := 18) hx hb (hts d0) in_X7_fault_X7 hown hK.1 (x1 hc_9) 0 rfl rfl 0 (by decide) (hts d0 _ hw_X7_fault_4) (fun _ h9 => h9) rfl dX7_fault_89 ?_
          refine lv_if_gt (tgt := 106) hx hb dX7_fault_92 (by decide) (fun h9 => (show False by revert h9; decide).elim) (fun _ => ?_)
          refine lv_aload_n hx hb dX7_fault_95 rfl (lv_at hl 1 rfl) ?_
          refine va_get (D := G) (cl := vwCl) (ci := 8) (v := .ref (A 7)) (C := RX7) (T := TX7) (N := 18) hx hb (hts d0) in_X7_fault_X7 hown hK.1 (x1 hc_9) 0 rfl rfl 11 (by decide) (hts d0 _ hw_X7_fault_5) (fun _ h9 => h9) rfl dX7_fault_96 ?_
          refine lv_iload_n hx hb dX7_fault_99 rfl (lv_at hl 2 rfl) ?_
          refine xiald (j := b9) hx hb hK.1 1 hc_A7_9 rfl (xix_of (by omega) (by omega)) dX7_fault_100 ?_
          rw [hfc9]
          refine lv_bipush (v := nI 8) hx hb dX7_fault_101 (by decide) ?_
          refine xicmpN_ne (tgt := 108) hx hb (by omega) (by decide) dX7_fault_103 (by decide) (fun c_11 => ?_) (fun c_11 => ?_)
          · refine lv_bipush (v := nI 32) hx hb dX7_fault_108 (by decide) ?_
            refine lv_iload_n hx hb dX7_fault_110 rfl (lv_at hl 2 rfl) ?_
            refine ximulN hx hb dX7_fault_111 ?_
            refine lv_iconst (v := nI 4) hx hb dX7_fault_112 (by decide) ?_
            refine lv_aload_n hx hb dX7_fault_113 rfl (lv_at hl 1 rfl) ?_
            refine va_get (D := G) (cl := vwCl) (ci := 8) (v := .ref (A 7)) (C := RX7) (T := TX7) (N := 18) hx hb (hts d0) in_X7_fault_X7 hown hK.1 (x1 hc_9) 0 rfl rfl 11 (by decide) (hts d0 _ hw_X7_fault_5) (fun _ h9 => h9) rfl dX7_fault_114 ?_
            refine lv_iload_n hx hb dX7_fault_117 rfl (lv_at hl 2 rfl) ?_
            refine xiald (j := b9) hx hb hK.1 1 hc_A7_9 rfl (xix_of (by omega) (by omega)) dX7_fault_118 ?_
            rw [hfc9]
            refine ximulN hx hb dX7_fault_119 ?_
            refine xiaddN hx hb dX7_fault_120 ?_
            refine lv_istore (lv' := [(11, .int (nI ((32 * b9) + (4 * (nf b9))))), (10, .int ((xP (pBetween ex FP.dconst0 4652007308841189376 = true ∧ pBetween ey FP.dconst0 4652007308841189376 = true ∧ pBetween eu 4593671619917905920 4652007308841189376 = true ∧ pBetween eh 4593671619917905920 4652007308841189376 = true)))), (0, .ref m0), (1, .int (nI b9)), (2, .double x), (4, .double y), (6, .double u), (8, .double h)]) hx hb dX7_fault_121 hl (by decide) rfl (fun ls hl => ?_)
            refine lv_aload_n hx hb dX7_fault_123 rfl (lv_at hl 2 rfl) ?_
            refine va_get (D := G) (cl := vwCl) (ci := 8) (v := .ref (A 8)) (C := RX7) (T := TX7) (N := 18) hx hb (hts d0) in_X7_fault_X7 hown hK.1 (x1 hc_9) 0 rfl rfl 12 (by decide) (hts d0 _ hw_X7_fault_6) (fun _ h9 => h9) rfl dX7_fault_124 ?_
            refine lv_iload hx hb dX7_fault_127 (lv_at hl 0 rfl) ?_
            refine lv_dload_n hx hb dX7_fault_129 rfl (lv_at hl 4 rfl) ?_
            refine xdastN (s := s.setDrawn d0) (j := (32 * b9) + (4 * (nf b9))) (x := x) hx hb hK.1 0 hc_A8_9 hS (hB.2 8 (by decide)) rfl (xix_of (by omega) (by omega)) dX7_fault_130 (fun H_12 locs_12 hs_12 hS => ?_)
            have hc_12 : xc G (A 8) (.inl (ty 0, 128, .inr (.inr (.inr (.inl ((vf_upd fa ((32 * b9) + (4 * (nf b9))) x))))))) H_12 := hs_12.1
            have hc_m0_12 : xc G m0 (.inr (8, [.int (nI 0), .int (nI F), .int (nI R), .ref (A 0), .ref (A 1), .ref (A 2), .ref (A 3), .ref (A 4), .int (nI nb), .ref (A 5), .ref (A 6), .ref (A 7), .ref (A 8), .ref (A 9), .ref (A 10), .double px, .double py, .double pz])) H_12 := hc_9.kept (hs_12.2.2 _ (Ne.symm (hA.1 8 (by decide))))
            have hc_A0_12 : xc G (A 0) (.inl (ty 0, 192, .inr (.inr (.inr (.inl pl))))) H_12 := hc_A0_9.kept (hs_12.2.2 _ (fun z => absurd (hA.2 0 8 (by decide) (by decide) z) (by decide)))
            have hc_A1_12 : xc G (A 1) (.inl (ty 2, 8, .inl un)) H_12 := hc_A1_9.kept (hs_12.2.2 _ (fun z => absurd (hA.2 1 8 (by decide) (by decide) z) (by decide)))
            have hc_A2_12 : xc G (A 2) (.inl (ty 0, 256, .inr (.inr (.inr (.inl co))))) H_12 := hc_A2_9.kept (hs_12.2.2 _ (fun z => absurd (hA.2 2 8 (by decide) (by decide) z) (by decide)))
            have hc_A3_12 : xc G (A 3) (.inl (ty 0, 32, .inr (.inr (.inr (.inl dr))))) H_12 := hc_A3_9.kept (hs_12.2.2 _ (fun z => absurd (hA.2 3 8 (by decide) (by decide) z) (by decide)))
            have hc_A4_12 : xc G (A 4) (.inl (ty 2, 64, .inl bu)) H_12 := hc_A4_9.kept (hs_12.2.2 _ (fun z => absurd (hA.2 4 8 (by decide) (by decide) z) (by decide)))
            have hc_A5_12 : xc G (A 5) (.inl (ty 0, 4, .inr (.inr (.inr (.inl wi))))) H_12 := hc_A5_9.kept (hs_12.2.2 _ (fun z => absurd (hA.2 5 8 (by decide) (by decide) z) (by decide)))
            have hc_A6_12 : xc G (A 6) (.inl (ty 0, 4, .inr (.inr (.inr (.inl hi))))) H_12 := hc_A6_9.kept (hs_12.2.2 _ (fun z => absurd (hA.2 6 8 (by decide) (by decide) z) (by decide)))
            have hc_A7_12 : xc G (A 7) (.inl (ty 1, 4, .inl fc)) H_12 := hc_A7_9.kept (hs_12.2.2 _ (fun z => absurd (hA.2 7 8 (by decide) (by decide) z) (by decide)))
            have hc_A9_12 : xc G (A 9) (.inl (ty 1, 8, .inl lo)) H_12 := hc_A9_9.kept (hs_12.2.2 _ (fun z => absurd (hA.2 9 8 (by decide) (by decide) z) (by decide)))
            have hc_A10_12 : xc G (A 10) (.inl (ty 1, 8, .inl la)) H_12 := hc_A10_9.kept (hs_12.2.2 _ (fun z => absurd (hA.2 10 8 (by decide) (by decide) z) (by decide)))
            have hfr_12 : xRfr m0 A H H_12 := xRfr.putA hfr_9 8 (by decide) hs_12
            refine lv_aload_n hx hb dX7_fault_131 rfl (lv_at hl 2 rfl) ?_
            refine va_get (D := G) (cl := vwCl) (ci := 8) (v := .ref (A 8)) (C := RX7) (T := TX7) (N := 18) hx hb (hts d0) in_X7_fault_X7 hown hK.1 (x1 hc_m0_12) 0 rfl rfl 12 (by decide) (hts d0 _ hw_X7_fault_6) (fun _ h9 => h9) rfl dX7_fault_132 ?_
            refine lv_iload hx hb dX7_fault_135 (lv_at hl 0 rfl) ?_
            refine lv_iconst (v := nI 1) hx hb dX7_fault_137 (by decide) ?_
            refine xiaddN hx hb dX7_fault_138 ?_
            refine lv_dload hx hb dX7_fault_139 (lv_at hl 5 rfl) ?_
            refine xdastN (s := s.setDrawn d0) (j := ((32 * b9) + (4 * (nf b9))) + 1) (x := y) hx hb hK.1 0 hc_12 hS (hB.2 8 (by decide)) rfl (xix_of (by omega) (by omega)) dX7_fault_141 (fun H_13 locs_13 hs_13 hS => ?_)
            have hc_13 : xc G (A 8) (.inl (ty 0, 128, .inr (.inr (.inr (.inl ((vf_upd (vf_upd fa ((32 * b9) + (4 * (nf b9))) x) (((32 * b9) + (4 * (nf b9))) + 1) y))))))) H_13 := hs_13.1
            have hc_m0_13 : xc G m0 (.inr (8, [.int (nI 0), .int (nI F), .int (nI R), .ref (A 0), .ref (A 1), .ref (A 2), .ref (A 3), .ref (A 4), .int (nI nb), .ref (A 5), .ref (A 6), .ref (A 7), .ref (A 8), .ref (A 9), .ref (A 10), .double px, .double py, .double pz])) H_13 := hc_m0_12.kept (hs_13.2.2 _ (Ne.symm (hA.1 8 (by decide))))
            have hc_A0_13 : xc G (A 0) (.inl (ty 0, 192, .inr (.inr (.inr (.inl pl))))) H_13 := hc_A0_12.kept (hs_13.2.2 _ (fun z => absurd (hA.2 0 8 (by decide) (by decide) z) (by decide)))
            have hc_A1_13 : xc G (A 1) (.inl (ty 2, 8, .inl un)) H_13 := hc_A1_12.kept (hs_13.2.2 _ (fun z => absurd (hA.2 1 8 (by decide) (by decide) z) (by decide)))
            have hc_A2_13 : xc G (A 2) (.inl (ty 0, 256, .inr (.inr (.inr (.inl co))))) H_13 := hc_A2_12.kept (hs_13.2.2 _ (fun z => absurd (hA.2 2 8 (by decide) (by decide) z) (by decide)))
            have hc_A3_13 : xc G (A 3) (.inl (ty 0, 32, .inr (.inr (.inr (.inl dr))))) H_13 := hc_A3_12.kept (hs_13.2.2 _ (fun z => absurd (hA.2 3 8 (by decide) (by decide) z) (by decide)))
            have hc_A4_13 : xc G (A 4) (.inl (ty 2, 64, .inl bu)) H_13 := hc_A4_12.kept (hs_13.2.2 _ (fun z => absurd (hA.2 4 8 (by decide) (by decide) z) (by decide)))
            have hc_A5_13 : xc G (A 5) (.inl (ty 0, 4, .inr (.inr (.inr (.inl wi))))) H_13 := hc_A5_12.kept (hs_13.2.2 _ (fun z => absurd (hA.2 5 8 (by decide) (by decide) z) (by decide)))
            have hc_A6_13 : xc G (A 6) (.inl (ty 0, 4, .inr (.inr (.inr (.inl hi))))) H_13 := hc_A6_12.kept (hs_13.2.2 _ (fun z => absurd (hA.2 6 8 (by decide) (by decide) z) (by decide)))
            have hc_A7_13 : xc G (A 7) (.inl (ty 1, 4, .inl fc)) H_13 := hc_A7_12.kept (hs_13.2.2 _ (fun z => absurd (hA.2 7 8 (by decide) (by decide) z) (by decide)))
            have hc_A9_13 : xc G (A 9) (.inl (ty 1, 8, .inl lo)) H_13 := hc_A9_12.kept (hs_13.2.2 _ (fun z => absurd (hA.2 9 8 (by decide) (by decide) z) (by decide)))
            have hc_A10_13 : xc G (A 10) (.inl (ty 1, 8, .inl la)) H_13 := hc_A10_12.kept (hs_13.2.2 _ (fun z => absurd (hA.2 10 8 (by decide) (by decide) z) (by decide)))
            have hfr_13 : xRfr m0 A H H_13 := xRfr.putA hfr_12 8 (by decide) hs_13
            refine lv_aload_n hx hb dX7_fault_142 rfl (lv_at hl 2 rfl) ?_
            refine va_get (D := G) (cl := vwCl) (ci := 8) (v := .ref (A 8)) (C := RX7) (T := TX7) (N := 18) hx hb (hts d0) in_X7_fault_X7 hown hK.1 (x1 hc_m0_13) 0 rfl rfl 12 (by decide) (hts d0 _ hw_X7_fault_6) (fun _ h9 => h9) rfl dX7_fault_143 ?_
            refine lv_iload hx hb dX7_fault_146 (lv_at hl 0 rfl) ?_
            refine lv_iconst (v := nI 2) hx hb dX7_fault_148 (by decide) ?_
            refine xiaddN hx hb dX7_fault_149 ?_
            refine lv_dload hx hb dX7_fault_150 (lv_at hl 6 rfl) ?_
            refine xdastN (s := s.setDrawn d0) (j := ((32 * b9) + (4 * (nf b9))) + 2) (x := u) hx hb hK.1 0 hc_13 hS (hB.2 8 (by decide)) rfl (xix_of (by omega) (by omega)) dX7_fault_152 (fun H_14 locs_14 hs_14 hS => ?_)
            have hc_14 : xc G (A 8) (.inl (ty 0, 128, .inr (.inr (.inr (.inl ((vf_upd (vf_upd (vf_upd fa ((32 * b9) + (4 * (nf b9))) x) (((32 * b9) + (4 * (nf b9))) + 1) y) (((32 * b9) + (4 * (nf b9))) + 2) u))))))) H_14 := hs_14.1
            have hc_m0_14 : xc G m0 (.inr (8, [.int (nI 0), .int (nI F), .int (nI R), .ref (A 0), .ref (A 1), .ref (A 2), .ref (A 3), .ref (A 4), .int (nI nb), .ref (A 5), .ref (A 6), .ref (A 7), .ref (A 8), .ref (A 9), .ref (A 10), .double px, .double py, .double pz])) H_14 := hc_m0_13.kept (hs_14.2.2 _ (Ne.symm (hA.1 8 (by decide))))
            have hc_A0_14 : xc G (A 0) (.inl (ty 0, 192, .inr (.inr (.inr (.inl pl))))) H_14 := hc_A0_13.kept (hs_14.2.2 _ (fun z => absurd (hA.2 0 8 (by decide) (by decide) z) (by decide)))
            have hc_A1_14 : xc G (A 1) (.inl (ty 2, 8, .inl un)) H_14 := hc_A1_13.kept (hs_14.2.2 _ (fun z => absurd (hA.2 1 8 (by decide) (by decide) z) (by decide)))
            have hc_A2_14 : xc G (A 2) (.inl (ty 0, 256, .inr (.inr (.inr (.inl co))))) H_14 := hc_A2_13.kept (hs_14.2.2 _ (fun z => absurd (hA.2 2 8 (by decide) (by decide) z) (by decide)))
            have hc_A3_14 : xc G (A 3) (.inl (ty 0, 32, .inr (.inr (.inr (.inl dr))))) H_14 := hc_A3_13.kept (hs_14.2.2 _ (fun z => absurd (hA.2 3 8 (by decide) (by decide) z) (by decide)))
            have hc_A4_14 : xc G (A 4) (.inl (ty 2, 64, .inl bu)) H_14 := hc_A4_13.kept (hs_14.2.2 _ (fun z => absurd (hA.2 4 8 (by decide) (by decide) z) (by decide)))
            have hc_A5_14 : xc G (A 5) (.inl (ty 0, 4, .inr (.inr (.inr (.inl wi))))) H_14 := hc_A5_13.kept (hs_14.2.2 _ (fun z => absurd (hA.2 5 8 (by decide) (by decide) z) (by decide)))
            have hc_A6_14 : xc G (A 6) (.inl (ty 0, 4, .inr (.inr (.inr (.inl hi))))) H_14 := hc_A6_13.kept (hs_14.2.2 _ (fun z => absurd (hA.2 6 8 (by decide) (by decide) z) (by decide)))
            have hc_A7_14 : xc G (A 7) (.inl (ty 1, 4, .inl fc)) H_14 := hc_A7_13.kept (hs_14.2.2 _ (fun z => absurd (hA.2 7 8 (by decide) (by decide) z) (by decide)))
            have hc_A9_14 : xc G (A 9) (.inl (ty 1, 8, .inl lo)) H_14 := hc_A9_13.kept (hs_14.2.2 _ (fun z => absurd (hA.2 9 8 (by decide) (by decide) z) (by decide)))
            have hc_A10_14 : xc G (A 10) (.inl (ty 1, 8, .inl la)) H_14 := hc_A10_13.kept (hs_14.2.2 _ (fun z => absurd (hA.2 10 8 (by decide) (by decide) z) (by decide)))
            have hfr_14 : xRfr m0 A H H_14 := xRfr.putA hfr_13 8 (by decide) hs_14
            refine lv_aload_n hx hb dX7_fault_153 rfl (lv_at hl 2 rfl) ?_
            refine va_get (D := G) (cl := vwCl) (ci := 8) (v := .ref (A 8)) (C := RX7) (T := TX7) (N := 18) hx hb (hts d0) in_X7_fault_X7 hown hK.1 (x1 hc_m0_14) 0 rfl rfl 12 (by decide) (hts d0 _ hw_X7_fault_6) (fun _ h9 => h9) rfl dX7_fault_154 ?_
            refine lv_iload hx hb dX7_fault_157 (lv_at hl 0 rfl) ?_
            refine lv_iconst (v := nI 3) hx hb dX7_fault_159 (by decide) ?_
            refine xiaddN hx hb dX7_fault_160 ?_
            refine lv_dload hx hb dX7_fault_161 (lv_at hl 7 rfl) ?_
            refine xdastN (s := s.setDrawn d0) (j := ((32 * b9) + (4 * (nf b9))) + 3) (x := h) hx hb hK.1 0 hc_14 hS (hB.2 8 (by decide)) rfl (xix_of (by omega) (by omega)) dX7_fault_163 (fun H_15 locs_15 hs_15 hS => ?_)
            have hc_15 : xc G (A 8) (.inl (ty 0, 128, .inr (.inr (.inr (.inl ((vf_upd (vf_upd (vf_upd (vf_upd fa ((32 * b9) + (4 * (nf b9))) x) (((32 * b9) + (4 * (nf b9))) + 1) y) (((32 * b9) + (4 * (nf b9))) + 2) u) (((32 * b9) + (4 * (nf b9))) + 3) h))))))) H_15 := hs_15.1
            have hc_m0_15 : xc G m0 (.inr (8, [.int (nI 0), .int (nI F), .int (nI R), .ref (A 0), .ref (A 1), .ref (A 2), .ref (A 3), .ref (A 4), .int (nI nb), .ref (A 5), .ref (A 6), .ref (A 7), .ref (A 8), .ref (A 9), .ref (A 10), .double px, .double py, .double pz])) H_15 := hc_m0_14.kept (hs_15.2.2 _ (Ne.symm (hA.1 8 (by decide))))
            have hc_A0_15 : xc G (A 0) (.inl (ty 0, 192, .inr (.inr (.inr (.inl pl))))) H_15 := hc_A0_14.kept (hs_15.2.2 _ (fun z => absurd (hA.2 0 8 (by decide) (by decide) z) (by decide)))
            have hc_A1_15 : xc G (A 1) (.inl (ty 2, 8, .inl un)) H_15 := hc_A1_14.kept (hs_15.2.2 _ (fun z => absurd (hA.2 1 8 (by decide) (by decide) z) (by decide)))
            have hc_A2_15 : xc G (A 2) (.inl (ty 0, 256, .inr (.inr (.inr (.inl co))))) H_15 := hc_A2_14.kept (hs_15.2.2 _ (fun z => absurd (hA.2 2 8 (by decide) (by decide) z) (by decide)))
            have hc_A3_15 : xc G (A 3) (.inl (ty 0, 32, .inr (.inr (.inr (.inl dr))))) H_15 := hc_A3_14.kept (hs_15.2.2 _ (fun z => absurd (hA.2 3 8 (by decide) (by decide) z) (by decide)))
            have hc_A4_15 : xc G (A 4) (.inl (ty 2, 64, .inl bu)) H_15 := hc_A4_14.kept (hs_15.2.2 _ (fun z => absurd (hA.2 4 8 (by decide) (by decide) z) (by decide)))
            have hc_A5_15 : xc G (A 5) (.inl (ty 0, 4, .inr (.inr (.inr (.inl wi))))) H_15 := hc_A5_14.kept (hs_15.2.2 _ (fun z => absurd (hA.2 5 8 (by decide) (by decide) z) (by decide)))
            have hc_A6_15 : xc G (A 6) (.inl (ty 0, 4, .inr (.inr (.inr (.inl hi))))) H_15 := hc_A6_14.kept (hs_15.2.2 _ (fun z => absurd (hA.2 6 8 (by decide) (by decide) z) (by decide)))
            have hc_A7_15 : xc G (A 7) (.inl (ty 1, 4, .inl fc)) H_15 := hc_A7_14.kept (hs_15.2.2 _ (fun z => absurd (hA.2 7 8 (by decide) (by decide) z) (by decide)))
            have hc_A9_15 : xc G (A 9) (.inl (ty 1, 8, .inl lo)) H_15 := hc_A9_14.kept (hs_15.2.2 _ (fun z => absurd (hA.2 9 8 (by decide) (by decide) z) (by decide)))
            have hc_A10_15 : xc G (A 10) (.inl (ty 1, 8, .inl la)) H_15 := hc_A10_14.kept (hs_15.2.2 _ (fun z => absurd (hA.2 10 8 (by decide) (by decide) z) (by decide)))
            have hfr_15 : xRfr m0 A H H_15 := xRfr.putA hfr_14 8 (by decide) hs_15
            refine lv_aload_n hx hb dX7_fault_164 rfl (lv_at hl 2 rfl) ?_
            refine va_get (D := G) (cl := vwCl) (ci := 8) (v := .ref (A 7)) (C := RX7) (T := TX7) (N := 18) hx hb (hts d0) in_X7_fault_X7 hown hK.1 (x1 hc_m0_15) 0 rfl rfl 11 (by decide) (hts d0 _ hw_X7_fault_5) (fun _ h9 => h9) rfl dX7_fault_165 ?_
            refine lv_iload_n hx hb dX7_fault_168 rfl (lv_at hl 3 rfl) ?_
            refine lv_dup2_11 hx hb dX7_fault_169 rfl rfl ?_
            refine xiald (j := b9) hx hb hK.1 1 hc_A7_15 rfl (xix_of (by omega) (by omega)) dX7_fault_170 ?_
            rw [hfc9]
            refine lv_iconst (v := nI 1) hx hb dX7_fault_171 (by decide) ?_
            refine xiaddN hx hb dX7_fault_172 ?_
            refine xiastN (s := s.setDrawn d0) (j := b9) (x := nI ((nf b9) + 1)) hx hb hK.1 1 hc_A7_15 hS (hB.2 7 (by decide)) rfl (xix_of (by omega) (by omega)) dX7_fault_173 (fun H_16 locs_16 hs_16 hS => ?_)
            have hc_16 : xc G (A 7) (.inl (ty 1, 4, .inl ((upd fc b9 (nI ((nf b9) + 1)))))) H_16 := hs_16.1
            have hc_m0_16 : xc G m0 (.inr (8, [.int (nI 0), .int (nI F), .int (nI R), .ref (A 0), .ref (A 1), .ref (A 2), .ref (A 3), .ref (A 4), .int (nI nb), .ref (A 5), .ref (A 6), .ref (A 7), .ref (A 8), .ref (A 9), .ref (A 10), .double px, .double py, .double pz])) H_16 := hc_m0_15.kept (hs_16.2.2 _ (Ne.symm (hA.1 7 (by decide))))
            have hc_A0_16 : xc G (A 0) (.inl (ty 0, 192, .inr (.inr (.inr (.inl pl))))) H_16 := hc_A0_15.kept (hs_16.2.2 _ (fun z => absurd (hA.2 0 7 (by decide) (by decide) z) (by decide)))
            have hc_A1_16 : xc G (A 1) (.inl (ty 2, 8, .inl un)) H_16 := hc_A1_15.kept (hs_16.2.2 _ (fun z => absurd (hA.2 1 7 (by decide) (by decide) z) (by decide)))
            have hc_A2_16 : xc G (A 2) (.inl (ty 0, 256, .inr (.inr (.inr (.inl co))))) H_16 := hc_A2_15.kept (hs_16.2.2 _ (fun z => absurd (hA.2 2 7 (by decide) (by decide) z) (by decide)))
            have hc_A3_16 : xc G (A 3) (.inl (ty 0, 32, .inr (.inr (.inr (.inl dr))))) H_16 := hc_A3_15.kept (hs_16.2.2 _ (fun z => absurd (hA.2 3 7 (by decide) (by decide) z) (by decide)))
            have hc_A4_16 : xc G (A 4) (.inl (ty 2, 64, .inl bu)) H_16 := hc_A4_15.kept (hs_16.2.2 _ (fun z => absurd (hA.2 4 7 (by decide) (by decide) z) (by decide)))
            have hc_A5_16 : xc G (A 5) (.inl (ty 0, 4, .inr (.inr (.inr (.inl wi))))) H_16 := hc_A5_15.kept (hs_16.2.2 _ (fun z => absurd (hA.2 5 7 (by decide) (by decide) z) (by decide)))
            have hc_A6_16 : xc G (A 6) (.inl (ty 0, 4, .inr (.inr (.inr (.inl hi))))) H_16 := hc_A6_15.kept (hs_16.2.2 _ (fun z => absurd (hA.2 6 7 (by decide) (by decide) z) (by decide)))
            have hc_A8_16 : xc G (A 8) (.inl (ty 0, 128, .inr (.inr (.inr (.inl ((vf_upd (vf_upd (vf_upd (vf_upd fa ((32 * b9) + (4 * (nf b9))) x) (((32 * b9) + (4 * (nf b9))) + 1) y) (((32 * b9) + (4 * (nf b9))) + 2) u) (((32 * b9) + (4 * (nf b9))) + 3) h))))))) H_16 := hc_15.kept (hs_16.2.2 _ (fun z => absurd (hA.2 8 7 (by decide) (by decide) z) (by decide)))
            have hc_A9_16 : xc G (A 9) (.inl (ty 1, 8, .inl lo)) H_16 := hc_A9_15.kept (hs_16.2.2 _ (fun z => absurd (hA.2 9 7 (by decide) (by decide) z) (by decide)))
            have hc_A10_16 : xc G (A 10) (.inl (ty 1, 8, .inl la)) H_16 := hc_A10_15.kept (hs_16.2.2 _ (fun z => absurd (hA.2 10 7 (by decide) (by decide) z) (by decide)))
            have hfr_16 : xRfr m0 A H H_16 := xRfr.putA hfr_15 7 (by decide) hs_16
            refine lv_iconst (v := nI 1) hx hb dX7_fault_174 (by decide) ?_
            exact xzret (by decide) hd0 hx hb hr hlocks hS (Nat.le_of_ble_eq_true rfl) (Nat.le_of_ble_eq_true rfl) dX7_fault_175 ⟨nI 0, _, _, ⟨hc_m0_16, hc_A0_16, hc_A1_16, hc_A2_16, hc_A3_16, hc_A4_16, hc_A5_16, hc_A6_16, hc_16, hc_A8_16, hc_A9_16, hc_A10_16⟩, hfr_16, _, rfl, Or.inl ⟨rfl, z_b, xP_ne.mp c_6, by rw [nN_nI (by omega)]; exact (Or.inr ⟨c_11, rfl, rfl, rfl⟩)⟩⟩
          · refine lv_iconst (v := nI 0) hx hb dX7_fault_106 (by decide) ?_
            exact xzret (by decide) hd0 hx hb hr hlocks hS (Nat.le_of_ble_eq_true rfl) (Nat.le_of_ble_eq_true rfl) dX7_fault_107 ⟨nI 0, _, _, ⟨hc_9, hc_A0_9, hc_A1_9, hc_A2_9, hc_A3_9, hc_A4_9, hc_A5_9, hc_A6_9, hc_A7_9, hc_A8_9, hc_A9_9, hc_A10_9⟩, hfr_9, _, rfl, Or.inl ⟨rfl, z_b, xP_ne.mp c_6, by rw [nN_nI (by omega)]; exact (Or.inl ⟨c_11, rfl, rfl, rfl⟩)⟩⟩
      · refine lv_iconst (v := nI 1) hx hb dX7_fault_71 (by decide) ?_
        refine lv_goto (tgt := 85) hx hb dX7_fault_72 (by decide) ?_
        refine xput (G := G) (ci := 8) (v := .int (nI 1)) (ty := .int) (C := RX7) (T := TX7) (N := 18) hx hb (hts d0) in_X7_fault_X7 tyX7 tyX7_ok nmX7 hown hK.1 y_o hS hB.1 rfl 0 (by decide) (hts d0 _ hw_X7_fault_4) (fun _ h9 => h9) rfl (by decide +kernel) rfl rfl (Nat.le_of_ble_eq_true rfl) dX7_fault_85 (fun H_17 locs_17 hs_17 hS => ?_)
        have hc_17 : xc G m0 (.inr (8, [.int (nI 1), .int (nI F), .int (nI R), .ref (A 0), .ref (A 1), .ref (A 2), .ref (A 3), .ref (A 4), .int (nI nb), .ref (A 5), .ref (A 6), .ref (A 7), .ref (A 8), .ref (A 9), .ref (A 10), .double px, .double py, .double pz])) H_17 := hs_17.1
        have hc_A0_17 : xc G (A 0) (.inl (ty 0, 192, .inr (.inr (.inr (.inl pl))))) H_17 := y_0.kept (hs_17.2.2 _ (hA.1 0 (by decide)))
        have hc_A1_17 : xc G (A 1) (.inl (ty 2, 8, .inl un)) H_17 := y_1.kept (hs_17.2.2 _ (hA.1 1 (by decide)))
        have hc_A2_17 : xc G (A 2) (.inl (ty 0, 256, .inr (.inr (.inr (.inl co))))) H_17 := y_2.kept (hs_17.2.2 _ (hA.1 2 (by decide)))
        have hc_A3_17 : xc G (A 3) (.inl (ty 0, 32, .inr (.inr (.inr (.inl dr))))) H_17 := y_3.kept (hs_17.2.2 _ (hA.1 3 (by decide)))
        have hc_A4_17 : xc G (A 4) (.inl (ty 2, 64, .inl bu)) H_17 := y_4.kept (hs_17.2.2 _ (hA.1 4 (by decide)))
        have hc_A5_17 : xc G (A 5) (.inl (ty 0, 4, .inr (.inr (.inr (.inl wi))))) H_17 := y_5.kept (hs_17.2.2 _ (hA.1 5 (by decide)))
        have hc_A6_17 : xc G (A 6) (.inl (ty 0, 4, .inr (.inr (.inr (.inl hi))))) H_17 := y_6.kept (hs_17.2.2 _ (hA.1 6 (by decide)))
        have hc_A7_17 : xc G (A 7) (.inl (ty 1, 4, .inl fc)) H_17 := y_7.kept (hs_17.2.2 _ (hA.1 7 (by decide)))
        have hc_A8_17 : xc G (A 8) (.inl (ty 0, 128, .inr (.inr (.inr (.inl fa))))) H_17 := y_8.kept (hs_17.2.2 _ (hA.1 8 (by decide)))
        have hc_A9_17 : xc G (A 9) (.inl (ty 1, 8, .inl lo)) H_17 := y_9.kept (hs_17.2.2 _ (hA.1 9 (by decide)))
        have hc_A10_17 : xc G (A 10) (.inl (ty 1, 8, .inl la)) H_17 := y_10.kept (hs_17.2.2 _ (hA.1 10 (by decide)))
        have hfr_17 : xRfr m0 A H H_17 := xRfr.put0 xRfr.rf hs_17
        refine lv_aload_n hx hb dX7_fault_88 rfl (lv_at hl 1 rfl) ?_
        refine va_get (D := G) (cl := vwCl) (ci := 8) (v := .int (nI 1)) (C := RX7) (T := TX7) (N := 18) hx hb (hts d0) in_X7_fault_X7 hown hK.1 (x1 hc_17) 0 rfl rfl 0 (by decide) (hts d0 _ hw_X7_fault_4) (fun _ h9 => h9) rfl dX7_fault_89 ?_
        refine lv_if_gt (tgt := 106) hx hb dX7_fault_92 (by decide) (fun _ => ?_) (fun h9 => (show False by revert h9; decide).elim)
        refine lv_iconst (v := nI 0) hx hb dX7_fault_106 (by decide) ?_
        exact xzret (by decide) hd0 hx hb hr hlocks hS (Nat.le_of_ble_eq_true rfl) (Nat.le_of_ble_eq_true rfl) dX7_fault_107 ⟨nI 1, _, _, ⟨hc_17, hc_A0_17, hc_A1_17, hc_A2_17, hc_A3_17, hc_A4_17, hc_A5_17, hc_A6_17, hc_A7_17, hc_A8_17, hc_A9_17, hc_A10_17⟩, hfr_17, _, rfl, Or.inr (Or.inl ⟨rfl, xin_nlt c_5 (by omega), rfl, rfl⟩)⟩
  refine lv_dload_n hx hb dX7_fault_0 rfl (lv_at hl 2 rfl) ?_
  refine lv_dconst0 hx hb dX7_fault_1 ?_
  refine lv_ldc2d hx hb hown (hts d0 _ hw_X7_fault_1) dX7_fault_2 ?_
  have cw_19 := va_cwS (R := rm_X7_fault) (rm := rm_X7_between) 3 (hts d0) gX7_fault_X7_between rfl rfl rfl (by decide +kernel) ⟨Nat.le_of_ble_eq_true rfl, Nat.le_of_ble_eq_true rfl⟩
  refine xcall hd0 (xintoS (As := [.double x, .double FP.dconst0, .double 4652007308841189376]) (rest := []) ⟨hx, hb, hml, hown, hts _⟩ cw_19 rfl rfl hl.1 rfl (lv_room (Nat.le_of_ble_eq_true rfl)) dX7_fault_5) (c_X7_between (l := l) (G := G) (ty := ty) (b0 := b0) hx9 (vq_rf _) (vq_rf _)) (xoweB cw_19.1) hK hb0 hS (Nat.le_of_ble_eq_true rfl) (Nat.le_of_ble_eq_true rfl) (fun E_19 ce_19 q9_19 H_19 locs_19 d0 hd0 hp_19 hS hce_19 hcv_19 hcl_19 => ?_) (fun v_19 H_19 locs_19 d0 hd0 hp_19 hS => ?_)
  · exact hp_19.elim
  · obtain ⟨rfl, rfl⟩ := hp_19
    show W p l e _ (s.setDrawn _) m _ below meth c _ _ _ _ _ (F0 m 8 ls [.int (xB (pBetween ex FP.dconst0 4652007308841189376))])
    refine lv_if_eq (tgt := 55) hx hb dX7_fault_8 (by decide) (fun c_20 => ?_) (fun c_20 => ?_)
    · refine lv_iconst (v := nI 0) hx hb dX7_fault_55 (by decide) ?_
      exact J_1 _ _ d0 ls (xP_f (fun z => xtf z.1 (xB_f c_20))).symm hS hd0 (lv_sub hl [0, 1, 2, 3, 4, 5] rfl)
    · refine lv_dload hx hb dX7_fault_11 (lv_at hl 3 rfl) ?_
      refine lv_dconst0 hx hb dX7_fault_13 ?_
      refine lv_ldc2d hx hb hown (hts d0 _ hw_X7_fault_1) dX7_fault_14 ?_
      have cw_21 := va_cwS (R := rm_X7_fault) (rm := rm_X7_between) 3 (hts d0) gX7_fault_X7_between rfl rfl rfl (by decide +kernel) ⟨Nat.le_of_ble_eq_true rfl, Nat.le_of_ble_eq_true rfl⟩
      refine xcall hd0 (xintoS (As := [.double y, .double FP.dconst0, .double 4652007308841189376]) (rest := []) ⟨hx, hb, hml, hown, hts _⟩ cw_21 rfl rfl hl.1 rfl (lv_room (Nat.le_of_ble_eq_true rfl)) dX7_fault_17) (c_X7_between (l := l) (G := G) (ty := ty) (b0 := b0) hy9 (vq_rf _) (vq_rf _)) (xoweB cw_21.1) hK hb0 hS (Nat.le_of_ble_eq_true rfl) (Nat.le_of_ble_eq_true rfl) (fun E_21 ce_21 q9_21 H_21 locs_21 d0 hd0 hp_21 hS hce_21 hcv_21 hcl_21 => ?_) (fun v_21 H_21 locs_21 d0 hd0 hp_21 hS => ?_)
      · exact hp_21.elim
      · obtain ⟨rfl, rfl⟩ := hp_21
        show W p l e _ (s.setDrawn _) m _ below meth c _ _ _ _ _ (F0 m 20 ls [.int (xB (pBetween ey FP.dconst0 4652007308841189376))])
        refine lv_if_eq (tgt := 55) hx hb dX7_fault_20 (by decide) (fun c_22 => ?_) (fun c_22 => ?_)
        · refine lv_iconst (v := nI 0) hx hb dX7_fault_55 (by decide) ?_
          exact J_1 _ _ d0 ls (xP_f (fun z => xtf z.2.1 (xB_f c_22))).symm hS hd0 (lv_sub hl [0, 1, 2, 3, 4, 5] rfl)
        · refine lv_dload hx hb dX7_fault_23 (lv_at hl 4 rfl) ?_
          refine lv_ldc2d hx hb hown (hts d0 _ hw_X7_fault_2) dX7_fault_25 ?_
          refine lv_ldc2d hx hb hown (hts d0 _ hw_X7_fault_1) dX7_fault_28 ?_
          have cw_23 := va_cwS (R := rm_X7_fault) (rm := rm_X7_between) 3 (hts d0) gX7_fault_X7_between rfl rfl rfl (by decide +kernel) ⟨Nat.le_of_ble_eq_true rfl, Nat.le_of_ble_eq_true rfl⟩
          refine xcall hd0 (xintoS (As := [.double u, .double 4593671619917905920, .double 4652007308841189376]) (rest := []) ⟨hx, hb, hml, hown, hts _⟩ cw_23 rfl rfl hl.1 rfl (lv_room (Nat.le_of_ble_eq_true rfl)) dX7_fault_31) (c_X7_between (l := l) (G := G) (ty := ty) (b0 := b0) hu9 (vq_rf _) (vq_rf _)) (xoweB cw_23.1) hK hb0 hS (Nat.le_of_ble_eq_true rfl) (Nat.le_of_ble_eq_true rfl) (fun E_23 ce_23 q9_23 H_23 locs_23 d0 hd0 hp_23 hS hce_23 hcv_23 hcl_23 => ?_) (fun v_23 H_23 locs_23 d0 hd0 hp_23 hS => ?_)
          · exact hp_23.elim
          · obtain ⟨rfl, rfl⟩ := hp_23
            show W p l e _ (s.setDrawn _) m _ below meth c _ _ _ _ _ (F0 m 34 ls [.int (xB (pBetween eu 4593671619917905920 4652007308841189376))])
            refine lv_if_eq (tgt := 55) hx hb dX7_fault_34 (by decide) (fun c_24 => ?_) (fun c_24 => ?_)
            · refine lv_iconst (v := nI 0) hx hb dX7_fault_55 (by decide) ?_
              exact J_1 _ _ d0 ls (xP_f (fun z => xtf z.2.2.1 (xB_f c_24))).symm hS hd0 (lv_sub hl [0, 1, 2, 3, 4, 5] rfl)
            · refine lv_dload hx hb dX7_fault_37 (lv_at hl 5 rfl) ?_
              refine lv_ldc2d hx hb hown (hts d0 _ hw_X7_fault_2) dX7_fault_39 ?_
              refine lv_ldc2d hx hb hown (hts d0 _ hw_X7_fault_1) dX7_fault_42 ?_
              have cw_25 := va_cwS (R := rm_X7_fault) (rm := rm_X7_between) 3 (hts d0) gX7_fault_X7_between rfl rfl rfl (by decide +kernel) ⟨Nat.le_of_ble_eq_true rfl, Nat.le_of_ble_eq_true rfl⟩
              refine xcall hd0 (xintoS (As := [.double h, .double 4593671619917905920, .double 4652007308841189376]) (rest := []) ⟨hx, hb, hml, hown, hts _⟩ cw_25 rfl rfl hl.1 rfl (lv_room (Nat.le_of_ble_eq_true rfl)) dX7_fault_45) (c_X7_between (l := l) (G := G) (ty := ty) (b0 := b0) hh9 (vq_rf _) (vq_rf _)) (xoweB cw_25.1) hK hb0 hS (Nat.le_of_ble_eq_true rfl) (Nat.le_of_ble_eq_true rfl) (fun E_25 ce_25 q9_25 H_25 locs_25 d0 hd0 hp_25 hS hce_25 hcv_25 hcl_25 => ?_) (fun v_25 H_25 locs_25 d0 hd0 hp_25 hS => ?_)
              · exact hp_25.elim
              · obtain ⟨rfl, rfl⟩ := hp_25
                show W p l e _ (s.setDrawn _) m _ below meth c _ _ _ _ _ (F0 m 48 ls [.int (xB (pBetween eh 4593671619917905920 4652007308841189376))])
                refine lv_if_eq (tgt := 55) hx hb dX7_fault_48 (by decide) (fun c_26 => ?_) (fun c_26 => ?_)
                · refine lv_iconst (v := nI 0) hx hb dX7_fault_55 (by decide) ?_
                  exact J_1 _ _ d0 ls (xP_f (fun z => xtf z.2.2.2 (xB_f c_26))).symm hS hd0 (lv_sub hl [0, 1, 2, 3, 4, 5] rfl)
                · refine lv_iconst (v := nI 1) hx hb dX7_fault_51 (by decide) ?_
                  refine lv_goto (tgt := 56) hx hb dX7_fault_52 (by decide) ?_
                  exact J_1 _ _ d0 ls (xP_t ⟨xB_t c_20, xB_t c_22, xB_t c_24, xB_t c_26⟩).symm hS hd0 (lv_sub hl [0, 1, 2, 3, 4, 5] rfl)
def pEi (k : Nat) : UInt64 := FP.ddiv (FP.i2d (nI k)) 4620693217682128896
set_option maxRecDepth 20000 in
theorem ggX7_nest_X7_noStrip : GoodIn wsX7_nest wsX7_noStrip := goodIn_r _ [13, 14, 27, 28, 29, 30, 31, 32, 33, 34, 35, 36, 37, 38, 39, 40, 41, 42, 43, 44] (by decide +kernel) (by decide +kernel)
set_option maxRecDepth 20000 in
theorem gX7_nest_X7_noStrip : GoodIn wsX7_nest (wsV RX7 87 RX7 yX7_noStrip wsX7_noStrip) := goodIn_app (goodIn_of _ (by decide +kernel)) ggX7_nest_X7_noStrip
set_option maxRecDepth 20000 in
theorem ggX7_nest_X7_size : GoodIn wsX7_nest wsX7_size := goodIn_r _ [18, 19, 20, 27, 28, 29, 30, 31, 32, 33, 34, 35, 36, 37, 38, 39, 40, 41, 42, 43, 44] (by decide +kernel) (by decide +kernel)
set_option maxRecDepth 20000 in
theorem gX7_nest_X7_size : GoodIn wsX7_nest (wsV RX7 129 RX7 yX7_size wsX7_size) := goodIn_app (goodIn_of _ (by decide +kernel)) ggX7_nest_X7_size
set_option maxRecDepth 20000 in
theorem ggX7_nest_X7_isOpen : GoodIn wsX7_nest wsX7_isOpen := goodIn_r _ [24, 25, 26, 14, 8, 6, 3, 15, 16, 17, 12, 18, 19, 20, 27, 28, 29, 30, 31, 32, 33, 34, 35, 36, 37, 38, 39, 40, 41, 42, 43, 44] (by decide +kernel) (by decide +kernel)
set_option maxRecDepth 20000 in
theorem gX7_nest_X7_isOpen : GoodIn wsX7_nest (wsV RX7 132 RX7 yX7_isOpen wsX7_isOpen) := goodIn_app (goodIn_of _ (by decide +kernel)) ggX7_nest_X7_isOpen
theorem dX7_nest_0 : decode cX7_nest 0 = .ok (.aload_n 0, 1) := by decide +kernel
theorem dX7_nest_1 : decode cX7_nest 1 = .ok (.iload_n 1, 1) := by decide +kernel
theorem dX7_nest_2 : decode cX7_nest 2 = .ok (.ifCond .lt 19, 3) := by decide +kernel
theorem dX7_nest_5 : decode cX7_nest 5 = .ok (.iload_n 1, 1) := by decide +kernel
theorem dX7_nest_6 : decode cX7_nest 6 = .ok (.aload_n 0, 1) := by decide +kernel
theorem dX7_nest_7 : decode cX7_nest 7 = .ok (.getfield 122, 3) := by decide +kernel
theorem dX7_nest_10 : decode cX7_nest 10 = .ok (.if_icmp .ge 11, 3) := by decide +kernel
theorem dX7_nest_13 : decode cX7_nest 13 = .ok (.aload_n 0, 1) := by decide +kernel
theorem dX7_nest_14 : decode cX7_nest 14 = .ok (.iload_n 2, 1) := by decide +kernel
theorem dX7_nest_15 : decode cX7_nest 15 = .ok (.invokevirtual 87, 3) := by decide +kernel
theorem dX7_nest_18 : decode cX7_nest 18 = .ok (.ifCond .eq 7, 3) := by decide +kernel
theorem dX7_nest_21 : decode cX7_nest 21 = .ok (.iconst 1, 1) := by decide +kernel
theorem dX7_nest_22 : decode cX7_nest 22 = .ok (.goto 27, 3) := by decide +kernel
theorem dX7_nest_25 : decode cX7_nest 25 = .ok (.aload_n 0, 1) := by decide +kernel
theorem dX7_nest_26 : decode cX7_nest 26 = .ok (.getfield 13, 3) := by decide +kernel
theorem dX7_nest_29 : decode cX7_nest 29 = .ok (.iload_n 2, 1) := by decide +kernel
theorem dX7_nest_30 : decode cX7_nest 30 = .ok (.baload, 1) := by decide +kernel
theorem dX7_nest_31 : decode cX7_nest 31 = .ok (.ifCond .eq 13, 3) := by decide +kernel
theorem dX7_nest_34 : decode cX7_nest 34 = .ok (.aload_n 0, 1) := by decide +kernel
theorem dX7_nest_35 : decode cX7_nest 35 = .ok (.getfield 39, 3) := by decide +kernel
theorem dX7_nest_38 : decode cX7_nest 38 = .ok (.iload_n 2, 1) := by decide +kernel
theorem dX7_nest_39 : decode cX7_nest 39 = .ok (.iaload, 1) := by decide +kernel
theorem dX7_nest_40 : decode cX7_nest 40 = .ok (.iconst (-1), 1) := by decide +kernel
theorem dX7_nest_41 : decode cX7_nest 41 = .ok (.if_icmp .eq 7, 3) := by decide +kernel
theorem dX7_nest_44 : decode cX7_nest 44 = .ok (.iconst 2, 1) := by decide +kernel
theorem dX7_nest_45 : decode cX7_nest 45 = .ok (.goto 4, 3) := by decide +kernel
theorem dX7_nest_48 : decode cX7_nest 48 = .ok (.iconst 0, 1) := by decide +kernel
theorem dX7_nest_49 : decode cX7_nest 49 = .ok (.putfield 52, 3) := by decide +kernel
theorem dX7_nest_52 : decode cX7_nest 52 = .ok (.aload_n 0, 1) := by decide +kernel
theorem dX7_nest_53 : decode cX7_nest 53 = .ok (.getfield 52, 3) := by decide +kernel
theorem dX7_nest_56 : decode cX7_nest 56 = .ok (.ifCond .le 5, 3) := by decide +kernel
theorem dX7_nest_59 : decode cX7_nest 59 = .ok (.iconst 0, 1) := by decide +kernel
theorem dX7_nest_60 : decode cX7_nest 60 = .ok (.ireturn, 1) := by decide +kernel
theorem dX7_nest_61 : decode cX7_nest 61 = .ok (.aload_n 0, 1) := by decide +kernel
theorem dX7_nest_62 : decode cX7_nest 62 = .ok (.iload_n 2, 1) := by decide +kernel
theorem dX7_nest_63 : decode cX7_nest 63 = .ok (.iconst 0, 1) := by decide +kernel
theorem dX7_nest_64 : decode cX7_nest 64 = .ok (.invokevirtual 129, 3) := by decide +kernel
theorem dX7_nest_67 : decode cX7_nest 67 = .ok (.dstore_n 3, 1) := by decide +kernel
theorem dX7_nest_68 : decode cX7_nest 68 = .ok (.aload_n 0, 1) := by decide +kernel
theorem dX7_nest_69 : decode cX7_nest 69 = .ok (.iload_n 2, 1) := by decide +kernel
theorem dX7_nest_70 : decode cX7_nest 70 = .ok (.iconst 1, 1) := by decide +kernel
theorem dX7_nest_71 : decode cX7_nest 71 = .ok (.invokevirtual 129, 3) := by decide +kernel
theorem dX7_nest_74 : decode cX7_nest 74 = .ok (.dstore 5, 2) := by decide +kernel
theorem dX7_nest_76 : decode cX7_nest 76 = .ok (.dload 5, 2) := by decide +kernel
theorem dX7_nest_78 : decode cX7_nest 78 = .ok (.aload_n 0, 1) := by decide +kernel
theorem dX7_nest_79 : decode cX7_nest 79 = .ok (.getfield 29, 3) := by decide +kernel
theorem dX7_nest_82 : decode cX7_nest 82 = .ok (.iload_n 1, 1) := by decide +kernel
theorem dX7_nest_83 : decode cX7_nest 83 = .ok (.daload, 1) := by decide +kernel
theorem dX7_nest_84 : decode cX7_nest 84 = .ok (.dcmp .l, 1) := by decide +kernel
theorem dX7_nest_85 : decode cX7_nest 85 = .ok (.ifCond .le 5, 3) := by decide +kernel
theorem dX7_nest_88 : decode cX7_nest 88 = .ok (.iconst (-1), 1) := by decide +kernel
theorem dX7_nest_89 : decode cX7_nest 89 = .ok (.ireturn, 1) := by decide +kernel
theorem dX7_nest_90 : decode cX7_nest 90 = .ok (.iconst 0, 1) := by decide +kernel
theorem dX7_nest_91 : decode cX7_nest 91 = .ok (.istore 7, 2) := by decide +kernel
theorem dX7_nest_93 : decode cX7_nest 93 = .ok (.iload 7, 2) := by decide +kernel
theorem dX7_nest_95 : decode cX7_nest 95 = .ok (.i2d, 1) := by decide +kernel
theorem dX7_nest_96 : decode cX7_nest 96 = .ok (.ldc2_w 127, 3) := by decide +kernel
theorem dX7_nest_99 : decode cX7_nest 99 = .ok (.ddiv, 1) := by decide +kernel
theorem dX7_nest_100 : decode cX7_nest 100 = .ok (.dload_n 3, 1) := by decide +kernel
theorem dX7_nest_101 : decode cX7_nest 101 = .ok (.dadd, 1) := by decide +kernel
theorem dX7_nest_102 : decode cX7_nest 102 = .ok (.aload_n 0, 1) := by decide +kernel
theorem dX7_nest_103 : decode cX7_nest 103 = .ok (.getfield 26, 3) := by decide +kernel
theorem dX7_nest_106 : decode cX7_nest 106 = .ok (.iload_n 1, 1) := by decide +kernel
theorem dX7_nest_107 : decode cX7_nest 107 = .ok (.daload, 1) := by decide +kernel
theorem dX7_nest_108 : decode cX7_nest 108 = .ok (.dcmp .g, 1) := by decide +kernel
theorem dX7_nest_109 : decode cX7_nest 109 = .ok (.ifCond .gt 45, 3) := by decide +kernel
theorem dX7_nest_112 : decode cX7_nest 112 = .ok (.aload_n 0, 1) := by decide +kernel
theorem dX7_nest_113 : decode cX7_nest 113 = .ok (.iload_n 1, 1) := by decide +kernel
theorem dX7_nest_114 : decode cX7_nest 114 = .ok (.iload 7, 2) := by decide +kernel
theorem dX7_nest_116 : decode cX7_nest 116 = .ok (.i2d, 1) := by decide +kernel
theorem dX7_nest_117 : decode cX7_nest 117 = .ok (.ldc2_w 127, 3) := by decide +kernel
theorem dX7_nest_120 : decode cX7_nest 120 = .ok (.ddiv, 1) := by decide +kernel
theorem dX7_nest_121 : decode cX7_nest 121 = .ok (.dload_n 3, 1) := by decide +kernel
theorem dX7_nest_122 : decode cX7_nest 122 = .ok (.dload 5, 2) := by decide +kernel
theorem dX7_nest_124 : decode cX7_nest 124 = .ok (.invokevirtual 132, 3) := by decide +kernel
theorem dX7_nest_127 : decode cX7_nest 127 = .ok (.ifCond .eq 21, 3) := by decide +kernel
theorem dX7_nest_130 : decode cX7_nest 130 = .ok (.aload_n 0, 1) := by decide +kernel
theorem dX7_nest_131 : decode cX7_nest 131 = .ok (.getfield 39, 3) := by decide +kernel
theorem dX7_nest_134 : decode cX7_nest 134 = .ok (.iload_n 2, 1) := by decide +kernel
theorem dX7_nest_135 : decode cX7_nest 135 = .ok (.iload_n 1, 1) := by decide +kernel
theorem dX7_nest_136 : decode cX7_nest 136 = .ok (.iastore, 1) := by decide +kernel
theorem dX7_nest_137 : decode cX7_nest 137 = .ok (.aload_n 0, 1) := by decide +kernel
theorem dX7_nest_138 : decode cX7_nest 138 = .ok (.getfield 42, 3) := by decide +kernel
theorem dX7_nest_141 : decode cX7_nest 141 = .ok (.iload_n 2, 1) := by decide +kernel
theorem dX7_nest_142 : decode cX7_nest 142 = .ok (.iload 7, 2) := by decide +kernel
theorem dX7_nest_144 : decode cX7_nest 144 = .ok (.iastore, 1) := by decide +kernel
theorem dX7_nest_145 : decode cX7_nest 145 = .ok (.iload 7, 2) := by decide +kernel
theorem dX7_nest_147 : decode cX7_nest 147 = .ok (.ireturn, 1) := by decide +kernel
theorem dX7_nest_148 : decode cX7_nest 148 = .ok (.iinc 7 1, 3) := by decide +kernel
theorem dX7_nest_151 : decode cX7_nest 151 = .ok (.goto (-58), 3) := by decide +kernel
theorem dX7_nest_154 : decode cX7_nest 154 = .ok (.iconst (-1), 1) := by decide +kernel
theorem dX7_nest_155 : decode cX7_nest 155 = .ok (.ireturn, 1) := by decide +kernel
abbrev rm_X7_nest : Room := { frames := 7, cells := 0, slots := 0, locals := 140 }
theorem hw_X7_nest_1 : (Cond.fieldLink RX7 122 "PlankUnrollModel" "boards" "I") ∈ wsX7_nest := List.mem_of_getElem? (i := 1) rfl
theorem hw_X7_nest_2 : (Cond.fieldLink RX7 13 "PlankUnrollModel" "unrolled" "[Z") ∈ wsX7_nest := List.mem_of_getElem? (i := 2) rfl
theorem hw_X7_nest_3 : (Cond.fieldLink RX7 39 "PlankUnrollModel" "liesOn" "[I") ∈ wsX7_nest := List.mem_of_getElem? (i := 3) rfl
theorem hw_X7_nest_4 : (Cond.fieldLink RX7 52 "PlankUnrollModel" "thrown" "I") ∈ wsX7_nest := List.mem_of_getElem? (i := 4) rfl
theorem hw_X7_nest_5 : (Cond.fieldLink RX7 29 "PlankUnrollModel" "highs" "[D") ∈ wsX7_nest := List.mem_of_getElem? (i := 5) rfl
theorem hw_X7_nest_6 : (Cond.constantDouble RX7 127 (4620693217682128896)) ∈ wsX7_nest := List.mem_of_getElem? (i := 6) rfl
theorem hw_X7_nest_7 : (Cond.fieldLink RX7 26 "PlankUnrollModel" "wides" "[D") ∈ wsX7_nest := List.mem_of_getElem? (i := 7) rfl
theorem hw_X7_nest_8 : (Cond.fieldLink RX7 42 "PlankUnrollModel" "liesAt" "[I") ∈ wsX7_nest := List.mem_of_getElem? (i := 8) rfl
theorem in_X7_nest_X7 : ∀ w ∈ wsX70, w ∈ wsX7_nest := by decide +kernel
set_option maxHeartbeats 4000000 in
set_option maxRecDepth 100000 in
/-- nest -/
theorem c_X7_nest {l : Launch} {G : va_G} {ty : Nat → ClassId} {b0 : Nat} {H : Heap} {m0 : Nat} {A : Nat → Nat} {th : Int32} {F R nb : Nat} {pl co dr wi hi fa : Nat → UInt64} {un bu fc lo la : Nat → Int32} {px py pz : UInt64} (hY : xRef G ty m0 A th F R pl un co dr bu nb wi hi fc fa lo la px py pz H) (hZ : xSz F R) (hA : xAp m0 A) (hB : xNw b0 m0 A) {b x : Int32} {nf : Nat → Nat} {N : Nat} (hnb : nb ≤ 4) (hfc : ∀ b9 : Nat, b9 < nb → fc b9 = nI (nf b9) ∧ nf b9 ≤ 8) (hN2 : N < 2 ^ 30) (hN : (vp_in b nb ∧ vp_in x (R - 1)) → ¬ un x.toNatClampNeg = 0 → xle (FP.dadd (pEi N) (pExt co F x.toNatClampNeg 0)) (wi b.toNatClampNeg) = false) : xMet l yX7_nest wsX7_nest rm_X7_nest G ty b0 [.ref m0, .int (b), .int (x)] H (fun v H1 => ∃ (T : Int32) (lo1 la1 : Nat → Int32), xRef G ty m0 A T F R pl un co dr bu nb wi hi fc fa lo1 la1 px py pz H1 ∧ xRfr m0 A H H1 ∧ ∃ z : Int32, v = some (.int z) ∧ ((T = nI 0 ∧ (vp_in b nb ∧ vp_in x (R - 1)) ∧ ¬ un x.toNatClampNeg = 0 ∧ lo x.toNatClampNeg = (-1) ∧ ((xgt (pExt co F x.toNatClampNeg 1) (hi b.toNatClampNeg) = true ∧ z = (-1) ∧ lo1 = lo ∧ la1 = la) ∨ (xgt (pExt co F x.toNatClampNeg 1) (hi b.toNatClampNeg) = false ∧ ∃ k : Nat, (∀ j : Nat, j < k → xle (FP.dadd (pEi j) (pExt co F x.toNatClampNeg 0)) (wi b.toNatClampNeg) = true ∧ ¬ pOpen fa lo la co F R b.toNatClampNeg (nf b.toNatClampNeg) (pEi j) (pExt co F x.toNatClampNeg 0) (pExt co F x.toNatClampNeg 1)) ∧ ((xle (FP.dadd (pEi k) (pExt co F x.toNatClampNeg 0)) (wi b.toNatClampNeg) = true ∧ pOpen fa lo la co F R b.toNatClampNeg (nf b.toNatClampNeg) (pEi k) (pExt co F x.toNatClampNeg 0) (pExt co F x.toNatClampNeg 1) ∧ k ≤ N ∧ z = nI k ∧ lo1 = upd lo x.toNatClampNeg (nI b.toNatClampNeg) ∧ la1 = upd la x.toNatClampNeg (nI k)) ∨ (xle (FP.dadd (pEi k) (pExt co F x.toNatClampNeg 0)) (wi b.toNatClampNeg) = false ∧ z = (-1) ∧ lo1 = lo ∧ la1 = la))))) ∨ (T = nI 1 ∧ ¬ (vp_in b nb ∧ vp_in x (R - 1)) ∧ lo1 = lo ∧ la1 = la) ∨ (T = nI 2 ∧ (vp_in b nb ∧ vp_in x (R - 1)) ∧ (un x.toNatClampNeg = 0 ∨ ¬ lo x.toNatClampNeg = (-1)) ∧ lo1 = lo ∧ la1 = la))) (fun _ _ => False) := by
  refine xbody (cc := cX7_nest) (maxL := 8) (ret := (some .int)) (C := RX7) (lv := [(0, .ref m0), (1, .int (b)), (2, .int (x))]) (by decide) rfl rfl (Nat.le_of_ble_eq_true rfl) rfl ?_
  intro p e s m below meth c d0 hx hb hr hts hown hlocks hml hxt hnm0 hK hb0 hH0 hS hd0 ls hl
  obtain ⟨y_o, y_0, y_1, y_2, y_3, y_4, y_5, y_6, y_7, y_8, y_9, y_10⟩ := id hY
  obtain ⟨⟨zF2, zF8⟩, ⟨zR2, zR8⟩⟩ := id hZ
  refine lv_aload_n hx hb dX7_nest_0 rfl (lv_at hl 0 rfl) ?_
  refine lv_iload_n hx hb dX7_nest_1 rfl (lv_at hl 1 rfl) ?_
  refine lv_if_lt (tgt := 21) hx hb dX7_nest_2 (by decide) (fun c_1 => ?_) (fun c_1 => ?_)
  · refine lv_iconst (v := nI 1) hx hb dX7_nest_21 (by decide) ?_
    refine lv_goto (tgt := 49) hx hb dX7_nest_22 (by decide) ?_
    refine xput (G := G) (ci := 8) (v := .int (nI 1)) (ty := .int) (C := RX7) (T := TX7) (N := 18) hx hb (hts d0) in_X7_nest_X7 tyX7 tyX7_ok nmX7 hown hK.1 y_o hS hB.1 rfl 0 (by decide) (hts d0 _ hw_X7_nest_4) (fun _ h9 => h9) rfl (by decide +kernel) rfl rfl (Nat.le_of_ble_eq_true rfl) dX7_nest_49 (fun H_2 locs_2 hs_2 hS => ?_)
    have hc_2 : xc G m0 (.inr (8, [.int (nI 1), .int (nI F), .int (nI R), .ref (A 0), .ref (A 1), .ref (A 2), .ref (A 3), .ref (A 4), .int (nI nb), .ref (A 5), .ref (A 6), .ref (A 7), .ref (A 8), .ref (A 9), .ref (A 10), .double px, .double py, .double pz])) H_2 := hs_2.1
    have hc_A0_2 : xc G (A 0) (.inl (ty 0, 192, .inr (.inr (.inr (.inl pl))))) H_2 := y_0.kept (hs_2.2.2 _ (hA.1 0 (by decide)))
    have hc_A1_2 : xc G (A 1) (.inl (ty 2, 8, .inl un)) H_2 := y_1.kept (hs_2.2.2 _ (hA.1 1 (by decide)))
    have hc_A2_2 : xc G (A 2) (.inl (ty 0, 256, .inr (.inr (.inr (.inl co))))) H_2 := y_2.kept (hs_2.2.2 _ (hA.1 2 (by decide)))
    have hc_A3_2 : xc G (A 3) (.inl (ty 0, 32, .inr (.inr (.inr (.inl dr))))) H_2 := y_3.kept (hs_2.2.2 _ (hA.1 3 (by decide)))
    have hc_A4_2 : xc G (A 4) (.inl (ty 2, 64, .inl bu)) H_2 := y_4.kept (hs_2.2.2 _ (hA.1 4 (by decide)))
    have hc_A5_2 : xc G (A 5) (.inl (ty 0, 4, .inr (.inr (.inr (.inl wi))))) H_2 := y_5.kept (hs_2.2.2 _ (hA.1 5 (by decide)))
    have hc_A6_2 : xc G (A 6) (.inl (ty 0, 4, .inr (.inr (.inr (.inl hi))))) H_2 := y_6.kept (hs_2.2.2 _ (hA.1 6 (by decide)))
    have hc_A7_2 : xc G (A 7) (.inl (ty 1, 4, .inl fc)) H_2 := y_7.kept (hs_2.2.2 _ (hA.1 7 (by decide)))
    have hc_A8_2 : xc G (A 8) (.inl (ty 0, 128, .inr (.inr (.inr (.inl fa))))) H_2 := y_8.kept (hs_2.2.2 _ (hA.1 8 (by decide)))
    have hc_A9_2 : xc G (A 9) (.inl (ty 1, 8, .inl lo)) H_2 := y_9.kept (hs_2.2.2 _ (hA.1 9 (by decide)))
    have hc_A10_2 : xc G (A 10) (.inl (ty 1, 8, .inl la)) H_2 := y_10.kept (hs_2.2.2 _ (hA.1 10 (by decide)))
    have hfr_2 : xRfr m0 A H H_2 := xRfr.put0 xRfr.rf hs_2
    refine lv_aload_n hx hb dX7_nest_52 rfl (lv_at hl 0 rfl) ?_
    refine va_get (D := G) (cl := vwCl) (ci := 8) (v := .int (nI 1)) (C := RX7) (T := TX7) (N := 18) hx hb (hts d0) in_X7_nest_X7 hown hK.1 (x1 hc_2) 0 rfl rfl 0 (by decide) (hts d0 _ hw_X7_nest_4) (fun _ h9 => h9) rfl dX7_nest_53 ?_
    refine lv_if_le (tgt := 61) hx hb dX7_nest_56 (by decide) (fun h9 => (show False by revert h9; decide).elim) (fun _ => ?_)
    refine lv_iconst (v := nI 0) hx hb dX7_nest_59 (by decide) ?_
    exact xiret hd0 hx hb hr hlocks hS (Nat.le_of_ble_eq_true rfl) (Nat.le_of_ble_eq_true rfl) dX7_nest_60 ⟨nI 1, _, _, ⟨hc_2, hc_A0_2, hc_A1_2, hc_A2_2, hc_A3_2, hc_A4_2, hc_A5_2, hc_A6_2, hc_A7_2, hc_A8_2, hc_A9_2, hc_A10_2⟩, hfr_2, _, rfl, Or.inr (Or.inl ⟨rfl, fun z => xin_no0 c_1 z.1, rfl, rfl⟩)⟩
  · refine lv_iload_n hx hb dX7_nest_5 rfl (lv_at hl 1 rfl) ?_
    refine lv_aload_n hx hb dX7_nest_6 rfl (lv_at hl 0 rfl) ?_
    refine va_get (D := G) (cl := vwCl) (ci := 8) (v := .int (nI nb)) (C := RX7) (T := TX7) (N := 18) hx hb (hts d0) in_X7_nest_X7 hown hK.1 (x1 y_o) 0 rfl rfl 8 (by decide) (hts d0 _ hw_X7_nest_1) (fun _ h9 => h9) rfl dX7_nest_7 ?_
    refine lv_icmp_ge (tgt := 21) hx hb dX7_nest_10 (by decide) (fun c_4 => ?_) (fun c_4 => ?_)
    · refine lv_iconst (v := nI 1) hx hb dX7_nest_21 (by decide) ?_
      refine lv_goto (tgt := 49) hx hb dX7_nest_22 (by decide) ?_
      refine xput (G := G) (ci := 8) (v := .int (nI 1)) (ty := .int) (C := RX7) (T := TX7) (N := 18) hx hb (hts d0) in_X7_nest_X7 tyX7 tyX7_ok nmX7 hown hK.1 y_o hS hB.1 rfl 0 (by decide) (hts d0 _ hw_X7_nest_4) (fun _ h9 => h9) rfl (by decide +kernel) rfl rfl (Nat.le_of_ble_eq_true rfl) dX7_nest_49 (fun H_5 locs_5 hs_5 hS => ?_)
      have hc_5 : xc G m0 (.inr (8, [.int (nI 1), .int (nI F), .int (nI R), .ref (A 0), .ref (A 1), .ref (A 2), .ref (A 3), .ref (A 4), .int (nI nb), .ref (A 5), .ref (A 6), .ref (A 7), .ref (A 8), .ref (A 9), .ref (A 10), .double px, .double py, .double pz])) H_5 := hs_5.1
      have hc_A0_5 : xc G (A 0) (.inl (ty 0, 192, .inr (.inr (.inr (.inl pl))))) H_5 := y_0.kept (hs_5.2.2 _ (hA.1 0 (by decide)))
      have hc_A1_5 : xc G (A 1) (.inl (ty 2, 8, .inl un)) H_5 := y_1.kept (hs_5.2.2 _ (hA.1 1 (by decide)))
      have hc_A2_5 : xc G (A 2) (.inl (ty 0, 256, .inr (.inr (.inr (.inl co))))) H_5 := y_2.kept (hs_5.2.2 _ (hA.1 2 (by decide)))
      have hc_A3_5 : xc G (A 3) (.inl (ty 0, 32, .inr (.inr (.inr (.inl dr))))) H_5 := y_3.kept (hs_5.2.2 _ (hA.1 3 (by decide)))
      have hc_A4_5 : xc G (A 4) (.inl (ty 2, 64, .inl bu)) H_5 := y_4.kept (hs_5.2.2 _ (hA.1 4 (by decide)))
      have hc_A5_5 : xc G (A 5) (.inl (ty 0, 4, .inr (.inr (.inr (.inl wi))))) H_5 := y_5.kept (hs_5.2.2 _ (hA.1 5 (by decide)))
      have hc_A6_5 : xc G (A 6) (.inl (ty 0, 4, .inr (.inr (.inr (.inl hi))))) H_5 := y_6.kept (hs_5.2.2 _ (hA.1 6 (by decide)))
      have hc_A7_5 : xc G (A 7) (.inl (ty 1, 4, .inl fc)) H_5 := y_7.kept (hs_5.2.2 _ (hA.1 7 (by decide)))
      have hc_A8_5 : xc G (A 8) (.inl (ty 0, 128, .inr (.inr (.inr (.inl fa))))) H_5 := y_8.kept (hs_5.2.2 _ (hA.1 8 (by decide)))
      have hc_A9_5 : xc G (A 9) (.inl (ty 1, 8, .inl lo)) H_5 := y_9.kept (hs_5.2.2 _ (hA.1 9 (by decide)))
      have hc_A10_5 : xc G (A 10) (.inl (ty 1, 8, .inl la)) H_5 := y_10.kept (hs_5.2.2 _ (hA.1 10 (by decide)))
      have hfr_5 : xRfr m0 A H H_5 := xRfr.put0 xRfr.rf hs_5
      refine lv_aload_n hx hb dX7_nest_52 rfl (lv_at hl 0 rfl) ?_
      refine va_get (D := G) (cl := vwCl) (ci := 8) (v := .int (nI 1)) (C := RX7) (T := TX7) (N := 18) hx hb (hts d0) in_X7_nest_X7 hown hK.1 (x1 hc_5) 0 rfl rfl 0 (by decide) (hts d0 _ hw_X7_nest_4) (fun _ h9 => h9) rfl dX7_nest_53 ?_
      refine lv_if_le (tgt := 61) hx hb dX7_nest_56 (by decide) (fun h9 => (show False by revert h9; decide).elim) (fun _ => ?_)
      refine lv_iconst (v := nI 0) hx hb dX7_nest_59 (by decide) ?_
      exact xiret hd0 hx hb hr hlocks hS (Nat.le_of_ble_eq_true rfl) (Nat.le_of_ble_eq_true rfl) dX7_nest_60 ⟨nI 1, _, _, ⟨hc_5, hc_A0_5, hc_A1_5, hc_A2_5, hc_A3_5, hc_A4_5, hc_A5_5, hc_A6_5, hc_A7_5, hc_A8_5, hc_A9_5, hc_A10_5⟩, hfr_5, _, rfl, Or.inr (Or.inl ⟨rfl, fun z => xin_no1 c_4 (by omega) z.1, rfl, rfl⟩)⟩
    · refine lv_aload_n hx hb dX7_nest_13 rfl (lv_at hl 0 rfl) ?_
      refine lv_iload_n hx hb dX7_nest_14 rfl (lv_at hl 2 rfl) ?_
      have cw_7 := cwV (R := rm_X7_nest) (rm := rm_X7_noStrip) 1 (hts d0) gX7_nest_X7_noStrip rfl rfl rfl (by decide +kernel) ⟨Nat.le_of_ble_eq_true rfl, Nat.le_of_ble_eq_true rfl⟩
      refine xcall hd0 (xintoV (b := m0) (As := [.int (x)]) (rest := [.ref m0]) ⟨hx, hb, hml, hown, hts _⟩ cw_7 (va_recv hK.1 (x1 y_o) (ci := 8) (q0 := 0) rfl rfl) rfl rfl hl.1 rfl (lv_room (Nat.le_of_ble_eq_true rfl)) dX7_nest_15) (c_X7_noStrip (l := l) (G := G) (ty := ty) (b0 := b0) (⟨y_o, y_0, y_1, y_2, y_3, y_4, y_5, y_6, y_7, y_8, y_9, y_10⟩ : xRef G ty m0 A (th) F R pl un co dr bu nb wi hi fc fa lo la px py pz H) hZ) (xoweB cw_7.1) hK hb0 hS (Nat.le_of_ble_eq_true rfl) (Nat.le_of_ble_eq_true rfl) (fun E_7 ce_7 q9_7 H_7 locs_7 d0 hd0 hp_7 hS hce_7 hcv_7 hcl_7 => ?_) (fun v_7 H_7 locs_7 d0 hd0 hp_7 hS => ?_)
      · exact hp_7.elim
      · obtain ⟨rfl, rfl⟩ := hp_7
        show W p l e _ (s.setDrawn _) m _ below meth c _ _ _ _ _ (F0 m 18 ls [.int (xP (¬ vp_in x (R - 1))), .ref m0])
        refine lv_if_eq (tgt := 25) hx hb dX7_nest_18 (by decide) (fun c_8 => ?_) (fun c_8 => ?_)
        · have z9 : (vp_in b nb ∧ vp_in x (R - 1)) := ⟨xin_of c_1 c_4 (by omega), Classical.not_not.mp (xP_eq.mp c_8)⟩
          have z_b := z9.1
          have z_x := z9.2
          obtain ⟨b9, hb9, eb9⟩ := vp_in_of z_b (by omega)
          obtain ⟨x9, hx9, ex9⟩ := vp_in_of z_x (by omega)
          subst eb9 ex9
          obtain ⟨hfc9, hnf9⟩ := hfc b9 hb9
          refine lv_aload_n hx hb dX7_nest_25 rfl (lv_at hl 0 rfl) ?_
          refine va_get (D := G) (cl := vwCl) (ci := 8) (v := .ref (A 1)) (C := RX7) (T := TX7) (N := 18) hx hb (hts d0) in_X7_nest_X7 hown hK.1 (x1 y_o) 0 rfl rfl 4 (by decide) (hts d0 _ hw_X7_nest_2) (fun _ h9 => h9) rfl dX7_nest_26 ?_
          refine lv_iload_n hx hb dX7_nest_29 rfl (lv_at hl 2 rfl) ?_
          refine xzald (j := x9) hx hb hK.1 2 y_1 rfl (xix_of (by omega) (by omega)) dX7_nest_30 ?_
          refine lv_if_eq (tgt := 44) hx hb dX7_nest_31 (by decide) (fun c_9 => ?_) (fun c_9 => ?_)
          · refine lv_iconst (v := nI 2) hx hb dX7_nest_44 (by decide) ?_
            refine lv_goto (tgt := 49) hx hb dX7_nest_45 (by decide) ?_
            refine xput (G := G) (ci := 8) (v := .int (nI 2)) (ty := .int) (C := RX7) (T := TX7) (N := 18) hx hb (hts d0) in_X7_nest_X7 tyX7 tyX7_ok nmX7 hown hK.1 y_o hS hB.1 rfl 0 (by decide) (hts d0 _ hw_X7_nest_4) (fun _ h9 => h9) rfl (by decide +kernel) rfl rfl (Nat.le_of_ble_eq_true rfl) dX7_nest_49 (fun H_10 locs_10 hs_10 hS => ?_)
            have hc_10 : xc G m0 (.inr (8, [.int (nI 2), .int (nI F), .int (nI R), .ref (A 0), .ref (A 1), .ref (A 2), .ref (A 3), .ref (A 4), .int (nI nb), .ref (A 5), .ref (A 6), .ref (A 7), .ref (A 8), .ref (A 9), .ref (A 10), .double px, .double py, .double pz])) H_10 := hs_10.1
            have hc_A0_10 : xc G (A 0) (.inl (ty 0, 192, .inr (.inr (.inr (.inl pl))))) H_10 := y_0.kept (hs_10.2.2 _ (hA.1 0 (by decide)))
            have hc_A1_10 : xc G (A 1) (.inl (ty 2, 8, .inl un)) H_10 := y_1.kept (hs_10.2.2 _ (hA.1 1 (by decide)))
            have hc_A2_10 : xc G (A 2) (.inl (ty 0, 256, .inr (.inr (.inr (.inl co))))) H_10 := y_2.kept (hs_10.2.2 _ (hA.1 2 (by decide)))
            have hc_A3_10 : xc G (A 3) (.inl (ty 0, 32, .inr (.inr (.inr (.inl dr))))) H_10 := y_3.kept (hs_10.2.2 _ (hA.1 3 (by decide)))
            have hc_A4_10 : xc G (A 4) (.inl (ty 2, 64, .inl bu)) H_10 := y_4.kept (hs_10.2.2 _ (hA.1 4 (by decide)))
            have hc_A5_10 : xc G (A 5) (.inl (ty 0, 4, .inr (.inr (.inr (.inl wi))))) H_10 := y_5.kept (hs_10.2.2 _ (hA.1 5 (by decide)))
            have hc_A6_10 : xc G (A 6) (.inl (ty 0, 4, .inr (.inr (.inr (.inl hi))))) H_10 := y_6.kept (hs_10.2.2 _ (hA.1 6 (by decide)))
            have hc_A7_10 : xc G (A 7) (.inl (ty 1, 4, .inl fc)) H_10 := y_7.kept (hs_10.2.2 _ (hA.1 7 (by decide)))
            have hc_A8_10 : xc G (A 8) (.inl (ty 0, 128, .inr (.inr (.inr (.inl fa))))) H_10 := y_8.kept (hs_10.2.2 _ (hA.1 8 (by decide)))
            have hc_A9_10 : xc G (A 9) (.inl (ty 1, 8, .inl lo)) H_10 := y_9.kept (hs_10.2.2 _ (hA.1 9 (by decide)))
            have hc_A10_10 : xc G (A 10) (.inl (ty 1, 8, .inl la)) H_10 := y_10.kept (hs_10.2.2 _ (hA.1 10 (by decide)))
            have hfr_10 : xRfr m0 A H H_10 := xRfr.put0 xRfr.rf hs_10
            refine lv_aload_n hx hb dX7_nest_52 rfl (lv_at hl 0 rfl) ?_
            refine va_get (D := G) (cl := vwCl) (ci := 8) (v := .int (nI 2)) (C := RX7) (T := TX7) (N := 18) hx hb (hts d0) in_X7_nest_X7 hown hK.1 (x1 hc_10) 0 rfl rfl 0 (by decide) (hts d0 _ hw_X7_nest_4) (fun _ h9 => h9) rfl dX7_nest_53 ?_
            refine lv_if_le (tgt := 61) hx hb dX7_nest_56 (by decide) (fun h9 => (show False by revert h9; decide).elim) (fun _ => ?_)
            refine lv_iconst (v := nI 0) hx hb dX7_nest_59 (by decide) ?_
            exact xiret hd0 hx hb hr hlocks hS (Nat.le_of_ble_eq_true rfl) (Nat.le_of_ble_eq_true rfl) dX7_nest_60 ⟨nI 2, _, _, ⟨hc_10, hc_A0_10, hc_A1_10, hc_A2_10, hc_A3_10, hc_A4_10, hc_A5_10, hc_A6_10, hc_A7_10, hc_A8_10, hc_A9_10, hc_A10_10⟩, hfr_10, _, rfl, Or.inr (Or.inr ⟨rfl, z9, by rw [nN_nI (show x9 < 2 ^ 31 by omega)]; exact Or.inl c_9, rfl, rfl⟩)⟩
          · refine lv_aload_n hx hb dX7_nest_34 rfl (lv_at hl 0 rfl) ?_
            refine va_get (D := G) (cl := vwCl) (ci := 8) (v := .ref (A 9)) (C := RX7) (T := TX7) (N := 18) hx hb (hts d0) in_X7_nest_X7 hown hK.1 (x1 y_o) 0 rfl rfl 13 (by decide) (hts d0 _ hw_X7_nest_3) (fun _ h9 => h9) rfl dX7_nest_35 ?_
            refine lv_iload_n hx hb dX7_nest_38 rfl (lv_at hl 2 rfl) ?_
            refine xiald (j := x9) hx hb hK.1 1 y_9 rfl (xix_of (by omega) (by omega)) dX7_nest_39 ?_
            refine lv_iconst (v := (-1)) hx hb dX7_nest_40 (by decide) ?_
            refine lv_icmp_eq (tgt := 48) hx hb dX7_nest_41 (by decide) (fun c_12 => ?_) (fun c_12 => ?_)
            · refine lv_iconst (v := nI 0) hx hb dX7_nest_48 (by decide) ?_
              refine xput (G := G) (ci := 8) (v := .int (nI 0)) (ty := .int) (C := RX7) (T := TX7) (N := 18) hx hb (hts d0) in_X7_nest_X7 tyX7 tyX7_ok nmX7 hown hK.1 y_o hS hB.1 rfl 0 (by decide) (hts d0 _ hw_X7_nest_4) (fun _ h9 => h9) rfl (by decide +kernel) rfl rfl (Nat.le_of_ble_eq_true rfl) dX7_nest_49 (fun H_13 locs_13 hs_13 hS => ?_)
              have hc_13 : xc G m0 (.inr (8, [.int (nI 0), .int (nI F), .int (nI R), .ref (A 0), .ref (A 1), .ref (A 2), .ref (A 3), .ref (A 4), .int (nI nb), .ref (A 5), .ref (A 6), .ref (A 7), .ref (A 8), .ref (A 9), .ref (A 10), .double px, .double py, .double pz])) H_13 := hs_13.1
              have hc_A0_13 : xc G (A 0) (.inl (ty 0, 192, .inr (.inr (.inr (.inl pl))))) H_13 := y_0.kept (hs_13.2.2 _ (hA.1 0 (by decide)))
              have hc_A1_13 : xc G (A 1) (.inl (ty 2, 8, .inl un)) H_13 := y_1.kept (hs_13.2.2 _ (hA.1 1 (by decide)))
              have hc_A2_13 : xc G (A 2) (.inl (ty 0, 256, .inr (.inr (.inr (.inl co))))) H_13 := y_2.kept (hs_13.2.2 _ (hA.1 2 (by decide)))
              have hc_A3_13 : xc G (A 3) (.inl (ty 0, 32, .inr (.inr (.inr (.inl dr))))) H_13 := y_3.kept (hs_13.2.2 _ (hA.1 3 (by decide)))
              have hc_A4_13 : xc G (A 4) (.inl (ty 2, 64, .inl bu)) H_13 := y_4.kept (hs_13.2.2 _ (hA.1 4 (by decide)))
              have hc_A5_13 : xc G (A 5) (.inl (ty 0, 4, .inr (.inr (.inr (.inl wi))))) H_13 := y_5.kept (hs_13.2.2 _ (hA.1 5 (by decide)))
              have hc_A6_13 : xc G (A 6) (.inl (ty 0, 4, .inr (.inr (.inr (.inl hi))))) H_13 := y_6.kept (hs_13.2.2 _ (hA.1 6 (by decide)))
              have hc_A7_13 : xc G (A 7) (.inl (ty 1, 4, .inl fc)) H_13 := y_7.kept (hs_13.2.2 _ (hA.1 7 (by decide)))
              have hc_A8_13 : xc G (A 8) (.inl (ty 0, 128, .inr (.inr (.inr (.inl fa))))) H_13 := y_8.kept (hs_13.2.2 _ (hA.1 8 (by decide)))
              have hc_A9_13 : xc G (A 9) (.inl (ty 1, 8, .inl lo)) H_13 := y_9.kept (hs_13.2.2 _ (hA.1 9 (by decide)))
              have hc_A10_13 : xc G (A 10) (.inl (ty 1, 8, .inl la)) H_13 := y_10.kept (hs_13.2.2 _ (hA.1 10 (by decide)))
              have hfr_13 : xRfr m0 A H H_13 := xRfr.put0 xRfr.rf hs_13
              refine lv_aload_n hx hb dX7_nest_52 rfl (lv_at hl 0 rfl) ?_
              refine va_get (D := G) (cl := vwCl) (ci := 8) (v := .int (nI 0)) (C := RX7) (T := TX7) (N := 18) hx hb (hts d0) in_X7_nest_X7 hown hK.1 (x1 hc_13) 0 rfl rfl 0 (by decide) (hts d0 _ hw_X7_nest_4) (fun _ h9 => h9) rfl dX7_nest_53 ?_
              refine lv_if_le (tgt := 61) hx hb dX7_nest_56 (by decide) (fun _ => ?_) (fun h9 => (show False by revert h9; decide).elim)
              refine lv_aload_n hx hb dX7_nest_61 rfl (lv_at hl 0 rfl) ?_
              refine lv_iload_n hx hb dX7_nest_62 rfl (lv_at hl 2 rfl) ?_
              refine lv_iconst (v := nI 0) hx hb dX7_nest_63 (by decide) ?_
              have cw_15 := cwV (R := rm_X7_nest) (rm := rm_X7_size) 2 (hts d0) gX7_nest_X7_size rfl rfl rfl (by decide +kernel) ⟨Nat.le_of_ble_eq_true rfl, Nat.le_of_ble_eq_true rfl⟩
              refine xcall hd0 (xintoV (b := m0) (As := [.int (nI x9), .int (nI 0)]) (rest := []) ⟨hx, hb, hml, hown, hts _⟩ cw_15 (va_recv hK.1 (x1 hc_13) (ci := 8) (q0 := 0) rfl rfl) rfl rfl hl.1 rfl (lv_room (Nat.le_of_ble_eq_true rfl)) dX7_nest_64) (c_X7_size (l := l) (G := G) (ty := ty) (b0 := b0) (⟨hc_13, hc_A0_13, hc_A1_13, hc_A2_13, hc_A3_13, hc_A4_13, hc_A5_13, hc_A6_13, hc_A7_13, hc_A8_13, hc_A9_13, hc_A10_13⟩ : xRef G ty m0 A (nI 0) F R pl un co dr bu nb wi hi fc fa lo la px py pz H_13) hZ (x := x9) (ax := 0) (by omega) (by omega)) (xoweB cw_15.1) hK hb0 hS (Nat.le_of_ble_eq_true rfl) (Nat.le_of_ble_eq_true rfl) (fun E_15 ce_15 q9_15 H_15 locs_15 d0 hd0 hp_15 hS hce_15 hcv_15 hcl_15 => ?_) (fun v_15 H_15 locs_15 d0 hd0 hp_15 hS => ?_)
              · exact hp_15.elim
              · obtain ⟨rfl, r_15, rfl, q_15⟩ := hp_15
                show W p l e _ (s.setDrawn _) m _ below meth c _ _ _ _ _ (F0 m 67 ls [.double r_15])
                refine lv_dstore_n (lv' := [(3, .double r_15), (0, .ref m0), (1, .int (nI b9)), (2, .int (nI x9))]) hx hb dX7_nest_67 rfl hl (by decide) rfl (fun ls hl => ?_)
                refine lv_aload_n hx hb dX7_nest_68 rfl (lv_at hl 1 rfl) ?_
                refine lv_iload_n hx hb dX7_nest_69 rfl (lv_at hl 3 rfl) ?_
                refine lv_iconst (v := nI 1) hx hb dX7_nest_70 (by decide) ?_
                have cw_16 := cwV (R := rm_X7_nest) (rm := rm_X7_size) 2 (hts d0) gX7_nest_X7_size rfl rfl rfl (by decide +kernel) ⟨Nat.le_of_ble_eq_true rfl, Nat.le_of_ble_eq_true rfl⟩
                refine xcall hd0 (xintoV (b := m0) (As := [.int (nI x9), .int (nI 1)]) (rest := []) ⟨hx, hb, hml, hown, hts _⟩ cw_16 (va_recv hK.1 (x1 hc_13) (ci := 8) (q0 := 0) rfl rfl) rfl rfl hl.1 rfl (lv_room (Nat.le_of_ble_eq_true rfl)) dX7_nest_71) (c_X7_size (l := l) (G := G) (ty := ty) (b0 := b0) (⟨hc_13, hc_A0_13, hc_A1_13, hc_A2_13, hc_A3_13, hc_A4_13, hc_A5_13, hc_A6_13, hc_A7_13, hc_A8_13, hc_A9_13, hc_A10_13⟩ : xRef G ty m0 A (nI 0) F R pl un co dr bu nb wi hi fc fa lo la px py pz H_13) hZ (x := x9) (ax := 1) (by omega) (by omega)) (xoweB cw_16.1) hK hb0 hS (Nat.le_of_ble_eq_true rfl) (Nat.le_of_ble_eq_true rfl) (fun E_16 ce_16 q9_16 H_16 locs_16 d0 hd0 hp_16 hS hce_16 hcv_16 hcl_16 => ?_) (fun v_16 H_16 locs_16 d0 hd0 hp_16 hS => ?_)
                · exact hp_16.elim
                · obtain ⟨rfl, r_16, rfl, q_16⟩ := hp_16
                  show W p l e _ (s.setDrawn _) m _ below meth c _ _ _ _ _ (F0 m 74 ls [.double r_16])
                  refine lv_dstore (lv' := [(5, .double r_16), (3, .double r_15), (0, .ref m0), (1, .int (nI b9)), (2, .int (nI x9))]) hx hb dX7_nest_74 hl (by decide) rfl (fun ls hl => ?_)
                  refine lv_dload hx hb dX7_nest_76 (lv_at hl 0 rfl) ?_
                  refine lv_aload_n hx hb dX7_nest_78 rfl (lv_at hl 2 rfl) ?_
                  refine va_get (D := G) (cl := vwCl) (ci := 8) (v := .ref (A 6)) (C := RX7) (T := TX7) (N := 18) hx hb (hts d0) in_X7_nest_X7 hown hK.1 (x1 hc_13) 0 rfl rfl 10 (by decide) (hts d0 _ hw_X7_nest_5) (fun _ h9 => h9) rfl dX7_nest_79 ?_
                  refine lv_iload_n hx hb dX7_nest_82 rfl (lv_at hl 3 rfl) ?_
                  refine xdald (j := b9) hx hb hK.1 0 hc_A6_13 rfl (xix_of (by omega) (by omega)) dX7_nest_83 ?_
                  refine xcmp_l_le (tgt := 90) hx hb q_16 (vq_rf _) dX7_nest_84 dX7_nest_85 (by decide) (fun c_17 => ?_) (fun c_17 => ?_)
                  · refine lv_iconst (v := nI 0) hx hb dX7_nest_90 (by decide) ?_
                    refine lv_istore (lv' := [(7, .int (nI 0)), (5, .double r_16), (3, .double r_15), (0, .ref m0), (1, .int (nI b9)), (2, .int (nI x9))]) hx hb dX7_nest_91 hl (by decide) rfl (fun ls hl => ?_)
                    have hun : ¬ un x9 = 0 := c_9
                    have hlo : lo x9 = (-1) := c_12
                    have hhi := c_17
                    have hN9 := hN z9 (by rw [nN_nI (by omega)]; exact hun)
                    rw [nN_nI (by omega), nN_nI (by omega)] at hN9
                    suffices K : ∀ (n : Nat) (k : Nat) (locs : List Loc) (d0 : Drawn) (ls : Array Slot), (k + n = N ∧ (∀ j : Nat, j < k → xle (FP.dadd (pEi j) (pExt co F x9 0)) (wi b9) = true ∧ ¬ pOpen fa lo la co F R b9 (nf b9) (pEi j) (pExt co F x9 0) (pExt co F x9 1))) → va_S (xA b0) s.heap H_13 locs → s.drawn.sameBut d0 lw_cs → lv_has ls 8 [(7, .int (nI k)), (0, .ref m0), (1, .int (nI b9)), (2, .int (nI x9)), (3, .double r_15), (5, .double r_16)] → W p l e rm_X7_nest (s.setDrawn d0) m [Value.ref m0, Value.int ((nI b9)), Value.int ((nI x9))].toArray below meth c H_13 locs (0 + rm_X7_noStrip.cells + rm_X7_size.cells + rm_X7_size.cells) (0 + rm_X7_noStrip.slots + rm_X7_size.slots + rm_X7_size.slots) (xMQ below (fun v H1 => ∃ (T : Int32) (lo1 la1 : Nat → Int32), xRef G ty m0 A T F R pl un co dr bu nb wi hi fc fa lo1 la1 px py pz H1 ∧ xRfr m0 A H H1 ∧ ∃ z : Int32, v = some (.int z) ∧ ((T = nI 0 ∧ (vp_in (nI b9) nb ∧ vp_in (nI x9) (R - 1)) ∧ ¬ un (nI x9).toNatClampNeg = 0 ∧ lo (nI x9).toNatClampNeg = (-1) ∧ ((xgt (pExt co F (nI x9).toNatClampNeg 1) (hi (nI b9).toNatClampNeg) = true ∧ z = (-1) ∧ lo1 = lo ∧ la1 = la) ∨ (xgt (pExt co F (nI x9).toNatClampNeg 1) (hi (nI b9).toNatClampNeg) = false ∧ ∃ k : Nat, (∀ j : Nat, j < k → xle (FP.dadd (pEi j) (pExt co F (nI x9).toNatClampNeg 0)) (wi (nI b9).toNatClampNeg) = true ∧ ¬ pOpen fa lo la co F R (nI b9).toNatClampNeg (nf (nI b9).toNatClampNeg) (pEi j) (pExt co F (nI x9).toNatClampNeg 0) (pExt co F (nI x9).toNatClampNeg 1)) ∧ ((xle (FP.dadd (pEi k) (pExt co F (nI x9).toNatClampNeg 0)) (wi (nI b9).toNatClampNeg) = true ∧ pOpen fa lo la co F R (nI b9).toNatClampNeg (nf (nI b9).toNatClampNeg) (pEi k) (pExt co F (nI x9).toNatClampNeg 0) (pExt co F (nI x9).toNatClampNeg 1) ∧ k ≤ N ∧ z = nI k ∧ lo1 = upd lo (nI x9).toNatClampNeg (nI (nI b9).toNatClampNeg) ∧ la1 = upd la (nI x9).toNatClampNeg (nI k)) ∨ (xle (FP.dadd (pEi k) (pExt co F (nI x9).toNatClampNeg 0)) (wi (nI b9).toNatClampNeg) = false ∧ z = (-1) ∧ lo1 = lo ∧ la1 = la))))) ∨ (T = nI 1 ∧ ¬ (vp_in (nI b9) nb ∧ vp_in (nI x9) (R - 1)) ∧ lo1 = lo ∧ la1 = la) ∨ (T = nI 2 ∧ (vp_in (nI b9) nb ∧ vp_in (nI x9) (R - 1)) ∧ (un (nI x9).toNatClampNeg = 0 ∨ ¬ lo (nI x9).toNatClampNeg = (-1)) ∧ lo1 = lo ∧ la1 = la))) (fun _ _ => False) [.ref m0, .int ((nI b9)), .int ((nI x9))].toArray s rm_X7_nest b0) (F0 m 93 ls []) from K N 0 _ d0 ls ⟨by omega, fun _ h => absurd h (Nat.not_lt_zero _)⟩ hS hd0 (lv_sub hl [0, 3, 4, 5, 2, 1] rfl)
                    intro n
                    induction n with
                    | zero =>
                      intro k locs d0 ls hinv hS hd0 hl
                      obtain ⟨hk, hlow⟩ := hinv
                      have ek : k = N := (by omega)
                      refine lv_iload hx hb dX7_nest_93 (lv_at hl 0 rfl) ?_
                      refine lv_i2d hx hb dX7_nest_95 ?_
                      refine lv_ldc2d hx hb hown (hts d0 _ hw_X7_nest_6) dX7_nest_96 ?_
                      refine xddiv hd0 hx hb (vq_rf _) (vq_rf _) dX7_nest_99 (fun r_18 d0 q_18 hd0 => ?_)
                      refine lv_dload_n hx hb dX7_nest_100 rfl (lv_at hl 4 rfl) ?_
                      refine xdadd hd0 hx hb q_18 q_15 dX7_nest_101 (fun r_19 d0 q_19 hd0 => ?_)
                      refine lv_aload_n hx hb dX7_nest_102 rfl (lv_at hl 1 rfl) ?_
                      refine va_get (D := G) (cl := vwCl) (ci := 8) (v := .ref (A 5)) (C := RX7) (T := TX7) (N := 18) hx hb (hts d0) in_X7_nest_X7 hown hK.1 (x1 hc_13) 0 rfl rfl 9 (by decide) (hts d0 _ hw_X7_nest_7) (fun _ h9 => h9) rfl dX7_nest_103 ?_
                      refine lv_iload_n hx hb dX7_nest_106 rfl (lv_at hl 2 rfl) ?_
                      refine xdald (j := b9) hx hb hK.1 0 hc_A5_13 rfl (xix_of (by omega) (by omega)) dX7_nest_107 ?_
                      refine xcmp_g_gt (tgt := 154) hx hb q_19 (vq_rf _) dX7_nest_108 dX7_nest_109 (by decide) (fun c_20 => ?_) (fun c_20 => ?_)
                      · refine lv_iconst (v := (-1)) hx hb dX7_nest_154 (by decide) ?_
                        exact xiret hd0 hx hb hr hlocks hS (Nat.le_of_ble_eq_true rfl) (Nat.le_of_ble_eq_true rfl) dX7_nest_155 ⟨nI 0, _, _, ⟨hc_13, hc_A0_13, hc_A1_13, hc_A2_13, hc_A3_13, hc_A4_13, hc_A5_13, hc_A6_13, hc_A7_13, hc_A8_13, hc_A9_13, hc_A10_13⟩, hfr_13, _, rfl, Or.inl ⟨rfl, z9, by rw [nN_nI (show b9 < 2 ^ 31 by omega), nN_nI (show x9 < 2 ^ 31 by omega)]; exact ⟨hun, hlo, Or.inr ⟨hhi, k, hlow, Or.inr ⟨c_20, rfl, rfl, rfl⟩⟩⟩⟩⟩
                      · exact (xtf c_20 (by rw [ek]; exact hN9)).elim
                    | succ n ih =>
                      intro k locs d0 ls hinv hS hd0 hl
                      obtain ⟨hk, hlow⟩ := hinv
                      refine lv_iload hx hb dX7_nest_93 (lv_at hl 0 rfl) ?_
                      refine lv_i2d hx hb dX7_nest_95 ?_
                      refine lv_ldc2d hx hb hown (hts d0 _ hw_X7_nest_6) dX7_nest_96 ?_
                      refine xddiv hd0 hx hb (vq_rf _) (vq_rf _) dX7_nest_99 (fun r_21 d0 q_21 hd0 => ?_)
                      refine lv_dload_n hx hb dX7_nest_100 rfl (lv_at hl 4 rfl) ?_
                      refine xdadd hd0 hx hb q_21 q_15 dX7_nest_101 (fun r_22 d0 q_22 hd0 => ?_)
                      refine lv_aload_n hx hb dX7_nest_102 rfl (lv_at hl 1 rfl) ?_
                      refine va_get (D := G) (cl := vwCl) (ci := 8) (v := .ref (A 5)) (C := RX7) (T := TX7) (N := 18) hx hb (hts d0) in_X7_nest_X7 hown hK.1 (x1 hc_13) 0 rfl rfl 9 (by decide) (hts d0 _ hw_X7_nest_7) (fun _ h9 => h9) rfl dX7_nest_103 ?_
                      refine lv_iload_n hx hb dX7_nest_106 rfl (lv_at hl 2 rfl) ?_
                      refine xdald (j := b9) hx hb hK.1 0 hc_A5_13 rfl (xix_of (by omega) (by omega)) dX7_nest_107 ?_
                      refine xcmp_g_gt (tgt := 154) hx hb q_22 (vq_rf _) dX7_nest_108 dX7_nest_109 (by decide) (fun c_23 => ?_) (fun c_23 => ?_)
                      · refine lv_iconst (v := (-1)) hx hb dX7_nest_154 (by decide) ?_
                        exact xiret hd0 hx hb hr hlocks hS (Nat.le_of_ble_eq_true rfl) (Nat.le_of_ble_eq_true rfl) dX7_nest_155 ⟨nI 0, _, _, ⟨hc_13, hc_A0_13, hc_A1_13, hc_A2_13, hc_A3_13, hc_A4_13, hc_A5_13, hc_A6_13, hc_A7_13, hc_A8_13, hc_A9_13, hc_A10_13⟩, hfr_13, _, rfl, Or.inl ⟨rfl, z9, by rw [nN_nI (show b9 < 2 ^ 31 by omega), nN_nI (show x9 < 2 ^ 31 by omega)]; exact ⟨hun, hlo, Or.inr ⟨hhi, k, hlow, Or.inr ⟨c_23, rfl, rfl, rfl⟩⟩⟩⟩⟩
                      · refine lv_aload_n hx hb dX7_nest_112 rfl (lv_at hl 1 rfl) ?_
                        refine lv_iload_n hx hb dX7_nest_113 rfl (lv_at hl 2 rfl) ?_
                        refine lv_iload hx hb dX7_nest_114 (lv_at hl 0 rfl) ?_
                        refine lv_i2d hx hb dX7_nest_116 ?_
                        refine lv_ldc2d hx hb hown (hts d0 _ hw_X7_nest_6) dX7_nest_117 ?_
                        refine xddiv hd0 hx hb (vq_rf _) (vq_rf _) dX7_nest_120 (fun r_24 d0 q_24 hd0 => ?_)
                        refine lv_dload_n hx hb dX7_nest_121 rfl (lv_at hl 4 rfl) ?_
                        refine lv_dload hx hb dX7_nest_122 (lv_at hl 5 rfl) ?_
                        have cw_25 := cwV (R := rm_X7_nest) (rm := rm_X7_isOpen) 4 (hts d0) gX7_nest_X7_isOpen rfl rfl rfl (by decide +kernel) ⟨Nat.le_of_ble_eq_true rfl, Nat.le_of_ble_eq_true rfl⟩
                        refine xcall hd0 (xintoV (b := m0) (As := [.int (nI b9), .double r_24, .double r_15, .double r_16]) (rest := []) ⟨hx, hb, hml, hown, hts _⟩ cw_25 (va_recv hK.1 (x1 hc_13) (ci := 8) (q0 := 0) rfl rfl) rfl rfl hl.1 rfl (lv_room (Nat.le_of_ble_eq_true rfl)) dX7_nest_124) (c_X7_isOpen (l := l) (G := G) (ty := ty) (b0 := b0) (⟨hc_13, hc_A0_13, hc_A1_13, hc_A2_13, hc_A3_13, hc_A4_13, hc_A5_13, hc_A6_13, hc_A7_13, hc_A8_13, hc_A9_13, hc_A10_13⟩ : xRef G ty m0 A (nI 0) F R pl un co dr bu nb wi hi fc fa lo la px py pz H_13) hZ (b := b9) (nf := nf b9) hb9 hnb hfc9 hnf9 q_24 q_15 q_16) (xoweB cw_25.1) hK hb0 hS (Nat.le_of_ble_eq_true rfl) (Nat.le_of_ble_eq_true rfl) (fun E_25 ce_25 q9_25 H_25 locs_25 d0 hd0 hp_25 hS hce_25 hcv_25 hcl_25 => ?_) (fun v_25 H_25 locs_25 d0 hd0 hp_25 hS => ?_)
                        · exact hp_25.elim
                        · obtain ⟨rfl, rfl⟩ := hp_25
                          show W p l e _ (s.setDrawn _) m _ below meth c _ _ _ _ _ (F0 m 127 ls [.int (xP (pOpen fa lo la co F R b9 (nf b9) (pEi k) (pExt co F x9 0) (pExt co F x9 1)))])
                          refine lv_if_eq (tgt := 148) hx hb dX7_nest_127 (by decide) (fun c_26 => ?_) (fun c_26 => ?_)
                          · refine xiincN (x := k) (y := 1) (lv' := [(7, .int (nI (k + 1))), (0, .ref m0), (1, .int (nI b9)), (2, .int (nI x9)), (3, .double r_15), (5, .double r_16)]) hx hb dX7_nest_148 hl (k := 0) rfl (by decide) (by decide) rfl (fun ls hl => ?_)
                            refine lv_goto (tgt := 93) hx hb dX7_nest_151 (by decide) ?_
                            exact ih (k + 1) _ d0 ls ⟨by omega, xall_s hlow ⟨c_23, xP_eq.mp c_26⟩⟩ hS hd0 (lv_sub hl [0, 1, 2, 3, 4, 5] rfl)
                          · refine lv_aload_n hx hb dX7_nest_130 rfl (lv_at hl 1 rfl) ?_
                            refine va_get (D := G) (cl := vwCl) (ci := 8) (v := .ref (A 9)) (C := RX7) (T := TX7) (N := 18) hx hb (hts d0) in_X7_nest_X7 hown hK.1 (x1 hc_13) 0 rfl rfl 13 (by decide) (hts d0 _ hw_X7_nest_3) (fun _ h9 => h9) rfl dX7_nest_131 ?_
                            refine lv_iload_n hx hb dX7_nest_134 rfl (lv_at hl 3 rfl) ?_
                            refine lv_iload_n hx hb dX7_nest_135 rfl (lv_at hl 2 rfl) ?_
                            refine xiastN (s := s.setDrawn d0) (j := x9) (x := nI b9) hx hb hK.1 1 hc_A9_13 hS (hB.2 9 (by decide)) rfl (xix_of (by omega) (by omega)) dX7_nest_136 (fun H_27 locs_27 hs_27 hS => ?_)
                            have hc_27 : xc G (A 9) (.inl (ty 1, 8, .inl ((upd lo x9 (nI b9))))) H_27 := hs_27.1
                            have hc_m0_27 : xc G m0 (.inr (8, [.int (nI 0), .int (nI F), .int (nI R), .ref (A 0), .ref (A 1), .ref (A 2), .ref (A 3), .ref (A 4), .int (nI nb), .ref (A 5), .ref (A 6), .ref (A 7), .ref (A 8), .ref (A 9), .ref (A 10), .double px, .double py, .double pz])) H_27 := hc_13.kept (hs_27.2.2 _ (Ne.symm (hA.1 9 (by decide))))
                            have hc_A0_27 : xc G (A 0) (.inl (ty 0, 192, .inr (.inr (.inr (.inl pl))))) H_27 := hc_A0_13.kept (hs_27.2.2 _ (fun z => absurd (hA.2 0 9 (by decide) (by decide) z) (by decide)))
                            have hc_A1_27 : xc G (A 1) (.inl (ty 2, 8, .inl un)) H_27 := hc_A1_13.kept (hs_27.2.2 _ (fun z => absurd (hA.2 1 9 (by decide) (by decide) z) (by decide)))
                            have hc_A2_27 : xc G (A 2) (.inl (ty 0, 256, .inr (.inr (.inr (.inl co))))) H_27 := hc_A2_13.kept (hs_27.2.2 _ (fun z => absurd (hA.2 2 9 (by decide) (by decide) z) (by decide)))
                            have hc_A3_27 : xc G (A 3) (.inl (ty 0, 32, .inr (.inr (.inr (.inl dr))))) H_27 := hc_A3_13.kept (hs_27.2.2 _ (fun z => absurd (hA.2 3 9 (by decide) (by decide) z) (by decide)))
                            have hc_A4_27 : xc G (A 4) (.inl (ty 2, 64, .inl bu)) H_27 := hc_A4_13.kept (hs_27.2.2 _ (fun z => absurd (hA.2 4 9 (by decide) (by decide) z) (by decide)))
                            have hc_A5_27 : xc G (A 5) (.inl (ty 0, 4, .inr (.inr (.inr (.inl wi))))) H_27 := hc_A5_13.kept (hs_27.2.2 _ (fun z => absurd (hA.2 5 9 (by decide) (by decide) z) (by decide)))
                            have hc_A6_27 : xc G (A 6) (.inl (ty 0, 4, .inr (.inr (.inr (.inl hi))))) H_27 := hc_A6_13.kept (hs_27.2.2 _ (fun z => absurd (hA.2 6 9 (by decide) (by decide) z) (by decide)))
                            have hc_A7_27 : xc G (A 7) (.inl (ty 1, 4, .inl fc)) H_27 := hc_A7_13.kept (hs_27.2.2 _ (fun z => absurd (hA.2 7 9 (by decide) (by decide) z) (by decide)))
                            have hc_A8_27 : xc G (A 8) (.inl (ty 0, 128, .inr (.inr (.inr (.inl fa))))) H_27 := hc_A8_13.kept (hs_27.2.2 _ (fun z => absurd (hA.2 8 9 (by decide) (by decide) z) (by decide)))
                            have hc_A10_27 : xc G (A 10) (.inl (ty 1, 8, .inl la)) H_27 := hc_A10_13.kept (hs_27.2.2 _ (fun z => absurd (hA.2 10 9 (by decide) (by decide) z) (by decide)))
                            have hfr_27 : xRfr m0 A H H_27 := xRfr.putA hfr_13 9 (by decide) hs_27
                            refine lv_aload_n hx hb dX7_nest_137 rfl (lv_at hl 1 rfl) ?_
                            refine va_get (D := G) (cl := vwCl) (ci := 8) (v := .ref (A 10)) (C := RX7) (T := TX7) (N := 18) hx hb (hts d0) in_X7_nest_X7 hown hK.1 (x1 hc_m0_27) 0 rfl rfl 14 (by decide) (hts d0 _ hw_X7_nest_8) (fun _ h9 => h9) rfl dX7_nest_138 ?_
                            refine lv_iload_n hx hb dX7_nest_141 rfl (lv_at hl 3 rfl) ?_
                            refine lv_iload hx hb dX7_nest_142 (lv_at hl 0 rfl) ?_
                            refine xiastN (s := s.setDrawn d0) (j := x9) (x := nI k) hx hb hK.1 1 hc_A10_27 hS (hB.2 10 (by decide)) rfl (xix_of (by omega) (by omega)) dX7_nest_144 (fun H_28 locs_28 hs_28 hS => ?_)
                            have hc_28 : xc G (A 10) (.inl (ty 1, 8, .inl ((upd la x9 (nI k))))) H_28 := hs_28.1
                            have hc_m0_28 : xc G m0 (.inr (8, [.int (nI 0), .int (nI F), .int (nI R), .ref (A 0), .ref (A 1), .ref (A 2), .ref (A 3), .ref (A 4), .int (nI nb), .ref (A 5), .ref (A 6), .ref (A 7), .ref (A 8), .ref (A 9), .ref (A 10), .double px, .double py, .double pz])) H_28 := hc_m0_27.kept (hs_28.2.2 _ (Ne.symm (hA.1 10 (by decide))))
                            have hc_A0_28 : xc G (A 0) (.inl (ty 0, 192, .inr (.inr (.inr (.inl pl))))) H_28 := hc_A0_27.kept (hs_28.2.2 _ (fun z => absurd (hA.2 0 10 (by decide) (by decide) z) (by decide)))
                            have hc_A1_28 : xc G (A 1) (.inl (ty 2, 8, .inl un)) H_28 := hc_A1_27.kept (hs_28.2.2 _ (fun z => absurd (hA.2 1 10 (by decide) (by decide) z) (by decide)))
                            have hc_A2_28 : xc G (A 2) (.inl (ty 0, 256, .inr (.inr (.inr (.inl co))))) H_28 := hc_A2_27.kept (hs_28.2.2 _ (fun z => absurd (hA.2 2 10 (by decide) (by decide) z) (by decide)))
                            have hc_A3_28 : xc G (A 3) (.inl (ty 0, 32, .inr (.inr (.inr (.inl dr))))) H_28 := hc_A3_27.kept (hs_28.2.2 _ (fun z => absurd (hA.2 3 10 (by decide) (by decide) z) (by decide)))
                            have hc_A4_28 : xc G (A 4) (.inl (ty 2, 64, .inl bu)) H_28 := hc_A4_27.kept (hs_28.2.2 _ (fun z => absurd (hA.2 4 10 (by decide) (by decide) z) (by decide)))
                            have hc_A5_28 : xc G (A 5) (.inl (ty 0, 4, .inr (.inr (.inr (.inl wi))))) H_28 := hc_A5_27.kept (hs_28.2.2 _ (fun z => absurd (hA.2 5 10 (by decide) (by decide) z) (by decide)))
                            have hc_A6_28 : xc G (A 6) (.inl (ty 0, 4, .inr (.inr (.inr (.inl hi))))) H_28 := hc_A6_27.kept (hs_28.2.2 _ (fun z => absurd (hA.2 6 10 (by decide) (by decide) z) (by decide)))
                            have hc_A7_28 : xc G (A 7) (.inl (ty 1, 4, .inl fc)) H_28 := hc_A7_27.kept (hs_28.2.2 _ (fun z => absurd (hA.2 7 10 (by decide) (by decide) z) (by decide)))
                            have hc_A8_28 : xc G (A 8) (.inl (ty 0, 128, .inr (.inr (.inr (.inl fa))))) H_28 := hc_A8_27.kept (hs_28.2.2 _ (fun z => absurd (hA.2 8 10 (by decide) (by decide) z) (by decide)))
                            have hc_A9_28 : xc G (A 9) (.inl (ty 1, 8, .inl ((upd lo x9 (nI b9))))) H_28 := hc_27.kept (hs_28.2.2 _ (fun z => absurd (hA.2 9 10 (by decide) (by decide) z) (by decide)))
                            have hfr_28 : xRfr m0 A H H_28 := xRfr.putA hfr_27 10 (by decide) hs_28
                            refine lv_iload hx hb dX7_nest_145 (lv_at hl 0 rfl) ?_
                            exact xiret hd0 hx hb hr hlocks hS (Nat.le_of_ble_eq_true rfl) (Nat.le_of_ble_eq_true rfl) dX7_nest_147 ⟨nI 0, _, _, ⟨hc_m0_28, hc_A0_28, hc_A1_28, hc_A2_28, hc_A3_28, hc_A4_28, hc_A5_28, hc_A6_28, hc_A7_28, hc_A8_28, hc_A9_28, hc_28⟩, hfr_28, _, rfl, Or.inl ⟨rfl, z9, by rw [nN_nI (show b9 < 2 ^ 31 by omega), nN_nI (show x9 < 2 ^ 31 by omega)]; exact ⟨hun, hlo, Or.inr ⟨hhi, k, hlow, Or.inl ⟨c_23, xP_ne.mp c_26, by omega, rfl, rfl, rfl⟩⟩⟩⟩⟩
                  · refine lv_iconst (v := (-1)) hx hb dX7_nest_88 (by decide) ?_
                    exact xiret hd0 hx hb hr hlocks hS (Nat.le_of_ble_eq_true rfl) (Nat.le_of_ble_eq_true rfl) dX7_nest_89 ⟨nI 0, _, _, ⟨hc_13, hc_A0_13, hc_A1_13, hc_A2_13, hc_A3_13, hc_A4_13, hc_A5_13, hc_A6_13, hc_A7_13, hc_A8_13, hc_A9_13, hc_A10_13⟩, hfr_13, _, rfl, Or.inl ⟨rfl, z9, by rw [nN_nI (show b9 < 2 ^ 31 by omega), nN_nI (show x9 < 2 ^ 31 by omega)]; exact ⟨c_9, c_12, Or.inl ⟨c_17, rfl, rfl, rfl⟩⟩⟩⟩
            · refine lv_iconst (v := nI 2) hx hb dX7_nest_44 (by decide) ?_
              refine lv_goto (tgt := 49) hx hb dX7_nest_45 (by decide) ?_
              refine xput (G := G) (ci := 8) (v := .int (nI 2)) (ty := .int) (C := RX7) (T := TX7) (N := 18) hx hb (hts d0) in_X7_nest_X7 tyX7 tyX7_ok nmX7 hown hK.1 y_o hS hB.1 rfl 0 (by decide) (hts d0 _ hw_X7_nest_4) (fun _ h9 => h9) rfl (by decide +kernel) rfl rfl (Nat.le_of_ble_eq_true rfl) dX7_nest_49 (fun H_29 locs_29 hs_29 hS => ?_)
              have hc_29 : xc G m0 (.inr (8, [.int (nI 2), .int (nI F), .int (nI R), .ref (A 0), .ref (A 1), .ref (A 2), .ref (A 3), .ref (A 4), .int (nI nb), .ref (A 5), .ref (A 6), .ref (A 7), .ref (A 8), .ref (A 9), .ref (A 10), .double px, .double py, .double pz])) H_29 := hs_29.1
              have hc_A0_29 : xc G (A 0) (.inl (ty 0, 192, .inr (.inr (.inr (.inl pl))))) H_29 := y_0.kept (hs_29.2.2 _ (hA.1 0 (by decide)))
              have hc_A1_29 : xc G (A 1) (.inl (ty 2, 8, .inl un)) H_29 := y_1.kept (hs_29.2.2 _ (hA.1 1 (by decide)))
              have hc_A2_29 : xc G (A 2) (.inl (ty 0, 256, .inr (.inr (.inr (.inl co))))) H_29 := y_2.kept (hs_29.2.2 _ (hA.1 2 (by decide)))
              have hc_A3_29 : xc G (A 3) (.inl (ty 0, 32, .inr (.inr (.inr (.inl dr))))) H_29 := y_3.kept (hs_29.2.2 _ (hA.1 3 (by decide)))
              have hc_A4_29 : xc G (A 4) (.inl (ty 2, 64, .inl bu)) H_29 := y_4.kept (hs_29.2.2 _ (hA.1 4 (by decide)))
              have hc_A5_29 : xc G (A 5) (.inl (ty 0, 4, .inr (.inr (.inr (.inl wi))))) H_29 := y_5.kept (hs_29.2.2 _ (hA.1 5 (by decide)))
              have hc_A6_29 : xc G (A 6) (.inl (ty 0, 4, .inr (.inr (.inr (.inl hi))))) H_29 := y_6.kept (hs_29.2.2 _ (hA.1 6 (by decide)))
              have hc_A7_29 : xc G (A 7) (.inl (ty 1, 4, .inl fc)) H_29 := y_7.kept (hs_29.2.2 _ (hA.1 7 (by decide)))
              have hc_A8_29 : xc G (A 8) (.inl (ty 0, 128, .inr (.inr (.inr (.inl fa))))) H_29 := y_8.kept (hs_29.2.2 _ (hA.1 8 (by decide)))
              have hc_A9_29 : xc G (A 9) (.inl (ty 1, 8, .inl lo)) H_29 := y_9.kept (hs_29.2.2 _ (hA.1 9 (by decide)))
              have hc_A10_29 : xc G (A 10) (.inl (ty 1, 8, .inl la)) H_29 := y_10.kept (hs_29.2.2 _ (hA.1 10 (by decide)))
              have hfr_29 : xRfr m0 A H H_29 := xRfr.put0 xRfr.rf hs_29
              refine lv_aload_n hx hb dX7_nest_52 rfl (lv_at hl 0 rfl) ?_
              refine va_get (D := G) (cl := vwCl) (ci := 8) (v := .int (nI 2)) (C := RX7) (T := TX7) (N := 18) hx hb (hts d0) in_X7_nest_X7 hown hK.1 (x1 hc_29) 0 rfl rfl 0 (by decide) (hts d0 _ hw_X7_nest_4) (fun _ h9 => h9) rfl dX7_nest_53 ?_
              refine lv_if_le (tgt := 61) hx hb dX7_nest_56 (by decide) (fun h9 => (show False by revert h9; decide).elim) (fun _ => ?_)
              refine lv_iconst (v := nI 0) hx hb dX7_nest_59 (by decide) ?_
              exact xiret hd0 hx hb hr hlocks hS (Nat.le_of_ble_eq_true rfl) (Nat.le_of_ble_eq_true rfl) dX7_nest_60 ⟨nI 2, _, _, ⟨hc_29, hc_A0_29, hc_A1_29, hc_A2_29, hc_A3_29, hc_A4_29, hc_A5_29, hc_A6_29, hc_A7_29, hc_A8_29, hc_A9_29, hc_A10_29⟩, hfr_29, _, rfl, Or.inr (Or.inr ⟨rfl, z9, by rw [nN_nI (show x9 < 2 ^ 31 by omega)]; exact Or.inr c_12, rfl, rfl⟩)⟩
        · refine lv_iconst (v := nI 1) hx hb dX7_nest_21 (by decide) ?_
          refine lv_goto (tgt := 49) hx hb dX7_nest_22 (by decide) ?_
          refine xput (G := G) (ci := 8) (v := .int (nI 1)) (ty := .int) (C := RX7) (T := TX7) (N := 18) hx hb (hts d0) in_X7_nest_X7 tyX7 tyX7_ok nmX7 hown hK.1 y_o hS hB.1 rfl 0 (by decide) (hts d0 _ hw_X7_nest_4) (fun _ h9 => h9) rfl (by decide +kernel) rfl rfl (Nat.le_of_ble_eq_true rfl) dX7_nest_49 (fun H_31 locs_31 hs_31 hS => ?_)
          have hc_31 : xc G m0 (.inr (8, [.int (nI 1), .int (nI F), .int (nI R), .ref (A 0), .ref (A 1), .ref (A 2), .ref (A 3), .ref (A 4), .int (nI nb), .ref (A 5), .ref (A 6), .ref (A 7), .ref (A 8), .ref (A 9), .ref (A 10), .double px, .double py, .double pz])) H_31 := hs_31.1
          have hc_A0_31 : xc G (A 0) (.inl (ty 0, 192, .inr (.inr (.inr (.inl pl))))) H_31 := y_0.kept (hs_31.2.2 _ (hA.1 0 (by decide)))
          have hc_A1_31 : xc G (A 1) (.inl (ty 2, 8, .inl un)) H_31 := y_1.kept (hs_31.2.2 _ (hA.1 1 (by decide)))
          have hc_A2_31 : xc G (A 2) (.inl (ty 0, 256, .inr (.inr (.inr (.inl co))))) H_31 := y_2.kept (hs_31.2.2 _ (hA.1 2 (by decide)))
          have hc_A3_31 : xc G (A 3) (.inl (ty 0, 32, .inr (.inr (.inr (.inl dr))))) H_31 := y_3.kept (hs_31.2.2 _ (hA.1 3 (by decide)))
          have hc_A4_31 : xc G (A 4) (.inl (ty 2, 64, .inl bu)) H_31 := y_4.kept (hs_31.2.2 _ (hA.1 4 (by decide)))
          have hc_A5_31 : xc G (A 5) (.inl (ty 0, 4, .inr (.inr (.inr (.inl wi))))) H_31 := y_5.kept (hs_31.2.2 _ (hA.1 5 (by decide)))
          have hc_A6_31 : xc G (A 6) (.inl (ty 0, 4, .inr (.inr (.inr (.inl hi))))) H_31 := y_6.kept (hs_31.2.2 _ (hA.1 6 (by decide)))
          have hc_A7_31 : xc G (A 7) (.inl (ty 1, 4, .inl fc)) H_31 := y_7.kept (hs_31.2.2 _ (hA.1 7 (by decide)))
          have hc_A8_31 : xc G (A 8) (.inl (ty 0, 128, .inr (.inr (.inr (.inl fa))))) H_31 := y_8.kept (hs_31.2.2 _ (hA.1 8 (by decide)))
          have hc_A9_31 : xc G (A 9) (.inl (ty 1, 8, .inl lo)) H_31 := y_9.kept (hs_31.2.2 _ (hA.1 9 (by decide)))
          have hc_A10_31 : xc G (A 10) (.inl (ty 1, 8, .inl la)) H_31 := y_10.kept (hs_31.2.2 _ (hA.1 10 (by decide)))
          have hfr_31 : xRfr m0 A H H_31 := xRfr.put0 xRfr.rf hs_31
          refine lv_aload_n hx hb dX7_nest_52 rfl (lv_at hl 0 rfl) ?_
          refine va_get (D := G) (cl := vwCl) (ci := 8) (v := .int (nI 1)) (C := RX7) (T := TX7) (N := 18) hx hb (hts d0) in_X7_nest_X7 hown hK.1 (x1 hc_31) 0 rfl rfl 0 (by decide) (hts d0 _ hw_X7_nest_4) (fun _ h9 => h9) rfl dX7_nest_53 ?_
          refine lv_if_le (tgt := 61) hx hb dX7_nest_56 (by decide) (fun h9 => (show False by revert h9; decide).elim) (fun _ => ?_)
          refine lv_iconst (v := nI 0) hx hb dX7_nest_59 (by decide) ?_
          exact xiret hd0 hx hb hr hlocks hS (Nat.le_of_ble_eq_true rfl) (Nat.le_of_ble_eq_true rfl) dX7_nest_60 ⟨nI 1, _, _, ⟨hc_31, hc_A0_31, hc_A1_31, hc_A2_31, hc_A3_31, hc_A4_31, hc_A5_31, hc_A6_31, hc_A7_31, hc_A8_31, hc_A9_31, hc_A10_31⟩, hfr_31, _, rfl, Or.inr (Or.inl ⟨rfl, fun z => xP_ne.mp c_8 z.2, rfl, rfl⟩)⟩
