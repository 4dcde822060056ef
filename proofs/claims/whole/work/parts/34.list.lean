/-! THE LIST: java.util.ArrayList. -/
theorem xAny2 {G : va_G} {ty : Nat → ClassId} {b0 v ci : Nat} {vs : List Value} {s : State} {H : Heap} {d0 : Drawn} (hK : xK G ty b0 s) (hV : xc G v (.inr (ci, vs)) H) (hci : ci = 1 ∨ ci = 2) : va_Any "java/lang/Object" (s.setDrawn d0) H v := by
  rcases hci with rfl | rfl
  · exact xAny (s := s.setDrawn d0) hK.1 hV rfl (va_Nw.same (u := s) rfl rfl (hK.2.2.2.2.2.2.2.2.2.2.1 RX0 (by decide)))
  · exact xAny (s := s.setDrawn d0) hK.1 hV rfl (va_Nw.same (u := s) rfl rfl (hK.2.2.2.2.2.2.2.2.2.2.1 RX1 (by decide)))
/-- the old cells stand, but for two -/
def xOld2 (m0 m1 : Nat) (H H1 : Heap) : Prop := H.size ≤ H1.size ∧ ∀ q : Nat, q < H.size → q ≠ m0 → q ≠ m1 → H1[q]? = H[q]?
theorem dJxa1e45_init_da8c8_0 : decode cJxa1e45_init_da8c8 0 = .ok (.aload_n 0, 1) := by decide +kernel
theorem dJxa1e45_init_da8c8_1 : decode cJxa1e45_init_da8c8 1 = .ok (.invokespecial 1, 3) := by decide +kernel
theorem dJxa1e45_init_da8c8_4 : decode cJxa1e45_init_da8c8 4 = .ok (.return_, 1) := by decide +kernel
abbrev rm_Jxa1e45_init_da8c8 : Room := { frames := 1, cells := 0, slots := 0, locals := 30 }
theorem hw_Jxa1e45_init_da8c8_1 : (Cond.methodLink RJxa1e45 1 objectInit) ∈ wsJxa1e45_init_da8c8 := List.mem_of_getElem? (i := 1) rfl
theorem hw_Jxa1e45_init_da8c8_2 : (Cond.instanceMethod objectInit) ∈ wsJxa1e45_init_da8c8 := List.mem_of_getElem? (i := 2) rfl
theorem hw_Jxa1e45_init_da8c8_3 : (Cond.code objectInit ⟨#[0xb1]⟩ 1 none) ∈ wsJxa1e45_init_da8c8 := List.mem_of_getElem? (i := 3) rfl
set_option maxHeartbeats 4000000 in
set_option maxRecDepth 100000 in
/-- the beginning of a collection -/
theorem c_Jxa1e45_init_da8c8 {l : Launch} {G : va_G} {ty : Nat → ClassId} {b0 : Nat} {H : Heap} {q0 : Nat} : xMet l yJxa1e45_init_da8c8 wsJxa1e45_init_da8c8 rm_Jxa1e45_init_da8c8 G ty b0 [.ref q0] H (fun v H1 => v = none ∧ H = H1) (fun _ _ => False) := by
  refine xbody (cc := cJxa1e45_init_da8c8) (maxL := 1) (ret := none) (C := RJxa1e45) (lv := [(0, .ref q0)]) (by decide) rfl rfl (Nat.le_of_ble_eq_true rfl) rfl ?_
  intro p e s m below meth c d0 hx hb hr hts hown hlocks hml hxt hnm0 hK hb0 hH0 hS hd0 ls hl
  refine lv_aload_n hx hb dJxa1e45_init_da8c8_0 rfl (lv_at hl 0 rfl) ?_
  refine xobj (s := s.setDrawn d0) hx hb hown hml hl.1 (hts d0 _ hw_Jxa1e45_init_da8c8_1) (hts d0 _ hw_Jxa1e45_init_da8c8_2) (hts d0 _ hw_Jxa1e45_init_da8c8_3) dJxa1e45_init_da8c8_1 (Nat.le_of_ble_eq_true rfl) (Nat.le_of_ble_eq_true rfl) ?_
  exact xvret hd0 hx hb hr hlocks hS (Nat.le_of_ble_eq_true rfl) (Nat.le_of_ble_eq_true rfl) dJxa1e45_init_da8c8_4 ⟨rfl, rfl⟩
set_option maxRecDepth 20000 in
theorem ggJxc12de_init_da8c8_Jxa1e45_init_da8c8 : GoodIn wsJxc12de_init_da8c8 wsJxa1e45_init_da8c8 := goodIn_r _ [5, 6, 7, 8] (by decide +kernel) (by decide +kernel)
set_option maxRecDepth 20000 in
theorem gJxc12de_init_da8c8_Jxa1e45_init_da8c8 : GoodIn wsJxc12de_init_da8c8 (wsJxa1e45_init_da8c8) := ggJxc12de_init_da8c8_Jxa1e45_init_da8c8
theorem dJxc12de_init_da8c8_0 : decode cJxc12de_init_da8c8 0 = .ok (.aload_n 0, 1) := by decide +kernel
theorem dJxc12de_init_da8c8_1 : decode cJxc12de_init_da8c8 1 = .ok (.invokespecial 1, 3) := by decide +kernel
theorem dJxc12de_init_da8c8_4 : decode cJxc12de_init_da8c8 4 = .ok (.aload_n 0, 1) := by decide +kernel
theorem dJxc12de_init_da8c8_5 : decode cJxc12de_init_da8c8 5 = .ok (.iconst 0, 1) := by decide +kernel
theorem dJxc12de_init_da8c8_6 : decode cJxc12de_init_da8c8 6 = .ok (.putfield 7, 3) := by decide +kernel
theorem dJxc12de_init_da8c8_9 : decode cJxc12de_init_da8c8 9 = .ok (.return_, 1) := by decide +kernel
abbrev rm_Jxc12de_init_da8c8 : Room := { frames := 2, cells := 0, slots := 0, locals := 60 }
theorem hw_Jxc12de_init_da8c8_1 : (Cond.fieldLink RJxc12de 7 "java/util/AbstractList" "modCount" "I") ∈ wsJxc12de_init_da8c8 := List.mem_of_getElem? (i := 1) rfl
theorem hw_Jxc12de_init_da8c8_2 : (Cond.methodLink RJxc12de 1 yJxa1e45_init_da8c8) ∈ wsJxc12de_init_da8c8 := List.mem_of_getElem? (i := 2) rfl
theorem hw_Jxc12de_init_da8c8_3 : (Cond.instanceMethod yJxa1e45_init_da8c8) ∈ wsJxc12de_init_da8c8 := List.mem_of_getElem? (i := 3) rfl
theorem hw_Jxc12de_init_da8c8_4 : (Cond.initialized RJxa1e45) ∈ wsJxc12de_init_da8c8 := List.mem_of_getElem? (i := 4) rfl
theorem in_Jxc12de_init_da8c8_Jx4a65c : ∀ w ∈ wsJx4a65c0, w ∈ wsJxc12de_init_da8c8 := by decide +kernel
set_option maxHeartbeats 4000000 in
set_option maxRecDepth 100000 in
/-- the beginning of an abstract list -/
theorem c_Jxc12de_init_da8c8 {l : Launch} {G : va_G} {ty : Nat → ClassId} {b0 : Nat} {H : Heap} {q0 : Nat} (hq0 : b0 ≤ q0) (hc0 : xc G q0 (.inr (0, [.int (nI 0), .null, .int (nI 0)])) H) : xMet l yJxc12de_init_da8c8 wsJxc12de_init_da8c8 rm_Jxc12de_init_da8c8 G ty b0 [.ref q0] H (fun v H1 => v = none ∧ xset G q0 (.inr (0, [.int (nI 0), .null, .int (nI 0)])) H H1) (fun _ _ => False) := by
  refine xbody (cc := cJxc12de_init_da8c8) (maxL := 1) (ret := none) (C := RJxc12de) (lv := [(0, .ref q0)]) (by decide) rfl rfl (Nat.le_of_ble_eq_true rfl) rfl ?_
  intro p e s m below meth c d0 hx hb hr hts hown hlocks hml hxt hnm0 hK hb0 hH0 hS hd0 ls hl
  refine lv_aload_n hx hb dJxc12de_init_da8c8_0 rfl (lv_at hl 0 rfl) ?_
  have cw_1 := cwI (R := rm_Jxc12de_init_da8c8) (rm := rm_Jxa1e45_init_da8c8) 0 (hts d0) gJxc12de_init_da8c8_Jxa1e45_init_da8c8 rfl rfl rfl (hts d0 _ hw_Jxc12de_init_da8c8_4) (hts d0 _ hw_Jxc12de_init_da8c8_2) (hts d0 _ hw_Jxc12de_init_da8c8_3) rfl (by decide +kernel) ⟨Nat.le_of_ble_eq_true rfl, Nat.le_of_ble_eq_true rfl⟩
  refine xcall hd0 (xintoI (b := q0) (As := []) (rest := []) ⟨hx, hb, hml, hown, hts _⟩ cw_1 rfl rfl hl.1 rfl (lv_room (Nat.le_of_ble_eq_true rfl)) dJxc12de_init_da8c8_1) (c_Jxa1e45_init_da8c8 (l := l) (G := G) (ty := ty) (b0 := b0) (q0 := q0)) (xoweB cw_1.1) hK hb0 hS (Nat.le_of_ble_eq_true rfl) (Nat.le_of_ble_eq_true rfl) (fun E_1 ce_1 q9_1 H_1 locs_1 d0 hd0 hp_1 hS hce_1 hcv_1 hcl_1 => ?_) (fun v_1 H_1 locs_1 d0 hd0 hp_1 hS => ?_)
  · exact hp_1.elim
  · obtain ⟨rfl, rfl⟩ := hp_1
    show W p l e _ (s.setDrawn _) m _ below meth c _ _ _ _ _ (F0 m 4 ls [])
    refine lv_aload_n hx hb dJxc12de_init_da8c8_4 rfl (lv_at hl 0 rfl) ?_
    refine lv_iconst (v := nI 0) hx hb dJxc12de_init_da8c8_5 (by decide) ?_
    refine xput (G := G) (ci := 0) (v := .int (nI 0)) (ty := .int) (C := RJx4a65c) (T := TJx4a65c) (N := 3) hx hb (hts d0) in_Jxc12de_init_da8c8_Jx4a65c tyJx4a65c tyJx4a65c_ok nmJx4a65c hown hK.1 hc0 hS hq0 rfl 0 (by decide) (hts d0 _ hw_Jxc12de_init_da8c8_1) (fun _ h9 => h9) rfl (by decide +kernel) rfl rfl (Nat.le_of_ble_eq_true rfl) dJxc12de_init_da8c8_6 (fun H_2 locs_2 hs_2 hS => ?_)
    have hc_2 : xc G q0 (.inr (0, [.int (nI 0), .null, .int (nI 0)])) H_2 := hs_2.1
    exact xvret hd0 hx hb hr hlocks hS (Nat.le_of_ble_eq_true rfl) (Nat.le_of_ble_eq_true rfl) dJxc12de_init_da8c8_9 ⟨rfl, hs_2⟩
set_option maxRecDepth 20000 in
theorem ggJx4a65c_init_da8c8_Jxc12de_init_da8c8 : GoodIn wsJx4a65c_init_da8c8 wsJxc12de_init_da8c8 := goodIn_r _ [6, 7, 8, 9, 10, 11, 12, 13, 14, 15, 16, 17] (by decide +kernel) (by decide +kernel)
set_option maxRecDepth 20000 in
theorem gJx4a65c_init_da8c8_Jxc12de_init_da8c8 : GoodIn wsJx4a65c_init_da8c8 (wsJxc12de_init_da8c8) := ggJx4a65c_init_da8c8_Jxc12de_init_da8c8
theorem dJx4a65c_init_da8c8_0 : decode cJx4a65c_init_da8c8 0 = .ok (.aload_n 0, 1) := by decide +kernel
theorem dJx4a65c_init_da8c8_1 : decode cJx4a65c_init_da8c8 1 = .ok (.invokespecial 1, 3) := by decide +kernel
theorem dJx4a65c_init_da8c8_4 : decode cJx4a65c_init_da8c8 4 = .ok (.aload_n 0, 1) := by decide +kernel
theorem dJx4a65c_init_da8c8_5 : decode cJx4a65c_init_da8c8 5 = .ok (.getstatic 39, 3) := by decide +kernel
theorem dJx4a65c_init_da8c8_8 : decode cJx4a65c_init_da8c8 8 = .ok (.putfield 9, 3) := by decide +kernel
theorem dJx4a65c_init_da8c8_11 : decode cJx4a65c_init_da8c8 11 = .ok (.return_, 1) := by decide +kernel
abbrev rm_Jx4a65c_init_da8c8 : Room := { frames := 3, cells := 0, slots := 0, locals := 90 }
theorem hw_Jx4a65c_init_da8c8_1 : (Cond.fieldLink RJx4a65c 39 "java/util/ArrayList" "DEFAULTCAPACITY_EMPTY_ELEMENTDATA" "[Ljava/lang/Object;") ∈ wsJx4a65c_init_da8c8 := List.mem_of_getElem? (i := 1) rfl
theorem hw_Jx4a65c_init_da8c8_2 : (Cond.fieldLink RJx4a65c 9 "java/util/ArrayList" "elementData" "[Ljava/lang/Object;") ∈ wsJx4a65c_init_da8c8 := List.mem_of_getElem? (i := 2) rfl
theorem hw_Jx4a65c_init_da8c8_3 : (Cond.methodLink RJx4a65c 1 yJxc12de_init_da8c8) ∈ wsJx4a65c_init_da8c8 := List.mem_of_getElem? (i := 3) rfl
theorem hw_Jx4a65c_init_da8c8_4 : (Cond.instanceMethod yJxc12de_init_da8c8) ∈ wsJx4a65c_init_da8c8 := List.mem_of_getElem? (i := 4) rfl
theorem hw_Jx4a65c_init_da8c8_5 : (Cond.initialized RJxc12de) ∈ wsJx4a65c_init_da8c8 := List.mem_of_getElem? (i := 5) rfl
theorem in_Jx4a65c_init_da8c8_Jx4a65c : ∀ w ∈ wsJx4a65c0, w ∈ wsJx4a65c_init_da8c8 := by decide +kernel
set_option maxHeartbeats 4000000 in
set_option maxRecDepth 100000 in
/-- a new list -/
theorem c_Jx4a65c_init_da8c8 {l : Launch} {G : va_G} {ty : Nat → ClassId} {b0 : Nat} {H : Heap} {q0 : Nat} (hq0 : b0 ≤ q0) (hc0 : xc G q0 (.inr (0, [.int (nI 0), .null, .int (nI 0)])) H) : xMet l yJx4a65c_init_da8c8 wsJx4a65c_init_da8c8 rm_Jx4a65c_init_da8c8 G ty b0 [.ref q0] H (fun v H1 => v = none ∧ xset G q0 (.inr (0, [.int (nI 0), .ref (ty 8), .int (nI 0)])) H H1) (fun _ _ => False) := by
  refine xbody (cc := cJx4a65c_init_da8c8) (maxL := 1) (ret := none) (C := RJx4a65c) (lv := [(0, .ref q0)]) (by decide) rfl rfl (Nat.le_of_ble_eq_true rfl) rfl ?_
  intro p e s m below meth c d0 hx hb hr hts hown hlocks hml hxt hnm0 hK hb0 hH0 hS hd0 ls hl
  refine lv_aload_n hx hb dJx4a65c_init_da8c8_0 rfl (lv_at hl 0 rfl) ?_
  have cw_1 := cwI (R := rm_Jx4a65c_init_da8c8) (rm := rm_Jxc12de_init_da8c8) 0 (hts d0) gJx4a65c_init_da8c8_Jxc12de_init_da8c8 rfl rfl rfl (hts d0 _ hw_Jx4a65c_init_da8c8_5) (hts d0 _ hw_Jx4a65c_init_da8c8_3) (hts d0 _ hw_Jx4a65c_init_da8c8_4) rfl (by decide +kernel) ⟨Nat.le_of_ble_eq_true rfl, Nat.le_of_ble_eq_true rfl⟩
  refine xcall hd0 (xintoI (b := q0) (As := []) (rest := []) ⟨hx, hb, hml, hown, hts _⟩ cw_1 rfl rfl hl.1 rfl (lv_room (Nat.le_of_ble_eq_true rfl)) dJx4a65c_init_da8c8_1) (c_Jxc12de_init_da8c8 (l := l) (G := G) (ty := ty) (b0 := b0) hq0 hc0) (xoweB cw_1.1) hK hb0 hS (Nat.le_of_ble_eq_true rfl) (Nat.le_of_ble_eq_true rfl) (fun E_1 ce_1 q9_1 H_1 locs_1 d0 hd0 hp_1 hS hce_1 hcv_1 hcl_1 => ?_) (fun v_1 H_1 locs_1 d0 hd0 hp_1 hS => ?_)
  · exact hp_1.elim
  · obtain ⟨rfl, hs_1⟩ := hp_1
    have hc_1 : xc G q0 (.inr (0, [.int (nI 0), .null, .int (nI 0)])) H_1 := hs_1.1
    show W p l e _ (s.setDrawn _) m _ below meth c _ _ _ _ _ (F0 m 4 ls [])
    refine lv_aload_n hx hb dJx4a65c_init_da8c8_4 rfl (lv_at hl 0 rfl) ?_
    refine xgets hx hb hK hS hown (hts d0 _ hw_Jx4a65c_init_da8c8_1) dJx4a65c_init_da8c8_5 ?_
    refine xput (G := G) (ci := 0) (v := .ref (ty 8)) (ty := (.array (.object "java/lang/Object"))) (C := RJx4a65c) (T := TJx4a65c) (N := 3) hx hb (hts d0) in_Jx4a65c_init_da8c8_Jx4a65c tyJx4a65c tyJx4a65c_ok nmJx4a65c hown hK.1 hc_1 hS hq0 rfl 1 (by decide) (hts d0 _ hw_Jx4a65c_init_da8c8_2) (fun _ h9 => h9) rfl (by decide +kernel) rfl rfl (Nat.le_of_ble_eq_true rfl) dJx4a65c_init_da8c8_8 (fun H_2 locs_2 hs_2 hS => ?_)
    have hc_2 : xc G q0 (.inr (0, [.int (nI 0), .ref (ty 8), .int (nI 0)])) H_2 := hs_2.1
    exact xvret hd0 hx hb hr hlocks hS (Nat.le_of_ble_eq_true rfl) (Nat.le_of_ble_eq_true rfl) dJx4a65c_init_da8c8_11 ⟨rfl, hs_1.tr hs_2⟩
theorem dJx4a65c_size_8abf5_0 : decode cJx4a65c_size_8abf5 0 = .ok (.aload_n 0, 1) := by decide +kernel
theorem dJx4a65c_size_8abf5_1 : decode cJx4a65c_size_8abf5 1 = .ok (.getfield 48, 3) := by decide +kernel
theorem dJx4a65c_size_8abf5_4 : decode cJx4a65c_size_8abf5 4 = .ok (.ireturn, 1) := by decide +kernel
abbrev rm_Jx4a65c_size_8abf5 : Room := { frames := 1, cells := 0, slots := 0, locals := 30 }
theorem hw_Jx4a65c_size_8abf5_1 : (Cond.fieldLink RJx4a65c 48 "java/util/ArrayList" "size" "I") ∈ wsJx4a65c_size_8abf5 := List.mem_of_getElem? (i := 1) rfl
theorem in_Jx4a65c_size_8abf5_Jx4a65c : ∀ w ∈ wsJx4a65c0, w ∈ wsJx4a65c_size_8abf5 := by decide +kernel
set_option maxHeartbeats 4000000 in
set_option maxRecDepth 100000 in
/-- how many -/
theorem c_Jx4a65c_size_8abf5 {l : Launch} {G : va_G} {ty : Nat → ClassId} {b0 : Nat} {H : Heap} {q0 d0a n : Nat} {mc : Int32} (hc0 : xc G q0 (.inr (0, [.int mc, .ref d0a, .int (nI n)])) H) : xMet l yJx4a65c_size_8abf5 wsJx4a65c_size_8abf5 rm_Jx4a65c_size_8abf5 G ty b0 [.ref q0] H (fun v H1 => H = H1 ∧ v = some (.int (nI n))) (fun _ _ => False) := by
  refine xbody (cc := cJx4a65c_size_8abf5) (maxL := 1) (ret := (some .int)) (C := RJx4a65c) (lv := [(0, .ref q0)]) (by decide) rfl rfl (Nat.le_of_ble_eq_true rfl) rfl ?_
  intro p e s m below meth c d0 hx hb hr hts hown hlocks hml hxt hnm0 hK hb0 hH0 hS hd0 ls hl
  refine lv_aload_n hx hb dJx4a65c_size_8abf5_0 rfl (lv_at hl 0 rfl) ?_
  refine va_get (D := G) (cl := vwCl) (ci := 0) (v := .int (nI n)) (C := RJx4a65c) (T := TJx4a65c) (N := 3) hx hb (hts d0) in_Jx4a65c_size_8abf5_Jx4a65c hown hK.1 (x1 hc0) 0 rfl rfl 2 (by decide) (hts d0 _ hw_Jx4a65c_size_8abf5_1) (fun _ h9 => h9) rfl dJx4a65c_size_8abf5_1 ?_
  exact xiret hd0 hx hb hr hlocks hS (Nat.le_of_ble_eq_true rfl) (Nat.le_of_ble_eq_true rfl) dJx4a65c_size_8abf5_4 ⟨rfl, rfl⟩
theorem dJx4a65c_elementData_915e3_0 : decode cJx4a65c_elementData_915e3 0 = .ok (.aload_n 0, 1) := by decide +kernel
theorem dJx4a65c_elementData_915e3_1 : decode cJx4a65c_elementData_915e3 1 = .ok (.getfield 9, 3) := by decide +kernel
theorem dJx4a65c_elementData_915e3_4 : decode cJx4a65c_elementData_915e3 4 = .ok (.iload_n 1, 1) := by decide +kernel
theorem dJx4a65c_elementData_915e3_5 : decode cJx4a65c_elementData_915e3 5 = .ok (.aaload, 1) := by decide +kernel
theorem dJx4a65c_elementData_915e3_6 : decode cJx4a65c_elementData_915e3 6 = .ok (.areturn, 1) := by decide +kernel
abbrev rm_Jx4a65c_elementData_915e3 : Room := { frames := 1, cells := 0, slots := 0, locals := 30 }
theorem hw_Jx4a65c_elementData_915e3_1 : (Cond.fieldLink RJx4a65c 9 "java/util/ArrayList" "elementData" "[Ljava/lang/Object;") ∈ wsJx4a65c_elementData_915e3 := List.mem_of_getElem? (i := 1) rfl
theorem in_Jx4a65c_elementData_915e3_Jx4a65c : ∀ w ∈ wsJx4a65c0, w ∈ wsJx4a65c_elementData_915e3 := by decide +kernel
set_option maxHeartbeats 4000000 in
set_option maxRecDepth 100000 in
/-- one of them -/
theorem c_Jx4a65c_elementData_915e3 {l : Launch} {G : va_G} {ty : Nat → ClassId} {b0 : Nat} {H : Heap} {q0 d0a n j q1 : Nat} {mc : Int32} {f : Nat → Option Nat} (hc0 : xc G q0 (.inr (0, [.int mc, .ref d0a, .int (nI n)])) H) (hc1 : xc G d0a (.inl (ty 7, 10, .inr (.inr (.inr (.inr f))))) H) (hj : j < n) (hn : n ≤ 10) (hf : f j = some q1) : xMet l yJx4a65c_elementData_915e3 wsJx4a65c_elementData_915e3 rm_Jx4a65c_elementData_915e3 G ty b0 [.ref q0, .int (nI j)] H (fun v H1 => H = H1 ∧ v = some (.ref q1)) (fun _ _ => False) := by
  refine xbody (cc := cJx4a65c_elementData_915e3) (maxL := 2) (ret := (some (.object "java/lang/Object"))) (C := RJx4a65c) (lv := [(0, .ref q0), (1, .int (nI j))]) (by decide) rfl rfl (Nat.le_of_ble_eq_true rfl) rfl ?_
  intro p e s m below meth c d0 hx hb hr hts hown hlocks hml hxt hnm0 hK hb0 hH0 hS hd0 ls hl
  refine lv_aload_n hx hb dJx4a65c_elementData_915e3_0 rfl (lv_at hl 0 rfl) ?_
  refine va_get (D := G) (cl := vwCl) (ci := 0) (v := .ref d0a) (C := RJx4a65c) (T := TJx4a65c) (N := 3) hx hb (hts d0) in_Jx4a65c_elementData_915e3_Jx4a65c hown hK.1 (x1 hc0) 0 rfl rfl 1 (by decide) (hts d0 _ hw_Jx4a65c_elementData_915e3_1) (fun _ h9 => h9) rfl dJx4a65c_elementData_915e3_1 ?_
  refine lv_iload_n hx hb dJx4a65c_elementData_915e3_4 rfl (lv_at hl 1 rfl) ?_
  refine xaald (j := j) hx hb hK.1 7 hc1 rfl (xix_of (by omega) (by omega)) hf dJx4a65c_elementData_915e3_5 ?_
  exact xaret (Or.inl ⟨_, rfl⟩) (Or.inr ⟨_, rfl⟩) hd0 hx hb hr hlocks hS (Nat.le_of_ble_eq_true rfl) (Nat.le_of_ble_eq_true rfl) dJx4a65c_elementData_915e3_6 ⟨rfl, rfl⟩
theorem dJ3_checkIndex_8e157_0 : decode cJ3_checkIndex_8e157 0 = .ok (.iload_n 0, 1) := by decide +kernel
theorem dJ3_checkIndex_8e157_1 : decode cJ3_checkIndex_8e157 1 = .ok (.ifCond .lt 8, 3) := by decide +kernel
theorem dJ3_checkIndex_8e157_4 : decode cJ3_checkIndex_8e157 4 = .ok (.iload_n 0, 1) := by decide +kernel
theorem dJ3_checkIndex_8e157_5 : decode cJ3_checkIndex_8e157 5 = .ok (.iload_n 1, 1) := by decide +kernel
theorem dJ3_checkIndex_8e157_6 : decode cJ3_checkIndex_8e157 6 = .ok (.if_icmp .lt 10, 3) := by decide +kernel
theorem dJ3_checkIndex_8e157_9 : decode cJ3_checkIndex_8e157 9 = .ok (.aload_n 2, 1) := by decide +kernel
theorem dJ3_checkIndex_8e157_10 : decode cJ3_checkIndex_8e157 10 = .ok (.iload_n 0, 1) := by decide +kernel
theorem dJ3_checkIndex_8e157_11 : decode cJ3_checkIndex_8e157 11 = .ok (.iload_n 1, 1) := by decide +kernel
theorem dJ3_checkIndex_8e157_12 : decode cJ3_checkIndex_8e157 12 = .ok (.invokestatic 95, 3) := by decide +kernel
theorem dJ3_checkIndex_8e157_15 : decode cJ3_checkIndex_8e157 15 = .ok (.athrow, 1) := by decide +kernel
theorem dJ3_checkIndex_8e157_16 : decode cJ3_checkIndex_8e157 16 = .ok (.iload_n 0, 1) := by decide +kernel
theorem dJ3_checkIndex_8e157_17 : decode cJ3_checkIndex_8e157 17 = .ok (.ireturn, 1) := by decide +kernel
abbrev rm_J3_checkIndex_8e157 : Room := { frames := 1, cells := 0, slots := 0, locals := 30 }
set_option maxHeartbeats 4000000 in
set_option maxRecDepth 100000 in
/-- a place that is there -/
theorem c_J3_checkIndex_8e157 {l : Launch} {G : va_G} {ty : Nat → ClassId} {b0 : Nat} {H : Heap} {j n : Nat} (hj : j < n) (hn : n ≤ 10) : xMet l yJ3_checkIndex_8e157 wsJ3_checkIndex_8e157 rm_J3_checkIndex_8e157 G ty b0 [.int (nI j), .int (nI n), .null] H (fun v H1 => H = H1 ∧ v = some (.int (nI j))) (fun _ _ => False) := by
  refine xbody (cc := cJ3_checkIndex_8e157) (maxL := 3) (ret := (some .int)) (C := RJ3) (lv := [(0, .int (nI j)), (1, .int (nI n)), (2, .null)]) (by decide) rfl rfl (Nat.le_of_ble_eq_true rfl) rfl ?_
  intro p e s m below meth c d0 hx hb hr hts hown hlocks hml hxt hnm0 hK hb0 hH0 hS hd0 ls hl
  refine lv_iload_n hx hb dJ3_checkIndex_8e157_0 rfl (lv_at hl 0 rfl) ?_
  refine lv_if_lt (tgt := 9) hx hb dJ3_checkIndex_8e157_1 (by decide) (fun h9 => absurd h9 (nI_pos (by omega))) (fun _ => ?_)
  refine lv_iload_n hx hb dJ3_checkIndex_8e157_4 rfl (lv_at hl 0 rfl) ?_
  refine lv_iload_n hx hb dJ3_checkIndex_8e157_5 rfl (lv_at hl 1 rfl) ?_
  refine xicmpN_lt (tgt := 16) hx hb (by omega) (by omega) dJ3_checkIndex_8e157_6 (by decide) (fun _ => ?_) (fun h9 => absurd h9 (by omega))
  refine lv_iload_n hx hb dJ3_checkIndex_8e157_16 rfl (lv_at hl 0 rfl) ?_
  exact xiret hd0 hx hb hr hlocks hS (Nat.le_of_ble_eq_true rfl) (Nat.le_of_ble_eq_true rfl) dJ3_checkIndex_8e157_17 ⟨rfl, rfl⟩
set_option maxRecDepth 20000 in
theorem ggJ15_checkIndex_7cf53_J3_checkIndex_8e157 : GoodIn wsJ15_checkIndex_7cf53 wsJ3_checkIndex_8e157 := goodIn_r _ [4] (by decide +kernel) (by decide +kernel)
set_option maxRecDepth 20000 in
theorem gJ15_checkIndex_7cf53_J3_checkIndex_8e157 : GoodIn wsJ15_checkIndex_7cf53 (va_wsS RJ15 105 yJ3_checkIndex_8e157 wsJ3_checkIndex_8e157) := goodIn_app (goodIn_of _ (by decide +kernel)) ggJ15_checkIndex_7cf53_J3_checkIndex_8e157
theorem dJ15_checkIndex_7cf53_0 : decode cJ15_checkIndex_7cf53 0 = .ok (.iload_n 0, 1) := by decide +kernel
theorem dJ15_checkIndex_7cf53_1 : decode cJ15_checkIndex_7cf53 1 = .ok (.iload_n 1, 1) := by decide +kernel
theorem dJ15_checkIndex_7cf53_2 : decode cJ15_checkIndex_7cf53 2 = .ok (.aconst_null, 1) := by decide +kernel
theorem dJ15_checkIndex_7cf53_3 : decode cJ15_checkIndex_7cf53 3 = .ok (.invokestatic 105, 3) := by decide +kernel
theorem dJ15_checkIndex_7cf53_6 : decode cJ15_checkIndex_7cf53 6 = .ok (.ireturn, 1) := by decide +kernel
abbrev rm_J15_checkIndex_7cf53 : Room := { frames := 2, cells := 0, slots := 0, locals := 60 }
set_option maxHeartbeats 4000000 in
set_option maxRecDepth 100000 in
/-- a place that is there -/
theorem c_J15_checkIndex_7cf53 {l : Launch} {G : va_G} {ty : Nat → ClassId} {b0 : Nat} {H : Heap} {j n : Nat} (hj : j < n) (hn : n ≤ 10) : xMet l yJ15_checkIndex_7cf53 wsJ15_checkIndex_7cf53 rm_J15_checkIndex_7cf53 G ty b0 [.int (nI j), .int (nI n)] H (fun v H1 => H = H1 ∧ v = some (.int (nI j))) (fun _ _ => False) := by
  refine xbody (cc := cJ15_checkIndex_7cf53) (maxL := 2) (ret := (some .int)) (C := RJ15) (lv := [(0, .int (nI j)), (1, .int (nI n))]) (by decide) rfl rfl (Nat.le_of_ble_eq_true rfl) rfl ?_
  intro p e s m below meth c d0 hx hb hr hts hown hlocks hml hxt hnm0 hK hb0 hH0 hS hd0 ls hl
  refine lv_iload_n hx hb dJ15_checkIndex_7cf53_0 rfl (lv_at hl 0 rfl) ?_
  refine lv_iload_n hx hb dJ15_checkIndex_7cf53_1 rfl (lv_at hl 1 rfl) ?_
  refine lv_null hx hb dJ15_checkIndex_7cf53_2 ?_
  have cw_1 := va_cwS (R := rm_J15_checkIndex_7cf53) (rm := rm_J3_checkIndex_8e157) 3 (hts d0) gJ15_checkIndex_7cf53_J3_checkIndex_8e157 rfl rfl rfl (by decide +kernel) ⟨Nat.le_of_ble_eq_true rfl, Nat.le_of_ble_eq_true rfl⟩
  refine xcall hd0 (xintoS (As := [.int (nI j), .int (nI n), .null]) (rest := []) ⟨hx, hb, hml, hown, hts _⟩ cw_1 rfl rfl hl.1 rfl (lv_room (Nat.le_of_ble_eq_true rfl)) dJ15_checkIndex_7cf53_3) (c_J3_checkIndex_8e157 (l := l) (G := G) (ty := ty) (b0 := b0) hj hn) (xoweB cw_1.1) hK hb0 hS (Nat.le_of_ble_eq_true rfl) (Nat.le_of_ble_eq_true rfl) (fun E_1 ce_1 q9_1 H_1 locs_1 d0 hd0 hp_1 hS hce_1 hcv_1 hcl_1 => ?_) (fun v_1 H_1 locs_1 d0 hd0 hp_1 hS => ?_)
  · exact hp_1.elim
  · obtain ⟨rfl, rfl⟩ := hp_1
    show W p l e _ (s.setDrawn _) m _ below meth c _ _ _ _ _ (F0 m 6 ls [.int (nI j)])
    exact xiret hd0 hx hb hr hlocks hS (Nat.le_of_ble_eq_true rfl) (Nat.le_of_ble_eq_true rfl) dJ15_checkIndex_7cf53_6 ⟨rfl, rfl⟩
set_option maxRecDepth 20000 in
theorem ggJx4a65c_get_915e3_J15_checkIndex_7cf53 : GoodIn wsJx4a65c_get_915e3 wsJ15_checkIndex_7cf53 := goodIn_r _ [5, 6, 7, 8, 9] (by decide +kernel) (by decide +kernel)
set_option maxRecDepth 20000 in
theorem gJx4a65c_get_915e3_J15_checkIndex_7cf53 : GoodIn wsJx4a65c_get_915e3 (va_wsS RJx4a65c 118 yJ15_checkIndex_7cf53 wsJ15_checkIndex_7cf53) := goodIn_app (goodIn_of _ (by decide +kernel)) ggJx4a65c_get_915e3_J15_checkIndex_7cf53
set_option maxRecDepth 20000 in
theorem ggJx4a65c_get_915e3_Jx4a65c_elementData_915e3 : GoodIn wsJx4a65c_get_915e3 wsJx4a65c_elementData_915e3 := goodIn_r _ [14, 15, 16, 17, 18] (by decide +kernel) (by decide +kernel)
set_option maxRecDepth 20000 in
theorem gJx4a65c_get_915e3_Jx4a65c_elementData_915e3 : GoodIn wsJx4a65c_get_915e3 (wsV RJx4a65c 123 RJx4a65c yJx4a65c_elementData_915e3 wsJx4a65c_elementData_915e3) := goodIn_app (goodIn_of _ (by decide +kernel)) ggJx4a65c_get_915e3_Jx4a65c_elementData_915e3
theorem dJx4a65c_get_915e3_0 : decode cJx4a65c_get_915e3 0 = .ok (.iload_n 1, 1) := by decide +kernel
theorem dJx4a65c_get_915e3_1 : decode cJx4a65c_get_915e3 1 = .ok (.aload_n 0, 1) := by decide +kernel
theorem dJx4a65c_get_915e3_2 : decode cJx4a65c_get_915e3 2 = .ok (.getfield 48, 3) := by decide +kernel
theorem dJx4a65c_get_915e3_5 : decode cJx4a65c_get_915e3 5 = .ok (.invokestatic 118, 3) := by decide +kernel
theorem dJx4a65c_get_915e3_8 : decode cJx4a65c_get_915e3 8 = .ok (.pop, 1) := by decide +kernel
theorem dJx4a65c_get_915e3_9 : decode cJx4a65c_get_915e3 9 = .ok (.aload_n 0, 1) := by decide +kernel
theorem dJx4a65c_get_915e3_10 : decode cJx4a65c_get_915e3 10 = .ok (.iload_n 1, 1) := by decide +kernel
theorem dJx4a65c_get_915e3_11 : decode cJx4a65c_get_915e3 11 = .ok (.invokevirtual 123, 3) := by decide +kernel
theorem dJx4a65c_get_915e3_14 : decode cJx4a65c_get_915e3 14 = .ok (.areturn, 1) := by decide +kernel
abbrev rm_Jx4a65c_get_915e3 : Room := { frames := 3, cells := 0, slots := 0, locals := 90 }
theorem hw_Jx4a65c_get_915e3_1 : (Cond.fieldLink RJx4a65c 48 "java/util/ArrayList" "size" "I") ∈ wsJx4a65c_get_915e3 := List.mem_of_getElem? (i := 1) rfl
theorem in_Jx4a65c_get_915e3_Jx4a65c : ∀ w ∈ wsJx4a65c0, w ∈ wsJx4a65c_get_915e3 := by decide +kernel
set_option maxHeartbeats 4000000 in
set_option maxRecDepth 100000 in
/-- one of them -/
theorem c_Jx4a65c_get_915e3 {l : Launch} {G : va_G} {ty : Nat → ClassId} {b0 : Nat} {H : Heap} {q0 d0a n j q1 : Nat} {mc : Int32} {f : Nat → Option Nat} (hc0 : xc G q0 (.inr (0, [.int mc, .ref d0a, .int (nI n)])) H) (hc1 : xc G d0a (.inl (ty 7, 10, .inr (.inr (.inr (.inr f))))) H) (hj : j < n) (hn : n ≤ 10) (hf : f j = some q1) : xMet l yJx4a65c_get_915e3 wsJx4a65c_get_915e3 rm_Jx4a65c_get_915e3 G ty b0 [.ref q0, .int (nI j)] H (fun v H1 => H = H1 ∧ v = some (.ref q1)) (fun _ _ => False) := by
  refine xbody (cc := cJx4a65c_get_915e3) (maxL := 2) (ret := (some (.object "java/lang/Object"))) (C := RJx4a65c) (lv := [(0, .ref q0), (1, .int (nI j))]) (by decide) rfl rfl (Nat.le_of_ble_eq_true rfl) rfl ?_
  intro p e s m below meth c d0 hx hb hr hts hown hlocks hml hxt hnm0 hK hb0 hH0 hS hd0 ls hl
  refine lv_iload_n hx hb dJx4a65c_get_915e3_0 rfl (lv_at hl 1 rfl) ?_
  refine lv_aload_n hx hb dJx4a65c_get_915e3_1 rfl (lv_at hl 0 rfl) ?_
  refine va_get (D := G) (cl := vwCl) (ci := 0) (v := .int (nI n)) (C := RJx4a65c) (T := TJx4a65c) (N := 3) hx hb (hts d0) in_Jx4a65c_get_915e3_Jx4a65c hown hK.1 (x1 hc0) 0 rfl rfl 2 (by decide) (hts d0 _ hw_Jx4a65c_get_915e3_1) (fun _ h9 => h9) rfl dJx4a65c_get_915e3_2 ?_
  have cw_1 := va_cwS (R := rm_Jx4a65c_get_915e3) (rm := rm_J15_checkIndex_7cf53) 2 (hts d0) gJx4a65c_get_915e3_J15_checkIndex_7cf53 rfl rfl rfl (by decide +kernel) ⟨Nat.le_of_ble_eq_true rfl, Nat.le_of_ble_eq_true rfl⟩
  refine xcall hd0 (xintoS (As := [.int (nI j), .int (nI n)]) (rest := []) ⟨hx, hb, hml, hown, hts _⟩ cw_1 rfl rfl hl.1 rfl (lv_room (Nat.le_of_ble_eq_true rfl)) dJx4a65c_get_915e3_5) (c_J15_checkIndex_7cf53 (l := l) (G := G) (ty := ty) (b0 := b0) hj hn) (xoweB cw_1.1) hK hb0 hS (Nat.le_of_ble_eq_true rfl) (Nat.le_of_ble_eq_true rfl) (fun E_1 ce_1 q9_1 H_1 locs_1 d0 hd0 hp_1 hS hce_1 hcv_1 hcl_1 => ?_) (fun v_1 H_1 locs_1 d0 hd0 hp_1 hS => ?_)
  · exact hp_1.elim
  · obtain ⟨rfl, rfl⟩ := hp_1
    show W p l e _ (s.setDrawn _) m _ below meth c _ _ _ _ _ (F0 m 8 ls [.int (nI j)])
    refine lv_pop hx hb dJx4a65c_get_915e3_8 rfl ?_
    refine lv_aload_n hx hb dJx4a65c_get_915e3_9 rfl (lv_at hl 0 rfl) ?_
    refine lv_iload_n hx hb dJx4a65c_get_915e3_10 rfl (lv_at hl 1 rfl) ?_
    have cw_2 := cwV (R := rm_Jx4a65c_get_915e3) (rm := rm_Jx4a65c_elementData_915e3) 1 (hts d0) gJx4a65c_get_915e3_Jx4a65c_elementData_915e3 rfl rfl rfl (by decide +kernel) ⟨Nat.le_of_ble_eq_true rfl, Nat.le_of_ble_eq_true rfl⟩
    refine xcall hd0 (xintoV (b := q0) (As := [.int (nI j)]) (rest := []) ⟨hx, hb, hml, hown, hts _⟩ cw_2 (va_recv hK.1 (x1 hc0) (ci := 0) (q0 := 0) rfl rfl) rfl rfl hl.1 rfl (lv_room (Nat.le_of_ble_eq_true rfl)) dJx4a65c_get_915e3_11) (c_Jx4a65c_elementData_915e3 (l := l) (G := G) (ty := ty) (b0 := b0) hc0 hc1 hj hn hf) (xoweB cw_2.1) hK hb0 hS (Nat.le_of_ble_eq_true rfl) (Nat.le_of_ble_eq_true rfl) (fun E_2 ce_2 q9_2 H_2 locs_2 d0 hd0 hp_2 hS hce_2 hcv_2 hcl_2 => ?_) (fun v_2 H_2 locs_2 d0 hd0 hp_2 hS => ?_)
    · exact hp_2.elim
    · obtain ⟨rfl, rfl⟩ := hp_2
      show W p l e _ (s.setDrawn _) m _ below meth c _ _ _ _ _ (F0 m 14 ls [.ref q1])
      exact xaret (Or.inl ⟨_, rfl⟩) (Or.inr ⟨_, rfl⟩) hd0 hx hb hr hlocks hS (Nat.le_of_ble_eq_true rfl) (Nat.le_of_ble_eq_true rfl) dJx4a65c_get_915e3_14 ⟨rfl, rfl⟩
set_option maxRecDepth 20000 in
theorem ggJx4a65c_grow_92f84_J8_newLength_cabcc : GoodIn wsJx4a65c_grow_92f84 wsJ8_newLength_cabcc := goodIn_r _ [11, 12, 4, 5, 6, 13, 14, 15, 10, 16] (by decide +kernel) (by decide +kernel)
set_option maxRecDepth 20000 in
theorem gJx4a65c_grow_92f84_J8_newLength_cabcc : GoodIn wsJx4a65c_grow_92f84 (va_wsS RJx4a65c 73 yJ8_newLength_cabcc wsJ8_newLength_cabcc) := goodIn_app (goodIn_of _ (by decide +kernel)) ggJx4a65c_grow_92f84_J8_newLength_cabcc
set_option maxRecDepth 20000 in
theorem ggJx4a65c_grow_92f84_J7_copyOf_1904c : GoodIn wsJx4a65c_grow_92f84 wsJ7_copyOf_1904c := goodIn_r _ [20, 21, 22, 23, 24, 25, 26, 19, 27, 28, 29, 30, 31, 5, 32, 33, 34, 35, 36] (by decide +kernel) (by decide +kernel)
set_option maxRecDepth 20000 in
theorem gJx4a65c_grow_92f84_J7_copyOf_1904c : GoodIn wsJx4a65c_grow_92f84 (va_wsS RJx4a65c 66 yJ7_copyOf_1904c wsJ7_copyOf_1904c) := goodIn_app (goodIn_of _ (by decide +kernel)) ggJx4a65c_grow_92f84_J7_copyOf_1904c
theorem dJx4a65c_grow_92f84_0 : decode cJx4a65c_grow_92f84 0 = .ok (.aload_n 0, 1) := by decide +kernel
theorem dJx4a65c_grow_92f84_1 : decode cJx4a65c_grow_92f84 1 = .ok (.getfield 9, 3) := by decide +kernel
theorem dJx4a65c_grow_92f84_4 : decode cJx4a65c_grow_92f84 4 = .ok (.arraylength, 1) := by decide +kernel
theorem dJx4a65c_grow_92f84_5 : decode cJx4a65c_grow_92f84 5 = .ok (.istore_n 2, 1) := by decide +kernel
theorem dJx4a65c_grow_92f84_6 : decode cJx4a65c_grow_92f84 6 = .ok (.iload_n 2, 1) := by decide +kernel
theorem dJx4a65c_grow_92f84_7 : decode cJx4a65c_grow_92f84 7 = .ok (.ifCond .gt 13, 3) := by decide +kernel
theorem dJx4a65c_grow_92f84_10 : decode cJx4a65c_grow_92f84 10 = .ok (.aload_n 0, 1) := by decide +kernel
theorem dJx4a65c_grow_92f84_11 : decode cJx4a65c_grow_92f84 11 = .ok (.getfield 9, 3) := by decide +kernel
theorem dJx4a65c_grow_92f84_14 : decode cJx4a65c_grow_92f84 14 = .ok (.getstatic 39, 3) := by decide +kernel
theorem dJx4a65c_grow_92f84_17 : decode cJx4a65c_grow_92f84 17 = .ok (.if_acmp .eq 28, 3) := by decide +kernel
theorem dJx4a65c_grow_92f84_20 : decode cJx4a65c_grow_92f84 20 = .ok (.iload_n 2, 1) := by decide +kernel
theorem dJx4a65c_grow_92f84_21 : decode cJx4a65c_grow_92f84 21 = .ok (.iload_n 1, 1) := by decide +kernel
theorem dJx4a65c_grow_92f84_22 : decode cJx4a65c_grow_92f84 22 = .ok (.iload_n 2, 1) := by decide +kernel
theorem dJx4a65c_grow_92f84_23 : decode cJx4a65c_grow_92f84 23 = .ok (.isub, 1) := by decide +kernel
theorem dJx4a65c_grow_92f84_24 : decode cJx4a65c_grow_92f84 24 = .ok (.iload_n 2, 1) := by decide +kernel
theorem dJx4a65c_grow_92f84_25 : decode cJx4a65c_grow_92f84 25 = .ok (.iconst 1, 1) := by decide +kernel
theorem dJx4a65c_grow_92f84_26 : decode cJx4a65c_grow_92f84 26 = .ok (.ishr, 1) := by decide +kernel
theorem dJx4a65c_grow_92f84_27 : decode cJx4a65c_grow_92f84 27 = .ok (.invokestatic 73, 3) := by decide +kernel
theorem dJx4a65c_grow_92f84_30 : decode cJx4a65c_grow_92f84 30 = .ok (.istore_n 3, 1) := by decide +kernel
theorem dJx4a65c_grow_92f84_31 : decode cJx4a65c_grow_92f84 31 = .ok (.aload_n 0, 1) := by decide +kernel
theorem dJx4a65c_grow_92f84_32 : decode cJx4a65c_grow_92f84 32 = .ok (.aload_n 0, 1) := by decide +kernel
theorem dJx4a65c_grow_92f84_33 : decode cJx4a65c_grow_92f84 33 = .ok (.getfield 9, 3) := by decide +kernel
theorem dJx4a65c_grow_92f84_36 : decode cJx4a65c_grow_92f84 36 = .ok (.iload_n 3, 1) := by decide +kernel
theorem dJx4a65c_grow_92f84_37 : decode cJx4a65c_grow_92f84 37 = .ok (.invokestatic 66, 3) := by decide +kernel
theorem dJx4a65c_grow_92f84_40 : decode cJx4a65c_grow_92f84 40 = .ok (.dup_x1, 1) := by decide +kernel
theorem dJx4a65c_grow_92f84_41 : decode cJx4a65c_grow_92f84 41 = .ok (.putfield 9, 3) := by decide +kernel
theorem dJx4a65c_grow_92f84_44 : decode cJx4a65c_grow_92f84 44 = .ok (.areturn, 1) := by decide +kernel
theorem dJx4a65c_grow_92f84_45 : decode cJx4a65c_grow_92f84 45 = .ok (.aload_n 0, 1) := by decide +kernel
theorem dJx4a65c_grow_92f84_46 : decode cJx4a65c_grow_92f84 46 = .ok (.bipush 10, 2) := by decide +kernel
theorem dJx4a65c_grow_92f84_48 : decode cJx4a65c_grow_92f84 48 = .ok (.iload_n 1, 1) := by decide +kernel
theorem dJx4a65c_grow_92f84_49 : decode cJx4a65c_grow_92f84 49 = .ok (.invokestatic 79, 3) := by decide +kernel
theorem dJx4a65c_grow_92f84_52 : decode cJx4a65c_grow_92f84 52 = .ok (.anewarray 7, 3) := by decide +kernel
theorem dJx4a65c_grow_92f84_55 : decode cJx4a65c_grow_92f84 55 = .ok (.dup_x1, 1) := by decide +kernel
theorem dJx4a65c_grow_92f84_56 : decode cJx4a65c_grow_92f84 56 = .ok (.putfield 9, 3) := by decide +kernel
theorem dJx4a65c_grow_92f84_59 : decode cJx4a65c_grow_92f84 59 = .ok (.areturn, 1) := by decide +kernel
abbrev rm_Jx4a65c_grow_92f84 : Room := { frames := 2, cells := 1, slots := 10, locals := 60 }
theorem hw_Jx4a65c_grow_92f84_1 : (Cond.fieldLink RJx4a65c 9 "java/util/ArrayList" "elementData" "[Ljava/lang/Object;") ∈ wsJx4a65c_grow_92f84 := List.mem_of_getElem? (i := 1) rfl
theorem hw_Jx4a65c_grow_92f84_2 : (Cond.fieldLink RJx4a65c 39 "java/util/ArrayList" "DEFAULTCAPACITY_EMPTY_ELEMENTDATA" "[Ljava/lang/Object;") ∈ wsJx4a65c_grow_92f84 := List.mem_of_getElem? (i := 2) rfl
theorem hw_Jx4a65c_grow_92f84_3 : (Cond.methodLink RJx4a65c 79 Lib.Math.max.name) ∈ wsJx4a65c_grow_92f84 := List.mem_of_getElem? (i := 3) rfl
theorem hw_Jx4a65c_grow_92f84_4 : (Cond.static Lib.Math.max.name) ∈ wsJx4a65c_grow_92f84 := List.mem_of_getElem? (i := 4) rfl
theorem hw_Jx4a65c_grow_92f84_5 : (Cond.initialized "java/lang/Math") ∈ wsJx4a65c_grow_92f84 := List.mem_of_getElem? (i := 5) rfl
theorem hw_Jx4a65c_grow_92f84_6 : (Cond.code Lib.Math.max.name Lib.Math.max.code 2 (some .int)) ∈ wsJx4a65c_grow_92f84 := List.mem_of_getElem? (i := 6) rfl
theorem hw_Jx4a65c_grow_92f84_7 : (Cond.classLink RJx4a65c 7 "java/lang/Object") ∈ wsJx4a65c_grow_92f84 := List.mem_of_getElem? (i := 7) rfl
theorem in_Jx4a65c_grow_92f84_Jx4a65c : ∀ w ∈ wsJx4a65c0, w ∈ wsJx4a65c_grow_92f84 := by decide +kernel
set_option maxHeartbeats 4000000 in
set_option maxRecDepth 100000 in
/-- the first ten -/
theorem c_Jx4a65c_grow_92f84 {l : Launch} {G : va_G} {ty : Nat → ClassId} {b0 : Nat} {H : Heap} {q0 : Nat} {mc : Int32} (hq0 : b0 ≤ q0) (hc0 : xc G q0 (.inr (0, [.int mc, .ref (ty 8), .int (nI 0)])) H) : xMet l yJx4a65c_grow_92f84 wsJx4a65c_grow_92f84 rm_Jx4a65c_grow_92f84 G ty b0 [.ref q0, .int (nI 1)] H (fun v H1 => v = some (.ref H.size) ∧ xc G q0 (.inr (0, [.int mc, .ref H.size, .int (nI 0)])) H1 ∧ xc G H.size (.inl (ty 7, 10, .inr (.inr (.inr (.inr (fun _ => none)))))) H1 ∧ H1.size = H.size + 1 ∧ xOld q0 H H1) (fun _ _ => False) := by
  refine xbody (cc := cJx4a65c_grow_92f84) (maxL := 4) (ret := (some (.array (.object "java/lang/Object")))) (C := RJx4a65c) (lv := [(0, .ref q0), (1, .int (nI 1))]) (by decide) rfl rfl (Nat.le_of_ble_eq_true rfl) rfl ?_
  intro p e s m below meth c d0 hx hb hr hts hown hlocks hml hxt hnm0 hK hb0 hH0 hS hd0 ls hl
  have hbH : b0 ≤ H.size := by rw [← hH0]; exact hb0
  have hlq : q0 < H.size := hc0.lt
  refine lv_aload_n hx hb dJx4a65c_grow_92f84_0 rfl (lv_at hl 0 rfl) ?_
  refine va_get (D := G) (cl := vwCl) (ci := 0) (v := .ref (ty 8)) (C := RJx4a65c) (T := TJx4a65c) (N := 3) hx hb (hts d0) in_Jx4a65c_grow_92f84_Jx4a65c hown hK.1 (x1 hc0) 0 rfl rfl 1 (by decide) (hts d0 _ hw_Jx4a65c_grow_92f84_1) (fun _ h9 => h9) rfl dJx4a65c_grow_92f84_1 ?_
  refine va_tlen (s := s.setDrawn d0) hx hb (va_T.moved (u := s) (Vm.Alike.refl _) (xK.nil hK)) hS rfl dJx4a65c_grow_92f84_4 ?_
  refine lv_istore_n (lv' := [(2, .int (nI 0)), (0, .ref q0), (1, .int (nI 1))]) hx hb dJx4a65c_grow_92f84_5 rfl hl (by decide) rfl (fun ls hl => ?_)
  refine lv_iload_n hx hb dJx4a65c_grow_92f84_6 rfl (lv_at hl 0 rfl) ?_
  refine lv_if_gt (tgt := 20) hx hb dJx4a65c_grow_92f84_7 (by decide) (fun h9 => (show False by revert h9; decide).elim) (fun _ => ?_)
  refine lv_aload_n hx hb dJx4a65c_grow_92f84_10 rfl (lv_at hl 1 rfl) ?_
  refine va_get (D := G) (cl := vwCl) (ci := 0) (v := .ref (ty 8)) (C := RJx4a65c) (T := TJx4a65c) (N := 3) hx hb (hts d0) in_Jx4a65c_grow_92f84_Jx4a65c hown hK.1 (x1 hc0) 0 rfl rfl 1 (by decide) (hts d0 _ hw_Jx4a65c_grow_92f84_1) (fun _ h9 => h9) rfl dJx4a65c_grow_92f84_11 ?_
  refine xgets hx hb hK hS hown (hts d0 _ hw_Jx4a65c_grow_92f84_2) dJx4a65c_grow_92f84_14 ?_
  refine lv_acmp_eq (s := s.setDrawn d0) (rx := some (ty 8)) (ry := some (ty 8)) (tgt := 45) hx hb dJx4a65c_grow_92f84_17 (by decide) (fun _ => ?_) (fun h9 => absurd rfl h9)
  refine lv_aload_n hx hb dJx4a65c_grow_92f84_45 rfl (lv_at hl 1 rfl) ?_
  refine lv_bipush (v := nI 10) hx hb dJx4a65c_grow_92f84_46 (by decide) ?_
  refine lv_iload_n hx hb dJx4a65c_grow_92f84_48 rfl (lv_at hl 2 rfl) ?_
  refine va_mmax (s := s.setDrawn d0) hx hb (hml.trans hl.1.symm) hown (hts d0 _ hw_Jx4a65c_grow_92f84_3) (hts d0 _ hw_Jx4a65c_grow_92f84_4) (hts d0 _ hw_Jx4a65c_grow_92f84_5) (hts d0 _ hw_Jx4a65c_grow_92f84_6) (Nat.le_of_ble_eq_true rfl) (Nat.le_of_ble_eq_true rfl) (Nat.le_of_ble_eq_true rfl) (Nat.le_of_ble_eq_true rfl) dJx4a65c_grow_92f84_49 ?_
  rw [if_neg (show ¬ nI 10 < nI 1 by decide)]
  refine xnewq (G := G) (s := s.setDrawn d0) (C := "java/lang/Object") hx hb hown (hts d0 _ hw_Jx4a65c_grow_92f84_7) (va_AO.moved (Vm.Alike.refl _) (hK.2.2.2.2.2.2.2.2.2.1 "java/lang/Object" (by decide))) hK.1 7 rfl hS (by decide) (Nat.le_of_ble_eq_true rfl) (Nat.le_of_ble_eq_true rfl) dJx4a65c_grow_92f84_52 (fun q_2 H_2 hg_2 hS => ?_)
  have e_2 : q_2 = H.size + 0 := hg_2.2.1.symm.trans rfl
  subst e_2
  have hz_2 : H_2.size = H.size + 1 := hg_2.2.2.1
  have hc_q0_2 : xc G q0 (.inr (0, [.int (mc), .ref (ty 8), .int (nI 0)])) H_2 := hg_2.keep hc0
  have hfr_2 : xOld q0 H H_2 := xOld.grow xOld.rf hg_2
  refine lv_dup_x1 hx hb dJx4a65c_grow_92f84_55 rfl rfl ?_
  refine xput (G := G) (ci := 0) (v := .ref (H.size + 0)) (ty := (.array (.object "java/lang/Object"))) (C := RJx4a65c) (T := TJx4a65c) (N := 3) hx hb (hts d0) in_Jx4a65c_grow_92f84_Jx4a65c tyJx4a65c tyJx4a65c_ok nmJx4a65c hown hK.1 hc_q0_2 hS hq0 rfl 1 (by decide) (hts d0 _ hw_Jx4a65c_grow_92f84_1) (fun _ h9 => h9) rfl (by decide +kernel) rfl rfl (Nat.le_of_ble_eq_true rfl) dJx4a65c_grow_92f84_56 (fun H_3 locs_3 hs_3 hS => ?_)
  have hc_3 : xc G q0 (.inr (0, [.int (mc), .ref (H.size + 0), .int (nI 0)])) H_3 := hs_3.1
  have hc_Hsize0_3 : xc G (H.size + 0) (.inl (ty 7, 10, .inr (.inr (.inr (.inr (fun _ => none)))))) H_3 := hg_2.1.kept (hs_3.2.2 _ (Nat.ne_of_gt hlq))
  have hz_3 : H_3.size = H.size + 1 := hs_3.2.1.trans hz_2
  have hfr_3 : xOld q0 H H_3 := xOld.put hfr_2 hs_3 (Or.inl rfl)
  exact xaret (Or.inr ⟨_, rfl⟩) (Or.inr ⟨_, rfl⟩) hd0 hx hb hr hlocks hS (Nat.le_of_ble_eq_true rfl) (Nat.le_of_ble_eq_true rfl) dJx4a65c_grow_92f84_59 ⟨rfl, hc_3, hc_Hsize0_3, hz_3, hfr_3⟩
set_option maxRecDepth 20000 in
theorem ggJx4a65c_grow_d5877_Jx4a65c_grow_92f84 : GoodIn wsJx4a65c_grow_d5877 wsJx4a65c_grow_92f84 := goodIn_r _ [6, 7, 8, 9, 10, 11, 12, 13, 14, 15, 16, 17, 18, 19, 20, 21, 22, 23, 24, 25, 26, 27, 28, 29, 30, 31, 32, 33, 34, 35, 36, 37, 38, 39, 40, 41, 42, 43, 44, 45] (by decide +kernel) (by decide +kernel)
set_option maxRecDepth 20000 in
theorem gJx4a65c_grow_d5877_Jx4a65c_grow_92f84 : GoodIn wsJx4a65c_grow_d5877 (wsV RJx4a65c 69 RJx4a65c yJx4a65c_grow_92f84 wsJx4a65c_grow_92f84) := goodIn_app (goodIn_of _ (by decide +kernel)) ggJx4a65c_grow_d5877_Jx4a65c_grow_92f84
theorem dJx4a65c_grow_d5877_0 : decode cJx4a65c_grow_d5877 0 = .ok (.aload_n 0, 1) := by decide +kernel
theorem dJx4a65c_grow_d5877_1 : decode cJx4a65c_grow_d5877 1 = .ok (.aload_n 0, 1) := by decide +kernel
theorem dJx4a65c_grow_d5877_2 : decode cJx4a65c_grow_d5877 2 = .ok (.getfield 48, 3) := by decide +kernel
theorem dJx4a65c_grow_d5877_5 : decode cJx4a65c_grow_d5877 5 = .ok (.iconst 1, 1) := by decide +kernel
theorem dJx4a65c_grow_d5877_6 : decode cJx4a65c_grow_d5877 6 = .ok (.iadd, 1) := by decide +kernel
theorem dJx4a65c_grow_d5877_7 : decode cJx4a65c_grow_d5877 7 = .ok (.invokevirtual 69, 3) := by decide +kernel
theorem dJx4a65c_grow_d5877_10 : decode cJx4a65c_grow_d5877 10 = .ok (.areturn, 1) := by decide +kernel
abbrev rm_Jx4a65c_grow_d5877 : Room := { frames := 3, cells := 1, slots := 10, locals := 90 }
theorem hw_Jx4a65c_grow_d5877_1 : (Cond.fieldLink RJx4a65c 48 "java/util/ArrayList" "size" "I") ∈ wsJx4a65c_grow_d5877 := List.mem_of_getElem? (i := 1) rfl
theorem in_Jx4a65c_grow_d5877_Jx4a65c : ∀ w ∈ wsJx4a65c0, w ∈ wsJx4a65c_grow_d5877 := by decide +kernel
set_option maxHeartbeats 4000000 in
set_option maxRecDepth 100000 in
/-- the first ten -/
theorem c_Jx4a65c_grow_d5877 {l : Launch} {G : va_G} {ty : Nat → ClassId} {b0 : Nat} {H : Heap} {q0 : Nat} {mc : Int32} (hq0 : b0 ≤ q0) (hc0 : xc G q0 (.inr (0, [.int mc, .ref (ty 8), .int (nI 0)])) H) : xMet l yJx4a65c_grow_d5877 wsJx4a65c_grow_d5877 rm_Jx4a65c_grow_d5877 G ty b0 [.ref q0] H (fun v H1 => v = some (.ref H.size) ∧ xc G q0 (.inr (0, [.int mc, .ref H.size, .int (nI 0)])) H1 ∧ xc G H.size (.inl (ty 7, 10, .inr (.inr (.inr (.inr (fun _ => none)))))) H1 ∧ H1.size = H.size + 1 ∧ xOld q0 H H1) (fun _ _ => False) := by
  refine xbody (cc := cJx4a65c_grow_d5877) (maxL := 1) (ret := (some (.array (.object "java/lang/Object")))) (C := RJx4a65c) (lv := [(0, .ref q0)]) (by decide) rfl rfl (Nat.le_of_ble_eq_true rfl) rfl ?_
  intro p e s m below meth c d0 hx hb hr hts hown hlocks hml hxt hnm0 hK hb0 hH0 hS hd0 ls hl
  refine lv_aload_n hx hb dJx4a65c_grow_d5877_0 rfl (lv_at hl 0 rfl) ?_
  refine lv_aload_n hx hb dJx4a65c_grow_d5877_1 rfl (lv_at hl 0 rfl) ?_
  refine va_get (D := G) (cl := vwCl) (ci := 0) (v := .int (nI 0)) (C := RJx4a65c) (T := TJx4a65c) (N := 3) hx hb (hts d0) in_Jx4a65c_grow_d5877_Jx4a65c hown hK.1 (x1 hc0) 0 rfl rfl 2 (by decide) (hts d0 _ hw_Jx4a65c_grow_d5877_1) (fun _ h9 => h9) rfl dJx4a65c_grow_d5877_2 ?_
  refine lv_iconst (v := nI 1) hx hb dJx4a65c_grow_d5877_5 (by decide) ?_
  refine xiaddN hx hb dJx4a65c_grow_d5877_6 ?_
  have cw_1 := cwV (R := rm_Jx4a65c_grow_d5877) (rm := rm_Jx4a65c_grow_92f84) 1 (hts d0) gJx4a65c_grow_d5877_Jx4a65c_grow_92f84 rfl rfl rfl (by decide +kernel) ⟨Nat.le_of_ble_eq_true rfl, Nat.le_of_ble_eq_true rfl⟩
  refine xcall hd0 (xintoV (b := q0) (As := [.int (nI (0 + 1))]) (rest := []) ⟨hx, hb, hml, hown, hts _⟩ cw_1 (va_recv hK.1 (x1 hc0) (ci := 0) (q0 := 0) rfl rfl) rfl rfl hl.1 rfl (lv_room (Nat.le_of_ble_eq_true rfl)) dJx4a65c_grow_d5877_7) (c_Jx4a65c_grow_92f84 (l := l) (G := G) (ty := ty) (b0 := b0) hq0 hc0) (xoweB cw_1.1) hK hb0 hS (Nat.le_of_ble_eq_true rfl) (Nat.le_of_ble_eq_true rfl) (fun E_1 ce_1 q9_1 H_1 locs_1 d0 hd0 hp_1 hS hce_1 hcv_1 hcl_1 => ?_) (fun v_1 H_1 locs_1 d0 hd0 hp_1 hS => ?_)
  · exact hp_1.elim
  · obtain ⟨rfl, hc0_1, hc1_1, hz_1, hfr_1⟩ := hp_1
    show W p l e _ (s.setDrawn _) m _ below meth c _ _ _ _ _ (F0 m 10 ls [.ref H.size])
    exact xaret (Or.inr ⟨_, rfl⟩) (Or.inr ⟨_, rfl⟩) hd0 hx hb hr hlocks hS (Nat.le_of_ble_eq_true rfl) (Nat.le_of_ble_eq_true rfl) dJx4a65c_grow_d5877_10 ⟨rfl, hc0_1, hc1_1, hz_1, hfr_1⟩
set_option maxRecDepth 20000 in
theorem ggJx4a65c_add_72be8_Jx4a65c_grow_d5877 : GoodIn wsJx4a65c_add_72be8 wsJx4a65c_grow_d5877 := goodIn_r _ [6, 1, 7, 8, 9, 5, 10, 11, 12, 13, 14, 15, 16, 17, 18, 19, 20, 21, 22, 23, 24, 25, 26, 27, 28, 29, 30, 31, 32, 33, 34, 35, 36, 37, 38, 39, 40, 41, 42, 43, 44, 45, 46, 47, 48, 49] (by decide +kernel) (by decide +kernel)
set_option maxRecDepth 20000 in
theorem gJx4a65c_add_72be8_Jx4a65c_grow_d5877 : GoodIn wsJx4a65c_add_72be8 (wsV RJx4a65c 129 RJx4a65c yJx4a65c_grow_d5877 wsJx4a65c_grow_d5877) := goodIn_app (goodIn_of _ (by decide +kernel)) ggJx4a65c_add_72be8_Jx4a65c_grow_d5877
theorem dJx4a65c_add_72be8_0 : decode cJx4a65c_add_72be8 0 = .ok (.iload_n 3, 1) := by decide +kernel
theorem dJx4a65c_add_72be8_1 : decode cJx4a65c_add_72be8 1 = .ok (.aload_n 2, 1) := by decide +kernel
theorem dJx4a65c_add_72be8_2 : decode cJx4a65c_add_72be8 2 = .ok (.arraylength, 1) := by decide +kernel
theorem dJx4a65c_add_72be8_3 : decode cJx4a65c_add_72be8 3 = .ok (.if_icmp .ne 8, 3) := by decide +kernel
theorem dJx4a65c_add_72be8_6 : decode cJx4a65c_add_72be8 6 = .ok (.aload_n 0, 1) := by decide +kernel
theorem dJx4a65c_add_72be8_7 : decode cJx4a65c_add_72be8 7 = .ok (.invokevirtual 129, 3) := by decide +kernel
theorem dJx4a65c_add_72be8_10 : decode cJx4a65c_add_72be8 10 = .ok (.astore_n 2, 1) := by decide +kernel
theorem dJx4a65c_add_72be8_11 : decode cJx4a65c_add_72be8 11 = .ok (.aload_n 2, 1) := by decide +kernel
theorem dJx4a65c_add_72be8_12 : decode cJx4a65c_add_72be8 12 = .ok (.iload_n 3, 1) := by decide +kernel
theorem dJx4a65c_add_72be8_13 : decode cJx4a65c_add_72be8 13 = .ok (.aload_n 1, 1) := by decide +kernel
theorem dJx4a65c_add_72be8_14 : decode cJx4a65c_add_72be8 14 = .ok (.aastore, 1) := by decide +kernel
theorem dJx4a65c_add_72be8_15 : decode cJx4a65c_add_72be8 15 = .ok (.aload_n 0, 1) := by decide +kernel
theorem dJx4a65c_add_72be8_16 : decode cJx4a65c_add_72be8 16 = .ok (.iload_n 3, 1) := by decide +kernel
theorem dJx4a65c_add_72be8_17 : decode cJx4a65c_add_72be8 17 = .ok (.iconst 1, 1) := by decide +kernel
theorem dJx4a65c_add_72be8_18 : decode cJx4a65c_add_72be8 18 = .ok (.iadd, 1) := by decide +kernel
theorem dJx4a65c_add_72be8_19 : decode cJx4a65c_add_72be8 19 = .ok (.putfield 48, 3) := by decide +kernel
theorem dJx4a65c_add_72be8_22 : decode cJx4a65c_add_72be8 22 = .ok (.return_, 1) := by decide +kernel
abbrev rm_Jx4a65c_add_72be8 : Room := { frames := 4, cells := 1, slots := 10, locals := 130 }
theorem hw_Jx4a65c_add_72be8_1 : (Cond.fieldLink RJx4a65c 48 "java/util/ArrayList" "size" "I") ∈ wsJx4a65c_add_72be8 := List.mem_of_getElem? (i := 1) rfl
theorem in_Jx4a65c_add_72be8_Jx4a65c : ∀ w ∈ wsJx4a65c0, w ∈ wsJx4a65c_add_72be8 := by decide +kernel
set_option maxHeartbeats 4000000 in
set_option maxRecDepth 100000 in
/-- the first is added -/
theorem c_Jx4a65c_add3A {l : Launch} {G : va_G} {ty : Nat → ClassId} {b0 : Nat} {H : Heap} {q0 : Nat} {mc : Int32} (hq0 : b0 ≤ q0) (hc0 : xc G q0 (.inr (0, [.int mc, .ref (ty 8), .int (nI 0)])) H) {q1 ci : Nat} {vs : List Value} (hv1 : xc G q1 (.inr (ci, vs)) H) (hci : ci = 1 ∨ ci = 2) (hne : ¬ q1 = q0) : xMet l yJx4a65c_add_72be8 wsJx4a65c_add_72be8 rm_Jx4a65c_add_72be8 G ty b0 [.ref q0, .ref q1, .ref (ty 8), .int (nI 0)] H (fun v H1 => v = none ∧ xc G q0 (.inr (0, [.int (mc), .ref H.size, .int (nI 1)])) H1 ∧ xc G H.size (.inl (ty 7, 10, .inr (.inr (.inr (.inr (va_up (fun _ => none) 0 (some q1))))))) H1 ∧ H1.size = H.size + 1 ∧ xOld q0 H H1) (fun _ _ => False) := by
  refine xbody (cc := cJx4a65c_add_72be8) (maxL := 4) (ret := none) (C := RJx4a65c) (lv := [(0, .ref q0), (1, .ref q1), (2, .ref (ty 8)), (3, .int (nI 0))]) (by decide) rfl rfl (Nat.le_of_ble_eq_true rfl) rfl ?_
  intro p e s m below meth c d0 hx hb hr hts hown hlocks hml hxt hnm0 hK hb0 hH0 hS hd0 ls hl
  have hbH : b0 ≤ H.size := by rw [← hH0]; exact hb0
  have hlq : q0 < H.size := hc0.lt
  have hl1 : q1 < H.size := hv1.lt
  refine lv_iload_n hx hb dJx4a65c_add_72be8_0 rfl (lv_at hl 3 rfl) ?_
  refine lv_aload_n hx hb dJx4a65c_add_72be8_1 rfl (lv_at hl 2 rfl) ?_
  refine va_tlen (s := s.setDrawn d0) hx hb (va_T.moved (u := s) (Vm.Alike.refl _) (xK.nil hK)) hS rfl dJx4a65c_add_72be8_2 ?_
  refine lv_icmp_ne (tgt := 11) hx hb dJx4a65c_add_72be8_3 (by decide) (fun h9 => (show False by revert h9; decide).elim) (fun _ => ?_)
  refine lv_aload_n hx hb dJx4a65c_add_72be8_6 rfl (lv_at hl 0 rfl) ?_
  have cw_2 := cwV (R := rm_Jx4a65c_add_72be8) (rm := rm_Jx4a65c_grow_d5877) 0 (hts d0) gJx4a65c_add_72be8_Jx4a65c_grow_d5877 rfl rfl rfl (by decide +kernel) ⟨Nat.le_of_ble_eq_true rfl, Nat.le_of_ble_eq_true rfl⟩
  refine xcall hd0 (xintoV (b := q0) (As := []) (rest := []) ⟨hx, hb, hml, hown, hts _⟩ cw_2 (va_recv hK.1 (x1 hc0) (ci := 0) (q0 := 0) rfl rfl) rfl rfl hl.1 rfl (lv_room (Nat.le_of_ble_eq_true rfl)) dJx4a65c_add_72be8_7) (c_Jx4a65c_grow_d5877 (l := l) (G := G) (ty := ty) (b0 := b0) hq0 hc0) (xoweB cw_2.1) hK hb0 hS (Nat.le_of_ble_eq_true rfl) (Nat.le_of_ble_eq_true rfl) (fun E_2 ce_2 q9_2 H_2 locs_2 d0 hd0 hp_2 hS hce_2 hcv_2 hcl_2 => ?_) (fun v_2 H_2 locs_2 d0 hd0 hp_2 hS => ?_)
  · exact hp_2.elim
  · obtain ⟨rfl, hc0_2, hc1_2, hz_2, hfr_2⟩ := hp_2
    show W p l e _ (s.setDrawn _) m _ below meth c _ _ _ _ _ (F0 m 10 ls [.ref H.size])
    refine lv_astore_n (lv' := [(2, .ref H.size), (0, .ref q0), (1, .ref q1), (3, .int (nI 0))]) hx hb dJx4a65c_add_72be8_10 rfl hl (by decide) rfl (fun ls hl => ?_)
    refine lv_aload_n hx hb dJx4a65c_add_72be8_11 rfl (lv_at hl 0 rfl) ?_
    refine lv_iload_n hx hb dJx4a65c_add_72be8_12 rfl (lv_at hl 3 rfl) ?_
    refine lv_aload_n hx hb dJx4a65c_add_72be8_13 rfl (lv_at hl 2 rfl) ?_
    refine xaastO (s := s.setDrawn d0) (j := 0) hx hb hK.1 7 hc1_2 (xAny2 hK (hv1.kept (hfr_2.2 _ hl1 hne)) hci) hS (hbH) rfl (xix_of (by omega) (by omega)) dJx4a65c_add_72be8_14 (fun H_3 locs_3 hs_3 hS => ?_)
    have hc_3 : xc G H.size (.inl (ty 7, 10, .inr (.inr (.inr (.inr ((va_up (fun _ => none) 0 (some q1)))))))) H_3 := hs_3.1
    have hfr_3 : xOld q0 H H_3 := xOld.put hfr_2 hs_3 (Or.inr (Nat.le_refl _))
    have hzz_3 : H_3.size = H.size + 1 := hs_3.2.1.trans hz_2
    refine lv_aload_n hx hb dJx4a65c_add_72be8_15 rfl (lv_at hl 1 rfl) ?_
    refine lv_iload_n hx hb dJx4a65c_add_72be8_16 rfl (lv_at hl 3 rfl) ?_
    refine lv_iconst (v := nI 1) hx hb dJx4a65c_add_72be8_17 (by decide) ?_
    refine xiaddN hx hb dJx4a65c_add_72be8_18 ?_
    refine xput (G := G) (ci := 0) (v := .int (nI (0 + 1))) (ty := .int) (C := RJx4a65c) (T := TJx4a65c) (N := 3) hx hb (hts d0) in_Jx4a65c_add_72be8_Jx4a65c tyJx4a65c tyJx4a65c_ok nmJx4a65c hown hK.1 (hc0_2.kept (hs_3.2.2 _ (Nat.ne_of_lt hlq))) hS hq0 rfl 2 (by decide) (hts d0 _ hw_Jx4a65c_add_72be8_1) (fun _ h9 => h9) rfl (by decide +kernel) rfl rfl (Nat.le_of_ble_eq_true rfl) dJx4a65c_add_72be8_19 (fun H_4 locs_4 hs_4 hS => ?_)
    have hc_4 : xc G q0 (.inr (0, [.int (mc), .ref H.size, .int (nI (0 + 1))])) H_4 := hs_4.1
    have hfr_4 : xOld q0 H H_4 := xOld.put hfr_3 hs_4 (Or.inl rfl)
    have hzz_4 : H_4.size = H.size + 1 := hs_4.2.1.trans hzz_3
    exact xvret hd0 hx hb hr hlocks hS (Nat.le_of_ble_eq_true rfl) (Nat.le_of_ble_eq_true rfl) dJx4a65c_add_72be8_22 ⟨rfl, hc_4, (hc_3.kept (hs_4.2.2 _ (Nat.ne_of_gt hlq))), hzz_4, hfr_4⟩
theorem xOld2.of {G : va_G} {q0 d : Nat} {e1 e2 : va_E} {H H1 H2 : Heap} (h1 : xset G d e1 H H1) (h2 : xset G q0 e2 H1 H2) : xOld2 q0 d H H2 := ⟨by rw [h2.2.1, h1.2.1]; exact Nat.le_refl _, fun q _ a b => (h2.2.2 q a).trans (h1.2.2 q b)⟩
theorem xOld.of {G : va_G} {q0 : Nat} {e1 : va_E} {H H1 : Heap} (h1 : xset G q0 e1 H H1) : xOld q0 H H1 := ⟨by rw [h1.2.1]; exact Nat.le_refl _, fun q _ a => h1.2.2 q a⟩
set_option maxHeartbeats 4000000 in
set_option maxRecDepth 100000 in
/-- another is added -/
theorem c_Jx4a65c_add3B {l : Launch} {G : va_G} {ty : Nat → ClassId} {b0 : Nat} {H : Heap} {q0 d0a n : Nat} {mc : Int32} {f : Nat → Option Nat} (hq0 : b0 ≤ q0) (hd9 : b0 ≤ d0a) (hqd : ¬ q0 = d0a) (hc0 : xc G q0 (.inr (0, [.int mc, .ref d0a, .int (nI n)])) H) (hc1 : xc G d0a (.inl (ty 7, 10, .inr (.inr (.inr (.inr f))))) H) (hn : n < 10) {q1 ci : Nat} {vs : List Value} (hv1 : xc G q1 (.inr (ci, vs)) H) (hci : ci = 1 ∨ ci = 2) : xMet l yJx4a65c_add_72be8 wsJx4a65c_add_72be8 rm_Jx4a65c_add_72be8 G ty b0 [.ref q0, .ref q1, .ref d0a, .int (nI n)] H (fun v H1 => v = none ∧ xc G q0 (.inr (0, [.int (mc), .ref d0a, .int (nI (n + 1))])) H1 ∧ xc G d0a (.inl (ty 7, 10, .inr (.inr (.inr (.inr (va_up f n (some q1))))))) H1 ∧ H1.size = H.size ∧ xOld2 q0 d0a H H1) (fun _ _ => False) := by
  refine xbody (cc := cJx4a65c_add_72be8) (maxL := 4) (ret := none) (C := RJx4a65c) (lv := [(0, .ref q0), (1, .ref q1), (2, .ref d0a), (3, .int (nI n))]) (by decide) rfl rfl (Nat.le_of_ble_eq_true rfl) rfl ?_
  intro p e s m below meth c d0 hx hb hr hts hown hlocks hml hxt hnm0 hK hb0 hH0 hS hd0 ls hl
  refine lv_iload_n hx hb dJx4a65c_add_72be8_0 rfl (lv_at hl 3 rfl) ?_
  refine lv_aload_n hx hb dJx4a65c_add_72be8_1 rfl (lv_at hl 2 rfl) ?_
  refine xalen hx hb hK.1 7 hc1 rfl dJx4a65c_add_72be8_2 ?_
  refine xicmpN_ne (tgt := 11) hx hb (by omega) (show (10 : Nat) < 2 ^ 31 by decide) dJx4a65c_add_72be8_3 (by decide) (fun _ => ?_) (fun h9 => absurd h9 (by omega))
  refine lv_aload_n hx hb dJx4a65c_add_72be8_11 rfl (lv_at hl 2 rfl) ?_
  refine lv_iload_n hx hb dJx4a65c_add_72be8_12 rfl (lv_at hl 3 rfl) ?_
  refine lv_aload_n hx hb dJx4a65c_add_72be8_13 rfl (lv_at hl 1 rfl) ?_
  refine xaastO (s := s.setDrawn d0) (j := n) hx hb hK.1 7 hc1 (xAny2 hK hv1 hci) hS hd9 rfl (xix_of (by omega) (by omega)) dJx4a65c_add_72be8_14 (fun H_2 locs_2 hs_2 hS => ?_)
  have hc_2 : xc G d0a (.inl (ty 7, 10, .inr (.inr (.inr (.inr ((va_up f n (some q1)))))))) H_2 := hs_2.1
  refine lv_aload_n hx hb dJx4a65c_add_72be8_15 rfl (lv_at hl 0 rfl) ?_
  refine lv_iload_n hx hb dJx4a65c_add_72be8_16 rfl (lv_at hl 3 rfl) ?_
  refine lv_iconst (v := nI 1) hx hb dJx4a65c_add_72be8_17 (by decide) ?_
  refine xiaddN hx hb dJx4a65c_add_72be8_18 ?_
  refine xput (G := G) (ci := 0) (v := .int (nI (n + 1))) (ty := .int) (C := RJx4a65c) (T := TJx4a65c) (N := 3) hx hb (hts d0) in_Jx4a65c_add_72be8_Jx4a65c tyJx4a65c tyJx4a65c_ok nmJx4a65c hown hK.1 (hc0.kept (hs_2.2.2 _ hqd)) hS hq0 rfl 2 (by decide) (hts d0 _ hw_Jx4a65c_add_72be8_1) (fun _ h9 => h9) rfl (by decide +kernel) rfl rfl (Nat.le_of_ble_eq_true rfl) dJx4a65c_add_72be8_19 (fun H_3 locs_3 hs_3 hS => ?_)
  have hc_3 : xc G q0 (.inr (0, [.int (mc), .ref d0a, .int (nI (n + 1))])) H_3 := hs_3.1
  exact xvret hd0 hx hb hr hlocks hS (Nat.le_of_ble_eq_true rfl) (Nat.le_of_ble_eq_true rfl) dJx4a65c_add_72be8_22 ⟨rfl, hc_3, (hc_2.kept (hs_3.2.2 _ (fun z => hqd z.symm))), hs_3.2.1.trans hs_2.2.1, xOld2.of hs_2 hs_3⟩
set_option maxRecDepth 20000 in
theorem ggJx4a65c_add_9ea2d_Jx4a65c_add_72be8 : GoodIn wsJx4a65c_add_9ea2d wsJx4a65c_add_72be8 := goodIn_r _ [9, 4, 10, 11, 12, 8, 13, 14, 15, 16, 17, 3, 18, 19, 20, 21, 22, 23, 24, 25, 26, 27, 28, 29, 30, 31, 32, 33, 34, 35, 36, 37, 38, 39, 40, 41, 42, 43, 44, 45, 46, 47, 48, 49, 50, 51, 52, 53, 54, 55] (by decide +kernel) (by decide +kernel)
set_option maxRecDepth 20000 in
theorem gJx4a65c_add_9ea2d_Jx4a65c_add_72be8 : GoodIn wsJx4a65c_add_9ea2d (wsV RJx4a65c 131 RJx4a65c yJx4a65c_add_72be8 wsJx4a65c_add_72be8) := goodIn_app (goodIn_of _ (by decide +kernel)) ggJx4a65c_add_9ea2d_Jx4a65c_add_72be8
theorem dJx4a65c_add_9ea2d_0 : decode cJx4a65c_add_9ea2d 0 = .ok (.aload_n 0, 1) := by decide +kernel
theorem dJx4a65c_add_9ea2d_1 : decode cJx4a65c_add_9ea2d 1 = .ok (.dup, 1) := by decide +kernel
theorem dJx4a65c_add_9ea2d_2 : decode cJx4a65c_add_9ea2d 2 = .ok (.getfield 63, 3) := by decide +kernel
theorem dJx4a65c_add_9ea2d_5 : decode cJx4a65c_add_9ea2d 5 = .ok (.iconst 1, 1) := by decide +kernel
theorem dJx4a65c_add_9ea2d_6 : decode cJx4a65c_add_9ea2d 6 = .ok (.iadd, 1) := by decide +kernel
theorem dJx4a65c_add_9ea2d_7 : decode cJx4a65c_add_9ea2d 7 = .ok (.putfield 63, 3) := by decide +kernel
theorem dJx4a65c_add_9ea2d_10 : decode cJx4a65c_add_9ea2d 10 = .ok (.aload_n 0, 1) := by decide +kernel
theorem dJx4a65c_add_9ea2d_11 : decode cJx4a65c_add_9ea2d 11 = .ok (.aload_n 1, 1) := by decide +kernel
theorem dJx4a65c_add_9ea2d_12 : decode cJx4a65c_add_9ea2d 12 = .ok (.aload_n 0, 1) := by decide +kernel
theorem dJx4a65c_add_9ea2d_13 : decode cJx4a65c_add_9ea2d 13 = .ok (.getfield 9, 3) := by decide +kernel
theorem dJx4a65c_add_9ea2d_16 : decode cJx4a65c_add_9ea2d 16 = .ok (.aload_n 0, 1) := by decide +kernel
theorem dJx4a65c_add_9ea2d_17 : decode cJx4a65c_add_9ea2d 17 = .ok (.getfield 48, 3) := by decide +kernel
theorem dJx4a65c_add_9ea2d_20 : decode cJx4a65c_add_9ea2d 20 = .ok (.invokevirtual 131, 3) := by decide +kernel
theorem dJx4a65c_add_9ea2d_23 : decode cJx4a65c_add_9ea2d 23 = .ok (.iconst 1, 1) := by decide +kernel
theorem dJx4a65c_add_9ea2d_24 : decode cJx4a65c_add_9ea2d 24 = .ok (.ireturn, 1) := by decide +kernel
abbrev rm_Jx4a65c_add_9ea2d : Room := { frames := 5, cells := 1, slots := 10, locals := 170 }
theorem hw_Jx4a65c_add_9ea2d_1 : (Cond.fieldLink RJx4a65c 63 "java/util/ArrayList" "modCount" "I") ∈ wsJx4a65c_add_9ea2d := List.mem_of_getElem? (i := 1) rfl
theorem hw_Jx4a65c_add_9ea2d_2 : (Cond.sameField "java/util/ArrayList" "java/util/AbstractList" "modCount" "I") ∈ wsJx4a65c_add_9ea2d := List.mem_of_getElem? (i := 2) rfl
theorem hw_Jx4a65c_add_9ea2d_3 : (Cond.fieldLink RJx4a65c 9 "java/util/ArrayList" "elementData" "[Ljava/lang/Object;") ∈ wsJx4a65c_add_9ea2d := List.mem_of_getElem? (i := 3) rfl
theorem hw_Jx4a65c_add_9ea2d_4 : (Cond.fieldLink RJx4a65c 48 "java/util/ArrayList" "size" "I") ∈ wsJx4a65c_add_9ea2d := List.mem_of_getElem? (i := 4) rfl
theorem in_Jx4a65c_add_9ea2d_Jx4a65c : ∀ w ∈ wsJx4a65c0, w ∈ wsJx4a65c_add_9ea2d := by decide +kernel
set_option maxHeartbeats 4000000 in
set_option maxRecDepth 100000 in
/-- the first is added -/
theorem c_Jx4a65c_addA {l : Launch} {G : va_G} {ty : Nat → ClassId} {b0 : Nat} {H : Heap} {q0 : Nat} {mc : Int32} (hq0 : b0 ≤ q0) (hc0 : xc G q0 (.inr (0, [.int mc, .ref (ty 8), .int (nI 0)])) H) {q1 ci : Nat} {vs : List Value} (hv1 : xc G q1 (.inr (ci, vs)) H) (hci : ci = 1 ∨ ci = 2) (hne : ¬ q1 = q0) : xMet l yJx4a65c_add_9ea2d wsJx4a65c_add_9ea2d rm_Jx4a65c_add_9ea2d G ty b0 [.ref q0, .ref q1] H (fun v H1 => v = some (.int (nI 1)) ∧ xc G q0 (.inr (0, [.int (mc + nI 1), .ref H.size, .int (nI 1)])) H1 ∧ xc G H.size (.inl (ty 7, 10, .inr (.inr (.inr (.inr (va_up (fun _ => none) 0 (some q1))))))) H1 ∧ H1.size = H.size + 1 ∧ xOld q0 H H1) (fun _ _ => False) := by
  refine xbody (cc := cJx4a65c_add_9ea2d) (maxL := 2) (ret := (some .boolean)) (C := RJx4a65c) (lv := [(0, .ref q0), (1, .ref q1)]) (by decide) rfl rfl (Nat.le_of_ble_eq_true rfl) rfl ?_
  intro p e s m below meth c d0 hx hb hr hts hown hlocks hml hxt hnm0 hK hb0 hH0 hS hd0 ls hl
  have hlq : q0 < H.size := hc0.lt
  have hl1 : q1 < H.size := hv1.lt
  refine lv_aload_n hx hb dJx4a65c_add_9ea2d_0 rfl (lv_at hl 0 rfl) ?_
  refine lv_dup hx hb dJx4a65c_add_9ea2d_1 rfl ?_
  refine va_get (D := G) (cl := vwCl) (ci := 0) (v := .int (mc)) (C := RJx4a65c) (T := TJx4a65c) (N := 3) hx hb (hts d0) in_Jx4a65c_add_9ea2d_Jx4a65c hown hK.1 (x1 hc0) 0 rfl rfl 0 (by decide) (hts d0 _ hw_Jx4a65c_add_9ea2d_1) (fun _ h9 => u_same (hts d0 _ hw_Jx4a65c_add_9ea2d_2) _ h9) rfl dJx4a65c_add_9ea2d_2 ?_
  refine lv_iconst (v := nI 1) hx hb dJx4a65c_add_9ea2d_5 (by decide) ?_
  refine lv_iadd hx hb dJx4a65c_add_9ea2d_6 ?_
  refine xput (G := G) (ci := 0) (v := .int ((mc + (nI 1)))) (ty := .int) (C := RJx4a65c) (T := TJx4a65c) (N := 3) hx hb (hts d0) in_Jx4a65c_add_9ea2d_Jx4a65c tyJx4a65c tyJx4a65c_ok nmJx4a65c hown hK.1 hc0 hS hq0 rfl 0 (by decide) (hts d0 _ hw_Jx4a65c_add_9ea2d_1) (fun _ h9 => u_same (hts d0 _ hw_Jx4a65c_add_9ea2d_2) _ h9) rfl (by decide +kernel) rfl rfl (Nat.le_of_ble_eq_true rfl) dJx4a65c_add_9ea2d_7 (fun H_1 locs_1 hs_1 hS => ?_)
  have hc_1 : xc G q0 (.inr (0, [.int ((mc + (nI 1))), .ref (ty 8), .int (nI 0)])) H_1 := hs_1.1
  refine lv_aload_n hx hb dJx4a65c_add_9ea2d_10 rfl (lv_at hl 0 rfl) ?_
  refine lv_aload_n hx hb dJx4a65c_add_9ea2d_11 rfl (lv_at hl 1 rfl) ?_
  refine lv_aload_n hx hb dJx4a65c_add_9ea2d_12 rfl (lv_at hl 0 rfl) ?_
  refine va_get (D := G) (cl := vwCl) (ci := 0) (v := .ref (ty 8)) (C := RJx4a65c) (T := TJx4a65c) (N := 3) hx hb (hts d0) in_Jx4a65c_add_9ea2d_Jx4a65c hown hK.1 (x1 hc_1) 0 rfl rfl 1 (by decide) (hts d0 _ hw_Jx4a65c_add_9ea2d_3) (fun _ h9 => h9) rfl dJx4a65c_add_9ea2d_13 ?_
  refine lv_aload_n hx hb dJx4a65c_add_9ea2d_16 rfl (lv_at hl 0 rfl) ?_
  refine va_get (D := G) (cl := vwCl) (ci := 0) (v := .int (nI 0)) (C := RJx4a65c) (T := TJx4a65c) (N := 3) hx hb (hts d0) in_Jx4a65c_add_9ea2d_Jx4a65c hown hK.1 (x1 hc_1) 0 rfl rfl 2 (by decide) (hts d0 _ hw_Jx4a65c_add_9ea2d_4) (fun _ h9 => h9) rfl dJx4a65c_add_9ea2d_17 ?_
  have cw_2 := cwV (R := rm_Jx4a65c_add_9ea2d) (rm := rm_Jx4a65c_add_72be8) 3 (hts d0) gJx4a65c_add_9ea2d_Jx4a65c_add_72be8 rfl rfl rfl (by decide +kernel) ⟨Nat.le_of_ble_eq_true rfl, Nat.le_of_ble_eq_true rfl⟩
  refine xcall hd0 (xintoV (b := q0) (As := [.ref q1, .ref (ty 8), .int (nI 0)]) (rest := []) ⟨hx, hb, hml, hown, hts _⟩ cw_2 (va_recv hK.1 (x1 hc_1) (ci := 0) (q0 := 0) rfl rfl) rfl rfl hl.1 rfl (lv_room (Nat.le_of_ble_eq_true rfl)) dJx4a65c_add_9ea2d_20) (c_Jx4a65c_add3A (l := l) (G := G) (ty := ty) (b0 := b0) hq0 hc_1 (hv1.kept (hs_1.2.2 _ hne)) hci hne) (xoweB cw_2.1) hK hb0 hS (Nat.le_of_ble_eq_true rfl) (Nat.le_of_ble_eq_true rfl) (fun E_2 ce_2 q9_2 H_2 locs_2 d0 hd0 hp_2 hS hce_2 hcv_2 hcl_2 => ?_) (fun v_2 H_2 locs_2 d0 hd0 hp_2 hS => ?_)
  · exact hp_2.elim
  · obtain ⟨rfl, hc0_2, hc1_2, hz_2, hfr_2⟩ := hp_2
    show W p l e _ (s.setDrawn _) m _ below meth c _ _ _ _ _ (F0 m 23 ls [])
    refine lv_iconst (v := nI 1) hx hb dJx4a65c_add_9ea2d_23 (by decide) ?_
    exact xzret (by decide) hd0 hx hb hr hlocks hS (Nat.le_of_ble_eq_true rfl) (Nat.le_of_ble_eq_true rfl) dJx4a65c_add_9ea2d_24 ((by have e9 := hs_1.2.1; rw [e9] at hc0_2 hc1_2 hz_2; exact ⟨rfl, hc0_2, hc1_2, hz_2, (xOld.of hs_1).tr hfr_2 (Or.inl rfl)⟩))
set_option maxHeartbeats 4000000 in
set_option maxRecDepth 100000 in
/-- another is added -/
theorem c_Jx4a65c_addB {l : Launch} {G : va_G} {ty : Nat → ClassId} {b0 : Nat} {H : Heap} {q0 d0a n : Nat} {mc : Int32} {f : Nat → Option Nat} (hq0 : b0 ≤ q0) (hd9 : b0 ≤ d0a) (hqd : ¬ q0 = d0a) (hc0 : xc G q0 (.inr (0, [.int mc, .ref d0a, .int (nI n)])) H) (hc1 : xc G d0a (.inl (ty 7, 10, .inr (.inr (.inr (.inr f))))) H) (hn : n < 10) {q1 ci : Nat} {vs : List Value} (hv1 : xc G q1 (.inr (ci, vs)) H) (hci : ci = 1 ∨ ci = 2) (hne : ¬ q1 = q0) : xMet l yJx4a65c_add_9ea2d wsJx4a65c_add_9ea2d rm_Jx4a65c_add_9ea2d G ty b0 [.ref q0, .ref q1] H (fun v H1 => v = some (.int (nI 1)) ∧ xc G q0 (.inr (0, [.int (mc + nI 1), .ref d0a, .int (nI (n + 1))])) H1 ∧ xc G d0a (.inl (ty 7, 10, .inr (.inr (.inr (.inr (va_up f n (some q1))))))) H1 ∧ H1.size = H.size ∧ xOld2 q0 d0a H H1) (fun _ _ => False) := by
  refine xbody (cc := cJx4a65c_add_9ea2d) (maxL := 2) (ret := (some .boolean)) (C := RJx4a65c) (lv := [(0, .ref q0), (1, .ref q1)]) (by decide) rfl rfl (Nat.le_of_ble_eq_true rfl) rfl ?_
  intro p e s m below meth c d0 hx hb hr hts hown hlocks hml hxt hnm0 hK hb0 hH0 hS hd0 ls hl
  refine lv_aload_n hx hb dJx4a65c_add_9ea2d_0 rfl (lv_at hl 0 rfl) ?_
  refine lv_dup hx hb dJx4a65c_add_9ea2d_1 rfl ?_
  refine va_get (D := G) (cl := vwCl) (ci := 0) (v := .int (mc)) (C := RJx4a65c) (T := TJx4a65c) (N := 3) hx hb (hts d0) in_Jx4a65c_add_9ea2d_Jx4a65c hown hK.1 (x1 hc0) 0 rfl rfl 0 (by decide) (hts d0 _ hw_Jx4a65c_add_9ea2d_1) (fun _ h9 => u_same (hts d0 _ hw_Jx4a65c_add_9ea2d_2) _ h9) rfl dJx4a65c_add_9ea2d_2 ?_
  refine lv_iconst (v := nI 1) hx hb dJx4a65c_add_9ea2d_5 (by decide) ?_
  refine lv_iadd hx hb dJx4a65c_add_9ea2d_6 ?_
  refine xput (G := G) (ci := 0) (v := .int ((mc + (nI 1)))) (ty := .int) (C := RJx4a65c) (T := TJx4a65c) (N := 3) hx hb (hts d0) in_Jx4a65c_add_9ea2d_Jx4a65c tyJx4a65c tyJx4a65c_ok nmJx4a65c hown hK.1 hc0 hS hq0 rfl 0 (by decide) (hts d0 _ hw_Jx4a65c_add_9ea2d_1) (fun _ h9 => u_same (hts d0 _ hw_Jx4a65c_add_9ea2d_2) _ h9) rfl (by decide +kernel) rfl rfl (Nat.le_of_ble_eq_true rfl) dJx4a65c_add_9ea2d_7 (fun H_1 locs_1 hs_1 hS => ?_)
  have hc_1 : xc G q0 (.inr (0, [.int ((mc + (nI 1))), .ref d0a, .int (nI n)])) H_1 := hs_1.1
  refine lv_aload_n hx hb dJx4a65c_add_9ea2d_10 rfl (lv_at hl 0 rfl) ?_
  refine lv_aload_n hx hb dJx4a65c_add_9ea2d_11 rfl (lv_at hl 1 rfl) ?_
  refine lv_aload_n hx hb dJx4a65c_add_9ea2d_12 rfl (lv_at hl 0 rfl) ?_
  refine va_get (D := G) (cl := vwCl) (ci := 0) (v := .ref d0a) (C := RJx4a65c) (T := TJx4a65c) (N := 3) hx hb (hts d0) in_Jx4a65c_add_9ea2d_Jx4a65c hown hK.1 (x1 hc_1) 0 rfl rfl 1 (by decide) (hts d0 _ hw_Jx4a65c_add_9ea2d_3) (fun _ h9 => h9) rfl dJx4a65c_add_9ea2d_13 ?_
  refine lv_aload_n hx hb dJx4a65c_add_9ea2d_16 rfl (lv_at hl 0 rfl) ?_
  refine va_get (D := G) (cl := vwCl) (ci := 0) (v := .int (nI n)) (C := RJx4a65c) (T := TJx4a65c) (N := 3) hx hb (hts d0) in_Jx4a65c_add_9ea2d_Jx4a65c hown hK.1 (x1 hc_1) 0 rfl rfl 2 (by decide) (hts d0 _ hw_Jx4a65c_add_9ea2d_4) (fun _ h9 => h9) rfl dJx4a65c_add_9ea2d_17 ?_
  have cw_2 := cwV (R := rm_Jx4a65c_add_9ea2d) (rm := rm_Jx4a65c_add_72be8) 3 (hts d0) gJx4a65c_add_9ea2d_Jx4a65c_add_72be8 rfl rfl rfl (by decide +kernel) ⟨Nat.le_of_ble_eq_true rfl, Nat.le_of_ble_eq_true rfl⟩
  refine xcall hd0 (xintoV (b := q0) (As := [.ref q1, .ref d0a, .int (nI n)]) (rest := []) ⟨hx, hb, hml, hown, hts _⟩ cw_2 (va_recv hK.1 (x1 hc_1) (ci := 0) (q0 := 0) rfl rfl) rfl rfl hl.1 rfl (lv_room (Nat.le_of_ble_eq_true rfl)) dJx4a65c_add_9ea2d_20) (c_Jx4a65c_add3B (l := l) (G := G) (ty := ty) (b0 := b0) hq0 hd9 hqd hc_1 (hc1.kept (hs_1.2.2 _ (fun z => hqd z.symm))) hn (hv1.kept (hs_1.2.2 _ hne)) hci) (xoweB cw_2.1) hK hb0 hS (Nat.le_of_ble_eq_true rfl) (Nat.le_of_ble_eq_true rfl) (fun E_2 ce_2 q9_2 H_2 locs_2 d0 hd0 hp_2 hS hce_2 hcv_2 hcl_2 => ?_) (fun v_2 H_2 locs_2 d0 hd0 hp_2 hS => ?_)
  · exact hp_2.elim
  · obtain ⟨rfl, hc0_2, hc1_2, hz_2, hfr_2⟩ := hp_2
    show W p l e _ (s.setDrawn _) m _ below meth c _ _ _ _ _ (F0 m 23 ls [])
    refine lv_iconst (v := nI 1) hx hb dJx4a65c_add_9ea2d_23 (by decide) ?_
    exact xzret (by decide) hd0 hx hb hr hlocks hS (Nat.le_of_ble_eq_true rfl) (Nat.le_of_ble_eq_true rfl) dJx4a65c_add_9ea2d_24 ⟨rfl, hc0_2, hc1_2, hz_2.trans hs_1.2.1, ⟨Nat.le_of_eq (hz_2.trans hs_1.2.1).symm, fun q9 z9 a9 b9 => (hfr_2.2 q9 (by rw [hs_1.2.1]; exact z9) a9 b9).trans (hs_1.2.2 q9 a9)⟩⟩
