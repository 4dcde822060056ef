/-! THE CLASS: its beginning (rows, strips). -/
theorem dX2_init_0 : decode cX2_init 0 = .ok (.aload_n 0, 1) := by decide +kernel
theorem dX2_init_1 : decode cX2_init 1 = .ok (.invokespecial 1, 3) := by decide +kernel
theorem dX2_init_4 : decode cX2_init 4 = .ok (.return_, 1) := by decide +kernel
abbrev rm_X2_init : Room := { frames := 2, cells := 0, slots := 0, locals := 40 }
theorem hw_X2_init_1 : (Cond.methodLink RX2 1 objectInit) ∈ wsX2_init := List.mem_of_getElem? (i := 1) rfl
theorem hw_X2_init_2 : (Cond.instanceMethod objectInit) ∈ wsX2_init := List.mem_of_getElem? (i := 2) rfl
theorem hw_X2_init_3 : (Cond.code objectInit ⟨#[0xb1]⟩ 1 none) ∈ wsX2_init := List.mem_of_getElem? (i := 3) rfl
set_option maxHeartbeats 4000000 in
set_option maxRecDepth 100000 in
/-- a new triangle -/
theorem c_X2_init {l : Launch} {G : va_G} {ty : Nat → ClassId} {b0 : Nat} {H : Heap} {q0 : Nat} : xMet l yX2_init wsX2_init rm_X2_init G ty b0 [.ref q0] H (fun v H1 => v = none ∧ H = H1) (fun _ _ => False) := by
  refine xbody (cc := cX2_init) (maxL := 1) (ret := none) (C := RX2) (lv := [(0, .ref q0)]) (by decide) rfl rfl (Nat.le_of_ble_eq_true rfl) rfl ?_
  intro p e s m below meth c d0 hx hb hr hts hown hlocks hml hxt hnm0 hK hb0 hH0 hS hd0 ls hl
  refine lv_aload_n hx hb dX2_init_0 rfl (lv_at hl 0 rfl) ?_
  refine xobj (s := s.setDrawn d0) hx hb hown hml hl.1 (hts d0 _ hw_X2_init_1) (hts d0 _ hw_X2_init_2) (hts d0 _ hw_X2_init_3) dX2_init_1 (Nat.le_of_ble_eq_true rfl) (Nat.le_of_ble_eq_true rfl) ?_
  exact xvret hd0 hx hb hr hlocks hS (Nat.le_of_ble_eq_true rfl) (Nat.le_of_ble_eq_true rfl) dX2_init_4 ⟨rfl, rfl⟩
theorem dX3_init_0 : decode cX3_init 0 = .ok (.aload_n 0, 1) := by decide +kernel
theorem dX3_init_1 : decode cX3_init 1 = .ok (.invokespecial 1, 3) := by decide +kernel
theorem dX3_init_4 : decode cX3_init 4 = .ok (.return_, 1) := by decide +kernel
abbrev rm_X3_init : Room := { frames := 2, cells := 0, slots := 0, locals := 40 }
theorem hw_X3_init_1 : (Cond.methodLink RX3 1 objectInit) ∈ wsX3_init := List.mem_of_getElem? (i := 1) rfl
theorem hw_X3_init_2 : (Cond.instanceMethod objectInit) ∈ wsX3_init := List.mem_of_getElem? (i := 2) rfl
theorem hw_X3_init_3 : (Cond.code objectInit ⟨#[0xb1]⟩ 1 none) ∈ wsX3_init := List.mem_of_getElem? (i := 3) rfl
set_option maxHeartbeats 4000000 in
set_option maxRecDepth 100000 in
/-- a new place -/
theorem c_X3_init {l : Launch} {G : va_G} {ty : Nat → ClassId} {b0 : Nat} {H : Heap} {q0 : Nat} : xMet l yX3_init wsX3_init rm_X3_init G ty b0 [.ref q0] H (fun v H1 => v = none ∧ H = H1) (fun _ _ => False) := by
  refine xbody (cc := cX3_init) (maxL := 1) (ret := none) (C := RX3) (lv := [(0, .ref q0)]) (by decide) rfl rfl (Nat.le_of_ble_eq_true rfl) rfl ?_
  intro p e s m below meth c d0 hx hb hr hts hown hlocks hml hxt hnm0 hK hb0 hH0 hS hd0 ls hl
  refine lv_aload_n hx hb dX3_init_0 rfl (lv_at hl 0 rfl) ?_
  refine xobj (s := s.setDrawn d0) hx hb hown hml hl.1 (hts d0 _ hw_X3_init_1) (hts d0 _ hw_X3_init_2) (hts d0 _ hw_X3_init_3) dX3_init_1 (Nat.le_of_ble_eq_true rfl) (Nat.le_of_ble_eq_true rfl) ?_
  exact xvret hd0 hx hb hr hlocks hS (Nat.le_of_ble_eq_true rfl) (Nat.le_of_ble_eq_true rfl) dX3_init_4 ⟨rfl, rfl⟩
def xsq (g : Nat → Nat) (k : Nat) : Nat → Option Nat := fun j => if j < k then some (g j) else none
theorem xsq_0 {g : Nat → Nat} : xsq g 0 = fun _ => none := by
  funext j
  unfold xsq
  exact if_neg (Nat.not_lt_zero _)
theorem xsq_up {g : Nat → Nat} {k v : Nat} (hv : v = g k) : va_up (xsq g k) k (some v) = xsq g (k + 1) := by
  funext j
  unfold va_up xsq
  by_cases e : j = k
  · subst e; rw [if_pos rfl, if_pos (by omega), hv]
  · rw [if_neg e]
    by_cases e2 : j < k
    · rw [if_pos e2, if_pos (by omega)]
    · rw [if_neg e2, if_neg (by omega)]
theorem xsq_all {G : va_G} {a n : Nat} {cA : ClassId} {g : Nat → Nat} {H : Heap} (h : xc G a (.inl (cA, n, .inr (.inr (.inr (.inr (xsq g n)))))) H) : xc G a (.inl (cA, n, .inr (.inr (.inr (.inr (fun j => some (g j))))))) H :=
  xc_fq h (fun j hj => by unfold xsq; exact if_pos hj)
/-- a place at nothing -/
abbrev xZp : va_E := .inr (4, [.double FP.dconst0, .double FP.dconst0, .double FP.dconst0])
/-- a new row, at H.size on -/
def xRow (G : va_G) (ty : Nat → ClassId) (q0 B n : Nat) (H : Heap) : Prop := xc G q0 (.inr (5, [.ref B])) H ∧ xc G B (.inl (ty 4, n, .inr (.inr (.inr (.inr (fun j => some (B + 1 + j))))))) H ∧ ∀ j : Nat, j < n → xc G (B + 1 + j) xZp H
theorem xRow.kept {G : va_G} {ty : Nat → ClassId} {q0 B n : Nat} {H H1 : Heap} (h : xRow G ty q0 B n H) (h0 : H1[q0]? = H[q0]?) (hk : ∀ q : Nat, B ≤ q → q < B + 1 + n → H1[q]? = H[q]?) : xRow G ty q0 B n H1 := ⟨h.1.kept h0, h.2.1.kept (hk _ (Nat.le_refl _) (by omega)), fun j hj => (h.2.2 j hj).kept (hk _ (by omega) (by omega))⟩
set_option maxRecDepth 20000 in
theorem ggX4_init_X3_init : GoodIn wsX4_init wsX3_init := goodIn_r _ [9, 10, 2, 3] (by decide +kernel) (by decide +kernel)
set_option maxRecDepth 20000 in
theorem gX4_init_X3_init_n15 : GoodIn wsX4_init (wsX3_init) := ggX4_init_X3_init
theorem dX4_init_0 : decode cX4_init 0 = .ok (.aload_n 0, 1) := by decide +kernel
theorem dX4_init_1 : decode cX4_init 1 = .ok (.invokespecial 1, 3) := by decide +kernel
theorem dX4_init_4 : decode cX4_init 4 = .ok (.aload_n 0, 1) := by decide +kernel
theorem dX4_init_5 : decode cX4_init 5 = .ok (.iload_n 1, 1) := by decide +kernel
theorem dX4_init_6 : decode cX4_init 6 = .ok (.anewarray 7, 3) := by decide +kernel
theorem dX4_init_9 : decode cX4_init 9 = .ok (.putfield 9, 3) := by decide +kernel
theorem dX4_init_12 : decode cX4_init 12 = .ok (.iconst 0, 1) := by decide +kernel
theorem dX4_init_13 : decode cX4_init 13 = .ok (.istore_n 2, 1) := by decide +kernel
theorem dX4_init_14 : decode cX4_init 14 = .ok (.iload_n 2, 1) := by decide +kernel
theorem dX4_init_15 : decode cX4_init 15 = .ok (.iload_n 1, 1) := by decide +kernel
theorem dX4_init_16 : decode cX4_init 16 = .ok (.if_icmp .ge 22, 3) := by decide +kernel
theorem dX4_init_19 : decode cX4_init 19 = .ok (.aload_n 0, 1) := by decide +kernel
theorem dX4_init_20 : decode cX4_init 20 = .ok (.getfield 9, 3) := by decide +kernel
theorem dX4_init_23 : decode cX4_init 23 = .ok (.iload_n 2, 1) := by decide +kernel
theorem dX4_init_24 : decode cX4_init 24 = .ok (.new 7, 3) := by decide +kernel
theorem dX4_init_27 : decode cX4_init 27 = .ok (.dup, 1) := by decide +kernel
theorem dX4_init_28 : decode cX4_init 28 = .ok (.invokespecial 15, 3) := by decide +kernel
theorem dX4_init_31 : decode cX4_init 31 = .ok (.aastore, 1) := by decide +kernel
theorem dX4_init_32 : decode cX4_init 32 = .ok (.iinc 2 1, 3) := by decide +kernel
theorem dX4_init_35 : decode cX4_init 35 = .ok (.goto (-21), 3) := by decide +kernel
theorem dX4_init_38 : decode cX4_init 38 = .ok (.return_, 1) := by decide +kernel
abbrev rm_X4_init : Room := { frames := 4, cells := 9, slots := 40, locals := 100 }
theorem hw_X4_init_1 : (Cond.methodLink RX4 1 objectInit) ∈ wsX4_init := List.mem_of_getElem? (i := 1) rfl
theorem hw_X4_init_2 : (Cond.instanceMethod objectInit) ∈ wsX4_init := List.mem_of_getElem? (i := 2) rfl
theorem hw_X4_init_3 : (Cond.code objectInit ⟨#[0xb1]⟩ 1 none) ∈ wsX4_init := List.mem_of_getElem? (i := 3) rfl
theorem hw_X4_init_4 : (Cond.classLink RX4 7 RX3) ∈ wsX4_init := List.mem_of_getElem? (i := 4) rfl
theorem hw_X4_init_5 : (Cond.fieldLink RX4 9 "PlankUnroll$Row" "places" "[LPlankUnroll$Place;") ∈ wsX4_init := List.mem_of_getElem? (i := 5) rfl
theorem hw_X4_init_6 : (Cond.instantiable RX3 3) ∈ wsX4_init := List.mem_of_getElem? (i := 6) rfl
theorem hw_X4_init_7 : (Cond.initialized RX3) ∈ wsX4_init := List.mem_of_getElem? (i := 7) rfl
theorem hw_X4_init_8 : (Cond.instanceMethod yX3_init) ∈ wsX4_init := List.mem_of_getElem? (i := 8) rfl
theorem in_X4_init_X3 : ∀ w ∈ wsX30, w ∈ wsX4_init := by decide +kernel
theorem in_X4_init_X4 : ∀ w ∈ wsX40, w ∈ wsX4_init := by decide +kernel
set_option maxHeartbeats 4000000 in
set_option maxRecDepth 100000 in
/-- a new row -/
theorem c_X4_init {l : Launch} {G : va_G} {ty : Nat → ClassId} {b0 : Nat} {H : Heap} {q0 n : Nat} (hq0 : b0 ≤ q0) (hn : n ≤ 8) (hc0 : xc G q0 (.inr (5, [.null])) H) : xMet l yX4_init wsX4_init rm_X4_init G ty b0 [.ref q0, .int (nI n)] H (fun v H1 => v = none ∧ xRow G ty q0 H.size n H1 ∧ H1.size = H.size + 1 + n ∧ xOld q0 H H1) (fun _ _ => False) := by
  refine xbody (cc := cX4_init) (maxL := 3) (ret := none) (C := RX4) (lv := [(0, .ref q0), (1, .int (nI n))]) (by decide) rfl rfl (Nat.le_of_ble_eq_true rfl) rfl ?_
  intro p e s m below meth c d0 hx hb hr hts hown hlocks hml hxt hnm0 hK hb0 hH0 hS hd0 ls hl
  have hbH : b0 ≤ H.size := by rw [← hH0]; exact hb0
  have hlq : q0 < H.size := hc0.lt
  refine lv_aload_n hx hb dX4_init_0 rfl (lv_at hl 0 rfl) ?_
  refine xobj (s := s.setDrawn d0) hx hb hown hml hl.1 (hts d0 _ hw_X4_init_1) (hts d0 _ hw_X4_init_2) (hts d0 _ hw_X4_init_3) dX4_init_1 (Nat.le_of_ble_eq_true rfl) (Nat.le_of_ble_eq_true rfl) ?_
  refine lv_aload_n hx hb dX4_init_4 rfl (lv_at hl 0 rfl) ?_
  refine lv_iload_n hx hb dX4_init_5 rfl (lv_at hl 1 rfl) ?_
  refine xnewq (G := G) (s := s.setDrawn d0) (C := "PlankUnroll$Place") hx hb hown (hts d0 _ hw_X4_init_4) (va_AO.moved (Vm.Alike.refl _) (hK.2.2.2.2.2.2.2.2.2.1 "PlankUnroll$Place" (by decide))) hK.1 4 rfl hS (by omega) (show 0 + 1 ≤ 9 by omega) (show 0 + n ≤ 40 by omega) dX4_init_6 (fun q_1 H_1 hg_1 hS => ?_)
  have e_1 : q_1 = H.size + 0 := hg_1.2.1.symm.trans rfl
  subst e_1
  have hz_1 : H_1.size = H.size + 1 := hg_1.2.2.1
  have hfr_1 : xOld q0 H H_1 := xOld.grow xOld.rf hg_1
  refine xputF (G := G) (ci := 5) (v := .ref (H.size + 0)) (ty := (.array (.object "PlankUnroll$Place"))) (C := RX4) (T := TX4) (N := 1) hx hb (hts d0) in_X4_init_X4 tyX4 tyX4_ok nmX4 hown hK.1 (hg_1.keep hc0) hS hq0 rfl 0 (by decide) (hts d0 _ hw_X4_init_5) (fun _ h9 => h9) rfl hnm0 rfl (by decide +kernel) rfl rfl (Nat.le_of_ble_eq_true rfl) dX4_init_9 (fun H_2 locs_2 hs_2 hS => ?_)
  have hc_2 : xc G q0 (.inr (5, [.ref (H.size + 0)])) H_2 := hs_2.1
  have hz_2 : H_2.size = H.size + 1 := hs_2.2.1.trans hz_1
  have hfr_2 : xOld q0 H H_2 := xOld.put hfr_1 hs_2 (Or.inl rfl)
  refine lv_iconst (v := nI 0) hx hb dX4_init_12 (by decide) ?_
  refine lv_istore_n (lv' := [(2, .int (nI 0)), (0, .ref q0), (1, .int (nI n))]) hx hb dX4_init_13 rfl hl (by decide) rfl (fun ls hl => ?_)
  suffices K : ∀ (u9 : Nat) (k : Nat) (ct9 sl9 : Nat) (H9 : Heap) (locs : List Loc) (d0 : Drawn) (ls : Array Slot), (k + u9 = n ∧ ct9 ≤ 1 + k ∧ sl9 ≤ n + 3 * k ∧ xc G q0 (.inr (5, [.ref (H.size + 0)])) H9 ∧ xc G (H.size + 0) (.inl (ty 4, n, .inr (.inr (.inr (.inr (xsq (fun j => H.size + 1 + j) k)))))) H9 ∧ (∀ j : Nat, j < k → xc G (H.size + 1 + j) xZp H9) ∧ H9.size = H.size + (1 + k) ∧ xOld q0 H H9) → va_S (xA b0) s.heap H9 locs → s.drawn.sameBut d0 lw_cs → lv_has ls 3 [(2, .int (nI k)), (0, .ref q0), (1, .int (nI n))] → W p l e rm_X4_init (s.setDrawn d0) m [Value.ref q0, Value.int (nI n)].toArray below meth c H9 locs ct9 sl9 (xMQ below (fun v H1 => v = none ∧ xRow G ty q0 H.size n H1 ∧ H1.size = H.size + 1 + n ∧ xOld q0 H H1) (fun _ _ => False) [.ref q0, .int (nI n)].toArray s rm_X4_init b0) (F0 m 14 ls []) from K n 0 (0 + 1) (0 + n) H_2 _ d0 ls ⟨by omega, by omega, by omega, hc_2, (xsq_0 (g := fun j => H.size + 1 + j)) ▸ (hg_1.1.kept (hs_2.2.2 _ (Nat.ne_of_gt (Nat.lt_add_right _ hlq)))), fun _ h => absurd h (Nat.not_lt_zero _), by rw [hz_2], hfr_2⟩ hS hd0 (lv_sub hl [0, 1, 2] rfl)
  intro u9
  induction u9 with
  | zero =>
    intro k ct9 sl9 H9 locs d0 ls hinv hS hd0 hl
    obtain ⟨hk, hct, hsl, h_o, h_a, hpl, hz9, hfr9⟩ := hinv
    refine lv_iload_n hx hb dX4_init_14 rfl (lv_at hl 0 rfl) ?_
    refine lv_iload_n hx hb dX4_init_15 rfl (lv_at hl 2 rfl) ?_
    refine xicmpN_ge (tgt := 38) hx hb (by omega) (by omega) dX4_init_16 (by decide) (fun _ => ?_) (fun h9 => absurd h9 (by omega))
    exact xvret hd0 hx hb hr hlocks hS (show ct9 ≤ 9 by omega) (show sl9 ≤ 40 by omega) dX4_init_38 ((by have e9 : k = n := (by omega); subst e9; exact ⟨rfl, ⟨h_o, xsq_all h_a, hpl⟩, by omega, hfr9⟩))
  | succ u9 ih =>
    intro k ct9 sl9 H9 locs d0 ls hinv hS hd0 hl
    obtain ⟨hk, hct, hsl, h_o, h_a, hpl, hz9, hfr9⟩ := hinv
    refine lv_iload_n hx hb dX4_init_14 rfl (lv_at hl 0 rfl) ?_
    refine lv_iload_n hx hb dX4_init_15 rfl (lv_at hl 2 rfl) ?_
    refine xicmpN_ge (tgt := 38) hx hb (by omega) (by omega) dX4_init_16 (by decide) (fun h9 => absurd h9 (by omega)) (fun _ => ?_)
    refine lv_aload_n hx hb dX4_init_19 rfl (lv_at hl 1 rfl) ?_
    refine va_get (D := G) (cl := vwCl) (ci := 5) (v := .ref (H.size + 0)) (C := RX4) (T := TX4) (N := 1) hx hb (hts d0) in_X4_init_X4 hown hK.1 (x1 h_o) 0 rfl rfl 0 (by decide) (hts d0 _ hw_X4_init_5) (fun _ h9 => h9) rfl dX4_init_20 ?_
    refine lv_iload_n hx hb dX4_init_23 rfl (lv_at hl 0 rfl) ?_
    refine xnew (G := G) (s := s.setDrawn d0) (fs := [.double FP.dconst0, .double FP.dconst0, .double FP.dconst0]) hx hb (hts d0) in_X4_init_X3 tyX3 tyX3_ok hown (hts d0 _ hw_X4_init_4) (hts d0 _ hw_X4_init_6) (hts d0 _ hw_X4_init_7) hK.1 hS (ci := 4) rfl nB_X3 (show ct9 + 1 ≤ 9 by omega) (show sl9 + 3 ≤ 40 by omega) dX4_init_24 (fun q_5 H_5 hg_5 hS => ?_)
    have e_5 : q_5 = H.size + (1 + k) := hg_5.2.1.symm.trans hz9
    subst e_5
    have hz_5 : H_5.size = H.size + ((1 + k) + 1) := (by rw [hg_5.2.2.1]; omega)
    have hfr_5 : xOld q0 H H_5 := xOld.grow hfr9 hg_5
    refine lv_dup hx hb dX4_init_27 rfl ?_
    have cw_6 := va_cnB (R := rm_X4_init) (rm := rm_X3_init) (index := 15) 0 (hts d0) gX4_init_X3_init_n15 rfl rfl rfl (va_Nw.same (u := s) rfl rfl (hK.2.2.2.1 _ (List.mem_of_getElem? (i := 3) rfl))) (hts d0 _ hw_X4_init_7) (by decide +kernel) ⟨Nat.le_of_ble_eq_true rfl, Nat.le_of_ble_eq_true rfl⟩
    refine xcall hd0 (xintoIN (b := (H.size + (1 + k))) (As := []) (rest := [.ref (H.size + (1 + k)), .int (nI k), .ref (H.size + 0)]) ⟨hx, hb, hml, hown, hts _⟩ ⟨cw_6, rfl, (hts d0 _ hw_X4_init_8)⟩ rfl rfl hl.1 rfl (lv_room (Nat.le_of_ble_eq_true rfl)) dX4_init_28) (c_X3_init (l := l) (G := G) (ty := ty) (b0 := b0) (q0 := (H.size + (1 + k)))) (xoweN cw_6) hK hb0 hS (show ct9 + 1 + 0 ≤ 9 by omega) (show sl9 + 3 + 0 ≤ 40 by omega) (fun E_6 ce_6 q9_6 H_6 locs_6 d0 hd0 hp_6 hS hce_6 hcv_6 hcl_6 => ?_) (fun v_6 H_6 locs_6 d0 hd0 hp_6 hS => ?_)
    · exact hp_6.elim
    · obtain ⟨rfl, rfl⟩ := hp_6
      show W p l e _ (s.setDrawn _) m _ below meth c _ _ _ _ _ (F0 m 31 ls [.ref (H.size + (1 + k)), .int (nI k), .ref (H.size + 0)])
      refine xaast (s := s.setDrawn d0) (j := k) hx hb hK.1 4 4 (hg_5.keep h_a) hg_5.1 hS (Nat.le_trans hbH (Nat.le_add_right _ _)) rfl rfl (xix_of (by omega) (by omega)) dX4_init_31 (fun H_7 locs_7 hs_7 hS => ?_)
      have hc_7 : xc G (H.size + 0) (.inl (ty 4, n, .inr (.inr (.inr (.inr ((va_up (xsq (fun j => H.size + 1 + j) k) k (some (H.size + (1 + k)))))))))) H_7 := hs_7.1
      have hz_7 : H_7.size = H.size + ((1 + k) + 1) := hs_7.2.1.trans hz_5
      have hfr_7 : xOld q0 H H_7 := xOld.put hfr_5 hs_7 (Or.inr (Nat.le_add_right _ _))
      have z_new : xc G (H.size + (1 + k)) xZp H_7 := (hg_5.1.kept (hs_7.2.2 _ (by omega)))
      refine xiincN (x := k) (y := 1) (lv' := [(2, .int (nI (k + 1))), (0, .ref q0), (1, .int (nI n))]) hx hb dX4_init_32 hl (k := 0) rfl (by decide) (by decide) rfl (fun ls hl => ?_)
      refine lv_goto (tgt := 14) hx hb dX4_init_35 (by decide) ?_
      exact ih (k + 1) (ct9 + 1 + 0) (sl9 + 3 + 0) H_7 _ d0 ls ⟨by omega, by omega, by omega, ((hg_5.keep h_o).kept (hs_7.2.2 _ (Nat.ne_of_lt (Nat.lt_add_right _ hlq)))), (xsq_up (g := fun j => H.size + 1 + j) (k := k) (by show H.size + (1 + k) = H.size + 1 + k; omega)) ▸ hc_7, (fun j hj => by by_cases e : j = k; subst e; rw [show H.size + 1 + j = H.size + (1 + j) by omega]; exact z_new; exact (hg_5.keep (hpl j (by omega))).kept (hs_7.2.2 _ (by omega))), by rw [hz_7]; omega, hfr_7⟩ hS hd0 (lv_sub hl [0, 1, 2] rfl)
/-- a new strip, its own cells at B on -/
def xStp (G : va_G) (ty : Nat → ClassId) (q0 q1 q2 B n : Nat) (H : Heap) : Prop := xc G q0 (.inr (6, [.ref q1, .ref q2, .ref B, .ref (B + 1), .ref (B + 2), .ref (B + 3), .int (nI 0), .int (-1), .int (-1)])) H ∧ xc G B (.inl (ty 0, 2 * n, .inr (.inr (.inr (.inl (fun _ => FP.dconst0)))))) H ∧ xc G (B + 1) (.inl (ty 0, 2 * n, .inr (.inr (.inr (.inl (fun _ => FP.dconst0)))))) H ∧ xc G (B + 2) (.inl (ty 2, n, .inl (fun _ => nI 0))) H ∧ xc G (B + 3) (.inr (2, [.double FP.dconst0, .double FP.dconst0, .double FP.dconst0, .double FP.dconst0])) H
theorem xStp.kept {G : va_G} {ty : Nat → ClassId} {q0 q1 q2 B n : Nat} {H H1 : Heap} (h : xStp G ty q0 q1 q2 B n H) (h0 : H1[q0]? = H[q0]?) (hk : ∀ q : Nat, B ≤ q → q < B + 4 → H1[q]? = H[q]?) : xStp G ty q0 q1 q2 B n H1 := ⟨h.1.kept h0, h.2.1.kept (hk _ (by omega) (by omega)), h.2.2.1.kept (hk _ (by omega) (by omega)), h.2.2.2.1.kept (hk _ (by omega) (by omega)), h.2.2.2.2.kept (hk _ (by omega) (by omega))⟩
set_option maxRecDepth 20000 in
theorem ggX5_init_X1_init : GoodIn wsX5_init wsX1_init := goodIn_r _ [19, 20, 2, 3, 21, 22, 23, 24, 34, 35, 36, 37] (by decide +kernel) (by decide +kernel)
set_option maxRecDepth 20000 in
theorem gX5_init_X1_init : GoodIn wsX5_init (wsX1_init) := ggX5_init_X1_init
theorem dX5_init_0 : decode cX5_init 0 = .ok (.aload_n 0, 1) := by decide +kernel
theorem dX5_init_1 : decode cX5_init 1 = .ok (.invokespecial 3, 3) := by decide +kernel
theorem dX5_init_4 : decode cX5_init 4 = .ok (.aload_n 0, 1) := by decide +kernel
theorem dX5_init_5 : decode cX5_init 5 = .ok (.aload_n 1, 1) := by decide +kernel
theorem dX5_init_6 : decode cX5_init 6 = .ok (.putfield 9, 3) := by decide +kernel
theorem dX5_init_9 : decode cX5_init 9 = .ok (.aload_n 0, 1) := by decide +kernel
theorem dX5_init_10 : decode cX5_init 10 = .ok (.aload_n 2, 1) := by decide +kernel
theorem dX5_init_11 : decode cX5_init 11 = .ok (.putfield 15, 3) := by decide +kernel
theorem dX5_init_14 : decode cX5_init 14 = .ok (.aload_n 0, 1) := by decide +kernel
theorem dX5_init_15 : decode cX5_init 15 = .ok (.iconst 2, 1) := by decide +kernel
theorem dX5_init_16 : decode cX5_init 16 = .ok (.iload_n 3, 1) := by decide +kernel
theorem dX5_init_17 : decode cX5_init 17 = .ok (.imul, 1) := by decide +kernel
theorem dX5_init_18 : decode cX5_init 18 = .ok (.newarray .double, 2) := by decide +kernel
theorem dX5_init_20 : decode cX5_init 20 = .ok (.putfield 18, 3) := by decide +kernel
theorem dX5_init_23 : decode cX5_init 23 = .ok (.aload_n 0, 1) := by decide +kernel
theorem dX5_init_24 : decode cX5_init 24 = .ok (.iconst 2, 1) := by decide +kernel
theorem dX5_init_25 : decode cX5_init 25 = .ok (.iload_n 3, 1) := by decide +kernel
theorem dX5_init_26 : decode cX5_init 26 = .ok (.imul, 1) := by decide +kernel
theorem dX5_init_27 : decode cX5_init 27 = .ok (.newarray .double, 2) := by decide +kernel
theorem dX5_init_29 : decode cX5_init 29 = .ok (.putfield 22, 3) := by decide +kernel
theorem dX5_init_32 : decode cX5_init 32 = .ok (.aload_n 0, 1) := by decide +kernel
theorem dX5_init_33 : decode cX5_init 33 = .ok (.iload_n 3, 1) := by decide +kernel
theorem dX5_init_34 : decode cX5_init 34 = .ok (.newarray .boolean, 2) := by decide +kernel
theorem dX5_init_36 : decode cX5_init 36 = .ok (.putfield 25, 3) := by decide +kernel
theorem dX5_init_39 : decode cX5_init 39 = .ok (.aload_n 0, 1) := by decide +kernel
theorem dX5_init_40 : decode cX5_init 40 = .ok (.new 29, 3) := by decide +kernel
theorem dX5_init_43 : decode cX5_init 43 = .ok (.dup, 1) := by decide +kernel
theorem dX5_init_44 : decode cX5_init 44 = .ok (.dconst 0, 1) := by decide +kernel
theorem dX5_init_45 : decode cX5_init 45 = .ok (.dconst 0, 1) := by decide +kernel
theorem dX5_init_46 : decode cX5_init 46 = .ok (.dconst 0, 1) := by decide +kernel
theorem dX5_init_47 : decode cX5_init 47 = .ok (.dconst 0, 1) := by decide +kernel
theorem dX5_init_48 : decode cX5_init 48 = .ok (.invokespecial 31, 3) := by decide +kernel
theorem dX5_init_51 : decode cX5_init 51 = .ok (.putfield 34, 3) := by decide +kernel
theorem dX5_init_54 : decode cX5_init 54 = .ok (.aload_n 0, 1) := by decide +kernel
theorem dX5_init_55 : decode cX5_init 55 = .ok (.iconst (-1), 1) := by decide +kernel
theorem dX5_init_56 : decode cX5_init 56 = .ok (.putfield 38, 3) := by decide +kernel
theorem dX5_init_59 : decode cX5_init 59 = .ok (.aload_n 0, 1) := by decide +kernel
theorem dX5_init_60 : decode cX5_init 60 = .ok (.iconst (-1), 1) := by decide +kernel
theorem dX5_init_61 : decode cX5_init 61 = .ok (.putfield 42, 3) := by decide +kernel
theorem dX5_init_64 : decode cX5_init 64 = .ok (.return_, 1) := by decide +kernel
abbrev rm_X5_init : Room := { frames := 4, cells := 4, slots := 60, locals := 100 }
theorem hw_X5_init_1 : (Cond.methodLink RX5 3 objectInit) ∈ wsX5_init := List.mem_of_getElem? (i := 1) rfl
theorem hw_X5_init_2 : (Cond.instanceMethod objectInit) ∈ wsX5_init := List.mem_of_getElem? (i := 2) rfl
theorem hw_X5_init_3 : (Cond.code objectInit ⟨#[0xb1]⟩ 1 none) ∈ wsX5_init := List.mem_of_getElem? (i := 3) rfl
theorem hw_X5_init_4 : (Cond.fieldLink RX5 9 "PlankUnroll$Strip" "a" "LPlankUnroll$Row;") ∈ wsX5_init := List.mem_of_getElem? (i := 4) rfl
theorem hw_X5_init_5 : (Cond.fieldLink RX5 15 "PlankUnroll$Strip" "b" "LPlankUnroll$Row;") ∈ wsX5_init := List.mem_of_getElem? (i := 5) rfl
theorem hw_X5_init_6 : (Cond.arrayClass .double) ∈ wsX5_init := List.mem_of_getElem? (i := 6) rfl
theorem hw_X5_init_7 : (Cond.fieldLink RX5 18 "PlankUnroll$Strip" "cornerX" "[D") ∈ wsX5_init := List.mem_of_getElem? (i := 7) rfl
theorem hw_X5_init_8 : (Cond.fieldLink RX5 22 "PlankUnroll$Strip" "cornerY" "[D") ∈ wsX5_init := List.mem_of_getElem? (i := 8) rfl
theorem hw_X5_init_9 : (Cond.arrayClass .boolean) ∈ wsX5_init := List.mem_of_getElem? (i := 9) rfl
theorem hw_X5_init_10 : (Cond.fieldLink RX5 25 "PlankUnroll$Strip" "butts" "[Z") ∈ wsX5_init := List.mem_of_getElem? (i := 10) rfl
theorem hw_X5_init_11 : (Cond.classLink RX5 29 RX1) ∈ wsX5_init := List.mem_of_getElem? (i := 11) rfl
theorem hw_X5_init_12 : (Cond.instantiable RX1 4) ∈ wsX5_init := List.mem_of_getElem? (i := 12) rfl
theorem hw_X5_init_13 : (Cond.initialized RX1) ∈ wsX5_init := List.mem_of_getElem? (i := 13) rfl
theorem hw_X5_init_14 : (Cond.fieldLink RX5 34 "PlankUnroll$Strip" "box" "LPlankUnroll$Box;") ∈ wsX5_init := List.mem_of_getElem? (i := 14) rfl
theorem hw_X5_init_15 : (Cond.fieldLink RX5 38 "PlankUnroll$Strip" "board" "I") ∈ wsX5_init := List.mem_of_getElem? (i := 15) rfl
theorem hw_X5_init_16 : (Cond.fieldLink RX5 42 "PlankUnroll$Strip" "eighths" "I") ∈ wsX5_init := List.mem_of_getElem? (i := 16) rfl
theorem hw_X5_init_17 : (Cond.methodLink RX5 31 yX1_init) ∈ wsX5_init := List.mem_of_getElem? (i := 17) rfl
theorem hw_X5_init_18 : (Cond.instanceMethod yX1_init) ∈ wsX5_init := List.mem_of_getElem? (i := 18) rfl
theorem in_X5_init_X1 : ∀ w ∈ wsX10, w ∈ wsX5_init := by decide +kernel
theorem in_X5_init_X5 : ∀ w ∈ wsX50, w ∈ wsX5_init := by decide +kernel
set_option maxHeartbeats 4000000 in
set_option maxRecDepth 100000 in
/-- a new strip -/
theorem c_X5_init {l : Launch} {G : va_G} {ty : Nat → ClassId} {b0 : Nat} {H : Heap} {q0 q1 q2 n : Nat} (hq0 : b0 ≤ q0) (hn : n ≤ 8) (hc0 : xc G q0 (.inr (6, [.null, .null, .null, .null, .null, .null, .int (nI 0), .int (nI 0), .int (nI 0)])) H) : xMet l yX5_init wsX5_init rm_X5_init G ty b0 [.ref q0, .ref q1, .ref q2, .int (nI n)] H (fun v H1 => v = none ∧ xStp G ty q0 q1 q2 H.size n H1 ∧ H1.size = H.size + 4 ∧ xOld q0 H H1) (fun _ _ => False) := by
  refine xbody (cc := cX5_init) (maxL := 4) (ret := none) (C := RX5) (lv := [(0, .ref q0), (1, .ref q1), (2, .ref q2), (3, .int (nI n))]) (by decide) rfl rfl (Nat.le_of_ble_eq_true rfl) rfl ?_
  intro p e s m below meth c d0 hx hb hr hts hown hlocks hml hxt hnm0 hK hb0 hH0 hS hd0 ls hl
  have hbH : b0 ≤ H.size := by rw [← hH0]; exact hb0
  have hlq : q0 < H.size := hc0.lt
  refine lv_aload_n hx hb dX5_init_0 rfl (lv_at hl 0 rfl) ?_
  refine xobj (s := s.setDrawn d0) hx hb hown hml hl.1 (hts d0 _ hw_X5_init_1) (hts d0 _ hw_X5_init_2) (hts d0 _ hw_X5_init_3) dX5_init_1 (Nat.le_of_ble_eq_true rfl) (Nat.le_of_ble_eq_true rfl) ?_
  refine lv_aload_n hx hb dX5_init_4 rfl (lv_at hl 0 rfl) ?_
  refine lv_aload_n hx hb dX5_init_5 rfl (lv_at hl 1 rfl) ?_
  refine xputF (G := G) (ci := 6) (v := .ref q1) (ty := (.object "PlankUnroll$Row")) (C := RX5) (T := TX5) (N := 9) hx hb (hts d0) in_X5_init_X5 tyX5 tyX5_ok nmX5 hown hK.1 hc0 hS hq0 rfl 0 (by decide) (hts d0 _ hw_X5_init_4) (fun _ h9 => h9) rfl hnm0 rfl (by decide +kernel) rfl rfl (Nat.le_of_ble_eq_true rfl) dX5_init_6 (fun H_1 locs_1 hs_1 hS => ?_)
  have hc_1 : xc G q0 (.inr (6, [.ref q1, .null, .null, .null, .null, .null, .int (nI 0), .int (nI 0), .int (nI 0)])) H_1 := hs_1.1
  have hz_1 : H_1.size = H.size + 0 := hs_1.2.1.trans rfl
  have hfr_1 : xOld q0 H H_1 := xOld.put xOld.rf hs_1 (Or.inl rfl)
  refine lv_aload_n hx hb dX5_init_9 rfl (lv_at hl 0 rfl) ?_
  refine lv_aload_n hx hb dX5_init_10 rfl (lv_at hl 2 rfl) ?_
  refine xputF (G := G) (ci := 6) (v := .ref q2) (ty := (.object "PlankUnroll$Row")) (C := RX5) (T := TX5) (N := 9) hx hb (hts d0) in_X5_init_X5 tyX5 tyX5_ok nmX5 hown hK.1 hc_1 hS hq0 rfl 1 (by decide) (hts d0 _ hw_X5_init_5) (fun _ h9 => h9) rfl hnm0 rfl (by decide +kernel) rfl rfl (Nat.le_of_ble_eq_true rfl) dX5_init_11 (fun H_2 locs_2 hs_2 hS => ?_)
  have hc_2 : xc G q0 (.inr (6, [.ref q1, .ref q2, .null, .null, .null, .null, .int (nI 0), .int (nI 0), .int (nI 0)])) H_2 := hs_2.1
  have hz_2 : H_2.size = H.size + 0 := hs_2.2.1.trans hz_1
  have hfr_2 : xOld q0 H H_2 := xOld.put hfr_1 hs_2 (Or.inl rfl)
  refine lv_aload_n hx hb dX5_init_14 rfl (lv_at hl 0 rfl) ?_
  refine lv_iconst (v := nI 2) hx hb dX5_init_15 (by decide) ?_
  refine lv_iload_n hx hb dX5_init_16 rfl (lv_at hl 3 rfl) ?_
  refine ximulN hx hb dX5_init_17 ?_
  refine xnewaD (G := G) (s := s.setDrawn d0) hx hb (hts d0 _ hw_X5_init_6) hK.1 0 rfl hS (by omega) (show 0 + 1 ≤ 4 by omega) (show 0 + 2 * n ≤ 60 by omega) dX5_init_18 (fun q_3 H_3 hg_3 hS => ?_)
  have e_3 : q_3 = H.size + 0 := hg_3.2.1.symm.trans hz_2
  subst e_3
  have hz_3 : H_3.size = H.size + 1 := hg_3.2.2.1
  have hfr_3 : xOld q0 H H_3 := xOld.grow hfr_2 hg_3
  refine xputF (G := G) (ci := 6) (v := .ref (H.size + 0)) (ty := (.array .double)) (C := RX5) (T := TX5) (N := 9) hx hb (hts d0) in_X5_init_X5 tyX5 tyX5_ok nmX5 hown hK.1 (hg_3.keep hc_2) hS hq0 rfl 2 (by decide) (hts d0 _ hw_X5_init_7) (fun _ h9 => h9) rfl hnm0 rfl (by decide +kernel) rfl rfl (Nat.le_of_ble_eq_true rfl) dX5_init_20 (fun H_4 locs_4 hs_4 hS => ?_)
  have hc_4 : xc G q0 (.inr (6, [.ref q1, .ref q2, .ref (H.size + 0), .null, .null, .null, .int (nI 0), .int (nI 0), .int (nI 0)])) H_4 := hs_4.1
  have hz_4 : H_4.size = H.size + 1 := hs_4.2.1.trans hz_3
  have hfr_4 : xOld q0 H H_4 := xOld.put hfr_3 hs_4 (Or.inl rfl)
  refine lv_aload_n hx hb dX5_init_23 rfl (lv_at hl 0 rfl) ?_
  refine lv_iconst (v := nI 2) hx hb dX5_init_24 (by decide) ?_
  refine lv_iload_n hx hb dX5_init_25 rfl (lv_at hl 3 rfl) ?_
  refine ximulN hx hb dX5_init_26 ?_
  refine xnewaD (G := G) (s := s.setDrawn d0) hx hb (hts d0 _ hw_X5_init_6) hK.1 0 rfl hS (by omega) (show 0 + 1 + 1 ≤ 4 by omega) (show 0 + 2 * n + 2 * n ≤ 60 by omega) dX5_init_27 (fun q_5 H_5 hg_5 hS => ?_)
  have e_5 : q_5 = H.size + 1 := hg_5.2.1.symm.trans hz_4
  subst e_5
  have hz_5 : H_5.size = H.size + 2 := hg_5.2.2.1
  have hfr_5 : xOld q0 H H_5 := xOld.grow hfr_4 hg_5
  refine xputF (G := G) (ci := 6) (v := .ref (H.size + 1)) (ty := (.array .double)) (C := RX5) (T := TX5) (N := 9) hx hb (hts d0) in_X5_init_X5 tyX5 tyX5_ok nmX5 hown hK.1 (hg_5.keep hc_4) hS hq0 rfl 3 (by decide) (hts d0 _ hw_X5_init_8) (fun _ h9 => h9) rfl hnm0 rfl (by decide +kernel) rfl rfl (Nat.le_of_ble_eq_true rfl) dX5_init_29 (fun H_6 locs_6 hs_6 hS => ?_)
  have hc_6 : xc G q0 (.inr (6, [.ref q1, .ref q2, .ref (H.size + 0), .ref (H.size + 1), .null, .null, .int (nI 0), .int (nI 0), .int (nI 0)])) H_6 := hs_6.1
  have hz_6 : H_6.size = H.size + 2 := hs_6.2.1.trans hz_5
  have hfr_6 : xOld q0 H H_6 := xOld.put hfr_5 hs_6 (Or.inl rfl)
  refine lv_aload_n hx hb dX5_init_32 rfl (lv_at hl 0 rfl) ?_
  refine lv_iload_n hx hb dX5_init_33 rfl (lv_at hl 3 rfl) ?_
  refine xnewaZ (G := G) (s := s.setDrawn d0) hx hb (hts d0 _ hw_X5_init_9) hK.1 2 rfl hS (by omega) (show 0 + 1 + 1 + 1 ≤ 4 by omega) (show 0 + 2 * n + 2 * n + n ≤ 60 by omega) dX5_init_34 (fun q_7 H_7 hg_7 hS => ?_)
  have e_7 : q_7 = H.size + 2 := hg_7.2.1.symm.trans hz_6
  subst e_7
  have hz_7 : H_7.size = H.size + 3 := hg_7.2.2.1
  have hfr_7 : xOld q0 H H_7 := xOld.grow hfr_6 hg_7
  refine xputF (G := G) (ci := 6) (v := .ref (H.size + 2)) (ty := (.array .boolean)) (C := RX5) (T := TX5) (N := 9) hx hb (hts d0) in_X5_init_X5 tyX5 tyX5_ok nmX5 hown hK.1 (hg_7.keep hc_6) hS hq0 rfl 4 (by decide) (hts d0 _ hw_X5_init_10) (fun _ h9 => h9) rfl hnm0 rfl (by decide +kernel) rfl rfl (Nat.le_of_ble_eq_true rfl) dX5_init_36 (fun H_8 locs_8 hs_8 hS => ?_)
  have hc_8 : xc G q0 (.inr (6, [.ref q1, .ref q2, .ref (H.size + 0), .ref (H.size + 1), .ref (H.size + 2), .null, .int (nI 0), .int (nI 0), .int (nI 0)])) H_8 := hs_8.1
  have hz_8 : H_8.size = H.size + 3 := hs_8.2.1.trans hz_7
  have hfr_8 : xOld q0 H H_8 := xOld.put hfr_7 hs_8 (Or.inl rfl)
  refine lv_aload_n hx hb dX5_init_39 rfl (lv_at hl 0 rfl) ?_
  refine xnew (G := G) (s := s.setDrawn d0) (fs := [.double FP.dconst0, .double FP.dconst0, .double FP.dconst0, .double FP.dconst0]) hx hb (hts d0) in_X5_init_X1 tyX1 tyX1_ok hown (hts d0 _ hw_X5_init_11) (hts d0 _ hw_X5_init_12) (hts d0 _ hw_X5_init_13) hK.1 hS (ci := 2) rfl nB_X1 (show 0 + 1 + 1 + 1 + 1 ≤ 4 by omega) (show 0 + 2 * n + 2 * n + n + 4 ≤ 60 by omega) dX5_init_40 (fun q_9 H_9 hg_9 hS => ?_)
  have e_9 : q_9 = H.size + 3 := hg_9.2.1.symm.trans hz_8
  subst e_9
  have hz_9 : H_9.size = H.size + 4 := hg_9.2.2.1
  have hfr_9 : xOld q0 H H_9 := xOld.grow hfr_8 hg_9
  refine lv_dup hx hb dX5_init_43 rfl ?_
  refine lv_dconst0 hx hb dX5_init_44 ?_
  refine lv_dconst0 hx hb dX5_init_45 ?_
  refine lv_dconst0 hx hb dX5_init_46 ?_
  refine lv_dconst0 hx hb dX5_init_47 ?_
  have cw_10 := cwI (R := rm_X5_init) (rm := rm_X1_init) 4 (hts d0) gX5_init_X1_init rfl rfl rfl (hts d0 _ hw_X5_init_13) (hts d0 _ hw_X5_init_17) (hts d0 _ hw_X5_init_18) rfl (by decide +kernel) ⟨Nat.le_of_ble_eq_true rfl, Nat.le_of_ble_eq_true rfl⟩
  refine xcall hd0 (xintoI (b := (H.size + 3)) (As := [.double FP.dconst0, .double FP.dconst0, .double FP.dconst0, .double FP.dconst0]) (rest := [.ref (H.size + 3), .ref q0]) ⟨hx, hb, hml, hown, hts _⟩ cw_10 rfl rfl hl.1 rfl (lv_room (Nat.le_of_ble_eq_true rfl)) dX5_init_48) (c_X1_init (l := l) (G := G) (ty := ty) (b0 := b0) (Nat.le_trans hbH (Nat.le_add_right _ _)) hg_9.1) (xoweB cw_10.1) hK hb0 hS (show 0 + 1 + 1 + 1 + 1 + 0 ≤ 4 by omega) (show 0 + 2 * n + 2 * n + n + 4 + 0 ≤ 60 by omega) (fun E_10 ce_10 q9_10 H_10 locs_10 d0 hd0 hp_10 hS hce_10 hcv_10 hcl_10 => ?_) (fun v_10 H_10 locs_10 d0 hd0 hp_10 hS => ?_)
  · exact hp_10.elim
  · obtain ⟨rfl, hs_10⟩ := hp_10
    have hc_10 : xc G (H.size + 3) (.inr (2, [.double FP.dconst0, .double FP.dconst0, .double FP.dconst0, .double FP.dconst0])) H_10 := hs_10.1
    have hz_10 : H_10.size = H.size + 4 := hs_10.2.1.trans hz_9
    have hfr_10 : xOld q0 H H_10 := xOld.put hfr_9 hs_10 (Or.inr (Nat.le_add_right _ _))
    show W p l e _ (s.setDrawn _) m _ below meth c _ _ _ _ _ (F0 m 51 ls [.ref (H.size + 3), .ref q0])
    refine xputF (G := G) (ci := 6) (v := .ref (H.size + 3)) (ty := (.object "PlankUnroll$Box")) (C := RX5) (T := TX5) (N := 9) hx hb (hts d0) in_X5_init_X5 tyX5 tyX5_ok nmX5 hown hK.1 ((hg_9.keep hc_8).kept (hs_10.2.2 _ (Nat.ne_of_lt (Nat.lt_add_right _ hlq)))) hS hq0 rfl 5 (by decide) (hts d0 _ hw_X5_init_14) (fun _ h9 => h9) rfl hnm0 rfl (by decide +kernel) rfl rfl (Nat.le_of_ble_eq_true rfl) dX5_init_51 (fun H_11 locs_11 hs_11 hS => ?_)
    have hc_11 : xc G q0 (.inr (6, [.ref q1, .ref q2, .ref (H.size + 0), .ref (H.size + 1), .ref (H.size + 2), .ref (H.size + 3), .int (nI 0), .int (nI 0), .int (nI 0)])) H_11 := hs_11.1
    have hz_11 : H_11.size = H.size + 4 := hs_11.2.1.trans hz_10
    have hfr_11 : xOld q0 H H_11 := xOld.put hfr_10 hs_11 (Or.inl rfl)
    refine lv_aload_n hx hb dX5_init_54 rfl (lv_at hl 0 rfl) ?_
    refine lv_iconst (v := (-1)) hx hb dX5_init_55 (by decide) ?_
    refine xput (G := G) (ci := 6) (v := .int ((-1))) (ty := .int) (C := RX5) (T := TX5) (N := 9) hx hb (hts d0) in_X5_init_X5 tyX5 tyX5_ok nmX5 hown hK.1 hc_11 hS hq0 rfl 7 (by decide) (hts d0 _ hw_X5_init_15) (fun _ h9 => h9) rfl (by decide +kernel) rfl rfl (Nat.le_of_ble_eq_true rfl) dX5_init_56 (fun H_12 locs_12 hs_12 hS => ?_)
    have hc_12 : xc G q0 (.inr (6, [.ref q1, .ref q2, .ref (H.size + 0), .ref (H.size + 1), .ref (H.size + 2), .ref (H.size + 3), .int (nI 0), .int ((-1)), .int (nI 0)])) H_12 := hs_12.1
    have hz_12 : H_12.size = H.size + 4 := hs_12.2.1.trans hz_11
    have hfr_12 : xOld q0 H H_12 := xOld.put hfr_11 hs_12 (Or.inl rfl)
    refine lv_aload_n hx hb dX5_init_59 rfl (lv_at hl 0 rfl) ?_
    refine lv_iconst (v := (-1)) hx hb dX5_init_60 (by decide) ?_
    refine xput (G := G) (ci := 6) (v := .int ((-1))) (ty := .int) (C := RX5) (T := TX5) (N := 9) hx hb (hts d0) in_X5_init_X5 tyX5 tyX5_ok nmX5 hown hK.1 hc_12 hS hq0 rfl 8 (by decide) (hts d0 _ hw_X5_init_16) (fun _ h9 => h9) rfl (by decide +kernel) rfl rfl (Nat.le_of_ble_eq_true rfl) dX5_init_61 (fun H_13 locs_13 hs_13 hS => ?_)
    have hc_13 : xc G q0 (.inr (6, [.ref q1, .ref q2, .ref (H.size + 0), .ref (H.size + 1), .ref (H.size + 2), .ref (H.size + 3), .int (nI 0), .int ((-1)), .int ((-1))])) H_13 := hs_13.1
    have hz_13 : H_13.size = H.size + 4 := hs_13.2.1.trans hz_12
    have hfr_13 : xOld q0 H H_13 := xOld.put hfr_12 hs_13 (Or.inl rfl)
    exact xvret hd0 hx hb hr hlocks hS (show 0 + 1 + 1 + 1 + 1 + 0 ≤ 4 by omega) (show 0 + 2 * n + 2 * n + n + 4 + 0 ≤ 60 by omega) dX5_init_64 ⟨rfl, ⟨hc_13, (((((hg_9.keep ((hg_7.keep ((hg_5.keep (hg_3.1.kept (hs_4.2.2 _ (Nat.ne_of_gt (Nat.lt_add_right _ hlq))))).kept (hs_6.2.2 _ (Nat.ne_of_gt (Nat.lt_add_right _ hlq))))).kept (hs_8.2.2 _ (Nat.ne_of_gt (Nat.lt_add_right _ hlq))))).kept (hs_10.2.2 _ (by omega))).kept (hs_11.2.2 _ (Nat.ne_of_gt (Nat.lt_add_right _ hlq)))).kept (hs_12.2.2 _ (Nat.ne_of_gt (Nat.lt_add_right _ hlq)))).kept (hs_13.2.2 _ (Nat.ne_of_gt (Nat.lt_add_right _ hlq)))), (((((hg_9.keep ((hg_7.keep (hg_5.1.kept (hs_6.2.2 _ (Nat.ne_of_gt (Nat.lt_add_right _ hlq))))).kept (hs_8.2.2 _ (Nat.ne_of_gt (Nat.lt_add_right _ hlq))))).kept (hs_10.2.2 _ (by omega))).kept (hs_11.2.2 _ (Nat.ne_of_gt (Nat.lt_add_right _ hlq)))).kept (hs_12.2.2 _ (Nat.ne_of_gt (Nat.lt_add_right _ hlq)))).kept (hs_13.2.2 _ (Nat.ne_of_gt (Nat.lt_add_right _ hlq)))), (((((hg_9.keep (hg_7.1.kept (hs_8.2.2 _ (Nat.ne_of_gt (Nat.lt_add_right _ hlq))))).kept (hs_10.2.2 _ (by omega))).kept (hs_11.2.2 _ (Nat.ne_of_gt (Nat.lt_add_right _ hlq)))).kept (hs_12.2.2 _ (Nat.ne_of_gt (Nat.lt_add_right _ hlq)))).kept (hs_13.2.2 _ (Nat.ne_of_gt (Nat.lt_add_right _ hlq)))), (((hc_10.kept (hs_11.2.2 _ (Nat.ne_of_gt (Nat.lt_add_right _ hlq)))).kept (hs_12.2.2 _ (Nat.ne_of_gt (Nat.lt_add_right _ hlq)))).kept (hs_13.2.2 _ (Nat.ne_of_gt (Nat.lt_add_right _ hlq))))⟩, hz_13, hfr_13⟩
