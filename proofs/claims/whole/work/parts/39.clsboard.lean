/-! THE CLASS: board, fault. -/
theorem xMet.imp {l : Launch} {y : MethodName} {ws : List Cond} {rm : Room} {G : va_G} {ty : Nat → ClassId} {b0 : Nat} {av : List Value} {H : Heap} {post post' : Option Value → Heap → Prop} {px px' : String → Heap → Prop} (h : xMet l y ws rm G ty b0 av H post px) (hq : ∀ v H1, post v H1 → post' v H1) (hx : ∀ E H1, px E H1 → px' E H1) : xMet l y ws rm G ty b0 av H post' px' := by
  intro p e ha hc hk s m args below hf happ hP hK
  obtain ⟨n, o, h1, h2, h3, d, hd, h4⟩ := h p e ha hc hk s m args below hf happ hP hK
  refine ⟨n, o, h1, h2, h3, d, hd, ?_⟩
  rcases h4 with ⟨⟨⟨v, hv, hp⟩, hF⟩, hL⟩ | ⟨q, ho, E, ce, L, ⟨hp, hF⟩, r⟩
  · exact Or.inl ⟨⟨⟨v, hv, hq _ _ hp⟩, hF⟩, hL⟩
  · exact Or.inr ⟨q, ho, E, ce, L, ⟨hx _ _ hp, hF⟩, r⟩
/-- a list that has grown by one -/
def xLadd (G : va_G) (ty : Nat → ClassId) (qa qd n : Nat) (f : Nat → Nat) (q1 : Nat) (H H1 : Heap) : Prop := ∃ d1 : Nat, d1 = (if n = 0 then H.size else qd) ∧ xL G ty qa d1 (n + 1) (fun j => if j = n then q1 else f j) H1 ∧ H.size ≤ H1.size ∧ ∀ q : Nat, q < H.size → q ≠ qa → (0 < n → q ≠ qd) → H1[q]? = H[q]?
theorem c_add {l : Launch} {G : va_G} {ty : Nat → ClassId} {b0 : Nat} {H : Heap} {qa qd n q1 ci : Nat} {f : Nat → Nat} {vs : List Value} (hL : xL G ty qa qd n f H) (hn : n < 10) (hqa : b0 ≤ qa) (hqd : 0 < n → b0 ≤ qd ∧ ¬ qa = qd) (hv1 : xc G q1 (.inr (ci, vs)) H) (hci : ci = 1 ∨ ci = 2) (hne : ¬ q1 = qa) : xMet l yJx4a65c_add_9ea2d wsJx4a65c_add_9ea2d rm_Jx4a65c_add_9ea2d G ty b0 [.ref qa, .ref q1] H (fun v H1 => v = some (.int (nI 1)) ∧ xLadd G ty qa qd n f q1 H H1) (fun _ _ => False) := by
  obtain ⟨mc, g1, g2⟩ := hL
  by_cases e : n = 0
  · subst e
    rw [if_pos rfl] at g1
    refine (c_Jx4a65c_addA hqa g1 hv1 hci hne).imp (fun v H1 h => ?_) (fun _ _ h => h)
    obtain ⟨rfl, h1, h2, h3, h4⟩ := h
    refine ⟨rfl, H.size, (if_pos rfl).symm, ⟨mc + nI 1, ?_, fun _ => xc_fq h2 (fun j hj => ?_)⟩, by omega, fun q a b _ => h4.2 q a b⟩
    · rw [if_neg (by decide)]; exact h1
    · unfold va_up
      by_cases e : j = 0
      · subst e; rfl
      · rw [if_neg e, if_neg (by omega)]
  · have hp : 0 < n := Nat.pos_of_ne_zero e
    rw [if_neg e] at g1
    refine (c_Jx4a65c_addB hqa (hqd hp).1 (hqd hp).2 g1 (g2 hp) hn hv1 hci hne).imp (fun v H1 h => ?_) (fun _ _ h => h)
    obtain ⟨rfl, h1, h2, h3, h4⟩ := h
    refine ⟨rfl, qd, (if_neg e).symm, ⟨mc + nI 1, ?_, fun _ => xc_fq h2 (fun j hj => ?_)⟩, by omega, fun q a b c => h4.2 q a b (c hp)⟩
    · rw [if_neg (by omega)]; exact h1
    · unfold va_up
      dsimp only
      by_cases e1 : j = n
      · subst e1; rw [if_pos rfl, if_pos (by omega), if_pos rfl]
      · by_cases e2 : j < n
        · rw [if_neg e1, if_pos e2, if_pos (by omega), if_neg e1]
        · rw [if_neg e1, if_neg e2, if_neg (by omega)]
theorem dX1_init_0 : decode cX1_init 0 = .ok (.aload_n 0, 1) := by decide +kernel
theorem dX1_init_1 : decode cX1_init 1 = .ok (.invokespecial 1, 3) := by decide +kernel
theorem dX1_init_4 : decode cX1_init 4 = .ok (.aload_n 0, 1) := by decide +kernel
theorem dX1_init_5 : decode cX1_init 5 = .ok (.dload_n 1, 1) := by decide +kernel
theorem dX1_init_6 : decode cX1_init 6 = .ok (.putfield 7, 3) := by decide +kernel
theorem dX1_init_9 : decode cX1_init 9 = .ok (.aload_n 0, 1) := by decide +kernel
theorem dX1_init_10 : decode cX1_init 10 = .ok (.dload_n 3, 1) := by decide +kernel
theorem dX1_init_11 : decode cX1_init 11 = .ok (.putfield 13, 3) := by decide +kernel
theorem dX1_init_14 : decode cX1_init 14 = .ok (.aload_n 0, 1) := by decide +kernel
theorem dX1_init_15 : decode cX1_init 15 = .ok (.dload 5, 2) := by decide +kernel
theorem dX1_init_17 : decode cX1_init 17 = .ok (.putfield 16, 3) := by decide +kernel
theorem dX1_init_20 : decode cX1_init 20 = .ok (.aload_n 0, 1) := by decide +kernel
theorem dX1_init_21 : decode cX1_init 21 = .ok (.dload 7, 2) := by decide +kernel
theorem dX1_init_23 : decode cX1_init 23 = .ok (.putfield 19, 3) := by decide +kernel
theorem dX1_init_26 : decode cX1_init 26 = .ok (.return_, 1) := by decide +kernel
abbrev rm_X1_init : Room := { frames := 2, cells := 0, slots := 0, locals := 40 }
theorem hw_X1_init_1 : (Cond.methodLink RX1 1 objectInit) ∈ wsX1_init := List.mem_of_getElem? (i := 1) rfl
theorem hw_X1_init_2 : (Cond.instanceMethod objectInit) ∈ wsX1_init := List.mem_of_getElem? (i := 2) rfl
theorem hw_X1_init_3 : (Cond.code objectInit ⟨#[0xb1]⟩ 1 none) ∈ wsX1_init := List.mem_of_getElem? (i := 3) rfl
theorem hw_X1_init_4 : (Cond.fieldLink RX1 7 "PlankUnroll$Box" "x" "D") ∈ wsX1_init := List.mem_of_getElem? (i := 4) rfl
theorem hw_X1_init_5 : (Cond.fieldLink RX1 13 "PlankUnroll$Box" "y" "D") ∈ wsX1_init := List.mem_of_getElem? (i := 5) rfl
theorem hw_X1_init_6 : (Cond.fieldLink RX1 16 "PlankUnroll$Box" "w" "D") ∈ wsX1_init := List.mem_of_getElem? (i := 6) rfl
theorem hw_X1_init_7 : (Cond.fieldLink RX1 19 "PlankUnroll$Box" "h" "D") ∈ wsX1_init := List.mem_of_getElem? (i := 7) rfl
theorem in_X1_init_X1 : ∀ w ∈ wsX10, w ∈ wsX1_init := by decide +kernel
set_option maxHeartbeats 4000000 in
set_option maxRecDepth 100000 in
/-- a new box -/
theorem c_X1_init {l : Launch} {G : va_G} {ty : Nat → ClassId} {b0 : Nat} {H : Heap} {q0 : Nat} {x y u h : UInt64} (hq0 : b0 ≤ q0) (hc0 : xc G q0 (.inr (2, [.double FP.dconst0, .double FP.dconst0, .double FP.dconst0, .double FP.dconst0])) H) : xMet l yX1_init wsX1_init rm_X1_init G ty b0 [.ref q0, .double x, .double y, .double u, .double h] H (fun v H1 => v = none ∧ xset G q0 (.inr (2, [.double x, .double y, .double u, .double h])) H H1) (fun _ _ => False) := by
  refine xbody (cc := cX1_init) (maxL := 9) (ret := none) (C := RX1) (lv := [(0, .ref q0), (1, .double x), (3, .double y), (5, .double u), (7, .double h)]) (by decide) rfl rfl (Nat.le_of_ble_eq_true rfl) rfl ?_
  intro p e s m below meth c d0 hx hb hr hts hown hlocks hml hxt hnm0 hK hb0 hH0 hS hd0 ls hl
  refine lv_aload_n hx hb dX1_init_0 rfl (lv_at hl 0 rfl) ?_
  refine xobj (s := s.setDrawn d0) hx hb hown hml hl.1 (hts d0 _ hw_X1_init_1) (hts d0 _ hw_X1_init_2) (hts d0 _ hw_X1_init_3) dX1_init_1 (Nat.le_of_ble_eq_true rfl) (Nat.le_of_ble_eq_true rfl) ?_
  refine lv_aload_n hx hb dX1_init_4 rfl (lv_at hl 0 rfl) ?_
  refine lv_dload_n hx hb dX1_init_5 rfl (lv_at hl 1 rfl) ?_
  refine xput (G := G) (ci := 2) (v := .double x) (ty := .double) (C := RX1) (T := TX1) (N := 4) hx hb (hts d0) in_X1_init_X1 tyX1 tyX1_ok nmX1 hown hK.1 hc0 hS hq0 rfl 0 (by decide) (hts d0 _ hw_X1_init_4) (fun _ h9 => h9) rfl (by decide +kernel) rfl rfl (Nat.le_of_ble_eq_true rfl) dX1_init_6 (fun H_1 locs_1 hs_1 hS => ?_)
  have hc_1 : xc G q0 (.inr (2, [.double x, .double FP.dconst0, .double FP.dconst0, .double FP.dconst0])) H_1 := hs_1.1
  refine lv_aload_n hx hb dX1_init_9 rfl (lv_at hl 0 rfl) ?_
  refine lv_dload_n hx hb dX1_init_10 rfl (lv_at hl 2 rfl) ?_
  refine xput (G := G) (ci := 2) (v := .double y) (ty := .double) (C := RX1) (T := TX1) (N := 4) hx hb (hts d0) in_X1_init_X1 tyX1 tyX1_ok nmX1 hown hK.1 hc_1 hS hq0 rfl 1 (by decide) (hts d0 _ hw_X1_init_5) (fun _ h9 => h9) rfl (by decide +kernel) rfl rfl (Nat.le_of_ble_eq_true rfl) dX1_init_11 (fun H_2 locs_2 hs_2 hS => ?_)
  have hc_2 : xc G q0 (.inr (2, [.double x, .double y, .double FP.dconst0, .double FP.dconst0])) H_2 := hs_2.1
  refine lv_aload_n hx hb dX1_init_14 rfl (lv_at hl 0 rfl) ?_
  refine lv_dload hx hb dX1_init_15 (lv_at hl 3 rfl) ?_
  refine xput (G := G) (ci := 2) (v := .double u) (ty := .double) (C := RX1) (T := TX1) (N := 4) hx hb (hts d0) in_X1_init_X1 tyX1 tyX1_ok nmX1 hown hK.1 hc_2 hS hq0 rfl 2 (by decide) (hts d0 _ hw_X1_init_6) (fun _ h9 => h9) rfl (by decide +kernel) rfl rfl (Nat.le_of_ble_eq_true rfl) dX1_init_17 (fun H_3 locs_3 hs_3 hS => ?_)
  have hc_3 : xc G q0 (.inr (2, [.double x, .double y, .double u, .double FP.dconst0])) H_3 := hs_3.1
  refine lv_aload_n hx hb dX1_init_20 rfl (lv_at hl 0 rfl) ?_
  refine lv_dload hx hb dX1_init_21 (lv_at hl 4 rfl) ?_
  refine xput (G := G) (ci := 2) (v := .double h) (ty := .double) (C := RX1) (T := TX1) (N := 4) hx hb (hts d0) in_X1_init_X1 tyX1 tyX1_ok nmX1 hown hK.1 hc_3 hS hq0 rfl 3 (by decide) (hts d0 _ hw_X1_init_7) (fun _ h9 => h9) rfl (by decide +kernel) rfl rfl (Nat.le_of_ble_eq_true rfl) dX1_init_23 (fun H_4 locs_4 hs_4 hS => ?_)
  have hc_4 : xc G q0 (.inr (2, [.double x, .double y, .double u, .double h])) H_4 := hs_4.1
  exact xvret hd0 hx hb hr hlocks hS (Nat.le_of_ble_eq_true rfl) (Nat.le_of_ble_eq_true rfl) dX1_init_26 ⟨rfl, ((hs_1.tr hs_2).tr hs_3).tr hs_4⟩
set_option maxRecDepth 20000 in
theorem ggX0_init_Jx4a65c_init_da8c8 : GoodIn wsX0_init wsJx4a65c_init_da8c8 := goodIn_r _ [12, 13, 14, 15, 16, 17, 18, 19, 20, 21, 22, 23, 24, 2, 3, 28, 29, 30] (by decide +kernel) (by decide +kernel)
set_option maxRecDepth 20000 in
theorem gX0_init_Jx4a65c_init_da8c8 : GoodIn wsX0_init (wsJx4a65c_init_da8c8) := ggX0_init_Jx4a65c_init_da8c8
theorem dX0_init_0 : decode cX0_init 0 = .ok (.aload_n 0, 1) := by decide +kernel
theorem dX0_init_1 : decode cX0_init 1 = .ok (.invokespecial 1, 3) := by decide +kernel
theorem dX0_init_4 : decode cX0_init 4 = .ok (.aload_n 0, 1) := by decide +kernel
theorem dX0_init_5 : decode cX0_init 5 = .ok (.dload_n 1, 1) := by decide +kernel
theorem dX0_init_6 : decode cX0_init 6 = .ok (.putfield 7, 3) := by decide +kernel
theorem dX0_init_9 : decode cX0_init 9 = .ok (.aload_n 0, 1) := by decide +kernel
theorem dX0_init_10 : decode cX0_init 10 = .ok (.dload_n 3, 1) := by decide +kernel
theorem dX0_init_11 : decode cX0_init 11 = .ok (.putfield 13, 3) := by decide +kernel
theorem dX0_init_14 : decode cX0_init 14 = .ok (.aload_n 0, 1) := by decide +kernel
theorem dX0_init_15 : decode cX0_init 15 = .ok (.new 16, 3) := by decide +kernel
theorem dX0_init_18 : decode cX0_init 18 = .ok (.dup, 1) := by decide +kernel
theorem dX0_init_19 : decode cX0_init 19 = .ok (.invokespecial 18, 3) := by decide +kernel
theorem dX0_init_22 : decode cX0_init 22 = .ok (.putfield 19, 3) := by decide +kernel
theorem dX0_init_25 : decode cX0_init 25 = .ok (.return_, 1) := by decide +kernel
abbrev rm_X0_init : Room := { frames := 4, cells := 1, slots := 3, locals := 120 }
theorem hw_X0_init_1 : (Cond.methodLink RX0 1 objectInit) ∈ wsX0_init := List.mem_of_getElem? (i := 1) rfl
theorem hw_X0_init_2 : (Cond.instanceMethod objectInit) ∈ wsX0_init := List.mem_of_getElem? (i := 2) rfl
theorem hw_X0_init_3 : (Cond.code objectInit ⟨#[0xb1]⟩ 1 none) ∈ wsX0_init := List.mem_of_getElem? (i := 3) rfl
theorem hw_X0_init_4 : (Cond.fieldLink RX0 7 "PlankUnroll$Board" "w" "D") ∈ wsX0_init := List.mem_of_getElem? (i := 4) rfl
theorem hw_X0_init_5 : (Cond.fieldLink RX0 13 "PlankUnroll$Board" "h" "D") ∈ wsX0_init := List.mem_of_getElem? (i := 5) rfl
theorem hw_X0_init_6 : (Cond.classLink RX0 16 RJx4a65c) ∈ wsX0_init := List.mem_of_getElem? (i := 6) rfl
theorem hw_X0_init_7 : (Cond.instantiable RJx4a65c 3) ∈ wsX0_init := List.mem_of_getElem? (i := 7) rfl
theorem hw_X0_init_8 : (Cond.initialized RJx4a65c) ∈ wsX0_init := List.mem_of_getElem? (i := 8) rfl
theorem hw_X0_init_9 : (Cond.fieldLink RX0 19 "PlankUnroll$Board" "faults" "Ljava/util/ArrayList;") ∈ wsX0_init := List.mem_of_getElem? (i := 9) rfl
theorem hw_X0_init_10 : (Cond.methodLink RX0 18 yJx4a65c_init_da8c8) ∈ wsX0_init := List.mem_of_getElem? (i := 10) rfl
theorem hw_X0_init_11 : (Cond.instanceMethod yJx4a65c_init_da8c8) ∈ wsX0_init := List.mem_of_getElem? (i := 11) rfl
theorem in_X0_init_Jx4a65c : ∀ w ∈ wsJx4a65c0, w ∈ wsX0_init := by decide +kernel
theorem in_X0_init_X0 : ∀ w ∈ wsX00, w ∈ wsX0_init := by decide +kernel
set_option maxHeartbeats 4000000 in
set_option maxRecDepth 100000 in
/-- a new board -/
theorem c_X0_init {l : Launch} {G : va_G} {ty : Nat → ClassId} {b0 : Nat} {H : Heap} {q0 : Nat} {x y : UInt64} (hq0 : b0 ≤ q0) (hc0 : xc G q0 (.inr (1, [.double FP.dconst0, .double FP.dconst0, .null])) H) : xMet l yX0_init wsX0_init rm_X0_init G ty b0 [.ref q0, .double x, .double y] H (fun v H1 => v = none ∧ xc G q0 (.inr (1, [.double x, .double y, .ref H.size])) H1 ∧ xc G H.size (.inr (0, [.int (nI 0), .ref (ty 8), .int (nI 0)])) H1 ∧ H1.size = H.size + 1 ∧ xOld q0 H H1) (fun _ _ => False) := by
  refine xbody (cc := cX0_init) (maxL := 5) (ret := none) (C := RX0) (lv := [(0, .ref q0), (1, .double x), (3, .double y)]) (by decide) rfl rfl (Nat.le_of_ble_eq_true rfl) rfl ?_
  intro p e s m below meth c d0 hx hb hr hts hown hlocks hml hxt hnm0 hK hb0 hH0 hS hd0 ls hl
  have hbH : b0 ≤ H.size := by rw [← hH0]; exact hb0
  have hlq : q0 < H.size := hc0.lt
  refine lv_aload_n hx hb dX0_init_0 rfl (lv_at hl 0 rfl) ?_
  refine xobj (s := s.setDrawn d0) hx hb hown hml hl.1 (hts d0 _ hw_X0_init_1) (hts d0 _ hw_X0_init_2) (hts d0 _ hw_X0_init_3) dX0_init_1 (Nat.le_of_ble_eq_true rfl) (Nat.le_of_ble_eq_true rfl) ?_
  refine lv_aload_n hx hb dX0_init_4 rfl (lv_at hl 0 rfl) ?_
  refine lv_dload_n hx hb dX0_init_5 rfl (lv_at hl 1 rfl) ?_
  refine xputF (G := G) (ci := 1) (v := .double x) (ty := .double) (C := RX0) (T := TX0) (N := 3) hx hb (hts d0) in_X0_init_X0 tyX0 tyX0_ok nmX0 hown hK.1 hc0 hS hq0 rfl 0 (by decide) (hts d0 _ hw_X0_init_4) (fun _ h9 => h9) rfl hnm0 rfl (by decide +kernel) rfl rfl (Nat.le_of_ble_eq_true rfl) dX0_init_6 (fun H_1 locs_1 hs_1 hS => ?_)
  have hc_1 : xc G q0 (.inr (1, [.double x, .double FP.dconst0, .null])) H_1 := hs_1.1
  have hz_1 : H_1.size = H.size + 0 := hs_1.2.1.trans rfl
  have hfr_1 : xOld q0 H H_1 := xOld.put xOld.rf hs_1 (Or.inl rfl)
  refine lv_aload_n hx hb dX0_init_9 rfl (lv_at hl 0 rfl) ?_
  refine lv_dload_n hx hb dX0_init_10 rfl (lv_at hl 2 rfl) ?_
  refine xputF (G := G) (ci := 1) (v := .double y) (ty := .double) (C := RX0) (T := TX0) (N := 3) hx hb (hts d0) in_X0_init_X0 tyX0 tyX0_ok nmX0 hown hK.1 hc_1 hS hq0 rfl 1 (by decide) (hts d0 _ hw_X0_init_5) (fun _ h9 => h9) rfl hnm0 rfl (by decide +kernel) rfl rfl (Nat.le_of_ble_eq_true rfl) dX0_init_11 (fun H_2 locs_2 hs_2 hS => ?_)
  have hc_2 : xc G q0 (.inr (1, [.double x, .double y, .null])) H_2 := hs_2.1
  have hz_2 : H_2.size = H.size + 0 := hs_2.2.1.trans hz_1
  have hfr_2 : xOld q0 H H_2 := xOld.put hfr_1 hs_2 (Or.inl rfl)
  refine lv_aload_n hx hb dX0_init_14 rfl (lv_at hl 0 rfl) ?_
  refine xnew (G := G) (s := s.setDrawn d0) (fs := [.int (nI 0), .null, .int (nI 0)]) hx hb (hts d0) in_X0_init_Jx4a65c tyJx4a65c tyJx4a65c_ok hown (hts d0 _ hw_X0_init_6) (hts d0 _ hw_X0_init_7) (hts d0 _ hw_X0_init_8) hK.1 hS (ci := 0) rfl nB_Jx4a65c (Nat.le_of_ble_eq_true rfl) (Nat.le_of_ble_eq_true rfl) dX0_init_15 (fun q_3 H_3 hg_3 hS => ?_)
  have e_3 : q_3 = H.size + 0 := hg_3.2.1.symm.trans hz_2
  subst e_3
  have hz_3 : H_3.size = H.size + 1 := hg_3.2.2.1
  have hc_q0_3 : xc G q0 (.inr (1, [.double x, .double y, .null])) H_3 := hg_3.keep hc_2
  have hfr_3 : xOld q0 H H_3 := xOld.grow hfr_2 hg_3
  refine lv_dup hx hb dX0_init_18 rfl ?_
  have cw_4 := cwI (R := rm_X0_init) (rm := rm_Jx4a65c_init_da8c8) 0 (hts d0) gX0_init_Jx4a65c_init_da8c8 rfl rfl rfl (hts d0 _ hw_X0_init_8) (hts d0 _ hw_X0_init_10) (hts d0 _ hw_X0_init_11) rfl (by decide +kernel) ⟨Nat.le_of_ble_eq_true rfl, Nat.le_of_ble_eq_true rfl⟩
  refine xcall hd0 (xintoI (b := (H.size + 0)) (As := []) (rest := [.ref (H.size + 0), .ref q0]) ⟨hx, hb, hml, hown, hts _⟩ cw_4 rfl rfl hl.1 rfl (lv_room (Nat.le_of_ble_eq_true rfl)) dX0_init_19) (c_Jx4a65c_init_da8c8 (l := l) (G := G) (ty := ty) (b0 := b0) (Nat.le_trans hbH (Nat.le_add_right _ _)) hg_3.1) (xoweB cw_4.1) hK hb0 hS (Nat.le_of_ble_eq_true rfl) (Nat.le_of_ble_eq_true rfl) (fun E_4 ce_4 q9_4 H_4 locs_4 d0 hd0 hp_4 hS hce_4 hcv_4 hcl_4 => ?_) (fun v_4 H_4 locs_4 d0 hd0 hp_4 hS => ?_)
  · exact hp_4.elim
  · obtain ⟨rfl, hs_4⟩ := hp_4
    have hc_4 : xc G (H.size + 0) (.inr (0, [.int (nI 0), .ref (ty 8), .int (nI 0)])) H_4 := hs_4.1
    have hc_q0_4 : xc G q0 (.inr (1, [.double x, .double y, .null])) H_4 := hc_q0_3.kept (hs_4.2.2 _ (Nat.ne_of_lt hlq))
    have hz_4 : H_4.size = H.size + 1 := hs_4.2.1.trans hz_3
    have hfr_4 : xOld q0 H H_4 := xOld.put hfr_3 hs_4 (Or.inr (Nat.le_add_right _ _))
    show W p l e _ (s.setDrawn _) m _ below meth c _ _ _ _ _ (F0 m 22 ls [.ref (H.size + 0), .ref q0])
    refine xputF (G := G) (ci := 1) (v := .ref (H.size + 0)) (ty := (.object "java/util/ArrayList")) (C := RX0) (T := TX0) (N := 3) hx hb (hts d0) in_X0_init_X0 tyX0 tyX0_ok nmX0 hown hK.1 hc_q0_4 hS hq0 rfl 2 (by decide) (hts d0 _ hw_X0_init_9) (fun _ h9 => h9) rfl hnm0 rfl (by decide +kernel) rfl rfl (Nat.le_of_ble_eq_true rfl) dX0_init_22 (fun H_5 locs_5 hs_5 hS => ?_)
    have hc_5 : xc G q0 (.inr (1, [.double x, .double y, .ref (H.size + 0)])) H_5 := hs_5.1
    have hc_Hsize0_5 : xc G (H.size + 0) (.inr (0, [.int (nI 0), .ref (ty 8), .int (nI 0)])) H_5 := hc_4.kept (hs_5.2.2 _ (Nat.ne_of_gt hlq))
    have hz_5 : H_5.size = H.size + 1 := hs_5.2.1.trans hz_4
    have hfr_5 : xOld q0 H H_5 := xOld.put hfr_4 hs_5 (Or.inl rfl)
    exact xvret hd0 hx hb hr hlocks hS (Nat.le_of_ble_eq_true rfl) (Nat.le_of_ble_eq_true rfl) dX0_init_25 ⟨rfl, hc_5, hc_Hsize0_5, hz_5, hfr_5⟩
theorem xCla.lt {G : va_G} {ty : Nat → ClassId} {ad : Nat → Nat} {F R nb : Nat} {pl wi hi fa : Nat → UInt64} {un bu lo la : Nat → Int32} {cx cy bx : Nat → Nat → UInt64} {nf : Nat → Nat} {K0 H : Heap} (h : xCla G ty ad F R pl un cx cy bu nb wi hi nf fa lo la bx K0 H) : ∀ k : Nat, xU F R nb nf k → ad k < H.size := by
  intro k hk
  rcases hk with hk | ⟨rfl, hk⟩ | ⟨r, z, rfl | rfl⟩ | ⟨r, z, f, y, rfl⟩ | ⟨i, z, rfl | rfl | rfl | rfl | rfl⟩ | ⟨b, z, rfl | rfl | ⟨rfl, y⟩⟩ | ⟨b, z, k, y, rfl⟩
  · rcases (show k = 0 ∨ k = 1 ∨ k = 2 ∨ k = 3 ∨ k = 4 ∨ k = 5 by omega) with rfl | rfl | rfl | rfl | rfl | rfl
    · exact h.o_.lt
    · exact h.rows_.lt
    · exact h.strips_.lt
    · obtain ⟨mc, g, -⟩ := h.list_; exact g.lt
    · obtain ⟨u, v, w, g⟩ := h.near_; exact g.lt
    · obtain ⟨u, v, w, g⟩ := h.far_; exact g.lt
  · obtain ⟨mc, -, g⟩ := h.list_; exact (g hk).lt
  · exact (h.row_ r z).lt
  · exact (h.parr_ r z).lt
  · exact (h.place_ r z f y).lt
  · exact (h.strip_ i z).lt
  · exact (h.cx_ i z).lt
  · exact (h.cy_ i z).lt
  · exact (h.bt_ i z).lt
  · exact (h.box_ i z).lt
  · exact (h.board_ b z).lt
  · obtain ⟨mc, g, -⟩ := h.fls_ b z; exact g.lt
  · obtain ⟨mc, -, g⟩ := h.fls_ b z; exact (g y).lt
  · exact (h.flt_ b z k y).lt
/-- the addresses with a new board's -/
def xab (ad : Nat → Nat) (nb B : Nat) : Nat → Nat := fun k => if k = 200 + nb then B else if k = 210 + nb then B + 1 else if k = 6 ∧ nb = 0 then B + 2 else ad k
def xnf (nf : Nat → Nat) (nb : Nat) : Nat → Nat := fun b => if b = nb then 0 else nf b
theorem xnf_n {nf : Nat → Nat} {nb b : Nat} (h : b ≠ nb) : xnf nf nb b = nf b := by unfold xnf; exact if_neg h
theorem xnf_s {nf : Nat → Nat} {nb : Nat} : xnf nf nb nb = 0 := by unfold xnf; exact if_pos rfl
theorem xU_ab {F R nb : Nat} {nf : Nat → Nat} {k : Nat} (hF : F ≤ 8) (hR : R ≤ 8) (hn : nb < 4) (h : xU F R nb nf k) : ¬ k = 200 + nb ∧ ¬ k = 210 + nb ∧ ¬ (k = 6 ∧ nb = 0) := by
  rcases h with hk | ⟨rfl, hk⟩ | ⟨r, z, rfl | rfl⟩ | ⟨r, z, f, y, rfl⟩ | ⟨i, z, rfl | rfl | rfl | rfl | rfl⟩ | ⟨b, z, rfl | rfl | ⟨rfl, y⟩⟩ | ⟨b, z, k, y, rfl⟩ <;> omega
theorem xab_old {ad : Nat → Nat} {B F R nb : Nat} {nf : Nat → Nat} (hF : F ≤ 8) (hR : R ≤ 8) (hn : nb < 4) : ∀ k : Nat, xU F R nb nf k → xab ad nb B k = ad k := by
  intro k h
  obtain ⟨h1, h2, h3⟩ := xU_ab hF hR hn h
  unfold xab
  rw [if_neg h1, if_neg h2, if_neg h3]
theorem xU_abm {F R nb : Nat} {nf : Nat → Nat} {k : Nat} (h : xU F R nb nf k) : xU F R (nb + 1) (xnf nf nb) k := by
  rcases h with hk | ⟨rfl, hk⟩ | ⟨r, z, rfl | rfl⟩ | ⟨r, z, f, y, rfl⟩ | ⟨i, z, rfl | rfl | rfl | rfl | rfl⟩ | ⟨b, z, rfl | rfl | ⟨rfl, y⟩⟩ | ⟨b, z, k, y, rfl⟩
  · exact xU_6 hk
  · exact xU_l (by omega)
  · exact xU_row z
  · exact xU_parr z
  · exact xU_place z y
  · exact xU_strip z
  · exact xU_cx z
  · exact xU_cy z
  · exact xU_bt z
  · exact xU_box z
  · exact xU_board (by omega)
  · exact xU_fls (by omega)
  · exact xU_fld (by omega) (by rw [xnf_n (by omega)]; exact y)
  · exact xU_flt (by omega) (by rw [xnf_n (by omega)]; exact y)
theorem xU_abc {F R nb : Nat} {nf : Nat → Nat} {k : Nat} (h : xU F R (nb + 1) (xnf nf nb) k) : xU F R nb nf k ∨ k = 200 + nb ∨ k = 210 + nb ∨ (k = 6 ∧ nb = 0) := by
  rcases h with hk | ⟨rfl, hk⟩ | ⟨r, z, rfl | rfl⟩ | ⟨r, z, f, y, rfl⟩ | ⟨i, z, rfl | rfl | rfl | rfl | rfl⟩ | ⟨b, z, rfl | rfl | ⟨rfl, y⟩⟩ | ⟨b, z, k, y, rfl⟩
  · exact Or.inl (xU_6 hk)
  · by_cases e : nb = 0
    · exact Or.inr (Or.inr (Or.inr ⟨rfl, e⟩))
    · exact Or.inl (xU_l (Nat.pos_of_ne_zero e))
  · exact Or.inl (xU_row z)
  · exact Or.inl (xU_parr z)
  · exact Or.inl (xU_place z y)
  · exact Or.inl (xU_strip z)
  · exact Or.inl (xU_cx z)
  · exact Or.inl (xU_cy z)
  · exact Or.inl (xU_bt z)
  · exact Or.inl (xU_box z)
  · by_cases e : b = nb
    · subst e; exact Or.inr (Or.inl rfl)
    · exact Or.inl (xU_board (by omega))
  · by_cases e : b = nb
    · subst e; exact Or.inr (Or.inr (Or.inl rfl))
    · exact Or.inl (xU_fls (by omega))
  · by_cases e : b = nb
    · subst e; rw [xnf_s] at y; omega
    · exact Or.inl (xU_fld (by omega) (by rw [xnf_n e] at y; exact y))
  · by_cases e : b = nb
    · subst e; rw [xnf_s] at y; omega
    · exact Or.inl (xU_flt (by omega) (by rw [xnf_n e] at y; exact y))
theorem xab_1 {ad : Nat → Nat} {nb B : Nat} : xab ad nb B (200 + nb) = B := by unfold xab; exact if_pos rfl
theorem xab_2 {ad : Nat → Nat} {nb B : Nat} : xab ad nb B (210 + nb) = B + 1 := by unfold xab; rw [if_neg (by omega), if_pos rfl]
theorem xab_3 {ad : Nat → Nat} {nb B : Nat} (h : nb = 0) : xab ad nb B 6 = B + 2 := by unfold xab; rw [if_neg (by omega), if_neg (by omega), if_pos ⟨rfl, h⟩]
theorem xWf.ab {F R nb B b0 : Nat} {nf ad : Nat → Nat} (hw : xWf F R nb nf ad b0) (hn : nb < 4) (hlt : ∀ k : Nat, xU F R nb nf k → ad k < B) (hB : b0 ≤ B) : xWf F R (nb + 1) (xnf nf nb) (xab ad nb B) b0 := by
  obtain ⟨⟨⟨zF2, zF8⟩, ⟨zR2, zR8⟩⟩, h2, h3, h4, h5⟩ := hw
  have eo := xab_old (ad := ad) (B := B) (nf := nf) zF8 zR8 hn
  have cls : ∀ k : Nat, xU F R (nb + 1) (xnf nf nb) k → (xU F R nb nf k ∧ xab ad nb B k = ad k ∧ ad k < B) ∨ (k = 200 + nb ∧ xab ad nb B k = B) ∨ (k = 210 + nb ∧ xab ad nb B k = B + 1) ∨ (k = 6 ∧ xab ad nb B k = B + 2) := by
    intro k hk
    rcases xU_abc hk with h | rfl | rfl | ⟨rfl, h⟩
    · exact Or.inl ⟨h, eo k h, hlt k h⟩
    · exact Or.inr (Or.inl ⟨rfl, xab_1⟩)
    · exact Or.inr (Or.inr (Or.inl ⟨rfl, xab_2⟩))
    · exact Or.inr (Or.inr (Or.inr ⟨rfl, xab_3 h⟩))
  refine ⟨⟨⟨zF2, zF8⟩, ⟨zR2, zR8⟩⟩, by omega, fun b hb => ?_, fun k hk => ?_, fun k j hk hj e => ?_⟩
  · by_cases e : b = nb
    · subst e; rw [xnf_s]; omega
    · rw [xnf_n e]; exact h3 b (by omega)
  · rcases cls k hk with ⟨h, e, -⟩ | ⟨-, e⟩ | ⟨-, e⟩ | ⟨-, e⟩
    · rw [e]; exact h4 k h
    · omega
    · omega
    · omega
  · rcases cls k hk with ⟨hk1, ek, lk⟩ | ⟨hk1, ek⟩ | ⟨hk1, ek⟩ | ⟨hk1, ek⟩ <;> rcases cls j hj with ⟨hj1, ej, lj⟩ | ⟨hj1, ej⟩ | ⟨hj1, ej⟩ | ⟨hj1, ej⟩
    · rw [ek, ej] at e; exact h5 k j hk1 hj1 e
    all_goals omega
set_option maxHeartbeats 1000000 in
theorem xCla.ab {G : va_G} {ty : Nat → ClassId} {ad : Nat → Nat} {F R nb : Nat} {pl wi hi fa : Nat → UInt64} {un bu lo la : Nat → Int32} {cx cy bx : Nat → Nat → UInt64} {nf : Nat → Nat} {K0 H : Heap} {b0 : Nat} {x y : UInt64} {H3 : Heap} (h : xCla G ty ad F R pl un cx cy bu nb wi hi nf fa lo la bx K0 H) (hw : xWf F R nb nf ad b0) (hn : nb < 4)
    (hsz : H.size ≤ H3.size) (hk : ∀ q : Nat, q < H.size → q ≠ ad 3 → (0 < nb → q ≠ ad 6) → H3[q]? = H[q]?)
    (hb : xc G H.size (.inr (1, [.double x, .double y, .ref (H.size + 1)])) H3) (hl : xc G (H.size + 1) (.inr (0, [.int (nI 0), .ref (ty 8), .int (nI 0)])) H3)
    (hL : xL G ty (ad 3) (xab ad nb H.size 6) (nb + 1) (fun j => if j = nb then H.size else ad (200 + j)) H3) : xCla G ty (xab ad nb H.size) F R pl un cx cy bu (nb + 1) (vf_upd wi nb x) (vf_upd hi nb y) (xnf nf nb) fa lo la bx K0 H3 := by
  have hlt := h.lt
  have hI := hw.2.2.2
  have zF8 := hw.1.1.2
  have zR8 := hw.1.2.2
  have h8 := hw.2.2.1
  have eo := xab_old (ad := ad) (B := H.size) (nf := nf) zF8 zR8 hn
  have hkc : ∀ (k : Nat) {e : va_E}, xU F R nb nf k → ¬ (k = 3 ∨ k = 6 ∨ (210 ≤ k ∧ k < 300)) → xc G (ad k) e H → H3[ad k]? = H[ad k]? := fun k e hk1 hk2 _ => hk _ (hlt k hk1) (fun z => hk2 (Or.inl (hI.2 k 3 hk1 (xU_6 (by decide)) z))) (fun hp z => hk2 (Or.inr (Or.inl (hI.2 k 6 hk1 (xU_l hp) z))))
  have hkl : ∀ k : Nat, xU F R nb nf k → ¬ k = 3 → ¬ k = 6 → H3[ad k]? = H[ad k]? := fun k hk1 h3 h6 => hk _ (hlt k hk1) (fun z => h3 (hI.2 k 3 hk1 (xU_6 (by decide)) z)) (fun hp z => h6 (hI.2 k 6 hk1 (xU_l hp) z))
  refine h.bas hw eo hkc (fun b z => ?_) (fun b z k y => ?_) ?_ (fun b z => ?_) (Nat.le_trans h.siz_ hsz) (fun q z y => ?_)
  · by_cases e : b = nb
    · subst e
      rw [xab_1, xab_2, vupd_s, vupd_s]; exact hb
    · rw [vupd_n e, vupd_n e]; exact h.bas_b hw eo hkc b (by omega)
  · by_cases e : b = nb
    · subst e; rw [xnf_s] at y; omega
    · rw [xnf_n e] at y; exact h.bas_f hw eo hkc b (by omega) k y
  · rw [eo 3 (xU_6 (by decide))]
    obtain ⟨mc, g1, g2⟩ := hL
    refine ⟨mc, g1, fun z => xc_fq (g2 z) (fun j hj => ?_)⟩
    by_cases e2 : j < nb + 1
    · rw [if_pos e2, if_pos e2]
      dsimp only
      by_cases e : j = nb
      · subst e; rw [if_pos rfl, xab_1]
      · rw [if_neg e, eo _ (xU_board (by omega))]
    · rw [if_neg e2, if_neg e2]
  · by_cases e : b = nb
    · subst e
      rw [xab_2, xnf_s]
      exact ⟨_, by rw [if_pos rfl]; exact hl, fun z => absurd z (Nat.lt_irrefl _)⟩
    · rw [xnf_n e]
      have zb : b < nb := by omega
      exact (h.fls_ b zb).mv (eo _ (xU_fls zb)) (fun z => eo _ (xU_fld zb z)) (fun j hj => (eo _ (xU_flt zb hj)).symm) (hkl _ (xU_fls zb) (by omega) (by omega)) (fun z => hkl _ (xU_fld zb z) (by omega) (by omega))
  · exact (hk q (Nat.lt_of_lt_of_le z h.siz_) (by rw [← eo 3 (xU_6 (by decide))]; exact y 3 (xU_6 (by decide))) (fun hp => by rw [← eo 6 (xU_l hp)]; exact y 6 (xU_abm (xU_l hp)))).trans (h.fr_ q z (fun k hk1 => by rw [← eo k hk1]; exact y k (xU_abm hk1)))
set_option maxRecDepth 20000 in
theorem ggX6_board_X6_within : GoodIn wsX6_board wsX6_within := goodIn_r _ [13] (by decide +kernel) (by decide +kernel)
set_option maxRecDepth 20000 in
theorem gX6_board_X6_within : GoodIn wsX6_board (va_wsS RX6 60 yX6_within wsX6_within) := goodIn_app (goodIn_of _ (by decide +kernel)) ggX6_board_X6_within
set_option maxRecDepth 20000 in
theorem ggX6_board_Jx4a65c_size_8abf5 : GoodIn wsX6_board wsJx4a65c_size_8abf5 := goodIn_r _ [18, 19, 107, 108, 109] (by decide +kernel) (by decide +kernel)
set_option maxRecDepth 20000 in
theorem gX6_board_Jx4a65c_size_8abf5 : GoodIn wsX6_board (wsV RX6 180 RJx4a65c yJx4a65c_size_8abf5 wsJx4a65c_size_8abf5) := goodIn_app (goodIn_of _ (by decide +kernel)) ggX6_board_Jx4a65c_size_8abf5
set_option maxRecDepth 20000 in
theorem ggX6_board_X0_init : GoodIn wsX6_board wsX0_init := goodIn_r _ [22, 23, 24, 25, 26, 27, 28, 29, 17, 30, 31, 32, 33, 34, 35, 36, 37, 38, 39, 40, 41, 42, 43, 44, 45, 104, 105, 106, 107, 108, 109] (by decide +kernel) (by decide +kernel)
set_option maxRecDepth 20000 in
theorem gX6_board_X0_init : GoodIn wsX6_board (wsX0_init) := ggX6_board_X0_init
set_option maxRecDepth 20000 in
theorem ggX6_board_Jx4a65c_add_9ea2d : GoodIn wsX6_board wsJx4a65c_add_9ea2d := goodIn_r _ [49, 50, 51, 35, 19, 52, 53, 54, 17, 55, 56, 57, 58, 59, 60, 61, 62, 63, 34, 64, 65, 66, 67, 68, 69, 70, 71, 72, 73, 74, 75, 76, 77, 78, 79, 80, 81, 82, 83, 84, 85, 86, 87, 88, 89, 90, 91, 92, 93, 94, 95, 96, 97, 107, 108, 109] (by decide +kernel) (by decide +kernel)
set_option maxRecDepth 20000 in
theorem gX6_board_Jx4a65c_add_9ea2d : GoodIn wsX6_board (wsV RX6 191 RJx4a65c yJx4a65c_add_9ea2d wsJx4a65c_add_9ea2d) := goodIn_app (goodIn_of _ (by decide +kernel)) ggX6_board_Jx4a65c_add_9ea2d
theorem dX6_board_0 : decode cX6_board 0 = .ok (.dload_n 1, 1) := by decide +kernel
theorem dX6_board_1 : decode cX6_board 1 = .ok (.dconst 1, 1) := by decide +kernel
theorem dX6_board_2 : decode cX6_board 2 = .ok (.ldc2_w 58, 3) := by decide +kernel
theorem dX6_board_5 : decode cX6_board 5 = .ok (.invokestatic 60, 3) := by decide +kernel
theorem dX6_board_8 : decode cX6_board 8 = .ok (.ifCond .eq 14, 3) := by decide +kernel
theorem dX6_board_11 : decode cX6_board 11 = .ok (.dload_n 3, 1) := by decide +kernel
theorem dX6_board_12 : decode cX6_board 12 = .ok (.dconst 1, 1) := by decide +kernel
theorem dX6_board_13 : decode cX6_board 13 = .ok (.ldc2_w 58, 3) := by decide +kernel
theorem dX6_board_16 : decode cX6_board 16 = .ok (.invokestatic 60, 3) := by decide +kernel
theorem dX6_board_19 : decode cX6_board 19 = .ok (.ifCond .ne 13, 3) := by decide +kernel
theorem dX6_board_22 : decode cX6_board 22 = .ok (.new 64, 3) := by decide +kernel
theorem dX6_board_25 : decode cX6_board 25 = .ok (.dup, 1) := by decide +kernel
theorem dX6_board_26 : decode cX6_board 26 = .ok (.ldc 178, 2) := by decide +kernel
theorem dX6_board_28 : decode cX6_board 28 = .ok (.invokespecial 68, 3) := by decide +kernel
theorem dX6_board_31 : decode cX6_board 31 = .ok (.athrow, 1) := by decide +kernel
theorem dX6_board_32 : decode cX6_board 32 = .ok (.aload_n 0, 1) := by decide +kernel
theorem dX6_board_33 : decode cX6_board 33 = .ok (.getfield 38, 3) := by decide +kernel
theorem dX6_board_36 : decode cX6_board 36 = .ok (.invokevirtual 180, 3) := by decide +kernel
theorem dX6_board_39 : decode cX6_board 39 = .ok (.iconst 4, 1) := by decide +kernel
theorem dX6_board_40 : decode cX6_board 40 = .ok (.if_icmp .lt 13, 3) := by decide +kernel
theorem dX6_board_43 : decode cX6_board 43 = .ok (.new 102, 3) := by decide +kernel
theorem dX6_board_46 : decode cX6_board 46 = .ok (.dup, 1) := by decide +kernel
theorem dX6_board_47 : decode cX6_board 47 = .ok (.ldc 184, 2) := by decide +kernel
theorem dX6_board_49 : decode cX6_board 49 = .ok (.invokespecial 106, 3) := by decide +kernel
theorem dX6_board_52 : decode cX6_board 52 = .ok (.athrow, 1) := by decide +kernel
theorem dX6_board_53 : decode cX6_board 53 = .ok (.aload_n 0, 1) := by decide +kernel
theorem dX6_board_54 : decode cX6_board 54 = .ok (.getfield 38, 3) := by decide +kernel
theorem dX6_board_57 : decode cX6_board 57 = .ok (.new 186, 3) := by decide +kernel
theorem dX6_board_60 : decode cX6_board 60 = .ok (.dup, 1) := by decide +kernel
theorem dX6_board_61 : decode cX6_board 61 = .ok (.dload_n 1, 1) := by decide +kernel
theorem dX6_board_62 : decode cX6_board 62 = .ok (.dload_n 3, 1) := by decide +kernel
theorem dX6_board_63 : decode cX6_board 63 = .ok (.invokespecial 188, 3) := by decide +kernel
theorem dX6_board_66 : decode cX6_board 66 = .ok (.invokevirtual 191, 3) := by decide +kernel
theorem dX6_board_69 : decode cX6_board 69 = .ok (.pop, 1) := by decide +kernel
theorem dX6_board_70 : decode cX6_board 70 = .ok (.aload_n 0, 1) := by decide +kernel
theorem dX6_board_71 : decode cX6_board 71 = .ok (.getfield 38, 3) := by decide +kernel
theorem dX6_board_74 : decode cX6_board 74 = .ok (.invokevirtual 180, 3) := by decide +kernel
theorem dX6_board_77 : decode cX6_board 77 = .ok (.iconst 1, 1) := by decide +kernel
theorem dX6_board_78 : decode cX6_board 78 = .ok (.isub, 1) := by decide +kernel
theorem dX6_board_79 : decode cX6_board 79 = .ok (.ireturn, 1) := by decide +kernel
abbrev rm_X6_board : Room := { frames := 10, cells := 20, slots := 150, locals := 400 }
theorem hw_X6_board_1 : (Cond.classLink RX6 64 "java/lang/IllegalArgumentException") ∈ wsX6_board := List.mem_of_getElem? (i := 1) rfl
theorem hw_X6_board_2 : (Cond.initialized "java/lang/IllegalArgumentException") ∈ wsX6_board := List.mem_of_getElem? (i := 2) rfl
theorem hw_X6_board_3 : (Cond.classLink RX6 102 "java/lang/IllegalStateException") ∈ wsX6_board := List.mem_of_getElem? (i := 3) rfl
theorem hw_X6_board_4 : (Cond.initialized "java/lang/IllegalStateException") ∈ wsX6_board := List.mem_of_getElem? (i := 4) rfl
theorem hw_X6_board_5 : (Cond.constantDouble RX6 58 (4652007308841189376)) ∈ wsX6_board := List.mem_of_getElem? (i := 5) rfl
theorem hw_X6_board_6 : (Cond.fieldLink RX6 38 "PlankUnroll" "boards" "Ljava/util/ArrayList;") ∈ wsX6_board := List.mem_of_getElem? (i := 6) rfl
theorem hw_X6_board_7 : (Cond.classLink RX6 186 RX0) ∈ wsX6_board := List.mem_of_getElem? (i := 7) rfl
theorem hw_X6_board_8 : (Cond.instantiable RX0 3) ∈ wsX6_board := List.mem_of_getElem? (i := 8) rfl
theorem hw_X6_board_9 : (Cond.initialized RX0) ∈ wsX6_board := List.mem_of_getElem? (i := 9) rfl
theorem hw_X6_board_20 : (Cond.methodLink RX6 188 yX0_init) ∈ wsX6_board := List.mem_of_getElem? (i := 20) rfl
theorem hw_X6_board_21 : (Cond.instanceMethod yX0_init) ∈ wsX6_board := List.mem_of_getElem? (i := 21) rfl
theorem in_X6_board_X0 : ∀ w ∈ wsX00, w ∈ wsX6_board := by decide +kernel
theorem in_X6_board_X6 : ∀ w ∈ wsX60, w ∈ wsX6_board := by decide +kernel
theorem ht_X6_board_1 : ∀ w ∈ (vx_atS RX6 68 "java/lang/IllegalArgumentException" ["java/lang/RuntimeException", "java/lang/Exception"]).filter goodWord, w ∈ wsX6_board := by decide +kernel
theorem ht_X6_board_2 : ∀ w ∈ (vx_atS RX6 106 "java/lang/IllegalStateException" ["java/lang/RuntimeException", "java/lang/Exception"]).filter goodWord, w ∈ wsX6_board := by decide +kernel
set_option maxHeartbeats 4000000 in
set_option maxRecDepth 100000 in
/-- board -/
theorem c_X6_board {l : Launch} {G : va_G} {ty : Nat → ClassId} {b0 : Nat} {H : Heap} (hfl : l.stackTraces = false) {ad : Nat → Nat} {F R nb : Nat} {pl wi hi fa : Nat → UInt64} {un bu lo la : Nat → Int32} {cx cy bx : Nat → Nat → UInt64} {nf : Nat → Nat} {K0 : Heap} (hX : xCla G ty ad F R pl un cx cy bu nb wi hi nf fa lo la bx K0 H) (hW : xWf F R nb nf ad b0) {x y ew eh : UInt64} (hx9 : vq x ew) (hy9 : vq y eh) : xMet l yX6_board wsX6_board rm_X6_board G ty b0 [.ref (ad 0), .double x, .double y] H (fun v H1 => (pBetween ew FP.dconst1 4652007308841189376 = true ∧ pBetween eh FP.dconst1 4652007308841189376 = true) ∧ ¬ nb = 4 ∧ v = some (.int (nI nb)) ∧ (∀ k : Nat, xU F R nb nf k → xab ad nb H.size k = ad k) ∧ xWf F R (nb + 1) (xnf nf nb) (xab ad nb H.size) b0 ∧ xCla G ty (xab ad nb H.size) F R pl un cx cy bu (nb + 1) (vf_upd wi nb x) (vf_upd hi nb y) (xnf nf nb) fa lo la bx K0 H1) (fun E H1 => (E = "java/lang/IllegalArgumentException" ∧ ¬ (pBetween ew FP.dconst1 4652007308841189376 = true ∧ pBetween eh FP.dconst1 4652007308841189376 = true) ∧ xext H H1) ∨ (E = "java/lang/IllegalStateException" ∧ (pBetween ew FP.dconst1 4652007308841189376 = true ∧ pBetween eh FP.dconst1 4652007308841189376 = true) ∧ nb = 4 ∧ xext H H1)) := by
  refine xbody (cc := cX6_board) (maxL := 5) (ret := (some .int)) (C := RX6) (lv := [(0, .ref (ad 0)), (1, .double x), (3, .double y)]) (by decide) rfl rfl (Nat.le_of_ble_eq_true rfl) rfl ?_
  intro p e s m below meth c d0 hx hb hr hts hown hlocks hml hxt hnm0 hK hb0 hH0 hS hd0 ls hl
  obtain ⟨⟨zF2, zF8⟩, ⟨zR2, zR8⟩⟩ := id hW.1
  have zB4 := hW.2.1
  have hbH : b0 ≤ H.size := by rw [← hH0]; exact hb0
  obtain ⟨mc, hl0, hl1⟩ := id hX.list_
  refine lv_dload_n hx hb dX6_board_0 rfl (lv_at hl 1 rfl) ?_
  refine lv_dconst1 hx hb dX6_board_1 ?_
  refine lv_ldc2d hx hb hown (hts d0 _ hw_X6_board_5) dX6_board_2 ?_
  have cw_1 := va_cwS (R := rm_X6_board) (rm := rm_X6_within) 3 (hts d0) gX6_board_X6_within rfl rfl rfl (by decide +kernel) ⟨Nat.le_of_ble_eq_true rfl, Nat.le_of_ble_eq_true rfl⟩
  refine xcall hd0 (xintoS (As := [.double x, .double FP.dconst1, .double 4652007308841189376]) (rest := []) ⟨hx, hb, hml, hown, hts _⟩ cw_1 rfl rfl hl.1 rfl (lv_room (Nat.le_of_ble_eq_true rfl)) dX6_board_5) (c_X6_within (l := l) (G := G) (ty := ty) (b0 := b0) hx9 (vq_rf _) (vq_rf _)) (xoweB cw_1.1) hK hb0 hS (Nat.le_of_ble_eq_true rfl) (Nat.le_of_ble_eq_true rfl) (fun E_1 ce_1 q9_1 H_1 locs_1 d0 hd0 hp_1 hS hce_1 hcv_1 hcl_1 => ?_) (fun v_1 H_1 locs_1 d0 hd0 hp_1 hS => ?_)
  · exact hp_1.elim
  · obtain ⟨rfl, rfl⟩ := hp_1
    show W p l e _ (s.setDrawn _) m _ below meth c _ _ _ _ _ (F0 m 8 ls [.int (xB (pBetween ew FP.dconst1 4652007308841189376))])
    refine lv_if_eq (tgt := 22) hx hb dX6_board_8 (by decide) (fun c_2 => ?_) (fun c_2 => ?_)
    · exact xthrowS hfl hd0 hx hb hown hlocks hxt hml hl.1 hts (by decide +kernel) hw_X6_board_1 hw_X6_board_2 ht_X6_board_1 xthrow_ok1 xthrow_gd1 (List.mem_of_getElem? (i := 5) rfl) hK hS dX6_board_22 dX6_board_25 dX6_board_26 dX6_board_28 dX6_board_31 (Nat.le_of_ble_eq_true rfl) (Nat.le_of_ble_eq_true rfl) (Nat.le_of_ble_eq_true rfl) (Nat.le_of_ble_eq_true rfl) (Nat.le_of_ble_eq_true rfl) (Nat.le_of_ble_eq_true rfl) (fun H1 h9 => Or.inl ⟨rfl, fun z => xtf z.1 (xB_f c_2), h9⟩)
    · refine lv_dload_n hx hb dX6_board_11 rfl (lv_at hl 2 rfl) ?_
      refine lv_dconst1 hx hb dX6_board_12 ?_
      refine lv_ldc2d hx hb hown (hts d0 _ hw_X6_board_5) dX6_board_13 ?_
      have cw_3 := va_cwS (R := rm_X6_board) (rm := rm_X6_within) 3 (hts d0) gX6_board_X6_within rfl rfl rfl (by decide +kernel) ⟨Nat.le_of_ble_eq_true rfl, Nat.le_of_ble_eq_true rfl⟩
      refine xcall hd0 (xintoS (As := [.double y, .double FP.dconst1, .double 4652007308841189376]) (rest := []) ⟨hx, hb, hml, hown, hts _⟩ cw_3 rfl rfl hl.1 rfl (lv_room (Nat.le_of_ble_eq_true rfl)) dX6_board_16) (c_X6_within (l := l) (G := G) (ty := ty) (b0 := b0) hy9 (vq_rf _) (vq_rf _)) (xoweB cw_3.1) hK hb0 hS (Nat.le_of_ble_eq_true rfl) (Nat.le_of_ble_eq_true rfl) (fun E_3 ce_3 q9_3 H_3 locs_3 d0 hd0 hp_3 hS hce_3 hcv_3 hcl_3 => ?_) (fun v_3 H_3 locs_3 d0 hd0 hp_3 hS => ?_)
      · exact hp_3.elim
      · obtain ⟨rfl, rfl⟩ := hp_3
        show W p l e _ (s.setDrawn _) m _ below meth c _ _ _ _ _ (F0 m 19 ls [.int (xB (pBetween eh FP.dconst1 4652007308841189376))])
        refine lv_if_ne (tgt := 32) hx hb dX6_board_19 (by decide) (fun c_4 => ?_) (fun c_4 => ?_)
        · have z9 : (pBetween ew FP.dconst1 4652007308841189376 = true ∧ pBetween eh FP.dconst1 4652007308841189376 = true) := ⟨xB_t c_2, xB_t c_4⟩
          refine lv_aload_n hx hb dX6_board_32 rfl (lv_at hl 0 rfl) ?_
          refine va_get (D := G) (cl := vwCl) (ci := 7) (v := .ref (ad 3)) (C := RX6) (T := TX6) (N := 6) hx hb (hts d0) in_X6_board_X6 hown hK.1 (x1 hX.o_) 0 rfl rfl 3 (by decide) (hts d0 _ hw_X6_board_6) (fun _ h9 => h9) rfl dX6_board_33 ?_
          have cw_5 := cwV (R := rm_X6_board) (rm := rm_Jx4a65c_size_8abf5) 0 (hts d0) gX6_board_Jx4a65c_size_8abf5 rfl rfl rfl (by decide +kernel) ⟨Nat.le_of_ble_eq_true rfl, Nat.le_of_ble_eq_true rfl⟩
          refine xcall hd0 (xintoV (b := (ad 3)) (As := []) (rest := []) ⟨hx, hb, hml, hown, hts _⟩ cw_5 (va_recv hK.1 (x1 hl0) (ci := 0) (q0 := 0) rfl rfl) rfl rfl hl.1 rfl (lv_room (Nat.le_of_ble_eq_true rfl)) dX6_board_36) (c_Jx4a65c_size_8abf5 (l := l) (G := G) (ty := ty) (b0 := b0) hl0) (xoweB cw_5.1) hK hb0 hS (Nat.le_of_ble_eq_true rfl) (Nat.le_of_ble_eq_true rfl) (fun E_5 ce_5 q9_5 H_5 locs_5 d0 hd0 hp_5 hS hce_5 hcv_5 hcl_5 => ?_) (fun v_5 H_5 locs_5 d0 hd0 hp_5 hS => ?_)
          · exact hp_5.elim
          · obtain ⟨rfl, rfl⟩ := hp_5
            show W p l e _ (s.setDrawn _) m _ below meth c _ _ _ _ _ (F0 m 39 ls [.int (nI nb)])
            refine lv_iconst (v := nI 4) hx hb dX6_board_39 (by decide) ?_
            refine xicmpN_lt (tgt := 53) hx hb (by omega) (show (4 : Nat) < 2 ^ 31 by decide) dX6_board_40 (by decide) (fun c_6 => ?_) (fun c_6 => ?_)
            · refine lv_aload_n hx hb dX6_board_53 rfl (lv_at hl 0 rfl) ?_
              refine va_get (D := G) (cl := vwCl) (ci := 7) (v := .ref (ad 3)) (C := RX6) (T := TX6) (N := 6) hx hb (hts d0) in_X6_board_X6 hown hK.1 (x1 hX.o_) 0 rfl rfl 3 (by decide) (hts d0 _ hw_X6_board_6) (fun _ h9 => h9) rfl dX6_board_54 ?_
              refine xnew (G := G) (s := s.setDrawn d0) (fs := [.double FP.dconst0, .double FP.dconst0, .null]) hx hb (hts d0) in_X6_board_X0 tyX0 tyX0_ok hown (hts d0 _ hw_X6_board_7) (hts d0 _ hw_X6_board_8) (hts d0 _ hw_X6_board_9) hK.1 hS (ci := 1) rfl nB_X0 (Nat.le_of_ble_eq_true rfl) (Nat.le_of_ble_eq_true rfl) dX6_board_57 (fun q_7 H_7 hg_7 hS => ?_)
              have e_7 : q_7 = H.size + 0 := hg_7.2.1.symm.trans rfl
              subst e_7
              have hz_7 : H_7.size = H.size + 1 := hg_7.2.2.1
              refine lv_dup hx hb dX6_board_60 rfl ?_
              refine lv_dload_n hx hb dX6_board_61 rfl (lv_at hl 1 rfl) ?_
              refine lv_dload_n hx hb dX6_board_62 rfl (lv_at hl 2 rfl) ?_
              have cw_8 := cwI (R := rm_X6_board) (rm := rm_X0_init) 2 (hts d0) gX6_board_X0_init rfl rfl rfl (hts d0 _ hw_X6_board_9) (hts d0 _ hw_X6_board_20) (hts d0 _ hw_X6_board_21) rfl (by decide +kernel) ⟨Nat.le_of_ble_eq_true rfl, Nat.le_of_ble_eq_true rfl⟩
              refine xcall hd0 (xintoI (b := (H.size + 0)) (As := [.double x, .double y]) (rest := [.ref (H.size + 0), .ref (ad 3)]) ⟨hx, hb, hml, hown, hts _⟩ cw_8 rfl rfl hl.1 rfl (lv_room (Nat.le_of_ble_eq_true rfl)) dX6_board_63) (c_X0_init (l := l) (G := G) (ty := ty) (b0 := b0) (Nat.le_trans hbH (Nat.le_add_right _ _)) hg_7.1) (xoweB cw_8.1) hK hb0 hS (Nat.le_of_ble_eq_true rfl) (Nat.le_of_ble_eq_true rfl) (fun E_8 ce_8 q9_8 H_8 locs_8 d0 hd0 hp_8 hS hce_8 hcv_8 hcl_8 => ?_) (fun v_8 H_8 locs_8 d0 hd0 hp_8 hS => ?_)
              · exact hp_8.elim
              · obtain ⟨rfl, hcb_8, hcl_8x, hz_8, hf_8⟩ := hp_8
                rw [hz_7] at hcb_8 hcl_8x hz_8
                have hL_8 : xL G ty (ad 3) (ad 6) nb (fun b => ad (200 + b)) H_8 := hX.list_.mv rfl (fun _ => rfl) (fun _ _ => rfl) ((hf_8.2 _ (by rw [hz_7]; have := hX.lt 3 (xU_6 (by decide)); omega) (by have := hX.lt 3 (xU_6 (by decide)); omega)).trans (hg_7.2.2.2 _ (hX.lt 3 (xU_6 (by decide))))) (fun zp => (hf_8.2 _ (by rw [hz_7]; have := hX.lt 6 (xU_l zp); omega) (by have := hX.lt 6 (xU_l zp); omega)).trans (hg_7.2.2.2 _ (hX.lt 6 (xU_l zp))))
                obtain ⟨mc_8, hl0_8, -⟩ := id hL_8
                have ho_8 : xc G (ad 0) (.inr (7, [.int (nI F), .ref (ad 1), .ref (ad 2), .ref (ad 3), .ref (ad 4), .ref (ad 5)])) H_8 := hX.o_.kept ((hf_8.2 _ (by rw [hz_7]; have := hX.lt 0 (xU_6 (by decide)); omega) (by have := hX.lt 0 (xU_6 (by decide)); omega)).trans (hg_7.2.2.2 _ (hX.lt 0 (xU_6 (by decide)))))
                show W p l e _ (s.setDrawn _) m _ below meth c _ _ _ _ _ (F0 m 66 ls [.ref (H.size + 0), .ref (ad 3)])
                have cw_9 := cwV (R := rm_X6_board) (rm := rm_Jx4a65c_add_9ea2d) 1 (hts d0) gX6_board_Jx4a65c_add_9ea2d rfl rfl rfl (by decide +kernel) ⟨Nat.le_of_ble_eq_true rfl, Nat.le_of_ble_eq_true rfl⟩
                refine xcall hd0 (xintoV (b := (ad 3)) (As := [.ref (H.size + 0)]) (rest := []) ⟨hx, hb, hml, hown, hts _⟩ cw_9 (va_recv hK.1 (x1 hl0_8) (ci := 0) (q0 := 0) rfl rfl) rfl rfl hl.1 rfl (lv_room (Nat.le_of_ble_eq_true rfl)) dX6_board_66) (c_add (l := l) (G := G) (ty := ty) (b0 := b0) (ci := 1) hL_8 (by omega) (hW.2.2.2.1 _ (xU_6 (by decide))) (fun zp => ⟨hW.2.2.2.1 _ (xU_l zp), fun z => absurd (hW.2.2.2.2 _ _ (xU_6 (by decide)) (xU_l zp) z) (by decide)⟩) hcb_8 (Or.inl rfl) (by have := hX.lt 3 (xU_6 (by decide)); omega)) (xoweB cw_9.1) hK hb0 hS (Nat.le_of_ble_eq_true rfl) (Nat.le_of_ble_eq_true rfl) (fun E_9 ce_9 q9_9 H_9 locs_9 d0 hd0 hp_9 hS hce_9 hcv_9 hcl_9 => ?_) (fun v_9 H_9 locs_9 d0 hd0 hp_9 hS => ?_)
                · exact hp_9.elim
                · obtain ⟨rfl, d_9, hd_9, hL_9, hz_9, hk_9⟩ := hp_9
                  obtain ⟨mc_9, hl0_9, -⟩ := id hL_9
                  have ho_9 : xc G (ad 0) (.inr (7, [.int (nI F), .ref (ad 1), .ref (ad 2), .ref (ad 3), .ref (ad 4), .ref (ad 5)])) H_9 := ho_8.kept (hk_9 _ ho_8.lt (fun z => absurd (hW.2.2.2.2 _ _ (xU_6 (by decide)) (xU_6 (by decide)) z) (by decide)) (fun zp z => absurd (hW.2.2.2.2 _ _ (xU_6 (by decide)) (xU_l zp) z) (by decide)))
                  show W p l e _ (s.setDrawn _) m _ below meth c _ _ _ _ _ (F0 m 69 ls [.int (nI 1)])
                  refine lv_pop hx hb dX6_board_69 rfl ?_
                  refine lv_aload_n hx hb dX6_board_70 rfl (lv_at hl 0 rfl) ?_
                  refine va_get (D := G) (cl := vwCl) (ci := 7) (v := .ref (ad 3)) (C := RX6) (T := TX6) (N := 6) hx hb (hts d0) in_X6_board_X6 hown hK.1 (x1 ho_9) 0 rfl rfl 3 (by decide) (hts d0 _ hw_X6_board_6) (fun _ h9 => h9) rfl dX6_board_71 ?_
                  have cw_10 := cwV (R := rm_X6_board) (rm := rm_Jx4a65c_size_8abf5) 0 (hts d0) gX6_board_Jx4a65c_size_8abf5 rfl rfl rfl (by decide +kernel) ⟨Nat.le_of_ble_eq_true rfl, Nat.le_of_ble_eq_true rfl⟩
                  refine xcall hd0 (xintoV (b := (ad 3)) (As := []) (rest := []) ⟨hx, hb, hml, hown, hts _⟩ cw_10 (va_recv hK.1 (x1 hl0_9) (ci := 0) (q0 := 0) rfl rfl) rfl rfl hl.1 rfl (lv_room (Nat.le_of_ble_eq_true rfl)) dX6_board_74) (c_Jx4a65c_size_8abf5 (l := l) (G := G) (ty := ty) (b0 := b0) hl0_9) (xoweB cw_10.1) hK hb0 hS (Nat.le_of_ble_eq_true rfl) (Nat.le_of_ble_eq_true rfl) (fun E_10 ce_10 q9_10 H_10 locs_10 d0 hd0 hp_10 hS hce_10 hcv_10 hcl_10 => ?_) (fun v_10 H_10 locs_10 d0 hd0 hp_10 hS => ?_)
                  · exact hp_10.elim
                  · obtain ⟨rfl, rfl⟩ := hp_10
                    show W p l e _ (s.setDrawn _) m _ below meth c _ _ _ _ _ (F0 m 77 ls [.int (nI (nb + 1))])
                    refine lv_iconst (v := nI 1) hx hb dX6_board_77 (by decide) ?_
                    refine xisubN hx hb (by omega) dX6_board_78 ?_
                    have hlt := hX.lt
                    have hko : ∀ q : Nat, q < H.size → q ≠ ad 3 → (0 < nb → q ≠ ad 6) → H_9[q]? = H[q]? := fun q a b c => (hk_9 q (by rw [hz_8]; omega) b c).trans ((hf_8.2 q (by rw [hz_7]; omega) (by omega)).trans (hg_7.2.2.2 q a))
                    have hne : ∀ j : Nat, H.size ≤ j → j < H.size + 2 → H_9[j]? = H_8[j]? := fun j a b => hk_9 j (by rw [hz_8]; omega) (by have := hlt 3 (xU_6 (by decide)); omega) (fun zp => by have := hlt 6 (xU_l zp); omega)
                    have hd9 : d_9 = xab ad nb H.size 6 := by
                      rw [hd_9]
                      by_cases e : nb = 0
                      · rw [if_pos e, xab_3 e, hz_8]
                      · rw [if_neg e, xab_old (nf := nf) zF8 zR8 (by omega) 6 (xU_l (Nat.pos_of_ne_zero e))]
                    rw [hd9] at hL_9
                    exact xiret hd0 hx hb hr hlocks hS (Nat.le_of_ble_eq_true rfl) (Nat.le_of_ble_eq_true rfl) dX6_board_79 ⟨z9, by omega, rfl, xab_old zF8 zR8 (by omega), hW.ab (by omega) hlt hbH, hX.ab hW (by omega) (by omega) hko (hcb_8.kept (hne _ (by omega) (by omega))) (hcl_8x.kept (hne _ (by omega) (by omega))) hL_9⟩
            · exact xthrowS hfl hd0 hx hb hown hlocks hxt hml hl.1 hts (by decide +kernel) hw_X6_board_3 hw_X6_board_4 ht_X6_board_2 xthrow_ok2 xthrow_gd2 (List.mem_of_getElem? (i := 6) rfl) hK hS dX6_board_43 dX6_board_46 dX6_board_47 dX6_board_49 dX6_board_52 (Nat.le_of_ble_eq_true rfl) (Nat.le_of_ble_eq_true rfl) (Nat.le_of_ble_eq_true rfl) (Nat.le_of_ble_eq_true rfl) (Nat.le_of_ble_eq_true rfl) (Nat.le_of_ble_eq_true rfl) (fun H1 h9 => Or.inr ⟨rfl, z9, (by omega), h9⟩)
        · exact xthrowS hfl hd0 hx hb hown hlocks hxt hml hl.1 hts (by decide +kernel) hw_X6_board_1 hw_X6_board_2 ht_X6_board_1 xthrow_ok1 xthrow_gd1 (List.mem_of_getElem? (i := 5) rfl) hK hS dX6_board_22 dX6_board_25 dX6_board_26 dX6_board_28 dX6_board_31 (Nat.le_of_ble_eq_true rfl) (Nat.le_of_ble_eq_true rfl) (Nat.le_of_ble_eq_true rfl) (Nat.le_of_ble_eq_true rfl) (Nat.le_of_ble_eq_true rfl) (Nat.le_of_ble_eq_true rfl) (fun H1 h9 => Or.inl ⟨rfl, fun z => xtf z.2 (xB_f c_4), h9⟩)
