/-! THE CLASS: fault. -/
/-- the addresses with a new fault's -/
def xaf (ad : Nat → Nat) (b n B : Nat) : Nat → Nat := fun k => if k = 300 + 8 * b + n then B else if k = 220 + b ∧ n = 0 then B + 1 else ad k
def xnfi (nf : Nat → Nat) (b : Nat) : Nat → Nat := fun b1 => if b1 = b then nf b + 1 else nf b1
theorem xnfi_n {nf : Nat → Nat} {b b1 : Nat} (h : b1 ≠ b) : xnfi nf b b1 = nf b1 := by unfold xnfi; exact if_neg h
theorem xnfi_s {nf : Nat → Nat} {b : Nat} : xnfi nf b b = nf b + 1 := by unfold xnfi; exact if_pos rfl
theorem xU_af {F R nb b : Nat} {nf : Nat → Nat} {k : Nat} (hF : F ≤ 8) (hR : R ≤ 8) (hn : nb ≤ 4) (h8 : ∀ b : Nat, b < nb → nf b ≤ 8) (hb : b < nb) (hb8 : nf b < 8) (h : xU F R nb nf k) : ¬ k = 300 + 8 * b + nf b ∧ ¬ (k = 220 + b ∧ nf b = 0) := by
  rcases h with hk | ⟨rfl, hk⟩ | ⟨r, z, rfl | rfl⟩ | ⟨r, z, f, y, rfl⟩ | ⟨i, z, rfl | rfl | rfl | rfl | rfl⟩ | ⟨b1, z, rfl | rfl | ⟨rfl, y⟩⟩ | ⟨b1, z, k, y, rfl⟩
  · omega
  · omega
  · omega
  · omega
  · omega
  · omega
  · omega
  · omega
  · omega
  · omega
  · omega
  · omega
  · refine ⟨by omega, fun e => ?_⟩
    have e1 : b1 = b := by omega
    subst e1; omega
  · refine ⟨fun e => ?_, by omega⟩
    have := h8 b1 z
    have e1 : b1 = b := by omega
    subst e1; omega
theorem xaf_old {ad : Nat → Nat} {B F R nb b : Nat} {nf : Nat → Nat} (hF : F ≤ 8) (hR : R ≤ 8) (hn : nb ≤ 4) (h8 : ∀ b : Nat, b < nb → nf b ≤ 8) (hb : b < nb) (hb8 : nf b < 8) : ∀ k : Nat, xU F R nb nf k → xaf ad b (nf b) B k = ad k := by
  intro k h
  obtain ⟨h1, h2⟩ := xU_af hF hR hn h8 hb hb8 h
  unfold xaf
  rw [if_neg h1, if_neg h2]
theorem xU_afm {F R nb b : Nat} {nf : Nat → Nat} {k : Nat} (h : xU F R nb nf k) : xU F R nb (xnfi nf b) k := by
  have hle : ∀ b1 : Nat, nf b1 ≤ xnfi nf b b1 := fun b1 => by
    by_cases e : b1 = b
    · subst e; rw [xnfi_s]; omega
    · rw [xnfi_n e]; exact Nat.le_refl _
  rcases h with hk | ⟨rfl, hk⟩ | ⟨r, z, rfl | rfl⟩ | ⟨r, z, f, y, rfl⟩ | ⟨i, z, rfl | rfl | rfl | rfl | rfl⟩ | ⟨b1, z, rfl | rfl | ⟨rfl, y⟩⟩ | ⟨b1, z, k, y, rfl⟩
  · exact xU_6 hk
  · exact xU_l hk
  · exact xU_row z
  · exact xU_parr z
  · exact xU_place z y
  · exact xU_strip z
  · exact xU_cx z
  · exact xU_cy z
  · exact xU_bt z
  · exact xU_box z
  · exact xU_board z
  · exact xU_fls z
  · exact xU_fld z (Nat.lt_of_lt_of_le y (hle _))
  · exact xU_flt z (Nat.lt_of_lt_of_le y (hle _))
theorem xU_afc {F R nb b : Nat} {nf : Nat → Nat} {k : Nat} (h : xU F R nb (xnfi nf b) k) : xU F R nb nf k ∨ k = 300 + 8 * b + nf b ∨ (k = 220 + b ∧ nf b = 0) := by
  rcases h with hk | ⟨rfl, hk⟩ | ⟨r, z, rfl | rfl⟩ | ⟨r, z, f, y, rfl⟩ | ⟨i, z, rfl | rfl | rfl | rfl | rfl⟩ | ⟨b1, z, rfl | rfl | ⟨rfl, y⟩⟩ | ⟨b1, z, k, y, rfl⟩
  · exact Or.inl (xU_6 hk)
  · exact Or.inl (xU_l hk)
  · exact Or.inl (xU_row z)
  · exact Or.inl (xU_parr z)
  · exact Or.inl (xU_place z y)
  · exact Or.inl (xU_strip z)
  · exact Or.inl (xU_cx z)
  · exact Or.inl (xU_cy z)
  · exact Or.inl (xU_bt z)
  · exact Or.inl (xU_box z)
  · exact Or.inl (xU_board z)
  · exact Or.inl (xU_fls z)
  · by_cases e : b1 = b
    · subst e
      by_cases e2 : nf b1 = 0
      · exact Or.inr (Or.inr ⟨rfl, e2⟩)
      · exact Or.inl (xU_fld z (Nat.pos_of_ne_zero e2))
    · rw [xnfi_n e] at y; exact Or.inl (xU_fld z y)
  · by_cases e : b1 = b
    · subst e
      rw [xnfi_s] at y
      by_cases e2 : k = nf b1
      · subst e2; exact Or.inr (Or.inl rfl)
      · exact Or.inl (xU_flt z (by omega))
    · rw [xnfi_n e] at y; exact Or.inl (xU_flt z y)
theorem xaf_1 {ad : Nat → Nat} {b n B : Nat} : xaf ad b n B (300 + 8 * b + n) = B := by unfold xaf; exact if_pos rfl
theorem xaf_2 {ad : Nat → Nat} {b n B : Nat} (hb : b < 4) (h : n = 0) : xaf ad b n B (220 + b) = B + 1 := by unfold xaf; rw [if_neg (by omega), if_pos ⟨rfl, h⟩]
theorem xWf.af {F R nb B b0 b : Nat} {nf ad : Nat → Nat} (hw : xWf F R nb nf ad b0) (hb : b < nb) (hb8 : nf b < 8) (hlt : ∀ k : Nat, xU F R nb nf k → ad k < B) (hB : b0 ≤ B) : xWf F R nb (xnfi nf b) (xaf ad b (nf b) B) b0 := by
  obtain ⟨⟨⟨zF2, zF8⟩, ⟨zR2, zR8⟩⟩, h2, h3, h4, h5⟩ := hw
  have eo := xaf_old (ad := ad) (B := B) (nf := nf) zF8 zR8 h2 h3 hb hb8
  have cls : ∀ k : Nat, xU F R nb (xnfi nf b) k → (xU F R nb nf k ∧ xaf ad b (nf b) B k = ad k ∧ ad k < B) ∨ (k = 300 + 8 * b + nf b ∧ xaf ad b (nf b) B k = B) ∨ (k = 220 + b ∧ xaf ad b (nf b) B k = B + 1) := by
    intro k hk
    rcases xU_afc hk with h | rfl | ⟨rfl, h⟩
    · exact Or.inl ⟨h, eo k h, hlt k h⟩
    · exact Or.inr (Or.inl ⟨rfl, xaf_1⟩)
    · exact Or.inr (Or.inr ⟨rfl, xaf_2 (by omega) h⟩)
  refine ⟨⟨⟨zF2, zF8⟩, ⟨zR2, zR8⟩⟩, h2, fun b1 hb1 => ?_, fun k hk => ?_, fun k j hk hj e => ?_⟩
  · by_cases e : b1 = b
    · subst e; rw [xnfi_s]; omega
    · rw [xnfi_n e]; exact h3 b1 hb1
  · rcases cls k hk with ⟨h, e, -⟩ | ⟨-, e⟩ | ⟨-, e⟩
    · rw [e]; exact h4 k h
    · omega
    · omega
  · rcases cls k hk with ⟨hk1, ek, lk⟩ | ⟨hk1, ek⟩ | ⟨hk1, ek⟩ <;> rcases cls j hj with ⟨hj1, ej, lj⟩ | ⟨hj1, ej⟩ | ⟨hj1, ej⟩
    · rw [ek, ej] at e; exact h5 k j hk1 hj1 e
    all_goals omega
theorem xfa_n {fa : Nat → UInt64} {i j : Nat} {x y u h : UInt64} (h1 : j < i ∨ i + 4 ≤ j) : vf_upd (vf_upd (vf_upd (vf_upd fa i x) (i + 1) y) (i + 2) u) (i + 3) h j = fa j := by
  rw [vupd_n (by omega), vupd_n (by omega), vupd_n (by omega), vupd_n (by omega)]
theorem xfa_s {fa : Nat → UInt64} {i : Nat} {x y u h : UInt64} : vf_upd (vf_upd (vf_upd (vf_upd fa i x) (i + 1) y) (i + 2) u) (i + 3) h i = x ∧ vf_upd (vf_upd (vf_upd (vf_upd fa i x) (i + 1) y) (i + 2) u) (i + 3) h (i + 1) = y ∧ vf_upd (vf_upd (vf_upd (vf_upd fa i x) (i + 1) y) (i + 2) u) (i + 3) h (i + 2) = u ∧ vf_upd (vf_upd (vf_upd (vf_upd fa i x) (i + 1) y) (i + 2) u) (i + 3) h (i + 3) = h := by
  refine ⟨?_, ?_, ?_, vupd_s⟩
  · rw [vupd_n (by omega), vupd_n (by omega), vupd_n (by omega), vupd_s]
  · rw [vupd_n (by omega), vupd_n (by omega), vupd_s]
  · rw [vupd_n (by omega), vupd_s]
set_option maxHeartbeats 1000000 in
theorem xCla.af {G : va_G} {ty : Nat → ClassId} {ad : Nat → Nat} {F R nb : Nat} {pl wi hi fa : Nat → UInt64} {un bu lo la : Nat → Int32} {cx cy bx : Nat → Nat → UInt64} {nf : Nat → Nat} {K0 H : Heap} {b0 b : Nat} {x y u h : UInt64} {H3 : Heap} (hX : xCla G ty ad F R pl un cx cy bu nb wi hi nf fa lo la bx K0 H) (hw : xWf F R nb nf ad b0) (hb : b < nb) (hb8 : nf b < 8)
    (hsz : H.size ≤ H3.size) (hk : ∀ q : Nat, q < H.size → q ≠ ad (210 + b) → (0 < nf b → q ≠ ad (220 + b)) → H3[q]? = H[q]?)
    (hbx : xc G H.size (.inr (2, [.double x, .double y, .double u, .double h])) H3)
    (hL : xL G ty (ad (210 + b)) (xaf ad b (nf b) H.size (220 + b)) (nf b + 1) (fun j => if j = nf b then H.size else ad (300 + 8 * b + j)) H3) : xCla G ty (xaf ad b (nf b) H.size) F R pl un cx cy bu nb wi hi (xnfi nf b) (vf_upd (vf_upd (vf_upd (vf_upd (fa) (32 * b + 4 * nf b) x) (32 * b + 4 * nf b + 1) y) (32 * b + 4 * nf b + 2) u) (32 * b + 4 * nf b + 3) h) lo la bx K0 H3 := by
  have hlt := hX.lt
  have hI := hw.2.2.2
  have zF8 := hw.1.1.2
  have zR8 := hw.1.2.2
  have hB := hw.2.1
  have h8 := hw.2.2.1
  have eo := xaf_old (ad := ad) (B := H.size) (nf := nf) zF8 zR8 hB h8 hb hb8
  have hkl : ∀ k : Nat, xU F R nb nf k → ¬ k = 210 + b → ¬ k = 220 + b → H3[ad k]? = H[ad k]? := fun k hk1 h3 h6 => hk _ (hlt k hk1) (fun z => h3 (hI.2 k _ hk1 (xU_fls hb) z)) (fun hp z => h6 (hI.2 k _ hk1 (xU_fld hb hp) z))
  have hkc : ∀ (k : Nat) {e : va_E}, xU F R nb nf k → ¬ (k = 3 ∨ k = 6 ∨ (210 ≤ k ∧ k < 300)) → xc G (ad k) e H → H3[ad k]? = H[ad k]? := fun k e hk1 hk2 _ => hkl k hk1 (by omega) (by omega)
  refine hX.bas hw eo hkc (hX.bas_b hw eo hkc) (fun b1 z k yk => ?_) ?_ (fun b1 z => ?_) (Nat.le_trans hX.siz_ hsz) (fun q z y => ?_)
  · by_cases e : b1 = b ∧ k = nf b1
    · obtain ⟨rfl, rfl⟩ := e
      obtain ⟨e1, e2, e3, e4⟩ := xfa_s (fa := fa) (i := 32 * b1 + 4 * nf b1) (x := x) (y := y) (u := u) (h := h)
      rw [xaf_1, e1, e2, e3, e4]
      exact hbx
    · have h81 := h8 b1 z
      have y1 : k < nf b1 := by
        by_cases e1 : b1 = b
        · subst e1; rw [xnfi_s] at yk; omega
        · rw [xnfi_n e1] at yk; exact yk
      have y2 : ¬ (b1 = b ∧ k = nf b) := fun z => e ⟨z.1, by rw [z.1]; exact z.2⟩
      rw [xfa_n (by omega), xfa_n (by omega), xfa_n (by omega), xfa_n (by omega)]
      exact hX.bas_f hw eo hkc b1 z k y1
  · rw [eo 3 (xU_6 (by decide))]
    exact hX.list_.mv rfl (fun zp => eo 6 (xU_l zp)) (fun j hj => (eo _ (xU_board hj)).symm) (hkl 3 (xU_6 (by decide)) (by omega) (by omega)) (fun zp => hkl 6 (xU_l zp) (by omega) (by omega))
  · by_cases e : b1 = b
    · subst e
      rw [eo _ (xU_fls z), xnfi_s]
      obtain ⟨mc, g1, g2⟩ := hL
      refine ⟨mc, g1, fun z1 => xc_fq (g2 z1) (fun j hj => ?_)⟩
      by_cases e2 : j < nf b1 + 1
      · rw [if_pos e2, if_pos e2]
        dsimp only
        by_cases e : j = nf b1
        · subst e; rw [if_pos rfl, xaf_1]
        · rw [if_neg e, eo _ (xU_flt z (by omega))]
      · rw [if_neg e2, if_neg e2]
    · rw [xnfi_n e]
      have h81 := h8 b1 z
      exact (hX.fls_ b1 z).mv (eo _ (xU_fls z)) (fun zp => eo _ (xU_fld z zp)) (fun j hj => (eo _ (xU_flt z hj)).symm) (hkl _ (xU_fls z) (by omega) (by omega)) (fun zp => hkl _ (xU_fld z zp) (by omega) (by omega))
  · exact (hk q (Nat.lt_of_lt_of_le z hX.siz_) (by rw [← eo _ (xU_fls hb)]; exact y _ (xU_fls hb)) (fun hp => by rw [← eo _ (xU_fld hb hp)]; exact y _ (xU_afm (xU_fld hb hp)))).trans (hX.fr_ q z (fun k hk1 => by rw [← eo k hk1]; exact y k (xU_afm hk1)))
set_option maxRecDepth 20000 in
theorem ggX6_fault_X6_boardAt : GoodIn wsX6_fault wsX6_boardAt := goodIn_ca (goodIn_r _ [13, 14, 15, 16, 17, 18, 19, 20, 21, 22, 23, 24, 25, 26, 27, 28, 29, 30, 31, 32, 33, 34, 35, 36, 37, 38, 39, 40, 114, 115, 116, 117, 118, 119, 120, 121, 122] (by decide +kernel) (by decide +kernel)) (goodIn_sub (fun _ h => List.mem_cons_of_mem _ (List.mem_append_right _ h)) (by decide +kernel))
set_option maxRecDepth 20000 in
theorem gX6_fault_X6_boardAt : GoodIn wsX6_fault (wsV RX6 195 RX6 yX6_boardAt wsX6_boardAt) := goodIn_app (goodIn_of _ (by decide +kernel)) ggX6_fault_X6_boardAt
set_option maxRecDepth 20000 in
theorem ggX6_fault_X6_within : GoodIn wsX6_fault wsX6_within := goodIn_r _ [43] (by decide +kernel) (by decide +kernel)
set_option maxRecDepth 20000 in
theorem gX6_fault_X6_within : GoodIn wsX6_fault (va_wsS RX6 60 yX6_within wsX6_within) := goodIn_app (goodIn_of _ (by decide +kernel)) ggX6_fault_X6_within
set_option maxRecDepth 20000 in
theorem ggX6_fault_Jx4a65c_size_8abf5 : GoodIn wsX6_fault wsJx4a65c_size_8abf5 := goodIn_r _ [22, 23, 120, 121, 122] (by decide +kernel) (by decide +kernel)
set_option maxRecDepth 20000 in
theorem gX6_fault_Jx4a65c_size_8abf5 : GoodIn wsX6_fault (wsV RX6 180 RJx4a65c yJx4a65c_size_8abf5 wsJx4a65c_size_8abf5) := goodIn_app (goodIn_of _ (by decide +kernel)) ggX6_fault_Jx4a65c_size_8abf5
set_option maxRecDepth 20000 in
theorem ggX6_fault_X1_init : GoodIn wsX6_fault wsX1_init := goodIn_r _ [46, 47, 48, 49, 50, 51, 52, 53, 110, 111, 112, 113] (by decide +kernel) (by decide +kernel)
set_option maxRecDepth 20000 in
theorem gX6_fault_X1_init : GoodIn wsX6_fault (wsX1_init) := ggX6_fault_X1_init
set_option maxRecDepth 20000 in
theorem ggX6_fault_Jx4a65c_add_9ea2d : GoodIn wsX6_fault wsJx4a65c_add_9ea2d := goodIn_r _ [57, 58, 59, 40, 23, 60, 61, 62, 21, 63, 64, 65, 66, 67, 68, 69, 70, 71, 72, 73, 74, 75, 76, 77, 78, 79, 80, 81, 82, 83, 84, 85, 86, 87, 88, 89, 90, 91, 92, 93, 94, 95, 96, 97, 98, 99, 100, 101, 102, 103, 104, 105, 106, 120, 121, 122] (by decide +kernel) (by decide +kernel)
set_option maxRecDepth 20000 in
theorem gX6_fault_Jx4a65c_add_9ea2d : GoodIn wsX6_fault (wsV RX6 191 RJx4a65c yJx4a65c_add_9ea2d wsJx4a65c_add_9ea2d) := goodIn_app (goodIn_of _ (by decide +kernel)) ggX6_fault_Jx4a65c_add_9ea2d
theorem dX6_fault_0 : decode cX6_fault 0 = .ok (.aload_n 0, 1) := by decide +kernel
theorem dX6_fault_1 : decode cX6_fault 1 = .ok (.iload_n 1, 1) := by decide +kernel
theorem dX6_fault_2 : decode cX6_fault 2 = .ok (.invokevirtual 195, 3) := by decide +kernel
theorem dX6_fault_5 : decode cX6_fault 5 = .ok (.astore 10, 2) := by decide +kernel
theorem dX6_fault_7 : decode cX6_fault 7 = .ok (.dload_n 2, 1) := by decide +kernel
theorem dX6_fault_8 : decode cX6_fault 8 = .ok (.dconst 0, 1) := by decide +kernel
theorem dX6_fault_9 : decode cX6_fault 9 = .ok (.ldc2_w 58, 3) := by decide +kernel
theorem dX6_fault_12 : decode cX6_fault 12 = .ok (.invokestatic 60, 3) := by decide +kernel
theorem dX6_fault_15 : decode cX6_fault 15 = .ok (.ifCond .eq 15, 3) := by decide +kernel
theorem dX6_fault_18 : decode cX6_fault 18 = .ok (.dload 4, 2) := by decide +kernel
theorem dX6_fault_20 : decode cX6_fault 20 = .ok (.dconst 0, 1) := by decide +kernel
theorem dX6_fault_21 : decode cX6_fault 21 = .ok (.ldc2_w 58, 3) := by decide +kernel
theorem dX6_fault_24 : decode cX6_fault 24 = .ok (.invokestatic 60, 3) := by decide +kernel
theorem dX6_fault_27 : decode cX6_fault 27 = .ok (.ifCond .ne 13, 3) := by decide +kernel
theorem dX6_fault_30 : decode cX6_fault 30 = .ok (.new 64, 3) := by decide +kernel
theorem dX6_fault_33 : decode cX6_fault 33 = .ok (.dup, 1) := by decide +kernel
theorem dX6_fault_34 : decode cX6_fault 34 = .ok (.ldc 199, 2) := by decide +kernel
theorem dX6_fault_36 : decode cX6_fault 36 = .ok (.invokespecial 68, 3) := by decide +kernel
theorem dX6_fault_39 : decode cX6_fault 39 = .ok (.athrow, 1) := by decide +kernel
theorem dX6_fault_40 : decode cX6_fault 40 = .ok (.dload 6, 2) := by decide +kernel
theorem dX6_fault_42 : decode cX6_fault 42 = .ok (.ldc2_w 201, 3) := by decide +kernel
theorem dX6_fault_45 : decode cX6_fault 45 = .ok (.ldc2_w 58, 3) := by decide +kernel
theorem dX6_fault_48 : decode cX6_fault 48 = .ok (.invokestatic 60, 3) := by decide +kernel
theorem dX6_fault_51 : decode cX6_fault 51 = .ok (.ifCond .eq 17, 3) := by decide +kernel
theorem dX6_fault_54 : decode cX6_fault 54 = .ok (.dload 8, 2) := by decide +kernel
theorem dX6_fault_56 : decode cX6_fault 56 = .ok (.ldc2_w 201, 3) := by decide +kernel
theorem dX6_fault_59 : decode cX6_fault 59 = .ok (.ldc2_w 58, 3) := by decide +kernel
theorem dX6_fault_62 : decode cX6_fault 62 = .ok (.invokestatic 60, 3) := by decide +kernel
theorem dX6_fault_65 : decode cX6_fault 65 = .ok (.ifCond .ne 13, 3) := by decide +kernel
theorem dX6_fault_68 : decode cX6_fault 68 = .ok (.new 64, 3) := by decide +kernel
theorem dX6_fault_71 : decode cX6_fault 71 = .ok (.dup, 1) := by decide +kernel
theorem dX6_fault_72 : decode cX6_fault 72 = .ok (.ldc 203, 2) := by decide +kernel
theorem dX6_fault_74 : decode cX6_fault 74 = .ok (.invokespecial 68, 3) := by decide +kernel
theorem dX6_fault_77 : decode cX6_fault 77 = .ok (.athrow, 1) := by decide +kernel
theorem dX6_fault_78 : decode cX6_fault 78 = .ok (.aload 10, 2) := by decide +kernel
theorem dX6_fault_80 : decode cX6_fault 80 = .ok (.getfield 205, 3) := by decide +kernel
theorem dX6_fault_83 : decode cX6_fault 83 = .ok (.invokevirtual 180, 3) := by decide +kernel
theorem dX6_fault_86 : decode cX6_fault 86 = .ok (.bipush 8, 2) := by decide +kernel
theorem dX6_fault_88 : decode cX6_fault 88 = .ok (.if_icmp .lt 5, 3) := by decide +kernel
theorem dX6_fault_91 : decode cX6_fault 91 = .ok (.iconst 0, 1) := by decide +kernel
theorem dX6_fault_92 : decode cX6_fault 92 = .ok (.ireturn, 1) := by decide +kernel
theorem dX6_fault_93 : decode cX6_fault 93 = .ok (.aload 10, 2) := by decide +kernel
theorem dX6_fault_95 : decode cX6_fault 95 = .ok (.getfield 205, 3) := by decide +kernel
theorem dX6_fault_98 : decode cX6_fault 98 = .ok (.new 208, 3) := by decide +kernel
theorem dX6_fault_101 : decode cX6_fault 101 = .ok (.dup, 1) := by decide +kernel
theorem dX6_fault_102 : decode cX6_fault 102 = .ok (.dload_n 2, 1) := by decide +kernel
theorem dX6_fault_103 : decode cX6_fault 103 = .ok (.dload 4, 2) := by decide +kernel
theorem dX6_fault_105 : decode cX6_fault 105 = .ok (.dload 6, 2) := by decide +kernel
theorem dX6_fault_107 : decode cX6_fault 107 = .ok (.dload 8, 2) := by decide +kernel
theorem dX6_fault_109 : decode cX6_fault 109 = .ok (.invokespecial 210, 3) := by decide +kernel
theorem dX6_fault_112 : decode cX6_fault 112 = .ok (.invokevirtual 191, 3) := by decide +kernel
theorem dX6_fault_115 : decode cX6_fault 115 = .ok (.pop, 1) := by decide +kernel
theorem dX6_fault_116 : decode cX6_fault 116 = .ok (.iconst 1, 1) := by decide +kernel
theorem dX6_fault_117 : decode cX6_fault 117 = .ok (.ireturn, 1) := by decide +kernel
abbrev rm_X6_fault : Room := { frames := 10, cells := 20, slots := 150, locals := 400 }
theorem hw_X6_fault_1 : (Cond.classLink RX6 64 "java/lang/IllegalArgumentException") ∈ wsX6_fault := List.mem_of_getElem? (i := 1) rfl
theorem hw_X6_fault_2 : (Cond.initialized "java/lang/IllegalArgumentException") ∈ wsX6_fault := List.mem_of_getElem? (i := 2) rfl
theorem hw_X6_fault_3 : (Cond.constantDouble RX6 58 (4652007308841189376)) ∈ wsX6_fault := List.mem_of_getElem? (i := 3) rfl
theorem hw_X6_fault_4 : (Cond.constantDouble RX6 201 (4593671619917905920)) ∈ wsX6_fault := List.mem_of_getElem? (i := 4) rfl
theorem hw_X6_fault_5 : (Cond.fieldLink RX6 205 "PlankUnroll$Board" "faults" "Ljava/util/ArrayList;") ∈ wsX6_fault := List.mem_of_getElem? (i := 5) rfl
theorem hw_X6_fault_6 : (Cond.classLink RX6 208 RX1) ∈ wsX6_fault := List.mem_of_getElem? (i := 6) rfl
theorem hw_X6_fault_7 : (Cond.instantiable RX1 4) ∈ wsX6_fault := List.mem_of_getElem? (i := 7) rfl
theorem hw_X6_fault_8 : (Cond.initialized RX1) ∈ wsX6_fault := List.mem_of_getElem? (i := 8) rfl
theorem hw_X6_fault_44 : (Cond.methodLink RX6 210 yX1_init) ∈ wsX6_fault := List.mem_of_getElem? (i := 44) rfl
theorem hw_X6_fault_45 : (Cond.instanceMethod yX1_init) ∈ wsX6_fault := List.mem_of_getElem? (i := 45) rfl
theorem in_X6_fault_X0 : ∀ w ∈ wsX00, w ∈ wsX6_fault := by decide +kernel
theorem in_X6_fault_X1 : ∀ w ∈ wsX10, w ∈ wsX6_fault := by decide +kernel
theorem ht_X6_fault_1 : ∀ w ∈ (vx_atS RX6 68 "java/lang/IllegalArgumentException" ["java/lang/RuntimeException", "java/lang/Exception"]).filter goodWord, w ∈ wsX6_fault := by decide +kernel
set_option maxHeartbeats 4000000 in
set_option maxRecDepth 100000 in
/-- fault -/
theorem c_X6_fault {l : Launch} {G : va_G} {ty : Nat → ClassId} {b0 : Nat} {H : Heap} (hfl : l.stackTraces = false) {ad : Nat → Nat} {F R nb : Nat} {pl wi hi fa : Nat → UInt64} {un bu lo la : Nat → Int32} {cx cy bx : Nat → Nat → UInt64} {nf : Nat → Nat} {K0 : Heap} (hX : xCla G ty ad F R pl un cx cy bu nb wi hi nf fa lo la bx K0 H) (hW : xWf F R nb nf ad b0) {b : Int32} {x y u h ex ey eu eh : UInt64} (hx9 : vq x ex) (hy9 : vq y ey) (hu9 : vq u eu) (hh9 : vq h eh) : xMet l yX6_fault wsX6_fault rm_X6_fault G ty b0 [.ref (ad 0), .int (b), .double x, .double y, .double u, .double h] H (fun v H1 => vp_in b nb ∧ (pBetween ex FP.dconst0 4652007308841189376 = true ∧ pBetween ey FP.dconst0 4652007308841189376 = true ∧ pBetween eu 4593671619917905920 4652007308841189376 = true ∧ pBetween eh 4593671619917905920 4652007308841189376 = true) ∧ ((nf b.toNatClampNeg = 8 ∧ v = some (.int (nI 0)) ∧ xCla G ty ad F R pl un cx cy bu nb wi hi nf fa lo la bx K0 H1) ∨ (¬ nf b.toNatClampNeg = 8 ∧ v = some (.int (nI 1)) ∧ (∀ k : Nat, xU F R nb nf k → (xaf ad b.toNatClampNeg (nf b.toNatClampNeg) H.size) k = ad k) ∧ xWf F R nb (xnfi nf b.toNatClampNeg) (xaf ad b.toNatClampNeg (nf b.toNatClampNeg) H.size) b0 ∧ xCla G ty (xaf ad b.toNatClampNeg (nf b.toNatClampNeg) H.size) F R pl un cx cy bu nb wi hi (xnfi nf b.toNatClampNeg) (vf_upd (vf_upd (vf_upd (vf_upd (fa) (32 * (b.toNatClampNeg) + 4 * nf (b.toNatClampNeg)) x) (32 * (b.toNatClampNeg) + 4 * nf (b.toNatClampNeg) + 1) y) (32 * (b.toNatClampNeg) + 4 * nf (b.toNatClampNeg) + 2) u) (32 * (b.toNatClampNeg) + 4 * nf (b.toNatClampNeg) + 3) h) lo la bx K0 H1))) (fun E H1 => (E = "java/lang/IndexOutOfBoundsException" ∧ ¬ vp_in b nb ∧ xext H H1) ∨ (E = "java/lang/IllegalArgumentException" ∧ vp_in b nb ∧ ¬ (pBetween ex FP.dconst0 4652007308841189376 = true ∧ pBetween ey FP.dconst0 4652007308841189376 = true ∧ pBetween eu 4593671619917905920 4652007308841189376 = true ∧ pBetween eh 4593671619917905920 4652007308841189376 = true) ∧ xext H H1)) := by
  refine xbody (cc := cX6_fault) (maxL := 11) (ret := (some .boolean)) (C := RX6) (lv := [(0, .ref (ad 0)), (1, .int (b)), (2, .double x), (4, .double y), (6, .double u), (8, .double h)]) (by decide) rfl rfl (Nat.le_of_ble_eq_true rfl) rfl ?_
  intro p e s m below meth c d0 hx hb hr hts hown hlocks hml hxt hnm0 hK hb0 hH0 hS hd0 ls hl
  obtain ⟨⟨zF2, zF8⟩, ⟨zR2, zR8⟩⟩ := id hW.1
  have zB4 := hW.2.1
  have hbH : b0 ≤ H.size := by rw [← hH0]; exact hb0
  refine lv_aload_n hx hb dX6_fault_0 rfl (lv_at hl 0 rfl) ?_
  refine lv_iload_n hx hb dX6_fault_1 rfl (lv_at hl 1 rfl) ?_
  have cw_1 := cwV (R := rm_X6_fault) (rm := rm_X6_boardAt) 1 (hts d0) gX6_fault_X6_boardAt rfl rfl rfl (by decide +kernel) ⟨Nat.le_of_ble_eq_true rfl, Nat.le_of_ble_eq_true rfl⟩
  refine xcall hd0 (xintoV (b := (ad 0)) (As := [.int (b)]) (rest := []) ⟨hx, hb, hml, hown, hts _⟩ cw_1 (va_recv hK.1 (x1 hX.o_) (ci := 7) (q0 := 0) rfl rfl) rfl rfl hl.1 rfl (lv_room (Nat.le_of_ble_eq_true rfl)) dX6_fault_2) (c_X6_boardAt (l := l) (G := G) (ty := ty) (b0 := b0) hfl hX hW (b := b)) (xoweB cw_1.1) hK hb0 hS (Nat.le_of_ble_eq_true rfl) (Nat.le_of_ble_eq_true rfl) (fun E_1 ce_1 q9_1 H_1 locs_1 d0 hd0 hp_1 hS hce_1 hcv_1 hcl_1 => ?_) (fun v_1 H_1 locs_1 d0 hd0 hp_1 hS => ?_)
  · exact xout hd0 hxt hlocks hce_1 hcv_1 hcl_1 hS (Nat.le_of_ble_eq_true rfl) (Nat.le_of_ble_eq_true rfl) (Or.inl ⟨hp_1.1, hp_1.2.1, hp_1.2.2⟩)
  · obtain ⟨rfl, z_b, hv_1⟩ := hp_1
    obtain ⟨b9, hb9, eb9⟩ := vp_in_of z_b (by omega)
    subst eb9
    rw [nN_nI (show b9 < 2 ^ 31 by omega)] at hv_1
    subst hv_1
    obtain ⟨mc, hl0, hl1⟩ := id (hX.fls_ b9 hb9)
    have hnf9 := hW.2.2.1 b9 hb9
    show W p l e _ (s.setDrawn _) m _ below meth c _ _ _ _ _ (F0 m 5 ls [.ref (ad (200 + b9))])
    refine lv_astore (lv' := [(10, .ref (ad (200 + b9))), (0, .ref (ad 0)), (1, .int (nI b9)), (2, .double x), (4, .double y), (6, .double u), (8, .double h)]) hx hb dX6_fault_5 hl (by decide) rfl (fun ls hl => ?_)
    refine lv_dload_n hx hb dX6_fault_7 rfl (lv_at hl 3 rfl) ?_
    refine lv_dconst0 hx hb dX6_fault_8 ?_
    refine lv_ldc2d hx hb hown (hts d0 _ hw_X6_fault_3) dX6_fault_9 ?_
    have cw_2 := va_cwS (R := rm_X6_fault) (rm := rm_X6_within) 3 (hts d0) gX6_fault_X6_within rfl rfl rfl (by decide +kernel) ⟨Nat.le_of_ble_eq_true rfl, Nat.le_of_ble_eq_true rfl⟩
    refine xcall hd0 (xintoS (As := [.double x, .double FP.dconst0, .double 4652007308841189376]) (rest := []) ⟨hx, hb, hml, hown, hts _⟩ cw_2 rfl rfl hl.1 rfl (lv_room (Nat.le_of_ble_eq_true rfl)) dX6_fault_12) (c_X6_within (l := l) (G := G) (ty := ty) (b0 := b0) hx9 (vq_rf _) (vq_rf _)) (xoweB cw_2.1) hK hb0 hS (Nat.le_of_ble_eq_true rfl) (Nat.le_of_ble_eq_true rfl) (fun E_2 ce_2 q9_2 H_2 locs_2 d0 hd0 hp_2 hS hce_2 hcv_2 hcl_2 => ?_) (fun v_2 H_2 locs_2 d0 hd0 hp_2 hS => ?_)
    · exact hp_2.elim
    · obtain ⟨rfl, rfl⟩ := hp_2
      show W p l e _ (s.setDrawn _) m _ below meth c _ _ _ _ _ (F0 m 15 ls [.int (xB (pBetween ex FP.dconst0 4652007308841189376))])
      refine lv_if_eq (tgt := 30) hx hb dX6_fault_15 (by decide) (fun c_3 => ?_) (fun c_3 => ?_)
      · exact xthrowS hfl hd0 hx hb hown hlocks hxt hml hl.1 hts (by decide +kernel) hw_X6_fault_1 hw_X6_fault_2 ht_X6_fault_1 xthrow_ok1 xthrow_gd1 (List.mem_of_getElem? (i := 7) rfl) hK hS dX6_fault_30 dX6_fault_33 dX6_fault_34 dX6_fault_36 dX6_fault_39 (Nat.le_of_ble_eq_true rfl) (Nat.le_of_ble_eq_true rfl) (Nat.le_of_ble_eq_true rfl) (Nat.le_of_ble_eq_true rfl) (Nat.le_of_ble_eq_true rfl) (Nat.le_of_ble_eq_true rfl) (fun H1 h9 => Or.inr ⟨rfl, z_b, fun z => xtf z.1 (xB_f c_3), h9⟩)
      · refine lv_dload hx hb dX6_fault_18 (lv_at hl 4 rfl) ?_
        refine lv_dconst0 hx hb dX6_fault_20 ?_
        refine lv_ldc2d hx hb hown (hts d0 _ hw_X6_fault_3) dX6_fault_21 ?_
        have cw_4 := va_cwS (R := rm_X6_fault) (rm := rm_X6_within) 3 (hts d0) gX6_fault_X6_within rfl rfl rfl (by decide +kernel) ⟨Nat.le_of_ble_eq_true rfl, Nat.le_of_ble_eq_true rfl⟩
        refine xcall hd0 (xintoS (As := [.double y, .double FP.dconst0, .double 4652007308841189376]) (rest := []) ⟨hx, hb, hml, hown, hts _⟩ cw_4 rfl rfl hl.1 rfl (lv_room (Nat.le_of_ble_eq_true rfl)) dX6_fault_24) (c_X6_within (l := l) (G := G) (ty := ty) (b0 := b0) hy9 (vq_rf _) (vq_rf _)) (xoweB cw_4.1) hK hb0 hS (Nat.le_of_ble_eq_true rfl) (Nat.le_of_ble_eq_true rfl) (fun E_4 ce_4 q9_4 H_4 locs_4 d0 hd0 hp_4 hS hce_4 hcv_4 hcl_4 => ?_) (fun v_4 H_4 locs_4 d0 hd0 hp_4 hS => ?_)
        · exact hp_4.elim
        · obtain ⟨rfl, rfl⟩ := hp_4
          show W p l e _ (s.setDrawn _) m _ below meth c _ _ _ _ _ (F0 m 27 ls [.int (xB (pBetween ey FP.dconst0 4652007308841189376))])
          refine lv_if_ne (tgt := 40) hx hb dX6_fault_27 (by decide) (fun c_5 => ?_) (fun c_5 => ?_)
          · refine lv_dload hx hb dX6_fault_40 (lv_at hl 5 rfl) ?_
            refine lv_ldc2d hx hb hown (hts d0 _ hw_X6_fault_4) dX6_fault_42 ?_
            refine lv_ldc2d hx hb hown (hts d0 _ hw_X6_fault_3) dX6_fault_45 ?_
            have cw_6 := va_cwS (R := rm_X6_fault) (rm := rm_X6_within) 3 (hts d0) gX6_fault_X6_within rfl rfl rfl (by decide +kernel) ⟨Nat.le_of_ble_eq_true rfl, Nat.le_of_ble_eq_true rfl⟩
            refine xcall hd0 (xintoS (As := [.double u, .double 4593671619917905920, .double 4652007308841189376]) (rest := []) ⟨hx, hb, hml, hown, hts _⟩ cw_6 rfl rfl hl.1 rfl (lv_room (Nat.le_of_ble_eq_true rfl)) dX6_fault_48) (c_X6_within (l := l) (G := G) (ty := ty) (b0 := b0) hu9 (vq_rf _) (vq_rf _)) (xoweB cw_6.1) hK hb0 hS (Nat.le_of_ble_eq_true rfl) (Nat.le_of_ble_eq_true rfl) (fun E_6 ce_6 q9_6 H_6 locs_6 d0 hd0 hp_6 hS hce_6 hcv_6 hcl_6 => ?_) (fun v_6 H_6 locs_6 d0 hd0 hp_6 hS => ?_)
            · exact hp_6.elim
            · obtain ⟨rfl, rfl⟩ := hp_6
              show W p l e _ (s.setDrawn _) m _ below meth c _ _ _ _ _ (F0 m 51 ls [.int (xB (pBetween eu 4593671619917905920 4652007308841189376))])
              refine lv_if_eq (tgt := 68) hx hb dX6_fault_51 (by decide) (fun c_7 => ?_) (fun c_7 => ?_)
              · exact xthrowS hfl hd0 hx hb hown hlocks hxt hml hl.1 hts (by decide +kernel) hw_X6_fault_1 hw_X6_fault_2 ht_X6_fault_1 xthrow_ok1 xthrow_gd1 (List.mem_of_getElem? (i := 8) rfl) hK hS dX6_fault_68 dX6_fault_71 dX6_fault_72 dX6_fault_74 dX6_fault_77 (Nat.le_of_ble_eq_true rfl) (Nat.le_of_ble_eq_true rfl) (Nat.le_of_ble_eq_true rfl) (Nat.le_of_ble_eq_true rfl) (Nat.le_of_ble_eq_true rfl) (Nat.le_of_ble_eq_true rfl) (fun H1 h9 => Or.inr ⟨rfl, z_b, fun z => xtf z.2.2.1 (xB_f c_7), h9⟩)
              · refine lv_dload hx hb dX6_fault_54 (lv_at hl 6 rfl) ?_
                refine lv_ldc2d hx hb hown (hts d0 _ hw_X6_fault_4) dX6_fault_56 ?_
                refine lv_ldc2d hx hb hown (hts d0 _ hw_X6_fault_3) dX6_fault_59 ?_
                have cw_8 := va_cwS (R := rm_X6_fault) (rm := rm_X6_within) 3 (hts d0) gX6_fault_X6_within rfl rfl rfl (by decide +kernel) ⟨Nat.le_of_ble_eq_true rfl, Nat.le_of_ble_eq_true rfl⟩
                refine xcall hd0 (xintoS (As := [.double h, .double 4593671619917905920, .double 4652007308841189376]) (rest := []) ⟨hx, hb, hml, hown, hts _⟩ cw_8 rfl rfl hl.1 rfl (lv_room (Nat.le_of_ble_eq_true rfl)) dX6_fault_62) (c_X6_within (l := l) (G := G) (ty := ty) (b0 := b0) hh9 (vq_rf _) (vq_rf _)) (xoweB cw_8.1) hK hb0 hS (Nat.le_of_ble_eq_true rfl) (Nat.le_of_ble_eq_true rfl) (fun E_8 ce_8 q9_8 H_8 locs_8 d0 hd0 hp_8 hS hce_8 hcv_8 hcl_8 => ?_) (fun v_8 H_8 locs_8 d0 hd0 hp_8 hS => ?_)
                · exact hp_8.elim
                · obtain ⟨rfl, rfl⟩ := hp_8
                  show W p l e _ (s.setDrawn _) m _ below meth c _ _ _ _ _ (F0 m 65 ls [.int (xB (pBetween eh 4593671619917905920 4652007308841189376))])
                  refine lv_if_ne (tgt := 78) hx hb dX6_fault_65 (by decide) (fun c_9 => ?_) (fun c_9 => ?_)
                  · have z9 : (pBetween ex FP.dconst0 4652007308841189376 = true ∧ pBetween ey FP.dconst0 4652007308841189376 = true ∧ pBetween eu 4593671619917905920 4652007308841189376 = true ∧ pBetween eh 4593671619917905920 4652007308841189376 = true) := ⟨xB_t c_3, xB_t c_5, xB_t c_7, xB_t c_9⟩
                    refine lv_aload hx hb dX6_fault_78 (lv_at hl 0 rfl) ?_
                    refine va_get (D := G) (cl := vwCl) (ci := 1) (v := .ref (ad (210 + b9))) (C := RX0) (T := TX0) (N := 3) hx hb (hts d0) in_X6_fault_X0 hown hK.1 (x1 (hX.board_ _ (by omega))) 0 rfl rfl 2 (by decide) (hts d0 _ hw_X6_fault_5) (fun _ h9 => h9) rfl dX6_fault_80 ?_
                    have cw_10 := cwV (R := rm_X6_fault) (rm := rm_Jx4a65c_size_8abf5) 0 (hts d0) gX6_fault_Jx4a65c_size_8abf5 rfl rfl rfl (by decide +kernel) ⟨Nat.le_of_ble_eq_true rfl, Nat.le_of_ble_eq_true rfl⟩
                    refine xcall hd0 (xintoV (b := (ad (210 + b9))) (As := []) (rest := []) ⟨hx, hb, hml, hown, hts _⟩ cw_10 (va_recv hK.1 (x1 hl0) (ci := 0) (q0 := 0) rfl rfl) rfl rfl hl.1 rfl (lv_room (Nat.le_of_ble_eq_true rfl)) dX6_fault_83) (c_Jx4a65c_size_8abf5 (l := l) (G := G) (ty := ty) (b0 := b0) hl0) (xoweB cw_10.1) hK hb0 hS (Nat.le_of_ble_eq_true rfl) (Nat.le_of_ble_eq_true rfl) (fun E_10 ce_10 q9_10 H_10 locs_10 d0 hd0 hp_10 hS hce_10 hcv_10 hcl_10 => ?_) (fun v_10 H_10 locs_10 d0 hd0 hp_10 hS => ?_)
                    · exact hp_10.elim
                    · obtain ⟨rfl, rfl⟩ := hp_10
                      show W p l e _ (s.setDrawn _) m _ below meth c _ _ _ _ _ (F0 m 86 ls [.int (nI (nf b9))])
                      refine lv_bipush (v := nI 8) hx hb dX6_fault_86 (by decide) ?_
                      refine xicmpN_lt (tgt := 93) hx hb (by omega) (show (8 : Nat) < 2 ^ 31 by decide) dX6_fault_88 (by decide) (fun c_11 => ?_) (fun c_11 => ?_)
                      · refine lv_aload hx hb dX6_fault_93 (lv_at hl 0 rfl) ?_
                        refine va_get (D := G) (cl := vwCl) (ci := 1) (v := .ref (ad (210 + b9))) (C := RX0) (T := TX0) (N := 3) hx hb (hts d0) in_X6_fault_X0 hown hK.1 (x1 (hX.board_ _ (by omega))) 0 rfl rfl 2 (by decide) (hts d0 _ hw_X6_fault_5) (fun _ h9 => h9) rfl dX6_fault_95 ?_
                        refine xnew (G := G) (s := s.setDrawn d0) (fs := [.double FP.dconst0, .double FP.dconst0, .double FP.dconst0, .double FP.dconst0]) hx hb (hts d0) in_X6_fault_X1 tyX1 tyX1_ok hown (hts d0 _ hw_X6_fault_6) (hts d0 _ hw_X6_fault_7) (hts d0 _ hw_X6_fault_8) hK.1 hS (ci := 2) rfl nB_X1 (Nat.le_of_ble_eq_true rfl) (Nat.le_of_ble_eq_true rfl) dX6_fault_98 (fun q_12 H_12 hg_12 hS => ?_)
                        have e_12 : q_12 = H.size + 0 := hg_12.2.1.symm.trans rfl
                        subst e_12
                        have hz_12 : H_12.size = H.size + 1 := hg_12.2.2.1
                        refine lv_dup hx hb dX6_fault_101 rfl ?_
                        refine lv_dload_n hx hb dX6_fault_102 rfl (lv_at hl 3 rfl) ?_
                        refine lv_dload hx hb dX6_fault_103 (lv_at hl 4 rfl) ?_
                        refine lv_dload hx hb dX6_fault_105 (lv_at hl 5 rfl) ?_
                        refine lv_dload hx hb dX6_fault_107 (lv_at hl 6 rfl) ?_
                        have cw_13 := cwI (R := rm_X6_fault) (rm := rm_X1_init) 4 (hts d0) gX6_fault_X1_init rfl rfl rfl (hts d0 _ hw_X6_fault_8) (hts d0 _ hw_X6_fault_44) (hts d0 _ hw_X6_fault_45) rfl (by decide +kernel) ⟨Nat.le_of_ble_eq_true rfl, Nat.le_of_ble_eq_true rfl⟩
                        refine xcall hd0 (xintoI (b := (H.size + 0)) (As := [.double x, .double y, .double u, .double h]) (rest := [.ref (H.size + 0), .ref (ad (210 + b9))]) ⟨hx, hb, hml, hown, hts _⟩ cw_13 rfl rfl hl.1 rfl (lv_room (Nat.le_of_ble_eq_true rfl)) dX6_fault_109) (c_X1_init (l := l) (G := G) (ty := ty) (b0 := b0) (Nat.le_trans hbH (Nat.le_add_right _ _)) hg_12.1) (xoweB cw_13.1) hK hb0 hS (Nat.le_of_ble_eq_true rfl) (Nat.le_of_ble_eq_true rfl) (fun E_13 ce_13 q9_13 H_13 locs_13 d0 hd0 hp_13 hS hce_13 hcv_13 hcl_13 => ?_) (fun v_13 H_13 locs_13 d0 hd0 hp_13 hS => ?_)
                        · exact hp_13.elim
                        · obtain ⟨rfl, hs_13⟩ := hp_13
                          have hz2_13 : H_13.size = H.size + 1 := hs_13.2.1.trans hz_12
                          have hq_13 : ∀ q : Nat, q < H.size → H_13[q]? = H[q]? := fun q a => (hs_13.2.2 q (by omega)).trans (hg_12.2.2.2 q a)
                          have hL_13 : xL G ty (ad (210 + b9)) (ad (220 + b9)) (nf b9) (fun k => ad (300 + 8 * b9 + k)) H_13 := (hX.fls_ b9 hb9).mv rfl (fun _ => rfl) (fun _ _ => rfl) (hq_13 _ (hX.lt _ (xU_fls hb9))) (fun zp => hq_13 _ (hX.lt _ (xU_fld hb9 zp)))
                          obtain ⟨mc_13, hl0_13, -⟩ := id hL_13
                          show W p l e _ (s.setDrawn _) m _ below meth c _ _ _ _ _ (F0 m 112 ls [.ref (H.size + 0), .ref (ad (210 + b9))])
                          have cw_14 := cwV (R := rm_X6_fault) (rm := rm_Jx4a65c_add_9ea2d) 1 (hts d0) gX6_fault_Jx4a65c_add_9ea2d rfl rfl rfl (by decide +kernel) ⟨Nat.le_of_ble_eq_true rfl, Nat.le_of_ble_eq_true rfl⟩
                          refine xcall hd0 (xintoV (b := (ad (210 + b9))) (As := [.ref (H.size + 0)]) (rest := []) ⟨hx, hb, hml, hown, hts _⟩ cw_14 (va_recv hK.1 (x1 hl0_13) (ci := 0) (q0 := 0) rfl rfl) rfl rfl hl.1 rfl (lv_room (Nat.le_of_ble_eq_true rfl)) dX6_fault_112) (c_add (l := l) (G := G) (ty := ty) (b0 := b0) (ci := 2) hL_13 (by omega) (hW.2.2.2.1 _ (xU_fls (by omega))) (fun zp => ⟨hW.2.2.2.1 _ (xU_fld hb9 zp), fun z => absurd (hW.2.2.2.2 _ _ (xU_fls hb9) (xU_fld hb9 zp) z) (by omega)⟩) hs_13.1 (Or.inr rfl) (by have := hX.lt _ (xU_fls hb9); omega)) (xoweB cw_14.1) hK hb0 hS (Nat.le_of_ble_eq_true rfl) (Nat.le_of_ble_eq_true rfl) (fun E_14 ce_14 q9_14 H_14 locs_14 d0 hd0 hp_14 hS hce_14 hcv_14 hcl_14 => ?_) (fun v_14 H_14 locs_14 d0 hd0 hp_14 hS => ?_)
                          · exact hp_14.elim
                          · obtain ⟨rfl, d_14, hd_14, hL_14, hz_14, hk_14⟩ := hp_14
                            show W p l e _ (s.setDrawn _) m _ below meth c _ _ _ _ _ (F0 m 115 ls [.int (nI 1)])
                            refine lv_pop hx hb dX6_fault_115 rfl ?_
                            refine lv_iconst (v := nI 1) hx hb dX6_fault_116 (by decide) ?_
                            have hlt := hX.lt
                            have hb8 : nf b9 < 8 := by omega
                            have hko : ∀ q : Nat, q < H.size → q ≠ ad (210 + b9) → (0 < nf b9 → q ≠ ad (220 + b9)) → H_14[q]? = H[q]? := fun q a b c => (hk_14 q (by omega) b c).trans (hq_13 q a)
                            have hbx : xc G H.size (.inr (2, [.double x, .double y, .double u, .double h])) H_14 := hs_13.1.kept (hk_14 _ (by omega) (by have := hlt _ (xU_fls hb9); omega) (fun zp => by have := hlt _ (xU_fld hb9 zp); omega))
                            have hd9 : d_14 = xaf ad b9 (nf b9) H.size (220 + b9) := by
                              rw [hd_14]
                              by_cases e : nf b9 = 0
                              · rw [if_pos e, xaf_2 (by omega) e, hz2_13]
                              · rw [if_neg e, xaf_old (nf := nf) zF8 zR8 zB4 hW.2.2.1 hb9 hb8 _ (xU_fld hb9 (Nat.pos_of_ne_zero e))]
                            rw [hd9] at hL_14
                            exact xzret (by decide) hd0 hx hb hr hlocks hS (Nat.le_of_ble_eq_true rfl) (Nat.le_of_ble_eq_true rfl) dX6_fault_117 ⟨z_b, z9, by rw [nN_nI (by omega)]; exact Or.inr ⟨by omega, rfl, xaf_old zF8 zR8 zB4 hW.2.2.1 hb9 hb8, hW.af hb9 hb8 hlt hbH, hX.af hW hb9 hb8 (by omega) hko hbx hL_14⟩⟩
                      · refine lv_iconst (v := nI 0) hx hb dX6_fault_91 (by decide) ?_
                        exact xzret (by decide) hd0 hx hb hr hlocks hS (Nat.le_of_ble_eq_true rfl) (Nat.le_of_ble_eq_true rfl) dX6_fault_92 ⟨z_b, z9, by rw [nN_nI (by omega)]; exact Or.inl ⟨by omega, rfl, hX⟩⟩
                  · exact xthrowS hfl hd0 hx hb hown hlocks hxt hml hl.1 hts (by decide +kernel) hw_X6_fault_1 hw_X6_fault_2 ht_X6_fault_1 xthrow_ok1 xthrow_gd1 (List.mem_of_getElem? (i := 8) rfl) hK hS dX6_fault_68 dX6_fault_71 dX6_fault_72 dX6_fault_74 dX6_fault_77 (Nat.le_of_ble_eq_true rfl) (Nat.le_of_ble_eq_true rfl) (Nat.le_of_ble_eq_true rfl) (Nat.le_of_ble_eq_true rfl) (Nat.le_of_ble_eq_true rfl) (Nat.le_of_ble_eq_true rfl) (fun H1 h9 => Or.inr ⟨rfl, z_b, fun z => xtf z.2.2.2 (xB_f c_9), h9⟩)
          · exact xthrowS hfl hd0 hx hb hown hlocks hxt hml hl.1 hts (by decide +kernel) hw_X6_fault_1 hw_X6_fault_2 ht_X6_fault_1 xthrow_ok1 xthrow_gd1 (List.mem_of_getElem? (i := 7) rfl) hK hS dX6_fault_30 dX6_fault_33 dX6_fault_34 dX6_fault_36 dX6_fault_39 (Nat.le_of_ble_eq_true rfl) (Nat.le_of_ble_eq_true rfl) (Nat.le_of_ble_eq_true rfl) (Nat.le_of_ble_eq_true rfl) (Nat.le_of_ble_eq_true rfl) (Nat.le_of_ble_eq_true rfl) (fun H1 h9 => Or.inr ⟨rfl, z_b, fun z => xtf z.2.1 (xB_f c_5), h9⟩)
