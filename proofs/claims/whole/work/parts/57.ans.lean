/-! THE CLASS BESIDE THE REFERENCE: the answers; nest. -/
theorem spans_iff {bu : Nat → Int32} {F R n : Nat} (hR : 2 ≤ R) : (∀ j : Nat, j < R - 1 → pSpC bu F n j) ↔ ∀ x : Nat, x < R - 1 → pSp bu F R n x := by
  constructor
  · intro h x hx
    refine ⟨(h x hx).1, ?_⟩
    by_cases e : x = R - 2
    · exact Or.inl e
    · have := (h (x + 1) (by omega)).2.resolve_left (by omega)
      exact Or.inr this
  · intro h j hj
    refine ⟨(h j hj).1, ?_⟩
    by_cases e : j = 0
    · exact Or.inl e
    · have := (h (j - 1) (by omega)).2.resolve_left (by omega)
      rw [show j - 1 + 1 = j by omega] at this
      exact Or.inr this
section Ans
variable {F R nb : Nat} {pl : Nat → UInt64} {un : Nat → Int32} {cx cy : Nat → Nat → UInt64} {wi : Nat → UInt64} {nf : Nat → Nat} {fa : Nat → UInt64} {lo la : Nat → Int32} {bx : Nat → Nat → UInt64} {un2 : Nat → Int32} {co : Nat → UInt64} {fc lo2 la2 : Nat → Int32}
theorem ans_flat (h : xRel F R nb pl un cx cy wi nf fa lo la bx un2 co fc lo2 la2) {i k : Nat} {q : Int32} (hi : i < R - 1) (hu : ¬ un i = 0) (hk : k < 2 * F) (hq : vp_in q 2) : vq (if q = 0 then cx i k else cy i k) (co (32 * i + 2 * k + q.toNatClampNeg)) := by
  obtain ⟨d, -, a2, a3, -⟩ := h.2.2.1 i hi hu
  obtain ⟨j, hj, rfl⟩ := vp_in_of hq (by decide)
  rw [nI_clamp (by omega)]
  have e := a2 k hk
  have e0 := a3 (2 * k + j) (by omega)
  rw [← Nat.add_assoc] at e0
  rcases (show j = 0 ∨ j = 1 by omega) with rfl | rfl
  · rw [if_pos (by decide)]; exact e.1.trans e0.symm
  · rw [if_neg (by decide)]; exact e.2.trans e0.symm
theorem ans_stretch (h : xRel F R nb pl un cx cy wi nf fa lo la bx un2 co fc lo2 la2) {i f : Nat} (hi : i < R - 1) (hu : ¬ un i = 0) (hf : f < F - 1) : pOffC (cx i) (cy i) pl i f = pOff co pl i f := by
  obtain ⟨d, -, a2, a3, -⟩ := h.2.2.1 i hi hu
  rw [offC_D a2 (by omega), offR_D a3 (by omega)]
theorem ans_worst (h : xRel F R nb pl un cx cy wi nf fa lo la bx un2 co fc lo2 la2) {i : Nat} (hF : 2 ≤ F) (hi : i < R - 1) (hu : ¬ un i = 0) : pWoC (cx i) (cy i) pl i (F - 2) = pWor co pl i (F - 1) := by
  obtain ⟨d, a1, a2, a3, -⟩ := h.2.2.1 i hi hu
  exact (worst_eq hF (by omega) h.1.1 a1 a2 a3).symm
/-- what an unrolled strip takes up -/
theorem laid_ext (h : xRel F R nb pl un cx cy wi nf fa lo la bx un2 co fc lo2 la2) {i : Nat} (hF : 2 ≤ F) (hi : i < R - 1) (hu : ¬ un i = 0) : (vq (bx i 2) (pExt co F i 0) ∧ xNn (pExt co F i 0) ∧ 0 ≤ zv (pExt co F i 0)) ∧ (vq (bx i 3) (pExt co F i 1) ∧ xNn (pExt co F i 1) ∧ 0 ≤ zv (pExt co F i 1)) := by
  obtain ⟨d, a1, a2, a3, a4, a5⟩ := h.2.2.1 i hi hu
  obtain ⟨d0, d1⟩ := unr_0 (k := F - 2) (by rw [show F - 2 + 1 = F - 1 by omega]; exact a1)
  rw [ext_eq a3 d0 (by decide) (by omega), ext_eq a3 d1 (by decide) (by omega)]
  exact ⟨⟨a4, ext_nn _ _ _⟩, a5, ext_nn _ _ _⟩
theorem hitF_iff {b f : Nat} {x w h w' h' : UInt64} (hw : vq w' w) (hh : vq h' h) (hn : xNn h) : pHC fa b f x FP.dconst0 w' h' ↔ pHitF fa b f x w h := by
  unfold pHC pHitF
  rw [pOv_iff, xgt_lt, xgt_lt, vq_add (vq_rf x) hw, vq_add (vq_rf FP.dconst0) hh, (add0_zq hn).lt_r, and_assoc]
theorem hitS_iff (h : xRel F R nb pl un cx cy wi nf fa lo la bx un2 co fc lo2 la2) (hF : 2 ≤ F) {b t : Nat} (hb4 : b < 4) (ht : t < R - 1) {x w h0 w' h' : UInt64} (hw : vq w' w) (hh : vq h' h0) (hn : xNn h0) : pHT lo bx b t x FP.dconst0 w' h' ↔ pHitS lo2 la2 co F b t x w h0 := by
  obtain ⟨-, r2, r3, r4⟩ := h.2.1 t ht
  unfold pHT pHitS
  rw [r2]
  by_cases hb : lo t = nI b
  · have hne : ¬ lo t = (-1) := by rw [hb]; exact nI_neg1 (by omega)
    obtain ⟨b', k', c1, c2, c3, c4, c5, c6, c7⟩ := (h.2.2.2.2.2.1 t ht).resolve_left hne
    obtain ⟨⟨e1, n1, -⟩, e2, n2, -⟩ := laid_ext h hF ht c5
    have ea : pAtE la2 t = pEi k' := by unfold pAtE pEi; rw [r3, c4]
    rw [pOv_iff, ea, r4, vq_add c6 e1, vq_lt c6 (vq_rf _), vq_add (vq_rf x) hw, vq_add (vq_rf FP.dconst0) e2, (add0_zq n2).lt_r, vq_add (vq_rf FP.dconst0) hh, (add0_zq hn).lt_r, xgt_lt, xgt_lt, and_assoc]
  · exact ⟨fun z => absurd z.1 hb, fun z => absurd z.1 hb⟩
theorem open_iff (h : xRel F R nb pl un cx cy wi nf fa lo la bx un2 co fc lo2 la2) (hF : 2 ≤ F) {b i : Nat} (hb4 : b < 4) (hi : i < R - 1) (hu : ¬ un i = 0) (x : UInt64) : pFree fa lo bx R b (nf b) x (bx i 1) (bx i 2) (bx i 3) ↔ pOpen fa lo2 la2 co F R b (nf b) x (pExt co F i 0) (pExt co F i 1) := by
  obtain ⟨⟨e1, n1, -⟩, e2, n2, -⟩ := laid_ext h hF hi hu
  obtain ⟨-, -, -, r4⟩ := h.2.1 i hi
  rw [r4]
  exact ⟨fun z => ⟨fun k hk y => z.1 k hk ((hitF_iff e1 e2 n2).mpr y), fun t ht y => z.2 t ht ((hitS_iff h hF hb4 ht e1 e2 n2).mpr y)⟩, fun z => ⟨fun k hk y => z.1 k hk ((hitF_iff e1 e2 n2).mp y), fun t ht y => z.2 t ht ((hitS_iff h hF hb4 ht e1 e2 n2).mp y)⟩⟩
theorem nest_skip (h : xRel F R nb pl un cx cy wi nf fa lo la bx un2 co fc lo2 la2) (hF : 2 ≤ F) {b i : Nat} (hb : b < nb) (hb4 : b < 4) (hi : i < R - 1) (hu : ¬ un i = 0) : pSkip fa lo bx R b (nf b) i := by
  obtain ⟨⟨e1, n1, -⟩, -⟩ := laid_ext h hF hi hu
  have hw : xNn (bx i 2) := xNn_vq e1 n1
  intro k hk x2 w2 hh
  have hO := xO_pos
  rcases hh with ⟨f, hf, rfl, rfl, ho⟩ | ⟨t, ht, hti, rfl, rfl, ho1, ho2⟩
  · obtain ⟨g1, g2⟩ := h.2.2.2.2.1 b hb f hf
    obtain ⟨f1, f2⟩ := le2000 g1 g2
    obtain ⟨m, m1, m2, m3, m4⟩ := skip_one hk hw f1 f2 ho
    exact ⟨m, m1, m2, m3, fun j j1 j2 _ z => z.1 f hf (m4 j j1 j2)⟩
  · have hne : ¬ lo t = (-1) := by rw [ho1]; exact nI_neg1 (by omega)
    obtain ⟨b', k', c1, c2, c3, c4, c5, c6, c7⟩ := (h.2.2.2.2.2.1 t ht).resolve_left hne
    obtain ⟨⟨t1, tn, t0⟩, -⟩ := laid_ext h hF ht c5
    have hwt : xNn (bx t 2) := xNn_vq t1 tn
    have eD : FP.dadd (bx t 0) (bx t 2) = FP.dadd (pEi k') (bx t 2) := vq_add c6 (vq_rf _)
    obtain ⟨f1, f2, -⟩ := fit_le (show k' < 2 ^ 30 by omega) hwt (by rw [zv_vq t1]; exact t0) (h.2.2.2.1 b' c1).1 c7
    obtain ⟨m, m1, m2, m3, m4⟩ := skip_one (x2 := bx t 0) (w2 := bx t 2) hk hw (by rw [eD]; exact f1) (by rw [eD]; omega) ho2
    exact ⟨m, m1, m2, m3, fun j j1 j2 _ z => z.2 t ht ⟨ho1, m4 j j1 j2⟩⟩
theorem nest_high (h : xRel F R nb pl un cx cy wi nf fa lo la bx un2 co fc lo2 la2) (hF : 2 ≤ F) {i : Nat} (hi : i < R - 1) (hu : ¬ un i = 0) (H9 : UInt64) : xgt (FP.dadd (bx i 1) (bx i 3)) H9 = xgt (pExt co F i 1) H9 := by
  obtain ⟨-, e2, n2, -⟩ := laid_ext h hF hi hu
  rw [(h.2.1 i hi).2.2.2, vq_add (vq_rf FP.dconst0) e2, xgt_lt, xgt_lt, (add0_zq n2).lt_r]
theorem nest_end (h : xRel F R nb pl un cx cy wi nf fa lo la bx un2 co fc lo2 la2) (hF : 2 ≤ F) {b i : Nat} (hb : b < nb) (hi : i < R - 1) (hu : ¬ un i = 0) : xle (FP.dadd (pEi 8001) (pExt co F i 0)) (wi b) = false := by
  obtain ⟨⟨e1, n1, n0⟩, -⟩ := laid_ext h hF hi hu
  have hW := (h.2.2.2.1 b hb).1
  obtain ⟨⟨nW, -, -⟩, -⟩ := btw_iff.mp hW
  refine bfalse.mpr fun z => ?_
  have := fit_8000 (show 8001 < 2 ^ 30 by decide) n1 n0 hW ((fit_xle (by decide) n1 nW).mp z)
  omega
/-- nest answers alike, and leaves alike states -/
theorem nest_same (h : xRel F R nb pl un cx cy wi nf fa lo la bx un2 co fc lo2 la2) (hF : 2 ≤ F) (hn4 : nb ≤ 4) {b i : Nat} (hb : b < nb) (hi : i < R - 1) (hu : ¬ un i = 0) (hl : lo i = (-1)) {hi9 : Nat → UInt64} {v : Option Value} {z : Int32} {bx1 : Nat → Nat → UInt64} {lo1 la1 lo3 la3 : Nat → Int32} (hB : xBx bx bx1 i)
    (hc : (v = some (.int (-1)) ∧ xgt (FP.dadd (bx i 1) (bx i 3)) (hi9 b) = true ∧ lo1 = lo ∧ la1 = la) ∨ (xgt (FP.dadd (bx i 1) (bx i 3)) (hi9 b) = false ∧ ∃ k : Nat, k ≤ 8000 ∧ v = some (.int (nI k)) ∧ xgt (FP.dadd (pEi k) (bx i 2)) (wi b) = false ∧ pFree fa lo bx R b (nf b) (pEi k) (bx i 1) (bx i 2) (bx i 3) ∧ vq (bx1 i 0) (pEi k) ∧ (∀ j : Nat, j < k → ¬ pFree fa lo bx R b (nf b) (pEi j) (bx i 1) (bx i 2) (bx i 3)) ∧ lo1 = upd lo i (nI b) ∧ la1 = upd la i (nI k)) ∨ (v = some (.int (-1)) ∧ xgt (FP.dadd (bx i 1) (bx i 3)) (hi9 b) = false ∧ (∃ k : Nat, (∀ j : Nat, j < k → j ≤ 8000 → ¬ pFree fa lo bx R b (nf b) (pEi j) (bx i 1) (bx i 2) (bx i 3)) ∧ (xgt (FP.dadd (pEi k) (bx i 2)) (wi b) = true ∨ 8000 < k)) ∧ lo1 = lo ∧ la1 = la))
    (hr : (xgt (pExt co F i 1) (hi9 b) = true ∧ z = (-1) ∧ lo3 = lo2 ∧ la3 = la2) ∨ (xgt (pExt co F i 1) (hi9 b) = false ∧ ∃ k : Nat, (∀ j : Nat, j < k → xle (FP.dadd (pEi j) (pExt co F i 0)) (wi b) = true ∧ ¬ pOpen fa lo2 la2 co F R b (nf b) (pEi j) (pExt co F i 0) (pExt co F i 1)) ∧ ((xle (FP.dadd (pEi k) (pExt co F i 0)) (wi b) = true ∧ pOpen fa lo2 la2 co F R b (nf b) (pEi k) (pExt co F i 0) (pExt co F i 1) ∧ k ≤ 8001 ∧ z = nI k ∧ lo3 = upd lo2 i (nI b) ∧ la3 = upd la2 i (nI k)) ∨ (xle (FP.dadd (pEi k) (pExt co F i 0)) (wi b) = false ∧ z = (-1) ∧ lo3 = lo2 ∧ la3 = la2)))) :
    v = some (.int z) ∧ xRel F R nb pl un cx cy wi nf fa lo1 la1 bx1 un2 co fc lo3 la3 := by
  obtain ⟨⟨e1, n1, n0⟩, e2, n2, -⟩ := laid_ext h hF hi hu
  have hop := fun x => open_iff h hF (show b < 4 by omega) hi hu x
  have hhi := nest_high h hF hi hu (hi9 b)
  have hW := (h.2.2.2.1 b hb).1
  obtain ⟨⟨nW, -, -⟩, -⟩ := btw_iff.mp hW
  have hft : ∀ k : Nat, FP.dadd (pEi k) (bx i 2) = FP.dadd (pEi k) (pExt co F i 0) := fun k => vq_add (vq_rf _) e1
  have hbe : bx1 i 2 = bx i 2 := hB.2 2 (by decide)
  -- the state where no strip was put
  have hsame : xRel F R nb pl un cx cy wi nf fa lo la bx1 un2 co fc lo2 la2 := by
    obtain ⟨h1, h3, h4, h5, h6, h7, h8⟩ := h
    refine ⟨h1, fun j hj => ?_, fun j hj y => ?_, h5, h6, fun j hj => ?_, h8⟩
    · obtain ⟨a1, a2, a3, a4⟩ := h3 j hj
      refine ⟨a1, a2, a3, ?_⟩
      by_cases e : j = i
      · subst e; rw [hB.2 1 (by decide)]; exact a4
      · rw [hB.1 j e]; exact a4
    · obtain ⟨d, a1, a2, a3, a4, a5⟩ := h4 j hj y
      refine ⟨d, a1, a2, a3, ?_⟩
      by_cases e : j = i
      · subst e; rw [hB.2 2 (by decide), hB.2 3 (by decide)]; exact ⟨a4, a5⟩
      · rw [hB.1 j e]; exact ⟨a4, a5⟩
    · rcases h7 j hj with y | ⟨b', k', c1, c2, c3, c4, c5, c6, c7⟩
      · exact Or.inl y
      · have e : ¬ j = i := by
          intro e
          subst e
          rw [hl] at c3
          exact absurd c3.symm (nI_neg1 (by omega))
        exact Or.inr ⟨b', k', c1, c2, c3, c4, c5, by rw [hB.1 j e]; exact c6, by rw [hB.1 j e]; exact c7⟩
  -- the state where it was put at k
  have hput : ∀ k : Nat, k ≤ 8000 → xgt (FP.dadd (pEi k) (bx i 2)) (wi b) = false → vq (bx1 i 0) (pEi k) → xRel F R nb pl un cx cy wi nf fa (upd lo i (nI b)) (upd la i (nI k)) bx1 un2 co fc (upd lo2 i (nI b)) (upd la2 i (nI k)) := by
    intro k hk hf hv
    obtain ⟨h1, h3, h4, h5, h6, h7, h8⟩ := hsame
    refine ⟨h1, fun j hj => ?_, h4, h5, h6, fun j hj => ?_, h8⟩
    · obtain ⟨a1, a2, a3, a4⟩ := h3 j hj
      refine ⟨a1, ?_, ?_, a4⟩
      · by_cases e : j = i
        · subst e; rw [xupd_s, xupd_s]
        · rw [xupd_n e, xupd_n e]; exact a2
      · by_cases e : j = i
        · subst e; rw [xupd_s, xupd_s]
        · rw [xupd_n e, xupd_n e]; exact a3
    · by_cases e : j = i
      · subst e
        exact Or.inr ⟨b, k, hb, hk, xupd_s, xupd_s, hu, hv, by rw [hbe]; exact hf⟩
      · unfold pNest
        rw [xupd_n e, xupd_n e]
        exact h7 j hj
  rcases hc with ⟨rfl, g1, rfl, rfl⟩ | ⟨g1, k, k1, rfl, k2, k3, k4, k5, rfl, rfl⟩ | ⟨rfl, g1, ⟨k, k1, k2⟩, rfl, rfl⟩
  · rw [hhi] at g1
    rcases hr with ⟨-, rfl, rfl, rfl⟩ | ⟨g2, -⟩
    · exact ⟨rfl, hsame⟩
    · exact (xtf g1 g2).elim
  · rw [hhi] at g1
    rcases hr with ⟨g2, -⟩ | ⟨-, k', p1, p2⟩
    · exact (xtf g2 g1).elim
    · have hlt : ¬ k' < k := by
        intro hlt
        rcases p2 with ⟨-, q2, -⟩ | ⟨q1, -⟩
        · exact k5 k' hlt ((hop _).mpr q2)
        · have f1 := fit_mono (Nat.le_of_lt hlt) (by omega) (by rw [show bx i 2 = bx i 2 from rfl]; exact xNn_vq e1 n1) k2
          rw [hft] at f1
          exact xtf ((fit_xle (by omega) n1 nW).mpr f1) q1
      have hgt : ¬ k < k' := fun hgt => (p1 k hgt).2 ((hop _).mp k3)
      have ek : k' = k := by omega
      subst ek
      rcases p2 with ⟨-, -, -, rfl, rfl, rfl⟩ | ⟨q1, -⟩
      · exact ⟨rfl, hput k' k1 k2 k4⟩
      · rw [hft] at k2
        exact (xtf ((fit_xle (by omega) n1 nW).mpr k2) q1).elim
  · rw [hhi] at g1
    rcases hr with ⟨g2, -⟩ | ⟨-, k', p1, p2⟩
    · exact (xtf g2 g1).elim
    · rcases p2 with ⟨q1, q2, q3, -⟩ | ⟨-, rfl, rfl, rfl⟩
      · exfalso
        have f1 := (fit_xle (show k' < 2 ^ 30 by omega) n1 nW).mp q1
        have k8 := fit_8000 (show k' < 2 ^ 30 by omega) n1 n0 hW f1
        by_cases e : k' < k
        · exact k1 k' e k8 ((hop _).mpr q2)
        · rcases k2 with k2 | k2
          · have f2 := fit_mono (show k ≤ k' by omega) (by omega) n1 f1
            rw [← hft] at f2
            exact xtf k2 f2
          · omega
      · exact ⟨rfl, hsame⟩
end Ans
