/-! THE OPERATIONS, one by one: the same answer, the same exception, the states beside each other again. -/
theorem exc_1 {P Q : Prop} {a b : String} (h : (a = a ∧ P) ∨ (a = b ∧ Q)) (hab : a ≠ b := by decide) : P := h.elim (fun h => h.2) (fun h => absurd h.1 hab)
theorem exc_2 {P Q : Prop} {a b : String} (h : (b = a ∧ P) ∨ (b = b ∧ Q)) (hab : b ≠ a := by decide) : Q := h.elim (fun h => absurd h.1 hab) (fun h => h.2)
theorem vupd0 {f : Nat → UInt64} {v : UInt64} : vf_upd f 0 v 0 = v := if_pos rfl
theorem lupd0 {f : Nat → Int64} {v : Int64} : vp_updL f 0 v 0 = v := if_pos rfl
section Ops
variable {G : va_G} {ty : Nat → ClassId} {b0 m0 o1 o2 : Nat} {A ad : Nat → Nat} {F R nb : Nat} {pl wi hi fa : Nat → UInt64} {un bu lo la : Nat → Int32} {cx cy bx : Nat → Nat → UInt64} {nf : Nat → Nat} {f1 : Nat → Int64} {f2 : Nat → UInt64} {H : Heap}
variable {th : Int32} {co dr : Nat → UInt64} {un2 fc lo2 la2 : Nat → Int32} {px py pz : UInt64}
theorem keepC {H1 : Heap} {ad1 : Nat → Nat} {nb1 : Nat} {pl1 wi1 hi1 fa1 : Nat → UInt64} {un1 bu1 lo1 la1 : Nat → Int32} {cx1 cy1 bx1 : Nat → Nat → UInt64} {nf1 : Nat → Nat} (hO : xAo b0 m0 A o1 o2) (hT : xT G ty b0 m0 A o1 o2 ad F R pl un cx cy bu nb wi hi nf fa lo la bx f1 f2 H) (hY : xRef G ty m0 A th F R pl un2 co dr bu nb wi hi fc fa lo2 la2 px py pz H)
    (hW1 : xWf F R nb1 nf1 ad1 b0) (hX1 : xCla G ty ad1 F R pl1 un1 cx1 cy1 bu1 nb1 wi1 hi1 nf1 fa1 lo1 la1 bx1 H H1) (hU : ∀ k : Nat, xU F R nb1 nf1 k → (xU F R nb nf k ∧ ad1 k = ad k) ∨ H.size ≤ ad1 k) :
    xT G ty b0 m0 A o1 o2 ad1 F R pl1 un1 cx1 cy1 bu1 nb1 wi1 hi1 nf1 fa1 lo1 la1 bx1 f1 f2 H1 ∧ xRef G ty m0 A th F R pl un2 co dr bu nb wi hi fc fa lo2 la2 px py pz H1 := by
  obtain ⟨hk, ha⟩ := keepF hO hT hY hX1 hU
  exact ⟨⟨hW1, hX1.re, ha, hT.2.2.2.1.kept (hk _ (Or.inr (Or.inl rfl))), hT.2.2.2.2.kept (hk _ (Or.inr (Or.inr rfl)))⟩, hY.kp fun q z => hk _ (Or.inl z)⟩
set_option maxHeartbeats 1000000 in
theorem j_distance (hO : xAo b0 m0 A o1 o2) (hT : xT G ty b0 m0 A o1 o2 ad F R pl un cx cy bu nb wi hi nf fa lo la bx f1 f2 H) (hY : xRef G ty m0 A th F R pl un2 co dr bu nb wi hi fc fa lo2 la2 px py pz H) (hR : xRel F R nb pl un cx cy wi nf fa lo la bx un2 co fc lo2 la2) {f r g q : Int32} {v : Option Value} {H1 : Heap} (hp : (fun (v : Option Value) (H1 : Heap) => (v = some (.int (nI 0)) ∧ ∃ (bv : UInt64) (H0 : Heap), (fun (v : Option Value) (H1 : Heap) => H = H1 ∧ ((vp_in f F ∧ vp_in r R) ∧ (vp_in g F ∧ vp_in q R)) ∧ ∃ z9 : UInt64, v = some (.double z9) ∧ vq z9 (pFar pl f.toNatClampNeg r.toNatClampNeg g.toNatClampNeg q.toNatClampNeg)) (some (.double bv)) H0 ∧ xset G o2 (.inl (ty 0, 1, .inr (.inr (.inr (.inl (vf_upd f2 0 bv)))))) H0 H1) ∨ (v = some (.int (nI 1)) ∧ (fun (E : String) (H1 : Heap) => E = "java/lang/IndexOutOfBoundsException" ∧ ¬ ((vp_in f F ∧ vp_in r R) ∧ (vp_in g F ∧ vp_in q R)) ∧ xext H H1) "java/lang/IndexOutOfBoundsException" H1)) v H1) :
    ∃ t : Int32, v = some (.int t) ∧ xRef G ty m0 A th F R pl un2 co dr bu nb wi hi fc fa lo2 la2 px py pz H1 ∧ ∀ (v2 : Option Value) (H2 : Heap), (fun (v : Option Value) (H2 : Heap) => ∃ T : Int32, xRef G ty m0 A T F R pl un2 co dr bu nb wi hi fc fa lo2 la2 px py pz H2 ∧ xRfr m0 A H1 H2 ∧ ∃ z : UInt64, v = some (.double z) ∧ ((T = nI 0 ∧ ((vp_in f F ∧ vp_in r R) ∧ (vp_in g F ∧ vp_in q R)) ∧ vq z (pFar pl f.toNatClampNeg r.toNatClampNeg g.toNatClampNeg q.toNatClampNeg)) ∨ (T = nI 1 ∧ ¬ ((vp_in f F ∧ vp_in r R) ∧ (vp_in g F ∧ vp_in q R))))) v2 H2 → ∃ (z : UInt64) (g1 : Nat → Int64) (g2 : Nat → UInt64), v2 = some (.double z) ∧ xJ G ty b0 F R m0 A o1 o2 (ad 0) t g1 g2 H2 ∧ (t = nI 0 → pSame (g2 0) z) := by
  obtain ⟨⟨zF2, zF8⟩, ⟨zR2, zR8⟩⟩ := id hT.1.1
  rcases hp with ⟨rfl, bv, H0, hp, hs⟩ | ⟨rfl, hp⟩
  · skip
    obtain ⟨rfl, hin, ⟨z9, hv, hz9⟩⟩ := hp
    obtain ⟨hT1, hY1⟩ := keepD hO hT hY hT.1 hT.2.1 same_U hs
    refine ⟨_, rfl, hY1, fun v2 H2 hq => ?_⟩
    obtain ⟨T, hY2, hf2, z, rfl, hq⟩ := hq
    rcases hq with ⟨rfl, -, hz⟩ | ⟨-, hn⟩
    · skip
      exact ⟨_, _, _, rfl, xJ.mk rfl (hT1.kpR hO hf2) hY2 hR, fun _ => by rw [vupd0]; cases hv; exact pSame_vq hz9 hz (pSame_of (vq_rf _))⟩
    · skip
      exact absurd hin hn
  · skip
    obtain ⟨-, hn, hx⟩ := hp
    obtain ⟨hT1, hY1⟩ := keepX hT hY hx
    refine ⟨_, rfl, hY1, fun v2 H2 hq => ?_⟩
    obtain ⟨T, hY2, hf2, z, rfl, hq⟩ := hq
    rcases hq with ⟨-, hin, -⟩ | ⟨rfl, -⟩
    · skip
      exact absurd hin hn
    · skip
      exact ⟨_, _, _, rfl, xJ.mk rfl (hT1.kpR hO hf2) hY2 hR, fun e => absurd e (by decide)⟩
set_option maxHeartbeats 1000000 in
theorem j_width (hO : xAo b0 m0 A o1 o2) (hT : xT G ty b0 m0 A o1 o2 ad F R pl un cx cy bu nb wi hi nf fa lo la bx f1 f2 H) (hY : xRef G ty m0 A th F R pl un2 co dr bu nb wi hi fc fa lo2 la2 px py pz H) (hR : xRel F R nb pl un cx cy wi nf fa lo la bx un2 co fc lo2 la2) {x f : Int32} {v : Option Value} {H1 : Heap} (hp : (fun (v : Option Value) (H1 : Heap) => (v = some (.int (nI 0)) ∧ ∃ (bv : UInt64) (H0 : Heap), (fun (v : Option Value) (H1 : Heap) => H = H1 ∧ (vp_in x (R - 1) ∧ vp_in f F) ∧ ∃ z9 : UInt64, v = some (.double z9) ∧ vq z9 (pFar pl f.toNatClampNeg x.toNatClampNeg f.toNatClampNeg (x.toNatClampNeg + 1))) (some (.double bv)) H0 ∧ xset G o2 (.inl (ty 0, 1, .inr (.inr (.inr (.inl (vf_upd f2 0 bv)))))) H0 H1) ∨ (v = some (.int (nI 1)) ∧ (fun (E : String) (H1 : Heap) => E = "java/lang/IndexOutOfBoundsException" ∧ ¬ (vp_in x (R - 1) ∧ vp_in f F) ∧ xext H H1) "java/lang/IndexOutOfBoundsException" H1)) v H1) :
    ∃ t : Int32, v = some (.int t) ∧ xRef G ty m0 A th F R pl un2 co dr bu nb wi hi fc fa lo2 la2 px py pz H1 ∧ ∀ (v2 : Option Value) (H2 : Heap), (fun (v : Option Value) (H2 : Heap) => ∃ T : Int32, xRef G ty m0 A T F R pl un2 co dr bu nb wi hi fc fa lo2 la2 px py pz H2 ∧ xRfr m0 A H1 H2 ∧ ∃ z : UInt64, v = some (.double z) ∧ ((T = nI 0 ∧ (vp_in x (R - 1) ∧ vp_in f F) ∧ vq z (pFar pl f.toNatClampNeg x.toNatClampNeg f.toNatClampNeg (x.toNatClampNeg + 1))) ∨ (T = nI 1 ∧ ¬ (vp_in x (R - 1) ∧ vp_in f F)))) v2 H2 → ∃ (z : UInt64) (g1 : Nat → Int64) (g2 : Nat → UInt64), v2 = some (.double z) ∧ xJ G ty b0 F R m0 A o1 o2 (ad 0) t g1 g2 H2 ∧ (t = nI 0 → pSame (g2 0) z) := by
  obtain ⟨⟨zF2, zF8⟩, ⟨zR2, zR8⟩⟩ := id hT.1.1
  rcases hp with ⟨rfl, bv, H0, hp, hs⟩ | ⟨rfl, hp⟩
  · skip
    obtain ⟨rfl, hin, ⟨z9, hv, hz9⟩⟩ := hp
    obtain ⟨hT1, hY1⟩ := keepD hO hT hY hT.1 hT.2.1 same_U hs
    refine ⟨_, rfl, hY1, fun v2 H2 hq => ?_⟩
    obtain ⟨T, hY2, hf2, z, rfl, hq⟩ := hq
    rcases hq with ⟨rfl, -, hz⟩ | ⟨-, hn⟩
    · skip
      exact ⟨_, _, _, rfl, xJ.mk rfl (hT1.kpR hO hf2) hY2 hR, fun _ => by rw [vupd0]; cases hv; exact pSame_vq hz9 hz (pSame_of (vq_rf _))⟩
    · skip
      exact absurd hin hn
  · skip
    obtain ⟨-, hn, hx⟩ := hp
    obtain ⟨hT1, hY1⟩ := keepX hT hY hx
    refine ⟨_, rfl, hY1, fun v2 H2 hq => ?_⟩
    obtain ⟨T, hY2, hf2, z, rfl, hq⟩ := hq
    rcases hq with ⟨-, hin, -⟩ | ⟨rfl, -⟩
    · skip
      exact absurd hin hn
    · skip
      exact ⟨_, _, _, rfl, xJ.mk rfl (hT1.kpR hO hf2) hY2 hR, fun e => absurd e (by decide)⟩
set_option maxHeartbeats 1000000 in
theorem j_girth (hO : xAo b0 m0 A o1 o2) (hT : xT G ty b0 m0 A o1 o2 ad F R pl un cx cy bu nb wi hi nf fa lo la bx f1 f2 H) (hY : xRef G ty m0 A th F R pl un2 co dr bu nb wi hi fc fa lo2 la2 px py pz H) (hR : xRel F R nb pl un cx cy wi nf fa lo la bx un2 co fc lo2 la2) {f : Int32} {v : Option Value} {H1 : Heap} (hp : (fun (v : Option Value) (H1 : Heap) => (v = some (.int (nI 0)) ∧ ∃ (bv : UInt64) (H0 : Heap), (fun (v : Option Value) (H1 : Heap) => H = H1 ∧ (vp_in f F) ∧ ∃ z9 : UInt64, v = some (.double z9) ∧ vq z9 (pGir pl f.toNatClampNeg (R - 1))) (some (.double bv)) H0 ∧ xset G o2 (.inl (ty 0, 1, .inr (.inr (.inr (.inl (vf_upd f2 0 bv)))))) H0 H1) ∨ (v = some (.int (nI 1)) ∧ (fun (E : String) (H1 : Heap) => E = "java/lang/IndexOutOfBoundsException" ∧ ¬ (vp_in f F) ∧ xext H H1) "java/lang/IndexOutOfBoundsException" H1)) v H1) :
    ∃ t : Int32, v = some (.int t) ∧ xRef G ty m0 A th F R pl un2 co dr bu nb wi hi fc fa lo2 la2 px py pz H1 ∧ ∀ (v2 : Option Value) (H2 : Heap), (fun (v : Option Value) (H2 : Heap) => ∃ T : Int32, xRef G ty m0 A T F R pl un2 co dr bu nb wi hi fc fa lo2 la2 px py pz H2 ∧ xRfr m0 A H1 H2 ∧ ∃ z : UInt64, v = some (.double z) ∧ ((T = nI 0 ∧ (vp_in f F) ∧ vq z (pGir pl f.toNatClampNeg (R - 1))) ∨ (T = nI 1 ∧ ¬ (vp_in f F)))) v2 H2 → ∃ (z : UInt64) (g1 : Nat → Int64) (g2 : Nat → UInt64), v2 = some (.double z) ∧ xJ G ty b0 F R m0 A o1 o2 (ad 0) t g1 g2 H2 ∧ (t = nI 0 → pSame (g2 0) z) := by
  obtain ⟨⟨zF2, zF8⟩, ⟨zR2, zR8⟩⟩ := id hT.1.1
  rcases hp with ⟨rfl, bv, H0, hp, hs⟩ | ⟨rfl, hp⟩
  · skip
    obtain ⟨rfl, hin, ⟨z9, hv, hz9⟩⟩ := hp
    obtain ⟨hT1, hY1⟩ := keepD hO hT hY hT.1 hT.2.1 same_U hs
    refine ⟨_, rfl, hY1, fun v2 H2 hq => ?_⟩
    obtain ⟨T, hY2, hf2, z, rfl, hq⟩ := hq
    rcases hq with ⟨rfl, -, hz⟩ | ⟨-, hn⟩
    · skip
      exact ⟨_, _, _, rfl, xJ.mk rfl (hT1.kpR hO hf2) hY2 hR, fun _ => by rw [vupd0]; cases hv; exact pSame_vq hz9 hz (pSame_of (vq_rf _))⟩
    · skip
      exact absurd hin hn
  · skip
    obtain ⟨-, hn, hx⟩ := hp
    obtain ⟨hT1, hY1⟩ := keepX hT hY hx
    refine ⟨_, rfl, hY1, fun v2 H2 hq => ?_⟩
    obtain ⟨T, hY2, hf2, z, rfl, hq⟩ := hq
    rcases hq with ⟨-, hin, -⟩ | ⟨rfl, -⟩
    · skip
      exact absurd hin hn
    · skip
      exact ⟨_, _, _, rfl, xJ.mk rfl (hT1.kpR hO hf2) hY2 hR, fun e => absurd e (by decide)⟩
set_option maxHeartbeats 1000000 in
theorem j_closes (hO : xAo b0 m0 A o1 o2) (hT : xT G ty b0 m0 A o1 o2 ad F R pl un cx cy bu nb wi hi nf fa lo la bx f1 f2 H) (hY : xRef G ty m0 A th F R pl un2 co dr bu nb wi hi fc fa lo2 la2 px py pz H) (hR : xRel F R nb pl un cx cy wi nf fa lo la bx un2 co fc lo2 la2) {n : Int32} {x d : UInt64} {v : Option Value} {H1 : Heap} (hp : (fun (v : Option Value) (H1 : Heap) => (v = some (.int (nI 0)) ∧ ∃ (bv : UInt64) (H0 : Heap), (fun (v : Option Value) (H1 : Heap) => H = H1 ∧ (pStav x d = true ∧ ¬ n < nI 1 ∧ ¬ nI 100000 < n) ∧ ∃ z9 : UInt64, v = some (.double z9) ∧ vq z9 (FP.dsub (FP.dmul (FP.i2d n) x) (FP.dmul d 4614256656552045848))) (some (.double bv)) H0 ∧ xset G o2 (.inl (ty 0, 1, .inr (.inr (.inr (.inl (vf_upd f2 0 bv)))))) H0 H1) ∨ (v = some (.int (nI 1)) ∧ (fun (E : String) (H1 : Heap) => E = "java/lang/IllegalArgumentException" ∧ ¬ (pStav x d = true ∧ ¬ n < nI 1 ∧ ¬ nI 100000 < n) ∧ xext H H1) "java/lang/IllegalArgumentException" H1)) v H1) :
    ∃ t : Int32, v = some (.int t) ∧ xRef G ty m0 A th F R pl un2 co dr bu nb wi hi fc fa lo2 la2 px py pz H1 ∧ ∀ (v2 : Option Value) (H2 : Heap), (fun (v : Option Value) (H2 : Heap) => ∃ T : Int32, xRef G ty m0 A T F R pl un2 co dr bu nb wi hi fc fa lo2 la2 px py pz H2 ∧ xRfr m0 A H1 H2 ∧ ∃ z : UInt64, v = some (.double z) ∧ ((T = nI 0 ∧ (pStav x d = true ∧ ¬ n < nI 1 ∧ ¬ nI 100000 < n) ∧ vq z (FP.dsub (FP.dmul (FP.i2d n) x) (FP.dmul d 4614256656552045848))) ∨ (T = nI 1 ∧ ¬ (pStav x d = true ∧ ¬ n < nI 1 ∧ ¬ nI 100000 < n)))) v2 H2 → ∃ (z : UInt64) (g1 : Nat → Int64) (g2 : Nat → UInt64), v2 = some (.double z) ∧ xJ G ty b0 F R m0 A o1 o2 (ad 0) t g1 g2 H2 ∧ (t = nI 0 → pSame (g2 0) z) := by
  obtain ⟨⟨zF2, zF8⟩, ⟨zR2, zR8⟩⟩ := id hT.1.1
  rcases hp with ⟨rfl, bv, H0, hp, hs⟩ | ⟨rfl, hp⟩
  · skip
    obtain ⟨rfl, hin, ⟨z9, hv, hz9⟩⟩ := hp
    obtain ⟨hT1, hY1⟩ := keepD hO hT hY hT.1 hT.2.1 same_U hs
    refine ⟨_, rfl, hY1, fun v2 H2 hq => ?_⟩
    obtain ⟨T, hY2, hf2, z, rfl, hq⟩ := hq
    rcases hq with ⟨rfl, -, hz⟩ | ⟨-, hn⟩
    · skip
      exact ⟨_, _, _, rfl, xJ.mk rfl (hT1.kpR hO hf2) hY2 hR, fun _ => by rw [vupd0]; cases hv; exact pSame_vq hz9 hz (pSame_of (vq_rf _))⟩
    · skip
      exact absurd hin hn
  · skip
    obtain ⟨-, hn, hx⟩ := hp
    obtain ⟨hT1, hY1⟩ := keepX hT hY hx
    refine ⟨_, rfl, hY1, fun v2 H2 hq => ?_⟩
    obtain ⟨T, hY2, hf2, z, rfl, hq⟩ := hq
    rcases hq with ⟨-, hin, -⟩ | ⟨rfl, -⟩
    · skip
      exact absurd hin hn
    · skip
      exact ⟨_, _, _, rfl, xJ.mk rfl (hT1.kpR hO hf2) hY2 hR, fun e => absurd e (by decide)⟩
set_option maxHeartbeats 1000000 in
theorem j_lies (hO : xAo b0 m0 A o1 o2) (hT : xT G ty b0 m0 A o1 o2 ad F R pl un cx cy bu nb wi hi nf fa lo la bx f1 f2 H) (hY : xRef G ty m0 A th F R pl un2 co dr bu nb wi hi fc fa lo2 la2 px py pz H) (hR : xRel F R nb pl un cx cy wi nf fa lo la bx un2 co fc lo2 la2) {x k : Int32} {v : Option Value} {H1 : Heap} (hp : (fun (v : Option Value) (H1 : Heap) => (v = some (.int (nI 0)) ∧ ∃ (bv : Int32) (H0 : Heap), (fun (v : Option Value) (H1 : Heap) => H = H1 ∧ (vp_in x (R - 1) ∧ vp_in k 2) ∧ v = some (.int (if k = 0 then lo x.toNatClampNeg else la x.toNatClampNeg))) (some (.int bv)) H0 ∧ xset G o1 (.inl (ty 3, 1, .inr (.inl (vp_updL f1 0 bv.toInt64)))) H0 H1) ∨ (v = some (.int (nI 1)) ∧ (fun (E : String) (H1 : Heap) => E = "java/lang/IndexOutOfBoundsException" ∧ ¬ (vp_in x (R - 1) ∧ vp_in k 2) ∧ xext H H1) "java/lang/IndexOutOfBoundsException" H1)) v H1) :
    ∃ t : Int32, v = some (.int t) ∧ xRef G ty m0 A th F R pl un2 co dr bu nb wi hi fc fa lo2 la2 px py pz H1 ∧ ∀ (v2 : Option Value) (H2 : Heap), (fun (v : Option Value) (H2 : Heap) => ∃ T : Int32, xRef G ty m0 A T F R pl un2 co dr bu nb wi hi fc fa lo2 la2 px py pz H2 ∧ xRfr m0 A H1 H2 ∧ ∃ z : Int32, v = some (.int z) ∧ ((T = nI 0 ∧ (vp_in x (R - 1) ∧ vp_in k 2) ∧ z = (if k = 0 then lo2 x.toNatClampNeg else la2 x.toNatClampNeg)) ∨ (T = nI 1 ∧ ¬ (vp_in x (R - 1) ∧ vp_in k 2)))) v2 H2 → ∃ (z : Int32) (g1 : Nat → Int64) (g2 : Nat → UInt64), v2 = some (.int z) ∧ xJ G ty b0 F R m0 A o1 o2 (ad 0) t g1 g2 H2 ∧ (t = nI 0 → g1 0 = z.toInt64) := by
  obtain ⟨⟨zF2, zF8⟩, ⟨zR2, zR8⟩⟩ := id hT.1.1
  rcases hp with ⟨rfl, bv, H0, hp, hs⟩ | ⟨rfl, hp⟩
  · skip
    obtain ⟨rfl, hin, hv⟩ := hp
    obtain ⟨hT1, hY1⟩ := keepL hO hT hY hT.1 hT.2.1 same_U hs
    refine ⟨_, rfl, hY1, fun v2 H2 hq => ?_⟩
    obtain ⟨T, hY2, hf2, z, rfl, hq⟩ := hq
    rcases hq with ⟨rfl, -, hz⟩ | ⟨-, hn⟩
    · skip
      exact ⟨_, _, _, rfl, xJ.mk rfl (hT1.kpR hO hf2) hY2 hR, fun _ => by rw [lupd0]; cases hv; rw [hz, (hR.2.1 _ (in_lt hin.1)).2.1, (hR.2.1 _ (in_lt hin.1)).2.2.1]⟩
    · skip
      exact absurd hin hn
  · skip
    obtain ⟨-, hn, hx⟩ := hp
    obtain ⟨hT1, hY1⟩ := keepX hT hY hx
    refine ⟨_, rfl, hY1, fun v2 H2 hq => ?_⟩
    obtain ⟨T, hY2, hf2, z, rfl, hq⟩ := hq
    rcases hq with ⟨-, hin, -⟩ | ⟨rfl, -⟩
    · skip
      exact absurd hin hn
    · skip
      exact ⟨_, _, _, rfl, xJ.mk rfl (hT1.kpR hO hf2) hY2 hR, fun e => absurd e (by decide)⟩
set_option maxHeartbeats 1000000 in
theorem j_staves (hO : xAo b0 m0 A o1 o2) (hT : xT G ty b0 m0 A o1 o2 ad F R pl un cx cy bu nb wi hi nf fa lo la bx f1 f2 H) (hY : xRef G ty m0 A th F R pl un2 co dr bu nb wi hi fc fa lo2 la2 px py pz H) (hR : xRel F R nb pl un cx cy wi nf fa lo la bx un2 co fc lo2 la2) {x d : UInt64} {n9 : Nat} {v : Option Value} {H1 : Heap} (hp : (fun (v : Option Value) (H1 : Heap) => (v = some (.int (nI 0)) ∧ ∃ (bv : Int32) (H0 : Heap), (fun (v : Option Value) (H1 : Heap) => H = H1 ∧ pStav x d = true ∧ v = some (.int (nI n9))) (some (.int bv)) H0 ∧ xset G o1 (.inl (ty 3, 1, .inr (.inl (vp_updL f1 0 bv.toInt64)))) H0 H1) ∨ (v = some (.int (nI 1)) ∧ (fun (E : String) (H1 : Heap) => E = "java/lang/IllegalArgumentException" ∧ ¬ (pStav x d = true) ∧ xext H H1) "java/lang/IllegalArgumentException" H1)) v H1) :
    ∃ t : Int32, v = some (.int t) ∧ xRef G ty m0 A th F R pl un2 co dr bu nb wi hi fc fa lo2 la2 px py pz H1 ∧ ∀ (v2 : Option Value) (H2 : Heap), (fun (v : Option Value) (H2 : Heap) => ∃ T : Int32, xRef G ty m0 A T F R pl un2 co dr bu nb wi hi fc fa lo2 la2 px py pz H2 ∧ xRfr m0 A H1 H2 ∧ ∃ z : Int32, v = some (.int z) ∧ ((T = nI 0 ∧ (pStav x d = true) ∧ z = nI n9) ∨ (T = nI 1 ∧ ¬ (pStav x d = true)))) v2 H2 → ∃ (z : Int32) (g1 : Nat → Int64) (g2 : Nat → UInt64), v2 = some (.int z) ∧ xJ G ty b0 F R m0 A o1 o2 (ad 0) t g1 g2 H2 ∧ (t = nI 0 → g1 0 = z.toInt64) := by
  obtain ⟨⟨zF2, zF8⟩, ⟨zR2, zR8⟩⟩ := id hT.1.1
  rcases hp with ⟨rfl, bv, H0, hp, hs⟩ | ⟨rfl, hp⟩
  · skip
    obtain ⟨rfl, hin, hv⟩ := hp
    obtain ⟨hT1, hY1⟩ := keepL hO hT hY hT.1 hT.2.1 same_U hs
    refine ⟨_, rfl, hY1, fun v2 H2 hq => ?_⟩
    obtain ⟨T, hY2, hf2, z, rfl, hq⟩ := hq
    rcases hq with ⟨rfl, -, hz⟩ | ⟨-, hn⟩
    · skip
      exact ⟨_, _, _, rfl, xJ.mk rfl (hT1.kpR hO hf2) hY2 hR, fun _ => by rw [lupd0]; cases hv; rw [hz]⟩
    · skip
      exact absurd hin hn
  · skip
    obtain ⟨-, hn, hx⟩ := hp
    obtain ⟨hT1, hY1⟩ := keepX hT hY hx
    refine ⟨_, rfl, hY1, fun v2 H2 hq => ?_⟩
    obtain ⟨T, hY2, hf2, z, rfl, hq⟩ := hq
    rcases hq with ⟨-, hin, -⟩ | ⟨rfl, -⟩
    · skip
      exact absurd hin hn
    · skip
      exact ⟨_, _, _, rfl, xJ.mk rfl (hT1.kpR hO hf2) hY2 hR, fun e => absurd e (by decide)⟩
set_option maxHeartbeats 1000000 in
theorem j_spans (hO : xAo b0 m0 A o1 o2) (hT : xT G ty b0 m0 A o1 o2 ad F R pl un cx cy bu nb wi hi nf fa lo la bx f1 f2 H) (hY : xRef G ty m0 A th F R pl un2 co dr bu nb wi hi fc fa lo2 la2 px py pz H) (hR : xRel F R nb pl un cx cy wi nf fa lo la bx un2 co fc lo2 la2) {n : Int32} {v : Option Value} {H1 : Heap} (hp : (fun (v : Option Value) (H1 : Heap) => (v = some (.int (nI 0)) ∧ ∃ (bv : Int32) (H0 : Heap), (fun (v : Option Value) (H1 : Heap) => H = H1 ∧ (¬ n < nI 1 ∧ n ≤ nI 8) ∧ v = some (.int (xP (∀ j : Nat, j < R - 1 → pSpC bu F n.toNatClampNeg j)))) (some (.int bv)) H0 ∧ xset G o1 (.inl (ty 3, 1, .inr (.inl (vp_updL f1 0 (if bv = 0 then (0 : Int64) else 1))))) H0 H1) ∨ (v = some (.int (nI 1)) ∧ (fun (E : String) (H1 : Heap) => E = "java/lang/IllegalArgumentException" ∧ ¬ (¬ n < nI 1 ∧ n ≤ nI 8) ∧ xext H H1) "java/lang/IllegalArgumentException" H1)) v H1) :
    ∃ t : Int32, v = some (.int t) ∧ xRef G ty m0 A th F R pl un2 co dr bu nb wi hi fc fa lo2 la2 px py pz H1 ∧ ∀ (v2 : Option Value) (H2 : Heap), (fun (v : Option Value) (H2 : Heap) => ∃ T : Int32, xRef G ty m0 A T F R pl un2 co dr bu nb wi hi fc fa lo2 la2 px py pz H2 ∧ xRfr m0 A H1 H2 ∧ ∃ z : Int32, v = some (.int z) ∧ ((T = nI 0 ∧ (¬ n < nI 1 ∧ n ≤ nI 8) ∧ z = xP (∀ x9 : Nat, x9 < R - 1 → pSp bu F R n.toNatClampNeg x9)) ∨ (T = nI 1 ∧ ¬ (¬ n < nI 1 ∧ n ≤ nI 8)))) v2 H2 → ∃ (z : Int32) (g1 : Nat → Int64) (g2 : Nat → UInt64), v2 = some (.int z) ∧ xJ G ty b0 F R m0 A o1 o2 (ad 0) t g1 g2 H2 ∧ (t = nI 0 → g1 0 = (if z = 0 then (0 : Int64) else 1)) := by
  obtain ⟨⟨zF2, zF8⟩, ⟨zR2, zR8⟩⟩ := id hT.1.1
  rcases hp with ⟨rfl, bv, H0, hp, hs⟩ | ⟨rfl, hp⟩
  · skip
    obtain ⟨rfl, hin, hv⟩ := hp
    obtain ⟨hT1, hY1⟩ := keepL hO hT hY hT.1 hT.2.1 same_U hs
    refine ⟨_, rfl, hY1, fun v2 H2 hq => ?_⟩
    obtain ⟨T, hY2, hf2, z, rfl, hq⟩ := hq
    rcases hq with ⟨rfl, -, hz⟩ | ⟨-, hn⟩
    · skip
      exact ⟨_, _, _, rfl, xJ.mk rfl (hT1.kpR hO hf2) hY2 hR, fun _ => by rw [lupd0]; cases hv; rw [hz, xP_cg (spans_iff zR2)]⟩
    · skip
      exact absurd hin hn
  · skip
    obtain ⟨-, hn, hx⟩ := hp
    obtain ⟨hT1, hY1⟩ := keepX hT hY hx
    refine ⟨_, rfl, hY1, fun v2 H2 hq => ?_⟩
    obtain ⟨T, hY2, hf2, z, rfl, hq⟩ := hq
    rcases hq with ⟨-, hin, -⟩ | ⟨rfl, -⟩
    · skip
      exact absurd hin hn
    · skip
      exact ⟨_, _, _, rfl, xJ.mk rfl (hT1.kpR hO hf2) hY2 hR, fun e => absurd e (by decide)⟩
set_option maxHeartbeats 1000000 in
theorem j_flat (hO : xAo b0 m0 A o1 o2) (hT : xT G ty b0 m0 A o1 o2 ad F R pl un cx cy bu nb wi hi nf fa lo la bx f1 f2 H) (hY : xRef G ty m0 A th F R pl un2 co dr bu nb wi hi fc fa lo2 la2 px py pz H) (hR : xRel F R nb pl un cx cy wi nf fa lo la bx un2 co fc lo2 la2) {x k q : Int32} {v : Option Value} {H1 : Heap} (hp : (fun (v : Option Value) (H1 : Heap) => (v = some (.int (nI 0)) ∧ ∃ (bv : UInt64) (H0 : Heap), (fun (v : Option Value) (H1 : Heap) => H = H1 ∧ (vp_in x (R - 1) ∧ vp_in k (2 * F) ∧ vp_in q 2) ∧ ¬ un x.toNatClampNeg = 0 ∧ v = some (.double (if q = 0 then cx x.toNatClampNeg k.toNatClampNeg else cy x.toNatClampNeg k.toNatClampNeg))) (some (.double bv)) H0 ∧ xset G o2 (.inl (ty 0, 1, .inr (.inr (.inr (.inl (vf_upd f2 0 bv)))))) H0 H1) ∨ (v = some (.int (nI 1)) ∧ (fun (E : String) (H1 : Heap) => (E = "java/lang/IndexOutOfBoundsException" ∧ ¬ (vp_in x (R - 1) ∧ vp_in k (2 * F) ∧ vp_in q 2) ∧ xext H H1) ∨ (E = "java/lang/IllegalStateException" ∧ (vp_in x (R - 1) ∧ vp_in k (2 * F) ∧ vp_in q 2) ∧ un x.toNatClampNeg = 0 ∧ xext H H1)) "java/lang/IndexOutOfBoundsException" H1) ∨ (v = some (.int (nI 2)) ∧ (fun (E : String) (H1 : Heap) => (E = "java/lang/IndexOutOfBoundsException" ∧ ¬ (vp_in x (R - 1) ∧ vp_in k (2 * F) ∧ vp_in q 2) ∧ xext H H1) ∨ (E = "java/lang/IllegalStateException" ∧ (vp_in x (R - 1) ∧ vp_in k (2 * F) ∧ vp_in q 2) ∧ un x.toNatClampNeg = 0 ∧ xext H H1)) "java/lang/IllegalStateException" H1)) v H1) :
    ∃ t : Int32, v = some (.int t) ∧ xRef G ty m0 A th F R pl un2 co dr bu nb wi hi fc fa lo2 la2 px py pz H1 ∧ ∀ (v2 : Option Value) (H2 : Heap), (fun (v : Option Value) (H2 : Heap) => ∃ T : Int32, xRef G ty m0 A T F R pl un2 co dr bu nb wi hi fc fa lo2 la2 px py pz H2 ∧ xRfr m0 A H1 H2 ∧ ∃ z : UInt64, v = some (.double z) ∧ ((T = nI 0 ∧ (vp_in x (R - 1) ∧ vp_in k (2 * F) ∧ vp_in q 2) ∧ ¬ un2 x.toNatClampNeg = 0 ∧ vq z (co (32 * x.toNatClampNeg + 2 * k.toNatClampNeg + q.toNatClampNeg))) ∨ (T = nI 1 ∧ ¬ (vp_in x (R - 1) ∧ vp_in k (2 * F) ∧ vp_in q 2)) ∨ (T = nI 2 ∧ (vp_in x (R - 1) ∧ vp_in k (2 * F) ∧ vp_in q 2) ∧ un2 x.toNatClampNeg = 0))) v2 H2 → ∃ (z : UInt64) (g1 : Nat → Int64) (g2 : Nat → UInt64), v2 = some (.double z) ∧ xJ G ty b0 F R m0 A o1 o2 (ad 0) t g1 g2 H2 ∧ (t = nI 0 → pSame (g2 0) z) := by
  obtain ⟨⟨zF2, zF8⟩, ⟨zR2, zR8⟩⟩ := id hT.1.1
  rcases hp with ⟨rfl, bv, H0, hp, hs⟩ | ⟨rfl, hp⟩ | ⟨rfl, hp⟩
  · skip
    obtain ⟨rfl, hin, hu, hv⟩ := hp
    obtain ⟨hT1, hY1⟩ := keepD hO hT hY hT.1 hT.2.1 same_U hs
    refine ⟨_, rfl, hY1, fun v2 H2 hq => ?_⟩
    obtain ⟨T, hY2, hf2, z, rfl, hq⟩ := hq
    rcases hq with ⟨rfl, -, -, hz⟩ | ⟨-, hn⟩ | ⟨-, -, hu2⟩
    · skip
      exact ⟨_, _, _, rfl, xJ.mk rfl (hT1.kpR hO hf2) hY2 hR, fun _ => by rw [vupd0]; cases hv; exact pSame_vq (ans_flat hR (in_lt hin.1) hu (in_lt hin.2.1) hin.2.2) hz (pSame_of (vq_rf _))⟩
    · skip
      exact absurd hin hn
    · skip
      exact absurd ((hR.u hin.1).mp hu2) hu
  · skip
    obtain ⟨hn, hx⟩ := exc_1 hp
    obtain ⟨hT1, hY1⟩ := keepX hT hY hx
    refine ⟨_, rfl, hY1, fun v2 H2 hq => ?_⟩
    obtain ⟨T, hY2, hf2, z, rfl, hq⟩ := hq
    rcases hq with ⟨-, hin, -⟩ | ⟨rfl, -⟩ | ⟨-, hin, -⟩
    · skip
      exact absurd hin hn
    · skip
      exact ⟨_, _, _, rfl, xJ.mk rfl (hT1.kpR hO hf2) hY2 hR, fun e => absurd e (by decide)⟩
    · skip
      exact absurd hin hn
  · skip
    obtain ⟨hin, hu, hx⟩ := exc_2 hp
    obtain ⟨hT1, hY1⟩ := keepX hT hY hx
    refine ⟨_, rfl, hY1, fun v2 H2 hq => ?_⟩
    obtain ⟨T, hY2, hf2, z, rfl, hq⟩ := hq
    rcases hq with ⟨-, -, hu2, -⟩ | ⟨-, hn⟩ | ⟨rfl, -, -⟩
    · skip
      exact absurd ((hR.u hin.1).mpr hu) hu2
    · skip
      exact absurd hin hn
    · skip
      exact ⟨_, _, _, rfl, xJ.mk rfl (hT1.kpR hO hf2) hY2 hR, fun e => absurd e (by decide)⟩
set_option maxHeartbeats 1000000 in
theorem j_stretch (hO : xAo b0 m0 A o1 o2) (hT : xT G ty b0 m0 A o1 o2 ad F R pl un cx cy bu nb wi hi nf fa lo la bx f1 f2 H) (hY : xRef G ty m0 A th F R pl un2 co dr bu nb wi hi fc fa lo2 la2 px py pz H) (hR : xRel F R nb pl un cx cy wi nf fa lo la bx un2 co fc lo2 la2) {x f : Int32} {v : Option Value} {H1 : Heap} (hp : (fun (v : Option Value) (H1 : Heap) => (v = some (.int (nI 0)) ∧ ∃ (bv : UInt64) (H0 : Heap), (fun (v : Option Value) (H1 : Heap) => H = H1 ∧ (vp_in x (R - 1) ∧ vp_in f (F - 1)) ∧ ¬ un x.toNatClampNeg = 0 ∧ ∃ z9 : UInt64, v = some (.double z9) ∧ vq z9 (pOffC (cx x.toNatClampNeg) (cy x.toNatClampNeg) pl x.toNatClampNeg f.toNatClampNeg)) (some (.double bv)) H0 ∧ xset G o2 (.inl (ty 0, 1, .inr (.inr (.inr (.inl (vf_upd f2 0 bv)))))) H0 H1) ∨ (v = some (.int (nI 1)) ∧ (fun (E : String) (H1 : Heap) => (E = "java/lang/IndexOutOfBoundsException" ∧ ¬ (vp_in x (R - 1) ∧ vp_in f (F - 1)) ∧ xext H H1) ∨ (E = "java/lang/IllegalStateException" ∧ (vp_in x (R - 1) ∧ vp_in f (F - 1)) ∧ un x.toNatClampNeg = 0 ∧ xext H H1)) "java/lang/IndexOutOfBoundsException" H1) ∨ (v = some (.int (nI 2)) ∧ (fun (E : String) (H1 : Heap) => (E = "java/lang/IndexOutOfBoundsException" ∧ ¬ (vp_in x (R - 1) ∧ vp_in f (F - 1)) ∧ xext H H1) ∨ (E = "java/lang/IllegalStateException" ∧ (vp_in x (R - 1) ∧ vp_in f (F - 1)) ∧ un x.toNatClampNeg = 0 ∧ xext H H1)) "java/lang/IllegalStateException" H1)) v H1) :
    ∃ t : Int32, v = some (.int t) ∧ xRef G ty m0 A th F R pl un2 co dr bu nb wi hi fc fa lo2 la2 px py pz H1 ∧ ∀ (v2 : Option Value) (H2 : Heap), (fun (v : Option Value) (H2 : Heap) => ∃ T : Int32, xRef G ty m0 A T F R pl un2 co dr bu nb wi hi fc fa lo2 la2 px py pz H2 ∧ xRfr m0 A H1 H2 ∧ ∃ z : UInt64, v = some (.double z) ∧ ((T = nI 0 ∧ (vp_in x (R - 1) ∧ vp_in f (F - 1)) ∧ ¬ un2 x.toNatClampNeg = 0 ∧ vq z (pOff co pl x.toNatClampNeg f.toNatClampNeg)) ∨ (T = nI 1 ∧ ¬ (vp_in x (R - 1) ∧ vp_in f (F - 1))) ∨ (T = nI 2 ∧ (vp_in x (R - 1) ∧ vp_in f (F - 1)) ∧ un2 x.toNatClampNeg = 0))) v2 H2 → ∃ (z : UInt64) (g1 : Nat → Int64) (g2 : Nat → UInt64), v2 = some (.double z) ∧ xJ G ty b0 F R m0 A o1 o2 (ad 0) t g1 g2 H2 ∧ (t = nI 0 → pSame (g2 0) z) := by
  obtain ⟨⟨zF2, zF8⟩, ⟨zR2, zR8⟩⟩ := id hT.1.1
  rcases hp with ⟨rfl, bv, H0, hp, hs⟩ | ⟨rfl, hp⟩ | ⟨rfl, hp⟩
  · skip
    obtain ⟨rfl, hin, hu, ⟨z9, hv, hz9⟩⟩ := hp
    obtain ⟨hT1, hY1⟩ := keepD hO hT hY hT.1 hT.2.1 same_U hs
    refine ⟨_, rfl, hY1, fun v2 H2 hq => ?_⟩
    obtain ⟨T, hY2, hf2, z, rfl, hq⟩ := hq
    rcases hq with ⟨rfl, -, -, hz⟩ | ⟨-, hn⟩ | ⟨-, -, hu2⟩
    · skip
      exact ⟨_, _, _, rfl, xJ.mk rfl (hT1.kpR hO hf2) hY2 hR, fun _ => by rw [vupd0]; cases hv; rw [ans_stretch hR (in_lt hin.1) hu (in_lt hin.2)] at hz9; exact pSame_vq hz9 hz (pSame_of (vq_rf _))⟩
    · skip
      exact absurd hin hn
    · skip
      exact absurd ((hR.u hin.1).mp hu2) hu
  · skip
    obtain ⟨hn, hx⟩ := exc_1 hp
    obtain ⟨hT1, hY1⟩ := keepX hT hY hx
    refine ⟨_, rfl, hY1, fun v2 H2 hq => ?_⟩
    obtain ⟨T, hY2, hf2, z, rfl, hq⟩ := hq
    rcases hq with ⟨-, hin, -⟩ | ⟨rfl, -⟩ | ⟨-, hin, -⟩
    · skip
      exact absurd hin hn
    · skip
      exact ⟨_, _, _, rfl, xJ.mk rfl (hT1.kpR hO hf2) hY2 hR, fun e => absurd e (by decide)⟩
    · skip
      exact absurd hin hn
  · skip
    obtain ⟨hin, hu, hx⟩ := exc_2 hp
    obtain ⟨hT1, hY1⟩ := keepX hT hY hx
    refine ⟨_, rfl, hY1, fun v2 H2 hq => ?_⟩
    obtain ⟨T, hY2, hf2, z, rfl, hq⟩ := hq
    rcases hq with ⟨-, -, hu2, -⟩ | ⟨-, hn⟩ | ⟨rfl, -, -⟩
    · skip
      exact absurd ((hR.u hin.1).mpr hu) hu2
    · skip
      exact absurd hin hn
    · skip
      exact ⟨_, _, _, rfl, xJ.mk rfl (hT1.kpR hO hf2) hY2 hR, fun e => absurd e (by decide)⟩
set_option maxHeartbeats 1000000 in
theorem j_worst (hO : xAo b0 m0 A o1 o2) (hT : xT G ty b0 m0 A o1 o2 ad F R pl un cx cy bu nb wi hi nf fa lo la bx f1 f2 H) (hY : xRef G ty m0 A th F R pl un2 co dr bu nb wi hi fc fa lo2 la2 px py pz H) (hR : xRel F R nb pl un cx cy wi nf fa lo la bx un2 co fc lo2 la2) {x : Int32} {v : Option Value} {H1 : Heap} (hp : (fun (v : Option Value) (H1 : Heap) => (v = some (.int (nI 0)) ∧ ∃ (bv : Int32) (H0 : Heap), (fun (v : Option Value) (H1 : Heap) => H = H1 ∧ vp_in x (R - 1) ∧ ¬ un x.toNatClampNeg = 0 ∧ v = some (.int (nI (pWoC (cx x.toNatClampNeg) (cy x.toNatClampNeg) pl x.toNatClampNeg (F - 2)).1))) (some (.int bv)) H0 ∧ xset G o1 (.inl (ty 3, 1, .inr (.inl (vp_updL f1 0 bv.toInt64)))) H0 H1) ∨ (v = some (.int (nI 1)) ∧ (fun (E : String) (H1 : Heap) => (E = "java/lang/IndexOutOfBoundsException" ∧ ¬ (vp_in x (R - 1)) ∧ xext H H1) ∨ (E = "java/lang/IllegalStateException" ∧ (vp_in x (R - 1)) ∧ un x.toNatClampNeg = 0 ∧ xext H H1)) "java/lang/IndexOutOfBoundsException" H1) ∨ (v = some (.int (nI 2)) ∧ (fun (E : String) (H1 : Heap) => (E = "java/lang/IndexOutOfBoundsException" ∧ ¬ (vp_in x (R - 1)) ∧ xext H H1) ∨ (E = "java/lang/IllegalStateException" ∧ (vp_in x (R - 1)) ∧ un x.toNatClampNeg = 0 ∧ xext H H1)) "java/lang/IllegalStateException" H1)) v H1) :
    ∃ t : Int32, v = some (.int t) ∧ xRef G ty m0 A th F R pl un2 co dr bu nb wi hi fc fa lo2 la2 px py pz H1 ∧ ∀ (v2 : Option Value) (H2 : Heap), (fun (v : Option Value) (H2 : Heap) => ∃ T : Int32, xRef G ty m0 A T F R pl un2 co dr bu nb wi hi fc fa lo2 la2 px py pz H2 ∧ xRfr m0 A H1 H2 ∧ ∃ z : Int32, v = some (.int z) ∧ ((T = nI 0 ∧ (vp_in x (R - 1)) ∧ ¬ un2 x.toNatClampNeg = 0 ∧ z = nI (pWor co pl x.toNatClampNeg (F - 1)).1) ∨ (T = nI 1 ∧ ¬ (vp_in x (R - 1))) ∨ (T = nI 2 ∧ (vp_in x (R - 1)) ∧ un2 x.toNatClampNeg = 0))) v2 H2 → ∃ (z : Int32) (g1 : Nat → Int64) (g2 : Nat → UInt64), v2 = some (.int z) ∧ xJ G ty b0 F R m0 A o1 o2 (ad 0) t g1 g2 H2 ∧ (t = nI 0 → g1 0 = z.toInt64) := by
  obtain ⟨⟨zF2, zF8⟩, ⟨zR2, zR8⟩⟩ := id hT.1.1
  rcases hp with ⟨rfl, bv, H0, hp, hs⟩ | ⟨rfl, hp⟩ | ⟨rfl, hp⟩
  · skip
    obtain ⟨rfl, hin, hu, hv⟩ := hp
    obtain ⟨hT1, hY1⟩ := keepL hO hT hY hT.1 hT.2.1 same_U hs
    refine ⟨_, rfl, hY1, fun v2 H2 hq => ?_⟩
    obtain ⟨T, hY2, hf2, z, rfl, hq⟩ := hq
    rcases hq with ⟨rfl, -, -, hz⟩ | ⟨-, hn⟩ | ⟨-, -, hu2⟩
    · skip
      exact ⟨_, _, _, rfl, xJ.mk rfl (hT1.kpR hO hf2) hY2 hR, fun _ => by rw [lupd0]; cases hv; rw [hz, ans_worst hR zF2 (in_lt hin) hu]⟩
    · skip
      exact absurd hin hn
    · skip
      exact absurd ((hR.u hin).mp hu2) hu
  · skip
    obtain ⟨hn, hx⟩ := exc_1 hp
    obtain ⟨hT1, hY1⟩ := keepX hT hY hx
    refine ⟨_, rfl, hY1, fun v2 H2 hq => ?_⟩
    obtain ⟨T, hY2, hf2, z, rfl, hq⟩ := hq
    rcases hq with ⟨-, hin, -⟩ | ⟨rfl, -⟩ | ⟨-, hin, -⟩
    · skip
      exact absurd hin hn
    · skip
      exact ⟨_, _, _, rfl, xJ.mk rfl (hT1.kpR hO hf2) hY2 hR, fun e => absurd e (by decide)⟩
    · skip
      exact absurd hin hn
  · skip
    obtain ⟨hin, hu, hx⟩ := exc_2 hp
    obtain ⟨hT1, hY1⟩ := keepX hT hY hx
    refine ⟨_, rfl, hY1, fun v2 H2 hq => ?_⟩
    obtain ⟨T, hY2, hf2, z, rfl, hq⟩ := hq
    rcases hq with ⟨-, -, hu2, -⟩ | ⟨-, hn⟩ | ⟨rfl, -, -⟩
    · skip
      exact absurd ((hR.u hin).mpr hu) hu2
    · skip
      exact absurd hin hn
    · skip
      exact ⟨_, _, _, rfl, xJ.mk rfl (hT1.kpR hO hf2) hY2 hR, fun e => absurd e (by decide)⟩
set_option maxHeartbeats 1000000 in
theorem j_bevel (hO : xAo b0 m0 A o1 o2) (hT : xT G ty b0 m0 A o1 o2 ad F R pl un cx cy bu nb wi hi nf fa lo la bx f1 f2 H) (hY : xRef G ty m0 A th F R pl un2 co dr bu nb wi hi fc fa lo2 la2 px py pz H) (hR : xRel F R nb pl un cx cy wi nf fa lo la bx un2 co fc lo2 la2) {x f : Int32} {v : Option Value} {H1 : Heap} (hp : (fun (v : Option Value) (H1 : Heap) => (v = some (.int (nI 0)) ∧ ∃ (bv : UInt64) (H0 : Heap), (fun (v : Option Value) (H1 : Heap) => (vp_in x (R - 1) ∧ vp_in f (F - 1)) ∧ xCla G ty ad F R pl un cx cy bu nb wi hi nf fa lo la bx H H1 ∧ ∃ z9 : UInt64, v = some (.double z9) ∧ vq z9 (pBevelC pl x.toNatClampNeg f.toNatClampNeg)) (some (.double bv)) H0 ∧ xset G o2 (.inl (ty 0, 1, .inr (.inr (.inr (.inl (vf_upd f2 0 bv)))))) H0 H1) ∨ (v = some (.int (nI 1)) ∧ (fun (E : String) (H1 : Heap) => E = "java/lang/IndexOutOfBoundsException" ∧ ¬ (vp_in x (R - 1) ∧ vp_in f (F - 1)) ∧ xext H H1) "java/lang/IndexOutOfBoundsException" H1)) v H1) :
    ∃ t : Int32, v = some (.int t) ∧ xRef G ty m0 A th F R pl un2 co dr bu nb wi hi fc fa lo2 la2 px py pz H1 ∧ ∀ (v2 : Option Value) (H2 : Heap), (fun (v : Option Value) (H2 : Heap) => ∃ (T : Int32) (x1 y1 z1 : UInt64), xRef G ty m0 A T F R pl un2 co dr bu nb wi hi fc fa lo2 la2 x1 y1 z1 H2 ∧ xRfr m0 A H1 H2 ∧ ∃ z : UInt64, v = some (.double z) ∧ ((T = nI 0 ∧ (vp_in x (R - 1) ∧ vp_in f (F - 1)) ∧ vq z (pBevel pl x.toNatClampNeg f.toNatClampNeg)) ∨ (T = nI 1 ∧ ¬ (vp_in x (R - 1) ∧ vp_in f (F - 1))))) v2 H2 → ∃ (z : UInt64) (g1 : Nat → Int64) (g2 : Nat → UInt64), v2 = some (.double z) ∧ xJ G ty b0 F R m0 A o1 o2 (ad 0) t g1 g2 H2 ∧ (t = nI 0 → pSame (g2 0) z) := by
  obtain ⟨⟨zF2, zF8⟩, ⟨zR2, zR8⟩⟩ := id hT.1.1
  rcases hp with ⟨rfl, bv, H0, hp, hs⟩ | ⟨rfl, hp⟩
  · skip
    obtain ⟨hin, hX1, z9, hv, hz9⟩ := hp
    obtain ⟨hT1, hY1⟩ := keepD hO hT hY hT.1 hX1 same_U hs
    refine ⟨_, rfl, hY1, fun v2 H2 hq => ?_⟩
    obtain ⟨T, x1, y1, z1, hY2, hf2, z, rfl, hq⟩ := hq
    rcases hq with ⟨rfl, -, hz⟩ | ⟨-, hn⟩
    · skip
      exact ⟨_, _, _, rfl, xJ.mk rfl (hT1.kpR hO hf2) hY2 hR, fun _ => by rw [vupd0]; cases hv; exact pSame_vq hz9 hz (bevelC_same _ _ _)⟩
    · skip
      exact absurd hin hn
  · skip
    obtain ⟨-, hn, hx⟩ := hp
    obtain ⟨hT1, hY1⟩ := keepX hT hY hx
    refine ⟨_, rfl, hY1, fun v2 H2 hq => ?_⟩
    obtain ⟨T, x1, y1, z1, hY2, hf2, z, rfl, hq⟩ := hq
    rcases hq with ⟨-, hin, -⟩ | ⟨rfl, -⟩
    · skip
      exact absurd hin hn
    · skip
      exact ⟨_, _, _, rfl, xJ.mk rfl (hT1.kpR hO hf2) hY2 hR, fun e => absurd e (by decide)⟩
set_option maxHeartbeats 1000000 in
theorem j_butt (hO : xAo b0 m0 A o1 o2) (hT : xT G ty b0 m0 A o1 o2 ad F R pl un cx cy bu nb wi hi nf fa lo la bx f1 f2 H) (hY : xRef G ty m0 A th F R pl un2 co dr bu nb wi hi fc fa lo2 la2 px py pz H) (hR : xRel F R nb pl un cx cy wi nf fa lo la bx un2 co fc lo2 la2) {x f on : Int32} {v : Option Value} {H1 : Heap} (hp : (fun (v : Option Value) (H1 : Heap) => (v = some (.int (nI 0)) ∧ ∃ (bv : Int32) (H0 : Heap), (fun (v : Option Value) (H1 : Heap) => (vp_in x (R - 1) ∧ vp_in f F) ∧ v = some (.int (xP (¬ bu (8 * x.toNatClampNeg + f.toNatClampNeg) = on))) ∧ xCla G ty ad F R pl un cx cy (upd bu (8 * x.toNatClampNeg + f.toNatClampNeg) on) nb wi hi nf fa lo la bx H H1) (some (.int bv)) H0 ∧ xset G o1 (.inl (ty 3, 1, .inr (.inl (vp_updL f1 0 (if bv = 0 then (0 : Int64) else 1))))) H0 H1) ∨ (v = some (.int (nI 1)) ∧ (fun (E : String) (H1 : Heap) => E = "java/lang/IndexOutOfBoundsException" ∧ ¬ (vp_in x (R - 1) ∧ vp_in f F) ∧ xext H H1) "java/lang/IndexOutOfBoundsException" H1)) v H1) :
    ∃ t : Int32, v = some (.int t) ∧ xRef G ty m0 A th F R pl un2 co dr bu nb wi hi fc fa lo2 la2 px py pz H1 ∧ ∀ (v2 : Option Value) (H2 : Heap), (fun (v : Option Value) (H2 : Heap) => ∃ (T : Int32) (bu1 : Nat → Int32), xRef G ty m0 A T F R pl un2 co dr bu1 nb wi hi fc fa lo2 la2 px py pz H2 ∧ xRfr m0 A H1 H2 ∧ ∃ z : Int32, v = some (.int z) ∧ ((T = nI 0 ∧ (vp_in x (R - 1) ∧ vp_in f F) ∧ z = xP (¬ bu (8 * x.toNatClampNeg + f.toNatClampNeg) = on) ∧ bu1 = upd bu (8 * x.toNatClampNeg + f.toNatClampNeg) on) ∨ (T = nI 1 ∧ ¬ (vp_in x (R - 1) ∧ vp_in f F) ∧ bu1 = bu))) v2 H2 → ∃ (z : Int32) (g1 : Nat → Int64) (g2 : Nat → UInt64), v2 = some (.int z) ∧ xJ G ty b0 F R m0 A o1 o2 (ad 0) t g1 g2 H2 ∧ (t = nI 0 → g1 0 = (if z = 0 then (0 : Int64) else 1)) := by
  obtain ⟨⟨zF2, zF8⟩, ⟨zR2, zR8⟩⟩ := id hT.1.1
  rcases hp with ⟨rfl, bv, H0, hp, hs⟩ | ⟨rfl, hp⟩
  · skip
    obtain ⟨hin, hv, hX1⟩ := hp
    obtain ⟨hT1, hY1⟩ := keepL hO hT hY hT.1 hX1 same_U hs
    refine ⟨_, rfl, hY1, fun v2 H2 hq => ?_⟩
    obtain ⟨T, bu1, hY2, hf2, z, rfl, hq⟩ := hq
    rcases hq with ⟨rfl, -, hz, rfl⟩ | ⟨-, hn, -⟩
    · skip
      exact ⟨_, _, _, rfl, xJ.mk rfl (hT1.kpR hO hf2) hY2 hR, fun _ => by rw [lupd0]; cases hv; rw [hz]⟩
    · skip
      exact absurd hin hn
  · skip
    obtain ⟨-, hn, hx⟩ := hp
    obtain ⟨hT1, hY1⟩ := keepX hT hY hx
    refine ⟨_, rfl, hY1, fun v2 H2 hq => ?_⟩
    obtain ⟨T, bu1, hY2, hf2, z, rfl, hq⟩ := hq
    rcases hq with ⟨-, hin, -⟩ | ⟨rfl, -, rfl⟩
    · skip
      exact absurd hin hn
    · skip
      exact ⟨_, _, _, rfl, xJ.mk rfl (hT1.kpR hO hf2) hY2 hR, fun e => absurd e (by decide)⟩
set_option maxHeartbeats 1000000 in
theorem j_board (hO : xAo b0 m0 A o1 o2) (hT : xT G ty b0 m0 A o1 o2 ad F R pl un cx cy bu nb wi hi nf fa lo la bx f1 f2 H) (hY : xRef G ty m0 A th F R pl un2 co dr bu nb wi hi fc fa lo2 la2 px py pz H) (hR : xRel F R nb pl un cx cy wi nf fa lo la bx un2 co fc lo2 la2) {x y : UInt64} {v : Option Value} {H1 : Heap} (hp : (fun (v : Option Value) (H1 : Heap) => (v = some (.int (nI 0)) ∧ ∃ (bv : Int32) (H0 : Heap), (fun (v : Option Value) (H1 : Heap) => (pBetween x FP.dconst1 4652007308841189376 = true ∧ pBetween y FP.dconst1 4652007308841189376 = true) ∧ ¬ nb = 4 ∧ v = some (.int (nI nb)) ∧ (∀ k : Nat, xU F R nb nf k → xab ad nb H.size k = ad k) ∧ xWf F R (nb + 1) (xnf nf nb) (xab ad nb H.size) b0 ∧ xCla G ty (xab ad nb H.size) F R pl un cx cy bu (nb + 1) (vf_upd wi nb x) (vf_upd hi nb y) (xnf nf nb) fa lo la bx H H1) (some (.int bv)) H0 ∧ xset G o1 (.inl (ty 3, 1, .inr (.inl (vp_updL f1 0 bv.toInt64)))) H0 H1) ∨ (v = some (.int (nI 1)) ∧ (fun (E : String) (H1 : Heap) => (E = "java/lang/IllegalArgumentException" ∧ ¬ (pBetween x FP.dconst1 4652007308841189376 = true ∧ pBetween y FP.dconst1 4652007308841189376 = true) ∧ xext H H1) ∨ (E = "java/lang/IllegalStateException" ∧ (pBetween x FP.dconst1 4652007308841189376 = true ∧ pBetween y FP.dconst1 4652007308841189376 = true) ∧ nb = 4 ∧ xext H H1)) "java/lang/IllegalArgumentException" H1) ∨ (v = some (.int (nI 2)) ∧ (fun (E : String) (H1 : Heap) => (E = "java/lang/IllegalArgumentException" ∧ ¬ (pBetween x FP.dconst1 4652007308841189376 = true ∧ pBetween y FP.dconst1 4652007308841189376 = true) ∧ xext H H1) ∨ (E = "java/lang/IllegalStateException" ∧ (pBetween x FP.dconst1 4652007308841189376 = true ∧ pBetween y FP.dconst1 4652007308841189376 = true) ∧ nb = 4 ∧ xext H H1)) "java/lang/IllegalStateException" H1)) v H1) :
    ∃ t : Int32, v = some (.int t) ∧ xRef G ty m0 A th F R pl un2 co dr bu nb wi hi fc fa lo2 la2 px py pz H1 ∧ ∀ (v2 : Option Value) (H2 : Heap), (fun (v : Option Value) (H2 : Heap) => ∃ (T : Int32) (nb1 : Nat) (wi1 hi1 : Nat → UInt64), xRef G ty m0 A T F R pl un2 co dr bu nb1 wi1 hi1 fc fa lo2 la2 px py pz H2 ∧ xRfr m0 A H1 H2 ∧ ∃ z : Int32, v = some (.int z) ∧ ((T = nI 0 ∧ (pBetween x FP.dconst1 4652007308841189376 = true ∧ pBetween y FP.dconst1 4652007308841189376 = true) ∧ ¬ nb = 4 ∧ z = nI nb ∧ nb1 = nb + 1 ∧ wi1 = vf_upd wi nb x ∧ hi1 = vf_upd hi nb y) ∨ (T = nI 1 ∧ ¬ (pBetween x FP.dconst1 4652007308841189376 = true ∧ pBetween y FP.dconst1 4652007308841189376 = true) ∧ nb1 = nb ∧ wi1 = wi ∧ hi1 = hi) ∨ (T = nI 2 ∧ (pBetween x FP.dconst1 4652007308841189376 = true ∧ pBetween y FP.dconst1 4652007308841189376 = true) ∧ nb = 4 ∧ nb1 = nb ∧ wi1 = wi ∧ hi1 = hi))) v2 H2 → ∃ (z : Int32) (g1 : Nat → Int64) (g2 : Nat → UInt64), v2 = some (.int z) ∧ xJ G ty b0 F R m0 A o1 o2 (ad 0) t g1 g2 H2 ∧ (t = nI 0 → g1 0 = z.toInt64) := by
  obtain ⟨⟨zF2, zF8⟩, ⟨zR2, zR8⟩⟩ := id hT.1.1
  rcases hp with ⟨rfl, bv, H0, hp, hs⟩ | ⟨rfl, hp⟩ | ⟨rfl, hp⟩
  · skip
    obtain ⟨hin, hn4, hv, hold, hW1, hX1⟩ := hp
    have hU : ∀ k : Nat, xU F R (nb + 1) (xnf nf nb) k → (xU F R nb nf k ∧ xab ad nb H.size k = ad k) ∨ H.size ≤ xab ad nb H.size k := by
      intro k hk
      rcases xU_abc hk with h | rfl | rfl | ⟨rfl, h⟩
      · exact Or.inl ⟨h, hold k h⟩
      · rw [xab_1]; exact Or.inr (by omega)
      · rw [xab_2]; exact Or.inr (by omega)
      · rw [xab_3 h]; exact Or.inr (by omega)
    have h0 : xab ad nb H.size 0 = ad 0 := hold 0 (xU_6 (by decide))
    obtain ⟨hT1, hY1⟩ := keepL hO hT hY hW1 hX1 hU hs
    refine ⟨_, rfl, hY1, fun v2 H2 hq => ?_⟩
    obtain ⟨T, nb1, wi1, hi1, hY2, hf2, z, rfl, hq⟩ := hq
    rcases hq with ⟨rfl, -, -, hz, rfl, rfl, rfl⟩ | ⟨-, hn, -⟩ | ⟨-, -, hn, -⟩
    · skip
      exact ⟨_, _, _, rfl, xJ.mk h0 (hT1.kpR hO hf2) hY2 (rel_board hR hin.1), fun _ => by rw [lupd0]; cases hv; rw [hz]⟩
    · skip
      exact absurd hin hn
    · skip
      exact absurd hn hn4
  · skip
    obtain ⟨hn, hx⟩ := exc_1 hp
    obtain ⟨hT1, hY1⟩ := keepX hT hY hx
    refine ⟨_, rfl, hY1, fun v2 H2 hq => ?_⟩
    obtain ⟨T, nb1, wi1, hi1, hY2, hf2, z, rfl, hq⟩ := hq
    rcases hq with ⟨-, hin, -⟩ | ⟨rfl, -, rfl, rfl, rfl⟩ | ⟨-, hin, -⟩
    · skip
      exact absurd hin hn
    · skip
      exact ⟨_, _, _, rfl, xJ.mk rfl (hT1.kpR hO hf2) hY2 hR, fun e => absurd e (by decide)⟩
    · skip
      exact absurd hin hn
  · skip
    obtain ⟨hin, hn4, hx⟩ := exc_2 hp
    obtain ⟨hT1, hY1⟩ := keepX hT hY hx
    refine ⟨_, rfl, hY1, fun v2 H2 hq => ?_⟩
    obtain ⟨T, nb1, wi1, hi1, hY2, hf2, z, rfl, hq⟩ := hq
    rcases hq with ⟨-, -, hn, -⟩ | ⟨-, hn, -⟩ | ⟨rfl, -, -, rfl, rfl, rfl⟩
    · skip
      exact absurd hn4 hn
    · skip
      exact absurd hin hn
    · skip
      exact ⟨_, _, _, rfl, xJ.mk rfl (hT1.kpR hO hf2) hY2 hR, fun e => absurd e (by decide)⟩
set_option maxHeartbeats 1000000 in
theorem j_fault (hO : xAo b0 m0 A o1 o2) (hT : xT G ty b0 m0 A o1 o2 ad F R pl un cx cy bu nb wi hi nf fa lo la bx f1 f2 H) (hY : xRef G ty m0 A th F R pl un2 co dr bu nb wi hi fc fa lo2 la2 px py pz H) (hR : xRel F R nb pl un cx cy wi nf fa lo la bx un2 co fc lo2 la2) {b : Int32} {x y u h : UInt64} {v : Option Value} {H1 : Heap} (hp : (fun (v : Option Value) (H1 : Heap) => (v = some (.int (nI 0)) ∧ ∃ (bv : Int32) (H0 : Heap), (fun (v : Option Value) (H1 : Heap) => vp_in b nb ∧ (pBetween x FP.dconst0 4652007308841189376 = true ∧ pBetween y FP.dconst0 4652007308841189376 = true ∧ pBetween u 4593671619917905920 4652007308841189376 = true ∧ pBetween h 4593671619917905920 4652007308841189376 = true) ∧ ((nf b.toNatClampNeg = 8 ∧ v = some (.int (nI 0)) ∧ xCla G ty ad F R pl un cx cy bu nb wi hi nf fa lo la bx H H1) ∨ (¬ nf b.toNatClampNeg = 8 ∧ v = some (.int (nI 1)) ∧ (∀ k : Nat, xU F R nb nf k → (xaf ad b.toNatClampNeg (nf b.toNatClampNeg) H.size) k = ad k) ∧ xWf F R nb (xnfi nf b.toNatClampNeg) (xaf ad b.toNatClampNeg (nf b.toNatClampNeg) H.size) b0 ∧ xCla G ty (xaf ad b.toNatClampNeg (nf b.toNatClampNeg) H.size) F R pl un cx cy bu nb wi hi (xnfi nf b.toNatClampNeg) (vf_upd (vf_upd (vf_upd (vf_upd (fa) (32 * (b.toNatClampNeg) + 4 * nf (b.toNatClampNeg)) x) (32 * (b.toNatClampNeg) + 4 * nf (b.toNatClampNeg) + 1) y) (32 * (b.toNatClampNeg) + 4 * nf (b.toNatClampNeg) + 2) u) (32 * (b.toNatClampNeg) + 4 * nf (b.toNatClampNeg) + 3) h) lo la bx H H1))) (some (.int bv)) H0 ∧ xset G o1 (.inl (ty 3, 1, .inr (.inl (vp_updL f1 0 (if bv = 0 then (0 : Int64) else 1))))) H0 H1) ∨ (v = some (.int (nI 1)) ∧ (fun (E : String) (H1 : Heap) => (E = "java/lang/IndexOutOfBoundsException" ∧ ¬ vp_in b nb ∧ xext H H1) ∨ (E = "java/lang/IllegalArgumentException" ∧ vp_in b nb ∧ ¬ (pBetween x FP.dconst0 4652007308841189376 = true ∧ pBetween y FP.dconst0 4652007308841189376 = true ∧ pBetween u 4593671619917905920 4652007308841189376 = true ∧ pBetween h 4593671619917905920 4652007308841189376 = true) ∧ xext H H1)) "java/lang/IndexOutOfBoundsException" H1) ∨ (v = some (.int (nI 2)) ∧ (fun (E : String) (H1 : Heap) => (E = "java/lang/IndexOutOfBoundsException" ∧ ¬ vp_in b nb ∧ xext H H1) ∨ (E = "java/lang/IllegalArgumentException" ∧ vp_in b nb ∧ ¬ (pBetween x FP.dconst0 4652007308841189376 = true ∧ pBetween y FP.dconst0 4652007308841189376 = true ∧ pBetween u 4593671619917905920 4652007308841189376 = true ∧ pBetween h 4593671619917905920 4652007308841189376 = true) ∧ xext H H1)) "java/lang/IllegalArgumentException" H1)) v H1) :
    ∃ t : Int32, v = some (.int t) ∧ xRef G ty m0 A th F R pl un2 co dr bu nb wi hi fc fa lo2 la2 px py pz H1 ∧ ∀ (v2 : Option Value) (H2 : Heap), (fun (v : Option Value) (H2 : Heap) => ∃ (T : Int32) (fa1 : Nat → UInt64) (fc1 : Nat → Int32), xRef G ty m0 A T F R pl un2 co dr bu nb wi hi fc1 fa1 lo2 la2 px py pz H2 ∧ xRfr m0 A H1 H2 ∧ ∃ z : Int32, v = some (.int z) ∧ ((T = nI 0 ∧ vp_in b nb ∧ (pBetween x FP.dconst0 4652007308841189376 = true ∧ pBetween y FP.dconst0 4652007308841189376 = true ∧ pBetween u 4593671619917905920 4652007308841189376 = true ∧ pBetween h 4593671619917905920 4652007308841189376 = true) ∧ ((nf b.toNatClampNeg = 8 ∧ z = nI 0 ∧ fa1 = fa ∧ fc1 = fc) ∨ (¬ nf b.toNatClampNeg = 8 ∧ z = nI 1 ∧ fa1 = vf_upd (vf_upd (vf_upd (vf_upd (fa) (32 * b.toNatClampNeg + 4 * nf b.toNatClampNeg) x) (32 * b.toNatClampNeg + 4 * nf b.toNatClampNeg + 1) y) (32 * b.toNatClampNeg + 4 * nf b.toNatClampNeg + 2) u) (32 * b.toNatClampNeg + 4 * nf b.toNatClampNeg + 3) h ∧ fc1 = upd fc b.toNatClampNeg (nI (nf b.toNatClampNeg + 1))))) ∨ (T = nI 1 ∧ ¬ vp_in b nb ∧ fa1 = fa ∧ fc1 = fc) ∨ (T = nI 2 ∧ vp_in b nb ∧ ¬ (pBetween x FP.dconst0 4652007308841189376 = true ∧ pBetween y FP.dconst0 4652007308841189376 = true ∧ pBetween u 4593671619917905920 4652007308841189376 = true ∧ pBetween h 4593671619917905920 4652007308841189376 = true) ∧ fa1 = fa ∧ fc1 = fc))) v2 H2 → ∃ (z9 : Int32) (g1 : Nat → Int64) (g2 : Nat → UInt64), v2 = some (.int z9) ∧ xJ G ty b0 F R m0 A o1 o2 (ad 0) t g1 g2 H2 ∧ (t = nI 0 → g1 0 = (if z9 = 0 then (0 : Int64) else 1)) := by
  obtain ⟨⟨zF2, zF8⟩, ⟨zR2, zR8⟩⟩ := id hT.1.1
  rcases hp with ⟨rfl, bv, H0, hp, hs⟩ | ⟨rfl, hp⟩ | ⟨rfl, hp⟩
  · obtain ⟨hb, hin, hp⟩ := hp
    have hb9 := in_lt hb
    rcases hp with ⟨h8, hv, hX1⟩ | ⟨h8, hv, hold, hW1, hX1⟩
    · obtain ⟨hT1, hY1⟩ := keepL hO hT hY hT.1 hX1 same_U hs
      refine ⟨_, rfl, hY1, fun v2 H2 hq => ?_⟩
      obtain ⟨T, fa1, fc1, hY2, hf2, z9, rfl, hq⟩ := hq
      rcases hq with ⟨rfl, -, -, ⟨-, hz, rfl, rfl⟩ | ⟨hn8, -⟩⟩ | ⟨-, hn, -⟩ | ⟨-, -, hn, -⟩
      · exact ⟨_, _, _, rfl, xJ.mk rfl (hT1.kpR hO hf2) hY2 hR, fun _ => by rw [lupd0]; cases hv; rw [hz]⟩
      · exact absurd h8 hn8
      · exact absurd hb hn
      · exact absurd hin hn
    · have hU : ∀ k : Nat, xU F R nb (xnfi nf b.toNatClampNeg) k → (xU F R nb nf k ∧ xaf ad b.toNatClampNeg (nf b.toNatClampNeg) H.size k = ad k) ∨ H.size ≤ xaf ad b.toNatClampNeg (nf b.toNatClampNeg) H.size k := by
        intro k hk
        have hn4 := hT.1.2.1
        have hn := hT.1.2.2.1 _ hb9
        rcases xU_afc hk with h | rfl | ⟨rfl, h⟩
        · exact Or.inl ⟨h, hold k h⟩
        · rw [xaf_1]; exact Or.inr (by omega)
        · rw [xaf_2 (by omega) h]; exact Or.inr (by omega)
      have h0 : xaf ad b.toNatClampNeg (nf b.toNatClampNeg) H.size 0 = ad 0 := hold 0 (xU_6 (by decide))
      obtain ⟨hT1, hY1⟩ := keepL hO hT hY hW1 hX1 hU hs
      refine ⟨_, rfl, hY1, fun v2 H2 hq => ?_⟩
      obtain ⟨T, fa1, fc1, hY2, hf2, z9, rfl, hq⟩ := hq
      rcases hq with ⟨rfl, -, -, ⟨hn8, -⟩ | ⟨-, hz, rfl, rfl⟩⟩ | ⟨-, hn, -⟩ | ⟨-, -, hn, -⟩
      · exact absurd hn8 h8
      · exact ⟨_, _, _, rfl, xJ.mk h0 (hT1.kpR hO hf2) hY2 (rel_fault hR hb9 hT.1.2.2.1 h8 hin.1 hin.2.2.1), fun _ => by rw [lupd0]; cases hv; rw [hz]⟩
      · exact absurd hb hn
      · exact absurd hin hn
  · obtain ⟨hn, hx⟩ := exc_1 hp
    obtain ⟨hT1, hY1⟩ := keepX hT hY hx
    refine ⟨_, rfl, hY1, fun v2 H2 hq => ?_⟩
    obtain ⟨T, fa1, fc1, hY2, hf2, z9, rfl, hq⟩ := hq
    rcases hq with ⟨-, hb, -⟩ | ⟨rfl, -, rfl, rfl⟩ | ⟨-, hb, -⟩
    · exact absurd hb hn
    · exact ⟨_, _, _, rfl, xJ.mk rfl (hT1.kpR hO hf2) hY2 hR, fun e => absurd e (by decide)⟩
    · exact absurd hb hn
  · obtain ⟨hb, hn, hx⟩ := exc_2 hp
    obtain ⟨hT1, hY1⟩ := keepX hT hY hx
    refine ⟨_, rfl, hY1, fun v2 H2 hq => ?_⟩
    obtain ⟨T, fa1, fc1, hY2, hf2, z9, rfl, hq⟩ := hq
    rcases hq with ⟨-, -, hin, -⟩ | ⟨-, hn, -⟩ | ⟨rfl, -, -, rfl, rfl⟩
    · exact absurd hin hn
    · exact absurd hb hn
    · exact ⟨_, _, _, rfl, xJ.mk rfl (hT1.kpR hO hf2) hY2 hR, fun e => absurd e (by decide)⟩
set_option maxHeartbeats 1000000 in
theorem j_point (hO : xAo b0 m0 A o1 o2) (hT : xT G ty b0 m0 A o1 o2 ad F R pl un cx cy bu nb wi hi nf fa lo la bx f1 f2 H) (hY : xRef G ty m0 A th F R pl un2 co dr bu nb wi hi fc fa lo2 la2 px py pz H) (hR : xRel F R nb pl un cx cy wi nf fa lo la bx un2 co fc lo2 la2) {f r : Int32} {x y z : UInt64} (gx : pGz x) (gy : pGz y) (gz : pGz z) {v : Option Value} {H1 : Heap} (hp : (fun (v : Option Value) (H1 : Heap) => (v = some (.int (nI 0)) ∧ ∃ (bv : Int32) (H0 : Heap), (fun (v : Option Value) (H1 : Heap) => (vp_in f F ∧ vp_in r R) ∧ (pBetween x 13875379345695965184 4652007308841189376 = true ∧ pBetween y 13875379345695965184 4652007308841189376 = true ∧ pBetween z 13875379345695965184 4652007308841189376 = true) ∧ ∃ (pl1 : Nat → UInt64) (un1 lo1 la1 : Nat → Int32), xCla G ty ad F R pl1 un1 cx cy bu nb wi hi nf fa lo1 la1 bx H H1 ∧ ((pNew pl f.toNatClampNeg r.toNatClampNeg x y z ∧ v = some (.int (nI 1)) ∧ pl1 = vf_upd (vf_upd (vf_upd pl ((3 * (8 * f.toNatClampNeg + r.toNatClampNeg)) + 0) x) ((3 * (8 * f.toNatClampNeg + r.toNatClampNeg)) + 1) y) ((3 * (8 * f.toNatClampNeg + r.toNatClampNeg)) + 2) z ∧ ∀ j : Nat, j < R - 1 → un1 j = nI 0 ∧ lo1 j = (-1) ∧ la1 j = (-1)) ∨ (¬ pNew pl f.toNatClampNeg r.toNatClampNeg x y z ∧ v = some (.int (nI 0)) ∧ pl1 = pl ∧ un1 = un ∧ lo1 = lo ∧ la1 = la))) (some (.int bv)) H0 ∧ xset G o1 (.inl (ty 3, 1, .inr (.inl (vp_updL f1 0 (if bv = 0 then (0 : Int64) else 1))))) H0 H1) ∨ (v = some (.int (nI 1)) ∧ (fun (E : String) (H1 : Heap) => (E = "java/lang/IndexOutOfBoundsException" ∧ ¬ (vp_in f F ∧ vp_in r R) ∧ xext H H1) ∨ (E = "java/lang/IllegalArgumentException" ∧ (vp_in f F ∧ vp_in r R) ∧ ¬ (pBetween x 13875379345695965184 4652007308841189376 = true ∧ pBetween y 13875379345695965184 4652007308841189376 = true ∧ pBetween z 13875379345695965184 4652007308841189376 = true) ∧ xext H H1)) "java/lang/IndexOutOfBoundsException" H1) ∨ (v = some (.int (nI 2)) ∧ (fun (E : String) (H1 : Heap) => (E = "java/lang/IndexOutOfBoundsException" ∧ ¬ (vp_in f F ∧ vp_in r R) ∧ xext H H1) ∨ (E = "java/lang/IllegalArgumentException" ∧ (vp_in f F ∧ vp_in r R) ∧ ¬ (pBetween x 13875379345695965184 4652007308841189376 = true ∧ pBetween y 13875379345695965184 4652007308841189376 = true ∧ pBetween z 13875379345695965184 4652007308841189376 = true) ∧ xext H H1)) "java/lang/IllegalArgumentException" H1)) v H1) :
    ∃ t : Int32, v = some (.int t) ∧ xRef G ty m0 A th F R pl un2 co dr bu nb wi hi fc fa lo2 la2 px py pz H1 ∧ ∀ (v2 : Option Value) (H2 : Heap), (fun (v : Option Value) (H2 : Heap) => ∃ (T : Int32) (pl1 : Nat → UInt64) (un1 lo1 la1 : Nat → Int32), xRef G ty m0 A T F R pl1 un1 co dr bu nb wi hi fc fa lo1 la1 px py pz H2 ∧ xRfr m0 A H1 H2 ∧ ∃ b9 : Int32, v = some (.int b9) ∧ ((T = nI 0 ∧ (vp_in f F ∧ vp_in r R) ∧ (pBetween x 13875379345695965184 4652007308841189376 = true ∧ pBetween y 13875379345695965184 4652007308841189376 = true ∧ pBetween z 13875379345695965184 4652007308841189376 = true) ∧ pl1 = vf_upd (vf_upd (vf_upd pl (3 * (8 * f.toNatClampNeg + r.toNatClampNeg)) x) (3 * (8 * f.toNatClampNeg + r.toNatClampNeg) + 1) y) (3 * (8 * f.toNatClampNeg + r.toNatClampNeg) + 2) z ∧ ((pNew pl f.toNatClampNeg r.toNatClampNeg x y z ∧ b9 = nI 1 ∧ ∀ j : Nat, j < 8 → un1 j = nI 0 ∧ lo1 j = (-1) ∧ la1 j = (-1)) ∨ (¬ pNew pl f.toNatClampNeg r.toNatClampNeg x y z ∧ b9 = nI 0 ∧ un1 = un2 ∧ lo1 = lo2 ∧ la1 = la2))) ∨ (T = nI 1 ∧ ¬ (vp_in f F ∧ vp_in r R) ∧ pl1 = pl ∧ un1 = un2 ∧ lo1 = lo2 ∧ la1 = la2) ∨ (T = nI 2 ∧ (vp_in f F ∧ vp_in r R) ∧ ¬ (pBetween x 13875379345695965184 4652007308841189376 = true ∧ pBetween y 13875379345695965184 4652007308841189376 = true ∧ pBetween z 13875379345695965184 4652007308841189376 = true) ∧ pl1 = pl ∧ un1 = un2 ∧ lo1 = lo2 ∧ la1 = la2))) v2 H2 → ∃ (z9 : Int32) (g1 : Nat → Int64) (g2 : Nat → UInt64), v2 = some (.int z9) ∧ xJ G ty b0 F R m0 A o1 o2 (ad 0) t g1 g2 H2 ∧ (t = nI 0 → g1 0 = (if z9 = 0 then (0 : Int64) else 1)) := by
  obtain ⟨⟨zF2, zF8⟩, ⟨zR2, zR8⟩⟩ := id hT.1.1
  rcases hp with ⟨rfl, bv, H0, hp, hs⟩ | ⟨rfl, hp⟩ | ⟨rfl, hp⟩
  · obtain ⟨hin, hgd, pl1, un1, lo1, la1, hX1, hp⟩ := hp
    obtain ⟨hT1, hY1⟩ := keepL hO hT hY hT.1 hX1 same_U hs
    refine ⟨_, rfl, hY1, fun v2 H2 hq => ?_⟩
    obtain ⟨T, pl3, un3, lo3, la3, hY2, hf2, z9, rfl, hq⟩ := hq
    rcases hq with ⟨rfl, -, -, rfl, hq⟩ | ⟨-, hn, -⟩ | ⟨-, -, hn, -⟩
    · rcases hp with ⟨hw, hv, rfl, hc⟩ | ⟨hw, hv, rfl, rfl, rfl, rfl⟩
      · rcases hq with ⟨-, hz, hr⟩ | ⟨hn, -⟩
        · exact ⟨_, _, _, rfl, xJ.mk rfl (hT1.kpR hO hf2) hY2 (rel_point hR zR8 hgd gx gy gz hc hr), fun _ => by rw [lupd0]; cases hv; rw [hz]⟩
        · exact absurd hw hn
      · rcases hq with ⟨hn, -⟩ | ⟨-, hz, rfl, rfl, rfl⟩
        · exact absurd hn hw
        · rw [point_same hR (in_lt hin.1) (in_lt hin.2) gx gy gz hw] at hY2
          exact ⟨_, _, _, rfl, xJ.mk rfl (hT1.kpR hO hf2) hY2 hR, fun _ => by rw [lupd0]; cases hv; rw [hz]⟩
    · exact absurd hin hn
    · exact absurd hgd hn
  · obtain ⟨hn, hx⟩ := exc_1 hp
    obtain ⟨hT1, hY1⟩ := keepX hT hY hx
    refine ⟨_, rfl, hY1, fun v2 H2 hq => ?_⟩
    obtain ⟨T, pl3, un3, lo3, la3, hY2, hf2, z9, rfl, hq⟩ := hq
    rcases hq with ⟨-, hin, -⟩ | ⟨rfl, -, rfl, rfl, rfl, rfl⟩ | ⟨-, hin, -⟩
    · exact absurd hin hn
    · exact ⟨_, _, _, rfl, xJ.mk rfl (hT1.kpR hO hf2) hY2 hR, fun e => absurd e (by decide)⟩
    · exact absurd hin hn
  · obtain ⟨hin, hn, hx⟩ := exc_2 hp
    obtain ⟨hT1, hY1⟩ := keepX hT hY hx
    refine ⟨_, rfl, hY1, fun v2 H2 hq => ?_⟩
    obtain ⟨T, pl3, un3, lo3, la3, hY2, hf2, z9, rfl, hq⟩ := hq
    rcases hq with ⟨-, -, hgd, -⟩ | ⟨-, hn2, -⟩ | ⟨rfl, -, -, rfl, rfl, rfl, rfl⟩
    · exact absurd hgd hn
    · exact absurd hin hn2
    · exact ⟨_, _, _, rfl, xJ.mk rfl (hT1.kpR hO hf2) hY2 hR, fun e => absurd e (by decide)⟩
set_option maxHeartbeats 1000000 in
theorem j_unroll (hO : xAo b0 m0 A o1 o2) (hT : xT G ty b0 m0 A o1 o2 ad F R pl un cx cy bu nb wi hi nf fa lo la bx f1 f2 H) (hY : xRef G ty m0 A th F R pl un2 co dr bu nb wi hi fc fa lo2 la2 px py pz H) (hR : xRel F R nb pl un cx cy wi nf fa lo la bx un2 co fc lo2 la2) {x : Int32} {v : Option Value} {H1 : Heap} (hp : (fun (v : Option Value) (H1 : Heap) => (v = some (.int (nI 0)) ∧ ∃ (bv : Int32) (H0 : Heap), (fun (v : Option Value) (H1 : Heap) => vp_in x (R - 1) ∧ v = some (.int (nI (2 * (F - 1)))) ∧ ∃ (un1 : Nat → Int32) (cx1 cy1 bx1 : Nat → Nat → UInt64), xCla G ty ad F R pl un1 cx1 cy1 bu nb wi hi nf fa lo la bx1 H H1 ∧ ((¬ un x.toNatClampNeg = 0 ∧ un1 = un ∧ cx1 = cx ∧ cy1 = cy ∧ bx1 = bx) ∨ (un x.toNatClampNeg = 0 ∧ un1 = upd un x.toNatClampNeg (nI 1) ∧ xOth cx cy cx1 cy1 x.toNatClampNeg ∧ ∃ d : Nat → UInt64, pUnr (pFar pl) x.toNatClampNeg (F - 1) = some d ∧ xCo (cx1 x.toNatClampNeg) (cy1 x.toNatClampNeg) d (2 * F) ∧ ∃ u9 h9 : UInt64, bx1 = xup2 (xup2 bx x.toNatClampNeg 2 u9) x.toNatClampNeg 3 h9 ∧ vq u9 (pExtC d (2 * F) 0) ∧ vq h9 (pExtC d (2 * F) 1)))) (some (.int bv)) H0 ∧ xset G o1 (.inl (ty 3, 1, .inr (.inl (vp_updL f1 0 bv.toInt64)))) H0 H1) ∨ (v = some (.int (nI 1)) ∧ (fun (E : String) (H1 : Heap) => (E = "java/lang/IndexOutOfBoundsException" ∧ ¬ vp_in x (R - 1) ∧ xext H H1) ∨ (E = "java/lang/IllegalStateException" ∧ vp_in x (R - 1) ∧ un x.toNatClampNeg = 0 ∧ pUnr (pFar pl) x.toNatClampNeg (F - 1) = none ∧ ∃ cx1 cy1 : Nat → Nat → UInt64, xOth cx cy cx1 cy1 x.toNatClampNeg ∧ xCla G ty ad F R pl un cx1 cy1 bu nb wi hi nf fa lo la bx H H1)) "java/lang/IndexOutOfBoundsException" H1) ∨ (v = some (.int (nI 2)) ∧ (fun (E : String) (H1 : Heap) => (E = "java/lang/IndexOutOfBoundsException" ∧ ¬ vp_in x (R - 1) ∧ xext H H1) ∨ (E = "java/lang/IllegalStateException" ∧ vp_in x (R - 1) ∧ un x.toNatClampNeg = 0 ∧ pUnr (pFar pl) x.toNatClampNeg (F - 1) = none ∧ ∃ cx1 cy1 : Nat → Nat → UInt64, xOth cx cy cx1 cy1 x.toNatClampNeg ∧ xCla G ty ad F R pl un cx1 cy1 bu nb wi hi nf fa lo la bx H H1)) "java/lang/IllegalStateException" H1)) v H1) :
    ∃ t : Int32, v = some (.int t) ∧ xRef G ty m0 A th F R pl un2 co dr bu nb wi hi fc fa lo2 la2 px py pz H1 ∧ ∀ (v2 : Option Value) (H2 : Heap), (fun (v : Option Value) (H2 : Heap) => ∃ (T : Int32) (un1 : Nat → Int32) (co1 dr1 : Nat → UInt64), xRef G ty m0 A T F R pl un1 co1 dr1 bu nb wi hi fc fa lo2 la2 px py pz H2 ∧ xRfr m0 A H1 H2 ∧ ∃ z : Int32, v = some (.int z) ∧ ((T = nI 0 ∧ vp_in x (R - 1) ∧ ∃ d : Nat → UInt64, pUnr (pFar pl) x.toNatClampNeg (F - 1) = some d ∧ z = nI (2 * (F - 1)) ∧ un1 = upd un2 x.toNatClampNeg (nI 1) ∧ (∀ j : Nat, j < 4 * F → vq (co1 (32 * x.toNatClampNeg + j)) (d j)) ∧ ∀ j : Nat, (j < 32 * x.toNatClampNeg ∨ 32 * x.toNatClampNeg + 4 * F ≤ j) → co1 j = co j) ∨ (T = nI 1 ∧ ¬ vp_in x (R - 1) ∧ un1 = un2 ∧ co1 = co) ∨ (T = nI 2 ∧ vp_in x (R - 1) ∧ pUnr (pFar pl) x.toNatClampNeg (F - 1) = none ∧ un1 = un2 ∧ co1 = co))) v2 H2 → ∃ (z : Int32) (g1 : Nat → Int64) (g2 : Nat → UInt64), v2 = some (.int z) ∧ xJ G ty b0 F R m0 A o1 o2 (ad 0) t g1 g2 H2 ∧ (t = nI 0 → g1 0 = z.toInt64) := by
  obtain ⟨⟨zF2, zF8⟩, ⟨zR2, zR8⟩⟩ := id hT.1.1
  rcases hp with ⟨rfl, bv, H0, hp, hs⟩ | ⟨rfl, hp⟩ | ⟨rfl, hp⟩
  · obtain ⟨hin, hv, un1, cx1, cy1, bx1, hX1, hp⟩ := hp
    obtain ⟨hT1, hY1⟩ := keepL hO hT hY hT.1 hX1 same_U hs
    refine ⟨_, rfl, hY1, fun v2 H2 hq => ?_⟩
    obtain ⟨T, un3, co1, dr1, hY2, hf2, z, rfl, hq⟩ := hq
    rcases hq with ⟨rfl, -, d, hd, hz, rfl, hc, ho⟩ | ⟨-, hn, -⟩ | ⟨-, -, hd, -⟩
    · rcases hp with ⟨hu, rfl, rfl, rfl, rfl⟩ | ⟨hu, rfl, hx, d2, hd2, hco, u9, h9, hb, q1, q2⟩
      · exact ⟨_, _, _, rfl, xJ.mk rfl (hT1.kpR hO hf2) hY2 (rel_unrollA hR (in_lt hin) zF8 hu hd hc ho), fun _ => by rw [lupd0]; cases hv; rw [hz]⟩
      · rw [hd] at hd2
        cases hd2
        exact ⟨_, _, _, rfl, xJ.mk rfl (hT1.kpR hO hf2) hY2 (rel_unrollB hR (in_lt hin) zF8 hu hd hc ho hx hco hb q1 q2), fun _ => by rw [lupd0]; cases hv; rw [hz]⟩
    · exact absurd hin hn
    · rcases hp with ⟨hu, -⟩ | ⟨-, -, -, d2, hd2, -⟩
      · obtain ⟨d2, hd2, -⟩ := hR.2.2.1 _ (in_lt hin) hu
        rw [hd] at hd2; cases hd2
      · rw [hd] at hd2; cases hd2
  · obtain ⟨hn, hx⟩ := exc_1 hp
    obtain ⟨hT1, hY1⟩ := keepX hT hY hx
    refine ⟨_, rfl, hY1, fun v2 H2 hq => ?_⟩
    obtain ⟨T, un3, co1, dr1, hY2, hf2, z, rfl, hq⟩ := hq
    rcases hq with ⟨-, hin, -⟩ | ⟨rfl, -, rfl, rfl⟩ | ⟨-, hin, -⟩
    · exact absurd hin hn
    · exact ⟨_, _, _, rfl, xJ.mk rfl (hT1.kpR hO hf2) hY2 hR, fun e => absurd e (by decide)⟩
    · exact absurd hin hn
  · obtain ⟨hin, hu, hd, cx1, cy1, hx, hX1⟩ := exc_2 hp
    obtain ⟨hT1, hY1⟩ := keepC hO hT hY hT.1 hX1 same_U
    refine ⟨_, rfl, hY1, fun v2 H2 hq => ?_⟩
    obtain ⟨T, un3, co1, dr1, hY2, hf2, z, rfl, hq⟩ := hq
    rcases hq with ⟨-, -, d2, hd2, -⟩ | ⟨-, hn, -⟩ | ⟨rfl, -, -, rfl, rfl⟩
    · rw [hd] at hd2; cases hd2
    · exact absurd hin hn
    · exact ⟨_, _, _, rfl, xJ.mk rfl (hT1.kpR hO hf2) hY2 (rel_unrollX hR hu hx), fun e => absurd e (by decide)⟩
set_option maxHeartbeats 1000000 in
theorem j_nest (hO : xAo b0 m0 A o1 o2) (hT : xT G ty b0 m0 A o1 o2 ad F R pl un cx cy bu nb wi hi nf fa lo la bx f1 f2 H) (hY : xRef G ty m0 A th F R pl un2 co dr bu nb wi hi fc fa lo2 la2 px py pz H) (hR : xRel F R nb pl un cx cy wi nf fa lo la bx un2 co fc lo2 la2) {b x : Int32} {v : Option Value} {H1 : Heap} (hp : (fun (v : Option Value) (H1 : Heap) => (v = some (.int (nI 0)) ∧ ∃ (bv : Int32) (H0 : Heap), (fun (v : Option Value) (H1 : Heap) => (vp_in b nb ∧ vp_in x (R - 1)) ∧ ¬ un x.toNatClampNeg = 0 ∧ lo x.toNatClampNeg = (-1) ∧ ∃ (bx1 : Nat → Nat → UInt64) (lo1 la1 : Nat → Int32), xCla G ty ad F R pl un cx cy bu nb wi hi nf fa lo1 la1 bx1 H H1 ∧ xBx bx bx1 x.toNatClampNeg ∧ ((v = some (.int (-1)) ∧ xgt (FP.dadd (bx x.toNatClampNeg 1) (bx x.toNatClampNeg 3)) (hi b.toNatClampNeg) = true ∧ lo1 = lo ∧ la1 = la) ∨ (xgt (FP.dadd (bx x.toNatClampNeg 1) (bx x.toNatClampNeg 3)) (hi b.toNatClampNeg) = false ∧ ∃ k : Nat, k ≤ 8000 ∧ v = some (.int (nI k)) ∧ xgt (FP.dadd (pEi k) (bx x.toNatClampNeg 2)) (wi b.toNatClampNeg) = false ∧ pFree fa lo bx R b.toNatClampNeg (nf b.toNatClampNeg) (pEi k) (bx x.toNatClampNeg 1) (bx x.toNatClampNeg 2) (bx x.toNatClampNeg 3) ∧ vq (bx1 x.toNatClampNeg 0) (pEi k) ∧ (∀ j : Nat, j < k → ¬ pFree fa lo bx R b.toNatClampNeg (nf b.toNatClampNeg) (pEi j) (bx x.toNatClampNeg 1) (bx x.toNatClampNeg 2) (bx x.toNatClampNeg 3)) ∧ lo1 = upd lo x.toNatClampNeg (nI b.toNatClampNeg) ∧ la1 = upd la x.toNatClampNeg (nI k)) ∨ (v = some (.int (-1)) ∧ xgt (FP.dadd (bx x.toNatClampNeg 1) (bx x.toNatClampNeg 3)) (hi b.toNatClampNeg) = false ∧ (∃ k : Nat, (∀ j : Nat, j < k → j ≤ 8000 → ¬ pFree fa lo bx R b.toNatClampNeg (nf b.toNatClampNeg) (pEi j) (bx x.toNatClampNeg 1) (bx x.toNatClampNeg 2) (bx x.toNatClampNeg 3)) ∧ (xgt (FP.dadd (pEi k) (bx x.toNatClampNeg 2)) (wi b.toNatClampNeg) = true ∨ 8000 < k)) ∧ lo1 = lo ∧ la1 = la))) (some (.int bv)) H0 ∧ xset G o1 (.inl (ty 3, 1, .inr (.inl (vp_updL f1 0 bv.toInt64)))) H0 H1) ∨ (v = some (.int (nI 1)) ∧ (fun (E : String) (H1 : Heap) => (E = "java/lang/IndexOutOfBoundsException" ∧ ¬ (vp_in b nb ∧ vp_in x (R - 1)) ∧ xext H H1) ∨ (E = "java/lang/IllegalStateException" ∧ (vp_in b nb ∧ vp_in x (R - 1)) ∧ (un x.toNatClampNeg = 0 ∨ ¬ lo x.toNatClampNeg = (-1)) ∧ xext H H1)) "java/lang/IndexOutOfBoundsException" H1) ∨ (v = some (.int (nI 2)) ∧ (fun (E : String) (H1 : Heap) => (E = "java/lang/IndexOutOfBoundsException" ∧ ¬ (vp_in b nb ∧ vp_in x (R - 1)) ∧ xext H H1) ∨ (E = "java/lang/IllegalStateException" ∧ (vp_in b nb ∧ vp_in x (R - 1)) ∧ (un x.toNatClampNeg = 0 ∨ ¬ lo x.toNatClampNeg = (-1)) ∧ xext H H1)) "java/lang/IllegalStateException" H1)) v H1) :
    ∃ t : Int32, v = some (.int t) ∧ xRef G ty m0 A th F R pl un2 co dr bu nb wi hi fc fa lo2 la2 px py pz H1 ∧ ∀ (v2 : Option Value) (H2 : Heap), (fun (v : Option Value) (H2 : Heap) => ∃ (T : Int32) (lo1 la1 : Nat → Int32), xRef G ty m0 A T F R pl un2 co dr bu nb wi hi fc fa lo1 la1 px py pz H2 ∧ xRfr m0 A H1 H2 ∧ ∃ z : Int32, v = some (.int z) ∧ ((T = nI 0 ∧ (vp_in b nb ∧ vp_in x (R - 1)) ∧ ¬ un2 x.toNatClampNeg = 0 ∧ lo2 x.toNatClampNeg = (-1) ∧ ((xgt (pExt co F x.toNatClampNeg 1) (hi b.toNatClampNeg) = true ∧ z = (-1) ∧ lo1 = lo2 ∧ la1 = la2) ∨ (xgt (pExt co F x.toNatClampNeg 1) (hi b.toNatClampNeg) = false ∧ ∃ k : Nat, (∀ j : Nat, j < k → xle (FP.dadd (pEi j) (pExt co F x.toNatClampNeg 0)) (wi b.toNatClampNeg) = true ∧ ¬ pOpen fa lo2 la2 co F R b.toNatClampNeg (nf b.toNatClampNeg) (pEi j) (pExt co F x.toNatClampNeg 0) (pExt co F x.toNatClampNeg 1)) ∧ ((xle (FP.dadd (pEi k) (pExt co F x.toNatClampNeg 0)) (wi b.toNatClampNeg) = true ∧ pOpen fa lo2 la2 co F R b.toNatClampNeg (nf b.toNatClampNeg) (pEi k) (pExt co F x.toNatClampNeg 0) (pExt co F x.toNatClampNeg 1) ∧ k ≤ 8001 ∧ z = nI k ∧ lo1 = upd lo2 x.toNatClampNeg (nI b.toNatClampNeg) ∧ la1 = upd la2 x.toNatClampNeg (nI k)) ∨ (xle (FP.dadd (pEi k) (pExt co F x.toNatClampNeg 0)) (wi b.toNatClampNeg) = false ∧ z = (-1) ∧ lo1 = lo2 ∧ la1 = la2))))) ∨ (T = nI 1 ∧ ¬ (vp_in b nb ∧ vp_in x (R - 1)) ∧ lo1 = lo2 ∧ la1 = la2) ∨ (T = nI 2 ∧ (vp_in b nb ∧ vp_in x (R - 1)) ∧ (un2 x.toNatClampNeg = 0 ∨ ¬ lo2 x.toNatClampNeg = (-1)) ∧ lo1 = lo2 ∧ la1 = la2))) v2 H2 → ∃ (z : Int32) (g1 : Nat → Int64) (g2 : Nat → UInt64), v2 = some (.int z) ∧ xJ G ty b0 F R m0 A o1 o2 (ad 0) t g1 g2 H2 ∧ (t = nI 0 → g1 0 = z.toInt64) := by
  obtain ⟨⟨zF2, zF8⟩, ⟨zR2, zR8⟩⟩ := id hT.1.1
  have hn4 := hT.1.2.1
  rcases hp with ⟨rfl, bv, H0, hp, hs⟩ | ⟨rfl, hp⟩ | ⟨rfl, hp⟩
  · obtain ⟨hin, hu, hl, bx1, lo1, la1, hX1, hB, hc⟩ := hp
    obtain ⟨hT1, hY1⟩ := keepL hO hT hY hT.1 hX1 same_U hs
    refine ⟨_, rfl, hY1, fun v2 H2 hq => ?_⟩
    obtain ⟨T, lo3, la3, hY2, hf2, z, rfl, hq⟩ := hq
    rcases hq with ⟨rfl, -, -, -, hr⟩ | ⟨-, hn, -⟩ | ⟨-, -, hn, -⟩
    · obtain ⟨hv, hR2⟩ := nest_same hR zF2 hn4 (in_lt hin.1) (in_lt hin.2) hu hl hB hc hr
      cases hv
      exact ⟨_, _, _, rfl, xJ.mk rfl (hT1.kpR hO hf2) hY2 hR2, fun _ => by rw [lupd0]⟩
    · exact absurd hin hn
    · rcases hn with hn | hn
      · exact absurd ((hR.u hin.2).mp hn) hu
      · rw [(hR.2.1 _ (in_lt hin.2)).2.1] at hn; exact absurd hl hn
  · obtain ⟨hn, hx⟩ := exc_1 hp
    obtain ⟨hT1, hY1⟩ := keepX hT hY hx
    refine ⟨_, rfl, hY1, fun v2 H2 hq => ?_⟩
    obtain ⟨T, lo3, la3, hY2, hf2, z, rfl, hq⟩ := hq
    rcases hq with ⟨-, hin, -⟩ | ⟨rfl, -, rfl, rfl⟩ | ⟨-, hin, -⟩
    · exact absurd hin hn
    · exact ⟨_, _, _, rfl, xJ.mk rfl (hT1.kpR hO hf2) hY2 hR, fun e => absurd e (by decide)⟩
    · exact absurd hin hn
  · obtain ⟨hin, hn, hx⟩ := exc_2 hp
    obtain ⟨hT1, hY1⟩ := keepX hT hY hx
    refine ⟨_, rfl, hY1, fun v2 H2 hq => ?_⟩
    obtain ⟨T, lo3, la3, hY2, hf2, z, rfl, hq⟩ := hq
    rcases hq with ⟨-, -, hu, hl, -⟩ | ⟨-, hn2, -⟩ | ⟨rfl, -, -, rfl, rfl⟩
    · rcases hn with hn | hn
      · exact absurd ((hR.u hin.2).mpr hn) hu
      · rw [(hR.2.1 _ (in_lt hin.2)).2.1] at hl; exact absurd hl hn
    · exact absurd hin hn2
    · exact ⟨_, _, _, rfl, xJ.mk rfl (hT1.kpR hO hf2) hY2 hR, fun e => absurd e (by decide)⟩
end Ops
