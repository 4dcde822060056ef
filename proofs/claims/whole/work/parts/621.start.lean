/-! THE WORLD AT THE LAW'S START, out of the tables and of what the start is given -/
section XStart
variable {s : State} {b : Nat}
theorem ks_cls (hts : ∀ w ∈ lw_tbl, w.before #[Value.ref b] s = true) : ∃ G : va_G, ∀ (c : Nat) (q : vw_C), vwCl[c]? = some q → u_Kn s q.1 q.2.1 q.2.2 (G.1 c) (G.2 c) := by
  obtain ⟨c0, i0, h0⟩ := u_known (C := RJx4a65c) (T := TJx4a65c) (N := 3) (n := 3) hts inJx4a65c (hts _ (by decide +kernel))
  obtain ⟨c1, i1, h1⟩ := u_known (C := RX0) (T := TX0) (N := 3) (n := 3) hts inX0 (hts _ (by decide +kernel))
  obtain ⟨c2, i2, h2⟩ := u_known (C := RX1) (T := TX1) (N := 4) (n := 4) hts inX1 (hts _ (by decide +kernel))
  obtain ⟨c3, i3, h3⟩ := u_known (C := RX2) (T := TX2) (N := 3) (n := 3) hts inX2 (hts _ (by decide +kernel))
  obtain ⟨c4, i4, h4⟩ := u_known (C := RX3) (T := TX3) (N := 3) (n := 3) hts inX3 (hts _ (by decide +kernel))
  obtain ⟨c5, i5, h5⟩ := u_known (C := RX4) (T := TX4) (N := 1) (n := 1) hts inX4 (hts _ (by decide +kernel))
  obtain ⟨c6, i6, h6⟩ := u_known (C := RX5) (T := TX5) (N := 9) (n := 9) hts inX5 (hts _ (by decide +kernel))
  obtain ⟨c7, i7, h7⟩ := u_known (C := RX6) (T := TX6) (N := 6) (n := 6) hts inX6 (hts _ (by decide +kernel))
  obtain ⟨c8, i8, h8⟩ := u_known (C := RX7) (T := TX7) (N := 18) (n := 18) hts inX7 (hts _ (by decide +kernel))
  refine ⟨(fun k => match k with | 0 => c0 | 1 => c1 | 2 => c2 | 3 => c3 | 4 => c4 | 5 => c5 | 6 => c6 | 7 => c7 | _ => c8, fun k => match k with | 0 => i0 | 1 => i1 | 2 => i2 | 3 => i3 | 4 => i4 | 5 => i5 | 6 => i6 | 7 => i7 | _ => i8), ?_⟩
  intro c q hq
  match c, hq with
  | 0, hq => cases hq; exact h0
  | 1, hq => cases hq; exact h1
  | 2, hq => cases hq; exact h2
  | 3, hq => cases hq; exact h3
  | 4, hq => cases hq; exact h4
  | 5, hq => cases hq; exact h5
  | 6, hq => cases hq; exact h6
  | 7, hq => cases hq; exact h7
  | 8, hq => cases hq; exact h8
  | k + 9, hq => simp at hq
theorem ks_dbl (hts : ∀ w ∈ lw_tbl, w.before #[Value.ref b] s = true) : ∃ cA, ArrOfT s cA .double ∧ va_RA s cA .double := by
  obtain ⟨c, k, comp, h1, h2, h3⟩ := Cond.arrayClass_spec (hts (.arrayClass .double) (by decide +kernel))
  exact ⟨c, fun n z => ⟨(fun k h => by cases h), k, h2, comp, h3⟩, h1⟩
theorem ks_int (hts : ∀ w ∈ lw_tbl, w.before #[Value.ref b] s = true) : ∃ cA, ArrOfT s cA .int ∧ va_RA s cA .int := by
  obtain ⟨c, k, comp, h1, h2, h3⟩ := Cond.arrayClass_spec (hts (.arrayClass .int) (by decide +kernel))
  exact ⟨c, fun n z => ⟨(fun k h => by cases h), k, h2, comp, h3⟩, h1⟩
theorem ks_bool (hts : ∀ w ∈ lw_tbl, w.before #[Value.ref b] s = true) : ∃ cA, ArrOfT s cA .boolean ∧ va_RA s cA .boolean := by
  obtain ⟨c, k, comp, h1, h2, h3⟩ := Cond.arrayClass_spec (hts (.arrayClass .boolean) (by decide +kernel))
  exact ⟨c, fun n z => ⟨(fun k h => by cases h), k, h2, comp, h3⟩, h1⟩
theorem ks_long (hts : ∀ w ∈ lw_tbl, w.before #[Value.ref b] s = true) : ∃ cA, ArrOfT s cA .long ∧ va_RA s cA .long := by
  obtain ⟨c, k, comp, h1, h2, h3⟩ := Cond.arrayClass_spec (hts (.arrayClass .long) (by decide +kernel))
  exact ⟨c, fun n z => ⟨(fun k h => by cases h), k, h2, comp, h3⟩, h1⟩
theorem ks_obj (C : String) (hin : Cond.arrayOver (.object C) ∈ lw_tbl) (hts : ∀ w ∈ lw_tbl, w.before #[Value.ref b] s = true) : ∃ cA, ArrOfT s cA (.object C) ∧ va_RA s cA (.object C) := by
  obtain ⟨comp, c, k, h1, h2, h3, h4, h5⟩ := Cond.arrayOver_spec (hts _ hin)
  exact ⟨c, fun n z => ⟨(fun k h => by cases h), k, h3, comp, h4⟩, k, comp, h3, h4, h1, h5⟩
theorem ks_text (k : Nat) (tx : String) (hin : Cond.stringRef RX6 k tx ∈ lw_tbl) (hi2 : Cond.exactly (.string RX6 k) "java/lang/String" ∈ flatC (Jvm.Cond.and given_1 narrow_1)) (hts : ∀ w ∈ lw_tbl, w.before #[Value.ref b] s = true) (hgv : (Jvm.Cond.and given_1 narrow_1).before #[Value.ref b] s = true) : ∃ a, vk_R RX6 k tx a s := by
  obtain ⟨a, c, cell, k9, h1, -⟩ := Cond.exactly_spec (flat_of_before _ hgv _ hi2)
  exact ⟨a, vk_R.of (hts _ hin) h1⟩
theorem ks_texts_in : ∀ q ∈ xTexts, Cond.stringRef RX6 q.1 q.2 ∈ lw_tbl := by decide +kernel
theorem ks_texts_ex : ∀ q ∈ xTexts, Cond.exactly (.string RX6 q.1) "java/lang/String" ∈ flatC (Jvm.Cond.and given_1 narrow_1) := by decide +kernel
theorem ks_nest_in : ∀ q ∈ xNest, Cond.methodLinkNest q.1 q.2.1 q.2.2 RX6 ∈ lw_tbl := by decide +kernel
theorem ks_face_in : ∀ w ∈ xFaceL, w ∈ lw_tbl := by decide +kernel
theorem ks_cast_in : ∀ C ∈ ["PlankUnroll$Board", "PlankUnroll$Box"], Cond.castable C "java/lang/Object" ∈ lw_tbl := by decide +kernel
theorem ks_over_in : ∀ C ∈ ["PlankUnroll$Place", "PlankUnroll$Row", "PlankUnroll$Strip", "java/lang/Object"], Cond.arrayOver (.object C) ∈ lw_tbl := by decide +kernel
theorem ks_nc_in : ∀ q ∈ xNcL, Cond.not (.castable q.1 q.2) ∈ flatC (Jvm.Cond.and given_1 narrow_1) := by decide +kernel
/-- THE WORLD AT THE START -/
theorem xK_start (hts : ∀ w ∈ lw_tbl, w.before #[Value.ref b] s = true) (hgv : (Jvm.Cond.and given_1 narrow_1).before #[Value.ref b] s = true) : ∃ (G : va_G) (ty : Nat → ClassId), xK G ty s.heap.size s := by
  have hA : ∀ a : Nat, a < s.heap.size → ¬ xA s.heap.size a := fun a h => Nat.not_le.mpr h
  have hfl := flat_of_before _ hgv
  obtain ⟨G, hG⟩ := ks_cls hts
  obtain ⟨t0, a0⟩ := ks_dbl hts
  obtain ⟨t1, a1⟩ := ks_int hts
  obtain ⟨t2, a2⟩ := ks_bool hts
  obtain ⟨t3, a3⟩ := ks_long hts
  obtain ⟨t4, a4⟩ := ks_obj "PlankUnroll$Place" (by decide +kernel) hts
  obtain ⟨t5, a5⟩ := ks_obj "PlankUnroll$Row" (by decide +kernel) hts
  obtain ⟨t6, a6⟩ := ks_obj "PlankUnroll$Strip" (by decide +kernel) hts
  obtain ⟨t7, a7⟩ := ks_obj "java/lang/Object" (by decide +kernel) hts
  have hlen : (Term.length (.static "java/util/ArrayList" "DEFAULTCAPACITY_EMPTY_ELEMENTDATA" "[Ljava/lang/Object;")).eval #[Value.ref b] s none [] s = some (.int (Int32.ofNat 0)) :=
    Cond.eq_int (n := Int32.ofNat 0) (hfl (.eq (.length (.static "java/util/ArrayList" "DEFAULTCAPACITY_EMPTY_ELEMENTDATA" "[Ljava/lang/Object;")) (.int 0)) (by decide +kernel)) rfl
  obtain ⟨t8, he8, hT8⟩ := va_Tof (f := fun _ => .null) (N := 0) (by decide) (hfl (.arrayOf (.static "java/util/ArrayList" "DEFAULTCAPACITY_EMPTY_ELEMENTDATA" "[Ljava/lang/Object;") (.object "java/lang/Object")) (by decide +kernel)) hlen (fun j hj => absurd hj (Nat.not_lt_zero _)) hA
  have hZ8 := va_Zof (hts (.laysStatic "java/util/ArrayList" "DEFAULTCAPACITY_EMPTY_ELEMENTDATA" "[Ljava/lang/Object;") (by decide +kernel)) (hts (.initialized "java/util/ArrayList") (by decide +kernel)) he8 hA
  refine ⟨G, (fun k => match k with | 0 => t0 | 1 => t1 | 2 => t2 | 3 => t3 | 4 => t4 | 5 => t5 | 6 => t6 | 7 => t7 | _ => t8), ⟨hG, ?_⟩, ?_, ?_, ?_, ?_, ?_, hZ8, hT8, Nat.not_le.mp hT8.out, ?_, ?_, ?_⟩
  · intro k q hk
    match k, hk with
    | 0, hk => cases hk; exact a0
    | 1, hk => cases hk; exact a1
    | 2, hk => cases hk; exact a2
    | 3, hk => cases hk; exact a3
    | 4, hk => cases hk; exact a4
    | 5, hk => cases hk; exact a5
    | 6, hk => cases hk; exact a6
    | 7, hk => cases hk; exact a7
    | k + 8, hk => simp at hk
  · exact vx_Zqof (hts _ (by decide +kernel)) (hts _ (by decide +kernel)) (hfl _ (by decide +kernel)) hA
  · exact vx_Zqof (hts _ (by decide +kernel)) (hts _ (by decide +kernel)) (hfl _ (by decide +kernel)) hA
  · exact fun q hq => va_Nw.of rfl (hts _ (ks_nest_in q hq))
  · exact fun q hq => ks_text q.1 q.2 (ks_texts_in q hq) (ks_texts_ex q hq) hts hgv
  · exact fun w hw => va_Nw.of (xFace_tabs w hw) (hts _ (ks_face_in w hw))
  · exact fun C hC => va_AO.of (hts _ (ks_over_in C hC))
  · exact fun C hC => va_Nw.of rfl (hts _ (ks_cast_in C hC))
  · exact fun q hq => va_Nc.of (hfl _ (ks_nc_in q hq))
end XStart
