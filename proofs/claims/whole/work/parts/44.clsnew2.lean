/-! THE CLASS: a new object's cells, by their places. -/
def xad (q0 B F R : Nat) : Nat → Nat := fun c => if c = 0 then q0 else if c = 1 then B else if c = 2 then B + xof F R else if c < 6 then B + (xof F R + 1 + 5 * (R - 1)) + (c - 3) else if c < 20 then B + xof F (c - 10) else if c < 30 then B + xof F (c - 20) + 1 else if c < 100 then B + (xof F R + 1 + 5 * (c % 10)) + (c / 10 - 3) else B + xof F ((c - 100) / 8) + 1 + 1 + (c - 100) % 8
section Xad
variable {q0 B F R : Nat}
theorem xad_0 : xad q0 B F R 0 = q0 := by unfold xad; exact if_pos rfl
theorem xad_1 : xad q0 B F R 1 = B := by unfold xad; rw [if_neg (by decide), if_pos rfl]
theorem xad_2 : xad q0 B F R 2 = B + xof F R := by unfold xad; rw [if_neg (by decide), if_neg (by decide), if_pos rfl]
theorem xad_3 {m : Nat} (h : m < 3) : xad q0 B F R (3 + m) = B + (xof F R + 1 + 5 * (R - 1)) + m := by unfold xad; rw [if_neg (by omega), if_neg (by omega), if_neg (by omega), if_pos (by omega), show 3 + m - 3 = m by omega]
theorem xad_row {r : Nat} (h : r < 8) : xad q0 B F R (10 + r) = B + xof F r := by unfold xad; rw [if_neg (by omega), if_neg (by omega), if_neg (by omega), if_neg (by omega), if_pos (by omega), show 10 + r - 10 = r by omega]
theorem xad_parr {r : Nat} (h : r < 8) : xad q0 B F R (20 + r) = B + xof F r + 1 := by unfold xad; rw [if_neg (by omega), if_neg (by omega), if_neg (by omega), if_neg (by omega), if_neg (by omega), if_pos (by omega), show 20 + r - 20 = r by omega]
theorem xad_st {i m : Nat} (h : i < 8) (hm : m < 5) : xad q0 B F R (30 + 10 * m + i) = B + (xof F R + 1 + 5 * i) + m := by
  unfold xad
  rw [if_neg (by omega), if_neg (by omega), if_neg (by omega), if_neg (by omega), if_neg (by omega), if_neg (by omega), if_pos (by omega), show (30 + 10 * m + i) % 10 = i by omega, show (30 + 10 * m + i) / 10 - 3 = m by omega]
theorem xad_place {r f : Nat} (h : f < 8) : xad q0 B F R (100 + 8 * r + f) = B + xof F r + 1 + 1 + f := by
  unfold xad
  rw [if_neg (by omega), if_neg (by omega), if_neg (by omega), if_neg (by omega), if_neg (by omega), if_neg (by omega), if_neg (by omega), show (100 + 8 * r + f - 100) / 8 = r by omega, show (100 + 8 * r + f - 100) % 8 = f by omega]
/-- which code lies where -/
def xcA (r p : Nat) : Nat := if p = 0 then 10 + r else if p = 1 then 20 + r else 100 + 8 * r + (p - 2)
def xcB (R n : Nat) : Nat := if n = 0 then 2 else if n < 1 + 5 * (R - 1) then 30 + 10 * ((n - 1) % 5) + (n - 1) / 5 else 3 + (n - (1 + 5 * (R - 1)))
theorem xad_cls (hF : F ≤ 8) (hR : R ≤ 8) {nf : Nat → Nat} {k : Nat} (h : xU F R 0 nf k) : (k = 0 ∧ xad q0 B F R k = q0) ∨ (k = 1 ∧ xad q0 B F R k = B) ∨ (∃ r p : Nat, r < R ∧ p < F + 2 ∧ xad q0 B F R k = B + xof F r + p ∧ k = xcA r p) ∨ ∃ n : Nat, n < 1 + 5 * (R - 1) + 3 ∧ xad q0 B F R k = B + xof F R + n ∧ k = xcB R n := by
  rcases h with hk | ⟨rfl, hk⟩ | ⟨r, z, rfl | rfl⟩ | ⟨r, z, f, y, rfl⟩ | ⟨i, z, rfl | rfl | rfl | rfl | rfl⟩ | ⟨b, z, -⟩ | ⟨b, z, -⟩
  · rcases (show k = 0 ∨ k = 1 ∨ k = 2 ∨ k = 3 ∨ k = 4 ∨ k = 5 by omega) with rfl | rfl | rfl | rfl | rfl | rfl
    · exact Or.inl ⟨rfl, xad_0⟩
    · exact Or.inr (Or.inl ⟨rfl, xad_1⟩)
    · exact Or.inr (Or.inr (Or.inr ⟨0, by omega, xad_2, rfl⟩))
    · refine Or.inr (Or.inr (Or.inr ⟨1 + 5 * (R - 1) + 0, by omega, ?_, ?_⟩))
      · rw [show (3 : Nat) = 3 + 0 from rfl, xad_3 (by decide)]; omega
      · unfold xcB; rw [if_neg (by omega), if_neg (by omega)]; omega
    · refine Or.inr (Or.inr (Or.inr ⟨1 + 5 * (R - 1) + 1, by omega, ?_, ?_⟩))
      · rw [show (4 : Nat) = 3 + 1 from rfl, xad_3 (by decide)]; omega
      · unfold xcB; rw [if_neg (by omega), if_neg (by omega)]; omega
    · refine Or.inr (Or.inr (Or.inr ⟨1 + 5 * (R - 1) + 2, by omega, ?_, ?_⟩))
      · rw [show (5 : Nat) = 3 + 2 from rfl, xad_3 (by decide)]; omega
      · unfold xcB; rw [if_neg (by omega), if_neg (by omega)]; omega
  · exact absurd hk (Nat.not_lt_zero _)
  · exact Or.inr (Or.inr (Or.inl ⟨r, 0, z, by omega, xad_row (by omega), rfl⟩))
  · exact Or.inr (Or.inr (Or.inl ⟨r, 1, z, by omega, xad_parr (by omega), rfl⟩))
  · refine Or.inr (Or.inr (Or.inl ⟨r, 2 + f, z, by omega, ?_, ?_⟩))
    · rw [xad_place (by omega)]; omega
    · unfold xcA; rw [if_neg (by omega), if_neg (by omega)]; omega
  · refine Or.inr (Or.inr (Or.inr ⟨1 + 5 * i + 0, by omega, ?_, ?_⟩))
    · have e := xad_st (q0 := q0) (B := B) (F := F) (R := R) (i := i) (m := 0) (by omega) (by decide)
      rw [show 30 + i = 30 + 10 * 0 + i by omega, e]; omega
    · unfold xcB; rw [if_neg (by omega), if_pos (by omega)]; omega
  · refine Or.inr (Or.inr (Or.inr ⟨1 + 5 * i + 1, by omega, ?_, ?_⟩))
    · have e := xad_st (q0 := q0) (B := B) (F := F) (R := R) (i := i) (m := 1) (by omega) (by decide)
      rw [show 40 + i = 30 + 10 * 1 + i by omega, e]; omega
    · unfold xcB; rw [if_neg (by omega), if_pos (by omega)]; omega
  · refine Or.inr (Or.inr (Or.inr ⟨1 + 5 * i + 2, by omega, ?_, ?_⟩))
    · have e := xad_st (q0 := q0) (B := B) (F := F) (R := R) (i := i) (m := 2) (by omega) (by decide)
      rw [show 50 + i = 30 + 10 * 2 + i by omega, e]; omega
    · unfold xcB; rw [if_neg (by omega), if_pos (by omega)]; omega
  · refine Or.inr (Or.inr (Or.inr ⟨1 + 5 * i + 3, by omega, ?_, ?_⟩))
    · have e := xad_st (q0 := q0) (B := B) (F := F) (R := R) (i := i) (m := 3) (by omega) (by decide)
      rw [show 60 + i = 30 + 10 * 3 + i by omega, e]; omega
    · unfold xcB; rw [if_neg (by omega), if_pos (by omega)]; omega
  · refine Or.inr (Or.inr (Or.inr ⟨1 + 5 * i + 4, by omega, ?_, ?_⟩))
    · have e := xad_st (q0 := q0) (B := B) (F := F) (R := R) (i := i) (m := 4) (by omega) (by decide)
      rw [show 70 + i = 30 + 10 * 4 + i by omega, e]; omega
    · unfold xcB; rw [if_neg (by omega), if_pos (by omega)]; omega
  · exact absurd z (Nat.not_lt_zero _)
  · exact absurd z (Nat.not_lt_zero _)
theorem xad_wf (hF2 : 2 ≤ F) (hF : F ≤ 8) (hR2 : 2 ≤ R) (hR : R ≤ 8) {nf : Nat → Nat} {b0 : Nat} (hq0 : b0 ≤ q0) (hq : q0 < B) : xWf F R 0 nf (xad q0 B F R) b0 := by
  refine ⟨⟨⟨hF2, hF⟩, hR2, hR⟩, by decide, fun b h => absurd h (Nat.not_lt_zero _), fun k hk => ?_, fun k j hk hj e => ?_⟩
  · rcases xad_cls (q0 := q0) (B := B) hF hR hk with ⟨-, e⟩ | ⟨-, e⟩ | ⟨r, p, -, -, e, -⟩ | ⟨n, -, e, -⟩ <;> omega
  · have hx := xof_pos (F := F) R
    rcases xad_cls (q0 := q0) (B := B) hF hR hk with ⟨k0, e1⟩ | ⟨k0, e1⟩ | ⟨r, p, hr, hp, e1, k0⟩ | ⟨n, hn, e1, k0⟩ <;> rcases xad_cls (q0 := q0) (B := B) hF hR hj with ⟨j0, e2⟩ | ⟨j0, e2⟩ | ⟨r', p', hr', hp', e2, j0⟩ | ⟨n', hn', e2, j0⟩
    · omega
    · omega
    · omega
    · omega
    · omega
    · omega
    · have := xof_pos (F := F) r'; omega
    · omega
    · omega
    · have := xof_pos (F := F) r; omega
    · have hrr : r = r' := by
        rcases Nat.lt_trichotomy r r' with h | h | h
        · have := xof_lt (F := F) h; omega
        · exact h
        · have := xof_lt (F := F) h; omega
      subst hrr
      have : p = p' := by omega
      subst this
      rw [k0, j0]
    · have := xof_lt (F := F) hr; omega
    · omega
    · omega
    · have := xof_lt (F := F) hr'; omega
    · have : n = n' := by omega
      subst this
      rw [k0, j0]
end Xad
set_option maxHeartbeats 4000000 in
/-- a new object, as the class's cells -/
theorem c_X6_new {l : Launch} {G : va_G} {ty : Nat → ClassId} {b0 : Nat} {H : Heap} {q0 F R : Nat} {f r : Int32} (hF : xCl f = F) (hR : xCl r = R) (hq0 : b0 ≤ q0) (hc0 : xc G q0 (.inr (7, [.int (nI 0), .null, .null, .null, .null, .null])) H) : xMet l yX6_init wsX6_init rm_X6_init G ty b0 [.ref q0, .int (f), .int (r)] H (fun v H1 => v = none ∧ xWf F R 0 (fun _ => 0) (xad q0 H.size F R) b0 ∧ xCla G ty (xad q0 H.size F R) F R (fun _ => FP.dconst0) (fun _ => nI 0) (fun _ _ => FP.dconst0) (fun _ _ => FP.dconst0) (fun _ => nI 0) 0 (fun _ => FP.dconst0) (fun _ => FP.dconst0) (fun _ => 0) (fun _ => FP.dconst0) (fun _ => -1) (fun _ => -1) (fun _ _ => FP.dconst0) H H1 ∧ xOld q0 H H1) (fun _ _ => False) := by
  refine (c_X6_init hF hR hq0 hc0).imp (fun v H1 h => ?_) (fun _ _ h => h)
  obtain ⟨rfl, h_o, h_r, h_s, hrw, hst, h_l, h_n, h_f, hsz, hold⟩ := h
  have hF2 := (xCl_sz f).1
  have hF8 := (xCl_sz f).2
  have hR2 := (xCl_sz r).1
  have hR8 := (xCl_sz r).2
  rw [hF] at hF2 hF8
  rw [hR] at hR2 hR8
  have a3 : xad q0 H.size F R 3 = H.size + (xof F R + 1 + 5 * (R - 1)) := xad_3 (m := 0) (by decide)
  have a4 : xad q0 H.size F R 4 = H.size + (xof F R + 1 + 5 * (R - 1) + 1) := xad_3 (m := 1) (by decide)
  have a5 : xad q0 H.size F R 5 = H.size + (xof F R + 1 + 5 * (R - 1) + 1 + 1) := xad_3 (m := 2) (by decide)
  have s0 : ∀ i : Nat, i < R - 1 → xad q0 H.size F R (30 + i) = H.size + (xof F R + 1 + 5 * i) := fun i hi => xad_st (m := 0) (by omega) (by decide)
  have s1 : ∀ i : Nat, i < R - 1 → xad q0 H.size F R (40 + i) = H.size + (xof F R + 1 + 5 * i) + 1 := fun i hi => xad_st (m := 1) (by omega) (by decide)
  have s2 : ∀ i : Nat, i < R - 1 → xad q0 H.size F R (50 + i) = H.size + (xof F R + 1 + 5 * i) + 2 := fun i hi => xad_st (m := 2) (by omega) (by decide)
  have s3 : ∀ i : Nat, i < R - 1 → xad q0 H.size F R (60 + i) = H.size + (xof F R + 1 + 5 * i) + 3 := fun i hi => xad_st (m := 3) (by omega) (by decide)
  have s4 : ∀ i : Nat, i < R - 1 → xad q0 H.size F R (70 + i) = H.size + (xof F R + 1 + 5 * i) + 4 := fun i hi => xad_st (m := 4) (by omega) (by decide)
  refine ⟨rfl, xad_wf hF2 hF8 hR2 hR8 hq0 hc0.lt, ⟨?_, ?_, ?_, ?_, ?_, fun r hr => ?_, fun r hr => ?_, fun r hr f hf => ?_, fun i hi => ?_, fun i hi => ?_, fun i hi => ?_, fun i hi => ?_, fun i hi => ?_, ?_, fun b h => absurd h (Nat.not_lt_zero _), fun b h => absurd h (Nat.not_lt_zero _), fun b h => absurd h (Nat.not_lt_zero _), by omega, fun q hq hne => ?_⟩, hold⟩
  · rw [xad_0, xad_1, xad_2, a3, a4, a5]; exact h_o
  · rw [xad_1]; exact xc_fq h_r (fun j hj => by rw [xad_row (by omega)])
  · rw [xad_2]; exact xc_fq h_s (fun j hj => by rw [s0 j hj])
  · rw [a4]; exact ⟨_, _, _, h_n⟩
  · rw [a5]; exact ⟨_, _, _, h_f⟩
  · rw [xad_row (by omega), xad_parr (by omega)]; exact (hrw r hr).1
  · rw [xad_parr (by omega)]; exact xc_fq (hrw r hr).2.1 (fun j hj => by rw [xad_place (by omega)])
  · rw [xad_place (by omega)]; exact (hrw r hr).2.2 f hf
  · rw [s0 i hi, s1 i hi, s2 i hi, s3 i hi, s4 i hi, xad_row (by omega), xad_row (by omega)]; exact (hst i hi).1
  · rw [s1 i hi]; exact (hst i hi).2.1
  · rw [s2 i hi]; exact (hst i hi).2.2.1
  · rw [s3 i hi]; exact (hst i hi).2.2.2.1
  · rw [s4 i hi]; exact (hst i hi).2.2.2.2
  · rw [a3]
    refine ⟨nI 0, ?_, fun z => absurd z (Nat.not_lt_zero _)⟩
    rw [if_pos rfl]; exact h_l
  · exact hold.2 q hq (by have := hne 0 (xU_6 (by decide)); rw [xad_0] at this; exact this)
