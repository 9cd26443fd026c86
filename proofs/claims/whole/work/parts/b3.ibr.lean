/-! a new bridge: the invariant -/
section IBR
variable {s ν ρ ρ' : mm_T} {f : Int → Int} {b c i k l t u v w x y z : Int}
/-- depths with a new bridge -/
def bd_f (ρ : mm_T) (f : Int → Int) (b u : Int) : Int := if u = ρ 0 1 then f b + 1 else f u
theorem f_0 (hT : tr_I ρ f) (hb : 0 ≤ b ∧ b < ρ 0 1) : 0 ≤ f b ∧ f b ≤ 4 := by
  by_cases h : b = 0
  · rw [h, hT.1]; omega
  · have := hT.2.1 b (by omega) hb.2
    omega
theorem cnt_f (hB : mo_B ρ) (hT : tr_I ρ f) : ∀ (n : Nat) (b : Int), 0 ≤ b → b < ρ 0 1 → b ≤ n → mo_cnt ρ n (ρ 3 b) = f b
  | 0, b, h0, h1, h2 => by
    have b1 := hB.1
    have := hB.ov b h0 (by omega)
    rw [show b = 0 by omega, hT.1]
    rfl
  | n + 1, b, h0, h1, h2 => by
    have b1 := hB.1
    have hov := hB.ov b h0 (by omega)
    unfold mo_cnt
    by_cases hb : b = 0
    · rw [if_pos (by omega), hb, hT.1]
    · have h := hT.2.1 b (by omega) h1
      rw [if_neg (by omega), cnt_f hB hT n (ρ 3 b) (by omega) (by omega) (by omega), h.2.2.1]
      omega
theorem br_0 (hi : i ≠ 0 ∧ i ≠ 1) : mo_br ρ b x l 0 i = ρ 0 i := by
  unfold mo_br
  rw [mm_u_ne (by omega), mm_u_ne (by omega), mm_u_ne (by omega), mm_u_ne (by omega)]
  exact mm_u_ne (by omega)
theorem br_1 : mo_br ρ b x l 0 1 = ρ 0 1 + 1 := mm_u_at
theorem br_2 : mo_br ρ b x l 2 i = if i = 4 * b + x then ρ 0 1 else ρ 2 i := by
  unfold mo_br
  rw [mm_u_ne (by omega), mm_u_ne (by omega), mm_u_ne (by omega)]
  by_cases h : i = 4 * b + x
  · rw [if_pos h, h, mm_u_at]
  · rw [if_neg h, mm_u_ne (by omega)]
    exact mm_u_ne (by omega)
theorem br_3 : mo_br ρ b x l 3 i = if i = ρ 0 1 then b else ρ 3 i := by
  unfold mo_br
  rw [mm_u_ne (by omega), mm_u_ne (by omega)]
  by_cases h : i = ρ 0 1
  · rw [if_pos h, h, mm_u_at]
  · rw [if_neg h, mm_u_ne (by omega), mm_u_ne (by omega)]
    exact mm_u_ne (by omega)
theorem br_4 : mo_br ρ b x l 4 i = if i = ρ 0 1 then l else ρ 4 i := by
  unfold mo_br
  rw [mm_u_ne (by omega)]
  by_cases h : i = ρ 0 1
  · rw [if_pos h, h, mm_u_at]
  · rw [if_neg h, mm_u_ne (by omega), mm_u_ne (by omega), mm_u_ne (by omega)]
    exact mm_u_ne (by omega)
theorem br_p {p : Int} (hp : p ≠ 0 ∧ p ≠ 2 ∧ p ≠ 3 ∧ p ≠ 4) : mo_br ρ b x l p = ρ p := by
  funext i
  unfold mo_br
  rw [mm_u_ne (by omega), mm_u_ne (by omega), mm_u_ne (by omega), mm_u_ne (by omega)]
  exact mm_u_ne (by omega)
theorem iv_br (hI : iv_I ρ f) (hb : 0 ≤ b ∧ b < ρ 0 1) (hx : 0 ≤ x ∧ x ≤ 3) (hl : 0 ≤ l ∧ l ≤ 1000) (h1 : ρ 2 (4 * b + x) = -1) (h2 : ρ 0 1 ≠ 8) (h3 : f b ≠ 4) (h4 : ρ 0 21 < 0) : iv_I (mo_br ρ b x l) (bd_f ρ f b) := by
  have hB : mo_B (mo_br ρ b x l) := mo_B_br hI.1.1 hb hl h2
  have e0 : ∀ i, i ≠ 0 → i ≠ 1 → mo_br ρ b x l 0 i = ρ 0 i := fun i h1 h2 => br_0 ⟨h1, h2⟩
  have e1 : mo_br ρ b x l 0 1 = ρ 0 1 + 1 := br_1
  have e2 : ∀ i, mo_br ρ b x l 2 i = if i = 4 * b + x then ρ 0 1 else ρ 2 i := fun i => br_2
  have e3 : ∀ i, mo_br ρ b x l 3 i = if i = ρ 0 1 then b else ρ 3 i := fun i => br_3
  have er : ∀ p, p ≠ 0 → p ≠ 2 → p ≠ 3 → p ≠ 4 → mo_br ρ b x l p = ρ p := fun p h1 h2 h3 h4 => br_p ⟨h1, h2, h3, h4⟩
  obtain ⟨hA, hU, h8, hD, hW, hO, hRg, hP, hN, hZ, hX⟩ := hI
  generalize mo_br ρ b x l = ρ' at *
  have b1 := hA.1.1
  have b8 := hA.1.2.1
  have b12 := hA.1.2.2.1
  have hT := hA.2.2.1
  have fb := f_0 hT hb
  have r5 := er 5 (by omega) (by omega) (by omega) (by omega)
  have r6 := er 6 (by omega) (by omega) (by omega) (by omega)
  have r9 := er 9 (by omega) (by omega) (by omega) (by omega)
  have r13 := er 13 (by omega) (by omega) (by omega) (by omega)
  have r14 := er 14 (by omega) (by omega) (by omega) (by omega)
  have r15 := er 15 (by omega) (by omega) (by omega) (by omega)
  have r17 := er 17 (by omega) (by omega) (by omega) (by omega)
  have q8 := e0 8 (by omega) (by omega)
  have q12 := e0 12 (by omega) (by omega)
  have q21 := e0 21 (by omega) (by omega)
  have q24 := e0 24 (by omega) (by omega)
  have ew : mo_wt ρ' = mo_wt ρ := by funext c; exact mo_wt_c q24 (er 25 (by omega) (by omega) (by omega) (by omega)) (er 28 (by omega) (by omega) (by omega) (by omega)) c
  have z56 := hZ.2.1 (ρ 0 1) (by omega) (by omega)
  have hsl : ∀ i, 0 ≤ i → i < 32 → -1 ≤ ρ 2 i ∧ (ρ 2 i < 100 → ρ 2 i < ρ 0 1) := fun i i0 i1 => by
    have g := hA.1.2.2.2.2.2.2.2.1 i i0 i1
    refine ⟨g.1, fun h => ?_⟩
    by_cases h0 : 0 ≤ ρ 2 i
    · exact (hT.2.2 i i0 i1 h0 h).2.1
    · omega
  have elo : ∀ i k, iv_lo ρ' i k = if i = 4 * b + x then 0 else iv_lo ρ i k := fun i k => by
    unfold iv_lo
    rw [e2, r17, r5]
    by_cases h : i = 4 * b + x
    · rw [if_pos h, if_pos h, if_neg (by omega)]
      split
      · exact z56.1
      · rfl
    · rw [if_neg h, if_neg h]
  have ehi : ∀ i k, iv_hi ρ' i k = if i = 4 * b + x then 0 else iv_hi ρ i k := fun i k => by
    unfold iv_hi
    rw [e2, r17, r6, r9, r13]
    by_cases h : i = 4 * b + x
    · rw [if_pos h, if_pos h, if_neg (by omega)]
      split
      · exact z56.2
      · rfl
    · rw [if_neg h, if_neg h]
  refine ⟨⟨hB, ⟨fun i i0 i1 => ?_, by rw [r5, r6]; exact hA.2.1.2.1, by rw [r17, r9, r13]; exact hA.2.1.2.2⟩, ⟨?_, fun u u0 u1 => ?_, fun i i0 i1 g1 g2 => ?_⟩, by unfold mo_p2s; rw [r9]; exact hA.2.2.2.1, by rw [er 11 (by omega) (by omega) (by omega) (by omega)]; exact hA.2.2.2.2.1, fun c c0 c1 => ?_, fun i i0 i1 g1 => ?_⟩, ?_, by unfold iv_8; rw [q12, ew]; exact h8, ?_, ?_, by unfold iv_O; rw [r5, r6]; exact hO, by unfold iv_R; rw [q12, r9, r13, r15, r17]; exact hRg, by unfold iv_P; rw [q12, r15, er 19 (by omega) (by omega) (by omega) (by omega), ew]; exact hP, ⟨fun h => ?_, by rw [q12, q21, r15]; exact hN.2.1, fun c c0 c1 hs => ?_, fun u u0 u1 => ?_⟩, ⟨fun i i0 i1 => ?_, fun u u0 u1 => ?_, ?_, ?_, ?_⟩, fun h => ?_⟩
  · rw [e2]
    split
    · omega
    · exact hA.2.1.1 i i0 i1
  · unfold bd_f
    rw [if_neg (by omega)]
    exact hT.1
  · rw [e1] at u1
    rw [e3]
    unfold bd_f
    by_cases hu : u = ρ 0 1
    · rw [if_pos hu, if_pos hu, if_neg (by omega)]
      omega
    · have h := hT.2.1 u u0 (by omega)
      rw [if_neg hu, if_neg hu, if_neg (by omega)]
      exact h
  · rw [e1]
    rw [e2] at g1 g2 ⊢
    rw [e3]
    by_cases hi : i = 4 * b + x
    · rw [if_pos hi, if_pos rfl]
      omega
    · rw [if_neg hi] at g1 g2 ⊢
      have h := hT.2.2 i i0 i1 g1 g2
      rw [if_neg (by omega)]
      omega
  · rw [q12] at c1
    rw [r14, r13, e1, q8]
    have := hA.2.2.2.2.2.1 c c0 c1
    omega
  · rw [e2] at g1 ⊢
    by_cases hi : i = 4 * b + x
    · rw [if_pos hi] at g1; omega
    · rw [if_neg hi] at g1 ⊢
      rw [q12, r14, r15]
      exact hA.2.2.2.2.2.2 i i0 i1 g1
  · intro i j i0 i1 j0 j1 g1 g2
    rw [e2] at g1 g2
    rw [e2] at g2
    have hi' := hsl i i0 i1
    have hj' := hsl j j0 j1
    by_cases hi : i = 4 * b + x
    · rw [if_pos hi] at g1 g2
      by_cases hj : j = 4 * b + x
      · omega
      · rw [if_neg hj] at g2
        omega
    · rw [if_neg hi] at g1 g2
      by_cases hj : j = 4 * b + x
      · rw [if_pos hj] at g2
        omega
      · rw [if_neg hj] at g2
        exact hU i j i0 i1 j0 j1 g1 g2
  · intro i j k l i0 i1 j0 j1 k0 k1 l0 l1 hb2 hne
    rw [elo, elo, ehi, ehi]
    by_cases hi : i = 4 * b + x
    · rw [if_pos hi, if_pos hi]
      intro h; omega
    · rw [if_neg hi, if_neg hi]
      by_cases hj : j = 4 * b + x
      · rw [if_pos hj, if_pos hj]
        intro _ h; omega
      · rw [if_neg hj, if_neg hj]
        exact hD i j k l i0 i1 j0 j1 k0 k1 l0 l1 hb2 hne
  · intro i k i0 i1 k0 k1
    rw [elo, ehi, r5, r6]
    by_cases hi : i = 4 * b + x
    · rw [if_pos hi, if_pos hi]
      intro h; omega
    · rw [if_neg hi, if_neg hi]
      exact hW i k i0 i1 k0 k1
  · rw [q21] at h; omega
  · rw [q12] at c1
    rw [r15] at hs
    obtain ⟨i, i0, i1, i2⟩ := hN.2.2.1 c c0 c1 hs
    have hi : i ≠ 4 * b + x := fun h => by rw [h] at i2; omega
    exact ⟨i, i0, i1, by rw [e2, if_neg hi]; exact i2⟩
  · rw [e1] at u1
    by_cases hu : u = ρ 0 1
    · exact ⟨4 * b + x, by omega, by omega, by rw [e2, if_pos rfl]; exact hu.symm⟩
    · obtain ⟨i, i0, i1, i2⟩ := hN.2.2.2 u u0 (by omega)
      have hi : i ≠ 4 * b + x := fun h => by rw [h] at i2; omega
      exact ⟨i, i0, i1, by rw [e2, if_neg hi]; exact i2⟩
  · rw [e1] at i0
    rw [e2, if_neg (by omega)]
    exact hZ.1 i (by omega) i1
  · rw [e1] at u0
    rw [r5, r6]
    exact hZ.2.1 u (by omega) u1
  · rw [q12, er 16 (by omega) (by omega) (by omega) (by omega), er 19 (by omega) (by omega) (by omega) (by omega), er 20 (by omega) (by omega) (by omega) (by omega)]
    exact hZ.2.2.1
  · rw [q24, q12, er 25 (by omega) (by omega) (by omega) (by omega)]
    exact hZ.2.2.2.1
  · rw [q12, r17]
    exact hZ.2.2.2.2
  · rw [q21] at h; omega
end IBR
