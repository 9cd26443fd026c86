/-! a new card: the invariant -/
section IPG
variable {s ν ρ ρ' : mm_T} {f : Int → Int} {b c i k l t u v w x y z : Int}
theorem pg_0 (hi : i ≠ 0 ∧ i ≠ 12 ∧ i ≠ 21 ∧ i ≠ 22) : mo_pl ρ b x t 0 i = ρ 0 i := by
  unfold mo_pl
  rw [mm_u_ne (by omega), mm_u_ne (by omega), mm_u_ne (by omega), mm_u_ne (by omega), mm_u_ne (by omega), mm_u_ne (by omega), mm_u_ne (by omega), mm_u_ne (by omega), mm_u_ne (by omega), mm_u_ne (by omega)]
  exact mm_u_ne (by omega)
theorem pg_12 : mo_pl ρ b x t 0 12 = ρ 0 12 + 1 := mm_u_at
theorem pg_21 : mo_pl ρ b x t 0 21 = ρ 0 12 := by
  unfold mo_pl
  rw [mm_u_ne (by omega), mm_u_ne (by omega), mm_u_at]
theorem pg_22 : mo_pl ρ b x t 0 22 = 0 := by
  unfold mo_pl
  rw [mm_u_ne (by omega), mm_u_at]
theorem pg_2 : mo_pl ρ b x t 2 i = if i = 4 * b + x then 100 + ρ 0 12 else ρ 2 i := by
  unfold mo_pl
  rw [mm_u_ne (by omega), mm_u_ne (by omega), mm_u_ne (by omega), mm_u_ne (by omega), mm_u_ne (by omega), mm_u_ne (by omega), mm_u_ne (by omega), mm_u_ne (by omega), mm_u_ne (by omega)]
  by_cases h : i = 4 * b + x
  · rw [if_pos h, h, mm_u_at]
  · rw [if_neg h, mm_u_ne (by omega)]
    exact mm_u_ne (by omega)
theorem pg_13 : mo_pl ρ b x t 13 i = if i = ρ 0 12 then t else ρ 13 i := by
  unfold mo_pl
  rw [mm_u_ne (by omega), mm_u_ne (by omega), mm_u_ne (by omega), mm_u_ne (by omega), mm_u_ne (by omega), mm_u_ne (by omega), mm_u_ne (by omega), mm_u_ne (by omega)]
  by_cases h : i = ρ 0 12
  · rw [if_pos h, h, mm_u_at]
  · rw [if_neg h, mm_u_ne (by omega), mm_u_ne (by omega)]
    exact mm_u_ne (by omega)
theorem pg_14 : mo_pl ρ b x t 14 i = if i = ρ 0 12 then b else ρ 14 i := by
  unfold mo_pl
  rw [mm_u_ne (by omega), mm_u_ne (by omega), mm_u_ne (by omega), mm_u_ne (by omega), mm_u_ne (by omega), mm_u_ne (by omega), mm_u_ne (by omega)]
  by_cases h : i = ρ 0 12
  · rw [if_pos h, h, mm_u_at]
  · rw [if_neg h, mm_u_ne (by omega), mm_u_ne (by omega), mm_u_ne (by omega)]
    exact mm_u_ne (by omega)
theorem pg_15 : mo_pl ρ b x t 15 i = if i = ρ 0 12 then 0 else ρ 15 i := by
  unfold mo_pl
  rw [mm_u_ne (by omega), mm_u_ne (by omega), mm_u_ne (by omega), mm_u_ne (by omega), mm_u_ne (by omega), mm_u_ne (by omega)]
  by_cases h : i = ρ 0 12
  · rw [if_pos h, h, mm_u_at]
  · rw [if_neg h, mm_u_ne (by omega), mm_u_ne (by omega), mm_u_ne (by omega), mm_u_ne (by omega)]
    exact mm_u_ne (by omega)
theorem pg_17 : mo_pl ρ b x t 17 i = if 3 * ρ 0 12 ≤ i ∧ i < 3 * ρ 0 12 + 3 then -1 else ρ 17 i := by
  unfold mo_pl
  rw [mm_u_ne (by omega), mm_u_ne (by omega), mm_u_ne (by omega)]
  by_cases h2 : i = 3 * ρ 0 12 + 2
  · rw [if_pos (by omega), h2, mm_u_at]
  · rw [mm_u_ne (by omega)]
    by_cases h1 : i = 3 * ρ 0 12 + 1
    · rw [if_pos (by omega), h1, mm_u_at]
    · rw [mm_u_ne (by omega)]
      by_cases h0 : i = 3 * ρ 0 12 + 0
      · rw [if_pos (by omega), h0, mm_u_at]
      · rw [mm_u_ne (by omega), if_neg (by omega), mm_u_ne (by omega), mm_u_ne (by omega), mm_u_ne (by omega), mm_u_ne (by omega)]
        exact mm_u_ne (by omega)
theorem pg_p {p : Int} (hp : p ≠ 0 ∧ p ≠ 2 ∧ p ≠ 13 ∧ p ≠ 14 ∧ p ≠ 15 ∧ p ≠ 17) : mo_pl ρ b x t p = ρ p := by
  funext i
  unfold mo_pl
  rw [mm_u_ne (by omega), mm_u_ne (by omega), mm_u_ne (by omega), mm_u_ne (by omega), mm_u_ne (by omega), mm_u_ne (by omega), mm_u_ne (by omega), mm_u_ne (by omega), mm_u_ne (by omega), mm_u_ne (by omega)]
  exact mm_u_ne (by omega)
theorem wt_n (hZ : iv_Z ρ) (hc : ρ 0 12 ≤ c) : mo_wt ρ c = 0 := by
  refine sm_0 _ (fun i i0 i1 => ?_)
  have := hZ.2.2.2.1 i i0 (by omega)
  unfold mo_pd
  rw [if_neg (by omega)]
theorem iv_pg (hI : iv_I ρ f) (hb : 0 ≤ b ∧ b < ρ 0 1) (hx : 0 ≤ x ∧ x ≤ 3) (ht : 0 ≤ t ∧ t < ρ 0 8) (h1 : ρ 2 (4 * b + x) = -1) (h2 : ρ 0 12 ≠ 40) (h4 : ρ 0 21 < 0) : iv_I (mo_pl ρ b x t) f := by
  have hB : mo_B (mo_pl ρ b x t) := mo_B_pl hI.1.1 hb ht h2
  have e0 : ∀ i, i ≠ 0 → i ≠ 12 → i ≠ 21 → i ≠ 22 → mo_pl ρ b x t 0 i = ρ 0 i := fun i h1 h2 h3 h4 => pg_0 ⟨h1, h2, h3, h4⟩
  have e12 : mo_pl ρ b x t 0 12 = ρ 0 12 + 1 := pg_12
  have e21 : mo_pl ρ b x t 0 21 = ρ 0 12 := pg_21
  have e22 : mo_pl ρ b x t 0 22 = 0 := pg_22
  have e2 : ∀ i, mo_pl ρ b x t 2 i = if i = 4 * b + x then 100 + ρ 0 12 else ρ 2 i := fun i => pg_2
  have e13 : ∀ i, mo_pl ρ b x t 13 i = if i = ρ 0 12 then t else ρ 13 i := fun i => pg_13
  have e14 : ∀ i, mo_pl ρ b x t 14 i = if i = ρ 0 12 then b else ρ 14 i := fun i => pg_14
  have e15 : ∀ i, mo_pl ρ b x t 15 i = if i = ρ 0 12 then 0 else ρ 15 i := fun i => pg_15
  have e17 : ∀ i, mo_pl ρ b x t 17 i = if 3 * ρ 0 12 ≤ i ∧ i < 3 * ρ 0 12 + 3 then -1 else ρ 17 i := fun i => pg_17
  have er : ∀ p, p ≠ 0 → p ≠ 2 → p ≠ 13 → p ≠ 14 → p ≠ 15 → p ≠ 17 → mo_pl ρ b x t p = ρ p := fun p h1 h2 h3 h4 h5 h6 => pg_p ⟨h1, h2, h3, h4, h5, h6⟩
  obtain ⟨hA, hU, h8, hD, hW, hO, hRg, hP, hN, hZ, hX⟩ := hI
  generalize mo_pl ρ b x t = ρ' at *
  have b1 := hA.1.1
  have b8 := hA.1.2.1
  have b12 := hA.1.2.2.1
  have b24 := hA.1.2.2.2.2.2.1
  have hT := hA.2.2.1
  have r3 := er 3 (by omega) (by omega) (by omega) (by omega) (by omega) (by omega)
  have r5 := er 5 (by omega) (by omega) (by omega) (by omega) (by omega) (by omega)
  have r6 := er 6 (by omega) (by omega) (by omega) (by omega) (by omega) (by omega)
  have r9 := er 9 (by omega) (by omega) (by omega) (by omega) (by omega) (by omega)
  have r16 := er 16 (by omega) (by omega) (by omega) (by omega) (by omega) (by omega)
  have r19 := er 19 (by omega) (by omega) (by omega) (by omega) (by omega) (by omega)
  have r20 := er 20 (by omega) (by omega) (by omega) (by omega) (by omega) (by omega)
  have r25 := er 25 (by omega) (by omega) (by omega) (by omega) (by omega) (by omega)
  have q1 := e0 1 (by omega) (by omega) (by omega) (by omega)
  have q8 := e0 8 (by omega) (by omega) (by omega) (by omega)
  have q24 := e0 24 (by omega) (by omega) (by omega) (by omega)
  have ew : ∀ c, mo_wt ρ' c = mo_wt ρ c := fun c => mo_wt_c q24 r25 (er 28 (by omega) (by omega) (by omega) (by omega) (by omega) (by omega)) c
  have hsc : ∀ i, 0 ≤ i → i < 32 → ρ 2 i < 100 + ρ 0 12 := fun i i0 i1 => by
    by_cases h : 100 ≤ ρ 2 i
    · have := hA.2.2.2.2.2.2 i i0 i1 h
      omega
    · omega
  have elo : ∀ i k, 0 ≤ i → i < 32 → 0 ≤ k → k < 3 → iv_lo ρ' i k = if i = 4 * b + x then 0 else iv_lo ρ i k := fun i k i0 i1 k0 k1 => by
    have hs := hsc i i0 i1
    unfold iv_lo
    rw [e2, r5]
    by_cases h : i = 4 * b + x
    · rw [if_pos h, if_pos h, if_pos (by omega), e17, if_pos (show 3 * ρ 0 12 ≤ 3 * (100 + ρ 0 12 - 100) + k ∧ 3 * (100 + ρ 0 12 - 100) + k < 3 * ρ 0 12 + 3 by omega), if_pos (by omega)]
    · rw [if_neg h, if_neg h, e17]
      by_cases h5 : 100 ≤ ρ 2 i
      · rw [if_pos h5, if_pos h5, if_neg (show ¬ (3 * ρ 0 12 ≤ 3 * (ρ 2 i - 100) + k ∧ 3 * (ρ 2 i - 100) + k < 3 * ρ 0 12 + 3) by omega)]
      · rw [if_neg h5, if_neg h5]
  have ehi : ∀ i k, 0 ≤ i → i < 32 → 0 ≤ k → k < 3 → iv_hi ρ' i k = if i = 4 * b + x then 0 else iv_hi ρ i k := fun i k i0 i1 k0 k1 => by
    have hs := hsc i i0 i1
    unfold iv_hi
    rw [e2, r6, r9]
    by_cases h : i = 4 * b + x
    · rw [if_pos h, if_pos h, if_pos (by omega), e17, if_pos (show 3 * ρ 0 12 ≤ 3 * (100 + ρ 0 12 - 100) + k ∧ 3 * (100 + ρ 0 12 - 100) + k < 3 * ρ 0 12 + 3 by omega), if_pos (by omega)]
    · rw [if_neg h, if_neg h, e17, e13]
      by_cases h5 : 100 ≤ ρ 2 i
      · rw [if_pos h5, if_pos h5, if_neg (show ¬ (3 * ρ 0 12 ≤ 3 * (ρ 2 i - 100) + k ∧ 3 * (ρ 2 i - 100) + k < 3 * ρ 0 12 + 3) by omega), if_neg (show ¬ (ρ 2 i - 100 = ρ 0 12) by omega)]
      · rw [if_neg h5, if_neg h5]
  refine ⟨⟨hB, ⟨fun i i0 i1 => ?_, by rw [r5, r6]; exact hA.2.1.2.1, fun c k c0 c1 k0 k1 g => ?_⟩, ⟨hT.1, by rw [q1, r3]; exact hT.2.1, fun i i0 i1 g1 g2 => ?_⟩, by unfold mo_p2s; rw [r9]; exact hA.2.2.2.1, by rw [er 11 (by omega) (by omega) (by omega) (by omega) (by omega) (by omega)]; exact hA.2.2.2.2.1, fun c c0 c1 => ?_, fun i i0 i1 g1 => ?_⟩, ?_, fun c c0 c1 => ?_, ?_, ?_, by unfold iv_O; rw [r5, r6]; exact hO, fun c k c0 c1 k0 k1 => ?_, fun c c0 c1 g => ?_, ⟨fun h => ?_, fun c c0 c1 g => ?_, fun c c0 c1 hs => ?_, fun u u0 u1 => ?_⟩, ⟨fun i i0 i1 => ?_, by rw [q1, r5, r6]; exact hZ.2.1, fun c c0 c1 => ?_, fun u u0 u1 => ?_, fun i i0 i1 => ?_⟩, fun _ h => absurd e22 h⟩
  · rw [e2]
    split
    · omega
    · exact hA.2.1.1 i i0 i1
  · rw [e17] at g ⊢
    by_cases h : 3 * ρ 0 12 ≤ 3 * c + k ∧ 3 * c + k < 3 * ρ 0 12 + 3
    · rw [if_pos h] at g; omega
    · rw [if_neg h] at g ⊢
      rw [e13, if_neg (by omega), r9]
      exact hA.2.1.2.2 c k c0 c1 k0 k1 g
  · rw [e2] at g1 g2 ⊢
    by_cases hi : i = 4 * b + x
    · rw [if_pos hi] at g2; omega
    · rw [if_neg hi] at g1 g2 ⊢
      rw [q1, r3]
      exact hT.2.2 i i0 i1 g1 g2
  · rw [e12] at c1
    rw [e14, e13, q1, q8]
    by_cases hc : c = ρ 0 12
    · rw [if_pos hc, if_pos hc]; omega
    · rw [if_neg hc, if_neg hc]
      exact hA.2.2.2.2.2.1 c c0 (by omega)
  · rw [e2] at g1 ⊢
    rw [e12, e14, e15]
    by_cases hi : i = 4 * b + x
    · rw [if_pos hi, if_pos (by omega), if_pos (by omega)]
      omega
    · rw [if_neg hi] at g1 ⊢
      have := hA.2.2.2.2.2.2 i i0 i1 g1
      rw [if_neg (by omega), if_neg (by omega)]
      omega
  · intro i j i0 i1 j0 j1 g1 g2
    rw [e2] at g1 g2
    rw [e2] at g2
    have hi' := hsc i i0 i1
    have hj' := hsc j j0 j1
    by_cases hi : i = 4 * b + x
    · rw [if_pos hi] at g1 g2
      by_cases hj : j = 4 * b + x
      · omega
      · rw [if_neg hj] at g2
        omega
    · rw [if_neg hi] at g1 g2
      by_cases hj : j = 4 * b + x
      · rw [if_pos hj] at g2
        omega
      · rw [if_neg hj] at g2
        exact hU i j i0 i1 j0 j1 g1 g2
  · rw [e12] at c1
    rw [ew]
    by_cases hc : c = ρ 0 12
    · rw [wt_n hZ (by omega)]; omega
    · exact h8 c c0 (by omega)
  · intro i j k l i0 i1 j0 j1 k0 k1 l0 l1 hb2 hne
    rw [elo i k i0 i1 k0 k1, elo j l j0 j1 l0 l1, ehi i k i0 i1 k0 k1, ehi j l j0 j1 l0 l1]
    by_cases hi : i = 4 * b + x
    · rw [if_pos hi, if_pos hi]
      intro h; omega
    · rw [if_neg hi, if_neg hi]
      by_cases hj : j = 4 * b + x
      · rw [if_pos hj, if_pos hj]
        intro _ h; omega
      · rw [if_neg hj, if_neg hj]
        exact hD i j k l i0 i1 j0 j1 k0 k1 l0 l1 hb2 hne
  · intro i k i0 i1 k0 k1
    rw [elo i k i0 i1 k0 k1, ehi i k i0 i1 k0 k1, r5, r6]
    by_cases hi : i = 4 * b + x
    · rw [if_pos hi, if_pos hi]
      intro h; omega
    · rw [if_neg hi, if_neg hi]
      exact hW i k i0 i1 k0 k1
  · rw [e12] at c1
    rw [e15, e13, e17, r9]
    by_cases hc : c = ρ 0 12
    · rw [if_pos hc, if_pos (show 3 * ρ 0 12 ≤ 3 * c + k ∧ 3 * c + k < 3 * ρ 0 12 + 3 by omega)]
      exact Or.inr ⟨fun h => by omega, rfl⟩
    · rw [if_neg hc, if_neg hc, if_neg (show ¬ (3 * ρ 0 12 ≤ 3 * c + k ∧ 3 * c + k < 3 * ρ 0 12 + 3) by omega)]
      exact hRg c k c0 (by omega) k0 k1
  · rw [e12] at c1
    rw [r19] at g
    by_cases hc : c = ρ 0 12
    · have := (hZ.2.2.1 c (by omega) (by omega)).2.1
      omega
    · rw [e15, if_neg hc, ew]
      exact hP c c0 (by omega) g
  · rw [e21, e15, if_pos rfl]
  · rw [e12] at c1
    rw [e15] at g
    rw [e21]
    by_cases hc : c = ρ 0 12
    · exact hc
    · rw [if_neg hc] at g
      have := hN.2.1 c c0 (by omega) g
      omega
  · rw [e12] at c1
    rw [e15] at hs
    by_cases hc : c = ρ 0 12
    · exact ⟨4 * b + x, by omega, by omega, by rw [e2, if_pos rfl, hc]⟩
    · rw [if_neg hc] at hs
      obtain ⟨i, i0, i1, i2⟩ := hN.2.2.1 c c0 (by omega) hs
      have hi : i ≠ 4 * b + x := fun h => by rw [h] at i2; omega
      exact ⟨i, i0, i1, by rw [e2, if_neg hi]; exact i2⟩
  · rw [q1] at u1
    obtain ⟨i, i0, i1, i2⟩ := hN.2.2.2 u u0 u1
    have hi : i ≠ 4 * b + x := fun h => by rw [h] at i2; omega
    exact ⟨i, i0, i1, by rw [e2, if_neg hi]; exact i2⟩
  · rw [q1] at i0
    rw [e2, if_neg (by omega)]
    exact hZ.1 i i0 i1
  · rw [e12] at c0
    rw [r16, r19, r20]
    exact hZ.2.2.1 c (by omega) c1
  · rw [q24] at u1
    rw [r25, e12]
    have := hZ.2.2.2.1 u u0 u1
    omega
  · rw [e12] at i0
    rw [e17, if_neg (by omega)]
    exact hZ.2.2.2.2 i (by omega) i1
end IPG
