/-! a new type: the invariant -/
section ITY
variable {s ν ν' ρ ρ' : mm_T} {f : Int → Int} {b c i k l t u v w x y z : Int}
/-- memories that lay the same -/
def lu_r (ν ν' : mm_T) : Prop := ν' 2 = ν 2 ∧ ν' 13 = ν 13 ∧ ν' 7 = ν 7 ∧ ∀ i k, 0 ≤ i → i < 32 → 100 ≤ ν 2 i → 0 ≤ k → k < 3 → ν' 9 (3 * ν 13 (ν 2 i - 100) + k) = ν 9 (3 * ν 13 (ν 2 i - 100) + k)
theorem lu_ld (h : lu_r ν ν') (hb : 0 ≤ b ∧ b < 8) : mo_ld ν' b = mo_ld ν b := by
  obtain ⟨h2, h13, h7, h9⟩ := h
  have key : ∀ i, 0 ≤ i → i < 32 → mo_ldu ν' (ν' 2 i) = mo_ldu ν (ν 2 i) := fun i i0 i1 => by
    rw [h2]
    unfold mo_ldu
    rw [h13, h7]
    by_cases h : 100 ≤ ν 2 i
    · rw [if_pos h, if_pos h, h9 i 0 i0 i1 h (by omega) (by omega), h9 i 1 i0 i1 h (by omega) (by omega), h9 i 2 i0 i1 h (by omega) (by omega)]
    · rw [if_neg h, if_neg h]
  have kk : ∀ (n : Nat) (i : Int), 0 ≤ i → i + n ≤ 32 → mo_lds ν' n i = mo_lds ν n i := fun n => by
    induction n with
    | zero => intro i _ _; rfl
    | succ n ih =>
      intro i i0 i1
      rw [mo_lds, mo_lds, key i i0 (by omega), ih (i + 1) (by omega) (by omega)]
  exact kk 4 (4 * b) (by omega) (by omega)
theorem lu_me : ∀ (n : Nat) (ν ν' : mm_T), n ≤ 8 → lu_r ν ν' → lu_r (mo_me n ν) (mo_me n ν')
  | 0, _, _, _, h => h
  | n + 1, ν, ν', hn, h => by
    unfold mo_me
    rw [lu_ld h (b := n) (by omega)]
    refine lu_me n _ _ (by omega) ?_
    obtain ⟨h2, h13, h7, h9⟩ := h
    have e : ∀ (μ : mm_T) (z p : Int), p ≠ 7 → mm_u μ 7 n z p = μ p := fun μ z p hp => by funext i; exact mm_u_ne (by omega)
    refine ⟨by rw [e _ _ 2 (by omega), e _ _ 2 (by omega)]; exact h2, by rw [e _ _ 13 (by omega), e _ _ 13 (by omega)]; exact h13, ?_, ?_⟩
    · funext i
      unfold mm_u
      rw [h7]
    · rw [e _ _ 2 (by omega), e _ _ 13 (by omega), e _ _ 9 (by omega), e _ _ 9 (by omega)]
      exact h9
theorem e_pw (h : -1 ≤ x ∧ x ≤ 10) : mo_e x = 0 ∨ st_pw (mo_e x) := by
  have : x = -1 ∨ x = 0 ∨ x = 1 ∨ x = 2 ∨ x = 3 ∨ x = 4 ∨ x = 5 ∨ x = 6 ∨ x = 7 ∨ x = 8 ∨ x = 9 ∨ x = 10 := by omega
  rcases this with rfl | rfl | rfl | rfl | rfl | rfl | rfl | rfl | rfl | rfl | rfl | rfl <;> first | exact Or.inl rfl | (right; unfold st_pw; decide)
theorem ty_0 (hi : i ≠ 0 ∧ i ≠ 8) : mo_ty ρ x y z w v 0 i = ρ 0 i := by
  unfold mo_ty
  rw [mm_u_ne (by omega), mm_u_ne (by omega), mm_u_ne (by omega), mm_u_ne (by omega), mm_u_ne (by omega), mm_u_ne (by omega)]
  exact mm_u_ne (by omega)
theorem ty_8 : mo_ty ρ x y z w v 0 8 = ρ 0 8 + 1 := mm_u_at
theorem ty_p {p : Int} (hp : p ≠ 0 ∧ p ≠ 9 ∧ p ≠ 10 ∧ p ≠ 11) : mo_ty ρ x y z w v p = ρ p := by
  funext i
  unfold mo_ty
  rw [mm_u_ne (by omega), mm_u_ne (by omega), mm_u_ne (by omega), mm_u_ne (by omega), mm_u_ne (by omega), mm_u_ne (by omega)]
  exact mm_u_ne (by omega)
theorem ty_9 : mo_ty ρ x y z w v 9 i = if i = 3 * ρ 0 8 + 2 then mo_e z else if i = 3 * ρ 0 8 + 1 then mo_e y else if i = 3 * ρ 0 8 then mo_e x else ρ 9 i := by
  unfold mo_ty
  rw [mm_u_ne (by omega), mm_u_ne (by omega), mm_u_ne (by omega)]
  by_cases h2 : i = 3 * ρ 0 8 + 2
  · rw [if_pos h2, h2, mm_u_at]
  · rw [if_neg h2, mm_u_ne (by omega)]
    by_cases h1 : i = 3 * ρ 0 8 + 1
    · rw [if_pos h1, h1, mm_u_at]
    · rw [if_neg h1, mm_u_ne (by omega)]
      by_cases h0 : i = 3 * ρ 0 8
      · rw [if_pos h0, h0, mm_u_at]
      · rw [if_neg h0, mm_u_ne (by omega)]
        exact mm_u_ne (by omega)
theorem ty_10 : mo_ty ρ x y z w v 10 i = if i = ρ 0 8 then w else ρ 10 i := by
  unfold mo_ty
  rw [mm_u_ne (by omega), mm_u_ne (by omega)]
  by_cases h : i = ρ 0 8
  · rw [if_pos h, h, mm_u_at]
  · rw [if_neg h, mm_u_ne (by omega), mm_u_ne (by omega), mm_u_ne (by omega), mm_u_ne (by omega)]
    exact mm_u_ne (by omega)
theorem ty_11 : mo_ty ρ x y z w v 11 i = if i = ρ 0 8 then v else ρ 11 i := by
  unfold mo_ty
  rw [mm_u_ne (by omega)]
  by_cases h : i = ρ 0 8
  · rw [if_pos h, h, mm_u_at]
  · rw [if_neg h, mm_u_ne (by omega), mm_u_ne (by omega), mm_u_ne (by omega), mm_u_ne (by omega), mm_u_ne (by omega)]
    exact mm_u_ne (by omega)
theorem iv_ty (hI : iv_I ρ f) (hx : -1 ≤ x ∧ x ≤ 10) (hy : -1 ≤ y ∧ y ≤ 10) (hz : -1 ≤ z ∧ z ≤ 10) (hw : 0 ≤ w ∧ w ≤ 1000) (hv : v = 0 ∨ v = 1) (h2 : ρ 0 8 ≠ 16) : iv_I (mo_ty ρ x y z w v) f := by
  have hB : mo_B (mo_ty ρ x y z w v) := mo_B_ty hI.1.1 hx hy hz hw h2
  have e0 : ∀ i, i ≠ 0 → i ≠ 8 → mo_ty ρ x y z w v 0 i = ρ 0 i := fun i h1 h2 => ty_0 ⟨h1, h2⟩
  have e8 : mo_ty ρ x y z w v 0 8 = ρ 0 8 + 1 := ty_8
  have er : ∀ p, p ≠ 0 → p ≠ 9 → p ≠ 10 → p ≠ 11 → mo_ty ρ x y z w v p = ρ p := fun p h1 h2 h3 h4 => ty_p ⟨h1, h2, h3, h4⟩
  have e9 : ∀ i, i < 3 * ρ 0 8 → mo_ty ρ x y z w v 9 i = ρ 9 i := fun i hi => by rw [ty_9, if_neg (by omega), if_neg (by omega), if_neg (by omega)]
  have e9p : ∀ i, 0 ≤ i → i < 48 → mo_ty ρ x y z w v 9 i = 0 ∨ st_pw (mo_ty ρ x y z w v 9 i) := fun i i0 i1 => by
    rw [ty_9]
    split
    · exact e_pw hz
    · split
      · exact e_pw hy
      · split
        · exact e_pw hx
        · exact hI.1.2.2.2.1 i i0 i1
  have e11 : ∀ t, mo_ty ρ x y z w v 11 t = if t = ρ 0 8 then v else ρ 11 t := fun t => ty_11
  obtain ⟨hA, hU, h8, hD, hW, hO, hRg, hP, hN, hZ, hX⟩ := hI
  have hb9 : ∀ k, 0 ≤ k → k < 48 → 0 ≤ mo_ty ρ x y z w v 9 k ∧ mo_ty ρ x y z w v 9 k ≤ 1024 := hB.2.2.2.2.2.2.2.2.2.2.2.1
  generalize mo_ty ρ x y z w v = ρ' at *
  have b1 := hA.1.1
  have b8 := hA.1.2.1
  have b12 := hA.1.2.2.1
  have r2 := er 2 (by omega) (by omega) (by omega) (by omega)
  have r3 := er 3 (by omega) (by omega) (by omega) (by omega)
  have r5 := er 5 (by omega) (by omega) (by omega) (by omega)
  have r6 := er 6 (by omega) (by omega) (by omega) (by omega)
  have r13 := er 13 (by omega) (by omega) (by omega) (by omega)
  have r14 := er 14 (by omega) (by omega) (by omega) (by omega)
  have r15 := er 15 (by omega) (by omega) (by omega) (by omega)
  have r17 := er 17 (by omega) (by omega) (by omega) (by omega)
  have q1 := e0 1 (by omega) (by omega)
  have q12 := e0 12 (by omega) (by omega)
  have q21 := e0 21 (by omega) (by omega)
  have q22 := e0 22 (by omega) (by omega)
  have q24 := e0 24 (by omega) (by omega)
  have ew : mo_wt ρ' = mo_wt ρ := by funext c; exact mo_wt_c q24 (er 25 (by omega) (by omega) (by omega) (by omega)) (er 28 (by omega) (by omega) (by omega) (by omega)) c
  have h9c : ∀ c k, 0 ≤ c → c < ρ 0 12 → k < 3 → ρ' 9 (3 * ρ 13 c + k) = ρ 9 (3 * ρ 13 c + k) := fun c k c0 c1 k1 => by
    have := hA.2.2.2.2.2.1 c c0 c1
    exact e9 _ (by omega)
  have h9s : ∀ i k, 0 ≤ i → i < 32 → 100 ≤ ρ 2 i → k < 3 → ρ' 9 (3 * ρ 13 (ρ 2 i - 100) + k) = ρ 9 (3 * ρ 13 (ρ 2 i - 100) + k) := fun i k i0 i1 h k1 => by
    have := hA.2.2.2.2.2.2 i i0 i1 h
    exact h9c _ k (by omega) this.1 k1
  have elo : ∀ i k, iv_lo ρ' i k = iv_lo ρ i k := fun i k => by
    unfold iv_lo
    rw [r2, r17, r5]
  have ehi : ∀ i k, 0 ≤ i → i < 32 → k < 3 → iv_hi ρ' i k = iv_hi ρ i k := fun i k i0 i1 k1 => by
    unfold iv_hi
    rw [r2, r17, r6, r13]
    by_cases h : 100 ≤ ρ 2 i
    · rw [if_pos h, if_pos h, h9s i k i0 i1 h k1]
    · rw [if_neg h, if_neg h]
  refine ⟨⟨hB, ?_, tr_fr q1 r2 r3 hA.2.2.1, e9p, ?_, ?_, ?_⟩, by unfold iv_U; rw [r2]; exact hU, by unfold iv_8; rw [q12, ew]; exact h8, ?_, ?_, by unfold iv_O; rw [r5, r6]; exact hO, ?_, by unfold iv_P; rw [q12, r15, er 19 (by omega) (by omega) (by omega) (by omega), ew]; exact hP, by unfold iv_N; rw [q1, q12, q21, r2, r15]; exact hN, ?_, ?_⟩
  · refine ⟨by rw [r2]; exact hA.2.1.1, by rw [r5, r6]; exact hA.2.1.2.1, fun c k c0 c1 k0 k1 h => ?_⟩
    rw [r17] at h ⊢
    rw [r13]
    by_cases hc : c < ρ 0 12
    · rw [h9c c k c0 hc k1]
      exact hA.2.1.2.2 c k c0 c1 k0 k1 h
    · have := hZ.2.2.2.2 (3 * c + k) (by omega) (by omega)
      have hcd := hA.1.cd c c0 c1
      have := hb9 (3 * ρ 13 c + k) (by omega) (by omega)
      omega
  · intro t t0 t1
    rw [e11]
    split
    · exact hv
    · exact hA.2.2.2.2.1 t t0 t1
  · intro c c0 c1
    rw [q12] at c1
    rw [r13, r14, q1, e8]
    have := hA.2.2.2.2.2.1 c c0 c1
    omega
  · rw [q12, r2, r14, r15]
    exact hA.2.2.2.2.2.2
  · intro i j k l i0 i1 j0 j1 k0 k1 l0 l1 hb hne
    rw [elo, elo, ehi i k i0 i1 k1, ehi j l j0 j1 l1]
    exact hD i j k l i0 i1 j0 j1 k0 k1 l0 l1 hb hne
  · intro i k i0 i1 k0 k1
    rw [elo, ehi i k i0 i1 k1, r5, r6]
    exact hW i k i0 i1 k0 k1
  · intro c k c0 c1 k0 k1
    rw [q12] at c1
    rw [r13, r15, r17, h9c c k c0 c1 k1]
    exact hRg c k c0 c1 k0 k1
  · unfold iv_Z
    rw [q1, q12, q24, r2, r5, r6, r17, er 16 (by omega) (by omega) (by omega) (by omega), er 19 (by omega) (by omega) (by omega) (by omega), er 20 (by omega) (by omega) (by omega) (by omega), er 25 (by omega) (by omega) (by omega) (by omega)]
    exact hZ
  · intro g1 g2
    rw [q21] at g1
    rw [q22] at g2
    rw [q1, lu_ld (lu_me (ρ 0 1).toNat ρ ρ' (by omega) ⟨r2, r13, er 7 (by omega) (by omega) (by omega) (by omega), fun i k i0 i1 h _ k1 => h9s i k i0 i1 h k1⟩) (by omega)]
    exact hX g1 g2
end ITY
