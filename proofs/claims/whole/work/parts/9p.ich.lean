/-! small changes: the invariant -/
section ICH
variable {s ν ρ ρ' : mm_T} {f : Int → Int} {c i k x y z : Int}
/-- the invariant reads these rows -/
theorem iv_c (er : ∀ p ∈ ([2, 3, 4, 5, 6, 9, 10, 11, 13, 14, 15, 16, 17, 19, 20, 25, 26, 28] : List Int), ρ' p = ρ p) (e0 : ∀ i ∈ ([1, 8, 12, 21, 24] : List Int), ρ' 0 i = ρ 0 i) (h22 : ρ' 0 22 = 0 ∨ ρ' 0 22 = 1) (hX' : iv_X ρ') (hI : iv_I ρ f) : iv_I ρ' f := by
  obtain ⟨hA, hU, h8, hD, hW, hO, hRg, hP, hN, hZ, hX⟩ := hI
  have e2 := er 2 (by decide)
  have e3 := er 3 (by decide)
  have e4 := er 4 (by decide)
  have e5 := er 5 (by decide)
  have e6 := er 6 (by decide)
  have e9 := er 9 (by decide)
  have e10 := er 10 (by decide)
  have e11 := er 11 (by decide)
  have e13 := er 13 (by decide)
  have e14 := er 14 (by decide)
  have e15 := er 15 (by decide)
  have e16 := er 16 (by decide)
  have e17 := er 17 (by decide)
  have e19 := er 19 (by decide)
  have e20 := er 20 (by decide)
  have e25 := er 25 (by decide)
  have e26 := er 26 (by decide)
  have e28 := er 28 (by decide)
  have q1 := e0 1 (by decide)
  have q8 := e0 8 (by decide)
  have q12 := e0 12 (by decide)
  have q21 := e0 21 (by decide)
  have q24 := e0 24 (by decide)
  have ew : ∀ c2, mo_wt ρ' c2 = mo_wt ρ c2 := fun c2 => mo_wt_c q24 e25 e28 c2
  have hB : mo_B ρ' := by
    have h := hA.1
    unfold mo_B at h ⊢
    rw [e2, e3, e4, e9, e10, e13, e14, e15, e17, e19, e25, e26, e28, q1, q8, q12, q21, q24]
    exact ⟨h.1, h.2.1, h.2.2.1, h.2.2.2.1, h22, h.2.2.2.2.2⟩
  refine ⟨⟨hB, mo_C_fr e2 e5 e6 e9 e13 e17 hA.2.1, tr_fr q1 e2 e3 hA.2.2.1, by unfold mo_p2s; rw [e9]; exact hA.2.2.2.1, by rw [e11]; exact hA.2.2.2.2.1, ?_⟩, by unfold iv_U; rw [e2]; exact hU, ?_, ?_, ?_, by unfold iv_O; rw [e5, e6]; exact hO, ?_, ?_, ?_, ?_, hX'⟩
  · have h := hA.2.2.2.2.2
    unfold iv_K at h ⊢
    rw [q1, q8, q12, e2, e13, e14, e15]
    exact h
  · unfold iv_8
    rw [q12]
    intro c2 c0 c1
    rw [ew]
    exact h8 c2 c0 c1
  · unfold iv_D iv_lo iv_hi at hD ⊢
    rw [e2, e5, e6, e9, e13, e17]
    exact hD
  · unfold iv_W iv_lo iv_hi at hW ⊢
    rw [e2, e5, e6, e9, e13, e17]
    exact hW
  · unfold iv_R
    rw [q12, e9, e13, e15, e17]
    exact hRg
  · unfold iv_P
    rw [q12, e15, e19]
    intro c2 c0 c1 hp
    rw [ew]
    exact hP c2 c0 c1 hp
  · unfold iv_N
    rw [q1, q12, q21, e2, e15]
    exact hN
  · unfold iv_Z
    rw [q1, q12, q24, e2, e5, e6, e16, e17, e19, e20, e25]
    exact hZ
theorem ml_c (hA : iv_A ρ f) (hA' : iv_A ρ' f) (h0 : ρ' 0 1 = ρ 0 1) (h2 : ρ' 2 = ρ 2) (h9 : ρ' 9 = ρ 9) (h13 : ρ' 13 = ρ 13) : mo_ld (mo_me (ρ' 0 1).toNat ρ') 0 = mo_ld (mo_me (ρ 0 1).toNat ρ) 0 := by
  have a := ml_mo2 hA hA' h0 (fun i _ _ => Or.inl (by rw [h2])) h9 h13
  have b := ml_mo2 hA' hA h0.symm (fun i _ _ => Or.inl (by rw [h2])) h9.symm h13.symm
  omega
theorem iv_jk (h : jk_r ρ ρ') (hI : iv_I ρ f) : iv_I ρ' f := by
  refine iv_c (fun p hp => h p (fun hm => ?_)) (fun i _ => by rw [h 0 (by decide)]) (by rw [h 0 (by decide)]; exact hI.1.1.2.2.2.2.1) ?_ hI
  · simp only [List.mem_cons, List.not_mem_nil, or_false] at hp hm
    omega
  · intro h1 h2
    rw [h 0 (by decide)] at h1 h2
    have := ml_c hI.1 (iv_A_fr h hI.1) (by rw [h 0 (by decide)]) (h 2 (by decide)) (h 9 (by decide)) (h 13 (by decide))
    rw [this]
    exact hI.2.2.2.2.2.2.2.2.2.2 h1 h2
theorem iv_cd (hI : iv_I ρ f) : iv_I (mo_cd ρ z) f := by
  have er : ∀ p, p ≠ 0 → mo_cd ρ z p = ρ p := fun p hp => by funext i; exact mm_u_ne (by omega)
  have e0 : ∀ i, i ≠ 0 → mo_cd ρ z 0 i = ρ 0 i := fun i hi => mm_u_ne (by omega)
  refine iv_c (fun p hp => er p (fun h => by rw [h] at hp; revert hp; decide)) (fun i hi => e0 i (fun h => by rw [h] at hi; revert hi; decide)) (by rw [e0 22 (by omega)]; exact hI.1.1.2.2.2.2.1) ?_ hI
  intro h1 h2
  rw [e0 21 (by omega)] at h1
  rw [e0 22 (by omega)] at h2
  have e : mo_ld (mo_me (mo_cd ρ z 0 1).toNat (mo_cd ρ z)) 0 = mo_ld (mo_me (ρ 0 1).toNat ρ) 0 := by
    rw [e0 1 (by omega)]
    exact me_ld (er 2 (by omega)) (er 7 (by omega)) (er 9 (by omega)) (er 13 (by omega))
  rw [e]
  exact hI.2.2.2.2.2.2.2.2.2.2 h1 h2
theorem iv_22 (hI : iv_I ρ f) (h : mo_ld (mo_me (ρ 0 1).toNat ρ) 0 ≤ 4096) : iv_I (mm_u ρ 0 22 1) f := by
  have er : ∀ p, p ≠ 0 → mm_u ρ 0 22 1 p = ρ p := fun p hp => by funext i; exact mm_u_ne (by omega)
  have e0 : ∀ i, i ≠ 22 → mm_u ρ 0 22 1 0 i = ρ 0 i := fun i hi => mm_u_ne (by omega)
  refine iv_c (fun p hp => er p (fun h => by rw [h] at hp; revert hp; decide)) (fun i hi => e0 i (fun h => by rw [h] at hi; revert hi; decide)) (Or.inr mm_u_at) ?_ hI
  intro h1 h2
  have e : mo_ld (mo_me (mm_u ρ 0 22 1 0 1).toNat (mm_u ρ 0 22 1)) 0 = mo_ld (mo_me (ρ 0 1).toNat ρ) 0 := by
    rw [e0 1 (by omega)]
    exact me_ld (er 2 (by omega)) (er 7 (by omega)) (er 9 (by omega)) (er 13 (by omega))
  rw [e]
  exact h
theorem iv_ch (hI : iv_I ρ f) (hxy : (x = 1 ∧ y = 2) ∨ (x = 2 ∧ y = 1)) : iv_I (mo_ch ρ x y) f := by
  have hI0 := hI
  obtain ⟨hA, hU, h8, hD, hW, hO, hRg, hP, hN, hZ, hX⟩ := hI
  have b1 := hA.1.1
  have b12 := hA.1.2.2.1
  have er : ∀ p, p ≠ 15 → mo_ch ρ x y p = ρ p := fun p h => ch_ne h
  have e15 : ∀ c, 0 ≤ c → c < ρ 0 12 → mo_ch ρ x y 15 c = if ρ 15 c = x then y else ρ 15 c := fun c h1 h2 => ch_15 ⟨h1, h2⟩
  have hB : mo_B (mo_ch ρ x y) := mo_B_ch hA.1 (by omega)
  have em : mo_ld (mo_me (mo_ch ρ x y 0 1).toNat (mo_ch ρ x y)) 0 = mo_ld (mo_me (ρ 0 1).toNat ρ) 0 := by
    rw [er 0 (by omega)]
    exact me_ld (er 2 (by omega)) (er 7 (by omega)) (er 9 (by omega)) (er 13 (by omega))
  have hX2 : iv_X (mo_ch ρ x y) := by
    intro h1 h2
    rw [er 0 (by omega)] at h1 h2
    rw [em]
    exact hX h1 h2
  generalize mo_ch ρ x y = ρ' at er e15 hB hX2 em ⊢
  have e0 := er 0 (by omega)
  have e2 := er 2 (by omega)
  have e5 := er 5 (by omega)
  have e6 := er 6 (by omega)
  have e9 := er 9 (by omega)
  have e13 := er 13 (by omega)
  have e14 := er 14 (by omega)
  have e17 := er 17 (by omega)
  have ew : ∀ c2, mo_wt ρ' c2 = mo_wt ρ c2 := fun c2 => mo_wt_c (congrFun e0 24) (er 25 (by omega)) (er 28 (by omega)) c2
  refine ⟨⟨hB, mo_C_fr e2 e5 e6 e9 e13 e17 hA.2.1, tr_fr (congrFun e0 1) e2 (er 3 (by omega)) hA.2.2.1, by unfold mo_p2s; rw [e9]; exact hA.2.2.2.1, by rw [er 11 (by omega)]; exact hA.2.2.2.2.1, by rw [e0, e13, e14]; exact hA.2.2.2.2.2.1, fun i i0 i1 h1 => ?_⟩, by unfold iv_U; rw [e2]; exact hU, ?_, ?_, ?_, by unfold iv_O; rw [e5, e6]; exact hO, ?_, ?_, ?_, ?_, hX2⟩
  · rw [e2] at h1 ⊢
    rw [e0, e14]
    have := hA.2.2.2.2.2.2 i i0 i1 h1
    refine ⟨this.1, this.2.1, ?_⟩
    rw [e15 _ (by omega) this.1]
    split <;> omega
  · unfold iv_8
    rw [e0]
    intro c2 c0 c1
    rw [ew]
    exact h8 c2 c0 c1
  · unfold iv_D iv_lo iv_hi at hD ⊢
    rw [e2, e5, e6, e9, e13, e17]
    exact hD
  · unfold iv_W iv_lo iv_hi at hW ⊢
    rw [e2, e5, e6, e9, e13, e17]
    exact hW
  · intro c2 k c0 c1 k0 k1
    rw [e0] at c1
    rw [e9, e13, e17, e15 c2 c0 c1]
    rcases hRg c2 k c0 c1 k0 k1 with ⟨h1, h2⟩ | ⟨h1, h2⟩
    · refine Or.inl ⟨?_, h2⟩
      split <;> omega
    · refine Or.inr ⟨fun h => h1 ⟨?_, h.2⟩, h2⟩
      have h3 := h.1
      split at h3 <;> omega
  · intro c2 c0 c1 hp
    rw [e0] at c1
    rw [er 19 (by omega)] at hp
    rw [e15 c2 c0 c1, ew]
    have := hP c2 c0 c1 hp
    refine ⟨?_, this.2⟩
    split <;> omega
  · refine ⟨fun h => ?_, fun c2 c0 c1 hs => ?_, fun c2 c0 c1 hs => ?_, by rw [e0, e2]; exact hN.2.2.2⟩
    · have b21 := hA.1.2.2.2.1
      rw [e0] at h ⊢
      have := hN.1 h
      rw [e15 _ h (by omega), if_neg (by omega)]
      exact this
    · rw [e0] at c1 ⊢
      rw [e15 c2 c0 c1] at hs
      refine hN.2.1 c2 c0 c1 ?_
      split at hs
      · omega
      · exact hs
    · rw [e0] at c1
      rw [e15 c2 c0 c1] at hs
      rw [e2]
      refine hN.2.2.1 c2 c0 c1 ?_
      split at hs <;> omega
  · unfold iv_Z
    rw [e0, e2, e5, e6, e17, er 16 (by omega), er 19 (by omega), er 20 (by omega), er 25 (by omega)]
    exact hZ
end ICH
