/-! a new request: the invariant -/
section IRQ
variable {s ν ρ ρ' : mm_T} {f : Int → Int} {b c c2 i k l p t u v w x y z : Int}
theorem qr_p (hp : p ≠ 0 ∧ p ≠ 25 ∧ p ≠ 26 ∧ p ≠ 27 ∧ p ≠ 28) : mo_rq ρ c x w p = ρ p := by
  funext i
  unfold mo_rq
  rw [mm_u_ne (by omega), mm_u_ne (by omega), mm_u_ne (by omega), mm_u_ne (by omega), mm_u_ne (by omega)]
  exact mm_u_ne (by omega)
theorem qr_0 (hi : i ≠ 0 ∧ i ≠ 24) : mo_rq ρ c x w 0 i = ρ 0 i := by
  unfold mo_rq
  rw [mm_u_ne (by omega), mm_u_ne (by omega), mm_u_ne (by omega), mm_u_ne (by omega), mm_u_ne (by omega)]
  exact mm_u_ne (by omega)
theorem qr_24 : mo_rq ρ c x w 0 24 = ρ 0 24 + 1 := mm_u_at
theorem qr_25 : mo_rq ρ c x w 25 i = if i = ρ 0 24 then c else ρ 25 i := by
  unfold mo_rq
  rw [mm_u_ne (by omega), mm_u_ne (by omega), mm_u_ne (by omega), mm_u_ne (by omega)]
  by_cases h : i = ρ 0 24
  · rw [if_pos h, h, mm_u_at]
  · rw [if_neg h, mm_u_ne (by omega)]
    exact mm_u_ne (by omega)
theorem qr_26 : mo_rq ρ c x w 26 i = if i = ρ 0 24 then x else ρ 26 i := by
  unfold mo_rq
  rw [mm_u_ne (by omega), mm_u_ne (by omega), mm_u_ne (by omega)]
  by_cases h : i = ρ 0 24
  · rw [if_pos h, h, mm_u_at]
  · rw [if_neg h, mm_u_ne (by omega), mm_u_ne (by omega)]
    exact mm_u_ne (by omega)
theorem qr_27 : mo_rq ρ c x w 27 i = if i = ρ 0 24 then w else ρ 27 i := by
  unfold mo_rq
  rw [mm_u_ne (by omega), mm_u_ne (by omega)]
  by_cases h : i = ρ 0 24
  · rw [if_pos h, h, mm_u_at]
  · rw [if_neg h, mm_u_ne (by omega), mm_u_ne (by omega), mm_u_ne (by omega)]
    exact mm_u_ne (by omega)
theorem qr_28 : mo_rq ρ c x w 28 i = if i = ρ 0 24 then 1099511627776 else ρ 28 i := by
  unfold mo_rq
  rw [mm_u_ne (by omega)]
  by_cases h : i = ρ 0 24
  · rw [if_pos h, h, mm_u_at]
  · rw [if_neg h, mm_u_ne (by omega), mm_u_ne (by omega), mm_u_ne (by omega), mm_u_ne (by omega)]
    exact mm_u_ne (by omega)
theorem qr_pd (hi : i ≠ ρ 0 24) : mo_pd (mo_rq ρ c x w) c2 i = mo_pd ρ c2 i := by
  unfold mo_pd
  rw [qr_25, qr_28, if_neg hi, if_neg hi]
theorem qr_pn : mo_pd (mo_rq ρ c x w) c2 (ρ 0 24) = if c2 = c then 1 else 0 := by
  unfold mo_pd
  rw [qr_25, qr_28, if_pos rfl, if_pos rfl]
  by_cases h : c2 = c
  · rw [if_pos h, if_pos ⟨h.symm, rfl⟩]
  · rw [if_neg h, if_neg (fun e => h e.1.symm)]
theorem qr_sm (h0 : 0 ≤ ρ 0 24) (hi : i ≤ ρ 0 24) : sm_s (mo_pd (mo_rq ρ c x w) c2) i.toNat = sm_s (mo_pd ρ c2) i.toNat := sm_c _ (fun t t0 t1 => qr_pd (by omega))
theorem qr_wt (h0 : 0 ≤ ρ 0 24) : mo_wt (mo_rq ρ c x w) c2 = mo_wt ρ c2 + if c2 = c then 1 else 0 := by
  unfold mo_wt
  rw [qr_24, sm_su h0, qr_sm h0 (Int.le_refl _), qr_pn]
theorem iv_rq (hI : iv_I ρ f) (hc : 0 ≤ c ∧ c < ρ 0 12) (hx : 0 ≤ x ∧ x < 2147483648) (h2 : mo_wt ρ c ≠ 8) (h3 : ρ 0 24 < 512) : iv_I (mo_rq ρ c x w) f := by
  obtain ⟨hA, hU, h8, hD, hW, hO, hRg, hP, hN, hZ, hX⟩ := hI
  have hB : mo_B (mo_rq ρ c x w) := mo_B_rq hA.1 hc hx h3
  have b24 := hA.1.2.2.2.2.2.1
  have er := fun p hp => qr_p (ρ := ρ) (c := c) (x := x) (w := w) (p := p) hp
  have e0 := fun i hi => qr_0 (ρ := ρ) (c := c) (x := x) (w := w) (i := i) hi
  have e25 := fun i => qr_25 (ρ := ρ) (c := c) (x := x) (w := w) (i := i)
  have e24 := qr_24 (ρ := ρ) (c := c) (x := x) (w := w)
  have ew := fun c2 => qr_wt (c := c) (x := x) (w := w) (c2 := c2) b24.1
  generalize mo_rq ρ c x w = ρ' at *
  have e2 := er 2 (by omega)
  have e3 := er 3 (by omega)
  have e5 := er 5 (by omega)
  have e6 := er 6 (by omega)
  have e9 := er 9 (by omega)
  have e11 := er 11 (by omega)
  have e13 := er 13 (by omega)
  have e14 := er 14 (by omega)
  have e15 := er 15 (by omega)
  have e16 := er 16 (by omega)
  have e17 := er 17 (by omega)
  have e19 := er 19 (by omega)
  have e20 := er 20 (by omega)
  have q1 := e0 1 (by omega)
  have q8 := e0 8 (by omega)
  have q12 := e0 12 (by omega)
  have q21 := e0 21 (by omega)
  have q22 := e0 22 (by omega)
  have em : mo_ld (mo_me (ρ' 0 1).toNat ρ') 0 = mo_ld (mo_me (ρ 0 1).toNat ρ) 0 := by
    rw [q1]
    exact me_ld e2 (er 7 (by omega)) e9 e13
  have hX2 : iv_X ρ' := by
    intro h1 h2
    rw [q21] at h1
    rw [q22] at h2
    rw [em]
    exact hX h1 h2
  refine ⟨⟨hB, mo_C_fr e2 e5 e6 e9 e13 e17 hA.2.1, tr_fr q1 e2 e3 hA.2.2.1, by unfold mo_p2s; rw [e9]; exact hA.2.2.2.1, by rw [e11]; exact hA.2.2.2.2.1, by rw [q12, q1, q8, e13, e14]; exact hA.2.2.2.2.2.1, by rw [e2, e14, e15, q12]; exact hA.2.2.2.2.2.2⟩, by unfold iv_U; rw [e2]; exact hU, fun c2 h4 h5 => ?_, ?_, ?_, by unfold iv_O; rw [e5, e6]; exact hO, by unfold iv_R; rw [q12, e15, e9, e13, e17]; exact hRg, fun c2 h4 h5 h6 => ?_, by unfold iv_N; rw [q21, q12, q1, e15, e2]; exact hN, ?_, hX2⟩
  · rw [q12] at h5
    have := h8 c2 h4 h5
    rw [ew]
    by_cases hcc : c2 = c
    · rw [if_pos hcc]
      rw [hcc] at this ⊢
      omega
    · rw [if_neg hcc]
      omega
  · unfold iv_D iv_lo iv_hi at hD ⊢
    rw [e2, e5, e6, e9, e13, e17]
    exact hD
  · unfold iv_W iv_lo iv_hi at hW ⊢
    rw [e2, e5, e6, e9, e13, e17]
    exact hW
  · rw [q12] at h5
    rw [e19] at h6
    rw [e15, ew]
    have := hP c2 h4 h5 h6
    refine ⟨this.1, ?_⟩
    split <;> omega
  · obtain ⟨z1, z2, z3, z4, z5⟩ := hZ
    refine ⟨by rw [q1, e2]; exact z1, by rw [q1, e5, e6]; exact z2, by rw [q12, e16, e19, e20]; exact z3, fun t t0 t1 => ?_, by rw [q12, e17]; exact z5⟩
    rw [e24] at t1
    rw [q12, e25]
    by_cases ht : t = ρ 0 24
    · rw [if_pos ht]; exact hc.2
    · rw [if_neg ht]; exact z4 t t0 (by omega)
end IRQ
