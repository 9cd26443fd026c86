/-! bounds stay: over the reference's calls -/
section MO17
variable {ν : mm_T} {i z b c x y w v l t p q k u : Int}
theorem mm_u_comm (h : ¬ (p = q ∧ i = k)) : mm_u (mm_u ν p i z) q k u = mm_u (mm_u ν q k u) p i z := by
  funext a j
  by_cases h1 : a = q ∧ j = k
  · obtain ⟨rfl, rfl⟩ := h1
    rw [mm_u_at, mm_u_ne (fun e => h ⟨e.1.symm, e.2.symm⟩), mm_u_at]
  · rw [mm_u_ne h1]
    by_cases h2 : a = p ∧ j = i
    · obtain ⟨rfl, rfl⟩ := h2
      rw [mm_u_at, mm_u_at]
    · rw [mm_u_ne h2, mm_u_ne h2, mm_u_ne h1]
theorem mo_e_b (h : -1 ≤ y ∧ y ≤ 10) : 0 ≤ mo_e y ∧ mo_e y ≤ 1024 := by
  have h : y = -1 ∨ y = 0 ∨ y = 1 ∨ y = 2 ∨ y = 3 ∨ y = 4 ∨ y = 5 ∨ y = 6 ∨ y = 7 ∨ y = 8 ∨ y = 9 ∨ y = 10 := by omega
  rcases h with rfl | rfl | rfl | rfl | rfl | rfl | rfl | rfl | rfl | rfl | rfl | rfl <;> decide
theorem mo_B_br (h : mo_B ν) (hb : 0 ≤ b ∧ b < ν 0 1) (hl : 0 ≤ l ∧ l ≤ 1000) (h2 : ν 0 1 ≠ 8) : mo_B (mo_br ν b x l) := by
  have h1 := h.1
  unfold mo_br
  exact mo_Bs_1 (mo_Bu_4 (mo_Bu_3 (mo_Bu_2 (mo_B_cd h) (by omega)) (by omega)) (by omega)) (by omega)
theorem mo_B_ty (h : mo_B ν) (hx : -1 ≤ x ∧ x ≤ 10) (hy : -1 ≤ y ∧ y ≤ 10) (hz : -1 ≤ z ∧ z ≤ 10) (hw : 0 ≤ w ∧ w ≤ 1000) (h2 : ν 0 8 ≠ 16) : mo_B (mo_ty ν x y z w v) := by
  have h1 := h.2.1
  have e1 := mo_e_b hx
  have e2 := mo_e_b hy
  have e3 := mo_e_b hz
  unfold mo_ty
  exact mo_Bs_8 (mo_Bu_o (mo_Bu_10 (mo_Bu_9 (mo_Bu_9 (mo_Bu_9 (mo_B_cd h) (by omega)) (by omega)) (by omega)) (by omega)) (by omega)) (by omega)
theorem mo_B_pl (h : mo_B ν) (hb : 0 ≤ b ∧ b < ν 0 1) (ht : 0 ≤ t ∧ t < ν 0 8) (h2 : ν 0 12 ≠ 40) : mo_B (mo_pl ν b x t) := by
  have h1 := h.1
  have h3 := h.2.1
  have h4 := h.2.2.1
  have h5 := h.2.2.2.1
  unfold mo_pl
  rw [mm_u_comm (p := 0) (q := 0) (i := 22) (k := 12) (by omega), mm_u_comm (p := 0) (q := 0) (i := 21) (k := 12) (by omega)]
  refine mo_Bs_22 (mo_Bs_21 (mo_Bs_12 (mo_Bu_17 (mo_Bu_17 (mo_Bu_17 (mo_Bu_15 (mo_Bu_14 (mo_Bu_13 (mo_Bu_2 (mo_B_cd h) (by omega)) (by omega)) (by omega)) (by omega)) (by omega)) (by omega)) (by omega)) ?_) ?_) (by omega)
  · rw [mm_u_ne (by omega), mm_u_ne (by omega), mm_u_ne (by omega), mm_u_ne (by omega), mm_u_ne (by omega), mm_u_ne (by omega), mm_u_ne (by omega), mo_cd_ne (by omega)]
    omega
  · rw [mm_u_at]
    omega
theorem mo_B_rq (h : mo_B ν) (hc : 0 ≤ c ∧ c < ν 0 12) (hx : 0 ≤ x ∧ x < 2147483648) (h3 : ν 0 24 < 512) : mo_B (mo_rq ν c x w) := by
  have h1 := h.2.2.1
  have h2 := h.2.2.2.2.2.1
  unfold mo_rq
  exact mo_Bs_24 (mo_Bu_28 (mo_Bu_o (mo_Bu_26 (mo_Bu_25 (mo_B_cd h) (by omega)) (by omega)) (by omega)) (by omega)) (by omega)
theorem mo_bm (x : Int) : -2147483648 ≤ Int.bmod x 4294967296 ∧ Int.bmod x 4294967296 < 2147483648 := by
  have h1 := Int.le_bmod (x := x) (m := 4294967296) (by decide)
  have h2 := Int.bmod_lt (x := x) (m := 4294967296) (by decide)
  omega
theorem mo_B_wf (h : mo_B ν) : mo_B (mo_wf ν c t) := by
  have h1 := mo_bm (31 * ν 20 c + ν 27 t + ν 26 t)
  unfold mo_wf
  exact mo_Bu_28 (mo_Bu_o h (by omega)) (by omega)
set_option maxHeartbeats 1000000 in
theorem mo_B_ls (h : mo_B ν) : mo_B (mo_ls ν c w) := by
  have e : ∀ {p i : Int}, p ≠ 28 → mo_ls ν c w p i = ν p i := fun h => rg_ne (by omega)
  obtain ⟨h1, h2, h3, h4, h5, h6, h7, h8, h9, h10, h11, h12, h13, h14⟩ := h
  refine ⟨?_, ?_, ?_, ?_, ?_, ?_, ?_, ?_, ?_, ?_, ?_, ?_, ?_, ?_⟩
  · rw [e (by omega)]; exact h1
  · rw [e (by omega)]; exact h2
  · rw [e (by omega)]; exact h3
  · rw [e (by omega), e (by omega)]; exact h4
  · rw [e (by omega)]; exact h5
  · rw [e (by omega)]; exact h6
  · intro k a b; rw [e (by omega)]; exact h7 k a b
  · intro k a b; rw [e (by omega)]; exact h8 k a b
  · intro k a b; rw [e (by omega)]; exact h9 k a b
  · intro k a b; rw [e (by omega)]; exact h10 k a b
  · intro k a b; rw [e (p := 13) (by omega), e (p := 14) (by omega), e (p := 15) (by omega), e (p := 19) (by omega)]; exact h11 k a b
  · intro k a b; rw [e (by omega)]; exact h12 k a b
  · intro k a b; rw [e (by omega)]; exact h13 k a b
  · intro k a b
    rw [e (p := 25) (by omega), e (p := 26) (by omega)]
    have h := h14 k a b
    refine ⟨h.1, h.2.1, ?_⟩
    unfold mo_ls
    by_cases hk : k < ν 0 24
    · rw [rg_at ⟨a, hk⟩]
      unfold mo_lsg
      split
      · omega
      · exact h.2.2
    · rw [rg_ne (by omega)]; exact h.2.2
theorem mo_B_lv (h : mo_B ν) : mo_B (mo_lv ν c) := mo_Bu_15 (mo_B_cd h) (by omega)
theorem mo_B_pu (h : mo_B ν) : mo_B (mo_pu ν c) := by
  unfold mo_pu
  split
  · exact mo_B_ch (mo_B_cd h) (by omega)
  · exact mo_B_cd h
end MO17
