/-! bounds stay: one place of memory after the other -/
section MO16
variable {ν : mm_T} {i z b c x y w v l t p : Int}
set_option maxHeartbeats 1000000 in
theorem mo_Bu_2 (h : mo_B ν) (hz : -1 ≤ z ∧ z < 140) : mo_B (mm_u ν 2 i z) := by
  obtain ⟨h1, h2, h3, h4, h5, h6, h7, h8, h9, h10, h11, h12, h13, h14⟩ := h
  refine ⟨?_, ?_, ?_, ?_, ?_, ?_, ?_, ?_, ?_, ?_, ?_, ?_, ?_, ?_⟩
  · rw [show mm_u ν 2 i z 0 1 = ν 0 1 from mm_u_ne (by omega)]; first | exact h1 | omega
  · rw [show mm_u ν 2 i z 0 8 = ν 0 8 from mm_u_ne (by omega)]; first | exact h2 | omega
  · rw [show mm_u ν 2 i z 0 12 = ν 0 12 from mm_u_ne (by omega)]; first | exact h3 | omega
  · rw [show mm_u ν 2 i z 0 21 = ν 0 21 from mm_u_ne (by omega), show mm_u ν 2 i z 0 12 = ν 0 12 from mm_u_ne (by omega)]; first | exact h4 | omega
  · rw [show mm_u ν 2 i z 0 22 = ν 0 22 from mm_u_ne (by omega)]; first | exact h5 | omega
  · rw [show mm_u ν 2 i z 0 24 = ν 0 24 from mm_u_ne (by omega)]; first | exact h6 | omega
  · intro k a b
    have h := h7 k a b
    rw [show mm_u ν 2 i z 3 k = ν 3 k from mm_u_ne (by omega)]; exact h
  · intro k a b
    have h := h8 k a b
    by_cases hk : k = i
    · subst hk
      rw [show mm_u ν 2 k z 2 k = z from mm_u_at]; omega
    · rw [show mm_u ν 2 i z 2 k = ν 2 k from mm_u_ne (by omega)]; exact h
  · intro k a b
    have h := h9 k a b
    rw [show mm_u ν 2 i z 4 k = ν 4 k from mm_u_ne (by omega)]; exact h
  · intro k a b
    have h := h10 k a b
    rw [show mm_u ν 2 i z 10 k = ν 10 k from mm_u_ne (by omega)]; exact h
  · intro k a b
    have h := h11 k a b
    rw [show mm_u ν 2 i z 13 k = ν 13 k from mm_u_ne (by omega), show mm_u ν 2 i z 14 k = ν 14 k from mm_u_ne (by omega), show mm_u ν 2 i z 15 k = ν 15 k from mm_u_ne (by omega), show mm_u ν 2 i z 19 k = ν 19 k from mm_u_ne (by omega)]; exact h
  · intro k a b
    have h := h12 k a b
    rw [show mm_u ν 2 i z 9 k = ν 9 k from mm_u_ne (by omega)]; exact h
  · intro k a b
    have h := h13 k a b
    rw [show mm_u ν 2 i z 17 k = ν 17 k from mm_u_ne (by omega)]; exact h
  · intro k a b
    have h := h14 k a b
    rw [show mm_u ν 2 i z 25 k = ν 25 k from mm_u_ne (by omega), show mm_u ν 2 i z 26 k = ν 26 k from mm_u_ne (by omega), show mm_u ν 2 i z 28 k = ν 28 k from mm_u_ne (by omega)]; exact h
set_option maxHeartbeats 1000000 in
theorem mo_Bu_3 (h : mo_B ν) (hz : -1 ≤ z ∧ z < i) : mo_B (mm_u ν 3 i z) := by
  obtain ⟨h1, h2, h3, h4, h5, h6, h7, h8, h9, h10, h11, h12, h13, h14⟩ := h
  refine ⟨?_, ?_, ?_, ?_, ?_, ?_, ?_, ?_, ?_, ?_, ?_, ?_, ?_, ?_⟩
  · rw [show mm_u ν 3 i z 0 1 = ν 0 1 from mm_u_ne (by omega)]; first | exact h1 | omega
  · rw [show mm_u ν 3 i z 0 8 = ν 0 8 from mm_u_ne (by omega)]; first | exact h2 | omega
  · rw [show mm_u ν 3 i z 0 12 = ν 0 12 from mm_u_ne (by omega)]; first | exact h3 | omega
  · rw [show mm_u ν 3 i z 0 21 = ν 0 21 from mm_u_ne (by omega), show mm_u ν 3 i z 0 12 = ν 0 12 from mm_u_ne (by omega)]; first | exact h4 | omega
  · rw [show mm_u ν 3 i z 0 22 = ν 0 22 from mm_u_ne (by omega)]; first | exact h5 | omega
  · rw [show mm_u ν 3 i z 0 24 = ν 0 24 from mm_u_ne (by omega)]; first | exact h6 | omega
  · intro k a b
    have h := h7 k a b
    by_cases hk : k = i
    · subst hk
      rw [show mm_u ν 3 k z 3 k = z from mm_u_at]; omega
    · rw [show mm_u ν 3 i z 3 k = ν 3 k from mm_u_ne (by omega)]; exact h
  · intro k a b
    have h := h8 k a b
    rw [show mm_u ν 3 i z 2 k = ν 2 k from mm_u_ne (by omega)]; exact h
  · intro k a b
    have h := h9 k a b
    rw [show mm_u ν 3 i z 4 k = ν 4 k from mm_u_ne (by omega)]; exact h
  · intro k a b
    have h := h10 k a b
    rw [show mm_u ν 3 i z 10 k = ν 10 k from mm_u_ne (by omega)]; exact h
  · intro k a b
    have h := h11 k a b
    rw [show mm_u ν 3 i z 13 k = ν 13 k from mm_u_ne (by omega), show mm_u ν 3 i z 14 k = ν 14 k from mm_u_ne (by omega), show mm_u ν 3 i z 15 k = ν 15 k from mm_u_ne (by omega), show mm_u ν 3 i z 19 k = ν 19 k from mm_u_ne (by omega)]; exact h
  · intro k a b
    have h := h12 k a b
    rw [show mm_u ν 3 i z 9 k = ν 9 k from mm_u_ne (by omega)]; exact h
  · intro k a b
    have h := h13 k a b
    rw [show mm_u ν 3 i z 17 k = ν 17 k from mm_u_ne (by omega)]; exact h
  · intro k a b
    have h := h14 k a b
    rw [show mm_u ν 3 i z 25 k = ν 25 k from mm_u_ne (by omega), show mm_u ν 3 i z 26 k = ν 26 k from mm_u_ne (by omega), show mm_u ν 3 i z 28 k = ν 28 k from mm_u_ne (by omega)]; exact h
set_option maxHeartbeats 1000000 in
theorem mo_Bu_4 (h : mo_B ν) (hz : 0 ≤ z ∧ z ≤ 1000) : mo_B (mm_u ν 4 i z) := by
  obtain ⟨h1, h2, h3, h4, h5, h6, h7, h8, h9, h10, h11, h12, h13, h14⟩ := h
  refine ⟨?_, ?_, ?_, ?_, ?_, ?_, ?_, ?_, ?_, ?_, ?_, ?_, ?_, ?_⟩
  · rw [show mm_u ν 4 i z 0 1 = ν 0 1 from mm_u_ne (by omega)]; first | exact h1 | omega
  · rw [show mm_u ν 4 i z 0 8 = ν 0 8 from mm_u_ne (by omega)]; first | exact h2 | omega
  · rw [show mm_u ν 4 i z 0 12 = ν 0 12 from mm_u_ne (by omega)]; first | exact h3 | omega
  · rw [show mm_u ν 4 i z 0 21 = ν 0 21 from mm_u_ne (by omega), show mm_u ν 4 i z 0 12 = ν 0 12 from mm_u_ne (by omega)]; first | exact h4 | omega
  · rw [show mm_u ν 4 i z 0 22 = ν 0 22 from mm_u_ne (by omega)]; first | exact h5 | omega
  · rw [show mm_u ν 4 i z 0 24 = ν 0 24 from mm_u_ne (by omega)]; first | exact h6 | omega
  · intro k a b
    have h := h7 k a b
    rw [show mm_u ν 4 i z 3 k = ν 3 k from mm_u_ne (by omega)]; exact h
  · intro k a b
    have h := h8 k a b
    rw [show mm_u ν 4 i z 2 k = ν 2 k from mm_u_ne (by omega)]; exact h
  · intro k a b
    have h := h9 k a b
    by_cases hk : k = i
    · subst hk
      rw [show mm_u ν 4 k z 4 k = z from mm_u_at]; omega
    · rw [show mm_u ν 4 i z 4 k = ν 4 k from mm_u_ne (by omega)]; exact h
  · intro k a b
    have h := h10 k a b
    rw [show mm_u ν 4 i z 10 k = ν 10 k from mm_u_ne (by omega)]; exact h
  · intro k a b
    have h := h11 k a b
    rw [show mm_u ν 4 i z 13 k = ν 13 k from mm_u_ne (by omega), show mm_u ν 4 i z 14 k = ν 14 k from mm_u_ne (by omega), show mm_u ν 4 i z 15 k = ν 15 k from mm_u_ne (by omega), show mm_u ν 4 i z 19 k = ν 19 k from mm_u_ne (by omega)]; exact h
  · intro k a b
    have h := h12 k a b
    rw [show mm_u ν 4 i z 9 k = ν 9 k from mm_u_ne (by omega)]; exact h
  · intro k a b
    have h := h13 k a b
    rw [show mm_u ν 4 i z 17 k = ν 17 k from mm_u_ne (by omega)]; exact h
  · intro k a b
    have h := h14 k a b
    rw [show mm_u ν 4 i z 25 k = ν 25 k from mm_u_ne (by omega), show mm_u ν 4 i z 26 k = ν 26 k from mm_u_ne (by omega), show mm_u ν 4 i z 28 k = ν 28 k from mm_u_ne (by omega)]; exact h
set_option maxHeartbeats 1000000 in
theorem mo_Bu_10 (h : mo_B ν) (hz : 0 ≤ z ∧ z ≤ 1000) : mo_B (mm_u ν 10 i z) := by
  obtain ⟨h1, h2, h3, h4, h5, h6, h7, h8, h9, h10, h11, h12, h13, h14⟩ := h
  refine ⟨?_, ?_, ?_, ?_, ?_, ?_, ?_, ?_, ?_, ?_, ?_, ?_, ?_, ?_⟩
  · rw [show mm_u ν 10 i z 0 1 = ν 0 1 from mm_u_ne (by omega)]; first | exact h1 | omega
  · rw [show mm_u ν 10 i z 0 8 = ν 0 8 from mm_u_ne (by omega)]; first | exact h2 | omega
  · rw [show mm_u ν 10 i z 0 12 = ν 0 12 from mm_u_ne (by omega)]; first | exact h3 | omega
  · rw [show mm_u ν 10 i z 0 21 = ν 0 21 from mm_u_ne (by omega), show mm_u ν 10 i z 0 12 = ν 0 12 from mm_u_ne (by omega)]; first | exact h4 | omega
  · rw [show mm_u ν 10 i z 0 22 = ν 0 22 from mm_u_ne (by omega)]; first | exact h5 | omega
  · rw [show mm_u ν 10 i z 0 24 = ν 0 24 from mm_u_ne (by omega)]; first | exact h6 | omega
  · intro k a b
    have h := h7 k a b
    rw [show mm_u ν 10 i z 3 k = ν 3 k from mm_u_ne (by omega)]; exact h
  · intro k a b
    have h := h8 k a b
    rw [show mm_u ν 10 i z 2 k = ν 2 k from mm_u_ne (by omega)]; exact h
  · intro k a b
    have h := h9 k a b
    rw [show mm_u ν 10 i z 4 k = ν 4 k from mm_u_ne (by omega)]; exact h
  · intro k a b
    have h := h10 k a b
    by_cases hk : k = i
    · subst hk
      rw [show mm_u ν 10 k z 10 k = z from mm_u_at]; omega
    · rw [show mm_u ν 10 i z 10 k = ν 10 k from mm_u_ne (by omega)]; exact h
  · intro k a b
    have h := h11 k a b
    rw [show mm_u ν 10 i z 13 k = ν 13 k from mm_u_ne (by omega), show mm_u ν 10 i z 14 k = ν 14 k from mm_u_ne (by omega), show mm_u ν 10 i z 15 k = ν 15 k from mm_u_ne (by omega), show mm_u ν 10 i z 19 k = ν 19 k from mm_u_ne (by omega)]; exact h
  · intro k a b
    have h := h12 k a b
    rw [show mm_u ν 10 i z 9 k = ν 9 k from mm_u_ne (by omega)]; exact h
  · intro k a b
    have h := h13 k a b
    rw [show mm_u ν 10 i z 17 k = ν 17 k from mm_u_ne (by omega)]; exact h
  · intro k a b
    have h := h14 k a b
    rw [show mm_u ν 10 i z 25 k = ν 25 k from mm_u_ne (by omega), show mm_u ν 10 i z 26 k = ν 26 k from mm_u_ne (by omega), show mm_u ν 10 i z 28 k = ν 28 k from mm_u_ne (by omega)]; exact h
set_option maxHeartbeats 1000000 in
theorem mo_Bu_13 (h : mo_B ν) (hz : 0 ≤ z ∧ z < 16) : mo_B (mm_u ν 13 i z) := by
  obtain ⟨h1, h2, h3, h4, h5, h6, h7, h8, h9, h10, h11, h12, h13, h14⟩ := h
  refine ⟨?_, ?_, ?_, ?_, ?_, ?_, ?_, ?_, ?_, ?_, ?_, ?_, ?_, ?_⟩
  · rw [show mm_u ν 13 i z 0 1 = ν 0 1 from mm_u_ne (by omega)]; first | exact h1 | omega
  · rw [show mm_u ν 13 i z 0 8 = ν 0 8 from mm_u_ne (by omega)]; first | exact h2 | omega
  · rw [show mm_u ν 13 i z 0 12 = ν 0 12 from mm_u_ne (by omega)]; first | exact h3 | omega
  · rw [show mm_u ν 13 i z 0 21 = ν 0 21 from mm_u_ne (by omega), show mm_u ν 13 i z 0 12 = ν 0 12 from mm_u_ne (by omega)]; first | exact h4 | omega
  · rw [show mm_u ν 13 i z 0 22 = ν 0 22 from mm_u_ne (by omega)]; first | exact h5 | omega
  · rw [show mm_u ν 13 i z 0 24 = ν 0 24 from mm_u_ne (by omega)]; first | exact h6 | omega
  · intro k a b
    have h := h7 k a b
    rw [show mm_u ν 13 i z 3 k = ν 3 k from mm_u_ne (by omega)]; exact h
  · intro k a b
    have h := h8 k a b
    rw [show mm_u ν 13 i z 2 k = ν 2 k from mm_u_ne (by omega)]; exact h
  · intro k a b
    have h := h9 k a b
    rw [show mm_u ν 13 i z 4 k = ν 4 k from mm_u_ne (by omega)]; exact h
  · intro k a b
    have h := h10 k a b
    rw [show mm_u ν 13 i z 10 k = ν 10 k from mm_u_ne (by omega)]; exact h
  · intro k a b
    have h := h11 k a b
    by_cases hk : k = i
    · subst hk
      rw [show mm_u ν 13 k z 13 k = z from mm_u_at, show mm_u ν 13 k z 14 k = ν 14 k from mm_u_ne (by omega), show mm_u ν 13 k z 15 k = ν 15 k from mm_u_ne (by omega), show mm_u ν 13 k z 19 k = ν 19 k from mm_u_ne (by omega)]; omega
    · rw [show mm_u ν 13 i z 13 k = ν 13 k from mm_u_ne (by omega), show mm_u ν 13 i z 14 k = ν 14 k from mm_u_ne (by omega), show mm_u ν 13 i z 15 k = ν 15 k from mm_u_ne (by omega), show mm_u ν 13 i z 19 k = ν 19 k from mm_u_ne (by omega)]; exact h
  · intro k a b
    have h := h12 k a b
    rw [show mm_u ν 13 i z 9 k = ν 9 k from mm_u_ne (by omega)]; exact h
  · intro k a b
    have h := h13 k a b
    rw [show mm_u ν 13 i z 17 k = ν 17 k from mm_u_ne (by omega)]; exact h
  · intro k a b
    have h := h14 k a b
    rw [show mm_u ν 13 i z 25 k = ν 25 k from mm_u_ne (by omega), show mm_u ν 13 i z 26 k = ν 26 k from mm_u_ne (by omega), show mm_u ν 13 i z 28 k = ν 28 k from mm_u_ne (by omega)]; exact h
set_option maxHeartbeats 1000000 in
theorem mo_Bu_14 (h : mo_B ν) (hz : 0 ≤ z ∧ z < 8) : mo_B (mm_u ν 14 i z) := by
  obtain ⟨h1, h2, h3, h4, h5, h6, h7, h8, h9, h10, h11, h12, h13, h14⟩ := h
  refine ⟨?_, ?_, ?_, ?_, ?_, ?_, ?_, ?_, ?_, ?_, ?_, ?_, ?_, ?_⟩
  · rw [show mm_u ν 14 i z 0 1 = ν 0 1 from mm_u_ne (by omega)]; first | exact h1 | omega
  · rw [show mm_u ν 14 i z 0 8 = ν 0 8 from mm_u_ne (by omega)]; first | exact h2 | omega
  · rw [show mm_u ν 14 i z 0 12 = ν 0 12 from mm_u_ne (by omega)]; first | exact h3 | omega
  · rw [show mm_u ν 14 i z 0 21 = ν 0 21 from mm_u_ne (by omega), show mm_u ν 14 i z 0 12 = ν 0 12 from mm_u_ne (by omega)]; first | exact h4 | omega
  · rw [show mm_u ν 14 i z 0 22 = ν 0 22 from mm_u_ne (by omega)]; first | exact h5 | omega
  · rw [show mm_u ν 14 i z 0 24 = ν 0 24 from mm_u_ne (by omega)]; first | exact h6 | omega
  · intro k a b
    have h := h7 k a b
    rw [show mm_u ν 14 i z 3 k = ν 3 k from mm_u_ne (by omega)]; exact h
  · intro k a b
    have h := h8 k a b
    rw [show mm_u ν 14 i z 2 k = ν 2 k from mm_u_ne (by omega)]; exact h
  · intro k a b
    have h := h9 k a b
    rw [show mm_u ν 14 i z 4 k = ν 4 k from mm_u_ne (by omega)]; exact h
  · intro k a b
    have h := h10 k a b
    rw [show mm_u ν 14 i z 10 k = ν 10 k from mm_u_ne (by omega)]; exact h
  · intro k a b
    have h := h11 k a b
    by_cases hk : k = i
    · subst hk
      rw [show mm_u ν 14 k z 13 k = ν 13 k from mm_u_ne (by omega), show mm_u ν 14 k z 14 k = z from mm_u_at, show mm_u ν 14 k z 15 k = ν 15 k from mm_u_ne (by omega), show mm_u ν 14 k z 19 k = ν 19 k from mm_u_ne (by omega)]; omega
    · rw [show mm_u ν 14 i z 13 k = ν 13 k from mm_u_ne (by omega), show mm_u ν 14 i z 14 k = ν 14 k from mm_u_ne (by omega), show mm_u ν 14 i z 15 k = ν 15 k from mm_u_ne (by omega), show mm_u ν 14 i z 19 k = ν 19 k from mm_u_ne (by omega)]; exact h
  · intro k a b
    have h := h12 k a b
    rw [show mm_u ν 14 i z 9 k = ν 9 k from mm_u_ne (by omega)]; exact h
  · intro k a b
    have h := h13 k a b
    rw [show mm_u ν 14 i z 17 k = ν 17 k from mm_u_ne (by omega)]; exact h
  · intro k a b
    have h := h14 k a b
    rw [show mm_u ν 14 i z 25 k = ν 25 k from mm_u_ne (by omega), show mm_u ν 14 i z 26 k = ν 26 k from mm_u_ne (by omega), show mm_u ν 14 i z 28 k = ν 28 k from mm_u_ne (by omega)]; exact h
set_option maxHeartbeats 1000000 in
theorem mo_Bu_15 (h : mo_B ν) (hz : 0 ≤ z ∧ z ≤ 5) : mo_B (mm_u ν 15 i z) := by
  obtain ⟨h1, h2, h3, h4, h5, h6, h7, h8, h9, h10, h11, h12, h13, h14⟩ := h
  refine ⟨?_, ?_, ?_, ?_, ?_, ?_, ?_, ?_, ?_, ?_, ?_, ?_, ?_, ?_⟩
  · rw [show mm_u ν 15 i z 0 1 = ν 0 1 from mm_u_ne (by omega)]; first | exact h1 | omega
  · rw [show mm_u ν 15 i z 0 8 = ν 0 8 from mm_u_ne (by omega)]; first | exact h2 | omega
  · rw [show mm_u ν 15 i z 0 12 = ν 0 12 from mm_u_ne (by omega)]; first | exact h3 | omega
  · rw [show mm_u ν 15 i z 0 21 = ν 0 21 from mm_u_ne (by omega), show mm_u ν 15 i z 0 12 = ν 0 12 from mm_u_ne (by omega)]; first | exact h4 | omega
  · rw [show mm_u ν 15 i z 0 22 = ν 0 22 from mm_u_ne (by omega)]; first | exact h5 | omega
  · rw [show mm_u ν 15 i z 0 24 = ν 0 24 from mm_u_ne (by omega)]; first | exact h6 | omega
  · intro k a b
    have h := h7 k a b
    rw [show mm_u ν 15 i z 3 k = ν 3 k from mm_u_ne (by omega)]; exact h
  · intro k a b
    have h := h8 k a b
    rw [show mm_u ν 15 i z 2 k = ν 2 k from mm_u_ne (by omega)]; exact h
  · intro k a b
    have h := h9 k a b
    rw [show mm_u ν 15 i z 4 k = ν 4 k from mm_u_ne (by omega)]; exact h
  · intro k a b
    have h := h10 k a b
    rw [show mm_u ν 15 i z 10 k = ν 10 k from mm_u_ne (by omega)]; exact h
  · intro k a b
    have h := h11 k a b
    by_cases hk : k = i
    · subst hk
      rw [show mm_u ν 15 k z 13 k = ν 13 k from mm_u_ne (by omega), show mm_u ν 15 k z 14 k = ν 14 k from mm_u_ne (by omega), show mm_u ν 15 k z 15 k = z from mm_u_at, show mm_u ν 15 k z 19 k = ν 19 k from mm_u_ne (by omega)]; omega
    · rw [show mm_u ν 15 i z 13 k = ν 13 k from mm_u_ne (by omega), show mm_u ν 15 i z 14 k = ν 14 k from mm_u_ne (by omega), show mm_u ν 15 i z 15 k = ν 15 k from mm_u_ne (by omega), show mm_u ν 15 i z 19 k = ν 19 k from mm_u_ne (by omega)]; exact h
  · intro k a b
    have h := h12 k a b
    rw [show mm_u ν 15 i z 9 k = ν 9 k from mm_u_ne (by omega)]; exact h
  · intro k a b
    have h := h13 k a b
    rw [show mm_u ν 15 i z 17 k = ν 17 k from mm_u_ne (by omega)]; exact h
  · intro k a b
    have h := h14 k a b
    rw [show mm_u ν 15 i z 25 k = ν 25 k from mm_u_ne (by omega), show mm_u ν 15 i z 26 k = ν 26 k from mm_u_ne (by omega), show mm_u ν 15 i z 28 k = ν 28 k from mm_u_ne (by omega)]; exact h
set_option maxHeartbeats 1000000 in
theorem mo_Bu_19 (h : mo_B ν) (hz : 0 ≤ z ∧ z ≤ 8) : mo_B (mm_u ν 19 i z) := by
  obtain ⟨h1, h2, h3, h4, h5, h6, h7, h8, h9, h10, h11, h12, h13, h14⟩ := h
  refine ⟨?_, ?_, ?_, ?_, ?_, ?_, ?_, ?_, ?_, ?_, ?_, ?_, ?_, ?_⟩
  · rw [show mm_u ν 19 i z 0 1 = ν 0 1 from mm_u_ne (by omega)]; first | exact h1 | omega
  · rw [show mm_u ν 19 i z 0 8 = ν 0 8 from mm_u_ne (by omega)]; first | exact h2 | omega
  · rw [show mm_u ν 19 i z 0 12 = ν 0 12 from mm_u_ne (by omega)]; first | exact h3 | omega
  · rw [show mm_u ν 19 i z 0 21 = ν 0 21 from mm_u_ne (by omega), show mm_u ν 19 i z 0 12 = ν 0 12 from mm_u_ne (by omega)]; first | exact h4 | omega
  · rw [show mm_u ν 19 i z 0 22 = ν 0 22 from mm_u_ne (by omega)]; first | exact h5 | omega
  · rw [show mm_u ν 19 i z 0 24 = ν 0 24 from mm_u_ne (by omega)]; first | exact h6 | omega
  · intro k a b
    have h := h7 k a b
    rw [show mm_u ν 19 i z 3 k = ν 3 k from mm_u_ne (by omega)]; exact h
  · intro k a b
    have h := h8 k a b
    rw [show mm_u ν 19 i z 2 k = ν 2 k from mm_u_ne (by omega)]; exact h
  · intro k a b
    have h := h9 k a b
    rw [show mm_u ν 19 i z 4 k = ν 4 k from mm_u_ne (by omega)]; exact h
  · intro k a b
    have h := h10 k a b
    rw [show mm_u ν 19 i z 10 k = ν 10 k from mm_u_ne (by omega)]; exact h
  · intro k a b
    have h := h11 k a b
    by_cases hk : k = i
    · subst hk
      rw [show mm_u ν 19 k z 13 k = ν 13 k from mm_u_ne (by omega), show mm_u ν 19 k z 14 k = ν 14 k from mm_u_ne (by omega), show mm_u ν 19 k z 15 k = ν 15 k from mm_u_ne (by omega), show mm_u ν 19 k z 19 k = z from mm_u_at]; omega
    · rw [show mm_u ν 19 i z 13 k = ν 13 k from mm_u_ne (by omega), show mm_u ν 19 i z 14 k = ν 14 k from mm_u_ne (by omega), show mm_u ν 19 i z 15 k = ν 15 k from mm_u_ne (by omega), show mm_u ν 19 i z 19 k = ν 19 k from mm_u_ne (by omega)]; exact h
  · intro k a b
    have h := h12 k a b
    rw [show mm_u ν 19 i z 9 k = ν 9 k from mm_u_ne (by omega)]; exact h
  · intro k a b
    have h := h13 k a b
    rw [show mm_u ν 19 i z 17 k = ν 17 k from mm_u_ne (by omega)]; exact h
  · intro k a b
    have h := h14 k a b
    rw [show mm_u ν 19 i z 25 k = ν 25 k from mm_u_ne (by omega), show mm_u ν 19 i z 26 k = ν 26 k from mm_u_ne (by omega), show mm_u ν 19 i z 28 k = ν 28 k from mm_u_ne (by omega)]; exact h
set_option maxHeartbeats 1000000 in
theorem mo_Bu_9 (h : mo_B ν) (hz : 0 ≤ z ∧ z ≤ 1024) : mo_B (mm_u ν 9 i z) := by
  obtain ⟨h1, h2, h3, h4, h5, h6, h7, h8, h9, h10, h11, h12, h13, h14⟩ := h
  refine ⟨?_, ?_, ?_, ?_, ?_, ?_, ?_, ?_, ?_, ?_, ?_, ?_, ?_, ?_⟩
  · rw [show mm_u ν 9 i z 0 1 = ν 0 1 from mm_u_ne (by omega)]; first | exact h1 | omega
  · rw [show mm_u ν 9 i z 0 8 = ν 0 8 from mm_u_ne (by omega)]; first | exact h2 | omega
  · rw [show mm_u ν 9 i z 0 12 = ν 0 12 from mm_u_ne (by omega)]; first | exact h3 | omega
  · rw [show mm_u ν 9 i z 0 21 = ν 0 21 from mm_u_ne (by omega), show mm_u ν 9 i z 0 12 = ν 0 12 from mm_u_ne (by omega)]; first | exact h4 | omega
  · rw [show mm_u ν 9 i z 0 22 = ν 0 22 from mm_u_ne (by omega)]; first | exact h5 | omega
  · rw [show mm_u ν 9 i z 0 24 = ν 0 24 from mm_u_ne (by omega)]; first | exact h6 | omega
  · intro k a b
    have h := h7 k a b
    rw [show mm_u ν 9 i z 3 k = ν 3 k from mm_u_ne (by omega)]; exact h
  · intro k a b
    have h := h8 k a b
    rw [show mm_u ν 9 i z 2 k = ν 2 k from mm_u_ne (by omega)]; exact h
  · intro k a b
    have h := h9 k a b
    rw [show mm_u ν 9 i z 4 k = ν 4 k from mm_u_ne (by omega)]; exact h
  · intro k a b
    have h := h10 k a b
    rw [show mm_u ν 9 i z 10 k = ν 10 k from mm_u_ne (by omega)]; exact h
  · intro k a b
    have h := h11 k a b
    rw [show mm_u ν 9 i z 13 k = ν 13 k from mm_u_ne (by omega), show mm_u ν 9 i z 14 k = ν 14 k from mm_u_ne (by omega), show mm_u ν 9 i z 15 k = ν 15 k from mm_u_ne (by omega), show mm_u ν 9 i z 19 k = ν 19 k from mm_u_ne (by omega)]; exact h
  · intro k a b
    have h := h12 k a b
    by_cases hk : k = i
    · subst hk
      rw [show mm_u ν 9 k z 9 k = z from mm_u_at]; omega
    · rw [show mm_u ν 9 i z 9 k = ν 9 k from mm_u_ne (by omega)]; exact h
  · intro k a b
    have h := h13 k a b
    rw [show mm_u ν 9 i z 17 k = ν 17 k from mm_u_ne (by omega)]; exact h
  · intro k a b
    have h := h14 k a b
    rw [show mm_u ν 9 i z 25 k = ν 25 k from mm_u_ne (by omega), show mm_u ν 9 i z 26 k = ν 26 k from mm_u_ne (by omega), show mm_u ν 9 i z 28 k = ν 28 k from mm_u_ne (by omega)]; exact h
set_option maxHeartbeats 1000000 in
theorem mo_Bu_17 (h : mo_B ν) (hz : -1 ≤ z ∧ z ≤ 4096) : mo_B (mm_u ν 17 i z) := by
  obtain ⟨h1, h2, h3, h4, h5, h6, h7, h8, h9, h10, h11, h12, h13, h14⟩ := h
  refine ⟨?_, ?_, ?_, ?_, ?_, ?_, ?_, ?_, ?_, ?_, ?_, ?_, ?_, ?_⟩
  · rw [show mm_u ν 17 i z 0 1 = ν 0 1 from mm_u_ne (by omega)]; first | exact h1 | omega
  · rw [show mm_u ν 17 i z 0 8 = ν 0 8 from mm_u_ne (by omega)]; first | exact h2 | omega
  · rw [show mm_u ν 17 i z 0 12 = ν 0 12 from mm_u_ne (by omega)]; first | exact h3 | omega
  · rw [show mm_u ν 17 i z 0 21 = ν 0 21 from mm_u_ne (by omega), show mm_u ν 17 i z 0 12 = ν 0 12 from mm_u_ne (by omega)]; first | exact h4 | omega
  · rw [show mm_u ν 17 i z 0 22 = ν 0 22 from mm_u_ne (by omega)]; first | exact h5 | omega
  · rw [show mm_u ν 17 i z 0 24 = ν 0 24 from mm_u_ne (by omega)]; first | exact h6 | omega
  · intro k a b
    have h := h7 k a b
    rw [show mm_u ν 17 i z 3 k = ν 3 k from mm_u_ne (by omega)]; exact h
  · intro k a b
    have h := h8 k a b
    rw [show mm_u ν 17 i z 2 k = ν 2 k from mm_u_ne (by omega)]; exact h
  · intro k a b
    have h := h9 k a b
    rw [show mm_u ν 17 i z 4 k = ν 4 k from mm_u_ne (by omega)]; exact h
  · intro k a b
    have h := h10 k a b
    rw [show mm_u ν 17 i z 10 k = ν 10 k from mm_u_ne (by omega)]; exact h
  · intro k a b
    have h := h11 k a b
    rw [show mm_u ν 17 i z 13 k = ν 13 k from mm_u_ne (by omega), show mm_u ν 17 i z 14 k = ν 14 k from mm_u_ne (by omega), show mm_u ν 17 i z 15 k = ν 15 k from mm_u_ne (by omega), show mm_u ν 17 i z 19 k = ν 19 k from mm_u_ne (by omega)]; exact h
  · intro k a b
    have h := h12 k a b
    rw [show mm_u ν 17 i z 9 k = ν 9 k from mm_u_ne (by omega)]; exact h
  · intro k a b
    have h := h13 k a b
    by_cases hk : k = i
    · subst hk
      rw [show mm_u ν 17 k z 17 k = z from mm_u_at]; omega
    · rw [show mm_u ν 17 i z 17 k = ν 17 k from mm_u_ne (by omega)]; exact h
  · intro k a b
    have h := h14 k a b
    rw [show mm_u ν 17 i z 25 k = ν 25 k from mm_u_ne (by omega), show mm_u ν 17 i z 26 k = ν 26 k from mm_u_ne (by omega), show mm_u ν 17 i z 28 k = ν 28 k from mm_u_ne (by omega)]; exact h
set_option maxHeartbeats 1000000 in
theorem mo_Bu_25 (h : mo_B ν) (hz : 0 ≤ z ∧ z < 40) : mo_B (mm_u ν 25 i z) := by
  obtain ⟨h1, h2, h3, h4, h5, h6, h7, h8, h9, h10, h11, h12, h13, h14⟩ := h
  refine ⟨?_, ?_, ?_, ?_, ?_, ?_, ?_, ?_, ?_, ?_, ?_, ?_, ?_, ?_⟩
  · rw [show mm_u ν 25 i z 0 1 = ν 0 1 from mm_u_ne (by omega)]; first | exact h1 | omega
  · rw [show mm_u ν 25 i z 0 8 = ν 0 8 from mm_u_ne (by omega)]; first | exact h2 | omega
  · rw [show mm_u ν 25 i z 0 12 = ν 0 12 from mm_u_ne (by omega)]; first | exact h3 | omega
  · rw [show mm_u ν 25 i z 0 21 = ν 0 21 from mm_u_ne (by omega), show mm_u ν 25 i z 0 12 = ν 0 12 from mm_u_ne (by omega)]; first | exact h4 | omega
  · rw [show mm_u ν 25 i z 0 22 = ν 0 22 from mm_u_ne (by omega)]; first | exact h5 | omega
  · rw [show mm_u ν 25 i z 0 24 = ν 0 24 from mm_u_ne (by omega)]; first | exact h6 | omega
  · intro k a b
    have h := h7 k a b
    rw [show mm_u ν 25 i z 3 k = ν 3 k from mm_u_ne (by omega)]; exact h
  · intro k a b
    have h := h8 k a b
    rw [show mm_u ν 25 i z 2 k = ν 2 k from mm_u_ne (by omega)]; exact h
  · intro k a b
    have h := h9 k a b
    rw [show mm_u ν 25 i z 4 k = ν 4 k from mm_u_ne (by omega)]; exact h
  · intro k a b
    have h := h10 k a b
    rw [show mm_u ν 25 i z 10 k = ν 10 k from mm_u_ne (by omega)]; exact h
  · intro k a b
    have h := h11 k a b
    rw [show mm_u ν 25 i z 13 k = ν 13 k from mm_u_ne (by omega), show mm_u ν 25 i z 14 k = ν 14 k from mm_u_ne (by omega), show mm_u ν 25 i z 15 k = ν 15 k from mm_u_ne (by omega), show mm_u ν 25 i z 19 k = ν 19 k from mm_u_ne (by omega)]; exact h
  · intro k a b
    have h := h12 k a b
    rw [show mm_u ν 25 i z 9 k = ν 9 k from mm_u_ne (by omega)]; exact h
  · intro k a b
    have h := h13 k a b
    rw [show mm_u ν 25 i z 17 k = ν 17 k from mm_u_ne (by omega)]; exact h
  · intro k a b
    have h := h14 k a b
    by_cases hk : k = i
    · subst hk
      rw [show mm_u ν 25 k z 25 k = z from mm_u_at, show mm_u ν 25 k z 26 k = ν 26 k from mm_u_ne (by omega), show mm_u ν 25 k z 28 k = ν 28 k from mm_u_ne (by omega)]; omega
    · rw [show mm_u ν 25 i z 25 k = ν 25 k from mm_u_ne (by omega), show mm_u ν 25 i z 26 k = ν 26 k from mm_u_ne (by omega), show mm_u ν 25 i z 28 k = ν 28 k from mm_u_ne (by omega)]; exact h
set_option maxHeartbeats 1000000 in
theorem mo_Bu_26 (h : mo_B ν) (hz : 0 ≤ z ∧ z < 2147483648) : mo_B (mm_u ν 26 i z) := by
  obtain ⟨h1, h2, h3, h4, h5, h6, h7, h8, h9, h10, h11, h12, h13, h14⟩ := h
  refine ⟨?_, ?_, ?_, ?_, ?_, ?_, ?_, ?_, ?_, ?_, ?_, ?_, ?_, ?_⟩
  · rw [show mm_u ν 26 i z 0 1 = ν 0 1 from mm_u_ne (by omega)]; first | exact h1 | omega
  · rw [show mm_u ν 26 i z 0 8 = ν 0 8 from mm_u_ne (by omega)]; first | exact h2 | omega
  · rw [show mm_u ν 26 i z 0 12 = ν 0 12 from mm_u_ne (by omega)]; first | exact h3 | omega
  · rw [show mm_u ν 26 i z 0 21 = ν 0 21 from mm_u_ne (by omega), show mm_u ν 26 i z 0 12 = ν 0 12 from mm_u_ne (by omega)]; first | exact h4 | omega
  · rw [show mm_u ν 26 i z 0 22 = ν 0 22 from mm_u_ne (by omega)]; first | exact h5 | omega
  · rw [show mm_u ν 26 i z 0 24 = ν 0 24 from mm_u_ne (by omega)]; first | exact h6 | omega
  · intro k a b
    have h := h7 k a b
    rw [show mm_u ν 26 i z 3 k = ν 3 k from mm_u_ne (by omega)]; exact h
  · intro k a b
    have h := h8 k a b
    rw [show mm_u ν 26 i z 2 k = ν 2 k from mm_u_ne (by omega)]; exact h
  · intro k a b
    have h := h9 k a b
    rw [show mm_u ν 26 i z 4 k = ν 4 k from mm_u_ne (by omega)]; exact h
  · intro k a b
    have h := h10 k a b
    rw [show mm_u ν 26 i z 10 k = ν 10 k from mm_u_ne (by omega)]; exact h
  · intro k a b
    have h := h11 k a b
    rw [show mm_u ν 26 i z 13 k = ν 13 k from mm_u_ne (by omega), show mm_u ν 26 i z 14 k = ν 14 k from mm_u_ne (by omega), show mm_u ν 26 i z 15 k = ν 15 k from mm_u_ne (by omega), show mm_u ν 26 i z 19 k = ν 19 k from mm_u_ne (by omega)]; exact h
  · intro k a b
    have h := h12 k a b
    rw [show mm_u ν 26 i z 9 k = ν 9 k from mm_u_ne (by omega)]; exact h
  · intro k a b
    have h := h13 k a b
    rw [show mm_u ν 26 i z 17 k = ν 17 k from mm_u_ne (by omega)]; exact h
  · intro k a b
    have h := h14 k a b
    by_cases hk : k = i
    · subst hk
      rw [show mm_u ν 26 k z 25 k = ν 25 k from mm_u_ne (by omega), show mm_u ν 26 k z 26 k = z from mm_u_at, show mm_u ν 26 k z 28 k = ν 28 k from mm_u_ne (by omega)]; omega
    · rw [show mm_u ν 26 i z 25 k = ν 25 k from mm_u_ne (by omega), show mm_u ν 26 i z 26 k = ν 26 k from mm_u_ne (by omega), show mm_u ν 26 i z 28 k = ν 28 k from mm_u_ne (by omega)]; exact h
set_option maxHeartbeats 1000000 in
theorem mo_Bu_28 (h : mo_B ν) (hz : -4398046511104 ≤ z ∧ z ≤ 4398046511104) : mo_B (mm_u ν 28 i z) := by
  obtain ⟨h1, h2, h3, h4, h5, h6, h7, h8, h9, h10, h11, h12, h13, h14⟩ := h
  refine ⟨?_, ?_, ?_, ?_, ?_, ?_, ?_, ?_, ?_, ?_, ?_, ?_, ?_, ?_⟩
  · rw [show mm_u ν 28 i z 0 1 = ν 0 1 from mm_u_ne (by omega)]; first | exact h1 | omega
  · rw [show mm_u ν 28 i z 0 8 = ν 0 8 from mm_u_ne (by omega)]; first | exact h2 | omega
  · rw [show mm_u ν 28 i z 0 12 = ν 0 12 from mm_u_ne (by omega)]; first | exact h3 | omega
  · rw [show mm_u ν 28 i z 0 21 = ν 0 21 from mm_u_ne (by omega), show mm_u ν 28 i z 0 12 = ν 0 12 from mm_u_ne (by omega)]; first | exact h4 | omega
  · rw [show mm_u ν 28 i z 0 22 = ν 0 22 from mm_u_ne (by omega)]; first | exact h5 | omega
  · rw [show mm_u ν 28 i z 0 24 = ν 0 24 from mm_u_ne (by omega)]; first | exact h6 | omega
  · intro k a b
    have h := h7 k a b
    rw [show mm_u ν 28 i z 3 k = ν 3 k from mm_u_ne (by omega)]; exact h
  · intro k a b
    have h := h8 k a b
    rw [show mm_u ν 28 i z 2 k = ν 2 k from mm_u_ne (by omega)]; exact h
  · intro k a b
    have h := h9 k a b
    rw [show mm_u ν 28 i z 4 k = ν 4 k from mm_u_ne (by omega)]; exact h
  · intro k a b
    have h := h10 k a b
    rw [show mm_u ν 28 i z 10 k = ν 10 k from mm_u_ne (by omega)]; exact h
  · intro k a b
    have h := h11 k a b
    rw [show mm_u ν 28 i z 13 k = ν 13 k from mm_u_ne (by omega), show mm_u ν 28 i z 14 k = ν 14 k from mm_u_ne (by omega), show mm_u ν 28 i z 15 k = ν 15 k from mm_u_ne (by omega), show mm_u ν 28 i z 19 k = ν 19 k from mm_u_ne (by omega)]; exact h
  · intro k a b
    have h := h12 k a b
    rw [show mm_u ν 28 i z 9 k = ν 9 k from mm_u_ne (by omega)]; exact h
  · intro k a b
    have h := h13 k a b
    rw [show mm_u ν 28 i z 17 k = ν 17 k from mm_u_ne (by omega)]; exact h
  · intro k a b
    have h := h14 k a b
    by_cases hk : k = i
    · subst hk
      rw [show mm_u ν 28 k z 25 k = ν 25 k from mm_u_ne (by omega), show mm_u ν 28 k z 26 k = ν 26 k from mm_u_ne (by omega), show mm_u ν 28 k z 28 k = z from mm_u_at]; omega
    · rw [show mm_u ν 28 i z 25 k = ν 25 k from mm_u_ne (by omega), show mm_u ν 28 i z 26 k = ν 26 k from mm_u_ne (by omega), show mm_u ν 28 i z 28 k = ν 28 k from mm_u_ne (by omega)]; exact h
set_option maxHeartbeats 1000000 in
theorem mo_Bs_1 (h : mo_B ν) (hz : 1 ≤ z ∧ z ≤ 8) : mo_B (mm_u ν 0 1 z) := by
  obtain ⟨h1, h2, h3, h4, h5, h6, h7, h8, h9, h10, h11, h12, h13, h14⟩ := h
  refine ⟨?_, ?_, ?_, ?_, ?_, ?_, ?_, ?_, ?_, ?_, ?_, ?_, ?_, ?_⟩
  · rw [show mm_u ν 0 1 z 0 1 = z from mm_u_at]; first | exact h1 | omega
  · rw [show mm_u ν 0 1 z 0 8 = ν 0 8 from mm_u_ne (by omega)]; first | exact h2 | omega
  · rw [show mm_u ν 0 1 z 0 12 = ν 0 12 from mm_u_ne (by omega)]; first | exact h3 | omega
  · rw [show mm_u ν 0 1 z 0 21 = ν 0 21 from mm_u_ne (by omega), show mm_u ν 0 1 z 0 12 = ν 0 12 from mm_u_ne (by omega)]; first | exact h4 | omega
  · rw [show mm_u ν 0 1 z 0 22 = ν 0 22 from mm_u_ne (by omega)]; first | exact h5 | omega
  · rw [show mm_u ν 0 1 z 0 24 = ν 0 24 from mm_u_ne (by omega)]; first | exact h6 | omega
  · intro k a b
    have h := h7 k a b
    rw [show mm_u ν 0 1 z 3 k = ν 3 k from mm_u_ne (by omega)]; exact h
  · intro k a b
    have h := h8 k a b
    rw [show mm_u ν 0 1 z 2 k = ν 2 k from mm_u_ne (by omega)]; exact h
  · intro k a b
    have h := h9 k a b
    rw [show mm_u ν 0 1 z 4 k = ν 4 k from mm_u_ne (by omega)]; exact h
  · intro k a b
    have h := h10 k a b
    rw [show mm_u ν 0 1 z 10 k = ν 10 k from mm_u_ne (by omega)]; exact h
  · intro k a b
    have h := h11 k a b
    rw [show mm_u ν 0 1 z 13 k = ν 13 k from mm_u_ne (by omega), show mm_u ν 0 1 z 14 k = ν 14 k from mm_u_ne (by omega), show mm_u ν 0 1 z 15 k = ν 15 k from mm_u_ne (by omega), show mm_u ν 0 1 z 19 k = ν 19 k from mm_u_ne (by omega)]; exact h
  · intro k a b
    have h := h12 k a b
    rw [show mm_u ν 0 1 z 9 k = ν 9 k from mm_u_ne (by omega)]; exact h
  · intro k a b
    have h := h13 k a b
    rw [show mm_u ν 0 1 z 17 k = ν 17 k from mm_u_ne (by omega)]; exact h
  · intro k a b
    have h := h14 k a b
    rw [show mm_u ν 0 1 z 25 k = ν 25 k from mm_u_ne (by omega), show mm_u ν 0 1 z 26 k = ν 26 k from mm_u_ne (by omega), show mm_u ν 0 1 z 28 k = ν 28 k from mm_u_ne (by omega)]; exact h
set_option maxHeartbeats 1000000 in
theorem mo_Bs_8 (h : mo_B ν) (hz : 0 ≤ z ∧ z ≤ 16) : mo_B (mm_u ν 0 8 z) := by
  obtain ⟨h1, h2, h3, h4, h5, h6, h7, h8, h9, h10, h11, h12, h13, h14⟩ := h
  refine ⟨?_, ?_, ?_, ?_, ?_, ?_, ?_, ?_, ?_, ?_, ?_, ?_, ?_, ?_⟩
  · rw [show mm_u ν 0 8 z 0 1 = ν 0 1 from mm_u_ne (by omega)]; first | exact h1 | omega
  · rw [show mm_u ν 0 8 z 0 8 = z from mm_u_at]; first | exact h2 | omega
  · rw [show mm_u ν 0 8 z 0 12 = ν 0 12 from mm_u_ne (by omega)]; first | exact h3 | omega
  · rw [show mm_u ν 0 8 z 0 21 = ν 0 21 from mm_u_ne (by omega), show mm_u ν 0 8 z 0 12 = ν 0 12 from mm_u_ne (by omega)]; first | exact h4 | omega
  · rw [show mm_u ν 0 8 z 0 22 = ν 0 22 from mm_u_ne (by omega)]; first | exact h5 | omega
  · rw [show mm_u ν 0 8 z 0 24 = ν 0 24 from mm_u_ne (by omega)]; first | exact h6 | omega
  · intro k a b
    have h := h7 k a b
    rw [show mm_u ν 0 8 z 3 k = ν 3 k from mm_u_ne (by omega)]; exact h
  · intro k a b
    have h := h8 k a b
    rw [show mm_u ν 0 8 z 2 k = ν 2 k from mm_u_ne (by omega)]; exact h
  · intro k a b
    have h := h9 k a b
    rw [show mm_u ν 0 8 z 4 k = ν 4 k from mm_u_ne (by omega)]; exact h
  · intro k a b
    have h := h10 k a b
    rw [show mm_u ν 0 8 z 10 k = ν 10 k from mm_u_ne (by omega)]; exact h
  · intro k a b
    have h := h11 k a b
    rw [show mm_u ν 0 8 z 13 k = ν 13 k from mm_u_ne (by omega), show mm_u ν 0 8 z 14 k = ν 14 k from mm_u_ne (by omega), show mm_u ν 0 8 z 15 k = ν 15 k from mm_u_ne (by omega), show mm_u ν 0 8 z 19 k = ν 19 k from mm_u_ne (by omega)]; exact h
  · intro k a b
    have h := h12 k a b
    rw [show mm_u ν 0 8 z 9 k = ν 9 k from mm_u_ne (by omega)]; exact h
  · intro k a b
    have h := h13 k a b
    rw [show mm_u ν 0 8 z 17 k = ν 17 k from mm_u_ne (by omega)]; exact h
  · intro k a b
    have h := h14 k a b
    rw [show mm_u ν 0 8 z 25 k = ν 25 k from mm_u_ne (by omega), show mm_u ν 0 8 z 26 k = ν 26 k from mm_u_ne (by omega), show mm_u ν 0 8 z 28 k = ν 28 k from mm_u_ne (by omega)]; exact h
set_option maxHeartbeats 1000000 in
theorem mo_Bs_12 (h : mo_B ν) (hz : 0 ≤ z ∧ z ≤ 40 ∧ ν 0 21 < z) : mo_B (mm_u ν 0 12 z) := by
  obtain ⟨h1, h2, h3, h4, h5, h6, h7, h8, h9, h10, h11, h12, h13, h14⟩ := h
  refine ⟨?_, ?_, ?_, ?_, ?_, ?_, ?_, ?_, ?_, ?_, ?_, ?_, ?_, ?_⟩
  · rw [show mm_u ν 0 12 z 0 1 = ν 0 1 from mm_u_ne (by omega)]; first | exact h1 | omega
  · rw [show mm_u ν 0 12 z 0 8 = ν 0 8 from mm_u_ne (by omega)]; first | exact h2 | omega
  · rw [show mm_u ν 0 12 z 0 12 = z from mm_u_at]; first | exact h3 | omega
  · rw [show mm_u ν 0 12 z 0 21 = ν 0 21 from mm_u_ne (by omega), show mm_u ν 0 12 z 0 12 = z from mm_u_at]; first | exact h4 | omega
  · rw [show mm_u ν 0 12 z 0 22 = ν 0 22 from mm_u_ne (by omega)]; first | exact h5 | omega
  · rw [show mm_u ν 0 12 z 0 24 = ν 0 24 from mm_u_ne (by omega)]; first | exact h6 | omega
  · intro k a b
    have h := h7 k a b
    rw [show mm_u ν 0 12 z 3 k = ν 3 k from mm_u_ne (by omega)]; exact h
  · intro k a b
    have h := h8 k a b
    rw [show mm_u ν 0 12 z 2 k = ν 2 k from mm_u_ne (by omega)]; exact h
  · intro k a b
    have h := h9 k a b
    rw [show mm_u ν 0 12 z 4 k = ν 4 k from mm_u_ne (by omega)]; exact h
  · intro k a b
    have h := h10 k a b
    rw [show mm_u ν 0 12 z 10 k = ν 10 k from mm_u_ne (by omega)]; exact h
  · intro k a b
    have h := h11 k a b
    rw [show mm_u ν 0 12 z 13 k = ν 13 k from mm_u_ne (by omega), show mm_u ν 0 12 z 14 k = ν 14 k from mm_u_ne (by omega), show mm_u ν 0 12 z 15 k = ν 15 k from mm_u_ne (by omega), show mm_u ν 0 12 z 19 k = ν 19 k from mm_u_ne (by omega)]; exact h
  · intro k a b
    have h := h12 k a b
    rw [show mm_u ν 0 12 z 9 k = ν 9 k from mm_u_ne (by omega)]; exact h
  · intro k a b
    have h := h13 k a b
    rw [show mm_u ν 0 12 z 17 k = ν 17 k from mm_u_ne (by omega)]; exact h
  · intro k a b
    have h := h14 k a b
    rw [show mm_u ν 0 12 z 25 k = ν 25 k from mm_u_ne (by omega), show mm_u ν 0 12 z 26 k = ν 26 k from mm_u_ne (by omega), show mm_u ν 0 12 z 28 k = ν 28 k from mm_u_ne (by omega)]; exact h
set_option maxHeartbeats 1000000 in
theorem mo_Bs_21 (h : mo_B ν) (hz : -1 ≤ z ∧ z < ν 0 12) : mo_B (mm_u ν 0 21 z) := by
  obtain ⟨h1, h2, h3, h4, h5, h6, h7, h8, h9, h10, h11, h12, h13, h14⟩ := h
  refine ⟨?_, ?_, ?_, ?_, ?_, ?_, ?_, ?_, ?_, ?_, ?_, ?_, ?_, ?_⟩
  · rw [show mm_u ν 0 21 z 0 1 = ν 0 1 from mm_u_ne (by omega)]; first | exact h1 | omega
  · rw [show mm_u ν 0 21 z 0 8 = ν 0 8 from mm_u_ne (by omega)]; first | exact h2 | omega
  · rw [show mm_u ν 0 21 z 0 12 = ν 0 12 from mm_u_ne (by omega)]; first | exact h3 | omega
  · rw [show mm_u ν 0 21 z 0 21 = z from mm_u_at, show mm_u ν 0 21 z 0 12 = ν 0 12 from mm_u_ne (by omega)]; first | exact h4 | omega
  · rw [show mm_u ν 0 21 z 0 22 = ν 0 22 from mm_u_ne (by omega)]; first | exact h5 | omega
  · rw [show mm_u ν 0 21 z 0 24 = ν 0 24 from mm_u_ne (by omega)]; first | exact h6 | omega
  · intro k a b
    have h := h7 k a b
    rw [show mm_u ν 0 21 z 3 k = ν 3 k from mm_u_ne (by omega)]; exact h
  · intro k a b
    have h := h8 k a b
    rw [show mm_u ν 0 21 z 2 k = ν 2 k from mm_u_ne (by omega)]; exact h
  · intro k a b
    have h := h9 k a b
    rw [show mm_u ν 0 21 z 4 k = ν 4 k from mm_u_ne (by omega)]; exact h
  · intro k a b
    have h := h10 k a b
    rw [show mm_u ν 0 21 z 10 k = ν 10 k from mm_u_ne (by omega)]; exact h
  · intro k a b
    have h := h11 k a b
    rw [show mm_u ν 0 21 z 13 k = ν 13 k from mm_u_ne (by omega), show mm_u ν 0 21 z 14 k = ν 14 k from mm_u_ne (by omega), show mm_u ν 0 21 z 15 k = ν 15 k from mm_u_ne (by omega), show mm_u ν 0 21 z 19 k = ν 19 k from mm_u_ne (by omega)]; exact h
  · intro k a b
    have h := h12 k a b
    rw [show mm_u ν 0 21 z 9 k = ν 9 k from mm_u_ne (by omega)]; exact h
  · intro k a b
    have h := h13 k a b
    rw [show mm_u ν 0 21 z 17 k = ν 17 k from mm_u_ne (by omega)]; exact h
  · intro k a b
    have h := h14 k a b
    rw [show mm_u ν 0 21 z 25 k = ν 25 k from mm_u_ne (by omega), show mm_u ν 0 21 z 26 k = ν 26 k from mm_u_ne (by omega), show mm_u ν 0 21 z 28 k = ν 28 k from mm_u_ne (by omega)]; exact h
set_option maxHeartbeats 1000000 in
theorem mo_Bs_22 (h : mo_B ν) (hz : z = 0 ∨ z = 1) : mo_B (mm_u ν 0 22 z) := by
  obtain ⟨h1, h2, h3, h4, h5, h6, h7, h8, h9, h10, h11, h12, h13, h14⟩ := h
  refine ⟨?_, ?_, ?_, ?_, ?_, ?_, ?_, ?_, ?_, ?_, ?_, ?_, ?_, ?_⟩
  · rw [show mm_u ν 0 22 z 0 1 = ν 0 1 from mm_u_ne (by omega)]; first | exact h1 | omega
  · rw [show mm_u ν 0 22 z 0 8 = ν 0 8 from mm_u_ne (by omega)]; first | exact h2 | omega
  · rw [show mm_u ν 0 22 z 0 12 = ν 0 12 from mm_u_ne (by omega)]; first | exact h3 | omega
  · rw [show mm_u ν 0 22 z 0 21 = ν 0 21 from mm_u_ne (by omega), show mm_u ν 0 22 z 0 12 = ν 0 12 from mm_u_ne (by omega)]; first | exact h4 | omega
  · rw [show mm_u ν 0 22 z 0 22 = z from mm_u_at]; first | exact h5 | omega
  · rw [show mm_u ν 0 22 z 0 24 = ν 0 24 from mm_u_ne (by omega)]; first | exact h6 | omega
  · intro k a b
    have h := h7 k a b
    rw [show mm_u ν 0 22 z 3 k = ν 3 k from mm_u_ne (by omega)]; exact h
  · intro k a b
    have h := h8 k a b
    rw [show mm_u ν 0 22 z 2 k = ν 2 k from mm_u_ne (by omega)]; exact h
  · intro k a b
    have h := h9 k a b
    rw [show mm_u ν 0 22 z 4 k = ν 4 k from mm_u_ne (by omega)]; exact h
  · intro k a b
    have h := h10 k a b
    rw [show mm_u ν 0 22 z 10 k = ν 10 k from mm_u_ne (by omega)]; exact h
  · intro k a b
    have h := h11 k a b
    rw [show mm_u ν 0 22 z 13 k = ν 13 k from mm_u_ne (by omega), show mm_u ν 0 22 z 14 k = ν 14 k from mm_u_ne (by omega), show mm_u ν 0 22 z 15 k = ν 15 k from mm_u_ne (by omega), show mm_u ν 0 22 z 19 k = ν 19 k from mm_u_ne (by omega)]; exact h
  · intro k a b
    have h := h12 k a b
    rw [show mm_u ν 0 22 z 9 k = ν 9 k from mm_u_ne (by omega)]; exact h
  · intro k a b
    have h := h13 k a b
    rw [show mm_u ν 0 22 z 17 k = ν 17 k from mm_u_ne (by omega)]; exact h
  · intro k a b
    have h := h14 k a b
    rw [show mm_u ν 0 22 z 25 k = ν 25 k from mm_u_ne (by omega), show mm_u ν 0 22 z 26 k = ν 26 k from mm_u_ne (by omega), show mm_u ν 0 22 z 28 k = ν 28 k from mm_u_ne (by omega)]; exact h
set_option maxHeartbeats 1000000 in
theorem mo_Bs_24 (h : mo_B ν) (hz : 0 ≤ z ∧ z ≤ 512) : mo_B (mm_u ν 0 24 z) := by
  obtain ⟨h1, h2, h3, h4, h5, h6, h7, h8, h9, h10, h11, h12, h13, h14⟩ := h
  refine ⟨?_, ?_, ?_, ?_, ?_, ?_, ?_, ?_, ?_, ?_, ?_, ?_, ?_, ?_⟩
  · rw [show mm_u ν 0 24 z 0 1 = ν 0 1 from mm_u_ne (by omega)]; first | exact h1 | omega
  · rw [show mm_u ν 0 24 z 0 8 = ν 0 8 from mm_u_ne (by omega)]; first | exact h2 | omega
  · rw [show mm_u ν 0 24 z 0 12 = ν 0 12 from mm_u_ne (by omega)]; first | exact h3 | omega
  · rw [show mm_u ν 0 24 z 0 21 = ν 0 21 from mm_u_ne (by omega), show mm_u ν 0 24 z 0 12 = ν 0 12 from mm_u_ne (by omega)]; first | exact h4 | omega
  · rw [show mm_u ν 0 24 z 0 22 = ν 0 22 from mm_u_ne (by omega)]; first | exact h5 | omega
  · rw [show mm_u ν 0 24 z 0 24 = z from mm_u_at]; first | exact h6 | omega
  · intro k a b
    have h := h7 k a b
    rw [show mm_u ν 0 24 z 3 k = ν 3 k from mm_u_ne (by omega)]; exact h
  · intro k a b
    have h := h8 k a b
    rw [show mm_u ν 0 24 z 2 k = ν 2 k from mm_u_ne (by omega)]; exact h
  · intro k a b
    have h := h9 k a b
    rw [show mm_u ν 0 24 z 4 k = ν 4 k from mm_u_ne (by omega)]; exact h
  · intro k a b
    have h := h10 k a b
    rw [show mm_u ν 0 24 z 10 k = ν 10 k from mm_u_ne (by omega)]; exact h
  · intro k a b
    have h := h11 k a b
    rw [show mm_u ν 0 24 z 13 k = ν 13 k from mm_u_ne (by omega), show mm_u ν 0 24 z 14 k = ν 14 k from mm_u_ne (by omega), show mm_u ν 0 24 z 15 k = ν 15 k from mm_u_ne (by omega), show mm_u ν 0 24 z 19 k = ν 19 k from mm_u_ne (by omega)]; exact h
  · intro k a b
    have h := h12 k a b
    rw [show mm_u ν 0 24 z 9 k = ν 9 k from mm_u_ne (by omega)]; exact h
  · intro k a b
    have h := h13 k a b
    rw [show mm_u ν 0 24 z 17 k = ν 17 k from mm_u_ne (by omega)]; exact h
  · intro k a b
    have h := h14 k a b
    rw [show mm_u ν 0 24 z 25 k = ν 25 k from mm_u_ne (by omega), show mm_u ν 0 24 z 26 k = ν 26 k from mm_u_ne (by omega), show mm_u ν 0 24 z 28 k = ν 28 k from mm_u_ne (by omega)]; exact h
set_option maxHeartbeats 1000000 in
theorem mo_Bu_o (h : mo_B ν) (hp : p = 5 ∨ p = 6 ∨ p = 7 ∨ p = 11 ∨ p = 16 ∨ p = 18 ∨ p = 20 ∨ p = 27 ∨ p = 29 ∨ p = 30) : mo_B (mm_u ν p i z) := by
  obtain ⟨h1, h2, h3, h4, h5, h6, h7, h8, h9, h10, h11, h12, h13, h14⟩ := h
  refine ⟨?_, ?_, ?_, ?_, ?_, ?_, ?_, ?_, ?_, ?_, ?_, ?_, ?_, ?_⟩
  · rw [show mm_u ν p i z 0 1 = ν 0 1 from mm_u_ne (by omega)]; exact h1
  · rw [show mm_u ν p i z 0 8 = ν 0 8 from mm_u_ne (by omega)]; exact h2
  · rw [show mm_u ν p i z 0 12 = ν 0 12 from mm_u_ne (by omega)]; exact h3
  · rw [show mm_u ν p i z 0 21 = ν 0 21 from mm_u_ne (by omega), show mm_u ν p i z 0 12 = ν 0 12 from mm_u_ne (by omega)]; exact h4
  · rw [show mm_u ν p i z 0 22 = ν 0 22 from mm_u_ne (by omega)]; exact h5
  · rw [show mm_u ν p i z 0 24 = ν 0 24 from mm_u_ne (by omega)]; exact h6
  · intro k a b
    rw [show mm_u ν p i z 3 k = ν 3 k from mm_u_ne (by omega)]; exact h7 k a b
  · intro k a b
    rw [show mm_u ν p i z 2 k = ν 2 k from mm_u_ne (by omega)]; exact h8 k a b
  · intro k a b
    rw [show mm_u ν p i z 4 k = ν 4 k from mm_u_ne (by omega)]; exact h9 k a b
  · intro k a b
    rw [show mm_u ν p i z 10 k = ν 10 k from mm_u_ne (by omega)]; exact h10 k a b
  · intro k a b
    rw [show mm_u ν p i z 13 k = ν 13 k from mm_u_ne (by omega), show mm_u ν p i z 14 k = ν 14 k from mm_u_ne (by omega), show mm_u ν p i z 15 k = ν 15 k from mm_u_ne (by omega), show mm_u ν p i z 19 k = ν 19 k from mm_u_ne (by omega)]; exact h11 k a b
  · intro k a b
    rw [show mm_u ν p i z 9 k = ν 9 k from mm_u_ne (by omega)]; exact h12 k a b
  · intro k a b
    rw [show mm_u ν p i z 17 k = ν 17 k from mm_u_ne (by omega)]; exact h13 k a b
  · intro k a b
    rw [show mm_u ν p i z 25 k = ν 25 k from mm_u_ne (by omega), show mm_u ν p i z 26 k = ν 26 k from mm_u_ne (by omega), show mm_u ν p i z 28 k = ν 28 k from mm_u_ne (by omega)]; exact h14 k a b
end MO16
