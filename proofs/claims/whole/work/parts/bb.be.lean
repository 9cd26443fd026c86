/-! the beginning: the reference's memory once made -/
def be_l : List Int := [5, 7, 9, 10, 11, 13, 14, 15, 16, 17, 18, 19, 20, 25, 26, 27, 28, 29, 30]
abbrev be_i (i : Int) : Prop := i = 0 ∨ i = 1 ∨ i = 8 ∨ i = 12 ∨ i = 21 ∨ i = 22 ∨ i = 23 ∨ i = 24
def be_r (ρ : mm_T) : Prop := (∀ i, be_i i → ρ 0 i = if i = 1 then 1 else if i = 21 then -1 else 0) ∧ (∀ i, 0 ≤ i → i < 32 → ρ 2 i = -1) ∧ (∀ i, 0 ≤ i → i < 8 → ρ 3 i = -1) ∧ (∀ i, ρ 4 i = if i = 0 then 1000 else 0) ∧ (∀ i, ρ 6 i = if i = 0 then 4096 else 0) ∧ (∀ p ∈ be_l, ∀ i, ρ p i = 0)
theorem iv_be {ρ : mm_T} (h : be_r ρ) : iv_I ρ (fun _ => 0) := by
  obtain ⟨h0, h2, h3, h4, h6, hz⟩ := h
  have q1 : ρ 0 1 = 1 := h0 1 (by decide)
  have q8 : ρ 0 8 = 0 := h0 8 (by decide)
  have q12 : ρ 0 12 = 0 := h0 12 (by decide)
  have q21 : ρ 0 21 = -1 := h0 21 (by decide)
  have q22 : ρ 0 22 = 0 := h0 22 (by decide)
  have q24 : ρ 0 24 = 0 := h0 24 (by decide)
  have z5 := hz 5 (by decide)
  have z9 := hz 9 (by decide)
  have z10 := hz 10 (by decide)
  have z11 := hz 11 (by decide)
  have z13 := hz 13 (by decide)
  have z14 := hz 14 (by decide)
  have z15 := hz 15 (by decide)
  have z16 := hz 16 (by decide)
  have z17 := hz 17 (by decide)
  have z19 := hz 19 (by decide)
  have z20 := hz 20 (by decide)
  have z25 := hz 25 (by decide)
  have z26 := hz 26 (by decide)
  have z28 := hz 28 (by decide)
  clear hz h0
  have hlo : ∀ i k, 0 ≤ i → i < 32 → iv_lo ρ i k = 0 ∧ iv_hi ρ i k = 0 := fun i k g1 g2 => by
    unfold iv_lo iv_hi
    rw [h2 i g1 g2]
    exact ⟨rfl, rfl⟩
  have h6b : ∀ b, ρ 6 b = 0 ∨ (b = 0 ∧ ρ 6 b = 4096) := fun b => by
    rw [h6]
    by_cases hb : b = 0
    · rw [if_pos hb]; exact Or.inr ⟨hb, rfl⟩
    · rw [if_neg hb]; exact Or.inl rfl
  have h4b : ∀ b, 0 ≤ ρ 4 b ∧ ρ 4 b ≤ 1000 := fun b => by
    rw [h4]
    split <;> omega
  refine ⟨⟨?_, ?_, ?_, ?_, ?_, ?_, ?_⟩, ?_, ?_, ?_, ?_, ?_, ?_, ?_, ?_, ?_, ?_⟩
  · refine ⟨by omega, by omega, by omega, by omega, by omega, by omega, fun k g1 g2 => ?_, fun k g1 g2 => ?_, fun k g1 g2 => h4b k, fun k g1 g2 => ?_, fun c g1 g2 => ?_, fun k g1 g2 => ?_, fun k g1 g2 => ?_, fun t g1 g2 => ?_⟩
    · rw [h3 k g1 g2]; omega
    · rw [h2 k g1 g2]; omega
    · rw [z10]; omega
    · rw [z13, z14, z15, z19]; omega
    · rw [z9]; omega
    · rw [z17]; omega
    · rw [z25, z26, z28]; omega
  · refine ⟨fun i g1 g2 => ?_, fun u g1 g2 => ?_, fun c k g1 g2 g3 g4 g5 => ?_⟩
    · rw [h2 i g1 g2]; omega
    · rw [z5]
      have := h6b u
      omega
    · rw [z17, z9]; omega
  · refine ⟨rfl, fun u g1 g2 => ?_, fun i g1 g2 g3 g4 => ?_⟩
    · omega
    · rw [h2 i g1 g2] at g3; omega
  · intro i g1 g2
    exact Or.inl (z9 i)
  · intro t g1 g2
    exact Or.inl (z11 t)
  · intro c g1 g2
    omega
  · intro i g1 g2 g3
    rw [h2 i g1 g2] at g3; omega
  · intro i j g1 g2 g3 g4 g5
    rw [h2 i g1 g2] at g5; omega
  · intro c g1 g2
    omega
  · intro i j k l g1 g2 g3 g4 g5 g6 g7 g8 g9 g10 g11
    have := hlo i k g1 g2
    omega
  · intro i k g1 g2 g3 g4 g5
    have := hlo i k g1 g2
    omega
  · refine ⟨⟨z5 0, by rw [h6]; rfl⟩, fun b g1 g2 => ?_⟩
    rw [z5]
    have := h6b b
    omega
  · intro c k g1 g2
    omega
  · intro c g1 g2
    omega
  · exact ⟨fun g => by omega, fun c g1 g2 => by omega, fun c g1 g2 => by omega, fun u g1 g2 => by omega⟩
  · refine ⟨fun i g1 g2 => h2 i (by omega) g2, fun b g1 g2 => ?_, fun c g1 g2 => ?_, fun t g1 g2 => by omega, fun i g1 g2 => z17 i⟩
    · have := h6b b
      exact ⟨z5 b, by omega⟩
    · exact ⟨z16 c, z19 c, z20 c⟩
  · intro g
    omega
