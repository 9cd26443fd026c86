/-! each clause of the relation stays where what it reads stays -/
section CNG
variable {s ν ν' ρ ρ' : mm_T} {f : Int → Int}
theorem pt_Br_c (h : pt_Br s ρ f) (e0 : ρ' 0 1 = ρ 0 1) (e3 : ∀ b, 0 ≤ b → b < ρ 0 1 → ρ' 3 b = ρ 3 b) (e4 : ∀ b, 0 ≤ b → b < ρ 0 1 → ρ' 4 b = ρ 4 b) : pt_Br s ρ' f := fun b h1 h2 => by
  rw [e0] at h2
  rw [e3 b h1 h2, e4 b h1 h2]
  exact h b h1 h2
theorem pt_Bn_c (h : pt_Bn ν ρ) (e0 : ρ' 0 1 = ρ 0 1) (e : ∀ b, 0 ≤ b → b < ρ 0 1 → ν' 51 b = ν 51 b ∧ ν' (100 + b) 6 = ν (100 + b) 6 ∧ ν' (100 + b) 7 = ν (100 + b) 7 ∧ ρ' 5 b = ρ 5 b ∧ ρ' 6 b = ρ 6 b) : pt_Bn ν' ρ' := fun b h1 h2 => by
  rw [e0] at h2
  obtain ⟨e1, e2, e3, e4, e5⟩ := e b h1 h2
  rw [e1, e2, e3, e4, e5]
  exact h b h1 h2
theorem pt_Sl_c (h : pt_Sl ν ρ) (e0 : ρ' 0 1 = ρ 0 1) (e : ∀ b i, 0 ≤ b → b < ρ 0 1 → 0 ≤ i → i < 4 → ν' (110 + b) i = ν (110 + b) i ∧ ν' (120 + b) i = ν (120 + b) i ∧ ρ' 2 (4 * b + i) = ρ 2 (4 * b + i)) : pt_Sl ν' ρ' := fun b i h1 h2 h3 h4 => by
  rw [e0] at h2
  obtain ⟨e1, e2, e3⟩ := e b i h1 h2 h3 h4
  rw [e1, e2, e3]
  exact h b i h1 h2 h3 h4
theorem pt_Ty_c (h : pt_Ty s ρ) (e0 : ρ' 0 8 = ρ 0 8) (e : ∀ t, 0 ≤ t → t < ρ 0 8 → ρ' 10 t = ρ 10 t ∧ ρ' 11 t = ρ 11 t) : pt_Ty s ρ' := fun t h1 h2 => by
  rw [e0] at h2
  obtain ⟨e1, e2⟩ := e t h1 h2
  rw [e1, e2]
  exact h t h1 h2
theorem pt_Tn_c (h : pt_Tn ν ρ) (e0 : ρ' 0 8 = ρ 0 8) (e9 : ρ' 9 = ρ 9) (e : ∀ t, 0 ≤ t → t < ρ 0 8 → ν' 52 t = ν 52 t ∧ ∀ k, 0 ≤ k → k < 3 → ν' (220 + t) k = ν (220 + t) k ∧ ν' (240 + t) k = ν (240 + t) k) : pt_Tn ν' ρ' := fun t h1 h2 => by
  rw [e0] at h2
  obtain ⟨e1, e2⟩ := e t h1 h2
  obtain ⟨g1, g2⟩ := h t h1 h2
  rw [e1, e9]
  refine ⟨g1, fun k k0 k1 => ?_⟩
  rw [(e2 k k0 k1).1, (e2 k k0 k1).2]
  exact g2 k k0 k1
theorem pt_Ca_c (h : pt_Ca s ρ) (e0 : ρ' 0 12 = ρ 0 12) (e : ∀ c, 0 ≤ c → c < ρ 0 12 → ρ' 14 c = ρ 14 c ∧ ρ' 13 c = ρ 13 c) : pt_Ca s ρ' := fun c h1 h2 => by
  rw [e0] at h2
  obtain ⟨e1, e2⟩ := e c h1 h2
  rw [e1, e2]
  exact h c h1 h2
/-- the fields of one card -/
def pt_Cf (ν ρ : mm_T) (c : Int) : Prop := ν 53 c = 300 + c ∧ ν (300 + c) 5 = c ∧ ν (300 + c) 6 = ρ 15 c ∧ ν (300 + c) 7 = ρ 16 c ∧ ν (300 + c) 8 = mo_wt ρ c ∧ ν (300 + c) 9 = ρ 19 c ∧ ν (300 + c) 10 = ρ 20 c
theorem pt_Cn_c (h : pt_Cn ν ρ) (e0 : ρ' 0 12 = ρ 0 12) (e : ∀ c, 0 ≤ c → c < ρ 0 12 → pt_Cf ν ρ c → pt_Cf ν' ρ' c) : pt_Cn ν' ρ' := fun c h1 h2 => by
  rw [e0] at h2
  exact e c h1 h2 (h c h1 h2)
theorem pt_Cr_c (h : pt_Cr ν ρ) (e0 : ρ' 0 12 = ρ 0 12) (e9 : ρ' 9 = ρ 9) (e : ∀ c k, 0 ≤ c → c < ρ 0 12 → 0 ≤ k → k < 3 → ν' (340 + c) k = ν (340 + c) k ∧ ρ' 13 c = ρ 13 c ∧ (1 ≤ ρ' 15 c ∧ ρ' 15 c ≤ 3 → (1 ≤ ρ 15 c ∧ ρ 15 c ≤ 3) ∧ ρ' 17 (3 * c + k) = ρ 17 (3 * c + k))) : pt_Cr ν' ρ' := fun c k h1 h2 h3 h4 => by
  rw [e0] at h2
  obtain ⟨e1, e2, e3⟩ := e c k h1 h2 h3 h4
  obtain ⟨g1, g2⟩ := h c k h1 h2 h3 h4
  rw [e1, e2, e9]
  refine ⟨g1, fun h5 h6 => ?_⟩
  obtain ⟨e4, e5⟩ := e3 h5
  rw [e5]
  exact g2 e4 h6
theorem pt_Cs_c (h : pt_Cs s ρ) (e0 : ρ' 0 12 = ρ 0 12) (e : ∀ c, 0 ≤ c → c < ρ 0 12 → ρ' 15 c ≤ 3 → ρ 15 c ≤ 3 ∧ ρ' 14 c = ρ 14 c ∧ (ρ 2 (4 * ρ 14 c + s (300 + c) 1) = 100 + c → ρ' 2 (4 * ρ 14 c + s (300 + c) 1) = 100 + c)) : pt_Cs s ρ' := fun c h1 h2 h3 => by
  rw [e0] at h2
  obtain ⟨e1, e2, e3⟩ := e c h1 h2 h3
  rw [e2]
  exact e3 (h c h1 h2 e1)
theorem pt_Q_c (h : pt_Q ν ρ) (e0 : ρ' 0 12 = ρ 0 12) (e24 : ρ' 0 24 = ρ 0 24) (e : ∀ c, 0 ≤ c → c < ρ 0 12 → mo_pd ρ' c = mo_pd ρ c ∧ ∀ i, 0 ≤ i → i < 8 → ν' (380 + c) i = ν (380 + c) i) (hw : ∀ c, 0 ≤ c → c < ρ 0 12 → mo_wt ρ c ≤ 8) : pt_Q ν' ρ' := fun c i h1 h2 h3 h4 => by
  rw [e0] at h2
  obtain ⟨e1, e2⟩ := e c h1 h2
  have e3 : mo_wt ρ' c = mo_wt ρ c := by unfold mo_wt; rw [e1, e24]
  rw [e3] at h4
  have h8 := hw c h1 h2
  rw [e1, e24, e2 i h3 (by omega)]
  exact h c i h1 h2 h3 h4
theorem pt_Rq_c (h : pt_Rq s ν ρ) (e0 : ρ' 0 24 = ρ 0 24) (e : ∀ t, 0 ≤ t → t < ρ 0 24 → ρ' 26 t = ρ 26 t ∧ ρ' 27 t = ρ 27 t ∧ (ν (1000 + t) 2 = ρ 28 t → ν' (1000 + t) 2 = ρ' 28 t)) : pt_Rq s ν' ρ' := fun t h1 h2 => by
  rw [e0] at h2
  obtain ⟨e1, e2, e3⟩ := e t h1 h2
  obtain ⟨g1, g2, g3, g4⟩ := h t h1 h2
  rw [e1, e2]
  exact ⟨g1, g2, g3, e3 g4⟩
theorem pt_L_c (h : pt_L s ν ρ) (hB : mo_B ρ) (e0 : ρ' 0 24 = ρ 0 24) (e1 : ν' 54 0 = ν 54 0) (e2 : ν' 54 1 = ν 54 1) (e : ∀ p t, p = 9002 ∨ (70 ≤ p ∧ p < 100) → ν' p t = ν p t) : pt_L s ν' ρ' := by
  have hw := h.w
  obtain ⟨g1, g2, g3⟩ := h
  unfold pt_L
  rw [e0, e1, e2]
  refine ⟨g1, g2, fun t h1 h2 => ?_⟩
  rw [e (ν 54 0) t hw]
  exact g3 t h1 h2
theorem pt_Z_c (h : pt_Z ν ρ) (e : ∀ i, 8 ≤ i → i ≤ 13 → ν' 50 i = ν 50 i) (e1 : ρ' 0 1 = ρ 0 1) (e8 : ρ' 0 8 = ρ 0 8) (e12 : ρ' 0 12 = ρ 0 12) (e21 : ρ' 0 21 = ρ 0 21) (e22 : ρ' 0 22 = ρ 0 22) (e23 : ρ' 0 23 = ρ 0 23) : pt_Z ν' ρ' := by
  unfold pt_Z at h ⊢
  rw [e 8 (by omega) (by omega), e 9 (by omega) (by omega), e 10 (by omega) (by omega), e 11 (by omega) (by omega), e 12 (by omega) (by omega), e 13 (by omega) (by omega), e1, e8, e12, e21, e22, e23]
  exact h
end CNG
