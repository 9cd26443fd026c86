/-! the relation when cells are newly made -/
/-- names that the class has in use -/
def us_d (ν ρ : mm_T) (p : Int) : Prop := (50 ≤ p ∧ p ≤ 64) ∨ (100 ≤ p ∧ p < 100 + ρ 0 1) ∨ (110 ≤ p ∧ p < 110 + ρ 0 1) ∨ (120 ≤ p ∧ p < 120 + ρ 0 1) ∨ (200 ≤ p ∧ p < 200 + ρ 0 8) ∨ (220 ≤ p ∧ p < 220 + ρ 0 8) ∨ (240 ≤ p ∧ p < 240 + ρ 0 8) ∨ (300 ≤ p ∧ p < 300 + ρ 0 12) ∨ (340 ≤ p ∧ p < 340 + ρ 0 12) ∨ (380 ≤ p ∧ p < 380 + ρ 0 12) ∨ (1000 ≤ p ∧ p < 1000 + ρ 0 24) ∨ (p = ν 54 0 ∧ 70 ≤ p ∧ p ≤ 80)
/-- how many requests there are, at most, while the list's array p is not yet made -/
def lp_f (p : Int) : Int := if p = 70 then 0 else if p = 71 then 10 else if p = 72 then 15 else if p = 73 then 22 else if p = 74 then 33 else if p = 75 then 49 else if p = 76 then 73 else if p = 77 then 109 else if p = 78 then 163 else if p = 79 then 244 else 366
/-- names that the class will use later -/
def un_r (s _ν ρ : mm_T) : Prop := (∀ b, ρ 0 1 ≤ b → b < 8 → s (100 + b) (-1) < 0 ∧ s (110 + b) (-1) < 0 ∧ s (120 + b) (-1) < 0) ∧ (∀ t, ρ 0 8 ≤ t → t < 16 → s (200 + t) (-1) < 0 ∧ s (220 + t) (-1) < 0 ∧ s (240 + t) (-1) < 0) ∧ (∀ c, ρ 0 12 ≤ c → c < 40 → s (300 + c) (-1) < 0 ∧ s (340 + c) (-1) < 0 ∧ s (380 + c) (-1) < 0) ∧ (∀ t, ρ 0 24 ≤ t → t < 512 → s (1000 + t) (-1) < 0) ∧ (∀ p, 70 ≤ p → p ≤ 80 → ρ 0 24 ≤ lp_f p → s p (-1) < 0)
/-- the reference's cells stand; cells and slots grow by little -/
def ns_r (s s' : mm_T) : Prop := (∀ p, 0 ≤ p → p < 50 → s' p = s p) ∧ (s (-1) 0 ≤ s' (-1) 0 ∧ s' (-1) 0 ≤ s (-1) 0 + 10) ∧ s (-1) 1 ≤ s' (-1) 1 ∧ s' (-1) 1 ≤ s (-1) 1 + 1000
section RS
variable {s s' ν ν' ρ ρ' : mm_T} {f : Int → Int} {a b c i k p t x y z : Int}
theorem R_s (hB : mo_B ρ) (hs : ∀ p i, us_d ν ρ p → s' p i = s p i) (hR : pt_R s ν ρ f) : pt_R s' ν ρ f := by
  have b1 := hB.1
  have b8 := hB.2.1
  have b12 := hB.2.2.1
  have b24 := hB.2.2.2.2.2.1
  obtain ⟨h1, h2, h3, h4, h5, h6, h7, h8, h9, h10, h11, h12, h13, h14⟩ := hR
  have g : ∀ p i, 50 ≤ p → p ≤ 64 → s' p i = s p i := fun p i g1 g2 => hs p i (Or.inl ⟨g1, g2⟩)
  refine ⟨?_, ?_, h3, h4, ?_, h6, ?_, h8, h9, ?_, h11, ?_, ?_, h14⟩
  · unfold pt_S st_sh at h1 ⊢
    rw [g 50 _ (by omega) (by omega), g 50 _ (by omega) (by omega), g 50 _ (by omega) (by omega), g 50 _ (by omega) (by omega), g 50 _ (by omega) (by omega), g 50 _ (by omega) (by omega), g 50 _ (by omega) (by omega), g 50 _ (by omega) (by omega), g 50 _ (by omega) (by omega)]
    rw [g 51 _ (by omega) (by omega), g 51 _ (by omega) (by omega), g 52 _ (by omega) (by omega), g 52 _ (by omega) (by omega), g 53 _ (by omega) (by omega), g 53 _ (by omega) (by omega), g 54 _ (by omega) (by omega)]
    simp only [g 55 _ (by omega) (by omega), g 56 _ (by omega) (by omega), g 57 _ (by omega) (by omega), g 58 _ (by omega) (by omega), g 59 _ (by omega) (by omega), g 60 _ (by omega) (by omega), g 61 _ (by omega) (by omega), g 62 _ (by omega) (by omega), g 63 _ (by omega) (by omega), g 64 _ (by omega) (by omega)]
    exact h1
  · intro b b0 b2
    have e1 : ∀ i, s' (100 + b) i = s (100 + b) i := fun i => hs _ _ (by unfold us_d; omega)
    have e2 : ∀ i, s' (110 + b) i = s (110 + b) i := fun i => hs _ _ (by unfold us_d; omega)
    have e3 : ∀ i, s' (120 + b) i = s (120 + b) i := fun i => hs _ _ (by unfold us_d; omega)
    simp only [e1, e2, e3]
    exact h2 b b0 b2
  · intro t t0 t1
    have e1 : ∀ i, s' (200 + t) i = s (200 + t) i := fun i => hs _ _ (by unfold us_d; omega)
    have e2 : ∀ i, s' (220 + t) i = s (220 + t) i := fun i => hs _ _ (by unfold us_d; omega)
    have e3 : ∀ i, s' (240 + t) i = s (240 + t) i := fun i => hs _ _ (by unfold us_d; omega)
    simp only [e1, e2, e3]
    exact h5 t t0 t1
  · intro c c0 c1
    have e1 : ∀ i, s' (300 + c) i = s (300 + c) i := fun i => hs _ _ (by unfold us_d; omega)
    have e2 : ∀ i, s' (340 + c) i = s (340 + c) i := fun i => hs _ _ (by unfold us_d; omega)
    have e3 : ∀ i, s' (380 + c) i = s (380 + c) i := fun i => hs _ _ (by unfold us_d; omega)
    simp only [e1, e2, e3]
    exact h7 c c0 c1
  · intro c c0 c1
    have e1 : ∀ i, s' (300 + c) i = s (300 + c) i := fun i => hs _ _ (by unfold us_d; omega)
    rw [e1]
    exact h10 c c0 c1
  · intro t t0 t1
    have e1 : ∀ i, s' (1000 + t) i = s (1000 + t) i := fun i => hs _ _ (by unfold us_d; omega)
    simp only [e1]
    exact h12 t t0 t1
  · obtain ⟨g1, g2, g3⟩ := h13
    refine ⟨g1, ?_, g3⟩
    rcases g2 with g2 | g2
    · exact Or.inl g2
    · have hb := lc_b _ g2.1
      have e1 : ∀ i, s' (ν 54 0) i = s (ν 54 0) i := fun i => hs _ _ (by unfold us_d; omega)
      refine Or.inr ?_
      simp only [e1]
      exact g2
theorem cnt_e (h : 0 ≤ p) : nm_cnt s x y p i = s p i := by
  unfold nm_cnt
  rw [if_neg (by omega), if_neg (by omega)]
theorem R_cnt (hB : mo_B ρ) (hR : pt_R s ν ρ f) : pt_R (nm_cnt s x y) ν ρ f := by
  have b1 := hB.1
  refine R_s hB (fun p i hp => cnt_e ?_) hR
  unfold us_d at hp
  omega
theorem un_cnt (hB : mo_B ρ) (h : un_r s ν ρ) : un_r (nm_cnt s x y) ν ρ := by
  have b1 := hB.1
  have b8 := hB.2.1
  have b12 := hB.2.2.1
  have b24 := hB.2.2.2.2.2.1
  obtain ⟨h1, h2, h3, h4, h5⟩ := h
  refine ⟨fun b g1 g2 => ?_, fun b g1 g2 => ?_, fun b g1 g2 => ?_, fun b g1 g2 => ?_, fun b g1 g2 g3 => ?_⟩
  · rw [cnt_e (by omega), cnt_e (by omega), cnt_e (by omega)]; exact h1 b g1 g2
  · rw [cnt_e (by omega), cnt_e (by omega), cnt_e (by omega)]; exact h2 b g1 g2
  · rw [cnt_e (by omega), cnt_e (by omega), cnt_e (by omega)]; exact h3 b g1 g2
  · rw [cnt_e (by omega)]; exact h4 b g1 g2
  · rw [cnt_e (by omega)]; exact h5 b g1 g2 g3
theorem ns_cnt : ns_r s (nm_cnt s 1 6) := by
  refine ⟨fun p h0 _ => by funext i; exact cnt_e h0, ?_, ?_⟩
  · unfold nm_cnt; rw [if_pos ⟨rfl, rfl⟩]; omega
  · unfold nm_cnt; rw [if_neg (by omega), if_pos ⟨rfl, rfl⟩]; omega
theorem ns_sh (h : ns_r s s') (hs : mo_sh s) : mo_sh s' := by
  have e : ∀ p, 0 ≤ p → p < 50 → s' p = s p := h.1
  refine ⟨by rw [e 0 (by omega) (by omega)]; exact hs.1, fun q hq => ?_⟩
  have hb : ∀ q ∈ mo_fs, 0 ≤ q.1 ∧ q.1 < 50 := by decide
  have := hb q hq
  rw [e 0 (by omega) (by omega), e q.1 this.1 this.2]
  exact hs.2 q hq
end RS
