/-! where a new card fits: what is known of it -/
section FGP
variable {ρ : mm_T} {f : Int → Int} {a b c i j k l x e w t x1 e1 : Int} {g q r : Int → Int}
theorem gf_p : ∀ (n : Nat) (t : Int), gf_r ρ c x l g n t = some (x1, e1, q) → x1 = x ∧ ff_r ρ c x e1 (fun _ => 0) = some q ∧ t + 64 ≤ e1 ∧ e1 ≤ l ∧ (e1 - t) % 64 = 0 ∧ ∀ a, t ≤ a → a < e1 → g a = 0
  | 0, t, h => by cases h
  | n + 1, t, h => by
    unfold gf_r at h
    by_cases hc : t + 64 ≤ l ∧ mo_to (fun _ => g) 30 64 t = t + 64
    · rw [if_pos hc] at h
      have hfree := mo_to_0 64 t hc.2
      rcases hf : ff_r ρ c x (t + 64) (fun _ => 0) with _ | q1
      · rw [hf] at h
        obtain ⟨h1, h2, h3, h4, h5, h6⟩ := gf_p n (t + 64) h
        refine ⟨h1, h2, by omega, h4, by omega, fun a a1 a2 => ?_⟩
        by_cases ha : a < t + 64
        · exact hfree a a1 (by omega)
        · exact h6 a (by omega) a2
      · rw [hf] at h
        have h : some (x, t + 64, q1) = some (x1, e1, q) := h
        injection h with h
        injection h with h1 h
        injection h with h2 h3
        subst h1 h2 h3
        exact ⟨rfl, hf, by omega, hc.1, by omega, fun a a1 a2 => hfree a a1 (by omega)⟩
    · rw [if_neg hc] at h
      cases h
theorem gs_p : ∀ (n : Nat) (t : Int), gs_r ρ c l g n t = some (x1, e1, q) → t ≤ x1 ∧ (x1 - t) % 64 = 0 ∧ ff_r ρ c x1 e1 (fun _ => 0) = some q ∧ x1 + 64 ≤ e1 ∧ e1 ≤ l ∧ (e1 - x1) % 64 = 0 ∧ ∀ a, x1 ≤ a → a < e1 → g a = 0
  | 0, t, h => by cases h
  | n + 1, t, h => by
    unfold gs_r at h
    by_cases hc : t < l
    · rw [if_pos hc] at h
      rcases hf : gf_r ρ c t l g 64 t with _ | ⟨x2, e2, q2⟩
      · rw [hf] at h
        obtain ⟨h1, h2, h3⟩ := gs_p n (t + 64) h
        exact ⟨by omega, by omega, h3⟩
      · rw [hf] at h
        have h : some (x2, e2, q2) = some (x1, e1, q) := h
        injection h with h
        injection h with h1 h
        injection h with h2 h3
        subst h1 h2 h3
        obtain ⟨g1, g2, g3, g4, g5, g6⟩ := gf_p 64 t hf
        subst g1
        exact ⟨by omega, by omega, g2, g3, g4, g5, g6⟩
    · rw [if_neg hc] at h
      cases h
/-- a place found, in its own opening or in a greater one -/
def fg_P (ρ : mm_T) (c x e : Int) (q : Int → Int) : Prop := ff_r ρ c x e (fun _ => 0) = some q ∧ (0 ≤ x ∧ x ≤ e ∧ e ≤ 4096) ∧ (x % 64 = 0 ∧ e % 64 = 0) ∧ (ρ 5 (ρ 14 c) < ρ 6 (ρ 14 c) → x = ρ 5 (ρ 14 c) ∧ ρ 6 (ρ 14 c) ≤ e) ∧ ((x = ρ 5 (ρ 14 c) ∧ e = ρ 6 (ρ 14 c)) ∨ (0 ≤ ρ 3 (ρ 14 c) ∧ ρ 5 (ρ 3 (ρ 14 c)) ≤ x ∧ e ≤ ρ 6 (ρ 3 (ρ 14 c)) ∧ ∀ a, x ≤ a → a < e → ¬ (ρ 5 (ρ 14 c) ≤ a ∧ a < ρ 6 (ρ 14 c)) → oc_m ρ (ρ 3 (ρ 14 c)) (ρ 14 c) a = 0))
/-- an opening lies in the one over it -/
theorem op_in (hI : iv_I ρ f) (hb : 1 ≤ b ∧ b < ρ 0 1) (ho : ρ 5 b < ρ 6 b) : ρ 5 (ρ 3 b) ≤ ρ 5 b ∧ ρ 6 b ≤ ρ 6 (ρ 3 b) := by
  obtain ⟨hA, hU, h8, hD, hW, hO, hRg, hP, hN, hZ, hX⟩ := hI
  obtain ⟨i, i0, i1, i2⟩ := hN.2.2.2 b hb.1 hb.2
  have b1 := hA.1.1
  have ht := hA.2.2.1.2.2 i i0 i1 (by omega) (by omega)
  have hl := iv_lob (ρ := ρ) (i := i) (by omega)
  have := hW i 0 i0 i1 (by omega) (by omega) (by rw [hl.1, hl.2, i2]; exact ho)
  rw [hl.1, hl.2, i2, show i / 4 = ρ 3 b by rw [i2] at ht; omega] at this
  exact this
theorem fg_p (hI : iv_I ρ f) (hc : 0 ≤ c ∧ c < ρ 0 12) (h : fg_r ρ c = some (x, e, q)) : fg_P ρ c x e q := by
  have hI0 := hI
  obtain ⟨hA, hU, h8, hD, hW, hO, hRg, hP, hN, hZ, hX⟩ := hI
  have b1 := hA.1.1
  have b12 := hA.1.2.2.1
  have hcd := hA.1.cd c hc.1 (by omega)
  have hK := hA.2.2.2.2.2.1 c hc.1 hc.2
  have hob := hO.2 (ρ 14 c) (by omega) (by omega)
  have hcb := hA.2.1.2.1 (ρ 14 c) (by omega) (by omega)
  have hov := hA.1.ov (ρ 14 c) (by omega) (by omega)
  have htr := hA.2.2.1.2.1 (ρ 14 c)
  unfold fg_r at h
  rcases hf : ff_r ρ c (ρ 5 (ρ 14 c)) (ρ 6 (ρ 14 c)) (fun _ => 0) with _ | q1
  · rw [hf] at h
    have h : gr_r ρ c = some (x, e, q) := h
    unfold gr_r at h
    by_cases hu : ρ 3 (ρ 14 c) < 0
    · rw [if_pos hu] at h; cases h
    · rw [if_neg hu] at h
      have hob2 := hO.2 (ρ 3 (ρ 14 c)) (by omega) (by omega)
      have hcb2 := hA.2.1.2.1 (ρ 3 (ρ 14 c)) (by omega) (by omega)
      by_cases ho : ρ 5 (ρ 14 c) < ρ 6 (ρ 14 c)
      · rw [if_pos ho] at h
        obtain ⟨g1, g2, g3, g4, g5, g6⟩ := gf_p 64 _ h
        subst g1
        have hb0 : ρ 14 c ≠ 0 := fun hz => by rw [hz] at hov hu; omega
        have hin := op_in hI0 (b := ρ 14 c) (by omega) ho
        refine ⟨g2, by omega, by omega, fun _ => ⟨rfl, by omega⟩, Or.inr ⟨by omega, by omega, g4, fun a a1 a2 a3 => g6 a (by omega) a2⟩⟩
      · rw [if_neg ho] at h
        obtain ⟨g0, g0', g2, g3, g4, g5, g6⟩ := gs_p 64 _ h
        exact ⟨g2, by omega, by omega, fun h => absurd h ho, Or.inr ⟨by omega, by omega, g4, fun a a1 a2 _ => g6 a a1 a2⟩⟩
  · rw [hf] at h
    have h : some (ρ 5 (ρ 14 c), ρ 6 (ρ 14 c), q1) = some (x, e, q) := h
    injection h with h
    injection h with h1 h
    injection h with h2 h3
    subst h1 h2 h3
    exact ⟨hf, by omega, by omega, fun _ => ⟨rfl, by omega⟩, Or.inl ⟨rfl, rfl⟩⟩
end FGP
