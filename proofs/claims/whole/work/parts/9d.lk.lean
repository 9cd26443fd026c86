/-! the class lays as the reference plans -/
def ly_e (μ : mm_T) (z i k : Int) (X : ly_S) : ly_S := if it_s μ i k = z then (if 100 ≤ μ 2 i then (fun c2 k2 => if c2 = μ 2 i - 100 ∧ k2 = k then X.2.2.2.2 else X.1 c2 k2, X.2.1, X.2.2.1, if μ 2 i - 100 ≠ μ 0 21 ∧ X.1 (μ 2 i - 100) k ≠ X.2.2.2.2 then X.2.2.2.1 + 1 else X.2.2.2.1, X.2.2.2.2 + z) else (X.1, fun j => if j = μ 2 i then X.2.2.2.2 else X.2.1 j, fun j => if j = μ 2 i then X.2.2.2.2 + z else X.2.2.1 j, X.2.2.2.1, X.2.2.2.2 + z)) else X
def ly_n (μ : mm_T) (z b : Int) : Nat → Int → ly_S → ly_S
  | 0, _, X => X
  | n + 1, m, X => ly_n μ z b n (m + 1) (ly_e μ z (4 * b + m / 3) (m % 3) X)
/-- how many of the ranges but the new card's stand elsewhere than before -/
def lk_f (μ : mm_T) (g0 g : Int → Int → Int) : Int := sm_s (fun y => if y / 3 ≠ μ 0 21 ∧ g (y / 3) (y % 3) ≠ g0 (y / 3) (y % 3) then 1 else 0) 120
def lk_R (μ : mm_T) (b z m : Int) (g0 : Int → Int → Int) (S : pn_S) (X : ly_S) : Prop := X.2.2.2.2 = S.2.2 ∧
  (∀ i k, 0 ≤ i → i < 32 → 0 ≤ k → k < 3 → 100 ≤ μ 2 i → (pl_s μ b z m i k → X.1 (μ 2 i - 100) k = S.1 (3 * (μ 2 i - 100) + k)) ∧ (¬ pl_s μ b z m i k → X.1 (μ 2 i - 100) k = g0 (μ 2 i - 100) k)) ∧
  (∀ i, 0 ≤ i → i < 32 → 0 ≤ μ 2 i → μ 2 i < 100 → (pl_s μ b z m i 0 → X.2.1 (μ 2 i) = S.2.1 (μ 2 i) ∧ X.2.2.1 (μ 2 i) = S.2.1 (μ 2 i) + μ 7 (μ 2 i)) ∧ (¬ pl_s μ b z m i 0 → X.2.1 (μ 2 i) = 0 ∧ X.2.2.1 (μ 2 i) = 0)) ∧
  X.2.2.2.1 = lk_f μ g0 X.1 ∧
  (∀ c k, (∀ i, 0 ≤ i → i < 32 → μ 2 i ≠ 100 + c) → X.1 c k = g0 c k) ∧ X.2.1 0 = 0 ∧ X.2.2.1 0 = 4096
section LK
variable {μ : mm_T} {S : pn_S} {X : ly_S} {T : pn_T} {f : Int → Int} {g0 : Int → Int → Int} {b z m a i k j l u c x : Int}
theorem ly_ek (h : 100 ≤ μ 2 i) : ly_e μ z i k X = ly_k μ z (μ 2 i - 100) k X := by
  unfold ly_e ly_k
  rw [it_c h]
  by_cases h1 : μ 9 (3 * μ 13 (μ 2 i - 100) + k) = z
  · rw [if_pos h1, if_pos h1, if_pos h]
  · rw [if_neg h1, if_neg h1]
theorem ly_eu (hz : 0 < z) : ly_u μ z (μ 2 i) X = ly_e μ z i 2 (ly_e μ z i 1 (ly_e μ z i 0 X)) := by
  by_cases h : 100 ≤ μ 2 i
  · rw [ly_ek h, ly_ek h, ly_ek h]
    exact if_pos h
  · have e1 : ∀ k X, k ≠ 0 → ly_e μ z i k X = X := fun k X hk => by
      unfold ly_e
      rw [it_0 (by omega) hk, if_neg (by omega)]
    rw [e1 2 _ (by omega), e1 1 _ (by omega)]
    unfold ly_u ly_e
    rw [if_neg h]
    by_cases h2 : 0 ≤ μ 2 i
    · rw [it_b ⟨h2, by omega⟩]
      by_cases h3 : μ 7 (μ 2 i) = z
      · rw [if_pos ⟨h2, h3⟩, if_pos h3, if_neg h]
      · rw [if_neg (fun h4 => h3 h4.2), if_neg h3]
    · rw [if_neg (fun h4 => h2 h4.1), it_n (by omega), if_neg (by omega)]
theorem ly_ns (hz : 0 < z) : ly_s μ z 4 (4 * b) X = ly_n μ z b 12 0 X := by
  have e : ly_n μ z b 12 0 X = (ly_e μ z (4 * b + (0 + 1 + 1 + 1 + 1 + 1 + 1 + 1 + 1 + 1 + 1 + 1) / 3) ((0 + 1 + 1 + 1 + 1 + 1 + 1 + 1 + 1 + 1 + 1 + 1) % 3) (ly_e μ z (4 * b + (0 + 1 + 1 + 1 + 1 + 1 + 1 + 1 + 1 + 1 + 1) / 3) ((0 + 1 + 1 + 1 + 1 + 1 + 1 + 1 + 1 + 1 + 1) % 3) (ly_e μ z (4 * b + (0 + 1 + 1 + 1 + 1 + 1 + 1 + 1 + 1 + 1) / 3) ((0 + 1 + 1 + 1 + 1 + 1 + 1 + 1 + 1 + 1) % 3) (ly_e μ z (4 * b + (0 + 1 + 1 + 1 + 1 + 1 + 1 + 1 + 1) / 3) ((0 + 1 + 1 + 1 + 1 + 1 + 1 + 1 + 1) % 3) (ly_e μ z (4 * b + (0 + 1 + 1 + 1 + 1 + 1 + 1 + 1) / 3) ((0 + 1 + 1 + 1 + 1 + 1 + 1 + 1) % 3) (ly_e μ z (4 * b + (0 + 1 + 1 + 1 + 1 + 1 + 1) / 3) ((0 + 1 + 1 + 1 + 1 + 1 + 1) % 3) (ly_e μ z (4 * b + (0 + 1 + 1 + 1 + 1 + 1) / 3) ((0 + 1 + 1 + 1 + 1 + 1) % 3) (ly_e μ z (4 * b + (0 + 1 + 1 + 1 + 1) / 3) ((0 + 1 + 1 + 1 + 1) % 3) (ly_e μ z (4 * b + (0 + 1 + 1 + 1) / 3) ((0 + 1 + 1 + 1) % 3) (ly_e μ z (4 * b + (0 + 1 + 1) / 3) ((0 + 1 + 1) % 3) (ly_e μ z (4 * b + (0 + 1) / 3) ((0 + 1) % 3) (ly_e μ z (4 * b + 0 / 3) (0 % 3) X)))))))))))) := rfl
  rw [e]
  show ly_u μ z (μ 2 (4 * b + 1 + 1 + 1)) (ly_u μ z (μ 2 (4 * b + 1 + 1)) (ly_u μ z (μ 2 (4 * b + 1)) (ly_u μ z (μ 2 (4 * b)) X))) = _
  rw [ly_eu hz, ly_eu hz, ly_eu hz, ly_eu hz]
  rw [show ((0 : Int)) / 3 = 0 by decide, show ((0 : Int)) % 3 = 0 by decide, show ((0 + 1 : Int)) / 3 = 0 by decide, show ((0 + 1 : Int)) % 3 = 1 by decide, show ((0 + 1 + 1 : Int)) / 3 = 0 by decide, show ((0 + 1 + 1 : Int)) % 3 = 2 by decide, show ((0 + 1 + 1 + 1 : Int)) / 3 = 1 by decide, show ((0 + 1 + 1 + 1 : Int)) % 3 = 0 by decide, show ((0 + 1 + 1 + 1 + 1 : Int)) / 3 = 1 by decide, show ((0 + 1 + 1 + 1 + 1 : Int)) % 3 = 1 by decide, show ((0 + 1 + 1 + 1 + 1 + 1 : Int)) / 3 = 1 by decide, show ((0 + 1 + 1 + 1 + 1 + 1 : Int)) % 3 = 2 by decide, show ((0 + 1 + 1 + 1 + 1 + 1 + 1 : Int)) / 3 = 2 by decide, show ((0 + 1 + 1 + 1 + 1 + 1 + 1 : Int)) % 3 = 0 by decide, show ((0 + 1 + 1 + 1 + 1 + 1 + 1 + 1 : Int)) / 3 = 2 by decide, show ((0 + 1 + 1 + 1 + 1 + 1 + 1 + 1 : Int)) % 3 = 1 by decide, show ((0 + 1 + 1 + 1 + 1 + 1 + 1 + 1 + 1 : Int)) / 3 = 2 by decide, show ((0 + 1 + 1 + 1 + 1 + 1 + 1 + 1 + 1 : Int)) % 3 = 2 by decide, show ((0 + 1 + 1 + 1 + 1 + 1 + 1 + 1 + 1 + 1 : Int)) / 3 = 3 by decide, show ((0 + 1 + 1 + 1 + 1 + 1 + 1 + 1 + 1 + 1 : Int)) % 3 = 0 by decide, show ((0 + 1 + 1 + 1 + 1 + 1 + 1 + 1 + 1 + 1 + 1 : Int)) / 3 = 3 by decide, show ((0 + 1 + 1 + 1 + 1 + 1 + 1 + 1 + 1 + 1 + 1 : Int)) % 3 = 1 by decide, show ((0 + 1 + 1 + 1 + 1 + 1 + 1 + 1 + 1 + 1 + 1 + 1 : Int)) / 3 = 3 by decide, show ((0 + 1 + 1 + 1 + 1 + 1 + 1 + 1 + 1 + 1 + 1 + 1 : Int)) % 3 = 2 by decide]
  rw [show 4 * b + 1 + 1 + 1 = 4 * b + 3 by omega, show 4 * b + 1 + 1 = 4 * b + 2 by omega, show 4 * b + (0 : Int) = 4 * b by omega]
theorem lk_st (hU : iv_U μ) (hI : iv_A μ f) (hb : 0 ≤ b ∧ b < 8) (hm : 0 ≤ m ∧ m < 12) (hz : 0 < z) (h : lk_R μ b z m g0 S X) : lk_R μ b z (m + 1) g0 (st_e μ z (4 * b + m / 3) (m % 3) S) (ly_e μ z (4 * b + m / 3) (m % 3) X) := by
  obtain ⟨i0, hi0⟩ : ∃ i0, i0 = 4 * b + m / 3 := ⟨_, rfl⟩
  obtain ⟨k0, hk0⟩ : ∃ k0, k0 = m % 3 := ⟨_, rfl⟩
  rw [← hi0, ← hk0]
  obtain ⟨h1, h2, h3, h4, h5, h6, h7⟩ := h
  have hm3 : 3 * (i0 - 4 * b) + k0 = m := by omega
  by_cases hq : it_s μ i0 k0 = z
  · have hp : ∀ i k, 0 ≤ i → i < 32 → 0 ≤ k → k < 3 → ¬ (i = i0 ∧ k = k0) → (pl_s μ b z (m + 1) i k ↔ pl_s μ b z m i k) := fun i k a1 a2 a3 a4 a5 => by
      constructor
      · intro ⟨p1, p2⟩; exact ⟨p1, by omega⟩
      · intro ⟨p1, p2⟩; exact ⟨p1, by omega⟩
    have hn : ¬ pl_s μ b z m i0 k0 := fun ⟨p1, p2⟩ => by omega
    have hy : pl_s μ b z (m + 1) i0 k0 := ⟨by omega, Or.inr ⟨by omega, Or.inr ⟨hq, by omega⟩⟩⟩
    have hu : ∀ i, 0 ≤ i → i < 32 → 0 ≤ μ 2 i → μ 2 i = μ 2 i0 → i = i0 := fun i a1 a2 a3 a4 => hU i i0 a1 a2 (by omega) (by omega) a3 a4
    have hs0 := hI.1.2.2.2.2.2.2.2.1 i0 (by omega) (by omega)
    by_cases h100 : 100 ≤ μ 2 i0
    · have eS : st_e μ z i0 k0 S = (fun j => if j = 3 * (μ 2 i0 - 100) + k0 then S.2.2 else S.1 j, S.2.1, S.2.2 + z) := (if_pos hq).trans (if_pos h100)
      have eX : ly_e μ z i0 k0 X = (fun c2 k2 => if c2 = μ 2 i0 - 100 ∧ k2 = k0 then X.2.2.2.2 else X.1 c2 k2, X.2.1, X.2.2.1, if μ 2 i0 - 100 ≠ μ 0 21 ∧ X.1 (μ 2 i0 - 100) k0 ≠ X.2.2.2.2 then X.2.2.2.1 + 1 else X.2.2.2.1, X.2.2.2.2 + z) := (if_pos hq).trans (if_pos h100)
      rw [eS, eX]
      refine ⟨?_, fun i k a1 a2 a3 a4 a5 => ?_, fun i a1 a2 a3 a4 => ?_, ?_, fun c k hc => ?_, h6, h7⟩
      · show X.2.2.2.2 + z = S.2.2 + z
        rw [h1]
      · show (pl_s μ b z (m + 1) i k → (if μ 2 i - 100 = μ 2 i0 - 100 ∧ k = k0 then X.2.2.2.2 else X.1 (μ 2 i - 100) k) = (if 3 * (μ 2 i - 100) + k = 3 * (μ 2 i0 - 100) + k0 then S.2.2 else S.1 (3 * (μ 2 i - 100) + k))) ∧ (¬ pl_s μ b z (m + 1) i k → (if μ 2 i - 100 = μ 2 i0 - 100 ∧ k = k0 then X.2.2.2.2 else X.1 (μ 2 i - 100) k) = g0 (μ 2 i - 100) k)
        by_cases hik : i = i0 ∧ k = k0
        · rw [hik.1, hik.2, if_pos ⟨rfl, rfl⟩, if_pos rfl]
          exact ⟨fun _ => h1, fun hh => absurd hy hh⟩
        · have hne : ¬ (μ 2 i = μ 2 i0 ∧ k = k0) := fun hh => hik ⟨hu i a1 a2 (by omega) hh.1, hh.2⟩
          rw [if_neg (by omega), if_neg (by omega)]
          have := h2 i k a1 a2 a3 a4 a5
          have hpp := hp i k a1 a2 a3 a4 hik
          exact ⟨fun hh => this.1 (hpp.mp hh), fun hh => this.2 (fun h => hh (hpp.mpr h))⟩
      · have hik : ¬ (i = i0 ∧ (0 : Int) = k0) := fun hh => by rw [hh.1] at a4; omega
        have hpp := hp i 0 a1 a2 (by omega) (by omega) hik
        have := h3 i a1 a2 a3 a4
        exact ⟨fun hh => this.1 (hpp.mp hh), fun hh => this.2 (fun h => hh (hpp.mpr h))⟩
      · show (if μ 2 i0 - 100 ≠ μ 0 21 ∧ X.1 (μ 2 i0 - 100) k0 ≠ X.2.2.2.2 then X.2.2.2.1 + 1 else X.2.2.2.1) = sm_s (fun y => if y / 3 ≠ μ 0 21 ∧ (if y / 3 = μ 2 i0 - 100 ∧ y % 3 = k0 then X.2.2.2.2 else X.1 (y / 3) (y % 3)) ≠ g0 (y / 3) (y % 3) then 1 else 0) 120
        have hold : X.1 (μ 2 i0 - 100) k0 = g0 (μ 2 i0 - 100) k0 := (h2 i0 k0 (by omega) (by omega) (by omega) (by omega) h100).2 hn
        have hy3 : (3 * (μ 2 i0 - 100) + k0) / 3 = μ 2 i0 - 100 := by omega
        have hy4 : (3 * (μ 2 i0 - 100) + k0) % 3 = k0 := by omega
        have := sm_1 (g := fun y => if y / 3 ≠ μ 0 21 ∧ X.1 (y / 3) (y % 3) ≠ g0 (y / 3) (y % 3) then 1 else 0) (g' := fun y => if y / 3 ≠ μ 0 21 ∧ (if y / 3 = μ 2 i0 - 100 ∧ y % 3 = k0 then X.2.2.2.2 else X.1 (y / 3) (y % 3)) ≠ g0 (y / 3) (y % 3) then 1 else 0) (j := 3 * (μ 2 i0 - 100) + k0) (d := if μ 2 i0 - 100 ≠ μ 0 21 ∧ X.1 (μ 2 i0 - 100) k0 ≠ X.2.2.2.2 then 1 else 0) (by omega) 120 (by omega) (fun y y0 y1 y2 => by
          show (if y / 3 ≠ μ 0 21 ∧ (if y / 3 = μ 2 i0 - 100 ∧ y % 3 = k0 then X.2.2.2.2 else X.1 (y / 3) (y % 3)) ≠ g0 (y / 3) (y % 3) then 1 else 0) = (if y / 3 ≠ μ 0 21 ∧ X.1 (y / 3) (y % 3) ≠ g0 (y / 3) (y % 3) then 1 else 0)
          rw [if_neg (show ¬ (y / 3 = μ 2 i0 - 100 ∧ y % 3 = k0) by omega)]) (by
          show (if (3 * (μ 2 i0 - 100) + k0) / 3 ≠ μ 0 21 ∧ (if (3 * (μ 2 i0 - 100) + k0) / 3 = μ 2 i0 - 100 ∧ (3 * (μ 2 i0 - 100) + k0) % 3 = k0 then X.2.2.2.2 else X.1 ((3 * (μ 2 i0 - 100) + k0) / 3) ((3 * (μ 2 i0 - 100) + k0) % 3)) ≠ g0 ((3 * (μ 2 i0 - 100) + k0) / 3) ((3 * (μ 2 i0 - 100) + k0) % 3) then 1 else 0) = (if (3 * (μ 2 i0 - 100) + k0) / 3 ≠ μ 0 21 ∧ X.1 ((3 * (μ 2 i0 - 100) + k0) / 3) ((3 * (μ 2 i0 - 100) + k0) % 3) ≠ g0 ((3 * (μ 2 i0 - 100) + k0) / 3) ((3 * (μ 2 i0 - 100) + k0) % 3) then 1 else 0) + (if μ 2 i0 - 100 ≠ μ 0 21 ∧ X.1 (μ 2 i0 - 100) k0 ≠ X.2.2.2.2 then 1 else 0)
          rw [hy3, hy4, if_pos (show μ 2 i0 - 100 = μ 2 i0 - 100 ∧ k0 = k0 from ⟨rfl, rfl⟩), hold]
          rw [if_neg (show ¬ (μ 2 i0 - 100 ≠ μ 0 21 ∧ g0 (μ 2 i0 - 100) k0 ≠ g0 (μ 2 i0 - 100) k0) from fun h => h.2 rfl)]
          by_cases hc : μ 2 i0 - 100 ≠ μ 0 21 ∧ X.2.2.2.2 ≠ g0 (μ 2 i0 - 100) k0
          · rw [if_pos hc, if_pos ⟨hc.1, fun h => hc.2 h.symm⟩]; decide
          · rw [if_neg hc, if_neg (fun h => hc ⟨h.1, fun h2 => h.2 h2.symm⟩)]; decide)
        rw [this]
        unfold lk_f at h4
        rw [← h4]
        split <;> omega
      · show (if c = μ 2 i0 - 100 ∧ k = k0 then X.2.2.2.2 else X.1 c k) = g0 c k
        have := hc i0 (by omega) (by omega)
        rw [if_neg (by omega)]
        exact h5 c k hc
    · have h0 : 0 ≤ μ 2 i0 := by
        by_cases h : 0 ≤ μ 2 i0
        · exact h
        · rw [it_n (by omega)] at hq; omega
      have hk00 : k0 = 0 := by
        by_cases h : k0 = 0
        · exact h
        · rw [it_0 (by omega) h] at hq; omega
      rw [hk00] at hq hp hn hy ⊢
      have hbz : μ 7 (μ 2 i0) = z := by rw [it_b ⟨h0, by omega⟩] at hq; exact hq
      have ht := hI.2.2.1.2.2 i0 (by omega) (by omega) h0 (by omega)
      have eS : st_e μ z i0 0 S = (S.1, fun j => if j = μ 2 i0 then S.2.2 else S.2.1 j, S.2.2 + z) := (if_pos hq).trans (if_neg h100)
      have eX : ly_e μ z i0 0 X = (X.1, fun j => if j = μ 2 i0 then X.2.2.2.2 else X.2.1 j, fun j => if j = μ 2 i0 then X.2.2.2.2 + z else X.2.2.1 j, X.2.2.2.1, X.2.2.2.2 + z) := (if_pos hq).trans (if_neg h100)
      rw [eS, eX]
      refine ⟨?_, fun i k a1 a2 a3 a4 a5 => ?_, fun i a1 a2 a3 a4 => ?_, h4, h5, ?_, ?_⟩
      · show X.2.2.2.2 + z = S.2.2 + z
        rw [h1]
      · have hik : ¬ (i = i0 ∧ k = 0) := fun hh => by rw [hh.1] at a5; omega
        have hpp := hp i k a1 a2 a3 a4 hik
        have := h2 i k a1 a2 a3 a4 a5
        exact ⟨fun hh => this.1 (hpp.mp hh), fun hh => this.2 (fun h => hh (hpp.mpr h))⟩
      · show (pl_s μ b z (m + 1) i 0 → (if μ 2 i = μ 2 i0 then X.2.2.2.2 else X.2.1 (μ 2 i)) = (if μ 2 i = μ 2 i0 then S.2.2 else S.2.1 (μ 2 i)) ∧ (if μ 2 i = μ 2 i0 then X.2.2.2.2 + z else X.2.2.1 (μ 2 i)) = (if μ 2 i = μ 2 i0 then S.2.2 else S.2.1 (μ 2 i)) + μ 7 (μ 2 i)) ∧ (¬ pl_s μ b z (m + 1) i 0 → (if μ 2 i = μ 2 i0 then X.2.2.2.2 else X.2.1 (μ 2 i)) = 0 ∧ (if μ 2 i = μ 2 i0 then X.2.2.2.2 + z else X.2.2.1 (μ 2 i)) = 0)
        by_cases hii : i = i0
        · rw [hii, if_pos rfl, if_pos rfl, if_pos rfl]
          exact ⟨fun _ => ⟨h1, by rw [h1, hbz]⟩, fun hh => absurd hy hh⟩
        · have hne : ¬ (μ 2 i = μ 2 i0) := fun hh => hii (hu i a1 a2 a3 hh)
          rw [if_neg hne, if_neg hne, if_neg hne]
          have hpp := hp i 0 a1 a2 (by omega) (by omega) (fun hh => hii hh.1)
          have := h3 i a1 a2 a3 a4
          exact ⟨fun hh => this.1 (hpp.mp hh), fun hh => this.2 (fun h => hh (hpp.mpr h))⟩
      · show (if (0 : Int) = μ 2 i0 then X.2.2.2.2 else X.2.1 0) = 0
        rw [if_neg (by omega)]
        exact h6
      · show (if (0 : Int) = μ 2 i0 then X.2.2.2.2 + z else X.2.2.1 0) = 4096
        rw [if_neg (by omega)]
        exact h7
  · have e0 : st_e μ z i0 k0 S = S := if_neg hq
    have e1 : ly_e μ z i0 k0 X = X := if_neg hq
    have hp : ∀ i k, 0 ≤ i → i < 32 → 0 ≤ k → k < 3 → (pl_s μ b z (m + 1) i k ↔ pl_s μ b z m i k) := fun i k a1 a2 a3 a4 => by
      constructor
      · intro ⟨p1, p2⟩
        refine ⟨p1, ?_⟩
        by_cases hik : i = i0 ∧ k = k0
        · rw [hik.1, hik.2] at p1 p2 ⊢; omega
        · omega
      · intro ⟨p1, p2⟩; exact ⟨p1, by omega⟩
    rw [e0, e1]
    refine ⟨h1, fun i k a1 a2 a3 a4 a5 => ?_, fun i a1 a2 a3 a4 => ?_, h4, h5, h6, h7⟩
    · have hpp := hp i k a1 a2 a3 a4
      have := h2 i k a1 a2 a3 a4 a5
      exact ⟨fun hh => this.1 (hpp.mp hh), fun hh => this.2 (fun h => hh (hpp.mpr h))⟩
    · have hpp := hp i 0 a1 a2 (by omega) (by omega)
      have := h3 i a1 a2 a3 a4
      exact ⟨fun hh => this.1 (hpp.mp hh), fun hh => this.2 (fun h => hh (hpp.mpr h))⟩
end LK
