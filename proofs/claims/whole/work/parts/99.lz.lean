/-! the layout: what the plan lays lies apart -/
/-- the size of range k of what is in slot i (a bridge's block is range 0) -/
def it_s (μ : mm_T) (i k : Int) : Int := if 100 ≤ μ 2 i then μ 9 (3 * μ 13 (μ 2 i - 100) + k) else if 0 ≤ μ 2 i ∧ k = 0 then μ 7 (μ 2 i) else 0
/-- where it is laid -/
def po_s (μ : mm_T) (S : pn_S) (i k : Int) : Int := if 100 ≤ μ 2 i then S.1 (3 * (μ 2 i - 100) + k) else S.2.1 (μ 2 i)
/-- laid already: when the bridge b is at size z, place m -/
abbrev pl_s (μ : mm_T) (b z m i k : Int) : Prop := 0 < it_s μ i k ∧ (i / 4 < b ∨ (i / 4 = b ∧ (z < it_s μ i k ∨ (it_s μ i k = z ∧ 3 * (i - 4 * b) + k < m))))
/-- one step of laying -/
def st_e (μ : mm_T) (z i k : Int) (S : pn_S) : pn_S := if it_s μ i k = z then (if 100 ≤ μ 2 i then (fun j => if j = 3 * (μ 2 i - 100) + k then S.2.2 else S.1 j, S.2.1, S.2.2 + z) else (S.1, fun j => if j = μ 2 i then S.2.2 else S.2.1 j, S.2.2 + z)) else S
def st_n (μ : mm_T) (z b : Int) : Nat → Int → pn_S → pn_S
  | 0, _, S => S
  | n + 1, m, S => st_n μ z b n (m + 1) (st_e μ z (4 * b + m / 3) (m % 3) S)
section LZ
variable {μ : mm_T} {S : pn_S} {b z m a i k j l u c : Int}
theorem it_c (h : 100 ≤ μ 2 i) : it_s μ i k = μ 9 (3 * μ 13 (μ 2 i - 100) + k) := if_pos h
theorem it_b (h : 0 ≤ μ 2 i ∧ μ 2 i < 100) : it_s μ i 0 = μ 7 (μ 2 i) := (if_neg (by omega)).trans (if_pos ⟨h.1, rfl⟩)
theorem it_0 (h : μ 2 i < 100) (hk : k ≠ 0) : it_s μ i k = 0 := (if_neg (by omega)).trans (if_neg (fun h2 => hk h2.2))
theorem it_n (h : μ 2 i < 0) : it_s μ i k = 0 := (if_neg (by omega)).trans (if_neg (fun h2 => by omega))
theorem st_ek (h : 100 ≤ μ 2 i) : st_e μ z i k S = pn_k μ z (μ 2 i - 100) k S := by
  unfold st_e pn_k it_s
  rw [if_pos h]
  by_cases h1 : μ 9 (3 * μ 13 (μ 2 i - 100) + k) = z
  · rw [if_pos h1, if_pos h1, if_pos h]
  · rw [if_neg h1, if_neg h1]
theorem st_eu (hz : 0 < z) : pn_u μ z (μ 2 i) S = st_e μ z i 2 (st_e μ z i 1 (st_e μ z i 0 S)) := by
  by_cases h : 100 ≤ μ 2 i
  · rw [st_ek h, st_ek h, st_ek h]
    exact if_pos h
  · have e1 : ∀ k S, k ≠ 0 → st_e μ z i k S = S := fun k S hk => by
      unfold st_e
      rw [it_0 (by omega) hk, if_neg (by omega)]
    rw [e1 2 _ (by omega), e1 1 _ (by omega)]
    unfold pn_u st_e
    rw [if_neg h]
    by_cases h2 : 0 ≤ μ 2 i
    · rw [it_b ⟨h2, by omega⟩]
      by_cases h3 : μ 7 (μ 2 i) = z
      · rw [if_pos ⟨h2, h3⟩, if_pos h3, if_neg h]
      · rw [if_neg (fun h4 => h3 h4.2), if_neg h3]
    · rw [if_neg (fun h4 => h2 h4.1), it_n (by omega), if_neg (by omega)]
theorem st_ns (hz : 0 < z) : pn_s μ z 4 (4 * b) S = st_n μ z b 12 0 S := by
  have e : st_n μ z b 12 0 S = (st_e μ z (4 * b + (0 + 1 + 1 + 1 + 1 + 1 + 1 + 1 + 1 + 1 + 1 + 1) / 3) ((0 + 1 + 1 + 1 + 1 + 1 + 1 + 1 + 1 + 1 + 1 + 1) % 3) (st_e μ z (4 * b + (0 + 1 + 1 + 1 + 1 + 1 + 1 + 1 + 1 + 1 + 1) / 3) ((0 + 1 + 1 + 1 + 1 + 1 + 1 + 1 + 1 + 1 + 1) % 3) (st_e μ z (4 * b + (0 + 1 + 1 + 1 + 1 + 1 + 1 + 1 + 1 + 1) / 3) ((0 + 1 + 1 + 1 + 1 + 1 + 1 + 1 + 1 + 1) % 3) (st_e μ z (4 * b + (0 + 1 + 1 + 1 + 1 + 1 + 1 + 1 + 1) / 3) ((0 + 1 + 1 + 1 + 1 + 1 + 1 + 1 + 1) % 3) (st_e μ z (4 * b + (0 + 1 + 1 + 1 + 1 + 1 + 1 + 1) / 3) ((0 + 1 + 1 + 1 + 1 + 1 + 1 + 1) % 3) (st_e μ z (4 * b + (0 + 1 + 1 + 1 + 1 + 1 + 1) / 3) ((0 + 1 + 1 + 1 + 1 + 1 + 1) % 3) (st_e μ z (4 * b + (0 + 1 + 1 + 1 + 1 + 1) / 3) ((0 + 1 + 1 + 1 + 1 + 1) % 3) (st_e μ z (4 * b + (0 + 1 + 1 + 1 + 1) / 3) ((0 + 1 + 1 + 1 + 1) % 3) (st_e μ z (4 * b + (0 + 1 + 1 + 1) / 3) ((0 + 1 + 1 + 1) % 3) (st_e μ z (4 * b + (0 + 1 + 1) / 3) ((0 + 1 + 1) % 3) (st_e μ z (4 * b + (0 + 1) / 3) ((0 + 1) % 3) (st_e μ z (4 * b + 0 / 3) (0 % 3) S)))))))))))) := rfl
  rw [e]
  show pn_u μ z (μ 2 (4 * b + 1 + 1 + 1)) (pn_u μ z (μ 2 (4 * b + 1 + 1)) (pn_u μ z (μ 2 (4 * b + 1)) (pn_u μ z (μ 2 (4 * b)) S))) = _
  rw [st_eu hz, st_eu hz, st_eu hz, st_eu hz]
  rw [show ((0 : Int)) / 3 = 0 by decide, show ((0 : Int)) % 3 = 0 by decide, show ((0 + 1 : Int)) / 3 = 0 by decide, show ((0 + 1 : Int)) % 3 = 1 by decide, show ((0 + 1 + 1 : Int)) / 3 = 0 by decide, show ((0 + 1 + 1 : Int)) % 3 = 2 by decide, show ((0 + 1 + 1 + 1 : Int)) / 3 = 1 by decide, show ((0 + 1 + 1 + 1 : Int)) % 3 = 0 by decide, show ((0 + 1 + 1 + 1 + 1 : Int)) / 3 = 1 by decide, show ((0 + 1 + 1 + 1 + 1 : Int)) % 3 = 1 by decide, show ((0 + 1 + 1 + 1 + 1 + 1 : Int)) / 3 = 1 by decide, show ((0 + 1 + 1 + 1 + 1 + 1 : Int)) % 3 = 2 by decide, show ((0 + 1 + 1 + 1 + 1 + 1 + 1 : Int)) / 3 = 2 by decide, show ((0 + 1 + 1 + 1 + 1 + 1 + 1 : Int)) % 3 = 0 by decide, show ((0 + 1 + 1 + 1 + 1 + 1 + 1 + 1 : Int)) / 3 = 2 by decide, show ((0 + 1 + 1 + 1 + 1 + 1 + 1 + 1 : Int)) % 3 = 1 by decide, show ((0 + 1 + 1 + 1 + 1 + 1 + 1 + 1 + 1 : Int)) / 3 = 2 by decide, show ((0 + 1 + 1 + 1 + 1 + 1 + 1 + 1 + 1 : Int)) % 3 = 2 by decide, show ((0 + 1 + 1 + 1 + 1 + 1 + 1 + 1 + 1 + 1 : Int)) / 3 = 3 by decide, show ((0 + 1 + 1 + 1 + 1 + 1 + 1 + 1 + 1 + 1 : Int)) % 3 = 0 by decide, show ((0 + 1 + 1 + 1 + 1 + 1 + 1 + 1 + 1 + 1 + 1 : Int)) / 3 = 3 by decide, show ((0 + 1 + 1 + 1 + 1 + 1 + 1 + 1 + 1 + 1 + 1 : Int)) % 3 = 1 by decide, show ((0 + 1 + 1 + 1 + 1 + 1 + 1 + 1 + 1 + 1 + 1 + 1 : Int)) / 3 = 3 by decide, show ((0 + 1 + 1 + 1 + 1 + 1 + 1 + 1 + 1 + 1 + 1 + 1 : Int)) % 3 = 2 by decide]
  rw [show 4 * b + 1 + 1 + 1 = 4 * b + 3 by omega, show 4 * b + 1 + 1 = 4 * b + 2 by omega, show 4 * b + (0 : Int) = 4 * b by omega]
/-- what holds while the bridge b is laid from a on, at size z, place m -/
def lz_V (μ : mm_T) (b z m a : Int) (S : pn_S) : Prop := (∀ i k, 0 ≤ i → i < 32 → 0 ≤ k → k < 3 → i / 4 = b → pl_s μ b z m i k → a ≤ po_s μ S i k ∧ po_s μ S i k + it_s μ i k ≤ S.2.2) ∧
  (∀ i k j l, 0 ≤ i → i < 32 → 0 ≤ j → j < 32 → 0 ≤ k → k < 3 → 0 ≤ l → l < 3 → i / 4 = j / 4 → ¬ (i = j ∧ k = l) → pl_s μ b z m i k → pl_s μ b z m j l → po_s μ S i k + it_s μ i k ≤ po_s μ S j l ∨ po_s μ S j l + it_s μ j l ≤ po_s μ S i k) ∧
  S.2.2 = a + sm_s (fun y => if pl_s μ b z m (4 * b + y / 3) (y % 3) then it_s μ (4 * b + y / 3) (y % 3) else 0) 12 ∧ (64 ≤ z → S.2.2 % 64 = 0) ∧
  (∀ i, 0 ≤ i → i < 32 → μ 2 i < 100 → pl_s μ b z m i 0 → 64 ≤ it_s μ i 0 → po_s μ S i 0 % 64 = 0)
theorem sm_1 {g g' : Int → Int} {j d : Int} (h0 : 0 ≤ j) : ∀ (n : Nat), j < (n : Int) → (∀ i : Int, 0 ≤ i → i < (n : Int) → i ≠ j → g' i = g i) → g' j = g j + d → sm_s g' n = sm_s g n + d
  | 0, h, _, _ => by omega
  | n + 1, h, h1, h2 => by
    show sm_s g' n + g' n = sm_s g n + g n + d
    by_cases hj : j = n
    · rw [sm_c n (fun i i0 i1 => h1 i i0 (by omega) (by omega)), ← hj, h2]
      omega
    · rw [sm_1 h0 n (by omega) (fun i i0 i1 i2 => h1 i i0 (by omega) i2) h2, h1 n (by omega) (by omega) (by omega)]
      omega
theorem sm_nn {g : Int → Int} : ∀ (n : Nat), (∀ i : Int, 0 ≤ i → i < (n : Int) → 0 ≤ g i) → 0 ≤ sm_s g n
  | 0, _ => by show (0 : Int) ≤ 0; omega
  | n + 1, h => by
    have h1 := sm_nn n (fun i a b => h i a (by omega))
    have h2 := h n (by omega) (by omega)
    show 0 ≤ sm_s g n + g n
    omega
theorem po_st (hz : 0 < z) (hU : iv_U μ) (hi : 0 ≤ i ∧ i < 32) (hj : 0 ≤ j ∧ j < 32) (hk : 0 ≤ k ∧ k < 3) (hl : 0 ≤ l ∧ l < 3) (hit : 0 < it_s μ j l) (hne : ¬ (i = j ∧ k = l)) : po_s μ (st_e μ z i k S) j l = po_s μ S j l := by
  have h2 : 0 ≤ μ 2 j := by
    by_cases h : 0 ≤ μ 2 j
    · exact h
    · rw [it_n (by omega)] at hit; omega
  have hu := hU j i hj.1 hj.2 hi.1 hi.2 h2
  unfold st_e
  by_cases h1 : it_s μ i k = z
  · rw [if_pos h1]
    by_cases h3 : 100 ≤ μ 2 i
    · rw [if_pos h3]
      unfold po_s
      by_cases h4 : 100 ≤ μ 2 j
      · rw [if_pos h4, if_pos h4]
        exact if_neg (fun h5 => by
          have h6 : μ 2 j = μ 2 i := by omega
          have := hu h6
          omega)
      · rw [if_neg h4, if_neg h4]
    · rw [if_neg h3]
      unfold po_s
      by_cases h4 : 100 ≤ μ 2 j
      · rw [if_pos h4, if_pos h4]
      · rw [if_neg h4, if_neg h4]
        have hl0 : l = 0 := by
          by_cases h : l = 0
          · exact h
          · rw [it_0 (by omega) h] at hit; omega
        exact if_neg (fun h5 => by
          have := hu h5
          subst this
          by_cases hk0 : k = 0
          · omega
          · rw [it_0 (by omega) hk0] at h1
            omega)
  · rw [if_neg h1]
theorem po_at (h : it_s μ i k = z) : po_s μ (st_e μ z i k S) i k = S.2.2 := by
  unfold st_e
  rw [if_pos h]
  unfold po_s
  by_cases h3 : 100 ≤ μ 2 i
  · rw [if_pos h3, if_pos h3]
    exact if_pos rfl
  · rw [if_neg h3, if_neg h3]
    exact if_pos rfl
theorem st_at (h : it_s μ i k = z) : (st_e μ z i k S).2.2 = S.2.2 + z := by
  unfold st_e
  rw [if_pos h]
  by_cases h3 : 100 ≤ μ 2 i
  · rw [if_pos h3]
  · rw [if_neg h3]
theorem lz_st (hU : iv_U μ) (hb : 0 ≤ b ∧ b < 8) (hm : 0 ≤ m ∧ m < 12) (hz : 0 < z) (h64 : 64 ≤ z → z % 64 = 0) (h : lz_V μ b z m a S) : lz_V μ b z (m + 1) a (st_e μ z (4 * b + m / 3) (m % 3) S) := by
  obtain ⟨i0, hi0⟩ : ∃ i0, i0 = 4 * b + m / 3 := ⟨_, rfl⟩
  obtain ⟨k0, hk0⟩ : ∃ k0, k0 = m % 3 := ⟨_, rfl⟩
  rw [← hi0, ← hk0]
  obtain ⟨h1, h2, h3, h4, h5⟩ := h
  have hm3 : 3 * (i0 - 4 * b) + k0 = m := by omega
  by_cases hq : it_s μ i0 k0 = z
  · have hp : ∀ i k, 0 ≤ i → i < 32 → 0 ≤ k → k < 3 → ¬ (i = i0 ∧ k = k0) → (pl_s μ b z (m + 1) i k ↔ pl_s μ b z m i k) := fun i k a1 a2 a3 a4 a5 => by
      constructor
      · intro ⟨p1, p2⟩; exact ⟨p1, by omega⟩
      · intro ⟨p1, p2⟩; exact ⟨p1, by omega⟩
    have hn : ¬ pl_s μ b z m i0 k0 := fun ⟨p1, p2⟩ => by omega
    have hy : pl_s μ b z (m + 1) i0 k0 := ⟨by omega, Or.inr ⟨by omega, Or.inr ⟨hq, by omega⟩⟩⟩
    have eo : ∀ i k, 0 ≤ i → i < 32 → 0 ≤ k → k < 3 → ¬ (i = i0 ∧ k = k0) → 0 < it_s μ i k → po_s μ (st_e μ z i0 k0 S) i k = po_s μ S i k := fun i k a1 a2 a3 a4 a5 a6 => po_st hz hU ⟨by omega, by omega⟩ ⟨a1, a2⟩ ⟨by omega, by omega⟩ ⟨a3, a4⟩ a6 (by omega)
    have en := po_at (S := S) hq
    have ea := st_at (S := S) hq
    have s0 : 0 ≤ sm_s (fun y => if pl_s μ b z m (4 * b + y / 3) (y % 3) then it_s μ (4 * b + y / 3) (y % 3) else 0) 12 := by
      have := sm_nn (g := fun y => if pl_s μ b z m (4 * b + y / 3) (y % 3) then it_s μ (4 * b + y / 3) (y % 3) else 0) 12 (fun y _ _ => by
        show 0 ≤ (if pl_s μ b z m (4 * b + y / 3) (y % 3) then it_s μ (4 * b + y / 3) (y % 3) else 0)
        split
        · next hh => have := hh.1; omega
        · omega)
      exact this
    refine ⟨fun i k a1 a2 a3 a4 a5 a6 => ?_, fun i k j l a1 a2 a3 a4 a5 a6 a7 a8 a9 b1 b2 b3 => ?_, ?_, fun a1 => ?_, fun i a1 a2 a3 a4 a5 => ?_⟩
    · rw [ea]
      by_cases hik : i = i0 ∧ k = k0
      · rw [hik.1, hik.2, en, hq]
        omega
      · have := h1 i k a1 a2 a3 a4 a5 ((hp i k a1 a2 a3 a4 hik).mp a6)
        rw [eo i k a1 a2 a3 a4 hik a6.1]
        omega
    · by_cases hik : i = i0 ∧ k = k0
      · have hjl : ¬ (j = i0 ∧ l = k0) := fun h => b1 ⟨by omega, by omega⟩
        have := h1 j l a3 a4 a7 a8 (by omega) ((hp j l a3 a4 a7 a8 hjl).mp b3)
        rw [hik.1, hik.2, en, eo j l a3 a4 a7 a8 hjl b3.1]
        exact Or.inr this.2
      · by_cases hjl : j = i0 ∧ l = k0
        · have := h1 i k a1 a2 a5 a6 (by omega) ((hp i k a1 a2 a5 a6 hik).mp b2)
          rw [hjl.1, hjl.2, en, eo i k a1 a2 a5 a6 hik b2.1]
          exact Or.inl this.2
        · rw [eo i k a1 a2 a5 a6 hik b2.1, eo j l a3 a4 a7 a8 hjl b3.1]
          exact h2 i k j l a1 a2 a3 a4 a5 a6 a7 a8 a9 b1 ((hp i k a1 a2 a5 a6 hik).mp b2) ((hp j l a3 a4 a7 a8 hjl).mp b3)
    · rw [ea, h3]
      have := sm_1 (g := fun y => if pl_s μ b z m (4 * b + y / 3) (y % 3) then it_s μ (4 * b + y / 3) (y % 3) else 0) (g' := fun y => if pl_s μ b z (m + 1) (4 * b + y / 3) (y % 3) then it_s μ (4 * b + y / 3) (y % 3) else 0) (j := m) (d := z) hm.1 12 (by omega) (fun y y0 y1 y2 => by
        have hpy := hp (4 * b + y / 3) (y % 3) (by omega) (by omega) (by omega) (by omega) (by omega)
        show (if pl_s μ b z (m + 1) (4 * b + y / 3) (y % 3) then it_s μ (4 * b + y / 3) (y % 3) else 0) = (if pl_s μ b z m (4 * b + y / 3) (y % 3) then it_s μ (4 * b + y / 3) (y % 3) else 0)
        by_cases hh : pl_s μ b z m (4 * b + y / 3) (y % 3)
        · rw [if_pos hh, if_pos (hpy.mpr hh)]
        · rw [if_neg hh, if_neg (fun h => hh (hpy.mp h))]) (by
        show (if pl_s μ b z (m + 1) (4 * b + m / 3) (m % 3) then it_s μ (4 * b + m / 3) (m % 3) else 0) = (if pl_s μ b z m (4 * b + m / 3) (m % 3) then it_s μ (4 * b + m / 3) (m % 3) else 0) + z
        rw [← hi0, ← hk0, if_pos hy, if_neg hn, hq]
        omega)
      rw [this]
      omega
    · rw [ea]
      have := h4 a1
      have := h64 a1
      omega
    · by_cases hik : i = i0 ∧ (0 : Int) = k0
      · have e2 : po_s μ (st_e μ z i0 k0 S) i 0 = S.2.2 := by rw [hik.1, hik.2]; exact en
        rw [e2]
        have e3 : it_s μ i 0 = z := by rw [hik.1, hik.2]; exact hq
        exact h4 (by omega)
      · rw [eo i 0 a1 a2 (by omega) (by omega) hik a4.1]
        exact h5 i a1 a2 a3 ((hp i 0 a1 a2 (by omega) (by omega) hik).mp a4) a5
  · have e0 : st_e μ z i0 k0 S = S := if_neg hq
    have hp : ∀ i k, 0 ≤ i → i < 32 → 0 ≤ k → k < 3 → (pl_s μ b z (m + 1) i k ↔ pl_s μ b z m i k) := fun i k a1 a2 a3 a4 => by
      constructor
      · intro ⟨p1, p2⟩
        refine ⟨p1, ?_⟩
        by_cases hik : i = i0 ∧ k = k0
        · rw [hik.1, hik.2] at p1 p2 ⊢; omega
        · omega
      · intro ⟨p1, p2⟩; exact ⟨p1, by omega⟩
    rw [e0]
    refine ⟨fun i k a1 a2 a3 a4 a5 a6 => h1 i k a1 a2 a3 a4 a5 ((hp i k a1 a2 a3 a4).mp a6), fun i k j l a1 a2 a3 a4 a5 a6 a7 a8 a9 b1 b2 b3 => h2 i k j l a1 a2 a3 a4 a5 a6 a7 a8 a9 b1 ((hp i k a1 a2 a5 a6).mp b2) ((hp j l a3 a4 a7 a8).mp b3), ?_, h4, fun i a1 a2 a3 a4 a5 => h5 i a1 a2 a3 ((hp i 0 a1 a2 (by omega) (by omega)).mp a4) a5⟩
    rw [h3]
    congr 1
    refine sm_c 12 (fun y y0 y1 => ?_)
    have hpy := hp (4 * b + y / 3) (y % 3) (by omega) (by omega) (by omega) (by omega)
    by_cases hh : pl_s μ b z m (4 * b + y / 3) (y % 3)
    · rw [if_pos hh, if_pos (hpy.mpr hh)]
    · rw [if_neg hh, if_neg (fun h => hh (hpy.mp h))]
end LZ
