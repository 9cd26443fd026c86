/-! the class lays as the reference plans: all bridges -/
section LK2
variable {μ : mm_T} {S : pn_S} {X : ly_S} {T : pn_T} {f : Int → Int} {g0 : Int → Int → Int} {b z m a i k j l u c x : Int}
theorem lk_c {b2 z2 m2 : Int} (hp : ∀ i k, 0 ≤ i → i < 32 → 0 ≤ k → k < 3 → (pl_s μ b2 z2 m2 i k ↔ pl_s μ b z m i k)) (h : lk_R μ b z m g0 S X) : lk_R μ b2 z2 m2 g0 S X := by
  obtain ⟨h1, h2, h3, h4, h5, h6, h7⟩ := h
  refine ⟨h1, fun i k a1 a2 a3 a4 a5 => ?_, fun i a1 a2 a3 a4 => ?_, h4, h5, h6, h7⟩
  · have hpp := hp i k a1 a2 a3 a4
    have := h2 i k a1 a2 a3 a4 a5
    exact ⟨fun hh => this.1 (hpp.mp hh), fun hh => this.2 (fun h => hh (hpp.mpr h))⟩
  · have hpp := hp i 0 a1 a2 (by omega) (by omega)
    have := h3 i a1 a2 a3 a4
    exact ⟨fun hh => this.1 (hpp.mp hh), fun hh => this.2 (fun h => hh (hpp.mpr h))⟩
theorem lk_n (hU : iv_U μ) (hI : iv_A μ f) (hb : 0 ≤ b ∧ b < 8) (hz : z ∈ pn_l) : ∀ (n : Nat) (m : Int) (S : pn_S) (X : ly_S), 0 ≤ m → m + n = 12 → lk_R μ b z m g0 S X → lk_R μ b z 12 g0 (st_n μ z b n m S) (ly_n μ z b n m X)
  | 0, m, S, X, h0, hn, h => by
    rw [show m = 12 by omega] at h
    exact h
  | n + 1, m, S, X, h0, hn, h => lk_n hU hI hb hz n (m + 1) _ _ (by omega) (by omega) (lk_st hU hI hb (by omega) (lv_64 z hz).1 h)
theorem lk_1 (hU : iv_U μ) (hI : iv_A μ f) (hL : lv_ok μ) (hb : 0 ≤ b ∧ b < 8) (hz : z ∈ pn_l) (h : lk_R μ b z 0 g0 S X) : lk_R μ b (z / 2) 0 g0 (pn_s μ z 4 (4 * b) S) (ly_s μ z 4 (4 * b) X) := by
  rw [st_ns (lv_64 z hz).1, ly_ns (lv_64 z hz).1]
  refine lk_c (fun i k a1 a2 a3 a4 => ?_) (lk_n hU hI hb hz 12 0 S X (by omega) (by omega) h)
  have h1 := lv_half z hz _ (hL i k a1 a2 a3 a4)
  constructor
  · intro ⟨p1, p2⟩
    refine ⟨p1, ?_⟩
    rcases p2 with p2 | ⟨p2, p3⟩
    · exact Or.inl p2
    · refine Or.inr ⟨p2, ?_⟩
      rcases p3 with p3 | p3
      · have := h1.mp p3
        by_cases he : it_s μ i k = z
        · exact Or.inr ⟨he, by omega⟩
        · exact Or.inl (by omega)
      · omega
  · intro ⟨p1, p2⟩
    refine ⟨p1, ?_⟩
    rcases p2 with p2 | ⟨p2, p3⟩
    · exact Or.inl p2
    · exact Or.inr ⟨p2, Or.inl (h1.mpr (by omega))⟩
theorem lk_z (hU : iv_U μ) (hI : iv_A μ f) (hL : lv_ok μ) (hb : 0 ≤ b ∧ b < 8) (h : lk_R μ b 4096 0 g0 S X) : lk_R μ b 0 0 g0 (pn_z μ b pn_l S) (ly_z μ b pn_l X) := by
  have h := lk_1 hU hI hL hb (by decide) h
  have h := lk_1 hU hI hL hb (z := 2048) (by decide) h
  have h := lk_1 hU hI hL hb (z := 1024) (by decide) h
  have h := lk_1 hU hI hL hb (z := 512) (by decide) h
  have h := lk_1 hU hI hL hb (z := 256) (by decide) h
  have h := lk_1 hU hI hL hb (z := 128) (by decide) h
  have h := lk_1 hU hI hL hb (z := 64) (by decide) h
  have h := lk_1 hU hI hL hb (z := 32) (by decide) h
  have h := lk_1 hU hI hL hb (z := 16) (by decide) h
  have h := lk_1 hU hI hL hb (z := 8) (by decide) h
  have h := lk_1 hU hI hL hb (z := 4) (by decide) h
  have h := lk_1 hU hI hL hb (z := 2) (by decide) h
  have h := lk_1 hU hI hL hb (z := 1) (by decide) h
  exact h
theorem lk_b (hI : iv_A μ f) (hU : iv_U μ) (hL : lv_ok μ) (hN : ∀ u, 1 ≤ u → u < μ 0 1 → ∃ i, 0 ≤ i ∧ i < 32 ∧ μ 2 i = u) (h64 : ∀ u, 1 ≤ u → u < μ 0 1 → μ 7 u = 0 ∨ 64 ≤ μ 7 u) (hb : 0 ≤ b ∧ b < μ 0 1) (hT0 : T.2.1 0 = 0) {y : Int} (h : lk_R μ b 4096 0 g0 (T.1, T.2.1, y) X) : ∃ y2, lk_R μ (b + 1) 4096 0 g0 ((pn_1 μ b T).1, (pn_1 μ b T).2.1, y2) (ly_1 μ b X) := by
  have h8 := hI.1.1
  have hT := hI.2.2.1
  obtain ⟨h1, h2, h3, h4, h5, h6, h7⟩ := h
  have hb1b : pn_b1 μ b T.2.1 b = if 0 < b ∧ μ 7 b = 0 then 0 else T.2.1 b := if_pos rfl
  have hb1n : ∀ x, x ≠ b → pn_b1 μ b T.2.1 x = T.2.1 x := fun x hx => if_neg hx
  have hat : X.2.1 b = pn_b1 μ b T.2.1 b := by
    rw [hb1b]
    by_cases hb0 : b = 0
    · rw [hb0, if_neg (by omega), h6, hT0]
    · obtain ⟨i, i0, i1, i2⟩ := hN b (by omega) (by omega)
      have ht := hT.2.2 i i0 i1 (by omega) (by omega)
      have ht2 := hT.2.1 b (by omega) (by omega)
      have h3i := h3 i i0 i1 (by omega) (by omega)
      have hit : it_s μ i 0 = μ 7 b := by rw [it_b ⟨by omega, by omega⟩, i2]
      rw [i2] at ht h3i
      have h6b := h64 b (by omega) (by omega)
      by_cases hz : μ 7 b = 0
      · rw [if_pos ⟨by omega, hz⟩]
        exact (h3i.2 (fun hh => by have := hh.1; omega)).1
      · rw [if_neg (by omega)]
        exact (h3i.1 ⟨by omega, Or.inl (by omega)⟩).1
  have hR0 : lk_R μ b 4096 0 g0 (T.1, pn_b1 μ b T.2.1, pn_b1 μ b T.2.1 b) (X.1, X.2.1, X.2.2.1, X.2.2.2.1, X.2.1 b) := by
    refine ⟨hat, h2, fun i a1 a2 a3 a4 => ?_, h4, h5, h6, h7⟩
    have := h3 i a1 a2 a3 a4
    refine ⟨fun hh => ?_, this.2⟩
    have h10 := this.1 hh
    show X.2.1 (μ 2 i) = pn_b1 μ b T.2.1 (μ 2 i) ∧ X.2.2.1 (μ 2 i) = pn_b1 μ b T.2.1 (μ 2 i) + μ 7 (μ 2 i)
    by_cases hub : μ 2 i = b
    · have hit : it_s μ i 0 = μ 7 b := by rw [it_b ⟨a3, a4⟩, hub]
      have := hh.1
      rw [hub] at h10 ⊢
      rw [hb1b, if_neg (by omega)]
      exact h10
    · rw [hb1n _ hub]
      exact h10
  have hZ := lk_z hU hI hL (by omega) hR0
  refine ⟨(pn_z μ b pn_l (T.1, pn_b1 μ b T.2.1, pn_b1 μ b T.2.1 b)).2.2, lk_c (b := b) (z := 0) (m := 0) (fun i k a1 a2 a3 a4 => ?_) hZ⟩
  have hmx := lv_max _ (hL i k a1 a2 a3 a4)
  constructor
  · intro ⟨p1, p2⟩; exact ⟨p1, by omega⟩
  · intro ⟨p1, p2⟩; exact ⟨p1, by omega⟩
theorem lk_all (hI : iv_A μ f) (hU : iv_U μ) (hL : lv_ok μ) (hN : ∀ u, 1 ≤ u → u < μ 0 1 → ∃ i, 0 ≤ i ∧ i < 32 ∧ μ 2 i = u) (h64 : ∀ u, 1 ≤ u → u < μ 0 1 → μ 7 u = 0 ∨ 64 ≤ μ 7 u) : ∀ (n : Nat) (b y : Int) (T : pn_T) (X : ly_S), 0 ≤ b → b + n = μ 0 1 → lz_P μ b T → lk_R μ b 4096 0 g0 (T.1, T.2.1, y) X → ∃ y2, lk_R μ (μ 0 1) 4096 0 g0 ((pn_b μ n b T).1, (pn_b μ n b T).2.1, y2) (ly_l μ n b X)
  | 0, b, y, T, X, h0, hn, hp, h => by
    rw [show μ 0 1 = b by omega]
    exact ⟨y, h⟩
  | n + 1, b, y, T, X, h0, hn, hp, h => by
    obtain ⟨y2, h2⟩ := lk_b hI hU hL hN h64 (by omega) hp.2.2.2.1 h
    exact lk_all hI hU hL hN h64 n (b + 1) y2 _ _ (by omega) (by omega) (lz_b hI hU hL hN h64 (by omega) hp) h2
end LK2
