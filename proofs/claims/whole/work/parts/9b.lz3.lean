/-! the layout: bridge after bridge -/
/-- the bridges below b are laid out -/
def lz_P (μ : mm_T) (b : Int) (T : pn_T) : Prop := (∀ i k, 0 ≤ i → i < 32 → 0 ≤ k → k < 3 → i / 4 < b → 0 < it_s μ i k → T.2.1 (i / 4) ≤ po_s μ (T.1, T.2.1, 0) i k ∧ po_s μ (T.1, T.2.1, 0) i k + it_s μ i k ≤ T.2.1 (i / 4) + mo_ld μ (i / 4)) ∧
  (∀ i k j l, 0 ≤ i → i < 32 → 0 ≤ j → j < 32 → 0 ≤ k → k < 3 → 0 ≤ l → l < 3 → i / 4 = j / 4 → i / 4 < b → ¬ (i = j ∧ k = l) → 0 < it_s μ i k → 0 < it_s μ j l → po_s μ (T.1, T.2.1, 0) i k + it_s μ i k ≤ po_s μ (T.1, T.2.1, 0) j l ∨ po_s μ (T.1, T.2.1, 0) j l + it_s μ j l ≤ po_s μ (T.1, T.2.1, 0) i k) ∧
  (∀ i, 0 ≤ i → i < 32 → μ 2 i < 100 → i / 4 < b → 64 ≤ it_s μ i 0 → po_s μ (T.1, T.2.1, 0) i 0 % 64 = 0) ∧ T.2.1 0 = 0 ∧
  (∀ x, 0 ≤ x → x < b → (1 ≤ x → μ 7 x = 0 → T.2.1 x = 0) ∧ T.2.2 x = if x = 0 then 4096 else if μ 7 x = 0 then 0 else T.2.1 x + μ 7 x)
section LZ3
variable {μ : mm_T} {S : pn_S} {T : pn_T} {f : Int → Int} {b z m a i k j l u c x : Int}
theorem lz_b (hI : iv_A μ f) (hU : iv_U μ) (hL : lv_ok μ) (hN : ∀ u, 1 ≤ u → u < μ 0 1 → ∃ i, 0 ≤ i ∧ i < 32 ∧ μ 2 i = u) (h64 : ∀ u, 1 ≤ u → u < μ 0 1 → μ 7 u = 0 ∨ 64 ≤ μ 7 u) (hb : 0 ≤ b ∧ b < μ 0 1) (h : lz_P μ b T) : lz_P μ (b + 1) (pn_1 μ b T) := by
  have h8 := hI.1.1
  have hT := hI.2.2.1
  obtain ⟨h1, h2, h3, h4, h5⟩ := h
  obtain ⟨a0, ha0⟩ : ∃ a0, a0 = pn_b1 μ b T.2.1 b := ⟨_, rfl⟩
  have hb1b : pn_b1 μ b T.2.1 b = if 0 < b ∧ μ 7 b = 0 then 0 else T.2.1 b := if_pos rfl
  have hb1n : ∀ x, x ≠ b → pn_b1 μ b T.2.1 x = T.2.1 x := fun x hx => if_neg hx
  have f0 : ∀ i k, 0 < it_s μ i k → po_s μ (T.1, pn_b1 μ b T.2.1, a0) i k = po_s μ (T.1, T.2.1, 0) i k := fun i k hit => by
    unfold po_s
    by_cases h100 : 100 ≤ μ 2 i
    · rw [if_pos h100, if_pos h100]
    · rw [if_neg h100, if_neg h100]
      show pn_b1 μ b T.2.1 (μ 2 i) = T.2.1 (μ 2 i)
      by_cases hub : μ 2 i = b
      · rw [hub, hb1b]
        have hk0 : k = 0 := by
          by_cases hk : k = 0
          · exact hk
          · rw [it_0 (by omega) hk] at hit; omega
        rw [hk0, it_b ⟨by omega, by omega⟩, hub] at hit
        rw [if_neg (by omega)]
      · exact hb1n _ hub
  have hal : a0 % 64 = 0 := by
    rw [ha0, hb1b]
    by_cases hz : 0 < b ∧ μ 7 b = 0
    · rw [if_pos hz]; decide
    · rw [if_neg hz]
      by_cases hb0 : b = 0
      · rw [hb0, h4]; decide
      · obtain ⟨i, i0, i1, i2⟩ := hN b (by omega) (by omega)
        have ht := hT.2.2 i i0 i1 (by omega) (by omega)
        have ht2 := hT.2.1 b (by omega) (by omega)
        rw [i2] at ht
        have hit : it_s μ i 0 = μ 7 b := by rw [it_b ⟨by omega, by omega⟩, i2]
        have h6 := h64 b (by omega) (by omega)
        have := h3 i i0 i1 (by omega) (by omega) (by omega)
        unfold po_s at this
        rw [if_neg (by omega), i2] at this
        exact this
  have hV0 : lz_V μ b 4096 0 a0 (T.1, pn_b1 μ b T.2.1, a0) := by
    have hpl : ∀ i k, 0 ≤ i → i < 32 → 0 ≤ k → k < 3 → pl_s μ b 4096 0 i k → i / 4 < b ∧ 0 < it_s μ i k := fun i k i0 i1 k0 k1 ⟨p1, p2⟩ => by
      have := lv_max _ (hL i k i0 i1 k0 k1)
      omega
    refine ⟨fun i k a1 a2 a3 a4 a5 a6 => ?_, fun i k j l a1 a2 a3 a4 a5 a6 a7 a8 a9 b1 b2 b3 => ?_, ?_, fun _ => hal, fun i a1 a2 a3 a4 a5 => ?_⟩
    · have := hpl i k a1 a2 a3 a4 a6
      omega
    · have q1 := hpl i k a1 a2 a5 a6 b2
      have q2 := hpl j l a3 a4 a7 a8 b3
      rw [f0 i k q1.2, f0 j l q2.2]
      exact h2 i k j l a1 a2 a3 a4 a5 a6 a7 a8 a9 q1.1 b1 q1.2 q2.2
    · show a0 = a0 + sm_s (fun y => if pl_s μ b 4096 0 (4 * b + y / 3) (y % 3) then it_s μ (4 * b + y / 3) (y % 3) else 0) 12
      rw [sm_c (g' := fun _ => 0) 12 (fun y y0 y1 => if_neg (fun hh => by have := hpl _ _ (by omega) (by omega) (by omega) (by omega) hh; omega))]
      show a0 = a0 + (0 + 0 + 0 + 0 + 0 + 0 + 0 + 0 + 0 + 0 + 0 + 0 + 0)
      omega
    · have q1 := hpl i 0 a1 a2 (by omega) (by omega) a4
      rw [f0 i 0 q1.2]
      exact h3 i a1 a2 a3 q1.1 a5
  have hV := lz_z hU hL (by omega) hV0
  have f1 : ∀ x, ¬ (1 ≤ x ∧ x < μ 0 1 ∧ μ 3 x = b) → (pn_z μ b pn_l (T.1, pn_b1 μ b T.2.1, a0)).2.1 x = pn_b1 μ b T.2.1 x := by
    refine pz_z (P := fun S => ∀ x, ¬ (1 ≤ x ∧ x < μ 0 1 ∧ μ 3 x = b) → S.2.1 x = pn_b1 μ b T.2.1 x) (fun z m S hz m0 m1 hS x hx => ?_) (fun x _ => rfl)
    rw [st_ebg hT (lv_64 z hz).1 (by omega) (by omega) hx]
    exact hS x hx
  have f2 : ∀ i k, 0 ≤ i → i < 32 → 0 ≤ k → k < 3 → i / 4 ≠ b → 0 < it_s μ i k → po_s μ (pn_z μ b pn_l (T.1, pn_b1 μ b T.2.1, a0)) i k = po_s μ (T.1, pn_b1 μ b T.2.1, a0) i k := by
    refine pz_z (P := fun S => ∀ i k, 0 ≤ i → i < 32 → 0 ≤ k → k < 3 → i / 4 ≠ b → 0 < it_s μ i k → po_s μ S i k = po_s μ (T.1, pn_b1 μ b T.2.1, a0) i k) (fun z m S hz m0 m1 hS i k a1 a2 a3 a4 a5 a6 => ?_) (fun i k _ _ _ _ _ _ => rfl)
    rw [po_st (lv_64 z hz).1 hU (by omega) ⟨a1, a2⟩ (by omega) ⟨a3, a4⟩ a6 (by omega)]
    exact hS i k a1 a2 a3 a4 a5 a6
  have e1 : pn_1 μ b T = ((pn_z μ b pn_l (T.1, pn_b1 μ b T.2.1, a0)).1, (pn_z μ b pn_l (T.1, pn_b1 μ b T.2.1, a0)).2.1, pn_e1 μ b (pn_b1 μ b T.2.1) T.2.2) := by rw [ha0]; rfl
  rw [e1]
  generalize pn_z μ b pn_l (T.1, pn_b1 μ b T.2.1, a0) = S1 at hV f1 f2 ⊢
  obtain ⟨v1, v2, v3, v4, v5⟩ := hV
  have hup : ∀ x, x ≤ b → S1.2.1 x = pn_b1 μ b T.2.1 x := fun x hx => f1 x (fun ⟨q1, q2, q3⟩ => by
    have := hT.2.1 x q1 q2
    omega)
  have hpl : ∀ i k, i / 4 = b → 0 < it_s μ i k → pl_s μ b 0 0 i k := fun i k q1 q2 => ⟨q2, Or.inr ⟨q1, Or.inl q2⟩⟩
  have hpl2 : ∀ i k, i / 4 < b → 0 < it_s μ i k → pl_s μ b 0 0 i k := fun i k q1 q2 => ⟨q2, Or.inl q1⟩
  have hat : S1.2.2 = a0 + mo_ld μ b := by
    rw [v3, ← sum_it hI (by omega)]
    congr 1
    refine sm_c 12 (fun y y0 y1 => ?_)
    have hn := lv_max _ (hL (4 * b + y / 3) (y % 3) (by omega) (by omega) (by omega) (by omega))
    by_cases hh : 0 < it_s μ (4 * b + y / 3) (y % 3)
    · exact if_pos (hpl _ _ (by omega) hh)
    · rw [if_neg (fun h => hh h.1)]; omega
  refine ⟨fun i k a1 a2 a3 a4 a5 a6 => ?_, fun i k j l a1 a2 a3 a4 a5 a6 a7 a8 a9 b0 b1 b2 b3 => ?_, fun i a1 a2 a3 a4 a5 => ?_, ?_, fun x x0 x1 => ?_⟩
  · show S1.2.1 (i / 4) ≤ po_s μ S1 i k ∧ po_s μ S1 i k + it_s μ i k ≤ S1.2.1 (i / 4) + mo_ld μ (i / 4)
    rw [hup (i / 4) (by omega)]
    by_cases hib : i / 4 = b
    · have := v1 i k a1 a2 a3 a4 hib (hpl i k hib a6)
      rw [hib, ← ha0]
      omega
    · rw [f2 i k a1 a2 a3 a4 hib a6, f0 i k a6, hb1n _ hib]
      exact h1 i k a1 a2 a3 a4 (by omega) a6
  · show po_s μ S1 i k + it_s μ i k ≤ po_s μ S1 j l ∨ po_s μ S1 j l + it_s μ j l ≤ po_s μ S1 i k
    by_cases hib : i / 4 = b
    · exact v2 i k j l a1 a2 a3 a4 a5 a6 a7 a8 a9 b1 (hpl i k hib b2) (hpl j l (by omega) b3)
    · exact v2 i k j l a1 a2 a3 a4 a5 a6 a7 a8 a9 b1 (hpl2 i k (by omega) b2) (hpl2 j l (by omega) b3)
  · show po_s μ S1 i 0 % 64 = 0
    by_cases hib : i / 4 = b
    · exact v5 i a1 a2 a3 (hpl i 0 hib (by omega)) a5
    · exact v5 i a1 a2 a3 (hpl2 i 0 (by omega) (by omega)) a5
  · show S1.2.1 0 = 0
    rw [hup 0 (by omega)]
    by_cases hb0 : b = 0
    · rw [hb0] at hb1b ⊢
      rw [hb1b, if_neg (by omega)]
      exact h4
    · rw [hb1n 0 (by omega)]
      exact h4
  · show (1 ≤ x → μ 7 x = 0 → S1.2.1 x = 0) ∧ pn_e1 μ b (pn_b1 μ b T.2.1) T.2.2 x = if x = 0 then 4096 else if μ 7 x = 0 then 0 else S1.2.1 x + μ 7 x
    rw [hup x (by omega)]
    by_cases hxb : x = b
    · rw [hxb]
      refine ⟨fun q1 q2 => by rw [hb1b, if_pos ⟨by omega, q2⟩], if_pos rfl⟩
    · rw [hb1n x hxb]
      have := h5 x x0 (by omega)
      exact ⟨this.1, (if_neg hxb).trans this.2⟩
theorem lz_all (hI : iv_A μ f) (hU : iv_U μ) (hL : lv_ok μ) (hN : ∀ u, 1 ≤ u → u < μ 0 1 → ∃ i, 0 ≤ i ∧ i < 32 ∧ μ 2 i = u) (h64 : ∀ u, 1 ≤ u → u < μ 0 1 → μ 7 u = 0 ∨ 64 ≤ μ 7 u) : ∀ (n : Nat) (b : Int) (T : pn_T), 0 ≤ b → b + n = μ 0 1 → lz_P μ b T → lz_P μ (μ 0 1) (pn_b μ n b T)
  | 0, b, T, h0, hn, h => by
    rw [show μ 0 1 = b by omega]
    exact h
  | n + 1, b, T, h0, hn, h => lz_all hI hU hL hN h64 n (b + 1) _ (by omega) (by omega) (lz_b hI hU hL hN h64 (by omega) h)
end LZ3
