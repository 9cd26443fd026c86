/-! a card taken out: the invariant -/
theorem bk_mo {m m' : Int} (h : m ≤ m') : ∀ (n : Nat) (x : Int), 0 ≤ x → mo_bk n x m ≤ mo_bk n x m'
  | 0, x, _ => by unfold mo_bk; omega
  | n + 1, x, hx => by
    by_cases h1 : x < m
    · unfold mo_bk
      rw [if_pos h1, if_pos (by omega)]
      exact bk_mo h n (2 * x) (by omega)
    · have e : mo_bk (n + 1) x m = x := if_neg h1
      rw [e]
      exact mo_bk_0 (n + 1) x hx
theorem bl_mo {m m' : Int} (h0 : 0 ≤ m) (h : m ≤ m') : mo_bl m ≤ mo_bl m' := by
  unfold mo_bl
  by_cases h1 : m = 0
  · rw [if_pos h1]
    split
    · omega
    · have := mo_bk_0 (m := m') 16 64 (by omega); omega
  · rw [if_neg h1, if_neg (by omega)]
    exact bk_mo h 16 64 (by omega)
section IRM
variable {μ μ' ρ ρ' : mm_T} {f : Int → Int} {b c i k u x y z : Int}
/-- with less in the slots, blocks are no greater -/
theorem ml_mo (hI : iv_A μ f) (hI' : iv_A μ' f) (h0 : μ' 0 1 = μ 0 1) (h2 : ∀ i, 0 ≤ i → i < 32 → μ' 2 i = μ 2 i ∨ μ' 2 i = -1) (h9 : μ' 9 = μ 9) (h13 : μ' 13 = μ 13) (hfix : ∀ b, 0 ≤ b → b < μ 0 1 → μ 7 b = mo_bl (mo_ld μ b)) (hfix' : ∀ b, 0 ≤ b → b < μ 0 1 → μ' 7 b = mo_bl (mo_ld μ' b)) (hb7 : ∀ u, 0 ≤ u → u < μ 0 1 → 0 ≤ μ 7 u ∧ μ 7 u ≤ mo_bd (f u)) (hb7' : ∀ u, 0 ≤ u → u < μ 0 1 → 0 ≤ μ' 7 u ∧ μ' 7 u ≤ mo_bd (f u)) : ∀ (n : Nat) (b : Int), 0 ≤ b → μ 0 1 - b ≤ n → b < μ 0 1 → mo_ld μ' b ≤ mo_ld μ b
  | 0, b, h1, h3, h4 => by omega
  | n + 1, b, h1, h3, h4 => by
    have h8 := hI.1.1
    have hu : ∀ i, 4 * b ≤ i → i < 4 * b + 4 → mo_ldu μ' (μ' 2 i) ≤ mo_ldu μ (μ 2 i) := fun i i0 i1 => by
      have hn := (ldu_b hI.1 hI.2.1 hI.2.2.1 (b := b) ⟨h1, h4⟩ (fun u h6 h7 => hb7 u (by omega) h7) ⟨i0, i1⟩).1
      rcases h2 i (by omega) (by omega) with h | h
      · rw [h]
        unfold mo_ldu
        rw [h9, h13]
        by_cases h5 : 100 ≤ μ 2 i
        · rw [if_pos h5, if_pos h5]; omega
        · rw [if_neg h5, if_neg h5]
          by_cases h6 : 0 ≤ μ 2 i
          · rw [if_pos h6, if_pos h6]
            have ht := hI.2.2.1.2.2 i (by omega) (by omega) h6 (by omega)
            have ht2 := hI.2.2.1.2.1 (μ 2 i) ht.1 ht.2.1
            have ih := ml_mo hI hI' h0 h2 h9 h13 hfix hfix' hb7 hb7' n (μ 2 i) h6 (by omega) ht.2.1
            have hld := ld_b hI'.1 hI'.2.1 hI'.2.2.1 (b := μ 2 i) (by rw [h0]; omega) (fun u h6 h7 => hb7' u (by omega) (by rw [← h0]; exact h7))
            rw [hfix (μ 2 i) h6 ht.2.1, hfix' (μ 2 i) h6 ht.2.1]
            exact bl_mo hld.1 ih
          · rw [if_neg h6, if_neg h6]; omega
      · rw [h]
        have e : mo_ldu μ' (-1) = 0 := rfl
        rw [e]
        exact hn
    have u0 := hu (4 * b) (by omega) (by omega)
    have u1 := hu (4 * b + 1) (by omega) (by omega)
    have u2 := hu (4 * b + 1 + 1) (by omega) (by omega)
    have u3 := hu (4 * b + 1 + 1 + 1) (by omega) (by omega)
    have e1 : mo_ld μ' b = mo_ldu μ' (μ' 2 (4 * b)) + (mo_ldu μ' (μ' 2 (4 * b + 1)) + (mo_ldu μ' (μ' 2 (4 * b + 1 + 1)) + (mo_ldu μ' (μ' 2 (4 * b + 1 + 1 + 1)) + 0))) := rfl
    have e2 : mo_ld μ b = mo_ldu μ (μ 2 (4 * b)) + (mo_ldu μ (μ 2 (4 * b + 1)) + (mo_ldu μ (μ 2 (4 * b + 1 + 1)) + (mo_ldu μ (μ 2 (4 * b + 1 + 1 + 1)) + 0))) := rfl
    omega
theorem ml_mo2 (hA : iv_A ρ f) (hA' : iv_A ρ' f) (h0 : ρ' 0 1 = ρ 0 1) (h2 : ∀ i, 0 ≤ i → i < 32 → ρ' 2 i = ρ 2 i ∨ ρ' 2 i = -1) (h9 : ρ' 9 = ρ 9) (h13 : ρ' 13 = ρ 13) : mo_ld (mo_me (ρ' 0 1).toNat ρ') 0 ≤ mo_ld (mo_me (ρ 0 1).toNat ρ) 0 := by
  have h8 := hA.1.1
  rw [h0]
  have hf := me_fr (ρ 0 1).toNat ρ
  have hf' := me_fr (ρ 0 1).toNat ρ'
  have q0 := hf 0 (by decide)
  have q0' := hf' 0 (by decide)
  refine ml_mo (f := f) (iv_A_fr (fr_w hf (by decide)) hA) (iv_A_fr (fr_w hf' (by decide)) hA') (by rw [q0, q0']; exact h0) (by rw [hf 2 (by decide), hf' 2 (by decide)]; exact h2) (by rw [hf 9 (by decide), hf' 9 (by decide)]; exact h9) (by rw [hf 13 (by decide), hf' 13 (by decide)]; exact h13) ?_ ?_ ?_ ?_ (ρ 0 1).toNat 0 (by omega) (by rw [q0]; omega) (by rw [q0]; omega)
  · intro b h1 h3
    exact me_fix hA.2.2.1 (by omega) (ρ 0 1).toNat ρ (by omega) fr_rfl b h1 (by rw [q0] at h3; omega)
  · intro b h1 h3
    exact me_fix hA'.2.2.1 (by omega) (ρ 0 1).toNat ρ' (by omega) fr_rfl b h1 (by rw [q0] at h3; omega)
  · intro u h1 h3
    exact me_b (ρ 0 1).toNat ρ hA.1 hA.2.1 hA.2.2.1 (by omega) (fun u h3 h4 => by omega) u h1 (by rw [q0] at h3; exact h3)
  · intro u h1 h3
    exact me_b (ρ 0 1).toNat ρ' hA'.1 hA'.2.1 hA'.2.2.1 (by omega) (fun u h3 h4 => by omega) u h1 (by rw [q0] at h3; omega)
theorem iv_rm (hI : iv_I ρ f) (hc : 0 ≤ c ∧ c < ρ 0 12) (hst : ρ 15 c ≤ 3) (hy : y = 4 ∨ y = 5) : iv_I (mo_rm (mm_u ρ 16 c z) c y) f := by
  obtain ⟨hA, hU, h8, hD, hW, hO, hRg, hP, hN, hZ, hX⟩ := hI
  have b1 := hA.1.1
  have b12 := hA.1.2.2.1
  have b21 := hA.1.2.2.2.1
  have e0 : ∀ i, i ≠ 21 → mo_rm (mm_u ρ 16 c z) c y 0 i = ρ 0 i := fun i hi => by rw [mo_rm_0 hi, mm_u_ne (by omega)]
  have er : ∀ p, p ≠ 0 → p ≠ 2 → p ≠ 15 → p ≠ 16 → p ≠ 17 → p ≠ 19 → mo_rm (mm_u ρ 16 c z) c y p = ρ p := fun p h1 h2 h3 h4 h5 h6 => by
    rw [rm_ne ⟨h1, h2, h3, h5, h6⟩]
    funext i
    exact mm_u_ne (by omega)
  have e15 : ∀ i, mo_rm (mm_u ρ 16 c z) c y 15 i = if i = c then y else ρ 15 i := fun i => by rw [rm_15, mm_u_ne (by omega)]
  have e19 : ∀ i, mo_rm (mm_u ρ 16 c z) c y 19 i = if i = c then 0 else ρ 19 i := fun i => by rw [rm_19, mm_u_ne (by omega)]
  have e17 : ∀ i, mo_rm (mm_u ρ 16 c z) c y 17 i = if 3 * c ≤ i ∧ i < 3 * c + 3 then -1 else ρ 17 i := fun i => by rw [rm_17, mm_u_ne (by omega)]
  have e2 : ∀ i, 0 ≤ i → i < 32 → mo_rm (mm_u ρ 16 c z) c y 2 i = if ρ 2 i = 100 + c then -1 else ρ 2 i := fun i h1 h2 => by rw [rm_2 ⟨h1, h2⟩, mm_u_ne (by omega)]
  have e16 : ∀ i, mo_rm (mm_u ρ 16 c z) c y 16 i = if i = c then z else ρ 16 i := fun i => by
    rw [rm_ne (by omega)]
    by_cases h : i = c
    · rw [h, mm_u_at, if_pos rfl]
    · rw [mm_u_ne (by omega), if_neg h]
  have e21 : mo_rm (mm_u ρ 16 c z) c y 0 21 = if ρ 0 21 = c then -1 else ρ 0 21 := by rw [rm_21, mm_u_ne (by omega)]
  have hBn : mo_B (mo_rm (mm_u ρ 16 c z) c y) := mo_B_rm (mo_Bu_o hA.1 (by omega)) hc.1 (by omega)
  generalize mo_rm (mm_u ρ 16 c z) c y = ρ' at e0 er e15 e19 e17 e2 e16 e21 hBn ⊢
  have e3 := er 3 (by omega) (by omega) (by omega) (by omega) (by omega) (by omega)
  have e5 := er 5 (by omega) (by omega) (by omega) (by omega) (by omega) (by omega)
  have e6 := er 6 (by omega) (by omega) (by omega) (by omega) (by omega) (by omega)
  have e9 := er 9 (by omega) (by omega) (by omega) (by omega) (by omega) (by omega)
  have e13 := er 13 (by omega) (by omega) (by omega) (by omega) (by omega) (by omega)
  have e14 := er 14 (by omega) (by omega) (by omega) (by omega) (by omega) (by omega)
  have e25 := er 25 (by omega) (by omega) (by omega) (by omega) (by omega) (by omega)
  have e28 := er 28 (by omega) (by omega) (by omega) (by omega) (by omega) (by omega)
  have ew : ∀ c2, mo_wt ρ' c2 = mo_wt ρ c2 := fun c2 => mo_wt_c (e0 24 (by omega)) e25 e28 c2
  have hA' : iv_A ρ' f := by
    refine ⟨hBn, ⟨fun i i0 i1 => ?_, by rw [e5, e6]; exact hA.2.1.2.1, fun c2 k c0 c1 k0 k1 hr => ?_⟩, ⟨hA.2.2.1.1, by rw [e0 1 (by omega), e3]; exact hA.2.2.1.2.1, fun i i0 i1 h1 h2 => ?_⟩, by unfold mo_p2s; rw [e9]; exact hA.2.2.2.1, by rw [er 11 (by omega) (by omega) (by omega) (by omega) (by omega) (by omega)]; exact hA.2.2.2.2.1, ⟨by rw [e0 12 (by omega), e0 1 (by omega), e0 8 (by omega), e13, e14]; exact hA.2.2.2.2.2.1, fun i i0 i1 h1 => ?_⟩⟩
    · rw [e2 i i0 i1]
      split
      · omega
      · exact hA.2.1.1 i i0 i1
    · rw [e17] at hr ⊢
      rw [e9, e13]
      split at hr
      · omega
      · next h => rw [if_neg h]; exact hA.2.1.2.2 c2 k c0 c1 k0 k1 hr
    · rw [e2 i i0 i1] at h1 h2 ⊢
      rw [e0 1 (by omega), e3]
      split at h1
      · omega
      · next h => rw [if_neg h] at h2 ⊢; exact hA.2.2.1.2.2 i i0 i1 h1 h2
    · rw [e2 i i0 i1] at h1 ⊢
      rw [e0 12 (by omega), e14]
      split at h1
      · omega
      · next h =>
        rw [if_neg h]
        have := hA.2.2.2.2.2.2 i i0 i1 h1
        rw [e15, if_neg (by omega)]
        exact this
  have hil : ∀ i k, 0 ≤ i → i < 32 → 0 ≤ k → k < 3 → iv_lo ρ' i k < iv_hi ρ' i k → iv_lo ρ' i k = iv_lo ρ i k ∧ iv_hi ρ' i k = iv_hi ρ i k := fun i k i0 i1 k0 k1 hlt => by
    by_cases hs : ρ 2 i = 100 + c
    · have h1 : iv_lo ρ' i k = 0 := by
        unfold iv_lo
        rw [e2 i i0 i1, if_pos hs, if_neg (by omega), if_neg (by omega)]
      have h2 : iv_hi ρ' i k = 0 := by
        unfold iv_hi
        rw [e2 i i0 i1, if_pos hs, if_neg (by omega), if_neg (by omega)]
      omega
    · have es : ρ' 2 i = ρ 2 i := by rw [e2 i i0 i1, if_neg hs]
      have e17i : 100 ≤ ρ 2 i → ρ' 17 (3 * (ρ 2 i - 100) + k) = ρ 17 (3 * (ρ 2 i - 100) + k) := fun _ => by rw [e17, if_neg (by omega)]
      unfold iv_lo iv_hi
      rw [es, e5, e6, e9, e13]
      by_cases h100 : 100 ≤ ρ 2 i
      · rw [e17i h100]
        exact ⟨rfl, rfl⟩
      · rw [if_neg h100, if_neg h100, if_neg h100, if_neg h100]
        exact ⟨rfl, rfl⟩
  refine ⟨hA', ?_, ?_, ?_, ?_, ?_, ?_, ?_, ?_, ?_, ?_⟩
  · intro i j i0 i1 j0 j1 h1 h2
    rw [e2 i i0 i1] at h1 h2
    rw [e2 j j0 j1] at h2
    by_cases hs : ρ 2 i = 100 + c
    · rw [if_pos hs] at h1; omega
    · rw [if_neg hs] at h1 h2
      by_cases hs2 : ρ 2 j = 100 + c
      · rw [if_pos hs2] at h2; omega
      · rw [if_neg hs2] at h2
        exact hU i j i0 i1 j0 j1 h1 h2
  · intro c2 c0 c1
    rw [e0 12 (by omega)] at c1
    rw [ew]
    exact h8 c2 c0 c1
  · intro i j k l a1 a2 a3 a4 a5 a6 a7 a8 a9 b2 b3 b4
    have q1 := hil i k a1 a2 a5 a6 b3
    have q2 := hil j l a3 a4 a7 a8 b4
    rw [q1.1, q1.2, q2.1, q2.2]
    rw [q1.1, q1.2] at b3
    rw [q2.1, q2.2] at b4
    exact hD i j k l a1 a2 a3 a4 a5 a6 a7 a8 a9 b2 b3 b4
  · intro i k a1 a2 a3 a4 a5
    have q1 := hil i k a1 a2 a3 a4 a5
    rw [q1.1, q1.2, e5, e6]
    rw [q1.1, q1.2] at a5
    exact hW i k a1 a2 a3 a4 a5
  · unfold iv_O
    rw [e5, e6]
    exact hO
  · intro c2 k c0 c1 k0 k1
    rw [e0 12 (by omega)] at c1
    rw [e15, e17, e9, e13]
    by_cases hcc : c2 = c
    · rw [if_pos hcc, if_pos (by omega)]
      exact Or.inr ⟨fun h => by omega, rfl⟩
    · rw [if_neg hcc, if_neg (by omega)]
      exact hRg c2 k c0 c1 k0 k1
  · intro c2 c0 c1 hp
    rw [e0 12 (by omega)] at c1
    rw [e19] at hp
    rw [e15, ew]
    by_cases hcc : c2 = c
    · rw [if_pos hcc] at hp; omega
    · rw [if_neg hcc] at hp ⊢
      exact hP c2 c0 c1 hp
  · refine ⟨fun h => ?_, fun c2 c0 c1 hs => ?_, fun c2 c0 c1 hs => ?_, fun u u0 u1 => ?_⟩
    · rw [e21] at h ⊢
      by_cases hcc : ρ 0 21 = c
      · rw [if_pos hcc] at h; omega
      · rw [if_neg hcc] at h ⊢
        rw [e15, if_neg hcc]
        exact hN.1 h
    · rw [e0 12 (by omega)] at c1
      rw [e15] at hs
      by_cases hcc : c2 = c
      · rw [if_pos hcc] at hs; omega
      · rw [if_neg hcc] at hs
        have := hN.2.1 c2 c0 c1 hs
        rw [e21, if_neg (by omega)]
        exact this
    · rw [e0 12 (by omega)] at c1
      rw [e15] at hs
      by_cases hcc : c2 = c
      · rw [if_pos hcc] at hs; omega
      · rw [if_neg hcc] at hs
        obtain ⟨i, i0, i1, i2⟩ := hN.2.2.1 c2 c0 c1 hs
        exact ⟨i, i0, i1, by rw [e2 i i0 i1, if_neg (by omega)]; exact i2⟩
    · rw [e0 1 (by omega)] at u1
      obtain ⟨i, i0, i1, i2⟩ := hN.2.2.2 u u0 u1
      exact ⟨i, i0, i1, by rw [e2 i i0 i1, if_neg (by omega)]; exact i2⟩
  · refine ⟨fun i i0 i1 => ?_, by rw [e0 1 (by omega), e5, e6]; exact hZ.2.1, fun c2 c0 c1 => ?_, by rw [e0 24 (by omega), e0 12 (by omega), e25]; exact hZ.2.2.2.1, fun i i0 i1 => by rw [e0 12 (by omega)] at i0; rw [e17, if_neg (by omega)]; exact hZ.2.2.2.2 i i0 i1⟩
    · rw [e0 1 (by omega)] at i0
      rw [e2 i (by omega) i1, hZ.1 i i0 i1, if_neg (by omega)]
    · rw [e0 12 (by omega)] at c0
      have := hZ.2.2.1 c2 c0 c1
      rw [e16, e19, er 20 (by omega) (by omega) (by omega) (by omega) (by omega) (by omega), if_neg (by omega), if_neg (by omega)]
      exact this
  · intro h1 h2
    rw [e21] at h1
    rw [e0 22 (by omega)] at h2
    have h1' : 0 ≤ ρ 0 21 := by
      by_cases hcc : ρ 0 21 = c
      · rw [if_pos hcc] at h1; omega
      · rw [if_neg hcc] at h1; exact h1
    have := ml_mo2 hA hA' (e0 1 (by omega)) (fun i i0 i1 => by
      rw [e2 i i0 i1]
      split
      · exact Or.inr rfl
      · exact Or.inl rfl) e9 e13
    have := hX h1' h2
    omega
end IRM
