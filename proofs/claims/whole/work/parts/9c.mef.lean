/-! blocks once measured -/
section MEF
variable {μ ν ν' ρ : mm_T} {f : Int → Int} {b c i k m u x z : Int}
theorem ld_eq (h2 : ν' 2 = ν 2) (h9 : ν' 9 = ν 9) (h13 : ν' 13 = ν 13) (hb : 0 ≤ b ∧ b < 8) (h7 : ∀ i, 4 * b ≤ i → i < 4 * b + 4 → 0 ≤ ν 2 i → ν 2 i < 100 → ν' 7 (ν 2 i) = ν 7 (ν 2 i)) : mo_ld ν' b = mo_ld ν b := by
  have hu : ∀ i, 4 * b ≤ i → i < 4 * b + 4 → mo_ldu ν' (ν 2 i) = mo_ldu ν (ν 2 i) := fun i h3 h4 => by
    unfold mo_ldu
    rw [h9, h13]
    by_cases h5 : 100 ≤ ν 2 i
    · rw [if_pos h5, if_pos h5]
    · rw [if_neg h5, if_neg h5]
      by_cases h6 : 0 ≤ ν 2 i
      · rw [if_pos h6, if_pos h6, h7 i h3 h4 h6 (by omega)]
      · rw [if_neg h6, if_neg h6]
  show mo_ldu ν' (ν' 2 (4 * b)) + (mo_ldu ν' (ν' 2 (4 * b + 1)) + (mo_ldu ν' (ν' 2 (4 * b + 1 + 1)) + (mo_ldu ν' (ν' 2 (4 * b + 1 + 1 + 1)) + 0))) = mo_ldu ν (ν 2 (4 * b)) + (mo_ldu ν (ν 2 (4 * b + 1)) + (mo_ldu ν (ν 2 (4 * b + 1 + 1)) + (mo_ldu ν (ν 2 (4 * b + 1 + 1 + 1)) + 0)))
  rw [h2, hu _ (by omega) (by omega), hu _ (by omega) (by omega), hu _ (by omega) (by omega), hu _ (by omega) (by omega)]
theorem me_hi : ∀ (n : Nat) (ν : mm_T) (u : Int), (n : Int) ≤ u → mo_me n ν 7 u = ν 7 u
  | 0, _, _, _ => rfl
  | n + 1, ν, u, h => by
    unfold mo_me
    rw [me_hi n _ u (by omega), mm_u_ne (by omega)]
theorem me_fix (hT : tr_I ν f) (h8 : ν 0 1 ≤ 8) : ∀ (n : Nat) (ν2 : mm_T), (n : Int) ≤ ν 0 1 → fr_r [7] ν ν2 → ∀ b : Int, 0 ≤ b → b < (n : Int) → mo_me n ν2 7 b = mo_bl (mo_ld (mo_me n ν2) b)
  | 0, _, _, _, b, h0, h1 => by omega
  | n + 1, ν2, hn, hf, b, h0, h1 => by
    have hf2 : fr_r [7] ν (mm_u ν2 7 n (mo_bl (mo_ld ν2 n))) := fr_tr hf (fr_u (ps := [7]) (by decide)) (fun _ h => h) (fun _ h => h)
    show mo_me n (mm_u ν2 7 n (mo_bl (mo_ld ν2 n))) 7 b = mo_bl (mo_ld (mo_me n (mm_u ν2 7 n (mo_bl (mo_ld ν2 n)))) b)
    by_cases hb : b = n
    · have hfr := me_fr n (mm_u ν2 7 n (mo_bl (mo_ld ν2 n)))
      have e := ld_eq (ν := ν2) (ν' := mo_me n (mm_u ν2 7 n (mo_bl (mo_ld ν2 n)))) (b := n) (by rw [hfr 2 (by decide), hf2 2 (by decide), hf 2 (by decide)]) (by rw [hfr 9 (by decide), hf2 9 (by decide), hf 9 (by decide)]) (by rw [hfr 13 (by decide), hf2 13 (by decide), hf 13 (by decide)]) (by omega) (fun i h2 h3 h4 h5 => by
        rw [hf 2 (by decide)] at h4 h5 ⊢
        have ht := hT.2.2 i (by omega) (by omega) h4 h5
        have ht2 := hT.2.1 (ν 2 i) ht.1 ht.2.1
        rw [me_hi n _ _ (by omega), mm_u_ne (by omega)])
      rw [hb, me_hi n _ n (by omega), mm_u_at, e]
    · exact me_fix hT h8 n _ (by omega) hf2 b h0 (by omega)
theorem bk_pw : ∀ (n : Nat) (x : Int), ∃ j : Nat, mo_bk n x m = x * 2 ^ j ∧ (j = 0 ∨ x * 2 ^ j < 2 * m)
  | 0, x => ⟨0, by rw [Int.pow_zero, Int.mul_one]; rfl, Or.inl rfl⟩
  | n + 1, x => by
    unfold mo_bk
    by_cases h : x < m
    · rw [if_pos h]
      obtain ⟨j, h1, h2⟩ := bk_pw n (2 * x)
      refine ⟨j + 1, by rw [h1, mo_2p], Or.inr ?_⟩
      rw [← mo_2p]
      rcases h2 with h2 | h2
      · rw [h2, Int.pow_zero]; omega
      · exact h2
    · rw [if_neg h]
      exact ⟨0, by rw [Int.pow_zero, Int.mul_one], Or.inl rfl⟩
theorem bl_pw (h : 0 ≤ m ∧ m ≤ 4096) : mo_bl m = 0 ∨ mo_bl m ∈ ([64, 128, 256, 512, 1024, 2048, 4096] : List Int) := by
  unfold mo_bl
  by_cases h0 : m = 0
  · rw [if_pos h0]; exact Or.inl rfl
  · rw [if_neg h0]
    obtain ⟨j, h1, h2⟩ := bk_pw (m := m) 16 64
    rw [h1]
    have hj : j < 7 := by
      by_cases hj : j < 7
      · exact hj
      · obtain ⟨i, rfl⟩ := Nat.exists_eq_add_of_le (show 7 ≤ j by omega)
        have h3 := mo_1p i
        rw [Int.pow_add] at h2
        have h4 : (2 : Int) ^ 7 = 128 := by decide
        rw [h4] at h2
        omega
    right
    match j, hj with
    | 0, _ => decide
    | 1, _ => decide
    | 2, _ => decide
    | 3, _ => decide
    | 4, _ => decide
    | 5, _ => decide
    | 6, _ => decide
theorem mo_bl_ge (h : 0 ≤ m ∧ m ≤ 4194304) : m ≤ mo_bl m := by
  have e16 : (64 : Int) * 2 ^ 16 = 4194304 := by decide
  unfold mo_bl
  split
  · omega
  · exact mo_bk_ge 16 64 (by omega)
/-- what is measured: blocks hold what the bridge lays -/
theorem ml_all (hI : iv_A μ f) (hfix : ∀ b, 0 ≤ b → b < μ 0 1 → μ 7 b = mo_bl (mo_ld μ b)) (hb7 : ∀ u, 0 ≤ u → u < μ 0 1 → 0 ≤ μ 7 u ∧ μ 7 u ≤ mo_bd (f u)) (hN : ∀ u, 1 ≤ u → u < μ 0 1 → ∃ i, 0 ≤ i ∧ i < 32 ∧ μ 2 i = u) (h0 : mo_ld μ 0 ≤ 4096) : ∀ (n : Nat) (b : Int), 0 ≤ b → b < n → b < μ 0 1 → 0 ≤ mo_ld μ b ∧ mo_ld μ b ≤ 4096
  | 0, b, h1, h2, _ => by omega
  | n + 1, b, h1, h2, h3 => by
    have h8 := hI.1.1
    have hld : ∀ b, 0 ≤ b → b < μ 0 1 → 0 ≤ mo_ld μ b ∧ mo_ld μ b ≤ mo_bd (f b) := fun b h4 h5 => ld_b hI.1 hI.2.1 hI.2.2.1 ⟨h4, h5⟩ (fun u h6 h7 => hb7 u (by omega) h7)
    by_cases hb0 : b = 0
    · rw [hb0]; exact ⟨(hld 0 (by omega) (by omega)).1, h0⟩
    · obtain ⟨i, i0, i1, i2⟩ := hN b (by omega) h3
      have ht := hI.2.2.1.2.2 i i0 i1 (by omega) (by omega)
      have ht2 := hI.2.2.1.2.1 b (by omega) h3
      rw [i2] at ht
      have ih := ml_all hI hfix hb7 hN h0 n (μ 3 b) (by omega) (by omega) (by omega)
      have hu : ∀ i, 4 * μ 3 b ≤ i → i < 4 * μ 3 b + 4 → 0 ≤ mo_ldu μ (μ 2 i) := fun i h4 h5 => (ldu_b hI.1 hI.2.1 hI.2.2.1 (b := μ 3 b) (by omega) (fun u h6 h7 => hb7 u (by omega) h7) ⟨h4, h5⟩).1
      have e2 : mo_ld μ (μ 3 b) = mo_ldu μ (μ 2 (4 * μ 3 b)) + (mo_ldu μ (μ 2 (4 * μ 3 b + 1)) + (mo_ldu μ (μ 2 (4 * μ 3 b + 1 + 1)) + (mo_ldu μ (μ 2 (4 * μ 3 b + 1 + 1 + 1)) + 0))) := rfl
      have u0 := hu (4 * μ 3 b) (by omega) (by omega)
      have u1 := hu (4 * μ 3 b + 1) (by omega) (by omega)
      have u2 := hu (4 * μ 3 b + 1 + 1) (by omega) (by omega)
      have u3 := hu (4 * μ 3 b + 1 + 1 + 1) (by omega) (by omega)
      have eu : mo_ldu μ (μ 2 i) = μ 7 b := by rw [i2]; exact (if_neg (by omega)).trans (if_pos (by omega))
      have hi : i = 4 * μ 3 b ∨ i = 4 * μ 3 b + 1 ∨ i = 4 * μ 3 b + 1 + 1 ∨ i = 4 * μ 3 b + 1 + 1 + 1 := by omega
      have hle : μ 7 b ≤ 4096 := by
        rcases hi with h | h | h | h <;> rw [h] at eu <;> omega
      have hbl := hld b h1 h3
      have hbb : mo_bd (f b) ≤ 4194304 := by unfold mo_bd; split <;> (try split) <;> (try split) <;> (try split) <;> omega
      have := mo_bl_ge (m := mo_ld μ b) (by omega)
      have := hfix b h1 h3
      omega
theorem lv_of (hI : iv_A μ f) (hfix : ∀ b, 0 ≤ b → b < μ 0 1 → μ 7 b = mo_bl (mo_ld μ b)) (hle : ∀ b, 0 ≤ b → b < μ 0 1 → 0 ≤ mo_ld μ b ∧ mo_ld μ b ≤ 4096) : lv_ok μ ∧ ∀ u, 1 ≤ u → u < μ 0 1 → μ 7 u = 0 ∨ 64 ≤ μ 7 u := by
  have hb : ∀ u, 0 ≤ u → u < μ 0 1 → μ 7 u = 0 ∨ μ 7 u ∈ ([64, 128, 256, 512, 1024, 2048, 4096] : List Int) := fun u h1 h2 => by
    rw [hfix u h1 h2]
    exact bl_pw (hle u h1 h2)
  have hin : ∀ x ∈ ([64, 128, 256, 512, 1024, 2048, 4096] : List Int), x ∈ ((0 : Int) :: pn_l) ∧ 64 ≤ x := by decide
  have hpw : ∀ z, st_pw z → z ∈ ((0 : Int) :: pn_l) := fun z hz => by
    rcases hz with rfl | rfl | rfl | rfl | rfl | rfl | rfl | rfl | rfl | rfl | rfl <;> decide
  refine ⟨fun i k i0 i1 k0 k1 => ?_, fun u h1 h2 => ?_⟩
  · have hs := hI.1.2.2.2.2.2.2.2.1 i i0 i1
    have hc := hI.2.1.1 i i0 i1
    by_cases h : 100 ≤ μ 2 i
    · rw [it_c h]
      have hcd := hI.1.cd (μ 2 i - 100) (by omega) (by omega)
      rcases hI.2.2.2.1 (3 * μ 13 (μ 2 i - 100) + k) (by omega) (by omega) with h1 | h1
      · rw [h1]; decide
      · exact hpw _ h1
    · by_cases hk : k = 0
      · by_cases h2 : 0 ≤ μ 2 i
        · rw [hk, it_b ⟨h2, by omega⟩]
          have ht := hI.2.2.1.2.2 i i0 i1 h2 (by omega)
          rcases hb (μ 2 i) h2 ht.2.1 with h3 | h3
          · rw [h3]; decide
          · exact (hin _ h3).1
        · rw [it_n (by omega)]; decide
      · rw [it_0 (by omega) hk]; decide
  · rcases hb u (by omega) h2 with h3 | h3
    · exact Or.inl h3
    · exact Or.inr (hin _ h3).2
end MEF
