/-! what is moved, in one formula; where the plan lays -/
/-- does range k of c move -/
abbrev ma_o (π : mm_T) (c k : Int) : Prop := ((1 ≤ π 15 c ∧ π 15 c ≤ 3) ∨ c = π 0 21) ∧ 0 < π 9 (3 * π 13 c + k)
section MVD
variable {π μ ρ : mm_T} {f : Int → Int} {R : ma_S} {T : pn_T} {b c i k n u x y z : Int}
theorem ma_k1 : (ma_k π c k R).1 i = if i = 3 * c + k ∧ 0 < π 9 (3 * π 13 c + k) then π 18 i else R.1 i := by
  unfold ma_k
  by_cases h : 0 < π 9 (3 * π 13 c + k)
  · rw [if_pos h]
    show (if i = 3 * c + k then π 18 (3 * c + k) else R.1 i) = _
    by_cases hi : i = 3 * c + k
    · rw [if_pos hi, if_pos ⟨hi, h⟩, hi]
    · rw [if_neg hi, if_neg (fun h2 => hi h2.1)]
  · rw [if_neg h, if_neg (fun h2 => h h2.2)]
theorem ma_c1 : (ma_c π c R).1 i = if 3 * c ≤ i ∧ i < 3 * c + 3 ∧ ma_o π c (i - 3 * c) then π 18 i else R.1 i := by
  unfold ma_c
  by_cases hA : (1 ≤ π 15 c ∧ π 15 c ≤ 3) ∨ c = π 0 21
  · rw [if_pos hA, ma_k1, ma_k1, ma_k1]
    by_cases h2 : i = 3 * c + 2
    · rw [h2, show 3 * c + 2 - 3 * c = 2 by omega]
      by_cases hz : 0 < π 9 (3 * π 13 c + 2)
      · rw [if_pos ⟨rfl, hz⟩, if_pos ⟨by omega, by omega, hA, hz⟩]
      · rw [if_neg (fun h => hz h.2), if_neg (show ¬ (3 * c + 2 = 3 * c + 1 ∧ 0 < π 9 (3 * π 13 c + 1)) by omega), if_neg (show ¬ (3 * c + 2 = 3 * c + 0 ∧ 0 < π 9 (3 * π 13 c + 0)) by omega), if_neg (fun h => hz h.2.2.2)]
    · rw [if_neg (fun h => h2 h.1)]
      by_cases h1 : i = 3 * c + 1
      · rw [h1, show 3 * c + 1 - 3 * c = 1 by omega]
        by_cases hz : 0 < π 9 (3 * π 13 c + 1)
        · rw [if_pos ⟨rfl, hz⟩, if_pos ⟨by omega, by omega, hA, hz⟩]
        · rw [if_neg (fun h => hz h.2), if_neg (show ¬ (3 * c + 1 = 3 * c + 0 ∧ 0 < π 9 (3 * π 13 c + 0)) by omega), if_neg (fun h => hz h.2.2.2)]
      · rw [if_neg (fun h => h1 h.1)]
        by_cases h0 : i = 3 * c + 0
        · rw [h0, show 3 * c + 0 - 3 * c = 0 by omega]
          by_cases hz : 0 < π 9 (3 * π 13 c + 0)
          · rw [if_pos ⟨rfl, hz⟩, if_pos ⟨by omega, by omega, hA, hz⟩]
          · rw [if_neg (fun h => hz h.2), if_neg (fun h => hz h.2.2.2)]
        · rw [if_neg (fun h => h0 h.1), if_neg (by omega)]
  · rw [if_neg hA, if_neg (fun h => hA h.2.2.1)]
theorem ma_cf : ∀ (n : Nat) (c : Int) (R : ma_S) (i : Int), (ma_l π n c R).1 i = if 3 * c ≤ i ∧ i < 3 * (c + n) ∧ ma_o π (i / 3) (i % 3) then π 18 i else R.1 i
  | 0, c, R, i => by rw [if_neg (by omega)]; rfl
  | n + 1, c, R, i => by
    rw [ma_l, ma_cf n (c + 1) _ i, ma_c1]
    by_cases h1 : 3 * c ≤ i ∧ i < 3 * c + 3
    · rw [if_neg (by omega), show i / 3 = c by omega, show i % 3 = i - 3 * c by omega]
      by_cases h2 : ma_o π c (i - 3 * c)
      · rw [if_pos ⟨h1.1, h1.2, h2⟩, if_pos ⟨h1.1, by omega, h2⟩]
      · rw [if_neg (fun h => h2 h.2.2), if_neg (fun h => h2 h.2.2)]
    · by_cases h2 : 3 * (c + 1) ≤ i ∧ i < 3 * (c + 1 + n) ∧ ma_o π (i / 3) (i % 3)
      · rw [if_pos h2, if_pos ⟨by omega, by omega, h2.2.2⟩]
      · rw [if_neg h2, if_neg (fun h => h1 ⟨h.1, h.2.1⟩), if_neg (fun h => h2 ⟨by omega, by omega, h.2.2⟩)]
/-- one that counts as moved -/
def ma_d (π : mm_T) (r0 : Int → Int) (y : Int) : Int := if ma_o π (y / 3) (y % 3) ∧ y / 3 ≠ π 0 21 ∧ r0 y ≠ π 18 y then 1 else 0
theorem ma_k2 {r0 : Int → Int} (hA : (1 ≤ π 15 c ∧ π 15 c ≤ 3) ∨ c = π 0 21) (hk : 0 ≤ k ∧ k < 3) (hr : R.1 (3 * c + k) = r0 (3 * c + k)) : (ma_k π c k R).2 = R.2 + ma_d π r0 (3 * c + k) := by
  unfold ma_k ma_d
  rw [show (3 * c + k) / 3 = c by omega, show (3 * c + k) % 3 = k by omega, ← hr]
  by_cases h : 0 < π 9 (3 * π 13 c + k)
  · rw [if_pos h]
    show (if c ≠ π 0 21 ∧ R.1 (3 * c + k) ≠ π 18 (3 * c + k) then R.2 + 1 else R.2) = _
    by_cases h2 : c ≠ π 0 21 ∧ R.1 (3 * c + k) ≠ π 18 (3 * c + k)
    · rw [if_pos h2, if_pos ⟨⟨hA, h⟩, h2⟩]
    · rw [if_neg h2, if_neg (fun h3 => h2 h3.2)]; omega
  · rw [if_neg h, if_neg (fun h3 => h h3.1.2)]; omega
theorem ma_c2 {r0 : Int → Int} (h0 : R.1 (3 * c + 0) = r0 (3 * c + 0)) (h1 : R.1 (3 * c + 1) = r0 (3 * c + 1)) (h2 : R.1 (3 * c + 2) = r0 (3 * c + 2)) : (ma_c π c R).2 = R.2 + ma_d π r0 (3 * c + 0) + ma_d π r0 (3 * c + 1) + ma_d π r0 (3 * c + 2) := by
  unfold ma_c
  by_cases hA : (1 ≤ π 15 c ∧ π 15 c ≤ 3) ∨ c = π 0 21
  · rw [if_pos hA, ma_k2 (r0 := r0) hA (by omega) (by rw [ma_k1, ma_k1, if_neg (by omega), if_neg (by omega)]; exact h2), ma_k2 (r0 := r0) hA (by omega) (by rw [ma_k1, if_neg (by omega)]; exact h1), ma_k2 (r0 := r0) hA (by omega) h0]
  · have hz : ∀ k, 0 ≤ k → k < 3 → ma_d π r0 (3 * c + k) = 0 := fun k k0 k1 => by
      unfold ma_d
      rw [show (3 * c + k) / 3 = c by omega]
      exact if_neg (fun h => hA h.1.1)
    rw [if_neg hA, hz 0 (by omega) (by omega), hz 1 (by omega) (by omega), hz 2 (by omega) (by omega)]
    omega
theorem ma_mv {r0 : Int → Int} : ∀ (n : Nat) (c : Int) (R : ma_S), 0 ≤ c → (∀ y, 3 * c ≤ y → R.1 y = r0 y) → (ma_l π n c R).2 + sm_s (ma_d π r0) (3 * c).toNat = R.2 + sm_s (ma_d π r0) (3 * (c + n)).toNat
  | 0, c, R, h0, hr => by
    rw [show c + ((0 : Nat) : Int) = c by omega]
    rfl
  | n + 1, c, R, h0, hr => by
    have ih := ma_mv (r0 := r0) n (c + 1) (ma_c π c R) (by omega) (fun y hy => by rw [ma_c1, if_neg (by omega)]; exact hr y (by omega))
    have e := ma_c2 (π := π) (r0 := r0) (hr (3 * c + 0) (by omega)) (hr (3 * c + 1) (by omega)) (hr (3 * c + 2) (by omega))
    have s0 := sm_su (g := ma_d π r0) (i := 3 * c) (by omega)
    have s1 := sm_su (g := ma_d π r0) (i := 3 * c + 1) (by omega)
    have s2 := sm_su (g := ma_d π r0) (i := 3 * c + 1 + 1) (by omega)
    rw [show 3 * (c + 1) = 3 * c + 1 + 1 + 1 by omega, s2, s1, s0, e] at ih
    rw [ma_l, show c + ((n + 1 : Nat) : Int) = c + 1 + (n : Int) by omega]
    rw [show 3 * c + (0 : Int) = 3 * c by omega, show 3 * c + 1 + 1 = 3 * c + 2 by omega] at ih
    omega
theorem sm_z {g : Int → Int} {n : Nat} : ∀ (m : Nat), n ≤ m → (∀ i : Int, (n : Int) ≤ i → i < (m : Int) → g i = 0) → sm_s g m = sm_s g n
  | 0, h, _ => by rw [show n = 0 by omega]
  | m + 1, h, hz => by
    by_cases hn : n = m + 1
    · rw [hn]
    · show sm_s g m + g m = sm_s g n
      rw [sm_z m (by omega) (fun i h1 h2 => hz i h1 (by omega)), hz m (by omega) (by omega)]
      omega
/-- where the plan lays: within the addresses -/
theorem pn_bd (hI : iv_A μ f) (hfix : ∀ b, 0 ≤ b → b < μ 0 1 → μ 7 b = mo_bl (mo_ld μ b)) (hle : ∀ b, 0 ≤ b → b < μ 0 1 → 0 ≤ mo_ld μ b ∧ mo_ld μ b ≤ 4096) (hN : ∀ u, 1 ≤ u → u < μ 0 1 → ∃ i, 0 ≤ i ∧ i < 32 ∧ μ 2 i = u) (h64 : ∀ u, 1 ≤ u → u < μ 0 1 → μ 7 u = 0 ∨ 64 ≤ μ 7 u) (h : lz_P μ (μ 0 1) T) : ∀ (n : Nat) (b : Int), 0 ≤ b → b < n → b < μ 0 1 → 0 ≤ T.2.1 b ∧ T.2.1 b + mo_ld μ b ≤ 4096 ∧ T.2.1 b % 64 = 0 ∧ (1 ≤ b → mo_ld μ b ≤ μ 7 b ∧ T.2.1 b + μ 7 b ≤ 4096 ∧ μ 7 b % 64 = 0)
  | 0, b, h1, h2, _ => by omega
  | n + 1, b, h1, h2, h3 => by
    have h8 := hI.1.1
    obtain ⟨p1, p2, p3, p4, p5⟩ := h
    by_cases hb0 : b = 0
    · rw [hb0, p4]
      have := hle 0 (by omega) (by omega)
      exact ⟨by omega, by omega, by decide, fun h => by omega⟩
    · obtain ⟨i, i0, i1, i2⟩ := hN b (by omega) h3
      have ht := hI.2.2.1.2.2 i i0 i1 (by omega) (by omega)
      have ht2 := hI.2.2.1.2.1 b (by omega) h3
      rw [i2] at ht
      have hit : it_s μ i 0 = μ 7 b := by rw [it_b ⟨by omega, by omega⟩, i2]
      have hpo : po_s μ (T.1, T.2.1, 0) i 0 = T.2.1 b := by
        unfold po_s
        rw [if_neg (by omega), i2]
      have ih := pn_bd hI hfix hle hN h64 ⟨p1, p2, p3, p4, p5⟩ n (μ 3 b) (by omega) (by omega) (by omega)
      have hb6 := h64 b (by omega) h3
      have hlb := hle b h1 h3
      have hge := mo_bl_ge (m := mo_ld μ b) (by omega)
      have hfx := hfix b h1 h3
      have hm64 : μ 7 b % 64 = 0 := by
        have hin : ∀ x ∈ ([64, 128, 256, 512, 1024, 2048, 4096] : List Int), x % 64 = 0 := by decide
        rcases bl_pw hlb with hq | hq
        · rw [hfx, hq]; decide
        · rw [hfx]; exact hin _ hq
      by_cases hz : μ 7 b = 0
      · have := (p5 b h1 h3).1 (by omega) hz
        rw [this]
        exact ⟨by omega, by omega, by decide, fun _ => ⟨by omega, by omega, hm64⟩⟩
      · have q1 := p1 i 0 i0 i1 (by omega) (by omega) (by omega) (by omega)
        have q3 := p3 i i0 i1 (by omega) (by omega) (by omega)
        rw [hpo] at q1 q3
        rw [show i / 4 = μ 3 b by omega, hit] at q1
        exact ⟨by omega, by omega, q3, fun _ => ⟨by omega, by omega, hm64⟩⟩
end MVD
