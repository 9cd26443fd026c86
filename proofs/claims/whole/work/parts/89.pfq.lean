/-! the smallest hole between stretches is the smallest run of free places -/
section PFQ
variable {ν : mm_T} {p q r x e z : Int} {g : Int → Int}
theorem pf_m {ν : mm_T} {z e : Int} : ∀ (m m' : Nat) (f b l : Int), e ≤ f + m → e ≤ f + m' → mo_pf ν z e m f b l = mo_pf ν z e m' f b l
  | 0, 0, _, _, _, _, _ => rfl
  | 0, m' + 1, f, b, l, h1, h2 => by
    unfold mo_pf
    rw [if_neg (by omega)]
  | m + 1, 0, f, b, l, h1, h2 => by
    unfold mo_pf
    rw [if_neg (by omega)]
  | m + 1, m' + 1, f, b, l, h1, h2 => by
    unfold mo_pf
    have hb := mo_to_b ν 29 (e - f).toNat f
    by_cases hf : f < e
    · rw [if_pos hf, if_pos hf, pf_m m m' _ _ _ (by omega) (by omega), pf_m m m' _ b l (by omega) (by omega)]
    · rw [if_neg hf, if_neg hf]
theorem to_t {ν : mm_T} {p t : Int} : ∀ (n : Nat) (f : Int), f ≤ t → t ≤ f + n → (∀ a, f ≤ a → a < t → ν p a = 0) → (t = f + n ∨ ν p t ≠ 0) → mo_to ν p n f = t
  | 0, f, h1, h2, _, _ => by unfold mo_to; omega
  | n + 1, f, h1, h2, h3, h4 => by
    unfold mo_to
    by_cases hf : f = t
    · subst hf
      rcases h4 with h4 | h4
      · omega
      · rw [if_neg h4]
    · rw [if_pos (h3 f (by omega) (by omega))]
      exact to_t n (f + 1) (by omega) (by omega) (fun a h5 h6 => h3 a (by omega) h6) (by omega)
theorem pf_skip {ν : mm_T} {z e b l : Int} (hz : 0 < z) : ∀ (k m : Nat) (f : Int), (∀ a, f ≤ a → a < f + k → ν 29 a ≠ 0) → f + k ≤ e → e ≤ f + m → mo_pf ν z e m f b l = mo_pf ν z e m (f + k) b l
  | 0, m, f, _, _, _ => by rw [show f + ((0 : Nat) : Int) = f by omega]
  | k + 1, 0, f, _, h2, h3 => by omega
  | k + 1, m + 1, f, h1, h2, h3 => by
    have hm := Int.emod_nonneg (-f) (show z ≠ 0 by omega)
    have ht : mo_to ν 29 (e - f).toNat f = f := to_t _ _ (by omega) (by omega) (fun a h5 h6 => by omega) (Or.inr (h1 f (by omega) (by omega)))
    have e1 : mo_pf ν z e (m + 1) f b l = mo_pf ν z e m (f + 1) b l := by
      rw [mo_pf, if_pos (by omega), ht, if_neg (by omega)]
    rw [e1, pf_skip hz k m (f + 1) (fun a h5 h6 => h1 a (by omega) (by omega)) (by omega) (by omega), show f + 1 + (k : Int) = f + ((k + 1 : Nat) : Int) by omega]
    exact pf_m _ _ _ _ _ (by omega) (by omega)
theorem st_pf_l (hI : st_I ν p q r g) (hw : ∀ i, 0 ≤ i → i < ν p 2 → x ≤ ν q i ∧ ν r i ≤ e) (hz : 0 < z) (hx : 0 ≤ x ∧ x ≤ e ∧ e ≤ 4096) : ∀ (n : Nat) (i b l l' : Int), 0 ≤ i → i + n = ν p 2 → (b = -1 ∧ l' = 9999 ∨ 0 ≤ b ∧ l' = l) → mo_pf (fun _ => g) z e 4097 (st_bg ν r x i) b l' = st_pl ν p q r z x e (n + 1) i b l := by
  obtain ⟨h1, h2, h3, h4, h5⟩ := hI
  intro n
  induction n with
  | zero =>
    intro i b l l' hi hn hb
    have hbg : x ≤ st_bg ν r x i ∧ st_bg ν r x i ≤ e := by
      unfold st_bg
      split
      · have := hw (i - 1) (by omega) (by omega); have := h2 (i - 1) (by omega) (by omega); omega
      · omega
    have hen : st_en ν p q e i = e := by unfold st_en; rw [if_neg (by omega)]
    have hm := Int.emod_nonneg (-st_bg ν r x i) (show z ≠ 0 by omega)
    have hfree : ∀ a, st_bg ν r x i ≤ a → a < e → g a = 0 := fun a a1 a2 => by
      rcases h4 a with h | h
      · exact h
      · obtain ⟨j, j0, j1, j2, j3⟩ := (h5 a).mp h
        unfold st_bg at a1
        rw [if_pos (by omega)] at a1
        by_cases hj : j = i - 1
        · rw [hj] at j3; omega
        · have := h3 j (i - 1) j0 (by omega) (by omega)
          have := h2 (i - 1) (by omega) (by omega)
          omega
    unfold st_pl st_pl
    rw [hen]
    by_cases hf : st_bg ν r x i < e
    · have ht : mo_to (fun _ => g) 29 (e - st_bg ν r x i).toNat (st_bg ν r x i) = e := to_t _ _ (by omega) (by omega) hfree (Or.inl (by omega))
      rw [mo_pf, if_pos hf, ht]
      have hend : ∀ (m : Nat) (b l : Int), mo_pf (fun _ => g) z e m (e + 1) b l = b := fun m b l => by
        cases m with
        | zero => rfl
        | succ m => rw [mo_pf, if_neg (by omega)]
      by_cases hc : st_bg ν r x i + (-st_bg ν r x i) % z + z ≤ e ∧ e - st_bg ν r x i < l'
      · rw [if_pos hc, if_pos (by omega), hend]
      · rw [if_neg hc, if_neg (by omega), hend]
    · rw [mo_pf, if_neg hf, if_neg (by omega)]
  | succ n ih =>
    intro i b l l' hi hn hb
    have hqi := hw i hi (by omega)
    have hri := h2 i hi (by omega)
    have hbg : x ≤ st_bg ν r x i ∧ st_bg ν r x i ≤ ν q i := by
      unfold st_bg
      split
      · have := hw (i - 1) (by omega) (by omega); have := h2 (i - 1) (by omega) (by omega); have := h3 (i - 1) i (by omega) (by omega) (by omega); omega
      · omega
    have hen : st_en ν p q e i = ν q i := by unfold st_en; rw [if_pos (by omega)]
    have hbg1 : st_bg ν r x (i + 1) = ν r i := by unfold st_bg; rw [if_pos (by omega), show i + 1 - 1 = i by omega]
    have hm := Int.emod_nonneg (-st_bg ν r x i) (show z ≠ 0 by omega)
    have hfree : ∀ a, st_bg ν r x i ≤ a → a < ν q i → g a = 0 := fun a a1 a2 => by
      rcases h4 a with h | h
      · exact h
      · obtain ⟨j, j0, j1, j2, j3⟩ := (h5 a).mp h
        by_cases hji : j < i
        · unfold st_bg at a1
          rw [if_pos (by omega)] at a1
          by_cases hj : j = i - 1
          · rw [hj] at j3; omega
          · have := h3 j (i - 1) j0 (by omega) (by omega)
            have := h2 (i - 1) (by omega) (by omega)
            omega
        · by_cases hj : j = i
          · rw [hj] at j2; omega
          · have := h3 i j hi (by omega) j1
            omega
    have hmk : ∀ a, ν q i ≤ a → a < ν r i → g a = 1 := fun a a1 a2 => (h5 a).mpr ⟨i, hi, by omega, a1, a2⟩
    have ht : mo_to (fun _ => g) 29 (e - st_bg ν r x i).toNat (st_bg ν r x i) = ν q i := to_t _ _ (by omega) (by omega) hfree (Or.inr (by show g (ν q i) ≠ 0; rw [hmk (ν q i) (by omega) (by omega)]; omega))
    have hsk : ∀ b l, mo_pf (fun _ => g) z e 4096 (ν q i + 1) b l = mo_pf (fun _ => g) z e 4097 (st_bg ν r x (i + 1)) b l := fun b l => by
      rw [pf_skip hz (ν r i - (ν q i + 1)).toNat 4096 (ν q i + 1) (fun a a1 a2 => by show g a ≠ 0; rw [hmk a (by omega) (by omega)]; omega) (by omega) (by omega), show ν q i + 1 + ((ν r i - (ν q i + 1)).toNat : Int) = ν r i by omega, hbg1]
      exact pf_m _ _ _ _ _ (by omega) (by omega)
    rw [mo_pf, if_pos (by omega), ht, hsk, hsk]
    unfold st_pl
    rw [hen]
    by_cases hc : st_bg ν r x i + (-st_bg ν r x i) % z + z ≤ ν q i ∧ ν q i - st_bg ν r x i < l'
    · rw [if_pos hc, if_pos (by omega)]
      exact ih (i + 1) _ _ _ (by omega) (by omega) (Or.inr ⟨by omega, rfl⟩)
    · rw [if_neg hc, if_neg (by omega)]
      exact ih (i + 1) _ _ _ (by omega) (by omega) hb
theorem st_pf (hI : st_I ν p q r g) (hw : ∀ i, 0 ≤ i → i < ν p 2 → x ≤ ν q i ∧ ν r i ≤ e) (hz : 0 < z) (hx : 0 ≤ x ∧ x ≤ e ∧ e ≤ 4096) : st_pl ν p q r z x e (ν p 2 + 1).toNat 0 (-1) 0 = ff_p g z x e := by
  have h1 := hI.1
  have h := st_pf_l hI hw hz hx (ν p 2).toNat 0 (-1) 0 9999 (by omega) (by omega) (Or.inl ⟨rfl, rfl⟩)
  rw [show (ν p 2 + 1).toNat = (ν p 2).toNat + 1 by omega, ← h]
  rfl
theorem st_fr_1 (hI : st_I ν p q r g) (hf : ∀ a, x ≤ a → a < e → g a = 0) (hxe : x < e) : ∀ i, 0 ≤ i → i < ν p 2 → ¬ (ν q i < e ∧ x < ν r i) := by
  intro i i0 i1 ⟨h1, h2⟩
  have h3 := hI.2.1 i i0 i1
  by_cases hc : x ≤ ν q i
  · have := (hI.2.2.2.2 (ν q i)).mpr ⟨i, i0, i1, by omega, by omega⟩
    have := hf (ν q i) hc h1
    omega
  · have := (hI.2.2.2.2 x).mpr ⟨i, i0, i1, by omega, h2⟩
    have := hf x (by omega) hxe
    omega
theorem st_fr_0 (hI : st_I ν p q r g) (hf : ∃ a, x ≤ a ∧ a < e ∧ g a ≠ 0) : ∃ k, 0 ≤ k ∧ k < ν p 2 ∧ ν q k < e ∧ x < ν r k := by
  obtain ⟨a, a1, a2, a3⟩ := hf
  have h := hI.2.2.2.1 a
  obtain ⟨i, i0, i1, i2, i3⟩ := (hI.2.2.2.2 a).mp (by omega)
  exact ⟨i, i0, i1, by omega, by omega⟩
end PFQ
