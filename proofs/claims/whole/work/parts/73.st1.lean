/-! the class: stretches -/
/-- the cells of a Stretches object p: begins q, ends r -/
def st_sh (s : mm_T) (p q r : Int) : Prop := (0 ≤ p ∧ s p (-1) = 105) ∧ (s p 0 = q ∧ 0 ≤ q ∧ s q (-1) = 0 ∧ s q (-2) = 12) ∧ (s p 1 = r ∧ 0 ≤ r ∧ s r (-1) = 0 ∧ s r (-2) = 12)
/-- bounds of what is in it -/
def st_B (ν : mm_T) (p q r : Int) : Prop := (0 ≤ ν p 2 ∧ ν p 2 ≤ 12) ∧ ∀ i, 0 ≤ i → i < ν p 2 → (0 ≤ ν q i ∧ ν q i ≤ 4096) ∧ (0 ≤ ν r i ∧ ν r i ≤ 4096)
section ST1
variable {E : mv_E} {s ν : mm_T} {d : Nat} {x y z i l p q r lo hi : Int}
theorem st_free_1l (hs : st_sh s p q r) (hB : st_B ν p q r) (hx : -2147483648 ≤ x ∧ x < 2147483648) (hy : -2147483648 ≤ y ∧ y < 2147483648) (hf : ∀ i, 0 ≤ i → i < ν p 2 → ¬ (ν q i < y ∧ x < ν r i)) : ∀ (n : Nat) (i : Int), 0 ≤ i → i + n = ν p 2 → sw_w E d 40 (2, [some (2, p), some (0, x), some (0, y), some (0, i)], []) s ν (sw_is (some (0, 1)) s ν) := by
  intro n
  induction n with
  | zero =>
    intro i hi hn
    have hp := hs.1.1
    have hq := hs.2.1.2.1
    have hr := hs.2.2.2.1
    have hc := hB.1
    refine sw_p 2 (f' := (4, [some (2, p), some (0, x), some (0, y), some (0, i)], [(2, p), (0, i)])) rfl ?_
    refine sw_gI (pn := 7) (i := 2) rfl rfl rfl rfl rfl (by omega) hs.1.2 ?_
    refine sw_ge2 (pt := 38) (pn := 10) rfl rfl rfl (by omega) (by omega) (fun h1 => ?_) (fun h => absurd h (by omega))
    refine sw_p 1 (f' := (39, [some (2, p), some (0, x), some (0, y), some (0, i)], [(0, 1)])) rfl ?_
    exact sw_retZ rfl rfl rfl (by omega) ⟨rfl, rfl, rfl⟩
  | succ n ih =>
    intro i hi hn
    have hp := hs.1.1
    have hq := hs.2.1.2.1
    have hr := hs.2.2.2.1
    have hc := hB.1
    have hbi := hB.2 i hi (by omega)
    have hfi := hf i hi (by omega)
    refine sw_p 2 (f' := (4, [some (2, p), some (0, x), some (0, y), some (0, i)], [(2, p), (0, i)])) rfl ?_
    refine sw_gI (pn := 7) (i := 2) rfl rfl rfl rfl rfl (by omega) hs.1.2 ?_
    refine sw_ge2 (pt := 38) (pn := 10) rfl rfl rfl (by omega) (by omega) (fun h => absurd h (by omega)) (fun h1 => ?_)
    refine sw_p 1 (f' := (11, [some (2, p), some (0, x), some (0, y), some (0, i)], [(2, p)])) rfl ?_
    refine sw_hA (pn := 14) (i := 0) (v := q) rfl rfl rfl rfl rfl hs.1.2 hs.2.1.1 (by omega) ?_
    refine sw_p 1 (f' := (15, [some (2, p), some (0, x), some (0, y), some (0, i)], [(0, i), (2, q)])) rfl ?_
    refine sw_ial (pn := 16) (l := 12) rfl rfl (by omega) hs.2.1.2.2.1 hs.2.1.2.2.2 (by omega) (by omega) ?_
    refine sw_p 1 (f' := (17, [some (2, p), some (0, x), some (0, y), some (0, i)], [(0, y), (0, ν q i)])) rfl ?_
    refine sw_ge2 (pt := 32) (pn := 20) rfl rfl rfl (by omega) (by omega) (fun h2 => ?_) (fun h2 => ?_)
    · skip
      refine sw_p 2 (f' := (2, [some (2, p), some (0, x), some (0, y), some (0, i + 1)], [])) rfl ?_
      exact ih (i + 1) (by omega) (by omega)
    · skip
      refine sw_p 2 (f' := (22, [some (2, p), some (0, x), some (0, y), some (0, i)], [(2, p), (0, x)])) rfl ?_
      refine sw_hA (pn := 25) (i := 1) (v := r) rfl rfl rfl rfl rfl hs.1.2 hs.2.2.1 (by omega) ?_
      refine sw_p 1 (f' := (26, [some (2, p), some (0, x), some (0, y), some (0, i)], [(0, i), (2, r), (0, x)])) rfl ?_
      refine sw_ial (pn := 27) (l := 12) rfl rfl (by omega) hs.2.2.2.2.1 hs.2.2.2.2.2 (by omega) (by omega) ?_
      refine sw_ge2 (pt := 32) (pn := 30) rfl rfl rfl (by omega) (by omega) (fun h3 => ?_) (fun h3 => ?_)
      · skip
        refine sw_p 2 (f' := (2, [some (2, p), some (0, x), some (0, y), some (0, i + 1)], [])) rfl ?_
        exact ih (i + 1) (by omega) (by omega)
      · skip
        refine sw_p 1 (f' := (31, [some (2, p), some (0, x), some (0, y), some (0, i)], [(0, 0)])) rfl ?_
        exact sw_retZ rfl rfl rfl (by omega) (absurd hfi (by omega))
theorem st_free_0l (hs : st_sh s p q r) (hB : st_B ν p q r) (hx : -2147483648 ≤ x ∧ x < 2147483648) (hy : -2147483648 ≤ y ∧ y < 2147483648) : ∀ (n : Nat) (i : Int), 0 ≤ i → i + n = ν p 2 → (∃ k, i ≤ k ∧ k < ν p 2 ∧ ν q k < y ∧ x < ν r k) → sw_w E d 40 (2, [some (2, p), some (0, x), some (0, y), some (0, i)], []) s ν (sw_is (some (0, 0)) s ν) := by
  intro n
  induction n with
  | zero =>
    intro i hi hn hf
    obtain ⟨k, h1, h2, h3, h4⟩ := hf
    omega
  | succ n ih =>
    intro i hi hn hf
    have hp := hs.1.1
    have hq := hs.2.1.2.1
    have hr := hs.2.2.2.1
    have hc := hB.1
    have hbi := hB.2 i hi (by omega)
    obtain ⟨k, k1, k2, k3, k4⟩ := hf
    refine sw_p 2 (f' := (4, [some (2, p), some (0, x), some (0, y), some (0, i)], [(2, p), (0, i)])) rfl ?_
    refine sw_gI (pn := 7) (i := 2) rfl rfl rfl rfl rfl (by omega) hs.1.2 ?_
    refine sw_ge2 (pt := 38) (pn := 10) rfl rfl rfl (by omega) (by omega) (fun h => absurd h (by omega)) (fun h1 => ?_)
    refine sw_p 1 (f' := (11, [some (2, p), some (0, x), some (0, y), some (0, i)], [(2, p)])) rfl ?_
    refine sw_hA (pn := 14) (i := 0) (v := q) rfl rfl rfl rfl rfl hs.1.2 hs.2.1.1 (by omega) ?_
    refine sw_p 1 (f' := (15, [some (2, p), some (0, x), some (0, y), some (0, i)], [(0, i), (2, q)])) rfl ?_
    refine sw_ial (pn := 16) (l := 12) rfl rfl (by omega) hs.2.1.2.2.1 hs.2.1.2.2.2 (by omega) (by omega) ?_
    refine sw_p 1 (f' := (17, [some (2, p), some (0, x), some (0, y), some (0, i)], [(0, y), (0, ν q i)])) rfl ?_
    refine sw_ge2 (pt := 32) (pn := 20) rfl rfl rfl (by omega) (by omega) (fun h2 => ?_) (fun h2 => ?_)
    · skip
      refine sw_p 2 (f' := (2, [some (2, p), some (0, x), some (0, y), some (0, i + 1)], [])) rfl ?_
      refine ih (i + 1) (by omega) (by omega) ⟨k, ?_, k2, k3, k4⟩
      have hne : k ≠ i := fun e => by subst e; omega
      omega
    · skip
      refine sw_p 2 (f' := (22, [some (2, p), some (0, x), some (0, y), some (0, i)], [(2, p), (0, x)])) rfl ?_
      refine sw_hA (pn := 25) (i := 1) (v := r) rfl rfl rfl rfl rfl hs.1.2 hs.2.2.1 (by omega) ?_
      refine sw_p 1 (f' := (26, [some (2, p), some (0, x), some (0, y), some (0, i)], [(0, i), (2, r), (0, x)])) rfl ?_
      refine sw_ial (pn := 27) (l := 12) rfl rfl (by omega) hs.2.2.2.2.1 hs.2.2.2.2.2 (by omega) (by omega) ?_
      refine sw_ge2 (pt := 32) (pn := 30) rfl rfl rfl (by omega) (by omega) (fun h3 => ?_) (fun h3 => ?_)
      · skip
        refine sw_p 2 (f' := (2, [some (2, p), some (0, x), some (0, y), some (0, i + 1)], [])) rfl ?_
        refine ih (i + 1) (by omega) (by omega) ⟨k, ?_, k2, k3, k4⟩
        have hne : k ≠ i := fun e => by subst e; omega
        omega
      · skip
        refine sw_p 1 (f' := (31, [some (2, p), some (0, x), some (0, y), some (0, i)], [(0, 0)])) rfl ?_
        exact sw_retZ rfl rfl rfl (by omega) ⟨rfl, rfl, rfl⟩
theorem st_free_1 (hs : st_sh s p q r) (hB : st_B ν p q r) (hx : -2147483648 ≤ x ∧ x < 2147483648) (hy : -2147483648 ≤ y ∧ y < 2147483648) (hf : ∀ i, 0 ≤ i → i < ν p 2 → ¬ (ν q i < y ∧ x < ν r i)) : sw_w E d 40 (0, [some (2, p), some (0, x), some (0, y), none], []) s ν (sw_is (some (0, 1)) s ν) := by
  have hp := hs.1.1
  have hq := hs.2.1.2.1
  have hr := hs.2.2.2.1
  have hc := hB.1
  refine sw_p 2 (f' := (2, [some (2, p), some (0, x), some (0, y), some (0, 0)], [])) rfl ?_
  exact st_free_1l hs hB hx hy hf (ν p 2).toNat 0 (by omega) (by omega)
theorem st_free_0 (hs : st_sh s p q r) (hB : st_B ν p q r) (hx : -2147483648 ≤ x ∧ x < 2147483648) (hy : -2147483648 ≤ y ∧ y < 2147483648) (hf : ∃ k, 0 ≤ k ∧ k < ν p 2 ∧ ν q k < y ∧ x < ν r k) : sw_w E d 40 (0, [some (2, p), some (0, x), some (0, y), none], []) s ν (sw_is (some (0, 0)) s ν) := by
  have hp := hs.1.1
  have hq := hs.2.1.2.1
  have hr := hs.2.2.2.1
  have hc := hB.1
  refine sw_p 2 (f' := (2, [some (2, p), some (0, x), some (0, y), some (0, 0)], [])) rfl ?_
  exact st_free_0l hs hB hx hy (ν p 2).toNat 0 (by omega) (by omega) hf
end ST1
