/-! the reference: isFree -/
section MO12
variable {E : mv_E} {s ν : mm_T} {d : Nat} {a b c r x y w p f g k t v lo hi l z : Int}
/-- the marks are 0 or 1 -/
def mo_b1 (ν : mm_T) (p : Int) : Prop := ∀ a, 0 ≤ a → a < 4096 → ν p a = 0 ∨ ν p a = 1
theorem mo_isFree_e {i : Int} (hi : -2147483648 ≤ i ∧ i < 2147483648) (hy : -2147483648 ≤ y ∧ y < 2147483648) : sw_w E d 104 (15, [some (2, 0), some (0, x), some (0, y), some (0, l), some (0, 0), some (0, i)], []) s ν (sw_is (some (0, 0)) s ν) := by
  refine sw_p 2 (f' := (18, [some (2, 0), some (0, x), some (0, y), some (0, l), some (0, 0), some (0, i)], [(0, y), (0, i)])) rfl ?_
  refine sw_ge2 (pt := 49) (pn := 21) rfl rfl rfl (by omega) (by omega) (fun h1 => ?_) (fun h1 => ?_)
  · skip
    refine sw_p 1 (f' := (51, [some (2, 0), some (0, x), some (0, y), some (0, l), some (0, 0), some (0, i)], [(0, 0)])) rfl ?_
    exact sw_retZ rfl rfl rfl (by omega) ⟨rfl, rfl, rfl⟩
  · skip
    refine sw_p 1 (f' := (23, [some (2, 0), some (0, x), some (0, y), some (0, l), some (0, 0), some (0, i)], [(0, 0)])) rfl ?_
    refine sw_eq1 (pt := 49) (pn := 26) rfl rfl rfl (by omega) (fun _ => ?_) (fun h => absurd h (by decide))
    refine sw_p 1 (f' := (51, [some (2, 0), some (0, x), some (0, y), some (0, l), some (0, 0), some (0, i)], [(0, 0)])) rfl ?_
    exact sw_retZ rfl rfl rfl (by omega) ⟨rfl, rfl, rfl⟩
theorem mo_isFree_l1 (hs : mo_sh s) (hb : mo_b1 ν 30) (hx : 0 ≤ x) (hy : y ≤ 4096) (hl : -2147483648 ≤ l ∧ l < 2147483648) (hxy : x < 2147483648 ∧ -2147483648 ≤ y) : ∀ (n : Nat) (i : Int), x ≤ i → i < 2147483648 → y ≤ i + n → (∀ a, i ≤ a → a < y → ν 30 a = 0) → sw_w E d 104 (15, [some (2, 0), some (0, x), some (0, y), some (0, l), some (0, 1), some (0, i)], []) s ν (sw_is (some (0, 1)) s ν) := by
  intro n
  induction n with
  | zero =>
    intro i hi hib hn hf
    refine sw_p 2 (f' := (18, [some (2, 0), some (0, x), some (0, y), some (0, l), some (0, 1), some (0, i)], [(0, y), (0, i)])) rfl ?_
    refine sw_ge2 (pt := 49) (pn := 21) rfl rfl rfl (by omega) (by omega) (fun h1 => ?_) (fun h1 => ?_)
    · skip
      refine sw_p 1 (f' := (51, [some (2, 0), some (0, x), some (0, y), some (0, l), some (0, 1), some (0, i)], [(0, 1)])) rfl ?_
      exact sw_retZ rfl rfl rfl (by omega) ⟨rfl, rfl, rfl⟩
    · skip
      omega
  | succ n ih =>
    intro i hi hib hn hf
    have hbi := hb i
    have hfi := hf i
    refine sw_p 2 (f' := (18, [some (2, 0), some (0, x), some (0, y), some (0, l), some (0, 1), some (0, i)], [(0, y), (0, i)])) rfl ?_
    refine sw_ge2 (pt := 49) (pn := 21) rfl rfl rfl (by omega) (by omega) (fun h1 => ?_) (fun h1 => ?_)
    · skip
      refine sw_p 1 (f' := (51, [some (2, 0), some (0, x), some (0, y), some (0, l), some (0, 1), some (0, i)], [(0, 1)])) rfl ?_
      exact sw_retZ rfl rfl rfl (by omega) ⟨rfl, rfl, rfl⟩
    · skip
      refine sw_p 1 (f' := (23, [some (2, 0), some (0, x), some (0, y), some (0, l), some (0, 1), some (0, i)], [(0, 1)])) rfl ?_
      refine sw_eq1 (pt := 49) (pn := 26) rfl rfl rfl (by omega) (fun h => absurd h (by decide)) (fun _ => ?_)
      refine sw_p 1 (f' := (27, [some (2, 0), some (0, x), some (0, y), some (0, l), some (0, 1), some (0, i)], [(2, 0)])) rfl ?_
      refine sw_hA (pn := 30) (i := 30) (v := 30) rfl rfl rfl rfl rfl hs.1 (mo_s30 hs).1 (by omega) ?_
      refine sw_p 1 (f' := (32, [some (2, 0), some (0, x), some (0, y), some (0, l), some (0, 1), some (0, i)], [(0, i), (2, 30)])) rfl ?_
      refine sw_bal (pn := 33) (l := 4096) rfl rfl (by omega) (mo_s30 hs).2.1 (mo_s30 hs).2.2 (by omega) (by omega) ?_
      refine sw_ne1 (pt := 40) (pn := 36) rfl rfl rfl (by omega) (fun h3 => ?_) (fun h3 => ?_)
      · skip
        refine sw_p 4 (f' := (15, [some (2, 0), some (0, x), some (0, y), some (0, l), some (0, 0), some (0, i + 1)], [])) rfl ?_
        omega
      · skip
        refine sw_p 5 (f' := (15, [some (2, 0), some (0, x), some (0, y), some (0, l), some (0, 1), some (0, i + 1)], [])) rfl ?_
        exact ih (i + 1) (by omega) (by omega) (by omega) (fun a h1 h2 => hf a (by omega) h2)
theorem mo_isFree_l0 (hs : mo_sh s) (hb : mo_b1 ν 30) (hx : 0 ≤ x) (hy : y ≤ 4096) (hl : -2147483648 ≤ l ∧ l < 2147483648) (hxy : x < 2147483648 ∧ -2147483648 ≤ y) : ∀ (n : Nat) (i : Int), x ≤ i → i < 2147483648 → y ≤ i + n → (∃ a, i ≤ a ∧ a < y ∧ ν 30 a ≠ 0) → sw_w E d 104 (15, [some (2, 0), some (0, x), some (0, y), some (0, l), some (0, 1), some (0, i)], []) s ν (sw_is (some (0, 0)) s ν) := by
  intro n
  induction n with
  | zero =>
    intro i hi hib hn hf
    obtain ⟨a, h1, h2, h3⟩ := hf
    omega
  | succ n ih =>
    intro i hi hib hn hf
    obtain ⟨a, ha1, ha2, ha3⟩ := hf
    have hbi := hb i
    refine sw_p 2 (f' := (18, [some (2, 0), some (0, x), some (0, y), some (0, l), some (0, 1), some (0, i)], [(0, y), (0, i)])) rfl ?_
    refine sw_ge2 (pt := 49) (pn := 21) rfl rfl rfl (by omega) (by omega) (fun h1 => ?_) (fun h1 => ?_)
    · skip
      refine sw_p 1 (f' := (51, [some (2, 0), some (0, x), some (0, y), some (0, l), some (0, 1), some (0, i)], [(0, 1)])) rfl ?_
      exact sw_retZ rfl rfl rfl (by omega) (absurd ha1 (by omega))
    · skip
      refine sw_p 1 (f' := (23, [some (2, 0), some (0, x), some (0, y), some (0, l), some (0, 1), some (0, i)], [(0, 1)])) rfl ?_
      refine sw_eq1 (pt := 49) (pn := 26) rfl rfl rfl (by omega) (fun h => absurd h (by decide)) (fun _ => ?_)
      refine sw_p 1 (f' := (27, [some (2, 0), some (0, x), some (0, y), some (0, l), some (0, 1), some (0, i)], [(2, 0)])) rfl ?_
      refine sw_hA (pn := 30) (i := 30) (v := 30) rfl rfl rfl rfl rfl hs.1 (mo_s30 hs).1 (by omega) ?_
      refine sw_p 1 (f' := (32, [some (2, 0), some (0, x), some (0, y), some (0, l), some (0, 1), some (0, i)], [(0, i), (2, 30)])) rfl ?_
      refine sw_bal (pn := 33) (l := 4096) rfl rfl (by omega) (mo_s30 hs).2.1 (mo_s30 hs).2.2 (by omega) (by omega) ?_
      refine sw_ne1 (pt := 40) (pn := 36) rfl rfl rfl (by omega) (fun h3 => ?_) (fun h3 => ?_)
      · skip
        refine sw_p 4 (f' := (15, [some (2, 0), some (0, x), some (0, y), some (0, l), some (0, 0), some (0, i + 1)], [])) rfl ?_
        exact mo_isFree_e (by omega) (by omega)
      · skip
        refine sw_p 5 (f' := (15, [some (2, 0), some (0, x), some (0, y), some (0, l), some (0, 1), some (0, i + 1)], [])) rfl ?_
        have hne : a ≠ i := fun e => ha3 (by rw [e]; omega)
        exact ih (i + 1) (by omega) (by omega) (by omega) ⟨a, by omega, ha2, ha3⟩
theorem mo_isFree_1 (hs : mo_sh s) (hb : mo_b1 ν 30) (hx : 0 ≤ x) (hy : y ≤ 4096) (hl : -2147483648 ≤ l ∧ l < 2147483648) (hxy : x < 2147483648 ∧ -2147483648 ≤ y) (h1 : y ≤ l) (h2 : ∀ a, x ≤ a → a < y → ν 30 a = 0) : sw_w E d 104 (0, [some (2, 0), some (0, x), some (0, y), some (0, l), none, none], []) s ν (sw_is (some (0, 1)) s ν) := by
  refine sw_p 2 (f' := (2, [some (2, 0), some (0, x), some (0, y), some (0, l), none, none], [(0, l), (0, y)])) rfl ?_
  refine sw_gt2 (pt := 9) (pn := 5) rfl rfl rfl (by omega) (by omega) (fun h => absurd h (by omega)) (fun h1 => ?_)
  refine sw_p 5 (f' := (15, [some (2, 0), some (0, x), some (0, y), some (0, l), some (0, 1), some (0, x)], [])) rfl ?_
  exact mo_isFree_l1 hs hb hx hy hl hxy (y - x).toNat x (by omega) (by omega) (by omega) h2
theorem mo_isFree_0 (hs : mo_sh s) (hb : mo_b1 ν 30) (hx : 0 ≤ x) (hy : y ≤ 4096) (hl : -2147483648 ≤ l ∧ l < 2147483648) (hxy : x < 2147483648 ∧ -2147483648 ≤ y) (h1 : y ≤ l) (h2 : ∃ a, x ≤ a ∧ a < y ∧ ν 30 a ≠ 0) : sw_w E d 104 (0, [some (2, 0), some (0, x), some (0, y), some (0, l), none, none], []) s ν (sw_is (some (0, 0)) s ν) := by
  refine sw_p 2 (f' := (2, [some (2, 0), some (0, x), some (0, y), some (0, l), none, none], [(0, l), (0, y)])) rfl ?_
  refine sw_gt2 (pt := 9) (pn := 5) rfl rfl rfl (by omega) (by omega) (fun h => absurd h (by omega)) (fun h1 => ?_)
  refine sw_p 5 (f' := (15, [some (2, 0), some (0, x), some (0, y), some (0, l), some (0, 1), some (0, x)], [])) rfl ?_
  exact mo_isFree_l0 hs hb hx hy hl hxy (y - x).toNat x (by omega) (by omega) (by omega) h2
theorem mo_isFree_2 (hx : -2147483648 ≤ x ∧ x < 2147483648) (hy : -2147483648 ≤ y ∧ y < 2147483648) (hl : -2147483648 ≤ l ∧ l < 2147483648) (h1 : l < y) : sw_w E d 104 (0, [some (2, 0), some (0, x), some (0, y), some (0, l), none, none], []) s ν (sw_is (some (0, 0)) s ν) := by
  refine sw_p 2 (f' := (2, [some (2, 0), some (0, x), some (0, y), some (0, l), none, none], [(0, l), (0, y)])) rfl ?_
  refine sw_gt2 (pt := 9) (pn := 5) rfl rfl rfl (by omega) (by omega) (fun h1 => ?_) (fun h => absurd h (by omega))
  refine sw_p 4 (f' := (15, [some (2, 0), some (0, x), some (0, y), some (0, l), some (0, 0), some (0, x)], [])) rfl ?_
  exact mo_isFree_e hx hy
end MO12
