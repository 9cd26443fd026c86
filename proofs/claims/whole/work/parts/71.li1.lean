/-! the lists: small methods -/
section LI1
variable {E : mv_E} {s ν : mm_T} {d : Nat} {x y i l p : Int}
theorem li_max (hx : -2147483648 ≤ x ∧ x < 2147483648) (hy : -2147483648 ≤ y ∧ y < 2147483648) : sw_w E d 13 (0, [some (0, x), some (0, y)], []) s ν (sw_is (some (0, if y ≤ x then x else y)) s ν) := by
  refine sw_p 2 (f' := (2, [some (0, x), some (0, y)], [(0, y), (0, x)])) rfl ?_
  refine sw_lt2 (pt := 9) (pn := 5) rfl rfl rfl (by omega) (by omega) (fun h1 => ?_) (fun h1 => ?_)
  · skip
    refine sw_p 1 (f' := (10, [some (0, x), some (0, y)], [(0, y)])) rfl ?_
    exact sw_retI rfl rfl rfl ⟨by first | rw [if_pos (by omega)] | rw [if_neg (by omega)], rfl, rfl⟩
  · skip
    refine sw_p 2 (f' := (10, [some (0, x), some (0, y)], [(0, x)])) rfl ?_
    exact sw_retI rfl rfl rfl ⟨by first | rw [if_pos (by omega)] | rw [if_neg (by omega)], rfl, rfl⟩
theorem li_min (hx : -2147483648 ≤ x ∧ x < 2147483648) (hy : -2147483648 ≤ y ∧ y < 2147483648) : sw_w E d 14 (0, [some (0, x), some (0, y)], []) s ν (sw_is (some (0, if x ≤ y then x else y)) s ν) := by
  refine sw_p 2 (f' := (2, [some (0, x), some (0, y)], [(0, y), (0, x)])) rfl ?_
  refine sw_gt2 (pt := 9) (pn := 5) rfl rfl rfl (by omega) (by omega) (fun h1 => ?_) (fun h1 => ?_)
  · skip
    refine sw_p 1 (f' := (10, [some (0, x), some (0, y)], [(0, y)])) rfl ?_
    exact sw_retI rfl rfl rfl ⟨by first | rw [if_pos (by omega)] | rw [if_neg (by omega)], rfl, rfl⟩
  · skip
    refine sw_p 2 (f' := (10, [some (0, x), some (0, y)], [(0, x)])) rfl ?_
    exact sw_retI rfl rfl rfl ⟨by first | rw [if_pos (by omega)] | rw [if_neg (by omega)], rfl, rfl⟩
theorem li_ci (hi : 0 ≤ x ∧ x < y) (hy : y < 2147483648) : sw_w E d 16 (0, [some (0, x), some (0, y), some (3, 0)], []) s ν (sw_is (some (0, x)) s ν) := by
  refine sw_p 1 (f' := (1, [some (0, x), some (0, y), some (3, 0)], [(0, x)])) rfl ?_
  refine sw_lt1 (pt := 9) (pn := 4) rfl rfl rfl (by omega) (fun h => absurd h (by omega)) (fun h1 => ?_)
  refine sw_p 2 (f' := (6, [some (0, x), some (0, y), some (3, 0)], [(0, y), (0, x)])) rfl ?_
  refine sw_lt2 (pt := 16) (pn := 9) rfl rfl rfl (by omega) (by omega) (fun h2 => ?_) (fun h => absurd h (by omega))
  refine sw_p 1 (f' := (17, [some (0, x), some (0, y), some (3, 0)], [(0, x)])) rfl ?_
  exact sw_retI rfl rfl rfl ⟨rfl, rfl, rfl⟩
theorem li_ck (hi : 0 ≤ x ∧ x < y) (hy : y < 2147483648) : sw_w E (d + 1) 12 (0, [some (0, x), some (0, y)], []) s ν (sw_is (some (0, x)) s ν) := by
  refine sw_p 3 (f' := (3, [some (0, x), some (0, y)], [(3, 0), (0, y), (0, x)])) rfl ?_
  refine sw_cs1 (pn := 6) (q0 := mj_Ob_checkIndex) (q := mj_Pr_checkIndex) (L2 := [some (0, x), some (0, y), some (3, 0)]) (rest := []) (v := some (0, x)) (s1 := s) (ν1 := ν) rfl rfl rfl rfl rfl rfl rfl rfl (li_ci hi hy) ?_
  show sw_w E _ 12 (6, [some (0, x), some (0, y)], [(0, x)]) s ν _
  exact sw_retI rfl rfl rfl ⟨rfl, rfl, rfl⟩
theorem li_size (hp0 : 0 ≤ p) (hp : s p (-1) = 107) : sw_w E d 3 (0, [some (2, p)], []) s ν (sw_is (some (0, ν p 1)) s ν) := by
  refine sw_p 1 (f' := (1, [some (2, p)], [(2, p)])) rfl ?_
  refine sw_gI (pn := 4) (i := 1) rfl rfl rfl rfl rfl (by omega) hp ?_
  exact sw_retI rfl rfl rfl ⟨rfl, rfl, rfl⟩
theorem li_ed (hp0 : 0 ≤ p) (hp : s p (-1) = 107) (hk : s (ν p 0) (-1) = 7) (hl : s (ν p 0) (-2) = l) (hl2 : l ≤ 2147483648) (hi : 0 ≤ i ∧ i < l) (h0 : 0 ≤ ν p 0) (h1 : 0 ≤ ν (ν p 0) i) : sw_w E d 9 (0, [some (2, p), some (0, i)], []) s ν (sw_is (some (2, ν (ν p 0) i)) s ν) := by
  refine sw_p 1 (f' := (1, [some (2, p), some (0, i)], [(2, p)])) rfl ?_
  refine sw_gA (pn := 4) (i := 0) rfl rfl rfl rfl rfl (by omega) hp (fun h1 => ?_) (fun h => absurd h (by omega))
  refine sw_p 1 (f' := (5, [some (2, p), some (0, i)], [(0, i), (2, ν p 0)])) rfl ?_
  refine sw_aal (pn := 6) (t := 7) (l := l) rfl rfl rfl (by decide) (by omega) hk hl (by omega) (by omega) (fun h2 => ?_) (fun h => absurd h (by omega))
  exact sw_retA rfl rfl rfl ⟨rfl, rfl, rfl⟩
theorem li_get (hp0 : 0 ≤ p) (hp : s p (-1) = 107) (hk : s (ν p 0) (-1) = 7) (hl : s (ν p 0) (-2) = l) (hl2 : l ≤ 60000000) (hi : 0 ≤ i ∧ i < ν p 1) (hn : ν p 1 ≤ l) (h0 : 0 ≤ ν p 0) (h1 : 0 ≤ ν (ν p 0) i) : sw_w E (d + 2) 8 (0, [some (2, p), some (0, i)], []) s ν (sw_is (some (2, ν (ν p 0) i)) s ν) := by
  refine sw_p 2 (f' := (2, [some (2, p), some (0, i)], [(2, p), (0, i)])) rfl ?_
  refine sw_gI (pn := 5) (i := 1) rfl rfl rfl rfl rfl (by omega) hp ?_
  refine sw_cs1 (pn := 8) (q0 := mj_Al_get) (q := mj_Ob_checkIndex) (L2 := [some (0, i), some (0, ν p 1)]) (rest := []) (v := some (0, i)) (s1 := s) (ν1 := ν) rfl rfl rfl rfl rfl rfl rfl rfl (li_ck (by omega) (by omega)) ?_
  show sw_w E _ 8 (8, [some (2, p), some (0, i)], [(0, i)]) s ν _
  refine sw_p 3 (f' := (11, [some (2, p), some (0, i)], [(0, i), (2, p)])) rfl ?_
  refine sw_cv1 (pn := 14) (q0 := mj_Al_get) (q := mj_Al_elementData) (p := p) (as2 := [(0, i)]) (L2 := [some (2, p), some (0, i)]) (rest := []) (v := some (2, ν (ν p 0) i)) (s1 := s) (ν1 := ν) rfl rfl rfl rfl rfl rfl rfl rfl rfl hp (li_ed hp0 hp hk hl (by omega) (by omega) h0 h1) ?_
  show sw_w E _ 8 (14, [some (2, p), some (0, i)], [(2, ν (ν p 0) i)]) s ν _
  exact sw_retA rfl rfl rfl ⟨rfl, rfl, rfl⟩
end LI1
