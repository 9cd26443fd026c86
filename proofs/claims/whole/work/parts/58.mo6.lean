/-! the reference: what is asked of it -/
/-- memory with the code of the last call -/
abbrev mo_cd (ν : mm_T) (z : Int) : mm_T := mm_u ν 0 0 z
theorem mo_cd_ne {ν : mm_T} {z p i : Int} (h : ¬ (p = 0 ∧ i = 0)) : mo_cd ν z p i = ν p i := mm_u_ne h
set_option maxHeartbeats 1000000 in
theorem mo_B_cd {ν : mm_T} {z : Int} (h : mo_B ν) : mo_B (mo_cd ν z) := by
  have e : ∀ {p i : Int}, ¬ (p = 0 ∧ i = 0) → mo_cd ν z p i = ν p i := fun h => mm_u_ne h
  obtain ⟨h1, h2, h3, h4, h5, h6, h7, h8, h9, h10, h11, h12, h13, h14⟩ := h
  refine ⟨?_, ?_, ?_, ?_, ?_, ?_, ?_, ?_, ?_, ?_, ?_, ?_, ?_, ?_⟩
  · rw [e (by omega)]; exact h1
  · rw [e (by omega)]; exact h2
  · rw [e (by omega)]; exact h3
  · rw [e (by omega), e (by omega)]; exact h4
  · rw [e (by omega)]; exact h5
  · rw [e (by omega)]; exact h6
  · intro k a b; rw [e (by omega)]; exact h7 k a b
  · intro k a b; rw [e (by omega)]; exact h8 k a b
  · intro k a b; rw [e (by omega)]; exact h9 k a b
  · intro k a b; rw [e (by omega)]; exact h10 k a b
  · intro k a b; rw [e (by omega), e (by omega), e (by omega), e (by omega)]; exact h11 k a b
  · intro k a b; rw [e (by omega)]; exact h12 k a b
  · intro k a b; rw [e (by omega)]; exact h13 k a b
  · intro k a b; rw [e (by omega), e (by omega), e (by omega)]; exact h14 k a b
section MO6
variable {E : mv_E} {s ν : mm_T} {d : Nat} {b c r x y w p f g k t v lo hi : Int}
theorem mo_isB1 (hs : mo_sh s) (hB : mo_B ν) (hb : 0 ≤ b ∧ b < ν 0 1) : sw_w E d 84 (0, [some (2, 0), some (0, b)], []) s ν (sw_is (some (0, 1)) s ν) := by
  have h1 := hB.1
  have h := mo_isBridge (E := E) (d := d) (b := b) hs (by omega) (by omega : 0 ≤ ν 0 1 ∧ ν 0 1 ≤ 8)
  rwa [if_pos hb] at h
theorem mo_isB0 (hs : mo_sh s) (hB : mo_B ν) (hi : -2147483648 ≤ b ∧ b < 2147483648) (hb : ¬ (0 ≤ b ∧ b < ν 0 1)) : sw_w E d 84 (0, [some (2, 0), some (0, b)], []) s ν (sw_is (some (0, 0)) s ν) := by
  have h1 := hB.1
  have h := mo_isBridge (E := E) (d := d) (b := b) hs hi (by omega : 0 ≤ ν 0 1 ∧ ν 0 1 ≤ 8)
  rwa [if_neg hb] at h
theorem mo_isC1 (hs : mo_sh s) (hB : mo_B ν) (hb : 0 ≤ c ∧ c < ν 0 12) : sw_w E d 112 (0, [some (2, 0), some (0, c)], []) s ν (sw_is (some (0, 1)) s ν) := by
  have h1 := hB.2.2.1
  have h := mo_isCard (E := E) (d := d) (c := c) hs (by omega) (by omega : 0 ≤ ν 0 12 ∧ ν 0 12 ≤ 40)
  rwa [if_pos hb] at h
theorem mo_isC0 (hs : mo_sh s) (hB : mo_B ν) (hi : -2147483648 ≤ c ∧ c < 2147483648) (hb : ¬ (0 ≤ c ∧ c < ν 0 12)) : sw_w E d 112 (0, [some (2, 0), some (0, c)], []) s ν (sw_is (some (0, 0)) s ν) := by
  have h1 := hB.2.2.1
  have h := mo_isCard (E := E) (d := d) (c := c) hs hi (by omega : 0 ≤ ν 0 12 ∧ ν 0 12 ≤ 40)
  rwa [if_neg hb] at h
theorem mo_in1 (hv : -2147483648 ≤ v ∧ v < 2147483648) (h1 : -2147483648 ≤ lo ∧ lo < 2147483648) (h2 : -2147483648 ≤ hi ∧ hi < 2147483648) (h : lo ≤ v ∧ v ≤ hi) : sw_w E d 85 (0, [some (0, v), some (0, lo), some (0, hi)], []) s ν (sw_is (some (0, 1)) s ν) := by
  have h3 := mo_within (E := E) (d := d) (s := s) (ν := ν) hv h1 h2
  rwa [if_pos h] at h3
theorem mo_in0 (hv : -2147483648 ≤ v ∧ v < 2147483648) (h1 : -2147483648 ≤ lo ∧ lo < 2147483648) (h2 : -2147483648 ≤ hi ∧ hi < 2147483648) (h : ¬ (lo ≤ v ∧ v ≤ hi)) : sw_w E d 85 (0, [some (0, v), some (0, lo), some (0, hi)], []) s ν (sw_is (some (0, 0)) s ν) := by
  have h3 := mo_within (E := E) (d := d) (s := s) (ν := ν) hv h1 h2
  rwa [if_neg h] at h3
theorem mo_slot_1 (hs : mo_sh s) (hB : mo_B ν) (hb : 0 ≤ b ∧ b < ν 0 1) (hx : 0 ≤ x ∧ x ≤ 3) : sw_w E (d + 1) 125 (0, [some (2, 0), some (0, b), some (0, x)], []) s ν (sw_is (some (0, ν 2 (4 * b + x))) s (mo_cd ν 0)) := by
  have hn := hB.1
  refine sw_p 3 (f' := (3, [some (2, 0), some (0, b), some (0, x)], [(0, b), (2, 0), (2, 0)])) rfl ?_
  refine sw_cv1 (pn := 6) (q0 := mj_Mo_slot) (q := mj_Mo_isBridge) (p := 0) (as2 := [(0, b)]) (L2 := [some (2, 0), some (0, b)]) (rest := [(2, 0)]) (v := some (0, 1)) (s1 := s) (ν1 := ν) rfl rfl rfl rfl rfl rfl rfl rfl rfl hs.1 (mo_isB1 hs hB (by omega)) ?_
  show sw_w E _ 125 (6, [some (2, 0), some (0, b), some (0, x)], [(0, 1), (2, 0)]) s ν _
  refine sw_eq1 (pt := 22) (pn := 9) rfl rfl rfl (by omega) (fun h => absurd h (by decide)) (fun _ => ?_)
  refine sw_p 3 (f' := (12, [some (2, 0), some (0, b), some (0, x)], [(0, 3), (0, 0), (0, x), (2, 0)])) rfl ?_
  refine sw_cs1 (pn := 15) (q0 := mj_Mo_slot) (q := mj_Mo_within) (L2 := [some (0, x), some (0, 0), some (0, 3)]) (rest := [(2, 0)]) (v := some (0, 1)) (s1 := s) (ν1 := ν) rfl rfl rfl rfl rfl rfl rfl rfl (mo_in1 (by omega) (by omega) (by omega) (by omega)) ?_
  show sw_w E _ 125 (15, [some (2, 0), some (0, b), some (0, x)], [(0, 1), (2, 0)]) s ν _
  refine sw_eq1 (pt := 22) (pn := 18) rfl rfl rfl (by omega) (fun h => absurd h (by decide)) (fun _ => ?_)
  refine sw_p 2 (f' := (23, [some (2, 0), some (0, b), some (0, x)], [(0, 0), (2, 0)])) rfl ?_
  refine sw_pI (pn := 26) (i := 0) rfl rfl rfl rfl rfl (by omega) hs.1 ?_
  refine sw_p 1 (f' := (27, [some (2, 0), some (0, b), some (0, x)], [(2, 0)])) rfl ?_
  refine sw_gI (pn := 30) (i := 0) rfl rfl rfl rfl rfl (by omega) hs.1 ?_
  rw [show (mm_u ν 0 0 0) 0 0 = 0 from mm_u_at]
  refine sw_le1 (pt := 37) (pn := 33) rfl rfl rfl (by omega) (fun _ => ?_) (fun h => absurd h (by decide))
  refine sw_p 1 (f' := (38, [some (2, 0), some (0, b), some (0, x)], [(2, 0)])) rfl ?_
  refine sw_hA (pn := 41) (i := 2) (v := 2) rfl rfl rfl rfl rfl hs.1 (mo_s2 hs).1 (by omega) ?_
  refine sw_p 5 (f' := (46, [some (2, 0), some (0, b), some (0, x)], [(0, (4 * b) + x), (2, 2)])) rfl ?_
  refine sw_ial (pn := 47) (l := 32) rfl rfl (by omega) (mo_s2 hs).2.1 (mo_s2 hs).2.2 (by omega) (by omega) ?_
  rw [show (mm_u ν 0 0 0) 2 ((4 * b) + x) = ν 2 ((4 * b) + x) from mm_u_ne (by omega)]
  exact sw_retI rfl rfl rfl ⟨rfl, rfl, rfl⟩
theorem mo_slot_0 (hs : mo_sh s) (hB : mo_B ν) (hb : -2147483648 ≤ b ∧ b < 2147483648) (hx : -2147483648 ≤ x ∧ x < 2147483648) (h0 : ¬ (0 ≤ b ∧ b < ν 0 1)) : sw_w E (d + 1) 125 (0, [some (2, 0), some (0, b), some (0, x)], []) s ν (sw_is (some (0, 0)) s (mo_cd ν 1)) := by
  have hn := hB.1
  refine sw_p 3 (f' := (3, [some (2, 0), some (0, b), some (0, x)], [(0, b), (2, 0), (2, 0)])) rfl ?_
  refine sw_cv1 (pn := 6) (q0 := mj_Mo_slot) (q := mj_Mo_isBridge) (p := 0) (as2 := [(0, b)]) (L2 := [some (2, 0), some (0, b)]) (rest := [(2, 0)]) (v := some (0, 0)) (s1 := s) (ν1 := ν) rfl rfl rfl rfl rfl rfl rfl rfl rfl hs.1 (mo_isB0 hs hB (by omega) (by omega)) ?_
  show sw_w E _ 125 (6, [some (2, 0), some (0, b), some (0, x)], [(0, 0), (2, 0)]) s ν _
  refine sw_eq1 (pt := 22) (pn := 9) rfl rfl rfl (by omega) (fun _ => ?_) (fun h => absurd h (by decide))
  refine sw_p 1 (f' := (23, [some (2, 0), some (0, b), some (0, x)], [(0, 1), (2, 0)])) rfl ?_
  refine sw_pI (pn := 26) (i := 0) rfl rfl rfl rfl rfl (by omega) hs.1 ?_
  refine sw_p 1 (f' := (27, [some (2, 0), some (0, b), some (0, x)], [(2, 0)])) rfl ?_
  refine sw_gI (pn := 30) (i := 0) rfl rfl rfl rfl rfl (by omega) hs.1 ?_
  rw [show (mm_u ν 0 0 1) 0 0 = 1 from mm_u_at]
  refine sw_le1 (pt := 37) (pn := 33) rfl rfl rfl (by omega) (fun h => absurd h (by decide)) (fun _ => ?_)
  refine sw_p 2 (f' := (47, [some (2, 0), some (0, b), some (0, x)], [(0, 0)])) rfl ?_
  exact sw_retI rfl rfl rfl ⟨rfl, rfl, rfl⟩
theorem mo_slot_2 (hs : mo_sh s) (hB : mo_B ν) (hx : -2147483648 ≤ x ∧ x < 2147483648) (hb : 0 ≤ b ∧ b < ν 0 1) (h0 : ¬ (0 ≤ x ∧ x ≤ 3)) : sw_w E (d + 1) 125 (0, [some (2, 0), some (0, b), some (0, x)], []) s ν (sw_is (some (0, 0)) s (mo_cd ν 1)) := by
  have hn := hB.1
  refine sw_p 3 (f' := (3, [some (2, 0), some (0, b), some (0, x)], [(0, b), (2, 0), (2, 0)])) rfl ?_
  refine sw_cv1 (pn := 6) (q0 := mj_Mo_slot) (q := mj_Mo_isBridge) (p := 0) (as2 := [(0, b)]) (L2 := [some (2, 0), some (0, b)]) (rest := [(2, 0)]) (v := some (0, 1)) (s1 := s) (ν1 := ν) rfl rfl rfl rfl rfl rfl rfl rfl rfl hs.1 (mo_isB1 hs hB (by omega)) ?_
  show sw_w E _ 125 (6, [some (2, 0), some (0, b), some (0, x)], [(0, 1), (2, 0)]) s ν _
  refine sw_eq1 (pt := 22) (pn := 9) rfl rfl rfl (by omega) (fun h => absurd h (by decide)) (fun _ => ?_)
  refine sw_p 3 (f' := (12, [some (2, 0), some (0, b), some (0, x)], [(0, 3), (0, 0), (0, x), (2, 0)])) rfl ?_
  refine sw_cs1 (pn := 15) (q0 := mj_Mo_slot) (q := mj_Mo_within) (L2 := [some (0, x), some (0, 0), some (0, 3)]) (rest := [(2, 0)]) (v := some (0, 0)) (s1 := s) (ν1 := ν) rfl rfl rfl rfl rfl rfl rfl rfl (mo_in0 (by omega) (by omega) (by omega) (by omega)) ?_
  show sw_w E _ 125 (15, [some (2, 0), some (0, b), some (0, x)], [(0, 0), (2, 0)]) s ν _
  refine sw_eq1 (pt := 22) (pn := 18) rfl rfl rfl (by omega) (fun _ => ?_) (fun h => absurd h (by decide))
  refine sw_p 1 (f' := (23, [some (2, 0), some (0, b), some (0, x)], [(0, 1), (2, 0)])) rfl ?_
  refine sw_pI (pn := 26) (i := 0) rfl rfl rfl rfl rfl (by omega) hs.1 ?_
  refine sw_p 1 (f' := (27, [some (2, 0), some (0, b), some (0, x)], [(2, 0)])) rfl ?_
  refine sw_gI (pn := 30) (i := 0) rfl rfl rfl rfl rfl (by omega) hs.1 ?_
  rw [show (mm_u ν 0 0 1) 0 0 = 1 from mm_u_at]
  refine sw_le1 (pt := 37) (pn := 33) rfl rfl rfl (by omega) (fun h => absurd h (by decide)) (fun _ => ?_)
  refine sw_p 2 (f' := (47, [some (2, 0), some (0, b), some (0, x)], [(0, 0)])) rfl ?_
  exact sw_retI rfl rfl rfl ⟨rfl, rfl, rfl⟩
theorem mo_opening_1 (hs : mo_sh s) (hB : mo_B ν) (hb : 0 ≤ b ∧ b < ν 0 1) (hx : x = 0 ∨ x = 1) : sw_w E (d + 1) 122 (0, [some (2, 0), some (0, b), some (0, x)], []) s ν (sw_is (some (0, if x = 0 then ν 5 b else ν 6 b)) s (mo_cd ν 0)) := by
  have hn := hB.1
  refine sw_p 3 (f' := (3, [some (2, 0), some (0, b), some (0, x)], [(0, b), (2, 0), (2, 0)])) rfl ?_
  refine sw_cv1 (pn := 6) (q0 := mj_Mo_opening) (q := mj_Mo_isBridge) (p := 0) (as2 := [(0, b)]) (L2 := [some (2, 0), some (0, b)]) (rest := [(2, 0)]) (v := some (0, 1)) (s1 := s) (ν1 := ν) rfl rfl rfl rfl rfl rfl rfl rfl rfl hs.1 (mo_isB1 hs hB (by omega)) ?_
  show sw_w E _ 122 (6, [some (2, 0), some (0, b), some (0, x)], [(0, 1), (2, 0)]) s ν _
  refine sw_eq1 (pt := 13) (pn := 9) rfl rfl rfl (by omega) (fun h => absurd h (by decide)) (fun _ => ?_)
  refine sw_p 2 (f' := (14, [some (2, 0), some (0, b), some (0, x)], [(0, 0), (2, 0)])) rfl ?_
  refine sw_pI (pn := 17) (i := 0) rfl rfl rfl rfl rfl (by omega) hs.1 ?_
  refine sw_p 1 (f' := (18, [some (2, 0), some (0, b), some (0, x)], [(2, 0)])) rfl ?_
  refine sw_gI (pn := 21) (i := 0) rfl rfl rfl rfl rfl (by omega) hs.1 ?_
  rw [show (mm_u ν 0 0 0) 0 0 = 0 from mm_u_at]
  refine sw_le1 (pt := 28) (pn := 24) rfl rfl rfl (by omega) (fun _ => ?_) (fun h => absurd h (by decide))
  refine sw_p 1 (f' := (29, [some (2, 0), some (0, b), some (0, x)], [(0, x)])) rfl ?_
  refine sw_eq1 (pt := 41) (pn := 32) rfl rfl rfl (by omega) (fun h3 => ?_) (fun h3 => ?_)
  · skip
    refine sw_p 1 (f' := (42, [some (2, 0), some (0, b), some (0, x)], [(2, 0)])) rfl ?_
    refine sw_hA (pn := 45) (i := 5) (v := 5) rfl rfl rfl rfl rfl hs.1 (mo_s5 hs).1 (by omega) ?_
    refine sw_p 1 (f' := (46, [some (2, 0), some (0, b), some (0, x)], [(0, b), (2, 5)])) rfl ?_
    refine sw_ial (pn := 47) (l := 8) rfl rfl (by omega) (mo_s5 hs).2.1 (mo_s5 hs).2.2 (by omega) (by omega) ?_
    rw [show (mm_u ν 0 0 0) 5 b = ν 5 b from mm_u_ne (by omega)]
    exact sw_retI rfl rfl rfl ⟨by rw [if_pos (by omega)], rfl, rfl⟩
  · skip
    refine sw_p 1 (f' := (33, [some (2, 0), some (0, b), some (0, x)], [(2, 0)])) rfl ?_
    refine sw_hA (pn := 36) (i := 6) (v := 6) rfl rfl rfl rfl rfl hs.1 (mo_s6 hs).1 (by omega) ?_
    refine sw_p 1 (f' := (37, [some (2, 0), some (0, b), some (0, x)], [(0, b), (2, 6)])) rfl ?_
    refine sw_ial (pn := 38) (l := 8) rfl rfl (by omega) (mo_s6 hs).2.1 (mo_s6 hs).2.2 (by omega) (by omega) ?_
    rw [show (mm_u ν 0 0 0) 6 b = ν 6 b from mm_u_ne (by omega)]
    refine sw_p 1 (f' := (47, [some (2, 0), some (0, b), some (0, x)], [(0, ν 6 b)])) rfl ?_
    exact sw_retI rfl rfl rfl ⟨by rw [if_neg (by omega)], rfl, rfl⟩
theorem mo_opening_0 (hs : mo_sh s) (hB : mo_B ν) (hb : -2147483648 ≤ b ∧ b < 2147483648) (h0 : ¬ (0 ≤ b ∧ b < ν 0 1)) : sw_w E (d + 1) 122 (0, [some (2, 0), some (0, b), some (0, x)], []) s ν (sw_is (some (0, 0)) s (mo_cd ν 1)) := by
  have hn := hB.1
  refine sw_p 3 (f' := (3, [some (2, 0), some (0, b), some (0, x)], [(0, b), (2, 0), (2, 0)])) rfl ?_
  refine sw_cv1 (pn := 6) (q0 := mj_Mo_opening) (q := mj_Mo_isBridge) (p := 0) (as2 := [(0, b)]) (L2 := [some (2, 0), some (0, b)]) (rest := [(2, 0)]) (v := some (0, 0)) (s1 := s) (ν1 := ν) rfl rfl rfl rfl rfl rfl rfl rfl rfl hs.1 (mo_isB0 hs hB (by omega) (by omega)) ?_
  show sw_w E _ 122 (6, [some (2, 0), some (0, b), some (0, x)], [(0, 0), (2, 0)]) s ν _
  refine sw_eq1 (pt := 13) (pn := 9) rfl rfl rfl (by omega) (fun _ => ?_) (fun h => absurd h (by decide))
  refine sw_p 1 (f' := (14, [some (2, 0), some (0, b), some (0, x)], [(0, 1), (2, 0)])) rfl ?_
  refine sw_pI (pn := 17) (i := 0) rfl rfl rfl rfl rfl (by omega) hs.1 ?_
  refine sw_p 1 (f' := (18, [some (2, 0), some (0, b), some (0, x)], [(2, 0)])) rfl ?_
  refine sw_gI (pn := 21) (i := 0) rfl rfl rfl rfl rfl (by omega) hs.1 ?_
  rw [show (mm_u ν 0 0 1) 0 0 = 1 from mm_u_at]
  refine sw_le1 (pt := 28) (pn := 24) rfl rfl rfl (by omega) (fun h => absurd h (by decide)) (fun _ => ?_)
  refine sw_p 2 (f' := (47, [some (2, 0), some (0, b), some (0, x)], [(0, 0)])) rfl ?_
  exact sw_retI rfl rfl rfl ⟨rfl, rfl, rfl⟩
theorem mo_range_1 (hs : mo_sh s) (hB : mo_B ν) (hc : 0 ≤ c ∧ c < ν 0 12) (hx : 0 ≤ x ∧ x ≤ 2) : sw_w E (d + 1) 121 (0, [some (2, 0), some (0, c), some (0, x)], []) s ν (sw_is (some (0, ν 17 (3 * c + x))) s (mo_cd ν 0)) := by
  have hn := hB.2.2.1
  refine sw_p 3 (f' := (3, [some (2, 0), some (0, c), some (0, x)], [(0, c), (2, 0), (2, 0)])) rfl ?_
  refine sw_cv1 (pn := 6) (q0 := mj_Mo_range) (q := mj_Mo_isCard) (p := 0) (as2 := [(0, c)]) (L2 := [some (2, 0), some (0, c)]) (rest := [(2, 0)]) (v := some (0, 1)) (s1 := s) (ν1 := ν) rfl rfl rfl rfl rfl rfl rfl rfl rfl hs.1 (mo_isC1 hs hB (by omega)) ?_
  show sw_w E _ 121 (6, [some (2, 0), some (0, c), some (0, x)], [(0, 1), (2, 0)]) s ν _
  refine sw_eq1 (pt := 22) (pn := 9) rfl rfl rfl (by omega) (fun h => absurd h (by decide)) (fun _ => ?_)
  refine sw_p 3 (f' := (12, [some (2, 0), some (0, c), some (0, x)], [(0, 2), (0, 0), (0, x), (2, 0)])) rfl ?_
  refine sw_cs1 (pn := 15) (q0 := mj_Mo_range) (q := mj_Mo_within) (L2 := [some (0, x), some (0, 0), some (0, 2)]) (rest := [(2, 0)]) (v := some (0, 1)) (s1 := s) (ν1 := ν) rfl rfl rfl rfl rfl rfl rfl rfl (mo_in1 (by omega) (by omega) (by omega) (by omega)) ?_
  show sw_w E _ 121 (15, [some (2, 0), some (0, c), some (0, x)], [(0, 1), (2, 0)]) s ν _
  refine sw_eq1 (pt := 22) (pn := 18) rfl rfl rfl (by omega) (fun h => absurd h (by decide)) (fun _ => ?_)
  refine sw_p 2 (f' := (23, [some (2, 0), some (0, c), some (0, x)], [(0, 0), (2, 0)])) rfl ?_
  refine sw_pI (pn := 26) (i := 0) rfl rfl rfl rfl rfl (by omega) hs.1 ?_
  refine sw_p 1 (f' := (27, [some (2, 0), some (0, c), some (0, x)], [(2, 0)])) rfl ?_
  refine sw_gI (pn := 30) (i := 0) rfl rfl rfl rfl rfl (by omega) hs.1 ?_
  rw [show (mm_u ν 0 0 0) 0 0 = 0 from mm_u_at]
  refine sw_le1 (pt := 37) (pn := 33) rfl rfl rfl (by omega) (fun _ => ?_) (fun h => absurd h (by decide))
  refine sw_p 1 (f' := (38, [some (2, 0), some (0, c), some (0, x)], [(2, 0)])) rfl ?_
  refine sw_hA (pn := 41) (i := 17) (v := 17) rfl rfl rfl rfl rfl hs.1 (mo_s17 hs).1 (by omega) ?_
  refine sw_p 5 (f' := (46, [some (2, 0), some (0, c), some (0, x)], [(0, (3 * c) + x), (2, 17)])) rfl ?_
  refine sw_ial (pn := 47) (l := 120) rfl rfl (by omega) (mo_s17 hs).2.1 (mo_s17 hs).2.2 (by omega) (by omega) ?_
  rw [show (mm_u ν 0 0 0) 17 ((3 * c) + x) = ν 17 ((3 * c) + x) from mm_u_ne (by omega)]
  exact sw_retI rfl rfl rfl ⟨rfl, rfl, rfl⟩
theorem mo_range_0 (hs : mo_sh s) (hB : mo_B ν) (hc : -2147483648 ≤ c ∧ c < 2147483648) (hx : -2147483648 ≤ x ∧ x < 2147483648) (h0 : ¬ (0 ≤ c ∧ c < ν 0 12)) : sw_w E (d + 1) 121 (0, [some (2, 0), some (0, c), some (0, x)], []) s ν (sw_is (some (0, 0)) s (mo_cd ν 1)) := by
  have hn := hB.2.2.1
  refine sw_p 3 (f' := (3, [some (2, 0), some (0, c), some (0, x)], [(0, c), (2, 0), (2, 0)])) rfl ?_
  refine sw_cv1 (pn := 6) (q0 := mj_Mo_range) (q := mj_Mo_isCard) (p := 0) (as2 := [(0, c)]) (L2 := [some (2, 0), some (0, c)]) (rest := [(2, 0)]) (v := some (0, 0)) (s1 := s) (ν1 := ν) rfl rfl rfl rfl rfl rfl rfl rfl rfl hs.1 (mo_isC0 hs hB (by omega) (by omega)) ?_
  show sw_w E _ 121 (6, [some (2, 0), some (0, c), some (0, x)], [(0, 0), (2, 0)]) s ν _
  refine sw_eq1 (pt := 22) (pn := 9) rfl rfl rfl (by omega) (fun _ => ?_) (fun h => absurd h (by decide))
  refine sw_p 1 (f' := (23, [some (2, 0), some (0, c), some (0, x)], [(0, 1), (2, 0)])) rfl ?_
  refine sw_pI (pn := 26) (i := 0) rfl rfl rfl rfl rfl (by omega) hs.1 ?_
  refine sw_p 1 (f' := (27, [some (2, 0), some (0, c), some (0, x)], [(2, 0)])) rfl ?_
  refine sw_gI (pn := 30) (i := 0) rfl rfl rfl rfl rfl (by omega) hs.1 ?_
  rw [show (mm_u ν 0 0 1) 0 0 = 1 from mm_u_at]
  refine sw_le1 (pt := 37) (pn := 33) rfl rfl rfl (by omega) (fun h => absurd h (by decide)) (fun _ => ?_)
  refine sw_p 2 (f' := (47, [some (2, 0), some (0, c), some (0, x)], [(0, 0)])) rfl ?_
  exact sw_retI rfl rfl rfl ⟨rfl, rfl, rfl⟩
theorem mo_range_2 (hs : mo_sh s) (hB : mo_B ν) (hx : -2147483648 ≤ x ∧ x < 2147483648) (hc : 0 ≤ c ∧ c < ν 0 12) (h0 : ¬ (0 ≤ x ∧ x ≤ 2)) : sw_w E (d + 1) 121 (0, [some (2, 0), some (0, c), some (0, x)], []) s ν (sw_is (some (0, 0)) s (mo_cd ν 1)) := by
  have hn := hB.2.2.1
  refine sw_p 3 (f' := (3, [some (2, 0), some (0, c), some (0, x)], [(0, c), (2, 0), (2, 0)])) rfl ?_
  refine sw_cv1 (pn := 6) (q0 := mj_Mo_range) (q := mj_Mo_isCard) (p := 0) (as2 := [(0, c)]) (L2 := [some (2, 0), some (0, c)]) (rest := [(2, 0)]) (v := some (0, 1)) (s1 := s) (ν1 := ν) rfl rfl rfl rfl rfl rfl rfl rfl rfl hs.1 (mo_isC1 hs hB (by omega)) ?_
  show sw_w E _ 121 (6, [some (2, 0), some (0, c), some (0, x)], [(0, 1), (2, 0)]) s ν _
  refine sw_eq1 (pt := 22) (pn := 9) rfl rfl rfl (by omega) (fun h => absurd h (by decide)) (fun _ => ?_)
  refine sw_p 3 (f' := (12, [some (2, 0), some (0, c), some (0, x)], [(0, 2), (0, 0), (0, x), (2, 0)])) rfl ?_
  refine sw_cs1 (pn := 15) (q0 := mj_Mo_range) (q := mj_Mo_within) (L2 := [some (0, x), some (0, 0), some (0, 2)]) (rest := [(2, 0)]) (v := some (0, 0)) (s1 := s) (ν1 := ν) rfl rfl rfl rfl rfl rfl rfl rfl (mo_in0 (by omega) (by omega) (by omega) (by omega)) ?_
  show sw_w E _ 121 (15, [some (2, 0), some (0, c), some (0, x)], [(0, 0), (2, 0)]) s ν _
  refine sw_eq1 (pt := 22) (pn := 18) rfl rfl rfl (by omega) (fun _ => ?_) (fun h => absurd h (by decide))
  refine sw_p 1 (f' := (23, [some (2, 0), some (0, c), some (0, x)], [(0, 1), (2, 0)])) rfl ?_
  refine sw_pI (pn := 26) (i := 0) rfl rfl rfl rfl rfl (by omega) hs.1 ?_
  refine sw_p 1 (f' := (27, [some (2, 0), some (0, c), some (0, x)], [(2, 0)])) rfl ?_
  refine sw_gI (pn := 30) (i := 0) rfl rfl rfl rfl rfl (by omega) hs.1 ?_
  rw [show (mm_u ν 0 0 1) 0 0 = 1 from mm_u_at]
  refine sw_le1 (pt := 37) (pn := 33) rfl rfl rfl (by omega) (fun h => absurd h (by decide)) (fun _ => ?_)
  refine sw_p 2 (f' := (47, [some (2, 0), some (0, c), some (0, x)], [(0, 0)])) rfl ?_
  exact sw_retI rfl rfl rfl ⟨rfl, rfl, rfl⟩
theorem mo_result_1 (hs : mo_sh s) (hB : mo_B ν) (ht : 0 ≤ t ∧ t < ν 0 24) : sw_w E (d + 1) 119 (0, [some (2, 0), some (0, t)], []) s ν (sw_is (some (1, ν 28 t)) s (mo_cd ν 0)) := by
  have hn := hB.2.2.2.2.2.1
  refine sw_p 2 (f' := (2, [some (2, 0), some (0, t)], [(0, t), (2, 0)])) rfl ?_
  refine sw_lt1 (pt := 13) (pn := 5) rfl rfl rfl (by omega) (fun h1 => ?_) (fun h1 => ?_)
  · skip
    refine sw_p 2 (f' := (18, [some (2, 0), some (0, t)], [(0, 1), (2, 0)])) rfl ?_
    refine sw_pI (pn := 21) (i := 0) rfl rfl rfl rfl rfl (by omega) hs.1 ?_
    refine sw_p 1 (f' := (22, [some (2, 0), some (0, t)], [(2, 0)])) rfl ?_
    refine sw_gI (pn := 25) (i := 0) rfl rfl rfl rfl rfl (by omega) hs.1 ?_
    rw [show (mm_u ν 0 0 1) 0 0 = 1 from mm_u_at]
    refine sw_le1 (pt := 32) (pn := 28) rfl rfl rfl (by omega) (fun h => absurd h (by decide)) (fun _ => ?_)
    refine sw_p 2 (f' := (38, [some (2, 0), some (0, t)], [(1, 0)])) rfl ?_
    exact sw_retL rfl rfl rfl ⟨by first | rfl | (exfalso; omega), rfl, by first | rfl | (exfalso; omega)⟩
  · skip
    refine sw_p 2 (f' := (7, [some (2, 0), some (0, t)], [(2, 0), (0, t), (2, 0)])) rfl ?_
    refine sw_gI (pn := 10) (i := 24) rfl rfl rfl rfl rfl (by omega) hs.1 ?_
    refine sw_lt2 (pt := 17) (pn := 13) rfl rfl rfl (by omega) (by omega) (fun h3 => ?_) (fun h3 => ?_)
    · skip
      refine sw_p 1 (f' := (18, [some (2, 0), some (0, t)], [(0, 0), (2, 0)])) rfl ?_
      refine sw_pI (pn := 21) (i := 0) rfl rfl rfl rfl rfl (by omega) hs.1 ?_
      refine sw_p 1 (f' := (22, [some (2, 0), some (0, t)], [(2, 0)])) rfl ?_
      refine sw_gI (pn := 25) (i := 0) rfl rfl rfl rfl rfl (by omega) hs.1 ?_
      rw [show (mm_u ν 0 0 0) 0 0 = 0 from mm_u_at]
      refine sw_le1 (pt := 32) (pn := 28) rfl rfl rfl (by omega) (fun _ => ?_) (fun h => absurd h (by decide))
      refine sw_p 1 (f' := (33, [some (2, 0), some (0, t)], [(2, 0)])) rfl ?_
      refine sw_hA (pn := 36) (i := 28) (v := 28) rfl rfl rfl rfl rfl hs.1 (mo_s28 hs).1 (by omega) ?_
      refine sw_p 1 (f' := (37, [some (2, 0), some (0, t)], [(0, t), (2, 28)])) rfl ?_
      refine sw_lal (pn := 38) (l := 512) rfl rfl (by omega) (mo_s28 hs).2.1 (mo_s28 hs).2.2 (by omega) (by omega) ?_
      rw [show (mm_u ν 0 0 0) 28 t = ν 28 t from mm_u_ne (by omega)]
      exact sw_retL rfl rfl rfl ⟨by first | rfl | (exfalso; omega), rfl, by first | rfl | (exfalso; omega)⟩
    · skip
      refine sw_p 2 (f' := (18, [some (2, 0), some (0, t)], [(0, 1), (2, 0)])) rfl ?_
      refine sw_pI (pn := 21) (i := 0) rfl rfl rfl rfl rfl (by omega) hs.1 ?_
      refine sw_p 1 (f' := (22, [some (2, 0), some (0, t)], [(2, 0)])) rfl ?_
      refine sw_gI (pn := 25) (i := 0) rfl rfl rfl rfl rfl (by omega) hs.1 ?_
      rw [show (mm_u ν 0 0 1) 0 0 = 1 from mm_u_at]
      refine sw_le1 (pt := 32) (pn := 28) rfl rfl rfl (by omega) (fun h => absurd h (by decide)) (fun _ => ?_)
      refine sw_p 2 (f' := (38, [some (2, 0), some (0, t)], [(1, 0)])) rfl ?_
      exact sw_retL rfl rfl rfl ⟨by first | rfl | (exfalso; omega), rfl, by first | rfl | (exfalso; omega)⟩
theorem mo_result_0 (hs : mo_sh s) (hB : mo_B ν) (ht : -2147483648 ≤ t ∧ t < 2147483648) (h0 : ¬ (0 ≤ t ∧ t < ν 0 24)) : sw_w E (d + 1) 119 (0, [some (2, 0), some (0, t)], []) s ν (sw_is (some (1, 0)) s (mo_cd ν 1)) := by
  have hn := hB.2.2.2.2.2.1
  refine sw_p 2 (f' := (2, [some (2, 0), some (0, t)], [(0, t), (2, 0)])) rfl ?_
  refine sw_lt1 (pt := 13) (pn := 5) rfl rfl rfl (by omega) (fun h1 => ?_) (fun h1 => ?_)
  · skip
    refine sw_p 2 (f' := (18, [some (2, 0), some (0, t)], [(0, 1), (2, 0)])) rfl ?_
    refine sw_pI (pn := 21) (i := 0) rfl rfl rfl rfl rfl (by omega) hs.1 ?_
    refine sw_p 1 (f' := (22, [some (2, 0), some (0, t)], [(2, 0)])) rfl ?_
    refine sw_gI (pn := 25) (i := 0) rfl rfl rfl rfl rfl (by omega) hs.1 ?_
    rw [show (mm_u ν 0 0 1) 0 0 = 1 from mm_u_at]
    refine sw_le1 (pt := 32) (pn := 28) rfl rfl rfl (by omega) (fun h => absurd h (by decide)) (fun _ => ?_)
    refine sw_p 2 (f' := (38, [some (2, 0), some (0, t)], [(1, 0)])) rfl ?_
    exact sw_retL rfl rfl rfl ⟨by first | rfl | (exfalso; omega), rfl, by first | rfl | (exfalso; omega)⟩
  · skip
    refine sw_p 2 (f' := (7, [some (2, 0), some (0, t)], [(2, 0), (0, t), (2, 0)])) rfl ?_
    refine sw_gI (pn := 10) (i := 24) rfl rfl rfl rfl rfl (by omega) hs.1 ?_
    refine sw_lt2 (pt := 17) (pn := 13) rfl rfl rfl (by omega) (by omega) (fun h3 => ?_) (fun h3 => ?_)
    · skip
      refine sw_p 1 (f' := (18, [some (2, 0), some (0, t)], [(0, 0), (2, 0)])) rfl ?_
      refine sw_pI (pn := 21) (i := 0) rfl rfl rfl rfl rfl (by omega) hs.1 ?_
      refine sw_p 1 (f' := (22, [some (2, 0), some (0, t)], [(2, 0)])) rfl ?_
      refine sw_gI (pn := 25) (i := 0) rfl rfl rfl rfl rfl (by omega) hs.1 ?_
      rw [show (mm_u ν 0 0 0) 0 0 = 0 from mm_u_at]
      refine sw_le1 (pt := 32) (pn := 28) rfl rfl rfl (by omega) (fun _ => ?_) (fun h => absurd h (by decide))
      refine sw_p 1 (f' := (33, [some (2, 0), some (0, t)], [(2, 0)])) rfl ?_
      refine sw_hA (pn := 36) (i := 28) (v := 28) rfl rfl rfl rfl rfl hs.1 (mo_s28 hs).1 (by omega) ?_
      refine sw_p 1 (f' := (37, [some (2, 0), some (0, t)], [(0, t), (2, 28)])) rfl ?_
      refine sw_lal (pn := 38) (l := 512) rfl rfl (by omega) (mo_s28 hs).2.1 (mo_s28 hs).2.2 (by omega) (by omega) ?_
      rw [show (mm_u ν 0 0 0) 28 t = ν 28 t from mm_u_ne (by omega)]
      exact sw_retL rfl rfl rfl ⟨by first | rfl | (exfalso; omega), rfl, by first | rfl | (exfalso; omega)⟩
    · skip
      refine sw_p 2 (f' := (18, [some (2, 0), some (0, t)], [(0, 1), (2, 0)])) rfl ?_
      refine sw_pI (pn := 21) (i := 0) rfl rfl rfl rfl rfl (by omega) hs.1 ?_
      refine sw_p 1 (f' := (22, [some (2, 0), some (0, t)], [(2, 0)])) rfl ?_
      refine sw_gI (pn := 25) (i := 0) rfl rfl rfl rfl rfl (by omega) hs.1 ?_
      rw [show (mm_u ν 0 0 1) 0 0 = 1 from mm_u_at]
      refine sw_le1 (pt := 32) (pn := 28) rfl rfl rfl (by omega) (fun h => absurd h (by decide)) (fun _ => ?_)
      refine sw_p 2 (f' := (38, [some (2, 0), some (0, t)], [(1, 0)])) rfl ?_
      exact sw_retL rfl rfl rfl ⟨by first | rfl | (exfalso; omega), rfl, by first | rfl | (exfalso; omega)⟩
theorem mo_power_1 (hs : mo_sh s) (hB : mo_B ν) (hb : 0 ≤ b ∧ b < ν 0 1) : sw_w E (d + 2) 124 (0, [some (2, 0), some (0, b)], []) s ν (sw_is (some (0, mo_pw (mo_cd ν 0) b)) s (mo_cd ν 0)) := by
  have hn := hB.1
  refine sw_p 3 (f' := (3, [some (2, 0), some (0, b)], [(0, b), (2, 0), (2, 0)])) rfl ?_
  refine sw_cv1 (pn := 6) (q0 := mj_Mo_power) (q := mj_Mo_isBridge) (p := 0) (as2 := [(0, b)]) (L2 := [some (2, 0), some (0, b)]) (rest := [(2, 0)]) (v := some (0, 1)) (s1 := s) (ν1 := ν) rfl rfl rfl rfl rfl rfl rfl rfl rfl hs.1 (mo_isB1 hs hB (by omega)) ?_
  show sw_w E _ 124 (6, [some (2, 0), some (0, b)], [(0, 1), (2, 0)]) s ν _
  refine sw_eq1 (pt := 13) (pn := 9) rfl rfl rfl (by omega) (fun h => absurd h (by decide)) (fun _ => ?_)
  refine sw_p 2 (f' := (14, [some (2, 0), some (0, b)], [(0, 0), (2, 0)])) rfl ?_
  refine sw_pI (pn := 17) (i := 0) rfl rfl rfl rfl rfl (by omega) hs.1 ?_
  refine sw_p 1 (f' := (18, [some (2, 0), some (0, b)], [(2, 0)])) rfl ?_
  refine sw_gI (pn := 21) (i := 0) rfl rfl rfl rfl rfl (by omega) hs.1 ?_
  rw [show (mm_u ν 0 0 0) 0 0 = 0 from mm_u_at]
  refine sw_le1 (pt := 28) (pn := 24) rfl rfl rfl (by omega) (fun _ => ?_) (fun h => absurd h (by decide))
  refine sw_p 2 (f' := (30, [some (2, 0), some (0, b)], [(0, b), (2, 0)])) rfl ?_
  refine sw_cv1 (pn := 33) (q0 := mj_Mo_power) (q := mj_Mo_powerOf) (p := 0) (as2 := [(0, b)]) (L2 := [some (2, 0), some (0, b), none, none]) (rest := []) (v := some (0, mo_pw (mo_cd ν 0) b)) (s1 := s) (ν1 := (mm_u ν 0 0 0)) rfl rfl rfl rfl rfl rfl rfl rfl rfl hs.1 (mo_powerOf hs (mo_B_cd hB) (by omega)) ?_
  show sw_w E _ 124 (33, [some (2, 0), some (0, b)], [(0, mo_pw (mo_cd ν 0) b)]) s (mm_u ν 0 0 0) _
  exact sw_retI rfl rfl rfl ⟨rfl, rfl, rfl⟩
theorem mo_power_0 (hs : mo_sh s) (hB : mo_B ν) (hb : -2147483648 ≤ b ∧ b < 2147483648) (h0 : ¬ (0 ≤ b ∧ b < ν 0 1)) : sw_w E (d + 1) 124 (0, [some (2, 0), some (0, b)], []) s ν (sw_is (some (0, 0)) s (mo_cd ν 1)) := by
  have hn := hB.1
  refine sw_p 3 (f' := (3, [some (2, 0), some (0, b)], [(0, b), (2, 0), (2, 0)])) rfl ?_
  refine sw_cv1 (pn := 6) (q0 := mj_Mo_power) (q := mj_Mo_isBridge) (p := 0) (as2 := [(0, b)]) (L2 := [some (2, 0), some (0, b)]) (rest := [(2, 0)]) (v := some (0, 0)) (s1 := s) (ν1 := ν) rfl rfl rfl rfl rfl rfl rfl rfl rfl hs.1 (mo_isB0 hs hB (by omega) (by omega)) ?_
  show sw_w E _ 124 (6, [some (2, 0), some (0, b)], [(0, 0), (2, 0)]) s ν _
  refine sw_eq1 (pt := 13) (pn := 9) rfl rfl rfl (by omega) (fun _ => ?_) (fun h => absurd h (by decide))
  refine sw_p 1 (f' := (14, [some (2, 0), some (0, b)], [(0, 1), (2, 0)])) rfl ?_
  refine sw_pI (pn := 17) (i := 0) rfl rfl rfl rfl rfl (by omega) hs.1 ?_
  refine sw_p 1 (f' := (18, [some (2, 0), some (0, b)], [(2, 0)])) rfl ?_
  refine sw_gI (pn := 21) (i := 0) rfl rfl rfl rfl rfl (by omega) hs.1 ?_
  rw [show (mm_u ν 0 0 1) 0 0 = 1 from mm_u_at]
  refine sw_le1 (pt := 28) (pn := 24) rfl rfl rfl (by omega) (fun h => absurd h (by decide)) (fun _ => ?_)
  refine sw_p 2 (f' := (33, [some (2, 0), some (0, b)], [(0, 0)])) rfl ?_
  exact sw_retI rfl rfl rfl ⟨rfl, rfl, rfl⟩
theorem mo_card_1 (hs : mo_sh s) (hB : mo_B ν) (hc : 0 ≤ c ∧ c < ν 0 12) (hx : 0 ≤ x ∧ x ≤ 3) : sw_w E (d + 1) 120 (0, [some (2, 0), some (0, c), some (0, x)], []) s ν (sw_is (some (0, if x = 0 then ν 15 c else if x = 1 then ν 16 c else if x = 2 then mo_wt (mo_cd ν 0) c else ν 19 c)) s (mo_cd ν 0)) := by
  have hn := hB.2.2.1
  refine sw_p 3 (f' := (3, [some (2, 0), some (0, c), some (0, x)], [(0, c), (2, 0), (2, 0)])) rfl ?_
  refine sw_cv1 (pn := 6) (q0 := mj_Mo_card) (q := mj_Mo_isCard) (p := 0) (as2 := [(0, c)]) (L2 := [some (2, 0), some (0, c)]) (rest := [(2, 0)]) (v := some (0, 1)) (s1 := s) (ν1 := ν) rfl rfl rfl rfl rfl rfl rfl rfl rfl hs.1 (mo_isC1 hs hB (by omega)) ?_
  show sw_w E _ 120 (6, [some (2, 0), some (0, c), some (0, x)], [(0, 1), (2, 0)]) s ν _
  refine sw_eq1 (pt := 22) (pn := 9) rfl rfl rfl (by omega) (fun h => absurd h (by decide)) (fun _ => ?_)
  refine sw_p 3 (f' := (12, [some (2, 0), some (0, c), some (0, x)], [(0, 3), (0, 0), (0, x), (2, 0)])) rfl ?_
  refine sw_cs1 (pn := 15) (q0 := mj_Mo_card) (q := mj_Mo_within) (L2 := [some (0, x), some (0, 0), some (0, 3)]) (rest := [(2, 0)]) (v := some (0, 1)) (s1 := s) (ν1 := ν) rfl rfl rfl rfl rfl rfl rfl rfl (mo_in1 (by omega) (by omega) (by omega) (by omega)) ?_
  show sw_w E _ 120 (15, [some (2, 0), some (0, c), some (0, x)], [(0, 1), (2, 0)]) s ν _
  refine sw_eq1 (pt := 22) (pn := 18) rfl rfl rfl (by omega) (fun h => absurd h (by decide)) (fun _ => ?_)
  refine sw_p 2 (f' := (23, [some (2, 0), some (0, c), some (0, x)], [(0, 0), (2, 0)])) rfl ?_
  refine sw_pI (pn := 26) (i := 0) rfl rfl rfl rfl rfl (by omega) hs.1 ?_
  refine sw_p 1 (f' := (27, [some (2, 0), some (0, c), some (0, x)], [(2, 0)])) rfl ?_
  refine sw_gI (pn := 30) (i := 0) rfl rfl rfl rfl rfl (by omega) hs.1 ?_
  rw [show (mm_u ν 0 0 0) 0 0 = 0 from mm_u_at]
  refine sw_le1 (pt := 35) (pn := 33) rfl rfl rfl (by omega) (fun _ => ?_) (fun h => absurd h (by decide))
  refine sw_p 1 (f' := (36, [some (2, 0), some (0, c), some (0, x)], [(0, x)])) rfl ?_
  refine sw_ne1 (pt := 48) (pn := 39) rfl rfl rfl (by omega) (fun h4 => ?_) (fun h4 => ?_)
  · skip
    refine sw_p 2 (f' := (50, [some (2, 0), some (0, c), some (0, x)], [(0, 1), (0, x)])) rfl ?_
    refine sw_ne2 (pt := 62) (pn := 53) rfl rfl rfl (by omega) (by omega) (fun h5 => ?_) (fun h5 => ?_)
    · skip
      refine sw_p 2 (f' := (64, [some (2, 0), some (0, c), some (0, x)], [(0, 2), (0, x)])) rfl ?_
      refine sw_ne2 (pt := 75) (pn := 67) rfl rfl rfl (by omega) (by omega) (fun h6 => ?_) (fun h6 => ?_)
      · skip
        refine sw_p 1 (f' := (76, [some (2, 0), some (0, c), some (0, x)], [(2, 0)])) rfl ?_
        refine sw_hA (pn := 79) (i := 19) (v := 19) rfl rfl rfl rfl rfl hs.1 (mo_s19 hs).1 (by omega) ?_
        refine sw_p 1 (f' := (80, [some (2, 0), some (0, c), some (0, x)], [(0, c), (2, 19)])) rfl ?_
        refine sw_ial (pn := 81) (l := 40) rfl rfl (by omega) (mo_s19 hs).2.1 (mo_s19 hs).2.2 (by omega) (by omega) ?_
        rw [show (mm_u ν 0 0 0) 19 c = ν 19 c from mm_u_ne (by omega)]
        exact sw_retI rfl rfl rfl ⟨by first | rw [if_pos (by omega)] | rw [if_neg (by omega), if_pos (by omega)] | rw [if_neg (by omega), if_neg (by omega), if_pos (by omega)] | rw [if_neg (by omega), if_neg (by omega), if_neg (by omega)], rfl, rfl⟩
      · skip
        refine sw_p 2 (f' := (69, [some (2, 0), some (0, c), some (0, x)], [(0, c), (2, 0)])) rfl ?_
        refine sw_cv1 (pn := 72) (q0 := mj_Mo_card) (q := mj_Mo_waiting) (p := 0) (as2 := [(0, c)]) (L2 := [some (2, 0), some (0, c), none, none]) (rest := []) (v := some (0, mo_wt (mo_cd ν 0) c)) (s1 := s) (ν1 := (mm_u ν 0 0 0)) rfl rfl rfl rfl rfl rfl rfl rfl rfl hs.1 (mo_waiting hs (mo_B_cd hB) (by omega)) ?_
        show sw_w E _ 120 (72, [some (2, 0), some (0, c), some (0, x)], [(0, mo_wt (mo_cd ν 0) c)]) s (mm_u ν 0 0 0) _
        refine sw_p 1 (f' := (81, [some (2, 0), some (0, c), some (0, x)], [(0, mo_wt (mo_cd ν 0) c)])) rfl ?_
        exact sw_retI rfl rfl rfl ⟨by first | rw [if_pos (by omega)] | rw [if_neg (by omega), if_pos (by omega)] | rw [if_neg (by omega), if_neg (by omega), if_pos (by omega)] | rw [if_neg (by omega), if_neg (by omega), if_neg (by omega)], rfl, rfl⟩
    · skip
      refine sw_p 1 (f' := (54, [some (2, 0), some (0, c), some (0, x)], [(2, 0)])) rfl ?_
      refine sw_hA (pn := 57) (i := 16) (v := 16) rfl rfl rfl rfl rfl hs.1 (mo_s16 hs).1 (by omega) ?_
      refine sw_p 1 (f' := (58, [some (2, 0), some (0, c), some (0, x)], [(0, c), (2, 16)])) rfl ?_
      refine sw_ial (pn := 59) (l := 40) rfl rfl (by omega) (mo_s16 hs).2.1 (mo_s16 hs).2.2 (by omega) (by omega) ?_
      rw [show (mm_u ν 0 0 0) 16 c = ν 16 c from mm_u_ne (by omega)]
      refine sw_p 1 (f' := (81, [some (2, 0), some (0, c), some (0, x)], [(0, ν 16 c)])) rfl ?_
      exact sw_retI rfl rfl rfl ⟨by first | rw [if_pos (by omega)] | rw [if_neg (by omega), if_pos (by omega)] | rw [if_neg (by omega), if_neg (by omega), if_pos (by omega)] | rw [if_neg (by omega), if_neg (by omega), if_neg (by omega)], rfl, rfl⟩
  · skip
    refine sw_p 1 (f' := (40, [some (2, 0), some (0, c), some (0, x)], [(2, 0)])) rfl ?_
    refine sw_hA (pn := 43) (i := 15) (v := 15) rfl rfl rfl rfl rfl hs.1 (mo_s15 hs).1 (by omega) ?_
    refine sw_p 1 (f' := (44, [some (2, 0), some (0, c), some (0, x)], [(0, c), (2, 15)])) rfl ?_
    refine sw_ial (pn := 45) (l := 40) rfl rfl (by omega) (mo_s15 hs).2.1 (mo_s15 hs).2.2 (by omega) (by omega) ?_
    rw [show (mm_u ν 0 0 0) 15 c = ν 15 c from mm_u_ne (by omega)]
    refine sw_p 1 (f' := (81, [some (2, 0), some (0, c), some (0, x)], [(0, ν 15 c)])) rfl ?_
    exact sw_retI rfl rfl rfl ⟨by first | rw [if_pos (by omega)] | rw [if_neg (by omega), if_pos (by omega)] | rw [if_neg (by omega), if_neg (by omega), if_pos (by omega)] | rw [if_neg (by omega), if_neg (by omega), if_neg (by omega)], rfl, rfl⟩
theorem mo_card_0 (hs : mo_sh s) (hB : mo_B ν) (hc : -2147483648 ≤ c ∧ c < 2147483648) (hx : -2147483648 ≤ x ∧ x < 2147483648) (h0 : ¬ (0 ≤ c ∧ c < ν 0 12)) : sw_w E (d + 1) 120 (0, [some (2, 0), some (0, c), some (0, x)], []) s ν (sw_is (some (0, 0)) s (mo_cd ν 1)) := by
  have hn := hB.2.2.1
  refine sw_p 3 (f' := (3, [some (2, 0), some (0, c), some (0, x)], [(0, c), (2, 0), (2, 0)])) rfl ?_
  refine sw_cv1 (pn := 6) (q0 := mj_Mo_card) (q := mj_Mo_isCard) (p := 0) (as2 := [(0, c)]) (L2 := [some (2, 0), some (0, c)]) (rest := [(2, 0)]) (v := some (0, 0)) (s1 := s) (ν1 := ν) rfl rfl rfl rfl rfl rfl rfl rfl rfl hs.1 (mo_isC0 hs hB (by omega) (by omega)) ?_
  show sw_w E _ 120 (6, [some (2, 0), some (0, c), some (0, x)], [(0, 0), (2, 0)]) s ν _
  refine sw_eq1 (pt := 22) (pn := 9) rfl rfl rfl (by omega) (fun _ => ?_) (fun h => absurd h (by decide))
  refine sw_p 1 (f' := (23, [some (2, 0), some (0, c), some (0, x)], [(0, 1), (2, 0)])) rfl ?_
  refine sw_pI (pn := 26) (i := 0) rfl rfl rfl rfl rfl (by omega) hs.1 ?_
  refine sw_p 1 (f' := (27, [some (2, 0), some (0, c), some (0, x)], [(2, 0)])) rfl ?_
  refine sw_gI (pn := 30) (i := 0) rfl rfl rfl rfl rfl (by omega) hs.1 ?_
  rw [show (mm_u ν 0 0 1) 0 0 = 1 from mm_u_at]
  refine sw_le1 (pt := 35) (pn := 33) rfl rfl rfl (by omega) (fun h => absurd h (by decide)) (fun _ => ?_)
  refine sw_p 1 (f' := (34, [some (2, 0), some (0, c), some (0, x)], [(0, 0)])) rfl ?_
  exact sw_retI rfl rfl rfl ⟨rfl, rfl, rfl⟩
theorem mo_card_2 (hs : mo_sh s) (hB : mo_B ν) (hx : -2147483648 ≤ x ∧ x < 2147483648) (hc : 0 ≤ c ∧ c < ν 0 12) (h0 : ¬ (0 ≤ x ∧ x ≤ 3)) : sw_w E (d + 1) 120 (0, [some (2, 0), some (0, c), some (0, x)], []) s ν (sw_is (some (0, 0)) s (mo_cd ν 1)) := by
  have hn := hB.2.2.1
  refine sw_p 3 (f' := (3, [some (2, 0), some (0, c), some (0, x)], [(0, c), (2, 0), (2, 0)])) rfl ?_
  refine sw_cv1 (pn := 6) (q0 := mj_Mo_card) (q := mj_Mo_isCard) (p := 0) (as2 := [(0, c)]) (L2 := [some (2, 0), some (0, c)]) (rest := [(2, 0)]) (v := some (0, 1)) (s1 := s) (ν1 := ν) rfl rfl rfl rfl rfl rfl rfl rfl rfl hs.1 (mo_isC1 hs hB (by omega)) ?_
  show sw_w E _ 120 (6, [some (2, 0), some (0, c), some (0, x)], [(0, 1), (2, 0)]) s ν _
  refine sw_eq1 (pt := 22) (pn := 9) rfl rfl rfl (by omega) (fun h => absurd h (by decide)) (fun _ => ?_)
  refine sw_p 3 (f' := (12, [some (2, 0), some (0, c), some (0, x)], [(0, 3), (0, 0), (0, x), (2, 0)])) rfl ?_
  refine sw_cs1 (pn := 15) (q0 := mj_Mo_card) (q := mj_Mo_within) (L2 := [some (0, x), some (0, 0), some (0, 3)]) (rest := [(2, 0)]) (v := some (0, 0)) (s1 := s) (ν1 := ν) rfl rfl rfl rfl rfl rfl rfl rfl (mo_in0 (by omega) (by omega) (by omega) (by omega)) ?_
  show sw_w E _ 120 (15, [some (2, 0), some (0, c), some (0, x)], [(0, 0), (2, 0)]) s ν _
  refine sw_eq1 (pt := 22) (pn := 18) rfl rfl rfl (by omega) (fun _ => ?_) (fun h => absurd h (by decide))
  refine sw_p 1 (f' := (23, [some (2, 0), some (0, c), some (0, x)], [(0, 1), (2, 0)])) rfl ?_
  refine sw_pI (pn := 26) (i := 0) rfl rfl rfl rfl rfl (by omega) hs.1 ?_
  refine sw_p 1 (f' := (27, [some (2, 0), some (0, c), some (0, x)], [(2, 0)])) rfl ?_
  refine sw_gI (pn := 30) (i := 0) rfl rfl rfl rfl rfl (by omega) hs.1 ?_
  rw [show (mm_u ν 0 0 1) 0 0 = 1 from mm_u_at]
  refine sw_le1 (pt := 35) (pn := 33) rfl rfl rfl (by omega) (fun h => absurd h (by decide)) (fun _ => ?_)
  refine sw_p 1 (f' := (34, [some (2, 0), some (0, c), some (0, x)], [(0, 0)])) rfl ?_
  exact sw_retI rfl rfl rfl ⟨rfl, rfl, rfl⟩
end MO6
