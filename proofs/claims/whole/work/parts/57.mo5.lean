/-! the reference: a card taken out; short public methods -/
section MO5
variable {E : mv_E} {s ν : mm_T} {d : Nat} {b c r x y w p f g k t : Int}
theorem mo_rm2_s : mo_rm2 ν c y 2 k = ν 2 k := by
  unfold mo_rm2 mo_rm1
  rw [rg_ne (by omega), mm_u_ne (by omega), mm_u_ne (by omega)]
theorem mo_rm3_0 : mo_rm3 ν c y 0 k = ν 0 k := by
  unfold mo_rm3 mo_rm2 mo_rm1
  rw [rg_ne (by omega), rg_ne (by omega), mm_u_ne (by omega), mm_u_ne (by omega)]
theorem mo_remove_2 (hs : mo_sh s) (hB : mo_B ν) (hc : 0 ≤ c ∧ c < 40) (hy : 0 ≤ y ∧ y ≤ 5) : ∀ (m : Nat) (i : Int), 0 ≤ i → i + m = 32 → sw_w E d 91 (40, [some (2, 0), some (0, c), some (0, y), some (0, i)], []) s (rg_m (mo_rm2 ν c y) 2 0 i (fun k => if ν 2 k = 100 + c then -1 else ν 2 k)) (sw_is none s (mo_rm ν c y)) := by
  intro m
  induction m with
  | zero =>
    intro i hi him
    have h12 := hB.2.2.1
    have h21 := hB.2.2.2.1
    rw [show rg_m (mo_rm2 ν c y) 2 0 i (fun k => if ν 2 k = 100 + c then -1 else ν 2 k) = mo_rm3 ν c y by rw [show i = 32 by omega]; rfl]
    refine sw_p 2 (f' := (43, [some (2, 0), some (0, c), some (0, y), some (0, i)], [(0, 32), (0, i)])) rfl ?_
    refine sw_ge2 (pt := 81) (pn := 46) rfl rfl rfl (by omega) (by omega) (fun h1 => ?_) (fun h1 => ?_)
    · skip
      refine sw_p 2 (f' := (83, [some (2, 0), some (0, c), some (0, y), some (0, i)], [(2, 0), (2, 0)])) rfl ?_
      refine sw_gI (pn := 86) (i := 21) rfl rfl rfl rfl rfl (by omega) hs.1 ?_
      rw [show (mo_rm3 ν c y) 0 21 = ν 0 21 from mo_rm3_0]
      refine sw_p 1 (f' := (87, [some (2, 0), some (0, c), some (0, y), some (0, i)], [(0, c), (0, ν 0 21), (2, 0)])) rfl ?_
      refine sw_ne2 (pt := 94) (pn := 90) rfl rfl rfl (by omega) (by omega) (fun h2 => ?_) (fun h2 => ?_)
      · skip
        refine sw_p 1 (f' := (95, [some (2, 0), some (0, c), some (0, y), some (0, i)], [(2, 0), (2, 0)])) rfl ?_
        refine sw_gI (pn := 98) (i := 21) rfl rfl rfl rfl rfl (by omega) hs.1 ?_
        rw [show (mo_rm3 ν c y) 0 21 = ν 0 21 from mo_rm3_0]
        refine sw_pI (pn := 101) (i := 21) rfl rfl rfl rfl rfl (by omega) hs.1 ?_
        exact sw_retV rfl rfl rfl ⟨rfl, rfl, by unfold mo_rm; rw [if_neg (by omega)]⟩
      · skip
        refine sw_p 2 (f' := (98, [some (2, 0), some (0, c), some (0, y), some (0, i)], [(0, -1), (2, 0)])) rfl ?_
        refine sw_pI (pn := 101) (i := 21) rfl rfl rfl rfl rfl (by omega) hs.1 ?_
        exact sw_retV rfl rfl rfl ⟨rfl, rfl, by unfold mo_rm; rw [if_pos (by omega)]⟩
    · skip
      omega
  | succ m ih =>
    intro i hi him
    have hsl := hB.2.2.2.2.2.2.2.1 i hi (by omega)
    refine sw_p 2 (f' := (43, [some (2, 0), some (0, c), some (0, y), some (0, i)], [(0, 32), (0, i)])) rfl ?_
    refine sw_ge2 (pt := 81) (pn := 46) rfl rfl rfl (by omega) (by omega) (fun h1 => ?_) (fun h1 => ?_)
    · skip
      omega
    · skip
      refine sw_p 1 (f' := (47, [some (2, 0), some (0, c), some (0, y), some (0, i)], [(2, 0)])) rfl ?_
      refine sw_hA (pn := 50) (i := 2) (v := 2) rfl rfl rfl rfl rfl hs.1 (mo_s2 hs).1 (by omega) ?_
      refine sw_p 2 (f' := (52, [some (2, 0), some (0, c), some (0, y), some (0, i)], [(2, 0), (0, i), (2, 2)])) rfl ?_
      refine sw_hA (pn := 55) (i := 2) (v := 2) rfl rfl rfl rfl rfl hs.1 (mo_s2 hs).1 (by omega) ?_
      refine sw_p 1 (f' := (56, [some (2, 0), some (0, c), some (0, y), some (0, i)], [(0, i), (2, 2), (0, i), (2, 2)])) rfl ?_
      refine sw_ial (pn := 57) (l := 32) rfl rfl (by omega) (mo_s2 hs).2.1 (mo_s2 hs).2.2 (by omega) (by omega) ?_
      rw [show (rg_m (mo_rm2 ν c y) 2 0 i (fun k => if ν 2 k = 100 + c then -1 else ν 2 k)) 2 i = ν 2 i from (rg_ne (by omega)).trans mo_rm2_s]
      refine sw_p 3 (f' := (61, [some (2, 0), some (0, c), some (0, y), some (0, i)], [(0, 100 + c), (0, ν 2 i), (0, i), (2, 2)])) rfl ?_
      refine sw_ne2 (pt := 68) (pn := 64) rfl rfl rfl (by omega) (by omega) (fun h2 => ?_) (fun h2 => ?_)
      · skip
        refine sw_p 1 (f' := (69, [some (2, 0), some (0, c), some (0, y), some (0, i)], [(2, 0), (0, i), (2, 2)])) rfl ?_
        refine sw_hA (pn := 72) (i := 2) (v := 2) rfl rfl rfl rfl rfl hs.1 (mo_s2 hs).1 (by omega) ?_
        refine sw_p 1 (f' := (73, [some (2, 0), some (0, c), some (0, y), some (0, i)], [(0, i), (2, 2), (0, i), (2, 2)])) rfl ?_
        refine sw_ial (pn := 74) (l := 32) rfl rfl (by omega) (mo_s2 hs).2.1 (mo_s2 hs).2.2 (by omega) (by omega) ?_
        rw [show (rg_m (mo_rm2 ν c y) 2 0 i (fun k => if ν 2 k = 100 + c then -1 else ν 2 k)) 2 i = ν 2 i from (rg_ne (by omega)).trans mo_rm2_s]
        refine sw_ias (pn := 75) (l := 32) rfl rfl (by omega) (mo_s2 hs).2.1 (mo_s2 hs).2.2 (by omega) (by omega) ?_
        refine sw_p 2 (f' := (40, [some (2, 0), some (0, c), some (0, y), some (0, i + 1)], [])) rfl ?_
        rw [rg_u (by omega) (by rw [if_neg (by omega)])]
        exact ih (i + 1) (by omega) (by omega)
      · skip
        refine sw_p 2 (f' := (74, [some (2, 0), some (0, c), some (0, y), some (0, i)], [(0, -1), (0, i), (2, 2)])) rfl ?_
        refine sw_ias (pn := 75) (l := 32) rfl rfl (by omega) (mo_s2 hs).2.1 (mo_s2 hs).2.2 (by omega) (by omega) ?_
        refine sw_p 2 (f' := (40, [some (2, 0), some (0, c), some (0, y), some (0, i + 1)], [])) rfl ?_
        rw [rg_u (by omega) (by rw [if_pos (by omega)])]
        exact ih (i + 1) (by omega) (by omega)
theorem mo_remove_1 (hs : mo_sh s) (hB : mo_B ν) (hc : 0 ≤ c ∧ c < 40) (hy : 0 ≤ y ∧ y ≤ 5) : ∀ (m : Nat) (i : Int), 0 ≤ i → i + m = 3 → sw_w E d 91 (16, [some (2, 0), some (0, c), some (0, y), some (0, i)], []) s (rg_m (mo_rm1 ν c y) 17 (3 * c) (3 * c + i) (fun _ => -1)) (sw_is none s (mo_rm ν c y)) := by
  intro m
  induction m with
  | zero =>
    intro i hi him
    rw [show (rg_m (mo_rm1 ν c y) 17 (3 * c) (3 * c + i) (fun _ => -1)) = mo_rm2 ν c y by rw [show i = 3 by omega]; rfl]
    refine sw_p 2 (f' := (18, [some (2, 0), some (0, c), some (0, y), some (0, i)], [(0, 3), (0, i)])) rfl ?_
    refine sw_ge2 (pt := 38) (pn := 21) rfl rfl rfl (by omega) (by omega) (fun h1 => ?_) (fun h1 => ?_)
    · skip
      refine sw_p 2 (f' := (40, [some (2, 0), some (0, c), some (0, y), some (0, 0)], [])) rfl ?_
      have h := mo_remove_2 (E := E) (d := d) hs hB hc hy 32 0 (by omega) (by omega)
      rw [rg_0 (by omega)] at h
      exact h
    · skip
      omega
  | succ m ih =>
    intro i hi him
    refine sw_p 2 (f' := (18, [some (2, 0), some (0, c), some (0, y), some (0, i)], [(0, 3), (0, i)])) rfl ?_
    refine sw_ge2 (pt := 38) (pn := 21) rfl rfl rfl (by omega) (by omega) (fun h1 => ?_) (fun h1 => ?_)
    · skip
      omega
    · skip
      refine sw_p 1 (f' := (22, [some (2, 0), some (0, c), some (0, y), some (0, i)], [(2, 0)])) rfl ?_
      refine sw_hA (pn := 25) (i := 17) (v := 17) rfl rfl rfl rfl rfl hs.1 (mo_s17 hs).1 (by omega) ?_
      refine sw_p 6 (f' := (31, [some (2, 0), some (0, c), some (0, y), some (0, i)], [(0, -1), (0, (3 * c) + i), (2, 17)])) rfl ?_
      refine sw_ias (pn := 32) (l := 120) rfl rfl (by omega) (mo_s17 hs).2.1 (mo_s17 hs).2.2 (by omega) (by omega) ?_
      refine sw_p 2 (f' := (16, [some (2, 0), some (0, c), some (0, y), some (0, i + 1)], [])) rfl ?_
      rw [rg_u (g := fun _ => -1) (by omega) rfl, show 3 * c + i + 1 = 3 * c + (i + 1) by omega]
      exact ih (i + 1) (by omega) (by omega)
theorem mo_remove (hs : mo_sh s) (hB : mo_B ν) (hc : 0 ≤ c ∧ c < 40) (hy : 0 ≤ y ∧ y ≤ 5) : sw_w E d 91 (0, [some (2, 0), some (0, c), some (0, y), none], []) s ν (sw_is none s (mo_rm ν c y)) := by
  refine sw_p 1 (f' := (1, [some (2, 0), some (0, c), some (0, y), none], [(2, 0)])) rfl ?_
  refine sw_hA (pn := 4) (i := 15) (v := 15) rfl rfl rfl rfl rfl hs.1 (mo_s15 hs).1 (by omega) ?_
  refine sw_p 2 (f' := (6, [some (2, 0), some (0, c), some (0, y), none], [(0, y), (0, c), (2, 15)])) rfl ?_
  refine sw_ias (pn := 7) (l := 40) rfl rfl (by omega) (mo_s15 hs).2.1 (mo_s15 hs).2.2 (by omega) (by omega) ?_
  refine sw_p 1 (f' := (8, [some (2, 0), some (0, c), some (0, y), none], [(2, 0)])) rfl ?_
  refine sw_hA (pn := 11) (i := 19) (v := 19) rfl rfl rfl rfl rfl hs.1 (mo_s19 hs).1 (by omega) ?_
  refine sw_p 2 (f' := (13, [some (2, 0), some (0, c), some (0, y), none], [(0, 0), (0, c), (2, 19)])) rfl ?_
  refine sw_ias (pn := 14) (l := 40) rfl rfl (by omega) (mo_s19 hs).2.1 (mo_s19 hs).2.2 (by omega) (by omega) ?_
  refine sw_p 2 (f' := (16, [some (2, 0), some (0, c), some (0, y), some (0, 0)], [])) rfl ?_
  have h := mo_remove_1 (E := E) (d := d) hs hB hc hy 3 0 (by omega) (by omega)
  rw [rg_0 (by omega)] at h
  exact h
theorem mo_movedp (hs : mo_sh s) (hB : mo_B ν)  : sw_w E (d + 1) 126 (0, [some (2, 0)], []) s ν (sw_is (some (0, ν 0 23)) s (mm_u ν 0 0 0)) := by
  refine sw_p 2 (f' := (2, [some (2, 0)], [(0, 0), (2, 0)])) rfl ?_
  refine sw_pI (pn := 5) (i := 0) rfl rfl rfl rfl rfl (by omega) hs.1 ?_
  refine sw_p 1 (f' := (6, [some (2, 0)], [(2, 0)])) rfl ?_
  refine sw_gI (pn := 9) (i := 23) rfl rfl rfl rfl rfl (by omega) hs.1 ?_
  rw [show (mm_u ν 0 0 0) 0 23 = ν 0 23 from mm_u_ne (by omega)]
  exact sw_retI rfl rfl rfl ⟨rfl, rfl, rfl⟩
end MO5
