/-! the class: the place in the smallest hole -/
def st_bg (ν : mm_T) (r x i : Int) : Int := if 0 < i then ν r (i - 1) else x
def st_en (ν : mm_T) (p q e i : Int) : Int := if i < ν p 2 then ν q i else e
def st_pl (ν : mm_T) (p q r z x e : Int) : Nat → Int → Int → Int → Int
  | 0, _, b, _ => b
  | n + 1, i, b, l => if st_bg ν r x i + (-st_bg ν r x i) % z + z ≤ st_en ν p q e i ∧ (b = -1 ∨ st_en ν p q e i - st_bg ν r x i < l) then st_pl ν p q r z x e n (i + 1) (st_bg ν r x i + (-st_bg ν r x i) % z) (st_en ν p q e i - st_bg ν r x i) else st_pl ν p q r z x e n (i + 1) b l
section ST3
variable {E : mv_E} {s ν : mm_T} {d : Nat} {x e z p q r b l i : Int}
theorem st_place_l (hs : st_sh s p q r) (hB : st_B ν p q r) (hz : st_pw z) (hx : 0 ≤ x ∧ x ≤ 4096) (he : 0 ≤ e ∧ e ≤ 4096) : ∀ (n : Nat) (i b l : Int) (o7 o8 o9 : Option mg_V), 0 ≤ i → i + n = ν p 2 + 1 → -1 ≤ b ∧ b ≤ 6000 → -5000 ≤ l ∧ l ≤ 5000 → sw_w E d 39 (9, [some (2, p), some (0, z), some (0, x), some (0, e), some (0, b), some (0, l), some (0, i), o7, o8, o9], []) s ν (sw_is (some (0, st_pl ν p q r z x e n i b l)) s ν) := by
  intro n
  induction n with
  | zero =>
    intro i b l o7 o8 o9 hi hn hb hl
    have hp := hs.1.1
    have hq := hs.2.1.2.1
    have hr := hs.2.2.2.1
    have hc := hB.1
    have hzb : 0 < z ∧ z ≤ 1024 := by unfold st_pw at hz; omega
    refine sw_p 2 (f' := (12, [some (2, p), some (0, z), some (0, x), some (0, e), some (0, b), some (0, l), some (0, i), o7, o8, o9], [(2, p), (0, i)])) rfl ?_
    refine sw_gI (pn := 15) (i := 2) rfl rfl rfl rfl rfl (by omega) hs.1.2 ?_
    refine sw_gt2 (pt := 113) (pn := 18) rfl rfl rfl (by omega) (by omega) (fun h1 => ?_) (fun h => absurd h (by omega))
    refine sw_p 1 (f' := (115, [some (2, p), some (0, z), some (0, x), some (0, e), some (0, b), some (0, l), some (0, i), o7, o8, o9], [(0, b)])) rfl ?_
    exact sw_retI rfl rfl rfl ⟨rfl, rfl, rfl⟩
  | succ n ih =>
    intro i b l o7 o8 o9 hi hn hb hl
    have hp := hs.1.1
    have hq := hs.2.1.2.1
    have hr := hs.2.2.2.1
    have hc := hB.1
    have hzb : 0 < z ∧ z ≤ 1024 := by unfold st_pw at hz; omega
    have hb1 := hB.2 i
    have hb0 := hB.2 (i - 1)
    have hmx := Int.emod_lt_of_pos (-x) hzb.1
    have hmx0 := Int.emod_nonneg (-x) (by omega : z ≠ 0)
    have hmr := Int.emod_lt_of_pos (-ν r (i - 1)) hzb.1
    have hmr0 := Int.emod_nonneg (-ν r (i - 1)) (by omega : z ≠ 0)
    refine sw_p 2 (f' := (12, [some (2, p), some (0, z), some (0, x), some (0, e), some (0, b), some (0, l), some (0, i), o7, o8, o9], [(2, p), (0, i)])) rfl ?_
    refine sw_gI (pn := 15) (i := 2) rfl rfl rfl rfl rfl (by omega) hs.1.2 ?_
    refine sw_gt2 (pt := 113) (pn := 18) rfl rfl rfl (by omega) (by omega) (fun h => absurd h (by omega)) (fun h1 => ?_)
    refine sw_p 1 (f' := (20, [some (2, p), some (0, z), some (0, x), some (0, e), some (0, b), some (0, l), some (0, i), o7, o8, o9], [(0, i)])) rfl ?_
    refine sw_le1 (pt := 35) (pn := 23) rfl rfl rfl (by omega) (fun h2 => ?_) (fun h2 => ?_)
    · skip
      refine sw_p 4 (f' := (41, [some (2, p), some (0, z), some (0, x), some (0, e), some (0, b), some (0, l), some (0, i), some (0, x), o8, o9], [(2, p), (0, i)])) rfl ?_
      refine sw_gI (pn := 44) (i := 2) rfl rfl rfl rfl rfl (by omega) hs.1.2 ?_
      refine sw_ge2 (pt := 57) (pn := 47) rfl rfl rfl (by omega) (by omega) (fun h3 => ?_) (fun h3 => ?_)
      · skip
        refine sw_p 9 (f' := (68, [some (2, p), some (0, z), some (0, x), some (0, e), some (0, b), some (0, l), some (0, i), some (0, x), some (0, e), o9], [(0, -z), (0, (x + z) - 1)])) rfl ?_
        refine sw_iand (pn := 69) (z := x + (-x) % z) rfl rfl (st_mask hz (by omega)) ?_
        refine sw_p 5 (f' := (77, [some (2, p), some (0, z), some (0, x), some (0, e), some (0, b), some (0, l), some (0, i), some (0, x), some (0, e), some (0, x + (-x) % z)], [(0, e), (0, (x + (-x) % z) + z)])) rfl ?_
        refine sw_gt2 (pt := 107) (pn := 80) rfl rfl rfl (by omega) (by omega) (fun h4 => ?_) (fun h4 => ?_)
        · skip
          refine sw_p 2 (f' := (9, [some (2, p), some (0, z), some (0, x), some (0, e), some (0, b), some (0, l), some (0, i + 1), some (0, x), some (0, e), some (0, x + (-x) % z)], [])) rfl ?_
          rw [st_pl, show st_bg ν r x i = x by unfold st_bg; rw [if_neg (by omega)], show st_en ν p q e i = e by unfold st_en; rw [if_neg (by omega)], if_neg (by omega)]
          exact ih (i + 1) _ _ _ _ _ (by omega) (by omega) (by omega) (by omega)
        · skip
          refine sw_p 2 (f' := (83, [some (2, p), some (0, z), some (0, x), some (0, e), some (0, b), some (0, l), some (0, i), some (0, x), some (0, e), some (0, x + (-x) % z)], [(0, -1), (0, b)])) rfl ?_
          refine sw_eq2 (pt := 96) (pn := 86) rfl rfl rfl (by omega) (by omega) (fun h5 => ?_) (fun h5 => ?_)
          · skip
            refine sw_p 8 (f' := (9, [some (2, p), some (0, z), some (0, x), some (0, e), some (0, x + (-x) % z), some (0, e - x), some (0, i + 1), some (0, x), some (0, e), some (0, x + (-x) % z)], [])) rfl ?_
            rw [st_pl, show st_bg ν r x i = x by unfold st_bg; rw [if_neg (by omega)], show st_en ν p q e i = e by unfold st_en; rw [if_neg (by omega)], if_pos (by omega)]
            exact ih (i + 1) _ _ _ _ _ (by omega) (by omega) (by omega) (by omega)
          · skip
            refine sw_p 4 (f' := (93, [some (2, p), some (0, z), some (0, x), some (0, e), some (0, b), some (0, l), some (0, i), some (0, x), some (0, e), some (0, x + (-x) % z)], [(0, l), (0, e - x)])) rfl ?_
            refine sw_ge2 (pt := 107) (pn := 96) rfl rfl rfl (by omega) (by omega) (fun h6 => ?_) (fun h6 => ?_)
            · skip
              refine sw_p 2 (f' := (9, [some (2, p), some (0, z), some (0, x), some (0, e), some (0, b), some (0, l), some (0, i + 1), some (0, x), some (0, e), some (0, x + (-x) % z)], [])) rfl ?_
              rw [st_pl, show st_bg ν r x i = x by unfold st_bg; rw [if_neg (by omega)], show st_en ν p q e i = e by unfold st_en; rw [if_neg (by omega)], if_neg (by omega)]
              exact ih (i + 1) _ _ _ _ _ (by omega) (by omega) (by omega) (by omega)
            · skip
              refine sw_p 8 (f' := (9, [some (2, p), some (0, z), some (0, x), some (0, e), some (0, x + (-x) % z), some (0, e - x), some (0, i + 1), some (0, x), some (0, e), some (0, x + (-x) % z)], [])) rfl ?_
              rw [st_pl, show st_bg ν r x i = x by unfold st_bg; rw [if_neg (by omega)], show st_en ν p q e i = e by unfold st_en; rw [if_neg (by omega)], if_pos (by omega)]
              exact ih (i + 1) _ _ _ _ _ (by omega) (by omega) (by omega) (by omega)
      · skip
        refine sw_p 1 (f' := (48, [some (2, p), some (0, z), some (0, x), some (0, e), some (0, b), some (0, l), some (0, i), some (0, x), o8, o9], [(2, p)])) rfl ?_
        refine sw_hA (pn := 51) (i := 0) (v := q) rfl rfl rfl rfl rfl hs.1.2 hs.2.1.1 (by omega) ?_
        refine sw_p 1 (f' := (53, [some (2, p), some (0, z), some (0, x), some (0, e), some (0, b), some (0, l), some (0, i), some (0, x), o8, o9], [(0, i), (2, q)])) rfl ?_
        refine sw_ial (pn := 54) (l := 12) rfl rfl (by omega) hs.2.1.2.2.1 hs.2.1.2.2.2 (by omega) (by omega) ?_
        refine sw_p 9 (f' := (68, [some (2, p), some (0, z), some (0, x), some (0, e), some (0, b), some (0, l), some (0, i), some (0, x), some (0, ν q i), o9], [(0, -z), (0, (x + z) - 1)])) rfl ?_
        refine sw_iand (pn := 69) (z := x + (-x) % z) rfl rfl (st_mask hz (by omega)) ?_
        refine sw_p 5 (f' := (77, [some (2, p), some (0, z), some (0, x), some (0, e), some (0, b), some (0, l), some (0, i), some (0, x), some (0, ν q i), some (0, x + (-x) % z)], [(0, ν q i), (0, (x + (-x) % z) + z)])) rfl ?_
        refine sw_gt2 (pt := 107) (pn := 80) rfl rfl rfl (by omega) (by omega) (fun h7 => ?_) (fun h7 => ?_)
        · skip
          refine sw_p 2 (f' := (9, [some (2, p), some (0, z), some (0, x), some (0, e), some (0, b), some (0, l), some (0, i + 1), some (0, x), some (0, ν q i), some (0, x + (-x) % z)], [])) rfl ?_
          rw [st_pl, show st_bg ν r x i = x by unfold st_bg; rw [if_neg (by omega)], show st_en ν p q e i = ν q i by unfold st_en; rw [if_pos (by omega)], if_neg (by omega)]
          exact ih (i + 1) _ _ _ _ _ (by omega) (by omega) (by omega) (by omega)
        · skip
          refine sw_p 2 (f' := (83, [some (2, p), some (0, z), some (0, x), some (0, e), some (0, b), some (0, l), some (0, i), some (0, x), some (0, ν q i), some (0, x + (-x) % z)], [(0, -1), (0, b)])) rfl ?_
          refine sw_eq2 (pt := 96) (pn := 86) rfl rfl rfl (by omega) (by omega) (fun h8 => ?_) (fun h8 => ?_)
          · skip
            refine sw_p 8 (f' := (9, [some (2, p), some (0, z), some (0, x), some (0, e), some (0, x + (-x) % z), some (0, (ν q i) - x), some (0, i + 1), some (0, x), some (0, ν q i), some (0, x + (-x) % z)], [])) rfl ?_
            rw [st_pl, show st_bg ν r x i = x by unfold st_bg; rw [if_neg (by omega)], show st_en ν p q e i = ν q i by unfold st_en; rw [if_pos (by omega)], if_pos (by omega)]
            exact ih (i + 1) _ _ _ _ _ (by omega) (by omega) (by omega) (by omega)
          · skip
            refine sw_p 4 (f' := (93, [some (2, p), some (0, z), some (0, x), some (0, e), some (0, b), some (0, l), some (0, i), some (0, x), some (0, ν q i), some (0, x + (-x) % z)], [(0, l), (0, (ν q i) - x)])) rfl ?_
            refine sw_ge2 (pt := 107) (pn := 96) rfl rfl rfl (by omega) (by omega) (fun h9 => ?_) (fun h9 => ?_)
            · skip
              refine sw_p 2 (f' := (9, [some (2, p), some (0, z), some (0, x), some (0, e), some (0, b), some (0, l), some (0, i + 1), some (0, x), some (0, ν q i), some (0, x + (-x) % z)], [])) rfl ?_
              rw [st_pl, show st_bg ν r x i = x by unfold st_bg; rw [if_neg (by omega)], show st_en ν p q e i = ν q i by unfold st_en; rw [if_pos (by omega)], if_neg (by omega)]
              exact ih (i + 1) _ _ _ _ _ (by omega) (by omega) (by omega) (by omega)
            · skip
              refine sw_p 8 (f' := (9, [some (2, p), some (0, z), some (0, x), some (0, e), some (0, x + (-x) % z), some (0, (ν q i) - x), some (0, i + 1), some (0, x), some (0, ν q i), some (0, x + (-x) % z)], [])) rfl ?_
              rw [st_pl, show st_bg ν r x i = x by unfold st_bg; rw [if_neg (by omega)], show st_en ν p q e i = ν q i by unfold st_en; rw [if_pos (by omega)], if_pos (by omega)]
              exact ih (i + 1) _ _ _ _ _ (by omega) (by omega) (by omega) (by omega)
    · skip
      refine sw_p 1 (f' := (24, [some (2, p), some (0, z), some (0, x), some (0, e), some (0, b), some (0, l), some (0, i), o7, o8, o9], [(2, p)])) rfl ?_
      refine sw_hA (pn := 27) (i := 1) (v := r) rfl rfl rfl rfl rfl hs.1.2 hs.2.2.1 (by omega) ?_
      refine sw_p 3 (f' := (31, [some (2, p), some (0, z), some (0, x), some (0, e), some (0, b), some (0, l), some (0, i), o7, o8, o9], [(0, i - 1), (2, r)])) rfl ?_
      refine sw_ial (pn := 32) (l := 12) rfl rfl (by omega) hs.2.2.2.2.1 hs.2.2.2.2.2 (by omega) (by omega) ?_
      refine sw_p 4 (f' := (41, [some (2, p), some (0, z), some (0, x), some (0, e), some (0, b), some (0, l), some (0, i), some (0, ν r (i - 1)), o8, o9], [(2, p), (0, i)])) rfl ?_
      refine sw_gI (pn := 44) (i := 2) rfl rfl rfl rfl rfl (by omega) hs.1.2 ?_
      refine sw_ge2 (pt := 57) (pn := 47) rfl rfl rfl (by omega) (by omega) (fun h10 => ?_) (fun h10 => ?_)
      · skip
        refine sw_p 9 (f' := (68, [some (2, p), some (0, z), some (0, x), some (0, e), some (0, b), some (0, l), some (0, i), some (0, ν r (i - 1)), some (0, e), o9], [(0, -z), (0, ((ν r (i - 1)) + z) - 1)])) rfl ?_
        refine sw_iand (pn := 69) (z := (ν r (i - 1)) + (-(ν r (i - 1))) % z) rfl rfl (st_mask hz (by omega)) ?_
        refine sw_p 5 (f' := (77, [some (2, p), some (0, z), some (0, x), some (0, e), some (0, b), some (0, l), some (0, i), some (0, ν r (i - 1)), some (0, e), some (0, (ν r (i - 1)) + (-(ν r (i - 1))) % z)], [(0, e), (0, ((ν r (i - 1)) + (-(ν r (i - 1))) % z) + z)])) rfl ?_
        refine sw_gt2 (pt := 107) (pn := 80) rfl rfl rfl (by omega) (by omega) (fun h11 => ?_) (fun h11 => ?_)
        · skip
          refine sw_p 2 (f' := (9, [some (2, p), some (0, z), some (0, x), some (0, e), some (0, b), some (0, l), some (0, i + 1), some (0, ν r (i - 1)), some (0, e), some (0, (ν r (i - 1)) + (-(ν r (i - 1))) % z)], [])) rfl ?_
          rw [st_pl, show st_bg ν r x i = ν r (i - 1) by unfold st_bg; rw [if_pos (by omega)], show st_en ν p q e i = e by unfold st_en; rw [if_neg (by omega)], if_neg (by omega)]
          exact ih (i + 1) _ _ _ _ _ (by omega) (by omega) (by omega) (by omega)
        · skip
          refine sw_p 2 (f' := (83, [some (2, p), some (0, z), some (0, x), some (0, e), some (0, b), some (0, l), some (0, i), some (0, ν r (i - 1)), some (0, e), some (0, (ν r (i - 1)) + (-(ν r (i - 1))) % z)], [(0, -1), (0, b)])) rfl ?_
          refine sw_eq2 (pt := 96) (pn := 86) rfl rfl rfl (by omega) (by omega) (fun h12 => ?_) (fun h12 => ?_)
          · skip
            refine sw_p 8 (f' := (9, [some (2, p), some (0, z), some (0, x), some (0, e), some (0, (ν r (i - 1)) + (-(ν r (i - 1))) % z), some (0, e - (ν r (i - 1))), some (0, i + 1), some (0, ν r (i - 1)), some (0, e), some (0, (ν r (i - 1)) + (-(ν r (i - 1))) % z)], [])) rfl ?_
            rw [st_pl, show st_bg ν r x i = ν r (i - 1) by unfold st_bg; rw [if_pos (by omega)], show st_en ν p q e i = e by unfold st_en; rw [if_neg (by omega)], if_pos (by omega)]
            exact ih (i + 1) _ _ _ _ _ (by omega) (by omega) (by omega) (by omega)
          · skip
            refine sw_p 4 (f' := (93, [some (2, p), some (0, z), some (0, x), some (0, e), some (0, b), some (0, l), some (0, i), some (0, ν r (i - 1)), some (0, e), some (0, (ν r (i - 1)) + (-(ν r (i - 1))) % z)], [(0, l), (0, e - (ν r (i - 1)))])) rfl ?_
            refine sw_ge2 (pt := 107) (pn := 96) rfl rfl rfl (by omega) (by omega) (fun h13 => ?_) (fun h13 => ?_)
            · skip
              refine sw_p 2 (f' := (9, [some (2, p), some (0, z), some (0, x), some (0, e), some (0, b), some (0, l), some (0, i + 1), some (0, ν r (i - 1)), some (0, e), some (0, (ν r (i - 1)) + (-(ν r (i - 1))) % z)], [])) rfl ?_
              rw [st_pl, show st_bg ν r x i = ν r (i - 1) by unfold st_bg; rw [if_pos (by omega)], show st_en ν p q e i = e by unfold st_en; rw [if_neg (by omega)], if_neg (by omega)]
              exact ih (i + 1) _ _ _ _ _ (by omega) (by omega) (by omega) (by omega)
            · skip
              refine sw_p 8 (f' := (9, [some (2, p), some (0, z), some (0, x), some (0, e), some (0, (ν r (i - 1)) + (-(ν r (i - 1))) % z), some (0, e - (ν r (i - 1))), some (0, i + 1), some (0, ν r (i - 1)), some (0, e), some (0, (ν r (i - 1)) + (-(ν r (i - 1))) % z)], [])) rfl ?_
              rw [st_pl, show st_bg ν r x i = ν r (i - 1) by unfold st_bg; rw [if_pos (by omega)], show st_en ν p q e i = e by unfold st_en; rw [if_neg (by omega)], if_pos (by omega)]
              exact ih (i + 1) _ _ _ _ _ (by omega) (by omega) (by omega) (by omega)
      · skip
        refine sw_p 1 (f' := (48, [some (2, p), some (0, z), some (0, x), some (0, e), some (0, b), some (0, l), some (0, i), some (0, ν r (i - 1)), o8, o9], [(2, p)])) rfl ?_
        refine sw_hA (pn := 51) (i := 0) (v := q) rfl rfl rfl rfl rfl hs.1.2 hs.2.1.1 (by omega) ?_
        refine sw_p 1 (f' := (53, [some (2, p), some (0, z), some (0, x), some (0, e), some (0, b), some (0, l), some (0, i), some (0, ν r (i - 1)), o8, o9], [(0, i), (2, q)])) rfl ?_
        refine sw_ial (pn := 54) (l := 12) rfl rfl (by omega) hs.2.1.2.2.1 hs.2.1.2.2.2 (by omega) (by omega) ?_
        refine sw_p 9 (f' := (68, [some (2, p), some (0, z), some (0, x), some (0, e), some (0, b), some (0, l), some (0, i), some (0, ν r (i - 1)), some (0, ν q i), o9], [(0, -z), (0, ((ν r (i - 1)) + z) - 1)])) rfl ?_
        refine sw_iand (pn := 69) (z := (ν r (i - 1)) + (-(ν r (i - 1))) % z) rfl rfl (st_mask hz (by omega)) ?_
        refine sw_p 5 (f' := (77, [some (2, p), some (0, z), some (0, x), some (0, e), some (0, b), some (0, l), some (0, i), some (0, ν r (i - 1)), some (0, ν q i), some (0, (ν r (i - 1)) + (-(ν r (i - 1))) % z)], [(0, ν q i), (0, ((ν r (i - 1)) + (-(ν r (i - 1))) % z) + z)])) rfl ?_
        refine sw_gt2 (pt := 107) (pn := 80) rfl rfl rfl (by omega) (by omega) (fun h14 => ?_) (fun h14 => ?_)
        · skip
          refine sw_p 2 (f' := (9, [some (2, p), some (0, z), some (0, x), some (0, e), some (0, b), some (0, l), some (0, i + 1), some (0, ν r (i - 1)), some (0, ν q i), some (0, (ν r (i - 1)) + (-(ν r (i - 1))) % z)], [])) rfl ?_
          rw [st_pl, show st_bg ν r x i = ν r (i - 1) by unfold st_bg; rw [if_pos (by omega)], show st_en ν p q e i = ν q i by unfold st_en; rw [if_pos (by omega)], if_neg (by omega)]
          exact ih (i + 1) _ _ _ _ _ (by omega) (by omega) (by omega) (by omega)
        · skip
          refine sw_p 2 (f' := (83, [some (2, p), some (0, z), some (0, x), some (0, e), some (0, b), some (0, l), some (0, i), some (0, ν r (i - 1)), some (0, ν q i), some (0, (ν r (i - 1)) + (-(ν r (i - 1))) % z)], [(0, -1), (0, b)])) rfl ?_
          refine sw_eq2 (pt := 96) (pn := 86) rfl rfl rfl (by omega) (by omega) (fun h15 => ?_) (fun h15 => ?_)
          · skip
            refine sw_p 8 (f' := (9, [some (2, p), some (0, z), some (0, x), some (0, e), some (0, (ν r (i - 1)) + (-(ν r (i - 1))) % z), some (0, (ν q i) - (ν r (i - 1))), some (0, i + 1), some (0, ν r (i - 1)), some (0, ν q i), some (0, (ν r (i - 1)) + (-(ν r (i - 1))) % z)], [])) rfl ?_
            rw [st_pl, show st_bg ν r x i = ν r (i - 1) by unfold st_bg; rw [if_pos (by omega)], show st_en ν p q e i = ν q i by unfold st_en; rw [if_pos (by omega)], if_pos (by omega)]
            exact ih (i + 1) _ _ _ _ _ (by omega) (by omega) (by omega) (by omega)
          · skip
            refine sw_p 4 (f' := (93, [some (2, p), some (0, z), some (0, x), some (0, e), some (0, b), some (0, l), some (0, i), some (0, ν r (i - 1)), some (0, ν q i), some (0, (ν r (i - 1)) + (-(ν r (i - 1))) % z)], [(0, l), (0, (ν q i) - (ν r (i - 1)))])) rfl ?_
            refine sw_ge2 (pt := 107) (pn := 96) rfl rfl rfl (by omega) (by omega) (fun h16 => ?_) (fun h16 => ?_)
            · skip
              refine sw_p 2 (f' := (9, [some (2, p), some (0, z), some (0, x), some (0, e), some (0, b), some (0, l), some (0, i + 1), some (0, ν r (i - 1)), some (0, ν q i), some (0, (ν r (i - 1)) + (-(ν r (i - 1))) % z)], [])) rfl ?_
              rw [st_pl, show st_bg ν r x i = ν r (i - 1) by unfold st_bg; rw [if_pos (by omega)], show st_en ν p q e i = ν q i by unfold st_en; rw [if_pos (by omega)], if_neg (by omega)]
              exact ih (i + 1) _ _ _ _ _ (by omega) (by omega) (by omega) (by omega)
            · skip
              refine sw_p 8 (f' := (9, [some (2, p), some (0, z), some (0, x), some (0, e), some (0, (ν r (i - 1)) + (-(ν r (i - 1))) % z), some (0, (ν q i) - (ν r (i - 1))), some (0, i + 1), some (0, ν r (i - 1)), some (0, ν q i), some (0, (ν r (i - 1)) + (-(ν r (i - 1))) % z)], [])) rfl ?_
              rw [st_pl, show st_bg ν r x i = ν r (i - 1) by unfold st_bg; rw [if_pos (by omega)], show st_en ν p q e i = ν q i by unfold st_en; rw [if_pos (by omega)], if_pos (by omega)]
              exact ih (i + 1) _ _ _ _ _ (by omega) (by omega) (by omega) (by omega)
theorem st_place (hs : st_sh s p q r) (hB : st_B ν p q r) (hz : st_pw z) (hx : 0 ≤ x ∧ x ≤ 4096) (he : 0 ≤ e ∧ e ≤ 4096) : sw_w E d 39 (0, [some (2, p), some (0, z), some (0, x), some (0, e), none, none, none, none, none, none], []) s ν (sw_is (some (0, st_pl ν p q r z x e (ν p 2 + 1).toNat 0 (-1) 0)) s ν) := by
  have hc := hB.1
  refine sw_p 6 (f' := (9, [some (2, p), some (0, z), some (0, x), some (0, e), some (0, -1), some (0, 0), some (0, 0), none, none, none], [])) rfl ?_
  exact st_place_l hs hB hz hx he (ν p 2 + 1).toNat 0 (-1) 0 _ _ _ (by omega) (by omega) (by omega) (by omega)
end ST3
