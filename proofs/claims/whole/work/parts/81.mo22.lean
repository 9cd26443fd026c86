/-! the reference: moveAll -/
/-- memory while all is moved: ranges r, how many moved m -/
def ma_m (ν : mm_T) (r : Int → Int) (m : Int) : mm_T := fun p i => if p = 17 then r i else if p = 0 ∧ i = 23 then m else ν p i
abbrev ma_S : Type := (Int → Int) × Int
def ma_k (ν : mm_T) (c k : Int) (R : ma_S) : ma_S := if 0 < ν 9 (3 * ν 13 c + k) then (fun i => if i = 3 * c + k then ν 18 (3 * c + k) else R.1 i, if c ≠ ν 0 21 ∧ R.1 (3 * c + k) ≠ ν 18 (3 * c + k) then R.2 + 1 else R.2) else R
def ma_c (ν : mm_T) (c : Int) (R : ma_S) : ma_S := if (1 ≤ ν 15 c ∧ ν 15 c ≤ 3) ∨ c = ν 0 21 then ma_k ν c 2 (ma_k ν c 1 (ma_k ν c 0 R)) else R
def ma_l (ν : mm_T) : Nat → Int → ma_S → ma_S
  | 0, _, R => R
  | n + 1, c, R => ma_l ν n (c + 1) (ma_c ν c R)
def ma_f (ν : mm_T) (R : ma_S) : mm_T := ma_m ν R.1 R.2
/-- what follows when all is planned -/
def ma_e (ν : mm_T) : mm_T := mm_u (mm_u (mo_ch (ma_f ν (ma_l ν (ν 0 12).toNat 0 (ν 17, 0))) 2 1) 15 (ν 0 21) 1) 0 21 (-1)
section MA
variable {E : mv_E} {s ν : mm_T} {d : Nat} {b c x y e k z p i t l m a u : Int} {f r : Int → Int} {R : ma_S} {o2 : Option mg_V} {Q : nm_O → mm_T → mm_T → Prop}
theorem ma_ne (h1 : p ≠ 17) (h2 : ¬ (p = 0 ∧ i = 23)) : ma_m ν r m p i = ν p i := by unfold ma_m; rw [if_neg h1, if_neg h2]
theorem ma_17 : ma_m ν r m 17 i = r i := by unfold ma_m; rw [if_pos rfl]
theorem ma_23 : ma_m ν r m 0 23 = m := by unfold ma_m; rw [if_neg (by omega), if_pos ⟨rfl, rfl⟩]
theorem ma_u17 : mm_u (ma_m ν r m) 17 k z = ma_m ν (fun i => if i = k then z else r i) m := by
  funext p i
  unfold mm_u ma_m
  by_cases h1 : p = 17
  · by_cases h2 : i = k
    · rw [if_pos ⟨h1, h2⟩, if_pos h1]
      exact (if_pos h2).symm
    · rw [if_neg (fun h => h2 h.2), if_pos h1, if_pos h1]
      exact (if_neg h2).symm
  · rw [if_neg (fun h => h1 h.1), if_neg h1, if_neg h1]
theorem ma_u23 : mm_u (ma_m ν r m) 0 23 z = ma_m ν r z := by
  funext p i
  unfold mm_u ma_m
  by_cases h1 : p = 0 ∧ i = 23
  · rw [if_pos h1, if_neg (by omega), if_pos h1]
  · rw [if_neg h1, if_neg h1, if_neg h1]
theorem ma_0 : mm_u ν 0 23 z = ma_m ν (ν 17) z := by
  funext p i
  unfold mm_u ma_m
  by_cases h1 : p = 0 ∧ i = 23
  · rw [if_pos h1, if_neg (by omega)]
  · rw [if_neg h1]
    split
    · next h => rw [h]
    · rfl
theorem ma_wk (hs : mo_sh s) (hB : mo_B ν) (hc : 0 ≤ c ∧ c < 40) (hk : 0 ≤ k ∧ k < 3) (hA : (1 ≤ ν 15 c ∧ ν 15 c ≤ 3) ∨ c = ν 0 21) (hr : -1 ≤ R.1 (3 * c + k) ∧ R.1 (3 * c + k) ≤ 4096) (hq : 0 < ν 9 (3 * ν 13 c + k) → -2147483648 ≤ ν 18 (3 * c + k) ∧ ν 18 (3 * c + k) < 2147483648) (kk : sw_w E (d + 1) 108 (21, [some (2, 0), some (0, c), some (0, k + 1)], []) s (ma_m ν (ma_k ν c k R).1 (ma_k ν c k R).2) Q) : sw_w E (d + 1) 108 (21, [some (2, 0), some (0, c), some (0, k)], []) s (ma_m ν R.1 R.2) Q := by
  have h12 := hB.2.2.1
  have h21 := hB.2.2.2.1
  have hcd := hB.cd c hc.1 hc.2
  have hsz := hB.2.2.2.2.2.2.2.2.2.2.2.1 (3 * ν 13 c + k) (by omega) (by omega)
  by_cases hz : 0 < ν 9 (3 * ν 13 c + k)
  · have hq := hq hz
    by_cases hth : 1 ≤ ν 15 c ∧ ν 15 c ≤ 3
    · skip
      refine sw_p 2 (f' := (23, [some (2, 0), some (0, c), some (0, k)], [(0, 3), (0, k)])) rfl ?_
      refine sw_ge2 (pt := 125) (pn := 26) rfl rfl rfl (by omega) (by omega) (fun h => absurd h (by omega)) (fun h1 => ?_)
      refine sw_p 2 (f' := (28, [some (2, 0), some (0, c), some (0, k)], [(0, c), (2, 0)])) rfl ?_
      refine sw_cv1 (pn := 31) (q0 := mj_Mo_moveAll) (q := mj_Mo_isThere) (p := 0) (as2 := [(0, c)]) (L2 := [some (2, 0), some (0, c)]) (rest := []) (v := some (0, 1)) (s1 := s) (ν1 := (ma_m ν R.1 R.2)) rfl rfl rfl rfl rfl rfl rfl rfl rfl hs.1 (by have h := mo_isThere (E := E) (d := d) (s := s) (ν := (ma_m ν R.1 R.2)) (c := c) hs (by omega) (by rw [show (ma_m ν R.1 R.2) 15 c = ν 15 c from ma_ne (by omega) (by omega)]; omega); rw [show (ma_m ν R.1 R.2) 15 c = ν 15 c from ma_ne (by omega) (by omega)] at h; rw [if_pos (by omega)] at h; exact h) ?_
      show sw_w E _ 108 (31, [some (2, 0), some (0, c), some (0, k)], [(0, 1)]) s (ma_m ν R.1 R.2) _
      refine sw_ne1 (pt := 42) (pn := 34) rfl rfl rfl (by omega) (fun _ => ?_) (fun h => absurd h (by decide))
      refine sw_p 3 (f' := (45, [some (2, 0), some (0, c), some (0, k)], [(0, k), (0, c), (2, 0)])) rfl ?_
      refine sw_cv1 (pn := 48) (q0 := mj_Mo_moveAll) (q := mj_Mo_sizeOf) (p := 0) (as2 := [(0, c), (0, k)]) (L2 := [some (2, 0), some (0, c), some (0, k)]) (rest := []) (v := some (0, ν 9 (3 * (ν 13 c) + k))) (s1 := s) (ν1 := (ma_m ν R.1 R.2)) rfl rfl rfl rfl rfl rfl rfl rfl rfl hs.1 (by have h := mo_sizeOf (E := E) (d := d) (s := s) (ν := (ma_m ν R.1 R.2)) (c := c) (k := k) hs (by omega) (by omega) (by rw [show (ma_m ν R.1 R.2) 13 c = ν 13 c from ma_ne (by omega) (by omega)]; omega); rw [show (ma_m ν R.1 R.2) 13 c = ν 13 c from ma_ne (by omega) (by omega), show (ma_m ν R.1 R.2) 9 (3 * (ν 13 c) + k) = ν 9 (3 * (ν 13 c) + k) from ma_ne (by omega) (by omega)] at h; exact h) ?_
      show sw_w E _ 108 (48, [some (2, 0), some (0, c), some (0, k)], [(0, ν 9 (3 * (ν 13 c) + k))]) s (ma_m ν R.1 R.2) _
      refine sw_le1 (pt := 119) (pn := 51) rfl rfl rfl (by omega) (fun h => absurd h (by omega)) (fun h3 => ?_)
      refine sw_p 3 (f' := (54, [some (2, 0), some (0, c), some (0, k)], [(2, 0), (0, c), (2, 0)])) rfl ?_
      refine sw_gI (pn := 57) (i := 21) rfl rfl rfl rfl rfl (by omega) hs.1 ?_
      rw [show (ma_m ν R.1 R.2) 0 21 = ν 0 21 from ma_ne (by omega) (by omega)]
      refine sw_eq2 (pt := 92) (pn := 60) rfl rfl rfl (by omega) (by omega) (fun h4 => ?_) (fun h4 => ?_)
      · skip
        refine sw_p 1 (f' := (93, [some (2, 0), some (0, c), some (0, k)], [(2, 0), (2, 0)])) rfl ?_
        refine sw_gI (pn := 96) (i := 23) rfl rfl rfl rfl rfl (by omega) hs.1 ?_
        rw [show (ma_m ν R.1 R.2) 0 23 = R.2 from ma_23]
        refine sw_pI (pn := 99) (i := 23) rfl rfl rfl rfl rfl (by omega) hs.1 ?_
        rw [ma_u23]
        refine sw_p 1 (f' := (100, [some (2, 0), some (0, c), some (0, k)], [(2, 0)])) rfl ?_
        refine sw_hA (pn := 103) (i := 17) (v := 17) rfl rfl rfl rfl rfl hs.1 (mo_s17 hs).1 (by omega) ?_
        refine sw_p 6 (f' := (109, [some (2, 0), some (0, c), some (0, k)], [(2, 0), (0, (3 * c) + k), (2, 17)])) rfl ?_
        refine sw_hA (pn := 112) (i := 18) (v := 18) rfl rfl rfl rfl rfl hs.1 (mo_s18 hs).1 (by omega) ?_
        refine sw_p 5 (f' := (117, [some (2, 0), some (0, c), some (0, k)], [(0, (3 * c) + k), (2, 18), (0, (3 * c) + k), (2, 17)])) rfl ?_
        refine sw_ial (pn := 118) (l := 120) rfl rfl (by omega) (mo_s18 hs).2.1 (mo_s18 hs).2.2 (by omega) (by omega) ?_
        rw [show (ma_m ν R.1 (R.2)) 18 ((3 * c) + k) = ν 18 ((3 * c) + k) from ma_ne (by omega) (by omega)]
        refine sw_ias (pn := 119) (l := 120) rfl rfl (by omega) (mo_s17 hs).2.1 (mo_s17 hs).2.2 (by omega) (by omega) ?_
        rw [ma_u17]
        refine sw_p 2 (f' := (21, [some (2, 0), some (0, c), some (0, k + 1)], [])) rfl ?_
        rw [show ma_k ν c k R = (fun i => if i = 3 * c + k then ν 18 (3 * c + k) else R.1 i, R.2) by unfold ma_k; rw [if_pos hz, if_neg (by omega)]] at kk
        exact kk
      · skip
        refine sw_p 1 (f' := (61, [some (2, 0), some (0, c), some (0, k)], [(2, 0), (2, 0)])) rfl ?_
        refine sw_hA (pn := 64) (i := 17) (v := 17) rfl rfl rfl rfl rfl hs.1 (mo_s17 hs).1 (by omega) ?_
        refine sw_p 5 (f' := (69, [some (2, 0), some (0, c), some (0, k)], [(0, (3 * c) + k), (2, 17), (2, 0)])) rfl ?_
        refine sw_ial (pn := 70) (l := 120) rfl rfl (by omega) (mo_s17 hs).2.1 (mo_s17 hs).2.2 (by omega) (by omega) ?_
        rw [show (ma_m ν R.1 R.2) 17 ((3 * c) + k) = R.1 ((3 * c) + k) from ma_17]
        refine sw_p 1 (f' := (71, [some (2, 0), some (0, c), some (0, k)], [(2, 0), (0, R.1 ((3 * c) + k)), (2, 0)])) rfl ?_
        refine sw_hA (pn := 74) (i := 18) (v := 18) rfl rfl rfl rfl rfl hs.1 (mo_s18 hs).1 (by omega) ?_
        refine sw_p 5 (f' := (79, [some (2, 0), some (0, c), some (0, k)], [(0, (3 * c) + k), (2, 18), (0, R.1 ((3 * c) + k)), (2, 0)])) rfl ?_
        refine sw_ial (pn := 80) (l := 120) rfl rfl (by omega) (mo_s18 hs).2.1 (mo_s18 hs).2.2 (by omega) (by omega) ?_
        rw [show (ma_m ν R.1 R.2) 18 ((3 * c) + k) = ν 18 ((3 * c) + k) from ma_ne (by omega) (by omega)]
        refine sw_eq2 (pt := 92) (pn := 83) rfl rfl rfl (by omega) (by omega) (fun h5 => ?_) (fun h5 => ?_)
        · skip
          refine sw_p 1 (f' := (93, [some (2, 0), some (0, c), some (0, k)], [(2, 0), (2, 0)])) rfl ?_
          refine sw_gI (pn := 96) (i := 23) rfl rfl rfl rfl rfl (by omega) hs.1 ?_
          rw [show (ma_m ν R.1 R.2) 0 23 = R.2 from ma_23]
          refine sw_pI (pn := 99) (i := 23) rfl rfl rfl rfl rfl (by omega) hs.1 ?_
          rw [ma_u23]
          refine sw_p 1 (f' := (100, [some (2, 0), some (0, c), some (0, k)], [(2, 0)])) rfl ?_
          refine sw_hA (pn := 103) (i := 17) (v := 17) rfl rfl rfl rfl rfl hs.1 (mo_s17 hs).1 (by omega) ?_
          refine sw_p 6 (f' := (109, [some (2, 0), some (0, c), some (0, k)], [(2, 0), (0, (3 * c) + k), (2, 17)])) rfl ?_
          refine sw_hA (pn := 112) (i := 18) (v := 18) rfl rfl rfl rfl rfl hs.1 (mo_s18 hs).1 (by omega) ?_
          refine sw_p 5 (f' := (117, [some (2, 0), some (0, c), some (0, k)], [(0, (3 * c) + k), (2, 18), (0, (3 * c) + k), (2, 17)])) rfl ?_
          refine sw_ial (pn := 118) (l := 120) rfl rfl (by omega) (mo_s18 hs).2.1 (mo_s18 hs).2.2 (by omega) (by omega) ?_
          rw [show (ma_m ν R.1 (R.2)) 18 ((3 * c) + k) = ν 18 ((3 * c) + k) from ma_ne (by omega) (by omega)]
          refine sw_ias (pn := 119) (l := 120) rfl rfl (by omega) (mo_s17 hs).2.1 (mo_s17 hs).2.2 (by omega) (by omega) ?_
          rw [ma_u17]
          refine sw_p 2 (f' := (21, [some (2, 0), some (0, c), some (0, k + 1)], [])) rfl ?_
          rw [show ma_k ν c k R = (fun i => if i = 3 * c + k then ν 18 (3 * c + k) else R.1 i, R.2) by unfold ma_k; rw [if_pos hz, if_neg (by omega)]] at kk
          exact kk
        · skip
          refine sw_p 1 (f' := (84, [some (2, 0), some (0, c), some (0, k)], [(2, 0), (2, 0)])) rfl ?_
          refine sw_gI (pn := 87) (i := 23) rfl rfl rfl rfl rfl (by omega) hs.1 ?_
          rw [show (ma_m ν R.1 R.2) 0 23 = R.2 from ma_23]
          refine sw_p 3 (f' := (96, [some (2, 0), some (0, c), some (0, k)], [(0, R.2 + 1), (2, 0)])) rfl ?_
          refine sw_pI (pn := 99) (i := 23) rfl rfl rfl rfl rfl (by omega) hs.1 ?_
          rw [ma_u23]
          refine sw_p 1 (f' := (100, [some (2, 0), some (0, c), some (0, k)], [(2, 0)])) rfl ?_
          refine sw_hA (pn := 103) (i := 17) (v := 17) rfl rfl rfl rfl rfl hs.1 (mo_s17 hs).1 (by omega) ?_
          refine sw_p 6 (f' := (109, [some (2, 0), some (0, c), some (0, k)], [(2, 0), (0, (3 * c) + k), (2, 17)])) rfl ?_
          refine sw_hA (pn := 112) (i := 18) (v := 18) rfl rfl rfl rfl rfl hs.1 (mo_s18 hs).1 (by omega) ?_
          refine sw_p 5 (f' := (117, [some (2, 0), some (0, c), some (0, k)], [(0, (3 * c) + k), (2, 18), (0, (3 * c) + k), (2, 17)])) rfl ?_
          refine sw_ial (pn := 118) (l := 120) rfl rfl (by omega) (mo_s18 hs).2.1 (mo_s18 hs).2.2 (by omega) (by omega) ?_
          rw [show (ma_m ν R.1 (R.2 + 1)) 18 ((3 * c) + k) = ν 18 ((3 * c) + k) from ma_ne (by omega) (by omega)]
          refine sw_ias (pn := 119) (l := 120) rfl rfl (by omega) (mo_s17 hs).2.1 (mo_s17 hs).2.2 (by omega) (by omega) ?_
          rw [ma_u17]
          refine sw_p 2 (f' := (21, [some (2, 0), some (0, c), some (0, k + 1)], [])) rfl ?_
          rw [show ma_k ν c k R = (fun i => if i = 3 * c + k then ν 18 (3 * c + k) else R.1 i, R.2 + 1) by unfold ma_k; rw [if_pos hz, if_pos (by omega)]] at kk
          exact kk
    · skip
      refine sw_p 2 (f' := (23, [some (2, 0), some (0, c), some (0, k)], [(0, 3), (0, k)])) rfl ?_
      refine sw_ge2 (pt := 125) (pn := 26) rfl rfl rfl (by omega) (by omega) (fun h => absurd h (by omega)) (fun h1 => ?_)
      refine sw_p 2 (f' := (28, [some (2, 0), some (0, c), some (0, k)], [(0, c), (2, 0)])) rfl ?_
      refine sw_cv1 (pn := 31) (q0 := mj_Mo_moveAll) (q := mj_Mo_isThere) (p := 0) (as2 := [(0, c)]) (L2 := [some (2, 0), some (0, c)]) (rest := []) (v := some (0, 0)) (s1 := s) (ν1 := (ma_m ν R.1 R.2)) rfl rfl rfl rfl rfl rfl rfl rfl rfl hs.1 (by have h := mo_isThere (E := E) (d := d) (s := s) (ν := (ma_m ν R.1 R.2)) (c := c) hs (by omega) (by rw [show (ma_m ν R.1 R.2) 15 c = ν 15 c from ma_ne (by omega) (by omega)]; omega); rw [show (ma_m ν R.1 R.2) 15 c = ν 15 c from ma_ne (by omega) (by omega)] at h; rw [if_neg (by omega)] at h; exact h) ?_
      show sw_w E _ 108 (31, [some (2, 0), some (0, c), some (0, k)], [(0, 0)]) s (ma_m ν R.1 R.2) _
      refine sw_ne1 (pt := 42) (pn := 34) rfl rfl rfl (by omega) (fun h => absurd h (by decide)) (fun _ => ?_)
      refine sw_p 2 (f' := (36, [some (2, 0), some (0, c), some (0, k)], [(2, 0), (0, c)])) rfl ?_
      refine sw_gI (pn := 39) (i := 21) rfl rfl rfl rfl rfl (by omega) hs.1 ?_
      rw [show (ma_m ν R.1 R.2) 0 21 = ν 0 21 from ma_ne (by omega) (by omega)]
      refine sw_ne2 (pt := 125) (pn := 42) rfl rfl rfl (by omega) (by omega) (fun h => absurd h (by omega)) (fun h3 => ?_)
      refine sw_p 3 (f' := (45, [some (2, 0), some (0, c), some (0, k)], [(0, k), (0, c), (2, 0)])) rfl ?_
      refine sw_cv1 (pn := 48) (q0 := mj_Mo_moveAll) (q := mj_Mo_sizeOf) (p := 0) (as2 := [(0, c), (0, k)]) (L2 := [some (2, 0), some (0, c), some (0, k)]) (rest := []) (v := some (0, ν 9 (3 * (ν 13 c) + k))) (s1 := s) (ν1 := (ma_m ν R.1 R.2)) rfl rfl rfl rfl rfl rfl rfl rfl rfl hs.1 (by have h := mo_sizeOf (E := E) (d := d) (s := s) (ν := (ma_m ν R.1 R.2)) (c := c) (k := k) hs (by omega) (by omega) (by rw [show (ma_m ν R.1 R.2) 13 c = ν 13 c from ma_ne (by omega) (by omega)]; omega); rw [show (ma_m ν R.1 R.2) 13 c = ν 13 c from ma_ne (by omega) (by omega), show (ma_m ν R.1 R.2) 9 (3 * (ν 13 c) + k) = ν 9 (3 * (ν 13 c) + k) from ma_ne (by omega) (by omega)] at h; exact h) ?_
      show sw_w E _ 108 (48, [some (2, 0), some (0, c), some (0, k)], [(0, ν 9 (3 * (ν 13 c) + k))]) s (ma_m ν R.1 R.2) _
      refine sw_le1 (pt := 119) (pn := 51) rfl rfl rfl (by omega) (fun h => absurd h (by omega)) (fun h4 => ?_)
      refine sw_p 3 (f' := (54, [some (2, 0), some (0, c), some (0, k)], [(2, 0), (0, c), (2, 0)])) rfl ?_
      refine sw_gI (pn := 57) (i := 21) rfl rfl rfl rfl rfl (by omega) hs.1 ?_
      rw [show (ma_m ν R.1 R.2) 0 21 = ν 0 21 from ma_ne (by omega) (by omega)]
      refine sw_eq2 (pt := 92) (pn := 60) rfl rfl rfl (by omega) (by omega) (fun h5 => ?_) (fun h5 => ?_)
      · skip
        refine sw_p 1 (f' := (93, [some (2, 0), some (0, c), some (0, k)], [(2, 0), (2, 0)])) rfl ?_
        refine sw_gI (pn := 96) (i := 23) rfl rfl rfl rfl rfl (by omega) hs.1 ?_
        rw [show (ma_m ν R.1 R.2) 0 23 = R.2 from ma_23]
        refine sw_pI (pn := 99) (i := 23) rfl rfl rfl rfl rfl (by omega) hs.1 ?_
        rw [ma_u23]
        refine sw_p 1 (f' := (100, [some (2, 0), some (0, c), some (0, k)], [(2, 0)])) rfl ?_
        refine sw_hA (pn := 103) (i := 17) (v := 17) rfl rfl rfl rfl rfl hs.1 (mo_s17 hs).1 (by omega) ?_
        refine sw_p 6 (f' := (109, [some (2, 0), some (0, c), some (0, k)], [(2, 0), (0, (3 * c) + k), (2, 17)])) rfl ?_
        refine sw_hA (pn := 112) (i := 18) (v := 18) rfl rfl rfl rfl rfl hs.1 (mo_s18 hs).1 (by omega) ?_
        refine sw_p 5 (f' := (117, [some (2, 0), some (0, c), some (0, k)], [(0, (3 * c) + k), (2, 18), (0, (3 * c) + k), (2, 17)])) rfl ?_
        refine sw_ial (pn := 118) (l := 120) rfl rfl (by omega) (mo_s18 hs).2.1 (mo_s18 hs).2.2 (by omega) (by omega) ?_
        rw [show (ma_m ν R.1 (R.2)) 18 ((3 * c) + k) = ν 18 ((3 * c) + k) from ma_ne (by omega) (by omega)]
        refine sw_ias (pn := 119) (l := 120) rfl rfl (by omega) (mo_s17 hs).2.1 (mo_s17 hs).2.2 (by omega) (by omega) ?_
        rw [ma_u17]
        refine sw_p 2 (f' := (21, [some (2, 0), some (0, c), some (0, k + 1)], [])) rfl ?_
        rw [show ma_k ν c k R = (fun i => if i = 3 * c + k then ν 18 (3 * c + k) else R.1 i, R.2) by unfold ma_k; rw [if_pos hz, if_neg (by omega)]] at kk
        exact kk
      · skip
        refine sw_p 1 (f' := (61, [some (2, 0), some (0, c), some (0, k)], [(2, 0), (2, 0)])) rfl ?_
        refine sw_hA (pn := 64) (i := 17) (v := 17) rfl rfl rfl rfl rfl hs.1 (mo_s17 hs).1 (by omega) ?_
        refine sw_p 5 (f' := (69, [some (2, 0), some (0, c), some (0, k)], [(0, (3 * c) + k), (2, 17), (2, 0)])) rfl ?_
        refine sw_ial (pn := 70) (l := 120) rfl rfl (by omega) (mo_s17 hs).2.1 (mo_s17 hs).2.2 (by omega) (by omega) ?_
        rw [show (ma_m ν R.1 R.2) 17 ((3 * c) + k) = R.1 ((3 * c) + k) from ma_17]
        refine sw_p 1 (f' := (71, [some (2, 0), some (0, c), some (0, k)], [(2, 0), (0, R.1 ((3 * c) + k)), (2, 0)])) rfl ?_
        refine sw_hA (pn := 74) (i := 18) (v := 18) rfl rfl rfl rfl rfl hs.1 (mo_s18 hs).1 (by omega) ?_
        refine sw_p 5 (f' := (79, [some (2, 0), some (0, c), some (0, k)], [(0, (3 * c) + k), (2, 18), (0, R.1 ((3 * c) + k)), (2, 0)])) rfl ?_
        refine sw_ial (pn := 80) (l := 120) rfl rfl (by omega) (mo_s18 hs).2.1 (mo_s18 hs).2.2 (by omega) (by omega) ?_
        rw [show (ma_m ν R.1 R.2) 18 ((3 * c) + k) = ν 18 ((3 * c) + k) from ma_ne (by omega) (by omega)]
        refine sw_eq2 (pt := 92) (pn := 83) rfl rfl rfl (by omega) (by omega) (fun h6 => ?_) (fun h6 => ?_)
        · skip
          refine sw_p 1 (f' := (93, [some (2, 0), some (0, c), some (0, k)], [(2, 0), (2, 0)])) rfl ?_
          refine sw_gI (pn := 96) (i := 23) rfl rfl rfl rfl rfl (by omega) hs.1 ?_
          rw [show (ma_m ν R.1 R.2) 0 23 = R.2 from ma_23]
          refine sw_pI (pn := 99) (i := 23) rfl rfl rfl rfl rfl (by omega) hs.1 ?_
          rw [ma_u23]
          refine sw_p 1 (f' := (100, [some (2, 0), some (0, c), some (0, k)], [(2, 0)])) rfl ?_
          refine sw_hA (pn := 103) (i := 17) (v := 17) rfl rfl rfl rfl rfl hs.1 (mo_s17 hs).1 (by omega) ?_
          refine sw_p 6 (f' := (109, [some (2, 0), some (0, c), some (0, k)], [(2, 0), (0, (3 * c) + k), (2, 17)])) rfl ?_
          refine sw_hA (pn := 112) (i := 18) (v := 18) rfl rfl rfl rfl rfl hs.1 (mo_s18 hs).1 (by omega) ?_
          refine sw_p 5 (f' := (117, [some (2, 0), some (0, c), some (0, k)], [(0, (3 * c) + k), (2, 18), (0, (3 * c) + k), (2, 17)])) rfl ?_
          refine sw_ial (pn := 118) (l := 120) rfl rfl (by omega) (mo_s18 hs).2.1 (mo_s18 hs).2.2 (by omega) (by omega) ?_
          rw [show (ma_m ν R.1 (R.2)) 18 ((3 * c) + k) = ν 18 ((3 * c) + k) from ma_ne (by omega) (by omega)]
          refine sw_ias (pn := 119) (l := 120) rfl rfl (by omega) (mo_s17 hs).2.1 (mo_s17 hs).2.2 (by omega) (by omega) ?_
          rw [ma_u17]
          refine sw_p 2 (f' := (21, [some (2, 0), some (0, c), some (0, k + 1)], [])) rfl ?_
          rw [show ma_k ν c k R = (fun i => if i = 3 * c + k then ν 18 (3 * c + k) else R.1 i, R.2) by unfold ma_k; rw [if_pos hz, if_neg (by omega)]] at kk
          exact kk
        · skip
          refine sw_p 1 (f' := (84, [some (2, 0), some (0, c), some (0, k)], [(2, 0), (2, 0)])) rfl ?_
          refine sw_gI (pn := 87) (i := 23) rfl rfl rfl rfl rfl (by omega) hs.1 ?_
          rw [show (ma_m ν R.1 R.2) 0 23 = R.2 from ma_23]
          refine sw_p 3 (f' := (96, [some (2, 0), some (0, c), some (0, k)], [(0, R.2 + 1), (2, 0)])) rfl ?_
          refine sw_pI (pn := 99) (i := 23) rfl rfl rfl rfl rfl (by omega) hs.1 ?_
          rw [ma_u23]
          refine sw_p 1 (f' := (100, [some (2, 0), some (0, c), some (0, k)], [(2, 0)])) rfl ?_
          refine sw_hA (pn := 103) (i := 17) (v := 17) rfl rfl rfl rfl rfl hs.1 (mo_s17 hs).1 (by omega) ?_
          refine sw_p 6 (f' := (109, [some (2, 0), some (0, c), some (0, k)], [(2, 0), (0, (3 * c) + k), (2, 17)])) rfl ?_
          refine sw_hA (pn := 112) (i := 18) (v := 18) rfl rfl rfl rfl rfl hs.1 (mo_s18 hs).1 (by omega) ?_
          refine sw_p 5 (f' := (117, [some (2, 0), some (0, c), some (0, k)], [(0, (3 * c) + k), (2, 18), (0, (3 * c) + k), (2, 17)])) rfl ?_
          refine sw_ial (pn := 118) (l := 120) rfl rfl (by omega) (mo_s18 hs).2.1 (mo_s18 hs).2.2 (by omega) (by omega) ?_
          rw [show (ma_m ν R.1 (R.2 + 1)) 18 ((3 * c) + k) = ν 18 ((3 * c) + k) from ma_ne (by omega) (by omega)]
          refine sw_ias (pn := 119) (l := 120) rfl rfl (by omega) (mo_s17 hs).2.1 (mo_s17 hs).2.2 (by omega) (by omega) ?_
          rw [ma_u17]
          refine sw_p 2 (f' := (21, [some (2, 0), some (0, c), some (0, k + 1)], [])) rfl ?_
          rw [show ma_k ν c k R = (fun i => if i = 3 * c + k then ν 18 (3 * c + k) else R.1 i, R.2 + 1) by unfold ma_k; rw [if_pos hz, if_pos (by omega)]] at kk
          exact kk
  · rw [show ma_k ν c k R = R from if_neg hz] at kk
    by_cases hth : 1 ≤ ν 15 c ∧ ν 15 c ≤ 3
    · skip
      refine sw_p 2 (f' := (23, [some (2, 0), some (0, c), some (0, k)], [(0, 3), (0, k)])) rfl ?_
      refine sw_ge2 (pt := 125) (pn := 26) rfl rfl rfl (by omega) (by omega) (fun h => absurd h (by omega)) (fun h1 => ?_)
      refine sw_p 2 (f' := (28, [some (2, 0), some (0, c), some (0, k)], [(0, c), (2, 0)])) rfl ?_
      refine sw_cv1 (pn := 31) (q0 := mj_Mo_moveAll) (q := mj_Mo_isThere) (p := 0) (as2 := [(0, c)]) (L2 := [some (2, 0), some (0, c)]) (rest := []) (v := some (0, 1)) (s1 := s) (ν1 := (ma_m ν R.1 R.2)) rfl rfl rfl rfl rfl rfl rfl rfl rfl hs.1 (by have h := mo_isThere (E := E) (d := d) (s := s) (ν := (ma_m ν R.1 R.2)) (c := c) hs (by omega) (by rw [show (ma_m ν R.1 R.2) 15 c = ν 15 c from ma_ne (by omega) (by omega)]; omega); rw [show (ma_m ν R.1 R.2) 15 c = ν 15 c from ma_ne (by omega) (by omega)] at h; rw [if_pos (by omega)] at h; exact h) ?_
      show sw_w E _ 108 (31, [some (2, 0), some (0, c), some (0, k)], [(0, 1)]) s (ma_m ν R.1 R.2) _
      refine sw_ne1 (pt := 42) (pn := 34) rfl rfl rfl (by omega) (fun _ => ?_) (fun h => absurd h (by decide))
      refine sw_p 3 (f' := (45, [some (2, 0), some (0, c), some (0, k)], [(0, k), (0, c), (2, 0)])) rfl ?_
      refine sw_cv1 (pn := 48) (q0 := mj_Mo_moveAll) (q := mj_Mo_sizeOf) (p := 0) (as2 := [(0, c), (0, k)]) (L2 := [some (2, 0), some (0, c), some (0, k)]) (rest := []) (v := some (0, ν 9 (3 * (ν 13 c) + k))) (s1 := s) (ν1 := (ma_m ν R.1 R.2)) rfl rfl rfl rfl rfl rfl rfl rfl rfl hs.1 (by have h := mo_sizeOf (E := E) (d := d) (s := s) (ν := (ma_m ν R.1 R.2)) (c := c) (k := k) hs (by omega) (by omega) (by rw [show (ma_m ν R.1 R.2) 13 c = ν 13 c from ma_ne (by omega) (by omega)]; omega); rw [show (ma_m ν R.1 R.2) 13 c = ν 13 c from ma_ne (by omega) (by omega), show (ma_m ν R.1 R.2) 9 (3 * (ν 13 c) + k) = ν 9 (3 * (ν 13 c) + k) from ma_ne (by omega) (by omega)] at h; exact h) ?_
      show sw_w E _ 108 (48, [some (2, 0), some (0, c), some (0, k)], [(0, ν 9 (3 * (ν 13 c) + k))]) s (ma_m ν R.1 R.2) _
      refine sw_le1 (pt := 119) (pn := 51) rfl rfl rfl (by omega) (fun h3 => ?_) (fun h => absurd h (by omega))
      refine sw_p 2 (f' := (21, [some (2, 0), some (0, c), some (0, k + 1)], [])) rfl ?_
      exact kk
    · skip
      refine sw_p 2 (f' := (23, [some (2, 0), some (0, c), some (0, k)], [(0, 3), (0, k)])) rfl ?_
      refine sw_ge2 (pt := 125) (pn := 26) rfl rfl rfl (by omega) (by omega) (fun h => absurd h (by omega)) (fun h1 => ?_)
      refine sw_p 2 (f' := (28, [some (2, 0), some (0, c), some (0, k)], [(0, c), (2, 0)])) rfl ?_
      refine sw_cv1 (pn := 31) (q0 := mj_Mo_moveAll) (q := mj_Mo_isThere) (p := 0) (as2 := [(0, c)]) (L2 := [some (2, 0), some (0, c)]) (rest := []) (v := some (0, 0)) (s1 := s) (ν1 := (ma_m ν R.1 R.2)) rfl rfl rfl rfl rfl rfl rfl rfl rfl hs.1 (by have h := mo_isThere (E := E) (d := d) (s := s) (ν := (ma_m ν R.1 R.2)) (c := c) hs (by omega) (by rw [show (ma_m ν R.1 R.2) 15 c = ν 15 c from ma_ne (by omega) (by omega)]; omega); rw [show (ma_m ν R.1 R.2) 15 c = ν 15 c from ma_ne (by omega) (by omega)] at h; rw [if_neg (by omega)] at h; exact h) ?_
      show sw_w E _ 108 (31, [some (2, 0), some (0, c), some (0, k)], [(0, 0)]) s (ma_m ν R.1 R.2) _
      refine sw_ne1 (pt := 42) (pn := 34) rfl rfl rfl (by omega) (fun h => absurd h (by decide)) (fun _ => ?_)
      refine sw_p 2 (f' := (36, [some (2, 0), some (0, c), some (0, k)], [(2, 0), (0, c)])) rfl ?_
      refine sw_gI (pn := 39) (i := 21) rfl rfl rfl rfl rfl (by omega) hs.1 ?_
      rw [show (ma_m ν R.1 R.2) 0 21 = ν 0 21 from ma_ne (by omega) (by omega)]
      refine sw_ne2 (pt := 125) (pn := 42) rfl rfl rfl (by omega) (by omega) (fun h => absurd h (by omega)) (fun h3 => ?_)
      refine sw_p 3 (f' := (45, [some (2, 0), some (0, c), some (0, k)], [(0, k), (0, c), (2, 0)])) rfl ?_
      refine sw_cv1 (pn := 48) (q0 := mj_Mo_moveAll) (q := mj_Mo_sizeOf) (p := 0) (as2 := [(0, c), (0, k)]) (L2 := [some (2, 0), some (0, c), some (0, k)]) (rest := []) (v := some (0, ν 9 (3 * (ν 13 c) + k))) (s1 := s) (ν1 := (ma_m ν R.1 R.2)) rfl rfl rfl rfl rfl rfl rfl rfl rfl hs.1 (by have h := mo_sizeOf (E := E) (d := d) (s := s) (ν := (ma_m ν R.1 R.2)) (c := c) (k := k) hs (by omega) (by omega) (by rw [show (ma_m ν R.1 R.2) 13 c = ν 13 c from ma_ne (by omega) (by omega)]; omega); rw [show (ma_m ν R.1 R.2) 13 c = ν 13 c from ma_ne (by omega) (by omega), show (ma_m ν R.1 R.2) 9 (3 * (ν 13 c) + k) = ν 9 (3 * (ν 13 c) + k) from ma_ne (by omega) (by omega)] at h; exact h) ?_
      show sw_w E _ 108 (48, [some (2, 0), some (0, c), some (0, k)], [(0, ν 9 (3 * (ν 13 c) + k))]) s (ma_m ν R.1 R.2) _
      refine sw_le1 (pt := 119) (pn := 51) rfl rfl rfl (by omega) (fun h4 => ?_) (fun h => absurd h (by omega))
      refine sw_p 2 (f' := (21, [some (2, 0), some (0, c), some (0, k + 1)], [])) rfl ?_
      exact kk
theorem ma_wl (hs : mo_sh s) (hB : mo_B ν) (hq : ∀ c k, 0 ≤ c → c < ν 0 12 → 0 ≤ k → k < 3 → (1 ≤ ν 15 c ∧ ν 15 c ≤ 3) ∨ c = ν 0 21 → 0 < ν 9 (3 * ν 13 c + k) → -2147483648 ≤ ν 18 (3 * c + k) ∧ ν 18 (3 * c + k) < 2147483648) : ∀ (n : Nat) (c : Int) (R : ma_S) (o2 : Option mg_V), 0 ≤ c → c + n = ν 0 12 → (∀ i, 3 * c ≤ i → R.1 i = ν 17 i) → (∀ (o1 o2 : Option mg_V), sw_w E (d + 1) 108 (131, [some (2, 0), o1, o2], []) s (ma_f ν (ma_l ν n c R)) Q) → sw_w E (d + 1) 108 (11, [some (2, 0), some (0, c), o2], []) s (ma_m ν R.1 R.2) Q := by
  intro n
  induction n with
  | zero =>
    intro c R o2 hc hn hR kk
    have h12 := hB.2.2.1
    refine sw_p 2 (f' := (13, [some (2, 0), some (0, c), o2], [(2, 0), (0, c)])) rfl ?_
    refine sw_gI (pn := 16) (i := 12) rfl rfl rfl rfl rfl (by omega) hs.1 ?_
    rw [show (ma_m ν R.1 R.2) 0 12 = ν 0 12 from ma_ne (by omega) (by omega)]
    refine sw_ge2 (pt := 131) (pn := 19) rfl rfl rfl (by omega) (by omega) (fun h1 => ?_) (fun h => absurd h (by omega))
    exact kk _ _
  | succ n ih =>
    intro c R o2 hc hn hR kk
    have h12 := hB.2.2.1
    have h21 := hB.2.2.2.1
    have hcd := hB.cd c hc (by omega)
    have hrb := fun k => hB.2.2.2.2.2.2.2.2.2.2.2.2.1 (3 * c + k)
    have hr0 := hrb 0 (by omega) (by omega)
    have hr1 := hrb 1 (by omega) (by omega)
    have hr2 := hrb 2 (by omega) (by omega)
    have hk1 : ∀ (R : ma_S) (k i : Int), i ≠ 3 * c + k → (ma_k ν c k R).1 i = R.1 i := fun R k i hi => by
      unfold ma_k
      split
      · exact if_neg hi
      · rfl
    by_cases hA : (1 ≤ ν 15 c ∧ ν 15 c ≤ 3) ∨ c = ν 0 21
    · rw [show ma_l ν (n + 1) c R = ma_l ν n (c + 1) (ma_k ν c 2 (ma_k ν c 1 (ma_k ν c 0 R))) by rw [ma_l, show ma_c ν c R = _ from if_pos hA]] at kk
      refine sw_p 2 (f' := (13, [some (2, 0), some (0, c), o2], [(2, 0), (0, c)])) rfl ?_
      refine sw_gI (pn := 16) (i := 12) rfl rfl rfl rfl rfl (by omega) hs.1 ?_
      rw [show (ma_m ν R.1 R.2) 0 12 = ν 0 12 from ma_ne (by omega) (by omega)]
      refine sw_ge2 (pt := 131) (pn := 19) rfl rfl rfl (by omega) (by omega) (fun h => absurd h (by omega)) (fun h1 => ?_)
      refine sw_p 2 (f' := (21, [some (2, 0), some (0, c), some (0, 0)], [])) rfl ?_
      refine ma_wk (k := 0) hs hB (by omega) (by omega) hA (by rw [hR _ (by omega)]; exact hr0) (hq c 0 hc (by omega) (by omega) (by omega) hA) ?_
      refine ma_wk (k := 0 + 1) hs hB (by omega) (by omega) hA (by rw [hk1 _ _ _ (by omega), hR _ (by omega)]; exact hr1) (hq c 1 hc (by omega) (by omega) (by omega) hA) ?_
      refine ma_wk (k := 0 + 1 + 1) hs hB (by omega) (by omega) hA (by rw [hk1 _ _ _ (by omega), hk1 _ _ _ (by omega), hR _ (by omega)]; exact hr2) (hq c 2 hc (by omega) (by omega) (by omega) hA) ?_
      show sw_w E (d + 1) 108 (21, [some (2, 0), some (0, c), some (0, 3)], []) s (ma_m ν (ma_k ν c 2 (ma_k ν c 1 (ma_k ν c 0 R))).1 (ma_k ν c 2 (ma_k ν c 1 (ma_k ν c 0 R))).2) _
      refine sw_p 2 (f' := (23, [some (2, 0), some (0, c), some (0, 3)], [(0, 3), (0, 3)])) rfl ?_
      refine sw_ge2 (pt := 125) (pn := 26) rfl rfl rfl (by omega) (by omega) (fun _ => ?_) (fun h => absurd h (by decide))
      refine sw_p 2 (f' := (11, [some (2, 0), some (0, c + 1), some (0, 3)], [])) rfl ?_
      exact ih (c + 1) _ _ (by omega) (by omega) (fun i hi => by rw [hk1 _ _ _ (by omega), hk1 _ _ _ (by omega), hk1 _ _ _ (by omega)]; exact hR i (by omega)) kk
    · rw [show ma_l ν (n + 1) c R = ma_l ν n (c + 1) R by rw [ma_l, show ma_c ν c R = R from if_neg hA]] at kk
      refine sw_p 2 (f' := (13, [some (2, 0), some (0, c), o2], [(2, 0), (0, c)])) rfl ?_
      refine sw_gI (pn := 16) (i := 12) rfl rfl rfl rfl rfl (by omega) hs.1 ?_
      rw [show (ma_m ν R.1 R.2) 0 12 = ν 0 12 from ma_ne (by omega) (by omega)]
      refine sw_ge2 (pt := 131) (pn := 19) rfl rfl rfl (by omega) (by omega) (fun h => absurd h (by omega)) (fun h1 => ?_)
      refine sw_p 4 (f' := (23, [some (2, 0), some (0, c), some (0, 0)], [(0, 3), (0, 0)])) rfl ?_
      refine sw_ge2 (pt := 125) (pn := 26) rfl rfl rfl (by omega) (by omega) (fun h => absurd h (by decide)) (fun _ => ?_)
      refine sw_p 2 (f' := (28, [some (2, 0), some (0, c), some (0, 0)], [(0, c), (2, 0)])) rfl ?_
      refine sw_cv1 (pn := 31) (q0 := mj_Mo_moveAll) (q := mj_Mo_isThere) (p := 0) (as2 := [(0, c)]) (L2 := [some (2, 0), some (0, c)]) (rest := []) (v := some (0, 0)) (s1 := s) (ν1 := (ma_m ν R.1 R.2)) rfl rfl rfl rfl rfl rfl rfl rfl rfl hs.1 (by have h := mo_isThere (E := E) (d := d) (s := s) (ν := (ma_m ν R.1 R.2)) (c := c) hs (by omega) (by rw [show (ma_m ν R.1 R.2) 15 c = ν 15 c from ma_ne (by omega) (by omega)]; omega); rw [show (ma_m ν R.1 R.2) 15 c = ν 15 c from ma_ne (by omega) (by omega)] at h; rw [if_neg (by omega)] at h; exact h) ?_
      show sw_w E _ 108 (31, [some (2, 0), some (0, c), some (0, 0)], [(0, 0)]) s (ma_m ν R.1 R.2) _
      refine sw_ne1 (pt := 42) (pn := 34) rfl rfl rfl (by omega) (fun h => absurd h (by decide)) (fun _ => ?_)
      refine sw_p 2 (f' := (36, [some (2, 0), some (0, c), some (0, 0)], [(2, 0), (0, c)])) rfl ?_
      refine sw_gI (pn := 39) (i := 21) rfl rfl rfl rfl rfl (by omega) hs.1 ?_
      rw [show (ma_m ν R.1 R.2) 0 21 = ν 0 21 from ma_ne (by omega) (by omega)]
      refine sw_ne2 (pt := 125) (pn := 42) rfl rfl rfl (by omega) (by omega) (fun h4 => ?_) (fun h => absurd h (by omega))
      refine sw_p 2 (f' := (11, [some (2, 0), some (0, c + 1), some (0, 0)], [])) rfl ?_
      exact ih (c + 1) _ _ (by omega) (by omega) (fun i hi => hR i (by omega)) kk
theorem mo_B_ma (h : mo_B ν) (hr : ∀ i, 0 ≤ i → i < 120 → -1 ≤ r i ∧ r i ≤ 4096) : mo_B (ma_m ν r m) := by
  have e : ∀ {p i : Int}, p ≠ 17 → ¬ (p = 0 ∧ i = 23) → ma_m ν r m p i = ν p i := fun h h2 => ma_ne h h2
  obtain ⟨h1, h2, h3, h4, h5, h6, h7, h8, h9, h10, h11, h12, h13, h14⟩ := h
  refine ⟨?_, ?_, ?_, ?_, ?_, ?_, ?_, ?_, ?_, ?_, ?_, ?_, ?_, ?_⟩
  · rw [e (by omega) (by omega)]; exact h1
  · rw [e (by omega) (by omega)]; exact h2
  · rw [e (by omega) (by omega)]; exact h3
  · rw [e (by omega) (by omega), e (by omega) (by omega)]; exact h4
  · rw [e (by omega) (by omega)]; exact h5
  · rw [e (by omega) (by omega)]; exact h6
  · intro k a b; rw [e (by omega) (by omega)]; exact h7 k a b
  · intro k a b; rw [e (by omega) (by omega)]; exact h8 k a b
  · intro k a b; rw [e (by omega) (by omega)]; exact h9 k a b
  · intro k a b; rw [e (by omega) (by omega)]; exact h10 k a b
  · intro k a b; rw [e (by omega) (by omega), e (by omega) (by omega), e (by omega) (by omega), e (by omega) (by omega)]; exact h11 k a b
  · intro k a b; rw [e (by omega) (by omega)]; exact h12 k a b
  · intro k a b; rw [ma_17]; exact hr k a b
  · intro k a b; rw [e (by omega) (by omega), e (by omega) (by omega), e (by omega) (by omega)]; exact h14 k a b
/-- the plans of what is to move lie among the addresses -/
def ma_q (ν : mm_T) : Prop := ∀ c k, 0 ≤ c → c < ν 0 12 → 0 ≤ k → k < 3 → (1 ≤ ν 15 c ∧ ν 15 c ≤ 3) ∨ c = ν 0 21 → 0 < ν 9 (3 * ν 13 c + k) → 0 ≤ ν 18 (3 * c + k) ∧ ν 18 (3 * c + k) ≤ 4096
theorem ma_k_b (hq : 0 < ν 9 (3 * ν 13 c + k) → 0 ≤ ν 18 (3 * c + k) ∧ ν 18 (3 * c + k) ≤ 4096) (hR : ∀ i, 0 ≤ i → i < 120 → -1 ≤ R.1 i ∧ R.1 i ≤ 4096) : ∀ i, 0 ≤ i → i < 120 → -1 ≤ (ma_k ν c k R).1 i ∧ (ma_k ν c k R).1 i ≤ 4096 := by
  intro i h1 h2
  unfold ma_k
  split
  · next h =>
    have := hq h
    show -1 ≤ (if i = 3 * c + k then ν 18 (3 * c + k) else R.1 i) ∧ (if i = 3 * c + k then ν 18 (3 * c + k) else R.1 i) ≤ 4096
    split
    · omega
    · exact hR i h1 h2
  · exact hR i h1 h2
theorem ma_l_b (hq : ma_q ν) : ∀ (n : Nat) (c : Int) (R : ma_S), 0 ≤ c → c + n = ν 0 12 → (∀ i, 0 ≤ i → i < 120 → -1 ≤ R.1 i ∧ R.1 i ≤ 4096) → ∀ i, 0 ≤ i → i < 120 → -1 ≤ (ma_l ν n c R).1 i ∧ (ma_l ν n c R).1 i ≤ 4096
  | 0, c, R, h0, hn, hR => hR
  | n + 1, c, R, h0, hn, hR => by
    unfold ma_l
    refine ma_l_b hq n (c + 1) _ (by omega) (by omega) ?_
    unfold ma_c
    split
    · next hA => exact ma_k_b (hq c 2 h0 (by omega) (by omega) (by omega) hA) (ma_k_b (hq c 1 h0 (by omega) (by omega) (by omega) hA) (ma_k_b (hq c 0 h0 (by omega) (by omega) (by omega) hA) hR))
    · exact hR
theorem pn_fr : fr_r [7, 18, 5, 6] ν (mo_pn ν) := fr_tr (me_fr (ν 0 1).toNat ν) (qs := [18, 5, 6]) (fun p hp => by
  funext i
  exact pn_ne (fun h => hp (by rw [h]; decide)) (fun h => hp (by rw [h]; decide)) (fun h => hp (by rw [h]; decide))) (by decide) (by decide)
theorem mo_moveAll (hs : mo_sh s) (hB : mo_B ν) (hC : mo_C ν) (hT : tr_I ν f) (hq : ma_q (mo_pn ν)) (hc : 0 ≤ ν 0 21) : sw_w E (d + 4) 108 (0, [some (2, 0), none, none], []) s ν (sw_is none s (ma_e (mo_pn ν))) := by
  obtain ⟨ν1, e1⟩ : ∃ ν1, ν1 = mo_pn ν := ⟨_, rfl⟩
  have hf : fr_r [7, 18, 5, 6] ν ν1 := by rw [e1]; exact pn_fr
  have hB1 : mo_B ν1 := mo_B_fr (fr_w hf (by decide)) hB
  have hpl := mo_plan (E := E) (d := d) hs hB hC hT
  rw [← e1] at hq hpl ⊢
  have hc1 : 0 ≤ ν1 0 21 := by rw [hf 0 (by decide)]; exact hc
  have h12 := hB1.2.2.1
  have h21 := hB1.2.2.2.1
  refine sw_p 1 (f' := (1, [some (2, 0), none, none], [(2, 0)])) rfl ?_
  refine sw_cv1 (pn := 4) (q0 := mj_Mo_moveAll) (q := mj_Mo_plan) (p := 0) (as2 := []) (L2 := [some (2, 0), none, none, none, none, none, none]) (rest := []) (v := none) (s1 := s) (ν1 := ν1) rfl rfl rfl rfl rfl rfl rfl rfl rfl hs.1 hpl ?_
  show sw_w E _ 108 (4, [some (2, 0), none, none], []) s ν1 _
  refine sw_p 2 (f' := (6, [some (2, 0), none, none], [(0, 0), (2, 0)])) rfl ?_
  refine sw_pI (pn := 9) (i := 23) rfl rfl rfl rfl rfl (by omega) hs.1 ?_
  refine sw_p 2 (f' := (11, [some (2, 0), some (0, 0), none], [])) rfl ?_
  rw [ma_0]
  refine ma_wl (R := (ν1 17, 0)) hs hB1 (fun c k h1 h2 h3 h4 h5 h6 => by have := hq c k h1 h2 h3 h4 h5 h6; omega) (ν1 0 12).toNat 0 _ (by omega) (by omega) (fun i _ => rfl) (fun o1 o2 => ?_)
  have hBX : mo_B (ma_f ν1 (ma_l ν1 (ν1 0 12).toNat 0 (ν1 17, 0))) := mo_B_ma hB1 (ma_l_b hq _ 0 _ (by omega) (by omega) hB1.2.2.2.2.2.2.2.2.2.2.2.2.1)
  have hX21 : mo_ch (ma_f ν1 (ma_l ν1 (ν1 0 12).toNat 0 (ν1 17, 0))) 2 1 0 21 = ν1 0 21 := by unfold mo_ch ma_f; rw [rg_ne (by omega), ma_ne (by omega) (by omega)]
  unfold ma_e
  generalize ma_f ν1 (ma_l ν1 (ν1 0 12).toNat 0 (ν1 17, 0)) = X at hBX hX21 ⊢
  refine sw_p 3 (f' := (134, [some (2, 0), o1, o2], [(0, 1), (0, 2), (2, 0)])) rfl ?_
  refine sw_cv1 (pn := 137) (q0 := mj_Mo_moveAll) (q := mj_Mo_change) (p := 0) (as2 := [(0, 2), (0, 1)]) (L2 := [some (2, 0), some (0, 2), some (0, 1), none]) (rest := []) (v := none) (s1 := s) (ν1 := (mo_ch X 2 1)) rfl rfl rfl rfl rfl rfl rfl rfl rfl hs.1 (mo_change hs hBX (by omega)) ?_
  show sw_w E _ 108 (137, [some (2, 0), o1, o2], []) s (mo_ch X 2 1) _
  refine sw_p 1 (f' := (138, [some (2, 0), o1, o2], [(2, 0)])) rfl ?_
  refine sw_hA (pn := 141) (i := 15) (v := 15) rfl rfl rfl rfl rfl hs.1 (mo_s15 hs).1 (by omega) ?_
  refine sw_p 1 (f' := (142, [some (2, 0), o1, o2], [(2, 0), (2, 15)])) rfl ?_
  refine sw_gI (pn := 145) (i := 21) rfl rfl rfl rfl rfl (by omega) hs.1 ?_
  rw [show (mo_ch X 2 1) 0 21 = ν1 0 21 from hX21]
  refine sw_p 1 (f' := (146, [some (2, 0), o1, o2], [(0, 1), (0, ν1 0 21), (2, 15)])) rfl ?_
  refine sw_ias (pn := 147) (l := 40) rfl rfl (by omega) (mo_s15 hs).2.1 (mo_s15 hs).2.2 (by omega) (by omega) ?_
  refine sw_p 2 (f' := (149, [some (2, 0), o1, o2], [(0, -1), (2, 0)])) rfl ?_
  refine sw_pI (pn := 152) (i := 21) rfl rfl rfl rfl rfl (by omega) hs.1 ?_
  exact sw_retV rfl rfl rfl ⟨rfl, rfl, rfl⟩
end MA
