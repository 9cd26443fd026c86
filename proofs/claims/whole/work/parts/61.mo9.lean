/-! the reference: work, type, plug -/
section MO9
variable {E : mv_E} {s ν : mm_T} {d : Nat} {b c r x y w p f g k t v lo hi l z : Int}
theorem mo_fi_cd {z : Int} : ∀ (n : Nat) (r : Int), mo_fi (mo_cd ν z) c r n = mo_fi ν c r n
  | 0, r => rfl
  | n + 1, r => by
    rw [mo_fi, mo_fi, mo_pd_cd, mo_fi_cd n]
/-- the first pending ticket of c, or -1 -/
def mo_ft (ν : mm_T) (c : Int) : Int := mo_fi ν c (-1) (ν 0 24).toNat
theorem mo_ft_b (hB : mo_B ν) : -1 ≤ mo_ft ν c ∧ mo_ft ν c < 512 := mo_fi_b ν c _ _ (by omega) (by have := hB.2.2.2.2.2.1; omega)
theorem mo_ft_c (hs : mo_sh s) (hB : mo_B ν) (hc : -2147483648 ≤ c ∧ c < 2147483648) : sw_w E d 115 (0, [some (2, 0), some (0, c), none, none], []) s (mo_cd ν 0) (sw_is (some (0, mo_ft ν c)) s (mo_cd ν 0)) := by
  have h := mo_firstOf (E := E) (d := d) (c := c) hs (mo_B_cd (z := 0) hB) hc
  rw [mo_fi_cd, show mo_cd ν 0 0 24 = ν 0 24 from mm_u_ne (by omega)] at h
  exact h
/-- the last piece of a request done -/
def mo_wf (ν : mm_T) (c t : Int) : mm_T := mm_u (mm_u ν 20 c (31 * ν 20 c + ν 27 t)) 28 t (Int.bmod (31 * ν 20 c + ν 27 t + ν 26 t) 4294967296)
theorem mo_work_n1 (hs : mo_sh s) (hB : mo_B ν) (hc : 0 ≤ c ∧ c < ν 0 12) (h1 : ν 19 c = 0) (h2 : ν 15 c ≠ 1) : sw_w E (d + 1) 118 (0, [some (2, 0), some (0, c), none], []) s ν (sw_is (some (0, 0)) s (mo_cd ν 0)) := by
  have hn := hB.2.2.1
  have hcd := hB.cd c (by omega) (by omega)
  have hft := mo_ft_b (c := c) hB
  have htk := hB.tk (mo_ft ν c)
  refine sw_p 3 (f' := (3, [some (2, 0), some (0, c), none], [(0, c), (2, 0), (2, 0)])) rfl ?_
  refine sw_cv1 (pn := 6) (q0 := mj_Mo_work) (q := mj_Mo_isCard) (p := 0) (as2 := [(0, c)]) (L2 := [some (2, 0), some (0, c)]) (rest := [(2, 0)]) (v := some (0, 1)) (s1 := s) (ν1 := ν) rfl rfl rfl rfl rfl rfl rfl rfl rfl hs.1 (mo_isC1 hs hB (by omega)) ?_
  show sw_w E _ 118 (6, [some (2, 0), some (0, c), none], [(0, 1), (2, 0)]) s ν _
  refine sw_eq1 (pt := 13) (pn := 9) rfl rfl rfl (by omega) (fun h => absurd h (by decide)) (fun _ => ?_)
  refine sw_p 2 (f' := (14, [some (2, 0), some (0, c), none], [(0, 0), (2, 0)])) rfl ?_
  refine sw_pI (pn := 17) (i := 0) rfl rfl rfl rfl rfl (by omega) hs.1 ?_
  refine sw_p 1 (f' := (18, [some (2, 0), some (0, c), none], [(2, 0)])) rfl ?_
  refine sw_gI (pn := 21) (i := 0) rfl rfl rfl rfl rfl (by omega) hs.1 ?_
  rw [show (mm_u ν 0 0 0) 0 0 = 0 from mm_u_at]
  refine sw_le1 (pt := 26) (pn := 24) rfl rfl rfl (by omega) (fun _ => ?_) (fun h => absurd h (by decide))
  refine sw_p 2 (f' := (28, [some (2, 0), some (0, c), none], [(0, c), (2, 0)])) rfl ?_
  refine sw_cv1 (pn := 31) (q0 := mj_Mo_work) (q := mj_Mo_firstOf) (p := 0) (as2 := [(0, c)]) (L2 := [some (2, 0), some (0, c), none, none]) (rest := []) (v := some (0, mo_ft ν c)) (s1 := s) (ν1 := (mm_u ν 0 0 0)) rfl rfl rfl rfl rfl rfl rfl rfl rfl hs.1 (mo_ft_c hs hB (by omega)) ?_
  show sw_w E _ 118 (31, [some (2, 0), some (0, c), none], [(0, mo_ft ν c)]) s (mm_u ν 0 0 0) _
  refine sw_p 2 (f' := (33, [some (2, 0), some (0, c), some (0, mo_ft ν c)], [(2, 0)])) rfl ?_
  refine sw_hA (pn := 36) (i := 19) (v := 19) rfl rfl rfl rfl rfl hs.1 (mo_s19 hs).1 (by omega) ?_
  refine sw_p 1 (f' := (37, [some (2, 0), some (0, c), some (0, mo_ft ν c)], [(0, c), (2, 19)])) rfl ?_
  refine sw_ial (pn := 38) (l := 40) rfl rfl (by omega) (mo_s19 hs).2.1 (mo_s19 hs).2.2 (by omega) (by omega) ?_
  rw [show (mm_u ν 0 0 0) 19 c = ν 19 c from mm_u_ne (by omega)]
  refine sw_ne1 (pt := 74) (pn := 41) rfl rfl rfl (by omega) (fun h => absurd h (by omega)) (fun h3 => ?_)
  refine sw_p 1 (f' := (42, [some (2, 0), some (0, c), some (0, mo_ft ν c)], [(2, 0)])) rfl ?_
  refine sw_hA (pn := 45) (i := 15) (v := 15) rfl rfl rfl rfl rfl hs.1 (mo_s15 hs).1 (by omega) ?_
  refine sw_p 1 (f' := (46, [some (2, 0), some (0, c), some (0, mo_ft ν c)], [(0, c), (2, 15)])) rfl ?_
  refine sw_ial (pn := 47) (l := 40) rfl rfl (by omega) (mo_s15 hs).2.1 (mo_s15 hs).2.2 (by omega) (by omega) ?_
  rw [show (mm_u ν 0 0 0) 15 c = ν 15 c from mm_u_ne (by omega)]
  refine sw_p 1 (f' := (48, [some (2, 0), some (0, c), some (0, mo_ft ν c)], [(0, 1), (0, ν 15 c)])) rfl ?_
  refine sw_ne2 (pt := 55) (pn := 51) rfl rfl rfl (by omega) (by omega) (fun h4 => ?_) (fun h => absurd h (by omega))
  refine sw_p 1 (f' := (56, [some (2, 0), some (0, c), some (0, mo_ft ν c)], [(0, 0)])) rfl ?_
  exact sw_retZ rfl rfl rfl (by omega) ⟨rfl, rfl, rfl⟩
theorem mo_work_n2 (hs : mo_sh s) (hB : mo_B ν) (hc : 0 ≤ c ∧ c < ν 0 12) (h1 : ν 19 c = 0) (h2 : ν 15 c = 1) (h3 : mo_ft ν c < 0) : sw_w E (d + 1) 118 (0, [some (2, 0), some (0, c), none], []) s ν (sw_is (some (0, 0)) s (mo_cd ν 0)) := by
  have hn := hB.2.2.1
  have hcd := hB.cd c (by omega) (by omega)
  have hft := mo_ft_b (c := c) hB
  have htk := hB.tk (mo_ft ν c)
  refine sw_p 3 (f' := (3, [some (2, 0), some (0, c), none], [(0, c), (2, 0), (2, 0)])) rfl ?_
  refine sw_cv1 (pn := 6) (q0 := mj_Mo_work) (q := mj_Mo_isCard) (p := 0) (as2 := [(0, c)]) (L2 := [some (2, 0), some (0, c)]) (rest := [(2, 0)]) (v := some (0, 1)) (s1 := s) (ν1 := ν) rfl rfl rfl rfl rfl rfl rfl rfl rfl hs.1 (mo_isC1 hs hB (by omega)) ?_
  show sw_w E _ 118 (6, [some (2, 0), some (0, c), none], [(0, 1), (2, 0)]) s ν _
  refine sw_eq1 (pt := 13) (pn := 9) rfl rfl rfl (by omega) (fun h => absurd h (by decide)) (fun _ => ?_)
  refine sw_p 2 (f' := (14, [some (2, 0), some (0, c), none], [(0, 0), (2, 0)])) rfl ?_
  refine sw_pI (pn := 17) (i := 0) rfl rfl rfl rfl rfl (by omega) hs.1 ?_
  refine sw_p 1 (f' := (18, [some (2, 0), some (0, c), none], [(2, 0)])) rfl ?_
  refine sw_gI (pn := 21) (i := 0) rfl rfl rfl rfl rfl (by omega) hs.1 ?_
  rw [show (mm_u ν 0 0 0) 0 0 = 0 from mm_u_at]
  refine sw_le1 (pt := 26) (pn := 24) rfl rfl rfl (by omega) (fun _ => ?_) (fun h => absurd h (by decide))
  refine sw_p 2 (f' := (28, [some (2, 0), some (0, c), none], [(0, c), (2, 0)])) rfl ?_
  refine sw_cv1 (pn := 31) (q0 := mj_Mo_work) (q := mj_Mo_firstOf) (p := 0) (as2 := [(0, c)]) (L2 := [some (2, 0), some (0, c), none, none]) (rest := []) (v := some (0, mo_ft ν c)) (s1 := s) (ν1 := (mm_u ν 0 0 0)) rfl rfl rfl rfl rfl rfl rfl rfl rfl hs.1 (mo_ft_c hs hB (by omega)) ?_
  show sw_w E _ 118 (31, [some (2, 0), some (0, c), none], [(0, mo_ft ν c)]) s (mm_u ν 0 0 0) _
  refine sw_p 2 (f' := (33, [some (2, 0), some (0, c), some (0, mo_ft ν c)], [(2, 0)])) rfl ?_
  refine sw_hA (pn := 36) (i := 19) (v := 19) rfl rfl rfl rfl rfl hs.1 (mo_s19 hs).1 (by omega) ?_
  refine sw_p 1 (f' := (37, [some (2, 0), some (0, c), some (0, mo_ft ν c)], [(0, c), (2, 19)])) rfl ?_
  refine sw_ial (pn := 38) (l := 40) rfl rfl (by omega) (mo_s19 hs).2.1 (mo_s19 hs).2.2 (by omega) (by omega) ?_
  rw [show (mm_u ν 0 0 0) 19 c = ν 19 c from mm_u_ne (by omega)]
  refine sw_ne1 (pt := 74) (pn := 41) rfl rfl rfl (by omega) (fun h => absurd h (by omega)) (fun h3 => ?_)
  refine sw_p 1 (f' := (42, [some (2, 0), some (0, c), some (0, mo_ft ν c)], [(2, 0)])) rfl ?_
  refine sw_hA (pn := 45) (i := 15) (v := 15) rfl rfl rfl rfl rfl hs.1 (mo_s15 hs).1 (by omega) ?_
  refine sw_p 1 (f' := (46, [some (2, 0), some (0, c), some (0, mo_ft ν c)], [(0, c), (2, 15)])) rfl ?_
  refine sw_ial (pn := 47) (l := 40) rfl rfl (by omega) (mo_s15 hs).2.1 (mo_s15 hs).2.2 (by omega) (by omega) ?_
  rw [show (mm_u ν 0 0 0) 15 c = ν 15 c from mm_u_ne (by omega)]
  refine sw_p 1 (f' := (48, [some (2, 0), some (0, c), some (0, mo_ft ν c)], [(0, 1), (0, ν 15 c)])) rfl ?_
  refine sw_ne2 (pt := 55) (pn := 51) rfl rfl rfl (by omega) (by omega) (fun h => absurd h (by omega)) (fun h4 => ?_)
  refine sw_p 1 (f' := (52, [some (2, 0), some (0, c), some (0, mo_ft ν c)], [(0, mo_ft ν c)])) rfl ?_
  refine sw_ge1 (pt := 57) (pn := 55) rfl rfl rfl (by omega) (fun h => absurd h (by omega)) (fun h5 => ?_)
  refine sw_p 1 (f' := (56, [some (2, 0), some (0, c), some (0, mo_ft ν c)], [(0, 0)])) rfl ?_
  exact sw_retZ rfl rfl rfl (by omega) ⟨rfl, rfl, rfl⟩
theorem mo_work_a1 (hs : mo_sh s) (hB : mo_B ν) (hc : 0 ≤ c ∧ c < ν 0 12) (h1 : 1 < ν 19 c) : sw_w E (d + 1) 118 (0, [some (2, 0), some (0, c), none], []) s ν (sw_is (some (0, 1)) s (mm_u (mo_cd ν 0) 19 c (ν 19 c - 1))) := by
  have hn := hB.2.2.1
  have hcd := hB.cd c (by omega) (by omega)
  have hft := mo_ft_b (c := c) hB
  have htk := hB.tk (mo_ft ν c)
  refine sw_p 3 (f' := (3, [some (2, 0), some (0, c), none], [(0, c), (2, 0), (2, 0)])) rfl ?_
  refine sw_cv1 (pn := 6) (q0 := mj_Mo_work) (q := mj_Mo_isCard) (p := 0) (as2 := [(0, c)]) (L2 := [some (2, 0), some (0, c)]) (rest := [(2, 0)]) (v := some (0, 1)) (s1 := s) (ν1 := ν) rfl rfl rfl rfl rfl rfl rfl rfl rfl hs.1 (mo_isC1 hs hB (by omega)) ?_
  show sw_w E _ 118 (6, [some (2, 0), some (0, c), none], [(0, 1), (2, 0)]) s ν _
  refine sw_eq1 (pt := 13) (pn := 9) rfl rfl rfl (by omega) (fun h => absurd h (by decide)) (fun _ => ?_)
  refine sw_p 2 (f' := (14, [some (2, 0), some (0, c), none], [(0, 0), (2, 0)])) rfl ?_
  refine sw_pI (pn := 17) (i := 0) rfl rfl rfl rfl rfl (by omega) hs.1 ?_
  refine sw_p 1 (f' := (18, [some (2, 0), some (0, c), none], [(2, 0)])) rfl ?_
  refine sw_gI (pn := 21) (i := 0) rfl rfl rfl rfl rfl (by omega) hs.1 ?_
  rw [show (mm_u ν 0 0 0) 0 0 = 0 from mm_u_at]
  refine sw_le1 (pt := 26) (pn := 24) rfl rfl rfl (by omega) (fun _ => ?_) (fun h => absurd h (by decide))
  refine sw_p 2 (f' := (28, [some (2, 0), some (0, c), none], [(0, c), (2, 0)])) rfl ?_
  refine sw_cv1 (pn := 31) (q0 := mj_Mo_work) (q := mj_Mo_firstOf) (p := 0) (as2 := [(0, c)]) (L2 := [some (2, 0), some (0, c), none, none]) (rest := []) (v := some (0, mo_ft ν c)) (s1 := s) (ν1 := (mm_u ν 0 0 0)) rfl rfl rfl rfl rfl rfl rfl rfl rfl hs.1 (mo_ft_c hs hB (by omega)) ?_
  show sw_w E _ 118 (31, [some (2, 0), some (0, c), none], [(0, mo_ft ν c)]) s (mm_u ν 0 0 0) _
  refine sw_p 2 (f' := (33, [some (2, 0), some (0, c), some (0, mo_ft ν c)], [(2, 0)])) rfl ?_
  refine sw_hA (pn := 36) (i := 19) (v := 19) rfl rfl rfl rfl rfl hs.1 (mo_s19 hs).1 (by omega) ?_
  refine sw_p 1 (f' := (37, [some (2, 0), some (0, c), some (0, mo_ft ν c)], [(0, c), (2, 19)])) rfl ?_
  refine sw_ial (pn := 38) (l := 40) rfl rfl (by omega) (mo_s19 hs).2.1 (mo_s19 hs).2.2 (by omega) (by omega) ?_
  rw [show (mm_u ν 0 0 0) 19 c = ν 19 c from mm_u_ne (by omega)]
  refine sw_ne1 (pt := 74) (pn := 41) rfl rfl rfl (by omega) (fun h3 => ?_) (fun h => absurd h (by omega))
  refine sw_p 1 (f' := (75, [some (2, 0), some (0, c), some (0, mo_ft ν c)], [(2, 0)])) rfl ?_
  refine sw_hA (pn := 78) (i := 19) (v := 19) rfl rfl rfl rfl rfl hs.1 (mo_s19 hs).1 (by omega) ?_
  refine sw_p 2 (f' := (80, [some (2, 0), some (0, c), some (0, mo_ft ν c)], [(0, c), (2, 19), (0, c), (2, 19)])) rfl ?_
  refine sw_ial (pn := 81) (l := 40) rfl rfl (by omega) (mo_s19 hs).2.1 (mo_s19 hs).2.2 (by omega) (by omega) ?_
  rw [show (mm_u ν 0 0 0) 19 c = ν 19 c from mm_u_ne (by omega)]
  refine sw_p 2 (f' := (83, [some (2, 0), some (0, c), some (0, mo_ft ν c)], [(0, (ν 19 c) - 1), (0, c), (2, 19)])) rfl ?_
  refine sw_ias (pn := 84) (l := 40) rfl rfl (by omega) (mo_s19 hs).2.1 (mo_s19 hs).2.2 (by omega) (by omega) ?_
  refine sw_p 1 (f' := (85, [some (2, 0), some (0, c), some (0, mo_ft ν c)], [(2, 0)])) rfl ?_
  refine sw_hA (pn := 88) (i := 19) (v := 19) rfl rfl rfl rfl rfl hs.1 (mo_s19 hs).1 (by omega) ?_
  refine sw_p 1 (f' := (89, [some (2, 0), some (0, c), some (0, mo_ft ν c)], [(0, c), (2, 19)])) rfl ?_
  refine sw_ial (pn := 90) (l := 40) rfl rfl (by omega) (mo_s19 hs).2.1 (mo_s19 hs).2.2 (by omega) (by omega) ?_
  rw [show (mm_u (mm_u ν 0 0 0) 19 c ((ν 19 c) - 1)) 19 c = (ν 19 c) - 1 from mm_u_at]
  refine sw_ne1 (pt := 135) (pn := 93) rfl rfl rfl (by omega) (fun h4 => ?_) (fun h => absurd h (by omega))
  refine sw_p 1 (f' := (136, [some (2, 0), some (0, c), some (0, mo_ft ν c)], [(0, 1)])) rfl ?_
  exact sw_retZ rfl rfl rfl (by omega) ⟨rfl, rfl, rfl⟩
theorem mo_work_a2 (hs : mo_sh s) (hB : mo_B ν) (hc : 0 ≤ c ∧ c < ν 0 12) (h1 : ν 19 c = 1) (h3 : 0 ≤ mo_ft ν c) : sw_w E (d + 1) 118 (0, [some (2, 0), some (0, c), none], []) s ν (sw_is (some (0, 1)) s (mo_wf (mm_u (mo_cd ν 0) 19 c (ν 19 c - 1)) c (mo_ft ν c))) := by
  have hn := hB.2.2.1
  have hcd := hB.cd c (by omega) (by omega)
  have hft := mo_ft_b (c := c) hB
  have htk := hB.tk (mo_ft ν c)
  refine sw_p 3 (f' := (3, [some (2, 0), some (0, c), none], [(0, c), (2, 0), (2, 0)])) rfl ?_
  refine sw_cv1 (pn := 6) (q0 := mj_Mo_work) (q := mj_Mo_isCard) (p := 0) (as2 := [(0, c)]) (L2 := [some (2, 0), some (0, c)]) (rest := [(2, 0)]) (v := some (0, 1)) (s1 := s) (ν1 := ν) rfl rfl rfl rfl rfl rfl rfl rfl rfl hs.1 (mo_isC1 hs hB (by omega)) ?_
  show sw_w E _ 118 (6, [some (2, 0), some (0, c), none], [(0, 1), (2, 0)]) s ν _
  refine sw_eq1 (pt := 13) (pn := 9) rfl rfl rfl (by omega) (fun h => absurd h (by decide)) (fun _ => ?_)
  refine sw_p 2 (f' := (14, [some (2, 0), some (0, c), none], [(0, 0), (2, 0)])) rfl ?_
  refine sw_pI (pn := 17) (i := 0) rfl rfl rfl rfl rfl (by omega) hs.1 ?_
  refine sw_p 1 (f' := (18, [some (2, 0), some (0, c), none], [(2, 0)])) rfl ?_
  refine sw_gI (pn := 21) (i := 0) rfl rfl rfl rfl rfl (by omega) hs.1 ?_
  rw [show (mm_u ν 0 0 0) 0 0 = 0 from mm_u_at]
  refine sw_le1 (pt := 26) (pn := 24) rfl rfl rfl (by omega) (fun _ => ?_) (fun h => absurd h (by decide))
  refine sw_p 2 (f' := (28, [some (2, 0), some (0, c), none], [(0, c), (2, 0)])) rfl ?_
  refine sw_cv1 (pn := 31) (q0 := mj_Mo_work) (q := mj_Mo_firstOf) (p := 0) (as2 := [(0, c)]) (L2 := [some (2, 0), some (0, c), none, none]) (rest := []) (v := some (0, mo_ft ν c)) (s1 := s) (ν1 := (mm_u ν 0 0 0)) rfl rfl rfl rfl rfl rfl rfl rfl rfl hs.1 (mo_ft_c hs hB (by omega)) ?_
  show sw_w E _ 118 (31, [some (2, 0), some (0, c), none], [(0, mo_ft ν c)]) s (mm_u ν 0 0 0) _
  refine sw_p 2 (f' := (33, [some (2, 0), some (0, c), some (0, mo_ft ν c)], [(2, 0)])) rfl ?_
  refine sw_hA (pn := 36) (i := 19) (v := 19) rfl rfl rfl rfl rfl hs.1 (mo_s19 hs).1 (by omega) ?_
  refine sw_p 1 (f' := (37, [some (2, 0), some (0, c), some (0, mo_ft ν c)], [(0, c), (2, 19)])) rfl ?_
  refine sw_ial (pn := 38) (l := 40) rfl rfl (by omega) (mo_s19 hs).2.1 (mo_s19 hs).2.2 (by omega) (by omega) ?_
  rw [show (mm_u ν 0 0 0) 19 c = ν 19 c from mm_u_ne (by omega)]
  refine sw_ne1 (pt := 74) (pn := 41) rfl rfl rfl (by omega) (fun h3 => ?_) (fun h => absurd h (by omega))
  refine sw_p 1 (f' := (75, [some (2, 0), some (0, c), some (0, mo_ft ν c)], [(2, 0)])) rfl ?_
  refine sw_hA (pn := 78) (i := 19) (v := 19) rfl rfl rfl rfl rfl hs.1 (mo_s19 hs).1 (by omega) ?_
  refine sw_p 2 (f' := (80, [some (2, 0), some (0, c), some (0, mo_ft ν c)], [(0, c), (2, 19), (0, c), (2, 19)])) rfl ?_
  refine sw_ial (pn := 81) (l := 40) rfl rfl (by omega) (mo_s19 hs).2.1 (mo_s19 hs).2.2 (by omega) (by omega) ?_
  rw [show (mm_u ν 0 0 0) 19 c = ν 19 c from mm_u_ne (by omega)]
  refine sw_p 2 (f' := (83, [some (2, 0), some (0, c), some (0, mo_ft ν c)], [(0, (ν 19 c) - 1), (0, c), (2, 19)])) rfl ?_
  refine sw_ias (pn := 84) (l := 40) rfl rfl (by omega) (mo_s19 hs).2.1 (mo_s19 hs).2.2 (by omega) (by omega) ?_
  refine sw_p 1 (f' := (85, [some (2, 0), some (0, c), some (0, mo_ft ν c)], [(2, 0)])) rfl ?_
  refine sw_hA (pn := 88) (i := 19) (v := 19) rfl rfl rfl rfl rfl hs.1 (mo_s19 hs).1 (by omega) ?_
  refine sw_p 1 (f' := (89, [some (2, 0), some (0, c), some (0, mo_ft ν c)], [(0, c), (2, 19)])) rfl ?_
  refine sw_ial (pn := 90) (l := 40) rfl rfl (by omega) (mo_s19 hs).2.1 (mo_s19 hs).2.2 (by omega) (by omega) ?_
  rw [show (mm_u (mm_u ν 0 0 0) 19 c ((ν 19 c) - 1)) 19 c = (ν 19 c) - 1 from mm_u_at]
  refine sw_ne1 (pt := 135) (pn := 93) rfl rfl rfl (by omega) (fun h => absurd h (by omega)) (fun h4 => ?_)
  refine sw_p 1 (f' := (94, [some (2, 0), some (0, c), some (0, mo_ft ν c)], [(2, 0)])) rfl ?_
  refine sw_hA (pn := 97) (i := 20) (v := 20) rfl rfl rfl rfl rfl hs.1 (mo_s20 hs).1 (by omega) ?_
  refine sw_p 3 (f' := (101, [some (2, 0), some (0, c), some (0, mo_ft ν c)], [(2, 0), (0, 31), (0, c), (2, 20)])) rfl ?_
  refine sw_hA (pn := 104) (i := 20) (v := 20) rfl rfl rfl rfl rfl hs.1 (mo_s20 hs).1 (by omega) ?_
  refine sw_p 1 (f' := (105, [some (2, 0), some (0, c), some (0, mo_ft ν c)], [(0, c), (2, 20), (0, 31), (0, c), (2, 20)])) rfl ?_
  refine sw_ial (pn := 106) (l := 40) rfl rfl (by omega) (mo_s20 hs).2.1 (mo_s20 hs).2.2 (by omega) (by omega) ?_
  rw [show (mm_u (mm_u ν 0 0 0) 19 c ((ν 19 c) - 1)) 20 c = ν 20 c from (mm_u_ne (by omega)).trans (mm_u_ne (by omega))]
  refine sw_p 2 (f' := (108, [some (2, 0), some (0, c), some (0, mo_ft ν c)], [(2, 0), (0, 31 * (ν 20 c)), (0, c), (2, 20)])) rfl ?_
  refine sw_hA (pn := 111) (i := 27) (v := 27) rfl rfl rfl rfl rfl hs.1 (mo_s27 hs).1 (by omega) ?_
  refine sw_p 1 (f' := (112, [some (2, 0), some (0, c), some (0, mo_ft ν c)], [(0, mo_ft ν c), (2, 27), (0, 31 * (ν 20 c)), (0, c), (2, 20)])) rfl ?_
  refine sw_ial (pn := 113) (l := 512) rfl rfl (by omega) (mo_s27 hs).2.1 (mo_s27 hs).2.2 (by omega) (by omega) ?_
  rw [show (mm_u (mm_u ν 0 0 0) 19 c ((ν 19 c) - 1)) 27 (mo_ft ν c) = ν 27 (mo_ft ν c) from (mm_u_ne (by omega)).trans (mm_u_ne (by omega))]
  refine sw_p 1 (f' := (114, [some (2, 0), some (0, c), some (0, mo_ft ν c)], [(0, (31 * (ν 20 c)) + (ν 27 (mo_ft ν c))), (0, c), (2, 20)])) rfl ?_
  refine sw_ias (pn := 115) (l := 40) rfl rfl (by omega) (mo_s20 hs).2.1 (mo_s20 hs).2.2 (by omega) (by omega) ?_
  refine sw_p 1 (f' := (116, [some (2, 0), some (0, c), some (0, mo_ft ν c)], [(2, 0)])) rfl ?_
  refine sw_hA (pn := 119) (i := 28) (v := 28) rfl rfl rfl rfl rfl hs.1 (mo_s28 hs).1 (by omega) ?_
  refine sw_p 2 (f' := (121, [some (2, 0), some (0, c), some (0, mo_ft ν c)], [(2, 0), (0, mo_ft ν c), (2, 28)])) rfl ?_
  refine sw_hA (pn := 124) (i := 20) (v := 20) rfl rfl rfl rfl rfl hs.1 (mo_s20 hs).1 (by omega) ?_
  refine sw_p 1 (f' := (125, [some (2, 0), some (0, c), some (0, mo_ft ν c)], [(0, c), (2, 20), (0, mo_ft ν c), (2, 28)])) rfl ?_
  refine sw_ial (pn := 126) (l := 40) rfl rfl (by omega) (mo_s20 hs).2.1 (mo_s20 hs).2.2 (by omega) (by omega) ?_
  rw [show (mm_u (mm_u (mm_u ν 0 0 0) 19 c ((ν 19 c) - 1)) 20 c ((31 * (ν 20 c)) + (ν 27 (mo_ft ν c)))) 20 c = (31 * (ν 20 c)) + (ν 27 (mo_ft ν c)) from mm_u_at]
  refine sw_p 1 (f' := (127, [some (2, 0), some (0, c), some (0, mo_ft ν c)], [(2, 0), (0, (31 * (ν 20 c)) + (ν 27 (mo_ft ν c))), (0, mo_ft ν c), (2, 28)])) rfl ?_
  refine sw_hA (pn := 130) (i := 26) (v := 26) rfl rfl rfl rfl rfl hs.1 (mo_s26 hs).1 (by omega) ?_
  refine sw_p 1 (f' := (131, [some (2, 0), some (0, c), some (0, mo_ft ν c)], [(0, mo_ft ν c), (2, 26), (0, (31 * (ν 20 c)) + (ν 27 (mo_ft ν c))), (0, mo_ft ν c), (2, 28)])) rfl ?_
  refine sw_ial (pn := 132) (l := 512) rfl rfl (by omega) (mo_s26 hs).2.1 (mo_s26 hs).2.2 (by omega) (by omega) ?_
  rw [show (mm_u (mm_u (mm_u ν 0 0 0) 19 c ((ν 19 c) - 1)) 20 c ((31 * (ν 20 c)) + (ν 27 (mo_ft ν c)))) 26 (mo_ft ν c) = ν 26 (mo_ft ν c) from (mm_u_ne (by omega)).trans ((mm_u_ne (by omega)).trans (mm_u_ne (by omega)))]
  refine sw_p 1 (f' := (133, [some (2, 0), some (0, c), some (0, mo_ft ν c)], [(0, ((31 * (ν 20 c)) + (ν 27 (mo_ft ν c))) + (ν 26 (mo_ft ν c))), (0, mo_ft ν c), (2, 28)])) rfl ?_
  refine sw_i2lw (pn := 134) rfl rfl ?_
  refine sw_las (pn := 135) (l := 512) rfl rfl (by omega) (mo_s28 hs).2.1 (mo_s28 hs).2.2 (by omega) (by omega) ?_
  refine sw_p 1 (f' := (136, [some (2, 0), some (0, c), some (0, mo_ft ν c)], [(0, 1)])) rfl ?_
  exact sw_retZ rfl rfl rfl (by omega) ⟨rfl, rfl, by unfold mo_wf; rw [show mm_u (mo_cd ν 0) 19 c (ν 19 c - 1) 20 c = ν 20 c from (mm_u_ne (by omega)).trans (mm_u_ne (by omega)), show mm_u (mo_cd ν 0) 19 c (ν 19 c - 1) 27 (mo_ft ν c) = ν 27 (mo_ft ν c) from (mm_u_ne (by omega)).trans (mm_u_ne (by omega)), show mm_u (mo_cd ν 0) 19 c (ν 19 c - 1) 26 (mo_ft ν c) = ν 26 (mo_ft ν c) from (mm_u_ne (by omega)).trans (mm_u_ne (by omega))]⟩
theorem mo_work_b1 (hs : mo_sh s) (hB : mo_B ν) (hc : 0 ≤ c ∧ c < ν 0 12) (h1 : ν 19 c = 0) (h2 : ν 15 c = 1) (h3 : 0 ≤ mo_ft ν c) (h4 : ν 26 (mo_ft ν c) % 8 ≠ 0) : sw_w E (d + 1) 118 (0, [some (2, 0), some (0, c), none], []) s ν (sw_is (some (0, 1)) s (mm_u (mm_u (mo_cd ν 0) 19 c (ν 26 (mo_ft ν c) % 8 + 1)) 19 c (ν 26 (mo_ft ν c) % 8 + 1 - 1))) := by
  have hn := hB.2.2.1
  have hcd := hB.cd c (by omega) (by omega)
  have hft := mo_ft_b (c := c) hB
  have htk := hB.tk (mo_ft ν c)
  refine sw_p 3 (f' := (3, [some (2, 0), some (0, c), none], [(0, c), (2, 0), (2, 0)])) rfl ?_
  refine sw_cv1 (pn := 6) (q0 := mj_Mo_work) (q := mj_Mo_isCard) (p := 0) (as2 := [(0, c)]) (L2 := [some (2, 0), some (0, c)]) (rest := [(2, 0)]) (v := some (0, 1)) (s1 := s) (ν1 := ν) rfl rfl rfl rfl rfl rfl rfl rfl rfl hs.1 (mo_isC1 hs hB (by omega)) ?_
  show sw_w E _ 118 (6, [some (2, 0), some (0, c), none], [(0, 1), (2, 0)]) s ν _
  refine sw_eq1 (pt := 13) (pn := 9) rfl rfl rfl (by omega) (fun h => absurd h (by decide)) (fun _ => ?_)
  refine sw_p 2 (f' := (14, [some (2, 0), some (0, c), none], [(0, 0), (2, 0)])) rfl ?_
  refine sw_pI (pn := 17) (i := 0) rfl rfl rfl rfl rfl (by omega) hs.1 ?_
  refine sw_p 1 (f' := (18, [some (2, 0), some (0, c), none], [(2, 0)])) rfl ?_
  refine sw_gI (pn := 21) (i := 0) rfl rfl rfl rfl rfl (by omega) hs.1 ?_
  rw [show (mm_u ν 0 0 0) 0 0 = 0 from mm_u_at]
  refine sw_le1 (pt := 26) (pn := 24) rfl rfl rfl (by omega) (fun _ => ?_) (fun h => absurd h (by decide))
  refine sw_p 2 (f' := (28, [some (2, 0), some (0, c), none], [(0, c), (2, 0)])) rfl ?_
  refine sw_cv1 (pn := 31) (q0 := mj_Mo_work) (q := mj_Mo_firstOf) (p := 0) (as2 := [(0, c)]) (L2 := [some (2, 0), some (0, c), none, none]) (rest := []) (v := some (0, mo_ft ν c)) (s1 := s) (ν1 := (mm_u ν 0 0 0)) rfl rfl rfl rfl rfl rfl rfl rfl rfl hs.1 (mo_ft_c hs hB (by omega)) ?_
  show sw_w E _ 118 (31, [some (2, 0), some (0, c), none], [(0, mo_ft ν c)]) s (mm_u ν 0 0 0) _
  refine sw_p 2 (f' := (33, [some (2, 0), some (0, c), some (0, mo_ft ν c)], [(2, 0)])) rfl ?_
  refine sw_hA (pn := 36) (i := 19) (v := 19) rfl rfl rfl rfl rfl hs.1 (mo_s19 hs).1 (by omega) ?_
  refine sw_p 1 (f' := (37, [some (2, 0), some (0, c), some (0, mo_ft ν c)], [(0, c), (2, 19)])) rfl ?_
  refine sw_ial (pn := 38) (l := 40) rfl rfl (by omega) (mo_s19 hs).2.1 (mo_s19 hs).2.2 (by omega) (by omega) ?_
  rw [show (mm_u ν 0 0 0) 19 c = ν 19 c from mm_u_ne (by omega)]
  refine sw_ne1 (pt := 74) (pn := 41) rfl rfl rfl (by omega) (fun h => absurd h (by omega)) (fun h3 => ?_)
  refine sw_p 1 (f' := (42, [some (2, 0), some (0, c), some (0, mo_ft ν c)], [(2, 0)])) rfl ?_
  refine sw_hA (pn := 45) (i := 15) (v := 15) rfl rfl rfl rfl rfl hs.1 (mo_s15 hs).1 (by omega) ?_
  refine sw_p 1 (f' := (46, [some (2, 0), some (0, c), some (0, mo_ft ν c)], [(0, c), (2, 15)])) rfl ?_
  refine sw_ial (pn := 47) (l := 40) rfl rfl (by omega) (mo_s15 hs).2.1 (mo_s15 hs).2.2 (by omega) (by omega) ?_
  rw [show (mm_u ν 0 0 0) 15 c = ν 15 c from mm_u_ne (by omega)]
  refine sw_p 1 (f' := (48, [some (2, 0), some (0, c), some (0, mo_ft ν c)], [(0, 1), (0, ν 15 c)])) rfl ?_
  refine sw_ne2 (pt := 55) (pn := 51) rfl rfl rfl (by omega) (by omega) (fun h => absurd h (by omega)) (fun h4 => ?_)
  refine sw_p 1 (f' := (52, [some (2, 0), some (0, c), some (0, mo_ft ν c)], [(0, mo_ft ν c)])) rfl ?_
  refine sw_ge1 (pt := 57) (pn := 55) rfl rfl rfl (by omega) (fun h5 => ?_) (fun h => absurd h (by omega))
  refine sw_p 1 (f' := (58, [some (2, 0), some (0, c), some (0, mo_ft ν c)], [(2, 0)])) rfl ?_
  refine sw_hA (pn := 61) (i := 19) (v := 19) rfl rfl rfl rfl rfl hs.1 (mo_s19 hs).1 (by omega) ?_
  refine sw_p 2 (f' := (63, [some (2, 0), some (0, c), some (0, mo_ft ν c)], [(2, 0), (0, c), (2, 19)])) rfl ?_
  refine sw_hA (pn := 66) (i := 26) (v := 26) rfl rfl rfl rfl rfl hs.1 (mo_s26 hs).1 (by omega) ?_
  refine sw_p 1 (f' := (67, [some (2, 0), some (0, c), some (0, mo_ft ν c)], [(0, mo_ft ν c), (2, 26), (0, c), (2, 19)])) rfl ?_
  refine sw_ial (pn := 68) (l := 512) rfl rfl (by omega) (mo_s26 hs).2.1 (mo_s26 hs).2.2 (by omega) (by omega) ?_
  rw [show (mm_u ν 0 0 0) 26 (mo_ft ν c) = ν 26 (mo_ft ν c) from mm_u_ne (by omega)]
  refine sw_p 1 (f' := (70, [some (2, 0), some (0, c), some (0, mo_ft ν c)], [(0, 8), (0, ν 26 (mo_ft ν c)), (0, c), (2, 19)])) rfl ?_
  refine sw_irem (pn := 71) rfl rfl (by omega) (by omega) ?_
  refine sw_p 2 (f' := (73, [some (2, 0), some (0, c), some (0, mo_ft ν c)], [(0, ((ν 26 (mo_ft ν c)) % 8) + 1), (0, c), (2, 19)])) rfl ?_
  refine sw_ias (pn := 74) (l := 40) rfl rfl (by omega) (mo_s19 hs).2.1 (mo_s19 hs).2.2 (by omega) (by omega) ?_
  refine sw_p 1 (f' := (75, [some (2, 0), some (0, c), some (0, mo_ft ν c)], [(2, 0)])) rfl ?_
  refine sw_hA (pn := 78) (i := 19) (v := 19) rfl rfl rfl rfl rfl hs.1 (mo_s19 hs).1 (by omega) ?_
  refine sw_p 2 (f' := (80, [some (2, 0), some (0, c), some (0, mo_ft ν c)], [(0, c), (2, 19), (0, c), (2, 19)])) rfl ?_
  refine sw_ial (pn := 81) (l := 40) rfl rfl (by omega) (mo_s19 hs).2.1 (mo_s19 hs).2.2 (by omega) (by omega) ?_
  rw [show (mm_u (mm_u ν 0 0 0) 19 c (((ν 26 (mo_ft ν c)) % 8) + 1)) 19 c = ((ν 26 (mo_ft ν c)) % 8) + 1 from mm_u_at]
  refine sw_p 2 (f' := (83, [some (2, 0), some (0, c), some (0, mo_ft ν c)], [(0, (((ν 26 (mo_ft ν c)) % 8) + 1) - 1), (0, c), (2, 19)])) rfl ?_
  refine sw_ias (pn := 84) (l := 40) rfl rfl (by omega) (mo_s19 hs).2.1 (mo_s19 hs).2.2 (by omega) (by omega) ?_
  refine sw_p 1 (f' := (85, [some (2, 0), some (0, c), some (0, mo_ft ν c)], [(2, 0)])) rfl ?_
  refine sw_hA (pn := 88) (i := 19) (v := 19) rfl rfl rfl rfl rfl hs.1 (mo_s19 hs).1 (by omega) ?_
  refine sw_p 1 (f' := (89, [some (2, 0), some (0, c), some (0, mo_ft ν c)], [(0, c), (2, 19)])) rfl ?_
  refine sw_ial (pn := 90) (l := 40) rfl rfl (by omega) (mo_s19 hs).2.1 (mo_s19 hs).2.2 (by omega) (by omega) ?_
  rw [show (mm_u (mm_u (mm_u ν 0 0 0) 19 c (((ν 26 (mo_ft ν c)) % 8) + 1)) 19 c ((((ν 26 (mo_ft ν c)) % 8) + 1) - 1)) 19 c = (((ν 26 (mo_ft ν c)) % 8) + 1) - 1 from mm_u_at]
  refine sw_ne1 (pt := 135) (pn := 93) rfl rfl rfl (by omega) (fun h6 => ?_) (fun h => absurd h (by omega))
  refine sw_p 1 (f' := (136, [some (2, 0), some (0, c), some (0, mo_ft ν c)], [(0, 1)])) rfl ?_
  exact sw_retZ rfl rfl rfl (by omega) ⟨rfl, rfl, rfl⟩
theorem mo_work_b2 (hs : mo_sh s) (hB : mo_B ν) (hc : 0 ≤ c ∧ c < ν 0 12) (h1 : ν 19 c = 0) (h2 : ν 15 c = 1) (h3 : 0 ≤ mo_ft ν c) (h4 : ν 26 (mo_ft ν c) % 8 = 0) : sw_w E (d + 1) 118 (0, [some (2, 0), some (0, c), none], []) s ν (sw_is (some (0, 1)) s (mo_wf (mm_u (mm_u (mo_cd ν 0) 19 c (ν 26 (mo_ft ν c) % 8 + 1)) 19 c (ν 26 (mo_ft ν c) % 8 + 1 - 1)) c (mo_ft ν c))) := by
  have hn := hB.2.2.1
  have hcd := hB.cd c (by omega) (by omega)
  have hft := mo_ft_b (c := c) hB
  have htk := hB.tk (mo_ft ν c)
  refine sw_p 3 (f' := (3, [some (2, 0), some (0, c), none], [(0, c), (2, 0), (2, 0)])) rfl ?_
  refine sw_cv1 (pn := 6) (q0 := mj_Mo_work) (q := mj_Mo_isCard) (p := 0) (as2 := [(0, c)]) (L2 := [some (2, 0), some (0, c)]) (rest := [(2, 0)]) (v := some (0, 1)) (s1 := s) (ν1 := ν) rfl rfl rfl rfl rfl rfl rfl rfl rfl hs.1 (mo_isC1 hs hB (by omega)) ?_
  show sw_w E _ 118 (6, [some (2, 0), some (0, c), none], [(0, 1), (2, 0)]) s ν _
  refine sw_eq1 (pt := 13) (pn := 9) rfl rfl rfl (by omega) (fun h => absurd h (by decide)) (fun _ => ?_)
  refine sw_p 2 (f' := (14, [some (2, 0), some (0, c), none], [(0, 0), (2, 0)])) rfl ?_
  refine sw_pI (pn := 17) (i := 0) rfl rfl rfl rfl rfl (by omega) hs.1 ?_
  refine sw_p 1 (f' := (18, [some (2, 0), some (0, c), none], [(2, 0)])) rfl ?_
  refine sw_gI (pn := 21) (i := 0) rfl rfl rfl rfl rfl (by omega) hs.1 ?_
  rw [show (mm_u ν 0 0 0) 0 0 = 0 from mm_u_at]
  refine sw_le1 (pt := 26) (pn := 24) rfl rfl rfl (by omega) (fun _ => ?_) (fun h => absurd h (by decide))
  refine sw_p 2 (f' := (28, [some (2, 0), some (0, c), none], [(0, c), (2, 0)])) rfl ?_
  refine sw_cv1 (pn := 31) (q0 := mj_Mo_work) (q := mj_Mo_firstOf) (p := 0) (as2 := [(0, c)]) (L2 := [some (2, 0), some (0, c), none, none]) (rest := []) (v := some (0, mo_ft ν c)) (s1 := s) (ν1 := (mm_u ν 0 0 0)) rfl rfl rfl rfl rfl rfl rfl rfl rfl hs.1 (mo_ft_c hs hB (by omega)) ?_
  show sw_w E _ 118 (31, [some (2, 0), some (0, c), none], [(0, mo_ft ν c)]) s (mm_u ν 0 0 0) _
  refine sw_p 2 (f' := (33, [some (2, 0), some (0, c), some (0, mo_ft ν c)], [(2, 0)])) rfl ?_
  refine sw_hA (pn := 36) (i := 19) (v := 19) rfl rfl rfl rfl rfl hs.1 (mo_s19 hs).1 (by omega) ?_
  refine sw_p 1 (f' := (37, [some (2, 0), some (0, c), some (0, mo_ft ν c)], [(0, c), (2, 19)])) rfl ?_
  refine sw_ial (pn := 38) (l := 40) rfl rfl (by omega) (mo_s19 hs).2.1 (mo_s19 hs).2.2 (by omega) (by omega) ?_
  rw [show (mm_u ν 0 0 0) 19 c = ν 19 c from mm_u_ne (by omega)]
  refine sw_ne1 (pt := 74) (pn := 41) rfl rfl rfl (by omega) (fun h => absurd h (by omega)) (fun h3 => ?_)
  refine sw_p 1 (f' := (42, [some (2, 0), some (0, c), some (0, mo_ft ν c)], [(2, 0)])) rfl ?_
  refine sw_hA (pn := 45) (i := 15) (v := 15) rfl rfl rfl rfl rfl hs.1 (mo_s15 hs).1 (by omega) ?_
  refine sw_p 1 (f' := (46, [some (2, 0), some (0, c), some (0, mo_ft ν c)], [(0, c), (2, 15)])) rfl ?_
  refine sw_ial (pn := 47) (l := 40) rfl rfl (by omega) (mo_s15 hs).2.1 (mo_s15 hs).2.2 (by omega) (by omega) ?_
  rw [show (mm_u ν 0 0 0) 15 c = ν 15 c from mm_u_ne (by omega)]
  refine sw_p 1 (f' := (48, [some (2, 0), some (0, c), some (0, mo_ft ν c)], [(0, 1), (0, ν 15 c)])) rfl ?_
  refine sw_ne2 (pt := 55) (pn := 51) rfl rfl rfl (by omega) (by omega) (fun h => absurd h (by omega)) (fun h4 => ?_)
  refine sw_p 1 (f' := (52, [some (2, 0), some (0, c), some (0, mo_ft ν c)], [(0, mo_ft ν c)])) rfl ?_
  refine sw_ge1 (pt := 57) (pn := 55) rfl rfl rfl (by omega) (fun h5 => ?_) (fun h => absurd h (by omega))
  refine sw_p 1 (f' := (58, [some (2, 0), some (0, c), some (0, mo_ft ν c)], [(2, 0)])) rfl ?_
  refine sw_hA (pn := 61) (i := 19) (v := 19) rfl rfl rfl rfl rfl hs.1 (mo_s19 hs).1 (by omega) ?_
  refine sw_p 2 (f' := (63, [some (2, 0), some (0, c), some (0, mo_ft ν c)], [(2, 0), (0, c), (2, 19)])) rfl ?_
  refine sw_hA (pn := 66) (i := 26) (v := 26) rfl rfl rfl rfl rfl hs.1 (mo_s26 hs).1 (by omega) ?_
  refine sw_p 1 (f' := (67, [some (2, 0), some (0, c), some (0, mo_ft ν c)], [(0, mo_ft ν c), (2, 26), (0, c), (2, 19)])) rfl ?_
  refine sw_ial (pn := 68) (l := 512) rfl rfl (by omega) (mo_s26 hs).2.1 (mo_s26 hs).2.2 (by omega) (by omega) ?_
  rw [show (mm_u ν 0 0 0) 26 (mo_ft ν c) = ν 26 (mo_ft ν c) from mm_u_ne (by omega)]
  refine sw_p 1 (f' := (70, [some (2, 0), some (0, c), some (0, mo_ft ν c)], [(0, 8), (0, ν 26 (mo_ft ν c)), (0, c), (2, 19)])) rfl ?_
  refine sw_irem (pn := 71) rfl rfl (by omega) (by omega) ?_
  refine sw_p 2 (f' := (73, [some (2, 0), some (0, c), some (0, mo_ft ν c)], [(0, ((ν 26 (mo_ft ν c)) % 8) + 1), (0, c), (2, 19)])) rfl ?_
  refine sw_ias (pn := 74) (l := 40) rfl rfl (by omega) (mo_s19 hs).2.1 (mo_s19 hs).2.2 (by omega) (by omega) ?_
  refine sw_p 1 (f' := (75, [some (2, 0), some (0, c), some (0, mo_ft ν c)], [(2, 0)])) rfl ?_
  refine sw_hA (pn := 78) (i := 19) (v := 19) rfl rfl rfl rfl rfl hs.1 (mo_s19 hs).1 (by omega) ?_
  refine sw_p 2 (f' := (80, [some (2, 0), some (0, c), some (0, mo_ft ν c)], [(0, c), (2, 19), (0, c), (2, 19)])) rfl ?_
  refine sw_ial (pn := 81) (l := 40) rfl rfl (by omega) (mo_s19 hs).2.1 (mo_s19 hs).2.2 (by omega) (by omega) ?_
  rw [show (mm_u (mm_u ν 0 0 0) 19 c (((ν 26 (mo_ft ν c)) % 8) + 1)) 19 c = ((ν 26 (mo_ft ν c)) % 8) + 1 from mm_u_at]
  refine sw_p 2 (f' := (83, [some (2, 0), some (0, c), some (0, mo_ft ν c)], [(0, (((ν 26 (mo_ft ν c)) % 8) + 1) - 1), (0, c), (2, 19)])) rfl ?_
  refine sw_ias (pn := 84) (l := 40) rfl rfl (by omega) (mo_s19 hs).2.1 (mo_s19 hs).2.2 (by omega) (by omega) ?_
  refine sw_p 1 (f' := (85, [some (2, 0), some (0, c), some (0, mo_ft ν c)], [(2, 0)])) rfl ?_
  refine sw_hA (pn := 88) (i := 19) (v := 19) rfl rfl rfl rfl rfl hs.1 (mo_s19 hs).1 (by omega) ?_
  refine sw_p 1 (f' := (89, [some (2, 0), some (0, c), some (0, mo_ft ν c)], [(0, c), (2, 19)])) rfl ?_
  refine sw_ial (pn := 90) (l := 40) rfl rfl (by omega) (mo_s19 hs).2.1 (mo_s19 hs).2.2 (by omega) (by omega) ?_
  rw [show (mm_u (mm_u (mm_u ν 0 0 0) 19 c (((ν 26 (mo_ft ν c)) % 8) + 1)) 19 c ((((ν 26 (mo_ft ν c)) % 8) + 1) - 1)) 19 c = (((ν 26 (mo_ft ν c)) % 8) + 1) - 1 from mm_u_at]
  refine sw_ne1 (pt := 135) (pn := 93) rfl rfl rfl (by omega) (fun h => absurd h (by omega)) (fun h6 => ?_)
  refine sw_p 1 (f' := (94, [some (2, 0), some (0, c), some (0, mo_ft ν c)], [(2, 0)])) rfl ?_
  refine sw_hA (pn := 97) (i := 20) (v := 20) rfl rfl rfl rfl rfl hs.1 (mo_s20 hs).1 (by omega) ?_
  refine sw_p 3 (f' := (101, [some (2, 0), some (0, c), some (0, mo_ft ν c)], [(2, 0), (0, 31), (0, c), (2, 20)])) rfl ?_
  refine sw_hA (pn := 104) (i := 20) (v := 20) rfl rfl rfl rfl rfl hs.1 (mo_s20 hs).1 (by omega) ?_
  refine sw_p 1 (f' := (105, [some (2, 0), some (0, c), some (0, mo_ft ν c)], [(0, c), (2, 20), (0, 31), (0, c), (2, 20)])) rfl ?_
  refine sw_ial (pn := 106) (l := 40) rfl rfl (by omega) (mo_s20 hs).2.1 (mo_s20 hs).2.2 (by omega) (by omega) ?_
  rw [show (mm_u (mm_u (mm_u ν 0 0 0) 19 c (((ν 26 (mo_ft ν c)) % 8) + 1)) 19 c ((((ν 26 (mo_ft ν c)) % 8) + 1) - 1)) 20 c = ν 20 c from (mm_u_ne (by omega)).trans ((mm_u_ne (by omega)).trans (mm_u_ne (by omega)))]
  refine sw_p 2 (f' := (108, [some (2, 0), some (0, c), some (0, mo_ft ν c)], [(2, 0), (0, 31 * (ν 20 c)), (0, c), (2, 20)])) rfl ?_
  refine sw_hA (pn := 111) (i := 27) (v := 27) rfl rfl rfl rfl rfl hs.1 (mo_s27 hs).1 (by omega) ?_
  refine sw_p 1 (f' := (112, [some (2, 0), some (0, c), some (0, mo_ft ν c)], [(0, mo_ft ν c), (2, 27), (0, 31 * (ν 20 c)), (0, c), (2, 20)])) rfl ?_
  refine sw_ial (pn := 113) (l := 512) rfl rfl (by omega) (mo_s27 hs).2.1 (mo_s27 hs).2.2 (by omega) (by omega) ?_
  rw [show (mm_u (mm_u (mm_u ν 0 0 0) 19 c (((ν 26 (mo_ft ν c)) % 8) + 1)) 19 c ((((ν 26 (mo_ft ν c)) % 8) + 1) - 1)) 27 (mo_ft ν c) = ν 27 (mo_ft ν c) from (mm_u_ne (by omega)).trans ((mm_u_ne (by omega)).trans (mm_u_ne (by omega)))]
  refine sw_p 1 (f' := (114, [some (2, 0), some (0, c), some (0, mo_ft ν c)], [(0, (31 * (ν 20 c)) + (ν 27 (mo_ft ν c))), (0, c), (2, 20)])) rfl ?_
  refine sw_ias (pn := 115) (l := 40) rfl rfl (by omega) (mo_s20 hs).2.1 (mo_s20 hs).2.2 (by omega) (by omega) ?_
  refine sw_p 1 (f' := (116, [some (2, 0), some (0, c), some (0, mo_ft ν c)], [(2, 0)])) rfl ?_
  refine sw_hA (pn := 119) (i := 28) (v := 28) rfl rfl rfl rfl rfl hs.1 (mo_s28 hs).1 (by omega) ?_
  refine sw_p 2 (f' := (121, [some (2, 0), some (0, c), some (0, mo_ft ν c)], [(2, 0), (0, mo_ft ν c), (2, 28)])) rfl ?_
  refine sw_hA (pn := 124) (i := 20) (v := 20) rfl rfl rfl rfl rfl hs.1 (mo_s20 hs).1 (by omega) ?_
  refine sw_p 1 (f' := (125, [some (2, 0), some (0, c), some (0, mo_ft ν c)], [(0, c), (2, 20), (0, mo_ft ν c), (2, 28)])) rfl ?_
  refine sw_ial (pn := 126) (l := 40) rfl rfl (by omega) (mo_s20 hs).2.1 (mo_s20 hs).2.2 (by omega) (by omega) ?_
  rw [show (mm_u (mm_u (mm_u (mm_u ν 0 0 0) 19 c (((ν 26 (mo_ft ν c)) % 8) + 1)) 19 c ((((ν 26 (mo_ft ν c)) % 8) + 1) - 1)) 20 c ((31 * (ν 20 c)) + (ν 27 (mo_ft ν c)))) 20 c = (31 * (ν 20 c)) + (ν 27 (mo_ft ν c)) from mm_u_at]
  refine sw_p 1 (f' := (127, [some (2, 0), some (0, c), some (0, mo_ft ν c)], [(2, 0), (0, (31 * (ν 20 c)) + (ν 27 (mo_ft ν c))), (0, mo_ft ν c), (2, 28)])) rfl ?_
  refine sw_hA (pn := 130) (i := 26) (v := 26) rfl rfl rfl rfl rfl hs.1 (mo_s26 hs).1 (by omega) ?_
  refine sw_p 1 (f' := (131, [some (2, 0), some (0, c), some (0, mo_ft ν c)], [(0, mo_ft ν c), (2, 26), (0, (31 * (ν 20 c)) + (ν 27 (mo_ft ν c))), (0, mo_ft ν c), (2, 28)])) rfl ?_
  refine sw_ial (pn := 132) (l := 512) rfl rfl (by omega) (mo_s26 hs).2.1 (mo_s26 hs).2.2 (by omega) (by omega) ?_
  rw [show (mm_u (mm_u (mm_u (mm_u ν 0 0 0) 19 c (((ν 26 (mo_ft ν c)) % 8) + 1)) 19 c ((((ν 26 (mo_ft ν c)) % 8) + 1) - 1)) 20 c ((31 * (ν 20 c)) + (ν 27 (mo_ft ν c)))) 26 (mo_ft ν c) = ν 26 (mo_ft ν c) from (mm_u_ne (by omega)).trans ((mm_u_ne (by omega)).trans ((mm_u_ne (by omega)).trans (mm_u_ne (by omega))))]
  refine sw_p 1 (f' := (133, [some (2, 0), some (0, c), some (0, mo_ft ν c)], [(0, ((31 * (ν 20 c)) + (ν 27 (mo_ft ν c))) + (ν 26 (mo_ft ν c))), (0, mo_ft ν c), (2, 28)])) rfl ?_
  refine sw_i2lw (pn := 134) rfl rfl ?_
  refine sw_las (pn := 135) (l := 512) rfl rfl (by omega) (mo_s28 hs).2.1 (mo_s28 hs).2.2 (by omega) (by omega) ?_
  refine sw_p 1 (f' := (136, [some (2, 0), some (0, c), some (0, mo_ft ν c)], [(0, 1)])) rfl ?_
  exact sw_retZ rfl rfl rfl (by omega) ⟨rfl, rfl, by unfold mo_wf; rw [show mm_u (mm_u (mo_cd ν 0) 19 c (ν 26 (mo_ft ν c) % 8 + 1)) 19 c (ν 26 (mo_ft ν c) % 8 + 1 - 1) 20 c = ν 20 c from (mm_u_ne (by omega)).trans ((mm_u_ne (by omega)).trans (mm_u_ne (by omega))), show mm_u (mm_u (mo_cd ν 0) 19 c (ν 26 (mo_ft ν c) % 8 + 1)) 19 c (ν 26 (mo_ft ν c) % 8 + 1 - 1) 27 (mo_ft ν c) = ν 27 (mo_ft ν c) from (mm_u_ne (by omega)).trans ((mm_u_ne (by omega)).trans (mm_u_ne (by omega))), show mm_u (mm_u (mo_cd ν 0) 19 c (ν 26 (mo_ft ν c) % 8 + 1)) 19 c (ν 26 (mo_ft ν c) % 8 + 1 - 1) 26 (mo_ft ν c) = ν 26 (mo_ft ν c) from (mm_u_ne (by omega)).trans ((mm_u_ne (by omega)).trans (mm_u_ne (by omega)))]⟩
theorem mo_work_bad (hs : mo_sh s) (hB : mo_B ν) (hc : -2147483648 ≤ c ∧ c < 2147483648) (h0 : ¬ (0 ≤ c ∧ c < ν 0 12)) : sw_w E (d + 1) 118 (0, [some (2, 0), some (0, c), none], []) s ν (sw_is (some (0, 0)) s (mo_cd ν 1)) := by
  have hn := hB.2.2.1
  refine sw_p 3 (f' := (3, [some (2, 0), some (0, c), none], [(0, c), (2, 0), (2, 0)])) rfl ?_
  refine sw_cv1 (pn := 6) (q0 := mj_Mo_work) (q := mj_Mo_isCard) (p := 0) (as2 := [(0, c)]) (L2 := [some (2, 0), some (0, c)]) (rest := [(2, 0)]) (v := some (0, 0)) (s1 := s) (ν1 := ν) rfl rfl rfl rfl rfl rfl rfl rfl rfl hs.1 (mo_isC0 hs hB (by omega) (by omega)) ?_
  show sw_w E _ 118 (6, [some (2, 0), some (0, c), none], [(0, 0), (2, 0)]) s ν _
  refine sw_eq1 (pt := 13) (pn := 9) rfl rfl rfl (by omega) (fun _ => ?_) (fun h => absurd h (by decide))
  refine sw_p 1 (f' := (14, [some (2, 0), some (0, c), none], [(0, 1), (2, 0)])) rfl ?_
  refine sw_pI (pn := 17) (i := 0) rfl rfl rfl rfl rfl (by omega) hs.1 ?_
  refine sw_p 1 (f' := (18, [some (2, 0), some (0, c), none], [(2, 0)])) rfl ?_
  refine sw_gI (pn := 21) (i := 0) rfl rfl rfl rfl rfl (by omega) hs.1 ?_
  rw [show (mm_u ν 0 0 1) 0 0 = 1 from mm_u_at]
  refine sw_le1 (pt := 26) (pn := 24) rfl rfl rfl (by omega) (fun h => absurd h (by decide)) (fun _ => ?_)
  refine sw_p 1 (f' := (25, [some (2, 0), some (0, c), none], [(0, 0)])) rfl ?_
  exact sw_retZ rfl rfl rfl (by omega) ⟨rfl, rfl, rfl⟩
end MO9
