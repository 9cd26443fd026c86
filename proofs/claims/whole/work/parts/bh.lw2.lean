/-! the law: one call, both sides -/
def mr_e (tg : Nat) (k r : Int) (ρ' s' ν' : mm_T) : nm_O → mm_T → mm_T → Prop := fun o s2 ν3 => ∃ r', o = .inl (some (tg, r')) ∧ s2 = s' ∧ ν3 0 0 = k ∧ (k = 0 → r' = r) ∧ rq_r ρ' ν3 ∧ hi_r ν' ν3 ∧ mo_b1 ν3 29 ∧ mo_b1 ν3 30
def mr_d (r : Int) (ρ' s' ν' : mm_T) : nm_O → mm_T → mm_T → Prop := fun o s2 ν3 => o = .inl (some (0, r)) ∧ s2 = s' ∧ rq_r ρ' ν3 ∧ hi_r ν' ν3 ∧ mo_b1 ν3 29 ∧ mo_b1 ν3 30
def lw_I (ρ : mm_T) (f : Int → Int) (s ν : mm_T) : Prop := mo_sh s ∧ (s 40 (-1) = 2 ∧ s 40 (-2) = 1) ∧ iv_I ρ f ∧ pt_R s ν ρ f ∧ un_r s ν ρ ∧ rq_r ρ ν ∧ mo_b1 ν 29 ∧ mo_b1 ν 30
section LW2
variable {E : mv_E} {s s1 ν ν1 ν2 ρ ρ' : mm_T} {f f' : Int → Int} {d : Nat} {i k r x1 x2 x3 x4 x5 : Int} {Q : nm_O → mm_T → mm_T → Prop} {o5 o6 o7 : Option mg_V}
theorem lw_mk (hs : mo_sh s) (h40 : s 40 (-1) = 2 ∧ s 40 (-2) = 1) (hI : iv_I ρ' f') (n1 : ns_r s s1) (R1 : pt_R s1 ν1 ρ' f') (u1 : un_r s1 ν1 ρ') (rq : rq_r ρ' ν2) (h2 : hi_r ν1 ν2) (b29 : mo_b1 ν2 29) (b30 : mo_b1 ν2 30) : lw_I ρ' f' s1 ν2 := by
  have e40 := n1.1 40 (by decide) (by decide)
  exact ⟨ns_sh n1 hs, by rw [e40]; exact h40, hI, R_hi hI.1.1 R1 (fun p hp => h2 p (by omega)), un_c u1 n4_rfl, rq, b29, b30⟩
set_option maxRecDepth 20000 in
theorem lo_127 (hS : E.2.1 < E.1) (hlen : E.2.2.1 ≤ 3072) (hi : 0 ≤ i ∧ i + 6 ≤ (E.2.2.1 : Int)) (hx1 : (E.2.2.2.1 (i + 1).toNat).toInt = x1) (hb1 : -2147483648 ≤ x1 ∧ x1 < 2147483648) (hx2 : (E.2.2.2.1 (i + 2).toNat).toInt = x2) (hb2 : -2147483648 ≤ x2 ∧ x2 < 2147483648) (hx3 : (E.2.2.2.1 (i + 3).toNat).toInt = x3) (hb3 : -2147483648 ≤ x3 ∧ x3 < 2147483648) (hI : lw_I ρ f s ν) (hI' : iv_I ρ' f') (hk : 0 ≤ k ∧ k ≤ 2) (hW : sw_w E d 127 (0, [some (2, 50), some (0, x1), some (0, x2), some (0, x3), some (2, 40), none], []) s ν (wr_e k (Int.bmod r 4294967296) s ν ρ' f')) (hM : ∀ s' ν', ns_r s s' → (∀ p, p < 40 → ν' p = ν p) → sw_w E d 83 (0, [some (2, 0), some (0, x1), some (0, x2), some (0, x3)], []) s' ν' (mr_e 0 k r ρ' s' ν')) (hK : ∀ s' ν' o5 o6 o7, ns_r s s' → lw_I ρ' f' s' ν' → sw_w E (d + 1) 140 (1122, [some (2, 9001), some (2, 50), some (2, 0), some (2, 40), some (0, i), o5, o6, o7], []) s' ν' Q) : sw_w E (d + 1) 140 (124, [some (2, 9001), some (2, 50), some (2, 0), some (2, 40), some (0, i), o5, o6, o7], []) s ν Q := by
  obtain ⟨hs, h40, -, -, -, -, -, -⟩ := hI
  refine sw_p 5 (f' := (130, [some (2, 9001), some (2, 50), some (2, 0), some (2, 40), some (0, i), o5, o6, o7], [(0, i + 1), (2, 9001), (2, 50)])) rfl ?_
  refine sw_ialS (pn := 131) rfl rfl hS (by omega) hlen ?_
  rw [hx1]
  refine sw_p 4 (f' := (136, [some (2, 9001), some (2, 50), some (2, 0), some (2, 40), some (0, i), o5, o6, o7], [(0, i + 2), (2, 9001), (0, x1), (2, 50)])) rfl ?_
  refine sw_ialS (pn := 137) rfl rfl hS (by omega) hlen ?_
  rw [hx2]
  refine sw_p 4 (f' := (142, [some (2, 9001), some (2, 50), some (2, 0), some (2, 40), some (0, i), o5, o6, o7], [(0, i + 3), (2, 9001), (0, x2), (0, x1), (2, 50)])) rfl ?_
  refine sw_ialS (pn := 143) rfl rfl hS (by omega) hlen ?_
  rw [hx3]
  refine sw_p 1 (f' := (144, [some (2, 9001), some (2, 50), some (2, 0), some (2, 40), some (0, i), o5, o6, o7], [(2, 40), (0, x3), (0, x2), (0, x1), (2, 50)])) rfl ?_
  refine sw_cs (pn := 147) (q0 := mj_Lw_law) (q := mj_Lw_bridge) (L2 := [some (2, 50), some (0, x1), some (0, x2), some (0, x3), some (2, 40), none]) (rest := []) rfl rfl rfl rfl rfl rfl rfl rfl hW (fun v s1 ν1 hv => ?_) (fun _ _ _ h => nomatch h.1)
  have hv1 := hv.1
  cases hv1
  obtain ⟨-, n1, R1, u1, l1, o1⟩ := hv
  have hs1 : mo_sh s1 := ns_sh n1 hs
  show sw_w E _ 140 (147, [some (2, 9001), some (2, 50), some (2, 0), some (2, 40), some (0, i), o5, o6, o7], [(0, k)]) s1 ν1 _
  refine sw_p 6 (f' := (155, [some (2, 9001), some (2, 50), some (2, 0), some (2, 40), some (0, i), some (0, k), o6, o7], [(0, i + 1), (2, 9001), (2, 0)])) rfl ?_
  refine sw_ialS (pn := 156) rfl rfl hS (by omega) hlen ?_
  rw [hx1]
  refine sw_p 4 (f' := (161, [some (2, 9001), some (2, 50), some (2, 0), some (2, 40), some (0, i), some (0, k), o6, o7], [(0, i + 2), (2, 9001), (0, x1), (2, 0)])) rfl ?_
  refine sw_ialS (pn := 162) rfl rfl hS (by omega) hlen ?_
  rw [hx2]
  refine sw_p 4 (f' := (167, [some (2, 9001), some (2, 50), some (2, 0), some (2, 40), some (0, i), some (0, k), o6, o7], [(0, i + 3), (2, 9001), (0, x2), (0, x1), (2, 0)])) rfl ?_
  refine sw_ialS (pn := 168) rfl rfl hS (by omega) hlen ?_
  rw [hx3]
  refine sw_cv (pn := 171) (q0 := mj_Lw_law) (q := mj_Mo_bridge) (p := 0) (as2 := [(0, x1), (0, x2), (0, x3)]) (L2 := [some (2, 0), some (0, x1), some (0, x2), some (0, x3)]) (rest := []) rfl rfl rfl rfl rfl rfl rfl rfl rfl hs1.1 (hM s1 ν1 n1 l1) (fun v s2 ν2 hv => ?_) (fun _ _ _ h => by obtain ⟨_, h, _⟩ := h; cases h)
  obtain ⟨r', hv1, hv2, e0, er, rq, hi2, b29, b30⟩ := hv
  cases hv1
  subst hv2
  have hF : lw_I ρ' f' s2 ν2 := lw_mk hs h40 hI' n1 R1 u1 rq hi2 b29 b30
  have e40 := n1.1 40 (by decide) (by decide)
  have h4v : k = 0 → ν2 40 0 = Int.bmod r 4294967296 := fun h => by rw [hi2 40 (by decide)]; exact o1 h
  show sw_w E _ 140 (171, [some (2, 9001), some (2, 50), some (2, 0), some (2, 40), some (0, i), some (0, k), o6, o7], [(0, r')]) s2 ν2 _
  refine sw_p 2 (f' := (174, [some (2, 9001), some (2, 50), some (2, 0), some (2, 40), some (0, i), some (0, k), some (0, r'), o7], [(2, 0)])) rfl ?_
  refine sw_cv1 (pn := 177) (q0 := mj_Lw_law) (q := mj_Mo_thrown) (p := 0) (as2 := []) (L2 := [some (2, 0)]) (rest := []) (v := some (0, k)) (s1 := s2) (ν1 := ν2) rfl rfl rfl rfl rfl rfl rfl rfl rfl hF.1.1 (by have h := mo_thrown (E := E) (d := d) (s := s2) (ν := ν2) hF.1; rw [e0] at h; exact h) ?_
  show sw_w E _ 140 (177, [some (2, 9001), some (2, 50), some (2, 0), some (2, 40), some (0, i), some (0, k), some (0, r'), o7], [(0, k)]) s2 ν2 _
  refine sw_p 1 (f' := (179, [some (2, 9001), some (2, 50), some (2, 0), some (2, 40), some (0, i), some (0, k), some (0, r'), o7], [(0, k), (0, k)])) rfl ?_
  refine sw_eq2 (pt := 184) (pn := 182) rfl rfl rfl (by omega) (by omega) (fun g1 => ?_) (fun h => absurd h (by omega))
  refine sw_p 1 (f' := (186, [some (2, 9001), some (2, 50), some (2, 0), some (2, 40), some (0, i), some (0, k), some (0, r'), o7], [(0, k)])) rfl ?_
  refine sw_ne1 (pt := 201) (pn := 189) rfl rfl rfl (by omega) (fun g2 => ?_) (fun g2 => ?_)
  · skip
    refine sw_p 1 (f' := (1122, [some (2, 9001), some (2, 50), some (2, 0), some (2, 40), some (0, i), some (0, k), some (0, r'), o7], [])) rfl ?_
    exact hK _ _ _ _ _ n1 hF
  · skip
    refine sw_p 2 (f' := (191, [some (2, 9001), some (2, 50), some (2, 0), some (2, 40), some (0, i), some (0, k), some (0, r'), o7], [(0, 0), (2, 40)])) rfl ?_
    refine sw_lal (pn := 192) (l := 1) rfl rfl (by omega) (by rw [e40]; exact h40.1) (by rw [e40]; exact h40.2) (by omega) (by omega) ?_
    rw [show ν2 40 0 = Int.bmod r 4294967296 from h4v (by omega)]
    refine sw_p 1 (f' := (194, [some (2, 9001), some (2, 50), some (2, 0), some (2, 40), some (0, i), some (0, k), some (0, r'), o7], [(0, r'), (1, Int.bmod r 4294967296)])) rfl ?_
    refine sw_i2lw (pn := 195) rfl rfl ?_
    rw [er (by omega)]
    refine sw_lcb (pt := 201) rfl rfl rfl ?_
    refine sw_p 1 (f' := (1122, [some (2, 9001), some (2, 50), some (2, 0), some (2, 40), some (0, i), some (0, k), some (0, r), o7], [])) rfl ?_
    exact hK _ _ _ _ _ n1 hF
set_option maxRecDepth 20000 in
theorem lo_128a (hS : E.2.1 < E.1) (hlen : E.2.2.1 ≤ 3072) (hi : 0 ≤ i ∧ i + 6 ≤ (E.2.2.1 : Int)) (hx1 : (E.2.2.2.1 (i + 1).toNat).toInt = x1) (hb1 : -2147483648 ≤ x1 ∧ x1 < 2147483648) (hx2 : (E.2.2.2.1 (i + 2).toNat).toInt = x2) (hb2 : -2147483648 ≤ x2 ∧ x2 < 2147483648) (hx3 : (E.2.2.2.1 (i + 3).toNat).toInt = x3) (hb3 : -2147483648 ≤ x3 ∧ x3 < 2147483648) (hx4 : (E.2.2.2.1 (i + 4).toNat).toInt = x4) (hb4 : -2147483648 ≤ x4 ∧ x4 < 2147483648) (hx5 : (E.2.2.2.1 (i + 5).toNat).toInt = x5) (hb5 : -2147483648 ≤ x5 ∧ x5 < 2147483648) (h5 : x5 ≠ 0) (hI : lw_I ρ f s ν) (hI' : iv_I ρ' f') (hk : 0 ≤ k ∧ k ≤ 2) (hW : sw_w E d 128 (0, [some (2, 50), some (0, x1), some (0, x2), some (0, x3), some (0, x4), some (0, 1), some (2, 40), none], []) s ν (wr_e k (Int.bmod r 4294967296) s ν ρ' f')) (hM : ∀ s' ν', ns_r s s' → (∀ p, p < 40 → ν' p = ν p) → sw_w E d 87 (0, [some (2, 0), some (0, x1), some (0, x2), some (0, x3), some (0, x4), some (0, 1), none], []) s' ν' (mr_e 0 k r ρ' s' ν')) (hK : ∀ s' ν' o5 o6 o7, ns_r s s' → lw_I ρ' f' s' ν' → sw_w E (d + 1) 140 (1122, [some (2, 9001), some (2, 50), some (2, 0), some (2, 40), some (0, i), o5, o6, o7], []) s' ν' Q) : sw_w E (d + 1) 140 (204, [some (2, 9001), some (2, 50), some (2, 0), some (2, 40), some (0, i), o5, o6, o7], []) s ν Q := by
  obtain ⟨hs, h40, -, -, -, -, -, -⟩ := hI
  refine sw_p 5 (f' := (210, [some (2, 9001), some (2, 50), some (2, 0), some (2, 40), some (0, i), o5, o6, o7], [(0, i + 1), (2, 9001), (2, 50)])) rfl ?_
  refine sw_ialS (pn := 211) rfl rfl hS (by omega) hlen ?_
  rw [hx1]
  refine sw_p 4 (f' := (216, [some (2, 9001), some (2, 50), some (2, 0), some (2, 40), some (0, i), o5, o6, o7], [(0, i + 2), (2, 9001), (0, x1), (2, 50)])) rfl ?_
  refine sw_ialS (pn := 217) rfl rfl hS (by omega) hlen ?_
  rw [hx2]
  refine sw_p 4 (f' := (222, [some (2, 9001), some (2, 50), some (2, 0), some (2, 40), some (0, i), o5, o6, o7], [(0, i + 3), (2, 9001), (0, x2), (0, x1), (2, 50)])) rfl ?_
  refine sw_ialS (pn := 223) rfl rfl hS (by omega) hlen ?_
  rw [hx3]
  refine sw_p 4 (f' := (228, [some (2, 9001), some (2, 50), some (2, 0), some (2, 40), some (0, i), o5, o6, o7], [(0, i + 4), (2, 9001), (0, x3), (0, x2), (0, x1), (2, 50)])) rfl ?_
  refine sw_ialS (pn := 229) rfl rfl hS (by omega) hlen ?_
  rw [hx4]
  refine sw_p 4 (f' := (234, [some (2, 9001), some (2, 50), some (2, 0), some (2, 40), some (0, i), o5, o6, o7], [(0, i + 5), (2, 9001), (0, x4), (0, x3), (0, x2), (0, x1), (2, 50)])) rfl ?_
  refine sw_ialS (pn := 235) rfl rfl hS (by omega) hlen ?_
  rw [hx5]
  refine sw_eq1 (pt := 242) (pn := 238) rfl rfl rfl (by omega) (fun h => absurd h (by omega)) (fun g1 => ?_)
  refine sw_p 3 (f' := (244, [some (2, 9001), some (2, 50), some (2, 0), some (2, 40), some (0, i), o5, o6, o7], [(2, 40), (0, 1), (0, x4), (0, x3), (0, x2), (0, x1), (2, 50)])) rfl ?_
  refine sw_cs (pn := 247) (q0 := mj_Lw_law) (q := mj_Lw_type) (L2 := [some (2, 50), some (0, x1), some (0, x2), some (0, x3), some (0, x4), some (0, 1), some (2, 40), none]) (rest := []) rfl rfl rfl rfl rfl rfl rfl rfl hW (fun v s1 ν1 hv => ?_) (fun _ _ _ h => nomatch h.1)
  have hv1 := hv.1
  cases hv1
  obtain ⟨-, n1, R1, u1, l1, o1⟩ := hv
  have hs1 : mo_sh s1 := ns_sh n1 hs
  show sw_w E _ 140 (247, [some (2, 9001), some (2, 50), some (2, 0), some (2, 40), some (0, i), o5, o6, o7], [(0, k)]) s1 ν1 _
  refine sw_p 6 (f' := (255, [some (2, 9001), some (2, 50), some (2, 0), some (2, 40), some (0, i), some (0, k), o6, o7], [(0, i + 1), (2, 9001), (2, 0)])) rfl ?_
  refine sw_ialS (pn := 256) rfl rfl hS (by omega) hlen ?_
  rw [hx1]
  refine sw_p 4 (f' := (261, [some (2, 9001), some (2, 50), some (2, 0), some (2, 40), some (0, i), some (0, k), o6, o7], [(0, i + 2), (2, 9001), (0, x1), (2, 0)])) rfl ?_
  refine sw_ialS (pn := 262) rfl rfl hS (by omega) hlen ?_
  rw [hx2]
  refine sw_p 4 (f' := (267, [some (2, 9001), some (2, 50), some (2, 0), some (2, 40), some (0, i), some (0, k), o6, o7], [(0, i + 3), (2, 9001), (0, x2), (0, x1), (2, 0)])) rfl ?_
  refine sw_ialS (pn := 268) rfl rfl hS (by omega) hlen ?_
  rw [hx3]
  refine sw_p 4 (f' := (273, [some (2, 9001), some (2, 50), some (2, 0), some (2, 40), some (0, i), some (0, k), o6, o7], [(0, i + 4), (2, 9001), (0, x3), (0, x2), (0, x1), (2, 0)])) rfl ?_
  refine sw_ialS (pn := 274) rfl rfl hS (by omega) hlen ?_
  rw [hx4]
  refine sw_p 4 (f' := (279, [some (2, 9001), some (2, 50), some (2, 0), some (2, 40), some (0, i), some (0, k), o6, o7], [(0, i + 5), (2, 9001), (0, x4), (0, x3), (0, x2), (0, x1), (2, 0)])) rfl ?_
  refine sw_ialS (pn := 280) rfl rfl hS (by omega) hlen ?_
  rw [hx5]
  refine sw_eq1 (pt := 287) (pn := 283) rfl rfl rfl (by omega) (fun h => absurd h (by omega)) (fun g2 => ?_)
  refine sw_p 2 (f' := (288, [some (2, 9001), some (2, 50), some (2, 0), some (2, 40), some (0, i), some (0, k), o6, o7], [(0, 1), (0, x4), (0, x3), (0, x2), (0, x1), (2, 0)])) rfl ?_
  refine sw_cv (pn := 291) (q0 := mj_Lw_law) (q := mj_Mo_type) (p := 0) (as2 := [(0, x1), (0, x2), (0, x3), (0, x4), (0, 1)]) (L2 := [some (2, 0), some (0, x1), some (0, x2), some (0, x3), some (0, x4), some (0, 1), none]) (rest := []) rfl rfl rfl rfl rfl rfl rfl rfl rfl hs1.1 (hM s1 ν1 n1 l1) (fun v s2 ν2 hv => ?_) (fun _ _ _ h => by obtain ⟨_, h, _⟩ := h; cases h)
  obtain ⟨r', hv1, hv2, e0, er, rq, hi2, b29, b30⟩ := hv
  cases hv1
  subst hv2
  have hF : lw_I ρ' f' s2 ν2 := lw_mk hs h40 hI' n1 R1 u1 rq hi2 b29 b30
  have e40 := n1.1 40 (by decide) (by decide)
  have h4v : k = 0 → ν2 40 0 = Int.bmod r 4294967296 := fun h => by rw [hi2 40 (by decide)]; exact o1 h
  show sw_w E _ 140 (291, [some (2, 9001), some (2, 50), some (2, 0), some (2, 40), some (0, i), some (0, k), o6, o7], [(0, r')]) s2 ν2 _
  refine sw_p 2 (f' := (294, [some (2, 9001), some (2, 50), some (2, 0), some (2, 40), some (0, i), some (0, k), some (0, r'), o7], [(2, 0)])) rfl ?_
  refine sw_cv1 (pn := 297) (q0 := mj_Lw_law) (q := mj_Mo_thrown) (p := 0) (as2 := []) (L2 := [some (2, 0)]) (rest := []) (v := some (0, k)) (s1 := s2) (ν1 := ν2) rfl rfl rfl rfl rfl rfl rfl rfl rfl hF.1.1 (by have h := mo_thrown (E := E) (d := d) (s := s2) (ν := ν2) hF.1; rw [e0] at h; exact h) ?_
  show sw_w E _ 140 (297, [some (2, 9001), some (2, 50), some (2, 0), some (2, 40), some (0, i), some (0, k), some (0, r'), o7], [(0, k)]) s2 ν2 _
  refine sw_p 1 (f' := (299, [some (2, 9001), some (2, 50), some (2, 0), some (2, 40), some (0, i), some (0, k), some (0, r'), o7], [(0, k), (0, k)])) rfl ?_
  refine sw_eq2 (pt := 304) (pn := 302) rfl rfl rfl (by omega) (by omega) (fun g3 => ?_) (fun h => absurd h (by omega))
  refine sw_p 1 (f' := (306, [some (2, 9001), some (2, 50), some (2, 0), some (2, 40), some (0, i), some (0, k), some (0, r'), o7], [(0, k)])) rfl ?_
  refine sw_ne1 (pt := 321) (pn := 309) rfl rfl rfl (by omega) (fun g4 => ?_) (fun g4 => ?_)
  · skip
    refine sw_p 1 (f' := (1122, [some (2, 9001), some (2, 50), some (2, 0), some (2, 40), some (0, i), some (0, k), some (0, r'), o7], [])) rfl ?_
    exact hK _ _ _ _ _ n1 hF
  · skip
    refine sw_p 2 (f' := (311, [some (2, 9001), some (2, 50), some (2, 0), some (2, 40), some (0, i), some (0, k), some (0, r'), o7], [(0, 0), (2, 40)])) rfl ?_
    refine sw_lal (pn := 312) (l := 1) rfl rfl (by omega) (by rw [e40]; exact h40.1) (by rw [e40]; exact h40.2) (by omega) (by omega) ?_
    rw [show ν2 40 0 = Int.bmod r 4294967296 from h4v (by omega)]
    refine sw_p 1 (f' := (314, [some (2, 9001), some (2, 50), some (2, 0), some (2, 40), some (0, i), some (0, k), some (0, r'), o7], [(0, r'), (1, Int.bmod r 4294967296)])) rfl ?_
    refine sw_i2lw (pn := 315) rfl rfl ?_
    rw [er (by omega)]
    refine sw_lcb (pt := 321) rfl rfl rfl ?_
    refine sw_p 1 (f' := (1122, [some (2, 9001), some (2, 50), some (2, 0), some (2, 40), some (0, i), some (0, k), some (0, r), o7], [])) rfl ?_
    exact hK _ _ _ _ _ n1 hF
set_option maxRecDepth 20000 in
theorem lo_128b (hS : E.2.1 < E.1) (hlen : E.2.2.1 ≤ 3072) (hi : 0 ≤ i ∧ i + 6 ≤ (E.2.2.1 : Int)) (hx1 : (E.2.2.2.1 (i + 1).toNat).toInt = x1) (hb1 : -2147483648 ≤ x1 ∧ x1 < 2147483648) (hx2 : (E.2.2.2.1 (i + 2).toNat).toInt = x2) (hb2 : -2147483648 ≤ x2 ∧ x2 < 2147483648) (hx3 : (E.2.2.2.1 (i + 3).toNat).toInt = x3) (hb3 : -2147483648 ≤ x3 ∧ x3 < 2147483648) (hx4 : (E.2.2.2.1 (i + 4).toNat).toInt = x4) (hb4 : -2147483648 ≤ x4 ∧ x4 < 2147483648) (hx5 : (E.2.2.2.1 (i + 5).toNat).toInt = x5) (hb5 : -2147483648 ≤ x5 ∧ x5 < 2147483648) (h5 : x5 = 0) (hI : lw_I ρ f s ν) (hI' : iv_I ρ' f') (hk : 0 ≤ k ∧ k ≤ 2) (hW : sw_w E d 128 (0, [some (2, 50), some (0, x1), some (0, x2), some (0, x3), some (0, x4), some (0, 0), some (2, 40), none], []) s ν (wr_e k (Int.bmod r 4294967296) s ν ρ' f')) (hM : ∀ s' ν', ns_r s s' → (∀ p, p < 40 → ν' p = ν p) → sw_w E d 87 (0, [some (2, 0), some (0, x1), some (0, x2), some (0, x3), some (0, x4), some (0, 0), none], []) s' ν' (mr_e 0 k r ρ' s' ν')) (hK : ∀ s' ν' o5 o6 o7, ns_r s s' → lw_I ρ' f' s' ν' → sw_w E (d + 1) 140 (1122, [some (2, 9001), some (2, 50), some (2, 0), some (2, 40), some (0, i), o5, o6, o7], []) s' ν' Q) : sw_w E (d + 1) 140 (204, [some (2, 9001), some (2, 50), some (2, 0), some (2, 40), some (0, i), o5, o6, o7], []) s ν Q := by
  obtain ⟨hs, h40, -, -, -, -, -, -⟩ := hI
  refine sw_p 5 (f' := (210, [some (2, 9001), some (2, 50), some (2, 0), some (2, 40), some (0, i), o5, o6, o7], [(0, i + 1), (2, 9001), (2, 50)])) rfl ?_
  refine sw_ialS (pn := 211) rfl rfl hS (by omega) hlen ?_
  rw [hx1]
  refine sw_p 4 (f' := (216, [some (2, 9001), some (2, 50), some (2, 0), some (2, 40), some (0, i), o5, o6, o7], [(0, i + 2), (2, 9001), (0, x1), (2, 50)])) rfl ?_
  refine sw_ialS (pn := 217) rfl rfl hS (by omega) hlen ?_
  rw [hx2]
  refine sw_p 4 (f' := (222, [some (2, 9001), some (2, 50), some (2, 0), some (2, 40), some (0, i), o5, o6, o7], [(0, i + 3), (2, 9001), (0, x2), (0, x1), (2, 50)])) rfl ?_
  refine sw_ialS (pn := 223) rfl rfl hS (by omega) hlen ?_
  rw [hx3]
  refine sw_p 4 (f' := (228, [some (2, 9001), some (2, 50), some (2, 0), some (2, 40), some (0, i), o5, o6, o7], [(0, i + 4), (2, 9001), (0, x3), (0, x2), (0, x1), (2, 50)])) rfl ?_
  refine sw_ialS (pn := 229) rfl rfl hS (by omega) hlen ?_
  rw [hx4]
  refine sw_p 4 (f' := (234, [some (2, 9001), some (2, 50), some (2, 0), some (2, 40), some (0, i), o5, o6, o7], [(0, i + 5), (2, 9001), (0, x4), (0, x3), (0, x2), (0, x1), (2, 50)])) rfl ?_
  refine sw_ialS (pn := 235) rfl rfl hS (by omega) hlen ?_
  rw [hx5]
  refine sw_eq1 (pt := 242) (pn := 238) rfl rfl rfl (by omega) (fun g1 => ?_) (fun h => absurd h (by omega))
  refine sw_p 2 (f' := (244, [some (2, 9001), some (2, 50), some (2, 0), some (2, 40), some (0, i), o5, o6, o7], [(2, 40), (0, 0), (0, x4), (0, x3), (0, x2), (0, x1), (2, 50)])) rfl ?_
  refine sw_cs (pn := 247) (q0 := mj_Lw_law) (q := mj_Lw_type) (L2 := [some (2, 50), some (0, x1), some (0, x2), some (0, x3), some (0, x4), some (0, 0), some (2, 40), none]) (rest := []) rfl rfl rfl rfl rfl rfl rfl rfl hW (fun v s1 ν1 hv => ?_) (fun _ _ _ h => nomatch h.1)
  have hv1 := hv.1
  cases hv1
  obtain ⟨-, n1, R1, u1, l1, o1⟩ := hv
  have hs1 : mo_sh s1 := ns_sh n1 hs
  show sw_w E _ 140 (247, [some (2, 9001), some (2, 50), some (2, 0), some (2, 40), some (0, i), o5, o6, o7], [(0, k)]) s1 ν1 _
  refine sw_p 6 (f' := (255, [some (2, 9001), some (2, 50), some (2, 0), some (2, 40), some (0, i), some (0, k), o6, o7], [(0, i + 1), (2, 9001), (2, 0)])) rfl ?_
  refine sw_ialS (pn := 256) rfl rfl hS (by omega) hlen ?_
  rw [hx1]
  refine sw_p 4 (f' := (261, [some (2, 9001), some (2, 50), some (2, 0), some (2, 40), some (0, i), some (0, k), o6, o7], [(0, i + 2), (2, 9001), (0, x1), (2, 0)])) rfl ?_
  refine sw_ialS (pn := 262) rfl rfl hS (by omega) hlen ?_
  rw [hx2]
  refine sw_p 4 (f' := (267, [some (2, 9001), some (2, 50), some (2, 0), some (2, 40), some (0, i), some (0, k), o6, o7], [(0, i + 3), (2, 9001), (0, x2), (0, x1), (2, 0)])) rfl ?_
  refine sw_ialS (pn := 268) rfl rfl hS (by omega) hlen ?_
  rw [hx3]
  refine sw_p 4 (f' := (273, [some (2, 9001), some (2, 50), some (2, 0), some (2, 40), some (0, i), some (0, k), o6, o7], [(0, i + 4), (2, 9001), (0, x3), (0, x2), (0, x1), (2, 0)])) rfl ?_
  refine sw_ialS (pn := 274) rfl rfl hS (by omega) hlen ?_
  rw [hx4]
  refine sw_p 4 (f' := (279, [some (2, 9001), some (2, 50), some (2, 0), some (2, 40), some (0, i), some (0, k), o6, o7], [(0, i + 5), (2, 9001), (0, x4), (0, x3), (0, x2), (0, x1), (2, 0)])) rfl ?_
  refine sw_ialS (pn := 280) rfl rfl hS (by omega) hlen ?_
  rw [hx5]
  refine sw_eq1 (pt := 287) (pn := 283) rfl rfl rfl (by omega) (fun g2 => ?_) (fun h => absurd h (by omega))
  refine sw_p 1 (f' := (288, [some (2, 9001), some (2, 50), some (2, 0), some (2, 40), some (0, i), some (0, k), o6, o7], [(0, 0), (0, x4), (0, x3), (0, x2), (0, x1), (2, 0)])) rfl ?_
  refine sw_cv (pn := 291) (q0 := mj_Lw_law) (q := mj_Mo_type) (p := 0) (as2 := [(0, x1), (0, x2), (0, x3), (0, x4), (0, 0)]) (L2 := [some (2, 0), some (0, x1), some (0, x2), some (0, x3), some (0, x4), some (0, 0), none]) (rest := []) rfl rfl rfl rfl rfl rfl rfl rfl rfl hs1.1 (hM s1 ν1 n1 l1) (fun v s2 ν2 hv => ?_) (fun _ _ _ h => by obtain ⟨_, h, _⟩ := h; cases h)
  obtain ⟨r', hv1, hv2, e0, er, rq, hi2, b29, b30⟩ := hv
  cases hv1
  subst hv2
  have hF : lw_I ρ' f' s2 ν2 := lw_mk hs h40 hI' n1 R1 u1 rq hi2 b29 b30
  have e40 := n1.1 40 (by decide) (by decide)
  have h4v : k = 0 → ν2 40 0 = Int.bmod r 4294967296 := fun h => by rw [hi2 40 (by decide)]; exact o1 h
  show sw_w E _ 140 (291, [some (2, 9001), some (2, 50), some (2, 0), some (2, 40), some (0, i), some (0, k), o6, o7], [(0, r')]) s2 ν2 _
  refine sw_p 2 (f' := (294, [some (2, 9001), some (2, 50), some (2, 0), some (2, 40), some (0, i), some (0, k), some (0, r'), o7], [(2, 0)])) rfl ?_
  refine sw_cv1 (pn := 297) (q0 := mj_Lw_law) (q := mj_Mo_thrown) (p := 0) (as2 := []) (L2 := [some (2, 0)]) (rest := []) (v := some (0, k)) (s1 := s2) (ν1 := ν2) rfl rfl rfl rfl rfl rfl rfl rfl rfl hF.1.1 (by have h := mo_thrown (E := E) (d := d) (s := s2) (ν := ν2) hF.1; rw [e0] at h; exact h) ?_
  show sw_w E _ 140 (297, [some (2, 9001), some (2, 50), some (2, 0), some (2, 40), some (0, i), some (0, k), some (0, r'), o7], [(0, k)]) s2 ν2 _
  refine sw_p 1 (f' := (299, [some (2, 9001), some (2, 50), some (2, 0), some (2, 40), some (0, i), some (0, k), some (0, r'), o7], [(0, k), (0, k)])) rfl ?_
  refine sw_eq2 (pt := 304) (pn := 302) rfl rfl rfl (by omega) (by omega) (fun g3 => ?_) (fun h => absurd h (by omega))
  refine sw_p 1 (f' := (306, [some (2, 9001), some (2, 50), some (2, 0), some (2, 40), some (0, i), some (0, k), some (0, r'), o7], [(0, k)])) rfl ?_
  refine sw_ne1 (pt := 321) (pn := 309) rfl rfl rfl (by omega) (fun g4 => ?_) (fun g4 => ?_)
  · skip
    refine sw_p 1 (f' := (1122, [some (2, 9001), some (2, 50), some (2, 0), some (2, 40), some (0, i), some (0, k), some (0, r'), o7], [])) rfl ?_
    exact hK _ _ _ _ _ n1 hF
  · skip
    refine sw_p 2 (f' := (311, [some (2, 9001), some (2, 50), some (2, 0), some (2, 40), some (0, i), some (0, k), some (0, r'), o7], [(0, 0), (2, 40)])) rfl ?_
    refine sw_lal (pn := 312) (l := 1) rfl rfl (by omega) (by rw [e40]; exact h40.1) (by rw [e40]; exact h40.2) (by omega) (by omega) ?_
    rw [show ν2 40 0 = Int.bmod r 4294967296 from h4v (by omega)]
    refine sw_p 1 (f' := (314, [some (2, 9001), some (2, 50), some (2, 0), some (2, 40), some (0, i), some (0, k), some (0, r'), o7], [(0, r'), (1, Int.bmod r 4294967296)])) rfl ?_
    refine sw_i2lw (pn := 315) rfl rfl ?_
    rw [er (by omega)]
    refine sw_lcb (pt := 321) rfl rfl rfl ?_
    refine sw_p 1 (f' := (1122, [some (2, 9001), some (2, 50), some (2, 0), some (2, 40), some (0, i), some (0, k), some (0, r), o7], [])) rfl ?_
    exact hK _ _ _ _ _ n1 hF
set_option maxRecDepth 20000 in
theorem lo_129 (hS : E.2.1 < E.1) (hlen : E.2.2.1 ≤ 3072) (hi : 0 ≤ i ∧ i + 6 ≤ (E.2.2.1 : Int)) (hx1 : (E.2.2.2.1 (i + 1).toNat).toInt = x1) (hb1 : -2147483648 ≤ x1 ∧ x1 < 2147483648) (hx2 : (E.2.2.2.1 (i + 2).toNat).toInt = x2) (hb2 : -2147483648 ≤ x2 ∧ x2 < 2147483648) (hx3 : (E.2.2.2.1 (i + 3).toNat).toInt = x3) (hb3 : -2147483648 ≤ x3 ∧ x3 < 2147483648) (hI : lw_I ρ f s ν) (hI' : iv_I ρ' f') (hk : 0 ≤ k ∧ k ≤ 2) (hW : sw_w E d 129 (0, [some (2, 50), some (0, x1), some (0, x2), some (0, x3), some (2, 40), none], []) s ν (wr_e k (Int.bmod r 4294967296) s ν ρ' f')) (hM : ∀ s' ν', ns_r s s' → (∀ p, p < 40 → ν' p = ν p) → sw_w E d 88 (0, [some (2, 0), some (0, x1), some (0, x2), some (0, x3), none], []) s' ν' (mr_e 0 k r ρ' s' ν')) (hK : ∀ s' ν' o5 o6 o7, ns_r s s' → lw_I ρ' f' s' ν' → sw_w E (d + 1) 140 (1122, [some (2, 9001), some (2, 50), some (2, 0), some (2, 40), some (0, i), o5, o6, o7], []) s' ν' Q) : sw_w E (d + 1) 140 (324, [some (2, 9001), some (2, 50), some (2, 0), some (2, 40), some (0, i), o5, o6, o7], []) s ν Q := by
  obtain ⟨hs, h40, -, -, -, -, -, -⟩ := hI
  refine sw_p 5 (f' := (330, [some (2, 9001), some (2, 50), some (2, 0), some (2, 40), some (0, i), o5, o6, o7], [(0, i + 1), (2, 9001), (2, 50)])) rfl ?_
  refine sw_ialS (pn := 331) rfl rfl hS (by omega) hlen ?_
  rw [hx1]
  refine sw_p 4 (f' := (336, [some (2, 9001), some (2, 50), some (2, 0), some (2, 40), some (0, i), o5, o6, o7], [(0, i + 2), (2, 9001), (0, x1), (2, 50)])) rfl ?_
  refine sw_ialS (pn := 337) rfl rfl hS (by omega) hlen ?_
  rw [hx2]
  refine sw_p 4 (f' := (342, [some (2, 9001), some (2, 50), some (2, 0), some (2, 40), some (0, i), o5, o6, o7], [(0, i + 3), (2, 9001), (0, x2), (0, x1), (2, 50)])) rfl ?_
  refine sw_ialS (pn := 343) rfl rfl hS (by omega) hlen ?_
  rw [hx3]
  refine sw_p 1 (f' := (344, [some (2, 9001), some (2, 50), some (2, 0), some (2, 40), some (0, i), o5, o6, o7], [(2, 40), (0, x3), (0, x2), (0, x1), (2, 50)])) rfl ?_
  refine sw_cs (pn := 347) (q0 := mj_Lw_law) (q := mj_Lw_plug) (L2 := [some (2, 50), some (0, x1), some (0, x2), some (0, x3), some (2, 40), none]) (rest := []) rfl rfl rfl rfl rfl rfl rfl rfl hW (fun v s1 ν1 hv => ?_) (fun _ _ _ h => nomatch h.1)
  have hv1 := hv.1
  cases hv1
  obtain ⟨-, n1, R1, u1, l1, o1⟩ := hv
  have hs1 : mo_sh s1 := ns_sh n1 hs
  show sw_w E _ 140 (347, [some (2, 9001), some (2, 50), some (2, 0), some (2, 40), some (0, i), o5, o6, o7], [(0, k)]) s1 ν1 _
  refine sw_p 6 (f' := (355, [some (2, 9001), some (2, 50), some (2, 0), some (2, 40), some (0, i), some (0, k), o6, o7], [(0, i + 1), (2, 9001), (2, 0)])) rfl ?_
  refine sw_ialS (pn := 356) rfl rfl hS (by omega) hlen ?_
  rw [hx1]
  refine sw_p 4 (f' := (361, [some (2, 9001), some (2, 50), some (2, 0), some (2, 40), some (0, i), some (0, k), o6, o7], [(0, i + 2), (2, 9001), (0, x1), (2, 0)])) rfl ?_
  refine sw_ialS (pn := 362) rfl rfl hS (by omega) hlen ?_
  rw [hx2]
  refine sw_p 4 (f' := (367, [some (2, 9001), some (2, 50), some (2, 0), some (2, 40), some (0, i), some (0, k), o6, o7], [(0, i + 3), (2, 9001), (0, x2), (0, x1), (2, 0)])) rfl ?_
  refine sw_ialS (pn := 368) rfl rfl hS (by omega) hlen ?_
  rw [hx3]
  refine sw_cv (pn := 371) (q0 := mj_Lw_law) (q := mj_Mo_plug) (p := 0) (as2 := [(0, x1), (0, x2), (0, x3)]) (L2 := [some (2, 0), some (0, x1), some (0, x2), some (0, x3), none]) (rest := []) rfl rfl rfl rfl rfl rfl rfl rfl rfl hs1.1 (hM s1 ν1 n1 l1) (fun v s2 ν2 hv => ?_) (fun _ _ _ h => by obtain ⟨_, h, _⟩ := h; cases h)
  obtain ⟨r', hv1, hv2, e0, er, rq, hi2, b29, b30⟩ := hv
  cases hv1
  subst hv2
  have hF : lw_I ρ' f' s2 ν2 := lw_mk hs h40 hI' n1 R1 u1 rq hi2 b29 b30
  have e40 := n1.1 40 (by decide) (by decide)
  have h4v : k = 0 → ν2 40 0 = Int.bmod r 4294967296 := fun h => by rw [hi2 40 (by decide)]; exact o1 h
  show sw_w E _ 140 (371, [some (2, 9001), some (2, 50), some (2, 0), some (2, 40), some (0, i), some (0, k), o6, o7], [(0, r')]) s2 ν2 _
  refine sw_p 2 (f' := (374, [some (2, 9001), some (2, 50), some (2, 0), some (2, 40), some (0, i), some (0, k), some (0, r'), o7], [(2, 0)])) rfl ?_
  refine sw_cv1 (pn := 377) (q0 := mj_Lw_law) (q := mj_Mo_thrown) (p := 0) (as2 := []) (L2 := [some (2, 0)]) (rest := []) (v := some (0, k)) (s1 := s2) (ν1 := ν2) rfl rfl rfl rfl rfl rfl rfl rfl rfl hF.1.1 (by have h := mo_thrown (E := E) (d := d) (s := s2) (ν := ν2) hF.1; rw [e0] at h; exact h) ?_
  show sw_w E _ 140 (377, [some (2, 9001), some (2, 50), some (2, 0), some (2, 40), some (0, i), some (0, k), some (0, r'), o7], [(0, k)]) s2 ν2 _
  refine sw_p 1 (f' := (379, [some (2, 9001), some (2, 50), some (2, 0), some (2, 40), some (0, i), some (0, k), some (0, r'), o7], [(0, k), (0, k)])) rfl ?_
  refine sw_eq2 (pt := 384) (pn := 382) rfl rfl rfl (by omega) (by omega) (fun g1 => ?_) (fun h => absurd h (by omega))
  refine sw_p 1 (f' := (386, [some (2, 9001), some (2, 50), some (2, 0), some (2, 40), some (0, i), some (0, k), some (0, r'), o7], [(0, k)])) rfl ?_
  refine sw_ne1 (pt := 401) (pn := 389) rfl rfl rfl (by omega) (fun g2 => ?_) (fun g2 => ?_)
  · skip
    refine sw_p 1 (f' := (1122, [some (2, 9001), some (2, 50), some (2, 0), some (2, 40), some (0, i), some (0, k), some (0, r'), o7], [])) rfl ?_
    exact hK _ _ _ _ _ n1 hF
  · skip
    refine sw_p 2 (f' := (391, [some (2, 9001), some (2, 50), some (2, 0), some (2, 40), some (0, i), some (0, k), some (0, r'), o7], [(0, 0), (2, 40)])) rfl ?_
    refine sw_lal (pn := 392) (l := 1) rfl rfl (by omega) (by rw [e40]; exact h40.1) (by rw [e40]; exact h40.2) (by omega) (by omega) ?_
    rw [show ν2 40 0 = Int.bmod r 4294967296 from h4v (by omega)]
    refine sw_p 1 (f' := (394, [some (2, 9001), some (2, 50), some (2, 0), some (2, 40), some (0, i), some (0, k), some (0, r'), o7], [(0, r'), (1, Int.bmod r 4294967296)])) rfl ?_
    refine sw_i2lw (pn := 395) rfl rfl ?_
    rw [er (by omega)]
    refine sw_lcb (pt := 401) rfl rfl rfl ?_
    refine sw_p 1 (f' := (1122, [some (2, 9001), some (2, 50), some (2, 0), some (2, 40), some (0, i), some (0, k), some (0, r), o7], [])) rfl ?_
    exact hK _ _ _ _ _ n1 hF
set_option maxRecDepth 20000 in
theorem lo_130 (hS : E.2.1 < E.1) (hlen : E.2.2.1 ≤ 3072) (hi : 0 ≤ i ∧ i + 6 ≤ (E.2.2.1 : Int)) (hx1 : (E.2.2.2.1 (i + 1).toNat).toInt = x1) (hb1 : -2147483648 ≤ x1 ∧ x1 < 2147483648) (hI : lw_I ρ f s ν) (hI' : iv_I ρ' f') (hk : 0 ≤ k ∧ k ≤ 2) (hW : sw_w E d 130 (0, [some (2, 50), some (0, x1), some (2, 40), none], []) s ν (wr_e k (Int.bmod r 4294967296) s ν ρ' f')) (hM : ∀ s' ν', ns_r s s' → (∀ p, p < 40 → ν' p = ν p) → sw_w E d 111 (0, [some (2, 0), some (0, x1)], []) s' ν' (mr_e 0 k r ρ' s' ν')) (hK : ∀ s' ν' o5 o6 o7, ns_r s s' → lw_I ρ' f' s' ν' → sw_w E (d + 1) 140 (1122, [some (2, 9001), some (2, 50), some (2, 0), some (2, 40), some (0, i), o5, o6, o7], []) s' ν' Q) : sw_w E (d + 1) 140 (430, [some (2, 9001), some (2, 50), some (2, 0), some (2, 40), some (0, i), o5, o6, o7], []) s ν Q := by
  obtain ⟨hs, h40, -, -, -, -, -, -⟩ := hI
  refine sw_p 5 (f' := (436, [some (2, 9001), some (2, 50), some (2, 0), some (2, 40), some (0, i), o5, o6, o7], [(0, i + 1), (2, 9001), (2, 50)])) rfl ?_
  refine sw_ialS (pn := 437) rfl rfl hS (by omega) hlen ?_
  rw [hx1]
  refine sw_p 1 (f' := (438, [some (2, 9001), some (2, 50), some (2, 0), some (2, 40), some (0, i), o5, o6, o7], [(2, 40), (0, x1), (2, 50)])) rfl ?_
  refine sw_cs (pn := 441) (q0 := mj_Lw_law) (q := mj_Lw_pull) (L2 := [some (2, 50), some (0, x1), some (2, 40), none]) (rest := []) rfl rfl rfl rfl rfl rfl rfl rfl hW (fun v s1 ν1 hv => ?_) (fun _ _ _ h => nomatch h.1)
  have hv1 := hv.1
  cases hv1
  obtain ⟨-, n1, R1, u1, l1, o1⟩ := hv
  have hs1 : mo_sh s1 := ns_sh n1 hs
  show sw_w E _ 140 (441, [some (2, 9001), some (2, 50), some (2, 0), some (2, 40), some (0, i), o5, o6, o7], [(0, k)]) s1 ν1 _
  refine sw_p 6 (f' := (449, [some (2, 9001), some (2, 50), some (2, 0), some (2, 40), some (0, i), some (0, k), o6, o7], [(0, i + 1), (2, 9001), (2, 0)])) rfl ?_
  refine sw_ialS (pn := 450) rfl rfl hS (by omega) hlen ?_
  rw [hx1]
  refine sw_cv (pn := 453) (q0 := mj_Lw_law) (q := mj_Mo_pull) (p := 0) (as2 := [(0, x1)]) (L2 := [some (2, 0), some (0, x1)]) (rest := []) rfl rfl rfl rfl rfl rfl rfl rfl rfl hs1.1 (hM s1 ν1 n1 l1) (fun v s2 ν2 hv => ?_) (fun _ _ _ h => by obtain ⟨_, h, _⟩ := h; cases h)
  obtain ⟨r', hv1, hv2, e0, er, rq, hi2, b29, b30⟩ := hv
  cases hv1
  subst hv2
  have hF : lw_I ρ' f' s2 ν2 := lw_mk hs h40 hI' n1 R1 u1 rq hi2 b29 b30
  have e40 := n1.1 40 (by decide) (by decide)
  have h4v : k = 0 → ν2 40 0 = Int.bmod r 4294967296 := fun h => by rw [hi2 40 (by decide)]; exact o1 h
  show sw_w E _ 140 (453, [some (2, 9001), some (2, 50), some (2, 0), some (2, 40), some (0, i), some (0, k), o6, o7], [(0, r')]) s2 ν2 _
  refine sw_p 2 (f' := (456, [some (2, 9001), some (2, 50), some (2, 0), some (2, 40), some (0, i), some (0, k), some (0, r'), o7], [(2, 0)])) rfl ?_
  refine sw_cv1 (pn := 459) (q0 := mj_Lw_law) (q := mj_Mo_thrown) (p := 0) (as2 := []) (L2 := [some (2, 0)]) (rest := []) (v := some (0, k)) (s1 := s2) (ν1 := ν2) rfl rfl rfl rfl rfl rfl rfl rfl rfl hF.1.1 (by have h := mo_thrown (E := E) (d := d) (s := s2) (ν := ν2) hF.1; rw [e0] at h; exact h) ?_
  show sw_w E _ 140 (459, [some (2, 9001), some (2, 50), some (2, 0), some (2, 40), some (0, i), some (0, k), some (0, r'), o7], [(0, k)]) s2 ν2 _
  refine sw_p 1 (f' := (461, [some (2, 9001), some (2, 50), some (2, 0), some (2, 40), some (0, i), some (0, k), some (0, r'), o7], [(0, k), (0, k)])) rfl ?_
  refine sw_eq2 (pt := 466) (pn := 464) rfl rfl rfl (by omega) (by omega) (fun g1 => ?_) (fun h => absurd h (by omega))
  refine sw_p 1 (f' := (468, [some (2, 9001), some (2, 50), some (2, 0), some (2, 40), some (0, i), some (0, k), some (0, r'), o7], [(0, k)])) rfl ?_
  refine sw_ne1 (pt := 483) (pn := 471) rfl rfl rfl (by omega) (fun g2 => ?_) (fun g2 => ?_)
  · skip
    refine sw_p 1 (f' := (1122, [some (2, 9001), some (2, 50), some (2, 0), some (2, 40), some (0, i), some (0, k), some (0, r'), o7], [])) rfl ?_
    exact hK _ _ _ _ _ n1 hF
  · skip
    refine sw_p 2 (f' := (473, [some (2, 9001), some (2, 50), some (2, 0), some (2, 40), some (0, i), some (0, k), some (0, r'), o7], [(0, 0), (2, 40)])) rfl ?_
    refine sw_lal (pn := 474) (l := 1) rfl rfl (by omega) (by rw [e40]; exact h40.1) (by rw [e40]; exact h40.2) (by omega) (by omega) ?_
    rw [show ν2 40 0 = Int.bmod r 4294967296 from h4v (by omega)]
    refine sw_p 1 (f' := (476, [some (2, 9001), some (2, 50), some (2, 0), some (2, 40), some (0, i), some (0, k), some (0, r'), o7], [(0, r'), (1, Int.bmod r 4294967296)])) rfl ?_
    refine sw_i2lw (pn := 477) rfl rfl ?_
    rw [er (by omega)]
    refine sw_lcb (pt := 483) rfl rfl rfl ?_
    refine sw_p 1 (f' := (1122, [some (2, 9001), some (2, 50), some (2, 0), some (2, 40), some (0, i), some (0, k), some (0, r), o7], [])) rfl ?_
    exact hK _ _ _ _ _ n1 hF
set_option maxRecDepth 20000 in
theorem lo_131 (hS : E.2.1 < E.1) (hlen : E.2.2.1 ≤ 3072) (hi : 0 ≤ i ∧ i + 6 ≤ (E.2.2.1 : Int)) (hx1 : (E.2.2.2.1 (i + 1).toNat).toInt = x1) (hb1 : -2147483648 ≤ x1 ∧ x1 < 2147483648) (hI : lw_I ρ f s ν) (hI' : iv_I ρ' f') (hk : 0 ≤ k ∧ k ≤ 2) (hW : sw_w E d 131 (0, [some (2, 50), some (0, x1), some (2, 40), none], []) s ν (wr_e k (Int.bmod r 4294967296) s ν ρ' f')) (hM : ∀ s' ν', ns_r s s' → (∀ p, p < 40 → ν' p = ν p) → sw_w E d 114 (0, [some (2, 0), some (0, x1)], []) s' ν' (mr_e 0 k r ρ' s' ν')) (hK : ∀ s' ν' o5 o6 o7, ns_r s s' → lw_I ρ' f' s' ν' → sw_w E (d + 1) 140 (1122, [some (2, 9001), some (2, 50), some (2, 0), some (2, 40), some (0, i), o5, o6, o7], []) s' ν' Q) : sw_w E (d + 1) 140 (486, [some (2, 9001), some (2, 50), some (2, 0), some (2, 40), some (0, i), o5, o6, o7], []) s ν Q := by
  obtain ⟨hs, h40, -, -, -, -, -, -⟩ := hI
  refine sw_p 5 (f' := (492, [some (2, 9001), some (2, 50), some (2, 0), some (2, 40), some (0, i), o5, o6, o7], [(0, i + 1), (2, 9001), (2, 50)])) rfl ?_
  refine sw_ialS (pn := 493) rfl rfl hS (by omega) hlen ?_
  rw [hx1]
  refine sw_p 1 (f' := (494, [some (2, 9001), some (2, 50), some (2, 0), some (2, 40), some (0, i), o5, o6, o7], [(2, 40), (0, x1), (2, 50)])) rfl ?_
  refine sw_cs (pn := 497) (q0 := mj_Lw_law) (q := mj_Lw_leave) (L2 := [some (2, 50), some (0, x1), some (2, 40), none]) (rest := []) rfl rfl rfl rfl rfl rfl rfl rfl hW (fun v s1 ν1 hv => ?_) (fun _ _ _ h => nomatch h.1)
  have hv1 := hv.1
  cases hv1
  obtain ⟨-, n1, R1, u1, l1, o1⟩ := hv
  have hs1 : mo_sh s1 := ns_sh n1 hs
  show sw_w E _ 140 (497, [some (2, 9001), some (2, 50), some (2, 0), some (2, 40), some (0, i), o5, o6, o7], [(0, k)]) s1 ν1 _
  refine sw_p 6 (f' := (505, [some (2, 9001), some (2, 50), some (2, 0), some (2, 40), some (0, i), some (0, k), o6, o7], [(0, i + 1), (2, 9001), (2, 0)])) rfl ?_
  refine sw_ialS (pn := 506) rfl rfl hS (by omega) hlen ?_
  rw [hx1]
  refine sw_cv (pn := 509) (q0 := mj_Lw_law) (q := mj_Mo_leave) (p := 0) (as2 := [(0, x1)]) (L2 := [some (2, 0), some (0, x1)]) (rest := []) rfl rfl rfl rfl rfl rfl rfl rfl rfl hs1.1 (hM s1 ν1 n1 l1) (fun v s2 ν2 hv => ?_) (fun _ _ _ h => by obtain ⟨_, h, _⟩ := h; cases h)
  obtain ⟨r', hv1, hv2, e0, er, rq, hi2, b29, b30⟩ := hv
  cases hv1
  subst hv2
  have hF : lw_I ρ' f' s2 ν2 := lw_mk hs h40 hI' n1 R1 u1 rq hi2 b29 b30
  have e40 := n1.1 40 (by decide) (by decide)
  have h4v : k = 0 → ν2 40 0 = Int.bmod r 4294967296 := fun h => by rw [hi2 40 (by decide)]; exact o1 h
  show sw_w E _ 140 (509, [some (2, 9001), some (2, 50), some (2, 0), some (2, 40), some (0, i), some (0, k), o6, o7], [(0, r')]) s2 ν2 _
  refine sw_p 2 (f' := (512, [some (2, 9001), some (2, 50), some (2, 0), some (2, 40), some (0, i), some (0, k), some (0, r'), o7], [(2, 0)])) rfl ?_
  refine sw_cv1 (pn := 515) (q0 := mj_Lw_law) (q := mj_Mo_thrown) (p := 0) (as2 := []) (L2 := [some (2, 0)]) (rest := []) (v := some (0, k)) (s1 := s2) (ν1 := ν2) rfl rfl rfl rfl rfl rfl rfl rfl rfl hF.1.1 (by have h := mo_thrown (E := E) (d := d) (s := s2) (ν := ν2) hF.1; rw [e0] at h; exact h) ?_
  show sw_w E _ 140 (515, [some (2, 9001), some (2, 50), some (2, 0), some (2, 40), some (0, i), some (0, k), some (0, r'), o7], [(0, k)]) s2 ν2 _
  refine sw_p 1 (f' := (517, [some (2, 9001), some (2, 50), some (2, 0), some (2, 40), some (0, i), some (0, k), some (0, r'), o7], [(0, k), (0, k)])) rfl ?_
  refine sw_eq2 (pt := 522) (pn := 520) rfl rfl rfl (by omega) (by omega) (fun g1 => ?_) (fun h => absurd h (by omega))
  refine sw_p 1 (f' := (524, [some (2, 9001), some (2, 50), some (2, 0), some (2, 40), some (0, i), some (0, k), some (0, r'), o7], [(0, k)])) rfl ?_
  refine sw_ne1 (pt := 539) (pn := 527) rfl rfl rfl (by omega) (fun g2 => ?_) (fun g2 => ?_)
  · skip
    refine sw_p 1 (f' := (1122, [some (2, 9001), some (2, 50), some (2, 0), some (2, 40), some (0, i), some (0, k), some (0, r'), o7], [])) rfl ?_
    exact hK _ _ _ _ _ n1 hF
  · skip
    refine sw_p 2 (f' := (529, [some (2, 9001), some (2, 50), some (2, 0), some (2, 40), some (0, i), some (0, k), some (0, r'), o7], [(0, 0), (2, 40)])) rfl ?_
    refine sw_lal (pn := 530) (l := 1) rfl rfl (by omega) (by rw [e40]; exact h40.1) (by rw [e40]; exact h40.2) (by omega) (by omega) ?_
    rw [show ν2 40 0 = Int.bmod r 4294967296 from h4v (by omega)]
    refine sw_p 1 (f' := (532, [some (2, 9001), some (2, 50), some (2, 0), some (2, 40), some (0, i), some (0, k), some (0, r'), o7], [(0, r'), (1, Int.bmod r 4294967296)])) rfl ?_
    refine sw_i2lw (pn := 533) rfl rfl ?_
    rw [er (by omega)]
    refine sw_lcb (pt := 539) rfl rfl rfl ?_
    refine sw_p 1 (f' := (1122, [some (2, 9001), some (2, 50), some (2, 0), some (2, 40), some (0, i), some (0, k), some (0, r), o7], [])) rfl ?_
    exact hK _ _ _ _ _ n1 hF
set_option maxRecDepth 20000 in
theorem lo_132 (hS : E.2.1 < E.1) (hlen : E.2.2.1 ≤ 3072) (hi : 0 ≤ i ∧ i + 6 ≤ (E.2.2.1 : Int)) (hx1 : (E.2.2.2.1 (i + 1).toNat).toInt = x1) (hb1 : -2147483648 ≤ x1 ∧ x1 < 2147483648) (hx2 : (E.2.2.2.1 (i + 2).toNat).toInt = x2) (hb2 : -2147483648 ≤ x2 ∧ x2 < 2147483648) (hx3 : (E.2.2.2.1 (i + 3).toNat).toInt = x3) (hb3 : -2147483648 ≤ x3 ∧ x3 < 2147483648) (hI : lw_I ρ f s ν) (hI' : iv_I ρ' f') (hk : 0 ≤ k ∧ k ≤ 2) (hW : sw_w E d 132 (0, [some (2, 50), some (0, x1), some (0, x2), some (0, x3), some (2, 40), none], []) s ν (wr_e k (Int.bmod r 4294967296) s ν ρ' f')) (hM : ∀ s' ν', ns_r s s' → (∀ p, p < 40 → ν' p = ν p) → sw_w E d 116 (0, [some (2, 0), some (0, x1), some (0, x2), some (0, x3)], []) s' ν' (mr_e 0 k r ρ' s' ν')) (hK : ∀ s' ν' o5 o6 o7, ns_r s s' → lw_I ρ' f' s' ν' → sw_w E (d + 1) 140 (1122, [some (2, 9001), some (2, 50), some (2, 0), some (2, 40), some (0, i), o5, o6, o7], []) s' ν' Q) : sw_w E (d + 1) 140 (542, [some (2, 9001), some (2, 50), some (2, 0), some (2, 40), some (0, i), o5, o6, o7], []) s ν Q := by
  obtain ⟨hs, h40, -, -, -, -, -, -⟩ := hI
  refine sw_p 5 (f' := (548, [some (2, 9001), some (2, 50), some (2, 0), some (2, 40), some (0, i), o5, o6, o7], [(0, i + 1), (2, 9001), (2, 50)])) rfl ?_
  refine sw_ialS (pn := 549) rfl rfl hS (by omega) hlen ?_
  rw [hx1]
  refine sw_p 4 (f' := (554, [some (2, 9001), some (2, 50), some (2, 0), some (2, 40), some (0, i), o5, o6, o7], [(0, i + 2), (2, 9001), (0, x1), (2, 50)])) rfl ?_
  refine sw_ialS (pn := 555) rfl rfl hS (by omega) hlen ?_
  rw [hx2]
  refine sw_p 4 (f' := (560, [some (2, 9001), some (2, 50), some (2, 0), some (2, 40), some (0, i), o5, o6, o7], [(0, i + 3), (2, 9001), (0, x2), (0, x1), (2, 50)])) rfl ?_
  refine sw_ialS (pn := 561) rfl rfl hS (by omega) hlen ?_
  rw [hx3]
  refine sw_p 1 (f' := (562, [some (2, 9001), some (2, 50), some (2, 0), some (2, 40), some (0, i), o5, o6, o7], [(2, 40), (0, x3), (0, x2), (0, x1), (2, 50)])) rfl ?_
  refine sw_cs (pn := 565) (q0 := mj_Lw_law) (q := mj_Lw_request) (L2 := [some (2, 50), some (0, x1), some (0, x2), some (0, x3), some (2, 40), none]) (rest := []) rfl rfl rfl rfl rfl rfl rfl rfl hW (fun v s1 ν1 hv => ?_) (fun _ _ _ h => nomatch h.1)
  have hv1 := hv.1
  cases hv1
  obtain ⟨-, n1, R1, u1, l1, o1⟩ := hv
  have hs1 : mo_sh s1 := ns_sh n1 hs
  show sw_w E _ 140 (565, [some (2, 9001), some (2, 50), some (2, 0), some (2, 40), some (0, i), o5, o6, o7], [(0, k)]) s1 ν1 _
  refine sw_p 6 (f' := (573, [some (2, 9001), some (2, 50), some (2, 0), some (2, 40), some (0, i), some (0, k), o6, o7], [(0, i + 1), (2, 9001), (2, 0)])) rfl ?_
  refine sw_ialS (pn := 574) rfl rfl hS (by omega) hlen ?_
  rw [hx1]
  refine sw_p 4 (f' := (579, [some (2, 9001), some (2, 50), some (2, 0), some (2, 40), some (0, i), some (0, k), o6, o7], [(0, i + 2), (2, 9001), (0, x1), (2, 0)])) rfl ?_
  refine sw_ialS (pn := 580) rfl rfl hS (by omega) hlen ?_
  rw [hx2]
  refine sw_p 4 (f' := (585, [some (2, 9001), some (2, 50), some (2, 0), some (2, 40), some (0, i), some (0, k), o6, o7], [(0, i + 3), (2, 9001), (0, x2), (0, x1), (2, 0)])) rfl ?_
  refine sw_ialS (pn := 586) rfl rfl hS (by omega) hlen ?_
  rw [hx3]
  refine sw_cv (pn := 589) (q0 := mj_Lw_law) (q := mj_Mo_request) (p := 0) (as2 := [(0, x1), (0, x2), (0, x3)]) (L2 := [some (2, 0), some (0, x1), some (0, x2), some (0, x3)]) (rest := []) rfl rfl rfl rfl rfl rfl rfl rfl rfl hs1.1 (hM s1 ν1 n1 l1) (fun v s2 ν2 hv => ?_) (fun _ _ _ h => by obtain ⟨_, h, _⟩ := h; cases h)
  obtain ⟨r', hv1, hv2, e0, er, rq, hi2, b29, b30⟩ := hv
  cases hv1
  subst hv2
  have hF : lw_I ρ' f' s2 ν2 := lw_mk hs h40 hI' n1 R1 u1 rq hi2 b29 b30
  have e40 := n1.1 40 (by decide) (by decide)
  have h4v : k = 0 → ν2 40 0 = Int.bmod r 4294967296 := fun h => by rw [hi2 40 (by decide)]; exact o1 h
  show sw_w E _ 140 (589, [some (2, 9001), some (2, 50), some (2, 0), some (2, 40), some (0, i), some (0, k), o6, o7], [(0, r')]) s2 ν2 _
  refine sw_p 2 (f' := (592, [some (2, 9001), some (2, 50), some (2, 0), some (2, 40), some (0, i), some (0, k), some (0, r'), o7], [(2, 0)])) rfl ?_
  refine sw_cv1 (pn := 595) (q0 := mj_Lw_law) (q := mj_Mo_thrown) (p := 0) (as2 := []) (L2 := [some (2, 0)]) (rest := []) (v := some (0, k)) (s1 := s2) (ν1 := ν2) rfl rfl rfl rfl rfl rfl rfl rfl rfl hF.1.1 (by have h := mo_thrown (E := E) (d := d) (s := s2) (ν := ν2) hF.1; rw [e0] at h; exact h) ?_
  show sw_w E _ 140 (595, [some (2, 9001), some (2, 50), some (2, 0), some (2, 40), some (0, i), some (0, k), some (0, r'), o7], [(0, k)]) s2 ν2 _
  refine sw_p 1 (f' := (597, [some (2, 9001), some (2, 50), some (2, 0), some (2, 40), some (0, i), some (0, k), some (0, r'), o7], [(0, k), (0, k)])) rfl ?_
  refine sw_eq2 (pt := 602) (pn := 600) rfl rfl rfl (by omega) (by omega) (fun g1 => ?_) (fun h => absurd h (by omega))
  refine sw_p 1 (f' := (604, [some (2, 9001), some (2, 50), some (2, 0), some (2, 40), some (0, i), some (0, k), some (0, r'), o7], [(0, k)])) rfl ?_
  refine sw_ne1 (pt := 619) (pn := 607) rfl rfl rfl (by omega) (fun g2 => ?_) (fun g2 => ?_)
  · skip
    refine sw_p 1 (f' := (1122, [some (2, 9001), some (2, 50), some (2, 0), some (2, 40), some (0, i), some (0, k), some (0, r'), o7], [])) rfl ?_
    exact hK _ _ _ _ _ n1 hF
  · skip
    refine sw_p 2 (f' := (609, [some (2, 9001), some (2, 50), some (2, 0), some (2, 40), some (0, i), some (0, k), some (0, r'), o7], [(0, 0), (2, 40)])) rfl ?_
    refine sw_lal (pn := 610) (l := 1) rfl rfl (by omega) (by rw [e40]; exact h40.1) (by rw [e40]; exact h40.2) (by omega) (by omega) ?_
    rw [show ν2 40 0 = Int.bmod r 4294967296 from h4v (by omega)]
    refine sw_p 1 (f' := (612, [some (2, 9001), some (2, 50), some (2, 0), some (2, 40), some (0, i), some (0, k), some (0, r'), o7], [(0, r'), (1, Int.bmod r 4294967296)])) rfl ?_
    refine sw_i2lw (pn := 613) rfl rfl ?_
    rw [er (by omega)]
    refine sw_lcb (pt := 619) rfl rfl rfl ?_
    refine sw_p 1 (f' := (1122, [some (2, 9001), some (2, 50), some (2, 0), some (2, 40), some (0, i), some (0, k), some (0, r), o7], [])) rfl ?_
    exact hK _ _ _ _ _ n1 hF
set_option maxRecDepth 20000 in
theorem lo_133 (hS : E.2.1 < E.1) (hlen : E.2.2.1 ≤ 3072) (hi : 0 ≤ i ∧ i + 6 ≤ (E.2.2.1 : Int)) (hx1 : (E.2.2.2.1 (i + 1).toNat).toInt = x1) (hb1 : -2147483648 ≤ x1 ∧ x1 < 2147483648) (hI : lw_I ρ f s ν) (hI' : iv_I ρ' f') (hk : 0 ≤ k ∧ k ≤ 2) (hr : r = 0 ∨ r = 1) (hW : sw_w E d 133 (0, [some (2, 50), some (0, x1), some (2, 40), none], []) s ν (wr_e k r s ν ρ' f')) (hM : ∀ s' ν', ns_r s s' → (∀ p, p < 40 → ν' p = ν p) → sw_w E d 118 (0, [some (2, 0), some (0, x1), none], []) s' ν' (mr_e 0 k r ρ' s' ν')) (hK : ∀ s' ν' o5 o6 o7, ns_r s s' → lw_I ρ' f' s' ν' → sw_w E (d + 1) 140 (1122, [some (2, 9001), some (2, 50), some (2, 0), some (2, 40), some (0, i), o5, o6, o7], []) s' ν' Q) : sw_w E (d + 1) 140 (622, [some (2, 9001), some (2, 50), some (2, 0), some (2, 40), some (0, i), o5, o6, o7], []) s ν Q := by
  obtain ⟨hs, h40, -, -, -, -, -, -⟩ := hI
  refine sw_p 5 (f' := (628, [some (2, 9001), some (2, 50), some (2, 0), some (2, 40), some (0, i), o5, o6, o7], [(0, i + 1), (2, 9001), (2, 50)])) rfl ?_
  refine sw_ialS (pn := 629) rfl rfl hS (by omega) hlen ?_
  rw [hx1]
  refine sw_p 1 (f' := (630, [some (2, 9001), some (2, 50), some (2, 0), some (2, 40), some (0, i), o5, o6, o7], [(2, 40), (0, x1), (2, 50)])) rfl ?_
  refine sw_cs (pn := 633) (q0 := mj_Lw_law) (q := mj_Lw_work) (L2 := [some (2, 50), some (0, x1), some (2, 40), none]) (rest := []) rfl rfl rfl rfl rfl rfl rfl rfl hW (fun v s1 ν1 hv => ?_) (fun _ _ _ h => nomatch h.1)
  have hv1 := hv.1
  cases hv1
  obtain ⟨-, n1, R1, u1, l1, o1⟩ := hv
  have hs1 : mo_sh s1 := ns_sh n1 hs
  show sw_w E _ 140 (633, [some (2, 9001), some (2, 50), some (2, 0), some (2, 40), some (0, i), o5, o6, o7], [(0, k)]) s1 ν1 _
  refine sw_p 6 (f' := (641, [some (2, 9001), some (2, 50), some (2, 0), some (2, 40), some (0, i), some (0, k), o6, o7], [(0, i + 1), (2, 9001), (2, 0)])) rfl ?_
  refine sw_ialS (pn := 642) rfl rfl hS (by omega) hlen ?_
  rw [hx1]
  refine sw_cv (pn := 645) (q0 := mj_Lw_law) (q := mj_Mo_work) (p := 0) (as2 := [(0, x1)]) (L2 := [some (2, 0), some (0, x1), none]) (rest := []) rfl rfl rfl rfl rfl rfl rfl rfl rfl hs1.1 (hM s1 ν1 n1 l1) (fun v s2 ν2 hv => ?_) (fun _ _ _ h => by obtain ⟨_, h, _⟩ := h; cases h)
  obtain ⟨r', hv1, hv2, e0, er, rq, hi2, b29, b30⟩ := hv
  cases hv1
  subst hv2
  have hF : lw_I ρ' f' s2 ν2 := lw_mk hs h40 hI' n1 R1 u1 rq hi2 b29 b30
  have e40 := n1.1 40 (by decide) (by decide)
  have h4v : k = 0 → ν2 40 0 = r := fun h => by rw [hi2 40 (by decide)]; exact o1 h
  show sw_w E _ 140 (645, [some (2, 9001), some (2, 50), some (2, 0), some (2, 40), some (0, i), some (0, k), o6, o7], [(0, r')]) s2 ν2 _
  refine sw_p 2 (f' := (648, [some (2, 9001), some (2, 50), some (2, 0), some (2, 40), some (0, i), some (0, k), some (0, r'), o7], [(2, 0)])) rfl ?_
  refine sw_cv1 (pn := 651) (q0 := mj_Lw_law) (q := mj_Mo_thrown) (p := 0) (as2 := []) (L2 := [some (2, 0)]) (rest := []) (v := some (0, k)) (s1 := s2) (ν1 := ν2) rfl rfl rfl rfl rfl rfl rfl rfl rfl hF.1.1 (by have h := mo_thrown (E := E) (d := d) (s := s2) (ν := ν2) hF.1; rw [e0] at h; exact h) ?_
  show sw_w E _ 140 (651, [some (2, 9001), some (2, 50), some (2, 0), some (2, 40), some (0, i), some (0, k), some (0, r'), o7], [(0, k)]) s2 ν2 _
  refine sw_p 1 (f' := (653, [some (2, 9001), some (2, 50), some (2, 0), some (2, 40), some (0, i), some (0, k), some (0, r'), o7], [(0, k), (0, k)])) rfl ?_
  refine sw_eq2 (pt := 658) (pn := 656) rfl rfl rfl (by omega) (by omega) (fun g1 => ?_) (fun h => absurd h (by omega))
  refine sw_p 1 (f' := (660, [some (2, 9001), some (2, 50), some (2, 0), some (2, 40), some (0, i), some (0, k), some (0, r'), o7], [(0, k)])) rfl ?_
  refine sw_ne1 (pt := 682) (pn := 663) rfl rfl rfl (by omega) (fun g2 => ?_) (fun g2 => ?_)
  · skip
    refine sw_p 1 (f' := (1122, [some (2, 9001), some (2, 50), some (2, 0), some (2, 40), some (0, i), some (0, k), some (0, r'), o7], [])) rfl ?_
    exact hK _ _ _ _ _ n1 hF
  · skip
    refine sw_p 2 (f' := (665, [some (2, 9001), some (2, 50), some (2, 0), some (2, 40), some (0, i), some (0, k), some (0, r'), o7], [(0, 0), (2, 40)])) rfl ?_
    refine sw_lal (pn := 666) (l := 1) rfl rfl (by omega) (by rw [e40]; exact h40.1) (by rw [e40]; exact h40.2) (by omega) (by omega) ?_
    rw [show ν2 40 0 = r from h4v (by omega)]
    refine sw_p 1 (f' := (668, [some (2, 9001), some (2, 50), some (2, 0), some (2, 40), some (0, i), some (0, k), some (0, r'), o7], [(0, r'), (1, r)])) rfl ?_
    refine sw_eq1 (pt := 675) (pn := 671) rfl rfl rfl (by omega) (fun g3 => ?_) (fun g3 => ?_)
    · skip
      refine sw_p 1 (f' := (676, [some (2, 9001), some (2, 50), some (2, 0), some (2, 40), some (0, i), some (0, k), some (0, r'), o7], [(1, 0), (1, r)])) rfl ?_
      refine sw_lcq (pt := 682) (pn := 680) rfl rfl rfl rfl (by omega) (by omega) (fun g4 => ?_) (fun h => absurd h (by omega))
      refine sw_p 1 (f' := (1122, [some (2, 9001), some (2, 50), some (2, 0), some (2, 40), some (0, i), some (0, k), some (0, r'), o7], [])) rfl ?_
      exact hK _ _ _ _ _ n1 hF
    · skip
      refine sw_p 2 (f' := (676, [some (2, 9001), some (2, 50), some (2, 0), some (2, 40), some (0, i), some (0, k), some (0, r'), o7], [(1, 1), (1, r)])) rfl ?_
      refine sw_lcq (pt := 682) (pn := 680) rfl rfl rfl rfl (by omega) (by omega) (fun g5 => ?_) (fun h => absurd h (by omega))
      refine sw_p 1 (f' := (1122, [some (2, 9001), some (2, 50), some (2, 0), some (2, 40), some (0, i), some (0, k), some (0, r'), o7], [])) rfl ?_
      exact hK _ _ _ _ _ n1 hF
set_option maxRecDepth 20000 in
theorem lo_134 (hS : E.2.1 < E.1) (hlen : E.2.2.1 ≤ 3072) (hi : 0 ≤ i ∧ i + 6 ≤ (E.2.2.1 : Int)) (hx1 : (E.2.2.2.1 (i + 1).toNat).toInt = x1) (hb1 : -2147483648 ≤ x1 ∧ x1 < 2147483648) (hI : lw_I ρ f s ν) (hI' : iv_I ρ' f') (hk : 0 ≤ k ∧ k ≤ 2) (hr : -9223372036854775808 ≤ r ∧ r < 9223372036854775808) (hW : sw_w E d 134 (0, [some (2, 50), some (0, x1), some (2, 40), none], []) s ν (wr_e k r s ν ρ' f')) (hM : ∀ s' ν', ns_r s s' → (∀ p, p < 40 → ν' p = ν p) → sw_w E d 119 (0, [some (2, 0), some (0, x1)], []) s' ν' (mr_e 1 k r ρ' s' ν')) (hK : ∀ s' ν' o5 o6 o7, ns_r s s' → lw_I ρ' f' s' ν' → sw_w E (d + 1) 140 (1122, [some (2, 9001), some (2, 50), some (2, 0), some (2, 40), some (0, i), o5, o6, o7], []) s' ν' Q) : sw_w E (d + 1) 140 (685, [some (2, 9001), some (2, 50), some (2, 0), some (2, 40), some (0, i), o5, o6, o7], []) s ν Q := by
  obtain ⟨hs, h40, -, -, -, -, -, -⟩ := hI
  refine sw_p 5 (f' := (691, [some (2, 9001), some (2, 50), some (2, 0), some (2, 40), some (0, i), o5, o6, o7], [(0, i + 1), (2, 9001), (2, 50)])) rfl ?_
  refine sw_ialS (pn := 692) rfl rfl hS (by omega) hlen ?_
  rw [hx1]
  refine sw_p 1 (f' := (693, [some (2, 9001), some (2, 50), some (2, 0), some (2, 40), some (0, i), o5, o6, o7], [(2, 40), (0, x1), (2, 50)])) rfl ?_
  refine sw_cs (pn := 696) (q0 := mj_Lw_law) (q := mj_Lw_result) (L2 := [some (2, 50), some (0, x1), some (2, 40), none]) (rest := []) rfl rfl rfl rfl rfl rfl rfl rfl hW (fun v s1 ν1 hv => ?_) (fun _ _ _ h => nomatch h.1)
  have hv1 := hv.1
  cases hv1
  obtain ⟨-, n1, R1, u1, l1, o1⟩ := hv
  have hs1 : mo_sh s1 := ns_sh n1 hs
  show sw_w E _ 140 (696, [some (2, 9001), some (2, 50), some (2, 0), some (2, 40), some (0, i), o5, o6, o7], [(0, k)]) s1 ν1 _
  refine sw_p 6 (f' := (704, [some (2, 9001), some (2, 50), some (2, 0), some (2, 40), some (0, i), some (0, k), o6, o7], [(0, i + 1), (2, 9001), (2, 0)])) rfl ?_
  refine sw_ialS (pn := 705) rfl rfl hS (by omega) hlen ?_
  rw [hx1]
  refine sw_cv (pn := 708) (q0 := mj_Lw_law) (q := mj_Mo_result) (p := 0) (as2 := [(0, x1)]) (L2 := [some (2, 0), some (0, x1)]) (rest := []) rfl rfl rfl rfl rfl rfl rfl rfl rfl hs1.1 (hM s1 ν1 n1 l1) (fun v s2 ν2 hv => ?_) (fun _ _ _ h => by obtain ⟨_, h, _⟩ := h; cases h)
  obtain ⟨r', hv1, hv2, e0, er, rq, hi2, b29, b30⟩ := hv
  cases hv1
  subst hv2
  have hF : lw_I ρ' f' s2 ν2 := lw_mk hs h40 hI' n1 R1 u1 rq hi2 b29 b30
  have e40 := n1.1 40 (by decide) (by decide)
  have h4v : k = 0 → ν2 40 0 = r := fun h => by rw [hi2 40 (by decide)]; exact o1 h
  show sw_w E _ 140 (708, [some (2, 9001), some (2, 50), some (2, 0), some (2, 40), some (0, i), some (0, k), o6, o7], [(1, r')]) s2 ν2 _
  refine sw_p 2 (f' := (711, [some (2, 9001), some (2, 50), some (2, 0), some (2, 40), some (0, i), some (0, k), some (1, r'), none], [(2, 0)])) rfl ?_
  refine sw_cv1 (pn := 714) (q0 := mj_Lw_law) (q := mj_Mo_thrown) (p := 0) (as2 := []) (L2 := [some (2, 0)]) (rest := []) (v := some (0, k)) (s1 := s2) (ν1 := ν2) rfl rfl rfl rfl rfl rfl rfl rfl rfl hF.1.1 (by have h := mo_thrown (E := E) (d := d) (s := s2) (ν := ν2) hF.1; rw [e0] at h; exact h) ?_
  show sw_w E _ 140 (714, [some (2, 9001), some (2, 50), some (2, 0), some (2, 40), some (0, i), some (0, k), some (1, r'), none], [(0, k)]) s2 ν2 _
  refine sw_p 1 (f' := (716, [some (2, 9001), some (2, 50), some (2, 0), some (2, 40), some (0, i), some (0, k), some (1, r'), none], [(0, k), (0, k)])) rfl ?_
  refine sw_eq2 (pt := 721) (pn := 719) rfl rfl rfl (by omega) (by omega) (fun g1 => ?_) (fun h => absurd h (by omega))
  refine sw_p 1 (f' := (723, [some (2, 9001), some (2, 50), some (2, 0), some (2, 40), some (0, i), some (0, k), some (1, r'), none], [(0, k)])) rfl ?_
  refine sw_ne1 (pt := 737) (pn := 726) rfl rfl rfl (by omega) (fun g2 => ?_) (fun g2 => ?_)
  · skip
    refine sw_p 1 (f' := (1122, [some (2, 9001), some (2, 50), some (2, 0), some (2, 40), some (0, i), some (0, k), some (1, r'), none], [])) rfl ?_
    exact hK _ _ _ _ _ n1 hF
  · skip
    refine sw_p 2 (f' := (728, [some (2, 9001), some (2, 50), some (2, 0), some (2, 40), some (0, i), some (0, k), some (1, r'), none], [(0, 0), (2, 40)])) rfl ?_
    refine sw_lal (pn := 729) (l := 1) rfl rfl (by omega) (by rw [e40]; exact h40.1) (by rw [e40]; exact h40.2) (by omega) (by omega) ?_
    rw [show ν2 40 0 = r from h4v (by omega)]
    refine sw_p 1 (f' := (731, [some (2, 9001), some (2, 50), some (2, 0), some (2, 40), some (0, i), some (0, k), some (1, r'), none], [(1, r'), (1, r)])) rfl ?_
    refine sw_lcq (pt := 737) (pn := 735) rfl rfl rfl rfl (by omega) (by omega) (fun g3 => ?_) (fun h => absurd h (by omega))
    refine sw_p 1 (f' := (1122, [some (2, 9001), some (2, 50), some (2, 0), some (2, 40), some (0, i), some (0, k), some (1, r'), none], [])) rfl ?_
    exact hK _ _ _ _ _ n1 hF
set_option maxRecDepth 20000 in
theorem lo_135 (hS : E.2.1 < E.1) (hlen : E.2.2.1 ≤ 3072) (hi : 0 ≤ i ∧ i + 6 ≤ (E.2.2.1 : Int)) (hx1 : (E.2.2.2.1 (i + 1).toNat).toInt = x1) (hb1 : -2147483648 ≤ x1 ∧ x1 < 2147483648) (hx2 : (E.2.2.2.1 (i + 2).toNat).toInt = x2) (hb2 : -2147483648 ≤ x2 ∧ x2 < 2147483648) (hI : lw_I ρ f s ν) (hI' : iv_I ρ' f') (hk : 0 ≤ k ∧ k ≤ 2) (hW : sw_w E d 135 (0, [some (2, 50), some (0, x1), some (0, x2), some (2, 40), none], []) s ν (wr_e k (Int.bmod r 4294967296) s ν ρ' f')) (hM : ∀ s' ν', ns_r s s' → (∀ p, p < 40 → ν' p = ν p) → sw_w E d 120 (0, [some (2, 0), some (0, x1), some (0, x2)], []) s' ν' (mr_e 0 k r ρ' s' ν')) (hK : ∀ s' ν' o5 o6 o7, ns_r s s' → lw_I ρ' f' s' ν' → sw_w E (d + 1) 140 (1122, [some (2, 9001), some (2, 50), some (2, 0), some (2, 40), some (0, i), o5, o6, o7], []) s' ν' Q) : sw_w E (d + 1) 140 (740, [some (2, 9001), some (2, 50), some (2, 0), some (2, 40), some (0, i), o5, o6, o7], []) s ν Q := by
  obtain ⟨hs, h40, -, -, -, -, -, -⟩ := hI
  refine sw_p 5 (f' := (746, [some (2, 9001), some (2, 50), some (2, 0), some (2, 40), some (0, i), o5, o6, o7], [(0, i + 1), (2, 9001), (2, 50)])) rfl ?_
  refine sw_ialS (pn := 747) rfl rfl hS (by omega) hlen ?_
  rw [hx1]
  refine sw_p 4 (f' := (752, [some (2, 9001), some (2, 50), some (2, 0), some (2, 40), some (0, i), o5, o6, o7], [(0, i + 2), (2, 9001), (0, x1), (2, 50)])) rfl ?_
  refine sw_ialS (pn := 753) rfl rfl hS (by omega) hlen ?_
  rw [hx2]
  refine sw_p 1 (f' := (754, [some (2, 9001), some (2, 50), some (2, 0), some (2, 40), some (0, i), o5, o6, o7], [(2, 40), (0, x2), (0, x1), (2, 50)])) rfl ?_
  refine sw_cs (pn := 757) (q0 := mj_Lw_law) (q := mj_Lw_card) (L2 := [some (2, 50), some (0, x1), some (0, x2), some (2, 40), none]) (rest := []) rfl rfl rfl rfl rfl rfl rfl rfl hW (fun v s1 ν1 hv => ?_) (fun _ _ _ h => nomatch h.1)
  have hv1 := hv.1
  cases hv1
  obtain ⟨-, n1, R1, u1, l1, o1⟩ := hv
  have hs1 : mo_sh s1 := ns_sh n1 hs
  show sw_w E _ 140 (757, [some (2, 9001), some (2, 50), some (2, 0), some (2, 40), some (0, i), o5, o6, o7], [(0, k)]) s1 ν1 _
  refine sw_p 6 (f' := (765, [some (2, 9001), some (2, 50), some (2, 0), some (2, 40), some (0, i), some (0, k), o6, o7], [(0, i + 1), (2, 9001), (2, 0)])) rfl ?_
  refine sw_ialS (pn := 766) rfl rfl hS (by omega) hlen ?_
  rw [hx1]
  refine sw_p 4 (f' := (771, [some (2, 9001), some (2, 50), some (2, 0), some (2, 40), some (0, i), some (0, k), o6, o7], [(0, i + 2), (2, 9001), (0, x1), (2, 0)])) rfl ?_
  refine sw_ialS (pn := 772) rfl rfl hS (by omega) hlen ?_
  rw [hx2]
  refine sw_cv (pn := 775) (q0 := mj_Lw_law) (q := mj_Mo_card) (p := 0) (as2 := [(0, x1), (0, x2)]) (L2 := [some (2, 0), some (0, x1), some (0, x2)]) (rest := []) rfl rfl rfl rfl rfl rfl rfl rfl rfl hs1.1 (hM s1 ν1 n1 l1) (fun v s2 ν2 hv => ?_) (fun _ _ _ h => by obtain ⟨_, h, _⟩ := h; cases h)
  obtain ⟨r', hv1, hv2, e0, er, rq, hi2, b29, b30⟩ := hv
  cases hv1
  subst hv2
  have hF : lw_I ρ' f' s2 ν2 := lw_mk hs h40 hI' n1 R1 u1 rq hi2 b29 b30
  have e40 := n1.1 40 (by decide) (by decide)
  have h4v : k = 0 → ν2 40 0 = Int.bmod r 4294967296 := fun h => by rw [hi2 40 (by decide)]; exact o1 h
  show sw_w E _ 140 (775, [some (2, 9001), some (2, 50), some (2, 0), some (2, 40), some (0, i), some (0, k), o6, o7], [(0, r')]) s2 ν2 _
  refine sw_p 2 (f' := (778, [some (2, 9001), some (2, 50), some (2, 0), some (2, 40), some (0, i), some (0, k), some (0, r'), o7], [(2, 0)])) rfl ?_
  refine sw_cv1 (pn := 781) (q0 := mj_Lw_law) (q := mj_Mo_thrown) (p := 0) (as2 := []) (L2 := [some (2, 0)]) (rest := []) (v := some (0, k)) (s1 := s2) (ν1 := ν2) rfl rfl rfl rfl rfl rfl rfl rfl rfl hF.1.1 (by have h := mo_thrown (E := E) (d := d) (s := s2) (ν := ν2) hF.1; rw [e0] at h; exact h) ?_
  show sw_w E _ 140 (781, [some (2, 9001), some (2, 50), some (2, 0), some (2, 40), some (0, i), some (0, k), some (0, r'), o7], [(0, k)]) s2 ν2 _
  refine sw_p 1 (f' := (783, [some (2, 9001), some (2, 50), some (2, 0), some (2, 40), some (0, i), some (0, k), some (0, r'), o7], [(0, k), (0, k)])) rfl ?_
  refine sw_eq2 (pt := 788) (pn := 786) rfl rfl rfl (by omega) (by omega) (fun g1 => ?_) (fun h => absurd h (by omega))
  refine sw_p 1 (f' := (790, [some (2, 9001), some (2, 50), some (2, 0), some (2, 40), some (0, i), some (0, k), some (0, r'), o7], [(0, k)])) rfl ?_
  refine sw_ne1 (pt := 805) (pn := 793) rfl rfl rfl (by omega) (fun g2 => ?_) (fun g2 => ?_)
  · skip
    refine sw_p 1 (f' := (1122, [some (2, 9001), some (2, 50), some (2, 0), some (2, 40), some (0, i), some (0, k), some (0, r'), o7], [])) rfl ?_
    exact hK _ _ _ _ _ n1 hF
  · skip
    refine sw_p 2 (f' := (795, [some (2, 9001), some (2, 50), some (2, 0), some (2, 40), some (0, i), some (0, k), some (0, r'), o7], [(0, 0), (2, 40)])) rfl ?_
    refine sw_lal (pn := 796) (l := 1) rfl rfl (by omega) (by rw [e40]; exact h40.1) (by rw [e40]; exact h40.2) (by omega) (by omega) ?_
    rw [show ν2 40 0 = Int.bmod r 4294967296 from h4v (by omega)]
    refine sw_p 1 (f' := (798, [some (2, 9001), some (2, 50), some (2, 0), some (2, 40), some (0, i), some (0, k), some (0, r'), o7], [(0, r'), (1, Int.bmod r 4294967296)])) rfl ?_
    refine sw_i2lw (pn := 799) rfl rfl ?_
    rw [er (by omega)]
    refine sw_lcb (pt := 805) rfl rfl rfl ?_
    refine sw_p 1 (f' := (1122, [some (2, 9001), some (2, 50), some (2, 0), some (2, 40), some (0, i), some (0, k), some (0, r), o7], [])) rfl ?_
    exact hK _ _ _ _ _ n1 hF
set_option maxRecDepth 20000 in
theorem lo_136 (hS : E.2.1 < E.1) (hlen : E.2.2.1 ≤ 3072) (hi : 0 ≤ i ∧ i + 6 ≤ (E.2.2.1 : Int)) (hx1 : (E.2.2.2.1 (i + 1).toNat).toInt = x1) (hb1 : -2147483648 ≤ x1 ∧ x1 < 2147483648) (hx2 : (E.2.2.2.1 (i + 2).toNat).toInt = x2) (hb2 : -2147483648 ≤ x2 ∧ x2 < 2147483648) (hI : lw_I ρ f s ν) (hI' : iv_I ρ' f') (hk : 0 ≤ k ∧ k ≤ 2) (hW : sw_w E d 136 (0, [some (2, 50), some (0, x1), some (0, x2), some (2, 40), none], []) s ν (wr_e k (Int.bmod r 4294967296) s ν ρ' f')) (hM : ∀ s' ν', ns_r s s' → (∀ p, p < 40 → ν' p = ν p) → sw_w E d 121 (0, [some (2, 0), some (0, x1), some (0, x2)], []) s' ν' (mr_e 0 k r ρ' s' ν')) (hK : ∀ s' ν' o5 o6 o7, ns_r s s' → lw_I ρ' f' s' ν' → sw_w E (d + 1) 140 (1122, [some (2, 9001), some (2, 50), some (2, 0), some (2, 40), some (0, i), o5, o6, o7], []) s' ν' Q) : sw_w E (d + 1) 140 (808, [some (2, 9001), some (2, 50), some (2, 0), some (2, 40), some (0, i), o5, o6, o7], []) s ν Q := by
  obtain ⟨hs, h40, -, -, -, -, -, -⟩ := hI
  refine sw_p 5 (f' := (814, [some (2, 9001), some (2, 50), some (2, 0), some (2, 40), some (0, i), o5, o6, o7], [(0, i + 1), (2, 9001), (2, 50)])) rfl ?_
  refine sw_ialS (pn := 815) rfl rfl hS (by omega) hlen ?_
  rw [hx1]
  refine sw_p 4 (f' := (820, [some (2, 9001), some (2, 50), some (2, 0), some (2, 40), some (0, i), o5, o6, o7], [(0, i + 2), (2, 9001), (0, x1), (2, 50)])) rfl ?_
  refine sw_ialS (pn := 821) rfl rfl hS (by omega) hlen ?_
  rw [hx2]
  refine sw_p 1 (f' := (822, [some (2, 9001), some (2, 50), some (2, 0), some (2, 40), some (0, i), o5, o6, o7], [(2, 40), (0, x2), (0, x1), (2, 50)])) rfl ?_
  refine sw_cs (pn := 825) (q0 := mj_Lw_law) (q := mj_Lw_range) (L2 := [some (2, 50), some (0, x1), some (0, x2), some (2, 40), none]) (rest := []) rfl rfl rfl rfl rfl rfl rfl rfl hW (fun v s1 ν1 hv => ?_) (fun _ _ _ h => nomatch h.1)
  have hv1 := hv.1
  cases hv1
  obtain ⟨-, n1, R1, u1, l1, o1⟩ := hv
  have hs1 : mo_sh s1 := ns_sh n1 hs
  show sw_w E _ 140 (825, [some (2, 9001), some (2, 50), some (2, 0), some (2, 40), some (0, i), o5, o6, o7], [(0, k)]) s1 ν1 _
  refine sw_p 6 (f' := (833, [some (2, 9001), some (2, 50), some (2, 0), some (2, 40), some (0, i), some (0, k), o6, o7], [(0, i + 1), (2, 9001), (2, 0)])) rfl ?_
  refine sw_ialS (pn := 834) rfl rfl hS (by omega) hlen ?_
  rw [hx1]
  refine sw_p 4 (f' := (839, [some (2, 9001), some (2, 50), some (2, 0), some (2, 40), some (0, i), some (0, k), o6, o7], [(0, i + 2), (2, 9001), (0, x1), (2, 0)])) rfl ?_
  refine sw_ialS (pn := 840) rfl rfl hS (by omega) hlen ?_
  rw [hx2]
  refine sw_cv (pn := 843) (q0 := mj_Lw_law) (q := mj_Mo_range) (p := 0) (as2 := [(0, x1), (0, x2)]) (L2 := [some (2, 0), some (0, x1), some (0, x2)]) (rest := []) rfl rfl rfl rfl rfl rfl rfl rfl rfl hs1.1 (hM s1 ν1 n1 l1) (fun v s2 ν2 hv => ?_) (fun _ _ _ h => by obtain ⟨_, h, _⟩ := h; cases h)
  obtain ⟨r', hv1, hv2, e0, er, rq, hi2, b29, b30⟩ := hv
  cases hv1
  subst hv2
  have hF : lw_I ρ' f' s2 ν2 := lw_mk hs h40 hI' n1 R1 u1 rq hi2 b29 b30
  have e40 := n1.1 40 (by decide) (by decide)
  have h4v : k = 0 → ν2 40 0 = Int.bmod r 4294967296 := fun h => by rw [hi2 40 (by decide)]; exact o1 h
  show sw_w E _ 140 (843, [some (2, 9001), some (2, 50), some (2, 0), some (2, 40), some (0, i), some (0, k), o6, o7], [(0, r')]) s2 ν2 _
  refine sw_p 2 (f' := (846, [some (2, 9001), some (2, 50), some (2, 0), some (2, 40), some (0, i), some (0, k), some (0, r'), o7], [(2, 0)])) rfl ?_
  refine sw_cv1 (pn := 849) (q0 := mj_Lw_law) (q := mj_Mo_thrown) (p := 0) (as2 := []) (L2 := [some (2, 0)]) (rest := []) (v := some (0, k)) (s1 := s2) (ν1 := ν2) rfl rfl rfl rfl rfl rfl rfl rfl rfl hF.1.1 (by have h := mo_thrown (E := E) (d := d) (s := s2) (ν := ν2) hF.1; rw [e0] at h; exact h) ?_
  show sw_w E _ 140 (849, [some (2, 9001), some (2, 50), some (2, 0), some (2, 40), some (0, i), some (0, k), some (0, r'), o7], [(0, k)]) s2 ν2 _
  refine sw_p 1 (f' := (851, [some (2, 9001), some (2, 50), some (2, 0), some (2, 40), some (0, i), some (0, k), some (0, r'), o7], [(0, k), (0, k)])) rfl ?_
  refine sw_eq2 (pt := 856) (pn := 854) rfl rfl rfl (by omega) (by omega) (fun g1 => ?_) (fun h => absurd h (by omega))
  refine sw_p 1 (f' := (858, [some (2, 9001), some (2, 50), some (2, 0), some (2, 40), some (0, i), some (0, k), some (0, r'), o7], [(0, k)])) rfl ?_
  refine sw_ne1 (pt := 873) (pn := 861) rfl rfl rfl (by omega) (fun g2 => ?_) (fun g2 => ?_)
  · skip
    refine sw_p 1 (f' := (1122, [some (2, 9001), some (2, 50), some (2, 0), some (2, 40), some (0, i), some (0, k), some (0, r'), o7], [])) rfl ?_
    exact hK _ _ _ _ _ n1 hF
  · skip
    refine sw_p 2 (f' := (863, [some (2, 9001), some (2, 50), some (2, 0), some (2, 40), some (0, i), some (0, k), some (0, r'), o7], [(0, 0), (2, 40)])) rfl ?_
    refine sw_lal (pn := 864) (l := 1) rfl rfl (by omega) (by rw [e40]; exact h40.1) (by rw [e40]; exact h40.2) (by omega) (by omega) ?_
    rw [show ν2 40 0 = Int.bmod r 4294967296 from h4v (by omega)]
    refine sw_p 1 (f' := (866, [some (2, 9001), some (2, 50), some (2, 0), some (2, 40), some (0, i), some (0, k), some (0, r'), o7], [(0, r'), (1, Int.bmod r 4294967296)])) rfl ?_
    refine sw_i2lw (pn := 867) rfl rfl ?_
    rw [er (by omega)]
    refine sw_lcb (pt := 873) rfl rfl rfl ?_
    refine sw_p 1 (f' := (1122, [some (2, 9001), some (2, 50), some (2, 0), some (2, 40), some (0, i), some (0, k), some (0, r), o7], [])) rfl ?_
    exact hK _ _ _ _ _ n1 hF
set_option maxRecDepth 20000 in
theorem lo_137a (hS : E.2.1 < E.1) (hlen : E.2.2.1 ≤ 3072) (hi : 0 ≤ i ∧ i + 6 ≤ (E.2.2.1 : Int)) (hx1 : (E.2.2.2.1 (i + 1).toNat).toInt = x1) (hb1 : -2147483648 ≤ x1 ∧ x1 < 2147483648) (hx2 : (E.2.2.2.1 (i + 2).toNat).toInt = x2) (hb2 : -2147483648 ≤ x2 ∧ x2 < 2147483648) (h5 : x2 ≠ 0) (hI : lw_I ρ f s ν) (hI' : iv_I ρ' f') (hk : 0 ≤ k ∧ k ≤ 2) (hW : sw_w E d 137 (0, [some (2, 50), some (0, x1), some (0, 1), some (2, 40), none], []) s ν (wr_e k (Int.bmod r 4294967296) s ν ρ' f')) (hM : ∀ s' ν', ns_r s s' → (∀ p, p < 40 → ν' p = ν p) → sw_w E d 122 (0, [some (2, 0), some (0, x1), some (0, 1)], []) s' ν' (mr_e 0 k r ρ' s' ν')) (hK : ∀ s' ν' o5 o6 o7, ns_r s s' → lw_I ρ' f' s' ν' → sw_w E (d + 1) 140 (1122, [some (2, 9001), some (2, 50), some (2, 0), some (2, 40), some (0, i), o5, o6, o7], []) s' ν' Q) : sw_w E (d + 1) 140 (876, [some (2, 9001), some (2, 50), some (2, 0), some (2, 40), some (0, i), o5, o6, o7], []) s ν Q := by
  obtain ⟨hs, h40, -, -, -, -, -, -⟩ := hI
  refine sw_p 5 (f' := (882, [some (2, 9001), some (2, 50), some (2, 0), some (2, 40), some (0, i), o5, o6, o7], [(0, i + 1), (2, 9001), (2, 50)])) rfl ?_
  refine sw_ialS (pn := 883) rfl rfl hS (by omega) hlen ?_
  rw [hx1]
  refine sw_p 4 (f' := (888, [some (2, 9001), some (2, 50), some (2, 0), some (2, 40), some (0, i), o5, o6, o7], [(0, i + 2), (2, 9001), (0, x1), (2, 50)])) rfl ?_
  refine sw_ialS (pn := 889) rfl rfl hS (by omega) hlen ?_
  rw [hx2]
  refine sw_eq1 (pt := 896) (pn := 892) rfl rfl rfl (by omega) (fun h => absurd h (by omega)) (fun g1 => ?_)
  refine sw_p 3 (f' := (898, [some (2, 9001), some (2, 50), some (2, 0), some (2, 40), some (0, i), o5, o6, o7], [(2, 40), (0, 1), (0, x1), (2, 50)])) rfl ?_
  refine sw_cs (pn := 901) (q0 := mj_Lw_law) (q := mj_Lw_opening) (L2 := [some (2, 50), some (0, x1), some (0, 1), some (2, 40), none]) (rest := []) rfl rfl rfl rfl rfl rfl rfl rfl hW (fun v s1 ν1 hv => ?_) (fun _ _ _ h => nomatch h.1)
  have hv1 := hv.1
  cases hv1
  obtain ⟨-, n1, R1, u1, l1, o1⟩ := hv
  have hs1 : mo_sh s1 := ns_sh n1 hs
  show sw_w E _ 140 (901, [some (2, 9001), some (2, 50), some (2, 0), some (2, 40), some (0, i), o5, o6, o7], [(0, k)]) s1 ν1 _
  refine sw_p 6 (f' := (909, [some (2, 9001), some (2, 50), some (2, 0), some (2, 40), some (0, i), some (0, k), o6, o7], [(0, i + 1), (2, 9001), (2, 0)])) rfl ?_
  refine sw_ialS (pn := 910) rfl rfl hS (by omega) hlen ?_
  rw [hx1]
  refine sw_p 4 (f' := (915, [some (2, 9001), some (2, 50), some (2, 0), some (2, 40), some (0, i), some (0, k), o6, o7], [(0, i + 2), (2, 9001), (0, x1), (2, 0)])) rfl ?_
  refine sw_ialS (pn := 916) rfl rfl hS (by omega) hlen ?_
  rw [hx2]
  refine sw_eq1 (pt := 923) (pn := 919) rfl rfl rfl (by omega) (fun h => absurd h (by omega)) (fun g2 => ?_)
  refine sw_p 2 (f' := (924, [some (2, 9001), some (2, 50), some (2, 0), some (2, 40), some (0, i), some (0, k), o6, o7], [(0, 1), (0, x1), (2, 0)])) rfl ?_
  refine sw_cv (pn := 927) (q0 := mj_Lw_law) (q := mj_Mo_opening) (p := 0) (as2 := [(0, x1), (0, 1)]) (L2 := [some (2, 0), some (0, x1), some (0, 1)]) (rest := []) rfl rfl rfl rfl rfl rfl rfl rfl rfl hs1.1 (hM s1 ν1 n1 l1) (fun v s2 ν2 hv => ?_) (fun _ _ _ h => by obtain ⟨_, h, _⟩ := h; cases h)
  obtain ⟨r', hv1, hv2, e0, er, rq, hi2, b29, b30⟩ := hv
  cases hv1
  subst hv2
  have hF : lw_I ρ' f' s2 ν2 := lw_mk hs h40 hI' n1 R1 u1 rq hi2 b29 b30
  have e40 := n1.1 40 (by decide) (by decide)
  have h4v : k = 0 → ν2 40 0 = Int.bmod r 4294967296 := fun h => by rw [hi2 40 (by decide)]; exact o1 h
  show sw_w E _ 140 (927, [some (2, 9001), some (2, 50), some (2, 0), some (2, 40), some (0, i), some (0, k), o6, o7], [(0, r')]) s2 ν2 _
  refine sw_p 2 (f' := (930, [some (2, 9001), some (2, 50), some (2, 0), some (2, 40), some (0, i), some (0, k), some (0, r'), o7], [(2, 0)])) rfl ?_
  refine sw_cv1 (pn := 933) (q0 := mj_Lw_law) (q := mj_Mo_thrown) (p := 0) (as2 := []) (L2 := [some (2, 0)]) (rest := []) (v := some (0, k)) (s1 := s2) (ν1 := ν2) rfl rfl rfl rfl rfl rfl rfl rfl rfl hF.1.1 (by have h := mo_thrown (E := E) (d := d) (s := s2) (ν := ν2) hF.1; rw [e0] at h; exact h) ?_
  show sw_w E _ 140 (933, [some (2, 9001), some (2, 50), some (2, 0), some (2, 40), some (0, i), some (0, k), some (0, r'), o7], [(0, k)]) s2 ν2 _
  refine sw_p 1 (f' := (935, [some (2, 9001), some (2, 50), some (2, 0), some (2, 40), some (0, i), some (0, k), some (0, r'), o7], [(0, k), (0, k)])) rfl ?_
  refine sw_eq2 (pt := 940) (pn := 938) rfl rfl rfl (by omega) (by omega) (fun g3 => ?_) (fun h => absurd h (by omega))
  refine sw_p 1 (f' := (942, [some (2, 9001), some (2, 50), some (2, 0), some (2, 40), some (0, i), some (0, k), some (0, r'), o7], [(0, k)])) rfl ?_
  refine sw_ne1 (pt := 957) (pn := 945) rfl rfl rfl (by omega) (fun g4 => ?_) (fun g4 => ?_)
  · skip
    refine sw_p 1 (f' := (1122, [some (2, 9001), some (2, 50), some (2, 0), some (2, 40), some (0, i), some (0, k), some (0, r'), o7], [])) rfl ?_
    exact hK _ _ _ _ _ n1 hF
  · skip
    refine sw_p 2 (f' := (947, [some (2, 9001), some (2, 50), some (2, 0), some (2, 40), some (0, i), some (0, k), some (0, r'), o7], [(0, 0), (2, 40)])) rfl ?_
    refine sw_lal (pn := 948) (l := 1) rfl rfl (by omega) (by rw [e40]; exact h40.1) (by rw [e40]; exact h40.2) (by omega) (by omega) ?_
    rw [show ν2 40 0 = Int.bmod r 4294967296 from h4v (by omega)]
    refine sw_p 1 (f' := (950, [some (2, 9001), some (2, 50), some (2, 0), some (2, 40), some (0, i), some (0, k), some (0, r'), o7], [(0, r'), (1, Int.bmod r 4294967296)])) rfl ?_
    refine sw_i2lw (pn := 951) rfl rfl ?_
    rw [er (by omega)]
    refine sw_lcb (pt := 957) rfl rfl rfl ?_
    refine sw_p 1 (f' := (1122, [some (2, 9001), some (2, 50), some (2, 0), some (2, 40), some (0, i), some (0, k), some (0, r), o7], [])) rfl ?_
    exact hK _ _ _ _ _ n1 hF
set_option maxRecDepth 20000 in
theorem lo_137b (hS : E.2.1 < E.1) (hlen : E.2.2.1 ≤ 3072) (hi : 0 ≤ i ∧ i + 6 ≤ (E.2.2.1 : Int)) (hx1 : (E.2.2.2.1 (i + 1).toNat).toInt = x1) (hb1 : -2147483648 ≤ x1 ∧ x1 < 2147483648) (hx2 : (E.2.2.2.1 (i + 2).toNat).toInt = x2) (hb2 : -2147483648 ≤ x2 ∧ x2 < 2147483648) (h5 : x2 = 0) (hI : lw_I ρ f s ν) (hI' : iv_I ρ' f') (hk : 0 ≤ k ∧ k ≤ 2) (hW : sw_w E d 137 (0, [some (2, 50), some (0, x1), some (0, 0), some (2, 40), none], []) s ν (wr_e k (Int.bmod r 4294967296) s ν ρ' f')) (hM : ∀ s' ν', ns_r s s' → (∀ p, p < 40 → ν' p = ν p) → sw_w E d 122 (0, [some (2, 0), some (0, x1), some (0, 0)], []) s' ν' (mr_e 0 k r ρ' s' ν')) (hK : ∀ s' ν' o5 o6 o7, ns_r s s' → lw_I ρ' f' s' ν' → sw_w E (d + 1) 140 (1122, [some (2, 9001), some (2, 50), some (2, 0), some (2, 40), some (0, i), o5, o6, o7], []) s' ν' Q) : sw_w E (d + 1) 140 (876, [some (2, 9001), some (2, 50), some (2, 0), some (2, 40), some (0, i), o5, o6, o7], []) s ν Q := by
  obtain ⟨hs, h40, -, -, -, -, -, -⟩ := hI
  refine sw_p 5 (f' := (882, [some (2, 9001), some (2, 50), some (2, 0), some (2, 40), some (0, i), o5, o6, o7], [(0, i + 1), (2, 9001), (2, 50)])) rfl ?_
  refine sw_ialS (pn := 883) rfl rfl hS (by omega) hlen ?_
  rw [hx1]
  refine sw_p 4 (f' := (888, [some (2, 9001), some (2, 50), some (2, 0), some (2, 40), some (0, i), o5, o6, o7], [(0, i + 2), (2, 9001), (0, x1), (2, 50)])) rfl ?_
  refine sw_ialS (pn := 889) rfl rfl hS (by omega) hlen ?_
  rw [hx2]
  refine sw_eq1 (pt := 896) (pn := 892) rfl rfl rfl (by omega) (fun g1 => ?_) (fun h => absurd h (by omega))
  refine sw_p 2 (f' := (898, [some (2, 9001), some (2, 50), some (2, 0), some (2, 40), some (0, i), o5, o6, o7], [(2, 40), (0, 0), (0, x1), (2, 50)])) rfl ?_
  refine sw_cs (pn := 901) (q0 := mj_Lw_law) (q := mj_Lw_opening) (L2 := [some (2, 50), some (0, x1), some (0, 0), some (2, 40), none]) (rest := []) rfl rfl rfl rfl rfl rfl rfl rfl hW (fun v s1 ν1 hv => ?_) (fun _ _ _ h => nomatch h.1)
  have hv1 := hv.1
  cases hv1
  obtain ⟨-, n1, R1, u1, l1, o1⟩ := hv
  have hs1 : mo_sh s1 := ns_sh n1 hs
  show sw_w E _ 140 (901, [some (2, 9001), some (2, 50), some (2, 0), some (2, 40), some (0, i), o5, o6, o7], [(0, k)]) s1 ν1 _
  refine sw_p 6 (f' := (909, [some (2, 9001), some (2, 50), some (2, 0), some (2, 40), some (0, i), some (0, k), o6, o7], [(0, i + 1), (2, 9001), (2, 0)])) rfl ?_
  refine sw_ialS (pn := 910) rfl rfl hS (by omega) hlen ?_
  rw [hx1]
  refine sw_p 4 (f' := (915, [some (2, 9001), some (2, 50), some (2, 0), some (2, 40), some (0, i), some (0, k), o6, o7], [(0, i + 2), (2, 9001), (0, x1), (2, 0)])) rfl ?_
  refine sw_ialS (pn := 916) rfl rfl hS (by omega) hlen ?_
  rw [hx2]
  refine sw_eq1 (pt := 923) (pn := 919) rfl rfl rfl (by omega) (fun g2 => ?_) (fun h => absurd h (by omega))
  refine sw_p 1 (f' := (924, [some (2, 9001), some (2, 50), some (2, 0), some (2, 40), some (0, i), some (0, k), o6, o7], [(0, 0), (0, x1), (2, 0)])) rfl ?_
  refine sw_cv (pn := 927) (q0 := mj_Lw_law) (q := mj_Mo_opening) (p := 0) (as2 := [(0, x1), (0, 0)]) (L2 := [some (2, 0), some (0, x1), some (0, 0)]) (rest := []) rfl rfl rfl rfl rfl rfl rfl rfl rfl hs1.1 (hM s1 ν1 n1 l1) (fun v s2 ν2 hv => ?_) (fun _ _ _ h => by obtain ⟨_, h, _⟩ := h; cases h)
  obtain ⟨r', hv1, hv2, e0, er, rq, hi2, b29, b30⟩ := hv
  cases hv1
  subst hv2
  have hF : lw_I ρ' f' s2 ν2 := lw_mk hs h40 hI' n1 R1 u1 rq hi2 b29 b30
  have e40 := n1.1 40 (by decide) (by decide)
  have h4v : k = 0 → ν2 40 0 = Int.bmod r 4294967296 := fun h => by rw [hi2 40 (by decide)]; exact o1 h
  show sw_w E _ 140 (927, [some (2, 9001), some (2, 50), some (2, 0), some (2, 40), some (0, i), some (0, k), o6, o7], [(0, r')]) s2 ν2 _
  refine sw_p 2 (f' := (930, [some (2, 9001), some (2, 50), some (2, 0), some (2, 40), some (0, i), some (0, k), some (0, r'), o7], [(2, 0)])) rfl ?_
  refine sw_cv1 (pn := 933) (q0 := mj_Lw_law) (q := mj_Mo_thrown) (p := 0) (as2 := []) (L2 := [some (2, 0)]) (rest := []) (v := some (0, k)) (s1 := s2) (ν1 := ν2) rfl rfl rfl rfl rfl rfl rfl rfl rfl hF.1.1 (by have h := mo_thrown (E := E) (d := d) (s := s2) (ν := ν2) hF.1; rw [e0] at h; exact h) ?_
  show sw_w E _ 140 (933, [some (2, 9001), some (2, 50), some (2, 0), some (2, 40), some (0, i), some (0, k), some (0, r'), o7], [(0, k)]) s2 ν2 _
  refine sw_p 1 (f' := (935, [some (2, 9001), some (2, 50), some (2, 0), some (2, 40), some (0, i), some (0, k), some (0, r'), o7], [(0, k), (0, k)])) rfl ?_
  refine sw_eq2 (pt := 940) (pn := 938) rfl rfl rfl (by omega) (by omega) (fun g3 => ?_) (fun h => absurd h (by omega))
  refine sw_p 1 (f' := (942, [some (2, 9001), some (2, 50), some (2, 0), some (2, 40), some (0, i), some (0, k), some (0, r'), o7], [(0, k)])) rfl ?_
  refine sw_ne1 (pt := 957) (pn := 945) rfl rfl rfl (by omega) (fun g4 => ?_) (fun g4 => ?_)
  · skip
    refine sw_p 1 (f' := (1122, [some (2, 9001), some (2, 50), some (2, 0), some (2, 40), some (0, i), some (0, k), some (0, r'), o7], [])) rfl ?_
    exact hK _ _ _ _ _ n1 hF
  · skip
    refine sw_p 2 (f' := (947, [some (2, 9001), some (2, 50), some (2, 0), some (2, 40), some (0, i), some (0, k), some (0, r'), o7], [(0, 0), (2, 40)])) rfl ?_
    refine sw_lal (pn := 948) (l := 1) rfl rfl (by omega) (by rw [e40]; exact h40.1) (by rw [e40]; exact h40.2) (by omega) (by omega) ?_
    rw [show ν2 40 0 = Int.bmod r 4294967296 from h4v (by omega)]
    refine sw_p 1 (f' := (950, [some (2, 9001), some (2, 50), some (2, 0), some (2, 40), some (0, i), some (0, k), some (0, r'), o7], [(0, r'), (1, Int.bmod r 4294967296)])) rfl ?_
    refine sw_i2lw (pn := 951) rfl rfl ?_
    rw [er (by omega)]
    refine sw_lcb (pt := 957) rfl rfl rfl ?_
    refine sw_p 1 (f' := (1122, [some (2, 9001), some (2, 50), some (2, 0), some (2, 40), some (0, i), some (0, k), some (0, r), o7], [])) rfl ?_
    exact hK _ _ _ _ _ n1 hF
set_option maxRecDepth 20000 in
theorem lo_138 (hS : E.2.1 < E.1) (hlen : E.2.2.1 ≤ 3072) (hi : 0 ≤ i ∧ i + 6 ≤ (E.2.2.1 : Int)) (hx1 : (E.2.2.2.1 (i + 1).toNat).toInt = x1) (hb1 : -2147483648 ≤ x1 ∧ x1 < 2147483648) (hI : lw_I ρ f s ν) (hI' : iv_I ρ' f') (hk : 0 ≤ k ∧ k ≤ 2) (hW : sw_w E d 138 (0, [some (2, 50), some (0, x1), some (2, 40), none], []) s ν (wr_e k (Int.bmod r 4294967296) s ν ρ' f')) (hM : ∀ s' ν', ns_r s s' → (∀ p, p < 40 → ν' p = ν p) → sw_w E d 124 (0, [some (2, 0), some (0, x1)], []) s' ν' (mr_e 0 k r ρ' s' ν')) (hK : ∀ s' ν' o5 o6 o7, ns_r s s' → lw_I ρ' f' s' ν' → sw_w E (d + 1) 140 (1122, [some (2, 9001), some (2, 50), some (2, 0), some (2, 40), some (0, i), o5, o6, o7], []) s' ν' Q) : sw_w E (d + 1) 140 (985, [some (2, 9001), some (2, 50), some (2, 0), some (2, 40), some (0, i), o5, o6, o7], []) s ν Q := by
  obtain ⟨hs, h40, -, -, -, -, -, -⟩ := hI
  refine sw_p 5 (f' := (991, [some (2, 9001), some (2, 50), some (2, 0), some (2, 40), some (0, i), o5, o6, o7], [(0, i + 1), (2, 9001), (2, 50)])) rfl ?_
  refine sw_ialS (pn := 992) rfl rfl hS (by omega) hlen ?_
  rw [hx1]
  refine sw_p 1 (f' := (993, [some (2, 9001), some (2, 50), some (2, 0), some (2, 40), some (0, i), o5, o6, o7], [(2, 40), (0, x1), (2, 50)])) rfl ?_
  refine sw_cs (pn := 996) (q0 := mj_Lw_law) (q := mj_Lw_power) (L2 := [some (2, 50), some (0, x1), some (2, 40), none]) (rest := []) rfl rfl rfl rfl rfl rfl rfl rfl hW (fun v s1 ν1 hv => ?_) (fun _ _ _ h => nomatch h.1)
  have hv1 := hv.1
  cases hv1
  obtain ⟨-, n1, R1, u1, l1, o1⟩ := hv
  have hs1 : mo_sh s1 := ns_sh n1 hs
  show sw_w E _ 140 (996, [some (2, 9001), some (2, 50), some (2, 0), some (2, 40), some (0, i), o5, o6, o7], [(0, k)]) s1 ν1 _
  refine sw_p 6 (f' := (1004, [some (2, 9001), some (2, 50), some (2, 0), some (2, 40), some (0, i), some (0, k), o6, o7], [(0, i + 1), (2, 9001), (2, 0)])) rfl ?_
  refine sw_ialS (pn := 1005) rfl rfl hS (by omega) hlen ?_
  rw [hx1]
  refine sw_cv (pn := 1008) (q0 := mj_Lw_law) (q := mj_Mo_power) (p := 0) (as2 := [(0, x1)]) (L2 := [some (2, 0), some (0, x1)]) (rest := []) rfl rfl rfl rfl rfl rfl rfl rfl rfl hs1.1 (hM s1 ν1 n1 l1) (fun v s2 ν2 hv => ?_) (fun _ _ _ h => by obtain ⟨_, h, _⟩ := h; cases h)
  obtain ⟨r', hv1, hv2, e0, er, rq, hi2, b29, b30⟩ := hv
  cases hv1
  subst hv2
  have hF : lw_I ρ' f' s2 ν2 := lw_mk hs h40 hI' n1 R1 u1 rq hi2 b29 b30
  have e40 := n1.1 40 (by decide) (by decide)
  have h4v : k = 0 → ν2 40 0 = Int.bmod r 4294967296 := fun h => by rw [hi2 40 (by decide)]; exact o1 h
  show sw_w E _ 140 (1008, [some (2, 9001), some (2, 50), some (2, 0), some (2, 40), some (0, i), some (0, k), o6, o7], [(0, r')]) s2 ν2 _
  refine sw_p 2 (f' := (1011, [some (2, 9001), some (2, 50), some (2, 0), some (2, 40), some (0, i), some (0, k), some (0, r'), o7], [(2, 0)])) rfl ?_
  refine sw_cv1 (pn := 1014) (q0 := mj_Lw_law) (q := mj_Mo_thrown) (p := 0) (as2 := []) (L2 := [some (2, 0)]) (rest := []) (v := some (0, k)) (s1 := s2) (ν1 := ν2) rfl rfl rfl rfl rfl rfl rfl rfl rfl hF.1.1 (by have h := mo_thrown (E := E) (d := d) (s := s2) (ν := ν2) hF.1; rw [e0] at h; exact h) ?_
  show sw_w E _ 140 (1014, [some (2, 9001), some (2, 50), some (2, 0), some (2, 40), some (0, i), some (0, k), some (0, r'), o7], [(0, k)]) s2 ν2 _
  refine sw_p 1 (f' := (1016, [some (2, 9001), some (2, 50), some (2, 0), some (2, 40), some (0, i), some (0, k), some (0, r'), o7], [(0, k), (0, k)])) rfl ?_
  refine sw_eq2 (pt := 1021) (pn := 1019) rfl rfl rfl (by omega) (by omega) (fun g1 => ?_) (fun h => absurd h (by omega))
  refine sw_p 1 (f' := (1023, [some (2, 9001), some (2, 50), some (2, 0), some (2, 40), some (0, i), some (0, k), some (0, r'), o7], [(0, k)])) rfl ?_
  refine sw_ne1 (pt := 1038) (pn := 1026) rfl rfl rfl (by omega) (fun g2 => ?_) (fun g2 => ?_)
  · skip
    refine sw_p 1 (f' := (1122, [some (2, 9001), some (2, 50), some (2, 0), some (2, 40), some (0, i), some (0, k), some (0, r'), o7], [])) rfl ?_
    exact hK _ _ _ _ _ n1 hF
  · skip
    refine sw_p 2 (f' := (1028, [some (2, 9001), some (2, 50), some (2, 0), some (2, 40), some (0, i), some (0, k), some (0, r'), o7], [(0, 0), (2, 40)])) rfl ?_
    refine sw_lal (pn := 1029) (l := 1) rfl rfl (by omega) (by rw [e40]; exact h40.1) (by rw [e40]; exact h40.2) (by omega) (by omega) ?_
    rw [show ν2 40 0 = Int.bmod r 4294967296 from h4v (by omega)]
    refine sw_p 1 (f' := (1031, [some (2, 9001), some (2, 50), some (2, 0), some (2, 40), some (0, i), some (0, k), some (0, r'), o7], [(0, r'), (1, Int.bmod r 4294967296)])) rfl ?_
    refine sw_i2lw (pn := 1032) rfl rfl ?_
    rw [er (by omega)]
    refine sw_lcb (pt := 1038) rfl rfl rfl ?_
    refine sw_p 1 (f' := (1122, [some (2, 9001), some (2, 50), some (2, 0), some (2, 40), some (0, i), some (0, k), some (0, r), o7], [])) rfl ?_
    exact hK _ _ _ _ _ n1 hF
set_option maxRecDepth 20000 in
theorem lo_139 (hS : E.2.1 < E.1) (hlen : E.2.2.1 ≤ 3072) (hi : 0 ≤ i ∧ i + 6 ≤ (E.2.2.1 : Int)) (hx1 : (E.2.2.2.1 (i + 1).toNat).toInt = x1) (hb1 : -2147483648 ≤ x1 ∧ x1 < 2147483648) (hx2 : (E.2.2.2.1 (i + 2).toNat).toInt = x2) (hb2 : -2147483648 ≤ x2 ∧ x2 < 2147483648) (hI : lw_I ρ f s ν) (hI' : iv_I ρ' f') (hk : 0 ≤ k ∧ k ≤ 2) (hW : sw_w E d 139 (0, [some (2, 50), some (0, x1), some (0, x2), some (2, 40), none], []) s ν (wr_e k (Int.bmod r 4294967296) s ν ρ' f')) (hM : ∀ s' ν', ns_r s s' → (∀ p, p < 40 → ν' p = ν p) → sw_w E d 125 (0, [some (2, 0), some (0, x1), some (0, x2)], []) s' ν' (mr_e 0 k r ρ' s' ν')) (hK : ∀ s' ν' o5 o6 o7, ns_r s s' → lw_I ρ' f' s' ν' → sw_w E (d + 1) 140 (1122, [some (2, 9001), some (2, 50), some (2, 0), some (2, 40), some (0, i), o5, o6, o7], []) s' ν' Q) : sw_w E (d + 1) 140 (1041, [some (2, 9001), some (2, 50), some (2, 0), some (2, 40), some (0, i), o5, o6, o7], []) s ν Q := by
  obtain ⟨hs, h40, -, -, -, -, -, -⟩ := hI
  refine sw_p 5 (f' := (1047, [some (2, 9001), some (2, 50), some (2, 0), some (2, 40), some (0, i), o5, o6, o7], [(0, i + 1), (2, 9001), (2, 50)])) rfl ?_
  refine sw_ialS (pn := 1048) rfl rfl hS (by omega) hlen ?_
  rw [hx1]
  refine sw_p 4 (f' := (1053, [some (2, 9001), some (2, 50), some (2, 0), some (2, 40), some (0, i), o5, o6, o7], [(0, i + 2), (2, 9001), (0, x1), (2, 50)])) rfl ?_
  refine sw_ialS (pn := 1054) rfl rfl hS (by omega) hlen ?_
  rw [hx2]
  refine sw_p 1 (f' := (1055, [some (2, 9001), some (2, 50), some (2, 0), some (2, 40), some (0, i), o5, o6, o7], [(2, 40), (0, x2), (0, x1), (2, 50)])) rfl ?_
  refine sw_cs (pn := 1058) (q0 := mj_Lw_law) (q := mj_Lw_slot) (L2 := [some (2, 50), some (0, x1), some (0, x2), some (2, 40), none]) (rest := []) rfl rfl rfl rfl rfl rfl rfl rfl hW (fun v s1 ν1 hv => ?_) (fun _ _ _ h => nomatch h.1)
  have hv1 := hv.1
  cases hv1
  obtain ⟨-, n1, R1, u1, l1, o1⟩ := hv
  have hs1 : mo_sh s1 := ns_sh n1 hs
  show sw_w E _ 140 (1058, [some (2, 9001), some (2, 50), some (2, 0), some (2, 40), some (0, i), o5, o6, o7], [(0, k)]) s1 ν1 _
  refine sw_p 6 (f' := (1066, [some (2, 9001), some (2, 50), some (2, 0), some (2, 40), some (0, i), some (0, k), o6, o7], [(0, i + 1), (2, 9001), (2, 0)])) rfl ?_
  refine sw_ialS (pn := 1067) rfl rfl hS (by omega) hlen ?_
  rw [hx1]
  refine sw_p 4 (f' := (1072, [some (2, 9001), some (2, 50), some (2, 0), some (2, 40), some (0, i), some (0, k), o6, o7], [(0, i + 2), (2, 9001), (0, x1), (2, 0)])) rfl ?_
  refine sw_ialS (pn := 1073) rfl rfl hS (by omega) hlen ?_
  rw [hx2]
  refine sw_cv (pn := 1076) (q0 := mj_Lw_law) (q := mj_Mo_slot) (p := 0) (as2 := [(0, x1), (0, x2)]) (L2 := [some (2, 0), some (0, x1), some (0, x2)]) (rest := []) rfl rfl rfl rfl rfl rfl rfl rfl rfl hs1.1 (hM s1 ν1 n1 l1) (fun v s2 ν2 hv => ?_) (fun _ _ _ h => by obtain ⟨_, h, _⟩ := h; cases h)
  obtain ⟨r', hv1, hv2, e0, er, rq, hi2, b29, b30⟩ := hv
  cases hv1
  subst hv2
  have hF : lw_I ρ' f' s2 ν2 := lw_mk hs h40 hI' n1 R1 u1 rq hi2 b29 b30
  have e40 := n1.1 40 (by decide) (by decide)
  have h4v : k = 0 → ν2 40 0 = Int.bmod r 4294967296 := fun h => by rw [hi2 40 (by decide)]; exact o1 h
  show sw_w E _ 140 (1076, [some (2, 9001), some (2, 50), some (2, 0), some (2, 40), some (0, i), some (0, k), o6, o7], [(0, r')]) s2 ν2 _
  refine sw_p 2 (f' := (1079, [some (2, 9001), some (2, 50), some (2, 0), some (2, 40), some (0, i), some (0, k), some (0, r'), o7], [(2, 0)])) rfl ?_
  refine sw_cv1 (pn := 1082) (q0 := mj_Lw_law) (q := mj_Mo_thrown) (p := 0) (as2 := []) (L2 := [some (2, 0)]) (rest := []) (v := some (0, k)) (s1 := s2) (ν1 := ν2) rfl rfl rfl rfl rfl rfl rfl rfl rfl hF.1.1 (by have h := mo_thrown (E := E) (d := d) (s := s2) (ν := ν2) hF.1; rw [e0] at h; exact h) ?_
  show sw_w E _ 140 (1082, [some (2, 9001), some (2, 50), some (2, 0), some (2, 40), some (0, i), some (0, k), some (0, r'), o7], [(0, k)]) s2 ν2 _
  refine sw_p 1 (f' := (1084, [some (2, 9001), some (2, 50), some (2, 0), some (2, 40), some (0, i), some (0, k), some (0, r'), o7], [(0, k), (0, k)])) rfl ?_
  refine sw_eq2 (pt := 1089) (pn := 1087) rfl rfl rfl (by omega) (by omega) (fun g1 => ?_) (fun h => absurd h (by omega))
  refine sw_p 1 (f' := (1091, [some (2, 9001), some (2, 50), some (2, 0), some (2, 40), some (0, i), some (0, k), some (0, r'), o7], [(0, k)])) rfl ?_
  refine sw_ne1 (pt := 1106) (pn := 1094) rfl rfl rfl (by omega) (fun g2 => ?_) (fun g2 => ?_)
  · skip
    refine sw_p 1 (f' := (1122, [some (2, 9001), some (2, 50), some (2, 0), some (2, 40), some (0, i), some (0, k), some (0, r'), o7], [])) rfl ?_
    exact hK _ _ _ _ _ n1 hF
  · skip
    refine sw_p 2 (f' := (1096, [some (2, 9001), some (2, 50), some (2, 0), some (2, 40), some (0, i), some (0, k), some (0, r'), o7], [(0, 0), (2, 40)])) rfl ?_
    refine sw_lal (pn := 1097) (l := 1) rfl rfl (by omega) (by rw [e40]; exact h40.1) (by rw [e40]; exact h40.2) (by omega) (by omega) ?_
    rw [show ν2 40 0 = Int.bmod r 4294967296 from h4v (by omega)]
    refine sw_p 1 (f' := (1099, [some (2, 9001), some (2, 50), some (2, 0), some (2, 40), some (0, i), some (0, k), some (0, r'), o7], [(0, r'), (1, Int.bmod r 4294967296)])) rfl ?_
    refine sw_i2lw (pn := 1100) rfl rfl ?_
    rw [er (by omega)]
    refine sw_lcb (pt := 1106) rfl rfl rfl ?_
    refine sw_p 1 (f' := (1122, [some (2, 9001), some (2, 50), some (2, 0), some (2, 40), some (0, i), some (0, k), some (0, r), o7], [])) rfl ?_
    exact hK _ _ _ _ _ n1 hF
set_option maxRecDepth 20000 in
theorem lo_42 (hS : E.2.1 < E.1) (hlen : E.2.2.1 ≤ 3072) (hi : 0 ≤ i ∧ i + 6 ≤ (E.2.2.1 : Int))  (hI : lw_I ρ f s ν) (hI' : iv_I ρ' f') (hW : sw_w E d 42 (0, [some (2, 50), none], []) s ν (cc_v s ν ρ' f' (0, r))) (hM : ∀ s' ν', ns_r s s' → (∀ p, p < 40 → ν' p = ν p) → sw_w E d 89 (0, [some (2, 0)], []) s' ν' (mr_d r ρ' s' ν')) (hK : ∀ s' ν' o5 o6 o7, ns_r s s' → lw_I ρ' f' s' ν' → sw_w E (d + 1) 140 (1122, [some (2, 9001), some (2, 50), some (2, 0), some (2, 40), some (0, i), o5, o6, o7], []) s' ν' Q) : sw_w E (d + 1) 140 (404, [some (2, 9001), some (2, 50), some (2, 0), some (2, 40), some (0, i), o5, o6, o7], []) s ν Q := by
  obtain ⟨hs, h40, -, hR, -, -, -, -⟩ := hI
  refine sw_p 1 (f' := (405, [some (2, 9001), some (2, 50), some (2, 0), some (2, 40), some (0, i), o5, o6, o7], [(2, 50)])) rfl ?_
  refine sw_cv (pn := 408) (q0 := mj_Lw_law) (q := mj_PT_step) (p := 50) (as2 := []) (L2 := [some (2, 50), none]) (rest := []) rfl rfl rfl rfl rfl rfl rfl rfl rfl hR.sh.1 hW (fun v s1 ν1 hv => ?_) (fun _ _ _ h => nomatch h.1)
  have hv1 := hv.1
  cases hv1
  obtain ⟨-, n1, R1, u1, l1⟩ := hv
  have hs1 : mo_sh s1 := ns_sh n1 hs
  show sw_w E _ 140 (408, [some (2, 9001), some (2, 50), some (2, 0), some (2, 40), some (0, i), o5, o6, o7], [(0, r)]) s1 ν1 _
  refine sw_p 1 (f' := (409, [some (2, 9001), some (2, 50), some (2, 0), some (2, 40), some (0, i), o5, o6, o7], [(2, 0), (0, r)])) rfl ?_
  refine sw_cv (pn := 412) (q0 := mj_Lw_law) (q := mj_Mo_step) (p := 0) (as2 := []) (L2 := [some (2, 0)]) (rest := [(0, r)]) rfl rfl rfl rfl rfl rfl rfl rfl rfl hs1.1 (hM s1 ν1 n1 (fun p hp => l1 p (by omega))) (fun v s2 ν2 hv => ?_) (fun _ _ _ h => nomatch h.1)
  obtain ⟨hv1, hv2, rq, hi2, b29, b30⟩ := hv
  cases hv1
  subst hv2
  have hF : lw_I ρ' f' s2 ν2 := lw_mk hs h40 hI' n1 R1 u1 rq hi2 b29 b30
  show sw_w E _ 140 (412, [some (2, 9001), some (2, 50), some (2, 0), some (2, 40), some (0, i), o5, o6, o7], [(0, r), (0, r)]) s2 ν2 _
  refine sw_eqs (pt := 1122) rfl rfl ?_
  exact hK _ _ _ _ _ n1 hF
set_option maxRecDepth 20000 in
theorem lo_61 (hS : E.2.1 < E.1) (hlen : E.2.2.1 ≤ 3072) (hi : 0 ≤ i ∧ i + 6 ≤ (E.2.2.1 : Int))  (hI : lw_I ρ f s ν) (hI' : iv_I ρ' f') (hW : sw_w E d 61 (0, [some (2, 50), none], []) s ν (cc_v s ν ρ' f' (0, r))) (hM : ∀ s' ν', ns_r s s' → (∀ p, p < 40 → ν' p = ν p) → sw_w E d 110 (0, [some (2, 0), none], []) s' ν' (mr_d r ρ' s' ν')) (hK : ∀ s' ν' o5 o6 o7, ns_r s s' → lw_I ρ' f' s' ν' → sw_w E (d + 1) 140 (1122, [some (2, 9001), some (2, 50), some (2, 0), some (2, 40), some (0, i), o5, o6, o7], []) s' ν' Q) : sw_w E (d + 1) 140 (417, [some (2, 9001), some (2, 50), some (2, 0), some (2, 40), some (0, i), o5, o6, o7], []) s ν Q := by
  obtain ⟨hs, h40, -, hR, -, -, -, -⟩ := hI
  refine sw_p 1 (f' := (418, [some (2, 9001), some (2, 50), some (2, 0), some (2, 40), some (0, i), o5, o6, o7], [(2, 50)])) rfl ?_
  refine sw_cv (pn := 421) (q0 := mj_Lw_law) (q := mj_PT_settle) (p := 50) (as2 := []) (L2 := [some (2, 50), none]) (rest := []) rfl rfl rfl rfl rfl rfl rfl rfl rfl hR.sh.1 hW (fun v s1 ν1 hv => ?_) (fun _ _ _ h => nomatch h.1)
  have hv1 := hv.1
  cases hv1
  obtain ⟨-, n1, R1, u1, l1⟩ := hv
  have hs1 : mo_sh s1 := ns_sh n1 hs
  show sw_w E _ 140 (421, [some (2, 9001), some (2, 50), some (2, 0), some (2, 40), some (0, i), o5, o6, o7], [(0, r)]) s1 ν1 _
  refine sw_p 1 (f' := (422, [some (2, 9001), some (2, 50), some (2, 0), some (2, 40), some (0, i), o5, o6, o7], [(2, 0), (0, r)])) rfl ?_
  refine sw_cv (pn := 425) (q0 := mj_Lw_law) (q := mj_Mo_settle) (p := 0) (as2 := []) (L2 := [some (2, 0), none]) (rest := [(0, r)]) rfl rfl rfl rfl rfl rfl rfl rfl rfl hs1.1 (hM s1 ν1 n1 (fun p hp => l1 p (by omega))) (fun v s2 ν2 hv => ?_) (fun _ _ _ h => nomatch h.1)
  obtain ⟨hv1, hv2, rq, hi2, b29, b30⟩ := hv
  cases hv1
  subst hv2
  have hF : lw_I ρ' f' s2 ν2 := lw_mk hs h40 hI' n1 R1 u1 rq hi2 b29 b30
  show sw_w E _ 140 (425, [some (2, 9001), some (2, 50), some (2, 0), some (2, 40), some (0, i), o5, o6, o7], [(0, r), (0, r)]) s2 ν2 _
  refine sw_eqs (pt := 1122) rfl rfl ?_
  exact hK _ _ _ _ _ n1 hF
set_option maxRecDepth 20000 in
theorem lo_62 (hS : E.2.1 < E.1) (hlen : E.2.2.1 ≤ 3072) (hi : 0 ≤ i ∧ i + 6 ≤ (E.2.2.1 : Int)) (hx1 : (E.2.2.2.1 (i + 1).toNat).toInt = x1) (hI : lw_I ρ f s ν) (hI' : iv_I ρ' f') (hW : sw_w E d 62 (0, [some (2, 50), some (0, x1), none], []) s ν (cc_v s ν ρ' f' (0, r))) (hM : ∀ s' ν', ns_r s s' → (∀ p, p < 40 → ν' p = ν p) → sw_w E d 123 (0, [some (2, 0), some (0, x1), none, none, none, none], []) s' ν' (mr_d r ρ' s' ν')) (hK : ∀ s' ν' o5 o6 o7, ns_r s s' → lw_I ρ' f' s' ν' → sw_w E (d + 1) 140 (1122, [some (2, 9001), some (2, 50), some (2, 0), some (2, 40), some (0, i), o5, o6, o7], []) s' ν' Q) : sw_w E (d + 1) 140 (960, [some (2, 9001), some (2, 50), some (2, 0), some (2, 40), some (0, i), o5, o6, o7], []) s ν Q := by
  obtain ⟨hs, h40, -, hR, -, -, -, -⟩ := hI
  refine sw_p 5 (f' := (966, [some (2, 9001), some (2, 50), some (2, 0), some (2, 40), some (0, i), o5, o6, o7], [(0, i + 1), (2, 9001), (2, 50)])) rfl ?_
  refine sw_ialS (pn := 967) rfl rfl hS (by omega) hlen ?_
  rw [hx1]
  refine sw_cv (pn := 970) (q0 := mj_Lw_law) (q := mj_PT_decode) (p := 50) (as2 := [(0, x1)]) (L2 := [some (2, 50), some (0, x1), none]) (rest := []) rfl rfl rfl rfl rfl rfl rfl rfl rfl hR.sh.1 hW (fun v s1 ν1 hv => ?_) (fun _ _ _ h => nomatch h.1)
  have hv1 := hv.1
  cases hv1
  obtain ⟨-, n1, R1, u1, l1⟩ := hv
  have hs1 : mo_sh s1 := ns_sh n1 hs
  show sw_w E _ 140 (970, [some (2, 9001), some (2, 50), some (2, 0), some (2, 40), some (0, i), o5, o6, o7], [(0, r)]) s1 ν1 _
  refine sw_p 5 (f' := (976, [some (2, 9001), some (2, 50), some (2, 0), some (2, 40), some (0, i), o5, o6, o7], [(0, i + 1), (2, 9001), (2, 0), (0, r)])) rfl ?_
  refine sw_ialS (pn := 977) rfl rfl hS (by omega) hlen ?_
  rw [hx1]
  refine sw_cv (pn := 980) (q0 := mj_Lw_law) (q := mj_Mo_decode) (p := 0) (as2 := [(0, x1)]) (L2 := [some (2, 0), some (0, x1), none, none, none, none]) (rest := [(0, r)]) rfl rfl rfl rfl rfl rfl rfl rfl rfl hs1.1 (hM s1 ν1 n1 (fun p hp => l1 p (by omega))) (fun v s2 ν2 hv => ?_) (fun _ _ _ h => nomatch h.1)
  obtain ⟨hv1, hv2, rq, hi2, b29, b30⟩ := hv
  cases hv1
  subst hv2
  have hF : lw_I ρ' f' s2 ν2 := lw_mk hs h40 hI' n1 R1 u1 rq hi2 b29 b30
  show sw_w E _ 140 (980, [some (2, 9001), some (2, 50), some (2, 0), some (2, 40), some (0, i), o5, o6, o7], [(0, r), (0, r)]) s2 ν2 _
  refine sw_eqs (pt := 1122) rfl rfl ?_
  exact hK _ _ _ _ _ n1 hF
set_option maxRecDepth 20000 in
theorem lo_63 (hS : E.2.1 < E.1) (hlen : E.2.2.1 ≤ 3072) (hi : 0 ≤ i ∧ i + 6 ≤ (E.2.2.1 : Int))  (hI : lw_I ρ f s ν) (hI' : iv_I ρ' f') (hW : sw_w E d 63 (0, [some (2, 50)], []) s ν (cc_v s ν ρ' f' (0, r))) (hM : ∀ s' ν', ns_r s s' → (∀ p, p < 40 → ν' p = ν p) → sw_w E d 126 (0, [some (2, 0)], []) s' ν' (mr_d r ρ' s' ν')) (hK : ∀ s' ν' o5 o6 o7, ns_r s s' → lw_I ρ' f' s' ν' → sw_w E (d + 1) 140 (1122, [some (2, 9001), some (2, 50), some (2, 0), some (2, 40), some (0, i), o5, o6, o7], []) s' ν' Q) : sw_w E (d + 1) 140 (1109, [some (2, 9001), some (2, 50), some (2, 0), some (2, 40), some (0, i), o5, o6, o7], []) s ν Q := by
  obtain ⟨hs, h40, -, hR, -, -, -, -⟩ := hI
  refine sw_p 1 (f' := (1110, [some (2, 9001), some (2, 50), some (2, 0), some (2, 40), some (0, i), o5, o6, o7], [(2, 50)])) rfl ?_
  refine sw_cv (pn := 1113) (q0 := mj_Lw_law) (q := mj_PT_moved) (p := 50) (as2 := []) (L2 := [some (2, 50)]) (rest := []) rfl rfl rfl rfl rfl rfl rfl rfl rfl hR.sh.1 hW (fun v s1 ν1 hv => ?_) (fun _ _ _ h => nomatch h.1)
  have hv1 := hv.1
  cases hv1
  obtain ⟨-, n1, R1, u1, l1⟩ := hv
  have hs1 : mo_sh s1 := ns_sh n1 hs
  show sw_w E _ 140 (1113, [some (2, 9001), some (2, 50), some (2, 0), some (2, 40), some (0, i), o5, o6, o7], [(0, r)]) s1 ν1 _
  refine sw_p 1 (f' := (1114, [some (2, 9001), some (2, 50), some (2, 0), some (2, 40), some (0, i), o5, o6, o7], [(2, 0), (0, r)])) rfl ?_
  refine sw_cv (pn := 1117) (q0 := mj_Lw_law) (q := mj_Mo_moved) (p := 0) (as2 := []) (L2 := [some (2, 0)]) (rest := [(0, r)]) rfl rfl rfl rfl rfl rfl rfl rfl rfl hs1.1 (hM s1 ν1 n1 (fun p hp => l1 p (by omega))) (fun v s2 ν2 hv => ?_) (fun _ _ _ h => nomatch h.1)
  obtain ⟨hv1, hv2, rq, hi2, b29, b30⟩ := hv
  cases hv1
  subst hv2
  have hF : lw_I ρ' f' s2 ν2 := lw_mk hs h40 hI' n1 R1 u1 rq hi2 b29 b30
  show sw_w E _ 140 (1117, [some (2, 9001), some (2, 50), some (2, 0), some (2, 40), some (0, i), o5, o6, o7], [(0, r), (0, r)]) s2 ν2 _
  refine sw_eqs (pt := 1122) rfl rfl ?_
  exact hK _ _ _ _ _ n1 hF
end LW2
