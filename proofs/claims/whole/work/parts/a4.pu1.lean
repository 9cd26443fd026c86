/-! pull and work: class, relation, invariant -/
section PU
variable {E : mv_E} {s ν ν1 ρ ρ' ρ1 : mm_T} {f : Int → Int} {d : Nat} {a b c e i k l n o p r t u w x y z : Int} {Q : nm_O → mm_T → mm_T → Prop}
theorem rq_ls (h : rq_r ρ ρ') : rq_r (mo_ls ρ c w) (mo_ls ρ' c w) := by
  have e25 := h.1 25 (by decide)
  have e28 := h.1 28 (by decide)
  have q24 := h.2 24 (by decide)
  have e : mo_lsg ρ' c w = mo_lsg ρ c w := by
    funext t
    unfold mo_lsg
    rw [e25, e28]
  unfold mo_ls
  rw [e, q24]
  exact rq_rg h
theorem rq_pu (h : rq_r ρ ρ') : rq_r (mo_pu ρ c) (mo_pu ρ' c) := by
  have h2 : rq_r (mo_cd ρ 0) (mo_cd ρ' 0) := rq_u h
  unfold mo_pu
  rw [h.2 21 (by decide), h.2 22 (by decide)]
  split
  · exact rq_ch h2
  · exact h2
theorem pu_wt : mo_wt (mo_pu ρ c) c = mo_wt ρ c := by
  unfold mo_pu
  split
  · rw [← mo_wt_cd (ν := ρ) (c := c) (z := 0)]
    exact mo_wt_c (by rw [ch_ne (by omega)]) (ch_ne (by omega)) (ch_ne (by omega)) c
  · exact mo_wt_cd
theorem pu_0 (hi : i ≠ 0) : mo_pu ρ c 0 i = ρ 0 i := by
  unfold mo_pu
  split
  · rw [ch_ne (by omega)]
    exact mm_u_ne (by omega)
  · exact mm_u_ne (by omega)
theorem iv_pu0 (hI : iv_I ρ f) : iv_I (mo_pu ρ c) f := by
  unfold mo_pu
  split
  · exact iv_ch (iv_cd hI) (Or.inr ⟨rfl, rfl⟩)
  · exact iv_cd hI
theorem pu_15 (hI : iv_I ρ f) (hc : 0 ≤ c ∧ c < ρ 0 12) (h15 : ρ 15 c ≤ 3) : mo_pu ρ c 15 c ≤ 3 := by
  have e : mo_cd ρ 0 15 c = ρ 15 c := mm_u_ne (by omega)
  unfold mo_pu
  split
  · rw [ch_15 (by rw [show mo_cd ρ 0 0 12 = ρ 0 12 from mm_u_ne (by omega)]; exact hc), e]
    split <;> omega
  · rw [e]; exact h15
theorem ls_1r (h : ρ 19 c = 0) : ls_1 ρ ρ c 0 := ⟨fun _ _ _ _ => rfl, fun _ _ => rfl, fun _ _ => ⟨rfl, rfl⟩, Or.inl rfl, by rw [if_pos rfl]; exact h⟩
theorem iv_pu (hI : iv_I ρ f) (hc : 0 ≤ c ∧ c < ρ 0 12) (h15 : ρ 15 c ≤ 3) : iv_I (mo_ls (mo_rm (mo_pu ρ c) c 4) c (-1)) f := by
  have h1 := iv_pu0 (c := c) hI
  have hc1 : 0 ≤ c ∧ c < mo_pu ρ c 0 12 := by rw [pu_0 (by omega)]; exact hc
  have h2 := iv_rm (z := mo_pu ρ c 16 c) h1 hc1 (pu_15 hI hc h15) (y := 4) (Or.inl rfl)
  rw [mm_u_self] at h2
  exact iv_ls h2 (by rw [mo_rm_0 (by omega)]; exact hc1) (ls_1r (by rw [rm_19, if_pos rfl])) (Or.inl ⟨rfl, rfl⟩) h2.1.1
theorem pu_n (hI : iv_I ρ f) : sm_s (mo_lsn (mo_rm (mo_pu ρ c) c 4) c (-1)) (mo_rm (mo_pu ρ c) c 4 0 24).toNat = mo_wt ρ c := by
  have b24 := hI.1.1.2.2.2.2.2.1
  rw [ls_nv (ρ := mo_rm (mo_pu ρ c) c 4) (a := 0) (by rw [mo_rm_0 (by omega), pu_0 (by omega)]; omega) (ls_1r (by rw [rm_19, if_pos rfl])) (Or.inl ⟨rfl, rfl⟩), rm_wt, pu_wt]
  omega
theorem cl_pu_t (hA : iv_A ρ f) (h8 : iv_8 ρ) (hR : pt_R s ν ρ f) (hc : 0 ≤ c ∧ c < ρ 0 12) : sw_w E (d + 1) 70 (56, [some (2, 50), some (0, c), some (2, 300 + c)], []) s ν (sw_is (some (0, mo_wt ρ c - 0)) s (lf_e (to_m s ν ρ c 4) ρ c 0)) := by
  have b12 := hA.1.2.2.1
  have hcd := hA.1.cd c hc.1 (by omega)
  refine sw_p 2 (f' := (58, [some (2, 50), some (0, c), some (2, 300 + c)], [(0, 4), (2, 300 + c)])) rfl ?_
  refine sw_cv1 (pn := 61) (q0 := mj_PT_pull) (q := mj_Ca_takeOut) (p := 300 + c) (as2 := [(0, 4)]) (L2 := [some (2, 300 + c), some (0, 4)]) (rest := []) (v := none) (s1 := s) (ν1 := (to_m s ν ρ c 4)) rfl rfl rfl rfl rfl rfl rfl rfl rfl (hR.ca c (by omega) (by omega)).1 (cl_to hA hR hc) ?_
  show sw_w E _ 70 (61, [some (2, 50), some (0, c), some (2, 300 + c)], []) s (to_m s ν ρ c 4) _
  refine sw_p 2 (f' := (63, [some (2, 50), some (0, c), some (2, 300 + c)], [(0, 0), (2, 300 + c)])) rfl ?_
  refine sw_cv1 (pn := 66) (q0 := mj_PT_pull) (q := mj_Ca_loseFrom) (p := 300 + c) (as2 := [(0, 0)]) (L2 := [some (2, 300 + c), some (0, 0), none, none]) (rest := []) (v := some (0, mo_wt ρ c - 0)) (s1 := s) (ν1 := (lf_e (to_m s ν ρ c 4) ρ c 0)) rfl rfl rfl rfl rfl rfl rfl rfl rfl (hR.ca c (by omega) (by omega)).1 (cl_lf (ν0 := ν) hA h8 hR hc (fun i => (mm_u_ne (by omega)).trans (mm_u_ne (by omega))) (((mm_u_ne (by omega)).trans (mm_u_ne (by omega))).trans (hR.cn c hc.1 hc.2).2.2.2.2.1) (by omega)) ?_
  show sw_w E _ 70 (66, [some (2, 50), some (0, c), some (2, 300 + c)], [(0, mo_wt ρ c - 0)]) s (lf_e (to_m s ν ρ c 4) ρ c 0) _
  exact sw_retI rfl rfl rfl ⟨rfl, rfl, rfl⟩
theorem pu_lo (hA : iv_A ρ f) (hc : 0 ≤ c ∧ c < ρ 0 12) : lo_r ν (lf_e (to_m s ν ρ c 4) ρ c 0) := by
  have b12 := hA.1.2.2.1
  have hcd := hA.1.cd c hc.1 (by omega)
  exact lo_tr (to_lo (by omega) hc.1) (lfe_lo hc.1)
theorem cl_pu (hI : iv_I ρ f) (hR : pt_R s ν ρ f) (hc : 0 ≤ c ∧ c < ρ 0 12) (h15 : ρ 15 c ≤ 3) : sw_w E (d + 2) 70 (0, [some (2, 50), some (0, c), none], []) s ν (sw_vr (fun v ν' => v = some (0, sm_s (mo_lsn (mo_rm (mo_pu ρ c) c 4) c (-1)) (mo_rm (mo_pu ρ c) c 4 0 24).toNat) ∧ pt_R s ν' (mo_ls (mo_rm (mo_pu ρ c) c 4) c (-1)) f ∧ lo_r ν ν') s) := by
  have b12 := hI.1.1.2.2.1
  have b21 := hI.1.1.2.2.2.1
  have b22 := hI.1.1.2.2.2.2.1
  have hcd := hI.1.1.cd c hc.1 (by omega)
  rw [pu_n hI]
  obtain ⟨hA, hU, h8, hI2⟩ := id hI
  by_cases hcm : ρ 0 21 = c
  · have hAf := iv_A_fo hA
    have hRf := R_fo hA hR
    have hz21 : mm_u ρ 0 21 (-1) 0 21 = -1 := mm_u_at
    have hz12 : mm_u ρ 0 21 (-1) 0 12 = ρ 0 12 := mm_u_ne (by omega)
    have hzw : mo_wt (mm_u ρ 0 21 (-1)) c = mo_wt ρ c := mo_wt_c (mm_u_ne (by omega)) (by funext i; exact mm_u_ne (by omega)) (by funext i; exact mm_u_ne (by omega)) c
    have h8f : iv_8 (mm_u ρ 0 21 (-1)) := fun c2 c0 c1 => by
      rw [hz12] at c1
      rw [mo_wt_c (ρ := ρ) (mm_u_ne (by omega)) (by funext i; exact mm_u_ne (by omega)) (by funext i; exact mm_u_ne (by omega)) c2]
      exact h8 c2 c0 c1
    have hUf : iv_U (mm_u ρ 0 21 (-1)) := by
      unfold iv_U
      rw [show mm_u ρ 0 21 (-1) 2 = ρ 2 from by funext i; exact mm_u_ne (by omega)]
      exact hU
    by_cases h22 : ρ 0 22 = 0
    · skip
      refine sw_p 2 (f' := (2, [some (2, 50), some (0, c), none], [(0, c), (2, 50)])) rfl ?_
      refine sw_cv1 (pn := 5) (q0 := mj_PT_pull) (q := mj_PT_cardNumbered) (p := 50) (as2 := [(0, c)]) (L2 := [some (2, 50), some (0, c)]) (rest := []) (v := some (2, 300 + c)) (s1 := s) (ν1 := ν) rfl rfl rfl rfl rfl rfl rfl rfl rfl hR.sh.1 (cl_cN1 hI.1 hR hc) ?_
      show sw_w E _ 70 (5, [some (2, 50), some (0, c), none], [(2, 300 + c)]) s ν _
      refine sw_p 2 (f' := (7, [some (2, 50), some (0, c), some (2, 300 + c)], [(2, 300 + c)])) rfl ?_
      refine sw_gI (pn := 10) (i := 6) rfl rfl rfl rfl rfl (by omega) (hR.ca c (by omega) (by omega)).1 ?_
      rw [show ν (300 + c) 6 = ρ 15 c from (hR.cn c (by omega) (by omega)).2.2.1]
      refine sw_p 1 (f' := (11, [some (2, 50), some (0, c), some (2, 300 + c)], [(0, 4), (0, ρ 15 c)])) rfl ?_
      refine sw_eq2 (pt := 22) (pn := 14) rfl rfl rfl (by omega) (by omega) (fun h => absurd h (by omega)) (fun m1 => ?_)
      refine sw_p 1 (f' := (15, [some (2, 50), some (0, c), some (2, 300 + c)], [(2, 300 + c)])) rfl ?_
      refine sw_gI (pn := 18) (i := 6) rfl rfl rfl rfl rfl (by omega) (hR.ca c (by omega) (by omega)).1 ?_
      rw [show ν (300 + c) 6 = ρ 15 c from (hR.cn c (by omega) (by omega)).2.2.1]
      refine sw_p 1 (f' := (19, [some (2, 50), some (0, c), some (2, 300 + c)], [(0, 5), (0, ρ 15 c)])) rfl ?_
      refine sw_ne2 (pt := 30) (pn := 22) rfl rfl rfl (by omega) (by omega) (fun m2 => ?_) (fun h => absurd h (by omega))
      refine sw_p 2 (f' := (32, [some (2, 50), some (0, c), some (2, 300 + c)], [(2, 50), (2, 300 + c)])) rfl ?_
      refine sw_gA (pn := 35) (i := 11) rfl rfl rfl rfl rfl (by omega) hR.sh.1 (fun _ => ?_) (fun h => absurd h (by rw [show ν 50 11 = 300 + ρ 0 21 from ((hR.z.2.2.2.1).trans (if_neg (by omega)))]; omega))
      rw [show ν 50 11 = 300 + ρ 0 21 from ((hR.z.2.2.2.1).trans (if_neg (by omega)))]
      refine sw_acn (pt := 56) (pn := 38) rfl rfl rfl (by rw [(hR.ca c (by omega) (by omega)).1]; omega) (by rw [(hR.ca (ρ 0 21) (by omega) (by omega)).1]; omega) (fun h => absurd h (by omega)) (fun m3 => ?_)
      refine sw_p 2 (f' := (40, [some (2, 50), some (0, c), some (2, 300 + c)], [(3, 0), (2, 50)])) rfl ?_
      refine sw_pN (pn := 43) (i := 11) rfl rfl rfl rfl rfl (by omega) hR.sh.1 ?_
      refine sw_p 1 (f' := (44, [some (2, 50), some (0, c), some (2, 300 + c)], [(2, 50)])) rfl ?_
      refine sw_gI (pn := 47) (i := 12) rfl rfl rfl rfl rfl (by omega) hR.sh.1 ?_
      rw [show (mm_u ν 50 11 (-1)) 50 12 = ρ 0 22 from (mm_u_ne (by omega)).trans (hR.z.2.2.2.2.1)]
      refine sw_eq1 (pt := 56) (pn := 50) rfl rfl rfl (by omega) (fun m4 => ?_) (fun h => absurd h (by omega))
      refine sw_mono (cl_pu_t (d := d + 1) hAf h8f hRf ⟨hc.1, by rw [hz12]; exact hc.2⟩) ?_
      intro o s2 ν2 ⟨e1, e2, e3⟩
      refine ⟨_, e1, e2, by rw [hzw, Int.sub_zero], ?_, by rw [e3]; exact lo_tr (lo_u (by omega)) (pu_lo hAf ⟨hc.1, by rw [hz12]; exact hc.2⟩)⟩
      rw [e3]
      have h := R_pu hAf hUf h8f hRf ⟨hc.1, by rw [hz12]; exact hc.2⟩ (by rw [mm_u_ne (by omega)]; exact h15) (by rw [hz21]; omega)
      rw [pu_eq (Y := ρ) (fun p i hp => mm_u_ne (by omega)) (Or.inl ⟨hz21, hcm⟩) hc.1] at h
      refine R_rq (rq_ls (rq_rm ?_)) h
      unfold mo_pu
      rw [if_neg (fun h => h.2 h22)]
      exact rq_cd rq_rfl
    · have hAc : iv_A (mo_ch (mm_u ρ 0 21 (-1)) 2 1) f := by
        have hC := iv_ch (x := 2) (y := 1) hI (Or.inr ⟨rfl, rfl⟩)
        have e : mo_ch (mm_u ρ 0 21 (-1)) 2 1 = mm_u (mo_ch ρ 2 1) 0 21 (-1) := by
          funext p i
          by_cases hp : p = 15
          · rw [hp, mm_u_ne (by omega)]
            unfold mo_ch rg_m
            rw [hz12, show mm_u ρ 0 21 (-1) 15 = ρ 15 from by funext j; exact mm_u_ne (by omega)]
          · rw [ch_ne hp]
            unfold mm_u
            rw [ch_ne hp]
        rw [e]
        exact iv_A_fo hC.1
      have hRc := R_ch hAf h8f hRf (x := 2) (y := 1) (Or.inr ⟨rfl, rfl⟩)
      have hc0 : ∀ i, mo_ch (mm_u ρ 0 21 (-1)) 2 1 0 i = mm_u ρ 0 21 (-1) 0 i := fun i => by rw [ch_ne (by omega)]
      have hcw : ∀ c2, mo_wt (mo_ch (mm_u ρ 0 21 (-1)) 2 1) c2 = mo_wt (mm_u ρ 0 21 (-1)) c2 := fun c2 => mo_wt_c (by rw [ch_ne (by omega)]) (ch_ne (by omega)) (ch_ne (by omega)) c2
      have h8c : iv_8 (mo_ch (mm_u ρ 0 21 (-1)) 2 1) := fun c2 c0 c1 => by
        rw [hc0] at c1
        rw [hcw]
        exact h8f c2 c0 c1
      have hUc : iv_U (mo_ch (mm_u ρ 0 21 (-1)) 2 1) := by
        unfold iv_U
        rw [ch_ne (by omega)]
        exact hUf
      have hst0 := hI.2.2.2.2.2.2.2.2.1.1 (by omega)
      rw [hcm] at hst0
      have hcc : 0 ≤ c ∧ c < mo_ch (mm_u ρ 0 21 (-1)) 2 1 0 12 := by rw [hc0, hz12]; exact hc
      have hc15 : mo_ch (mm_u ρ 0 21 (-1)) 2 1 15 c ≤ 3 := by
        rw [ch_15 (by rw [hz12]; exact hc), mm_u_ne (by omega), if_neg (by omega)]
        omega
      have hlo1 : lo_r ν (mm_u ν 50 11 (-1)) := lo_u (by omega)
      have hlo : lo_r ν (ta_m (mm_u ν 50 11 (-1)) (mm_u ρ 0 21 (-1)) 2 1 (mm_u ρ 0 21 (-1) 0 12)) := lo_tr hlo1 (fun p hp => by funext i; exact ta_ne (by omega))
      have hXY : ∀ p i, ¬ (p = 0 ∧ i = 21) → mo_ch (mm_u ρ 0 21 (-1)) 2 1 p i = mo_ch ρ 2 1 p i := fun p i hp => by
        by_cases h15p : p = 15
        · rw [h15p]
          unfold mo_ch rg_m
          rw [hz12, show mm_u ρ 0 21 (-1) 15 = ρ 15 from by funext j; exact mm_u_ne (by omega)]
        · rw [ch_ne h15p, ch_ne h15p]
          exact mm_u_ne (by omega)
      refine sw_p 2 (f' := (2, [some (2, 50), some (0, c), none], [(0, c), (2, 50)])) rfl ?_
      refine sw_cv1 (pn := 5) (q0 := mj_PT_pull) (q := mj_PT_cardNumbered) (p := 50) (as2 := [(0, c)]) (L2 := [some (2, 50), some (0, c)]) (rest := []) (v := some (2, 300 + c)) (s1 := s) (ν1 := ν) rfl rfl rfl rfl rfl rfl rfl rfl rfl hR.sh.1 (cl_cN1 hI.1 hR hc) ?_
      show sw_w E _ 70 (5, [some (2, 50), some (0, c), none], [(2, 300 + c)]) s ν _
      refine sw_p 2 (f' := (7, [some (2, 50), some (0, c), some (2, 300 + c)], [(2, 300 + c)])) rfl ?_
      refine sw_gI (pn := 10) (i := 6) rfl rfl rfl rfl rfl (by omega) (hR.ca c (by omega) (by omega)).1 ?_
      rw [show ν (300 + c) 6 = ρ 15 c from (hR.cn c (by omega) (by omega)).2.2.1]
      refine sw_p 1 (f' := (11, [some (2, 50), some (0, c), some (2, 300 + c)], [(0, 4), (0, ρ 15 c)])) rfl ?_
      refine sw_eq2 (pt := 22) (pn := 14) rfl rfl rfl (by omega) (by omega) (fun h => absurd h (by omega)) (fun m1 => ?_)
      refine sw_p 1 (f' := (15, [some (2, 50), some (0, c), some (2, 300 + c)], [(2, 300 + c)])) rfl ?_
      refine sw_gI (pn := 18) (i := 6) rfl rfl rfl rfl rfl (by omega) (hR.ca c (by omega) (by omega)).1 ?_
      rw [show ν (300 + c) 6 = ρ 15 c from (hR.cn c (by omega) (by omega)).2.2.1]
      refine sw_p 1 (f' := (19, [some (2, 50), some (0, c), some (2, 300 + c)], [(0, 5), (0, ρ 15 c)])) rfl ?_
      refine sw_ne2 (pt := 30) (pn := 22) rfl rfl rfl (by omega) (by omega) (fun m2 => ?_) (fun h => absurd h (by omega))
      refine sw_p 2 (f' := (32, [some (2, 50), some (0, c), some (2, 300 + c)], [(2, 50), (2, 300 + c)])) rfl ?_
      refine sw_gA (pn := 35) (i := 11) rfl rfl rfl rfl rfl (by omega) hR.sh.1 (fun _ => ?_) (fun h => absurd h (by rw [show ν 50 11 = 300 + ρ 0 21 from ((hR.z.2.2.2.1).trans (if_neg (by omega)))]; omega))
      rw [show ν 50 11 = 300 + ρ 0 21 from ((hR.z.2.2.2.1).trans (if_neg (by omega)))]
      refine sw_acn (pt := 56) (pn := 38) rfl rfl rfl (by rw [(hR.ca c (by omega) (by omega)).1]; omega) (by rw [(hR.ca (ρ 0 21) (by omega) (by omega)).1]; omega) (fun h => absurd h (by omega)) (fun m3 => ?_)
      refine sw_p 2 (f' := (40, [some (2, 50), some (0, c), some (2, 300 + c)], [(3, 0), (2, 50)])) rfl ?_
      refine sw_pN (pn := 43) (i := 11) rfl rfl rfl rfl rfl (by omega) hR.sh.1 ?_
      refine sw_p 1 (f' := (44, [some (2, 50), some (0, c), some (2, 300 + c)], [(2, 50)])) rfl ?_
      refine sw_gI (pn := 47) (i := 12) rfl rfl rfl rfl rfl (by omega) hR.sh.1 ?_
      rw [show (mm_u ν 50 11 (-1)) 50 12 = ρ 0 22 from (mm_u_ne (by omega)).trans (hR.z.2.2.2.2.1)]
      refine sw_eq1 (pt := 56) (pn := 50) rfl rfl rfl (by omega) (fun h => absurd h (by omega)) (fun m4 => ?_)
      refine sw_p 3 (f' := (53, [some (2, 50), some (0, c), some (2, 300 + c)], [(0, 1), (0, 2), (2, 50)])) rfl ?_
      refine sw_cv1 (pn := 56) (q0 := mj_PT_pull) (q := mj_PT_turnAll) (p := 50) (as2 := [(0, 2), (0, 1)]) (L2 := [some (2, 50), some (0, 2), some (0, 1), none]) (rest := []) (v := none) (s1 := s) (ν1 := (ta_m (mm_u ν 50 11 (-1)) (mm_u ρ 0 21 (-1)) 2 1 (mm_u ρ 0 21 (-1) 0 12))) rfl rfl rfl rfl rfl rfl rfl rfl rfl hR.sh.1 (cl_ta hAf hRf (by omega)) ?_
      show sw_w E _ 70 (56, [some (2, 50), some (0, c), some (2, 300 + c)], []) s (ta_m (mm_u ν 50 11 (-1)) (mm_u ρ 0 21 (-1)) 2 1 (mm_u ρ 0 21 (-1) 0 12)) _
      refine sw_mono (cl_pu_t (d := d + 1) hAc h8c hRc hcc) ?_
      intro o s2 ν2 ⟨e1, e2, e3⟩
      refine ⟨_, e1, e2, by rw [hcw, hzw, Int.sub_zero], ?_, by rw [e3]; exact lo_tr hlo (pu_lo hAc hcc)⟩
      rw [e3]
      have h := R_pu hAc hUc h8c hRc hcc hc15 (by rw [hc0, hz21]; omega)
      rw [pu_eq (Y := mo_ch ρ 2 1) hXY (Or.inl ⟨by rw [hc0, hz21], by rw [ch_ne (by omega)]; exact hcm⟩) hc.1] at h
      refine R_rq (rq_ls (rq_rm ?_)) h
      unfold mo_pu
      rw [if_pos ⟨hcm.symm, h22⟩]
      exact rq_ch (rq_cd rq_rfl)
  · by_cases h21 : ρ 0 21 < 0
    · skip
      refine sw_p 2 (f' := (2, [some (2, 50), some (0, c), none], [(0, c), (2, 50)])) rfl ?_
      refine sw_cv1 (pn := 5) (q0 := mj_PT_pull) (q := mj_PT_cardNumbered) (p := 50) (as2 := [(0, c)]) (L2 := [some (2, 50), some (0, c)]) (rest := []) (v := some (2, 300 + c)) (s1 := s) (ν1 := ν) rfl rfl rfl rfl rfl rfl rfl rfl rfl hR.sh.1 (cl_cN1 hI.1 hR hc) ?_
      show sw_w E _ 70 (5, [some (2, 50), some (0, c), none], [(2, 300 + c)]) s ν _
      refine sw_p 2 (f' := (7, [some (2, 50), some (0, c), some (2, 300 + c)], [(2, 300 + c)])) rfl ?_
      refine sw_gI (pn := 10) (i := 6) rfl rfl rfl rfl rfl (by omega) (hR.ca c (by omega) (by omega)).1 ?_
      rw [show ν (300 + c) 6 = ρ 15 c from (hR.cn c (by omega) (by omega)).2.2.1]
      refine sw_p 1 (f' := (11, [some (2, 50), some (0, c), some (2, 300 + c)], [(0, 4), (0, ρ 15 c)])) rfl ?_
      refine sw_eq2 (pt := 22) (pn := 14) rfl rfl rfl (by omega) (by omega) (fun h => absurd h (by omega)) (fun m1 => ?_)
      refine sw_p 1 (f' := (15, [some (2, 50), some (0, c), some (2, 300 + c)], [(2, 300 + c)])) rfl ?_
      refine sw_gI (pn := 18) (i := 6) rfl rfl rfl rfl rfl (by omega) (hR.ca c (by omega) (by omega)).1 ?_
      rw [show ν (300 + c) 6 = ρ 15 c from (hR.cn c (by omega) (by omega)).2.2.1]
      refine sw_p 1 (f' := (19, [some (2, 50), some (0, c), some (2, 300 + c)], [(0, 5), (0, ρ 15 c)])) rfl ?_
      refine sw_ne2 (pt := 30) (pn := 22) rfl rfl rfl (by omega) (by omega) (fun m2 => ?_) (fun h => absurd h (by omega))
      refine sw_p 2 (f' := (32, [some (2, 50), some (0, c), some (2, 300 + c)], [(2, 50), (2, 300 + c)])) rfl ?_
      refine sw_gA (pn := 35) (i := 11) rfl rfl rfl rfl rfl (by omega) hR.sh.1 (fun h => absurd h (by rw [show ν 50 11 = -1 from ((hR.z.2.2.2.1).trans (if_pos (by omega)))]; omega)) (fun _ => ?_)
      refine sw_acn0 (pt := 56) (pn := 38) rfl rfl rfl ?_
      refine sw_mono (cl_pu_t (d := d + 1) hA h8 hR hc) ?_
      intro o s2 ν2 ⟨e1, e2, e3⟩
      refine ⟨_, e1, e2, by rw [Int.sub_zero], ?_, by rw [e3]; exact (pu_lo hA hc)⟩
      rw [e3]
      have h := R_pu hA hU h8 hR hc h15 hcm
      rw [pu_eq (Y := ρ) (fun p i hp => rfl) (Or.inr rfl) hc.1] at h
      refine R_rq (rq_ls (rq_rm ?_)) h
      unfold mo_pu
      rw [if_neg (fun h => hcm h.1.symm)]
      exact rq_cd rq_rfl
    · skip
      refine sw_p 2 (f' := (2, [some (2, 50), some (0, c), none], [(0, c), (2, 50)])) rfl ?_
      refine sw_cv1 (pn := 5) (q0 := mj_PT_pull) (q := mj_PT_cardNumbered) (p := 50) (as2 := [(0, c)]) (L2 := [some (2, 50), some (0, c)]) (rest := []) (v := some (2, 300 + c)) (s1 := s) (ν1 := ν) rfl rfl rfl rfl rfl rfl rfl rfl rfl hR.sh.1 (cl_cN1 hI.1 hR hc) ?_
      show sw_w E _ 70 (5, [some (2, 50), some (0, c), none], [(2, 300 + c)]) s ν _
      refine sw_p 2 (f' := (7, [some (2, 50), some (0, c), some (2, 300 + c)], [(2, 300 + c)])) rfl ?_
      refine sw_gI (pn := 10) (i := 6) rfl rfl rfl rfl rfl (by omega) (hR.ca c (by omega) (by omega)).1 ?_
      rw [show ν (300 + c) 6 = ρ 15 c from (hR.cn c (by omega) (by omega)).2.2.1]
      refine sw_p 1 (f' := (11, [some (2, 50), some (0, c), some (2, 300 + c)], [(0, 4), (0, ρ 15 c)])) rfl ?_
      refine sw_eq2 (pt := 22) (pn := 14) rfl rfl rfl (by omega) (by omega) (fun h => absurd h (by omega)) (fun m1 => ?_)
      refine sw_p 1 (f' := (15, [some (2, 50), some (0, c), some (2, 300 + c)], [(2, 300 + c)])) rfl ?_
      refine sw_gI (pn := 18) (i := 6) rfl rfl rfl rfl rfl (by omega) (hR.ca c (by omega) (by omega)).1 ?_
      rw [show ν (300 + c) 6 = ρ 15 c from (hR.cn c (by omega) (by omega)).2.2.1]
      refine sw_p 1 (f' := (19, [some (2, 50), some (0, c), some (2, 300 + c)], [(0, 5), (0, ρ 15 c)])) rfl ?_
      refine sw_ne2 (pt := 30) (pn := 22) rfl rfl rfl (by omega) (by omega) (fun m2 => ?_) (fun h => absurd h (by omega))
      refine sw_p 2 (f' := (32, [some (2, 50), some (0, c), some (2, 300 + c)], [(2, 50), (2, 300 + c)])) rfl ?_
      refine sw_gA (pn := 35) (i := 11) rfl rfl rfl rfl rfl (by omega) hR.sh.1 (fun _ => ?_) (fun h => absurd h (by rw [show ν 50 11 = 300 + ρ 0 21 from ((hR.z.2.2.2.1).trans (if_neg (by omega)))]; omega))
      rw [show ν 50 11 = 300 + ρ 0 21 from ((hR.z.2.2.2.1).trans (if_neg (by omega)))]
      refine sw_acn (pt := 56) (pn := 38) rfl rfl rfl (by rw [(hR.ca c (by omega) (by omega)).1]; omega) (by rw [(hR.ca (ρ 0 21) (by omega) (by omega)).1]; omega) (fun m3 => ?_) (fun h => absurd h (by omega))
      refine sw_mono (cl_pu_t (d := d + 1) hA h8 hR hc) ?_
      intro o s2 ν2 ⟨e1, e2, e3⟩
      refine ⟨_, e1, e2, by rw [Int.sub_zero], ?_, by rw [e3]; exact (pu_lo hA hc)⟩
      rw [e3]
      have h := R_pu hA hU h8 hR hc h15 hcm
      rw [pu_eq (Y := ρ) (fun p i hp => rfl) (Or.inr rfl) hc.1] at h
      refine R_rq (rq_ls (rq_rm ?_)) h
      unfold mo_pu
      rw [if_neg (fun h => hcm h.1.symm)]
      exact rq_cd rq_rfl
theorem cl_pu_s1 (hI : iv_I ρ f) (hR : pt_R s ν ρ f) (hc : 0 ≤ c ∧ c < ρ 0 12) (h15 : ρ 15 c = 4) (hd : 5 ≤ d) : sw_w E (d + 2) 70 (0, [some (2, 50), some (0, c), none], []) s ν (sw_ex 9 s ν) := by
  have b12 := hI.1.1.2.2.1
  have b21 := hI.1.1.2.2.2.1
  have b22 := hI.1.1.2.2.2.2.1
  have hcd := hI.1.1.cd c hc.1 (by omega)
  refine sw_p 2 (f' := (2, [some (2, 50), some (0, c), none], [(0, c), (2, 50)])) rfl ?_
  refine sw_cv1 (pn := 5) (q0 := mj_PT_pull) (q := mj_PT_cardNumbered) (p := 50) (as2 := [(0, c)]) (L2 := [some (2, 50), some (0, c)]) (rest := []) (v := some (2, 300 + c)) (s1 := s) (ν1 := ν) rfl rfl rfl rfl rfl rfl rfl rfl rfl hR.sh.1 (cl_cN1 hI.1 hR hc) ?_
  show sw_w E _ 70 (5, [some (2, 50), some (0, c), none], [(2, 300 + c)]) s ν _
  refine sw_p 2 (f' := (7, [some (2, 50), some (0, c), some (2, 300 + c)], [(2, 300 + c)])) rfl ?_
  refine sw_gI (pn := 10) (i := 6) rfl rfl rfl rfl rfl (by omega) (hR.ca c (by omega) (by omega)).1 ?_
  rw [show ν (300 + c) 6 = ρ 15 c from (hR.cn c (by omega) (by omega)).2.2.1]
  refine sw_p 1 (f' := (11, [some (2, 50), some (0, c), some (2, 300 + c)], [(0, 4), (0, ρ 15 c)])) rfl ?_
  refine sw_eq2 (pt := 22) (pn := 14) rfl rfl rfl (by omega) (by omega) (fun m1 => ?_) (fun h => absurd h (by omega))
  exact sw_thr rfl rfl rfl rfl rfl (by omega) ⟨rfl, rfl, rfl⟩
theorem cl_pu_s2 (hI : iv_I ρ f) (hR : pt_R s ν ρ f) (hc : 0 ≤ c ∧ c < ρ 0 12) (h15 : ρ 15 c = 5) (hd : 5 ≤ d) : sw_w E (d + 2) 70 (0, [some (2, 50), some (0, c), none], []) s ν (sw_ex 9 s ν) := by
  have b12 := hI.1.1.2.2.1
  have b21 := hI.1.1.2.2.2.1
  have b22 := hI.1.1.2.2.2.2.1
  have hcd := hI.1.1.cd c hc.1 (by omega)
  refine sw_p 2 (f' := (2, [some (2, 50), some (0, c), none], [(0, c), (2, 50)])) rfl ?_
  refine sw_cv1 (pn := 5) (q0 := mj_PT_pull) (q := mj_PT_cardNumbered) (p := 50) (as2 := [(0, c)]) (L2 := [some (2, 50), some (0, c)]) (rest := []) (v := some (2, 300 + c)) (s1 := s) (ν1 := ν) rfl rfl rfl rfl rfl rfl rfl rfl rfl hR.sh.1 (cl_cN1 hI.1 hR hc) ?_
  show sw_w E _ 70 (5, [some (2, 50), some (0, c), none], [(2, 300 + c)]) s ν _
  refine sw_p 2 (f' := (7, [some (2, 50), some (0, c), some (2, 300 + c)], [(2, 300 + c)])) rfl ?_
  refine sw_gI (pn := 10) (i := 6) rfl rfl rfl rfl rfl (by omega) (hR.ca c (by omega) (by omega)).1 ?_
  rw [show ν (300 + c) 6 = ρ 15 c from (hR.cn c (by omega) (by omega)).2.2.1]
  refine sw_p 1 (f' := (11, [some (2, 50), some (0, c), some (2, 300 + c)], [(0, 4), (0, ρ 15 c)])) rfl ?_
  refine sw_eq2 (pt := 22) (pn := 14) rfl rfl rfl (by omega) (by omega) (fun h => absurd h (by omega)) (fun m1 => ?_)
  refine sw_p 1 (f' := (15, [some (2, 50), some (0, c), some (2, 300 + c)], [(2, 300 + c)])) rfl ?_
  refine sw_gI (pn := 18) (i := 6) rfl rfl rfl rfl rfl (by omega) (hR.ca c (by omega) (by omega)).1 ?_
  rw [show ν (300 + c) 6 = ρ 15 c from (hR.cn c (by omega) (by omega)).2.2.1]
  refine sw_p 1 (f' := (19, [some (2, 50), some (0, c), some (2, 300 + c)], [(0, 5), (0, ρ 15 c)])) rfl ?_
  refine sw_ne2 (pt := 30) (pn := 22) rfl rfl rfl (by omega) (by omega) (fun h => absurd h (by omega)) (fun m2 => ?_)
  exact sw_thr rfl rfl rfl rfl rfl (by omega) ⟨rfl, rfl, rfl⟩
theorem cl_pu_b (hI : iv_I ρ f) (hR : pt_R s ν ρ f) (hc : -2147483648 ≤ c ∧ c < 2147483648) (h : ¬ (0 ≤ c ∧ c < ρ 0 12)) (hd : 5 ≤ d) : sw_w E (d + 2) 70 (0, [some (2, 50), some (0, c), none], []) s ν (sw_ex 8 s ν) := by
  refine sw_p 2 (f' := (2, [some (2, 50), some (0, c), none], [(0, c), (2, 50)])) rfl ?_
  exact sw_cv (pn := 5) (q0 := mj_PT_pull) (q := mj_PT_cardNumbered) (p := 50) (as2 := [(0, c)]) (L2 := [some (2, 50), some (0, c)]) (rest := []) (Q2 := (sw_ex 8 s ν)) rfl rfl rfl rfl rfl rfl rfl rfl rfl hR.sh.1 (cl_cN0 hI.1 hR hc hd h) (fun _ _ _ h => nomatch h.1) (fun _ _ _ h => h)
theorem cl_wk_b (hI : iv_I ρ f) (hR : pt_R s ν ρ f) (hc : -2147483648 ≤ c ∧ c < 2147483648) (h : ¬ (0 ≤ c ∧ c < ρ 0 12)) (hd : 5 ≤ d) : sw_w E (d + 2) 74 (0, [some (2, 50), some (0, c)], []) s ν (sw_ex 8 s ν) := by
  refine sw_p 2 (f' := (2, [some (2, 50), some (0, c)], [(0, c), (2, 50)])) rfl ?_
  exact sw_cv (pn := 5) (q0 := mj_PT_work) (q := mj_PT_cardNumbered) (p := 50) (as2 := [(0, c)]) (L2 := [some (2, 50), some (0, c)]) (rest := []) (Q2 := (sw_ex 8 s ν)) rfl rfl rfl rfl rfl rfl rfl rfl rfl hR.sh.1 (cl_cN0 hI.1 hR hc hd h) (fun _ _ _ h => nomatch h.1) (fun _ _ _ h => h)
end PU
