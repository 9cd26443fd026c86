/-! the class: step -/
section SP
variable {E : mv_E} {s ν ν1 ρ : mm_T} {f : Int → Int} {d : Nat} {a b c e i k l n o p r t u w x y z : Int} {q : Int → Int} {Q : nm_O → mm_T → mm_T → Prop}
theorem lk_rg (hI : iv_I ρ f) (hR : pt_R s ν1 ρ f) (hF : pv_F (mo_me (ρ 0 1).toNat ρ) f (pv_T ρ)) (hc : 0 ≤ c ∧ c < ρ 0 12) (hk : 0 ≤ k ∧ k < 3) (hs : ρ 15 c ≤ 3) (hz : 0 < ρ 9 (3 * ρ 13 c + k)) : (ly_l (mo_me (ρ 0 1).toNat ρ) (ρ 0 1).toNat 0 (ly_0 ν1 (ρ 0 1))).1 c k = (pv_T ρ).1 (3 * c + k) := by
  obtain ⟨y2, hL⟩ := lk_end hI hR hF
  have hf := me_fr (ρ 0 1).toNat ρ
  have e2 := hf 2 (by decide)
  obtain ⟨i, i0, i1, i2, i3, i4⟩ := pv_c hI hc hs
  have hit : it_s (mo_me (ρ 0 1).toNat ρ) i k = ρ 9 (3 * ρ 13 c + k) := by
    rw [it_c (by rw [e2]; omega), e2, hf 9 (by decide), hf 13 (by decide), i2, show 100 + c - 100 = c by omega]
  have := (hL.2.1 i k i0 i1 hk.1 hk.2 (by rw [e2]; omega)).1 ⟨by rw [hit]; exact hz, Or.inl (by omega)⟩
  rw [e2, i2, show 100 + c - 100 = c by omega] at this
  exact this
theorem iv_A_mvr (hI : iv_I ρ f) (hcm : 0 ≤ ρ 0 21) (hF : pv_F (mo_me (ρ 0 1).toNat ρ) f (pv_T ρ)) : iv_A (mv_r ρ) f := by
  have h := (iv_mv hI hcm hF).1
  have hB1 : mo_B (mo_pn ρ) := mo_B_fr (fr_w pn_fr (by decide)) hI.1.1
  have n12 := hB1.2.2.1
  have e0 : ∀ i, i ≠ 23 → mv_r ρ 0 i = ρ 0 i := fun i hi => mvr_n (by omega) (by omega) (by omega)
  refine ⟨mo_B_ma hB1 (ma_l_b (pv_maq hI hF) _ 0 _ (by omega) (by omega) hB1.2.2.2.2.2.2.2.2.2.2.2.2.1), mo_C_fr (mve_p (by omega)).symm (mve_p (by omega)).symm (mve_p (by omega)).symm (mve_p (by omega)).symm (mve_p (by omega)).symm (mve_p (by omega)).symm h.2.1, tr_fr (e0 1 (by omega)) (mvr_r (by omega) (by omega)) (mvr_r (by omega) (by omega)) hI.1.2.2.1, by unfold mo_p2s; rw [mvr_r (by omega) (by omega)]; exact hI.1.2.2.2.1, by rw [mvr_r (by omega) (by omega)]; exact hI.1.2.2.2.2.1, ?_⟩
  have hk := hI.1.2.2.2.2.2
  unfold iv_K at hk ⊢
  rw [e0 12 (by omega), e0 1 (by omega), e0 8 (by omega), mvr_r (p := 14) (by omega) (by omega), mvr_r (p := 13) (by omega) (by omega), mvr_r (p := 2) (by omega) (by omega), mvr_r (p := 15) (by omega) (by omega)]
  exact hk
theorem R_mvA (hI : iv_I ρ f) (hR : pt_R s ν ρ f) (hcm : 0 ≤ ρ 0 21) (hF : pv_F (mo_me (ρ 0 1).toNat ρ) f (pv_T ρ)) (hN : mb_N ν ρ ν1) : pt_R s (mm_u (mm_u (ta_m (ly_m ν1 (ly_l (mo_me (ρ 0 1).toNat ρ) (ρ 0 1).toNat 0 (ly_0 ν1 (ρ 0 1)))) (mv_r ρ) 2 1 (mv_r ρ 0 12)) (300 + ρ 0 21) 6 1) 50 11 (-1)) (ma_e (mo_pn ρ)) f := by
  have b21 := hI.1.1.2.2.2.1
  have b12 := hI.1.1.2.2.1
  have hA2 := iv_A_mvr hI hcm hF
  have e0 : ∀ i, i ≠ 23 → mv_r ρ 0 i = ρ 0 i := fun i hi => mvr_n (by omega) (by omega) (by omega)
  have h82 : iv_8 (mv_r ρ) := fun c2 c0 c1 => by
    rw [e0 12 (by omega)] at c1
    rw [mo_wt_c (e0 24 (by omega)) (mvr_r (by omega) (by omega)) (mvr_r (by omega) (by omega))]
    exact hI.2.2.1 c2 c0 c1
  have hR1 : pt_R s ν1 ρ f := pt_R_fr hI.1.1 (fun p i h1 h2 h3 => hN.1 p i h3) (fun _ _ => rfl) hR
  have hRc := R_ch (x := 2) (y := 1) hA2 h82 (R_mv hI hR hcm hF hN) (Or.inr ⟨rfl, rfl⟩)
  have hst := hI.2.2.2.2.2.2.2.2.1.1 hcm
  have hA3 : iv_A (mo_ch (mv_r ρ) 2 1) f := by
    have er : ∀ p, p ≠ 15 → mo_ch (mv_r ρ) 2 1 p = mv_r ρ p := fun p h => ch_ne h
    refine ⟨mo_B_ch hA2.1 (by omega), mo_C_fr (er 2 (by omega)) (er 5 (by omega)) (er 6 (by omega)) (er 9 (by omega)) (er 13 (by omega)) (er 17 (by omega)) hA2.2.1, tr_fr (by rw [er 0 (by omega)]) (er 2 (by omega)) (er 3 (by omega)) hA2.2.2.1, by unfold mo_p2s; rw [er 9 (by omega)]; exact hA2.2.2.2.1, by rw [er 11 (by omega)]; exact hA2.2.2.2.2.1, by rw [er 0 (by omega), er 13 (by omega), er 14 (by omega)]; exact hA2.2.2.2.2.2.1, fun i i0 i1 h1 => ?_⟩
    rw [er 2 (by omega)] at h1 ⊢
    rw [er 0 (by omega), er 14 (by omega)]
    have := hA2.2.2.2.2.2.2 i i0 i1 h1
    refine ⟨this.1, this.2.1, ?_⟩
    rw [ch_15 ⟨by omega, this.1⟩]
    split <;> omega
  have h83 : iv_8 (mo_ch (mv_r ρ) 2 1) := fun c2 c0 c1 => by
    rw [ch_ne (by omega)] at c1
    rw [mo_wt_c (congrFun (ch_ne (by omega)) 24) (ch_ne (by omega)) (ch_ne (by omega))]
    exact h82 c2 c0 c1
  have h := R_ws hA3 h83 hRc (c := ρ 0 21) (by rw [ch_ne (by omega), e0 12 (by omega)]; exact ⟨hcm, b21.2⟩) (by rw [ch_15 (by rw [e0 12 (by omega)]; exact ⟨hcm, b21.2⟩), mvr_r (p := 15) (by omega) (by omega), if_neg (by omega)]; exact hst) (fun k k0 k1 hz => by
    rw [ch_ne (by omega), ch_ne (by omega), mvr_r (p := 9) (by omega) (by omega), mvr_r (p := 13) (by omega) (by omega)] at hz
    rw [ch_ne (by omega), ta_ne (by rw [e0 12 (by omega)]; omega), ly_c (by omega), lk_rg hI hR1 hF ⟨hcm, b21.2⟩ ⟨k0, k1⟩ (by omega) hz, mvr_17 ⟨hcm, b21.2⟩ ⟨k0, k1⟩, if_pos ⟨Or.inr rfl, hz⟩])
  have em : ma_e (mo_pn ρ) = mm_u (mm_u (mo_ch (mv_r ρ) 2 1) 15 (ρ 0 21) 1) 0 21 (-1) := by
    show mm_u (mm_u (mo_ch (mv_r ρ) 2 1) 15 (mo_pn ρ 0 21) 1) 0 21 (-1) = _
    rw [pn_fr 0 (by decide)]
  rw [em]
  exact h
theorem cl_step (hI : iv_I ρ f) (hR : pt_R s ν ρ f) : sw_w E (d + 5) 42 (0, [some (2, 50), none], []) s ν (sw_vr (fun v ν' => v = some (0, (go_f ρ).2) ∧ pt_R s ν' (go_f ρ).1 f ∧ lo_r ν ν') s) := by
  have hI1 := iv_go0 hI
  have hr := go_1_r (ρ 0 12).toNat 0 (ρ, 0) (Or.inl rfl)
  have hdl := cl_dl (E := E) (d := d + 3) hI hR
  have ef : go_f ρ = go_2 (go_0 ρ).1 (go_0 ρ).2 := rfl
  rw [ef]
  change (go_0 ρ).2 = 0 ∨ (go_0 ρ).2 = 1 at hr
  generalize (go_0 ρ).1 = μ at hI1 hdl ⊢
  generalize (go_0 ρ).2 = r at hr hdl ⊢
  have b12 := hI1.1.1.2.2.1
  have b21 := hI1.1.1.2.2.2.1
  have b22 := hI1.1.1.2.2.2.2.1
  by_cases hc : μ 0 21 < 0
  · have eg : go_2 μ r = (μ, r) := if_pos hc
    rw [eg]
    refine sw_p 1 (f' := (1, [some (2, 50), none], [(2, 50)])) rfl ?_
    refine sw_cv2 (pn := 4) (q0 := mj_PT_step) (q := mj_PT_dismissLeaving) (p := 50) (as2 := []) (L2 := [some (2, 50), none, none]) (rest := []) (s1 := s) rfl rfl rfl rfl rfl rfl rfl rfl rfl hR.sh.1 hdl (fun v ν1 hv => ?_)
    obtain ⟨rfl, hR, hlo⟩ := hv
    show sw_w E _ 42 (4, [some (2, 50), none], [(0, r)]) s ν1 _
    refine sw_p 2 (f' := (6, [some (2, 50), some (0, r)], [(2, 50)])) rfl ?_
    refine sw_gA (pn := 9) (i := 11) rfl rfl rfl rfl rfl (by omega) hR.sh.1 (fun h => absurd h (by rw [show ν1 50 11 = -1 from ((hR.z.2.2.2.1).trans (if_pos (by omega)))]; omega)) (fun _ => ?_)
    refine sw_p 2 (f' := (13, [some (2, 50), some (0, r)], [(0, r)])) rfl ?_
    exact sw_retZ rfl rfl rfl (by omega) ⟨_, rfl, rfl, rfl, hR, hlo⟩
  · by_cases hk : μ 0 22 = 0
    · have eg : go_2 μ r = (ck_f μ, 1) := (if_neg hc).trans (if_pos hk)
      rw [eg]
      refine sw_p 1 (f' := (1, [some (2, 50), none], [(2, 50)])) rfl ?_
      refine sw_cv2 (pn := 4) (q0 := mj_PT_step) (q := mj_PT_dismissLeaving) (p := 50) (as2 := []) (L2 := [some (2, 50), none, none]) (rest := []) (s1 := s) rfl rfl rfl rfl rfl rfl rfl rfl rfl hR.sh.1 hdl (fun v ν1 hv => ?_)
      obtain ⟨rfl, hR, hlo⟩ := hv
      show sw_w E _ 42 (4, [some (2, 50), none], [(0, r)]) s ν1 _
      refine sw_p 2 (f' := (6, [some (2, 50), some (0, r)], [(2, 50)])) rfl ?_
      refine sw_gA (pn := 9) (i := 11) rfl rfl rfl rfl rfl (by omega) hR.sh.1 (fun _ => ?_) (fun h => absurd h (by rw [show ν1 50 11 = 300 + μ 0 21 from ((hR.z.2.2.2.1).trans (if_neg (by omega)))]; omega))
      rw [show ν1 50 11 = 300 + μ 0 21 from ((hR.z.2.2.2.1).trans (if_neg (by omega)))]
      refine sw_p 2 (f' := (15, [some (2, 50), some (0, r)], [(2, 50)])) rfl ?_
      refine sw_gI (pn := 18) (i := 12) rfl rfl rfl rfl rfl (by omega) hR.sh.1 ?_
      rw [show ν1 50 12 = μ 0 22 from hR.z.2.2.2.2.1]
      refine sw_ne1 (pt := 31) (pn := 21) rfl rfl rfl (by omega) (fun h => absurd h (by omega)) (fun m1 => ?_)
      refine sw_p 2 (f' := (23, [some (2, 50), some (0, r)], [(2, 50), (2, 50)])) rfl ?_
      refine sw_gA (pn := 26) (i := 11) rfl rfl rfl rfl rfl (by omega) hR.sh.1 (fun _ => ?_) (fun h => absurd h (by rw [show ν1 50 11 = 300 + μ 0 21 from ((hR.z.2.2.2.1).trans (if_neg (by omega)))]; omega))
      rw [show ν1 50 11 = 300 + μ 0 21 from ((hR.z.2.2.2.1).trans (if_neg (by omega)))]
      refine sw_cv2 (pn := 29) (q0 := mj_PT_step) (q := mj_PT_examine) (p := 50) (as2 := [(2, 300 + μ 0 21)]) (L2 := [some (2, 50), some (2, 300 + μ 0 21)]) (rest := []) (s1 := s) rfl rfl rfl rfl rfl rfl rfl rfl rfl hR.sh.1 (cl_ex (d := d) hI1 hR rfl (by omega)) (fun v ν2 hv => ?_)
      obtain ⟨rfl, hv1, hv2⟩ := hv
      show sw_w E _ 42 (29, [some (2, 50), some (0, r)], []) s ν2 _
      refine sw_p 1 (f' := (30, [some (2, 50), some (0, r)], [(0, 1)])) rfl ?_
      exact sw_retZ rfl rfl rfl (by omega) ⟨_, rfl, rfl, rfl, hv1, lo_tr hlo hv2⟩
    · have e2 : go_2 μ r = if go_w μ (μ 0 12).toNat 0 = 1 then (μ, r) else (ma_e (mo_pn μ), 1) := (if_neg hc).trans (if_neg hk)
      rw [e2]
      have hF := pv_F0 hI1 (hI1.2.2.2.2.2.2.2.2.2.2 (by omega) hk)
      by_cases hw : go_w μ (μ 0 12).toNat 0 = 1
      · rw [if_pos hw]
        refine sw_p 1 (f' := (1, [some (2, 50), none], [(2, 50)])) rfl ?_
        refine sw_cv2 (pn := 4) (q0 := mj_PT_step) (q := mj_PT_dismissLeaving) (p := 50) (as2 := []) (L2 := [some (2, 50), none, none]) (rest := []) (s1 := s) rfl rfl rfl rfl rfl rfl rfl rfl rfl hR.sh.1 hdl (fun v ν1 hv => ?_)
        obtain ⟨rfl, hR, hlo⟩ := hv
        show sw_w E _ 42 (4, [some (2, 50), none], [(0, r)]) s ν1 _
        refine sw_p 2 (f' := (6, [some (2, 50), some (0, r)], [(2, 50)])) rfl ?_
        refine sw_gA (pn := 9) (i := 11) rfl rfl rfl rfl rfl (by omega) hR.sh.1 (fun _ => ?_) (fun h => absurd h (by rw [show ν1 50 11 = 300 + μ 0 21 from ((hR.z.2.2.2.1).trans (if_neg (by omega)))]; omega))
        rw [show ν1 50 11 = 300 + μ 0 21 from ((hR.z.2.2.2.1).trans (if_neg (by omega)))]
        refine sw_p 2 (f' := (15, [some (2, 50), some (0, r)], [(2, 50)])) rfl ?_
        refine sw_gI (pn := 18) (i := 12) rfl rfl rfl rfl rfl (by omega) hR.sh.1 ?_
        rw [show ν1 50 12 = μ 0 22 from hR.z.2.2.2.2.1]
        refine sw_ne1 (pt := 31) (pn := 21) rfl rfl rfl (by omega) (fun m1 => ?_) (fun h => absurd h (by omega))
        refine sw_p 1 (f' := (32, [some (2, 50), some (0, r)], [(2, 50)])) rfl ?_
        refine sw_cv1 (pn := 35) (q0 := mj_PT_step) (q := mj_PT_isSomeRequestStarted) (p := 50) (as2 := []) (L2 := [some (2, 50), none]) (rest := []) (v := some (0, 1)) (s1 := s) (ν1 := ν1) rfl rfl rfl rfl rfl rfl rfl rfl rfl hR.sh.1 (by have h := cl_rs (E := E) (d := d + 4) hI1.1 hR (fun c c0 c1 hp => (hI1.2.2.2.2.2.2.2.1 c c0 c1 hp).1); rw [hw] at h; exact h) ?_
        show sw_w E _ 42 (35, [some (2, 50), some (0, r)], [(0, 1)]) s ν1 _
        refine sw_eq1 (pt := 40) (pn := 38) rfl rfl rfl (by omega) (fun h => absurd h (by decide)) (fun _ => ?_)
        refine sw_p 1 (f' := (39, [some (2, 50), some (0, r)], [(0, r)])) rfl ?_
        exact sw_retZ rfl rfl rfl (by omega) ⟨_, rfl, rfl, rfl, hR, hlo⟩
      · rw [if_neg hw]
        have hw : go_w μ (μ 0 12).toNat 0 = 0 := by have := go_w_01 (ν := μ) (μ 0 12).toNat 0; omega
        refine sw_p 1 (f' := (1, [some (2, 50), none], [(2, 50)])) rfl ?_
        refine sw_cv2 (pn := 4) (q0 := mj_PT_step) (q := mj_PT_dismissLeaving) (p := 50) (as2 := []) (L2 := [some (2, 50), none, none]) (rest := []) (s1 := s) rfl rfl rfl rfl rfl rfl rfl rfl rfl hR.sh.1 hdl (fun v ν1 hv => ?_)
        obtain ⟨rfl, hR, hlo⟩ := hv
        show sw_w E _ 42 (4, [some (2, 50), none], [(0, r)]) s ν1 _
        refine sw_p 2 (f' := (6, [some (2, 50), some (0, r)], [(2, 50)])) rfl ?_
        refine sw_gA (pn := 9) (i := 11) rfl rfl rfl rfl rfl (by omega) hR.sh.1 (fun _ => ?_) (fun h => absurd h (by rw [show ν1 50 11 = 300 + μ 0 21 from ((hR.z.2.2.2.1).trans (if_neg (by omega)))]; omega))
        rw [show ν1 50 11 = 300 + μ 0 21 from ((hR.z.2.2.2.1).trans (if_neg (by omega)))]
        refine sw_p 2 (f' := (15, [some (2, 50), some (0, r)], [(2, 50)])) rfl ?_
        refine sw_gI (pn := 18) (i := 12) rfl rfl rfl rfl rfl (by omega) hR.sh.1 ?_
        rw [show ν1 50 12 = μ 0 22 from hR.z.2.2.2.2.1]
        refine sw_ne1 (pt := 31) (pn := 21) rfl rfl rfl (by omega) (fun m1 => ?_) (fun h => absurd h (by omega))
        refine sw_p 1 (f' := (32, [some (2, 50), some (0, r)], [(2, 50)])) rfl ?_
        refine sw_cv1 (pn := 35) (q0 := mj_PT_step) (q := mj_PT_isSomeRequestStarted) (p := 50) (as2 := []) (L2 := [some (2, 50), none]) (rest := []) (v := some (0, 0)) (s1 := s) (ν1 := ν1) rfl rfl rfl rfl rfl rfl rfl rfl rfl hR.sh.1 (by have h := cl_rs (E := E) (d := d + 4) hI1.1 hR (fun c c0 c1 hp => (hI1.2.2.2.2.2.2.2.1 c c0 c1 hp).1); rw [hw] at h; exact h) ?_
        show sw_w E _ 42 (35, [some (2, 50), some (0, r)], [(0, 0)]) s ν1 _
        refine sw_eq1 (pt := 40) (pn := 38) rfl rfl rfl (by omega) (fun _ => ?_) (fun h => absurd h (by decide))
        refine sw_p 2 (f' := (42, [some (2, 50), some (0, r)], [(2, 50), (2, 50)])) rfl ?_
        refine sw_gA (pn := 45) (i := 11) rfl rfl rfl rfl rfl (by omega) hR.sh.1 (fun _ => ?_) (fun h => absurd h (by rw [show ν1 50 11 = 300 + μ 0 21 from ((hR.z.2.2.2.1).trans (if_neg (by omega)))]; omega))
        rw [show ν1 50 11 = 300 + μ 0 21 from ((hR.z.2.2.2.1).trans (if_neg (by omega)))]
        refine sw_cv2 (pn := 48) (q0 := mj_PT_step) (q := mj_PT_moveAll) (p := 50) (as2 := [(2, 300 + μ 0 21)]) (L2 := [some (2, 50), some (2, 300 + μ 0 21), none]) (rest := []) (s1 := s) rfl rfl rfl rfl rfl rfl rfl rfl rfl hR.sh.1 (cl_mvA (d := d + 1) hI1.1 hR (by omega) (iv_A_mvr hI1 (by omega) hF) (fun ν3 hN => R_mv hI1 hR (by omega) hF hN)) (fun v ν2 hv => ?_)
        obtain ⟨rfl, ν3, hN, e2⟩ := hv
        have hR9 := R_mvA hI1 hR (by omega) hF hN
        rw [← e2] at hR9
        have hlo9 : lo_r ν1 ν2 := by
          rw [e2]
          intro p hp
          funext i
          rw [mm_u_ne (by omega), mm_u_ne (by omega), ta_ne (by omega), ly_ne (by omega) (by omega) (by omega)]
          exact hN.1 p i (by omega)
        show sw_w E _ 42 (48, [some (2, 50), some (0, r)], []) s ν2 _
        refine sw_p 1 (f' := (49, [some (2, 50), some (0, r)], [(0, 1)])) rfl ?_
        exact sw_retZ rfl rfl rfl (by omega) ⟨_, rfl, rfl, rfl, hR9, lo_tr hlo hlo9⟩
end SP
