/-! leave, pull, work: class, relation, invariant -/
section LV
variable {E : mv_E} {s ν ν1 ρ ρ1 : mm_T} {f : Int → Int} {d : Nat} {a b c e i k l n o p r t u w x y z : Int} {Q : nm_O → mm_T → mm_T → Prop}
theorem ls_nv (h24 : 0 ≤ ρ 0 24) (h1 : ls_1 ρ ρ1 c a) (hw : ls_w ρ c w a) : sm_s (mo_lsn ρ1 c w) (ρ1 0 24).toNat = mo_wt ρ c - a := by
  have q24 := h1.2.1 24 (by omega)
  have := ls_wp h24 hw
  rw [ls_n (by omega) (by rw [q24, ls_pd1 h1]; exact this), ls_wt1 h1]
  rcases hw with ⟨h1, h2⟩ | ⟨h1, h2, h3⟩
  · rw [if_pos (by omega), h2]
  · obtain ⟨f0, f1, f2, f3⟩ := fr_t1 (ρ := ρ) (c := c) h24 h3
    rw [if_neg (by omega), h2]
/-- leave -/
theorem lv_p (h : p ≠ 0 ∧ p ≠ 15) : mo_lv ρ c p = ρ p := by
  funext i
  unfold mo_lv
  rw [mm_u_ne (by omega)]
  exact mm_u_ne (by omega)
theorem lv_w (hI : iv_I ρ f) (hc : 0 ≤ c ∧ c < ρ 0 12) : ls_w ρ c (mo_lw ρ c) (if 0 < ρ 19 c then 1 else 0) := by
  unfold mo_lw
  by_cases h : 0 < ρ 19 c
  · rw [if_pos h, if_pos h]
    refine Or.inr ⟨?_, rfl, (hI.2.2.2.2.2.2.2.1 c hc.1 hc.2 h).2⟩
    unfold mo_ft
    have e : mo_pd (mo_lv ρ c) c = mo_pd ρ c := mo_pd_c (lv_p (by omega)) (lv_p (by omega)) c
    have e24 : mo_lv ρ c 0 24 = ρ 0 24 := by
      unfold mo_lv
      rw [mm_u_ne (by omega)]
      exact mm_u_ne (by omega)
    rw [e24]
    have key : ∀ (n : Nat) (r : Int), mo_fi (mo_lv ρ c) c r n = mo_fi ρ c r n := fun n => by
      induction n with
      | zero => intro r; rfl
      | succ n ih => intro r; rw [mo_fi, mo_fi, e, ih]
    exact key _ _
  · rw [if_neg h, if_neg h]
    exact Or.inl ⟨rfl, rfl⟩
theorem lv_1 (hI : iv_I ρ f) (hc : 0 ≤ c ∧ c < ρ 0 12) (h15 : ρ 15 c = 1) : ls_1 ρ (mo_lv ρ c) c (if 0 < ρ 19 c then 1 else 0) := by
  have b12 := hI.1.1.2.2.1
  have hcd := hI.1.1.cd c hc.1 (by omega)
  have e15 : ∀ i, mo_lv ρ c 15 i = if i = c then 3 else ρ 15 i := fun i => by
    unfold mo_lv
    by_cases h : i = c
    · rw [if_pos h, h, mm_u_at]
    · rw [if_neg h, mm_u_ne (by omega)]
      exact mm_u_ne (by omega)
  have e19 : mo_lv ρ c 19 = ρ 19 := lv_p (by omega)
  refine ⟨fun p h0 h1 _ => lv_p ⟨h0, h1⟩, fun i hi => ?_, fun i hi => ⟨by rw [e15, if_neg hi], by rw [e19]⟩, Or.inr ⟨h15, by rw [e15, if_pos rfl]⟩, ?_⟩
  · unfold mo_lv
    rw [mm_u_ne (by omega)]
    exact mm_u_ne (by omega)
  · rw [e19]
    by_cases h : 0 < ρ 19 c
    · rw [if_pos h, if_neg (by omega)]
    · rw [if_neg h, if_pos rfl]; omega
theorem iv_lv (hI : iv_I ρ f) (hc : 0 ≤ c ∧ c < ρ 0 12) (h15 : ρ 15 c = 1) : iv_I (mo_ls (mo_lv ρ c) c (mo_lw ρ c)) f := iv_ls hI hc (lv_1 hI hc h15) (lv_w hI hc) (mo_B_lv hI.1.1)
theorem R_lv (hI : iv_I ρ f) (hR : pt_R s ν ρ f) (hc : 0 ≤ c ∧ c < ρ 0 12) (h15 : ρ 15 c = 1) (ha : a = if 0 < ρ 19 c then 1 else 0) : pt_R s (lf_e (mm_u ν (300 + c) 6 3) ρ c a) (mo_ls (mo_lv ρ c) c (mo_lw ρ c)) f := by
  have b12 := hI.1.1.2.2.1
  have b24 := hI.1.1.2.2.2.2.2.1
  have h1 := lv_1 hI hc h15
  have hw := lv_w hI hc
  rw [← ha] at h1 hw
  refine R_ls hI.1 hI.2.2.1 hR hc h1 hw (fun p i h1 h2 h3 h4 => ?_) ⟨?_, lfe_8 (by omega), ?_⟩ (fun h => ?_) (fun t t0 t1 => ?_)
  · rw [lfe_ne b24.2 (by omega) h3 h4, mm_u_ne (by omega)]
  · rcases lfe_6 (ν := mm_u ν (300 + c) 6 3) (ρ := ρ) (c := c) (a := a) with h | h
    · rw [h, mm_u_at]
      unfold mo_lv
      rw [mm_u_at]
    · omega
  · rw [lfe_9 (by omega), h1.2.2.2.2, mm_u_ne (by omega)]
    rw [(hR.cn c hc.1 hc.2).2.2.2.2.2.1]
  · rw [lfe_q (by omega) h, mm_u_ne (by omega)]
  · rw [lfe_t (by omega) t0 t1, mm_u_ne (by omega)]
theorem lfe_lo (hc : 0 ≤ c) : lo_r ν (lf_e ν ρ c a) := fun p hp => by
  funext i
  have e : ∀ a x, lf_m ν ρ c a x p i = ν p i := fun a x => lf_ne (by omega) (by omega)
  unfold lf_e
  split
  · rw [mm_u_ne (by omega), mm_u_ne (by omega), e]
  · rw [mm_u_ne (by omega), e]
theorem cl_lv (hI : iv_I ρ f) (hR : pt_R s ν ρ f) (hc : 0 ≤ c ∧ c < ρ 0 12) (h15 : ρ 15 c = 1) : sw_w E (d + 2) 72 (0, [some (2, 50), some (0, c), none], []) s ν (sw_vr (fun v ν' => v = some (0, sm_s (mo_lsn (mo_lv ρ c) c (mo_lw ρ c)) (mo_lv ρ c 0 24).toNat) ∧ pt_R s ν' (mo_ls (mo_lv ρ c) c (mo_lw ρ c)) f ∧ lo_r ν ν') s) := by
  have b12 := hI.1.1.2.2.1
  have hcd := hI.1.1.cd c hc.1 (by omega)
  rw [ls_nv hI.1.1.2.2.2.2.2.1.1 (lv_1 hI hc h15) (lv_w hI hc)]
  by_cases h19 : 0 < ρ 19 c
  · have hwt := (hI.2.2.2.2.2.2.2.1 c hc.1 hc.2 h19).2
    rw [if_pos h19]
    refine sw_p 2 (f' := (2, [some (2, 50), some (0, c), none], [(0, c), (2, 50)])) rfl ?_
    refine sw_cv1 (pn := 5) (q0 := mj_PT_leave) (q := mj_PT_cardNumbered) (p := 50) (as2 := [(0, c)]) (L2 := [some (2, 50), some (0, c)]) (rest := []) (v := some (2, 300 + c)) (s1 := s) (ν1 := ν) rfl rfl rfl rfl rfl rfl rfl rfl rfl hR.sh.1 (cl_cN1 hI.1 hR hc) ?_
    show sw_w E _ 72 (5, [some (2, 50), some (0, c), none], [(2, 300 + c)]) s ν _
    refine sw_p 2 (f' := (7, [some (2, 50), some (0, c), some (2, 300 + c)], [(2, 300 + c)])) rfl ?_
    refine sw_gI (pn := 10) (i := 6) rfl rfl rfl rfl rfl (by omega) (hR.ca c (by omega) (by omega)).1 ?_
    rw [show ν (300 + c) 6 = ρ 15 c from (hR.cn c (by omega) (by omega)).2.2.1]
    refine sw_p 1 (f' := (11, [some (2, 50), some (0, c), some (2, 300 + c)], [(0, 1), (0, ρ 15 c)])) rfl ?_
    refine sw_eq2 (pt := 22) (pn := 14) rfl rfl rfl (by omega) (by omega) (fun m1 => ?_) (fun h => absurd h (by omega))
    refine sw_p 2 (f' := (24, [some (2, 50), some (0, c), some (2, 300 + c)], [(0, 3), (2, 300 + c)])) rfl ?_
    refine sw_pI (pn := 27) (i := 6) rfl rfl rfl rfl rfl (by omega) (hR.ca c (by omega) (by omega)).1 ?_
    refine sw_p 2 (f' := (29, [some (2, 50), some (0, c), some (2, 300 + c)], [(2, 300 + c), (2, 300 + c)])) rfl ?_
    refine sw_gI (pn := 32) (i := 9) rfl rfl rfl rfl rfl (by omega) (hR.ca c (by omega) (by omega)).1 ?_
    rw [show (mm_u ν (300 + c) 6 3) (300 + c) 9 = ρ 19 c from (mm_u_ne (by omega)).trans ((hR.cn c (by omega) (by omega)).2.2.2.2.2.1)]
    refine sw_le1 (pt := 39) (pn := 35) rfl rfl rfl (by omega) (fun h => absurd h (by omega)) (fun m2 => ?_)
    refine sw_p 2 (f' := (40, [some (2, 50), some (0, c), some (2, 300 + c)], [(0, 1), (2, 300 + c)])) rfl ?_
    refine sw_cv1 (pn := 43) (q0 := mj_PT_leave) (q := mj_Ca_loseFrom) (p := 300 + c) (as2 := [(0, 1)]) (L2 := [some (2, 300 + c), some (0, 1), none, none]) (rest := []) (v := some (0, mo_wt ρ c - 1)) (s1 := s) (ν1 := (lf_e (mm_u ν (300 + c) 6 3) ρ c 1)) rfl rfl rfl rfl rfl rfl rfl rfl rfl (hR.ca c (by omega) (by omega)).1 (cl_lf (ν0 := ν) hI.1 hI.2.2.1 hR hc (fun i => mm_u_ne (by omega)) ((mm_u_ne (by omega)).trans (hR.cn c hc.1 hc.2).2.2.2.2.1) (by omega)) ?_
    show sw_w E _ 72 (43, [some (2, 50), some (0, c), some (2, 300 + c)], [(0, mo_wt ρ c - 1)]) s (lf_e (mm_u ν (300 + c) 6 3) ρ c 1) _
    exact sw_retI rfl rfl rfl ⟨_, rfl, rfl, rfl, R_lv hI hR hc h15 (by rw [if_pos h19]), lo_tr (lo_u (by omega)) (lfe_lo hc.1)⟩
  · rw [if_neg h19]
    refine sw_p 2 (f' := (2, [some (2, 50), some (0, c), none], [(0, c), (2, 50)])) rfl ?_
    refine sw_cv1 (pn := 5) (q0 := mj_PT_leave) (q := mj_PT_cardNumbered) (p := 50) (as2 := [(0, c)]) (L2 := [some (2, 50), some (0, c)]) (rest := []) (v := some (2, 300 + c)) (s1 := s) (ν1 := ν) rfl rfl rfl rfl rfl rfl rfl rfl rfl hR.sh.1 (cl_cN1 hI.1 hR hc) ?_
    show sw_w E _ 72 (5, [some (2, 50), some (0, c), none], [(2, 300 + c)]) s ν _
    refine sw_p 2 (f' := (7, [some (2, 50), some (0, c), some (2, 300 + c)], [(2, 300 + c)])) rfl ?_
    refine sw_gI (pn := 10) (i := 6) rfl rfl rfl rfl rfl (by omega) (hR.ca c (by omega) (by omega)).1 ?_
    rw [show ν (300 + c) 6 = ρ 15 c from (hR.cn c (by omega) (by omega)).2.2.1]
    refine sw_p 1 (f' := (11, [some (2, 50), some (0, c), some (2, 300 + c)], [(0, 1), (0, ρ 15 c)])) rfl ?_
    refine sw_eq2 (pt := 22) (pn := 14) rfl rfl rfl (by omega) (by omega) (fun m1 => ?_) (fun h => absurd h (by omega))
    refine sw_p 2 (f' := (24, [some (2, 50), some (0, c), some (2, 300 + c)], [(0, 3), (2, 300 + c)])) rfl ?_
    refine sw_pI (pn := 27) (i := 6) rfl rfl rfl rfl rfl (by omega) (hR.ca c (by omega) (by omega)).1 ?_
    refine sw_p 2 (f' := (29, [some (2, 50), some (0, c), some (2, 300 + c)], [(2, 300 + c), (2, 300 + c)])) rfl ?_
    refine sw_gI (pn := 32) (i := 9) rfl rfl rfl rfl rfl (by omega) (hR.ca c (by omega) (by omega)).1 ?_
    rw [show (mm_u ν (300 + c) 6 3) (300 + c) 9 = ρ 19 c from (mm_u_ne (by omega)).trans ((hR.cn c (by omega) (by omega)).2.2.2.2.2.1)]
    refine sw_le1 (pt := 39) (pn := 35) rfl rfl rfl (by omega) (fun m2 => ?_) (fun h => absurd h (by omega))
    refine sw_p 1 (f' := (40, [some (2, 50), some (0, c), some (2, 300 + c)], [(0, 0), (2, 300 + c)])) rfl ?_
    refine sw_cv1 (pn := 43) (q0 := mj_PT_leave) (q := mj_Ca_loseFrom) (p := 300 + c) (as2 := [(0, 0)]) (L2 := [some (2, 300 + c), some (0, 0), none, none]) (rest := []) (v := some (0, mo_wt ρ c - 0)) (s1 := s) (ν1 := (lf_e (mm_u ν (300 + c) 6 3) ρ c 0)) rfl rfl rfl rfl rfl rfl rfl rfl rfl (hR.ca c (by omega) (by omega)).1 (cl_lf (ν0 := ν) hI.1 hI.2.2.1 hR hc (fun i => mm_u_ne (by omega)) ((mm_u_ne (by omega)).trans (hR.cn c hc.1 hc.2).2.2.2.2.1) (by omega)) ?_
    show sw_w E _ 72 (43, [some (2, 50), some (0, c), some (2, 300 + c)], [(0, mo_wt ρ c - 0)]) s (lf_e (mm_u ν (300 + c) 6 3) ρ c 0) _
    exact sw_retI rfl rfl rfl ⟨_, rfl, rfl, rfl, R_lv hI hR hc h15 (by rw [if_neg h19]), lo_tr (lo_u (by omega)) (lfe_lo hc.1)⟩
theorem cl_lv_s (hI : iv_I ρ f) (hR : pt_R s ν ρ f) (hc : 0 ≤ c ∧ c < ρ 0 12) (h15 : ρ 15 c ≠ 1) (hd : 5 ≤ d) : sw_w E (d + 2) 72 (0, [some (2, 50), some (0, c), none], []) s ν (sw_ex 9 s ν) := by
  have b12 := hI.1.1.2.2.1
  have hcd := hI.1.1.cd c hc.1 (by omega)
  refine sw_p 2 (f' := (2, [some (2, 50), some (0, c), none], [(0, c), (2, 50)])) rfl ?_
  refine sw_cv1 (pn := 5) (q0 := mj_PT_leave) (q := mj_PT_cardNumbered) (p := 50) (as2 := [(0, c)]) (L2 := [some (2, 50), some (0, c)]) (rest := []) (v := some (2, 300 + c)) (s1 := s) (ν1 := ν) rfl rfl rfl rfl rfl rfl rfl rfl rfl hR.sh.1 (cl_cN1 hI.1 hR hc) ?_
  show sw_w E _ 72 (5, [some (2, 50), some (0, c), none], [(2, 300 + c)]) s ν _
  refine sw_p 2 (f' := (7, [some (2, 50), some (0, c), some (2, 300 + c)], [(2, 300 + c)])) rfl ?_
  refine sw_gI (pn := 10) (i := 6) rfl rfl rfl rfl rfl (by omega) (hR.ca c (by omega) (by omega)).1 ?_
  rw [show ν (300 + c) 6 = ρ 15 c from (hR.cn c (by omega) (by omega)).2.2.1]
  refine sw_p 1 (f' := (11, [some (2, 50), some (0, c), some (2, 300 + c)], [(0, 1), (0, ρ 15 c)])) rfl ?_
  refine sw_eq2 (pt := 22) (pn := 14) rfl rfl rfl (by omega) (by omega) (fun h => absurd h (by omega)) (fun m1 => ?_)
  exact sw_thr rfl rfl rfl rfl rfl (by omega) ⟨rfl, rfl, rfl⟩
theorem cl_lv_b (hI : iv_I ρ f) (hR : pt_R s ν ρ f) (hc : -2147483648 ≤ c ∧ c < 2147483648) (h : ¬ (0 ≤ c ∧ c < ρ 0 12)) (hd : 5 ≤ d) : sw_w E (d + 2) 72 (0, [some (2, 50), some (0, c), none], []) s ν (sw_ex 8 s ν) := by
  refine sw_p 2 (f' := (2, [some (2, 50), some (0, c), none], [(0, c), (2, 50)])) rfl ?_
  exact sw_cv (pn := 5) (q0 := mj_PT_leave) (q := mj_PT_cardNumbered) (p := 50) (as2 := [(0, c)]) (L2 := [some (2, 50), some (0, c)]) (rest := []) (Q2 := (sw_ex 8 s ν)) rfl rfl rfl rfl rfl rfl rfl rfl rfl hR.sh.1 (cl_cN0 hI.1 hR hc hd h) (fun _ _ _ h => nomatch h.1) (fun _ _ _ h => h)
/-- pull -/
theorem R_fo (hA : iv_A ρ f) (hR : pt_R s ν ρ f) : pt_R s (mm_u ν 50 11 (-1)) (mm_u ρ 0 21 (-1)) f := by
  have b1 := hA.1.1
  have b8 := hA.1.2.1
  have b12 := hA.1.2.2.1
  have b24 := hA.1.2.2.2.2.2.1
  have hν : ∀ p i, ¬ (p = 50 ∧ i = 11) → mm_u ν 50 11 (-1) p i = ν p i := fun p i h => mm_u_ne (by omega)
  have er : ∀ p, p ≠ 0 → mm_u ρ 0 21 (-1) p = ρ p := fun p hp => by funext i; exact mm_u_ne (by omega)
  have e0 : ∀ i, i ≠ 21 → mm_u ρ 0 21 (-1) 0 i = ρ 0 i := fun i hi => mm_u_ne (by omega)
  have z11 : mm_u ν 50 11 (-1) 50 11 = -1 := mm_u_at
  have z21 : mm_u ρ 0 21 (-1) 0 21 = -1 := mm_u_at
  generalize mm_u ν 50 11 (-1) = ν' at *
  generalize mm_u ρ 0 21 (-1) = ρ' at *
  have ew : ∀ c2, mo_wt ρ' c2 = mo_wt ρ c2 := fun c2 => mo_wt_c (e0 24 (by omega)) (er 25 (by omega)) (er 28 (by omega)) c2
  refine ⟨hR.sh, ?_, ?_, ?_, ?_, ?_, ?_, ?_, ?_, ?_, ?_, ?_, ?_, ?_⟩
  · exact pt_Br_c hR.br (e0 1 (by omega)) (fun b _ _ => by rw [er 3 (by omega)]) (fun b _ _ => by rw [er 4 (by omega)])
  · exact pt_Bn_c hR.bn (e0 1 (by omega)) (fun b h1 h2 => ⟨hν _ _ (by omega), hν _ _ (by omega), hν _ _ (by omega), by rw [er 5 (by omega)], by rw [er 6 (by omega)]⟩)
  · exact pt_Sl_c hR.sl (e0 1 (by omega)) (fun b i h1 h2 h3 h4 => ⟨hν _ _ (by omega), hν _ _ (by omega), by rw [er 2 (by omega)]⟩)
  · exact pt_Ty_c hR.ty (e0 8 (by omega)) (fun t _ _ => ⟨by rw [er 10 (by omega)], by rw [er 11 (by omega)]⟩)
  · exact pt_Tn_c hR.tn (e0 8 (by omega)) (er 9 (by omega)) (fun t h1 h2 => ⟨hν _ _ (by omega), fun k k0 k1 => ⟨hν _ _ (by omega), hν _ _ (by omega)⟩⟩)
  · exact pt_Ca_c hR.ca (e0 12 (by omega)) (fun c2 _ _ => ⟨by rw [er 14 (by omega)], by rw [er 13 (by omega)]⟩)
  · refine pt_Cn_c hR.cn (e0 12 (by omega)) (fun c2 h1 h2 h3 => ?_)
    unfold pt_Cf at h3 ⊢
    rw [hν 53 c2 (by omega), hν (300 + c2) 5 (by omega), hν (300 + c2) 6 (by omega), hν (300 + c2) 7 (by omega), hν (300 + c2) 8 (by omega), hν (300 + c2) 9 (by omega), hν (300 + c2) 10 (by omega), er 15 (by omega), er 16 (by omega), er 19 (by omega), er 20 (by omega), ew]
    exact h3
  · exact pt_Cr_c hR.cr (e0 12 (by omega)) (er 9 (by omega)) (fun c2 k h1 h2 h3 h4 => ⟨hν _ _ (by omega), by rw [er 13 (by omega)], fun h5 => by rw [er 15 (by omega)] at h5; exact ⟨h5, by rw [er 17 (by omega)]⟩⟩)
  · exact pt_Cs_c hR.cs (e0 12 (by omega)) (fun c2 h1 h2 h3 => by rw [er 15 (by omega)] at h3; exact ⟨h3, by rw [er 14 (by omega)], fun h4 => by rw [er 2 (by omega)]; exact h4⟩)
  · intro c2 i h1 h2 h3 h4
    rw [e0 12 (by omega)] at h2
    rw [ew] at h4
    rw [e0 24 (by omega), hν (380 + c2) i (by omega), mo_pd_c (er 25 (by omega)) (er 28 (by omega))]
    exact hR.q c2 i h1 h2 h3 h4
  · exact pt_Rq_c hR.rq (e0 24 (by omega)) (fun t h1 h2 => ⟨by rw [er 26 (by omega)], by rw [er 27 (by omega)], fun h => by rw [hν _ _ (by omega), er 28 (by omega)]; exact h⟩)
  · exact pt_L_c hR.li hA.1 (e0 24 (by omega)) (hν _ _ (by omega)) (hν _ _ (by omega)) (fun p t hp => hν _ _ (by omega))
  · obtain ⟨g1, g2, g3, g4, g5, g6⟩ := hR.z
    unfold pt_Z
    rw [hν 50 8 (by omega), hν 50 9 (by omega), hν 50 10 (by omega), hν 50 12 (by omega), hν 50 13 (by omega), e0 1 (by omega), e0 8 (by omega), e0 12 (by omega), e0 22 (by omega), e0 23 (by omega), z11, z21]
    exact ⟨g1, g2, g3, by rw [if_pos (by omega)], g5, g6⟩
theorem iv_A_fo (hA : iv_A ρ f) : iv_A (mm_u ρ 0 21 (-1)) f := by
  have b12 := hA.1.2.2.1
  have er : ∀ p, p ≠ 0 → mm_u ρ 0 21 (-1) p = ρ p := fun p hp => by funext i; exact mm_u_ne (by omega)
  have e0 : ∀ i, i ≠ 21 → mm_u ρ 0 21 (-1) 0 i = ρ 0 i := fun i hi => mm_u_ne (by omega)
  refine ⟨mo_Bs_21 hA.1 (by omega), mo_C_fr (er 2 (by omega)) (er 5 (by omega)) (er 6 (by omega)) (er 9 (by omega)) (er 13 (by omega)) (er 17 (by omega)) hA.2.1, tr_fr (e0 1 (by omega)) (er 2 (by omega)) (er 3 (by omega)) hA.2.2.1, by unfold mo_p2s; rw [er 9 (by omega)]; exact hA.2.2.2.1, by rw [er 11 (by omega)]; exact hA.2.2.2.2.1, ?_⟩
  unfold iv_K
  rw [e0 12 (by omega), e0 1 (by omega), e0 8 (by omega), er 2 (by omega), er 13 (by omega), er 14 (by omega), er 15 (by omega)]
  exact hA.2.2.2.2.2
end LV
