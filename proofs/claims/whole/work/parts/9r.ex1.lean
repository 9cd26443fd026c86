/-! the class: examine -/
section EX
variable {E : mv_E} {s ν ρ : mm_T} {f : Int → Int} {d : Nat} {a b c e i k l n o p r t u w x y z : Int} {q : Int → Int} {Q : nm_O → mm_T → mm_T → Prop}
theorem iv_A_15 (h : iv_A ρ f) (hc : 0 ≤ c ∧ c < ρ 0 12) : iv_A (mm_u (mm_u ρ 15 c 0) 0 21 c) f := by
  have er : ∀ p, p ≠ 15 → p ≠ 0 → mm_u (mm_u ρ 15 c 0) 0 21 c p = ρ p := fun p h1 h2 => by funext i; rw [mm_u_ne (by omega), mm_u_ne (by omega)]
  have e0 : ∀ i, i ≠ 21 → mm_u (mm_u ρ 15 c 0) 0 21 c 0 i = ρ 0 i := fun i hi => by rw [mm_u_ne (by omega), mm_u_ne (by omega)]
  refine ⟨mo_Bs_21 (mo_Bu_15 h.1 (by omega)) ⟨by omega, by rw [mm_u_ne (by omega)]; exact hc.2⟩, mo_C_fr (er 2 (by omega) (by omega)) (er 5 (by omega) (by omega)) (er 6 (by omega) (by omega)) (er 9 (by omega) (by omega)) (er 13 (by omega) (by omega)) (er 17 (by omega) (by omega)) h.2.1, tr_fr (e0 1 (by omega)) (er 2 (by omega) (by omega)) (er 3 (by omega) (by omega)) h.2.2.1, by unfold mo_p2s; rw [er 9 (by omega) (by omega)]; exact h.2.2.2.1, by rw [er 11 (by omega) (by omega)]; exact h.2.2.2.2.1, by rw [e0 12 (by omega), e0 1 (by omega), e0 8 (by omega), er 13 (by omega) (by omega), er 14 (by omega) (by omega)]; exact h.2.2.2.2.2.1, fun i i0 i1 h1 => ?_⟩
  rw [er 2 (by omega) (by omega)] at h1 ⊢
  rw [e0 12 (by omega), er 14 (by omega) (by omega)]
  have := h.2.2.2.2.2.2 i i0 i1 h1
  refine ⟨this.1, this.2.1, ?_⟩
  rw [mm_u_ne (by omega)]
  by_cases hcc : ρ 2 i - 100 = c
  · rw [hcc, mm_u_at]; omega
  · rw [mm_u_ne (by omega)]; exact this.2.2
theorem pl_back (hst : ρ 15 c = 0) (hcm : ρ 0 21 = c) : mm_u (mm_u (mm_u (mm_u (pl_f ρ c x e q) 15 c 1) 0 21 (-1)) 15 c 0) 0 21 c = pl_f ρ c x e q := by
  have h15 : pl_f ρ c x e q 15 c = 0 := by unfold pl_f; rw [if_neg (by omega), if_neg (by omega), if_neg (by omega)]; exact hst
  have h21 : pl_f ρ c x e q 0 21 = c := by unfold pl_f; rw [if_neg (by omega), if_neg (by omega), if_neg (by omega)]; exact hcm
  funext p i
  by_cases h1 : p = 0 ∧ i = 21
  · rw [h1.1, h1.2, mm_u_at, h21]
  · rw [mm_u_ne h1]
    by_cases h2 : p = 15 ∧ i = c
    · rw [h2.1, h2.2, mm_u_at, h15]
    · rw [mm_u_ne h2, mm_u_ne h1, mm_u_ne h2]
theorem R_22 (hA : iv_A ρ f) (h8 : iv_8 ρ) (hR : pt_R s ν (mo_ch ρ 1 2) f) : pt_R s (mm_u ν 50 12 1) (mo_ch (mm_u ρ 0 22 1) 1 2) f := by
  have b1 := hA.1.1
  have b8 := hA.1.2.1
  have b12 := hA.1.2.2.1
  have b24 := hA.1.2.2.2.2.2.1
  have ne : ∀ p i, ¬ (p = 50 ∧ i = 12) → mm_u ν 50 12 1 p i = ν p i := fun p i h => mm_u_ne h
  have e2 : mo_ch (mm_u ρ 0 22 1) 1 2 = mm_u (mo_ch ρ 1 2) 0 22 1 := by
    funext p i
    unfold mo_ch
    rw [show mm_u ρ 0 22 1 0 12 = ρ 0 12 from mm_u_ne (by omega)]
    by_cases h : p = 0 ∧ i = 22
    · rw [h.1, h.2, mm_u_at, rg_ne (by omega), mm_u_at]
    · rw [mm_u_ne h]
      unfold rg_m
      by_cases h1 : p = 15 ∧ 0 ≤ i ∧ i < ρ 0 12
      · rw [if_pos h1, if_pos h1]
        show (if mm_u ρ 0 22 1 15 i = 1 then (2 : Int) else mm_u ρ 0 22 1 15 i) = _
        rw [mm_u_ne (by omega)]
      · rw [if_neg h1, if_neg h1, mm_u_ne h]
  rw [e2]
  have h12 : mo_ch ρ 1 2 0 12 = ρ 0 12 := by rw [ch_ne (by omega)]
  have h01 : mo_ch ρ 1 2 0 1 = ρ 0 1 := by rw [ch_ne (by omega)]
  have h08 : mo_ch ρ 1 2 0 8 = ρ 0 8 := by rw [ch_ne (by omega)]
  have h024 : mo_ch ρ 1 2 0 24 = ρ 0 24 := by rw [ch_ne (by omega)]
  have hB := mo_B_ch (x := 1) (y := 2) hA.1 (by omega)
  have hw8 : ∀ c, 0 ≤ c → c < mo_ch ρ 1 2 0 12 → mo_wt (mo_ch ρ 1 2) c ≤ 8 := fun c c0 c1 => by
    rw [h12] at c1
    rw [mo_wt_c h024 (ch_ne (by omega)) (ch_ne (by omega))]
    exact h8 c c0 c1
  generalize mo_ch ρ 1 2 = ρ1 at hR h12 h01 h08 h024 hB hw8 ⊢
  have er : ∀ p, p ≠ 0 → mm_u ρ1 0 22 1 p = ρ1 p := fun p h => by funext i; exact mm_u_ne (by omega)
  have e0 : ∀ i, i ≠ 22 → mm_u ρ1 0 22 1 0 i = ρ1 0 i := fun i h => mm_u_ne (by omega)
  refine ⟨hR.sh, ?_, ?_, ?_, ?_, ?_, ?_, ?_, ?_, ?_, ?_, ?_, ?_, ?_⟩
  · exact pt_Br_c hR.br (e0 1 (by omega)) (fun b _ _ => by rw [er 3 (by omega)]) (fun b _ _ => by rw [er 4 (by omega)])
  · exact pt_Bn_c hR.bn (e0 1 (by omega)) (fun b h1 h2 => ⟨ne 51 b (by omega), ne (100 + b) 6 (by omega), ne (100 + b) 7 (by omega), by rw [er 5 (by omega)], by rw [er 6 (by omega)]⟩)
  · exact pt_Sl_c hR.sl (e0 1 (by omega)) (fun b i h1 h2 h3 h4 => ⟨ne (110 + b) i (by omega), ne (120 + b) i (by omega), by rw [er 2 (by omega)]⟩)
  · exact pt_Ty_c hR.ty (e0 8 (by omega)) (fun t _ _ => ⟨by rw [er 10 (by omega)], by rw [er 11 (by omega)]⟩)
  · exact pt_Tn_c hR.tn (e0 8 (by omega)) (er 9 (by omega)) (fun t h1 h2 => ⟨ne 52 t (by omega), fun k k0 k1 => ⟨ne (220 + t) k (by omega), ne (240 + t) k (by omega)⟩⟩)
  · exact pt_Ca_c hR.ca (e0 12 (by omega)) (fun c2 _ _ => ⟨by rw [er 14 (by omega)], by rw [er 13 (by omega)]⟩)
  · refine pt_Cn_c hR.cn (e0 12 (by omega)) (fun c2 h1 h2 h3 => ?_)
    obtain ⟨q1, q2, q3, q4, q5, q6, q7⟩ := h3
    unfold pt_Cf
    rw [ne 53 c2 (by omega), ne (300 + c2) 5 (by omega), ne (300 + c2) 6 (by omega), ne (300 + c2) 7 (by omega), ne (300 + c2) 8 (by omega), ne (300 + c2) 9 (by omega), ne (300 + c2) 10 (by omega), er 15 (by omega), er 16 (by omega), er 19 (by omega), er 20 (by omega), mo_wt_c (e0 24 (by omega)) (er 25 (by omega)) (er 28 (by omega))]
    exact ⟨q1, q2, q3, q4, q5, q6, q7⟩
  · exact pt_Cr_c hR.cr (e0 12 (by omega)) (er 9 (by omega)) (fun c2 k h1 h2 h3 h4 => ⟨ne (340 + c2) k (by omega), by rw [er 13 (by omega)], fun h5 => ⟨by rw [er 15 (by omega)] at h5; exact h5, by rw [er 17 (by omega)]⟩⟩)
  · exact pt_Cs_c hR.cs (e0 12 (by omega)) (fun c2 h1 h2 h3 => ⟨by rw [er 15 (by omega)] at h3; exact h3, by rw [er 14 (by omega)], fun h4 => by rw [er 2 (by omega)]; exact h4⟩)
  · exact pt_Q_c hR.q (e0 12 (by omega)) (e0 24 (by omega)) (fun c2 h1 h2 => ⟨mo_pd_c (er 25 (by omega)) (er 28 (by omega)) c2, fun i h3 h4 => ne (380 + c2) i (by omega)⟩) hw8
  · exact pt_Rq_c hR.rq (e0 24 (by omega)) (fun t h1 h2 => ⟨by rw [er 26 (by omega)], by rw [er 27 (by omega)], fun h3 => by rw [ne (1000 + t) 2 (by omega), er 28 (by omega)]; exact h3⟩)
  · exact pt_L_c hR.li hB (e0 24 (by omega)) (ne 54 0 (by omega)) (ne 54 1 (by omega)) (fun p t hp => ne p t (by omega))
  · obtain ⟨q1, q2, q3, q4, q5, q6⟩ := hR.z
    unfold pt_Z
    rw [ne 50 8 (by omega), ne 50 9 (by omega), ne 50 10 (by omega), ne 50 11 (by omega), ne 50 13 (by omega), e0 1 (by omega), e0 8 (by omega), e0 12 (by omega), e0 21 (by omega), e0 23 (by omega), mm_u_at, mm_u_at]
    exact ⟨q1, q2, q3, q4, rfl, q6⟩
theorem cl_ex (hI : iv_I ρ f) (hR : pt_R s ν ρ f) (hcm : ρ 0 21 = c) (hc0 : 0 ≤ c) : sw_w E (d + 4) 44 (0, [some (2, 50), some (2, 300 + c)], []) s ν (sw_vr (fun v ν' => v = none ∧ pt_R s ν' (ck_f ρ) f ∧ lo_r ν ν') s) := by
  have hI0 := hI
  have b21 := hI.1.1.2.2.2.1
  have hc : 0 ≤ c ∧ c < ρ 0 12 := by omega
  have hst : ρ 15 c = 0 := by have := hI.2.2.2.2.2.2.2.2.1.1 (by omega); rw [hcm] at this; exact this
  obtain ⟨ic, ic0, ic1, ic2, ic3, ic4⟩ := pv_c hI hc (by omega)
  obtain ⟨hA, hU, h8, hD, hW, hO, hRg, hPc, hNv, hZ, hX⟩ := hI
  have b1 := hA.1.1
  have b12 := hA.1.2.2.1
  have hcd := hA.1.cd c hc.1 (by omega)
  have hK := hA.2.2.2.2.2.1 c hc.1 hc.2
  have hsl := fun i (h1 : 0 ≤ i) (h2 : i < 32) => (hA.1.2.2.2.2.2.2.2.1 i h1 h2).1
  have hob := hA.2.1.2.1 (ρ 14 c) (by omega) (by omega)
  have hoo := hO.2 (ρ 14 c) (by omega) (by omega)
  have hga := st_ga_N (E := E) (d := d + 1) (p := 55) (q := 56) (r := 57) (b := ρ 14 c) (w := 100 + c) hA hR hR.sh.2.2.2.2.2.1.2 (by omega) (by omega) hD hO hRg (by omega) (fun i h1 h2 h3 => by
    have hk := hA.2.2.2.2.2.2 i (by omega) (by omega) h3
    have hc2 := hA.1.cd (ρ 2 i - 100) (by omega) (by omega)
    constructor
    · intro h4 h5
      rw [h5, show 100 + c - 100 = c by omega] at h4
      omega
    · intro h4
      have : ρ 15 (ρ 2 i - 100) ≠ 0 := fun h5 => h4 (by have := hNv.2.1 (ρ 2 i - 100) (by omega) hk.1 h5; omega)
      omega) (j := ic - 4 * ρ 14 c) (by omega) (by rw [show 4 * ρ 14 c + (ic - 4 * ρ 14 c) = ic by omega]; exact ic2) (by omega)
  have hgw : ∀ a, (oc_m ρ (ρ 14 c) (100 + c)) a = 1 → ρ 5 (ρ 14 c) ≤ a ∧ a < ρ 6 (ρ 14 c) := fun a ha => by
    obtain ⟨j, k, j0, j1, k0, k1, a1, a2⟩ := oc_M (w := 100 + c) hsl (b := ρ 14 c) (by omega) a ha
    have := hW j k (by omega) (by omega) k0 k1 (by omega)
    rw [show j / 4 = ρ 14 c by omega] at this
    omega
  have KS : ∀ (ν3 ν4 : mm_T) (x e : Int) (q : Int → Int), ck_f ρ = mm_u (mm_u (pl_f ρ c x e q) 15 c 1) 0 21 (-1) → fg_P ρ c x e q → pt_R s ν3 ρ f → lo_r ν ν4 → cp_q ρ c q ν4 → ν4 (100 + ρ 14 c) 6 = x → ν4 (100 + ρ 14 c) 7 = e → (∀ p i, 50 ≤ p → ¬ (55 ≤ p ∧ p ≤ 64) → ¬ (100 ≤ p ∧ p < 108 ∧ i = 8) → ¬ (p = 100 + ρ 14 c ∧ (i = 6 ∨ i = 7)) → ν4 p i = ν3 p i) → sw_w E (d + 4) 44 (59, [some (2, 50), some (2, 300 + c)], []) s ν4 (sw_vr (fun v ν' => v = none ∧ pt_R s ν' (ck_f ρ) f ∧ lo_r ν ν') s) := by
    intro ν3 ν4 x e q hck hfg hR3 hlo hcp h46 h47 hne
    have hA4 : iv_A (pl_f ρ c x e q) f := by
      have h := iv_A_15 (c := c) (iv_pl hI0 hc hcm hfg).1 (by
        rw [mm_u_ne (by omega), mm_u_ne (by omega)]
        unfold pl_f
        rw [if_neg (by omega), if_neg (by omega), if_neg (by omega)]
        exact hc)
      rwa [pl_back hst hcm] at h
    have e12 : pl_f ρ c x e q 0 12 = ρ 0 12 := by unfold pl_f; rw [if_neg (by omega), if_neg (by omega), if_neg (by omega)]
    have hR4 : pt_R s ν4 (pl_f ρ c x e q) f := R_pl hA h8 hR3 hc hst ⟨h46, h47, fun k k0 k1 => by rw [hne (340 + c) k (by omega) (by omega) (by omega) (by omega)]; exact (hR3.cr c k hc.1 hc.2 k0 k1).1, fun p i q1 q2 q3 q4 _ => hne p i q1 q2 q3 q4⟩
    have hcpk : ∀ k, 0 ≤ k → k < 3 → mm_cp ν4 (340 + c) 0 64 0 3 (340 + c) k = ν4 64 k := fun k k0 k1 => by
      unfold mm_cp
      rw [if_pos (by omega), show 0 + (k - 0) = k by omega]
    have hcpn : ∀ p i, ¬ (p = 340 + c ∧ 0 ≤ i ∧ i < 3) → mm_cp ν4 (340 + c) 0 64 0 3 p i = ν4 p i := fun p i h => mm_cp_ne (by omega)
    have hR5 : pt_R s (mm_cp ν4 (340 + c) 0 64 0 3) (pl_f ρ c x e q) f := R_pl hA h8 hR3 hc hst ⟨by rw [hcpn _ _ (by omega)]; exact h46, by rw [hcpn _ _ (by omega)]; exact h47, fun k k0 k1 => by rw [hcpk k k0 k1]; exact (hcp k k0 k1).1, fun p i q1 q2 q3 q4 q5 => by rw [hcpn p i q5]; exact hne p i q1 q2 q3 q4⟩
    have h85 : iv_8 (pl_f ρ c x e q) := fun c2 c0 c1 => by
      rw [e12] at c1
      have er1 : ∀ p, p ≠ 17 → p ≠ 5 → p ≠ 6 → pl_f ρ c x e q p = ρ p := fun p h1 h2 h3 => by funext i; unfold pl_f; rw [if_neg h1, if_neg h2, if_neg h3]
      rw [mo_wt_c (congrFun (er1 0 (by omega) (by omega) (by omega)) 24) (er1 25 (by omega) (by omega) (by omega)) (er1 28 (by omega) (by omega) (by omega))]
      exact h8 c2 c0 c1
    have hR6 := R_ws hA4 h85 hR5 (c := c) (by rw [e12]; exact hc) (by unfold pl_f; rw [if_neg (by omega), if_neg (by omega), if_neg (by omega)]; exact hst) (fun k k0 k1 hz => by
      have hz : 0 < ρ 9 (3 * ρ 13 c + k) := by
        unfold pl_f at hz
        rw [if_neg (by omega), if_neg (by omega), if_neg (by omega), if_neg (by omega), if_neg (by omega), if_neg (by omega)] at hz
        exact hz
      rw [hcpk k k0 k1, (hcp k k0 k1).2 hz]
      unfold pl_f
      rw [if_pos rfl, if_pos (by omega), show 3 * c + k - 3 * c = k by omega, if_pos hz])
    rw [← hck] at hR6
    have hlo6 : lo_r ν (mm_u (mm_u (mm_cp ν4 (340 + c) 0 64 0 3) (300 + c) 6 1) 50 11 (-1)) := lo_tr (lo_tr (lo_tr hlo (fun p hp => by funext i; exact hcpn p i (by omega))) (lo_u (by omega))) (lo_u (by omega))
    refine sw_p 2 (f' := (61, [some (2, 50), some (2, 300 + c)], [(2, 300 + c), (2, 50)])) rfl ?_
    refine sw_cv1 (pn := 64) (q0 := mj_PT_examine) (q := mj_PT_settleIn) (p := 50) (as2 := [(2, 300 + c)]) (L2 := [some (2, 50), some (2, 300 + c)]) (rest := []) (v := none) (s1 := s) (ν1 := (mm_u (mm_u (mm_cp ν4 (340 + c) 0 64 0 3) (300 + c) 6 1) 50 11 (-1))) rfl rfl rfl rfl rfl rfl rfl rfl rfl hR.sh.1 (cl_si hA4 hR4 (by rw [e12]; exact hc)) ?_
    show sw_w E _ 44 (64, [some (2, 50), some (2, 300 + c)], []) s (mm_u (mm_u (mm_cp ν4 (340 + c) 0 64 0 3) (300 + c) 6 1) 50 11 (-1)) _
    refine sw_p 1 (f' := (113, [some (2, 50), some (2, 300 + c)], [])) rfl ?_
    exact sw_retV rfl rfl rfl ⟨_, rfl, rfl, rfl, hR6, hlo6⟩
  have hldb : 0 ≤ mo_ld (mo_me (ρ 0 1).toNat ρ) 0 ∧ mo_ld (mo_me (ρ 0 1).toNat ρ) 0 ≤ 4194304 := by
    have hfm := me_fr (ρ 0 1).toNat ρ
    have hq0 := hfm 0 (by decide)
    have h := ld_b (b := 0) (iv_A_fr (fr_w hfm (by decide)) hA).1 (iv_A_fr (fr_w hfm (by decide)) hA).2.1 (iv_A_fr (fr_w hfm (by decide)) hA).2.2.1 (by rw [hq0]; omega) (fun u h1 h2 => me_b (ρ 0 1).toNat ρ hA.1 hA.2.1 hA.2.2.1 (by omega) (fun u h3 h4 => by omega) u (by omega) (by rw [hq0] at h2; exact h2))
    have hbb : mo_bd (f 0) ≤ 4194304 := by unfold mo_bd; split <;> (try split) <;> (try split) <;> (try split) <;> omega
    omega
  have h19 : ρ 19 c = 0 := by
    by_cases h : 0 < ρ 19 c
    · have := hPc c hc.1 hc.2 h; omega
    · omega
  by_cases hp : ck_p ρ c 8 (ρ 14 c) 1 = 0
  · have hck : ck_f ρ = mo_rm (mm_u ρ 16 c 1) c 5 := by unfold ck_f; rw [hcm, if_pos hp]
    refine sw_p 1 (f' := (1, [some (2, 50), some (2, 300 + c)], [(2, 50)])) rfl ?_
    refine sw_hA (pn := 4) (i := 4) (v := 55) rfl rfl rfl rfl rfl hR.sh.1 hR.sh.2.2.2.2.2.1.1 (by omega) ?_
    refine sw_p 1 (f' := (5, [some (2, 50), some (2, 300 + c)], [(2, 300 + c), (2, 55)])) rfl ?_
    refine sw_hA (pn := 8) (i := 0) (v := 100 + ρ 14 c) rfl rfl rfl rfl rfl (hR.ca c (by omega) (by omega)).1 (hR.ca c (by omega) (by omega)).2.1 (by omega) ?_
    refine sw_p 1 (f' := (9, [some (2, 50), some (2, 300 + c)], [(3, 0), (2, 100 + ρ 14 c), (2, 55)])) rfl ?_
    refine sw_cv2 (pn := 12) (q0 := mj_PT_examine) (q := mj_St_gather) (p := 55) (as2 := [(2, 100 + ρ 14 c), (3, 0)]) (L2 := [some (2, 55), some (2, 100 + ρ 14 c), some (3, 0), none, none, none]) (rest := []) (s1 := s) rfl rfl rfl rfl rfl rfl rfl rfl rfl hR.sh.2.2.2.2.2.1.2.1.2 hga (fun v ν1 hv => ?_)
    obtain ⟨rfl, hf1, hJ, hn9⟩ := hv
    have hR := st_R (p := 55) (q := 56) (r := 57) (by omega) hA hf1 hR
    have hlo1 : lo_r ν ν1 := lo_fr hf1 (by decide)
    show sw_w E _ 44 (12, [some (2, 50), some (2, 300 + c)], []) s ν1 _
    refine sw_p 2 (f' := (14, [some (2, 50), some (2, 300 + c)], [(2, 300 + c), (2, 50)])) rfl ?_
    refine sw_cv1 (pn := 17) (q0 := mj_PT_examine) (q := mj_PT_exceedsPower) (p := 50) (as2 := [(2, 300 + c)]) (L2 := [some (2, 50), some (2, 300 + c), none]) (rest := []) (v := some (0, 1)) (s1 := s) (ν1 := ν1) rfl rfl rfl rfl rfl rfl rfl rfl rfl hR.sh.1 (by have h := cl_xp (E := E) (d := d + 1) hA hR hc; rw [if_pos hp] at h; exact h) ?_
    show sw_w E _ 44 (17, [some (2, 50), some (2, 300 + c)], [(0, 1)]) s ν1 _
    refine sw_eq1 (pt := 29) (pn := 20) rfl rfl rfl (by omega) (fun h => absurd h (by decide)) (fun _ => ?_)
    refine sw_p 3 (f' := (23, [some (2, 50), some (2, 300 + c)], [(0, 1), (2, 300 + c), (2, 50)])) rfl ?_
    refine sw_cv1 (pn := 26) (q0 := mj_PT_examine) (q := mj_PT_refuse) (p := 50) (as2 := [(2, 300 + c), (0, 1)]) (L2 := [some (2, 50), some (2, 300 + c), some (0, 1)]) (rest := []) (v := none) (s1 := s) (ν1 := (mm_u (mm_u (to_m s ν1 ρ c 5) (300 + c) 7 1) 50 11 (-1))) rfl rfl rfl rfl rfl rfl rfl rfl rfl hR.sh.1 (cl_rf (z := 1) hA hR hc) ?_
    show sw_w E _ 44 (26, [some (2, 50), some (2, 300 + c)], []) s (mm_u (mm_u (to_m s ν1 ρ c 5) (300 + c) 7 1) 50 11 (-1)) _
    refine sw_p 1 (f' := (113, [some (2, 50), some (2, 300 + c)], [])) rfl ?_
    exact sw_retV rfl rfl rfl ⟨_, rfl, rfl, rfl, by rw [hck]; exact R_rm hA hU h8 hR hc (by omega) (Or.inr rfl) h19 (rf_N hA hc hcm), lo_tr (lo_tr (lo_tr hlo1 (to_lo (by omega) hc.1)) (lo_u (by omega))) (lo_u (by omega))⟩
  · by_cases hps : ck_s ρ (ρ 0 12).toNat 0 0 = 0
    · skip
      refine sw_p 1 (f' := (1, [some (2, 50), some (2, 300 + c)], [(2, 50)])) rfl ?_
      refine sw_hA (pn := 4) (i := 4) (v := 55) rfl rfl rfl rfl rfl hR.sh.1 hR.sh.2.2.2.2.2.1.1 (by omega) ?_
      refine sw_p 1 (f' := (5, [some (2, 50), some (2, 300 + c)], [(2, 300 + c), (2, 55)])) rfl ?_
      refine sw_hA (pn := 8) (i := 0) (v := 100 + ρ 14 c) rfl rfl rfl rfl rfl (hR.ca c (by omega) (by omega)).1 (hR.ca c (by omega) (by omega)).2.1 (by omega) ?_
      refine sw_p 1 (f' := (9, [some (2, 50), some (2, 300 + c)], [(3, 0), (2, 100 + ρ 14 c), (2, 55)])) rfl ?_
      refine sw_cv2 (pn := 12) (q0 := mj_PT_examine) (q := mj_St_gather) (p := 55) (as2 := [(2, 100 + ρ 14 c), (3, 0)]) (L2 := [some (2, 55), some (2, 100 + ρ 14 c), some (3, 0), none, none, none]) (rest := []) (s1 := s) rfl rfl rfl rfl rfl rfl rfl rfl rfl hR.sh.2.2.2.2.2.1.2.1.2 hga (fun v ν1 hv => ?_)
      obtain ⟨rfl, hf1, hJ, hn9⟩ := hv
      have hR := st_R (p := 55) (q := 56) (r := 57) (by omega) hA hf1 hR
      have hlo1 : lo_r ν ν1 := lo_fr hf1 (by decide)
      show sw_w E _ 44 (12, [some (2, 50), some (2, 300 + c)], []) s ν1 _
      refine sw_p 2 (f' := (14, [some (2, 50), some (2, 300 + c)], [(2, 300 + c), (2, 50)])) rfl ?_
      refine sw_cv1 (pn := 17) (q0 := mj_PT_examine) (q := mj_PT_exceedsPower) (p := 50) (as2 := [(2, 300 + c)]) (L2 := [some (2, 50), some (2, 300 + c), none]) (rest := []) (v := some (0, 0)) (s1 := s) (ν1 := ν1) rfl rfl rfl rfl rfl rfl rfl rfl rfl hR.sh.1 (by have h := cl_xp (E := E) (d := d + 1) hA hR hc; rw [if_neg hp] at h; exact h) ?_
      show sw_w E _ 44 (17, [some (2, 50), some (2, 300 + c)], [(0, 0)]) s ν1 _
      refine sw_eq1 (pt := 29) (pn := 20) rfl rfl rfl (by omega) (fun _ => ?_) (fun h => absurd h (by decide))
      refine sw_p 3 (f' := (32, [some (2, 50), some (2, 300 + c)], [(2, 300 + c), (2, 300 + c), (2, 50)])) rfl ?_
      refine sw_hA (pn := 35) (i := 0) (v := 100 + ρ 14 c) rfl rfl rfl rfl rfl (hR.ca c (by omega) (by omega)).1 (hR.ca c (by omega) (by omega)).2.1 (by omega) ?_
      refine sw_gI (pn := 38) (i := 6) rfl rfl rfl rfl rfl (by omega) (hR.br (ρ 14 c) (by omega) (by omega)).1 ?_
      rw [show ν1 (100 + ρ 14 c) 6 = ρ 5 (ρ 14 c) from (hR.bn (ρ 14 c) (by omega) (by omega)).2.1]
      refine sw_p 1 (f' := (39, [some (2, 50), some (2, 300 + c)], [(2, 300 + c), (0, ρ 5 (ρ 14 c)), (2, 300 + c), (2, 50)])) rfl ?_
      refine sw_hA (pn := 42) (i := 0) (v := 100 + ρ 14 c) rfl rfl rfl rfl rfl (hR.ca c (by omega) (by omega)).1 (hR.ca c (by omega) (by omega)).2.1 (by omega) ?_
      refine sw_gI (pn := 45) (i := 7) rfl rfl rfl rfl rfl (by omega) (hR.br (ρ 14 c) (by omega) (by omega)).1 ?_
      rw [show ν1 (100 + ρ 14 c) 7 = ρ 6 (ρ 14 c) from (hR.bn (ρ 14 c) (by omega) (by omega)).2.2]
      refine sw_cv2 (pn := 48) (q0 := mj_PT_examine) (q := mj_PT_fits) (p := 50) (as2 := [(2, 300 + c), (0, ρ 5 (ρ 14 c)), (0, ρ 6 (ρ 14 c))]) (L2 := [some (2, 50), some (2, 300 + c), some (0, ρ 5 (ρ 14 c)), some (0, ρ 6 (ρ 14 c)), none, none, none, none]) (rest := []) (s1 := s) rfl rfl rfl rfl rfl rfl rfl rfl rfl hR.sh.1 (cl_fits2 (d := d + 2) hA hR hc (by omega) hJ hn9 hgw) (fun v ν2 hv => ?_)
      rcases hfr : ff_r ρ c (ρ 5 (ρ 14 c)) (ρ 6 (ρ 14 c)) (fun _ => 0) with _ | q1
      · skip
        rw [hfr] at hv
        obtain ⟨rfl, hf2⟩ := hv
        have hR := pt_R_fr hA.1 (cj_6 hf2) (fun _ _ => rfl) hR
        have hlo2 : lo_r ν ν2 := lo_tr hlo1 (lo_fr hf2 (by decide))
        have hJ2 : st_I ν2 55 56 57 (oc_m ρ (ρ 14 c) (100 + c)) := by unfold st_I; rw [hf2 55 (by decide), hf2 56 (by decide), hf2 57 (by decide)]; exact hJ
        have hn92 : ν2 55 2 ≤ 9 := by rw [hf2 55 (by decide)]; exact hn9
        show sw_w E _ 44 (48, [some (2, 50), some (2, 300 + c)], [(0, 0)]) s ν2 _
        refine sw_ne1 (pt := 59) (pn := 51) rfl rfl rfl (by omega) (fun h => absurd h (by decide)) (fun _ => ?_)
        refine sw_p 2 (f' := (53, [some (2, 50), some (2, 300 + c)], [(2, 300 + c), (2, 50)])) rfl ?_
        refine sw_cv2 (pn := 56) (q0 := mj_PT_examine) (q := mj_PT_grows) (p := 50) (as2 := [(2, 300 + c)]) (L2 := [some (2, 50), some (2, 300 + c), none, none, none]) (rest := []) (s1 := s) rfl rfl rfl rfl rfl rfl rfl rfl rfl hR.sh.1 (cl_grows (d := d) hA hR hc hD hW hO hRg hJ2 hn92 hgw (fun i i0 i1 hb h100 => by
            have hk := hA.2.2.2.2.2.2 i i0 i1 h100
            have hc2 := hA.1.cd (ρ 2 i - 100) (by omega) (by omega)
            have : ρ 15 (ρ 2 i - 100) ≠ 0 := fun h5 => hb (by have := hNv.2.1 (ρ 2 i - 100) (by omega) hk.1 h5; rw [this, hcm] at hk; omega)
            omega) (fun h30 => by
            have hov := hA.1.ov (ρ 14 c) (by omega) (by omega)
            have hb0 : ρ 14 c ≠ 0 := fun hz => by rw [hz] at hov h30; omega
            obtain ⟨i, i0, i1, i2⟩ := hNv.2.2.2 (ρ 14 c) (by omega) (by omega)
            have ht := hA.2.2.1.2.2 i i0 i1 (by omega) (by omega)
            rw [i2] at ht
            exact ⟨i - 4 * ρ 3 (ρ 14 c), by omega, by omega, by rw [show 4 * ρ 3 (ρ 14 c) + (i - 4 * ρ 3 (ρ 14 c)) = i by omega]; exact i2⟩)) (fun v ν3 hv => ?_)
        rcases hgr : gr_r ρ c with _ | ⟨x1, e1, q1⟩
        · skip
          rw [hgr] at hv
          obtain ⟨rfl, hf3⟩ := hv
          have hR := pt_R_fr hA.1 (cj_7 hf3) (fun _ _ => rfl) hR
          have hlo3 : lo_r ν ν3 := lo_tr hlo2 (lo_fr hf3 (by decide))
          have hck : ck_f ρ = if ck_s ρ (ρ 0 12).toNat 0 0 ≠ 0 then mo_rm (mm_u ρ 16 c 2) c 5 else if 4096 < mo_ld (mo_me (ρ 0 1).toNat ρ) 0 then mo_rm (mm_u ρ 16 c 3) c 5 else mo_ch (mm_u ρ 0 22 1) 1 2 := by unfold ck_f fg_r; rw [hcm, if_neg hp, hfr, hgr]
          show sw_w E _ 44 (56, [some (2, 50), some (2, 300 + c)], [(0, 0)]) s ν3 _
          refine sw_eq1 (pt := 67) (pn := 59) rfl rfl rfl (by omega) (fun _ => ?_) (fun h => absurd h (by decide))
          refine sw_p 1 (f' := (68, [some (2, 50), some (2, 300 + c)], [(2, 50)])) rfl ?_
          refine sw_cv1 (pn := 71) (q0 := mj_PT_examine) (q := mj_PT_canAllPause) (p := 50) (as2 := []) (L2 := [some (2, 50), none]) (rest := []) (v := some (0, 1)) (s1 := s) (ν1 := ν3) rfl rfl rfl rfl rfl rfl rfl rfl rfl hR.sh.1 (by have h := cl_cp (E := E) (d := d + 2) hA hR; rw [if_pos hps] at h; exact h) ?_
          show sw_w E _ 44 (71, [some (2, 50), some (2, 300 + c)], [(0, 1)]) s ν3 _
          refine sw_ne1 (pt := 83) (pn := 74) rfl rfl rfl (by omega) (fun _ => ?_) (fun h => absurd h (by decide))
          refine sw_p 1 (f' := (84, [some (2, 50), some (2, 300 + c)], [(2, 50)])) rfl ?_
          refine sw_cv2 (pn := 87) (q0 := mj_PT_examine) (q := mj_PT_measureBlocks) (p := 50) (as2 := []) (L2 := [some (2, 50), none, none]) (rest := []) (s1 := s) rfl rfl rfl rfl rfl rfl rfl rfl rfl hR.sh.1 (cl_mb (d := d + 1) hA hR) (fun v ν5 hv => ?_)
          obtain ⟨rfl, hv1, hv2⟩ := hv
          have hR := pt_R_fr hA.1 (fun p i h1 h2 h3 => hv1 p i h3) (fun _ _ => rfl) hR
          have hlo5 : lo_r ν ν5 := lo_tr hlo3 (fun p hp => by funext i; exact hv1 p i (by omega))
          rw [show (some (0, if (ρ 0 1).toNat = 0 then (0 : Int) else mo_ld (mo_me (ρ 0 1).toNat ρ) 0) : Option mg_V) = some (0, mo_ld (mo_me (ρ 0 1).toNat ρ) 0) by rw [if_neg (by omega)]]
          show sw_w E _ 44 (87, [some (2, 50), some (2, 300 + c)], [(0, mo_ld (mo_me (ρ 0 1).toNat ρ) 0)]) s ν5 _
          refine sw_p 1 (f' := (90, [some (2, 50), some (2, 300 + c)], [(0, 4096), (0, mo_ld (mo_me (ρ 0 1).toNat ρ) 0)])) rfl ?_
          refine sw_le2 (pt := 102) (pn := 93) rfl rfl rfl (by omega) (by omega) (fun m5 => ?_) (fun m5 => ?_)
          · skip
            refine sw_p 3 (f' := (105, [some (2, 50), some (2, 300 + c)], [(0, 2), (0, 1), (2, 50)])) rfl ?_
            refine sw_cv1 (pn := 108) (q0 := mj_PT_examine) (q := mj_PT_turnAll) (p := 50) (as2 := [(0, 1), (0, 2)]) (L2 := [some (2, 50), some (0, 1), some (0, 2), none]) (rest := []) (v := none) (s1 := s) (ν1 := (ta_m ν5 ρ 1 2 (ρ 0 12))) rfl rfl rfl rfl rfl rfl rfl rfl rfl hR.sh.1 (cl_ta hA hR (by omega)) ?_
            show sw_w E _ 44 (108, [some (2, 50), some (2, 300 + c)], []) s (ta_m ν5 ρ 1 2 (ρ 0 12)) _
            have hR7 := R_ch (x := 1) (y := 2) hA h8 hR (Or.inl ⟨rfl, rfl⟩)
            have hlo9 : lo_r ν (mm_u (ta_m ν5 ρ 1 2 (ρ 0 12)) 50 12 1) := lo_tr (lo_tr hlo5 (fun p hp => by funext i; exact ta_ne (by omega))) (lo_u (by omega))
            have hR9 : pt_R s (mm_u (ta_m ν5 ρ 1 2 (ρ 0 12)) 50 12 1) (ck_f ρ) f := by
              rw [hck, if_neg (show ¬ ck_s ρ (ρ 0 12).toNat 0 0 ≠ 0 by omega), if_neg (by omega)]
              exact R_22 hA h8 hR7
            refine sw_p 2 (f' := (110, [some (2, 50), some (2, 300 + c)], [(0, 1), (2, 50)])) rfl ?_
            refine sw_pZ (pn := 113) (i := 12) rfl rfl rfl rfl rfl (by omega) hR.sh.1 (by omega) ?_
            exact sw_retV rfl rfl rfl ⟨_, rfl, rfl, rfl, hR9, hlo9⟩
          · skip
            refine sw_p 3 (f' := (96, [some (2, 50), some (2, 300 + c)], [(0, 3), (2, 300 + c), (2, 50)])) rfl ?_
            refine sw_cv1 (pn := 99) (q0 := mj_PT_examine) (q := mj_PT_refuse) (p := 50) (as2 := [(2, 300 + c), (0, 3)]) (L2 := [some (2, 50), some (2, 300 + c), some (0, 3)]) (rest := []) (v := none) (s1 := s) (ν1 := (mm_u (mm_u (to_m s ν5 ρ c 5) (300 + c) 7 3) 50 11 (-1))) rfl rfl rfl rfl rfl rfl rfl rfl rfl hR.sh.1 (cl_rf (z := 3) hA hR hc) ?_
            show sw_w E _ 44 (99, [some (2, 50), some (2, 300 + c)], []) s (mm_u (mm_u (to_m s ν5 ρ c 5) (300 + c) 7 3) 50 11 (-1)) _
            refine sw_p 1 (f' := (113, [some (2, 50), some (2, 300 + c)], [])) rfl ?_
            exact sw_retV rfl rfl rfl ⟨_, rfl, rfl, rfl, by rw [hck, if_neg (show ¬ ck_s ρ (ρ 0 12).toNat 0 0 ≠ 0 by omega), if_pos (by omega)]; exact R_rm hA hU h8 hR hc (by omega) (Or.inr rfl) h19 (rf_N hA hc hcm), lo_tr (lo_tr (lo_tr hlo5 (to_lo (by omega) hc.1)) (lo_u (by omega))) (lo_u (by omega))⟩
        · skip
          rw [hgr] at hv
          obtain ⟨rfl, ν6, hf6, hcp, e6⟩ := hv
          have hfg : fg_r ρ c = some (x1, e1, q1) := by unfold fg_r; rw [hfr, hgr]
          have hck : ck_f ρ = mm_u (mm_u (pl_f ρ c x1 e1 q1) 15 c 1) 0 21 (-1) := by unfold ck_f; rw [hcm, if_neg hp, hfg]
          show sw_w E _ 44 (56, [some (2, 50), some (2, 300 + c)], [(0, 1)]) s ν3 _
          refine sw_eq1 (pt := 67) (pn := 59) rfl rfl rfl (by omega) (fun h => absurd h (by decide)) (fun _ => ?_)
          have hR6 := pt_R_fr hA.1 (cj_7 hf6) (fun _ _ => rfl) hR
          rw [e6]
          exact KS ν6 _ x1 e1 q1 hck (fg_p hI0 hc hfg) hR6 (lo_tr (lo_tr (lo_tr hlo2 (lo_fr hf6 (by decide))) (lo_u (by omega))) (lo_u (by omega))) (fun k k0 k1 => by rw [mm_u_ne (by omega), mm_u_ne (by omega)]; exact hcp k k0 k1) (by rw [mm_u_ne (by omega), mm_u_at]) mm_u_at (fun p i q1 q2 q3 q4 => by rw [mm_u_ne (by omega), mm_u_ne (by omega)])
      · skip
        rw [hfr] at hv
        obtain ⟨rfl, hf2, hv⟩ := hv
        have hfg : fg_r ρ c = some (ρ 5 (ρ 14 c), ρ 6 (ρ 14 c), q1) := by unfold fg_r; rw [hfr]
        have hck : ck_f ρ = mm_u (mm_u (pl_f ρ c (ρ 5 (ρ 14 c)) (ρ 6 (ρ 14 c)) q1) 15 c 1) 0 21 (-1) := by unfold ck_f; rw [hcm, if_neg hp, hfg]
        show sw_w E _ 44 (48, [some (2, 50), some (2, 300 + c)], [(0, 1)]) s ν2 _
        refine sw_ne1 (pt := 59) (pn := 51) rfl rfl rfl (by omega) (fun _ => ?_) (fun h => absurd h (by decide))
        exact KS ν2 ν2 _ _ q1 hck (fg_p hI0 hc hfg) (pt_R_fr hA.1 (cj_6 hf2) (fun _ _ => rfl) hR) (lo_tr hlo1 (lo_fr hf2 (by decide))) hv ((pt_R_fr hA.1 (cj_6 hf2) (fun _ _ => rfl) hR).bn (ρ 14 c) (by omega) (by omega)).2.1 ((pt_R_fr hA.1 (cj_6 hf2) (fun _ _ => rfl) hR).bn (ρ 14 c) (by omega) (by omega)).2.2 (fun _ _ _ _ _ _ => rfl)
    · skip
      refine sw_p 1 (f' := (1, [some (2, 50), some (2, 300 + c)], [(2, 50)])) rfl ?_
      refine sw_hA (pn := 4) (i := 4) (v := 55) rfl rfl rfl rfl rfl hR.sh.1 hR.sh.2.2.2.2.2.1.1 (by omega) ?_
      refine sw_p 1 (f' := (5, [some (2, 50), some (2, 300 + c)], [(2, 300 + c), (2, 55)])) rfl ?_
      refine sw_hA (pn := 8) (i := 0) (v := 100 + ρ 14 c) rfl rfl rfl rfl rfl (hR.ca c (by omega) (by omega)).1 (hR.ca c (by omega) (by omega)).2.1 (by omega) ?_
      refine sw_p 1 (f' := (9, [some (2, 50), some (2, 300 + c)], [(3, 0), (2, 100 + ρ 14 c), (2, 55)])) rfl ?_
      refine sw_cv2 (pn := 12) (q0 := mj_PT_examine) (q := mj_St_gather) (p := 55) (as2 := [(2, 100 + ρ 14 c), (3, 0)]) (L2 := [some (2, 55), some (2, 100 + ρ 14 c), some (3, 0), none, none, none]) (rest := []) (s1 := s) rfl rfl rfl rfl rfl rfl rfl rfl rfl hR.sh.2.2.2.2.2.1.2.1.2 hga (fun v ν1 hv => ?_)
      obtain ⟨rfl, hf1, hJ, hn9⟩ := hv
      have hR := st_R (p := 55) (q := 56) (r := 57) (by omega) hA hf1 hR
      have hlo1 : lo_r ν ν1 := lo_fr hf1 (by decide)
      show sw_w E _ 44 (12, [some (2, 50), some (2, 300 + c)], []) s ν1 _
      refine sw_p 2 (f' := (14, [some (2, 50), some (2, 300 + c)], [(2, 300 + c), (2, 50)])) rfl ?_
      refine sw_cv1 (pn := 17) (q0 := mj_PT_examine) (q := mj_PT_exceedsPower) (p := 50) (as2 := [(2, 300 + c)]) (L2 := [some (2, 50), some (2, 300 + c), none]) (rest := []) (v := some (0, 0)) (s1 := s) (ν1 := ν1) rfl rfl rfl rfl rfl rfl rfl rfl rfl hR.sh.1 (by have h := cl_xp (E := E) (d := d + 1) hA hR hc; rw [if_neg hp] at h; exact h) ?_
      show sw_w E _ 44 (17, [some (2, 50), some (2, 300 + c)], [(0, 0)]) s ν1 _
      refine sw_eq1 (pt := 29) (pn := 20) rfl rfl rfl (by omega) (fun _ => ?_) (fun h => absurd h (by decide))
      refine sw_p 3 (f' := (32, [some (2, 50), some (2, 300 + c)], [(2, 300 + c), (2, 300 + c), (2, 50)])) rfl ?_
      refine sw_hA (pn := 35) (i := 0) (v := 100 + ρ 14 c) rfl rfl rfl rfl rfl (hR.ca c (by omega) (by omega)).1 (hR.ca c (by omega) (by omega)).2.1 (by omega) ?_
      refine sw_gI (pn := 38) (i := 6) rfl rfl rfl rfl rfl (by omega) (hR.br (ρ 14 c) (by omega) (by omega)).1 ?_
      rw [show ν1 (100 + ρ 14 c) 6 = ρ 5 (ρ 14 c) from (hR.bn (ρ 14 c) (by omega) (by omega)).2.1]
      refine sw_p 1 (f' := (39, [some (2, 50), some (2, 300 + c)], [(2, 300 + c), (0, ρ 5 (ρ 14 c)), (2, 300 + c), (2, 50)])) rfl ?_
      refine sw_hA (pn := 42) (i := 0) (v := 100 + ρ 14 c) rfl rfl rfl rfl rfl (hR.ca c (by omega) (by omega)).1 (hR.ca c (by omega) (by omega)).2.1 (by omega) ?_
      refine sw_gI (pn := 45) (i := 7) rfl rfl rfl rfl rfl (by omega) (hR.br (ρ 14 c) (by omega) (by omega)).1 ?_
      rw [show ν1 (100 + ρ 14 c) 7 = ρ 6 (ρ 14 c) from (hR.bn (ρ 14 c) (by omega) (by omega)).2.2]
      refine sw_cv2 (pn := 48) (q0 := mj_PT_examine) (q := mj_PT_fits) (p := 50) (as2 := [(2, 300 + c), (0, ρ 5 (ρ 14 c)), (0, ρ 6 (ρ 14 c))]) (L2 := [some (2, 50), some (2, 300 + c), some (0, ρ 5 (ρ 14 c)), some (0, ρ 6 (ρ 14 c)), none, none, none, none]) (rest := []) (s1 := s) rfl rfl rfl rfl rfl rfl rfl rfl rfl hR.sh.1 (cl_fits2 (d := d + 2) hA hR hc (by omega) hJ hn9 hgw) (fun v ν2 hv => ?_)
      rcases hfr : ff_r ρ c (ρ 5 (ρ 14 c)) (ρ 6 (ρ 14 c)) (fun _ => 0) with _ | q1
      · skip
        rw [hfr] at hv
        obtain ⟨rfl, hf2⟩ := hv
        have hR := pt_R_fr hA.1 (cj_6 hf2) (fun _ _ => rfl) hR
        have hlo2 : lo_r ν ν2 := lo_tr hlo1 (lo_fr hf2 (by decide))
        have hJ2 : st_I ν2 55 56 57 (oc_m ρ (ρ 14 c) (100 + c)) := by unfold st_I; rw [hf2 55 (by decide), hf2 56 (by decide), hf2 57 (by decide)]; exact hJ
        have hn92 : ν2 55 2 ≤ 9 := by rw [hf2 55 (by decide)]; exact hn9
        show sw_w E _ 44 (48, [some (2, 50), some (2, 300 + c)], [(0, 0)]) s ν2 _
        refine sw_ne1 (pt := 59) (pn := 51) rfl rfl rfl (by omega) (fun h => absurd h (by decide)) (fun _ => ?_)
        refine sw_p 2 (f' := (53, [some (2, 50), some (2, 300 + c)], [(2, 300 + c), (2, 50)])) rfl ?_
        refine sw_cv2 (pn := 56) (q0 := mj_PT_examine) (q := mj_PT_grows) (p := 50) (as2 := [(2, 300 + c)]) (L2 := [some (2, 50), some (2, 300 + c), none, none, none]) (rest := []) (s1 := s) rfl rfl rfl rfl rfl rfl rfl rfl rfl hR.sh.1 (cl_grows (d := d) hA hR hc hD hW hO hRg hJ2 hn92 hgw (fun i i0 i1 hb h100 => by
            have hk := hA.2.2.2.2.2.2 i i0 i1 h100
            have hc2 := hA.1.cd (ρ 2 i - 100) (by omega) (by omega)
            have : ρ 15 (ρ 2 i - 100) ≠ 0 := fun h5 => hb (by have := hNv.2.1 (ρ 2 i - 100) (by omega) hk.1 h5; rw [this, hcm] at hk; omega)
            omega) (fun h30 => by
            have hov := hA.1.ov (ρ 14 c) (by omega) (by omega)
            have hb0 : ρ 14 c ≠ 0 := fun hz => by rw [hz] at hov h30; omega
            obtain ⟨i, i0, i1, i2⟩ := hNv.2.2.2 (ρ 14 c) (by omega) (by omega)
            have ht := hA.2.2.1.2.2 i i0 i1 (by omega) (by omega)
            rw [i2] at ht
            exact ⟨i - 4 * ρ 3 (ρ 14 c), by omega, by omega, by rw [show 4 * ρ 3 (ρ 14 c) + (i - 4 * ρ 3 (ρ 14 c)) = i by omega]; exact i2⟩)) (fun v ν3 hv => ?_)
        rcases hgr : gr_r ρ c with _ | ⟨x1, e1, q1⟩
        · skip
          rw [hgr] at hv
          obtain ⟨rfl, hf3⟩ := hv
          have hR := pt_R_fr hA.1 (cj_7 hf3) (fun _ _ => rfl) hR
          have hlo3 : lo_r ν ν3 := lo_tr hlo2 (lo_fr hf3 (by decide))
          have hck : ck_f ρ = if ck_s ρ (ρ 0 12).toNat 0 0 ≠ 0 then mo_rm (mm_u ρ 16 c 2) c 5 else if 4096 < mo_ld (mo_me (ρ 0 1).toNat ρ) 0 then mo_rm (mm_u ρ 16 c 3) c 5 else mo_ch (mm_u ρ 0 22 1) 1 2 := by unfold ck_f fg_r; rw [hcm, if_neg hp, hfr, hgr]
          show sw_w E _ 44 (56, [some (2, 50), some (2, 300 + c)], [(0, 0)]) s ν3 _
          refine sw_eq1 (pt := 67) (pn := 59) rfl rfl rfl (by omega) (fun _ => ?_) (fun h => absurd h (by decide))
          refine sw_p 1 (f' := (68, [some (2, 50), some (2, 300 + c)], [(2, 50)])) rfl ?_
          refine sw_cv1 (pn := 71) (q0 := mj_PT_examine) (q := mj_PT_canAllPause) (p := 50) (as2 := []) (L2 := [some (2, 50), none]) (rest := []) (v := some (0, 0)) (s1 := s) (ν1 := ν3) rfl rfl rfl rfl rfl rfl rfl rfl rfl hR.sh.1 (by have h := cl_cp (E := E) (d := d + 2) hA hR; rw [if_neg hps] at h; exact h) ?_
          show sw_w E _ 44 (71, [some (2, 50), some (2, 300 + c)], [(0, 0)]) s ν3 _
          refine sw_ne1 (pt := 83) (pn := 74) rfl rfl rfl (by omega) (fun h => absurd h (by decide)) (fun _ => ?_)
          refine sw_p 3 (f' := (77, [some (2, 50), some (2, 300 + c)], [(0, 2), (2, 300 + c), (2, 50)])) rfl ?_
          refine sw_cv1 (pn := 80) (q0 := mj_PT_examine) (q := mj_PT_refuse) (p := 50) (as2 := [(2, 300 + c), (0, 2)]) (L2 := [some (2, 50), some (2, 300 + c), some (0, 2)]) (rest := []) (v := none) (s1 := s) (ν1 := (mm_u (mm_u (to_m s ν3 ρ c 5) (300 + c) 7 2) 50 11 (-1))) rfl rfl rfl rfl rfl rfl rfl rfl rfl hR.sh.1 (cl_rf (z := 2) hA hR hc) ?_
          show sw_w E _ 44 (80, [some (2, 50), some (2, 300 + c)], []) s (mm_u (mm_u (to_m s ν3 ρ c 5) (300 + c) 7 2) 50 11 (-1)) _
          refine sw_p 1 (f' := (113, [some (2, 50), some (2, 300 + c)], [])) rfl ?_
          exact sw_retV rfl rfl rfl ⟨_, rfl, rfl, rfl, by rw [hck, if_pos hps]; exact R_rm hA hU h8 hR hc (by omega) (Or.inr rfl) h19 (rf_N hA hc hcm), lo_tr (lo_tr (lo_tr hlo3 (to_lo (by omega) hc.1)) (lo_u (by omega))) (lo_u (by omega))⟩
        · skip
          rw [hgr] at hv
          obtain ⟨rfl, ν6, hf6, hcp, e6⟩ := hv
          have hfg : fg_r ρ c = some (x1, e1, q1) := by unfold fg_r; rw [hfr, hgr]
          have hck : ck_f ρ = mm_u (mm_u (pl_f ρ c x1 e1 q1) 15 c 1) 0 21 (-1) := by unfold ck_f; rw [hcm, if_neg hp, hfg]
          show sw_w E _ 44 (56, [some (2, 50), some (2, 300 + c)], [(0, 1)]) s ν3 _
          refine sw_eq1 (pt := 67) (pn := 59) rfl rfl rfl (by omega) (fun h => absurd h (by decide)) (fun _ => ?_)
          have hR6 := pt_R_fr hA.1 (cj_7 hf6) (fun _ _ => rfl) hR
          rw [e6]
          exact KS ν6 _ x1 e1 q1 hck (fg_p hI0 hc hfg) hR6 (lo_tr (lo_tr (lo_tr hlo2 (lo_fr hf6 (by decide))) (lo_u (by omega))) (lo_u (by omega))) (fun k k0 k1 => by rw [mm_u_ne (by omega), mm_u_ne (by omega)]; exact hcp k k0 k1) (by rw [mm_u_ne (by omega), mm_u_at]) mm_u_at (fun p i q1 q2 q3 q4 => by rw [mm_u_ne (by omega), mm_u_ne (by omega)])
      · skip
        rw [hfr] at hv
        obtain ⟨rfl, hf2, hv⟩ := hv
        have hfg : fg_r ρ c = some (ρ 5 (ρ 14 c), ρ 6 (ρ 14 c), q1) := by unfold fg_r; rw [hfr]
        have hck : ck_f ρ = mm_u (mm_u (pl_f ρ c (ρ 5 (ρ 14 c)) (ρ 6 (ρ 14 c)) q1) 15 c 1) 0 21 (-1) := by unfold ck_f; rw [hcm, if_neg hp, hfg]
        show sw_w E _ 44 (48, [some (2, 50), some (2, 300 + c)], [(0, 1)]) s ν2 _
        refine sw_ne1 (pt := 59) (pn := 51) rfl rfl rfl (by omega) (fun _ => ?_) (fun h => absurd h (by decide))
        exact KS ν2 ν2 _ _ q1 hck (fg_p hI0 hc hfg) (pt_R_fr hA.1 (cj_6 hf2) (fun _ _ => rfl) hR) (lo_tr hlo1 (lo_fr hf2 (by decide))) hv ((pt_R_fr hA.1 (cj_6 hf2) (fun _ _ => rfl) hR).bn (ρ 14 c) (by omega) (by omega)).2.1 ((pt_R_fr hA.1 (cj_6 hf2) (fun _ _ => rfl) hR).bn (ρ 14 c) (by omega) (by omega)).2.2 (fun _ _ _ _ _ _ => rfl)
end EX
