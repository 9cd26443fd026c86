/-! the law: every call -/
section LW3
variable {E : mv_E} {s s1 ν ν1 ν2 ρ ρ' : mm_T} {f f' : Int → Int} {d j tg : Nat} {g : mg_F} {c i k p r w x y z : Int} {Q : nm_O → mm_T → mm_T → Prop} {o5 o6 o7 : Option mg_V}
theorem i3_b (x : Int32) : -2147483648 ≤ x.toInt ∧ x.toInt < 2147483648 := by
  have h1 := Int32.le_toInt x
  have h2 := Int32.toInt_lt x
  omega
theorem rq_lb : ∀ p ∈ rq_l, p < 40 := by decide
theorem lw_x (hI : lw_I ρ f s ν) (n1 : ns_r s s1) (l1 : ∀ p, p < 40 → ν1 p = ν p) : rq_r ρ ν1 ∧ mo_sh s1 ∧ iv_I ν1 f ∧ mo_b1 ν1 29 ∧ mo_b1 ν1 30 := by
  obtain ⟨hs, -, hiv, -, -, hrq, h29, h30⟩ := hI
  have hq : rq_r ρ ν1 := ⟨fun p hp => (l1 p (rq_lb p hp)).trans (hrq.1 p hp), fun i hi => by rw [l1 0 (by decide)]; exact hrq.2 i hi⟩
  refine ⟨hq, ns_sh n1 hs, rq_I hq hiv, ?_, ?_⟩
  · unfold mo_b1
    rw [l1 29 (by decide)]
    exact h29
  · unfold mo_b1
    rw [l1 30 (by decide)]
    exact h30
theorem mr_ok (w : sw_w E d j g s ν (sw_is (some (tg, r)) s ν2)) (h0 : ν2 0 0 = 0) (hq : rq_r ρ' ν2) (he : he_r ν ν2) (b29 : mo_b1 ν 29) (b30 : mo_b1 ν 30) : sw_w E d j g s ν (mr_e tg 0 r ρ' s ν) := sw_mono w (fun o s2 ν3 ⟨e1, e2, e3⟩ => by
  subst e3
  exact ⟨r, e1, e2, h0, fun _ => rfl, hq, he_hi he, he_b he (by decide) b29, he_b he (by decide) b30⟩)
theorem mr_ex (w : sw_w E d j g s ν (sw_is (some (tg, z)) s (mo_cd ν k))) (hk : k ≠ 0) (hq : rq_r ρ ν) (b29 : mo_b1 ν 29) (b30 : mo_b1 ν 30) : sw_w E d j g s ν (mr_e tg k r ρ s ν) := sw_mono w (fun o s2 ν3 ⟨e1, e2, e3⟩ => by
  subst e3
  exact ⟨z, e1, e2, mm_u_at, fun h => absurd h hk, rq_cd hq, he_hi he_cd, he_b he_cd (by decide) b29, he_b he_cd (by decide) b30⟩)
theorem mr_ex2 (w : sw_w E d j g s ν (sw_is (some (tg, z)) s (mm_u (mo_cd ν 0) 0 0 k))) (hk : k ≠ 0) (hq : rq_r ρ ν) (b29 : mo_b1 ν 29) (b30 : mo_b1 ν 30) : sw_w E d j g s ν (mr_e tg k r ρ s ν) := by
  rw [show mm_u (mo_cd ν 0) 0 0 k = mo_cd ν k from mm_uu] at w
  exact mr_ex w hk hq b29 b30
theorem md_ok (w : sw_w E d j g s ν (sw_is (some (0, r)) s (mo_cd ν z))) (hq : rq_r ρ ν) (b29 : mo_b1 ν 29) (b30 : mo_b1 ν 30) : sw_w E d j g s ν (mr_d r ρ s ν) := sw_mono w (fun o s2 ν3 ⟨e1, e2, e3⟩ => by
  subst e3
  exact ⟨e1, e2, rq_cd hq, he_hi he_cd, he_b he_cd (by decide) b29, he_b he_cd (by decide) b30⟩)
theorem z0_ls : mo_ls ν c w 0 0 = ν 0 0 := rg_ne (by omega)
theorem z0_lv : mo_lv ν c 0 0 = 0 := (mm_u_ne (by omega)).trans mm_u_at
theorem z0_rm : mo_rm ν c y 0 0 = ν 0 0 := by
  unfold mo_rm mo_rm3 mo_rm2 mo_rm1
  rw [mm_u_ne (by omega), rg_ne (by omega), rg_ne (by omega), mm_u_ne (by omega), mm_u_ne (by omega)]
theorem z0_pu : mo_pu ν c 0 0 = 0 := by
  unfold mo_pu
  split
  · exact (rg_ne (by omega)).trans mm_u_at
  · exact mm_u_at
theorem z0_wk : wk_f (mo_cd ν 0) c 0 0 = 0 := by
  unfold wk_f
  split
  · unfold mo_wf
    rw [mm_u_ne (by omega), mm_u_ne (by omega), mm_u_ne (by omega)]
    exact mm_u_at
  · rw [mm_u_ne (by omega)]
    exact mm_u_at
theorem z0_br {b l : Int} : mo_br ν b x l 0 0 = 0 := by
  unfold mo_br
  rw [mm_u_ne (by omega), mm_u_ne (by omega), mm_u_ne (by omega), mm_u_ne (by omega)]
  exact mm_u_at
theorem z0_ty {v : Int} : mo_ty ν x y z w v 0 0 = 0 := by
  unfold mo_ty
  rw [mm_u_ne (by omega), mm_u_ne (by omega), mm_u_ne (by omega), mm_u_ne (by omega), mm_u_ne (by omega), mm_u_ne (by omega)]
  exact mm_u_at
theorem z0_pg {b t : Int} : mo_pl ν b x t 0 0 = 0 := by
  unfold mo_pl
  rw [mm_u_ne (by omega), mm_u_ne (by omega), mm_u_ne (by omega), mm_u_ne (by omega), mm_u_ne (by omega), mm_u_ne (by omega), mm_u_ne (by omega), mm_u_ne (by omega), mm_u_ne (by omega), mm_u_ne (by omega)]
  exact mm_u_at
theorem z0_nq : mo_rq ν c x w 0 0 = 0 := by
  unfold mo_rq
  rw [mm_u_ne (by omega), mm_u_ne (by omega), mm_u_ne (by omega), mm_u_ne (by omega), mm_u_ne (by omega)]
  exact mm_u_at
theorem lq_127 (hS : E.2.1 < E.1) (hlen : E.2.2.1 ≤ 3072) (hi : 0 ≤ i ∧ i + 6 ≤ (E.2.2.1 : Int)) (hI : lw_I ρ f s ν) (hK : ∀ ρ' f' s' ν' o5 o6 o7, ns_r s s' → lw_I ρ' f' s' ν' → ρ' 0 24 ≤ ρ 0 24 + 1 → sw_w E 11 140 (1122, [some (2, 9001), some (2, 50), some (2, 0), some (2, 40), some (0, i), o5, o6, o7], []) s' ν' Q) : sw_w E 11 140 (124, [some (2, 9001), some (2, 50), some (2, 0), some (2, 40), some (0, i), o5, o6, o7], []) s ν Q := by
  obtain ⟨hs, h40, hiv, hR, hu, hrq, h29, h30⟩ := id hI
  have h50 := hR.sh.1
  have b1 := hiv.1.1.1
  have b12 := hiv.1.1.2.2.1
  have b24 := hiv.1.1.2.2.2.2.2.1
  generalize hx1 : (E.2.2.2.1 (i + 1).toNat).toInt = x1
  have hb1 := i3_b (E.2.2.2.1 (i + 1).toNat)
  rw [hx1] at hb1
  generalize hx2 : (E.2.2.2.1 (i + 2).toNat).toInt = x2
  have hb2 := i3_b (E.2.2.2.1 (i + 2).toNat)
  rw [hx2] at hb2
  generalize hx3 : (E.2.2.2.1 (i + 3).toNat).toInt = x3
  have hb3 := i3_b (E.2.2.2.1 (i + 3).toNat)
  rw [hx3] at hb3
  by_cases c1 : 0 ≤ x1 ∧ x1 < ρ 0 1
  · skip
    by_cases c2 : 0 ≤ x2 ∧ x2 ≤ 3
    · skip
      by_cases c3 : 0 ≤ x3 ∧ x3 ≤ 1000
      · skip
        by_cases c4 : ρ 2 (4 * x1 + x2) = -1
        · skip
          by_cases c5 : ρ 0 1 = 8
          · skip
            refine lo_127 (k := 2) (r := 0) (d := 10) hS hlen hi hx1 hb1 hx2 hb2 hx3 hb3 hI (hiv) (by decide) (wx_127_9 (d := 9) (cl_br_s2 (d := 7) hiv hR c1 c2 c3 c4 c5 (by decide)) h50 hiv.1.1 hR hu) (fun s' ν' n1 l1 => ?_) (fun s' ν' o5 o6 o7 n h => hK _ _ s' ν' o5 o6 o7 n h (by omega))
            obtain ⟨hq, hs', hIn, g29, g30⟩ := lw_x hI n1 l1
            have hB' := hIn.1.1
            have q1 := hq.2 1 (by decide)
            have q8 := hq.2 8 (by decide)
            have q12 := hq.2 12 (by decide)
            have q21 := hq.2 21 (by decide)
            have q22 := hq.2 22 (by decide)
            have q24 := hq.2 24 (by decide)
            exact mr_ex2 (mo_bridge_s2 (d := 9) hs' hB' (by rw [q1]; exact c1) c2 c3 (by rw [hq.1 2 (by decide)]; exact c4) (by rw [q1]; exact c5)) (by decide) hq g29 g30
          · skip
            by_cases c6 : f x1 = 4
            · skip
              refine lo_127 (k := 2) (r := 0) (d := 10) hS hlen hi hx1 hb1 hx2 hb2 hx3 hb3 hI (hiv) (by decide) (wx_127_9 (d := 9) (cl_br_s3 (d := 7) hiv hR c1 c2 c3 c4 c5 c6 (by decide)) h50 hiv.1.1 hR hu) (fun s' ν' n1 l1 => ?_) (fun s' ν' o5 o6 o7 n h => hK _ _ s' ν' o5 o6 o7 n h (by omega))
              obtain ⟨hq, hs', hIn, g29, g30⟩ := lw_x hI n1 l1
              have hB' := hIn.1.1
              have q1 := hq.2 1 (by decide)
              have q8 := hq.2 8 (by decide)
              have q12 := hq.2 12 (by decide)
              have q21 := hq.2 21 (by decide)
              have q22 := hq.2 22 (by decide)
              have q24 := hq.2 24 (by decide)
              have ec := cnt_f hB' hIn.1.2.2.1 8 x1 c1.1 (by rw [q1]; exact c1.2) (by omega)
              exact mr_ex2 (mo_bridge_s3 (d := 9) hs' hB' (by rw [q1]; exact c1) c2 c3 (by rw [hq.1 2 (by decide)]; exact c4) (by rw [q1]; exact c5) (by rw [ec]; exact c6)) (by decide) hq g29 g30
            · skip
              by_cases c7 : ρ 0 21 < 0
              · skip
                refine lo_127 (k := 0) (r := ρ 0 1) (d := 10) hS hlen hi hx1 hb1 hx2 hb2 hx3 hb3 hI (iv_br hiv c1 c2 c3 c4 c5 c6 c7) (by decide) (ww_127 (d := 9) (cc_vs (cl_br (d := 7) hiv hR hu c1 c2 c3 c4 c5 c6 c7)) h40 h50 (iv_br hiv c1 c2 c3 c4 c5 c6 c7).1.1) (fun s' ν' n1 l1 => ?_) (fun s' ν' o5 o6 o7 n h => hK _ _ s' ν' o5 o6 o7 n h (by rw [br_0 (by omega)]; omega))
                obtain ⟨hq, hs', hIn, g29, g30⟩ := lw_x hI n1 l1
                have hB' := hIn.1.1
                have q1 := hq.2 1 (by decide)
                have q8 := hq.2 8 (by decide)
                have q12 := hq.2 12 (by decide)
                have q21 := hq.2 21 (by decide)
                have q22 := hq.2 22 (by decide)
                have q24 := hq.2 24 (by decide)
                have ec := cnt_f hB' hIn.1.2.2.1 8 x1 c1.1 (by rw [q1]; exact c1.2) (by omega)
                have w := mo_bridge_ok (E := E) (d := 9) hs' hB' (by rw [q1]; exact c1) c2 c3 (by rw [hq.1 2 (by decide)]; exact c4) (by rw [q1]; exact c5) (by rw [ec]; exact c6) (by rw [q21]; exact c7)
                rw [show ν' 0 1 + 1 - 1 = ρ 0 1 by omega] at w
                exact mr_ok w (z0_br) (rq_br hq) (he_br) g29 g30
              · skip
                refine lo_127 (k := 2) (r := 0) (d := 10) hS hlen hi hx1 hb1 hx2 hb2 hx3 hb3 hI (hiv) (by decide) (wx_127_9 (d := 9) (cl_br_s4 (d := 7) hiv hR c1 c2 c3 c4 c5 c6 (by omega) (by decide)) h50 hiv.1.1 hR hu) (fun s' ν' n1 l1 => ?_) (fun s' ν' o5 o6 o7 n h => hK _ _ s' ν' o5 o6 o7 n h (by omega))
                obtain ⟨hq, hs', hIn, g29, g30⟩ := lw_x hI n1 l1
                have hB' := hIn.1.1
                have q1 := hq.2 1 (by decide)
                have q8 := hq.2 8 (by decide)
                have q12 := hq.2 12 (by decide)
                have q21 := hq.2 21 (by decide)
                have q22 := hq.2 22 (by decide)
                have q24 := hq.2 24 (by decide)
                have ec := cnt_f hB' hIn.1.2.2.1 8 x1 c1.1 (by rw [q1]; exact c1.2) (by omega)
                exact mr_ex2 (mo_bridge_s4 (d := 9) hs' hB' (by rw [q1]; exact c1) c2 c3 (by rw [hq.1 2 (by decide)]; exact c4) (by rw [q1]; exact c5) (by rw [ec]; exact c6) (by omega)) (by decide) hq g29 g30
        · skip
          refine lo_127 (k := 2) (r := 0) (d := 10) hS hlen hi hx1 hb1 hx2 hb2 hx3 hb3 hI (hiv) (by decide) (wx_127_9 (d := 9) (cl_br_s1 (d := 7) hiv hR c1 c2 c3 c4 (by decide)) h50 hiv.1.1 hR hu) (fun s' ν' n1 l1 => ?_) (fun s' ν' o5 o6 o7 n h => hK _ _ s' ν' o5 o6 o7 n h (by omega))
          obtain ⟨hq, hs', hIn, g29, g30⟩ := lw_x hI n1 l1
          have hB' := hIn.1.1
          have q1 := hq.2 1 (by decide)
          have q8 := hq.2 8 (by decide)
          have q12 := hq.2 12 (by decide)
          have q21 := hq.2 21 (by decide)
          have q22 := hq.2 22 (by decide)
          have q24 := hq.2 24 (by decide)
          exact mr_ex2 (mo_bridge_s1 (d := 9) hs' hB' (by rw [q1]; exact c1) c2 c3 (by rw [hq.1 2 (by decide)]; exact c4)) (by decide) hq g29 g30
      · skip
        refine lo_127 (k := 1) (r := 0) (d := 10) hS hlen hi hx1 hb1 hx2 hb2 hx3 hb3 hI (hiv) (by decide) (wx_127_8 (d := 9) (cl_br_b3 (d := 7) hiv hR c1 c2 hb3 c3 (by decide)) h50 hiv.1.1 hR hu) (fun s' ν' n1 l1 => ?_) (fun s' ν' o5 o6 o7 n h => hK _ _ s' ν' o5 o6 o7 n h (by omega))
        obtain ⟨hq, hs', hIn, g29, g30⟩ := lw_x hI n1 l1
        have hB' := hIn.1.1
        have q1 := hq.2 1 (by decide)
        have q8 := hq.2 8 (by decide)
        have q12 := hq.2 12 (by decide)
        have q21 := hq.2 21 (by decide)
        have q22 := hq.2 22 (by decide)
        have q24 := hq.2 24 (by decide)
        exact mr_ex (mo_bridge_b3 (d := 9) hs' hB' (by rw [q1]; exact c1) c2 hb3 c3) (by decide) hq g29 g30
    · skip
      refine lo_127 (k := 1) (r := 0) (d := 10) hS hlen hi hx1 hb1 hx2 hb2 hx3 hb3 hI (hiv) (by decide) (wx_127_8 (d := 9) (cl_br_b2 (d := 7) hiv hR c1 hb2 c2 (by decide)) h50 hiv.1.1 hR hu) (fun s' ν' n1 l1 => ?_) (fun s' ν' o5 o6 o7 n h => hK _ _ s' ν' o5 o6 o7 n h (by omega))
      obtain ⟨hq, hs', hIn, g29, g30⟩ := lw_x hI n1 l1
      have hB' := hIn.1.1
      have q1 := hq.2 1 (by decide)
      have q8 := hq.2 8 (by decide)
      have q12 := hq.2 12 (by decide)
      have q21 := hq.2 21 (by decide)
      have q22 := hq.2 22 (by decide)
      have q24 := hq.2 24 (by decide)
      exact mr_ex (mo_bridge_b2 (d := 9) hs' hB' (by rw [q1]; exact c1) hb2 c2) (by decide) hq g29 g30
  · skip
    refine lo_127 (k := 1) (r := 0) (d := 10) hS hlen hi hx1 hb1 hx2 hb2 hx3 hb3 hI (hiv) (by decide) (wx_127_8 (d := 9) (cl_br_b1 (d := 7) hiv hR hb1 c1 (by decide)) h50 hiv.1.1 hR hu) (fun s' ν' n1 l1 => ?_) (fun s' ν' o5 o6 o7 n h => hK _ _ s' ν' o5 o6 o7 n h (by omega))
    obtain ⟨hq, hs', hIn, g29, g30⟩ := lw_x hI n1 l1
    have hB' := hIn.1.1
    have q1 := hq.2 1 (by decide)
    have q8 := hq.2 8 (by decide)
    have q12 := hq.2 12 (by decide)
    have q21 := hq.2 21 (by decide)
    have q22 := hq.2 22 (by decide)
    have q24 := hq.2 24 (by decide)
    exact mr_ex (mo_bridge_b1 (d := 9) hs' hB' hb1 (by rw [q1]; exact c1)) (by decide) hq g29 g30
theorem lq_128 (hS : E.2.1 < E.1) (hlen : E.2.2.1 ≤ 3072) (hi : 0 ≤ i ∧ i + 6 ≤ (E.2.2.1 : Int)) (hI : lw_I ρ f s ν) (hK : ∀ ρ' f' s' ν' o5 o6 o7, ns_r s s' → lw_I ρ' f' s' ν' → ρ' 0 24 ≤ ρ 0 24 + 1 → sw_w E 11 140 (1122, [some (2, 9001), some (2, 50), some (2, 0), some (2, 40), some (0, i), o5, o6, o7], []) s' ν' Q) : sw_w E 11 140 (204, [some (2, 9001), some (2, 50), some (2, 0), some (2, 40), some (0, i), o5, o6, o7], []) s ν Q := by
  obtain ⟨hs, h40, hiv, hR, hu, hrq, h29, h30⟩ := id hI
  have h50 := hR.sh.1
  have b1 := hiv.1.1.1
  have b12 := hiv.1.1.2.2.1
  have b24 := hiv.1.1.2.2.2.2.2.1
  generalize hx1 : (E.2.2.2.1 (i + 1).toNat).toInt = x1
  have hb1 := i3_b (E.2.2.2.1 (i + 1).toNat)
  rw [hx1] at hb1
  generalize hx2 : (E.2.2.2.1 (i + 2).toNat).toInt = x2
  have hb2 := i3_b (E.2.2.2.1 (i + 2).toNat)
  rw [hx2] at hb2
  generalize hx3 : (E.2.2.2.1 (i + 3).toNat).toInt = x3
  have hb3 := i3_b (E.2.2.2.1 (i + 3).toNat)
  rw [hx3] at hb3
  generalize hx4 : (E.2.2.2.1 (i + 4).toNat).toInt = x4
  have hb4 := i3_b (E.2.2.2.1 (i + 4).toNat)
  rw [hx4] at hb4
  generalize hx5 : (E.2.2.2.1 (i + 5).toNat).toInt = x5
  have hb5 := i3_b (E.2.2.2.1 (i + 5).toNat)
  rw [hx5] at hb5
  by_cases h5 : x5 = 0
  · skip
    by_cases c1 : -1 ≤ x1 ∧ x1 ≤ 10
    · skip
      by_cases c2 : -1 ≤ x2 ∧ x2 ≤ 10
      · skip
        by_cases c3 : -1 ≤ x3 ∧ x3 ≤ 10
        · skip
          by_cases c4 : 0 ≤ x4 ∧ x4 ≤ 1000
          · skip
            by_cases c5 : ρ 0 8 = 16
            · skip
              refine lo_128b (k := 2) (r := 0) (d := 10) hS hlen hi hx1 hb1 hx2 hb2 hx3 hb3 hx4 hb4 hx5 hb5 h5 hI (hiv) (by decide) (wx_128_9 (d := 9) (cl_ty_s (d := 7) hiv hR c1 c2 c3 c4 c5 (by decide)) h50 hiv.1.1 hR hu) (fun s' ν' n1 l1 => ?_) (fun s' ν' o5 o6 o7 n h => hK _ _ s' ν' o5 o6 o7 n h (by omega))
              obtain ⟨hq, hs', hIn, g29, g30⟩ := lw_x hI n1 l1
              have hB' := hIn.1.1
              have q1 := hq.2 1 (by decide)
              have q8 := hq.2 8 (by decide)
              have q12 := hq.2 12 (by decide)
              have q21 := hq.2 21 (by decide)
              have q22 := hq.2 22 (by decide)
              have q24 := hq.2 24 (by decide)
              exact mr_ex (mo_type_s (d := 9) hs' hB' c1 c2 c3 c4 (by rw [q8]; exact c5)) (by decide) hq g29 g30
            · skip
              refine lo_128b (k := 0) (r := ρ 0 8) (d := 10) hS hlen hi hx1 hb1 hx2 hb2 hx3 hb3 hx4 hb4 hx5 hb5 h5 hI (iv_ty hiv c1 c2 c3 c4 (Or.inl rfl) c5) (by decide) (ww_128 (d := 9) (cc_vs (cl_ty (d := 7) hiv hR hu c1 c2 c3 c4 (Or.inl rfl) c5)) h40 h50 (iv_ty hiv c1 c2 c3 c4 (Or.inl rfl) c5).1.1) (fun s' ν' n1 l1 => ?_) (fun s' ν' o5 o6 o7 n h => hK _ _ s' ν' o5 o6 o7 n h (by rw [ty_0 (by omega)]; omega))
              obtain ⟨hq, hs', hIn, g29, g30⟩ := lw_x hI n1 l1
              have hB' := hIn.1.1
              have q1 := hq.2 1 (by decide)
              have q8 := hq.2 8 (by decide)
              have q12 := hq.2 12 (by decide)
              have q21 := hq.2 21 (by decide)
              have q22 := hq.2 22 (by decide)
              have q24 := hq.2 24 (by decide)
              have w := mo_type_ok (E := E) (d := 9) hs' hB' c1 c2 c3 c4 (Or.inl rfl) (by rw [q8]; exact c5)
              rw [show ν' 0 8 + 1 - 1 = ρ 0 8 by omega] at w
              exact mr_ok w (z0_ty) (rq_ty hq) (he_ty) g29 g30
          · skip
            refine lo_128b (k := 1) (r := 0) (d := 10) hS hlen hi hx1 hb1 hx2 hb2 hx3 hb3 hx4 hb4 hx5 hb5 h5 hI (hiv) (by decide) (wx_128_8 (d := 9) (cl_ty_b4 (d := 7) hiv hR c1 c2 c3 hb4 c4 (by decide)) h50 hiv.1.1 hR hu) (fun s' ν' n1 l1 => ?_) (fun s' ν' o5 o6 o7 n h => hK _ _ s' ν' o5 o6 o7 n h (by omega))
            obtain ⟨hq, hs', hIn, g29, g30⟩ := lw_x hI n1 l1
            have hB' := hIn.1.1
            have q1 := hq.2 1 (by decide)
            have q8 := hq.2 8 (by decide)
            have q12 := hq.2 12 (by decide)
            have q21 := hq.2 21 (by decide)
            have q22 := hq.2 22 (by decide)
            have q24 := hq.2 24 (by decide)
            exact mr_ex (mo_type_b4 (d := 9) hs' hB' c1 c2 c3 hb4 c4) (by decide) hq g29 g30
        · skip
          refine lo_128b (k := 1) (r := 0) (d := 10) hS hlen hi hx1 hb1 hx2 hb2 hx3 hb3 hx4 hb4 hx5 hb5 h5 hI (hiv) (by decide) (wx_128_8 (d := 9) (cl_ty_b3 (d := 7) hiv hR c1 c2 hb3 c3 (by decide)) h50 hiv.1.1 hR hu) (fun s' ν' n1 l1 => ?_) (fun s' ν' o5 o6 o7 n h => hK _ _ s' ν' o5 o6 o7 n h (by omega))
          obtain ⟨hq, hs', hIn, g29, g30⟩ := lw_x hI n1 l1
          have hB' := hIn.1.1
          have q1 := hq.2 1 (by decide)
          have q8 := hq.2 8 (by decide)
          have q12 := hq.2 12 (by decide)
          have q21 := hq.2 21 (by decide)
          have q22 := hq.2 22 (by decide)
          have q24 := hq.2 24 (by decide)
          exact mr_ex (mo_type_b3 (d := 9) hs' hB' c1 c2 hb3 c3) (by decide) hq g29 g30
      · skip
        refine lo_128b (k := 1) (r := 0) (d := 10) hS hlen hi hx1 hb1 hx2 hb2 hx3 hb3 hx4 hb4 hx5 hb5 h5 hI (hiv) (by decide) (wx_128_8 (d := 9) (cl_ty_b2 (d := 7) hiv hR c1 hb2 c2 (by decide)) h50 hiv.1.1 hR hu) (fun s' ν' n1 l1 => ?_) (fun s' ν' o5 o6 o7 n h => hK _ _ s' ν' o5 o6 o7 n h (by omega))
        obtain ⟨hq, hs', hIn, g29, g30⟩ := lw_x hI n1 l1
        have hB' := hIn.1.1
        have q1 := hq.2 1 (by decide)
        have q8 := hq.2 8 (by decide)
        have q12 := hq.2 12 (by decide)
        have q21 := hq.2 21 (by decide)
        have q22 := hq.2 22 (by decide)
        have q24 := hq.2 24 (by decide)
        exact mr_ex (mo_type_b2 (d := 9) hs' hB' c1 hb2 c2) (by decide) hq g29 g30
    · skip
      refine lo_128b (k := 1) (r := 0) (d := 10) hS hlen hi hx1 hb1 hx2 hb2 hx3 hb3 hx4 hb4 hx5 hb5 h5 hI (hiv) (by decide) (wx_128_8 (d := 9) (cl_ty_b1 (d := 7) hiv hR hb1 c1 (by decide)) h50 hiv.1.1 hR hu) (fun s' ν' n1 l1 => ?_) (fun s' ν' o5 o6 o7 n h => hK _ _ s' ν' o5 o6 o7 n h (by omega))
      obtain ⟨hq, hs', hIn, g29, g30⟩ := lw_x hI n1 l1
      have hB' := hIn.1.1
      have q1 := hq.2 1 (by decide)
      have q8 := hq.2 8 (by decide)
      have q12 := hq.2 12 (by decide)
      have q21 := hq.2 21 (by decide)
      have q22 := hq.2 22 (by decide)
      have q24 := hq.2 24 (by decide)
      exact mr_ex (mo_type_b1 (d := 9) hs' hB' hb1 c1) (by decide) hq g29 g30
  · skip
    by_cases c1 : -1 ≤ x1 ∧ x1 ≤ 10
    · skip
      by_cases c2 : -1 ≤ x2 ∧ x2 ≤ 10
      · skip
        by_cases c3 : -1 ≤ x3 ∧ x3 ≤ 10
        · skip
          by_cases c4 : 0 ≤ x4 ∧ x4 ≤ 1000
          · skip
            by_cases c5 : ρ 0 8 = 16
            · skip
              refine lo_128a (k := 2) (r := 0) (d := 10) hS hlen hi hx1 hb1 hx2 hb2 hx3 hb3 hx4 hb4 hx5 hb5 h5 hI (hiv) (by decide) (wx_128_9 (d := 9) (cl_ty_s (d := 7) hiv hR c1 c2 c3 c4 c5 (by decide)) h50 hiv.1.1 hR hu) (fun s' ν' n1 l1 => ?_) (fun s' ν' o5 o6 o7 n h => hK _ _ s' ν' o5 o6 o7 n h (by omega))
              obtain ⟨hq, hs', hIn, g29, g30⟩ := lw_x hI n1 l1
              have hB' := hIn.1.1
              have q1 := hq.2 1 (by decide)
              have q8 := hq.2 8 (by decide)
              have q12 := hq.2 12 (by decide)
              have q21 := hq.2 21 (by decide)
              have q22 := hq.2 22 (by decide)
              have q24 := hq.2 24 (by decide)
              exact mr_ex (mo_type_s (d := 9) hs' hB' c1 c2 c3 c4 (by rw [q8]; exact c5)) (by decide) hq g29 g30
            · skip
              refine lo_128a (k := 0) (r := ρ 0 8) (d := 10) hS hlen hi hx1 hb1 hx2 hb2 hx3 hb3 hx4 hb4 hx5 hb5 h5 hI (iv_ty hiv c1 c2 c3 c4 (Or.inr rfl) c5) (by decide) (ww_128 (d := 9) (cc_vs (cl_ty (d := 7) hiv hR hu c1 c2 c3 c4 (Or.inr rfl) c5)) h40 h50 (iv_ty hiv c1 c2 c3 c4 (Or.inr rfl) c5).1.1) (fun s' ν' n1 l1 => ?_) (fun s' ν' o5 o6 o7 n h => hK _ _ s' ν' o5 o6 o7 n h (by rw [ty_0 (by omega)]; omega))
              obtain ⟨hq, hs', hIn, g29, g30⟩ := lw_x hI n1 l1
              have hB' := hIn.1.1
              have q1 := hq.2 1 (by decide)
              have q8 := hq.2 8 (by decide)
              have q12 := hq.2 12 (by decide)
              have q21 := hq.2 21 (by decide)
              have q22 := hq.2 22 (by decide)
              have q24 := hq.2 24 (by decide)
              have w := mo_type_ok (E := E) (d := 9) hs' hB' c1 c2 c3 c4 (Or.inr rfl) (by rw [q8]; exact c5)
              rw [show ν' 0 8 + 1 - 1 = ρ 0 8 by omega] at w
              exact mr_ok w (z0_ty) (rq_ty hq) (he_ty) g29 g30
          · skip
            refine lo_128a (k := 1) (r := 0) (d := 10) hS hlen hi hx1 hb1 hx2 hb2 hx3 hb3 hx4 hb4 hx5 hb5 h5 hI (hiv) (by decide) (wx_128_8 (d := 9) (cl_ty_b4 (d := 7) hiv hR c1 c2 c3 hb4 c4 (by decide)) h50 hiv.1.1 hR hu) (fun s' ν' n1 l1 => ?_) (fun s' ν' o5 o6 o7 n h => hK _ _ s' ν' o5 o6 o7 n h (by omega))
            obtain ⟨hq, hs', hIn, g29, g30⟩ := lw_x hI n1 l1
            have hB' := hIn.1.1
            have q1 := hq.2 1 (by decide)
            have q8 := hq.2 8 (by decide)
            have q12 := hq.2 12 (by decide)
            have q21 := hq.2 21 (by decide)
            have q22 := hq.2 22 (by decide)
            have q24 := hq.2 24 (by decide)
            exact mr_ex (mo_type_b4 (d := 9) hs' hB' c1 c2 c3 hb4 c4) (by decide) hq g29 g30
        · skip
          refine lo_128a (k := 1) (r := 0) (d := 10) hS hlen hi hx1 hb1 hx2 hb2 hx3 hb3 hx4 hb4 hx5 hb5 h5 hI (hiv) (by decide) (wx_128_8 (d := 9) (cl_ty_b3 (d := 7) hiv hR c1 c2 hb3 c3 (by decide)) h50 hiv.1.1 hR hu) (fun s' ν' n1 l1 => ?_) (fun s' ν' o5 o6 o7 n h => hK _ _ s' ν' o5 o6 o7 n h (by omega))
          obtain ⟨hq, hs', hIn, g29, g30⟩ := lw_x hI n1 l1
          have hB' := hIn.1.1
          have q1 := hq.2 1 (by decide)
          have q8 := hq.2 8 (by decide)
          have q12 := hq.2 12 (by decide)
          have q21 := hq.2 21 (by decide)
          have q22 := hq.2 22 (by decide)
          have q24 := hq.2 24 (by decide)
          exact mr_ex (mo_type_b3 (d := 9) hs' hB' c1 c2 hb3 c3) (by decide) hq g29 g30
      · skip
        refine lo_128a (k := 1) (r := 0) (d := 10) hS hlen hi hx1 hb1 hx2 hb2 hx3 hb3 hx4 hb4 hx5 hb5 h5 hI (hiv) (by decide) (wx_128_8 (d := 9) (cl_ty_b2 (d := 7) hiv hR c1 hb2 c2 (by decide)) h50 hiv.1.1 hR hu) (fun s' ν' n1 l1 => ?_) (fun s' ν' o5 o6 o7 n h => hK _ _ s' ν' o5 o6 o7 n h (by omega))
        obtain ⟨hq, hs', hIn, g29, g30⟩ := lw_x hI n1 l1
        have hB' := hIn.1.1
        have q1 := hq.2 1 (by decide)
        have q8 := hq.2 8 (by decide)
        have q12 := hq.2 12 (by decide)
        have q21 := hq.2 21 (by decide)
        have q22 := hq.2 22 (by decide)
        have q24 := hq.2 24 (by decide)
        exact mr_ex (mo_type_b2 (d := 9) hs' hB' c1 hb2 c2) (by decide) hq g29 g30
    · skip
      refine lo_128a (k := 1) (r := 0) (d := 10) hS hlen hi hx1 hb1 hx2 hb2 hx3 hb3 hx4 hb4 hx5 hb5 h5 hI (hiv) (by decide) (wx_128_8 (d := 9) (cl_ty_b1 (d := 7) hiv hR hb1 c1 (by decide)) h50 hiv.1.1 hR hu) (fun s' ν' n1 l1 => ?_) (fun s' ν' o5 o6 o7 n h => hK _ _ s' ν' o5 o6 o7 n h (by omega))
      obtain ⟨hq, hs', hIn, g29, g30⟩ := lw_x hI n1 l1
      have hB' := hIn.1.1
      have q1 := hq.2 1 (by decide)
      have q8 := hq.2 8 (by decide)
      have q12 := hq.2 12 (by decide)
      have q21 := hq.2 21 (by decide)
      have q22 := hq.2 22 (by decide)
      have q24 := hq.2 24 (by decide)
      exact mr_ex (mo_type_b1 (d := 9) hs' hB' hb1 c1) (by decide) hq g29 g30
theorem lq_129 (hS : E.2.1 < E.1) (hlen : E.2.2.1 ≤ 3072) (hi : 0 ≤ i ∧ i + 6 ≤ (E.2.2.1 : Int)) (hI : lw_I ρ f s ν) (hK : ∀ ρ' f' s' ν' o5 o6 o7, ns_r s s' → lw_I ρ' f' s' ν' → ρ' 0 24 ≤ ρ 0 24 + 1 → sw_w E 11 140 (1122, [some (2, 9001), some (2, 50), some (2, 0), some (2, 40), some (0, i), o5, o6, o7], []) s' ν' Q) : sw_w E 11 140 (324, [some (2, 9001), some (2, 50), some (2, 0), some (2, 40), some (0, i), o5, o6, o7], []) s ν Q := by
  obtain ⟨hs, h40, hiv, hR, hu, hrq, h29, h30⟩ := id hI
  have h50 := hR.sh.1
  have b1 := hiv.1.1.1
  have b12 := hiv.1.1.2.2.1
  have b24 := hiv.1.1.2.2.2.2.2.1
  generalize hx1 : (E.2.2.2.1 (i + 1).toNat).toInt = x1
  have hb1 := i3_b (E.2.2.2.1 (i + 1).toNat)
  rw [hx1] at hb1
  generalize hx2 : (E.2.2.2.1 (i + 2).toNat).toInt = x2
  have hb2 := i3_b (E.2.2.2.1 (i + 2).toNat)
  rw [hx2] at hb2
  generalize hx3 : (E.2.2.2.1 (i + 3).toNat).toInt = x3
  have hb3 := i3_b (E.2.2.2.1 (i + 3).toNat)
  rw [hx3] at hb3
  by_cases c1 : 0 ≤ x1 ∧ x1 < ρ 0 1
  · skip
    by_cases c2 : 0 ≤ x2 ∧ x2 ≤ 3
    · skip
      by_cases c3 : 0 ≤ x3 ∧ x3 < ρ 0 8
      · skip
        by_cases c4 : ρ 2 (4 * x1 + x2) = -1
        · skip
          by_cases c5 : ρ 0 12 = 40
          · skip
            refine lo_129 (k := 2) (r := 0) (d := 10) hS hlen hi hx1 hb1 hx2 hb2 hx3 hb3 hI (hiv) (by decide) (wx_129_9 (d := 9) (cl_pg_s2 (d := 7) hiv hR c1 c2 c3 c4 c5 (by decide)) h50 hiv.1.1 hR hu) (fun s' ν' n1 l1 => ?_) (fun s' ν' o5 o6 o7 n h => hK _ _ s' ν' o5 o6 o7 n h (by omega))
            obtain ⟨hq, hs', hIn, g29, g30⟩ := lw_x hI n1 l1
            have hB' := hIn.1.1
            have q1 := hq.2 1 (by decide)
            have q8 := hq.2 8 (by decide)
            have q12 := hq.2 12 (by decide)
            have q21 := hq.2 21 (by decide)
            have q22 := hq.2 22 (by decide)
            have q24 := hq.2 24 (by decide)
            exact mr_ex2 (mo_plug_s2 (d := 9) hs' hB' (by rw [q1]; exact c1) c2 (by rw [q8]; exact c3) (by rw [hq.1 2 (by decide)]; exact c4) (by rw [q12]; exact c5)) (by decide) hq g29 g30
          · skip
            by_cases c7 : ρ 0 21 < 0
            · skip
              refine lo_129 (k := 0) (r := ρ 0 12) (d := 10) hS hlen hi hx1 hb1 hx2 hb2 hx3 hb3 hI (iv_pg hiv c1 c2 c3 c4 c5 c7) (by decide) (ww_129 (d := 9) (cc_vs (cl_pg (d := 7) hiv hR hu c1 c2 c3 c4 c5 c7)) h40 h50 (iv_pg hiv c1 c2 c3 c4 c5 c7).1.1) (fun s' ν' n1 l1 => ?_) (fun s' ν' o5 o6 o7 n h => hK _ _ s' ν' o5 o6 o7 n h (by rw [pg_0 (by omega)]; omega))
              obtain ⟨hq, hs', hIn, g29, g30⟩ := lw_x hI n1 l1
              have hB' := hIn.1.1
              have q1 := hq.2 1 (by decide)
              have q8 := hq.2 8 (by decide)
              have q12 := hq.2 12 (by decide)
              have q21 := hq.2 21 (by decide)
              have q22 := hq.2 22 (by decide)
              have q24 := hq.2 24 (by decide)
              have w := mo_plug_ok (E := E) (d := 9) hs' hB' (by rw [q1]; exact c1) c2 (by rw [q8]; exact c3) (by rw [hq.1 2 (by decide)]; exact c4) (by rw [q12]; exact c5) (by rw [q21]; exact c7)
              rw [q12] at w
              exact mr_ok w (z0_pg) (rq_pg hq) (he_pg) g29 g30
            · skip
              refine lo_129 (k := 2) (r := 0) (d := 10) hS hlen hi hx1 hb1 hx2 hb2 hx3 hb3 hI (hiv) (by decide) (wx_129_9 (d := 9) (cl_pg_s3 (d := 7) hiv hR c1 c2 c3 c4 c5 (by omega) (by decide)) h50 hiv.1.1 hR hu) (fun s' ν' n1 l1 => ?_) (fun s' ν' o5 o6 o7 n h => hK _ _ s' ν' o5 o6 o7 n h (by omega))
              obtain ⟨hq, hs', hIn, g29, g30⟩ := lw_x hI n1 l1
              have hB' := hIn.1.1
              have q1 := hq.2 1 (by decide)
              have q8 := hq.2 8 (by decide)
              have q12 := hq.2 12 (by decide)
              have q21 := hq.2 21 (by decide)
              have q22 := hq.2 22 (by decide)
              have q24 := hq.2 24 (by decide)
              exact mr_ex2 (mo_plug_s3 (d := 9) hs' hB' (by rw [q1]; exact c1) c2 (by rw [q8]; exact c3) (by rw [hq.1 2 (by decide)]; exact c4) (by rw [q12]; exact c5) (by omega)) (by decide) hq g29 g30
        · skip
          refine lo_129 (k := 2) (r := 0) (d := 10) hS hlen hi hx1 hb1 hx2 hb2 hx3 hb3 hI (hiv) (by decide) (wx_129_9 (d := 9) (cl_pg_s1 (d := 7) hiv hR c1 c2 c3 c4 (by decide)) h50 hiv.1.1 hR hu) (fun s' ν' n1 l1 => ?_) (fun s' ν' o5 o6 o7 n h => hK _ _ s' ν' o5 o6 o7 n h (by omega))
          obtain ⟨hq, hs', hIn, g29, g30⟩ := lw_x hI n1 l1
          have hB' := hIn.1.1
          have q1 := hq.2 1 (by decide)
          have q8 := hq.2 8 (by decide)
          have q12 := hq.2 12 (by decide)
          have q21 := hq.2 21 (by decide)
          have q22 := hq.2 22 (by decide)
          have q24 := hq.2 24 (by decide)
          exact mr_ex2 (mo_plug_s1 (d := 9) hs' hB' (by rw [q1]; exact c1) c2 (by rw [q8]; exact c3) (by rw [hq.1 2 (by decide)]; exact c4)) (by decide) hq g29 g30
      · skip
        by_cases c8 : x3 < 0
        · skip
          refine lo_129 (k := 1) (r := 0) (d := 10) hS hlen hi hx1 hb1 hx2 hb2 hx3 hb3 hI (hiv) (by decide) (wx_129_8 (d := 9) (cl_pg_b3 (d := 7) hiv hR c1 c2 hb3 c3 (by decide)) h50 hiv.1.1 hR hu) (fun s' ν' n1 l1 => ?_) (fun s' ν' o5 o6 o7 n h => hK _ _ s' ν' o5 o6 o7 n h (by omega))
          obtain ⟨hq, hs', hIn, g29, g30⟩ := lw_x hI n1 l1
          have hB' := hIn.1.1
          have q1 := hq.2 1 (by decide)
          have q8 := hq.2 8 (by decide)
          have q12 := hq.2 12 (by decide)
          have q21 := hq.2 21 (by decide)
          have q22 := hq.2 22 (by decide)
          have q24 := hq.2 24 (by decide)
          exact mr_ex (mo_plug_b3 (d := 9) hs' hB' (by rw [q1]; exact c1) c2 ⟨hb3.1, c8⟩) (by decide) hq g29 g30
        · skip
          refine lo_129 (k := 1) (r := 0) (d := 10) hS hlen hi hx1 hb1 hx2 hb2 hx3 hb3 hI (hiv) (by decide) (wx_129_8 (d := 9) (cl_pg_b3 (d := 7) hiv hR c1 c2 hb3 c3 (by decide)) h50 hiv.1.1 hR hu) (fun s' ν' n1 l1 => ?_) (fun s' ν' o5 o6 o7 n h => hK _ _ s' ν' o5 o6 o7 n h (by omega))
          obtain ⟨hq, hs', hIn, g29, g30⟩ := lw_x hI n1 l1
          have hB' := hIn.1.1
          have q1 := hq.2 1 (by decide)
          have q8 := hq.2 8 (by decide)
          have q12 := hq.2 12 (by decide)
          have q21 := hq.2 21 (by decide)
          have q22 := hq.2 22 (by decide)
          have q24 := hq.2 24 (by decide)
          exact mr_ex (mo_plug_b4 (d := 9) hs' hB' (by rw [q1]; exact c1) c2 (by omega) (by omega)) (by decide) hq g29 g30
    · skip
      refine lo_129 (k := 1) (r := 0) (d := 10) hS hlen hi hx1 hb1 hx2 hb2 hx3 hb3 hI (hiv) (by decide) (wx_129_8 (d := 9) (cl_pg_b2 (d := 7) hiv hR c1 hb2 c2 (by decide)) h50 hiv.1.1 hR hu) (fun s' ν' n1 l1 => ?_) (fun s' ν' o5 o6 o7 n h => hK _ _ s' ν' o5 o6 o7 n h (by omega))
      obtain ⟨hq, hs', hIn, g29, g30⟩ := lw_x hI n1 l1
      have hB' := hIn.1.1
      have q1 := hq.2 1 (by decide)
      have q8 := hq.2 8 (by decide)
      have q12 := hq.2 12 (by decide)
      have q21 := hq.2 21 (by decide)
      have q22 := hq.2 22 (by decide)
      have q24 := hq.2 24 (by decide)
      exact mr_ex (mo_plug_b2 (d := 9) hs' hB' (by rw [q1]; exact c1) hb2 c2) (by decide) hq g29 g30
  · skip
    refine lo_129 (k := 1) (r := 0) (d := 10) hS hlen hi hx1 hb1 hx2 hb2 hx3 hb3 hI (hiv) (by decide) (wx_129_8 (d := 9) (cl_pg_b1 (d := 7) hiv hR hb1 c1 (by decide)) h50 hiv.1.1 hR hu) (fun s' ν' n1 l1 => ?_) (fun s' ν' o5 o6 o7 n h => hK _ _ s' ν' o5 o6 o7 n h (by omega))
    obtain ⟨hq, hs', hIn, g29, g30⟩ := lw_x hI n1 l1
    have hB' := hIn.1.1
    have q1 := hq.2 1 (by decide)
    have q8 := hq.2 8 (by decide)
    have q12 := hq.2 12 (by decide)
    have q21 := hq.2 21 (by decide)
    have q22 := hq.2 22 (by decide)
    have q24 := hq.2 24 (by decide)
    exact mr_ex (mo_plug_b1 (d := 9) hs' hB' hb1 (by rw [q1]; exact c1)) (by decide) hq g29 g30
theorem lq_130 (hS : E.2.1 < E.1) (hlen : E.2.2.1 ≤ 3072) (hi : 0 ≤ i ∧ i + 6 ≤ (E.2.2.1 : Int)) (hI : lw_I ρ f s ν) (hK : ∀ ρ' f' s' ν' o5 o6 o7, ns_r s s' → lw_I ρ' f' s' ν' → ρ' 0 24 ≤ ρ 0 24 + 1 → sw_w E 11 140 (1122, [some (2, 9001), some (2, 50), some (2, 0), some (2, 40), some (0, i), o5, o6, o7], []) s' ν' Q) : sw_w E 11 140 (430, [some (2, 9001), some (2, 50), some (2, 0), some (2, 40), some (0, i), o5, o6, o7], []) s ν Q := by
  obtain ⟨hs, h40, hiv, hR, hu, hrq, h29, h30⟩ := id hI
  have h50 := hR.sh.1
  have b1 := hiv.1.1.1
  have b12 := hiv.1.1.2.2.1
  have b24 := hiv.1.1.2.2.2.2.2.1
  generalize hx1 : (E.2.2.2.1 (i + 1).toNat).toInt = x1
  have hb1 := i3_b (E.2.2.2.1 (i + 1).toNat)
  rw [hx1] at hb1
  by_cases c1 : 0 ≤ x1 ∧ x1 < ρ 0 12
  · skip
    by_cases c2 : ρ 15 x1 = 4
    · skip
      refine lo_130 (k := 2) (r := 0) (d := 10) hS hlen hi hx1 hb1 hI (hiv) (by decide) (wx_130_9 (d := 9) (cl_pu_s1 (d := 7) hiv hR c1 c2 (by decide)) h50 hiv.1.1 hR hu) (fun s' ν' n1 l1 => ?_) (fun s' ν' o5 o6 o7 n h => hK _ _ s' ν' o5 o6 o7 n h (by omega))
      obtain ⟨hq, hs', hIn, g29, g30⟩ := lw_x hI n1 l1
      have hB' := hIn.1.1
      have q1 := hq.2 1 (by decide)
      have q8 := hq.2 8 (by decide)
      have q12 := hq.2 12 (by decide)
      have q21 := hq.2 21 (by decide)
      have q22 := hq.2 22 (by decide)
      have q24 := hq.2 24 (by decide)
      exact mr_ex (mo_pull_s1 (d := 9) hs' hB' (by rw [q12]; exact c1) (by rw [hq.1 15 (by decide)]; exact c2)) (by decide) hq g29 g30
    · skip
      by_cases c3 : ρ 15 x1 = 5
      · skip
        refine lo_130 (k := 2) (r := 0) (d := 10) hS hlen hi hx1 hb1 hI (hiv) (by decide) (wx_130_9 (d := 9) (cl_pu_s2 (d := 7) hiv hR c1 c3 (by decide)) h50 hiv.1.1 hR hu) (fun s' ν' n1 l1 => ?_) (fun s' ν' o5 o6 o7 n h => hK _ _ s' ν' o5 o6 o7 n h (by omega))
        obtain ⟨hq, hs', hIn, g29, g30⟩ := lw_x hI n1 l1
        have hB' := hIn.1.1
        have q1 := hq.2 1 (by decide)
        have q8 := hq.2 8 (by decide)
        have q12 := hq.2 12 (by decide)
        have q21 := hq.2 21 (by decide)
        have q22 := hq.2 22 (by decide)
        have q24 := hq.2 24 (by decide)
        exact mr_ex (mo_pull_s2 (d := 9) hs' hB' (by rw [q12]; exact c1) (by rw [hq.1 15 (by decide)]; exact c3)) (by decide) hq g29 g30
      · skip
        have b15 := (hiv.1.1.cd x1 c1.1 (by omega)).2.2.1
        by_cases c4 : x1 = ρ 0 21
        · skip
          by_cases c5 : ρ 0 22 = 0
          · skip
            refine lo_130 (k := 0) (r := sm_s (mo_lsn (mo_rm (mo_pu ρ x1) x1 4) x1 (-1)) (mo_rm (mo_pu ρ x1) x1 4 0 24).toNat) (d := 10) hS hlen hi hx1 hb1 hI (iv_pu hiv c1 (by omega)) (by decide) (ww_130 (d := 9) (cc_vr (cl_pu (d := 7) hiv hR c1 (by omega)) hu (n4_tr (n4_tr n4_pu n4_rm) n4_ls)) h40 h50 (iv_pu hiv c1 (by omega)).1.1) (fun s' ν' n1 l1 => ?_) (fun s' ν' o5 o6 o7 n h => hK _ _ s' ν' o5 o6 o7 n h (by rw [(n4_tr (n4_tr n4_pu n4_rm) n4_ls : n4_r ρ _) 24 (by decide)]; omega))
            obtain ⟨hq, hs', hIn, g29, g30⟩ := lw_x hI n1 l1
            have hB' := hIn.1.1
            have q1 := hq.2 1 (by decide)
            have q8 := hq.2 8 (by decide)
            have q12 := hq.2 12 (by decide)
            have q21 := hq.2 21 (by decide)
            have q22 := hq.2 22 (by decide)
            have q24 := hq.2 24 (by decide)
            have w := mo_pull_b (E := E) (d := 9) hs' hB' (by rw [q12]; exact c1) (by rw [hq.1 15 (by decide)]; exact c2) (by rw [hq.1 15 (by decide)]; exact c3) (by rw [q21]; exact c4) (by rw [q22]; exact c5)
            rw [rq_pz hq] at w
            exact mr_ok w (z0_ls.trans (z0_rm.trans z0_pu)) (rq_ls (rq_pp hq)) (he_tr (he_tr he_pu he_rm) he_ls) g29 g30
          · skip
            refine lo_130 (k := 0) (r := sm_s (mo_lsn (mo_rm (mo_pu ρ x1) x1 4) x1 (-1)) (mo_rm (mo_pu ρ x1) x1 4 0 24).toNat) (d := 10) hS hlen hi hx1 hb1 hI (iv_pu hiv c1 (by omega)) (by decide) (ww_130 (d := 9) (cc_vr (cl_pu (d := 7) hiv hR c1 (by omega)) hu (n4_tr (n4_tr n4_pu n4_rm) n4_ls)) h40 h50 (iv_pu hiv c1 (by omega)).1.1) (fun s' ν' n1 l1 => ?_) (fun s' ν' o5 o6 o7 n h => hK _ _ s' ν' o5 o6 o7 n h (by rw [(n4_tr (n4_tr n4_pu n4_rm) n4_ls : n4_r ρ _) 24 (by decide)]; omega))
            obtain ⟨hq, hs', hIn, g29, g30⟩ := lw_x hI n1 l1
            have hB' := hIn.1.1
            have q1 := hq.2 1 (by decide)
            have q8 := hq.2 8 (by decide)
            have q12 := hq.2 12 (by decide)
            have q21 := hq.2 21 (by decide)
            have q22 := hq.2 22 (by decide)
            have q24 := hq.2 24 (by decide)
            have w := mo_pull_a (E := E) (d := 9) hs' hB' (by rw [q12]; exact c1) (by rw [hq.1 15 (by decide)]; exact c2) (by rw [hq.1 15 (by decide)]; exact c3) (by rw [q21]; exact c4) (by rw [q22]; exact c5)
            rw [rq_pz hq] at w
            exact mr_ok w (z0_ls.trans (z0_rm.trans z0_pu)) (rq_ls (rq_pp hq)) (he_tr (he_tr he_pu he_rm) he_ls) g29 g30
        · skip
          refine lo_130 (k := 0) (r := sm_s (mo_lsn (mo_rm (mo_pu ρ x1) x1 4) x1 (-1)) (mo_rm (mo_pu ρ x1) x1 4 0 24).toNat) (d := 10) hS hlen hi hx1 hb1 hI (iv_pu hiv c1 (by omega)) (by decide) (ww_130 (d := 9) (cc_vr (cl_pu (d := 7) hiv hR c1 (by omega)) hu (n4_tr (n4_tr n4_pu n4_rm) n4_ls)) h40 h50 (iv_pu hiv c1 (by omega)).1.1) (fun s' ν' n1 l1 => ?_) (fun s' ν' o5 o6 o7 n h => hK _ _ s' ν' o5 o6 o7 n h (by rw [(n4_tr (n4_tr n4_pu n4_rm) n4_ls : n4_r ρ _) 24 (by decide)]; omega))
          obtain ⟨hq, hs', hIn, g29, g30⟩ := lw_x hI n1 l1
          have hB' := hIn.1.1
          have q1 := hq.2 1 (by decide)
          have q8 := hq.2 8 (by decide)
          have q12 := hq.2 12 (by decide)
          have q21 := hq.2 21 (by decide)
          have q22 := hq.2 22 (by decide)
          have q24 := hq.2 24 (by decide)
          have w := mo_pull_c (E := E) (d := 9) hs' hB' (by rw [q12]; exact c1) (by rw [hq.1 15 (by decide)]; exact c2) (by rw [hq.1 15 (by decide)]; exact c3) (by rw [q21]; exact c4)
          rw [rq_pz hq] at w
          exact mr_ok w (z0_ls.trans (z0_rm.trans z0_pu)) (rq_ls (rq_pp hq)) (he_tr (he_tr he_pu he_rm) he_ls) g29 g30
  · skip
    refine lo_130 (k := 1) (r := 0) (d := 10) hS hlen hi hx1 hb1 hI (hiv) (by decide) (wx_130_8 (d := 9) (cl_pu_b (d := 7) hiv hR hb1 c1 (by decide)) h50 hiv.1.1 hR hu) (fun s' ν' n1 l1 => ?_) (fun s' ν' o5 o6 o7 n h => hK _ _ s' ν' o5 o6 o7 n h (by omega))
    obtain ⟨hq, hs', hIn, g29, g30⟩ := lw_x hI n1 l1
    have hB' := hIn.1.1
    have q1 := hq.2 1 (by decide)
    have q8 := hq.2 8 (by decide)
    have q12 := hq.2 12 (by decide)
    have q21 := hq.2 21 (by decide)
    have q22 := hq.2 22 (by decide)
    have q24 := hq.2 24 (by decide)
    exact mr_ex (mo_pull_bad (d := 9) hs' hB' hb1 (by rw [q12]; exact c1)) (by decide) hq g29 g30
theorem lq_131 (hS : E.2.1 < E.1) (hlen : E.2.2.1 ≤ 3072) (hi : 0 ≤ i ∧ i + 6 ≤ (E.2.2.1 : Int)) (hI : lw_I ρ f s ν) (hK : ∀ ρ' f' s' ν' o5 o6 o7, ns_r s s' → lw_I ρ' f' s' ν' → ρ' 0 24 ≤ ρ 0 24 + 1 → sw_w E 11 140 (1122, [some (2, 9001), some (2, 50), some (2, 0), some (2, 40), some (0, i), o5, o6, o7], []) s' ν' Q) : sw_w E 11 140 (486, [some (2, 9001), some (2, 50), some (2, 0), some (2, 40), some (0, i), o5, o6, o7], []) s ν Q := by
  obtain ⟨hs, h40, hiv, hR, hu, hrq, h29, h30⟩ := id hI
  have h50 := hR.sh.1
  have b1 := hiv.1.1.1
  have b12 := hiv.1.1.2.2.1
  have b24 := hiv.1.1.2.2.2.2.2.1
  generalize hx1 : (E.2.2.2.1 (i + 1).toNat).toInt = x1
  have hb1 := i3_b (E.2.2.2.1 (i + 1).toNat)
  rw [hx1] at hb1
  by_cases c1 : 0 ≤ x1 ∧ x1 < ρ 0 12
  · skip
    by_cases c2 : ρ 15 x1 = 1
    · skip
      by_cases c3 : 0 < ρ 19 x1
      · skip
        refine lo_131 (k := 0) (r := sm_s (mo_lsn (mo_lv ρ x1) x1 (mo_lw ρ x1)) (mo_lv ρ x1 0 24).toNat) (d := 10) hS hlen hi hx1 hb1 hI (iv_lv hiv c1 c2) (by decide) (ww_131 (d := 9) (cc_vr (cl_lv (d := 7) hiv hR c1 c2) hu (n4_tr (n4_tr n4_cd (n4_u (by omega))) n4_ls)) h40 h50 (iv_lv hiv c1 c2).1.1) (fun s' ν' n1 l1 => ?_) (fun s' ν' o5 o6 o7 n h => hK _ _ s' ν' o5 o6 o7 n h (by rw [(n4_tr (n4_tr n4_cd (n4_u (by omega))) n4_ls : n4_r ρ (mo_ls (mo_lv ρ x1) x1 (mo_lw ρ x1))) 24 (by decide)]; omega))
        obtain ⟨hq, hs', hIn, g29, g30⟩ := lw_x hI n1 l1
        have hB' := hIn.1.1
        have q1 := hq.2 1 (by decide)
        have q8 := hq.2 8 (by decide)
        have q12 := hq.2 12 (by decide)
        have q21 := hq.2 21 (by decide)
        have q22 := hq.2 22 (by decide)
        have q24 := hq.2 24 (by decide)
        have w := mo_leave_a (E := E) (d := 9) hs' hB' (by rw [q12]; exact c1) (by rw [hq.1 15 (by decide)]; exact c2) (by rw [hq.1 19 (by decide)]; exact c3)
        rw [rq_lz hq] at w
        exact mr_ok w (z0_ls.trans z0_lv) (rq_ll hq) (he_tr he_lv he_ls) g29 g30
      · skip
        refine lo_131 (k := 0) (r := sm_s (mo_lsn (mo_lv ρ x1) x1 (mo_lw ρ x1)) (mo_lv ρ x1 0 24).toNat) (d := 10) hS hlen hi hx1 hb1 hI (iv_lv hiv c1 c2) (by decide) (ww_131 (d := 9) (cc_vr (cl_lv (d := 7) hiv hR c1 c2) hu (n4_tr (n4_tr n4_cd (n4_u (by omega))) n4_ls)) h40 h50 (iv_lv hiv c1 c2).1.1) (fun s' ν' n1 l1 => ?_) (fun s' ν' o5 o6 o7 n h => hK _ _ s' ν' o5 o6 o7 n h (by rw [(n4_tr (n4_tr n4_cd (n4_u (by omega))) n4_ls : n4_r ρ (mo_ls (mo_lv ρ x1) x1 (mo_lw ρ x1))) 24 (by decide)]; omega))
        obtain ⟨hq, hs', hIn, g29, g30⟩ := lw_x hI n1 l1
        have hB' := hIn.1.1
        have q1 := hq.2 1 (by decide)
        have q8 := hq.2 8 (by decide)
        have q12 := hq.2 12 (by decide)
        have q21 := hq.2 21 (by decide)
        have q22 := hq.2 22 (by decide)
        have q24 := hq.2 24 (by decide)
        have w := mo_leave_b (E := E) (d := 9) hs' hB' (by rw [q12]; exact c1) (by rw [hq.1 15 (by decide)]; exact c2) (by rw [hq.1 19 (by decide)]; omega)
        rw [rq_lz hq] at w
        exact mr_ok w (z0_ls.trans z0_lv) (rq_ll hq) (he_tr he_lv he_ls) g29 g30
    · skip
      refine lo_131 (k := 2) (r := 0) (d := 10) hS hlen hi hx1 hb1 hI (hiv) (by decide) (wx_131_9 (d := 9) (cl_lv_s (d := 7) hiv hR c1 c2 (by decide)) h50 hiv.1.1 hR hu) (fun s' ν' n1 l1 => ?_) (fun s' ν' o5 o6 o7 n h => hK _ _ s' ν' o5 o6 o7 n h (by omega))
      obtain ⟨hq, hs', hIn, g29, g30⟩ := lw_x hI n1 l1
      have hB' := hIn.1.1
      have q1 := hq.2 1 (by decide)
      have q8 := hq.2 8 (by decide)
      have q12 := hq.2 12 (by decide)
      have q21 := hq.2 21 (by decide)
      have q22 := hq.2 22 (by decide)
      have q24 := hq.2 24 (by decide)
      exact mr_ex (mo_leave_s (d := 9) hs' hB' (by rw [q12]; exact c1) (by rw [hq.1 15 (by decide)]; exact c2)) (by decide) hq g29 g30
  · skip
    refine lo_131 (k := 1) (r := 0) (d := 10) hS hlen hi hx1 hb1 hI (hiv) (by decide) (wx_131_8 (d := 9) (cl_lv_b (d := 7) hiv hR hb1 c1 (by decide)) h50 hiv.1.1 hR hu) (fun s' ν' n1 l1 => ?_) (fun s' ν' o5 o6 o7 n h => hK _ _ s' ν' o5 o6 o7 n h (by omega))
    obtain ⟨hq, hs', hIn, g29, g30⟩ := lw_x hI n1 l1
    have hB' := hIn.1.1
    have q1 := hq.2 1 (by decide)
    have q8 := hq.2 8 (by decide)
    have q12 := hq.2 12 (by decide)
    have q21 := hq.2 21 (by decide)
    have q22 := hq.2 22 (by decide)
    have q24 := hq.2 24 (by decide)
    exact mr_ex (mo_leave_bad (d := 9) hs' hB' hb1 (by rw [q12]; exact c1)) (by decide) hq g29 g30
theorem lq_132 (hS : E.2.1 < E.1) (hlen : E.2.2.1 ≤ 3072) (hi : 0 ≤ i ∧ i + 6 ≤ (E.2.2.1 : Int)) (hI : lw_I ρ f s ν) (hE : E.2.2.2.2.1 < E.1 ∧ E.2.2.2.2.1 ≠ E.2.1) (ht : ρ 0 24 < 512) (hK : ∀ ρ' f' s' ν' o5 o6 o7, ns_r s s' → lw_I ρ' f' s' ν' → ρ' 0 24 ≤ ρ 0 24 + 1 → sw_w E 11 140 (1122, [some (2, 9001), some (2, 50), some (2, 0), some (2, 40), some (0, i), o5, o6, o7], []) s' ν' Q) : sw_w E 11 140 (542, [some (2, 9001), some (2, 50), some (2, 0), some (2, 40), some (0, i), o5, o6, o7], []) s ν Q := by
  obtain ⟨hs, h40, hiv, hR, hu, hrq, h29, h30⟩ := id hI
  have h50 := hR.sh.1
  have b1 := hiv.1.1.1
  have b12 := hiv.1.1.2.2.1
  have b24 := hiv.1.1.2.2.2.2.2.1
  generalize hx1 : (E.2.2.2.1 (i + 1).toNat).toInt = x1
  have hb1 := i3_b (E.2.2.2.1 (i + 1).toNat)
  rw [hx1] at hb1
  generalize hx2 : (E.2.2.2.1 (i + 2).toNat).toInt = x2
  have hb2 := i3_b (E.2.2.2.1 (i + 2).toNat)
  rw [hx2] at hb2
  generalize hx3 : (E.2.2.2.1 (i + 3).toNat).toInt = x3
  have hb3 := i3_b (E.2.2.2.1 (i + 3).toNat)
  rw [hx3] at hb3
  by_cases c1 : 0 ≤ x1 ∧ x1 < ρ 0 12
  · skip
    by_cases c2 : 0 ≤ x2
    · skip
      by_cases c3 : ρ 15 x1 = 1 ∨ ρ 15 x1 = 2
      · skip
        by_cases c4 : mo_wt ρ x1 = 8
        · skip
          rcases c3 with c3 | c3
          · skip
            refine lo_132 (k := 2) (r := 0) (d := 10) hS hlen hi hx1 hb1 hx2 hb2 hx3 hb3 hI (hiv) (by decide) (wx_132_9 (d := 9) (cl_rq_s21 (d := 7) hiv hR c1 ⟨c2, hb2.2⟩ c3 c4 (by decide)) h50 hiv.1.1 hR hu) (fun s' ν' n1 l1 => ?_) (fun s' ν' o5 o6 o7 n h => hK _ _ s' ν' o5 o6 o7 n h (by omega))
            obtain ⟨hq, hs', hIn, g29, g30⟩ := lw_x hI n1 l1
            have hB' := hIn.1.1
            have q1 := hq.2 1 (by decide)
            have q8 := hq.2 8 (by decide)
            have q12 := hq.2 12 (by decide)
            have q21 := hq.2 21 (by decide)
            have q22 := hq.2 22 (by decide)
            have q24 := hq.2 24 (by decide)
            exact mr_ex (mo_request_s2 (d := 9) hs' hB' (by rw [q12]; exact c1) ⟨c2, hb2.2⟩ (by rw [hq.1 15 (by decide)]; exact Or.inl c3) (by rw [rq_wt hq]; exact c4)) (by decide) hq g29 g30
          · skip
            refine lo_132 (k := 2) (r := 0) (d := 10) hS hlen hi hx1 hb1 hx2 hb2 hx3 hb3 hI (hiv) (by decide) (wx_132_9 (d := 9) (cl_rq_s22 (d := 7) hiv hR c1 ⟨c2, hb2.2⟩ c3 c4 (by decide)) h50 hiv.1.1 hR hu) (fun s' ν' n1 l1 => ?_) (fun s' ν' o5 o6 o7 n h => hK _ _ s' ν' o5 o6 o7 n h (by omega))
            obtain ⟨hq, hs', hIn, g29, g30⟩ := lw_x hI n1 l1
            have hB' := hIn.1.1
            have q1 := hq.2 1 (by decide)
            have q8 := hq.2 8 (by decide)
            have q12 := hq.2 12 (by decide)
            have q21 := hq.2 21 (by decide)
            have q22 := hq.2 22 (by decide)
            have q24 := hq.2 24 (by decide)
            exact mr_ex (mo_request_s2 (d := 9) hs' hB' (by rw [q12]; exact c1) ⟨c2, hb2.2⟩ (by rw [hq.1 15 (by decide)]; exact Or.inr c3) (by rw [rq_wt hq]; exact c4)) (by decide) hq g29 g30
        · skip
          refine lo_132 (k := 0) (r := ρ 0 24) (d := 10) hS hlen hi hx1 hb1 hx2 hb2 hx3 hb3 hI (iv_rq hiv c1 ⟨c2, hb2.2⟩ c4 ht) (by decide) (ww_132 (d := 9) (cc_vs (cl_rq (d := 2) hE hiv hR hu c1 ⟨c2, hb2.2⟩ c3 c4 ht)) h40 h50 (iv_rq hiv c1 ⟨c2, hb2.2⟩ c4 ht).1.1) (fun s' ν' n1 l1 => ?_) (fun s' ν' o5 o6 o7 n h => hK _ _ s' ν' o5 o6 o7 n h (by rw [qr_24]; omega))
          obtain ⟨hq, hs', hIn, g29, g30⟩ := lw_x hI n1 l1
          have hB' := hIn.1.1
          have q1 := hq.2 1 (by decide)
          have q8 := hq.2 8 (by decide)
          have q12 := hq.2 12 (by decide)
          have q21 := hq.2 21 (by decide)
          have q22 := hq.2 22 (by decide)
          have q24 := hq.2 24 (by decide)
          have w := mo_request_ok (E := E) (d := 9) (w := x3) hs' hB' (by rw [q12]; exact c1) ⟨c2, hb2.2⟩ (by rw [hq.1 15 (by decide)]; exact c3) (by rw [rq_wt hq]; exact c4) (by rw [q24]; exact ht)
          rw [show ν' 0 24 + 1 - 1 = ρ 0 24 by omega] at w
          exact mr_ok w (z0_nq) (rq_nq hq) (he_nq) g29 g30
      · skip
        refine lo_132 (k := 2) (r := 0) (d := 10) hS hlen hi hx1 hb1 hx2 hb2 hx3 hb3 hI (hiv) (by decide) (wx_132_9 (d := 9) (cl_rq_s1 (d := 7) hiv hR c1 ⟨c2, hb2.2⟩ (fun h => c3 (Or.inl h)) (fun h => c3 (Or.inr h)) (by decide)) h50 hiv.1.1 hR hu) (fun s' ν' n1 l1 => ?_) (fun s' ν' o5 o6 o7 n h => hK _ _ s' ν' o5 o6 o7 n h (by omega))
        obtain ⟨hq, hs', hIn, g29, g30⟩ := lw_x hI n1 l1
        have hB' := hIn.1.1
        have q1 := hq.2 1 (by decide)
        have q8 := hq.2 8 (by decide)
        have q12 := hq.2 12 (by decide)
        have q21 := hq.2 21 (by decide)
        have q22 := hq.2 22 (by decide)
        have q24 := hq.2 24 (by decide)
        exact mr_ex (mo_request_s1 (d := 9) hs' hB' (by rw [q12]; exact c1) ⟨c2, hb2.2⟩ (by rw [hq.1 15 (by decide)]; exact fun h => c3 (Or.inl h)) (by rw [hq.1 15 (by decide)]; exact fun h => c3 (Or.inr h))) (by decide) hq g29 g30
    · skip
      refine lo_132 (k := 1) (r := 0) (d := 10) hS hlen hi hx1 hb1 hx2 hb2 hx3 hb3 hI (hiv) (by decide) (wx_132_8 (d := 9) (cl_rq_b2 (d := 7) hiv hR c1 (by omega) (by decide)) h50 hiv.1.1 hR hu) (fun s' ν' n1 l1 => ?_) (fun s' ν' o5 o6 o7 n h => hK _ _ s' ν' o5 o6 o7 n h (by omega))
      obtain ⟨hq, hs', hIn, g29, g30⟩ := lw_x hI n1 l1
      have hB' := hIn.1.1
      have q1 := hq.2 1 (by decide)
      have q8 := hq.2 8 (by decide)
      have q12 := hq.2 12 (by decide)
      have q21 := hq.2 21 (by decide)
      have q22 := hq.2 22 (by decide)
      have q24 := hq.2 24 (by decide)
      exact mr_ex (mo_request_b2 (d := 9) hs' hB' (by rw [q12]; exact c1) (by omega)) (by decide) hq g29 g30
  · skip
    refine lo_132 (k := 1) (r := 0) (d := 10) hS hlen hi hx1 hb1 hx2 hb2 hx3 hb3 hI (hiv) (by decide) (wx_132_8 (d := 9) (cl_rq_b1 (d := 7) hiv hR hb1 c1 (by decide)) h50 hiv.1.1 hR hu) (fun s' ν' n1 l1 => ?_) (fun s' ν' o5 o6 o7 n h => hK _ _ s' ν' o5 o6 o7 n h (by omega))
    obtain ⟨hq, hs', hIn, g29, g30⟩ := lw_x hI n1 l1
    have hB' := hIn.1.1
    have q1 := hq.2 1 (by decide)
    have q8 := hq.2 8 (by decide)
    have q12 := hq.2 12 (by decide)
    have q21 := hq.2 21 (by decide)
    have q22 := hq.2 22 (by decide)
    have q24 := hq.2 24 (by decide)
    exact mr_ex (mo_request_b1 (d := 9) hs' hB' hb1 (by rw [q12]; exact c1)) (by decide) hq g29 g30
theorem lq_133 (hS : E.2.1 < E.1) (hlen : E.2.2.1 ≤ 3072) (hi : 0 ≤ i ∧ i + 6 ≤ (E.2.2.1 : Int)) (hI : lw_I ρ f s ν) (hK : ∀ ρ' f' s' ν' o5 o6 o7, ns_r s s' → lw_I ρ' f' s' ν' → ρ' 0 24 ≤ ρ 0 24 + 1 → sw_w E 11 140 (1122, [some (2, 9001), some (2, 50), some (2, 0), some (2, 40), some (0, i), o5, o6, o7], []) s' ν' Q) : sw_w E 11 140 (622, [some (2, 9001), some (2, 50), some (2, 0), some (2, 40), some (0, i), o5, o6, o7], []) s ν Q := by
  obtain ⟨hs, h40, hiv, hR, hu, hrq, h29, h30⟩ := id hI
  have h50 := hR.sh.1
  have b1 := hiv.1.1.1
  have b12 := hiv.1.1.2.2.1
  have b24 := hiv.1.1.2.2.2.2.2.1
  generalize hx1 : (E.2.2.2.1 (i + 1).toNat).toInt = x1
  have hb1 := i3_b (E.2.2.2.1 (i + 1).toNat)
  rw [hx1] at hb1
  by_cases c1 : 0 ≤ x1 ∧ x1 < ρ 0 12
  · skip
    by_cases c2 : wk_d ρ x1
    · skip
      refine lo_133 (k := 0) (r := 1) (d := 10) hS hlen hi hx1 hb1 hI (iv_wk hiv c1 c2) (by decide) (Or.inr rfl) (ww_133 (d := 9) (cc_vr (cl_wk1 (d := 7) hiv hR c1 c2) hu n4_wk) h40 h50 (Or.inr rfl) (iv_wk hiv c1 c2).1.1) (fun s' ν' n1 l1 => ?_) (fun s' ν' o5 o6 o7 n h => hK _ _ s' ν' o5 o6 o7 n h (by rw [(n4_wk : n4_r ρ (wk_f ρ x1)) 24 (by decide)]; omega))
      obtain ⟨hq, hs', hIn, g29, g30⟩ := lw_x hI n1 l1
      have hB' := hIn.1.1
      have q1 := hq.2 1 (by decide)
      have q8 := hq.2 8 (by decide)
      have q12 := hq.2 12 (by decide)
      have q21 := hq.2 21 (by decide)
      have q22 := hq.2 22 (by decide)
      have q24 := hq.2 24 (by decide)
      have w := mo_wk (E := E) (d := 9) hs' hIn (by rw [q12]; exact c1) (rq_wd hq c2)
      exact mr_ok w (z0_wk) (rq_wk (rq_cd hq)) (he_tr he_cd he_wk) g29 g30
    · skip
      refine lo_133 (k := 0) (r := 0) (d := 10) hS hlen hi hx1 hb1 hI (hiv) (by decide) (Or.inl rfl) (ww_133 (d := 9) (cc_is (cl_wk0 (d := 7) hiv hR c1 c2) hR hu) h40 h50 (Or.inl rfl) (hiv).1.1) (fun s' ν' n1 l1 => ?_) (fun s' ν' o5 o6 o7 n h => hK _ _ s' ν' o5 o6 o7 n h (by omega))
      obtain ⟨hq, hs', hIn, g29, g30⟩ := lw_x hI n1 l1
      have hB' := hIn.1.1
      have q1 := hq.2 1 (by decide)
      have q8 := hq.2 8 (by decide)
      have q12 := hq.2 12 (by decide)
      have q21 := hq.2 21 (by decide)
      have q22 := hq.2 22 (by decide)
      have q24 := hq.2 24 (by decide)
      have w := mo_wk0 (E := E) (d := 9) hs' hIn (by rw [q12]; exact c1) (fun h => c2 (rq_wd (rq_sy hq) h))
      exact mr_ok w (mm_u_at) (rq_cd hq) (he_cd) g29 g30
  · skip
    refine lo_133 (k := 1) (r := 0) (d := 10) hS hlen hi hx1 hb1 hI (hiv) (by decide) (Or.inl rfl) (wx_133_8 (d := 9) (cl_wk_b (d := 7) hiv hR hb1 c1 (by decide)) h50 hiv.1.1 hR hu) (fun s' ν' n1 l1 => ?_) (fun s' ν' o5 o6 o7 n h => hK _ _ s' ν' o5 o6 o7 n h (by omega))
    obtain ⟨hq, hs', hIn, g29, g30⟩ := lw_x hI n1 l1
    have hB' := hIn.1.1
    have q1 := hq.2 1 (by decide)
    have q8 := hq.2 8 (by decide)
    have q12 := hq.2 12 (by decide)
    have q21 := hq.2 21 (by decide)
    have q22 := hq.2 22 (by decide)
    have q24 := hq.2 24 (by decide)
    exact mr_ex (mo_work_bad (d := 9) hs' hB' hb1 (by rw [q12]; exact c1)) (by decide) hq g29 g30
theorem lq_134 (hS : E.2.1 < E.1) (hlen : E.2.2.1 ≤ 3072) (hi : 0 ≤ i ∧ i + 6 ≤ (E.2.2.1 : Int)) (hI : lw_I ρ f s ν) (hK : ∀ ρ' f' s' ν' o5 o6 o7, ns_r s s' → lw_I ρ' f' s' ν' → ρ' 0 24 ≤ ρ 0 24 + 1 → sw_w E 11 140 (1122, [some (2, 9001), some (2, 50), some (2, 0), some (2, 40), some (0, i), o5, o6, o7], []) s' ν' Q) : sw_w E 11 140 (685, [some (2, 9001), some (2, 50), some (2, 0), some (2, 40), some (0, i), o5, o6, o7], []) s ν Q := by
  obtain ⟨hs, h40, hiv, hR, hu, hrq, h29, h30⟩ := id hI
  have h50 := hR.sh.1
  have b1 := hiv.1.1.1
  have b12 := hiv.1.1.2.2.1
  have b24 := hiv.1.1.2.2.2.2.2.1
  generalize hx1 : (E.2.2.2.1 (i + 1).toNat).toInt = x1
  have hb1 := i3_b (E.2.2.2.1 (i + 1).toNat)
  rw [hx1] at hb1
  by_cases c1 : 0 ≤ x1 ∧ x1 < ρ 0 24
  · skip
    have bt := (hiv.1.1.tk x1 c1.1 (by omega)).2.2
    refine lo_134 (k := 0) (r := ρ 28 x1) (d := 10) hS hlen hi hx1 hb1 hI (hiv) (by decide) (by omega) (ww_134 (d := 9) (cc_is (cl_re1 (d := 6) hiv.1 hR c1) hR hu) h40 h50 (hiv).1.1) (fun s' ν' n1 l1 => ?_) (fun s' ν' o5 o6 o7 n h => hK _ _ s' ν' o5 o6 o7 n h (by omega))
    obtain ⟨hq, hs', hIn, g29, g30⟩ := lw_x hI n1 l1
    have hB' := hIn.1.1
    have q1 := hq.2 1 (by decide)
    have q8 := hq.2 8 (by decide)
    have q12 := hq.2 12 (by decide)
    have q21 := hq.2 21 (by decide)
    have q22 := hq.2 22 (by decide)
    have q24 := hq.2 24 (by decide)
    have w := mo_result_1 (E := E) (d := 9) hs' hB' (by rw [q24]; exact c1)
    rw [hq.1 28 (by decide)] at w
    exact mr_ok w (mm_u_at) (rq_cd hq) (he_cd) g29 g30
  · skip
    refine lo_134 (k := 1) (r := 0) (d := 10) hS hlen hi hx1 hb1 hI (hiv) (by decide) (by decide) (wx_134_8 (d := 9) (cl_re0 (d := 6) hiv.1 hR hb1 (by decide) c1) h50 hiv.1.1 hR hu) (fun s' ν' n1 l1 => ?_) (fun s' ν' o5 o6 o7 n h => hK _ _ s' ν' o5 o6 o7 n h (by omega))
    obtain ⟨hq, hs', hIn, g29, g30⟩ := lw_x hI n1 l1
    have hB' := hIn.1.1
    have q1 := hq.2 1 (by decide)
    have q8 := hq.2 8 (by decide)
    have q12 := hq.2 12 (by decide)
    have q21 := hq.2 21 (by decide)
    have q22 := hq.2 22 (by decide)
    have q24 := hq.2 24 (by decide)
    exact mr_ex (mo_result_0 (d := 9) hs' hB' hb1 (by rw [q24]; exact c1)) (by decide) hq g29 g30
theorem lq_135 (hS : E.2.1 < E.1) (hlen : E.2.2.1 ≤ 3072) (hi : 0 ≤ i ∧ i + 6 ≤ (E.2.2.1 : Int)) (hI : lw_I ρ f s ν) (hK : ∀ ρ' f' s' ν' o5 o6 o7, ns_r s s' → lw_I ρ' f' s' ν' → ρ' 0 24 ≤ ρ 0 24 + 1 → sw_w E 11 140 (1122, [some (2, 9001), some (2, 50), some (2, 0), some (2, 40), some (0, i), o5, o6, o7], []) s' ν' Q) : sw_w E 11 140 (740, [some (2, 9001), some (2, 50), some (2, 0), some (2, 40), some (0, i), o5, o6, o7], []) s ν Q := by
  obtain ⟨hs, h40, hiv, hR, hu, hrq, h29, h30⟩ := id hI
  have h50 := hR.sh.1
  have b1 := hiv.1.1.1
  have b12 := hiv.1.1.2.2.1
  have b24 := hiv.1.1.2.2.2.2.2.1
  generalize hx1 : (E.2.2.2.1 (i + 1).toNat).toInt = x1
  have hb1 := i3_b (E.2.2.2.1 (i + 1).toNat)
  rw [hx1] at hb1
  generalize hx2 : (E.2.2.2.1 (i + 2).toNat).toInt = x2
  have hb2 := i3_b (E.2.2.2.1 (i + 2).toNat)
  rw [hx2] at hb2
  by_cases c1 : 0 ≤ x1 ∧ x1 < ρ 0 12
  · skip
    by_cases c2 : 0 ≤ x2 ∧ x2 ≤ 3
    · skip
      by_cases c3 : x2 = 0
      · skip
        refine lo_135 (k := 0) (r := ρ 15 x1) (d := 10) hS hlen hi hx1 hb1 hx2 hb2 hI (hiv) (by decide) (ww_135 (d := 9) (cc_is (cl_ca0 (d := 7) hiv.1 hR c1 c3) hR hu) h40 h50 (hiv).1.1) (fun s' ν' n1 l1 => ?_) (fun s' ν' o5 o6 o7 n h => hK _ _ s' ν' o5 o6 o7 n h (by omega))
        obtain ⟨hq, hs', hIn, g29, g30⟩ := lw_x hI n1 l1
        have hB' := hIn.1.1
        have q1 := hq.2 1 (by decide)
        have q8 := hq.2 8 (by decide)
        have q12 := hq.2 12 (by decide)
        have q21 := hq.2 21 (by decide)
        have q22 := hq.2 22 (by decide)
        have q24 := hq.2 24 (by decide)
        have w := mo_card_1 (E := E) (d := 9) hs' hB' (by rw [q12]; exact c1) c2
        rw [if_pos c3, hq.1 15 (by decide)] at w
        exact mr_ok w (mm_u_at) (rq_cd hq) (he_cd) g29 g30
      · skip
        by_cases c4 : x2 = 1
        · skip
          refine lo_135 (k := 0) (r := ρ 16 x1) (d := 10) hS hlen hi hx1 hb1 hx2 hb2 hI (hiv) (by decide) (ww_135 (d := 9) (cc_is (cl_ca1 (d := 7) hiv.1 hR c1 c4) hR hu) h40 h50 (hiv).1.1) (fun s' ν' n1 l1 => ?_) (fun s' ν' o5 o6 o7 n h => hK _ _ s' ν' o5 o6 o7 n h (by omega))
          obtain ⟨hq, hs', hIn, g29, g30⟩ := lw_x hI n1 l1
          have hB' := hIn.1.1
          have q1 := hq.2 1 (by decide)
          have q8 := hq.2 8 (by decide)
          have q12 := hq.2 12 (by decide)
          have q21 := hq.2 21 (by decide)
          have q22 := hq.2 22 (by decide)
          have q24 := hq.2 24 (by decide)
          have w := mo_card_1 (E := E) (d := 9) hs' hB' (by rw [q12]; exact c1) c2
          rw [if_neg c3, if_pos c4, hq.1 16 (by decide)] at w
          exact mr_ok w (mm_u_at) (rq_cd hq) (he_cd) g29 g30
        · skip
          by_cases c5 : x2 = 2
          · skip
            refine lo_135 (k := 0) (r := mo_wt ρ x1) (d := 10) hS hlen hi hx1 hb1 hx2 hb2 hI (hiv) (by decide) (ww_135 (d := 9) (cc_is (cl_ca2 (d := 7) hiv.1 hR c1 c5) hR hu) h40 h50 (hiv).1.1) (fun s' ν' n1 l1 => ?_) (fun s' ν' o5 o6 o7 n h => hK _ _ s' ν' o5 o6 o7 n h (by omega))
            obtain ⟨hq, hs', hIn, g29, g30⟩ := lw_x hI n1 l1
            have hB' := hIn.1.1
            have q1 := hq.2 1 (by decide)
            have q8 := hq.2 8 (by decide)
            have q12 := hq.2 12 (by decide)
            have q21 := hq.2 21 (by decide)
            have q22 := hq.2 22 (by decide)
            have q24 := hq.2 24 (by decide)
            have w := mo_card_1 (E := E) (d := 9) hs' hB' (by rw [q12]; exact c1) c2
            rw [if_neg c3, if_neg c4, if_pos c5, rq_wt (rq_cd hq)] at w
            exact mr_ok w (mm_u_at) (rq_cd hq) (he_cd) g29 g30
          · skip
            refine lo_135 (k := 0) (r := ρ 19 x1) (d := 10) hS hlen hi hx1 hb1 hx2 hb2 hI (hiv) (by decide) (ww_135 (d := 9) (cc_is (cl_ca3 (d := 7) hiv.1 hR c1 (by omega)) hR hu) h40 h50 (hiv).1.1) (fun s' ν' n1 l1 => ?_) (fun s' ν' o5 o6 o7 n h => hK _ _ s' ν' o5 o6 o7 n h (by omega))
            obtain ⟨hq, hs', hIn, g29, g30⟩ := lw_x hI n1 l1
            have hB' := hIn.1.1
            have q1 := hq.2 1 (by decide)
            have q8 := hq.2 8 (by decide)
            have q12 := hq.2 12 (by decide)
            have q21 := hq.2 21 (by decide)
            have q22 := hq.2 22 (by decide)
            have q24 := hq.2 24 (by decide)
            have w := mo_card_1 (E := E) (d := 9) hs' hB' (by rw [q12]; exact c1) c2
            rw [if_neg c3, if_neg c4, if_neg c5, hq.1 19 (by decide)] at w
            exact mr_ok w (mm_u_at) (rq_cd hq) (he_cd) g29 g30
    · skip
      refine lo_135 (k := 1) (r := 0) (d := 10) hS hlen hi hx1 hb1 hx2 hb2 hI (hiv) (by decide) (wx_135_8 (d := 9) (cl_caY (d := 7) hiv.1 hR hb2 (by decide) c1 c2) h50 hiv.1.1 hR hu) (fun s' ν' n1 l1 => ?_) (fun s' ν' o5 o6 o7 n h => hK _ _ s' ν' o5 o6 o7 n h (by omega))
      obtain ⟨hq, hs', hIn, g29, g30⟩ := lw_x hI n1 l1
      have hB' := hIn.1.1
      have q1 := hq.2 1 (by decide)
      have q8 := hq.2 8 (by decide)
      have q12 := hq.2 12 (by decide)
      have q21 := hq.2 21 (by decide)
      have q22 := hq.2 22 (by decide)
      have q24 := hq.2 24 (by decide)
      exact mr_ex (mo_card_2 (d := 9) hs' hB' hb2 (by rw [q12]; exact c1) c2) (by decide) hq g29 g30
  · skip
    refine lo_135 (k := 1) (r := 0) (d := 10) hS hlen hi hx1 hb1 hx2 hb2 hI (hiv) (by decide) (wx_135_8 (d := 9) (cl_caX (d := 7) hiv.1 hR hb1 (by decide) c1) h50 hiv.1.1 hR hu) (fun s' ν' n1 l1 => ?_) (fun s' ν' o5 o6 o7 n h => hK _ _ s' ν' o5 o6 o7 n h (by omega))
    obtain ⟨hq, hs', hIn, g29, g30⟩ := lw_x hI n1 l1
    have hB' := hIn.1.1
    have q1 := hq.2 1 (by decide)
    have q8 := hq.2 8 (by decide)
    have q12 := hq.2 12 (by decide)
    have q21 := hq.2 21 (by decide)
    have q22 := hq.2 22 (by decide)
    have q24 := hq.2 24 (by decide)
    exact mr_ex (mo_card_0 (d := 9) hs' hB' hb1 hb2 (by rw [q12]; exact c1)) (by decide) hq g29 g30
theorem lq_136 (hS : E.2.1 < E.1) (hlen : E.2.2.1 ≤ 3072) (hi : 0 ≤ i ∧ i + 6 ≤ (E.2.2.1 : Int)) (hI : lw_I ρ f s ν) (hK : ∀ ρ' f' s' ν' o5 o6 o7, ns_r s s' → lw_I ρ' f' s' ν' → ρ' 0 24 ≤ ρ 0 24 + 1 → sw_w E 11 140 (1122, [some (2, 9001), some (2, 50), some (2, 0), some (2, 40), some (0, i), o5, o6, o7], []) s' ν' Q) : sw_w E 11 140 (808, [some (2, 9001), some (2, 50), some (2, 0), some (2, 40), some (0, i), o5, o6, o7], []) s ν Q := by
  obtain ⟨hs, h40, hiv, hR, hu, hrq, h29, h30⟩ := id hI
  have h50 := hR.sh.1
  have b1 := hiv.1.1.1
  have b12 := hiv.1.1.2.2.1
  have b24 := hiv.1.1.2.2.2.2.2.1
  generalize hx1 : (E.2.2.2.1 (i + 1).toNat).toInt = x1
  have hb1 := i3_b (E.2.2.2.1 (i + 1).toNat)
  rw [hx1] at hb1
  generalize hx2 : (E.2.2.2.1 (i + 2).toNat).toInt = x2
  have hb2 := i3_b (E.2.2.2.1 (i + 2).toNat)
  rw [hx2] at hb2
  by_cases c1 : 0 ≤ x1 ∧ x1 < ρ 0 12
  · skip
    by_cases c2 : 0 ≤ x2 ∧ x2 ≤ 2
    · skip
      have hrg := hiv.2.2.2.2.2.2.1 x1 x2 c1.1 c1.2 c2.1 (by omega)
      by_cases c3 : 1 ≤ ρ 15 x1 ∧ ρ 15 x1 ≤ 3
      · skip
        by_cases c4 : 0 < ρ 9 (3 * ρ 13 x1 + x2)
        · skip
          refine lo_136 (k := 0) (r := ρ 17 (3 * x1 + x2)) (d := 10) hS hlen hi hx1 hb1 hx2 hb2 hI (hiv) (by decide) (ww_136 (d := 9) (cc_is (cl_rg1 (d := 7) hiv.1 hR c1 (by omega) c3 c4) hR hu) h40 h50 (hiv).1.1) (fun s' ν' n1 l1 => ?_) (fun s' ν' o5 o6 o7 n h => hK _ _ s' ν' o5 o6 o7 n h (by omega))
          obtain ⟨hq, hs', hIn, g29, g30⟩ := lw_x hI n1 l1
          have hB' := hIn.1.1
          have q1 := hq.2 1 (by decide)
          have q8 := hq.2 8 (by decide)
          have q12 := hq.2 12 (by decide)
          have q21 := hq.2 21 (by decide)
          have q22 := hq.2 22 (by decide)
          have q24 := hq.2 24 (by decide)
          have w := mo_range_1 (E := E) (d := 9) hs' hB' (by rw [q12]; exact c1) c2
          rw [hq.1 17 (by decide)] at w
          exact mr_ok w (mm_u_at) (rq_cd hq) (he_cd) g29 g30
        · skip
          have b13 := (hiv.1.1.cd x1 c1.1 (by omega)).1
          have b9 := hiv.1.1.2.2.2.2.2.2.2.2.2.2.2.1 (3 * ρ 13 x1 + x2) (by omega) (by omega)
          have e17 : ρ 17 (3 * x1 + x2) = -1 := by rcases hrg with h | h; exact absurd h.2.1 c4; exact h.2
          refine lo_136 (k := 0) (r := -1) (d := 10) hS hlen hi hx1 hb1 hx2 hb2 hI (hiv) (by decide) (ww_136 (d := 9) (cc_is (cl_rg2 (d := 7) hiv.1 hR c1 (by omega) c3 (by omega)) hR hu) h40 h50 (hiv).1.1) (fun s' ν' n1 l1 => ?_) (fun s' ν' o5 o6 o7 n h => hK _ _ s' ν' o5 o6 o7 n h (by omega))
          obtain ⟨hq, hs', hIn, g29, g30⟩ := lw_x hI n1 l1
          have hB' := hIn.1.1
          have q1 := hq.2 1 (by decide)
          have q8 := hq.2 8 (by decide)
          have q12 := hq.2 12 (by decide)
          have q21 := hq.2 21 (by decide)
          have q22 := hq.2 22 (by decide)
          have q24 := hq.2 24 (by decide)
          have w := mo_range_1 (E := E) (d := 9) hs' hB' (by rw [q12]; exact c1) c2
          rw [hq.1 17 (by decide), e17] at w
          exact mr_ok w (mm_u_at) (rq_cd hq) (he_cd) g29 g30
      · skip
        have e17 : ρ 17 (3 * x1 + x2) = -1 := by rcases hrg with h | h; exact absurd h.1 c3; exact h.2
        refine lo_136 (k := 0) (r := -1) (d := 10) hS hlen hi hx1 hb1 hx2 hb2 hI (hiv) (by decide) (ww_136 (d := 9) (cc_is (cl_rg3 (d := 7) hiv.1 hR c1 (by omega) c3) hR hu) h40 h50 (hiv).1.1) (fun s' ν' n1 l1 => ?_) (fun s' ν' o5 o6 o7 n h => hK _ _ s' ν' o5 o6 o7 n h (by omega))
        obtain ⟨hq, hs', hIn, g29, g30⟩ := lw_x hI n1 l1
        have hB' := hIn.1.1
        have q1 := hq.2 1 (by decide)
        have q8 := hq.2 8 (by decide)
        have q12 := hq.2 12 (by decide)
        have q21 := hq.2 21 (by decide)
        have q22 := hq.2 22 (by decide)
        have q24 := hq.2 24 (by decide)
        have w := mo_range_1 (E := E) (d := 9) hs' hB' (by rw [q12]; exact c1) c2
        rw [hq.1 17 (by decide), e17] at w
        exact mr_ok w (mm_u_at) (rq_cd hq) (he_cd) g29 g30
    · skip
      refine lo_136 (k := 1) (r := 0) (d := 10) hS hlen hi hx1 hb1 hx2 hb2 hI (hiv) (by decide) (wx_136_8 (d := 9) (cl_rgY (d := 7) hiv.1 hR hb2 (by decide) c1 (by omega)) h50 hiv.1.1 hR hu) (fun s' ν' n1 l1 => ?_) (fun s' ν' o5 o6 o7 n h => hK _ _ s' ν' o5 o6 o7 n h (by omega))
      obtain ⟨hq, hs', hIn, g29, g30⟩ := lw_x hI n1 l1
      have hB' := hIn.1.1
      have q1 := hq.2 1 (by decide)
      have q8 := hq.2 8 (by decide)
      have q12 := hq.2 12 (by decide)
      have q21 := hq.2 21 (by decide)
      have q22 := hq.2 22 (by decide)
      have q24 := hq.2 24 (by decide)
      exact mr_ex (mo_range_2 (d := 9) hs' hB' hb2 (by rw [q12]; exact c1) c2) (by decide) hq g29 g30
  · skip
    refine lo_136 (k := 1) (r := 0) (d := 10) hS hlen hi hx1 hb1 hx2 hb2 hI (hiv) (by decide) (wx_136_8 (d := 9) (cl_rgX (d := 7) hiv.1 hR hb1 (by decide) c1) h50 hiv.1.1 hR hu) (fun s' ν' n1 l1 => ?_) (fun s' ν' o5 o6 o7 n h => hK _ _ s' ν' o5 o6 o7 n h (by omega))
    obtain ⟨hq, hs', hIn, g29, g30⟩ := lw_x hI n1 l1
    have hB' := hIn.1.1
    have q1 := hq.2 1 (by decide)
    have q8 := hq.2 8 (by decide)
    have q12 := hq.2 12 (by decide)
    have q21 := hq.2 21 (by decide)
    have q22 := hq.2 22 (by decide)
    have q24 := hq.2 24 (by decide)
    exact mr_ex (mo_range_0 (d := 9) hs' hB' hb1 hb2 (by rw [q12]; exact c1)) (by decide) hq g29 g30
theorem lq_137 (hS : E.2.1 < E.1) (hlen : E.2.2.1 ≤ 3072) (hi : 0 ≤ i ∧ i + 6 ≤ (E.2.2.1 : Int)) (hI : lw_I ρ f s ν) (hK : ∀ ρ' f' s' ν' o5 o6 o7, ns_r s s' → lw_I ρ' f' s' ν' → ρ' 0 24 ≤ ρ 0 24 + 1 → sw_w E 11 140 (1122, [some (2, 9001), some (2, 50), some (2, 0), some (2, 40), some (0, i), o5, o6, o7], []) s' ν' Q) : sw_w E 11 140 (876, [some (2, 9001), some (2, 50), some (2, 0), some (2, 40), some (0, i), o5, o6, o7], []) s ν Q := by
  obtain ⟨hs, h40, hiv, hR, hu, hrq, h29, h30⟩ := id hI
  have h50 := hR.sh.1
  have b1 := hiv.1.1.1
  have b12 := hiv.1.1.2.2.1
  have b24 := hiv.1.1.2.2.2.2.2.1
  generalize hx1 : (E.2.2.2.1 (i + 1).toNat).toInt = x1
  have hb1 := i3_b (E.2.2.2.1 (i + 1).toNat)
  rw [hx1] at hb1
  generalize hx2 : (E.2.2.2.1 (i + 2).toNat).toInt = x2
  have hb2 := i3_b (E.2.2.2.1 (i + 2).toNat)
  rw [hx2] at hb2
  by_cases h5 : x2 = 0
  · skip
    by_cases c1 : 0 ≤ x1 ∧ x1 < ρ 0 1
    · skip
      have wc := cl_op1 (E := E) (d := 7) hiv.1 hR c1 (Or.inl rfl)
      rw [if_pos rfl] at wc
      refine lo_137b (k := 0) (r := ρ 5 x1) (d := 10) hS hlen hi hx1 hb1 hx2 hb2 h5 hI (hiv) (by decide) (ww_137 (d := 9) (cc_is wc hR hu) h40 h50 (hiv).1.1) (fun s' ν' n1 l1 => ?_) (fun s' ν' o5 o6 o7 n h => hK _ _ s' ν' o5 o6 o7 n h (by omega))
      obtain ⟨hq, hs', hIn, g29, g30⟩ := lw_x hI n1 l1
      have hB' := hIn.1.1
      have q1 := hq.2 1 (by decide)
      have q8 := hq.2 8 (by decide)
      have q12 := hq.2 12 (by decide)
      have q21 := hq.2 21 (by decide)
      have q22 := hq.2 22 (by decide)
      have q24 := hq.2 24 (by decide)
      have w := mo_opening_1 (E := E) (d := 9) hs' hB' (by rw [q1]; exact c1) (Or.inl rfl)
      rw [if_pos rfl, hq.1 5 (by decide)] at w
      exact mr_ok w (mm_u_at) (rq_cd hq) (he_cd) g29 g30
    · skip
      refine lo_137b (k := 1) (r := 0) (d := 10) hS hlen hi hx1 hb1 hx2 hb2 h5 hI (hiv) (by decide) (wx_137_8 (d := 9) (cl_op0 (d := 7) hiv.1 hR hb1 (by decide) c1) h50 hiv.1.1 hR hu) (fun s' ν' n1 l1 => ?_) (fun s' ν' o5 o6 o7 n h => hK _ _ s' ν' o5 o6 o7 n h (by omega))
      obtain ⟨hq, hs', hIn, g29, g30⟩ := lw_x hI n1 l1
      have hB' := hIn.1.1
      have q1 := hq.2 1 (by decide)
      have q8 := hq.2 8 (by decide)
      have q12 := hq.2 12 (by decide)
      have q21 := hq.2 21 (by decide)
      have q22 := hq.2 22 (by decide)
      have q24 := hq.2 24 (by decide)
      exact mr_ex (mo_opening_0 (d := 9) hs' hB' hb1 (by rw [q1]; exact c1)) (by decide) hq g29 g30
  · skip
    by_cases c1 : 0 ≤ x1 ∧ x1 < ρ 0 1
    · skip
      have wc := cl_op1 (E := E) (d := 7) hiv.1 hR c1 (Or.inr rfl)
      rw [if_neg (by decide)] at wc
      refine lo_137a (k := 0) (r := ρ 6 x1) (d := 10) hS hlen hi hx1 hb1 hx2 hb2 h5 hI (hiv) (by decide) (ww_137 (d := 9) (cc_is wc hR hu) h40 h50 (hiv).1.1) (fun s' ν' n1 l1 => ?_) (fun s' ν' o5 o6 o7 n h => hK _ _ s' ν' o5 o6 o7 n h (by omega))
      obtain ⟨hq, hs', hIn, g29, g30⟩ := lw_x hI n1 l1
      have hB' := hIn.1.1
      have q1 := hq.2 1 (by decide)
      have q8 := hq.2 8 (by decide)
      have q12 := hq.2 12 (by decide)
      have q21 := hq.2 21 (by decide)
      have q22 := hq.2 22 (by decide)
      have q24 := hq.2 24 (by decide)
      have w := mo_opening_1 (E := E) (d := 9) hs' hB' (by rw [q1]; exact c1) (Or.inr rfl)
      rw [if_neg (by decide), hq.1 6 (by decide)] at w
      exact mr_ok w (mm_u_at) (rq_cd hq) (he_cd) g29 g30
    · skip
      refine lo_137a (k := 1) (r := 0) (d := 10) hS hlen hi hx1 hb1 hx2 hb2 h5 hI (hiv) (by decide) (wx_137_8 (d := 9) (cl_op0 (d := 7) hiv.1 hR hb1 (by decide) c1) h50 hiv.1.1 hR hu) (fun s' ν' n1 l1 => ?_) (fun s' ν' o5 o6 o7 n h => hK _ _ s' ν' o5 o6 o7 n h (by omega))
      obtain ⟨hq, hs', hIn, g29, g30⟩ := lw_x hI n1 l1
      have hB' := hIn.1.1
      have q1 := hq.2 1 (by decide)
      have q8 := hq.2 8 (by decide)
      have q12 := hq.2 12 (by decide)
      have q21 := hq.2 21 (by decide)
      have q22 := hq.2 22 (by decide)
      have q24 := hq.2 24 (by decide)
      exact mr_ex (mo_opening_0 (d := 9) hs' hB' hb1 (by rw [q1]; exact c1)) (by decide) hq g29 g30
theorem lq_138 (hS : E.2.1 < E.1) (hlen : E.2.2.1 ≤ 3072) (hi : 0 ≤ i ∧ i + 6 ≤ (E.2.2.1 : Int)) (hI : lw_I ρ f s ν) (hK : ∀ ρ' f' s' ν' o5 o6 o7, ns_r s s' → lw_I ρ' f' s' ν' → ρ' 0 24 ≤ ρ 0 24 + 1 → sw_w E 11 140 (1122, [some (2, 9001), some (2, 50), some (2, 0), some (2, 40), some (0, i), o5, o6, o7], []) s' ν' Q) : sw_w E 11 140 (985, [some (2, 9001), some (2, 50), some (2, 0), some (2, 40), some (0, i), o5, o6, o7], []) s ν Q := by
  obtain ⟨hs, h40, hiv, hR, hu, hrq, h29, h30⟩ := id hI
  have h50 := hR.sh.1
  have b1 := hiv.1.1.1
  have b12 := hiv.1.1.2.2.1
  have b24 := hiv.1.1.2.2.2.2.2.1
  generalize hx1 : (E.2.2.2.1 (i + 1).toNat).toInt = x1
  have hb1 := i3_b (E.2.2.2.1 (i + 1).toNat)
  rw [hx1] at hb1
  by_cases c1 : 0 ≤ x1 ∧ x1 < ρ 0 1
  · skip
    refine lo_138 (k := 0) (r := mo_pw ρ x1) (d := 10) hS hlen hi hx1 hb1 hI (hiv) (by decide) (ww_138 (d := 9) (cc_is (cl_po1 (d := 7) hiv.1 hR c1) hR hu) h40 h50 (hiv).1.1) (fun s' ν' n1 l1 => ?_) (fun s' ν' o5 o6 o7 n h => hK _ _ s' ν' o5 o6 o7 n h (by omega))
    obtain ⟨hq, hs', hIn, g29, g30⟩ := lw_x hI n1 l1
    have hB' := hIn.1.1
    have q1 := hq.2 1 (by decide)
    have q8 := hq.2 8 (by decide)
    have q12 := hq.2 12 (by decide)
    have q21 := hq.2 21 (by decide)
    have q22 := hq.2 22 (by decide)
    have q24 := hq.2 24 (by decide)
    have w := mo_power_1 (E := E) (d := 8) hs' hB' (by rw [q1]; exact c1)
    rw [mo_pw_c (rq_cd hq)] at w
    exact mr_ok w (mm_u_at) (rq_cd hq) (he_cd) g29 g30
  · skip
    refine lo_138 (k := 1) (r := 0) (d := 10) hS hlen hi hx1 hb1 hI (hiv) (by decide) (wx_138_8 (d := 9) (cl_po0 (d := 7) hiv.1 hR hb1 (by decide) c1) h50 hiv.1.1 hR hu) (fun s' ν' n1 l1 => ?_) (fun s' ν' o5 o6 o7 n h => hK _ _ s' ν' o5 o6 o7 n h (by omega))
    obtain ⟨hq, hs', hIn, g29, g30⟩ := lw_x hI n1 l1
    have hB' := hIn.1.1
    have q1 := hq.2 1 (by decide)
    have q8 := hq.2 8 (by decide)
    have q12 := hq.2 12 (by decide)
    have q21 := hq.2 21 (by decide)
    have q22 := hq.2 22 (by decide)
    have q24 := hq.2 24 (by decide)
    exact mr_ex (mo_power_0 (d := 9) hs' hB' hb1 (by rw [q1]; exact c1)) (by decide) hq g29 g30
theorem lq_139 (hS : E.2.1 < E.1) (hlen : E.2.2.1 ≤ 3072) (hi : 0 ≤ i ∧ i + 6 ≤ (E.2.2.1 : Int)) (hI : lw_I ρ f s ν) (hK : ∀ ρ' f' s' ν' o5 o6 o7, ns_r s s' → lw_I ρ' f' s' ν' → ρ' 0 24 ≤ ρ 0 24 + 1 → sw_w E 11 140 (1122, [some (2, 9001), some (2, 50), some (2, 0), some (2, 40), some (0, i), o5, o6, o7], []) s' ν' Q) : sw_w E 11 140 (1041, [some (2, 9001), some (2, 50), some (2, 0), some (2, 40), some (0, i), o5, o6, o7], []) s ν Q := by
  obtain ⟨hs, h40, hiv, hR, hu, hrq, h29, h30⟩ := id hI
  have h50 := hR.sh.1
  have b1 := hiv.1.1.1
  have b12 := hiv.1.1.2.2.1
  have b24 := hiv.1.1.2.2.2.2.2.1
  generalize hx1 : (E.2.2.2.1 (i + 1).toNat).toInt = x1
  have hb1 := i3_b (E.2.2.2.1 (i + 1).toNat)
  rw [hx1] at hb1
  generalize hx2 : (E.2.2.2.1 (i + 2).toNat).toInt = x2
  have hb2 := i3_b (E.2.2.2.1 (i + 2).toNat)
  rw [hx2] at hb2
  by_cases c1 : 0 ≤ x1 ∧ x1 < ρ 0 1
  · skip
    by_cases c2 : 0 ≤ x2 ∧ x2 ≤ 3
    · skip
      refine lo_139 (k := 0) (r := ρ 2 (4 * x1 + x2)) (d := 10) hS hlen hi hx1 hb1 hx2 hb2 hI (hiv) (by decide) (ww_139 (d := 9) (cc_is (cl_sl1 (d := 7) hiv.1 hR c1 c2) hR hu) h40 h50 (hiv).1.1) (fun s' ν' n1 l1 => ?_) (fun s' ν' o5 o6 o7 n h => hK _ _ s' ν' o5 o6 o7 n h (by omega))
      obtain ⟨hq, hs', hIn, g29, g30⟩ := lw_x hI n1 l1
      have hB' := hIn.1.1
      have q1 := hq.2 1 (by decide)
      have q8 := hq.2 8 (by decide)
      have q12 := hq.2 12 (by decide)
      have q21 := hq.2 21 (by decide)
      have q22 := hq.2 22 (by decide)
      have q24 := hq.2 24 (by decide)
      have w := mo_slot_1 (E := E) (d := 9) hs' hB' (by rw [q1]; exact c1) c2
      rw [hq.1 2 (by decide)] at w
      exact mr_ok w (mm_u_at) (rq_cd hq) (he_cd) g29 g30
    · skip
      refine lo_139 (k := 1) (r := 0) (d := 10) hS hlen hi hx1 hb1 hx2 hb2 hI (hiv) (by decide) (wx_139_8 (d := 9) (cl_sl2 (d := 7) hiv.1 hR hb2 (by decide) c1 c2) h50 hiv.1.1 hR hu) (fun s' ν' n1 l1 => ?_) (fun s' ν' o5 o6 o7 n h => hK _ _ s' ν' o5 o6 o7 n h (by omega))
      obtain ⟨hq, hs', hIn, g29, g30⟩ := lw_x hI n1 l1
      have hB' := hIn.1.1
      have q1 := hq.2 1 (by decide)
      have q8 := hq.2 8 (by decide)
      have q12 := hq.2 12 (by decide)
      have q21 := hq.2 21 (by decide)
      have q22 := hq.2 22 (by decide)
      have q24 := hq.2 24 (by decide)
      exact mr_ex (mo_slot_2 (d := 9) hs' hB' hb2 (by rw [q1]; exact c1) c2) (by decide) hq g29 g30
  · skip
    refine lo_139 (k := 1) (r := 0) (d := 10) hS hlen hi hx1 hb1 hx2 hb2 hI (hiv) (by decide) (wx_139_8 (d := 9) (cl_sl0 (d := 7) hiv.1 hR hb1 (by decide) c1) h50 hiv.1.1 hR hu) (fun s' ν' n1 l1 => ?_) (fun s' ν' o5 o6 o7 n h => hK _ _ s' ν' o5 o6 o7 n h (by omega))
    obtain ⟨hq, hs', hIn, g29, g30⟩ := lw_x hI n1 l1
    have hB' := hIn.1.1
    have q1 := hq.2 1 (by decide)
    have q8 := hq.2 8 (by decide)
    have q12 := hq.2 12 (by decide)
    have q21 := hq.2 21 (by decide)
    have q22 := hq.2 22 (by decide)
    have q24 := hq.2 24 (by decide)
    exact mr_ex (mo_slot_0 (d := 9) hs' hB' hb1 hb2 (by rw [q1]; exact c1)) (by decide) hq g29 g30
theorem lq_42 (hS : E.2.1 < E.1) (hlen : E.2.2.1 ≤ 3072) (hi : 0 ≤ i ∧ i + 6 ≤ (E.2.2.1 : Int)) (hI : lw_I ρ f s ν) (hK : ∀ ρ' f' s' ν' o5 o6 o7, ns_r s s' → lw_I ρ' f' s' ν' → ρ' 0 24 ≤ ρ 0 24 + 1 → sw_w E 11 140 (1122, [some (2, 9001), some (2, 50), some (2, 0), some (2, 40), some (0, i), o5, o6, o7], []) s' ν' Q) : sw_w E 11 140 (404, [some (2, 9001), some (2, 50), some (2, 0), some (2, 40), some (0, i), o5, o6, o7], []) s ν Q := by
  obtain ⟨hs, h40, hiv, hR, hu, hrq, h29, h30⟩ := id hI
  have h50 := hR.sh.1
  have b1 := hiv.1.1.1
  have b12 := hiv.1.1.2.2.1
  have b24 := hiv.1.1.2.2.2.2.2.1
  refine lo_42 (r := (go_f ρ).2) (d := 10) hS hlen hi  hI (iv_gof hiv) (cc_vr (cl_step (d := 5) hiv hR) hu (n4_go ρ)) (fun s' ν' n1 l1 => ?_) (fun s' ν' o5 o6 o7 n h => hK _ _ s' ν' o5 o6 o7 n h (by rw [n4_go ρ 24 (by decide)]; omega))
  obtain ⟨hq, hs', hIn, g29, g30⟩ := lw_x hI n1 l1
  have hB' := hIn.1.1
  have q1 := hq.2 1 (by decide)
  have q8 := hq.2 8 (by decide)
  have q12 := hq.2 12 (by decide)
  have q21 := hq.2 21 (by decide)
  have q22 := hq.2 22 (by decide)
  have q24 := hq.2 24 (by decide)
  exact sw_mono (mo_sth (E := E) (d := 3) hs' hiv hq g29 g30) (fun o s2 ν3 ⟨v, e1, e2, e3, e4, e5, e6, e7⟩ => ⟨by rw [e1, e3], e2, e4, e7, e5, e6⟩)
theorem lq_61 (hS : E.2.1 < E.1) (hlen : E.2.2.1 ≤ 3072) (hi : 0 ≤ i ∧ i + 6 ≤ (E.2.2.1 : Int)) (hI : lw_I ρ f s ν) (hK : ∀ ρ' f' s' ν' o5 o6 o7, ns_r s s' → lw_I ρ' f' s' ν' → ρ' 0 24 ≤ ρ 0 24 + 1 → sw_w E 11 140 (1122, [some (2, 9001), some (2, 50), some (2, 0), some (2, 40), some (0, i), o5, o6, o7], []) s' ν' Q) : sw_w E 11 140 (417, [some (2, 9001), some (2, 50), some (2, 0), some (2, 40), some (0, i), o5, o6, o7], []) s ν Q := by
  obtain ⟨hs, h40, hiv, hR, hu, hrq, h29, h30⟩ := id hI
  have h50 := hR.sh.1
  have b1 := hiv.1.1.1
  have b12 := hiv.1.1.2.2.1
  have b24 := hiv.1.1.2.2.2.2.2.1
  refine lo_61 (r := (se_f 4 ρ).1) (d := 10) hS hlen hi  hI (iv_se 4 ρ hiv) (cc_vr (cl_settle (d := 4) hiv hR) hu (n4_se 4 ρ)) (fun s' ν' n1 l1 => ?_) (fun s' ν' o5 o6 o7 n h => hK _ _ s' ν' o5 o6 o7 n h (by rw [n4_se 4 ρ 24 (by decide)]; omega))
  obtain ⟨hq, hs', hIn, g29, g30⟩ := lw_x hI n1 l1
  have hB' := hIn.1.1
  have q1 := hq.2 1 (by decide)
  have q8 := hq.2 8 (by decide)
  have q12 := hq.2 12 (by decide)
  have q21 := hq.2 21 (by decide)
  have q22 := hq.2 22 (by decide)
  have q24 := hq.2 24 (by decide)
  exact sw_mono (mo_seh (E := E) (d := 3) hs' hiv hq g29 g30) (fun o s2 ν3 ⟨v, e1, e2, e3, e4, e5, e6, e7⟩ => ⟨by rw [e1, e3], e2, e4, e7, e5, e6⟩)
theorem lq_62 (hS : E.2.1 < E.1) (hlen : E.2.2.1 ≤ 3072) (hi : 0 ≤ i ∧ i + 6 ≤ (E.2.2.1 : Int)) (hI : lw_I ρ f s ν) (hK : ∀ ρ' f' s' ν' o5 o6 o7, ns_r s s' → lw_I ρ' f' s' ν' → ρ' 0 24 ≤ ρ 0 24 + 1 → sw_w E 11 140 (1122, [some (2, 9001), some (2, 50), some (2, 0), some (2, 40), some (0, i), o5, o6, o7], []) s' ν' Q) : sw_w E 11 140 (960, [some (2, 9001), some (2, 50), some (2, 0), some (2, 40), some (0, i), o5, o6, o7], []) s ν Q := by
  obtain ⟨hs, h40, hiv, hR, hu, hrq, h29, h30⟩ := id hI
  have h50 := hR.sh.1
  have b1 := hiv.1.1.1
  have b12 := hiv.1.1.2.2.1
  have b24 := hiv.1.1.2.2.2.2.2.1
  generalize hx1 : (E.2.2.2.1 (i + 1).toNat).toInt = x1
  have hb1 := i3_b (E.2.2.2.1 (i + 1).toNat)
  rw [hx1] at hb1
  refine lo_62 (r := mo_do ρ x1 (ρ 0 12).toNat 0 (-1)) (d := 10) hS hlen hi hx1 hI (hiv) (cc_is (cl_dc (d := 9) hiv hR hb1) hR hu) (fun s' ν' n1 l1 => ?_) (fun s' ν' o5 o6 o7 n h => hK _ _ s' ν' o5 o6 o7 n h (by omega))
  obtain ⟨hq, hs', hIn, g29, g30⟩ := lw_x hI n1 l1
  have hB' := hIn.1.1
  have q1 := hq.2 1 (by decide)
  have q8 := hq.2 8 (by decide)
  have q12 := hq.2 12 (by decide)
  have q21 := hq.2 21 (by decide)
  have q22 := hq.2 22 (by decide)
  have q24 := hq.2 24 (by decide)
  have w := mo_decode (E := E) (d := 9) hs' hB' hb1
  rw [rq_do hq, q12] at w
  exact md_ok w hq g29 g30
theorem lq_63 (hS : E.2.1 < E.1) (hlen : E.2.2.1 ≤ 3072) (hi : 0 ≤ i ∧ i + 6 ≤ (E.2.2.1 : Int)) (hI : lw_I ρ f s ν) (hK : ∀ ρ' f' s' ν' o5 o6 o7, ns_r s s' → lw_I ρ' f' s' ν' → ρ' 0 24 ≤ ρ 0 24 + 1 → sw_w E 11 140 (1122, [some (2, 9001), some (2, 50), some (2, 0), some (2, 40), some (0, i), o5, o6, o7], []) s' ν' Q) : sw_w E 11 140 (1109, [some (2, 9001), some (2, 50), some (2, 0), some (2, 40), some (0, i), o5, o6, o7], []) s ν Q := by
  obtain ⟨hs, h40, hiv, hR, hu, hrq, h29, h30⟩ := id hI
  have h50 := hR.sh.1
  have b1 := hiv.1.1.1
  have b12 := hiv.1.1.2.2.1
  have b24 := hiv.1.1.2.2.2.2.2.1
  refine lo_63 (r := ρ 0 23) (d := 10) hS hlen hi  hI (hiv) (cc_is (cl_moved (d := 10) hiv.1 hR) hR hu) (fun s' ν' n1 l1 => ?_) (fun s' ν' o5 o6 o7 n h => hK _ _ s' ν' o5 o6 o7 n h (by omega))
  obtain ⟨hq, hs', hIn, g29, g30⟩ := lw_x hI n1 l1
  have hB' := hIn.1.1
  have q1 := hq.2 1 (by decide)
  have q8 := hq.2 8 (by decide)
  have q12 := hq.2 12 (by decide)
  have q21 := hq.2 21 (by decide)
  have q22 := hq.2 22 (by decide)
  have q24 := hq.2 24 (by decide)
  have w := mo_movedp (E := E) (d := 9) hs' hB'
  rw [hq.2 23 (by decide)] at w
  exact md_ok (z := 0) w hq g29 g30
end LW3
