/-! the class: request -/
def nq_s (s : mm_T) (n x w : Int) : mm_T := mm_u (mm_u (nm_al s (1000 + n) 104 0 3 (mm_z 4)) (1000 + n) 0 x) (1000 + n) 1 w
def nq_n (ν : mm_T) (n c u : Int) : mm_T := mm_u (mm_u (mm_u (sw_nw ν (1000 + n) (mm_z 4)) (1000 + n) 2 1099511627776) (380 + c) u (1000 + n)) (300 + c) 8 (u + 1)
section RQ1
variable {E : mv_E} {s s' ν ν' ρ : mm_T} {f : Int → Int} {d : Nat} {a b c e i k l n o p q r t u v w x y z : Int} {Q : nm_O → mm_T → mm_T → Prop}
theorem nqs_f (h0 : 0 ≤ p) (h1 : p ≠ 1000 + n) : nq_s s n x w p i = s p i := by
  unfold nq_s
  rw [mm_u_ne (by omega), mm_u_ne (by omega), al_ne (by omega) (by omega)]
theorem nqs_v (hn : 0 ≤ n) : nq_s s n x w (1000 + n) (-1) = 104 ∧ nq_s s n x w (1000 + n) 0 = x ∧ nq_s s n x w (1000 + n) 1 = w := by
  unfold nq_s
  refine ⟨?_, ?_, mm_u_at⟩
  · rw [mm_u_ne (by omega), mm_u_ne (by omega), al_k (by omega)]
  · rw [mm_u_ne (by omega), mm_u_at]
theorem nqs_c (hn : 0 ≤ n) : nq_s s n x w (-1) 0 = s (-1) 0 + 1 ∧ nq_s s n x w (-1) 1 = s (-1) 1 + 3 := by
  unfold nq_s
  constructor
  · rw [mm_u_ne (by omega), mm_u_ne (by omega), al_c0]
  · rw [mm_u_ne (by omega), mm_u_ne (by omega), al_c1]
theorem nqn_f (h1 : p ≠ 1000 + n) (h2 : ¬ (p = 380 + c ∧ i = u)) (h3 : ¬ (p = 300 + c ∧ i = 8)) : nq_n ν n c u p i = ν p i := by
  unfold nq_n
  rw [mm_u_ne (by omega), mm_u_ne (by omega), mm_u_ne (by omega), nw_ne (by omega)]
theorem nqn_v (hn : 0 ≤ n) (hc : 0 ≤ c ∧ c < 40) : nq_n ν n c u (1000 + n) 2 = 1099511627776 ∧ nq_n ν n c u (380 + c) u = 1000 + n ∧ nq_n ν n c u (300 + c) 8 = u + 1 := by
  unfold nq_n
  refine ⟨?_, ?_, mm_u_at⟩
  · rw [mm_u_ne (by omega), mm_u_ne (by omega), mm_u_at]
  · rw [mm_u_ne (by omega), mm_u_at]
theorem li_rq (hE : E.2.2.2.2.1 < E.1 ∧ E.2.2.2.2.1 ≠ E.2.1) (hI : iv_I ρ f) (hR : pt_R s ν ρ f) (hu : un_r s ν ρ) (hc : 0 ≤ c ∧ c < ρ 0 12) (h3 : ρ 0 24 < 512) : sw_w E (d + 6) 4 (0, [some (2, 54), some (2, 1000 + ρ 0 24)], []) (nq_s s (ρ 0 24) x w) (nq_n ν (ρ 0 24) c u) (sw_vs (fun r s' ν' => r = some (0, 1) ∧ ad_e (nq_s s (ρ 0 24) x w) (nq_n ν (ρ 0 24) c u) (1000 + ρ 0 24) (ρ 0 24) s' ν')) := by
  have b1 := hI.1.1.1
  have b12 := hI.1.1.2.2.1
  have b24 := hI.1.1.2.2.2.2.2.1
  have b8 := hI.1.1.2.1
  have hR' : pt_R (nq_s s (ρ 0 24) x w) ν ρ f := R_s hI.1.1 (fun p i hp => by unfold us_d at hp; exact nqs_f (by omega) (by omega)) hR
  have e0 : nq_n ν (ρ 0 24) c u 54 0 = ν 54 0 := nqn_f (by omega) (by omega) (by omega)
  refine li_ad (ρ := ρ) hE ?_ ?_ (fun p g1 g2 g3 => ?_) ⟨b24.1, h3⟩ (fun t t0 t1 => (hR'.rq t t0 t1).1) (nqs_v b24.1).1 (by omega)
  · exact hR'.sh.2.2.2.2.1.2
  · exact pt_L_c hR'.li hI.1.1 rfl e0 (nqn_f (by omega) (by omega) (by omega)) (fun p t hp => nqn_f (by omega) (by omega) (by omega))
  · rw [nqs_f (by omega) (by omega)]
    exact hu.2.2.2.2 p g1 g2 g3
theorem R_nq (hI : iv_I ρ f) (hR : pt_R s ν ρ f) (hc : 0 ≤ c ∧ c < ρ 0 12) (h2 : mo_wt ρ c ≠ 8) (h3 : ρ 0 24 < 512) (had : ad_e (nq_s s (ρ 0 24) x w) (nq_n ν (ρ 0 24) c (mo_wt ρ c)) (1000 + ρ 0 24) (ρ 0 24) s' ν') : pt_R s' ν' (mo_rq ρ c x w) f := by
  have hA := hI.1
  have h8 := hI.2.2.1
  have b1 := hA.1.1
  have b8 := hA.1.2.1
  have b12 := hA.1.2.2.1
  have b24 := hA.1.2.2.2.2.2.1
  obtain ⟨⟨a1, a2, a3, a4⟩, a5, a6, a7, a8, a9, -⟩ := had
  have sv := nqs_v (s := s) (x := x) (w := w) b24.1
  have nv := nqn_v (ν := ν) (c := c) (u := mo_wt ρ c) b24.1 (by omega)
  have e54 : nq_n ν (ρ 0 24) c (mo_wt ρ c) 54 0 = ν 54 0 := nqn_f (by omega) (by omega) (by omega)
  rw [e54] at a8
  have sf : ∀ p i, 0 ≤ p → p ≠ 1000 + ρ 0 24 → p = ν 54 0 ∨ ¬ (70 ≤ p ∧ p ≤ 80) → s' p i = s p i := fun p i g1 g2 g3 => (a8 p i g1 g3).trans (nqs_f g1 g2)
  have nf : ∀ p i, p ≠ 54 → ¬ (70 ≤ p ∧ p ≤ 80) → p ≠ 1000 + ρ 0 24 → ¬ (p = 380 + c ∧ i = mo_wt ρ c) → ¬ (p = 300 + c ∧ i = 8) → ν' p i = ν p i := fun p i g1 g2 g3 g4 g5 => (a7 p i g1 g2).trans (nqn_f g3 g4 g5)
  have sv1 := (a8 (1000 + ρ 0 24) (-1) (by omega) (Or.inr (by omega))).trans sv.1
  have sv2 := (a8 (1000 + ρ 0 24) 0 (by omega) (Or.inr (by omega))).trans sv.2.1
  have sv3 := (a8 (1000 + ρ 0 24) 1 (by omega) (Or.inr (by omega))).trans sv.2.2
  have nv1 := (a7 (1000 + ρ 0 24) 2 (by omega) (by omega)).trans nv.1
  have nv2 := (a7 (380 + c) (mo_wt ρ c) (by omega) (by omega)).trans nv.2.1
  have nv3 := (a7 (300 + c) 8 (by omega) (by omega)).trans nv.2.2
  clear a7 a8 a9 nv sv e54
  have hR' : pt_R s' ν ρ f := R_s hA.1 (fun p i hp => sf p i (by unfold us_d at hp; omega) (by unfold us_d at hp; omega) (by unfold us_d at hp; omega)) hR
  have er := fun p hp => qr_p (ρ := ρ) (c := c) (x := x) (w := w) (p := p) hp
  have e0 := fun i hi => qr_0 (ρ := ρ) (c := c) (x := x) (w := w) (i := i) hi
  have e24 := qr_24 (ρ := ρ) (c := c) (x := x) (w := w)
  have e26 := fun i => qr_26 (ρ := ρ) (c := c) (x := x) (w := w) (i := i)
  have e27 := fun i => qr_27 (ρ := ρ) (c := c) (x := x) (w := w) (i := i)
  have e28 := fun i => qr_28 (ρ := ρ) (c := c) (x := x) (w := w) (i := i)
  have ew := fun c2 => qr_wt (c := c) (x := x) (w := w) (c2 := c2) b24.1
  have epd := fun c2 i hi => qr_pd (ρ := ρ) (c := c) (x := x) (w := w) (c2 := c2) (i := i) hi
  have epn := fun c2 => qr_pn (ρ := ρ) (c := c) (x := x) (w := w) (c2 := c2)
  have esm := fun c2 i hi => qr_sm (ρ := ρ) (c := c) (x := x) (w := w) (c2 := c2) (i := i) b24.1 hi
  generalize mo_rq ρ c x w = ρ' at *
  have e2 := er 2 (by omega)
  have e9 := er 9 (by omega)
  have e13 := er 13 (by omega)
  have e14 := er 14 (by omega)
  have e15 := er 15 (by omega)
  have e17 := er 17 (by omega)
  have q1 := e0 1 (by omega)
  have q8 := e0 8 (by omega)
  have q12 := e0 12 (by omega)
  refine ⟨hR'.sh, ?_, ?_, ?_, ?_, ?_, ?_, ?_, ?_, ?_, ?_, ?_, ?_, ?_⟩
  · exact pt_Br_c hR'.br q1 (fun b _ _ => by rw [er 3 (by omega)]) (fun b _ _ => by rw [er 4 (by omega)])
  · exact pt_Bn_c hR.bn q1 (fun b h1 h2 => ⟨nf 51 b (by omega) (by omega) (by omega) (by omega) (by omega), nf (100 + b) 6 (by omega) (by omega) (by omega) (by omega) (by omega), nf (100 + b) 7 (by omega) (by omega) (by omega) (by omega) (by omega), by rw [er 5 (by omega)], by rw [er 6 (by omega)]⟩)
  · exact pt_Sl_c hR.sl q1 (fun b i h1 h2 h3 h4 => ⟨nf (110 + b) i (by omega) (by omega) (by omega) (by omega) (by omega), nf (120 + b) i (by omega) (by omega) (by omega) (by omega) (by omega), by rw [e2]⟩)
  · exact pt_Ty_c hR'.ty q8 (fun t _ _ => ⟨by rw [er 10 (by omega)], by rw [er 11 (by omega)]⟩)
  · exact pt_Tn_c hR.tn q8 e9 (fun t h1 h2 => ⟨nf 52 t (by omega) (by omega) (by omega) (by omega) (by omega), fun k k0 k1 => ⟨nf (220 + t) k (by omega) (by omega) (by omega) (by omega) (by omega), nf (240 + t) k (by omega) (by omega) (by omega) (by omega) (by omega)⟩⟩)
  · exact pt_Ca_c hR'.ca q12 (fun c2 _ _ => ⟨by rw [e14], by rw [e13]⟩)
  · refine pt_Cn_c hR.cn q12 (fun c2 h1 h2 h3 => ?_)
    obtain ⟨g1, g2, g3, g4, g5, g6, g7⟩ := h3
    unfold pt_Cf
    rw [nf 53 c2 (by omega) (by omega) (by omega) (by omega) (by omega), nf (300 + c2) 5 (by omega) (by omega) (by omega) (by omega) (by omega), nf (300 + c2) 6 (by omega) (by omega) (by omega) (by omega) (by omega), nf (300 + c2) 7 (by omega) (by omega) (by omega) (by omega) (by omega), nf (300 + c2) 9 (by omega) (by omega) (by omega) (by omega) (by omega), nf (300 + c2) 10 (by omega) (by omega) (by omega) (by omega) (by omega), e15, er 16 (by omega), er 19 (by omega), er 20 (by omega), ew]
    by_cases hcc : c2 = c
    · rw [if_pos hcc]
      refine ⟨g1, g2, g3, g4, ?_, g6, g7⟩
      rw [hcc]
      exact nv3
    · rw [if_neg hcc, nf (300 + c2) 8 (by omega) (by omega) (by omega) (by omega) (by omega), Int.add_zero]
      exact ⟨g1, g2, g3, g4, g5, g6, g7⟩
  · exact pt_Cr_c hR.cr q12 e9 (fun c2 k h1 h2 h3 h4 => ⟨nf (340 + c2) k (by omega) (by omega) (by omega) (by omega) (by omega), by rw [e13], fun h5 => ⟨by rw [e15] at h5; exact h5, by rw [e17]⟩⟩)
  · exact pt_Cs_c hR'.cs q12 (fun c2 h1 h2 h3 => ⟨by rw [e15] at h3; exact h3, by rw [e14], fun h4 => by rw [e2]; exact h4⟩)
  · intro c2 i g1 g2 g3 g4
    rw [q12] at g2
    rw [ew] at g4
    rw [e24]
    have hold : i < mo_wt ρ c2 → ∃ t, 0 ≤ t ∧ t < ρ 0 24 + 1 ∧ ν' (380 + c2) i = 1000 + t ∧ mo_pd ρ' c2 t = 1 ∧ sm_s (mo_pd ρ' c2) t.toNat = i := fun hi => by
      obtain ⟨t, t0, t1, t2, t3, t4⟩ := hR.q c2 i g1 g2 g3 hi
      refine ⟨t, t0, by omega, ?_, by rw [epd c2 t (by omega)]; exact t3, by rw [esm c2 t (by omega)]; exact t4⟩
      have hne : ¬ (380 + c2 = 380 + c ∧ i = mo_wt ρ c) := fun h => by
        have hcc : c2 = c := by omega
        rw [hcc] at hi
        omega
      rw [nf (380 + c2) i (by omega) (by omega) (by omega) hne (by omega)]
      exact t2
    by_cases hcc : c2 = c
    · rw [if_pos hcc] at g4
      by_cases hi : i < mo_wt ρ c2
      · exact hold hi
      · refine ⟨ρ 0 24, b24.1, by omega, ?_, by rw [epn, if_pos hcc], ?_⟩
        · rw [hcc] at hi g4 ⊢
          rw [show i = mo_wt ρ c by omega]
          exact nv2
        · rw [esm c2 _ (Int.le_refl _)]
          show mo_wt ρ c2 = i
          omega
    · rw [if_neg hcc] at g4
      exact hold (by omega)
  · intro t t0 t1
    rw [e24] at t1
    rw [e26, e27, e28]
    by_cases ht : t = ρ 0 24
    · rw [if_pos ht, if_pos ht, if_pos ht, ht]
      exact ⟨sv1, sv2, sv3, nv1⟩
    · rw [if_neg ht, if_neg ht, if_neg ht, nf (1000 + t) 2 (by omega) (by omega) (by omega) (by omega) (by omega)]
      have := hR'.rq t t0 (by omega)
      exact this
  · refine ⟨by rw [e24]; exact a1, Or.inr ⟨a2, a3, by rw [e24]; exact a4⟩, fun t t0 t1 => ?_⟩
    rw [e24] at t1
    by_cases ht : t = ρ 0 24
    · rw [ht]; exact a6
    · exact a5 t t0 (by omega)
  · exact pt_Z_c hR.z (fun i _ _ => nf 50 i (by omega) (by omega) (by omega) (by omega) (by omega)) q1 q8 q12 (e0 21 (by omega)) (e0 22 (by omega)) (e0 23 (by omega))
theorem un_nq (hB : mo_B ρ) (h : un_r s ν ρ) (had : ad_e (nq_s s (ρ 0 24) x w) (nq_n ν (ρ 0 24) c u) (1000 + ρ 0 24) (ρ 0 24) s' ν') : un_r s' ν' (mo_rq ρ c x w) := by
  have b1 := hB.1
  have b8 := hB.2.1
  have b12 := hB.2.2.1
  have b24 := hB.2.2.2.2.2.1
  obtain ⟨h1, h2, h3, h4, h5⟩ := h
  obtain ⟨⟨a1, a2, a3, a4⟩, a5, a6, a7, a8, a9, -⟩ := had
  have sf : ∀ p i, 0 ≤ p → p ≠ 1000 + ρ 0 24 → ¬ (70 ≤ p ∧ p ≤ 80) → s' p i = s p i := fun p i g1 g2 g3 => (a8 p i g1 (Or.inr g3)).trans (nqs_f g1 g2)
  unfold un_r
  rw [qr_24, qr_0 (by omega), qr_0 (by omega), qr_0 (by omega)]
  refine ⟨fun b g1 g2 => ?_, fun b g1 g2 => ?_, fun b g1 g2 => ?_, fun b g1 g2 => ?_, fun b g1 g2 g3 => ?_⟩
  · rw [sf _ _ (by omega) (by omega) (by omega), sf _ _ (by omega) (by omega) (by omega), sf _ _ (by omega) (by omega) (by omega)]; exact h1 b g1 g2
  · rw [sf _ _ (by omega) (by omega) (by omega), sf _ _ (by omega) (by omega) (by omega), sf _ _ (by omega) (by omega) (by omega)]; exact h2 b g1 g2
  · rw [sf _ _ (by omega) (by omega) (by omega), sf _ _ (by omega) (by omega) (by omega), sf _ _ (by omega) (by omega) (by omega)]; exact h3 b g1 g2
  · rw [sf _ _ (by omega) (by omega) (by omega)]; exact h4 b (by omega) g2
  · exact a9 b g1 g2 g3
theorem ns_nq (hB : mo_B ρ) (had : ad_e (nq_s s (ρ 0 24) x w) (nq_n ν (ρ 0 24) c u) (1000 + ρ 0 24) (ρ 0 24) s' ν') : ns_r s s' := by
  have b24 := hB.2.2.2.2.2.1
  obtain ⟨-, -, -, -, a8, -, a10, a11, a12⟩ := had
  have h := nqs_c (s := s) (n := ρ 0 24) (x := x) (w := w) b24.1
  exact ⟨fun p h0 h1 => by funext i; exact (a8 p i h0 (Or.inr (by omega))).trans (nqs_f h0 (by omega)), by omega, by omega, by omega⟩
theorem lo_nq (hB : mo_B ρ) (hc : 0 ≤ c) (had : ad_e (nq_s s (ρ 0 24) x w) (nq_n ν (ρ 0 24) c u) (1000 + ρ 0 24) (ρ 0 24) s' ν') : lo_r ν ν' := fun p hp => by
  have b24 := hB.2.2.2.2.2.1
  funext i
  exact (had.2.2.2.1 p i (by omega) (by omega)).trans (nqn_f (by omega) (by omega) (by omega))
theorem cl_rq1 (hE : E.2.2.2.2.1 < E.1 ∧ E.2.2.2.2.1 ≠ E.2.1) (hI : iv_I ρ f) (hR : pt_R s ν ρ f) (hu : un_r s ν ρ) (hc : 0 ≤ c ∧ c < ρ 0 12) (hx : 0 ≤ x ∧ x < 2147483648) (h1 : ρ 15 c = 1) (h2 : mo_wt ρ c ≠ 8) (h3 : ρ 0 24 < 512) : sw_w E (d + 7) 73 (0, [some (2, 50), some (0, c), some (0, x), some (0, w), none, none, none], []) s ν (sw_vs (fun r s' ν' => r = some (0, ρ 0 24) ∧ ns_r s s' ∧ pt_R s' ν' (mo_rq ρ c x w) f ∧ un_r s' ν' (mo_rq ρ c x w) ∧ lo_r ν ν')) := by
  have b1 := hI.1.1.1
  have b12 := hI.1.1.2.2.1
  have b24 := hI.1.1.2.2.2.2.2.1
  have hca := hR.ca c hc.1 hc.2
  have b15 := (hI.1.1.cd c (by omega) (by omega)).2.2.1
  have h8 := hI.2.2.1 c hc.1 hc.2
  have hw0 := wt_0 (ρ := ρ) (c := c)
  have hun := hu.2.2.2.1 (ρ 0 24) (by omega) (by omega)
  refine sw_p 2 (f' := (2, [some (2, 50), some (0, c), some (0, x), some (0, w), none, none, none], [(0, c), (2, 50)])) rfl ?_
  refine sw_cv1 (pn := 5) (q0 := mj_PT_request) (q := mj_PT_cardNumbered) (p := 50) (as2 := [(0, c)]) (L2 := [some (2, 50), some (0, c)]) (rest := []) (v := some (2, 300 + c)) (s1 := s) (ν1 := ν) rfl rfl rfl rfl rfl rfl rfl rfl rfl (hR.sh.1) (cl_cN1 hI.1 hR hc) ?_
  show sw_w E _ 73 (5, [some (2, 50), some (0, c), some (0, x), some (0, w), none, none, none], [(2, 300 + c)]) s ν _
  refine sw_p 2 (f' := (8, [some (2, 50), some (0, c), some (0, x), some (0, w), some (2, 300 + c), none, none], [(0, x)])) rfl ?_
  refine sw_ge1 (pt := 19) (pn := 11) rfl rfl rfl (by omega) (fun g1 => ?_) (fun h => absurd h (by omega))
  refine sw_p 1 (f' := (21, [some (2, 50), some (0, c), some (0, x), some (0, w), some (2, 300 + c), none, none], [(2, 300 + c)])) rfl ?_
  refine sw_gI (pn := 24) (i := 6) rfl rfl rfl rfl rfl (by omega) (hca.1) ?_
  rw [show ν (300 + c) 6 = ρ 15 c from (hR.cn c (by omega) (by omega)).2.2.1]
  refine sw_p 1 (f' := (25, [some (2, 50), some (0, c), some (0, x), some (0, w), some (2, 300 + c), none, none], [(0, 1), (0, ρ 15 c)])) rfl ?_
  refine sw_eq2 (pt := 37) (pn := 28) rfl rfl rfl (by omega) (by omega) (fun g2 => ?_) (fun h => absurd h (by omega))
  refine sw_p 4 (f' := (46, [some (2, 50), some (0, c), some (0, x), some (0, w), some (2, 300 + c), some (0, 1), none], [(0, 1)])) rfl ?_
  refine sw_eq1 (pt := 72) (pn := 49) rfl rfl rfl (by omega) (fun h => absurd h (by decide)) (fun _ => ?_)
  refine sw_p 1 (f' := (51, [some (2, 50), some (0, c), some (0, x), some (0, w), some (2, 300 + c), some (0, 1), none], [(2, 300 + c)])) rfl ?_
  refine sw_gI (pn := 54) (i := 8) rfl rfl rfl rfl rfl (by omega) (hca.1) ?_
  rw [show ν (300 + c) 8 = mo_wt ρ c from (hR.cn c (by omega) (by omega)).2.2.2.2.1]
  refine sw_p 1 (f' := (56, [some (2, 50), some (0, c), some (0, x), some (0, w), some (2, 300 + c), some (0, 1), none], [(0, 8), (0, mo_wt ρ c)])) rfl ?_
  refine sw_eq2 (pt := 72) (pn := 59) rfl rfl rfl (by omega) (by omega) (fun h => absurd h (by omega)) (fun g4 => ?_)
  refine sw_p 1 (f' := (60, [some (2, 50), some (0, c), some (0, x), some (0, w), some (2, 300 + c), some (0, 1), none], [(2, 50)])) rfl ?_
  refine sw_hA (pn := 63) (i := 3) (v := 54) rfl rfl rfl rfl rfl (hR.sh.1) (hR.sh.2.2.2.2.1.1) (by omega) ?_
  refine sw_cv1 (pn := 66) (q0 := mj_PT_request) (q := mj_Al_size) (p := 54) (as2 := []) (L2 := [some (2, 54)]) (rest := []) (v := some (0, ρ 0 24)) (s1 := s) (ν1 := ν) rfl rfl rfl rfl rfl rfl rfl rfl rfl (hR.sh.2.2.2.2.1.2) (by have h := li_size (E := E) (d := d + 6) (s := s) (ν := ν) (p := 54) (by omega) hR.sh.2.2.2.2.1.2; rw [hR.li.1] at h; exact h) ?_
  show sw_w E _ 73 (66, [some (2, 50), some (0, c), some (0, x), some (0, w), some (2, 300 + c), some (0, 1), none], [(0, ρ 0 24)]) s ν _
  refine sw_p 1 (f' := (69, [some (2, 50), some (0, c), some (0, x), some (0, w), some (2, 300 + c), some (0, 1), none], [(0, 512), (0, ρ 0 24)])) rfl ?_
  refine sw_lt2 (pt := 80) (pn := 72) rfl rfl rfl (by omega) (by omega) (fun g5 => ?_) (fun h => absurd h (by omega))
  refine sw_new (pn := 83) (k := 104) (sz := 3) (1000 + ρ 0 24) rfl rfl rfl rfl rfl rfl (by omega) hun ?_
  refine sw_p 3 (f' := (86, [some (2, 50), some (0, c), some (0, x), some (0, w), some (2, 300 + c), some (0, 1), none], [(0, w), (0, x), (2, 1000 + ρ 0 24), (2, 1000 + ρ 0 24)])) rfl ?_
  refine sw_ci1 (pn := 89) (q0 := mj_PT_request) (q := mj_Rq_init) (p := 1000 + ρ 0 24) (as2 := [(0, x), (0, w)]) (L2 := [some (2, 1000 + ρ 0 24), some (0, x), some (0, w)]) (rest := [(2, 1000 + ρ 0 24)]) (v := none) (s1 := (mm_u (mm_u (nm_al s (1000 + ρ 0 24) 104 0 3 (mm_z 4)) (1000 + ρ 0 24) 0 x) (1000 + ρ 0 24) 1 w)) (ν1 := (mm_u (sw_nw ν (1000 + ρ 0 24) (mm_z 4)) (1000 + ρ 0 24) 2 1099511627776)) rfl rfl rfl rfl rfl rfl rfl rfl rfl (rq_i (al_k (by omega)) (by omega)) ?_
  show sw_w E _ 73 (89, [some (2, 50), some (0, c), some (0, x), some (0, w), some (2, 300 + c), some (0, 1), none], [(2, 1000 + ρ 0 24)]) (mm_u (mm_u (nm_al s (1000 + ρ 0 24) 104 0 3 (mm_z 4)) (1000 + ρ 0 24) 0 x) (1000 + ρ 0 24) 1 w) (mm_u (sw_nw ν (1000 + ρ 0 24) (mm_z 4)) (1000 + ρ 0 24) 2 1099511627776) _
  refine sw_p 2 (f' := (93, [some (2, 50), some (0, c), some (0, x), some (0, w), some (2, 300 + c), some (0, 1), some (2, 1000 + ρ 0 24)], [(2, 300 + c)])) rfl ?_
  refine sw_hA (pn := 96) (i := 4) (v := 380 + c) rfl rfl rfl rfl rfl ((mm_u_ne (by omega)).trans ((mm_u_ne (by omega)).trans ((al_ne (by omega) (by omega)).trans (hca.1)))) ((mm_u_ne (by omega)).trans ((mm_u_ne (by omega)).trans ((al_ne (by omega) (by omega)).trans (hca.2.2.2.2.2.1)))) (by omega) ?_
  refine sw_p 1 (f' := (98, [some (2, 50), some (0, c), some (0, x), some (0, w), some (2, 300 + c), some (0, 1), some (2, 1000 + ρ 0 24)], [(2, 300 + c), (2, 380 + c)])) rfl ?_
  refine sw_gI (pn := 101) (i := 8) rfl rfl rfl rfl rfl (by omega) ((mm_u_ne (by omega)).trans ((mm_u_ne (by omega)).trans ((al_ne (by omega) (by omega)).trans (hca.1)))) ?_
  rw [show (mm_u (sw_nw ν (1000 + ρ 0 24) (mm_z 4)) (1000 + ρ 0 24) 2 1099511627776) (300 + c) 8 = mo_wt ρ c from (mm_u_ne (by omega)).trans ((nw_ne (by omega)).trans ((hR.cn c (by omega) (by omega)).2.2.2.2.1))]
  refine sw_p 1 (f' := (103, [some (2, 50), some (0, c), some (0, x), some (0, w), some (2, 300 + c), some (0, 1), some (2, 1000 + ρ 0 24)], [(2, 1000 + ρ 0 24), (0, mo_wt ρ c), (2, 380 + c)])) rfl ?_
  refine sw_aas (pn := 104) (t := 6) (c := 4) (l := 8) rfl rfl rfl (by decide) (by decide) ((mm_u_ne (by omega)).trans ((mm_u_ne (by omega)).trans (al_k (by omega)))) (by omega) ((mm_u_ne (by omega)).trans ((mm_u_ne (by omega)).trans ((al_ne (by omega) (by omega)).trans (hca.2.2.2.2.2.2.1)))) ((mm_u_ne (by omega)).trans ((mm_u_ne (by omega)).trans ((al_ne (by omega) (by omega)).trans (hca.2.2.2.2.2.2.2)))) (by omega) (by omega) ?_
  refine sw_p 2 (f' := (107, [some (2, 50), some (0, c), some (0, x), some (0, w), some (2, 300 + c), some (0, 1), some (2, 1000 + ρ 0 24)], [(2, 300 + c), (2, 300 + c)])) rfl ?_
  refine sw_gI (pn := 110) (i := 8) rfl rfl rfl rfl rfl (by omega) ((mm_u_ne (by omega)).trans ((mm_u_ne (by omega)).trans ((al_ne (by omega) (by omega)).trans (hca.1)))) ?_
  rw [show (mm_u (mm_u (sw_nw ν (1000 + ρ 0 24) (mm_z 4)) (1000 + ρ 0 24) 2 1099511627776) (380 + c) (mo_wt ρ c) (1000 + ρ 0 24)) (300 + c) 8 = mo_wt ρ c from (mm_u_ne (by omega)).trans ((mm_u_ne (by omega)).trans ((nw_ne (by omega)).trans ((hR.cn c (by omega) (by omega)).2.2.2.2.1)))]
  refine sw_p 2 (f' := (112, [some (2, 50), some (0, c), some (0, x), some (0, w), some (2, 300 + c), some (0, 1), some (2, 1000 + ρ 0 24)], [(0, (mo_wt ρ c) + 1), (2, 300 + c)])) rfl ?_
  refine sw_pI (pn := 115) (i := 8) rfl rfl rfl rfl rfl (by omega) ((mm_u_ne (by omega)).trans ((mm_u_ne (by omega)).trans ((al_ne (by omega) (by omega)).trans (hca.1)))) ?_
  refine sw_p 1 (f' := (116, [some (2, 50), some (0, c), some (0, x), some (0, w), some (2, 300 + c), some (0, 1), some (2, 1000 + ρ 0 24)], [(2, 50)])) rfl ?_
  refine sw_hA (pn := 119) (i := 3) (v := 54) rfl rfl rfl rfl rfl ((mm_u_ne (by omega)).trans ((mm_u_ne (by omega)).trans ((al_ne (by omega) (by omega)).trans (hR.sh.1)))) ((mm_u_ne (by omega)).trans ((mm_u_ne (by omega)).trans ((al_ne (by omega) (by omega)).trans (hR.sh.2.2.2.2.1.1)))) (by omega) ?_
  refine sw_p 1 (f' := (121, [some (2, 50), some (0, c), some (0, x), some (0, w), some (2, 300 + c), some (0, 1), some (2, 1000 + ρ 0 24)], [(2, 1000 + ρ 0 24), (2, 54)])) rfl ?_
  refine sw_cv3 (pn := 124) (q0 := mj_PT_request) (q := mj_Al_add) (p := 54) (as2 := [(2, 1000 + ρ 0 24)]) (L2 := [some (2, 54), some (2, 1000 + ρ 0 24)]) (rest := []) rfl rfl rfl rfl rfl rfl rfl rfl rfl ((mm_u_ne (by omega)).trans ((mm_u_ne (by omega)).trans ((al_ne (by omega) (by omega)).trans (hR.sh.2.2.2.2.1.2)))) (li_rq (u := mo_wt ρ c) hE hI hR hu hc h3) (fun v s' ν' hv => ?_)
  obtain ⟨hv1, hv2⟩ := hv
  subst hv1
  show sw_w E _ 73 (124, [some (2, 50), some (0, c), some (0, x), some (0, w), some (2, 300 + c), some (0, 1), some (2, 1000 + ρ 0 24)], [(0, 1)]) s' ν' _
  refine sw_p 2 (f' := (126, [some (2, 50), some (0, c), some (0, x), some (0, w), some (2, 300 + c), some (0, 1), some (2, 1000 + ρ 0 24)], [(2, 50)])) rfl ?_
  refine sw_hA (pn := 129) (i := 3) (v := 54) rfl rfl rfl rfl rfl (((hv2.2.2.2.2.1 50 (-1) (by omega) (Or.inr (by omega))).trans ((nqs_f (by omega) (by omega)).trans hR.sh.1))) (((hv2.2.2.2.2.1 50 3 (by omega) (Or.inr (by omega))).trans ((nqs_f (by omega) (by omega)).trans hR.sh.2.2.2.2.1.1))) (by omega) ?_
  refine sw_cv1 (pn := 132) (q0 := mj_PT_request) (q := mj_Al_size) (p := 54) (as2 := []) (L2 := [some (2, 54)]) (rest := []) (v := some (0, ρ 0 24 + 1)) (s1 := s') (ν1 := ν') rfl rfl rfl rfl rfl rfl rfl rfl rfl (((hv2.2.2.2.2.1 54 (-1) (by omega) (Or.inr (by omega))).trans ((nqs_f (by omega) (by omega)).trans hR.sh.2.2.2.2.1.2))) (by have h := li_size (E := E) (d := d + 6) (s := s') (ν := ν') (p := 54) (by omega) ((hv2.2.2.2.2.1 54 (-1) (by omega) (Or.inr (by omega))).trans ((nqs_f (by omega) (by omega)).trans hR.sh.2.2.2.2.1.2)); rw [hv2.1.1] at h; exact h) ?_
  show sw_w E _ 73 (132, [some (2, 50), some (0, c), some (0, x), some (0, w), some (2, 300 + c), some (0, 1), some (2, 1000 + ρ 0 24)], [(0, ρ 0 24 + 1)]) s' ν' _
  refine sw_p 2 (f' := (134, [some (2, 50), some (0, c), some (0, x), some (0, w), some (2, 300 + c), some (0, 1), some (2, 1000 + ρ 0 24)], [(0, (ρ 0 24 + 1) - 1)])) rfl ?_
  exact sw_retI rfl rfl rfl ⟨_, rfl, by rw [show ρ 0 24 + 1 - 1 = ρ 0 24 by omega], ns_nq hI.1.1 hv2, R_nq hI hR hc h2 h3 hv2, un_nq hI.1.1 hu hv2, lo_nq hI.1.1 hc.1 hv2⟩
theorem cl_rq2 (hE : E.2.2.2.2.1 < E.1 ∧ E.2.2.2.2.1 ≠ E.2.1) (hI : iv_I ρ f) (hR : pt_R s ν ρ f) (hu : un_r s ν ρ) (hc : 0 ≤ c ∧ c < ρ 0 12) (hx : 0 ≤ x ∧ x < 2147483648) (h1 : ρ 15 c = 2) (h2 : mo_wt ρ c ≠ 8) (h3 : ρ 0 24 < 512) : sw_w E (d + 7) 73 (0, [some (2, 50), some (0, c), some (0, x), some (0, w), none, none, none], []) s ν (sw_vs (fun r s' ν' => r = some (0, ρ 0 24) ∧ ns_r s s' ∧ pt_R s' ν' (mo_rq ρ c x w) f ∧ un_r s' ν' (mo_rq ρ c x w) ∧ lo_r ν ν')) := by
  have b1 := hI.1.1.1
  have b12 := hI.1.1.2.2.1
  have b24 := hI.1.1.2.2.2.2.2.1
  have hca := hR.ca c hc.1 hc.2
  have b15 := (hI.1.1.cd c (by omega) (by omega)).2.2.1
  have h8 := hI.2.2.1 c hc.1 hc.2
  have hw0 := wt_0 (ρ := ρ) (c := c)
  have hun := hu.2.2.2.1 (ρ 0 24) (by omega) (by omega)
  refine sw_p 2 (f' := (2, [some (2, 50), some (0, c), some (0, x), some (0, w), none, none, none], [(0, c), (2, 50)])) rfl ?_
  refine sw_cv1 (pn := 5) (q0 := mj_PT_request) (q := mj_PT_cardNumbered) (p := 50) (as2 := [(0, c)]) (L2 := [some (2, 50), some (0, c)]) (rest := []) (v := some (2, 300 + c)) (s1 := s) (ν1 := ν) rfl rfl rfl rfl rfl rfl rfl rfl rfl (hR.sh.1) (cl_cN1 hI.1 hR hc) ?_
  show sw_w E _ 73 (5, [some (2, 50), some (0, c), some (0, x), some (0, w), none, none, none], [(2, 300 + c)]) s ν _
  refine sw_p 2 (f' := (8, [some (2, 50), some (0, c), some (0, x), some (0, w), some (2, 300 + c), none, none], [(0, x)])) rfl ?_
  refine sw_ge1 (pt := 19) (pn := 11) rfl rfl rfl (by omega) (fun g1 => ?_) (fun h => absurd h (by omega))
  refine sw_p 1 (f' := (21, [some (2, 50), some (0, c), some (0, x), some (0, w), some (2, 300 + c), none, none], [(2, 300 + c)])) rfl ?_
  refine sw_gI (pn := 24) (i := 6) rfl rfl rfl rfl rfl (by omega) (hca.1) ?_
  rw [show ν (300 + c) 6 = ρ 15 c from (hR.cn c (by omega) (by omega)).2.2.1]
  refine sw_p 1 (f' := (25, [some (2, 50), some (0, c), some (0, x), some (0, w), some (2, 300 + c), none, none], [(0, 1), (0, ρ 15 c)])) rfl ?_
  refine sw_eq2 (pt := 37) (pn := 28) rfl rfl rfl (by omega) (by omega) (fun h => absurd h (by omega)) (fun g2 => ?_)
  refine sw_p 1 (f' := (30, [some (2, 50), some (0, c), some (0, x), some (0, w), some (2, 300 + c), none, none], [(2, 300 + c)])) rfl ?_
  refine sw_gI (pn := 33) (i := 6) rfl rfl rfl rfl rfl (by omega) (hca.1) ?_
  rw [show ν (300 + c) 6 = ρ 15 c from (hR.cn c (by omega) (by omega)).2.2.1]
  refine sw_p 1 (f' := (34, [some (2, 50), some (0, c), some (0, x), some (0, w), some (2, 300 + c), none, none], [(0, 2), (0, ρ 15 c)])) rfl ?_
  refine sw_ne2 (pt := 41) (pn := 37) rfl rfl rfl (by omega) (by omega) (fun h => absurd h (by omega)) (fun g3 => ?_)
  refine sw_p 4 (f' := (46, [some (2, 50), some (0, c), some (0, x), some (0, w), some (2, 300 + c), some (0, 1), none], [(0, 1)])) rfl ?_
  refine sw_eq1 (pt := 72) (pn := 49) rfl rfl rfl (by omega) (fun h => absurd h (by decide)) (fun _ => ?_)
  refine sw_p 1 (f' := (51, [some (2, 50), some (0, c), some (0, x), some (0, w), some (2, 300 + c), some (0, 1), none], [(2, 300 + c)])) rfl ?_
  refine sw_gI (pn := 54) (i := 8) rfl rfl rfl rfl rfl (by omega) (hca.1) ?_
  rw [show ν (300 + c) 8 = mo_wt ρ c from (hR.cn c (by omega) (by omega)).2.2.2.2.1]
  refine sw_p 1 (f' := (56, [some (2, 50), some (0, c), some (0, x), some (0, w), some (2, 300 + c), some (0, 1), none], [(0, 8), (0, mo_wt ρ c)])) rfl ?_
  refine sw_eq2 (pt := 72) (pn := 59) rfl rfl rfl (by omega) (by omega) (fun h => absurd h (by omega)) (fun g5 => ?_)
  refine sw_p 1 (f' := (60, [some (2, 50), some (0, c), some (0, x), some (0, w), some (2, 300 + c), some (0, 1), none], [(2, 50)])) rfl ?_
  refine sw_hA (pn := 63) (i := 3) (v := 54) rfl rfl rfl rfl rfl (hR.sh.1) (hR.sh.2.2.2.2.1.1) (by omega) ?_
  refine sw_cv1 (pn := 66) (q0 := mj_PT_request) (q := mj_Al_size) (p := 54) (as2 := []) (L2 := [some (2, 54)]) (rest := []) (v := some (0, ρ 0 24)) (s1 := s) (ν1 := ν) rfl rfl rfl rfl rfl rfl rfl rfl rfl (hR.sh.2.2.2.2.1.2) (by have h := li_size (E := E) (d := d + 6) (s := s) (ν := ν) (p := 54) (by omega) hR.sh.2.2.2.2.1.2; rw [hR.li.1] at h; exact h) ?_
  show sw_w E _ 73 (66, [some (2, 50), some (0, c), some (0, x), some (0, w), some (2, 300 + c), some (0, 1), none], [(0, ρ 0 24)]) s ν _
  refine sw_p 1 (f' := (69, [some (2, 50), some (0, c), some (0, x), some (0, w), some (2, 300 + c), some (0, 1), none], [(0, 512), (0, ρ 0 24)])) rfl ?_
  refine sw_lt2 (pt := 80) (pn := 72) rfl rfl rfl (by omega) (by omega) (fun g6 => ?_) (fun h => absurd h (by omega))
  refine sw_new (pn := 83) (k := 104) (sz := 3) (1000 + ρ 0 24) rfl rfl rfl rfl rfl rfl (by omega) hun ?_
  refine sw_p 3 (f' := (86, [some (2, 50), some (0, c), some (0, x), some (0, w), some (2, 300 + c), some (0, 1), none], [(0, w), (0, x), (2, 1000 + ρ 0 24), (2, 1000 + ρ 0 24)])) rfl ?_
  refine sw_ci1 (pn := 89) (q0 := mj_PT_request) (q := mj_Rq_init) (p := 1000 + ρ 0 24) (as2 := [(0, x), (0, w)]) (L2 := [some (2, 1000 + ρ 0 24), some (0, x), some (0, w)]) (rest := [(2, 1000 + ρ 0 24)]) (v := none) (s1 := (mm_u (mm_u (nm_al s (1000 + ρ 0 24) 104 0 3 (mm_z 4)) (1000 + ρ 0 24) 0 x) (1000 + ρ 0 24) 1 w)) (ν1 := (mm_u (sw_nw ν (1000 + ρ 0 24) (mm_z 4)) (1000 + ρ 0 24) 2 1099511627776)) rfl rfl rfl rfl rfl rfl rfl rfl rfl (rq_i (al_k (by omega)) (by omega)) ?_
  show sw_w E _ 73 (89, [some (2, 50), some (0, c), some (0, x), some (0, w), some (2, 300 + c), some (0, 1), none], [(2, 1000 + ρ 0 24)]) (mm_u (mm_u (nm_al s (1000 + ρ 0 24) 104 0 3 (mm_z 4)) (1000 + ρ 0 24) 0 x) (1000 + ρ 0 24) 1 w) (mm_u (sw_nw ν (1000 + ρ 0 24) (mm_z 4)) (1000 + ρ 0 24) 2 1099511627776) _
  refine sw_p 2 (f' := (93, [some (2, 50), some (0, c), some (0, x), some (0, w), some (2, 300 + c), some (0, 1), some (2, 1000 + ρ 0 24)], [(2, 300 + c)])) rfl ?_
  refine sw_hA (pn := 96) (i := 4) (v := 380 + c) rfl rfl rfl rfl rfl ((mm_u_ne (by omega)).trans ((mm_u_ne (by omega)).trans ((al_ne (by omega) (by omega)).trans (hca.1)))) ((mm_u_ne (by omega)).trans ((mm_u_ne (by omega)).trans ((al_ne (by omega) (by omega)).trans (hca.2.2.2.2.2.1)))) (by omega) ?_
  refine sw_p 1 (f' := (98, [some (2, 50), some (0, c), some (0, x), some (0, w), some (2, 300 + c), some (0, 1), some (2, 1000 + ρ 0 24)], [(2, 300 + c), (2, 380 + c)])) rfl ?_
  refine sw_gI (pn := 101) (i := 8) rfl rfl rfl rfl rfl (by omega) ((mm_u_ne (by omega)).trans ((mm_u_ne (by omega)).trans ((al_ne (by omega) (by omega)).trans (hca.1)))) ?_
  rw [show (mm_u (sw_nw ν (1000 + ρ 0 24) (mm_z 4)) (1000 + ρ 0 24) 2 1099511627776) (300 + c) 8 = mo_wt ρ c from (mm_u_ne (by omega)).trans ((nw_ne (by omega)).trans ((hR.cn c (by omega) (by omega)).2.2.2.2.1))]
  refine sw_p 1 (f' := (103, [some (2, 50), some (0, c), some (0, x), some (0, w), some (2, 300 + c), some (0, 1), some (2, 1000 + ρ 0 24)], [(2, 1000 + ρ 0 24), (0, mo_wt ρ c), (2, 380 + c)])) rfl ?_
  refine sw_aas (pn := 104) (t := 6) (c := 4) (l := 8) rfl rfl rfl (by decide) (by decide) ((mm_u_ne (by omega)).trans ((mm_u_ne (by omega)).trans (al_k (by omega)))) (by omega) ((mm_u_ne (by omega)).trans ((mm_u_ne (by omega)).trans ((al_ne (by omega) (by omega)).trans (hca.2.2.2.2.2.2.1)))) ((mm_u_ne (by omega)).trans ((mm_u_ne (by omega)).trans ((al_ne (by omega) (by omega)).trans (hca.2.2.2.2.2.2.2)))) (by omega) (by omega) ?_
  refine sw_p 2 (f' := (107, [some (2, 50), some (0, c), some (0, x), some (0, w), some (2, 300 + c), some (0, 1), some (2, 1000 + ρ 0 24)], [(2, 300 + c), (2, 300 + c)])) rfl ?_
  refine sw_gI (pn := 110) (i := 8) rfl rfl rfl rfl rfl (by omega) ((mm_u_ne (by omega)).trans ((mm_u_ne (by omega)).trans ((al_ne (by omega) (by omega)).trans (hca.1)))) ?_
  rw [show (mm_u (mm_u (sw_nw ν (1000 + ρ 0 24) (mm_z 4)) (1000 + ρ 0 24) 2 1099511627776) (380 + c) (mo_wt ρ c) (1000 + ρ 0 24)) (300 + c) 8 = mo_wt ρ c from (mm_u_ne (by omega)).trans ((mm_u_ne (by omega)).trans ((nw_ne (by omega)).trans ((hR.cn c (by omega) (by omega)).2.2.2.2.1)))]
  refine sw_p 2 (f' := (112, [some (2, 50), some (0, c), some (0, x), some (0, w), some (2, 300 + c), some (0, 1), some (2, 1000 + ρ 0 24)], [(0, (mo_wt ρ c) + 1), (2, 300 + c)])) rfl ?_
  refine sw_pI (pn := 115) (i := 8) rfl rfl rfl rfl rfl (by omega) ((mm_u_ne (by omega)).trans ((mm_u_ne (by omega)).trans ((al_ne (by omega) (by omega)).trans (hca.1)))) ?_
  refine sw_p 1 (f' := (116, [some (2, 50), some (0, c), some (0, x), some (0, w), some (2, 300 + c), some (0, 1), some (2, 1000 + ρ 0 24)], [(2, 50)])) rfl ?_
  refine sw_hA (pn := 119) (i := 3) (v := 54) rfl rfl rfl rfl rfl ((mm_u_ne (by omega)).trans ((mm_u_ne (by omega)).trans ((al_ne (by omega) (by omega)).trans (hR.sh.1)))) ((mm_u_ne (by omega)).trans ((mm_u_ne (by omega)).trans ((al_ne (by omega) (by omega)).trans (hR.sh.2.2.2.2.1.1)))) (by omega) ?_
  refine sw_p 1 (f' := (121, [some (2, 50), some (0, c), some (0, x), some (0, w), some (2, 300 + c), some (0, 1), some (2, 1000 + ρ 0 24)], [(2, 1000 + ρ 0 24), (2, 54)])) rfl ?_
  refine sw_cv3 (pn := 124) (q0 := mj_PT_request) (q := mj_Al_add) (p := 54) (as2 := [(2, 1000 + ρ 0 24)]) (L2 := [some (2, 54), some (2, 1000 + ρ 0 24)]) (rest := []) rfl rfl rfl rfl rfl rfl rfl rfl rfl ((mm_u_ne (by omega)).trans ((mm_u_ne (by omega)).trans ((al_ne (by omega) (by omega)).trans (hR.sh.2.2.2.2.1.2)))) (li_rq (u := mo_wt ρ c) hE hI hR hu hc h3) (fun v s' ν' hv => ?_)
  obtain ⟨hv1, hv2⟩ := hv
  subst hv1
  show sw_w E _ 73 (124, [some (2, 50), some (0, c), some (0, x), some (0, w), some (2, 300 + c), some (0, 1), some (2, 1000 + ρ 0 24)], [(0, 1)]) s' ν' _
  refine sw_p 2 (f' := (126, [some (2, 50), some (0, c), some (0, x), some (0, w), some (2, 300 + c), some (0, 1), some (2, 1000 + ρ 0 24)], [(2, 50)])) rfl ?_
  refine sw_hA (pn := 129) (i := 3) (v := 54) rfl rfl rfl rfl rfl (((hv2.2.2.2.2.1 50 (-1) (by omega) (Or.inr (by omega))).trans ((nqs_f (by omega) (by omega)).trans hR.sh.1))) (((hv2.2.2.2.2.1 50 3 (by omega) (Or.inr (by omega))).trans ((nqs_f (by omega) (by omega)).trans hR.sh.2.2.2.2.1.1))) (by omega) ?_
  refine sw_cv1 (pn := 132) (q0 := mj_PT_request) (q := mj_Al_size) (p := 54) (as2 := []) (L2 := [some (2, 54)]) (rest := []) (v := some (0, ρ 0 24 + 1)) (s1 := s') (ν1 := ν') rfl rfl rfl rfl rfl rfl rfl rfl rfl (((hv2.2.2.2.2.1 54 (-1) (by omega) (Or.inr (by omega))).trans ((nqs_f (by omega) (by omega)).trans hR.sh.2.2.2.2.1.2))) (by have h := li_size (E := E) (d := d + 6) (s := s') (ν := ν') (p := 54) (by omega) ((hv2.2.2.2.2.1 54 (-1) (by omega) (Or.inr (by omega))).trans ((nqs_f (by omega) (by omega)).trans hR.sh.2.2.2.2.1.2)); rw [hv2.1.1] at h; exact h) ?_
  show sw_w E _ 73 (132, [some (2, 50), some (0, c), some (0, x), some (0, w), some (2, 300 + c), some (0, 1), some (2, 1000 + ρ 0 24)], [(0, ρ 0 24 + 1)]) s' ν' _
  refine sw_p 2 (f' := (134, [some (2, 50), some (0, c), some (0, x), some (0, w), some (2, 300 + c), some (0, 1), some (2, 1000 + ρ 0 24)], [(0, (ρ 0 24 + 1) - 1)])) rfl ?_
  exact sw_retI rfl rfl rfl ⟨_, rfl, by rw [show ρ 0 24 + 1 - 1 = ρ 0 24 by omega], ns_nq hI.1.1 hv2, R_nq hI hR hc h2 h3 hv2, un_nq hI.1.1 hu hv2, lo_nq hI.1.1 hc.1 hv2⟩
theorem cl_rq (hE : E.2.2.2.2.1 < E.1 ∧ E.2.2.2.2.1 ≠ E.2.1) (hI : iv_I ρ f) (hR : pt_R s ν ρ f) (hu : un_r s ν ρ) (hc : 0 ≤ c ∧ c < ρ 0 12) (hx : 0 ≤ x ∧ x < 2147483648) (h1 : ρ 15 c = 1 ∨ ρ 15 c = 2) (h2 : mo_wt ρ c ≠ 8) (h3 : ρ 0 24 < 512) : sw_w E (d + 7) 73 (0, [some (2, 50), some (0, c), some (0, x), some (0, w), none, none, none], []) s ν (sw_vs (fun r s' ν' => r = some (0, ρ 0 24) ∧ ns_r s s' ∧ pt_R s' ν' (mo_rq ρ c x w) f ∧ un_r s' ν' (mo_rq ρ c x w) ∧ lo_r ν ν')) := by
  rcases h1 with h1 | h1
  · exact cl_rq1 hE hI hR hu hc hx h1 h2 h3
  · exact cl_rq2 hE hI hR hu hc hx h1 h2 h3
theorem cl_rq_s1 (hI : iv_I ρ f) (hR : pt_R s ν ρ f) (hc : 0 ≤ c ∧ c < ρ 0 12) (hx : 0 ≤ x ∧ x < 2147483648) (h1 : ρ 15 c ≠ 1) (h2 : ρ 15 c ≠ 2) (hd : 5 ≤ d) : sw_w E (d + 2) 73 (0, [some (2, 50), some (0, c), some (0, x), some (0, w), none, none, none], []) s ν (sw_ex 9 s ν) := by
  have b1 := hI.1.1.1
  have b12 := hI.1.1.2.2.1
  have b24 := hI.1.1.2.2.2.2.2.1
  have hca := hR.ca c hc.1 hc.2
  have b15 := (hI.1.1.cd c (by omega) (by omega)).2.2.1
  have h8 := hI.2.2.1 c hc.1 hc.2
  have hw0 := wt_0 (ρ := ρ) (c := c)
  refine sw_p 2 (f' := (2, [some (2, 50), some (0, c), some (0, x), some (0, w), none, none, none], [(0, c), (2, 50)])) rfl ?_
  refine sw_cv1 (pn := 5) (q0 := mj_PT_request) (q := mj_PT_cardNumbered) (p := 50) (as2 := [(0, c)]) (L2 := [some (2, 50), some (0, c)]) (rest := []) (v := some (2, 300 + c)) (s1 := s) (ν1 := ν) rfl rfl rfl rfl rfl rfl rfl rfl rfl (hR.sh.1) (cl_cN1 hI.1 hR hc) ?_
  show sw_w E _ 73 (5, [some (2, 50), some (0, c), some (0, x), some (0, w), none, none, none], [(2, 300 + c)]) s ν _
  refine sw_p 2 (f' := (8, [some (2, 50), some (0, c), some (0, x), some (0, w), some (2, 300 + c), none, none], [(0, x)])) rfl ?_
  refine sw_ge1 (pt := 19) (pn := 11) rfl rfl rfl (by omega) (fun g1 => ?_) (fun h => absurd h (by omega))
  refine sw_p 1 (f' := (21, [some (2, 50), some (0, c), some (0, x), some (0, w), some (2, 300 + c), none, none], [(2, 300 + c)])) rfl ?_
  refine sw_gI (pn := 24) (i := 6) rfl rfl rfl rfl rfl (by omega) (hca.1) ?_
  rw [show ν (300 + c) 6 = ρ 15 c from (hR.cn c (by omega) (by omega)).2.2.1]
  refine sw_p 1 (f' := (25, [some (2, 50), some (0, c), some (0, x), some (0, w), some (2, 300 + c), none, none], [(0, 1), (0, ρ 15 c)])) rfl ?_
  refine sw_eq2 (pt := 37) (pn := 28) rfl rfl rfl (by omega) (by omega) (fun h => absurd h (by omega)) (fun g2 => ?_)
  refine sw_p 1 (f' := (30, [some (2, 50), some (0, c), some (0, x), some (0, w), some (2, 300 + c), none, none], [(2, 300 + c)])) rfl ?_
  refine sw_gI (pn := 33) (i := 6) rfl rfl rfl rfl rfl (by omega) (hca.1) ?_
  rw [show ν (300 + c) 6 = ρ 15 c from (hR.cn c (by omega) (by omega)).2.2.1]
  refine sw_p 1 (f' := (34, [some (2, 50), some (0, c), some (0, x), some (0, w), some (2, 300 + c), none, none], [(0, 2), (0, ρ 15 c)])) rfl ?_
  refine sw_ne2 (pt := 41) (pn := 37) rfl rfl rfl (by omega) (by omega) (fun g3 => ?_) (fun h => absurd h (by omega))
  refine sw_p 3 (f' := (46, [some (2, 50), some (0, c), some (0, x), some (0, w), some (2, 300 + c), some (0, 0), none], [(0, 0)])) rfl ?_
  refine sw_eq1 (pt := 72) (pn := 49) rfl rfl rfl (by omega) (fun _ => ?_) (fun h => absurd h (by decide))
  exact sw_thr rfl rfl rfl rfl rfl (by omega) ⟨rfl, rfl, rfl⟩
theorem cl_rq_s21 (hI : iv_I ρ f) (hR : pt_R s ν ρ f) (hc : 0 ≤ c ∧ c < ρ 0 12) (hx : 0 ≤ x ∧ x < 2147483648) (h1 : ρ 15 c = 1) (h2 : mo_wt ρ c = 8) (hd : 5 ≤ d) : sw_w E (d + 2) 73 (0, [some (2, 50), some (0, c), some (0, x), some (0, w), none, none, none], []) s ν (sw_ex 9 s ν) := by
  have b1 := hI.1.1.1
  have b12 := hI.1.1.2.2.1
  have b24 := hI.1.1.2.2.2.2.2.1
  have hca := hR.ca c hc.1 hc.2
  have b15 := (hI.1.1.cd c (by omega) (by omega)).2.2.1
  have h8 := hI.2.2.1 c hc.1 hc.2
  have hw0 := wt_0 (ρ := ρ) (c := c)
  refine sw_p 2 (f' := (2, [some (2, 50), some (0, c), some (0, x), some (0, w), none, none, none], [(0, c), (2, 50)])) rfl ?_
  refine sw_cv1 (pn := 5) (q0 := mj_PT_request) (q := mj_PT_cardNumbered) (p := 50) (as2 := [(0, c)]) (L2 := [some (2, 50), some (0, c)]) (rest := []) (v := some (2, 300 + c)) (s1 := s) (ν1 := ν) rfl rfl rfl rfl rfl rfl rfl rfl rfl (hR.sh.1) (cl_cN1 hI.1 hR hc) ?_
  show sw_w E _ 73 (5, [some (2, 50), some (0, c), some (0, x), some (0, w), none, none, none], [(2, 300 + c)]) s ν _
  refine sw_p 2 (f' := (8, [some (2, 50), some (0, c), some (0, x), some (0, w), some (2, 300 + c), none, none], [(0, x)])) rfl ?_
  refine sw_ge1 (pt := 19) (pn := 11) rfl rfl rfl (by omega) (fun g1 => ?_) (fun h => absurd h (by omega))
  refine sw_p 1 (f' := (21, [some (2, 50), some (0, c), some (0, x), some (0, w), some (2, 300 + c), none, none], [(2, 300 + c)])) rfl ?_
  refine sw_gI (pn := 24) (i := 6) rfl rfl rfl rfl rfl (by omega) (hca.1) ?_
  rw [show ν (300 + c) 6 = ρ 15 c from (hR.cn c (by omega) (by omega)).2.2.1]
  refine sw_p 1 (f' := (25, [some (2, 50), some (0, c), some (0, x), some (0, w), some (2, 300 + c), none, none], [(0, 1), (0, ρ 15 c)])) rfl ?_
  refine sw_eq2 (pt := 37) (pn := 28) rfl rfl rfl (by omega) (by omega) (fun g2 => ?_) (fun h => absurd h (by omega))
  refine sw_p 4 (f' := (46, [some (2, 50), some (0, c), some (0, x), some (0, w), some (2, 300 + c), some (0, 1), none], [(0, 1)])) rfl ?_
  refine sw_eq1 (pt := 72) (pn := 49) rfl rfl rfl (by omega) (fun h => absurd h (by decide)) (fun _ => ?_)
  refine sw_p 1 (f' := (51, [some (2, 50), some (0, c), some (0, x), some (0, w), some (2, 300 + c), some (0, 1), none], [(2, 300 + c)])) rfl ?_
  refine sw_gI (pn := 54) (i := 8) rfl rfl rfl rfl rfl (by omega) (hca.1) ?_
  rw [show ν (300 + c) 8 = mo_wt ρ c from (hR.cn c (by omega) (by omega)).2.2.2.2.1]
  refine sw_p 1 (f' := (56, [some (2, 50), some (0, c), some (0, x), some (0, w), some (2, 300 + c), some (0, 1), none], [(0, 8), (0, mo_wt ρ c)])) rfl ?_
  refine sw_eq2 (pt := 72) (pn := 59) rfl rfl rfl (by omega) (by omega) (fun g4 => ?_) (fun h => absurd h (by omega))
  exact sw_thr rfl rfl rfl rfl rfl (by omega) ⟨rfl, rfl, rfl⟩
theorem cl_rq_s22 (hI : iv_I ρ f) (hR : pt_R s ν ρ f) (hc : 0 ≤ c ∧ c < ρ 0 12) (hx : 0 ≤ x ∧ x < 2147483648) (h1 : ρ 15 c = 2) (h2 : mo_wt ρ c = 8) (hd : 5 ≤ d) : sw_w E (d + 2) 73 (0, [some (2, 50), some (0, c), some (0, x), some (0, w), none, none, none], []) s ν (sw_ex 9 s ν) := by
  have b1 := hI.1.1.1
  have b12 := hI.1.1.2.2.1
  have b24 := hI.1.1.2.2.2.2.2.1
  have hca := hR.ca c hc.1 hc.2
  have b15 := (hI.1.1.cd c (by omega) (by omega)).2.2.1
  have h8 := hI.2.2.1 c hc.1 hc.2
  have hw0 := wt_0 (ρ := ρ) (c := c)
  refine sw_p 2 (f' := (2, [some (2, 50), some (0, c), some (0, x), some (0, w), none, none, none], [(0, c), (2, 50)])) rfl ?_
  refine sw_cv1 (pn := 5) (q0 := mj_PT_request) (q := mj_PT_cardNumbered) (p := 50) (as2 := [(0, c)]) (L2 := [some (2, 50), some (0, c)]) (rest := []) (v := some (2, 300 + c)) (s1 := s) (ν1 := ν) rfl rfl rfl rfl rfl rfl rfl rfl rfl (hR.sh.1) (cl_cN1 hI.1 hR hc) ?_
  show sw_w E _ 73 (5, [some (2, 50), some (0, c), some (0, x), some (0, w), none, none, none], [(2, 300 + c)]) s ν _
  refine sw_p 2 (f' := (8, [some (2, 50), some (0, c), some (0, x), some (0, w), some (2, 300 + c), none, none], [(0, x)])) rfl ?_
  refine sw_ge1 (pt := 19) (pn := 11) rfl rfl rfl (by omega) (fun g1 => ?_) (fun h => absurd h (by omega))
  refine sw_p 1 (f' := (21, [some (2, 50), some (0, c), some (0, x), some (0, w), some (2, 300 + c), none, none], [(2, 300 + c)])) rfl ?_
  refine sw_gI (pn := 24) (i := 6) rfl rfl rfl rfl rfl (by omega) (hca.1) ?_
  rw [show ν (300 + c) 6 = ρ 15 c from (hR.cn c (by omega) (by omega)).2.2.1]
  refine sw_p 1 (f' := (25, [some (2, 50), some (0, c), some (0, x), some (0, w), some (2, 300 + c), none, none], [(0, 1), (0, ρ 15 c)])) rfl ?_
  refine sw_eq2 (pt := 37) (pn := 28) rfl rfl rfl (by omega) (by omega) (fun h => absurd h (by omega)) (fun g2 => ?_)
  refine sw_p 1 (f' := (30, [some (2, 50), some (0, c), some (0, x), some (0, w), some (2, 300 + c), none, none], [(2, 300 + c)])) rfl ?_
  refine sw_gI (pn := 33) (i := 6) rfl rfl rfl rfl rfl (by omega) (hca.1) ?_
  rw [show ν (300 + c) 6 = ρ 15 c from (hR.cn c (by omega) (by omega)).2.2.1]
  refine sw_p 1 (f' := (34, [some (2, 50), some (0, c), some (0, x), some (0, w), some (2, 300 + c), none, none], [(0, 2), (0, ρ 15 c)])) rfl ?_
  refine sw_ne2 (pt := 41) (pn := 37) rfl rfl rfl (by omega) (by omega) (fun h => absurd h (by omega)) (fun g3 => ?_)
  refine sw_p 4 (f' := (46, [some (2, 50), some (0, c), some (0, x), some (0, w), some (2, 300 + c), some (0, 1), none], [(0, 1)])) rfl ?_
  refine sw_eq1 (pt := 72) (pn := 49) rfl rfl rfl (by omega) (fun h => absurd h (by decide)) (fun _ => ?_)
  refine sw_p 1 (f' := (51, [some (2, 50), some (0, c), some (0, x), some (0, w), some (2, 300 + c), some (0, 1), none], [(2, 300 + c)])) rfl ?_
  refine sw_gI (pn := 54) (i := 8) rfl rfl rfl rfl rfl (by omega) (hca.1) ?_
  rw [show ν (300 + c) 8 = mo_wt ρ c from (hR.cn c (by omega) (by omega)).2.2.2.2.1]
  refine sw_p 1 (f' := (56, [some (2, 50), some (0, c), some (0, x), some (0, w), some (2, 300 + c), some (0, 1), none], [(0, 8), (0, mo_wt ρ c)])) rfl ?_
  refine sw_eq2 (pt := 72) (pn := 59) rfl rfl rfl (by omega) (by omega) (fun g5 => ?_) (fun h => absurd h (by omega))
  exact sw_thr rfl rfl rfl rfl rfl (by omega) ⟨rfl, rfl, rfl⟩
theorem cl_rq_b1 (hI : iv_I ρ f) (hR : pt_R s ν ρ f) (hc : -2147483648 ≤ c ∧ c < 2147483648) (h0 : ¬ (0 ≤ c ∧ c < ρ 0 12)) (hd : 5 ≤ d) : sw_w E (d + 2) 73 (0, [some (2, 50), some (0, c), some (0, x), some (0, w), none, none, none], []) s ν (sw_ex 8 s ν) := by
  have b1 := hI.1.1.1
  refine sw_p 2 (f' := (2, [some (2, 50), some (0, c), some (0, x), some (0, w), none, none, none], [(0, c), (2, 50)])) rfl ?_
  exact sw_cv (pn := 5) (q0 := mj_PT_request) (q := mj_PT_cardNumbered) (p := 50) (as2 := [(0, c)]) (L2 := [some (2, 50), some (0, c)]) (rest := []) (Q2 := (sw_ex 8 s ν)) rfl rfl rfl rfl rfl rfl rfl rfl rfl (hR.sh.1) (cl_cN0 hI.1 hR hc hd h0) (fun _ _ _ h => nomatch h.1) (fun _ _ _ h => h)
theorem cl_rq_b2 (hI : iv_I ρ f) (hR : pt_R s ν ρ f) (hc : 0 ≤ c ∧ c < ρ 0 12) (hx : -2147483648 ≤ x ∧ x < 0) (hd : 5 ≤ d) : sw_w E (d + 2) 73 (0, [some (2, 50), some (0, c), some (0, x), some (0, w), none, none, none], []) s ν (sw_ex 8 s ν) := by
  have b1 := hI.1.1.1
  have b12 := hI.1.1.2.2.1
  have b24 := hI.1.1.2.2.2.2.2.1
  have hca := hR.ca c hc.1 hc.2
  have b15 := (hI.1.1.cd c (by omega) (by omega)).2.2.1
  have h8 := hI.2.2.1 c hc.1 hc.2
  have hw0 := wt_0 (ρ := ρ) (c := c)
  refine sw_p 2 (f' := (2, [some (2, 50), some (0, c), some (0, x), some (0, w), none, none, none], [(0, c), (2, 50)])) rfl ?_
  refine sw_cv1 (pn := 5) (q0 := mj_PT_request) (q := mj_PT_cardNumbered) (p := 50) (as2 := [(0, c)]) (L2 := [some (2, 50), some (0, c)]) (rest := []) (v := some (2, 300 + c)) (s1 := s) (ν1 := ν) rfl rfl rfl rfl rfl rfl rfl rfl rfl (hR.sh.1) (cl_cN1 hI.1 hR hc) ?_
  show sw_w E _ 73 (5, [some (2, 50), some (0, c), some (0, x), some (0, w), none, none, none], [(2, 300 + c)]) s ν _
  refine sw_p 2 (f' := (8, [some (2, 50), some (0, c), some (0, x), some (0, w), some (2, 300 + c), none, none], [(0, x)])) rfl ?_
  refine sw_ge1 (pt := 19) (pn := 11) rfl rfl rfl (by omega) (fun h => absurd h (by omega)) (fun g1 => ?_)
  exact sw_thr rfl rfl rfl rfl rfl (by omega) ⟨rfl, rfl, rfl⟩
end RQ1
