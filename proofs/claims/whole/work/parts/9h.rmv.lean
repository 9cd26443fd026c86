/-! moving all: the relation afterwards -/
theorem sm_0 : ∀ (n : Nat) {g : Int → Int}, (∀ i : Int, 0 ≤ i → i < (n : Int) → g i = 0) → sm_s g n = 0
  | 0, _, _ => rfl
  | n + 1, g, h => by
    show sm_s g n + g n = 0
    rw [sm_0 n (fun i h1 h2 => h i h1 (by omega)), h n (by omega) (by omega)]
    rfl
section RMV
variable {s ν ν1 ρ : mm_T} {f : Int → Int} {b c i k u y : Int}
theorem lk_end (hI : iv_I ρ f) (hR : pt_R s ν1 ρ f) (hF : pv_F (mo_me (ρ 0 1).toNat ρ) f (pv_T ρ)) : ∃ y2, lk_R (mo_me (ρ 0 1).toNat ρ) (ρ 0 1) 4096 0 (fun c k => ν1 (340 + c) k) ((pv_T ρ).1, (pv_T ρ).2.1, y2) (ly_l (mo_me (ρ 0 1).toNat ρ) (ρ 0 1).toNat 0 (ly_0 ν1 (ρ 0 1))) := by
  have h8 := hI.1.1.1
  have hf := me_fr (ρ 0 1).toNat ρ
  have h0 := hf 0 (by decide)
  obtain ⟨g1, g2, g3, g4, g5, g6, g7, g8⟩ := hF
  have hO := hI.2.2.2.2.2.1
  have hno : ∀ i k, 0 ≤ i → i < 32 → 0 ≤ k → k < 3 → ¬ pl_s (mo_me (ρ 0 1).toNat ρ) 0 4096 0 i k := fun i k a1 a2 a3 a4 ⟨p1, p2⟩ => by
    have := lv_max _ (g3 i k a1 a2 a3 a4)
    omega
  have hz0 : lz_P (mo_me (ρ 0 1).toNat ρ) 0 (ρ 18, ρ 5, ρ 6) := ⟨fun i k a1 a2 a3 a4 a5 => by omega, fun i k j l a1 a2 a3 a4 a5 a6 a7 a8 a9 b0 => by omega, fun i a1 a2 a3 a4 => by omega, hO.1.1, fun x x0 x1 => by omega⟩
  have hk0 : lk_R (mo_me (ρ 0 1).toNat ρ) 0 4096 0 (fun c k => ν1 (340 + c) k) (ρ 18, ρ 5, 0) (ly_0 ν1 (ρ 0 1)) := by
    refine ⟨rfl, fun i k a1 a2 a3 a4 a5 => ⟨fun hh => absurd hh (hno i k a1 a2 a3 a4), fun _ => rfl⟩, fun i a1 a2 a3 a4 => ⟨fun hh => absurd hh (hno i 0 a1 a2 (by omega) (by omega)), fun _ => ?_⟩, ?_, fun c k _ => rfl, ?_, ?_⟩
    · have ht := g1.2.2.1.2.2 i a1 a2 a3 a4
      rw [h0] at ht
      exact ⟨if_pos ⟨ht.1, ht.2.1⟩, if_pos ⟨ht.1, ht.2.1⟩⟩
    · show (0 : Int) = lk_f (mo_me (ρ 0 1).toNat ρ) (fun c k => ν1 (340 + c) k) (fun c k => ν1 (340 + c) k)
      exact (sm_0 120 (fun y _ _ => if_neg (fun h => h.2 rfl))).symm
    · show (if 1 ≤ (0 : Int) ∧ (0 : Int) < ρ 0 1 then 0 else ν1 (100 + 0) 6) = 0
      rw [if_neg (by omega), (hR.bn 0 (by omega) (by omega)).2.1]
      exact hO.1.1
    · show (if 1 ≤ (0 : Int) ∧ (0 : Int) < ρ 0 1 then 0 else ν1 (100 + 0) 7) = 4096
      rw [if_neg (by omega), (hR.bn 0 (by omega) (by omega)).2.2]
      exact hO.1.2
  have h := lk_all g1 g2 g3 g4 g5 (ρ 0 1).toNat 0 0 (ρ 18, ρ 5, ρ 6) (ly_0 ν1 (ρ 0 1)) (by omega) (by rw [h0]; omega) hz0 hk0
  rw [h0] at h
  exact h
theorem R_mv (hI : iv_I ρ f) (hR0 : pt_R s ν ρ f) (hcm : 0 ≤ ρ 0 21) (hF : pv_F (mo_me (ρ 0 1).toNat ρ) f (pv_T ρ)) (hN : mb_N ν ρ ν1) : pt_R s (ly_m ν1 (ly_l (mo_me (ρ 0 1).toNat ρ) (ρ 0 1).toNat 0 (ly_0 ν1 (ρ 0 1)))) (mv_r ρ) f := by
  have hR : pt_R s ν1 ρ f := pt_R_fr hI.1.1 (fun p i h1 h2 h3 => hN.1 p i h3) (fun _ _ => rfl) hR0
  obtain ⟨y2, hL⟩ := lk_end hI hR hF
  have b1 := hI.1.1.1
  have b8 := hI.1.1.2.1
  have b12 := hI.1.1.2.2.1
  have b21 := hI.1.1.2.2.2.1
  have b24 := hI.1.1.2.2.2.2.2.1
  have hf := me_fr (ρ 0 1).toNat ρ
  have h0 := hf 0 (by decide)
  have e2 := hf 2 (by decide)
  have e9 := hf 9 (by decide)
  have e13 := hf 13 (by decide)
  have hq := fun c k (hc : 0 ≤ c ∧ c < ρ 0 12) (hk : 0 ≤ k ∧ k < 3) (hs : ρ 15 c ≤ 3) (hz : 0 < ρ 9 (3 * ρ 13 c + k)) => pv_q hI hF hc hk hs hz
  obtain ⟨g1, g2, g3, g4, g5, g6, g7, g8⟩ := hF
  have hNv := hI.2.2.2.2.2.2.2.2.1
  have h23 := mvr_23 (ρ := ρ) b12.1
  generalize ly_l (mo_me (ρ 0 1).toNat ρ) (ρ 0 1).toNat 0 (ly_0 ν1 (ρ 0 1)) = X at hL ⊢
  obtain ⟨k1, k2, k3, k4, k5, k6, k7⟩ := hL
  have hpl : ∀ i k, 0 ≤ i → i / 4 < ρ 0 1 → 0 < it_s (mo_me (ρ 0 1).toNat ρ) i k → pl_s (mo_me (ρ 0 1).toNat ρ) (ρ 0 1) 4096 0 i k := fun i k _ h1 h2 => ⟨h2, Or.inl h1⟩
  -- the ranges
  have hc1 : ∀ c k, 0 ≤ c → c < ρ 0 12 → 0 ≤ k → k < 3 → ρ 15 c ≤ 3 → 0 < ρ 9 (3 * ρ 13 c + k) → X.1 c k = (pv_T ρ).1 (3 * c + k) := fun c k c0 c1 k0 k1 hs hz => by
    obtain ⟨i, i0, i1, i2, i3, i4⟩ := pv_c hI ⟨c0, c1⟩ hs
    have hit : it_s (mo_me (ρ 0 1).toNat ρ) i k = ρ 9 (3 * ρ 13 c + k) := by
      rw [it_c (by rw [e2]; omega), e2, e9, e13, i2, show 100 + c - 100 = c by omega]
    have := (k2 i k i0 i1 k0 k1 (by rw [e2]; omega)).1 (hpl i k i0 (by omega) (by rw [hit]; exact hz))
    rw [e2, i2, show 100 + c - 100 = c by omega] at this
    exact this
  have hc0 : ∀ c k, 0 ≤ c → 0 ≤ k → k < 3 → (c < ρ 0 12 → ρ 15 c ≤ 3 → ¬ 0 < ρ 9 (3 * ρ 13 c + k)) → X.1 c k = ν1 (340 + c) k := fun c k c0 k0 k1 hno => by
    by_cases hin : ∃ i, 0 ≤ i ∧ i < 32 ∧ ρ 2 i = 100 + c
    · obtain ⟨i, i0, i1, i2⟩ := hin
      have hkk := hI.1.2.2.2.2.2.2 i i0 i1 (by omega)
      rw [i2, show 100 + c - 100 = c by omega] at hkk
      have hit : it_s (mo_me (ρ 0 1).toNat ρ) i k = ρ 9 (3 * ρ 13 c + k) := by
        rw [it_c (by rw [e2]; omega), e2, e9, e13, i2, show 100 + c - 100 = c by omega]
      have := (k2 i k i0 i1 k0 k1 (by rw [e2]; omega)).2 (fun hh => hno hkk.1 hkk.2.2 (by rw [← hit]; exact hh.1))
      rw [e2, i2, show 100 + c - 100 = c by omega] at this
      exact this
    · exact k5 c k (fun i i0 i1 hh => hin ⟨i, i0, i1, by rw [e2] at hh; exact hh⟩)
  -- the openings
  have hop : ∀ b, 0 ≤ b → b < ρ 0 1 → X.2.1 b = (pv_T ρ).2.1 b ∧ X.2.2.1 b = (pv_T ρ).2.2 b := fun b h1 h2 => by
    have p5 := g8.2.2.2.2 b h1 (by rw [h0]; exact h2)
    by_cases hb0 : b = 0
    · rw [hb0] at p5 ⊢
      rw [if_pos rfl] at p5
      rw [k6, k7, p5.2, g8.2.2.2.1]
      exact ⟨rfl, rfl⟩
    · obtain ⟨i, i0, i1, i2⟩ := g4 b (by omega) (by rw [h0]; exact h2)
      have ht := g1.2.2.1.2.2 i i0 i1 (by omega) (by omega)
      have ht2 := g1.2.2.1.2.1 b (by omega) (by rw [h0]; exact h2)
      have hk := k3 i i0 i1 (by omega) (by omega)
      rw [i2] at ht hk
      have hit : it_s (mo_me (ρ 0 1).toNat ρ) i 0 = mo_me (ρ 0 1).toNat ρ 7 b := by rw [it_b ⟨by omega, by omega⟩, i2]
      have h6 := g5 b (by omega) (by rw [h0]; exact h2)
      rw [if_neg hb0] at p5
      by_cases hz : mo_me (ρ 0 1).toNat ρ 7 b = 0
      · have := hk.2 (fun hh => by have := hh.1; omega)
        rw [if_pos hz] at p5
        rw [this.1, this.2, p5.2, p5.1 (by omega) hz]
        exact ⟨rfl, rfl⟩
      · have := hk.1 (hpl i 0 i0 (by omega) (by omega))
        rw [if_neg hz] at p5
        rw [this.1, this.2, p5.2]
        exact ⟨rfl, rfl⟩
  have er : ∀ p, p ≠ 17 → p ≠ 0 → p ≠ 7 → p ≠ 18 → p ≠ 5 → p ≠ 6 → mv_r ρ p = ρ p := fun p q1 q2 q3 q4 q5 q6 => mvr_r ⟨q1, q2⟩ ⟨q3, q4, q5, q6⟩
  have e0 : ∀ i, i ≠ 23 → mv_r ρ 0 i = ρ 0 i := fun i hi => mvr_n (by omega) (by omega) (by omega)
  have e17 := fun c k (hc : 0 ≤ c ∧ c < ρ 0 12) (hk : 0 ≤ k ∧ k < 3) => mvr_17 (ρ := ρ) hc hk
  have e5 := mvr_5 (ρ := ρ)
  have e6 := mvr_6 (ρ := ρ)
  have ne : ∀ p i, ¬ (340 ≤ p ∧ p < 380) → ¬ (100 ≤ p ∧ p < 108 ∧ (i = 6 ∨ i = 7)) → ¬ (p = 50 ∧ i = 13) → ly_m ν1 X p i = ν1 p i := fun p i q1 q2 q3 => ly_ne q1 q2 q3
  have hmv : X.2.2.2.1 = mv_r ρ 0 23 := by
    rw [h23, k4]
    unfold lk_f
    rw [sm_z (n := (3 * ρ 0 12).toNat) 120 (by omega) (fun y y0 y1 => if_neg (fun hh => hh.2 (hc0 (y / 3) (y % 3) (by omega) (by omega) (by omega) (fun h => by omega))))]
    refine sm_c _ (fun y y0 y1 => ?_)
    have hyc : 0 ≤ y / 3 ∧ y / 3 < ρ 0 12 := by omega
    have hy3 : 3 * (y / 3) + y % 3 = y := by omega
    unfold ma_d ma_o
    rw [pnr_18]
    have p15 : mo_pn ρ 15 = ρ 15 := pn_fr 15 (by decide)
    have p0 : mo_pn ρ 0 = ρ 0 := pn_fr 0 (by decide)
    have p9 : mo_pn ρ 9 = ρ 9 := pn_fr 9 (by decide)
    have p13 : mo_pn ρ 13 = ρ 13 := pn_fr 13 (by decide)
    simp only [p15, p0, p9, p13, h0]
    by_cases hs : ρ 15 (y / 3) ≤ 3
    · by_cases hz : 0 < ρ 9 (3 * ρ 13 (y / 3) + y % 3)
      · rw [hc1 (y / 3) (y % 3) hyc.1 hyc.2 (by omega) (by omega) hs hz, hy3]
        by_cases hcm2 : y / 3 = ρ 0 21
        · rw [if_neg (fun h => h.1 hcm2), if_neg (fun h => h.2.1 hcm2)]
        · have hth : 1 ≤ ρ 15 (y / 3) ∧ ρ 15 (y / 3) ≤ 3 := by
            have := hI.1.1.cd (y / 3) hyc.1 (by omega)
            have hn0 : ρ 15 (y / 3) ≠ 0 := fun h => hcm2 (hNv.2.1 (y / 3) hyc.1 hyc.2 h)
            omega
          have hold : ν1 (340 + y / 3) (y % 3) = ρ 17 y := by
            have := (hR.cr (y / 3) (y % 3) hyc.1 hyc.2 (by omega) (by omega)).2 hth hz
            rw [hy3] at this
            exact this
          rw [hold]
          by_cases hne : (pv_T ρ).1 y = ρ 17 y
          · rw [if_neg (fun h => h.2 hne), if_neg (fun h => h.2.2 hne.symm)]
          · rw [if_pos ⟨hcm2, hne⟩, if_pos ⟨⟨Or.inl hth, hz⟩, hcm2, fun h => hne h.symm⟩]
      · rw [hc0 (y / 3) (y % 3) hyc.1 (by omega) (by omega) (fun _ _ => hz), if_neg (fun h => h.2 rfl), if_neg (fun h => hz h.1.2)]
    · rw [hc0 (y / 3) (y % 3) hyc.1 (by omega) (by omega) (fun _ h => absurd h hs), if_neg (fun h => h.2 rfl), if_neg (fun h => by
        rcases h.1.1 with h2 | h2
        · exact hs h2.2
        · exact h.2.1 h2)]
  generalize mv_r ρ = ρ2 at er e0 e17 e5 e6 hmv ⊢
  refine ⟨hR.sh, ?_, ?_, ?_, ?_, ?_, ?_, ?_, ?_, ?_, ?_, ?_, ?_, ?_⟩
  · exact pt_Br_c hR.br (e0 1 (by omega)) (fun b _ _ => by rw [er 3 (by omega) (by omega) (by omega) (by omega) (by omega) (by omega)]) (fun b _ _ => by rw [er 4 (by omega) (by omega) (by omega) (by omega) (by omega) (by omega)])
  · intro b h1 h2
    rw [e0 1 (by omega)] at h2
    rw [ne 51 b (by omega) (by omega) (by omega), ly_6 (by omega), ly_7 (by omega), e5, e6]
    exact ⟨(hR.bn b h1 h2).1, (hop b h1 h2).1, (hop b h1 h2).2⟩
  · exact pt_Sl_c hR.sl (e0 1 (by omega)) (fun b i h1 h2 h3 h4 => ⟨ne (110 + b) i (by omega) (by omega) (by omega), ne (120 + b) i (by omega) (by omega) (by omega), by rw [er 2 (by omega) (by omega) (by omega) (by omega) (by omega) (by omega)]⟩)
  · exact pt_Ty_c hR.ty (e0 8 (by omega)) (fun t _ _ => ⟨by rw [er 10 (by omega) (by omega) (by omega) (by omega) (by omega) (by omega)], by rw [er 11 (by omega) (by omega) (by omega) (by omega) (by omega) (by omega)]⟩)
  · exact pt_Tn_c hR.tn (e0 8 (by omega)) (er 9 (by omega) (by omega) (by omega) (by omega) (by omega) (by omega)) (fun t h1 h2 => ⟨ne 52 t (by omega) (by omega) (by omega), fun k k0 k1 => ⟨ne (220 + t) k (by omega) (by omega) (by omega), ne (240 + t) k (by omega) (by omega) (by omega)⟩⟩)
  · exact pt_Ca_c hR.ca (e0 12 (by omega)) (fun c2 _ _ => ⟨by rw [er 14 (by omega) (by omega) (by omega) (by omega) (by omega) (by omega)], by rw [er 13 (by omega) (by omega) (by omega) (by omega) (by omega) (by omega)]⟩)
  · refine pt_Cn_c hR.cn (e0 12 (by omega)) (fun c2 h1 h2 h3 => ?_)
    obtain ⟨q1, q2, q3, q4, q5, q6, q7⟩ := h3
    unfold pt_Cf
    rw [ne 53 c2 (by omega) (by omega) (by omega), ne (300 + c2) 5 (by omega) (by omega) (by omega), ne (300 + c2) 6 (by omega) (by omega) (by omega), ne (300 + c2) 7 (by omega) (by omega) (by omega), ne (300 + c2) 8 (by omega) (by omega) (by omega), ne (300 + c2) 9 (by omega) (by omega) (by omega), ne (300 + c2) 10 (by omega) (by omega) (by omega), er 15 (by omega) (by omega) (by omega) (by omega) (by omega) (by omega), er 16 (by omega) (by omega) (by omega) (by omega) (by omega) (by omega), er 19 (by omega) (by omega) (by omega) (by omega) (by omega) (by omega), er 20 (by omega) (by omega) (by omega) (by omega) (by omega) (by omega), mo_wt_c (e0 24 (by omega)) (er 25 (by omega) (by omega) (by omega) (by omega) (by omega) (by omega)) (er 28 (by omega) (by omega) (by omega) (by omega) (by omega) (by omega))]
    exact ⟨q1, q2, q3, q4, q5, q6, q7⟩
  · intro c k h1 h2 h3 h4
    rw [e0 12 (by omega)] at h2
    rw [ly_c (by omega), er 15 (by omega) (by omega) (by omega) (by omega) (by omega) (by omega), er 9 (by omega) (by omega) (by omega) (by omega) (by omega) (by omega), er 13 (by omega) (by omega) (by omega) (by omega) (by omega) (by omega), e17 c k ⟨h1, h2⟩ ⟨h3, h4⟩]
    by_cases hs : ρ 15 c ≤ 3 ∧ 0 < ρ 9 (3 * ρ 13 c + k)
    · have hqq := hq c k ⟨h1, h2⟩ ⟨h3, h4⟩ hs.1 hs.2
      rw [hc1 c k h1 h2 h3 h4 hs.1 hs.2]
      refine ⟨by omega, fun h5 h6 => ?_⟩
      rw [if_pos ⟨Or.inl h5, h6⟩]
    · rw [hc0 c k h1 h3 h4 (fun _ h => fun h6 => hs ⟨h, h6⟩)]
      refine ⟨(hR.cr c k h1 h2 h3 h4).1, fun h5 h6 => absurd ⟨h5.2, h6⟩ hs⟩
  · exact pt_Cs_c hR.cs (e0 12 (by omega)) (fun c2 h1 h2 h3 => ⟨by rw [er 15 (by omega) (by omega) (by omega) (by omega) (by omega) (by omega)] at h3; exact h3, by rw [er 14 (by omega) (by omega) (by omega) (by omega) (by omega) (by omega)], fun h4 => by rw [er 2 (by omega) (by omega) (by omega) (by omega) (by omega) (by omega)]; exact h4⟩)
  · exact pt_Q_c hR.q (e0 12 (by omega)) (e0 24 (by omega)) (fun c2 h1 h2 => ⟨mo_pd_c (er 25 (by omega) (by omega) (by omega) (by omega) (by omega) (by omega)) (er 28 (by omega) (by omega) (by omega) (by omega) (by omega) (by omega)) c2, fun i h3 h4 => ne (380 + c2) i (by omega) (by omega) (by omega)⟩) hI.2.2.1
  · exact pt_Rq_c hR.rq (e0 24 (by omega)) (fun t h1 h2 => ⟨by rw [er 26 (by omega) (by omega) (by omega) (by omega) (by omega) (by omega)], by rw [er 27 (by omega) (by omega) (by omega) (by omega) (by omega) (by omega)], fun h3 => by rw [ne (1000 + t) 2 (by omega) (by omega) (by omega), er 28 (by omega) (by omega) (by omega) (by omega) (by omega) (by omega)]; exact h3⟩)
  · exact pt_L_c hR.li hI.1.1 (e0 24 (by omega)) (ne 54 0 (by omega) (by omega) (by omega)) (ne 54 1 (by omega) (by omega) (by omega)) (fun p t hp => ne p t (by omega) (by omega) (by omega))
  · obtain ⟨q1, q2, q3, q4, q5, q6⟩ := hR.z
    unfold pt_Z
    rw [ne 50 8 (by omega) (by omega) (by omega), ne 50 9 (by omega) (by omega) (by omega), ne 50 10 (by omega) (by omega) (by omega), ne 50 11 (by omega) (by omega) (by omega), ne 50 12 (by omega) (by omega) (by omega), ly_13, e0 1 (by omega), e0 8 (by omega), e0 12 (by omega), e0 21 (by omega), e0 22 (by omega)]
    exact ⟨q1, q2, q3, q4, q5, hmv⟩
end RMV
