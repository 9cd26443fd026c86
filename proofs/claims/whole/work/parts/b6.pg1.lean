/-! the class: plug -/
def cp_s (s : mm_T) (n b x t : Int) : mm_T := ca_s (nm_al s (300 + n) 103 0 11 (mm_z 3)) (300 + n) (340 + n) (380 + n) (100 + b) x (200 + t)
def cp_n (ν : mm_T) (n b x : Int) : mm_T := mm_u (mm_u (mm_u (mm_u (mm_u (mm_u (ca_n (sw_nw ν (300 + n) (mm_z 3)) (300 + n) (340 + n) (380 + n)) (120 + b) x (300 + n)) 53 n (300 + n)) (300 + n) 5 n) 50 11 (300 + n)) 50 12 0) 50 10 (n + 1)
section PG1
variable {E : mv_E} {s ν ρ : mm_T} {f : Int → Int} {d : Nat} {a b c e i k l n o p q r t u v w x y z sz : Int} {Q : nm_O → mm_T → mm_T → Prop}
theorem cps_f (h0 : 0 ≤ p) (h1 : p ≠ 300 + n ∧ p ≠ 340 + n ∧ p ≠ 380 + n) : cp_s s n b x t p i = s p i := by
  unfold cp_s ca_s
  rw [mm_u_ne (by omega), mm_u_ne (by omega), mm_u_ne (by omega), mm_u_ne (by omega), al_ne (by omega) (by omega), mm_u_ne (by omega), al_ne (by omega) (by omega), al_ne (by omega) (by omega)]
theorem cps_v (hn : 0 ≤ n) (hn2 : n < 40) : cp_s s n b x t (300 + n) (-1) = 103 ∧ cp_s s n b x t (300 + n) 0 = 100 + b ∧ cp_s s n b x t (300 + n) 1 = x ∧ cp_s s n b x t (300 + n) 2 = 200 + t ∧ (cp_s s n b x t (300 + n) 3 = 340 + n ∧ cp_s s n b x t (340 + n) (-1) = 0 ∧ cp_s s n b x t (340 + n) (-2) = 3) ∧ (cp_s s n b x t (300 + n) 4 = 380 + n ∧ cp_s s n b x t (380 + n) (-1) = 6 ∧ cp_s s n b x t (380 + n) (-2) = 8) := by
  unfold cp_s ca_s
  refine ⟨?_, ?_, ?_, ?_, ⟨?_, ?_, ?_⟩, ?_, ?_, ?_⟩
  · rw [mm_u_ne (by omega), mm_u_ne (by omega), mm_u_ne (by omega), mm_u_ne (by omega), al_ne (by omega) (by omega), mm_u_ne (by omega), al_ne (by omega) (by omega), al_k (by omega)]
  · rw [mm_u_ne (by omega), mm_u_ne (by omega), mm_u_at]
  · rw [mm_u_ne (by omega), mm_u_at]
  · rw [mm_u_at]
  · rw [mm_u_ne (by omega), mm_u_ne (by omega), mm_u_ne (by omega), mm_u_ne (by omega), al_ne (by omega) (by omega), mm_u_at]
  · rw [mm_u_ne (by omega), mm_u_ne (by omega), mm_u_ne (by omega), mm_u_ne (by omega), al_ne (by omega) (by omega), mm_u_ne (by omega), al_k (by omega)]
  · rw [mm_u_ne (by omega), mm_u_ne (by omega), mm_u_ne (by omega), mm_u_ne (by omega), al_ne (by omega) (by omega), mm_u_ne (by omega), al_l (by omega)]
  · rw [mm_u_ne (by omega), mm_u_ne (by omega), mm_u_ne (by omega), mm_u_at]
  · rw [mm_u_ne (by omega), mm_u_ne (by omega), mm_u_ne (by omega), mm_u_ne (by omega), al_k (by omega)]
  · rw [mm_u_ne (by omega), mm_u_ne (by omega), mm_u_ne (by omega), mm_u_ne (by omega), al_l (by omega)]
theorem cps_c (hn : 0 ≤ n) : cp_s s n b x t (-1) 0 = s (-1) 0 + 1 + 1 + 1 ∧ cp_s s n b x t (-1) 1 = s (-1) 1 + 11 + 3 + 8 := by
  unfold cp_s ca_s
  constructor
  · rw [mm_u_ne (by omega), mm_u_ne (by omega), mm_u_ne (by omega), mm_u_ne (by omega), al_c0, mm_u_ne (by omega), al_c0, al_c0]
  · rw [mm_u_ne (by omega), mm_u_ne (by omega), mm_u_ne (by omega), mm_u_ne (by omega), al_c1, mm_u_ne (by omega), al_c1, al_c1]
theorem cpn_f (h1 : p ≠ 300 + n ∧ p ≠ 340 + n ∧ p ≠ 380 + n) (h2 : ¬ (p = 53 ∧ i = n)) (h3 : ¬ (p = 50 ∧ 10 ≤ i ∧ i ≤ 12)) (h4 : ¬ (p = 120 + b ∧ i = x)) : cp_n ν n b x p i = ν p i := by
  unfold cp_n ca_n
  rw [mm_u_ne (by omega), mm_u_ne (by omega), mm_u_ne (by omega), mm_u_ne (by omega), mm_u_ne (by omega), mm_u_ne (by omega), mm_u_ne (by omega), nw_ne (by omega), nw_ne (by omega), nw_ne (by omega)]
theorem cpn_50 (hn : 0 ≤ n) (hb : 0 ≤ b) (hi : ¬ (10 ≤ i ∧ i ≤ 12)) : cp_n ν n b x 50 i = ν 50 i := cpn_f (by omega) (by omega) (by omega) (by omega)
theorem cpn_v (hn : 0 ≤ n ∧ n < 40) (hb : 0 ≤ b ∧ b < 8) : (cp_n ν n b x 50 10 = n + 1 ∧ cp_n ν n b x 50 11 = 300 + n ∧ cp_n ν n b x 50 12 = 0) ∧ cp_n ν n b x 53 n = 300 + n ∧ cp_n ν n b x (120 + b) x = 300 + n ∧ cp_n ν n b x (300 + n) 5 = n ∧ (∀ i, 6 ≤ i → i ≤ 10 → cp_n ν n b x (300 + n) i = 0) ∧ (∀ i, cp_n ν n b x (340 + n) i = 0) := by
  unfold cp_n ca_n
  refine ⟨⟨mm_u_at, ?_, ?_⟩, ?_, ?_, ?_, fun i h1 h2 => ?_, fun i => ?_⟩
  · rw [mm_u_ne (by omega), mm_u_ne (by omega), mm_u_at]
  · rw [mm_u_ne (by omega), mm_u_at]
  · rw [mm_u_ne (by omega), mm_u_ne (by omega), mm_u_ne (by omega), mm_u_ne (by omega), mm_u_at]
  · rw [mm_u_ne (by omega), mm_u_ne (by omega), mm_u_ne (by omega), mm_u_ne (by omega), mm_u_ne (by omega), mm_u_at]
  · rw [mm_u_ne (by omega), mm_u_ne (by omega), mm_u_ne (by omega), mm_u_at]
  · rw [mm_u_ne (by omega), mm_u_ne (by omega), mm_u_ne (by omega), mm_u_ne (by omega), mm_u_ne (by omega), mm_u_ne (by omega)]
    by_cases h6 : i = 6
    · rw [h6, mm_u_at]
    · rw [mm_u_ne (by omega), nw_ne (by omega), nw_ne (by omega)]
      refine nw_at ?_
      have : i = 7 ∨ i = 8 ∨ i = 9 ∨ i = 10 := by omega
      rcases this with rfl | rfl | rfl | rfl <;> decide
  · rw [mm_u_ne (by omega), mm_u_ne (by omega), mm_u_ne (by omega), mm_u_ne (by omega), mm_u_ne (by omega), mm_u_ne (by omega), mm_u_ne (by omega), nw_ne (by omega)]
    exact nw_af
theorem R_pg (hI : iv_I ρ f) (hR : pt_R s ν ρ f) (hb : 0 ≤ b ∧ b < ρ 0 1) (hx : 0 ≤ x ∧ x ≤ 3) (ht : 0 ≤ t ∧ t < ρ 0 8) (h1 : ρ 2 (4 * b + x) = -1) (h2 : ρ 0 12 ≠ 40) : pt_R (cp_s s (ρ 0 12) b x t) (cp_n ν (ρ 0 12) b x) (mo_pl ρ b x t) f := by
  have hA := hI.1
  have hT := hA.2.2.1
  have b1 := hA.1.1
  have b8 := hA.1.2.1
  have b12 := hA.1.2.2.1
  have b24 := hA.1.2.2.2.2.2.1
  have hR' : pt_R (cp_s s (ρ 0 12) b x t) ν ρ f := R_s hA.1 (fun p i hp => by unfold us_d at hp; exact cps_f (by omega) (by omega)) hR
  have sv := cps_v (s := s) (n := ρ 0 12) (b := b) (x := x) (t := t) (by omega) (by omega)
  have nv := cpn_v (ν := ν) (n := ρ 0 12) (b := b) (x := x) (by omega) (by omega)
  have nf : ∀ p i, (p ≠ 300 + ρ 0 12 ∧ p ≠ 340 + ρ 0 12 ∧ p ≠ 380 + ρ 0 12) → ¬ (p = 53 ∧ i = ρ 0 12) → ¬ (p = 50 ∧ 10 ≤ i ∧ i ≤ 12) → ¬ (p = 120 + b ∧ i = x) → cp_n ν (ρ 0 12) b x p i = ν p i := fun p i g1 g2 g3 g4 => cpn_f g1 g2 g3 g4
  have n50 : ∀ i, ¬ (10 ≤ i ∧ i ≤ 12) → cp_n ν (ρ 0 12) b x 50 i = ν 50 i := fun i hi => cpn_50 b12.1 hb.1 hi
  have e0 : ∀ i, i ≠ 0 → i ≠ 12 → i ≠ 21 → i ≠ 22 → mo_pl ρ b x t 0 i = ρ 0 i := fun i h1 h2 h3 h4 => pg_0 ⟨h1, h2, h3, h4⟩
  have e12 : mo_pl ρ b x t 0 12 = ρ 0 12 + 1 := pg_12
  have e21 : mo_pl ρ b x t 0 21 = ρ 0 12 := pg_21
  have e22 : mo_pl ρ b x t 0 22 = 0 := pg_22
  have e2 : ∀ i, mo_pl ρ b x t 2 i = if i = 4 * b + x then 100 + ρ 0 12 else ρ 2 i := fun i => pg_2
  have e13 : ∀ i, mo_pl ρ b x t 13 i = if i = ρ 0 12 then t else ρ 13 i := fun i => pg_13
  have e14 : ∀ i, mo_pl ρ b x t 14 i = if i = ρ 0 12 then b else ρ 14 i := fun i => pg_14
  have e15 : ∀ i, mo_pl ρ b x t 15 i = if i = ρ 0 12 then 0 else ρ 15 i := fun i => pg_15
  have e17 : ∀ i, mo_pl ρ b x t 17 i = if 3 * ρ 0 12 ≤ i ∧ i < 3 * ρ 0 12 + 3 then -1 else ρ 17 i := fun i => pg_17
  have er : ∀ p, p ≠ 0 → p ≠ 2 → p ≠ 13 → p ≠ 14 → p ≠ 15 → p ≠ 17 → mo_pl ρ b x t p = ρ p := fun p h1 h2 h3 h4 h5 h6 => pg_p ⟨h1, h2, h3, h4, h5, h6⟩
  have hZ := hI.2.2.2.2.2.2.2.2.2.1
  have zc := hZ.2.2.1 (ρ 0 12) (by omega) (by omega)
  have wz := wt_n (c := ρ 0 12) hZ (by omega)
  generalize mo_pl ρ b x t = ρ' at *
  generalize cp_n ν (ρ 0 12) b x = ν' at *
  generalize cp_s s (ρ 0 12) b x t = s' at *
  have q1 := e0 1 (by omega) (by omega) (by omega) (by omega)
  have q8 := e0 8 (by omega) (by omega) (by omega) (by omega)
  have q24 := e0 24 (by omega) (by omega) (by omega) (by omega)
  have rr := fun p (h : p ≠ 0 ∧ p ≠ 2 ∧ p ≠ 13 ∧ p ≠ 14 ∧ p ≠ 15 ∧ p ≠ 17) => er p h.1 h.2.1 h.2.2.1 h.2.2.2.1 h.2.2.2.2.1 h.2.2.2.2.2
  have r9 := rr 9 (by omega)
  have r25 := rr 25 (by omega)
  have r28 := rr 28 (by omega)
  have ew : ∀ c2, mo_wt ρ' c2 = mo_wt ρ c2 := fun c2 => mo_wt_c q24 r25 r28 c2
  refine ⟨hR'.sh, ?_, ?_, ?_, ?_, ?_, ?_, ?_, ?_, ?_, ?_, ?_, ?_, ?_⟩
  · exact pt_Br_c hR'.br q1 (fun b _ _ => by rw [rr 3 (by omega)]) (fun b _ _ => by rw [rr 4 (by omega)])
  · exact pt_Bn_c hR.bn q1 (fun u g1 g2 => ⟨nf _ _ (by omega) (by omega) (by omega) (by omega), nf _ _ (by omega) (by omega) (by omega) (by omega), nf _ _ (by omega) (by omega) (by omega) (by omega), by rw [rr 5 (by omega)], by rw [rr 6 (by omega)]⟩)
  · intro u i u0 u1 i0 i1
    rw [q1] at u1
    rw [e2]
    obtain ⟨g1, g2⟩ := hR.sl u i u0 u1 i0 i1
    rw [nf (110 + u) i (by omega) (by omega) (by omega) (by omega)]
    by_cases hi : 4 * u + i = 4 * b + x
    · have hub : u = b := by omega
      have hix : i = x := by omega
      rw [if_pos hi, if_neg (by omega), if_pos (by omega), hub, hix]
      rw [hub, hix, h1, if_neg (by omega)] at g1
      exact ⟨g1, by rw [nv.2.2.1]; omega⟩
    · rw [if_neg hi, nf (120 + u) i (by omega) (by omega) (by omega) (by omega)]
      exact ⟨g1, g2⟩
  · exact pt_Ty_c hR'.ty q8 (fun t _ _ => ⟨by rw [rr 10 (by omega)], by rw [rr 11 (by omega)]⟩)
  · exact pt_Tn_c hR.tn q8 r9 (fun t h1 h2 => ⟨nf _ _ (by omega) (by omega) (by omega) (by omega), fun k k0 k1 => ⟨nf _ _ (by omega) (by omega) (by omega) (by omega), nf _ _ (by omega) (by omega) (by omega) (by omega)⟩⟩)
  · intro c c0 c1
    rw [e12] at c1
    rw [e13, e14]
    by_cases hc : c = ρ 0 12
    · rw [if_pos hc, if_pos hc, hc]
      exact ⟨sv.1, sv.2.1, by rw [sv.2.2.1]; omega, sv.2.2.2⟩
    · rw [if_neg hc, if_neg hc]
      exact hR'.ca c c0 (by omega)
  · intro c c0 c1
    rw [e12] at c1
    rw [e15, rr 16 (by omega), rr 19 (by omega), rr 20 (by omega), ew]
    by_cases hc : c = ρ 0 12
    · rw [if_pos hc, hc, zc.1, zc.2.1, zc.2.2, wz]
      exact ⟨nv.2.1, nv.2.2.2.1, nv.2.2.2.2.1 6 (by omega) (by omega), nv.2.2.2.2.1 7 (by omega) (by omega), nv.2.2.2.2.1 8 (by omega) (by omega), nv.2.2.2.2.1 9 (by omega) (by omega), nv.2.2.2.2.1 10 (by omega) (by omega)⟩
    · rw [if_neg hc, nf 53 c (by omega) (by omega) (by omega) (by omega), nf (300 + c) 5 (by omega) (by omega) (by omega) (by omega), nf (300 + c) 6 (by omega) (by omega) (by omega) (by omega), nf (300 + c) 7 (by omega) (by omega) (by omega) (by omega), nf (300 + c) 8 (by omega) (by omega) (by omega) (by omega), nf (300 + c) 9 (by omega) (by omega) (by omega) (by omega), nf (300 + c) 10 (by omega) (by omega) (by omega) (by omega)]
      exact hR.cn c c0 (by omega)
  · intro c k c0 c1 k0 k1
    rw [e12] at c1
    by_cases hc : c = ρ 0 12
    · rw [hc, nv.2.2.2.2.2, e15, if_pos rfl]
      exact ⟨by omega, fun h => by omega⟩
    · rw [nf (340 + c) k (by omega) (by omega) (by omega) (by omega), e15, e13, e17, r9, if_neg hc, if_neg hc, if_neg (show ¬ (3 * ρ 0 12 ≤ 3 * c + k ∧ 3 * c + k < 3 * ρ 0 12 + 3) by omega)]
      exact hR.cr c k c0 (by omega) k0 k1
  · intro c c0 c1 g3
    rw [e12] at c1
    rw [e15] at g3
    rw [e14, e2]
    by_cases hc : c = ρ 0 12
    · rw [if_pos hc, hc, sv.2.2.1, if_pos rfl]
    · rw [if_neg hc] at g3
      have g4 := hR'.cs c c0 (by omega) g3
      rw [if_neg hc, if_neg (fun h => by rw [h] at g4; omega)]
      exact g4
  · intro c2 i h1 h2 h3 h4
    rw [e12] at h2
    rw [ew] at h4
    by_cases hc : c2 = ρ 0 12
    · rw [hc, wz] at h4; omega
    · rw [q24, nf (380 + c2) i (by omega) (by omega) (by omega) (by omega), mo_pd_c r25 r28]
      exact hR.q c2 i h1 (by omega) h3 h4
  · have hq := pt_Rq_c (ν := ν) (ν' := ν') hR'.rq q24 (fun t h1 h2 => ⟨by rw [rr 26 (by omega)], by rw [rr 27 (by omega)], fun h => by rw [nf _ _ (by omega) (by omega) (by omega) (by omega), r28]; exact h⟩)
    exact hq
  · exact pt_L_c hR'.li hA.1 q24 (nf _ _ (by omega) (by omega) (by omega) (by omega)) (nf _ _ (by omega) (by omega) (by omega) (by omega)) (fun p t hp => nf _ _ (by omega) (by omega) (by omega) (by omega))
  · unfold pt_Z
    rw [n50 8 (by decide), n50 9 (by decide), n50 13 (by decide), q1, q8, e12, e21, e22, e0 23 (by decide) (by decide) (by decide) (by decide)]
    exact ⟨hR.z.1, hR.z.2.1, nv.1.1, by rw [if_neg (Int.not_lt.mpr b12.1)]; exact nv.1.2.1, nv.1.2.2, hR.z.2.2.2.2.2⟩
theorem un_pg (hB : mo_B ρ) (h : un_r s ν ρ) (hb : 0 ≤ b ∧ b < ρ 0 1) (h2 : ρ 0 12 ≠ 40) : un_r (cp_s s (ρ 0 12) b x t) (cp_n ν (ρ 0 12) b x) (mo_pl ρ b x t) := by
  have b1 := hB.1
  have b8 := hB.2.1
  have b12 := hB.2.2.1
  have b24 := hB.2.2.2.2.2.1
  obtain ⟨h1, h2, h3, h4, h5⟩ := h
  unfold un_r
  rw [pg_12, pg_0 (by omega), pg_0 (by omega), pg_0 (by omega)]
  refine ⟨fun b g1 g2 => ?_, fun b g1 g2 => ?_, fun b g1 g2 => ?_, fun b g1 g2 => ?_, fun b g1 g2 g3 => ?_⟩
  · rw [cps_f (by omega) (by omega), cps_f (by omega) (by omega), cps_f (by omega) (by omega)]; exact h1 b g1 g2
  · rw [cps_f (by omega) (by omega), cps_f (by omega) (by omega), cps_f (by omega) (by omega)]; exact h2 b g1 g2
  · rw [cps_f (by omega) (by omega), cps_f (by omega) (by omega), cps_f (by omega) (by omega)]; exact h3 b (by omega) g2
  · rw [cps_f (by omega) (by omega)]; exact h4 b g1 g2
  · rw [cps_f (by omega) (by omega)]; exact h5 b g1 g2 g3
theorem ns_pg (hB : mo_B ρ) : ns_r s (cp_s s (ρ 0 12) b x t) := by
  have b12 := hB.2.2.1
  have h := cps_c (s := s) (n := ρ 0 12) (b := b) (x := x) (t := t) (by omega)
  exact ⟨fun p h0 h1 => by funext i; exact cps_f h0 (by omega), by omega, by omega, by omega⟩
theorem lo_pg (hB : mo_B ρ) (hb : 0 ≤ b) : lo_r ν (cp_n ν (ρ 0 12) b x) := fun p hp => by
  have b12 := hB.2.2.1
  funext i
  exact cpn_f (by omega) (by omega) (by omega) (by omega)
theorem cl_pg (hI : iv_I ρ f) (hR : pt_R s ν ρ f) (hu : un_r s ν ρ) (hb : 0 ≤ b ∧ b < ρ 0 1) (hx : 0 ≤ x ∧ x ≤ 3) (ht : 0 ≤ t ∧ t < ρ 0 8) (h1 : ρ 2 (4 * b + x) = -1) (h2 : ρ 0 12 ≠ 40) (h4 : ρ 0 21 < 0) : sw_w E (d + 2) 69 (0, [some (2, 50), some (0, b), some (0, x), some (0, t), none, none], []) s ν (sw_vs (fun r s' ν' => r = some (0, ρ 0 12) ∧ ns_r s s' ∧ pt_R s' ν' (mo_pl ρ b x t) f ∧ un_r s' ν' (mo_pl ρ b x t) ∧ lo_r ν ν')) := by
  have b1 := hI.1.1.1
  have b8 := hI.1.1.2.1
  have b21 := hI.1.1.2.2.2.1
  have b12 := hI.1.1.2.2.1
  have hbr := hR.br b hb.1 hb.2
  have hun := hu.2.2.1 (ρ 0 12) (by omega) (by omega)
  refine sw_p 2 (f' := (2, [some (2, 50), some (0, b), some (0, x), some (0, t), none, none], [(0, b), (2, 50)])) rfl ?_
  refine sw_cv1 (pn := 5) (q0 := mj_PT_plug) (q := mj_PT_bridgeNumbered) (p := 50) (as2 := [(0, b)]) (L2 := [some (2, 50), some (0, b)]) (rest := []) (v := some (2, 100 + b)) (s1 := s) (ν1 := ν) rfl rfl rfl rfl rfl rfl rfl rfl rfl (hR.sh.1) (cl_bN1 hI.1 hR hb) ?_
  show sw_w E _ 69 (5, [some (2, 50), some (0, b), some (0, x), some (0, t), none, none], [(2, 100 + b)]) s ν _
  refine sw_p 2 (f' := (8, [some (2, 50), some (0, b), some (0, x), some (0, t), some (2, 100 + b), none], [(0, x)])) rfl ?_
  refine sw_cs1 (pn := 11) (q0 := mj_PT_plug) (q := mj_PT_requireSlot) (L2 := [some (0, x)]) (rest := []) (v := none) (s1 := s) (ν1 := ν) rfl rfl rfl rfl rfl rfl rfl rfl (cl_rS1 hx) ?_
  show sw_w E _ 69 (11, [some (2, 50), some (0, b), some (0, x), some (0, t), some (2, 100 + b), none], []) s ν _
  refine sw_p 3 (f' := (14, [some (2, 50), some (0, b), some (0, x), some (0, t), some (2, 100 + b), none], [(2, 50), (0, 0), (0, t)])) rfl ?_
  refine sw_gI (pn := 17) (i := 9) rfl rfl rfl rfl rfl (by omega) (hR.sh.1) ?_
  rw [show ν 50 9 = ρ 0 8 from hR.z.2.1]
  refine sw_p 2 (f' := (19, [some (2, 50), some (0, b), some (0, x), some (0, t), some (2, 100 + b), none], [(0, (ρ 0 8) - 1), (0, 0), (0, t)])) rfl ?_
  refine sw_cs1 (pn := 22) (q0 := mj_PT_plug) (q := mj_PT_requireWithin) (L2 := [some (0, t), some (0, 0), some (0, (ρ 0 8) - 1)]) (rest := []) (v := none) (s1 := s) (ν1 := ν) rfl rfl rfl rfl rfl rfl rfl rfl (pt_rw1 (by omega) (by omega) (by omega) (by omega)) ?_
  show sw_w E _ 69 (22, [some (2, 50), some (0, b), some (0, x), some (0, t), some (2, 100 + b), none], []) s ν _
  refine sw_p 2 (f' := (25, [some (2, 50), some (0, b), some (0, x), some (0, t), some (2, 100 + b), none], [(0, x), (2, 100 + b)])) rfl ?_
  refine sw_cv1 (pn := 28) (q0 := mj_PT_plug) (q := mj_Br_isSlotEmpty) (p := 100 + b) (as2 := [(0, x)]) (L2 := [some (2, 100 + b), some (0, x)]) (rest := []) (v := some (0, 1)) (s1 := s) (ν1 := ν) rfl rfl rfl rfl rfl rfl rfl rfl rfl (hbr.1) (by have h := cl_se (E := E) (d := d + 1) hI.1 hR hb (i := x) (by omega); rw [if_pos h1] at h; exact h) ?_
  show sw_w E _ 69 (28, [some (2, 50), some (0, b), some (0, x), some (0, t), some (2, 100 + b), none], [(0, 1)]) s ν _
  refine sw_eq1 (pt := 47) (pn := 31) rfl rfl rfl (by omega) (fun h => absurd h (by decide)) (fun _ => ?_)
  refine sw_p 1 (f' := (32, [some (2, 50), some (0, b), some (0, x), some (0, t), some (2, 100 + b), none], [(2, 50)])) rfl ?_
  refine sw_gI (pn := 35) (i := 10) rfl rfl rfl rfl rfl (by omega) (hR.sh.1) ?_
  rw [show ν 50 10 = ρ 0 12 from hR.z.2.2.1]
  refine sw_p 1 (f' := (37, [some (2, 50), some (0, b), some (0, x), some (0, t), some (2, 100 + b), none], [(0, 40), (0, ρ 0 12)])) rfl ?_
  refine sw_eq2 (pt := 47) (pn := 40) rfl rfl rfl (by omega) (by omega) (fun h => absurd h (by omega)) (fun h2 => ?_)
  refine sw_p 1 (f' := (41, [some (2, 50), some (0, b), some (0, x), some (0, t), some (2, 100 + b), none], [(2, 50)])) rfl ?_
  refine sw_gA (pn := 44) (i := 11) rfl rfl rfl rfl rfl (by omega) (hR.sh.1) (fun h => absurd h (by rw [show ν 50 11 = -1 from ((hR.z.2.2.2.1).trans (if_pos (by omega)))]; omega)) (fun _ => ?_)
  refine sw_p 1 (f' := (55, [some (2, 50), some (0, b), some (0, x), some (0, t), some (2, 100 + b), none], [])) rfl ?_
  refine sw_new (pn := 58) (k := 103) (sz := 11) (300 + ρ 0 12) rfl rfl rfl rfl rfl rfl (by omega) hun.1 ?_
  refine sw_p 4 (f' := (63, [some (2, 50), some (0, b), some (0, x), some (0, t), some (2, 100 + b), none], [(2, 50), (0, x), (2, 100 + b), (2, 300 + ρ 0 12), (2, 300 + ρ 0 12)])) rfl ?_
  refine sw_hA (pn := 66) (i := 1) (v := 52) rfl rfl rfl rfl rfl ((al_ne (by omega) (by omega)).trans (hR.sh.1)) ((al_ne (by omega) (by omega)).trans (hR.sh.2.2.1.1)) (by omega) ?_
  refine sw_p 1 (f' := (67, [some (2, 50), some (0, b), some (0, x), some (0, t), some (2, 100 + b), none], [(0, t), (2, 52), (0, x), (2, 100 + b), (2, 300 + ρ 0 12), (2, 300 + ρ 0 12)])) rfl ?_
  refine sw_aal (pn := 68) (t := 4) (l := 16) rfl rfl rfl (by decide) (by omega) ((al_ne (by omega) (by omega)).trans (hR.sh.2.2.1.2.1)) ((al_ne (by omega) (by omega)).trans (hR.sh.2.2.1.2.2)) (by omega) (by omega) (fun _ => ?_) (fun h => absurd h (by rw [show (sw_nw ν (300 + ρ 0 12) (mm_z 3)) 52 t = 200 + t from (nw_ne (by omega)).trans ((hR.tn t (by omega) (by omega)).1)]; omega))
  rw [show (sw_nw ν (300 + ρ 0 12) (mm_z 3)) 52 t = 200 + t from (nw_ne (by omega)).trans ((hR.tn t (by omega) (by omega)).1)]
  refine sw_ci1 (pn := 71) (q0 := mj_PT_plug) (q := mj_Ca_init) (p := 300 + ρ 0 12) (as2 := [(2, 100 + b), (0, x), (2, 200 + t)]) (L2 := [some (2, 300 + ρ 0 12), some (2, 100 + b), some (0, x), some (2, 200 + t)]) (rest := [(2, 300 + ρ 0 12)]) (v := none) (s1 := (mm_u (mm_u (mm_u (mm_u (nm_al (mm_u (nm_al (nm_al s (300 + ρ 0 12) 103 0 11 (mm_z 3)) (340 + ρ 0 12) 0 3 3 (fun _ => 0)) (300 + ρ 0 12) 3 (340 + ρ 0 12)) (380 + ρ 0 12) 6 8 8 (fun _ => -1)) (300 + ρ 0 12) 4 (380 + ρ 0 12)) (300 + ρ 0 12) 0 (100 + b)) (300 + ρ 0 12) 1 x) (300 + ρ 0 12) 2 (200 + t))) (ν1 := (mm_u (sw_nw (sw_nw (sw_nw ν (300 + ρ 0 12) (mm_z 3)) (340 + ρ 0 12) (fun _ => 0)) (380 + ρ 0 12) (fun _ => -1)) (300 + ρ 0 12) 6 0)) rfl rfl rfl rfl rfl rfl rfl rfl rfl (ca_i (al_k (by omega)) (by rw [al_ne (by omega) (by omega)]; exact hun.2.1) (by rw [al_ne (by omega) (by omega)]; exact hun.2.2) (by omega) (by omega)) ?_
  show sw_w E _ 69 (71, [some (2, 50), some (0, b), some (0, x), some (0, t), some (2, 100 + b), none], [(2, 300 + ρ 0 12)]) (mm_u (mm_u (mm_u (mm_u (nm_al (mm_u (nm_al (nm_al s (300 + ρ 0 12) 103 0 11 (mm_z 3)) (340 + ρ 0 12) 0 3 3 (fun _ => 0)) (300 + ρ 0 12) 3 (340 + ρ 0 12)) (380 + ρ 0 12) 6 8 8 (fun _ => -1)) (300 + ρ 0 12) 4 (380 + ρ 0 12)) (300 + ρ 0 12) 0 (100 + b)) (300 + ρ 0 12) 1 x) (300 + ρ 0 12) 2 (200 + t)) (mm_u (sw_nw (sw_nw (sw_nw ν (300 + ρ 0 12) (mm_z 3)) (340 + ρ 0 12) (fun _ => 0)) (380 + ρ 0 12) (fun _ => -1)) (300 + ρ 0 12) 6 0) _
  refine sw_p 2 (f' := (75, [some (2, 50), some (0, b), some (0, x), some (0, t), some (2, 100 + b), some (2, 300 + ρ 0 12)], [(2, 100 + b)])) rfl ?_
  refine sw_hA (pn := 78) (i := 5) (v := 120 + b) rfl rfl rfl rfl rfl ((mm_u_ne (by omega)).trans ((mm_u_ne (by omega)).trans ((mm_u_ne (by omega)).trans ((mm_u_ne (by omega)).trans ((al_ne (by omega) (by omega)).trans ((mm_u_ne (by omega)).trans ((al_ne (by omega) (by omega)).trans ((al_ne (by omega) (by omega)).trans (hbr.1))))))))) ((mm_u_ne (by omega)).trans ((mm_u_ne (by omega)).trans ((mm_u_ne (by omega)).trans ((mm_u_ne (by omega)).trans ((al_ne (by omega) (by omega)).trans ((mm_u_ne (by omega)).trans ((al_ne (by omega) (by omega)).trans ((al_ne (by omega) (by omega)).trans (hbr.2.2.2.2.2.2.1))))))))) (by omega) ?_
  refine sw_p 2 (f' := (81, [some (2, 50), some (0, b), some (0, x), some (0, t), some (2, 100 + b), some (2, 300 + ρ 0 12)], [(2, 300 + ρ 0 12), (0, x), (2, 120 + b)])) rfl ?_
  refine sw_aas (pn := 82) (t := 5) (c := 3) (l := 4) rfl rfl rfl (by decide) (by decide) ((mm_u_ne (by omega)).trans ((mm_u_ne (by omega)).trans ((mm_u_ne (by omega)).trans ((mm_u_ne (by omega)).trans ((al_ne (by omega) (by omega)).trans ((mm_u_ne (by omega)).trans ((al_ne (by omega) (by omega)).trans (al_k (by omega))))))))) (by omega) ((mm_u_ne (by omega)).trans ((mm_u_ne (by omega)).trans ((mm_u_ne (by omega)).trans ((mm_u_ne (by omega)).trans ((al_ne (by omega) (by omega)).trans ((mm_u_ne (by omega)).trans ((al_ne (by omega) (by omega)).trans ((al_ne (by omega) (by omega)).trans (hbr.2.2.2.2.2.2.2.1))))))))) ((mm_u_ne (by omega)).trans ((mm_u_ne (by omega)).trans ((mm_u_ne (by omega)).trans ((mm_u_ne (by omega)).trans ((al_ne (by omega) (by omega)).trans ((mm_u_ne (by omega)).trans ((al_ne (by omega) (by omega)).trans ((al_ne (by omega) (by omega)).trans (hbr.2.2.2.2.2.2.2.2))))))))) (by omega) (by omega) ?_
  refine sw_p 1 (f' := (83, [some (2, 50), some (0, b), some (0, x), some (0, t), some (2, 100 + b), some (2, 300 + ρ 0 12)], [(2, 50)])) rfl ?_
  refine sw_hA (pn := 86) (i := 2) (v := 53) rfl rfl rfl rfl rfl ((mm_u_ne (by omega)).trans ((mm_u_ne (by omega)).trans ((mm_u_ne (by omega)).trans ((mm_u_ne (by omega)).trans ((al_ne (by omega) (by omega)).trans ((mm_u_ne (by omega)).trans ((al_ne (by omega) (by omega)).trans ((al_ne (by omega) (by omega)).trans (hR.sh.1))))))))) ((mm_u_ne (by omega)).trans ((mm_u_ne (by omega)).trans ((mm_u_ne (by omega)).trans ((mm_u_ne (by omega)).trans ((al_ne (by omega) (by omega)).trans ((mm_u_ne (by omega)).trans ((al_ne (by omega) (by omega)).trans ((al_ne (by omega) (by omega)).trans (hR.sh.2.2.2.1.1))))))))) (by omega) ?_
  refine sw_p 1 (f' := (87, [some (2, 50), some (0, b), some (0, x), some (0, t), some (2, 100 + b), some (2, 300 + ρ 0 12)], [(2, 50), (2, 53)])) rfl ?_
  refine sw_gI (pn := 90) (i := 10) rfl rfl rfl rfl rfl (by omega) ((mm_u_ne (by omega)).trans ((mm_u_ne (by omega)).trans ((mm_u_ne (by omega)).trans ((mm_u_ne (by omega)).trans ((al_ne (by omega) (by omega)).trans ((mm_u_ne (by omega)).trans ((al_ne (by omega) (by omega)).trans ((al_ne (by omega) (by omega)).trans (hR.sh.1))))))))) ?_
  rw [show (mm_u (mm_u (sw_nw (sw_nw (sw_nw ν (300 + ρ 0 12) (mm_z 3)) (340 + ρ 0 12) (fun _ => 0)) (380 + ρ 0 12) (fun _ => -1)) (300 + ρ 0 12) 6 0) (120 + b) x (300 + ρ 0 12)) 50 10 = ρ 0 12 from (mm_u_ne (by omega)).trans ((mm_u_ne (by omega)).trans ((nw_ne (by omega)).trans ((nw_ne (by omega)).trans ((nw_ne (by omega)).trans (hR.z.2.2.1)))))]
  refine sw_p 1 (f' := (92, [some (2, 50), some (0, b), some (0, x), some (0, t), some (2, 100 + b), some (2, 300 + ρ 0 12)], [(2, 300 + ρ 0 12), (0, ρ 0 12), (2, 53)])) rfl ?_
  refine sw_aas (pn := 93) (t := 5) (c := 3) (l := 40) rfl rfl rfl (by decide) (by decide) ((mm_u_ne (by omega)).trans ((mm_u_ne (by omega)).trans ((mm_u_ne (by omega)).trans ((mm_u_ne (by omega)).trans ((al_ne (by omega) (by omega)).trans ((mm_u_ne (by omega)).trans ((al_ne (by omega) (by omega)).trans (al_k (by omega))))))))) (by omega) ((mm_u_ne (by omega)).trans ((mm_u_ne (by omega)).trans ((mm_u_ne (by omega)).trans ((mm_u_ne (by omega)).trans ((al_ne (by omega) (by omega)).trans ((mm_u_ne (by omega)).trans ((al_ne (by omega) (by omega)).trans ((al_ne (by omega) (by omega)).trans (hR.sh.2.2.2.1.2.1))))))))) ((mm_u_ne (by omega)).trans ((mm_u_ne (by omega)).trans ((mm_u_ne (by omega)).trans ((mm_u_ne (by omega)).trans ((al_ne (by omega) (by omega)).trans ((mm_u_ne (by omega)).trans ((al_ne (by omega) (by omega)).trans ((al_ne (by omega) (by omega)).trans (hR.sh.2.2.2.1.2.2))))))))) (by omega) (by omega) ?_
  refine sw_p 2 (f' := (96, [some (2, 50), some (0, b), some (0, x), some (0, t), some (2, 100 + b), some (2, 300 + ρ 0 12)], [(2, 50), (2, 300 + ρ 0 12)])) rfl ?_
  refine sw_gI (pn := 99) (i := 10) rfl rfl rfl rfl rfl (by omega) ((mm_u_ne (by omega)).trans ((mm_u_ne (by omega)).trans ((mm_u_ne (by omega)).trans ((mm_u_ne (by omega)).trans ((al_ne (by omega) (by omega)).trans ((mm_u_ne (by omega)).trans ((al_ne (by omega) (by omega)).trans ((al_ne (by omega) (by omega)).trans (hR.sh.1))))))))) ?_
  rw [show (mm_u (mm_u (mm_u (sw_nw (sw_nw (sw_nw ν (300 + ρ 0 12) (mm_z 3)) (340 + ρ 0 12) (fun _ => 0)) (380 + ρ 0 12) (fun _ => -1)) (300 + ρ 0 12) 6 0) (120 + b) x (300 + ρ 0 12)) 53 (ρ 0 12) (300 + ρ 0 12)) 50 10 = ρ 0 12 from (mm_u_ne (by omega)).trans ((mm_u_ne (by omega)).trans ((mm_u_ne (by omega)).trans ((nw_ne (by omega)).trans ((nw_ne (by omega)).trans ((nw_ne (by omega)).trans (hR.z.2.2.1))))))]
  refine sw_pI (pn := 102) (i := 5) rfl rfl rfl rfl rfl (by omega) ((mm_u_ne (by omega)).trans ((mm_u_ne (by omega)).trans ((mm_u_ne (by omega)).trans ((mm_u_ne (by omega)).trans ((al_ne (by omega) (by omega)).trans ((mm_u_ne (by omega)).trans ((al_ne (by omega) (by omega)).trans (al_k (by omega))))))))) ?_
  refine sw_p 2 (f' := (105, [some (2, 50), some (0, b), some (0, x), some (0, t), some (2, 100 + b), some (2, 300 + ρ 0 12)], [(2, 300 + ρ 0 12), (2, 50)])) rfl ?_
  refine sw_pA (pn := 108) (i := 11) rfl rfl rfl rfl rfl (by omega) ((mm_u_ne (by omega)).trans ((mm_u_ne (by omega)).trans ((mm_u_ne (by omega)).trans ((mm_u_ne (by omega)).trans ((al_ne (by omega) (by omega)).trans ((mm_u_ne (by omega)).trans ((al_ne (by omega) (by omega)).trans ((al_ne (by omega) (by omega)).trans (hR.sh.1))))))))) ?_
  refine sw_p 2 (f' := (110, [some (2, 50), some (0, b), some (0, x), some (0, t), some (2, 100 + b), some (2, 300 + ρ 0 12)], [(0, 0), (2, 50)])) rfl ?_
  refine sw_pZ (pn := 113) (i := 12) rfl rfl rfl rfl rfl (by omega) ((mm_u_ne (by omega)).trans ((mm_u_ne (by omega)).trans ((mm_u_ne (by omega)).trans ((mm_u_ne (by omega)).trans ((al_ne (by omega) (by omega)).trans ((mm_u_ne (by omega)).trans ((al_ne (by omega) (by omega)).trans ((al_ne (by omega) (by omega)).trans (hR.sh.1))))))))) (by omega) ?_
  refine sw_p 2 (f' := (115, [some (2, 50), some (0, b), some (0, x), some (0, t), some (2, 100 + b), some (2, 300 + ρ 0 12)], [(2, 50), (2, 50)])) rfl ?_
  refine sw_gI (pn := 118) (i := 10) rfl rfl rfl rfl rfl (by omega) ((mm_u_ne (by omega)).trans ((mm_u_ne (by omega)).trans ((mm_u_ne (by omega)).trans ((mm_u_ne (by omega)).trans ((al_ne (by omega) (by omega)).trans ((mm_u_ne (by omega)).trans ((al_ne (by omega) (by omega)).trans ((al_ne (by omega) (by omega)).trans (hR.sh.1))))))))) ?_
  rw [show (mm_u (mm_u (mm_u (mm_u (mm_u (mm_u (sw_nw (sw_nw (sw_nw ν (300 + ρ 0 12) (mm_z 3)) (340 + ρ 0 12) (fun _ => 0)) (380 + ρ 0 12) (fun _ => -1)) (300 + ρ 0 12) 6 0) (120 + b) x (300 + ρ 0 12)) 53 (ρ 0 12) (300 + ρ 0 12)) (300 + ρ 0 12) 5 (ρ 0 12)) 50 11 (300 + ρ 0 12)) 50 12 0) 50 10 = ρ 0 12 from (mm_u_ne (by omega)).trans ((mm_u_ne (by omega)).trans ((mm_u_ne (by omega)).trans ((mm_u_ne (by omega)).trans ((mm_u_ne (by omega)).trans ((mm_u_ne (by omega)).trans ((nw_ne (by omega)).trans ((nw_ne (by omega)).trans ((nw_ne (by omega)).trans (hR.z.2.2.1)))))))))]
  refine sw_p 3 (f' := (121, [some (2, 50), some (0, b), some (0, x), some (0, t), some (2, 100 + b), some (2, 300 + ρ 0 12)], [(0, (ρ 0 12) + 1), (2, 50), (0, ρ 0 12)])) rfl ?_
  refine sw_pI (pn := 124) (i := 10) rfl rfl rfl rfl rfl (by omega) ((mm_u_ne (by omega)).trans ((mm_u_ne (by omega)).trans ((mm_u_ne (by omega)).trans ((mm_u_ne (by omega)).trans ((al_ne (by omega) (by omega)).trans ((mm_u_ne (by omega)).trans ((al_ne (by omega) (by omega)).trans ((al_ne (by omega) (by omega)).trans (hR.sh.1))))))))) ?_
  exact sw_retI rfl rfl rfl ⟨_, rfl, rfl, ns_pg hI.1.1, R_pg hI hR hb hx ht h1 h2, un_pg hI.1.1 hu hb h2, lo_pg hI.1.1 hb.1⟩
theorem cl_pg_s1 (hI : iv_I ρ f) (hR : pt_R s ν ρ f) (hb : 0 ≤ b ∧ b < ρ 0 1) (hx : 0 ≤ x ∧ x ≤ 3) (ht : 0 ≤ t ∧ t < ρ 0 8) (h1 : ρ 2 (4 * b + x) ≠ -1) (hd : 5 ≤ d) : sw_w E (d + 2) 69 (0, [some (2, 50), some (0, b), some (0, x), some (0, t), none, none], []) s ν (sw_ex 9 s ν) := by
  have b1 := hI.1.1.1
  have b8 := hI.1.1.2.1
  have b21 := hI.1.1.2.2.2.1
  have b12 := hI.1.1.2.2.1
  have hbr := hR.br b hb.1 hb.2
  refine sw_p 2 (f' := (2, [some (2, 50), some (0, b), some (0, x), some (0, t), none, none], [(0, b), (2, 50)])) rfl ?_
  refine sw_cv1 (pn := 5) (q0 := mj_PT_plug) (q := mj_PT_bridgeNumbered) (p := 50) (as2 := [(0, b)]) (L2 := [some (2, 50), some (0, b)]) (rest := []) (v := some (2, 100 + b)) (s1 := s) (ν1 := ν) rfl rfl rfl rfl rfl rfl rfl rfl rfl (hR.sh.1) (cl_bN1 hI.1 hR hb) ?_
  show sw_w E _ 69 (5, [some (2, 50), some (0, b), some (0, x), some (0, t), none, none], [(2, 100 + b)]) s ν _
  refine sw_p 2 (f' := (8, [some (2, 50), some (0, b), some (0, x), some (0, t), some (2, 100 + b), none], [(0, x)])) rfl ?_
  refine sw_cs1 (pn := 11) (q0 := mj_PT_plug) (q := mj_PT_requireSlot) (L2 := [some (0, x)]) (rest := []) (v := none) (s1 := s) (ν1 := ν) rfl rfl rfl rfl rfl rfl rfl rfl (cl_rS1 hx) ?_
  show sw_w E _ 69 (11, [some (2, 50), some (0, b), some (0, x), some (0, t), some (2, 100 + b), none], []) s ν _
  refine sw_p 3 (f' := (14, [some (2, 50), some (0, b), some (0, x), some (0, t), some (2, 100 + b), none], [(2, 50), (0, 0), (0, t)])) rfl ?_
  refine sw_gI (pn := 17) (i := 9) rfl rfl rfl rfl rfl (by omega) (hR.sh.1) ?_
  rw [show ν 50 9 = ρ 0 8 from hR.z.2.1]
  refine sw_p 2 (f' := (19, [some (2, 50), some (0, b), some (0, x), some (0, t), some (2, 100 + b), none], [(0, (ρ 0 8) - 1), (0, 0), (0, t)])) rfl ?_
  refine sw_cs1 (pn := 22) (q0 := mj_PT_plug) (q := mj_PT_requireWithin) (L2 := [some (0, t), some (0, 0), some (0, (ρ 0 8) - 1)]) (rest := []) (v := none) (s1 := s) (ν1 := ν) rfl rfl rfl rfl rfl rfl rfl rfl (pt_rw1 (by omega) (by omega) (by omega) (by omega)) ?_
  show sw_w E _ 69 (22, [some (2, 50), some (0, b), some (0, x), some (0, t), some (2, 100 + b), none], []) s ν _
  refine sw_p 2 (f' := (25, [some (2, 50), some (0, b), some (0, x), some (0, t), some (2, 100 + b), none], [(0, x), (2, 100 + b)])) rfl ?_
  refine sw_cv1 (pn := 28) (q0 := mj_PT_plug) (q := mj_Br_isSlotEmpty) (p := 100 + b) (as2 := [(0, x)]) (L2 := [some (2, 100 + b), some (0, x)]) (rest := []) (v := some (0, 0)) (s1 := s) (ν1 := ν) rfl rfl rfl rfl rfl rfl rfl rfl rfl (hbr.1) (by have h := cl_se (E := E) (d := d + 1) hI.1 hR hb (i := x) (by omega); rw [if_neg h1] at h; exact h) ?_
  show sw_w E _ 69 (28, [some (2, 50), some (0, b), some (0, x), some (0, t), some (2, 100 + b), none], [(0, 0)]) s ν _
  refine sw_eq1 (pt := 47) (pn := 31) rfl rfl rfl (by omega) (fun _ => ?_) (fun h => absurd h (by decide))
  exact sw_thr rfl rfl rfl rfl rfl (by omega) ⟨rfl, rfl, rfl⟩
theorem cl_pg_s2 (hI : iv_I ρ f) (hR : pt_R s ν ρ f) (hb : 0 ≤ b ∧ b < ρ 0 1) (hx : 0 ≤ x ∧ x ≤ 3) (ht : 0 ≤ t ∧ t < ρ 0 8) (h1 : ρ 2 (4 * b + x) = -1) (h2 : ρ 0 12 = 40) (hd : 5 ≤ d) : sw_w E (d + 2) 69 (0, [some (2, 50), some (0, b), some (0, x), some (0, t), none, none], []) s ν (sw_ex 9 s ν) := by
  have b1 := hI.1.1.1
  have b8 := hI.1.1.2.1
  have b21 := hI.1.1.2.2.2.1
  have b12 := hI.1.1.2.2.1
  have hbr := hR.br b hb.1 hb.2
  refine sw_p 2 (f' := (2, [some (2, 50), some (0, b), some (0, x), some (0, t), none, none], [(0, b), (2, 50)])) rfl ?_
  refine sw_cv1 (pn := 5) (q0 := mj_PT_plug) (q := mj_PT_bridgeNumbered) (p := 50) (as2 := [(0, b)]) (L2 := [some (2, 50), some (0, b)]) (rest := []) (v := some (2, 100 + b)) (s1 := s) (ν1 := ν) rfl rfl rfl rfl rfl rfl rfl rfl rfl (hR.sh.1) (cl_bN1 hI.1 hR hb) ?_
  show sw_w E _ 69 (5, [some (2, 50), some (0, b), some (0, x), some (0, t), none, none], [(2, 100 + b)]) s ν _
  refine sw_p 2 (f' := (8, [some (2, 50), some (0, b), some (0, x), some (0, t), some (2, 100 + b), none], [(0, x)])) rfl ?_
  refine sw_cs1 (pn := 11) (q0 := mj_PT_plug) (q := mj_PT_requireSlot) (L2 := [some (0, x)]) (rest := []) (v := none) (s1 := s) (ν1 := ν) rfl rfl rfl rfl rfl rfl rfl rfl (cl_rS1 hx) ?_
  show sw_w E _ 69 (11, [some (2, 50), some (0, b), some (0, x), some (0, t), some (2, 100 + b), none], []) s ν _
  refine sw_p 3 (f' := (14, [some (2, 50), some (0, b), some (0, x), some (0, t), some (2, 100 + b), none], [(2, 50), (0, 0), (0, t)])) rfl ?_
  refine sw_gI (pn := 17) (i := 9) rfl rfl rfl rfl rfl (by omega) (hR.sh.1) ?_
  rw [show ν 50 9 = ρ 0 8 from hR.z.2.1]
  refine sw_p 2 (f' := (19, [some (2, 50), some (0, b), some (0, x), some (0, t), some (2, 100 + b), none], [(0, (ρ 0 8) - 1), (0, 0), (0, t)])) rfl ?_
  refine sw_cs1 (pn := 22) (q0 := mj_PT_plug) (q := mj_PT_requireWithin) (L2 := [some (0, t), some (0, 0), some (0, (ρ 0 8) - 1)]) (rest := []) (v := none) (s1 := s) (ν1 := ν) rfl rfl rfl rfl rfl rfl rfl rfl (pt_rw1 (by omega) (by omega) (by omega) (by omega)) ?_
  show sw_w E _ 69 (22, [some (2, 50), some (0, b), some (0, x), some (0, t), some (2, 100 + b), none], []) s ν _
  refine sw_p 2 (f' := (25, [some (2, 50), some (0, b), some (0, x), some (0, t), some (2, 100 + b), none], [(0, x), (2, 100 + b)])) rfl ?_
  refine sw_cv1 (pn := 28) (q0 := mj_PT_plug) (q := mj_Br_isSlotEmpty) (p := 100 + b) (as2 := [(0, x)]) (L2 := [some (2, 100 + b), some (0, x)]) (rest := []) (v := some (0, 1)) (s1 := s) (ν1 := ν) rfl rfl rfl rfl rfl rfl rfl rfl rfl (hbr.1) (by have h := cl_se (E := E) (d := d + 1) hI.1 hR hb (i := x) (by omega); rw [if_pos h1] at h; exact h) ?_
  show sw_w E _ 69 (28, [some (2, 50), some (0, b), some (0, x), some (0, t), some (2, 100 + b), none], [(0, 1)]) s ν _
  refine sw_eq1 (pt := 47) (pn := 31) rfl rfl rfl (by omega) (fun h => absurd h (by decide)) (fun _ => ?_)
  refine sw_p 1 (f' := (32, [some (2, 50), some (0, b), some (0, x), some (0, t), some (2, 100 + b), none], [(2, 50)])) rfl ?_
  refine sw_gI (pn := 35) (i := 10) rfl rfl rfl rfl rfl (by omega) (hR.sh.1) ?_
  rw [show ν 50 10 = ρ 0 12 from hR.z.2.2.1]
  refine sw_p 1 (f' := (37, [some (2, 50), some (0, b), some (0, x), some (0, t), some (2, 100 + b), none], [(0, 40), (0, ρ 0 12)])) rfl ?_
  refine sw_eq2 (pt := 47) (pn := 40) rfl rfl rfl (by omega) (by omega) (fun h2 => ?_) (fun h => absurd h (by omega))
  exact sw_thr rfl rfl rfl rfl rfl (by omega) ⟨rfl, rfl, rfl⟩
theorem cl_pg_s3 (hI : iv_I ρ f) (hR : pt_R s ν ρ f) (hb : 0 ≤ b ∧ b < ρ 0 1) (hx : 0 ≤ x ∧ x ≤ 3) (ht : 0 ≤ t ∧ t < ρ 0 8) (h1 : ρ 2 (4 * b + x) = -1) (h2 : ρ 0 12 ≠ 40) (h4 : 0 ≤ ρ 0 21) (hd : 5 ≤ d) : sw_w E (d + 2) 69 (0, [some (2, 50), some (0, b), some (0, x), some (0, t), none, none], []) s ν (sw_ex 9 s ν) := by
  have b1 := hI.1.1.1
  have b8 := hI.1.1.2.1
  have b21 := hI.1.1.2.2.2.1
  have b12 := hI.1.1.2.2.1
  have hbr := hR.br b hb.1 hb.2
  refine sw_p 2 (f' := (2, [some (2, 50), some (0, b), some (0, x), some (0, t), none, none], [(0, b), (2, 50)])) rfl ?_
  refine sw_cv1 (pn := 5) (q0 := mj_PT_plug) (q := mj_PT_bridgeNumbered) (p := 50) (as2 := [(0, b)]) (L2 := [some (2, 50), some (0, b)]) (rest := []) (v := some (2, 100 + b)) (s1 := s) (ν1 := ν) rfl rfl rfl rfl rfl rfl rfl rfl rfl (hR.sh.1) (cl_bN1 hI.1 hR hb) ?_
  show sw_w E _ 69 (5, [some (2, 50), some (0, b), some (0, x), some (0, t), none, none], [(2, 100 + b)]) s ν _
  refine sw_p 2 (f' := (8, [some (2, 50), some (0, b), some (0, x), some (0, t), some (2, 100 + b), none], [(0, x)])) rfl ?_
  refine sw_cs1 (pn := 11) (q0 := mj_PT_plug) (q := mj_PT_requireSlot) (L2 := [some (0, x)]) (rest := []) (v := none) (s1 := s) (ν1 := ν) rfl rfl rfl rfl rfl rfl rfl rfl (cl_rS1 hx) ?_
  show sw_w E _ 69 (11, [some (2, 50), some (0, b), some (0, x), some (0, t), some (2, 100 + b), none], []) s ν _
  refine sw_p 3 (f' := (14, [some (2, 50), some (0, b), some (0, x), some (0, t), some (2, 100 + b), none], [(2, 50), (0, 0), (0, t)])) rfl ?_
  refine sw_gI (pn := 17) (i := 9) rfl rfl rfl rfl rfl (by omega) (hR.sh.1) ?_
  rw [show ν 50 9 = ρ 0 8 from hR.z.2.1]
  refine sw_p 2 (f' := (19, [some (2, 50), some (0, b), some (0, x), some (0, t), some (2, 100 + b), none], [(0, (ρ 0 8) - 1), (0, 0), (0, t)])) rfl ?_
  refine sw_cs1 (pn := 22) (q0 := mj_PT_plug) (q := mj_PT_requireWithin) (L2 := [some (0, t), some (0, 0), some (0, (ρ 0 8) - 1)]) (rest := []) (v := none) (s1 := s) (ν1 := ν) rfl rfl rfl rfl rfl rfl rfl rfl (pt_rw1 (by omega) (by omega) (by omega) (by omega)) ?_
  show sw_w E _ 69 (22, [some (2, 50), some (0, b), some (0, x), some (0, t), some (2, 100 + b), none], []) s ν _
  refine sw_p 2 (f' := (25, [some (2, 50), some (0, b), some (0, x), some (0, t), some (2, 100 + b), none], [(0, x), (2, 100 + b)])) rfl ?_
  refine sw_cv1 (pn := 28) (q0 := mj_PT_plug) (q := mj_Br_isSlotEmpty) (p := 100 + b) (as2 := [(0, x)]) (L2 := [some (2, 100 + b), some (0, x)]) (rest := []) (v := some (0, 1)) (s1 := s) (ν1 := ν) rfl rfl rfl rfl rfl rfl rfl rfl rfl (hbr.1) (by have h := cl_se (E := E) (d := d + 1) hI.1 hR hb (i := x) (by omega); rw [if_pos h1] at h; exact h) ?_
  show sw_w E _ 69 (28, [some (2, 50), some (0, b), some (0, x), some (0, t), some (2, 100 + b), none], [(0, 1)]) s ν _
  refine sw_eq1 (pt := 47) (pn := 31) rfl rfl rfl (by omega) (fun h => absurd h (by decide)) (fun _ => ?_)
  refine sw_p 1 (f' := (32, [some (2, 50), some (0, b), some (0, x), some (0, t), some (2, 100 + b), none], [(2, 50)])) rfl ?_
  refine sw_gI (pn := 35) (i := 10) rfl rfl rfl rfl rfl (by omega) (hR.sh.1) ?_
  rw [show ν 50 10 = ρ 0 12 from hR.z.2.2.1]
  refine sw_p 1 (f' := (37, [some (2, 50), some (0, b), some (0, x), some (0, t), some (2, 100 + b), none], [(0, 40), (0, ρ 0 12)])) rfl ?_
  refine sw_eq2 (pt := 47) (pn := 40) rfl rfl rfl (by omega) (by omega) (fun h => absurd h (by omega)) (fun h2 => ?_)
  refine sw_p 1 (f' := (41, [some (2, 50), some (0, b), some (0, x), some (0, t), some (2, 100 + b), none], [(2, 50)])) rfl ?_
  refine sw_gA (pn := 44) (i := 11) rfl rfl rfl rfl rfl (by omega) (hR.sh.1) (fun _ => ?_) (fun h => absurd h (by rw [show ν 50 11 = 300 + ρ 0 21 from ((hR.z.2.2.2.1).trans (if_neg (by omega)))]; omega))
  rw [show ν 50 11 = 300 + ρ 0 21 from ((hR.z.2.2.2.1).trans (if_neg (by omega)))]
  refine sw_p 1 (f' := (47, [some (2, 50), some (0, b), some (0, x), some (0, t), some (2, 100 + b), none], [])) rfl ?_
  exact sw_thr rfl rfl rfl rfl rfl (by omega) ⟨rfl, rfl, rfl⟩
theorem cl_pg_b1 (hI : iv_I ρ f) (hR : pt_R s ν ρ f) (hb : -2147483648 ≤ b ∧ b < 2147483648) (h0 : ¬ (0 ≤ b ∧ b < ρ 0 1)) (hd : 5 ≤ d) : sw_w E (d + 2) 69 (0, [some (2, 50), some (0, b), some (0, x), some (0, t), none, none], []) s ν (sw_ex 8 s ν) := by
  have b1 := hI.1.1.1
  refine sw_p 2 (f' := (2, [some (2, 50), some (0, b), some (0, x), some (0, t), none, none], [(0, b), (2, 50)])) rfl ?_
  exact sw_cv (pn := 5) (q0 := mj_PT_plug) (q := mj_PT_bridgeNumbered) (p := 50) (as2 := [(0, b)]) (L2 := [some (2, 50), some (0, b)]) (rest := []) (Q2 := (sw_ex 8 s ν)) rfl rfl rfl rfl rfl rfl rfl rfl rfl (hR.sh.1) (cl_bN0 hI.1 hR hb hd h0) (fun _ _ _ h => nomatch h.1) (fun _ _ _ h => h)
theorem cl_pg_b2 (hI : iv_I ρ f) (hR : pt_R s ν ρ f) (hb : 0 ≤ b ∧ b < ρ 0 1) (hx : -2147483648 ≤ x ∧ x < 2147483648) (h0 : ¬ (0 ≤ x ∧ x ≤ 3)) (hd : 5 ≤ d) : sw_w E (d + 2) 69 (0, [some (2, 50), some (0, b), some (0, x), some (0, t), none, none], []) s ν (sw_ex 8 s ν) := by
  have b1 := hI.1.1.1
  have b8 := hI.1.1.2.1
  have b21 := hI.1.1.2.2.2.1
  have b12 := hI.1.1.2.2.1
  have hbr := hR.br b hb.1 hb.2
  refine sw_p 2 (f' := (2, [some (2, 50), some (0, b), some (0, x), some (0, t), none, none], [(0, b), (2, 50)])) rfl ?_
  refine sw_cv1 (pn := 5) (q0 := mj_PT_plug) (q := mj_PT_bridgeNumbered) (p := 50) (as2 := [(0, b)]) (L2 := [some (2, 50), some (0, b)]) (rest := []) (v := some (2, 100 + b)) (s1 := s) (ν1 := ν) rfl rfl rfl rfl rfl rfl rfl rfl rfl (hR.sh.1) (cl_bN1 hI.1 hR hb) ?_
  show sw_w E _ 69 (5, [some (2, 50), some (0, b), some (0, x), some (0, t), none, none], [(2, 100 + b)]) s ν _
  refine sw_p 2 (f' := (8, [some (2, 50), some (0, b), some (0, x), some (0, t), some (2, 100 + b), none], [(0, x)])) rfl ?_
  exact sw_cs (pn := 11) (q0 := mj_PT_plug) (q := mj_PT_requireSlot) (L2 := [some (0, x)]) (rest := []) (Q2 := (sw_ex 8 s ν)) rfl rfl rfl rfl rfl rfl rfl rfl (cl_rS0 hx hd h0) (fun _ _ _ h => nomatch h.1) (fun _ _ _ h => h)
theorem cl_pg_b3 (hI : iv_I ρ f) (hR : pt_R s ν ρ f) (hb : 0 ≤ b ∧ b < ρ 0 1) (hx : 0 ≤ x ∧ x ≤ 3) (ht : -2147483648 ≤ t ∧ t < 2147483648) (h0 : ¬ (0 ≤ t ∧ t < ρ 0 8)) (hd : 5 ≤ d) : sw_w E (d + 2) 69 (0, [some (2, 50), some (0, b), some (0, x), some (0, t), none, none], []) s ν (sw_ex 8 s ν) := by
  have b1 := hI.1.1.1
  have b8 := hI.1.1.2.1
  have b21 := hI.1.1.2.2.2.1
  have b12 := hI.1.1.2.2.1
  have hbr := hR.br b hb.1 hb.2
  refine sw_p 2 (f' := (2, [some (2, 50), some (0, b), some (0, x), some (0, t), none, none], [(0, b), (2, 50)])) rfl ?_
  refine sw_cv1 (pn := 5) (q0 := mj_PT_plug) (q := mj_PT_bridgeNumbered) (p := 50) (as2 := [(0, b)]) (L2 := [some (2, 50), some (0, b)]) (rest := []) (v := some (2, 100 + b)) (s1 := s) (ν1 := ν) rfl rfl rfl rfl rfl rfl rfl rfl rfl (hR.sh.1) (cl_bN1 hI.1 hR hb) ?_
  show sw_w E _ 69 (5, [some (2, 50), some (0, b), some (0, x), some (0, t), none, none], [(2, 100 + b)]) s ν _
  refine sw_p 2 (f' := (8, [some (2, 50), some (0, b), some (0, x), some (0, t), some (2, 100 + b), none], [(0, x)])) rfl ?_
  refine sw_cs1 (pn := 11) (q0 := mj_PT_plug) (q := mj_PT_requireSlot) (L2 := [some (0, x)]) (rest := []) (v := none) (s1 := s) (ν1 := ν) rfl rfl rfl rfl rfl rfl rfl rfl (cl_rS1 hx) ?_
  show sw_w E _ 69 (11, [some (2, 50), some (0, b), some (0, x), some (0, t), some (2, 100 + b), none], []) s ν _
  refine sw_p 3 (f' := (14, [some (2, 50), some (0, b), some (0, x), some (0, t), some (2, 100 + b), none], [(2, 50), (0, 0), (0, t)])) rfl ?_
  refine sw_gI (pn := 17) (i := 9) rfl rfl rfl rfl rfl (by omega) (hR.sh.1) ?_
  rw [show ν 50 9 = ρ 0 8 from hR.z.2.1]
  refine sw_p 2 (f' := (19, [some (2, 50), some (0, b), some (0, x), some (0, t), some (2, 100 + b), none], [(0, (ρ 0 8) - 1), (0, 0), (0, t)])) rfl ?_
  exact sw_cs (pn := 22) (q0 := mj_PT_plug) (q := mj_PT_requireWithin) (L2 := [some (0, t), some (0, 0), some (0, (ρ 0 8) - 1)]) (rest := []) (Q2 := (sw_ex 8 s ν)) rfl rfl rfl rfl rfl rfl rfl rfl (pt_rwx (by omega) (by omega) (by omega) (by omega) (by omega)) (fun _ _ _ h => nomatch h.1) (fun _ _ _ h => h)
end PG1
