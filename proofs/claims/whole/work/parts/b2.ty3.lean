/-! the class: type -/
def ct_s (s : mm_T) (n w v : Int) : mm_T := ty_s (nm_al s (200 + n) 102 0 4 (mm_z 2)) (200 + n) (220 + n) (240 + n) w v
def ct_n (ν : mm_T) (n x y z : Int) : mm_T := mm_u (mm_u (ty_n (sw_nw ν (200 + n) (mm_z 2)) (220 + n) (240 + n) x y z) 52 n (200 + n)) 50 9 (n + 1)
section TY3
variable {E : mv_E} {s ν ρ : mm_T} {f : Int → Int} {d : Nat} {a b c e i k l n o p q r t u v w x y z sz : Int} {Q : nm_O → mm_T → mm_T → Prop}
theorem cts_f (h0 : 0 ≤ p) (h1 : p ≠ 200 + n ∧ p ≠ 220 + n ∧ p ≠ 240 + n) : ct_s s n w v p i = s p i := by
  unfold ct_s ty_s
  rw [mm_u_ne (by omega), mm_u_ne (by omega), mm_u_ne (by omega), al_ne (by omega) (by omega), mm_u_ne (by omega), al_ne (by omega) (by omega), al_ne (by omega) (by omega)]
theorem cts_v (hn : 0 ≤ n) (hn2 : n < 16) : ct_s s n w v (200 + n) (-1) = 102 ∧ (ct_s s n w v (200 + n) 0 = 220 + n ∧ ct_s s n w v (220 + n) (-1) = 0 ∧ ct_s s n w v (220 + n) (-2) = 3) ∧ (ct_s s n w v (200 + n) 1 = 240 + n ∧ ct_s s n w v (240 + n) (-1) = 0 ∧ ct_s s n w v (240 + n) (-2) = 3) ∧ ct_s s n w v (200 + n) 2 = w ∧ ct_s s n w v (200 + n) 3 = v := by
  unfold ct_s ty_s
  refine ⟨?_, ⟨?_, ?_, ?_⟩, ⟨?_, ?_, ?_⟩, ?_, ?_⟩
  · rw [mm_u_ne (by omega), mm_u_ne (by omega), mm_u_ne (by omega), al_ne (by omega) (by omega), mm_u_ne (by omega), al_ne (by omega) (by omega), al_k (by omega)]
  · rw [mm_u_ne (by omega), mm_u_ne (by omega), mm_u_ne (by omega), al_ne (by omega) (by omega), mm_u_at]
  · rw [mm_u_ne (by omega), mm_u_ne (by omega), mm_u_ne (by omega), al_ne (by omega) (by omega), mm_u_ne (by omega), al_k (by omega)]
  · rw [mm_u_ne (by omega), mm_u_ne (by omega), mm_u_ne (by omega), al_ne (by omega) (by omega), mm_u_ne (by omega), al_l (by omega)]
  · rw [mm_u_ne (by omega), mm_u_ne (by omega), mm_u_at]
  · rw [mm_u_ne (by omega), mm_u_ne (by omega), mm_u_ne (by omega), al_k (by omega)]
  · rw [mm_u_ne (by omega), mm_u_ne (by omega), mm_u_ne (by omega), al_l (by omega)]
  · rw [mm_u_ne (by omega), mm_u_at]
  · rw [mm_u_at]
theorem cts_c (hn : 0 ≤ n) : ct_s s n w v (-1) 0 = s (-1) 0 + 1 + 1 + 1 ∧ ct_s s n w v (-1) 1 = s (-1) 1 + 4 + 3 + 3 := by
  unfold ct_s ty_s
  constructor
  · rw [mm_u_ne (by omega), mm_u_ne (by omega), mm_u_ne (by omega), al_c0, mm_u_ne (by omega), al_c0, al_c0]
  · rw [mm_u_ne (by omega), mm_u_ne (by omega), mm_u_ne (by omega), al_c1, mm_u_ne (by omega), al_c1, al_c1]
theorem ctn_f (h1 : p ≠ 200 + n ∧ p ≠ 220 + n ∧ p ≠ 240 + n) (h2 : ¬ (p = 52 ∧ i = n)) (h3 : ¬ (p = 50 ∧ i = 9)) : ct_n ν n x y z p i = ν p i := by
  unfold ct_n ty_n ty_n3
  rw [mm_u_ne (by omega), mm_u_ne (by omega), mm_u_ne (by omega), mm_u_ne (by omega), mm_u_ne (by omega), mm_u_ne (by omega), mm_u_ne (by omega), mm_u_ne (by omega), nw_ne (by omega), nw_ne (by omega), nw_ne (by omega)]
theorem ctn_z (hn : 0 ≤ n) : ct_n ν n x y z 50 9 = n + 1 ∧ ct_n ν n x y z 52 n = 200 + n := by
  unfold ct_n
  exact ⟨mm_u_at, by rw [mm_u_ne (by omega), mm_u_at]⟩
theorem ctn_g (hn : 0 ≤ n) (hk : 0 ≤ k ∧ k < 3) : ct_n ν n x y z (220 + n) k = ty_g x y z k ∧ ct_n ν n x y z (240 + n) k = od_k (ty_g x y z) k := by
  unfold ct_n ty_n
  constructor
  · rw [mm_u_ne (by omega), mm_u_ne (by omega), mm_u_ne (by omega), mm_u_ne (by omega), mm_u_ne (by omega)]
    unfold ty_n3 ty_g
    by_cases h2 : k = 2
    · rw [h2, mm_u_at, if_neg (by omega), if_neg (by omega)]
    · rw [mm_u_ne (by omega)]
      by_cases h1 : k = 1
      · rw [h1, mm_u_at, if_neg (by omega), if_pos rfl]
      · rw [mm_u_ne (by omega), show k = 0 by omega, mm_u_at, if_pos rfl]
  · rw [mm_u_ne (by omega), mm_u_ne (by omega)]
    unfold od_k
    by_cases h2 : od_r (ty_g x y z) 2 = k
    · rw [if_pos h2, h2, mm_u_at]
    · rw [if_neg h2, mm_u_ne (by omega)]
      by_cases h1 : od_r (ty_g x y z) 1 = k
      · rw [if_pos h1, h1, mm_u_at]
      · rw [if_neg h1, mm_u_ne (by omega)]
        by_cases h0 : od_r (ty_g x y z) 0 = k
        · rw [h0, mm_u_at]
        · rw [mm_u_ne (by omega)]
          unfold ty_n3
          rw [mm_u_ne (by omega), mm_u_ne (by omega), mm_u_ne (by omega)]
          exact nw_af
theorem R_ty (hI : iv_I ρ f) (hR : pt_R s ν ρ f) (h16 : ρ 0 8 ≠ 16) : pt_R (ct_s s (ρ 0 8) w v) (ct_n ν (ρ 0 8) (mo_e x) (mo_e y) (mo_e z)) (mo_ty ρ x y z w v) f := by
  have hA := hI.1
  have b1 := hA.1.1
  have b8 := hA.1.2.1
  have b12 := hA.1.2.2.1
  have b24 := hA.1.2.2.2.2.2.1
  have hR' : pt_R (ct_s s (ρ 0 8) w v) ν ρ f := R_s hA.1 (fun p i hp => by unfold us_d at hp; exact cts_f (by omega) (by omega)) hR
  have sv := cts_v (s := s) (w := w) (v := v) b8.1 (by omega)
  have nz := ctn_z (ν := ν) (x := mo_e x) (y := mo_e y) (z := mo_e z) b8.1
  have ng := fun k hk => ctn_g (ν := ν) (x := mo_e x) (y := mo_e y) (z := mo_e z) b8.1 (k := k) hk
  have nf : ∀ p i, (p ≠ 200 + ρ 0 8 ∧ p ≠ 220 + ρ 0 8 ∧ p ≠ 240 + ρ 0 8) → ¬ (p = 52 ∧ i = ρ 0 8) → ¬ (p = 50 ∧ i = 9) → ct_n ν (ρ 0 8) (mo_e x) (mo_e y) (mo_e z) p i = ν p i := fun p i h1 h2 h3 => ctn_f h1 h2 h3
  have e0 : ∀ i, i ≠ 0 → i ≠ 8 → mo_ty ρ x y z w v 0 i = ρ 0 i := fun i h1 h2 => ty_0 ⟨h1, h2⟩
  have e8 : mo_ty ρ x y z w v 0 8 = ρ 0 8 + 1 := ty_8
  have er : ∀ p, p ≠ 0 → p ≠ 9 → p ≠ 10 → p ≠ 11 → mo_ty ρ x y z w v p = ρ p := fun p h1 h2 h3 h4 => ty_p ⟨h1, h2, h3, h4⟩
  have e9 : ∀ i, i < 3 * ρ 0 8 → mo_ty ρ x y z w v 9 i = ρ 9 i := fun i hi => by rw [ty_9, if_neg (by omega), if_neg (by omega), if_neg (by omega)]
  have e9n : ∀ k, 0 ≤ k → k < 3 → mo_ty ρ x y z w v 9 (3 * ρ 0 8 + k) = ty_g (mo_e x) (mo_e y) (mo_e z) k := fun k k0 k1 => by
    rw [ty_9]
    unfold ty_g
    by_cases h2 : k = 2
    · rw [if_pos (by omega), if_neg (by omega), if_neg (by omega)]
    · rw [if_neg (by omega)]
      by_cases h1 : k = 1
      · rw [if_pos (by omega), if_neg (by omega), if_pos h1]
      · rw [if_neg (by omega), if_pos (by omega), if_pos (by omega)]
  have e10 : ∀ i, mo_ty ρ x y z w v 10 i = if i = ρ 0 8 then w else ρ 10 i := fun i => ty_10
  have e11 : ∀ i, mo_ty ρ x y z w v 11 i = if i = ρ 0 8 then v else ρ 11 i := fun i => ty_11
  generalize mo_ty ρ x y z w v = ρ' at *
  generalize ct_n ν (ρ 0 8) (mo_e x) (mo_e y) (mo_e z) = ν' at *
  generalize ct_s s (ρ 0 8) w v = s' at *
  have q1 := e0 1 (by omega) (by omega)
  have q12 := e0 12 (by omega) (by omega)
  have q24 := e0 24 (by omega) (by omega)
  have r2 := er 2 (by omega) (by omega) (by omega) (by omega)
  have r13 := er 13 (by omega) (by omega) (by omega) (by omega)
  have r14 := er 14 (by omega) (by omega) (by omega) (by omega)
  have r15 := er 15 (by omega) (by omega) (by omega) (by omega)
  have r17 := er 17 (by omega) (by omega) (by omega) (by omega)
  have ew : ∀ c2, mo_wt ρ' c2 = mo_wt ρ c2 := fun c2 => mo_wt_c q24 (er 25 (by omega) (by omega) (by omega) (by omega)) (er 28 (by omega) (by omega) (by omega) (by omega)) c2
  refine ⟨hR'.sh, ?_, ?_, ?_, ?_, ?_, ?_, ?_, ?_, ?_, ?_, ?_, ?_, ?_⟩
  · exact pt_Br_c hR'.br q1 (fun b _ _ => by rw [er 3 (by omega) (by omega) (by omega) (by omega)]) (fun b _ _ => by rw [er 4 (by omega) (by omega) (by omega) (by omega)])
  · exact pt_Bn_c hR.bn q1 (fun b h1 h2 => ⟨nf _ _ (by omega) (by omega) (by omega), nf _ _ (by omega) (by omega) (by omega), nf _ _ (by omega) (by omega) (by omega), by rw [er 5 (by omega) (by omega) (by omega) (by omega)], by rw [er 6 (by omega) (by omega) (by omega) (by omega)]⟩)
  · exact pt_Sl_c hR.sl q1 (fun b i h1 h2 h3 h4 => ⟨nf _ _ (by omega) (by omega) (by omega), nf _ _ (by omega) (by omega) (by omega), by rw [r2]⟩)
  · intro t t0 t1
    rw [e8] at t1
    rw [e10, e11]
    by_cases ht : t = ρ 0 8
    · rw [if_pos ht, if_pos ht, ht]
      exact sv
    · rw [if_neg ht, if_neg ht]
      exact hR'.ty t t0 (by omega)
  · intro t t0 t1
    rw [e8] at t1
    by_cases ht : t = ρ 0 8
    · rw [ht]
      refine ⟨nz.2, fun k k0 k1 => ?_⟩
      rw [e9n k k0 k1, (ng k ⟨k0, k1⟩).1, (ng k ⟨k0, k1⟩).2]
      refine ⟨rfl, od_kc ?_ ?_ ?_⟩
      · exact (e9n 0 (by omega) (by omega)).symm
      · exact (e9n 1 (by omega) (by omega)).symm
      · exact (e9n 2 (by omega) (by omega)).symm
    · obtain ⟨g1, g2⟩ := hR.tn t t0 (by omega)
      rw [nf 52 t (by omega) (by omega) (by omega)]
      refine ⟨g1, fun k k0 k1 => ?_⟩
      rw [nf (220 + t) k (by omega) (by omega) (by omega), nf (240 + t) k (by omega) (by omega) (by omega), e9 _ (by omega), od_kc (g := fun k => ρ' 9 (3 * t + k)) (g' := fun k => ρ 9 (3 * t + k)) (e9 _ (by omega)) (e9 _ (by omega)) (e9 _ (by omega))]
      exact g2 k k0 k1
  · exact pt_Ca_c hR'.ca q12 (fun c2 _ _ => ⟨by rw [r14], by rw [r13]⟩)
  · refine pt_Cn_c hR.cn q12 (fun c2 h1 h2 h3 => ?_)
    unfold pt_Cf at h3 ⊢
    rw [nf 53 c2 (by omega) (by omega) (by omega), nf (300 + c2) 5 (by omega) (by omega) (by omega), nf (300 + c2) 6 (by omega) (by omega) (by omega), nf (300 + c2) 7 (by omega) (by omega) (by omega), nf (300 + c2) 8 (by omega) (by omega) (by omega), nf (300 + c2) 9 (by omega) (by omega) (by omega), nf (300 + c2) 10 (by omega) (by omega) (by omega), r15, er 16 (by omega) (by omega) (by omega) (by omega), er 19 (by omega) (by omega) (by omega) (by omega), er 20 (by omega) (by omega) (by omega) (by omega), ew]
    exact h3
  · intro c2 k h1 h2 h3 h4
    rw [q12] at h2
    have hK := hA.2.2.2.2.2.1 c2 h1 h2
    rw [nf (340 + c2) k (by omega) (by omega) (by omega), r13, r15, r17, e9 _ (by omega)]
    exact hR.cr c2 k h1 h2 h3 h4
  · exact pt_Cs_c hR'.cs q12 (fun c2 h1 h2 h3 => by rw [r15] at h3; exact ⟨h3, by rw [r14], fun h4 => by rw [r2]; exact h4⟩)
  · intro c2 i h1 h2 h3 h4
    rw [q12] at h2
    rw [ew] at h4
    rw [q24, nf (380 + c2) i (by omega) (by omega) (by omega), mo_pd_c (er 25 (by omega) (by omega) (by omega) (by omega)) (er 28 (by omega) (by omega) (by omega) (by omega))]
    exact hR.q c2 i h1 h2 h3 h4
  · have hq := pt_Rq_c (ν := ν) (ν' := ν') hR'.rq q24 (fun t h1 h2 => ⟨by rw [er 26 (by omega) (by omega) (by omega) (by omega)], by rw [er 27 (by omega) (by omega) (by omega) (by omega)], fun h => by rw [nf _ _ (by omega) (by omega) (by omega), er 28 (by omega) (by omega) (by omega) (by omega)]; exact h⟩)
    exact hq
  · exact pt_L_c hR'.li hA.1 q24 (nf _ _ (by omega) (by omega) (by omega)) (nf _ _ (by omega) (by omega) (by omega)) (fun p t hp => nf _ _ (by omega) (by omega) (by omega))
  · obtain ⟨g1, g2, g3, g4, g5, g6⟩ := hR.z
    unfold pt_Z
    rw [nf 50 8 (by omega) (by omega) (by omega), nf 50 10 (by omega) (by omega) (by omega), nf 50 11 (by omega) (by omega) (by omega), nf 50 12 (by omega) (by omega) (by omega), nf 50 13 (by omega) (by omega) (by omega), q1, e8, q12, e0 21 (by omega) (by omega), e0 22 (by omega) (by omega), e0 23 (by omega) (by omega)]
    exact ⟨g1, nz.1, g3, g4, g5, g6⟩
theorem un_ty (hB : mo_B ρ) (h : un_r s ν ρ) (h16 : ρ 0 8 ≠ 16) : un_r (ct_s s (ρ 0 8) w v) (ct_n ν (ρ 0 8) (mo_e x) (mo_e y) (mo_e z)) (mo_ty ρ x y z w v) := by
  have b1 := hB.1
  have b8 := hB.2.1
  have b12 := hB.2.2.1
  have b24 := hB.2.2.2.2.2.1
  obtain ⟨h1, h2, h3, h4, h5⟩ := h
  unfold un_r
  rw [ty_0 (by omega), ty_8, ty_0 (by omega), ty_0 (by omega)]
  refine ⟨fun b g1 g2 => ?_, fun b g1 g2 => ?_, fun b g1 g2 => ?_, fun b g1 g2 => ?_, fun b g1 g2 g3 => ?_⟩
  · rw [cts_f (by omega) (by omega), cts_f (by omega) (by omega), cts_f (by omega) (by omega)]; exact h1 b g1 g2
  · rw [cts_f (by omega) (by omega), cts_f (by omega) (by omega), cts_f (by omega) (by omega)]; exact h2 b (by omega) g2
  · rw [cts_f (by omega) (by omega), cts_f (by omega) (by omega), cts_f (by omega) (by omega)]; exact h3 b g1 g2
  · rw [cts_f (by omega) (by omega)]; exact h4 b g1 g2
  · rw [cts_f (by omega) (by omega)]; exact h5 b g1 g2 g3
theorem ns_ty (hB : mo_B ρ) : ns_r s (ct_s s (ρ 0 8) w v) := by
  have b8 := hB.2.1
  have h := cts_c (s := s) (w := w) (v := v) b8.1
  exact ⟨fun p h0 h1 => by funext i; exact cts_f h0 (by omega), by omega, by omega, by omega⟩
theorem lo_ty (hB : mo_B ρ) : lo_r ν (ct_n ν (ρ 0 8) x y z) := fun p hp => by
  have b8 := hB.2.1
  funext i
  exact ctn_f (by omega) (by omega) (by omega)
theorem cl_ty (hI : iv_I ρ f) (hR : pt_R s ν ρ f) (hu : un_r s ν ρ) (hx : -1 ≤ x ∧ x ≤ 10) (hy : -1 ≤ y ∧ y ≤ 10) (hz : -1 ≤ z ∧ z ≤ 10) (hw : 0 ≤ w ∧ w ≤ 1000) (hv : v = 0 ∨ v = 1) (h16 : ρ 0 8 ≠ 16) : sw_w E (d + 2) 68 (0, [some (2, 50), some (0, x), some (0, y), some (0, z), some (0, w), some (0, v)], []) s ν (sw_vs (fun r s' ν' => r = some (0, ρ 0 8) ∧ ns_r s s' ∧ pt_R s' ν' (mo_ty ρ x y z w v) f ∧ un_r s' ν' (mo_ty ρ x y z w v) ∧ lo_r ν ν')) := by
  have b8 := hI.1.1.2.1
  have hun := hu.2.1 (ρ 0 8) (by omega) (by omega)
  refine sw_p 3 (f' := (4, [some (2, 50), some (0, x), some (0, y), some (0, z), some (0, w), some (0, v)], [(0, 10), (0, -1), (0, x)])) rfl ?_
  refine sw_cs1 (pn := 7) (q0 := mj_PT_type) (q := mj_PT_requireWithin) (L2 := [some (0, x), some (0, -1), some (0, 10)]) (rest := []) (v := none) (s1 := s) (ν1 := ν) rfl rfl rfl rfl rfl rfl rfl rfl (pt_rw1 (by omega) (by omega) (by omega) (by omega)) ?_
  show sw_w E _ 68 (7, [some (2, 50), some (0, x), some (0, y), some (0, z), some (0, w), some (0, v)], []) s ν _
  refine sw_p 3 (f' := (11, [some (2, 50), some (0, x), some (0, y), some (0, z), some (0, w), some (0, v)], [(0, 10), (0, -1), (0, y)])) rfl ?_
  refine sw_cs1 (pn := 14) (q0 := mj_PT_type) (q := mj_PT_requireWithin) (L2 := [some (0, y), some (0, -1), some (0, 10)]) (rest := []) (v := none) (s1 := s) (ν1 := ν) rfl rfl rfl rfl rfl rfl rfl rfl (pt_rw1 (by omega) (by omega) (by omega) (by omega)) ?_
  show sw_w E _ 68 (14, [some (2, 50), some (0, x), some (0, y), some (0, z), some (0, w), some (0, v)], []) s ν _
  refine sw_p 3 (f' := (18, [some (2, 50), some (0, x), some (0, y), some (0, z), some (0, w), some (0, v)], [(0, 10), (0, -1), (0, z)])) rfl ?_
  refine sw_cs1 (pn := 21) (q0 := mj_PT_type) (q := mj_PT_requireWithin) (L2 := [some (0, z), some (0, -1), some (0, 10)]) (rest := []) (v := none) (s1 := s) (ν1 := ν) rfl rfl rfl rfl rfl rfl rfl rfl (pt_rw1 (by omega) (by omega) (by omega) (by omega)) ?_
  show sw_w E _ 68 (21, [some (2, 50), some (0, x), some (0, y), some (0, z), some (0, w), some (0, v)], []) s ν _
  refine sw_p 3 (f' := (27, [some (2, 50), some (0, x), some (0, y), some (0, z), some (0, w), some (0, v)], [(0, 1000), (0, 0), (0, w)])) rfl ?_
  refine sw_cs1 (pn := 30) (q0 := mj_PT_type) (q := mj_PT_requireWithin) (L2 := [some (0, w), some (0, 0), some (0, 1000)]) (rest := []) (v := none) (s1 := s) (ν1 := ν) rfl rfl rfl rfl rfl rfl rfl rfl (pt_rw1 (by omega) (by omega) (by omega) (by omega)) ?_
  show sw_w E _ 68 (30, [some (2, 50), some (0, x), some (0, y), some (0, z), some (0, w), some (0, v)], []) s ν _
  refine sw_p 1 (f' := (31, [some (2, 50), some (0, x), some (0, y), some (0, z), some (0, w), some (0, v)], [(2, 50)])) rfl ?_
  refine sw_gI (pn := 34) (i := 9) rfl rfl rfl rfl rfl (by omega) (hR.sh.1) ?_
  rw [show ν 50 9 = ρ 0 8 from hR.z.2.1]
  refine sw_p 1 (f' := (36, [some (2, 50), some (0, x), some (0, y), some (0, z), some (0, w), some (0, v)], [(0, 16), (0, ρ 0 8)])) rfl ?_
  refine sw_ne2 (pt := 47) (pn := 39) rfl rfl rfl (by omega) (by omega) (fun h1 => ?_) (fun h => absurd h (by omega))
  refine sw_p 1 (f' := (48, [some (2, 50), some (0, x), some (0, y), some (0, z), some (0, w), some (0, v)], [(2, 50)])) rfl ?_
  refine sw_hA (pn := 51) (i := 1) (v := 52) rfl rfl rfl rfl rfl (hR.sh.1) (hR.sh.2.2.1.1) (by omega) ?_
  refine sw_p 1 (f' := (52, [some (2, 50), some (0, x), some (0, y), some (0, z), some (0, w), some (0, v)], [(2, 50), (2, 52)])) rfl ?_
  refine sw_gI (pn := 55) (i := 9) rfl rfl rfl rfl rfl (by omega) (hR.sh.1) ?_
  rw [show ν 50 9 = ρ 0 8 from hR.z.2.1]
  refine sw_new (pn := 58) (k := 102) (sz := 4) (200 + ρ 0 8) rfl rfl rfl rfl rfl rfl (by omega) hun.1 ?_
  refine sw_p 6 (f' := (66, [some (2, 50), some (0, x), some (0, y), some (0, z), some (0, w), some (0, v)], [(0, v), (0, w), (0, z), (0, y), (0, x), (2, 200 + ρ 0 8), (2, 200 + ρ 0 8), (0, ρ 0 8), (2, 52)])) rfl ?_
  refine sw_ci1 (pn := 69) (q0 := mj_PT_type) (q := mj_Ty_init) (p := 200 + ρ 0 8) (as2 := [(0, x), (0, y), (0, z), (0, w), (0, v)]) (L2 := [some (2, 200 + ρ 0 8), some (0, x), some (0, y), some (0, z), some (0, w), some (0, v), none]) (rest := [(2, 200 + ρ 0 8), (0, ρ 0 8), (2, 52)]) (v := none) (s1 := (mm_u (mm_u (mm_u (nm_al (mm_u (nm_al (nm_al s (200 + ρ 0 8) 102 0 4 (mm_z 2)) (220 + ρ 0 8) 0 3 3 (fun _ => 0)) (200 + ρ 0 8) 0 (220 + ρ 0 8)) (240 + ρ 0 8) 0 3 3 (fun _ => 0)) (200 + ρ 0 8) 1 (240 + ρ 0 8)) (200 + ρ 0 8) 2 w) (200 + ρ 0 8) 3 v)) (ν1 := (mm_u (mm_u (mm_u (mm_u (mm_u (mm_u (sw_nw (sw_nw (sw_nw ν (200 + ρ 0 8) (mm_z 2)) (220 + ρ 0 8) (fun _ => 0)) (240 + ρ 0 8) (fun _ => 0)) (220 + ρ 0 8) 0 (mo_e x)) (220 + ρ 0 8) 1 (mo_e y)) (220 + ρ 0 8) 2 (mo_e z)) (240 + ρ 0 8) (od_r (ty_g (mo_e x) (mo_e y) (mo_e z)) 0) 0) (240 + ρ 0 8) (od_r (ty_g (mo_e x) (mo_e y) (mo_e z)) 1) 1) (240 + ρ 0 8) (od_r (ty_g (mo_e x) (mo_e y) (mo_e z)) 2) 2)) rfl rfl rfl rfl rfl rfl rfl rfl rfl (ty_i (al_k (by omega)) (by rw [al_ne (by omega) (by omega)]; exact hun.2.1) (by rw [al_ne (by omega) (by omega)]; exact hun.2.2) (by omega) (by omega) hx hy hz hv) ?_
  show sw_w E _ 68 (69, [some (2, 50), some (0, x), some (0, y), some (0, z), some (0, w), some (0, v)], [(2, 200 + ρ 0 8), (0, ρ 0 8), (2, 52)]) (mm_u (mm_u (mm_u (nm_al (mm_u (nm_al (nm_al s (200 + ρ 0 8) 102 0 4 (mm_z 2)) (220 + ρ 0 8) 0 3 3 (fun _ => 0)) (200 + ρ 0 8) 0 (220 + ρ 0 8)) (240 + ρ 0 8) 0 3 3 (fun _ => 0)) (200 + ρ 0 8) 1 (240 + ρ 0 8)) (200 + ρ 0 8) 2 w) (200 + ρ 0 8) 3 v) (mm_u (mm_u (mm_u (mm_u (mm_u (mm_u (sw_nw (sw_nw (sw_nw ν (200 + ρ 0 8) (mm_z 2)) (220 + ρ 0 8) (fun _ => 0)) (240 + ρ 0 8) (fun _ => 0)) (220 + ρ 0 8) 0 (mo_e x)) (220 + ρ 0 8) 1 (mo_e y)) (220 + ρ 0 8) 2 (mo_e z)) (240 + ρ 0 8) (od_r (ty_g (mo_e x) (mo_e y) (mo_e z)) 0) 0) (240 + ρ 0 8) (od_r (ty_g (mo_e x) (mo_e y) (mo_e z)) 1) 1) (240 + ρ 0 8) (od_r (ty_g (mo_e x) (mo_e y) (mo_e z)) 2) 2) _
  refine sw_aas (pn := 70) (t := 4) (c := 2) (l := 16) rfl rfl rfl (by decide) (by decide) ((mm_u_ne (by omega)).trans ((mm_u_ne (by omega)).trans ((mm_u_ne (by omega)).trans ((al_ne (by omega) (by omega)).trans ((mm_u_ne (by omega)).trans ((al_ne (by omega) (by omega)).trans (al_k (by omega)))))))) (by omega) ((mm_u_ne (by omega)).trans ((mm_u_ne (by omega)).trans ((mm_u_ne (by omega)).trans ((al_ne (by omega) (by omega)).trans ((mm_u_ne (by omega)).trans ((al_ne (by omega) (by omega)).trans ((al_ne (by omega) (by omega)).trans (hR.sh.2.2.1.2.1)))))))) ((mm_u_ne (by omega)).trans ((mm_u_ne (by omega)).trans ((mm_u_ne (by omega)).trans ((al_ne (by omega) (by omega)).trans ((mm_u_ne (by omega)).trans ((al_ne (by omega) (by omega)).trans ((al_ne (by omega) (by omega)).trans (hR.sh.2.2.1.2.2)))))))) (by omega) (by omega) ?_
  refine sw_p 2 (f' := (72, [some (2, 50), some (0, x), some (0, y), some (0, z), some (0, w), some (0, v)], [(2, 50), (2, 50)])) rfl ?_
  refine sw_gI (pn := 75) (i := 9) rfl rfl rfl rfl rfl (by omega) ((mm_u_ne (by omega)).trans ((mm_u_ne (by omega)).trans ((mm_u_ne (by omega)).trans ((al_ne (by omega) (by omega)).trans ((mm_u_ne (by omega)).trans ((al_ne (by omega) (by omega)).trans ((al_ne (by omega) (by omega)).trans (hR.sh.1)))))))) ?_
  rw [show (mm_u (mm_u (mm_u (mm_u (mm_u (mm_u (mm_u (sw_nw (sw_nw (sw_nw ν (200 + ρ 0 8) (mm_z 2)) (220 + ρ 0 8) (fun _ => 0)) (240 + ρ 0 8) (fun _ => 0)) (220 + ρ 0 8) 0 (mo_e x)) (220 + ρ 0 8) 1 (mo_e y)) (220 + ρ 0 8) 2 (mo_e z)) (240 + ρ 0 8) (od_r (ty_g (mo_e x) (mo_e y) (mo_e z)) 0) 0) (240 + ρ 0 8) (od_r (ty_g (mo_e x) (mo_e y) (mo_e z)) 1) 1) (240 + ρ 0 8) (od_r (ty_g (mo_e x) (mo_e y) (mo_e z)) 2) 2) 52 (ρ 0 8) (200 + ρ 0 8)) 50 9 = ρ 0 8 from (mm_u_ne (by omega)).trans ((mm_u_ne (by omega)).trans ((mm_u_ne (by omega)).trans ((mm_u_ne (by omega)).trans ((mm_u_ne (by omega)).trans ((mm_u_ne (by omega)).trans ((mm_u_ne (by omega)).trans ((nw_ne (by omega)).trans ((nw_ne (by omega)).trans ((nw_ne (by omega)).trans (hR.z.2.1))))))))))]
  refine sw_p 3 (f' := (78, [some (2, 50), some (0, x), some (0, y), some (0, z), some (0, w), some (0, v)], [(0, (ρ 0 8) + 1), (2, 50), (0, ρ 0 8)])) rfl ?_
  refine sw_pI (pn := 81) (i := 9) rfl rfl rfl rfl rfl (by omega) ((mm_u_ne (by omega)).trans ((mm_u_ne (by omega)).trans ((mm_u_ne (by omega)).trans ((al_ne (by omega) (by omega)).trans ((mm_u_ne (by omega)).trans ((al_ne (by omega) (by omega)).trans ((al_ne (by omega) (by omega)).trans (hR.sh.1)))))))) ?_
  exact sw_retI rfl rfl rfl ⟨_, rfl, rfl, ns_ty hI.1.1, R_ty hI hR h16, un_ty hI.1.1 hu h16, lo_ty hI.1.1⟩
theorem cl_ty_s (hI : iv_I ρ f) (hR : pt_R s ν ρ f) (hx : -1 ≤ x ∧ x ≤ 10) (hy : -1 ≤ y ∧ y ≤ 10) (hz : -1 ≤ z ∧ z ≤ 10) (hw : 0 ≤ w ∧ w ≤ 1000) (h16 : ρ 0 8 = 16) (hd : 5 ≤ d) : sw_w E (d + 2) 68 (0, [some (2, 50), some (0, x), some (0, y), some (0, z), some (0, w), some (0, v)], []) s ν (sw_ex 9 s ν) := by
  have b8 := hI.1.1.2.1
  refine sw_p 3 (f' := (4, [some (2, 50), some (0, x), some (0, y), some (0, z), some (0, w), some (0, v)], [(0, 10), (0, -1), (0, x)])) rfl ?_
  refine sw_cs1 (pn := 7) (q0 := mj_PT_type) (q := mj_PT_requireWithin) (L2 := [some (0, x), some (0, -1), some (0, 10)]) (rest := []) (v := none) (s1 := s) (ν1 := ν) rfl rfl rfl rfl rfl rfl rfl rfl (pt_rw1 (by omega) (by omega) (by omega) (by omega)) ?_
  show sw_w E _ 68 (7, [some (2, 50), some (0, x), some (0, y), some (0, z), some (0, w), some (0, v)], []) s ν _
  refine sw_p 3 (f' := (11, [some (2, 50), some (0, x), some (0, y), some (0, z), some (0, w), some (0, v)], [(0, 10), (0, -1), (0, y)])) rfl ?_
  refine sw_cs1 (pn := 14) (q0 := mj_PT_type) (q := mj_PT_requireWithin) (L2 := [some (0, y), some (0, -1), some (0, 10)]) (rest := []) (v := none) (s1 := s) (ν1 := ν) rfl rfl rfl rfl rfl rfl rfl rfl (pt_rw1 (by omega) (by omega) (by omega) (by omega)) ?_
  show sw_w E _ 68 (14, [some (2, 50), some (0, x), some (0, y), some (0, z), some (0, w), some (0, v)], []) s ν _
  refine sw_p 3 (f' := (18, [some (2, 50), some (0, x), some (0, y), some (0, z), some (0, w), some (0, v)], [(0, 10), (0, -1), (0, z)])) rfl ?_
  refine sw_cs1 (pn := 21) (q0 := mj_PT_type) (q := mj_PT_requireWithin) (L2 := [some (0, z), some (0, -1), some (0, 10)]) (rest := []) (v := none) (s1 := s) (ν1 := ν) rfl rfl rfl rfl rfl rfl rfl rfl (pt_rw1 (by omega) (by omega) (by omega) (by omega)) ?_
  show sw_w E _ 68 (21, [some (2, 50), some (0, x), some (0, y), some (0, z), some (0, w), some (0, v)], []) s ν _
  refine sw_p 3 (f' := (27, [some (2, 50), some (0, x), some (0, y), some (0, z), some (0, w), some (0, v)], [(0, 1000), (0, 0), (0, w)])) rfl ?_
  refine sw_cs1 (pn := 30) (q0 := mj_PT_type) (q := mj_PT_requireWithin) (L2 := [some (0, w), some (0, 0), some (0, 1000)]) (rest := []) (v := none) (s1 := s) (ν1 := ν) rfl rfl rfl rfl rfl rfl rfl rfl (pt_rw1 (by omega) (by omega) (by omega) (by omega)) ?_
  show sw_w E _ 68 (30, [some (2, 50), some (0, x), some (0, y), some (0, z), some (0, w), some (0, v)], []) s ν _
  refine sw_p 1 (f' := (31, [some (2, 50), some (0, x), some (0, y), some (0, z), some (0, w), some (0, v)], [(2, 50)])) rfl ?_
  refine sw_gI (pn := 34) (i := 9) rfl rfl rfl rfl rfl (by omega) (hR.sh.1) ?_
  rw [show ν 50 9 = ρ 0 8 from hR.z.2.1]
  refine sw_p 1 (f' := (36, [some (2, 50), some (0, x), some (0, y), some (0, z), some (0, w), some (0, v)], [(0, 16), (0, ρ 0 8)])) rfl ?_
  refine sw_ne2 (pt := 47) (pn := 39) rfl rfl rfl (by omega) (by omega) (fun h => absurd h (by omega)) (fun h1 => ?_)
  exact sw_thr rfl rfl rfl rfl rfl (by omega) ⟨rfl, rfl, rfl⟩
theorem cl_ty_b1 (hI : iv_I ρ f) (hR : pt_R s ν ρ f) (hx : -2147483648 ≤ x ∧ x < 2147483648) (h0 : ¬ (-1 ≤ x ∧ x ≤ 10)) (hd : 5 ≤ d) : sw_w E (d + 2) 68 (0, [some (2, 50), some (0, x), some (0, y), some (0, z), some (0, w), some (0, v)], []) s ν (sw_ex 8 s ν) := by
  have b8 := hI.1.1.2.1
  refine sw_p 3 (f' := (4, [some (2, 50), some (0, x), some (0, y), some (0, z), some (0, w), some (0, v)], [(0, 10), (0, -1), (0, x)])) rfl ?_
  exact sw_cs (pn := 7) (q0 := mj_PT_type) (q := mj_PT_requireWithin) (L2 := [some (0, x), some (0, -1), some (0, 10)]) (rest := []) (Q2 := (sw_ex 8 s ν)) rfl rfl rfl rfl rfl rfl rfl rfl (pt_rwx (by omega) (by omega) (by omega) (by omega) (by omega)) (fun _ _ _ h => nomatch h.1) (fun _ _ _ h => h)
theorem cl_ty_b2 (hI : iv_I ρ f) (hR : pt_R s ν ρ f) (hx : -1 ≤ x ∧ x ≤ 10) (hy : -2147483648 ≤ y ∧ y < 2147483648) (h0 : ¬ (-1 ≤ y ∧ y ≤ 10)) (hd : 5 ≤ d) : sw_w E (d + 2) 68 (0, [some (2, 50), some (0, x), some (0, y), some (0, z), some (0, w), some (0, v)], []) s ν (sw_ex 8 s ν) := by
  have b8 := hI.1.1.2.1
  refine sw_p 3 (f' := (4, [some (2, 50), some (0, x), some (0, y), some (0, z), some (0, w), some (0, v)], [(0, 10), (0, -1), (0, x)])) rfl ?_
  refine sw_cs1 (pn := 7) (q0 := mj_PT_type) (q := mj_PT_requireWithin) (L2 := [some (0, x), some (0, -1), some (0, 10)]) (rest := []) (v := none) (s1 := s) (ν1 := ν) rfl rfl rfl rfl rfl rfl rfl rfl (pt_rw1 (by omega) (by omega) (by omega) (by omega)) ?_
  show sw_w E _ 68 (7, [some (2, 50), some (0, x), some (0, y), some (0, z), some (0, w), some (0, v)], []) s ν _
  refine sw_p 3 (f' := (11, [some (2, 50), some (0, x), some (0, y), some (0, z), some (0, w), some (0, v)], [(0, 10), (0, -1), (0, y)])) rfl ?_
  exact sw_cs (pn := 14) (q0 := mj_PT_type) (q := mj_PT_requireWithin) (L2 := [some (0, y), some (0, -1), some (0, 10)]) (rest := []) (Q2 := (sw_ex 8 s ν)) rfl rfl rfl rfl rfl rfl rfl rfl (pt_rwx (by omega) (by omega) (by omega) (by omega) (by omega)) (fun _ _ _ h => nomatch h.1) (fun _ _ _ h => h)
theorem cl_ty_b3 (hI : iv_I ρ f) (hR : pt_R s ν ρ f) (hx : -1 ≤ x ∧ x ≤ 10) (hy : -1 ≤ y ∧ y ≤ 10) (hz : -2147483648 ≤ z ∧ z < 2147483648) (h0 : ¬ (-1 ≤ z ∧ z ≤ 10)) (hd : 5 ≤ d) : sw_w E (d + 2) 68 (0, [some (2, 50), some (0, x), some (0, y), some (0, z), some (0, w), some (0, v)], []) s ν (sw_ex 8 s ν) := by
  have b8 := hI.1.1.2.1
  refine sw_p 3 (f' := (4, [some (2, 50), some (0, x), some (0, y), some (0, z), some (0, w), some (0, v)], [(0, 10), (0, -1), (0, x)])) rfl ?_
  refine sw_cs1 (pn := 7) (q0 := mj_PT_type) (q := mj_PT_requireWithin) (L2 := [some (0, x), some (0, -1), some (0, 10)]) (rest := []) (v := none) (s1 := s) (ν1 := ν) rfl rfl rfl rfl rfl rfl rfl rfl (pt_rw1 (by omega) (by omega) (by omega) (by omega)) ?_
  show sw_w E _ 68 (7, [some (2, 50), some (0, x), some (0, y), some (0, z), some (0, w), some (0, v)], []) s ν _
  refine sw_p 3 (f' := (11, [some (2, 50), some (0, x), some (0, y), some (0, z), some (0, w), some (0, v)], [(0, 10), (0, -1), (0, y)])) rfl ?_
  refine sw_cs1 (pn := 14) (q0 := mj_PT_type) (q := mj_PT_requireWithin) (L2 := [some (0, y), some (0, -1), some (0, 10)]) (rest := []) (v := none) (s1 := s) (ν1 := ν) rfl rfl rfl rfl rfl rfl rfl rfl (pt_rw1 (by omega) (by omega) (by omega) (by omega)) ?_
  show sw_w E _ 68 (14, [some (2, 50), some (0, x), some (0, y), some (0, z), some (0, w), some (0, v)], []) s ν _
  refine sw_p 3 (f' := (18, [some (2, 50), some (0, x), some (0, y), some (0, z), some (0, w), some (0, v)], [(0, 10), (0, -1), (0, z)])) rfl ?_
  exact sw_cs (pn := 21) (q0 := mj_PT_type) (q := mj_PT_requireWithin) (L2 := [some (0, z), some (0, -1), some (0, 10)]) (rest := []) (Q2 := (sw_ex 8 s ν)) rfl rfl rfl rfl rfl rfl rfl rfl (pt_rwx (by omega) (by omega) (by omega) (by omega) (by omega)) (fun _ _ _ h => nomatch h.1) (fun _ _ _ h => h)
theorem cl_ty_b4 (hI : iv_I ρ f) (hR : pt_R s ν ρ f) (hx : -1 ≤ x ∧ x ≤ 10) (hy : -1 ≤ y ∧ y ≤ 10) (hz : -1 ≤ z ∧ z ≤ 10) (hw : -2147483648 ≤ w ∧ w < 2147483648) (h0 : ¬ (0 ≤ w ∧ w ≤ 1000)) (hd : 5 ≤ d) : sw_w E (d + 2) 68 (0, [some (2, 50), some (0, x), some (0, y), some (0, z), some (0, w), some (0, v)], []) s ν (sw_ex 8 s ν) := by
  have b8 := hI.1.1.2.1
  refine sw_p 3 (f' := (4, [some (2, 50), some (0, x), some (0, y), some (0, z), some (0, w), some (0, v)], [(0, 10), (0, -1), (0, x)])) rfl ?_
  refine sw_cs1 (pn := 7) (q0 := mj_PT_type) (q := mj_PT_requireWithin) (L2 := [some (0, x), some (0, -1), some (0, 10)]) (rest := []) (v := none) (s1 := s) (ν1 := ν) rfl rfl rfl rfl rfl rfl rfl rfl (pt_rw1 (by omega) (by omega) (by omega) (by omega)) ?_
  show sw_w E _ 68 (7, [some (2, 50), some (0, x), some (0, y), some (0, z), some (0, w), some (0, v)], []) s ν _
  refine sw_p 3 (f' := (11, [some (2, 50), some (0, x), some (0, y), some (0, z), some (0, w), some (0, v)], [(0, 10), (0, -1), (0, y)])) rfl ?_
  refine sw_cs1 (pn := 14) (q0 := mj_PT_type) (q := mj_PT_requireWithin) (L2 := [some (0, y), some (0, -1), some (0, 10)]) (rest := []) (v := none) (s1 := s) (ν1 := ν) rfl rfl rfl rfl rfl rfl rfl rfl (pt_rw1 (by omega) (by omega) (by omega) (by omega)) ?_
  show sw_w E _ 68 (14, [some (2, 50), some (0, x), some (0, y), some (0, z), some (0, w), some (0, v)], []) s ν _
  refine sw_p 3 (f' := (18, [some (2, 50), some (0, x), some (0, y), some (0, z), some (0, w), some (0, v)], [(0, 10), (0, -1), (0, z)])) rfl ?_
  refine sw_cs1 (pn := 21) (q0 := mj_PT_type) (q := mj_PT_requireWithin) (L2 := [some (0, z), some (0, -1), some (0, 10)]) (rest := []) (v := none) (s1 := s) (ν1 := ν) rfl rfl rfl rfl rfl rfl rfl rfl (pt_rw1 (by omega) (by omega) (by omega) (by omega)) ?_
  show sw_w E _ 68 (21, [some (2, 50), some (0, x), some (0, y), some (0, z), some (0, w), some (0, v)], []) s ν _
  refine sw_p 3 (f' := (27, [some (2, 50), some (0, x), some (0, y), some (0, z), some (0, w), some (0, v)], [(0, 1000), (0, 0), (0, w)])) rfl ?_
  exact sw_cs (pn := 30) (q0 := mj_PT_type) (q := mj_PT_requireWithin) (L2 := [some (0, w), some (0, 0), some (0, 1000)]) (rest := []) (Q2 := (sw_ex 8 s ν)) rfl rfl rfl rfl rfl rfl rfl rfl (pt_rwx (by omega) (by omega) (by omega) (by omega) (by omega)) (fun _ _ _ h => nomatch h.1) (fun _ _ _ h => h)
end TY3
