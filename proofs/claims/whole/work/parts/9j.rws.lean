/-! a card that comes to work: the relation -/
section RWS
variable {s ν ν' ρ : mm_T} {f : Int → Int} {b c i k x e : Int} {q : Int → Int}
theorem R_ws (hA : iv_A ρ f) (h8 : iv_8 ρ) (hR : pt_R s ν ρ f) (hc : 0 ≤ c ∧ c < ρ 0 12) (hst : ρ 15 c = 0) (hrg : ∀ k, 0 ≤ k → k < 3 → 0 < ρ 9 (3 * ρ 13 c + k) → ν (340 + c) k = ρ 17 (3 * c + k)) : pt_R s (mm_u (mm_u ν (300 + c) 6 1) 50 11 (-1)) (mm_u (mm_u ρ 15 c 1) 0 21 (-1)) f := by
  have b1 := hA.1.1
  have b8 := hA.1.2.1
  have b12 := hA.1.2.2.1
  have b24 := hA.1.2.2.2.2.2.1
  have ne : ∀ p i, ¬ (p = 300 + c ∧ i = 6) → ¬ (p = 50 ∧ i = 11) → mm_u (mm_u ν (300 + c) 6 1) 50 11 (-1) p i = ν p i := fun p i h1 h2 => by rw [mm_u_ne h2, mm_u_ne h1]
  have n6 : mm_u (mm_u ν (300 + c) 6 1) 50 11 (-1) (300 + c) 6 = 1 := by rw [mm_u_ne (by omega), mm_u_at]
  have n11 : mm_u (mm_u ν (300 + c) 6 1) 50 11 (-1) 50 11 = -1 := mm_u_at
  have er : ∀ p, p ≠ 0 → p ≠ 15 → mm_u (mm_u ρ 15 c 1) 0 21 (-1) p = ρ p := fun p h1 h2 => by funext i; rw [mm_u_ne (by omega), mm_u_ne (by omega)]
  have e0 : ∀ i, i ≠ 21 → mm_u (mm_u ρ 15 c 1) 0 21 (-1) 0 i = ρ 0 i := fun i h => by rw [mm_u_ne (by omega), mm_u_ne (by omega)]
  have e21 : mm_u (mm_u ρ 15 c 1) 0 21 (-1) 0 21 = -1 := mm_u_at
  have e15 : ∀ i, mm_u (mm_u ρ 15 c 1) 0 21 (-1) 15 i = if i = c then 1 else ρ 15 i := fun i => by
    rw [mm_u_ne (by omega)]
    by_cases h : i = c
    · rw [h, mm_u_at, if_pos rfl]
    · rw [mm_u_ne (by omega), if_neg h]
  generalize mm_u (mm_u ν (300 + c) 6 1) 50 11 (-1) = ν' at ne n6 n11 ⊢
  generalize mm_u (mm_u ρ 15 c 1) 0 21 (-1) = ρ' at er e0 e21 e15 ⊢
  have ew : ∀ c2, mo_wt ρ' c2 = mo_wt ρ c2 := fun c2 => mo_wt_c (e0 24 (by omega)) (er 25 (by omega) (by omega)) (er 28 (by omega) (by omega)) c2
  refine ⟨hR.sh, ?_, ?_, ?_, ?_, ?_, ?_, ?_, ?_, ?_, ?_, ?_, ?_, ?_⟩
  · exact pt_Br_c hR.br (e0 1 (by omega)) (fun b _ _ => by rw [er 3 (by omega) (by omega)]) (fun b _ _ => by rw [er 4 (by omega) (by omega)])
  · exact pt_Bn_c hR.bn (e0 1 (by omega)) (fun b h1 h2 => ⟨ne 51 b (by omega) (by omega), ne (100 + b) 6 (by omega) (by omega), ne (100 + b) 7 (by omega) (by omega), by rw [er 5 (by omega) (by omega)], by rw [er 6 (by omega) (by omega)]⟩)
  · exact pt_Sl_c hR.sl (e0 1 (by omega)) (fun b i h1 h2 h3 h4 => ⟨ne (110 + b) i (by omega) (by omega), ne (120 + b) i (by omega) (by omega), by rw [er 2 (by omega) (by omega)]⟩)
  · exact pt_Ty_c hR.ty (e0 8 (by omega)) (fun t _ _ => ⟨by rw [er 10 (by omega) (by omega)], by rw [er 11 (by omega) (by omega)]⟩)
  · exact pt_Tn_c hR.tn (e0 8 (by omega)) (er 9 (by omega) (by omega)) (fun t h1 h2 => ⟨ne 52 t (by omega) (by omega), fun k k0 k1 => ⟨ne (220 + t) k (by omega) (by omega), ne (240 + t) k (by omega) (by omega)⟩⟩)
  · exact pt_Ca_c hR.ca (e0 12 (by omega)) (fun c2 _ _ => ⟨by rw [er 14 (by omega) (by omega)], by rw [er 13 (by omega) (by omega)]⟩)
  · refine pt_Cn_c hR.cn (e0 12 (by omega)) (fun c2 h1 h2 h3 => ?_)
    obtain ⟨q1, q2, q3, q4, q5, q6, q7⟩ := h3
    unfold pt_Cf
    rw [ne 53 c2 (by omega) (by omega), ne (300 + c2) 5 (by omega) (by omega), ne (300 + c2) 7 (by omega) (by omega), ne (300 + c2) 8 (by omega) (by omega), ne (300 + c2) 9 (by omega) (by omega), ne (300 + c2) 10 (by omega) (by omega), e15, er 16 (by omega) (by omega), er 19 (by omega) (by omega), er 20 (by omega) (by omega), ew]
    refine ⟨q1, q2, ?_, q4, q5, q6, q7⟩
    by_cases hcc : c2 = c
    · rw [if_pos hcc, hcc]; exact n6
    · rw [if_neg hcc, ne (300 + c2) 6 (by omega) (by omega)]; exact q3
  · intro c2 k h1 h2 h3 h4
    rw [e0 12 (by omega)] at h2
    rw [ne (340 + c2) k (by omega) (by omega), e15, er 9 (by omega) (by omega), er 13 (by omega) (by omega), er 17 (by omega) (by omega)]
    obtain ⟨q1, q2⟩ := hR.cr c2 k h1 h2 h3 h4
    refine ⟨q1, fun h5 h6 => ?_⟩
    by_cases hcc : c2 = c
    · rw [hcc] at h6 ⊢; exact hrg k h3 h4 h6
    · rw [if_neg hcc] at h5; exact q2 h5 h6
  · refine pt_Cs_c hR.cs (e0 12 (by omega)) (fun c2 h1 h2 h3 => ⟨?_, by rw [er 14 (by omega) (by omega)], fun h4 => by rw [er 2 (by omega) (by omega)]; exact h4⟩)
    rw [e15] at h3
    by_cases hcc : c2 = c
    · rw [hcc]; omega
    · rw [if_neg hcc] at h3; exact h3
  · exact pt_Q_c hR.q (e0 12 (by omega)) (e0 24 (by omega)) (fun c2 h1 h2 => ⟨mo_pd_c (er 25 (by omega) (by omega)) (er 28 (by omega) (by omega)) c2, fun i h3 h4 => ne (380 + c2) i (by omega) (by omega)⟩) h8
  · exact pt_Rq_c hR.rq (e0 24 (by omega)) (fun t h1 h2 => ⟨by rw [er 26 (by omega) (by omega)], by rw [er 27 (by omega) (by omega)], fun h3 => by rw [ne (1000 + t) 2 (by omega) (by omega), er 28 (by omega) (by omega)]; exact h3⟩)
  · exact pt_L_c hR.li hA.1 (e0 24 (by omega)) (ne 54 0 (by omega) (by omega)) (ne 54 1 (by omega) (by omega)) (fun p t hp => ne p t (by omega) (by omega))
  · obtain ⟨q1, q2, q3, q4, q5, q6⟩ := hR.z
    unfold pt_Z
    rw [ne 50 8 (by omega) (by omega), ne 50 9 (by omega) (by omega), ne 50 10 (by omega) (by omega), ne 50 12 (by omega) (by omega), ne 50 13 (by omega) (by omega), n11, e0 1 (by omega), e0 8 (by omega), e0 12 (by omega), e0 22 (by omega), e0 23 (by omega), e21]
    exact ⟨q1, q2, q3, rfl, q5, q6⟩
/-- the class's memory when a card got its places -/
def pl_N (ν ρ ν' : mm_T) (c x e : Int) : Prop := ν' (100 + ρ 14 c) 6 = x ∧ ν' (100 + ρ 14 c) 7 = e ∧ (∀ k, 0 ≤ k → k < 3 → 0 ≤ ν' (340 + c) k ∧ ν' (340 + c) k ≤ 4096) ∧ ∀ p i, 50 ≤ p → ¬ (55 ≤ p ∧ p ≤ 64) → ¬ (100 ≤ p ∧ p < 108 ∧ i = 8) → ¬ (p = 100 + ρ 14 c ∧ (i = 6 ∨ i = 7)) → ¬ (p = 340 + c ∧ 0 ≤ i ∧ i < 3) → ν' p i = ν p i
theorem R_pl (hA : iv_A ρ f) (h8 : iv_8 ρ) (hR : pt_R s ν ρ f) (hc : 0 ≤ c ∧ c < ρ 0 12) (hst : ρ 15 c = 0) (hN : pl_N ν ρ ν' c x e) : pt_R s ν' (pl_f ρ c x e q) f := by
  obtain ⟨n1, n2, n3, ne⟩ := hN
  have b1 := hA.1.1
  have b8 := hA.1.2.1
  have b12 := hA.1.2.2.1
  have b24 := hA.1.2.2.2.2.2.1
  have hcd := hA.1.cd c hc.1 (by omega)
  have hK := hA.2.2.2.2.2.1 c hc.1 hc.2
  have er : ∀ p, p ≠ 17 → p ≠ 5 → p ≠ 6 → pl_f ρ c x e q p = ρ p := fun p h1 h2 h3 => by funext i; unfold pl_f; rw [if_neg h1, if_neg h2, if_neg h3]
  have e5 : ∀ i, pl_f ρ c x e q 5 i = if i = ρ 14 c then x else ρ 5 i := fun i => by unfold pl_f; rw [if_neg (by omega), if_pos rfl]
  have e6 : ∀ i, pl_f ρ c x e q 6 i = if i = ρ 14 c then e else ρ 6 i := fun i => by unfold pl_f; rw [if_neg (by omega), if_neg (by omega), if_pos rfl]
  have e17 : ∀ i, ¬ (3 * c ≤ i ∧ i < 3 * c + 3) → pl_f ρ c x e q 17 i = ρ 17 i := fun i h => by unfold pl_f; rw [if_pos rfl, if_neg h]
  generalize pl_f ρ c x e q = ρ' at er e5 e6 e17 ⊢
  have e0 := er 0 (by omega) (by omega) (by omega)
  refine ⟨hR.sh, ?_, ?_, ?_, ?_, ?_, ?_, ?_, ?_, ?_, ?_, ?_, ?_, ?_⟩
  · exact pt_Br_c hR.br (by rw [e0]) (fun b _ _ => by rw [er 3 (by omega) (by omega) (by omega)]) (fun b _ _ => by rw [er 4 (by omega) (by omega) (by omega)])
  · intro b h1 h2
    rw [e0] at h2
    rw [ne 51 b (by omega) (by omega) (by omega) (by omega) (by omega), e5, e6]
    obtain ⟨q1, q2, q3⟩ := hR.bn b h1 h2
    by_cases hb : b = ρ 14 c
    · rw [if_pos hb, if_pos hb, hb]
      rw [hb] at q1
      exact ⟨q1, n1, n2⟩
    · rw [if_neg hb, if_neg hb, ne (100 + b) 6 (by omega) (by omega) (by omega) (by omega) (by omega), ne (100 + b) 7 (by omega) (by omega) (by omega) (by omega) (by omega)]
      exact ⟨q1, q2, q3⟩
  · exact pt_Sl_c hR.sl (by rw [e0]) (fun b i h1 h2 h3 h4 => ⟨ne (110 + b) i (by omega) (by omega) (by omega) (by omega) (by omega), ne (120 + b) i (by omega) (by omega) (by omega) (by omega) (by omega), by rw [er 2 (by omega) (by omega) (by omega)]⟩)
  · exact pt_Ty_c hR.ty (by rw [e0]) (fun t _ _ => ⟨by rw [er 10 (by omega) (by omega) (by omega)], by rw [er 11 (by omega) (by omega) (by omega)]⟩)
  · exact pt_Tn_c hR.tn (by rw [e0]) (er 9 (by omega) (by omega) (by omega)) (fun t h1 h2 => ⟨ne 52 t (by omega) (by omega) (by omega) (by omega) (by omega), fun k k0 k1 => ⟨ne (220 + t) k (by omega) (by omega) (by omega) (by omega) (by omega), ne (240 + t) k (by omega) (by omega) (by omega) (by omega) (by omega)⟩⟩)
  · exact pt_Ca_c hR.ca (by rw [e0]) (fun c2 _ _ => ⟨by rw [er 14 (by omega) (by omega) (by omega)], by rw [er 13 (by omega) (by omega) (by omega)]⟩)
  · refine pt_Cn_c hR.cn (by rw [e0]) (fun c2 h1 h2 h3 => ?_)
    obtain ⟨q1, q2, q3, q4, q5, q6, q7⟩ := h3
    unfold pt_Cf
    rw [ne 53 c2 (by omega) (by omega) (by omega) (by omega) (by omega), ne (300 + c2) 5 (by omega) (by omega) (by omega) (by omega) (by omega), ne (300 + c2) 6 (by omega) (by omega) (by omega) (by omega) (by omega), ne (300 + c2) 7 (by omega) (by omega) (by omega) (by omega) (by omega), ne (300 + c2) 8 (by omega) (by omega) (by omega) (by omega) (by omega), ne (300 + c2) 9 (by omega) (by omega) (by omega) (by omega) (by omega), ne (300 + c2) 10 (by omega) (by omega) (by omega) (by omega) (by omega), er 15 (by omega) (by omega) (by omega), er 16 (by omega) (by omega) (by omega), er 19 (by omega) (by omega) (by omega), er 20 (by omega) (by omega) (by omega), mo_wt_c (congrFun e0 24) (er 25 (by omega) (by omega) (by omega)) (er 28 (by omega) (by omega) (by omega))]
    exact ⟨q1, q2, q3, q4, q5, q6, q7⟩
  · intro c2 k h1 h2 h3 h4
    rw [e0] at h2
    rw [er 15 (by omega) (by omega) (by omega), er 9 (by omega) (by omega) (by omega), er 13 (by omega) (by omega) (by omega)]
    by_cases hcc : c2 = c
    · rw [hcc]
      exact ⟨n3 k h3 h4, fun h5 => by omega⟩
    · rw [ne (340 + c2) k (by omega) (by omega) (by omega) (by omega) (by omega), e17 _ (by omega)]
      exact hR.cr c2 k h1 h2 h3 h4
  · exact pt_Cs_c hR.cs (by rw [e0]) (fun c2 h1 h2 h3 => ⟨by rw [er 15 (by omega) (by omega) (by omega)] at h3; exact h3, by rw [er 14 (by omega) (by omega) (by omega)], fun h4 => by rw [er 2 (by omega) (by omega) (by omega)]; exact h4⟩)
  · exact pt_Q_c hR.q (by rw [e0]) (by rw [e0]) (fun c2 h1 h2 => ⟨mo_pd_c (er 25 (by omega) (by omega) (by omega)) (er 28 (by omega) (by omega) (by omega)) c2, fun i h3 h4 => ne (380 + c2) i (by omega) (by omega) (by omega) (by omega) (by omega)⟩) h8
  · exact pt_Rq_c hR.rq (by rw [e0]) (fun t h1 h2 => ⟨by rw [er 26 (by omega) (by omega) (by omega)], by rw [er 27 (by omega) (by omega) (by omega)], fun h3 => by rw [ne (1000 + t) 2 (by omega) (by omega) (by omega) (by omega) (by omega), er 28 (by omega) (by omega) (by omega)]; exact h3⟩)
  · exact pt_L_c hR.li hA.1 (by rw [e0]) (ne 54 0 (by omega) (by omega) (by omega) (by omega) (by omega)) (ne 54 1 (by omega) (by omega) (by omega) (by omega) (by omega)) (fun p t hp => ne p t (by omega) (by omega) (by omega) (by omega) (by omega))
  · exact pt_Z_c hR.z (fun i h1 h2 => ne 50 i (by omega) (by omega) (by omega) (by omega) (by omega)) (by rw [e0]) (by rw [e0]) (by rw [e0]) (by rw [e0]) (by rw [e0]) (by rw [e0])
end RWS
