/-! when only the requests of one card change -/
section RQ
variable {s ν ν' ρ ρ' : mm_T} {f : Int → Int} {c i k t x y z : Int}
theorem iv_q (hI : iv_I ρ f) (hB : mo_B ρ') (er : ∀ p, p ≠ 0 → p ≠ 15 → p ≠ 19 → p ≠ 20 → p ≠ 28 → ρ' p = ρ p) (e0 : ∀ i, i ≠ 0 → ρ' 0 i = ρ 0 i) (e15 : ∀ c, 0 ≤ c → c < ρ 0 12 → ρ' 15 c = ρ 15 c ∨ (ρ 15 c = 1 ∧ ρ' 15 c = 3)) (e19 : ∀ c, ρ 0 12 ≤ c → c < 40 → ρ' 19 c = ρ 19 c ∧ ρ' 20 c = ρ 20 c) (h8' : iv_8 ρ') (hP' : iv_P ρ') : iv_I ρ' f := by
  obtain ⟨hA, hU, h8, hD, hW, hO, hRg, hP, hN, hZ, hX⟩ := hI
  have b21 := hA.1.2.2.2.1
  have e2 := er 2 (by omega) (by omega) (by omega) (by omega) (by omega)
  have e3 := er 3 (by omega) (by omega) (by omega) (by omega) (by omega)
  have e5 := er 5 (by omega) (by omega) (by omega) (by omega) (by omega)
  have e6 := er 6 (by omega) (by omega) (by omega) (by omega) (by omega)
  have e9 := er 9 (by omega) (by omega) (by omega) (by omega) (by omega)
  have e11 := er 11 (by omega) (by omega) (by omega) (by omega) (by omega)
  have e13 := er 13 (by omega) (by omega) (by omega) (by omega) (by omega)
  have e14 := er 14 (by omega) (by omega) (by omega) (by omega) (by omega)
  have e16 := er 16 (by omega) (by omega) (by omega) (by omega) (by omega)
  have e17 := er 17 (by omega) (by omega) (by omega) (by omega) (by omega)
  have e25 := er 25 (by omega) (by omega) (by omega) (by omega) (by omega)
  have q1 := e0 1 (by omega)
  have q8 := e0 8 (by omega)
  have q12 := e0 12 (by omega)
  have q21 := e0 21 (by omega)
  have q22 := e0 22 (by omega)
  have q24 := e0 24 (by omega)
  have em : mo_ld (mo_me (ρ' 0 1).toNat ρ') 0 = mo_ld (mo_me (ρ 0 1).toNat ρ) 0 := by
    rw [q1]
    exact me_ld e2 (er 7 (by omega) (by omega) (by omega) (by omega) (by omega)) e9 e13
  have hX2 : iv_X ρ' := by
    intro h1 h2
    rw [q21] at h1
    rw [q22] at h2
    rw [em]
    exact hX h1 h2
  refine ⟨⟨hB, mo_C_fr e2 e5 e6 e9 e13 e17 hA.2.1, tr_fr q1 e2 e3 hA.2.2.1, by unfold mo_p2s; rw [e9]; exact hA.2.2.2.1, by rw [e11]; exact hA.2.2.2.2.1, by rw [q12, q1, q8, e13, e14]; exact hA.2.2.2.2.2.1, fun i i0 i1 h1 => ?_⟩, by unfold iv_U; rw [e2]; exact hU, h8', ?_, ?_, by unfold iv_O; rw [e5, e6]; exact hO, ?_, hP', ?_, ?_, hX2⟩
  · rw [e2] at h1 ⊢
    rw [q12, e14]
    have := hA.2.2.2.2.2.2 i i0 i1 h1
    refine ⟨this.1, this.2.1, ?_⟩
    have := e15 _ (by omega) this.1
    omega
  · unfold iv_D iv_lo iv_hi at hD ⊢
    rw [e2, e5, e6, e9, e13, e17]
    exact hD
  · unfold iv_W iv_lo iv_hi at hW ⊢
    rw [e2, e5, e6, e9, e13, e17]
    exact hW
  · intro c2 k c0 c1 k0 k1
    rw [q12] at c1
    have h15 := e15 c2 c0 c1
    rw [e9, e13, e17]
    rcases hRg c2 k c0 c1 k0 k1 with ⟨h1, h2⟩ | ⟨h1, h2⟩
    · exact Or.inl ⟨by omega, h2⟩
    · exact Or.inr ⟨fun h => h1 ⟨by omega, h.2⟩, h2⟩
  · refine ⟨fun h => ?_, fun c2 c0 c1 hs => ?_, fun c2 c0 c1 hs => ?_, by rw [q1, e2]; exact hN.2.2.2⟩
    · rw [q21] at h ⊢
      have := hN.1 h
      have := e15 _ h (by omega)
      omega
    · rw [q12] at c1
      rw [q21]
      have := e15 c2 c0 c1
      exact hN.2.1 c2 c0 c1 (by omega)
    · rw [q12] at c1
      have := e15 c2 c0 c1
      rw [e2]
      exact hN.2.2.1 c2 c0 c1 (by omega)
  · obtain ⟨z1, z2, z3, z4, z5⟩ := hZ
    refine ⟨by rw [q1, e2]; exact z1, by rw [q1, e5, e6]; exact z2, fun c2 h1 h2 => ?_, by rw [q24, q12, e25]; exact z4, by rw [q12, e17]; exact z5⟩
    rw [q12] at h1
    rw [e16, (e19 c2 h1 h2).1, (e19 c2 h1 h2).2]
    exact z3 c2 h1 h2
theorem R_q (hA : iv_A ρ f) (h8 : iv_8 ρ) (hR : pt_R s ν ρ f) (hc : 0 ≤ c ∧ c < ρ 0 12) (er : ∀ p, p ≠ 0 → p ≠ 15 → p ≠ 19 → p ≠ 20 → p ≠ 28 → ρ' p = ρ p) (e0 : ∀ i, i ≠ 0 → ρ' 0 i = ρ 0 i) (e15 : ∀ c, 0 ≤ c → c < ρ 0 12 → ρ' 15 c = ρ 15 c ∨ (ρ 15 c = 1 ∧ ρ' 15 c = 3))
    (hν : ∀ p i, 50 ≤ p → ¬ (p = 300 + c ∧ (i = 6 ∨ i = 8 ∨ i = 9 ∨ i = 10)) → p ≠ 380 + c → ¬ (1000 ≤ p ∧ p < 1512 ∧ i = 2) → ν' p i = ν p i)
    (o19 : ∀ c2, c2 ≠ c → ρ' 19 c2 = ρ 19 c2 ∧ ρ' 20 c2 = ρ 20 c2 ∧ ρ' 15 c2 = ρ 15 c2) (opd : ∀ c2, c2 ≠ c → ∀ t, 0 ≤ t → t < ρ 0 24 → mo_pd ρ' c2 t = mo_pd ρ c2 t)
    (hCf : ν' (300 + c) 6 = ρ' 15 c ∧ ν' (300 + c) 8 = mo_wt ρ' c ∧ ν' (300 + c) 9 = ρ' 19 c ∧ ν' (300 + c) 10 = ρ' 20 c)
    (hQ : ∀ i, 0 ≤ i → i < mo_wt ρ' c → ∃ t, 0 ≤ t ∧ t < ρ 0 24 ∧ ν' (380 + c) i = 1000 + t ∧ mo_pd ρ' c t = 1 ∧ rk_t ρ' c t = i) (hRq : ∀ t, 0 ≤ t → t < ρ 0 24 → ν' (1000 + t) 2 = ρ' 28 t) : pt_R s ν' ρ' f := by
  have b1 := hA.1.1
  have b8 := hA.1.2.1
  have b12 := hA.1.2.2.1
  have b24 := hA.1.2.2.2.2.2.1
  have e2 := er 2 (by omega) (by omega) (by omega) (by omega) (by omega)
  have e9 := er 9 (by omega) (by omega) (by omega) (by omega) (by omega)
  have e13 := er 13 (by omega) (by omega) (by omega) (by omega) (by omega)
  have e14 := er 14 (by omega) (by omega) (by omega) (by omega) (by omega)
  have e17 := er 17 (by omega) (by omega) (by omega) (by omega) (by omega)
  have q1 := e0 1 (by omega)
  have q8 := e0 8 (by omega)
  have q12 := e0 12 (by omega)
  have q24 := e0 24 (by omega)
  have ow : ∀ c2, c2 ≠ c → mo_wt ρ' c2 = mo_wt ρ c2 := fun c2 h => by
    unfold mo_wt
    rw [q24]
    exact sm_c _ (fun i i0 i1 => opd c2 h i i0 (by omega))
  refine ⟨hR.sh, ?_, ?_, ?_, ?_, ?_, ?_, ?_, ?_, ?_, ?_, ?_, ?_, ?_⟩
  · exact pt_Br_c hR.br q1 (fun b _ _ => by rw [er 3 (by omega) (by omega) (by omega) (by omega) (by omega)]) (fun b _ _ => by rw [er 4 (by omega) (by omega) (by omega) (by omega) (by omega)])
  · exact pt_Bn_c hR.bn q1 (fun b h1 h2 => ⟨hν 51 b (by omega) (by omega) (by omega) (by omega), hν (100 + b) 6 (by omega) (by omega) (by omega) (by omega), hν (100 + b) 7 (by omega) (by omega) (by omega) (by omega), by rw [er 5 (by omega) (by omega) (by omega) (by omega) (by omega)], by rw [er 6 (by omega) (by omega) (by omega) (by omega) (by omega)]⟩)
  · exact pt_Sl_c hR.sl q1 (fun b i h1 h2 h3 h4 => ⟨hν (110 + b) i (by omega) (by omega) (by omega) (by omega), hν (120 + b) i (by omega) (by omega) (by omega) (by omega), by rw [e2]⟩)
  · exact pt_Ty_c hR.ty q8 (fun t _ _ => ⟨by rw [er 10 (by omega) (by omega) (by omega) (by omega) (by omega)], by rw [er 11 (by omega) (by omega) (by omega) (by omega) (by omega)]⟩)
  · exact pt_Tn_c hR.tn q8 e9 (fun t h1 h2 => ⟨hν 52 t (by omega) (by omega) (by omega) (by omega), fun k k0 k1 => ⟨hν (220 + t) k (by omega) (by omega) (by omega) (by omega), hν (240 + t) k (by omega) (by omega) (by omega) (by omega)⟩⟩)
  · exact pt_Ca_c hR.ca q12 (fun c2 _ _ => ⟨by rw [e14], by rw [e13]⟩)
  · refine pt_Cn_c hR.cn q12 (fun c2 h1 h2 h3 => ?_)
    obtain ⟨g1, g2, g3, g4, g5, g6, g7⟩ := h3
    unfold pt_Cf
    rw [hν 53 c2 (by omega) (by omega) (by omega) (by omega), hν (300 + c2) 5 (by omega) (by omega) (by omega) (by omega), hν (300 + c2) 7 (by omega) (by omega) (by omega) (by omega), er 16 (by omega) (by omega) (by omega) (by omega) (by omega)]
    by_cases hcc : c2 = c
    · rw [hcc] at g1 g2 g4 ⊢
      exact ⟨g1, g2, hCf.1, g4, hCf.2.1, hCf.2.2.1, hCf.2.2.2⟩
    · rw [hν (300 + c2) 6 (by omega) (by omega) (by omega) (by omega), hν (300 + c2) 8 (by omega) (by omega) (by omega) (by omega), hν (300 + c2) 9 (by omega) (by omega) (by omega) (by omega), hν (300 + c2) 10 (by omega) (by omega) (by omega) (by omega), (o19 c2 hcc).1, (o19 c2 hcc).2.1, (o19 c2 hcc).2.2, ow c2 hcc]
      exact ⟨g1, g2, g3, g4, g5, g6, g7⟩
  · refine pt_Cr_c hR.cr q12 e9 (fun c2 k h1 h2 h3 h4 => ⟨hν (340 + c2) k (by omega) (by omega) (by omega) (by omega), by rw [e13], fun h5 => ?_⟩)
    have := e15 c2 h1 h2
    exact ⟨by omega, by rw [e17]⟩
  · refine pt_Cs_c hR.cs q12 (fun c2 h1 h2 h3 => ?_)
    have := e15 c2 h1 h2
    exact ⟨by omega, by rw [e14], fun h4 => by rw [e2]; exact h4⟩
  · intro c2 i h1 h2 h3 h4
    rw [q12] at h2
    rw [q24]
    by_cases hcc : c2 = c
    · rw [hcc] at h4 ⊢
      exact hQ i h3 h4
    · rw [ow c2 hcc] at h4
      have h8c := h8 c2 h1 h2
      obtain ⟨t, t0, t1, t2, t3, t4⟩ := hR.q c2 i h1 h2 h3 h4
      refine ⟨t, t0, t1, by rw [hν (380 + c2) i (by omega) (by omega) (by omega) (by omega)]; exact t2, by rw [opd c2 hcc t t0 t1]; exact t3, ?_⟩
      rw [← t4]
      exact sm_c _ (fun i i0 i1 => opd c2 hcc i i0 (by omega))
  · exact pt_Rq_c hR.rq q24 (fun t h1 h2 => ⟨by rw [er 26 (by omega) (by omega) (by omega) (by omega) (by omega)], by rw [er 27 (by omega) (by omega) (by omega) (by omega) (by omega)], fun _ => hRq t h1 h2⟩)
  · exact pt_L_c hR.li hA.1 q24 (hν 54 0 (by omega) (by omega) (by omega) (by omega)) (hν 54 1 (by omega) (by omega) (by omega) (by omega)) (fun p t hp => hν p t (by omega) (by omega) (by omega) (by omega))
  · exact pt_Z_c hR.z (fun i _ _ => hν 50 i (by omega) (by omega) (by omega) (by omega)) q1 q8 q12 (e0 21 (by omega)) (e0 22 (by omega)) (e0 23 (by omega))
end RQ
