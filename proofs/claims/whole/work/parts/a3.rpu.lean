/-! pull: the relation; memories alike -/
section RPU
variable {s ν ν' ρ ρ' ρ0 X Y : mm_T} {f : Int → Int} {a c i k p t w x y z : Int}
theorem rq_cd (h : rq_r ρ ρ') : rq_r ρ (mo_cd ρ' z) := ⟨fun p hp => by
  have hp0 : p ≠ 0 := fun h0 => by rw [h0] at hp; revert hp; decide
  rw [← h.1 p hp]; funext i; exact mm_u_ne (by omega), fun i hi => by rw [← h.2 i hi]; exact mm_u_ne (by omega)⟩
theorem R_rq (h : rq_r ρ ρ') (hR : pt_R s ν ρ f) : pt_R s ν ρ' f := by
  have e2 := h.1 2 (by decide)
  have e3 := h.1 3 (by decide)
  have e4 := h.1 4 (by decide)
  have e5 := h.1 5 (by decide)
  have e6 := h.1 6 (by decide)
  have e9 := h.1 9 (by decide)
  have e10 := h.1 10 (by decide)
  have e11 := h.1 11 (by decide)
  have e13 := h.1 13 (by decide)
  have e14 := h.1 14 (by decide)
  have e15 := h.1 15 (by decide)
  have e16 := h.1 16 (by decide)
  have e17 := h.1 17 (by decide)
  have e19 := h.1 19 (by decide)
  have e20 := h.1 20 (by decide)
  have e25 := h.1 25 (by decide)
  have e26 := h.1 26 (by decide)
  have e27 := h.1 27 (by decide)
  have e28 := h.1 28 (by decide)
  have q1 := h.2 1 (by decide)
  have q8 := h.2 8 (by decide)
  have q12 := h.2 12 (by decide)
  have q21 := h.2 21 (by decide)
  have q22 := h.2 22 (by decide)
  have q23 := h.2 23 (by decide)
  have q24 := h.2 24 (by decide)
  have ew : mo_wt ρ' = mo_wt ρ := by funext c; exact mo_wt_c q24 e25 e28 c
  have ep : mo_pd ρ' = mo_pd ρ := by funext c; exact mo_pd_c e25 e28 c
  obtain ⟨h1, h2, h3, h4, h5, h6, h7, h8, h9, h10, h11, h12, h13, h14⟩ := hR
  refine ⟨h1, ?_, ?_, ?_, ?_, ?_, ?_, ?_, ?_, ?_, ?_, ?_, ?_, ?_⟩
  · unfold pt_Br; rw [q1, e3, e4]; exact h2
  · unfold pt_Bn; rw [q1, e5, e6]; exact h3
  · unfold pt_Sl; rw [q1, e2]; exact h4
  · unfold pt_Ty; rw [q8, e10, e11]; exact h5
  · unfold pt_Tn; rw [q8, e9]; exact h6
  · unfold pt_Ca; rw [q12, e13, e14]; exact h7
  · unfold pt_Cn; rw [q12, e15, e16, e19, e20, ew]; exact h8
  · unfold pt_Cr; rw [q12, e9, e13, e15, e17]; exact h9
  · unfold pt_Cs; rw [q12, e2, e14, e15]; exact h10
  · unfold pt_Q; rw [q12, q24, ew, ep]; exact h11
  · unfold pt_Rq; rw [q24, e26, e27, e28]; exact h12
  · unfold pt_L; rw [q24]; exact h13
  · unfold pt_Z; rw [q1, q8, q12, q21, q22, q23]; exact h14
theorem lfe_cg (h : ν p i = ν' p i) : lf_e ν ρ c a p i = lf_e ν' ρ c a p i := by
  have e : ∀ a x, lf_m ν ρ c a x p i = lf_m ν' ρ c a x p i := fun a x => by
    unfold lf_m
    rw [h]
  unfold lf_e
  split
  · unfold mm_u
    rw [e]
  · unfold mm_u
    rw [e]
theorem rm_cg (h : ∀ p i, p ≠ 28 → ¬ (p = 0 ∧ i = 21) → ¬ (p = 19 ∧ i = c) → X p i = Y p i) (h21 : (X 0 21 = -1 ∧ Y 0 21 = c) ∨ X 0 21 = Y 0 21) (hc : 0 ≤ c) (hp : p ≠ 28) : mo_rm X c y p i = mo_rm Y c y p i := by
  by_cases h0 : p = 0
  · rw [h0]
    by_cases hi : i = 21
    · rw [hi, rm_21, rm_21]
      rcases h21 with ⟨h1, h2⟩ | h1
      · rw [if_neg (by omega), if_pos h2, h1]
      · rw [h1]
    · rw [mo_rm_0 hi, mo_rm_0 hi]
      exact h 0 i (by omega) (by omega) (by omega)
  by_cases h2 : p = 2
  · rw [h2]
    by_cases hi : 0 ≤ i ∧ i < 32
    · rw [rm_2 hi, rm_2 hi, h 2 i (by omega) (by omega) (by omega)]
    · unfold mo_rm mo_rm3 mo_rm2 mo_rm1
      rw [mm_u_ne (by omega), rg_ne (by omega), rg_ne (by omega), mm_u_ne (by omega), mm_u_ne (by omega), mm_u_ne (by omega), rg_ne (by omega), rg_ne (by omega), mm_u_ne (by omega), mm_u_ne (by omega)]
      exact h 2 i (by omega) (by omega) (by omega)
  by_cases h15 : p = 15
  · rw [h15, rm_15, rm_15, h 15 i (by omega) (by omega) (by omega)]
  by_cases h17 : p = 17
  · rw [h17, rm_17, rm_17, h 17 i (by omega) (by omega) (by omega)]
  by_cases h19 : p = 19
  · rw [h19, rm_19, rm_19]
    by_cases hi : i = c
    · rw [if_pos hi, if_pos hi]
    · rw [if_neg hi, if_neg hi]
      exact h 19 i (by omega) (by omega) (by omega)
  · rw [rm_ne ⟨h0, h2, h15, h17, h19⟩, rm_ne ⟨h0, h2, h15, h17, h19⟩]
    exact h p i hp (by omega) (by omega)
theorem pu_eq (h : ∀ p i, ¬ (p = 0 ∧ i = 21) → X p i = Y p i) (h21 : (X 0 21 = -1 ∧ Y 0 21 = c) ∨ X 0 21 = Y 0 21) (hc : 0 ≤ c) : mo_rm (mo_ls (mm_u X 19 c 0) c (-1)) c y = mo_ls (mo_rm Y c y) c (-1) := by
  funext p i
  by_cases hp : p = 28
  · rw [hp, rm_ne (by omega), ls_28, ls_28, mo_rm_0 (by omega), mm_u_ne (by omega), h 0 24 (by omega)]
    unfold mo_lsg
    rw [rm_ne (by omega), rm_ne (by omega), mm_u_ne (by omega), mm_u_ne (by omega), h 25 i (by omega), h 28 i (by omega)]
  · rw [ls_ne hp]
    refine rm_cg (fun p i h1 h2 h3 => ?_) ?_ hc hp
    · rw [ls_ne h1, mm_u_ne (by omega)]
      exact h p i h2
    · rw [ls_ne (by omega), mm_u_ne (by omega)]
      exact h21
theorem R_pu (hA : iv_A ρ0 f) (hU : iv_U ρ0) (h8 : iv_8 ρ0) (hR : pt_R s ν ρ0 f) (hc : 0 ≤ c ∧ c < ρ0 0 12) (h15 : ρ0 15 c ≤ 3) (hcm : ρ0 0 21 ≠ c) : pt_R s (lf_e (to_m s ν ρ0 c 4) ρ0 c 0) (mo_rm (mo_ls (mm_u ρ0 19 c 0) c (-1)) c 4) f := by
  have b1 := hA.1.1
  have b12 := hA.1.2.2.1
  have b24 := hA.1.2.2.2.2.2.1
  have hcd := hA.1.cd c hc.1 (by omega)
  have hsl := (hR.ca c hc.1 hc.2).2.2.1
  have h1 : ls_1 ρ0 (mm_u ρ0 19 c 0) c 0 := ⟨fun p h1 h2 h3 => by funext i; exact mm_u_ne (by omega), fun i _ => mm_u_ne (by omega), fun i hi => ⟨mm_u_ne (by omega), mm_u_ne (by omega)⟩, Or.inl (mm_u_ne (by omega)), by rw [mm_u_at, if_pos rfl]⟩
  have hw : ls_w ρ0 c (-1) 0 := Or.inl ⟨rfl, rfl⟩
  have hRb : pt_R s (lf_e ν ρ0 c 0) (mo_ls (mm_u ρ0 19 c 0) c (-1)) f := by
    refine R_ls hA h8 hR hc h1 hw (fun p i g1 g2 g3 g4 => lfe_ne b24.2 (by omega) g3 g4) ⟨?_, lfe_8 (by omega), ?_⟩ (fun h => by omega) (fun t t0 t1 => lfe_t (by omega) t0 t1)
    · rcases lfe_6 (ν := ν) (ρ := ρ0) (c := c) (a := 0) with h | h
      · rw [h, mm_u_ne (by omega)]
        exact (hR.cn c hc.1 hc.2).2.2.1
      · omega
    · rw [lfe_9 (by omega), if_pos rfl, mm_u_at]
  have er : ∀ p, p ≠ 19 → p ≠ 28 → mo_ls (mm_u ρ0 19 c 0) c (-1) p = ρ0 p := fun p g1 g2 => by
    rw [ls_ne g2]; funext i; exact mm_u_ne (by omega)
  have hB : mo_B (mo_ls (mm_u ρ0 19 c 0) c (-1)) := mo_B_ls (mo_Bu_19 hA.1 (by omega))
  have e19 : mo_ls (mm_u ρ0 19 c 0) c (-1) 19 c = 0 := by rw [ls_ne (by omega), mm_u_at]
  have hwc := ls_wa b24.1 h1 hw
  have hwo : ∀ c2, c2 ≠ c → mo_wt (mo_ls (mm_u ρ0 19 c 0) c (-1)) c2 = mo_wt ρ0 c2 := fun c2 h => by rw [ls_wt (by rw [mm_u_ne (by omega)]; omega) h, ls_wt1 h1]
  generalize mo_ls (mm_u ρ0 19 c 0) c (-1) = ρb at *
  have e0 := er 0 (by omega) (by omega)
  have hAb : iv_A ρb f := by
    refine ⟨hB, mo_C_fr (er 2 (by omega) (by omega)) (er 5 (by omega) (by omega)) (er 6 (by omega) (by omega)) (er 9 (by omega) (by omega)) (er 13 (by omega) (by omega)) (er 17 (by omega) (by omega)) hA.2.1, tr_fr (congrFun e0 1) (er 2 (by omega) (by omega)) (er 3 (by omega) (by omega)) hA.2.2.1, by unfold mo_p2s; rw [er 9 (by omega) (by omega)]; exact hA.2.2.2.1, by rw [er 11 (by omega) (by omega)]; exact hA.2.2.2.2.1, ?_⟩
    unfold iv_K
    rw [e0, er 2 (by omega) (by omega), er 13 (by omega) (by omega), er 14 (by omega) (by omega), er 15 (by omega) (by omega)]
    exact hA.2.2.2.2.2
  have hUb : iv_U ρb := by unfold iv_U; rw [er 2 (by omega) (by omega)]; exact hU
  have h8b : iv_8 ρb := by
    intro c2 c0 c1
    rw [e0] at c1
    by_cases hcc : c2 = c
    · rw [hcc, hwc]; omega
    · rw [hwo c2 hcc]; exact h8 c2 c0 c1
  have hN : rm_N s (lf_e ν ρ0 c 0) ρb (lf_e (to_m s ν ρ0 c 4) ρ0 c 0) c 4 (ρb 16 c) := by
    refine ⟨?_, ?_, ?_, ?_, ?_⟩
    · rw [er 14 (by omega) (by omega), lfe_ne b24.2 (by omega) (by omega) (by omega)]
      unfold to_m
      rw [mm_u_ne (by omega), mm_u_at]
    · rcases lfe_6 (ν := to_m s ν ρ0 c 4) (ρ := ρ0) (c := c) (a := 0) with h | h
      · rw [h]
        unfold to_m
        exact mm_u_at
      · omega
    · rw [lfe_ne b24.2 (by omega) (by omega) (by omega), er 16 (by omega) (by omega)]
      unfold to_m
      rw [mm_u_ne (by omega), mm_u_ne (by omega)]
      exact (hR.cn c hc.1 hc.2).2.2.2.1
    · rw [lfe_ne b24.2 (by omega) (by omega) (by omega), e0]
      unfold to_m
      rw [mm_u_ne (by omega), mm_u_ne (by omega), hR.z.2.2.2.1]
      by_cases h : ρ0 0 21 < 0
      · rw [if_pos h, if_pos (Or.inr h)]
      · rw [if_neg h, if_neg (by omega)]
    · intro p i g1 g2 g3 g4
      refine lfe_cg ?_
      rw [er 14 (by omega) (by omega)] at g2
      unfold to_m
      rw [mm_u_ne (by omega), mm_u_ne (by omega)]
  have h := R_rm hAb hUb h8b hRb (by rw [e0]; exact hc) (by rw [er 15 (by omega) (by omega)]; exact h15) (y := 4) (Or.inl rfl) e19 hN
  rwa [mm_u_self] at h
end RPU
