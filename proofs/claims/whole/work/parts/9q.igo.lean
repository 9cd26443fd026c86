/-! a step of the reference: the invariant -/
section IGO
variable {s ν ρ ρ' : mm_T} {f : Int → Int} {c i k r x y z : Int}
theorem iv_ck (hI : iv_I ρ f) (hcm : 0 ≤ ρ 0 21) : iv_I (ck_f ρ) f := by
  have b21 := hI.1.1.2.2.2.1
  have hst := hI.2.2.2.2.2.2.2.2.1.1 hcm
  unfold ck_f
  by_cases h1 : ck_p ρ (ρ 0 21) 8 (ρ 14 (ρ 0 21)) 1 = 0
  · rw [if_pos h1]
    exact iv_rm hI ⟨hcm, b21.2⟩ (by omega) (by omega)
  · rw [if_neg h1]
    rcases hf : fg_r ρ (ρ 0 21) with _ | ⟨x, e, q⟩
    · show iv_I (if ck_s ρ (ρ 0 12).toNat 0 0 ≠ 0 then mo_rm (mm_u ρ 16 (ρ 0 21) 2) (ρ 0 21) 5 else if 4096 < mo_ld (mo_me (ρ 0 1).toNat ρ) 0 then mo_rm (mm_u ρ 16 (ρ 0 21) 3) (ρ 0 21) 5 else mo_ch (mm_u ρ 0 22 1) 1 2) f
      by_cases h2 : ck_s ρ (ρ 0 12).toNat 0 0 ≠ 0
      · rw [if_pos h2]
        exact iv_rm hI ⟨hcm, b21.2⟩ (by omega) (by omega)
      · rw [if_neg h2]
        by_cases h3 : 4096 < mo_ld (mo_me (ρ 0 1).toNat ρ) 0
        · rw [if_pos h3]
          exact iv_rm hI ⟨hcm, b21.2⟩ (by omega) (by omega)
        · rw [if_neg h3]
          exact iv_ch (iv_22 hI (by omega)) (Or.inl ⟨rfl, rfl⟩)
    · exact iv_pl hI ⟨hcm, b21.2⟩ rfl (fg_p hI ⟨hcm, b21.2⟩ hf)
theorem iv_go2 (hI : iv_I ρ f) : iv_I (go_2 ρ r).1 f := by
  unfold go_2
  by_cases h1 : ρ 0 21 < 0
  · rw [if_pos h1]; exact hI
  · rw [if_neg h1]
    by_cases h2 : ρ 0 22 = 0
    · rw [if_pos h2]; exact iv_ck hI (by omega)
    · rw [if_neg h2]
      by_cases h3 : go_w ρ (ρ 0 12).toNat 0 = 1
      · rw [if_pos h3]; exact hI
      · rw [if_neg h3]
        exact iv_mv hI (by omega) (pv_F0 hI (hI.2.2.2.2.2.2.2.2.2.2 (by omega) h2))
theorem iv_gof (hI : iv_I ρ f) : iv_I (go_f ρ).1 f := iv_go2 (iv_go0 hI)
theorem gi_of (hI : iv_I ρ f) (h29 : mo_b1 ρ 29) (h30 : mo_b1 ρ 30) : gi_I ρ f := by
  have b1 := hI.1.1.1
  have b12 := hI.1.1.2.2.1
  have b21 := hI.1.1.2.2.2.1
  refine ⟨hI.1.1, hI.1.2.1, hI.1.2.2.1, hI.1.2.2.2.1, h29, h30, hI.1.2.2.2.2.1, fun h1 h2 h3 => ?_, fun h1 h2 => pv_maq hI (pv_F0 hI (hI.2.2.2.2.2.2.2.2.2.2 h1 h2))⟩
  have hcd := hI.1.1.cd (ρ 0 21) h1 (by omega)
  have hK := hI.1.2.2.2.2.2.1 (ρ 0 21) h1 b21.2
  have hov := hI.1.1.ov (ρ 14 (ρ 0 21)) (by omega) (by omega)
  have := op_in hI (b := ρ 14 (ρ 0 21)) (by
    by_cases hz : ρ 14 (ρ 0 21) = 0
    · rw [hz] at hov h2; omega
    · omega) h3
  omega
end IGO
