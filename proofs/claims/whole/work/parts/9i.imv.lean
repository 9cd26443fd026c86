/-! moving all: the invariant afterwards -/
section IMV
variable {s ν ρ : mm_T} {f : Int → Int} {T : pn_T} {μ : mm_T} {b c i k u x y : Int}
theorem pn_hi (hT : tr_I μ f) (hx : μ 0 1 ≤ x) (h8 : μ 0 1 ≤ 8) : ∀ (n : Nat) (b : Int) (T : pn_T), 0 ≤ b → b + n = μ 0 1 → (pn_b μ n b T).2.1 x = T.2.1 x ∧ (pn_b μ n b T).2.2 x = T.2.2 x
  | 0, b, T, h0, hn => ⟨rfl, rfl⟩
  | n + 1, b, T, h0, hn => by
    have ih := pn_hi hT hx h8 n (b + 1) (pn_1 μ b T) (by omega) (by omega)
    have e1 : (pn_1 μ b T).2.1 x = T.2.1 x := by
      have h := pz_z (μ := μ) (b := b) (S := (T.1, pn_b1 μ b T.2.1, pn_b1 μ b T.2.1 b)) (P := fun S => S.2.1 x = T.2.1 x) (fun z m S hz m0 m1 hS => by
        rw [st_ebg (b := b) hT (lv_64 z hz).1 (by omega) (by omega) (fun h => by omega)]
        exact hS) (if_neg (by omega))
      exact h
    have e2 : (pn_1 μ b T).2.2 x = T.2.2 x := if_neg (by omega)
    exact ⟨ih.1.trans e1, ih.2.trans e2⟩
/-- what the reference holds after all moved -/
abbrev mv_e (ρ : mm_T) : mm_T := ma_e (mo_pn ρ)
theorem mve_15 (hc : 0 ≤ c ∧ c < ρ 0 12) : mv_e ρ 15 c = if c = ρ 0 21 then 1 else if ρ 15 c = 2 then 1 else ρ 15 c := by
  show mm_u (mm_u (mo_ch (mv_r ρ) 2 1) 15 (mo_pn ρ 0 21) 1) 0 21 (-1) 15 c = _
  rw [mm_u_ne (by omega), pn_fr 0 (by decide)]
  by_cases h : c = ρ 0 21
  · rw [h, mm_u_at, if_pos rfl]
  · rw [mm_u_ne (by omega), if_neg h, ch_15 (by rw [mvr_n (by omega) (by omega) (by omega)]; exact hc), mvr_r (by omega) (by omega)]
theorem mve_p {p : Int} (h : p ≠ 15 ∧ p ≠ 0) : mv_e ρ p = mv_r ρ p := by
  funext i
  show mm_u (mm_u (mo_ch (mv_r ρ) 2 1) 15 (mo_pn ρ 0 21) 1) 0 21 (-1) p i = _
  rw [mm_u_ne (by omega), mm_u_ne (by omega), ch_ne h.1]
theorem mve_0 (h : i ≠ 21 ∧ i ≠ 23) : mv_e ρ 0 i = ρ 0 i := by
  show mm_u (mm_u (mo_ch (mv_r ρ) 2 1) 15 (mo_pn ρ 0 21) 1) 0 21 (-1) 0 i = _
  rw [mm_u_ne (by omega), mm_u_ne (by omega), ch_ne (by omega), mvr_n (by omega) (by omega) (by omega)]
theorem mve_21 : mv_e ρ 0 21 = -1 := mm_u_at
theorem mve_r {p : Int} (h : p ≠ 15 ∧ p ≠ 0 ∧ p ≠ 17 ∧ p ≠ 7 ∧ p ≠ 18 ∧ p ≠ 5 ∧ p ≠ 6) : mv_e ρ p = ρ p := by
  rw [mve_p (by omega), mvr_r (by omega) (by omega)]
theorem iv_mv (hI : iv_I ρ f) (hcm : 0 ≤ ρ 0 21) (hF : pv_F (mo_me (ρ 0 1).toNat ρ) f (pv_T ρ)) : iv_I (mv_e ρ) f := by
  have hmq := pv_maq hI hF
  have hq := fun c k (hc : 0 ≤ c ∧ c < ρ 0 12) (hk : 0 ≤ k ∧ k < 3) (hs : ρ 15 c ≤ 3) (hz : 0 < ρ 9 (3 * ρ 13 c + k)) => pv_q hI hF hc hk hs hz
  have hpc := fun c (hc : 0 ≤ c ∧ c < ρ 0 12) (hs : ρ 15 c ≤ 3) => pv_c hI hc hs
  obtain ⟨hA, hU, h8, hD, hW, hO, hRg, hP, hN, hZ, hX⟩ := hI
  have b1 := hA.1.1
  have b12 := hA.1.2.2.1
  have b21 := hA.1.2.2.2.1
  have hf := me_fr (ρ 0 1).toNat ρ
  have h0 := hf 0 (by decide)
  have f2 := hf 2 (by decide)
  have f9 := hf 9 (by decide)
  have f13 := hf 13 (by decide)
  obtain ⟨g1, g2, g3, g4, g5, g6, g7, g8⟩ := hF
  have hst : ∀ c, 0 ≤ c → c < ρ 0 12 → (0 ≤ ρ 15 c ∧ ρ 15 c ≤ 5) := fun c h1 h2 => (hA.1.cd c h1 (by omega)).2.2.1
  have hcm0 : ρ 15 (ρ 0 21) = 0 := hN.1 hcm
  have hbd := fun b (q1 : 0 ≤ b) (q2 : b < ρ 0 1) => pn_bd g1 g6 g7 g4 g5 g8 (ρ 0 1).toNat b q1 (by omega) (by rw [h0]; exact q2)
  have hp5 := fun b (q1 : 0 ≤ b) (q2 : b < ρ 0 1) => g8.2.2.2.2 b q1 (by rw [h0]; exact q2)
  have hhi : ∀ u, ρ 0 1 ≤ u → u < 8 → (pv_T ρ).2.1 u = 0 ∧ (pv_T ρ).2.2 u = 0 := fun u q1 q2 => by
    have := pn_hi (x := u) g1.2.2.1 (by rw [h0]; exact q1) (by rw [h0]; omega) (ρ 0 1).toNat 0 (ρ 18, ρ 5, ρ 6) (by omega) (by rw [h0]; omega)
    have hz := hZ.2.1 u q1 q2
    exact ⟨this.1.trans hz.1, this.2.trans hz.2⟩
  -- rows
  have r2 : mv_e ρ 2 = ρ 2 := mve_r (by omega)
  have r3 : mv_e ρ 3 = ρ 3 := mve_r (by omega)
  have r9 : mv_e ρ 9 = ρ 9 := mve_r (by omega)
  have r11 : mv_e ρ 11 = ρ 11 := mve_r (by omega)
  have r13 : mv_e ρ 13 = ρ 13 := mve_r (by omega)
  have r14 : mv_e ρ 14 = ρ 14 := mve_r (by omega)
  have r16 : mv_e ρ 16 = ρ 16 := mve_r (by omega)
  have r19 : mv_e ρ 19 = ρ 19 := mve_r (by omega)
  have r20 : mv_e ρ 20 = ρ 20 := mve_r (by omega)
  have r25 : mv_e ρ 25 = ρ 25 := mve_r (by omega)
  have r28 : mv_e ρ 28 = ρ 28 := mve_r (by omega)
  have r5 : mv_e ρ 5 = (pv_T ρ).2.1 := by rw [mve_p (by omega), mvr_5]
  have r6 : mv_e ρ 6 = (pv_T ρ).2.2 := by rw [mve_p (by omega), mvr_6]
  have r17 : ∀ c k, 0 ≤ c → c < ρ 0 12 → 0 ≤ k → k < 3 → mv_e ρ 17 (3 * c + k) = if ρ 15 c ≤ 3 ∧ 0 < ρ 9 (3 * ρ 13 c + k) then (pv_T ρ).1 (3 * c + k) else -1 := fun c k c0 c1 k0 k1 => by
    rw [mve_p (by omega), mvr_17 ⟨c0, c1⟩ ⟨k0, k1⟩]
    have := hRg c k c0 c1 k0 k1
    have := hst c c0 c1
    by_cases h : ρ 15 c ≤ 3 ∧ 0 < ρ 9 (3 * ρ 13 c + k)
    · rw [if_pos h]
      by_cases hs0 : ρ 15 c = 0
      · rw [if_pos ⟨Or.inr (hN.2.1 c c0 c1 hs0), h.2⟩]
      · rw [if_pos ⟨Or.inl (by omega), h.2⟩]
    · rw [if_neg h, if_neg (fun h2 => h ⟨by
        rcases h2.1 with h3 | h3
        · exact h3.2
        · rw [h3]; omega, h2.2⟩)]
      omega
  have r15 : ∀ c, 0 ≤ c → c < ρ 0 12 → mv_e ρ 15 c = if c = ρ 0 21 then 1 else if ρ 15 c = 2 then 1 else ρ 15 c := fun c c0 c1 => mve_15 ⟨c0, c1⟩
  have r17h : ∀ c k, ρ 0 12 ≤ c → 0 ≤ k → k < 3 → mv_e ρ 17 (3 * c + k) = ρ 17 (3 * c + k) := fun c k q1 q2 q3 => by
    rw [mve_p (by omega)]
    show ma_m (mo_pn ρ) _ _ 17 (3 * c + k) = _
    have e12 : mo_pn ρ 0 12 = ρ 0 12 := by rw [pn_fr 0 (by decide)]
    rw [ma_17, ma_cf, if_neg (by omega)]
    show mo_pn ρ 17 (3 * c + k) = _
    rw [pn_fr 17 (by decide)]
  have hBn : mo_B (mv_e ρ) := by
    have hB1 : mo_B (mo_pn ρ) := mo_B_fr (fr_w pn_fr (by decide)) hA.1
    have hc1 : 0 ≤ mo_pn ρ 0 21 := by rw [pn_fr 0 (by decide)]; exact hcm
    have n12 := hB1.2.2.1
    exact mo_Bs_21 (mo_Bu_15 (mo_B_ch (mo_B_ma hB1 (ma_l_b hmq _ 0 _ (by omega) (by omega) hB1.2.2.2.2.2.2.2.2.2.2.2.2.1)) (by omega)) (by omega)) ⟨by omega, by
      show -1 < mm_u (mo_ch (ma_f (mo_pn ρ) (ma_l (mo_pn ρ) (mo_pn ρ 0 12).toNat 0 (mo_pn ρ 17, 0))) 2 1) 15 (mo_pn ρ 0 21) 1 0 12
      rw [mm_u_ne (by omega), ch_ne (by omega)]
      show -1 < ma_m (mo_pn ρ) _ _ 0 12
      rw [ma_ne (by omega) (by omega)]
      omega⟩
  have q21 : mv_e ρ 0 21 = -1 := mve_21
  have q0 : ∀ i, i ≠ 21 → i ≠ 23 → mv_e ρ 0 i = ρ 0 i := fun i h1 h2 => mve_0 ⟨h1, h2⟩
  generalize mv_e ρ = ρ3 at r2 r3 r9 r11 r13 r14 r16 r19 r20 r25 r28 r5 r6 r17 r15 r17h hBn q21 q0 ⊢
  -- intervals
  have hil : ∀ i k, 0 ≤ i → i < 32 → 0 ≤ k → k < 3 → (0 < it_s (mo_me (ρ 0 1).toNat ρ) i k ∧ i / 4 < ρ 0 1 ∧ iv_lo ρ3 i k = po_s (mo_me (ρ 0 1).toNat ρ) ((pv_T ρ).1, (pv_T ρ).2.1, 0) i k ∧ iv_hi ρ3 i k = po_s (mo_me (ρ 0 1).toNat ρ) ((pv_T ρ).1, (pv_T ρ).2.1, 0) i k + it_s (mo_me (ρ 0 1).toNat ρ) i k) ∨ (iv_lo ρ3 i k = 0 ∧ iv_hi ρ3 i k = 0) := fun i k i0 i1 k0 k1 => by
    have hs := hA.1.2.2.2.2.2.2.2.1 i i0 i1
    have hsc := hA.2.1.1 i i0 i1
    by_cases h100 : 100 ≤ ρ 2 i
    · have hk := hA.2.2.2.2.2.2 i i0 i1 h100
      obtain ⟨c, hc⟩ : ∃ c, ρ 2 i = c + 100 := ⟨ρ 2 i - 100, by omega⟩
      rw [show ρ 2 i - 100 = c by omega] at hk
      have hk2 := hA.2.2.2.2.2.1 c (by omega) (by omega)
      have hit : it_s (mo_me (ρ 0 1).toNat ρ) i k = ρ 9 (3 * ρ 13 c + k) := by rw [it_c (by rw [f2]; omega), f2, f9, f13, hc, show c + 100 - 100 = c by omega]
      have hpo : po_s (mo_me (ρ 0 1).toNat ρ) ((pv_T ρ).1, (pv_T ρ).2.1, 0) i k = (pv_T ρ).1 (3 * c + k) := by unfold po_s; rw [if_pos (by rw [f2]; omega), f2, hc, show c + 100 - 100 = c by omega]
      have e17 := r17 c k (by omega) (by omega) k0 k1
      by_cases hz : 0 < ρ 9 (3 * ρ 13 c + k)
      · have hqq := hq c k (by omega) ⟨k0, k1⟩ hk.2.2 hz
        rw [if_pos ⟨hk.2.2, hz⟩] at e17
        have hl := iv_loc (ρ := ρ3) (i := i) (c := c) (k := k) (by rw [r2]; exact hc) (by omega) (by rw [e17]; omega)
        rw [e17, r9, r13] at hl
        refine Or.inl ⟨by rw [hit]; exact hz, by omega, by rw [hl.1, hpo], by rw [hl.2, hpo, hit]⟩
      · rw [if_neg (fun h => hz h.2)] at e17
        refine Or.inr ⟨?_, ?_⟩
        · unfold iv_lo
          rw [r2, if_pos h100, show ρ 2 i - 100 = c by omega, e17]
          exact if_pos (by omega)
        · unfold iv_hi
          rw [r2, if_pos h100, show ρ 2 i - 100 = c by omega, e17]
          exact if_pos (by omega)
    · by_cases hu : 0 ≤ ρ 2 i
      · have ht := hA.2.2.1.2.2 i i0 i1 hu (by omega)
        have ht2 := hA.2.2.1.2.1 (ρ 2 i) ht.1 ht.2.1
        by_cases hk0 : k = 0
        · rw [hk0]
          have hit : it_s (mo_me (ρ 0 1).toNat ρ) i 0 = mo_me (ρ 0 1).toNat ρ 7 (ρ 2 i) := by rw [it_b (by rw [f2]; omega), f2]
          have hpo : po_s (mo_me (ρ 0 1).toNat ρ) ((pv_T ρ).1, (pv_T ρ).2.1, 0) i 0 = (pv_T ρ).2.1 (ρ 2 i) := by unfold po_s; rw [if_neg (by rw [f2]; omega), f2]
          have hl := iv_lob (ρ := ρ3) (i := i) (by rw [r2]; omega)
          rw [r2, r5, r6] at hl
          have h5 := hp5 (ρ 2 i) hu ht.2.1
          rw [if_neg (by omega)] at h5
          have h6 := g5 (ρ 2 i) ht.1 (by rw [h0]; exact ht.2.1)
          by_cases hz : mo_me (ρ 0 1).toNat ρ 7 (ρ 2 i) = 0
          · rw [if_pos hz] at h5
            exact Or.inr ⟨by rw [hl.1, h5.1 ht.1 hz], by rw [hl.2, h5.2]⟩
          · rw [if_neg hz] at h5
            exact Or.inl ⟨by omega, by omega, by rw [hl.1, hpo], by rw [hl.2, hpo, hit, h5.2]⟩
        · refine Or.inr ⟨?_, ?_⟩
          · unfold iv_lo
            rw [r2, if_neg h100]
            exact if_neg (fun h => hk0 h.2)
          · unfold iv_hi
            rw [r2, if_neg h100]
            exact if_neg (fun h => hk0 h.2)
      · refine Or.inr ⟨?_, ?_⟩
        · unfold iv_lo
          rw [r2, if_neg h100]
          exact if_neg (fun h => hu h.1)
        · unfold iv_hi
          rw [r2, if_neg h100]
          exact if_neg (fun h => hu h.1)
  refine ⟨⟨hBn, ⟨?_, ?_, ?_⟩, ?_, ?_, ?_, ?_, ?_⟩, ?_, ?_, ?_, ?_, ?_, ?_, ?_, ?_, ?_, ?_⟩
  · rw [r2]; exact hA.2.1.1
  · intro u u0 u1
    rw [r5, r6]
    by_cases hu : u < ρ 0 1
    · have q1 := hbd u u0 hu
      have q2 := hp5 u u0 hu
      have q3 := g7 u u0 (by rw [h0]; exact hu)
      rw [q2.2]
      refine ⟨by omega, ?_⟩
      by_cases hu0 : u = 0
      · rw [if_pos hu0]; omega
      · rw [if_neg hu0]
        split
        · omega
        · have := q1.2.2.2 (by omega); omega
    · have := hhi u (by omega) u1
      rw [this.1, this.2]
      omega
  · intro c k c0 c1 k0 k1 hr
    rw [r9, r13]
    by_cases hcn : c < ρ 0 12
    · rw [r17 c k c0 hcn k0 k1] at hr ⊢
      by_cases h : ρ 15 c ≤ 3 ∧ 0 < ρ 9 (3 * ρ 13 c + k)
      · rw [if_pos h]
        exact (hq c k ⟨c0, hcn⟩ ⟨k0, k1⟩ h.1 h.2).2
      · rw [if_neg h] at hr; omega
    · rw [r17h c k (by omega) k0 k1] at hr ⊢
      exact hA.2.1.2.2 c k c0 c1 k0 k1 hr
  · exact tr_fr (q0 1 (by omega) (by omega)) r2 r3 hA.2.2.1
  · unfold mo_p2s; rw [r9]; exact hA.2.2.2.1
  · rw [r11]; exact hA.2.2.2.2.1
  · intro c c0 c1
    rw [q0 12 (by omega) (by omega)] at c1
    rw [r14, r13, q0 1 (by omega) (by omega), q0 8 (by omega) (by omega)]
    exact hA.2.2.2.2.2.1 c c0 c1
  · intro i i0 i1 h100
    rw [r2] at h100 ⊢
    have := hA.2.2.2.2.2.2 i i0 i1 h100
    rw [q0 12 (by omega) (by omega), r14]
    refine ⟨this.1, this.2.1, ?_⟩
    rw [r15 _ (by omega) this.1]
    split
    · omega
    · split <;> omega
  · unfold iv_U; rw [r2]; exact hU
  · intro c c0 c1
    rw [q0 12 (by omega) (by omega)] at c1
    rw [mo_wt_c (q0 24 (by omega) (by omega)) r25 r28]
    exact h8 c c0 c1
  · intro i j k l a1 a2 a3 a4 a5 a6 a7 a8 a9 b2 b3 b4
    rcases hil i k a1 a2 a5 a6 with ⟨p1, p2, p3, p4⟩ | ⟨p3, p4⟩
    · rcases hil j l a3 a4 a7 a8 with ⟨q1, q2, q3, q4⟩ | ⟨q3, q4⟩
      · rw [p3, p4, q3, q4]
        exact g8.2.1 i k j l a1 a2 a3 a4 a5 a6 a7 a8 a9 (by rw [h0]; exact p2) b2 p1 q1
      · omega
    · omega
  · intro i k a1 a2 a3 a4 a5
    rcases hil i k a1 a2 a3 a4 with ⟨p1, p2, p3, p4⟩ | ⟨p3, p4⟩
    · have q1 := g8.1 i k a1 a2 a3 a4 (by rw [h0]; exact p2) p1
      have q2 := hbd (i / 4) (by omega) p2
      have q3 := hp5 (i / 4) (by omega) p2
      rw [p3, p4, r5, r6, q3.2]
      refine ⟨q1.1, ?_⟩
      by_cases hb0 : i / 4 = 0
      · rw [if_pos hb0]; rw [hb0] at q1 q2; omega
      · rw [if_neg hb0]
        have q4 := q2.2.2.2 (by omega)
        split
        · omega
        · omega
    · omega
  · refine ⟨by rw [r5, r6, (hp5 0 (by omega) (by omega)).2, if_pos rfl, g8.2.2.2.1]; exact ⟨rfl, rfl⟩, fun b b0 b8 => ?_⟩
    rw [r5, r6]
    by_cases hb : b < ρ 0 1
    · have q2 := hbd b b0 hb
      have q3 := hp5 b b0 hb
      have q5 := g7 b b0 (by rw [h0]; exact hb)
      rw [q3.2]
      by_cases hb0 : b = 0
      · rw [if_pos hb0, hb0, g8.2.2.2.1]; decide
      · rw [if_neg hb0]
        have q4 := q2.2.2.2 (by omega)
        split
        · next hz => rw [q3.1 (by omega) hz]; decide
        · omega
    · have := hhi b (by omega) b8
      rw [this.1, this.2]
      decide
  · intro c k c0 c1 k0 k1
    rw [q0 12 (by omega) (by omega)] at c1
    rw [r15 c c0 c1, r9, r13, r17 c k c0 c1 k0 k1]
    have := hst c c0 c1
    by_cases h : ρ 15 c ≤ 3 ∧ 0 < ρ 9 (3 * ρ 13 c + k)
    · rw [if_pos h]
      have hqq := hq c k ⟨c0, c1⟩ ⟨k0, k1⟩ h.1 h.2
      refine Or.inl ⟨?_, h.2, hqq.1⟩
      by_cases hcc : c = ρ 0 21
      · rw [if_pos hcc]; omega
      · rw [if_neg hcc]
        have hn0 : ρ 15 c ≠ 0 := fun h => hcc (hN.2.1 c c0 c1 h)
        split <;> omega
    · rw [if_neg h]
      refine Or.inr ⟨fun h2 => h ⟨?_, h2.2⟩, rfl⟩
      have h3 := h2.1
      by_cases hcc : c = ρ 0 21
      · rw [hcc]; omega
      · rw [if_neg hcc] at h3
        split at h3 <;> omega
  · intro c c0 c1 hp
    rw [q0 12 (by omega) (by omega)] at c1
    rw [r19] at hp
    have := hP c c0 c1 hp
    rw [r15 c c0 c1, mo_wt_c (q0 24 (by omega) (by omega)) r25 r28]
    refine ⟨?_, this.2⟩
    split
    · omega
    · split <;> omega
  · refine ⟨fun h => by rw [q21] at h; omega, fun c c0 c1 hs => ?_, fun c c0 c1 hs => ?_, ?_⟩
    · rw [q0 12 (by omega) (by omega)] at c1
      rw [r15 c c0 c1] at hs
      by_cases hcc : c = ρ 0 21
      · rw [if_pos hcc] at hs; omega
      · rw [if_neg hcc] at hs
        split at hs
        · omega
        · exact absurd (hN.2.1 c c0 c1 hs) hcc
    · rw [q0 12 (by omega) (by omega)] at c1
      rw [r15 c c0 c1] at hs
      rw [r2]
      refine hN.2.2.1 c c0 c1 ?_
      by_cases hcc : c = ρ 0 21
      · rw [hcc]; omega
      · rw [if_neg hcc] at hs
        split at hs <;> omega
    · rw [q0 1 (by omega) (by omega), r2]; exact hN.2.2.2
  · refine ⟨by rw [q0 1 (by omega) (by omega), r2]; exact hZ.1, fun b b0 b8 => ?_, by rw [q0 12 (by omega) (by omega), r16, r19, r20]; exact hZ.2.2.1, by rw [q0 24 (by omega) (by omega), q0 12 (by omega) (by omega), r25]; exact hZ.2.2.2.1, fun i i0 i1 => by rw [q0 12 (by omega) (by omega)] at i0; have h := r17h (i / 3) (i % 3) (by omega) (by omega) (by omega); rw [show 3 * (i / 3) + i % 3 = i by omega] at h; rw [h]; exact hZ.2.2.2.2 i i0 i1⟩
    rw [q0 1 (by omega) (by omega)] at b0
    rw [r5, r6]
    exact hhi b b0 b8
  · intro h
    rw [q21] at h
    omega
end IMV
