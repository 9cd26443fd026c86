/-! a card that got its places: the invariant -/
section IPL
variable {ρ : mm_T} {f : Int → Int} {a b c i j k l x e : Int} {q : Int → Int}
theorem iv_pl (hI : iv_I ρ f) (hc : 0 ≤ c ∧ c < ρ 0 12) (hcm : ρ 0 21 = c) (hP : fg_P ρ c x e q) : iv_I (mm_u (mm_u (pl_f ρ c x e q) 15 c 1) 0 21 (-1)) f := by
  have hI0 := hI
  obtain ⟨ic, ic0, ic1, ic2, ic3, ic4⟩ := pv_c hI hc (by have := hI.2.2.2.2.2.2.2.2.1.1 (by omega); rw [hcm] at this; omega)
  obtain ⟨hA, hU, h8, hD, hW, hO, hRg, hPc, hN, hZ, hX⟩ := hI
  have b1 := hA.1.1
  have b12 := hA.1.2.2.1
  have hcd := hA.1.cd c hc.1 (by omega)
  have hst : ρ 15 c = 0 := by have := hN.1 (by omega); rw [hcm] at this; exact this
  obtain ⟨p1, p2, p3, p4, p5⟩ := hP
  have hpp := ffr_p hA.1 (by omega : 0 ≤ c ∧ c < 40) hA.2.2.2.1 p1
  have hov := hA.1.ov (ρ 14 c) (by omega) (by omega)
  have htr := hA.2.2.1.2.1 (ρ 14 c)
  have hsl := fun i (h1 : 0 ≤ i) (h2 : i < 32) => (hA.1.2.2.2.2.2.2.2.1 i h1 h2).1
  -- rows
  have er : ∀ p, p ≠ 0 → p ≠ 15 → p ≠ 17 → p ≠ 5 → p ≠ 6 → mm_u (mm_u (pl_f ρ c x e q) 15 c 1) 0 21 (-1) p = ρ p := fun p h1 h2 h3 h4 h5 => by
    funext i
    rw [mm_u_ne (by omega), mm_u_ne (by omega)]
    unfold pl_f
    rw [if_neg h3, if_neg h4, if_neg h5]
  have e0 : ∀ i, i ≠ 21 → mm_u (mm_u (pl_f ρ c x e q) 15 c 1) 0 21 (-1) 0 i = ρ 0 i := fun i h => by
    rw [mm_u_ne (by omega), mm_u_ne (by omega)]
    unfold pl_f
    rw [if_neg (by omega), if_neg (by omega), if_neg (by omega)]
  have e21 : mm_u (mm_u (pl_f ρ c x e q) 15 c 1) 0 21 (-1) 0 21 = -1 := mm_u_at
  have e15 : ∀ i, mm_u (mm_u (pl_f ρ c x e q) 15 c 1) 0 21 (-1) 15 i = if i = c then 1 else ρ 15 i := fun i => by
    rw [mm_u_ne (by omega)]
    by_cases h : i = c
    · rw [h, mm_u_at, if_pos rfl]
    · rw [mm_u_ne (by omega), if_neg h]
      unfold pl_f
      rw [if_neg (by omega), if_neg (by omega), if_neg (by omega)]
  have e5 : ∀ i, mm_u (mm_u (pl_f ρ c x e q) 15 c 1) 0 21 (-1) 5 i = if i = ρ 14 c then x else ρ 5 i := fun i => by
    rw [mm_u_ne (by omega), mm_u_ne (by omega)]
    unfold pl_f
    rw [if_neg (by omega), if_pos rfl]
  have e6 : ∀ i, mm_u (mm_u (pl_f ρ c x e q) 15 c 1) 0 21 (-1) 6 i = if i = ρ 14 c then e else ρ 6 i := fun i => by
    rw [mm_u_ne (by omega), mm_u_ne (by omega)]
    unfold pl_f
    rw [if_neg (by omega), if_neg (by omega), if_pos rfl]
  have e17 : ∀ i, mm_u (mm_u (pl_f ρ c x e q) 15 c 1) 0 21 (-1) 17 i = if 3 * c ≤ i ∧ i < 3 * c + 3 then (if 0 < ρ 9 (3 * ρ 13 c + (i - 3 * c)) then q (i - 3 * c) else -1) else ρ 17 i := fun i => by
    rw [mm_u_ne (by omega), mm_u_ne (by omega)]
    unfold pl_f
    rw [if_pos rfl]
  have hq : ∀ k, 0 ≤ k → k < 3 → 0 < ρ 9 (3 * ρ 13 c + k) → x ≤ q k ∧ q k + ρ 9 (3 * ρ 13 c + k) ≤ e := fun k k0 k1 hz => ⟨(hpp.1 k k0 k1 hz).1, (hpp.1 k k0 k1 hz).2.1⟩
  have e17c : ∀ k, 0 ≤ k → k < 3 → mm_u (mm_u (pl_f ρ c x e q) 15 c 1) 0 21 (-1) 17 (3 * c + k) = if 0 < ρ 9 (3 * ρ 13 c + k) then q k else -1 := fun k k0 k1 => by
    rw [e17, if_pos (by omega), show 3 * c + k - 3 * c = k by omega]
  have hBn : mo_B (mm_u (mm_u (pl_f ρ c x e q) 15 c 1) 0 21 (-1)) := by
    have hB1 : mo_B (pl_f ρ c x e q) := by
      have er1 : ∀ p, p ≠ 17 → p ≠ 5 → p ≠ 6 → pl_f ρ c x e q p = ρ p := fun p h1 h2 h3 => by funext i; unfold pl_f; rw [if_neg h1, if_neg h2, if_neg h3]
      have h := hA.1
      unfold mo_B at h ⊢
      rw [er1 0 (by omega) (by omega) (by omega), er1 2 (by omega) (by omega) (by omega), er1 3 (by omega) (by omega) (by omega), er1 4 (by omega) (by omega) (by omega), er1 9 (by omega) (by omega) (by omega), er1 10 (by omega) (by omega) (by omega), er1 13 (by omega) (by omega) (by omega), er1 14 (by omega) (by omega) (by omega), er1 15 (by omega) (by omega) (by omega), er1 19 (by omega) (by omega) (by omega), er1 25 (by omega) (by omega) (by omega), er1 26 (by omega) (by omega) (by omega), er1 28 (by omega) (by omega) (by omega)]
      obtain ⟨h1, h2, h3, h4, h5, h6, h7, h8, h9, h10, h11, h12, h13, h14⟩ := h
      refine ⟨h1, h2, h3, h4, h5, h6, h7, h8, h9, h10, h11, h12, fun y y0 y1 => ?_, h14⟩
      unfold pl_f
      rw [if_pos rfl]
      split
      · next hy =>
        split
        · next hz =>
          have := hq (y - 3 * c) (by omega) (by omega) hz
          omega
        · omega
      · exact h13 y y0 y1
    refine mo_Bs_21 (mo_Bu_15 hB1 (by omega)) ⟨by omega, ?_⟩
    rw [mm_u_ne (by omega)]
    unfold pl_f
    rw [if_neg (by omega), if_neg (by omega), if_neg (by omega)]
    omega
  generalize mm_u (mm_u (pl_f ρ c x e q) 15 c 1) 0 21 (-1) = ρ' at er e0 e21 e15 e5 e6 e17 e17c hBn ⊢
  have e2 := er 2 (by omega) (by omega) (by omega) (by omega) (by omega)
  have e3 := er 3 (by omega) (by omega) (by omega) (by omega) (by omega)
  have e9 := er 9 (by omega) (by omega) (by omega) (by omega) (by omega)
  have e13 := er 13 (by omega) (by omega) (by omega) (by omega) (by omega)
  have e14 := er 14 (by omega) (by omega) (by omega) (by omega) (by omega)
  have e25 := er 25 (by omega) (by omega) (by omega) (by omega) (by omega)
  have e28 := er 28 (by omega) (by omega) (by omega) (by omega) (by omega)
  have ew : ∀ c2, mo_wt ρ' c2 = mo_wt ρ c2 := fun c2 => mo_wt_c (e0 24 (by omega)) e25 e28 c2
  -- intervals: the new card's slot, the slot of its bridge, the others
  have hnew : ∀ k, 0 ≤ k → k < 3 → iv_lo ρ' ic k < iv_hi ρ' ic k → 0 < ρ 9 (3 * ρ 13 c + k) ∧ iv_lo ρ' ic k = q k ∧ iv_hi ρ' ic k = q k + ρ 9 (3 * ρ 13 c + k) := fun k k0 k1 hlt => by
    have e17k := e17c k k0 k1
    by_cases hz : 0 < ρ 9 (3 * ρ 13 c + k)
    · rw [if_pos hz] at e17k
      have hl := iv_loc (ρ := ρ') (i := ic) (c := c) (k := k) (by rw [e2]; omega) hc.1 (by rw [e17k]; have := hq k k0 k1 hz; omega)
      rw [e17k, e9, e13] at hl
      exact ⟨hz, hl⟩
    · rw [if_neg hz] at e17k
      have h1 : iv_lo ρ' ic k = 0 := by
        unfold iv_lo
        rw [e2, if_pos (by omega), ic2, show 100 + c - 100 = c by omega, e17k]
        exact if_pos (by omega)
      have h2 : iv_hi ρ' ic k = 0 := by
        unfold iv_hi
        rw [e2, if_pos (by omega), ic2, show 100 + c - 100 = c by omega, e17k]
        exact if_pos (by omega)
      omega
  have hown : ∀ i, 0 ≤ i → i < 32 → ρ 2 i = ρ 14 c → iv_lo ρ' i 0 = x ∧ iv_hi ρ' i 0 = e := fun i i0 i1 i2 => by
    have hl := iv_lob (ρ := ρ') (i := i) (by rw [e2]; omega)
    rw [e2, i2, e5, e6, if_pos rfl, if_pos rfl] at hl
    exact hl
  have hoth : ∀ i k, 0 ≤ i → i < 32 → 0 ≤ k → k < 3 → i ≠ ic → ¬ (ρ 2 i = ρ 14 c ∧ k = 0) → iv_lo ρ' i k = iv_lo ρ i k ∧ iv_hi ρ' i k = iv_hi ρ i k := fun i k i0 i1 k0 k1 hne hne2 => by
    have hnc : ρ 2 i ≠ 100 + c := fun h => hne (hU i ic i0 i1 ic0 ic1 (by omega) (by rw [h, ic2]))
    have hs := hsl i i0 i1
    unfold iv_lo iv_hi
    rw [e2, e9, e13]
    by_cases h100 : 100 ≤ ρ 2 i
    · have e17i : ρ' 17 (3 * (ρ 2 i - 100) + k) = ρ 17 (3 * (ρ 2 i - 100) + k) := by rw [e17, if_neg (by omega)]
      rw [if_pos h100, if_pos h100, if_pos h100, if_pos h100, e17i]
      exact ⟨rfl, rfl⟩
    · rw [if_neg h100, if_neg h100, if_neg h100, if_neg h100]
      by_cases hu : 0 ≤ ρ 2 i ∧ k = 0
      · rw [if_pos hu, if_pos hu, if_pos hu, if_pos hu, e5, e6, if_neg (fun h => hne2 ⟨h, hu.2⟩), if_neg (fun h => hne2 ⟨h, hu.2⟩)]
        exact ⟨rfl, rfl⟩
      · rw [if_neg hu, if_neg hu, if_neg hu, if_neg hu]
        exact ⟨rfl, rfl⟩
  have hicb : ρ 2 ic ≠ ρ 14 c := by omega
  -- the new card against the rest of its bridge
  have hc1 : ∀ k j l, 0 ≤ k → k < 3 → 0 ≤ j → j < 32 → 0 ≤ l → l < 3 → j / 4 = ic / 4 → j ≠ ic → iv_lo ρ' ic k < iv_hi ρ' ic k → iv_lo ρ' j l < iv_hi ρ' j l → iv_hi ρ' ic k ≤ iv_lo ρ' j l ∨ iv_hi ρ' j l ≤ iv_lo ρ' ic k := fun k j l k0 k1 j0 j1 l0 l1 hjb hjc h1 h2 => by
    obtain ⟨hz, g1, g2⟩ := hnew k k0 k1 h1
    have hjn : ¬ (ρ 2 j = ρ 14 c ∧ l = 0) := fun h => by
      have ht := hA.2.2.1.2.2 j j0 j1 (by omega) (by omega)
      rw [h.1] at ht
      have := htr (by omega) (by omega)
      omega
    have g3 := hoth j l j0 j1 l0 l1 hjc hjn
    rw [g1, g2, g3.1, g3.2]
    rw [g3.1, g3.2] at h2
    have hfree := (hpp.1 k k0 k1 hz).2.2
    have hne : ρ 2 j ≠ 100 + c := fun h => hjc (hU j ic j0 j1 ic0 ic1 (by omega) (by rw [h, ic2]))
    have hmk := fun a (a1 : iv_lo ρ j l ≤ a) (a2 : a < iv_hi ρ j l) => oc_in (b := ρ 14 c) hsl (by omega) (i := j) (by omega) hne ⟨l0, l1⟩ a1 a2
    by_cases q1 : q k + ρ 9 (3 * ρ 13 c + k) ≤ iv_lo ρ j l
    · exact Or.inl q1
    · by_cases q2 : iv_hi ρ j l ≤ q k
      · exact Or.inr q2
      · by_cases q3 : iv_lo ρ j l ≤ q k
        · have := hmk (q k) q3 (by omega)
          have := hfree (q k) (by omega) (by omega)
          omega
        · have := hmk (iv_lo ρ j l) (by omega) h2
          have := hfree (iv_lo ρ j l) (by omega) (by omega)
          omega
  -- the opening against the rest of the bridge over it
  have ho1 : ∀ i j l, 0 ≤ i → i < 32 → 0 ≤ j → j < 32 → 0 ≤ l → l < 3 → ρ 2 i = ρ 14 c → j / 4 = i / 4 → j ≠ i → x < e → iv_lo ρ' j l < iv_hi ρ' j l → e ≤ iv_lo ρ' j l ∨ iv_hi ρ' j l ≤ x := fun i j l i0 i1 j0 j1 l0 l1 hi hjb hji hxe h2 => by
    have ht := hA.2.2.1.2.2 i i0 i1 (by omega) (by omega)
    rw [hi] at ht
    have ht2 := htr (by omega) (by omega)
    have hjc : j ≠ ic := fun h => by omega
    have hjn : ¬ (ρ 2 j = ρ 14 c ∧ l = 0) := fun h => hji (hU j i j0 j1 i0 i1 (by omega) (by rw [h.1, hi]))
    have g3 := hoth j l j0 j1 l0 l1 hjc hjn
    rw [g3.1, g3.2]
    rw [g3.1, g3.2] at h2
    have hne : ρ 2 j ≠ ρ 14 c := fun h => hji (hU j i j0 j1 i0 i1 (by omega) (by rw [h, hi]))
    have hli := iv_lob (ρ := ρ) (i := i) (by omega)
    rw [hi] at hli
    have hold : ρ 5 (ρ 14 c) < ρ 6 (ρ 14 c) → ρ 6 (ρ 14 c) ≤ iv_lo ρ j l ∨ iv_hi ρ j l ≤ ρ 5 (ρ 14 c) := fun ho => by
      have := hD i j 0 l i0 i1 j0 j1 (by omega) (by omega) l0 l1 (by omega) (by omega) (by rw [hli.1, hli.2]; exact ho) h2
      rw [hli.1, hli.2] at this
      exact this
    rcases p5 with p5 | ⟨p6, p7, p8, p9⟩
    · rw [p5.1, p5.2] at hxe ⊢
      exact hold hxe
    · have hmk := fun a (a1 : iv_lo ρ j l ≤ a) (a2 : a < iv_hi ρ j l) => oc_in (b := ρ 3 (ρ 14 c)) (w := ρ 14 c) hsl (by omega) (i := j) (by omega) hne ⟨l0, l1⟩ a1 a2
      by_cases q1 : e ≤ iv_lo ρ j l
      · exact Or.inl q1
      · by_cases q2 : iv_hi ρ j l ≤ x
        · exact Or.inr q2
        · obtain ⟨a, a1, a2, a3, a4⟩ : ∃ a, x ≤ a ∧ a < e ∧ iv_lo ρ j l ≤ a ∧ a < iv_hi ρ j l := by
            by_cases q3 : iv_lo ρ j l ≤ x
            · exact ⟨x, by omega, by omega, q3, by omega⟩
            · exact ⟨iv_lo ρ j l, by omega, by omega, by omega, h2⟩
          have m1 := hmk a a3 a4
          by_cases hin : ρ 5 (ρ 14 c) ≤ a ∧ a < ρ 6 (ρ 14 c)
          · have := hold (by omega)
            omega
          · have := p9 a a1 a2 hin
            omega
  refine ⟨⟨hBn, ⟨by rw [e2]; exact hA.2.1.1, fun u u0 u1 => ?_, fun c2 k c0 c1 k0 k1 hr => ?_⟩, tr_fr (e0 1 (by omega)) e2 e3 hA.2.2.1, by unfold mo_p2s; rw [e9]; exact hA.2.2.2.1, by rw [er 11 (by omega) (by omega) (by omega) (by omega) (by omega)]; exact hA.2.2.2.2.1, ⟨by rw [e0 12 (by omega), e0 1 (by omega), e0 8 (by omega), e13, e14]; exact hA.2.2.2.2.2.1, fun i i0 i1 h1 => ?_⟩⟩, ?_, ?_, ?_, ?_, ?_, ?_, ?_, ?_, ?_, ?_⟩
  · rw [e5, e6]
    by_cases hu : u = ρ 14 c
    · rw [if_pos hu, if_pos hu]; omega
    · rw [if_neg hu, if_neg hu]; exact hA.2.1.2.1 u u0 u1
  · rw [e9, e13]
    by_cases hcc : c2 = c
    · rw [hcc] at hr ⊢
      rw [e17c k k0 k1] at hr ⊢
      by_cases hz : 0 < ρ 9 (3 * ρ 13 c + k)
      · rw [if_pos hz]
        have := hq k k0 k1 hz
        omega
      · rw [if_neg hz] at hr; omega
    · rw [e17, if_neg (by omega)] at hr ⊢
      exact hA.2.1.2.2 c2 k c0 c1 k0 k1 hr
  · rw [e2] at h1 ⊢
    rw [e0 12 (by omega), e14, e15]
    have := hA.2.2.2.2.2.2 i i0 i1 h1
    refine ⟨this.1, this.2.1, ?_⟩
    split <;> omega
  · unfold iv_U; rw [e2]; exact hU
  · intro c2 c0 c1
    rw [e0 12 (by omega)] at c1
    rw [ew]
    exact h8 c2 c0 c1
  · intro i j k l a1 a2 a3 a4 a5 a6 a7 a8 a9 b2 b3 b4
    by_cases hic : i = ic
    · by_cases hjc : j = ic
      · rw [hic] at b2 b3 ⊢
        rw [hjc] at b2 b4 ⊢
        obtain ⟨z1, g1, g2⟩ := hnew k a5 a6 b3
        obtain ⟨z2, g3, g4⟩ := hnew l a7 a8 b4
        rw [g1, g2, g3, g4]
        exact hpp.2 k l a5 a6 a7 a8 z1 z2 (fun h => b2 ⟨rfl, h⟩)
      · rw [hic] at b3 ⊢
        exact hc1 k j l a5 a6 a3 a4 a7 a8 (by omega) hjc b3 b4
    · by_cases hjc : j = ic
      · rw [hjc] at b4 ⊢
        exact (hc1 l i k a7 a8 a1 a2 a5 a6 (by omega) hic b4 b3).symm
      · by_cases hib : ρ 2 i = ρ 14 c ∧ k = 0
        · have g1 := hown i a1 a2 hib.1
          have hji : j ≠ i := fun h => by
            rw [h] at b4 b2
            have hl0 : l ≠ 0 := fun hl => b2 ⟨rfl, by omega⟩
            have : iv_hi ρ' i l = 0 := by
              unfold iv_hi
              rw [e2, if_neg (by omega)]
              exact if_neg (fun hh => hl0 hh.2)
            have : iv_lo ρ' i l = 0 := by
              unfold iv_lo
              rw [e2, if_neg (by omega)]
              exact if_neg (fun hh => hl0 hh.2)
            omega
          rw [hib.2] at b3 ⊢
          rw [g1.1, g1.2] at b3 ⊢
          exact ho1 i j l a1 a2 a3 a4 a7 a8 hib.1 (by omega) hji b3 b4
        · by_cases hjb : ρ 2 j = ρ 14 c ∧ l = 0
          · have g1 := hown j a3 a4 hjb.1
            have hij : i ≠ j := fun h => by
              rw [h] at b3 b2
              have hk0 : k ≠ 0 := fun hk => b2 ⟨rfl, by omega⟩
              have : iv_hi ρ' j k = 0 := by
                unfold iv_hi
                rw [e2, if_neg (by omega)]
                exact if_neg (fun hh => hk0 hh.2)
              have : iv_lo ρ' j k = 0 := by
                unfold iv_lo
                rw [e2, if_neg (by omega)]
                exact if_neg (fun hh => hk0 hh.2)
              omega
            rw [hjb.2] at b4 ⊢
            rw [g1.1, g1.2] at b4 ⊢
            exact (ho1 j i k a3 a4 a1 a2 a5 a6 hjb.1 (by omega) hij b4 b3).symm
          · have g1 := hoth i k a1 a2 a5 a6 hic hib
            have g2 := hoth j l a3 a4 a7 a8 hjc hjb
            rw [g1.1, g1.2, g2.1, g2.2]
            rw [g1.1, g1.2] at b3
            rw [g2.1, g2.2] at b4
            exact hD i j k l a1 a2 a3 a4 a5 a6 a7 a8 a9 b2 b3 b4
  · intro i k a1 a2 a3 a4 a5
    rw [e5, e6]
    by_cases hic : i = ic
    · rw [hic] at a5 ⊢
      obtain ⟨z1, g1, g2⟩ := hnew k a3 a4 a5
      rw [g1, g2, if_pos ic3, if_pos ic3]
      exact hq k a3 a4 z1
    · by_cases hib : ρ 2 i = ρ 14 c ∧ k = 0
      · have g1 := hown i a1 a2 hib.1
        have ht := hA.2.2.1.2.2 i a1 a2 (by omega) (by omega)
        rw [hib.1] at ht
        have ht2 := htr (by omega) (by omega)
        rw [hib.2] at a5 ⊢
        rw [g1.1, g1.2] at a5 ⊢
        rw [if_neg (by omega), if_neg (by omega), show i / 4 = ρ 3 (ρ 14 c) by omega]
        rcases p5 with p5 | ⟨p6, p7, p8, p9⟩
        · rw [p5.1, p5.2] at a5 ⊢
          exact op_in hI0 (by omega) a5
        · exact ⟨p7, p8⟩
      · have g1 := hoth i k a1 a2 a3 a4 hic hib
        rw [g1.1, g1.2] at a5 ⊢
        have := hW i k a1 a2 a3 a4 a5
        by_cases hb : i / 4 = ρ 14 c
        · rw [if_pos hb, if_pos hb]
          rw [hb] at this
          have := p4 (by omega)
          omega
        · rw [if_neg hb, if_neg hb]
          exact this
  · refine ⟨?_, fun b b0 b8 => ?_⟩
    · rw [e5, e6]
      by_cases hb : (0 : Int) = ρ 14 c
      · rw [if_pos hb, if_pos hb]
        have := hO.1
        rw [hb] at this
        have := p4 (by omega)
        omega
      · rw [if_neg hb, if_neg hb]
        exact hO.1
    · rw [e5, e6]
      by_cases hb : b = ρ 14 c
      · rw [if_pos hb, if_pos hb]; omega
      · rw [if_neg hb, if_neg hb]; exact hO.2 b b0 b8
  · intro c2 k c0 c1 k0 k1
    rw [e0 12 (by omega)] at c1
    rw [e15, e9, e13]
    by_cases hcc : c2 = c
    · rw [if_pos hcc, hcc, e17c k k0 k1]
      by_cases hz : 0 < ρ 9 (3 * ρ 13 c + k)
      · rw [if_pos hz]
        have := hq k k0 k1 hz
        exact Or.inl ⟨by omega, hz, by omega⟩
      · rw [if_neg hz]
        exact Or.inr ⟨fun h => hz h.2, rfl⟩
    · rw [if_neg hcc, e17, if_neg (by omega)]
      exact hRg c2 k c0 c1 k0 k1
  · intro c2 c0 c1 hp
    rw [e0 12 (by omega)] at c1
    rw [er 19 (by omega) (by omega) (by omega) (by omega) (by omega)] at hp
    rw [e15, ew]
    have := hPc c2 c0 c1 hp
    refine ⟨?_, this.2⟩
    split <;> omega
  · refine ⟨fun h => by rw [e21] at h; omega, fun c2 c0 c1 hs => ?_, fun c2 c0 c1 hs => ?_, by rw [e0 1 (by omega), e2]; exact hN.2.2.2⟩
    · rw [e0 12 (by omega)] at c1
      rw [e15] at hs
      by_cases hcc : c2 = c
      · rw [if_pos hcc] at hs; omega
      · rw [if_neg hcc] at hs
        have := hN.2.1 c2 c0 c1 hs
        omega
    · rw [e0 12 (by omega)] at c1
      rw [e15] at hs
      rw [e2]
      by_cases hcc : c2 = c
      · exact ⟨ic, ic0, ic1, by rw [hcc]; exact ic2⟩
      · rw [if_neg hcc] at hs
        exact hN.2.2.1 c2 c0 c1 hs
  · refine ⟨by rw [e0 1 (by omega), e2]; exact hZ.1, fun b b0 b8 => ?_, by rw [e0 12 (by omega), er 16 (by omega) (by omega) (by omega) (by omega) (by omega), er 19 (by omega) (by omega) (by omega) (by omega) (by omega), er 20 (by omega) (by omega) (by omega) (by omega) (by omega)]; exact hZ.2.2.1, by rw [e0 24 (by omega), e0 12 (by omega), e25]; exact hZ.2.2.2.1, fun i i0 i1 => by rw [e0 12 (by omega)] at i0; rw [e17, if_neg (by omega)]; exact hZ.2.2.2.2 i i0 i1⟩
    rw [e0 1 (by omega)] at b0
    rw [e5, e6, if_neg (by omega), if_neg (by omega)]
    exact hZ.2.1 b b0 b8
  · intro h
    rw [e21] at h
    omega
end IPL
