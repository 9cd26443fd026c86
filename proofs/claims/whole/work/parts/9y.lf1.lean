/-! the class: loseFrom -/
/-- the requests of c from the a-th on, up to the i-th, are lost -/
def lf_m (ν ρ : mm_T) (c a i : Int) : mm_T := fun p q => if p = 380 + c ∧ a ≤ q ∧ q < i then -1 else if q = 2 ∧ 1000 ≤ p ∧ p - 1000 < ρ 0 24 ∧ mo_pd ρ c (p - 1000) = 1 ∧ a ≤ rk_t ρ c (p - 1000) ∧ rk_t ρ c (p - 1000) < i then 2199023255552 else ν p q
section LF
variable {E : mv_E} {s ν ν0 ρ : mm_T} {f : Int → Int} {d : Nat} {a b c e i k l n o p q r t u w x y z : Int} {Q : nm_O → mm_T → mm_T → Prop}
theorem lf_0 : lf_m ν ρ c a a = ν := by
  funext p q
  unfold lf_m
  rw [if_neg (by omega), if_neg (by omega)]
theorem lf_ne (h1 : ¬ (p = 380 + c ∧ a ≤ q ∧ q < i)) (h2 : ¬ (q = 2 ∧ 1000 ≤ p)) : lf_m ν ρ c a i p q = ν p q := by
  unfold lf_m
  rw [if_neg h1, if_neg (fun h => h2 ⟨h.1, h.2.1⟩)]
theorem lf_q (h1 : a ≤ q ∧ q < i) : lf_m ν ρ c a i (380 + c) q = -1 := by
  unfold lf_m
  rw [if_pos ⟨rfl, h1⟩]
theorem lf_t (hc : 0 ≤ c ∧ c < 40) (h0 : 0 ≤ t) : lf_m ν ρ c a i (1000 + t) 2 = if t < ρ 0 24 ∧ mo_pd ρ c t = 1 ∧ a ≤ rk_t ρ c t ∧ rk_t ρ c t < i then 2199023255552 else ν (1000 + t) 2 := by
  unfold lf_m
  rw [if_neg (by omega), show 1000 + t - 1000 = t by omega]
  by_cases h : t < ρ 0 24 ∧ mo_pd ρ c t = 1 ∧ a ≤ rk_t ρ c t ∧ rk_t ρ c t < i
  · rw [if_pos h, if_pos ⟨rfl, by omega, h⟩]
  · rw [if_neg h, if_neg (fun h2 => h h2.2.2)]
theorem lf_su (hc : 0 ≤ c ∧ c < 40) (hi : a ≤ i) (h0 : 0 ≤ t) (h1 : t < ρ 0 24) (hp : mo_pd ρ c t = 1) (hr : rk_t ρ c t = i) : mm_u (mm_u (lf_m ν ρ c a i) (1000 + t) 2 2199023255552) (380 + c) i (-1) = lf_m ν ρ c a (i + 1) := by
  funext p q
  by_cases g1 : p = 380 + c ∧ q = i
  · rw [g1.1, g1.2, mm_u_at, lf_q (by omega)]
  · rw [mm_u_ne g1]
    by_cases g2 : p = 1000 + t ∧ q = 2
    · rw [g2.1, g2.2, mm_u_at, lf_t hc h0, if_pos ⟨h1, hp, by omega, by omega⟩]
    · rw [mm_u_ne g2]
      unfold lf_m
      by_cases g3 : p = 380 + c ∧ a ≤ q ∧ q < i
      · rw [if_pos g3, if_pos (by omega)]
      · rw [if_neg g3, if_neg (show ¬ (p = 380 + c ∧ a ≤ q ∧ q < i + 1) by omega)]
        by_cases g4 : q = 2 ∧ 1000 ≤ p ∧ p - 1000 < ρ 0 24 ∧ mo_pd ρ c (p - 1000) = 1 ∧ a ≤ rk_t ρ c (p - 1000) ∧ rk_t ρ c (p - 1000) < i
        · rw [if_pos g4, if_pos ⟨g4.1, g4.2.1, g4.2.2.1, g4.2.2.2.1, g4.2.2.2.2.1, by omega⟩]
        · rw [if_neg g4, if_neg (fun h => g4 ⟨h.1, h.2.1, h.2.2.1, h.2.2.2.1, h.2.2.2.2.1, by
            have h7 := h.2.2.2.2.2
            have h6 : ¬ rk_t ρ c (p - 1000) = i := fun h5 => g2 ⟨by have := rk_un (t := p - 1000) (u := t) (by omega) h0 h.2.2.2.1 hp (by omega); omega, h.1⟩
            omega⟩)]
/-- after the losing -/
def lf_e (ν ρ : mm_T) (c a : Int) : mm_T := if a = 0 then mm_u (mm_u (lf_m ν ρ c 0 (mo_wt ρ c)) (300 + c) 8 0) (300 + c) 9 0 else mm_u (lf_m ν ρ c a (mo_wt ρ c)) (300 + c) 8 a
theorem cl_lf_l (hA : iv_A ρ f) (h8 : iv_8 ρ) (hR : pt_R s ν0 ρ f) (hc : 0 ≤ c ∧ c < ρ 0 12) (hq : ∀ i, ν (380 + c) i = ν0 (380 + c) i) (hn : ν (300 + c) 8 = mo_wt ρ c) (ha : a = 0 ∨ (a = 1 ∧ 1 ≤ mo_wt ρ c)) : ∀ (n : Nat) (i : Int), a ≤ i → i + n = mo_wt ρ c → sw_w E d 31 (4, [some (2, 300 + c), some (0, a), some (0, i - a), some (0, i)], []) s (lf_m ν ρ c a i) (sw_is (some (0, mo_wt ρ c - a)) s (lf_e ν ρ c a)) := by
  have b12 := hA.1.2.2.1
  have b24 := hA.1.2.2.2.2.2.1
  have w8 := h8 c hc.1 hc.2
  have w0 := wt_0 (ρ := ρ) (c := c)
  intro n
  induction n with
  | zero =>
    intro i hi hin
    have hie : i = mo_wt ρ c := by omega
    rw [hie]
    rcases ha with ha | ⟨ha, ha2⟩
    · have e : lf_e ν ρ c a = mm_u (mm_u (lf_m ν ρ c a (mo_wt ρ c)) (300 + c) 8 (mo_wt ρ c - (mo_wt ρ c - a))) (300 + c) 9 0 := by
        unfold lf_e
        rw [if_pos ha, ha, show mo_wt ρ c - (mo_wt ρ c - 0) = 0 by omega]
      rw [e]
      refine sw_p 2 (f' := (6, [some (2, 300 + c), some (0, a), some (0, mo_wt ρ c - a), some (0, mo_wt ρ c)], [(2, 300 + c), (0, mo_wt ρ c)])) rfl ?_
      refine sw_gI (pn := 9) (i := 8) rfl rfl rfl rfl rfl (by omega) (hR.ca c (by omega) (by omega)).1 ?_
      rw [show (lf_m ν ρ c a (mo_wt ρ c)) (300 + c) 8 = mo_wt ρ c from ((lf_ne (by omega) (by omega)).trans hn)]
      refine sw_ge2 (pt := 40) (pn := 12) rfl rfl rfl (by omega) (by omega) (fun m1 => ?_) (fun h => absurd h (by omega))
      refine sw_p 2 (f' := (42, [some (2, 300 + c), some (0, a), some (0, mo_wt ρ c - a), some (0, mo_wt ρ c)], [(2, 300 + c), (2, 300 + c)])) rfl ?_
      refine sw_gI (pn := 45) (i := 8) rfl rfl rfl rfl rfl (by omega) (hR.ca c (by omega) (by omega)).1 ?_
      rw [show (lf_m ν ρ c a (mo_wt ρ c)) (300 + c) 8 = mo_wt ρ c from ((lf_ne (by omega) (by omega)).trans hn)]
      refine sw_p 2 (f' := (47, [some (2, 300 + c), some (0, a), some (0, mo_wt ρ c - a), some (0, mo_wt ρ c)], [(0, (mo_wt ρ c) - (mo_wt ρ c - a)), (2, 300 + c)])) rfl ?_
      refine sw_pI (pn := 50) (i := 8) rfl rfl rfl rfl rfl (by omega) (hR.ca c (by omega) (by omega)).1 ?_
      refine sw_p 1 (f' := (51, [some (2, 300 + c), some (0, a), some (0, mo_wt ρ c - a), some (0, mo_wt ρ c)], [(2, 300 + c)])) rfl ?_
      refine sw_gI (pn := 54) (i := 8) rfl rfl rfl rfl rfl (by omega) (hR.ca c (by omega) (by omega)).1 ?_
      rw [show (mm_u (lf_m ν ρ c a (mo_wt ρ c)) (300 + c) 8 ((mo_wt ρ c) - (mo_wt ρ c - a))) (300 + c) 8 = (mo_wt ρ c) - (mo_wt ρ c - a) from mm_u_at]
      refine sw_ne1 (pt := 62) (pn := 57) rfl rfl rfl (by omega) (fun h => absurd h (by omega)) (fun m2 => ?_)
      refine sw_p 2 (f' := (59, [some (2, 300 + c), some (0, a), some (0, mo_wt ρ c - a), some (0, mo_wt ρ c)], [(0, 0), (2, 300 + c)])) rfl ?_
      refine sw_pI (pn := 62) (i := 9) rfl rfl rfl rfl rfl (by omega) (hR.ca c (by omega) (by omega)).1 ?_
      refine sw_p 1 (f' := (63, [some (2, 300 + c), some (0, a), some (0, mo_wt ρ c - a), some (0, mo_wt ρ c)], [(0, mo_wt ρ c - a)])) rfl ?_
      exact sw_retI rfl rfl rfl ⟨rfl, rfl, rfl⟩
    · have e : lf_e ν ρ c a = mm_u (lf_m ν ρ c a (mo_wt ρ c)) (300 + c) 8 (mo_wt ρ c - (mo_wt ρ c - a)) := by
        unfold lf_e
        rw [if_neg (by omega), show mo_wt ρ c - (mo_wt ρ c - a) = a by omega]
      rw [e]
      refine sw_p 2 (f' := (6, [some (2, 300 + c), some (0, a), some (0, mo_wt ρ c - a), some (0, mo_wt ρ c)], [(2, 300 + c), (0, mo_wt ρ c)])) rfl ?_
      refine sw_gI (pn := 9) (i := 8) rfl rfl rfl rfl rfl (by omega) (hR.ca c (by omega) (by omega)).1 ?_
      rw [show (lf_m ν ρ c a (mo_wt ρ c)) (300 + c) 8 = mo_wt ρ c from ((lf_ne (by omega) (by omega)).trans hn)]
      refine sw_ge2 (pt := 40) (pn := 12) rfl rfl rfl (by omega) (by omega) (fun m1 => ?_) (fun h => absurd h (by omega))
      refine sw_p 2 (f' := (42, [some (2, 300 + c), some (0, a), some (0, mo_wt ρ c - a), some (0, mo_wt ρ c)], [(2, 300 + c), (2, 300 + c)])) rfl ?_
      refine sw_gI (pn := 45) (i := 8) rfl rfl rfl rfl rfl (by omega) (hR.ca c (by omega) (by omega)).1 ?_
      rw [show (lf_m ν ρ c a (mo_wt ρ c)) (300 + c) 8 = mo_wt ρ c from ((lf_ne (by omega) (by omega)).trans hn)]
      refine sw_p 2 (f' := (47, [some (2, 300 + c), some (0, a), some (0, mo_wt ρ c - a), some (0, mo_wt ρ c)], [(0, (mo_wt ρ c) - (mo_wt ρ c - a)), (2, 300 + c)])) rfl ?_
      refine sw_pI (pn := 50) (i := 8) rfl rfl rfl rfl rfl (by omega) (hR.ca c (by omega) (by omega)).1 ?_
      refine sw_p 1 (f' := (51, [some (2, 300 + c), some (0, a), some (0, mo_wt ρ c - a), some (0, mo_wt ρ c)], [(2, 300 + c)])) rfl ?_
      refine sw_gI (pn := 54) (i := 8) rfl rfl rfl rfl rfl (by omega) (hR.ca c (by omega) (by omega)).1 ?_
      rw [show (mm_u (lf_m ν ρ c a (mo_wt ρ c)) (300 + c) 8 ((mo_wt ρ c) - (mo_wt ρ c - a))) (300 + c) 8 = (mo_wt ρ c) - (mo_wt ρ c - a) from mm_u_at]
      refine sw_ne1 (pt := 62) (pn := 57) rfl rfl rfl (by omega) (fun m2 => ?_) (fun h => absurd h (by omega))
      refine sw_p 1 (f' := (63, [some (2, 300 + c), some (0, a), some (0, mo_wt ρ c - a), some (0, mo_wt ρ c)], [(0, mo_wt ρ c - a)])) rfl ?_
      exact sw_retI rfl rfl rfl ⟨rfl, rfl, rfl⟩
  | succ n ih =>
    intro i hi hin
    obtain ⟨t, t0, t1, t2, t3, t4⟩ := hR.q c i hc.1 hc.2 (by omega) (by omega)
    refine sw_p 2 (f' := (6, [some (2, 300 + c), some (0, a), some (0, i - a), some (0, i)], [(2, 300 + c), (0, i)])) rfl ?_
    refine sw_gI (pn := 9) (i := 8) rfl rfl rfl rfl rfl (by omega) (hR.ca c (by omega) (by omega)).1 ?_
    rw [show (lf_m ν ρ c a i) (300 + c) 8 = mo_wt ρ c from ((lf_ne (by omega) (by omega)).trans hn)]
    refine sw_ge2 (pt := 40) (pn := 12) rfl rfl rfl (by omega) (by omega) (fun h => absurd h (by omega)) (fun m1 => ?_)
    refine sw_p 1 (f' := (13, [some (2, 300 + c), some (0, a), some (0, i - a), some (0, i)], [(2, 300 + c)])) rfl ?_
    refine sw_hA (pn := 16) (i := 4) (v := 380 + c) rfl rfl rfl rfl rfl (hR.ca c (by omega) (by omega)).1 (hR.ca c (by omega) (by omega)).2.2.2.2.2.1 (by omega) ?_
    refine sw_p 1 (f' := (17, [some (2, 300 + c), some (0, a), some (0, i - a), some (0, i)], [(0, i), (2, 380 + c)])) rfl ?_
    refine sw_aal (pn := 18) (t := 6) (l := 8) rfl rfl rfl (by decide) (by omega) (hR.ca c (by omega) (by omega)).2.2.2.2.2.2.1 (hR.ca c (by omega) (by omega)).2.2.2.2.2.2.2 (by omega) (by omega) (fun _ => ?_) (fun h => absurd h (by rw [show (lf_m ν ρ c a i) (380 + c) i = 1000 + t from ((lf_ne (by omega) (by omega)).trans ((hq i).trans t2))]; omega))
    rw [show (lf_m ν ρ c a i) (380 + c) i = 1000 + t from ((lf_ne (by omega) (by omega)).trans ((hq i).trans t2))]
    refine sw_p 1 (f' := (21, [some (2, 300 + c), some (0, a), some (0, i - a), some (0, i)], [(1, 2199023255552), (2, 1000 + t)])) rfl ?_
    refine sw_pL (pn := 24) (i := 2) rfl rfl rfl rfl rfl (by omega) (hR.rq t (by omega) (by omega)).1 ?_
    refine sw_p 1 (f' := (25, [some (2, 300 + c), some (0, a), some (0, i - a), some (0, i)], [(2, 300 + c)])) rfl ?_
    refine sw_hA (pn := 28) (i := 4) (v := 380 + c) rfl rfl rfl rfl rfl (hR.ca c (by omega) (by omega)).1 (hR.ca c (by omega) (by omega)).2.2.2.2.2.1 (by omega) ?_
    refine sw_p 2 (f' := (30, [some (2, 300 + c), some (0, a), some (0, i - a), some (0, i)], [(3, 0), (0, i), (2, 380 + c)])) rfl ?_
    refine sw_aasN (pn := 31) (t := 6) (l := 8) rfl rfl rfl (by decide) (by omega) (hR.ca c (by omega) (by omega)).2.2.2.2.2.2.1 (hR.ca c (by omega) (by omega)).2.2.2.2.2.2.2 (by omega) (by omega) ?_
    refine sw_p 3 (f' := (4, [some (2, 300 + c), some (0, a), some (0, i - a + 1), some (0, i + 1)], [])) rfl ?_
    rw [lf_su (by omega) hi t0 t1 t3 t4, show i - a + 1 = i + 1 - a by omega]
    exact ih (i + 1) (by omega) (by omega)
theorem cl_lf (hA : iv_A ρ f) (h8 : iv_8 ρ) (hR : pt_R s ν0 ρ f) (hc : 0 ≤ c ∧ c < ρ 0 12) (hq : ∀ i, ν (380 + c) i = ν0 (380 + c) i) (hn : ν (300 + c) 8 = mo_wt ρ c) (ha : a = 0 ∨ (a = 1 ∧ 1 ≤ mo_wt ρ c)) : sw_w E d 31 (0, [some (2, 300 + c), some (0, a), none, none], []) s ν (sw_is (some (0, mo_wt ρ c - a)) s (lf_e ν ρ c a)) := by
  have b12 := hA.1.2.2.1
  have b24 := hA.1.2.2.2.2.2.1
  have w8 := h8 c hc.1 hc.2
  have w0 := wt_0 (ρ := ρ) (c := c)
  refine sw_p 4 (f' := (4, [some (2, 300 + c), some (0, a), some (0, 0), some (0, a)], [])) rfl ?_
  have h := cl_lf_l (E := E) (d := d) hA h8 hR hc hq hn ha (mo_wt ρ c - a).toNat a (by omega) (by omega)
  rw [lf_0, show a - a = 0 by omega] at h
  exact h
end LF
