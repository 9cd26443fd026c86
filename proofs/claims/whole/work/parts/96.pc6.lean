/-! the class: turnAll, takeOut, refuse, settleIn, dismissLeaving -/
section PC6
variable {E : mv_E} {s ν ρ : mm_T} {f : Int → Int} {d : Nat} {a b c e i k l n o p q r t u w x y z : Int} {Q : nm_O → mm_T → mm_T → Prop}
theorem ta_0 : ta_m ν ρ x y 0 = ν := by
  funext p i
  exact ta_ne (by omega)
theorem ta_s1 (h0 : 0 ≤ i) (h : ρ 15 i = x) : mm_u (ta_m ν ρ x y i) (300 + i) 6 y = ta_m ν ρ x y (i + 1) := by
  funext p k
  unfold mm_u ta_m
  by_cases h1 : p = 300 + i ∧ k = 6
  · rw [if_pos h1, if_pos ⟨by omega, by omega, h1.2, by rw [h1.1, show 300 + i - 300 = i by omega]; exact h⟩]
  · rw [if_neg h1]
    by_cases h2 : 300 ≤ p ∧ p < 300 + i ∧ k = 6 ∧ ρ 15 (p - 300) = x
    · rw [if_pos h2, if_pos ⟨h2.1, by omega, h2.2.2⟩]
    · rw [if_neg h2, if_neg (fun h3 => h2 ⟨h3.1, by have : ¬ (p = 300 + i) := fun h4 => h1 ⟨h4, h3.2.2.1⟩; omega, h3.2.2⟩)]
theorem ta_s0 (h : ρ 15 i ≠ x) : ta_m ν ρ x y i = ta_m ν ρ x y (i + 1) := by
  funext p k
  unfold ta_m
  by_cases h2 : 300 ≤ p ∧ p < 300 + i ∧ k = 6 ∧ ρ 15 (p - 300) = x
  · rw [if_pos h2, if_pos ⟨h2.1, by omega, h2.2.2⟩]
  · rw [if_neg h2, if_neg (fun h3 => h2 ⟨h3.1, by have : ¬ (p = 300 + i) := fun h4 => h (by rw [h4, show 300 + i - 300 = i by omega] at h3; exact h3.2.2.2); omega, h3.2.2⟩)]
theorem cl_ta_l (hI : iv_A ρ f) (hR : pt_R s ν ρ f) (hx : 0 ≤ x ∧ x ≤ 5) : ∀ (n : Nat) (i : Int), 0 ≤ i → i + n = ρ 0 12 → sw_w E d 55 (2, [some (2, 50), some (0, x), some (0, y), some (0, i)], []) s (ta_m ν ρ x y i) (sw_is none s (ta_m ν ρ x y (ρ 0 12))) := by
  intro n
  induction n with
  | zero =>
    intro i hi hn
    have h12 := hI.1.2.2.1
    refine sw_p 2 (f' := (4, [some (2, 50), some (0, x), some (0, y), some (0, i)], [(2, 50), (0, i)])) rfl ?_
    refine sw_gI (pn := 7) (i := 10) rfl rfl rfl rfl rfl (by omega) hR.sh.1 ?_
    rw [show (ta_m ν ρ x y i) 50 10 = ρ 0 12 from (ta_ne (by omega)).trans (hR.z.2.2.1)]
    refine sw_ge2 (pt := 39) (pn := 10) rfl rfl rfl (by omega) (by omega) (fun m1 => ?_) (fun h => absurd h (by omega))
    exact sw_retV rfl rfl rfl ⟨rfl, rfl, by rw [show i = ρ 0 12 by omega]⟩
  | succ n ih =>
    intro i hi hn
    have h12 := hI.1.2.2.1
    have hcd := hI.1.cd i hi (by omega)
    by_cases hq : ρ 15 i = x
    · skip
      refine sw_p 2 (f' := (4, [some (2, 50), some (0, x), some (0, y), some (0, i)], [(2, 50), (0, i)])) rfl ?_
      refine sw_gI (pn := 7) (i := 10) rfl rfl rfl rfl rfl (by omega) hR.sh.1 ?_
      rw [show (ta_m ν ρ x y i) 50 10 = ρ 0 12 from (ta_ne (by omega)).trans (hR.z.2.2.1)]
      refine sw_ge2 (pt := 39) (pn := 10) rfl rfl rfl (by omega) (by omega) (fun h => absurd h (by omega)) (fun m1 => ?_)
      refine sw_p 1 (f' := (11, [some (2, 50), some (0, x), some (0, y), some (0, i)], [(2, 50)])) rfl ?_
      refine sw_hA (pn := 14) (i := 2) (v := 53) rfl rfl rfl rfl rfl hR.sh.1 hR.sh.2.2.2.1.1 (by omega) ?_
      refine sw_p 1 (f' := (15, [some (2, 50), some (0, x), some (0, y), some (0, i)], [(0, i), (2, 53)])) rfl ?_
      refine sw_aal (pn := 16) (t := 5) (l := 40) rfl rfl rfl (by decide) (by omega) hR.sh.2.2.2.1.2.1 hR.sh.2.2.2.1.2.2 (by omega) (by omega) (fun _ => ?_) (fun h => absurd h (by rw [show (ta_m ν ρ x y i) 53 i = 300 + i from (ta_ne (by omega)).trans ((hR.cn i (by omega) (by omega)).1)]; omega))
      rw [show (ta_m ν ρ x y i) 53 i = 300 + i from (ta_ne (by omega)).trans ((hR.cn i (by omega) (by omega)).1)]
      refine sw_gI (pn := 19) (i := 6) rfl rfl rfl rfl rfl (by omega) (hR.ca i (by omega) (by omega)).1 ?_
      rw [show (ta_m ν ρ x y i) (300 + i) 6 = ρ 15 i from (ta_ne (by omega)).trans ((hR.cn i (by omega) (by omega)).2.2.1)]
      refine sw_p 1 (f' := (20, [some (2, 50), some (0, x), some (0, y), some (0, i)], [(0, x), (0, ρ 15 i)])) rfl ?_
      refine sw_ne2 (pt := 33) (pn := 23) rfl rfl rfl (by omega) (by omega) (fun h => absurd h (by omega)) (fun m2 => ?_)
      refine sw_p 1 (f' := (24, [some (2, 50), some (0, x), some (0, y), some (0, i)], [(2, 50)])) rfl ?_
      refine sw_hA (pn := 27) (i := 2) (v := 53) rfl rfl rfl rfl rfl hR.sh.1 hR.sh.2.2.2.1.1 (by omega) ?_
      refine sw_p 1 (f' := (28, [some (2, 50), some (0, x), some (0, y), some (0, i)], [(0, i), (2, 53)])) rfl ?_
      refine sw_aal (pn := 29) (t := 5) (l := 40) rfl rfl rfl (by decide) (by omega) hR.sh.2.2.2.1.2.1 hR.sh.2.2.2.1.2.2 (by omega) (by omega) (fun _ => ?_) (fun h => absurd h (by rw [show (ta_m ν ρ x y i) 53 i = 300 + i from (ta_ne (by omega)).trans ((hR.cn i (by omega) (by omega)).1)]; omega))
      rw [show (ta_m ν ρ x y i) 53 i = 300 + i from (ta_ne (by omega)).trans ((hR.cn i (by omega) (by omega)).1)]
      refine sw_p 1 (f' := (30, [some (2, 50), some (0, x), some (0, y), some (0, i)], [(0, y), (2, 300 + i)])) rfl ?_
      refine sw_pI (pn := 33) (i := 6) rfl rfl rfl rfl rfl (by omega) (hR.ca i (by omega) (by omega)).1 ?_
      refine sw_p 2 (f' := (2, [some (2, 50), some (0, x), some (0, y), some (0, i + 1)], [])) rfl ?_
      rw [ta_s1 hi hq]
      exact ih (i + 1) (by omega) (by omega)
    · skip
      refine sw_p 2 (f' := (4, [some (2, 50), some (0, x), some (0, y), some (0, i)], [(2, 50), (0, i)])) rfl ?_
      refine sw_gI (pn := 7) (i := 10) rfl rfl rfl rfl rfl (by omega) hR.sh.1 ?_
      rw [show (ta_m ν ρ x y i) 50 10 = ρ 0 12 from (ta_ne (by omega)).trans (hR.z.2.2.1)]
      refine sw_ge2 (pt := 39) (pn := 10) rfl rfl rfl (by omega) (by omega) (fun h => absurd h (by omega)) (fun m1 => ?_)
      refine sw_p 1 (f' := (11, [some (2, 50), some (0, x), some (0, y), some (0, i)], [(2, 50)])) rfl ?_
      refine sw_hA (pn := 14) (i := 2) (v := 53) rfl rfl rfl rfl rfl hR.sh.1 hR.sh.2.2.2.1.1 (by omega) ?_
      refine sw_p 1 (f' := (15, [some (2, 50), some (0, x), some (0, y), some (0, i)], [(0, i), (2, 53)])) rfl ?_
      refine sw_aal (pn := 16) (t := 5) (l := 40) rfl rfl rfl (by decide) (by omega) hR.sh.2.2.2.1.2.1 hR.sh.2.2.2.1.2.2 (by omega) (by omega) (fun _ => ?_) (fun h => absurd h (by rw [show (ta_m ν ρ x y i) 53 i = 300 + i from (ta_ne (by omega)).trans ((hR.cn i (by omega) (by omega)).1)]; omega))
      rw [show (ta_m ν ρ x y i) 53 i = 300 + i from (ta_ne (by omega)).trans ((hR.cn i (by omega) (by omega)).1)]
      refine sw_gI (pn := 19) (i := 6) rfl rfl rfl rfl rfl (by omega) (hR.ca i (by omega) (by omega)).1 ?_
      rw [show (ta_m ν ρ x y i) (300 + i) 6 = ρ 15 i from (ta_ne (by omega)).trans ((hR.cn i (by omega) (by omega)).2.2.1)]
      refine sw_p 1 (f' := (20, [some (2, 50), some (0, x), some (0, y), some (0, i)], [(0, x), (0, ρ 15 i)])) rfl ?_
      refine sw_ne2 (pt := 33) (pn := 23) rfl rfl rfl (by omega) (by omega) (fun m2 => ?_) (fun h => absurd h (by omega))
      refine sw_p 2 (f' := (2, [some (2, 50), some (0, x), some (0, y), some (0, i + 1)], [])) rfl ?_
      rw [ta_s0 hq]
      exact ih (i + 1) (by omega) (by omega)
theorem cl_ta (hI : iv_A ρ f) (hR : pt_R s ν ρ f) (hx : 0 ≤ x ∧ x ≤ 5) : sw_w E d 55 (0, [some (2, 50), some (0, x), some (0, y), none], []) s ν (sw_is none s (ta_m ν ρ x y (ρ 0 12))) := by
  have h12 := hI.1.2.2.1
  refine sw_p 2 (f' := (2, [some (2, 50), some (0, x), some (0, y), some (0, 0)], [])) rfl ?_
  have h := cl_ta_l (E := E) (d := d) (y := y) hI hR hx (ρ 0 12).toNat 0 (by omega) (by omega)
  rw [ta_0] at h
  exact h
def to_m (s ν ρ : mm_T) (c y : Int) : mm_T := mm_u (mm_u ν (120 + ρ 14 c) (s (300 + c) 1) (-1)) (300 + c) 6 y
theorem cl_to (hI : iv_A ρ f) (hR : pt_R s ν ρ f) (hc : 0 ≤ c ∧ c < ρ 0 12) : sw_w E d 27 (0, [some (2, 300 + c), some (0, y)], []) s ν (sw_is none s (to_m s ν ρ c y)) := by
  have h12 := hI.1.2.2.1
  have h8 := hI.1.1
  have hcd := hI.1.cd c hc.1 (by omega)
  have hK := hI.2.2.2.2.2.1 c hc.1 hc.2
  have hsl := (hR.ca c hc.1 hc.2).2.2.1
  refine sw_p 1 (f' := (1, [some (2, 300 + c), some (0, y)], [(2, 300 + c)])) rfl ?_
  refine sw_hA (pn := 4) (i := 0) (v := 100 + ρ 14 c) rfl rfl rfl rfl rfl (hR.ca c (by omega) (by omega)).1 (hR.ca c (by omega) (by omega)).2.1 (by omega) ?_
  refine sw_hA (pn := 7) (i := 5) (v := 120 + (ρ 14 c)) rfl rfl rfl rfl rfl (hR.br (ρ 14 c) (by omega) (by omega)).1 (hR.br (ρ 14 c) (by omega) (by omega)).2.2.2.2.2.2.1 (by omega) ?_
  refine sw_p 1 (f' := (8, [some (2, 300 + c), some (0, y)], [(2, 300 + c), (2, 120 + (ρ 14 c))])) rfl ?_
  refine sw_hI (pn := 11) (i := 1) (v := s (300 + c) 1) rfl rfl rfl rfl rfl (hR.ca c (by omega) (by omega)).1 rfl ?_
  refine sw_p 1 (f' := (12, [some (2, 300 + c), some (0, y)], [(3, 0), (0, s (300 + c) 1), (2, 120 + (ρ 14 c))])) rfl ?_
  refine sw_aasN (pn := 13) (t := 5) (l := 4) rfl rfl rfl (by decide) (by omega) (hR.br (ρ 14 c) (by omega) (by omega)).2.2.2.2.2.2.2.1 (hR.br (ρ 14 c) (by omega) (by omega)).2.2.2.2.2.2.2.2 (by omega) (by omega) ?_
  refine sw_p 2 (f' := (15, [some (2, 300 + c), some (0, y)], [(0, y), (2, 300 + c)])) rfl ?_
  refine sw_pI (pn := 18) (i := 6) rfl rfl rfl rfl rfl (by omega) (hR.ca c (by omega) (by omega)).1 ?_
  exact sw_retV rfl rfl rfl ⟨rfl, rfl, rfl⟩
theorem cl_rf (hI : iv_A ρ f) (hR : pt_R s ν ρ f) (hc : 0 ≤ c ∧ c < ρ 0 12) : sw_w E (d + 1) 47 (0, [some (2, 50), some (2, 300 + c), some (0, z)], []) s ν (sw_is none s (mm_u (mm_u (to_m s ν ρ c 5) (300 + c) 7 z) 50 11 (-1))) := by
  have h12 := hI.1.2.2.1
  have h8 := hI.1.1
  have hcd := hI.1.cd c hc.1 (by omega)
  have hK := hI.2.2.2.2.2.1 c hc.1 hc.2
  have hsl := (hR.ca c hc.1 hc.2).2.2.1
  refine sw_p 2 (f' := (2, [some (2, 50), some (2, 300 + c), some (0, z)], [(0, 5), (2, 300 + c)])) rfl ?_
  refine sw_cv1 (pn := 5) (q0 := mj_PT_refuse) (q := mj_Ca_takeOut) (p := 300 + c) (as2 := [(0, 5)]) (L2 := [some (2, 300 + c), some (0, 5)]) (rest := []) (v := none) (s1 := s) (ν1 := (to_m s ν ρ c 5)) rfl rfl rfl rfl rfl rfl rfl rfl rfl (hR.ca c (by omega) (by omega)).1 (cl_to hI hR hc) ?_
  show sw_w E _ 47 (5, [some (2, 50), some (2, 300 + c), some (0, z)], []) s (to_m s ν ρ c 5) _
  refine sw_p 2 (f' := (7, [some (2, 50), some (2, 300 + c), some (0, z)], [(0, z), (2, 300 + c)])) rfl ?_
  refine sw_pI (pn := 10) (i := 7) rfl rfl rfl rfl rfl (by omega) (hR.ca c (by omega) (by omega)).1 ?_
  refine sw_p 2 (f' := (12, [some (2, 50), some (2, 300 + c), some (0, z)], [(3, 0), (2, 50)])) rfl ?_
  refine sw_pN (pn := 15) (i := 11) rfl rfl rfl rfl rfl (by omega) hR.sh.1 ?_
  exact sw_retV rfl rfl rfl ⟨rfl, rfl, rfl⟩
theorem cl_si (hI : iv_A ρ f) (hR : pt_R s ν ρ f) (hc : 0 ≤ c ∧ c < ρ 0 12) : sw_w E d 51 (0, [some (2, 50), some (2, 300 + c)], []) s ν (sw_is none s (mm_u (mm_u (mm_cp ν (340 + c) 0 64 0 3) (300 + c) 6 1) 50 11 (-1))) := by
  have h12 := hI.1.2.2.1
  have h8 := hI.1.1
  have hcd := hI.1.cd c hc.1 (by omega)
  have hK := hI.2.2.2.2.2.1 c hc.1 hc.2
  have hsl := (hR.ca c hc.1 hc.2).2.2.1
  refine sw_p 1 (f' := (1, [some (2, 50), some (2, 300 + c)], [(2, 50)])) rfl ?_
  refine sw_hA (pn := 4) (i := 7) (v := 64) rfl rfl rfl rfl rfl hR.sh.1 hR.sh.2.2.2.2.2.2.2.2.1 (by omega) ?_
  refine sw_p 2 (f' := (6, [some (2, 50), some (2, 300 + c)], [(2, 300 + c), (0, 0), (2, 64)])) rfl ?_
  refine sw_hA (pn := 9) (i := 3) (v := 340 + c) rfl rfl rfl rfl rfl (hR.ca c (by omega) (by omega)).1 (hR.ca c (by omega) (by omega)).2.2.2.2.1.1 (by omega) ?_
  refine sw_p 2 (f' := (11, [some (2, 50), some (2, 300 + c)], [(0, 3), (0, 0), (2, 340 + c), (0, 0), (2, 64)])) rfl ?_
  refine sw_cpy (pn := 14) (la := 3) (lb := 3) rfl rfl (by omega) (by omega) (by omega) hR.sh.2.2.2.2.2.2.2.2.2.1 hR.sh.2.2.2.2.2.2.2.2.2.2 (hR.ca c (by omega) (by omega)).2.2.2.2.1.2.1 (hR.ca c (by omega) (by omega)).2.2.2.2.1.2.2 (by omega) (by omega) (by omega) (by omega) (by omega) rfl ?_
  refine sw_p 2 (f' := (16, [some (2, 50), some (2, 300 + c)], [(0, 1), (2, 300 + c)])) rfl ?_
  refine sw_pI (pn := 19) (i := 6) rfl rfl rfl rfl rfl (by omega) (hR.ca c (by omega) (by omega)).1 ?_
  refine sw_p 2 (f' := (21, [some (2, 50), some (2, 300 + c)], [(3, 0), (2, 50)])) rfl ?_
  refine sw_pN (pn := 24) (i := 11) rfl rfl rfl rfl rfl (by omega) hR.sh.1 ?_
  exact sw_retV rfl rfl rfl ⟨rfl, rfl, rfl⟩
/-- taking out, in the words of the relation -/
theorem to_N (hI : iv_A ρ f) (hR : pt_R s ν ρ f) (hc : 0 ≤ c ∧ c < ρ 0 12) (hcm : ρ 0 21 ≠ c) : rm_N s ν ρ (to_m s ν ρ c y) c y (ρ 16 c) := by
  have h12 := hI.1.2.2.1
  have h8 := hI.1.1
  have hcd := hI.1.cd c hc.1 (by omega)
  refine ⟨?_, mm_u_at, ?_, ?_, fun p i h1 h2 h3 h4 => ?_⟩
  · unfold to_m
    rw [mm_u_ne (by omega), mm_u_at]
  · unfold to_m
    rw [mm_u_ne (by omega), mm_u_ne (by omega)]
    exact (hR.cn c hc.1 hc.2).2.2.2.1
  · unfold to_m
    rw [mm_u_ne (by omega), mm_u_ne (by omega), hR.z.2.2.2.1]
    by_cases h : ρ 0 21 < 0
    · rw [if_pos h, if_pos (Or.inr h)]
    · rw [if_neg h, if_neg (by omega)]
  · unfold to_m
    rw [mm_u_ne (fun h => h3 ⟨h.1, Or.inl h.2⟩), mm_u_ne (fun h => h2 h)]
theorem rf_N (hI : iv_A ρ f) (hc : 0 ≤ c ∧ c < ρ 0 12) (hcm : ρ 0 21 = c) : rm_N s ν ρ (mm_u (mm_u (to_m s ν ρ c 5) (300 + c) 7 z) 50 11 (-1)) c 5 z := by
  have h12 := hI.1.2.2.1
  have h8 := hI.1.1
  have hcd := hI.1.cd c hc.1 (by omega)
  refine ⟨?_, ?_, ?_, ?_, fun p i h1 h2 h3 h4 => ?_⟩
  · unfold to_m
    rw [mm_u_ne (by omega), mm_u_ne (by omega), mm_u_ne (by omega), mm_u_at]
  · unfold to_m
    rw [mm_u_ne (by omega), mm_u_ne (by omega), mm_u_at]
  · rw [mm_u_ne (by omega), mm_u_at]
  · rw [mm_u_at, if_pos (Or.inl hcm)]
  · unfold to_m
    rw [mm_u_ne (fun h => h4 h), mm_u_ne (fun h => h3 ⟨h.1, Or.inr h.2⟩), mm_u_ne (fun h => h3 ⟨h.1, Or.inl h.2⟩), mm_u_ne (fun h => h2 h)]
end PC6
