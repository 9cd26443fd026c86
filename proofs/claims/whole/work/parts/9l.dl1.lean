/-! the class: dismissLeaving -/
/-- the reference's cells are as they were -/
def lo_r (ν ν' : mm_T) : Prop := ∀ p, p < 50 → ν' p = ν p
theorem lo_rfl {ν : mm_T} : lo_r ν ν := fun _ _ => rfl
theorem lo_tr {ν ν1 ν2 : mm_T} (h1 : lo_r ν ν1) (h2 : lo_r ν1 ν2) : lo_r ν ν2 := fun p hp => (h2 p hp).trans (h1 p hp)
theorem lo_u {ν : mm_T} {p i z : Int} (hp : 50 ≤ p) : lo_r ν (mm_u ν p i z) := fun q hq => by
  funext k
  exact mm_u_ne (by omega)
theorem lo_fr {ν ν' : mm_T} {ps : List Int} (h : fr_r ps ν ν') (hp : ∀ p ∈ ps, 50 ≤ p) : lo_r ν ν' := fun p hp2 => h p (fun hm => by have := hp p hm; omega)
section DL
variable {E : mv_E} {s ν ρ : mm_T} {f : Int → Int} {d : Nat} {a b c e i k l n o p q r t u w x y z : Int} {Q : nm_O → mm_T → mm_T → Prop}
theorem to_lo {y : Int} (h : 0 ≤ ρ 14 c) (hc : 0 ≤ c) : lo_r ν (to_m s ν ρ c y) := lo_tr (lo_u (by omega)) (lo_u (by omega))
theorem go_rm (hI : iv_I ρ f) (hc : 0 ≤ c ∧ c < ρ 0 12) (hst : ρ 15 c = 3) : iv_I (mo_rm ρ c 4) f := by
  have h := iv_rm (z := ρ 16 c) hI hc (by omega) (y := 4) (by omega)
  rwa [mm_u_self] at h
theorem go_Rrm (hI : iv_I ρ f) (hR : pt_R s ν ρ f) (hc : 0 ≤ c ∧ c < ρ 0 12) (hst : ρ 15 c = 3) (h19 : ρ 19 c = 0) : pt_R s (to_m s ν ρ c 4) (mo_rm ρ c 4) f := by
  have hcm : ρ 0 21 ≠ c := fun h => by
    have := hI.2.2.2.2.2.2.2.2.1.1 (by omega)
    rw [h] at this
    omega
  have h := R_rm (z := ρ 16 c) hI.1 hI.2.1 hI.2.2.1 hR hc (by omega) (y := 4) (by omega) h19 (to_N hI.1 hR hc hcm)
  rwa [mm_u_self] at h
theorem iv_go1 : ∀ (n : Nat) (c : Int) (X : mm_T × Int), 0 ≤ c → c + n = X.1 0 12 → iv_I X.1 f → iv_I (go_1 n c X).1 f
  | 0, _, _, _, _, h => h
  | n + 1, c, X, h0, hn, h => by
    unfold go_1
    by_cases hq : X.1 15 c = 3 ∧ X.1 19 c = 0
    · rw [if_pos hq]
      exact iv_go1 n (c + 1) (mo_rm X.1 c 4, 1) (by omega) (by show c + 1 + (n : Int) = mo_rm X.1 c 4 0 12; rw [mo_rm_0 (by omega)]; omega) (go_rm h ⟨h0, by omega⟩ hq.1)
    · rw [if_neg hq]
      exact iv_go1 n (c + 1) X (by omega) (by omega) h
theorem iv_go0 (hI : iv_I ρ f) : iv_I (go_0 ρ).1 f := iv_go1 _ 0 (ρ, 0) (by omega) (by have := hI.1.1.2.2.1; show (0 : Int) + _ = ρ 0 12; omega) hI
theorem cl_dl_l : ∀ (n : Nat) (c : Int) (ν : mm_T) (X : mm_T × Int), 0 ≤ c → c + n = X.1 0 12 → iv_I X.1 f → pt_R s ν X.1 f → X.2 = 0 ∨ X.2 = 1 → sw_w E (d + 1) 43 (4, [some (2, 50), some (0, X.2), some (0, c)], []) s ν (sw_vr (fun v ν' => v = some (0, (go_1 n c X).2) ∧ pt_R s ν' (go_1 n c X).1 f ∧ lo_r ν ν') s) := by
  intro n
  induction n with
  | zero =>
    intro c ν X hc hn hI hR hr
    have h12 := hI.1.1.2.2.1
    refine sw_p 2 (f' := (6, [some (2, 50), some (0, X.2), some (0, c)], [(2, 50), (0, c)])) rfl ?_
    refine sw_gI (pn := 9) (i := 10) rfl rfl rfl rfl rfl (by omega) hR.sh.1 ?_
    rw [show ν 50 10 = X.1 0 12 from hR.z.2.2.1]
    refine sw_ge2 (pt := 55) (pn := 12) rfl rfl rfl (by omega) (by omega) (fun m1 => ?_) (fun h => absurd h (by omega))
    refine sw_p 1 (f' := (56, [some (2, 50), some (0, X.2), some (0, c)], [(0, X.2)])) rfl ?_
    exact sw_retZ rfl rfl rfl (by omega) ⟨_, rfl, rfl, rfl, hR, lo_rfl⟩
  | succ n ih =>
    intro c ν X hc hn hI hR hr
    have h12 := hI.1.1.2.2.1
    have hcd := hI.1.1.cd c hc (by omega)
    unfold go_1
    by_cases hq : X.1 15 c = 3 ∧ X.1 19 c = 0
    · rw [if_pos hq]
      refine sw_p 2 (f' := (6, [some (2, 50), some (0, X.2), some (0, c)], [(2, 50), (0, c)])) rfl ?_
      refine sw_gI (pn := 9) (i := 10) rfl rfl rfl rfl rfl (by omega) hR.sh.1 ?_
      rw [show ν 50 10 = X.1 0 12 from hR.z.2.2.1]
      refine sw_ge2 (pt := 55) (pn := 12) rfl rfl rfl (by omega) (by omega) (fun h => absurd h (by omega)) (fun m1 => ?_)
      refine sw_p 1 (f' := (13, [some (2, 50), some (0, X.2), some (0, c)], [(2, 50)])) rfl ?_
      refine sw_hA (pn := 16) (i := 2) (v := 53) rfl rfl rfl rfl rfl hR.sh.1 hR.sh.2.2.2.1.1 (by omega) ?_
      refine sw_p 1 (f' := (17, [some (2, 50), some (0, X.2), some (0, c)], [(0, c), (2, 53)])) rfl ?_
      refine sw_aal (pn := 18) (t := 5) (l := 40) rfl rfl rfl (by decide) (by omega) hR.sh.2.2.2.1.2.1 hR.sh.2.2.2.1.2.2 (by omega) (by omega) (fun _ => ?_) (fun h => absurd h (by rw [show ν 53 c = 300 + c from (hR.cn c (by omega) (by omega)).1]; omega))
      rw [show ν 53 c = 300 + c from (hR.cn c (by omega) (by omega)).1]
      refine sw_gI (pn := 21) (i := 6) rfl rfl rfl rfl rfl (by omega) (hR.ca c (by omega) (by omega)).1 ?_
      rw [show ν (300 + c) 6 = X.1 15 c from (hR.cn c (by omega) (by omega)).2.2.1]
      refine sw_p 1 (f' := (22, [some (2, 50), some (0, X.2), some (0, c)], [(0, 3), (0, X.1 15 c)])) rfl ?_
      refine sw_ne2 (pt := 49) (pn := 25) rfl rfl rfl (by omega) (by omega) (fun h => absurd h (by omega)) (fun m2 => ?_)
      refine sw_p 1 (f' := (26, [some (2, 50), some (0, X.2), some (0, c)], [(2, 50)])) rfl ?_
      refine sw_hA (pn := 29) (i := 2) (v := 53) rfl rfl rfl rfl rfl hR.sh.1 hR.sh.2.2.2.1.1 (by omega) ?_
      refine sw_p 1 (f' := (30, [some (2, 50), some (0, X.2), some (0, c)], [(0, c), (2, 53)])) rfl ?_
      refine sw_aal (pn := 31) (t := 5) (l := 40) rfl rfl rfl (by decide) (by omega) hR.sh.2.2.2.1.2.1 hR.sh.2.2.2.1.2.2 (by omega) (by omega) (fun _ => ?_) (fun h => absurd h (by rw [show ν 53 c = 300 + c from (hR.cn c (by omega) (by omega)).1]; omega))
      rw [show ν 53 c = 300 + c from (hR.cn c (by omega) (by omega)).1]
      refine sw_gI (pn := 34) (i := 9) rfl rfl rfl rfl rfl (by omega) (hR.ca c (by omega) (by omega)).1 ?_
      rw [show ν (300 + c) 9 = X.1 19 c from (hR.cn c (by omega) (by omega)).2.2.2.2.2.1]
      refine sw_ne1 (pt := 49) (pn := 37) rfl rfl rfl (by omega) (fun h => absurd h (by omega)) (fun m3 => ?_)
      refine sw_p 1 (f' := (38, [some (2, 50), some (0, X.2), some (0, c)], [(2, 50)])) rfl ?_
      refine sw_hA (pn := 41) (i := 2) (v := 53) rfl rfl rfl rfl rfl hR.sh.1 hR.sh.2.2.2.1.1 (by omega) ?_
      refine sw_p 1 (f' := (42, [some (2, 50), some (0, X.2), some (0, c)], [(0, c), (2, 53)])) rfl ?_
      refine sw_aal (pn := 43) (t := 5) (l := 40) rfl rfl rfl (by decide) (by omega) hR.sh.2.2.2.1.2.1 hR.sh.2.2.2.1.2.2 (by omega) (by omega) (fun _ => ?_) (fun h => absurd h (by rw [show ν 53 c = 300 + c from (hR.cn c (by omega) (by omega)).1]; omega))
      rw [show ν 53 c = 300 + c from (hR.cn c (by omega) (by omega)).1]
      refine sw_p 1 (f' := (44, [some (2, 50), some (0, X.2), some (0, c)], [(0, 4), (2, 300 + c)])) rfl ?_
      refine sw_cv1 (pn := 47) (q0 := mj_PT_dismissLeaving) (q := mj_Ca_takeOut) (p := 300 + c) (as2 := [(0, 4)]) (L2 := [some (2, 300 + c), some (0, 4)]) (rest := []) (v := none) (s1 := s) (ν1 := (to_m s ν X.1 c 4)) rfl rfl rfl rfl rfl rfl rfl rfl rfl (hR.ca c (by omega) (by omega)).1 (cl_to hI.1 hR (by omega)) ?_
      show sw_w E _ 43 (47, [some (2, 50), some (0, X.2), some (0, c)], []) s (to_m s ν X.1 c 4) _
      refine sw_p 4 (f' := (4, [some (2, 50), some (0, 1), some (0, c + 1)], [])) rfl ?_
      refine sw_mono (ih (c + 1) (to_m s ν X.1 c 4) (mo_rm X.1 c 4, 1) (by omega) (by show c + 1 + (n : Int) = mo_rm X.1 c 4 0 12; rw [mo_rm_0 (by omega)]; omega) (go_rm hI ⟨hc, by omega⟩ hq.1) (go_Rrm hI hR ⟨hc, by omega⟩ hq.1 hq.2) (Or.inr rfl)) ?_
      intro o s2 ν2 ⟨v, e1, e2, e3, e4, e5⟩
      exact ⟨v, e1, e2, e3, e4, lo_tr (to_lo (by omega) hc) e5⟩
    · rw [if_neg hq]
      refine sw_p 2 (f' := (6, [some (2, 50), some (0, X.2), some (0, c)], [(2, 50), (0, c)])) rfl ?_
      refine sw_gI (pn := 9) (i := 10) rfl rfl rfl rfl rfl (by omega) hR.sh.1 ?_
      rw [show ν 50 10 = X.1 0 12 from hR.z.2.2.1]
      refine sw_ge2 (pt := 55) (pn := 12) rfl rfl rfl (by omega) (by omega) (fun h => absurd h (by omega)) (fun m1 => ?_)
      refine sw_p 1 (f' := (13, [some (2, 50), some (0, X.2), some (0, c)], [(2, 50)])) rfl ?_
      refine sw_hA (pn := 16) (i := 2) (v := 53) rfl rfl rfl rfl rfl hR.sh.1 hR.sh.2.2.2.1.1 (by omega) ?_
      refine sw_p 1 (f' := (17, [some (2, 50), some (0, X.2), some (0, c)], [(0, c), (2, 53)])) rfl ?_
      refine sw_aal (pn := 18) (t := 5) (l := 40) rfl rfl rfl (by decide) (by omega) hR.sh.2.2.2.1.2.1 hR.sh.2.2.2.1.2.2 (by omega) (by omega) (fun _ => ?_) (fun h => absurd h (by rw [show ν 53 c = 300 + c from (hR.cn c (by omega) (by omega)).1]; omega))
      rw [show ν 53 c = 300 + c from (hR.cn c (by omega) (by omega)).1]
      refine sw_gI (pn := 21) (i := 6) rfl rfl rfl rfl rfl (by omega) (hR.ca c (by omega) (by omega)).1 ?_
      rw [show ν (300 + c) 6 = X.1 15 c from (hR.cn c (by omega) (by omega)).2.2.1]
      refine sw_p 1 (f' := (22, [some (2, 50), some (0, X.2), some (0, c)], [(0, 3), (0, X.1 15 c)])) rfl ?_
      refine sw_ne2 (pt := 49) (pn := 25) rfl rfl rfl (by omega) (by omega) (fun m2 => ?_) (fun m2 => ?_)
      · skip
        refine sw_p 2 (f' := (4, [some (2, 50), some (0, X.2), some (0, c + 1)], [])) rfl ?_
        exact ih (c + 1) ν X (by omega) (by omega) hI hR hr
      · skip
        refine sw_p 1 (f' := (26, [some (2, 50), some (0, X.2), some (0, c)], [(2, 50)])) rfl ?_
        refine sw_hA (pn := 29) (i := 2) (v := 53) rfl rfl rfl rfl rfl hR.sh.1 hR.sh.2.2.2.1.1 (by omega) ?_
        refine sw_p 1 (f' := (30, [some (2, 50), some (0, X.2), some (0, c)], [(0, c), (2, 53)])) rfl ?_
        refine sw_aal (pn := 31) (t := 5) (l := 40) rfl rfl rfl (by decide) (by omega) hR.sh.2.2.2.1.2.1 hR.sh.2.2.2.1.2.2 (by omega) (by omega) (fun _ => ?_) (fun h => absurd h (by rw [show ν 53 c = 300 + c from (hR.cn c (by omega) (by omega)).1]; omega))
        rw [show ν 53 c = 300 + c from (hR.cn c (by omega) (by omega)).1]
        refine sw_gI (pn := 34) (i := 9) rfl rfl rfl rfl rfl (by omega) (hR.ca c (by omega) (by omega)).1 ?_
        rw [show ν (300 + c) 9 = X.1 19 c from (hR.cn c (by omega) (by omega)).2.2.2.2.2.1]
        refine sw_ne1 (pt := 49) (pn := 37) rfl rfl rfl (by omega) (fun m3 => ?_) (fun m3 => ?_)
        · skip
          refine sw_p 2 (f' := (4, [some (2, 50), some (0, X.2), some (0, c + 1)], [])) rfl ?_
          exact ih (c + 1) ν X (by omega) (by omega) hI hR hr
        · skip
          omega
theorem cl_dl (hI : iv_I ρ f) (hR : pt_R s ν ρ f) : sw_w E (d + 1) 43 (0, [some (2, 50), none, none], []) s ν (sw_vr (fun v ν' => v = some (0, (go_0 ρ).2) ∧ pt_R s ν' (go_0 ρ).1 f ∧ lo_r ν ν') s) := by
  have h12 := hI.1.1.2.2.1
  refine sw_p 4 (f' := (4, [some (2, 50), some (0, 0), some (0, 0)], [])) rfl ?_
  exact cl_dl_l (ρ 0 12).toNat 0 ν (ρ, 0) (by omega) (by show (0 : Int) + _ = ρ 0 12; omega) hI hR (Or.inl rfl)
end DL
