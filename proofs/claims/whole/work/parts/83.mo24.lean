/-! the reference: goOn, step -/
/-- those that leave and have nothing to do are gone -/
def go_1 : Nat → Int → mm_T × Int → mm_T × Int
  | 0, _, X => X
  | n + 1, c, X => go_1 n (c + 1) (if X.1 15 c = 3 ∧ X.1 19 c = 0 then (mo_rm X.1 c 4, 1) else X)
/-- is a request of one that is there started -/
def go_w (ν : mm_T) : Nat → Int → Int
  | 0, _ => 0
  | n + 1, c => if (1 ≤ ν 15 c ∧ ν 15 c ≤ 3) ∧ 0 < ν 19 c then 1 else go_w ν n (c + 1)
def go_0 (ν : mm_T) : mm_T × Int := go_1 (ν 0 12).toNat 0 (ν, 0)
/-- what follows the first loop: the answer r0 so far -/
def go_2 (ν : mm_T) (r : Int) : mm_T × Int := if ν 0 21 < 0 then (ν, r) else if ν 0 22 = 0 then (ck_f ν, 1) else if go_w ν (ν 0 12).toNat 0 = 1 then (ν, r) else (ma_e (mo_pn ν), 1)
def go_f (ν : mm_T) : mm_T × Int := go_2 (go_0 ν).1 (go_0 ν).2
/-- what step wants of memory -/
def gi_I (ν : mm_T) (f : Int → Int) : Prop := mo_B ν ∧ mo_C ν ∧ tr_I ν f ∧ mo_p2s ν ∧ mo_b1 ν 29 ∧ mo_b1 ν 30 ∧ (∀ t, 0 ≤ t → t < 16 → ν 11 t = 0 ∨ ν 11 t = 1) ∧ (0 ≤ ν 0 21 → 0 ≤ ν 3 (ν 14 (ν 0 21)) → ν 5 (ν 14 (ν 0 21)) < ν 6 (ν 14 (ν 0 21)) → ν 5 (ν 3 (ν 14 (ν 0 21))) ≤ ν 6 (ν 14 (ν 0 21))) ∧ (0 ≤ ν 0 21 → ν 0 22 ≠ 0 → ma_q (mo_pn ν))
def go_P (ν : mm_T) (v : Option mg_V) (ν' : mm_T) : Prop := v = some (0, (go_f ν).2) ∧ jk_r (go_f ν).1 ν' ∧ mo_b1 ν' 29 ∧ mo_b1 ν' 30
section GO
variable {E : mv_E} {s ν : mm_T} {d : Nat} {b c x y e k z p i t l m a u r w : Int} {f : Int → Int} {X : mm_T × Int} {o1 o2 o3 : Option mg_V} {Q : nm_O → mm_T → mm_T → Prop}
theorem go_1_r : ∀ (n : Nat) (c : Int) (X : mm_T × Int), X.2 = 0 ∨ X.2 = 1 → (go_1 n c X).2 = 0 ∨ (go_1 n c X).2 = 1
  | 0, _, _, h => h
  | n + 1, c, X, h => by
    unfold go_1
    refine go_1_r n (c + 1) _ ?_
    split
    · exact Or.inr rfl
    · exact h
theorem go_1_b1 {p : Int} (hp : p = 29 ∨ p = 30) : ∀ (n : Nat) (c : Int) (X : mm_T × Int), mo_b1 X.1 p → mo_b1 (go_1 n c X).1 p
  | 0, _, _, h => h
  | n + 1, c, X, h => by
    unfold go_1
    refine go_1_b1 hp n (c + 1) _ ?_
    split
    · intro a h1 h2
      show mo_rm X.1 c 4 p a = 0 ∨ mo_rm X.1 c 4 p a = 1
      unfold mo_rm mo_rm3 mo_rm2 mo_rm1
      rw [mm_u_ne (by omega), rg_ne (by omega), rg_ne (by omega), mm_u_ne (by omega), mm_u_ne (by omega)]
      exact h a h1 h2
    · exact h
theorem go_w_01 : ∀ (n : Nat) (c : Int), go_w ν n c = 0 ∨ go_w ν n c = 1
  | 0, _ => Or.inl rfl
  | n + 1, c => by
    unfold go_w
    split
    · exact Or.inr rfl
    · exact go_w_01 n (c + 1)
theorem ma_e_b1 (hp : p = 29 ∨ p = 30) (h : mo_b1 ν p) : mo_b1 (ma_e (mo_pn ν)) p := fun a h1 h2 => by
  unfold ma_e mo_ch ma_f
  rw [mm_u_ne (by omega), mm_u_ne (by omega), rg_ne (by omega), ma_ne (by omega) (by omega), pn_fr p (by rcases hp with rfl | rfl <;> decide)]
  exact h a h1 h2
theorem go_f_r : (go_f ν).2 = 0 ∨ (go_f ν).2 = 1 := by
  have hr := go_1_r (ν 0 12).toNat 0 (ν, 0) (Or.inl rfl)
  unfold go_f go_2
  split
  · exact hr
  · split
    · exact Or.inr rfl
    · split
      · exact hr
      · exact Or.inr rfl
theorem go_wl (hs : mo_sh s) : ∀ (n : Nat) (c : Int) (X : mm_T × Int), mo_B X.1 → X.2 = 0 ∨ X.2 = 1 → 0 ≤ c → c + n = X.1 0 12 → (∀ o2, sw_w E (d + 1) 90 (45, [some (2, 0), some (0, (go_1 n c X).2), o2], []) s (go_1 n c X).1 Q) → sw_w E (d + 1) 90 (4, [some (2, 0), some (0, X.2), some (0, c)], []) s X.1 Q := by
  intro n
  induction n with
  | zero =>
    intro c X hB hr hc hn kk
    have h12 := hB.2.2.1
    refine sw_p 2 (f' := (6, [some (2, 0), some (0, X.2), some (0, c)], [(2, 0), (0, c)])) rfl ?_
    refine sw_gI (pn := 9) (i := 12) rfl rfl rfl rfl rfl (by omega) hs.1 ?_
    refine sw_ge2 (pt := 45) (pn := 12) rfl rfl rfl (by omega) (by omega) (fun h1 => ?_) (fun h => absurd h (by omega))
    exact kk _
  | succ n ih =>
    intro c X hB hr hc hn kk
    have h12 := hB.2.2.1
    have hcd := hB.cd c hc (by omega)
    unfold go_1 at kk
    by_cases hq : X.1 15 c = 3 ∧ X.1 19 c = 0
    · rw [if_pos hq] at kk
      refine sw_p 2 (f' := (6, [some (2, 0), some (0, X.2), some (0, c)], [(2, 0), (0, c)])) rfl ?_
      refine sw_gI (pn := 9) (i := 12) rfl rfl rfl rfl rfl (by omega) hs.1 ?_
      refine sw_ge2 (pt := 45) (pn := 12) rfl rfl rfl (by omega) (by omega) (fun h => absurd h (by omega)) (fun h1 => ?_)
      refine sw_p 1 (f' := (13, [some (2, 0), some (0, X.2), some (0, c)], [(2, 0)])) rfl ?_
      refine sw_hA (pn := 16) (i := 15) (v := 15) rfl rfl rfl rfl rfl hs.1 (mo_s15 hs).1 (by omega) ?_
      refine sw_p 1 (f' := (17, [some (2, 0), some (0, X.2), some (0, c)], [(0, c), (2, 15)])) rfl ?_
      refine sw_ial (pn := 18) (l := 40) rfl rfl (by omega) (mo_s15 hs).2.1 (mo_s15 hs).2.2 (by omega) (by omega) ?_
      refine sw_p 1 (f' := (19, [some (2, 0), some (0, X.2), some (0, c)], [(0, 3), (0, X.1 15 c)])) rfl ?_
      refine sw_ne2 (pt := 39) (pn := 22) rfl rfl rfl (by omega) (by omega) (fun h => absurd h (by omega)) (fun h2 => ?_)
      refine sw_p 1 (f' := (23, [some (2, 0), some (0, X.2), some (0, c)], [(2, 0)])) rfl ?_
      refine sw_hA (pn := 26) (i := 19) (v := 19) rfl rfl rfl rfl rfl hs.1 (mo_s19 hs).1 (by omega) ?_
      refine sw_p 1 (f' := (27, [some (2, 0), some (0, X.2), some (0, c)], [(0, c), (2, 19)])) rfl ?_
      refine sw_ial (pn := 28) (l := 40) rfl rfl (by omega) (mo_s19 hs).2.1 (mo_s19 hs).2.2 (by omega) (by omega) ?_
      refine sw_ne1 (pt := 39) (pn := 31) rfl rfl rfl (by omega) (fun h => absurd h (by omega)) (fun h3 => ?_)
      refine sw_p 3 (f' := (34, [some (2, 0), some (0, X.2), some (0, c)], [(0, 4), (0, c), (2, 0)])) rfl ?_
      refine sw_cv1 (pn := 37) (q0 := mj_Mo_goOn) (q := mj_Mo_remove) (p := 0) (as2 := [(0, c), (0, 4)]) (L2 := [some (2, 0), some (0, c), some (0, 4), none]) (rest := []) (v := none) (s1 := s) (ν1 := (mo_rm X.1 c 4)) rfl rfl rfl rfl rfl rfl rfl rfl rfl hs.1 (mo_remove hs hB (by omega) (by omega)) ?_
      show sw_w E _ 90 (37, [some (2, 0), some (0, X.2), some (0, c)], []) s (mo_rm X.1 c 4) _
      refine sw_p 4 (f' := (4, [some (2, 0), some (0, 1), some (0, c + 1)], [])) rfl ?_
      exact ih (c + 1) (mo_rm X.1 c 4, 1) (mo_B_rm hB hc (by omega)) (Or.inr rfl) (by omega) (by show c + 1 + (n : Int) = mo_rm X.1 c 4 0 12; rw [mo_rm_0 (by omega)]; omega) kk
    · rw [if_neg hq] at kk
      refine sw_p 2 (f' := (6, [some (2, 0), some (0, X.2), some (0, c)], [(2, 0), (0, c)])) rfl ?_
      refine sw_gI (pn := 9) (i := 12) rfl rfl rfl rfl rfl (by omega) hs.1 ?_
      refine sw_ge2 (pt := 45) (pn := 12) rfl rfl rfl (by omega) (by omega) (fun h => absurd h (by omega)) (fun h1 => ?_)
      refine sw_p 1 (f' := (13, [some (2, 0), some (0, X.2), some (0, c)], [(2, 0)])) rfl ?_
      refine sw_hA (pn := 16) (i := 15) (v := 15) rfl rfl rfl rfl rfl hs.1 (mo_s15 hs).1 (by omega) ?_
      refine sw_p 1 (f' := (17, [some (2, 0), some (0, X.2), some (0, c)], [(0, c), (2, 15)])) rfl ?_
      refine sw_ial (pn := 18) (l := 40) rfl rfl (by omega) (mo_s15 hs).2.1 (mo_s15 hs).2.2 (by omega) (by omega) ?_
      refine sw_p 1 (f' := (19, [some (2, 0), some (0, X.2), some (0, c)], [(0, 3), (0, X.1 15 c)])) rfl ?_
      refine sw_ne2 (pt := 39) (pn := 22) rfl rfl rfl (by omega) (by omega) (fun h2 => ?_) (fun h2 => ?_)
      · skip
        refine sw_p 2 (f' := (4, [some (2, 0), some (0, X.2), some (0, c + 1)], [])) rfl ?_
        exact ih (c + 1) X hB hr (by omega) (by omega) kk
      · skip
        refine sw_p 1 (f' := (23, [some (2, 0), some (0, X.2), some (0, c)], [(2, 0)])) rfl ?_
        refine sw_hA (pn := 26) (i := 19) (v := 19) rfl rfl rfl rfl rfl hs.1 (mo_s19 hs).1 (by omega) ?_
        refine sw_p 1 (f' := (27, [some (2, 0), some (0, X.2), some (0, c)], [(0, c), (2, 19)])) rfl ?_
        refine sw_ial (pn := 28) (l := 40) rfl rfl (by omega) (mo_s19 hs).2.1 (mo_s19 hs).2.2 (by omega) (by omega) ?_
        refine sw_ne1 (pt := 39) (pn := 31) rfl rfl rfl (by omega) (fun h3 => ?_) (fun h3 => ?_)
        · skip
          refine sw_p 2 (f' := (4, [some (2, 0), some (0, X.2), some (0, c + 1)], [])) rfl ?_
          exact ih (c + 1) X hB hr (by omega) (by omega) kk
        · skip
          omega
theorem go_ww (hs : mo_sh s) (hB : mo_B ν) (hr : r = 0 ∨ r = 1) : ∀ (n : Nat) (c : Int), 0 ≤ c → c + n = ν 0 12 → (go_w ν n c = 1 → Q (.inl (some (0, r))) s ν) → (go_w ν n c = 0 → ∀ o2, sw_w E (d + 1) 90 (102, [some (2, 0), some (0, r), o2], []) s ν Q) → sw_w E (d + 1) 90 (69, [some (2, 0), some (0, r), some (0, c)], []) s ν Q := by
  intro n
  induction n with
  | zero =>
    intro c hc hn k1 k0
    have h12 := hB.2.2.1
    refine sw_p 2 (f' := (71, [some (2, 0), some (0, r), some (0, c)], [(2, 0), (0, c)])) rfl ?_
    refine sw_gI (pn := 74) (i := 12) rfl rfl rfl rfl rfl (by omega) hs.1 ?_
    refine sw_ge2 (pt := 102) (pn := 77) rfl rfl rfl (by omega) (by omega) (fun h1 => ?_) (fun h => absurd h (by omega))
    exact k0 rfl _
  | succ n ih =>
    intro c hc hn k1 k0
    have h12 := hB.2.2.1
    have hcd := hB.cd c hc (by omega)
    unfold go_w at k1 k0
    by_cases hth : 1 ≤ ν 15 c ∧ ν 15 c ≤ 3
    · skip
      refine sw_p 2 (f' := (71, [some (2, 0), some (0, r), some (0, c)], [(2, 0), (0, c)])) rfl ?_
      refine sw_gI (pn := 74) (i := 12) rfl rfl rfl rfl rfl (by omega) hs.1 ?_
      refine sw_ge2 (pt := 102) (pn := 77) rfl rfl rfl (by omega) (by omega) (fun h => absurd h (by omega)) (fun h1 => ?_)
      refine sw_p 2 (f' := (79, [some (2, 0), some (0, r), some (0, c)], [(0, c), (2, 0)])) rfl ?_
      refine sw_cv1 (pn := 82) (q0 := mj_Mo_goOn) (q := mj_Mo_isThere) (p := 0) (as2 := [(0, c)]) (L2 := [some (2, 0), some (0, c)]) (rest := []) (v := some (0, 1)) (s1 := s) (ν1 := ν) rfl rfl rfl rfl rfl rfl rfl rfl rfl hs.1 (by have h := mo_isThere (E := E) (d := d) (s := s) (ν := ν) (c := c) hs (by omega) (by omega); rw [if_pos hth] at h; exact h) ?_
      show sw_w E _ 90 (82, [some (2, 0), some (0, r), some (0, c)], [(0, 1)]) s ν _
      refine sw_eq1 (pt := 96) (pn := 85) rfl rfl rfl (by omega) (fun h => absurd h (by decide)) (fun _ => ?_)
      refine sw_p 1 (f' := (86, [some (2, 0), some (0, r), some (0, c)], [(2, 0)])) rfl ?_
      refine sw_hA (pn := 89) (i := 19) (v := 19) rfl rfl rfl rfl rfl hs.1 (mo_s19 hs).1 (by omega) ?_
      refine sw_p 1 (f' := (90, [some (2, 0), some (0, r), some (0, c)], [(0, c), (2, 19)])) rfl ?_
      refine sw_ial (pn := 91) (l := 40) rfl rfl (by omega) (mo_s19 hs).2.1 (mo_s19 hs).2.2 (by omega) (by omega) ?_
      refine sw_le1 (pt := 96) (pn := 94) rfl rfl rfl (by omega) (fun h3 => ?_) (fun h3 => ?_)
      · skip
        refine sw_p 2 (f' := (69, [some (2, 0), some (0, r), some (0, c + 1)], [])) rfl ?_
        rw [if_neg (by omega)] at k1 k0
        exact ih (c + 1) (by omega) (by omega) k1 k0
      · skip
        refine sw_p 1 (f' := (95, [some (2, 0), some (0, r), some (0, c)], [(0, r)])) rfl ?_
        exact sw_retZ rfl rfl rfl (by omega) (k1 (if_pos (by omega)))
    · skip
      refine sw_p 2 (f' := (71, [some (2, 0), some (0, r), some (0, c)], [(2, 0), (0, c)])) rfl ?_
      refine sw_gI (pn := 74) (i := 12) rfl rfl rfl rfl rfl (by omega) hs.1 ?_
      refine sw_ge2 (pt := 102) (pn := 77) rfl rfl rfl (by omega) (by omega) (fun h => absurd h (by omega)) (fun h1 => ?_)
      refine sw_p 2 (f' := (79, [some (2, 0), some (0, r), some (0, c)], [(0, c), (2, 0)])) rfl ?_
      refine sw_cv1 (pn := 82) (q0 := mj_Mo_goOn) (q := mj_Mo_isThere) (p := 0) (as2 := [(0, c)]) (L2 := [some (2, 0), some (0, c)]) (rest := []) (v := some (0, 0)) (s1 := s) (ν1 := ν) rfl rfl rfl rfl rfl rfl rfl rfl rfl hs.1 (by have h := mo_isThere (E := E) (d := d) (s := s) (ν := ν) (c := c) hs (by omega) (by omega); rw [if_neg hth] at h; exact h) ?_
      show sw_w E _ 90 (82, [some (2, 0), some (0, r), some (0, c)], [(0, 0)]) s ν _
      refine sw_eq1 (pt := 96) (pn := 85) rfl rfl rfl (by omega) (fun _ => ?_) (fun h => absurd h (by decide))
      refine sw_p 2 (f' := (69, [some (2, 0), some (0, r), some (0, c + 1)], [])) rfl ?_
      rw [if_neg (by omega)] at k1 k0
      exact ih (c + 1) (by omega) (by omega) k1 k0
theorem mo_goOn (hs : mo_sh s) (hB0 : mo_B ν) (hG : gi_I (go_0 ν).1 f) : sw_w E (d + 6) 90 (0, [some (2, 0), none, none], []) s ν (sw_vr (go_P ν) s) := by
  have h12' := hB0.2.2.1
  have hr := go_1_r (ν 0 12).toNat 0 (ν, 0) (Or.inl rfl)
  have K : ∀ o2 : Option mg_V, sw_w E (d + 6) 90 (45, [some (2, 0), some (0, (go_0 ν).2), o2], []) s (go_0 ν).1 (sw_vr (go_P ν) s) := by
    intro o2
    have ef : go_f ν = go_2 (go_0 ν).1 (go_0 ν).2 := rfl
    unfold go_P
    rw [ef]
    change (go_0 ν).2 = 0 ∨ (go_0 ν).2 = 1 at hr
    generalize (go_0 ν).1 = μ at hG ⊢
    generalize (go_0 ν).2 = r at hr ⊢
    obtain ⟨hB, hC, hT, hp2, h29, h30, h11, hin, hq⟩ := hG
    have h12 := hB.2.2.1
    have h21 := hB.2.2.2.1
    have h22 := hB.2.2.2.2.1
    by_cases hc : μ 0 21 < 0
    · have eg : go_2 μ r = (μ, r) := if_pos hc
      rw [eg]
      refine sw_p 1 (f' := (46, [some (2, 0), some (0, r), o2], [(2, 0)])) rfl ?_
      refine sw_gI (pn := 49) (i := 21) rfl rfl rfl rfl rfl (by omega) hs.1 ?_
      refine sw_ge1 (pt := 54) (pn := 52) rfl rfl rfl (by omega) (fun h => absurd h (by omega)) (fun m1 => ?_)
      refine sw_p 1 (f' := (53, [some (2, 0), some (0, r), o2], [(0, r)])) rfl ?_
      exact sw_retZ rfl rfl rfl (by omega) ⟨_, rfl, rfl, rfl, fr_rfl, h29, h30⟩
    · by_cases hk : μ 0 22 = 0
      · have eg : go_2 μ r = (ck_f μ, 1) := (if_neg hc).trans (if_pos hk)
        rw [eg]
        refine sw_p 1 (f' := (46, [some (2, 0), some (0, r), o2], [(2, 0)])) rfl ?_
        refine sw_gI (pn := 49) (i := 21) rfl rfl rfl rfl rfl (by omega) hs.1 ?_
        refine sw_ge1 (pt := 54) (pn := 52) rfl rfl rfl (by omega) (fun m1 => ?_) (fun h => absurd h (by omega))
        refine sw_p 1 (f' := (55, [some (2, 0), some (0, r), o2], [(2, 0)])) rfl ?_
        refine sw_gI (pn := 58) (i := 22) rfl rfl rfl rfl rfl (by omega) hs.1 ?_
        refine sw_ne1 (pt := 67) (pn := 61) rfl rfl rfl (by omega) (fun h => absurd h (by omega)) (fun m2 => ?_)
        refine sw_p 1 (f' := (62, [some (2, 0), some (0, r), o2], [(2, 0)])) rfl ?_
        refine sw_cv2 (pn := 65) (q0 := mj_Mo_goOn) (q := mj_Mo_check) (p := 0) (as2 := []) (L2 := [some (2, 0), none, none, none]) (rest := []) (s1 := s) rfl rfl rfl rfl rfl rfl rfl rfl rfl hs.1 (mo_check (d := d) (c := μ 0 21) hs hB hC hT hp2 h29 h30 h11 rfl (by omega) (hin (by omega))) (fun v ν1 hv => ?_)
        obtain ⟨rfl, hj, hb1, hb2⟩ := hv
        show sw_w E _ 90 (65, [some (2, 0), some (0, r), o2], []) s ν1 _
        refine sw_p 1 (f' := (66, [some (2, 0), some (0, r), o2], [(0, 1)])) rfl ?_
        exact sw_retZ rfl rfl rfl (by omega) ⟨_, rfl, rfl, rfl, hj, hb1, hb2⟩
      · have e2 : go_2 μ r = if go_w μ (μ 0 12).toNat 0 = 1 then (μ, r) else (ma_e (mo_pn μ), 1) := (if_neg hc).trans (if_neg hk)
        rw [e2]
        refine sw_p 1 (f' := (46, [some (2, 0), some (0, r), o2], [(2, 0)])) rfl ?_
        refine sw_gI (pn := 49) (i := 21) rfl rfl rfl rfl rfl (by omega) hs.1 ?_
        refine sw_ge1 (pt := 54) (pn := 52) rfl rfl rfl (by omega) (fun m1 => ?_) (fun h => absurd h (by omega))
        refine sw_p 1 (f' := (55, [some (2, 0), some (0, r), o2], [(2, 0)])) rfl ?_
        refine sw_gI (pn := 58) (i := 22) rfl rfl rfl rfl rfl (by omega) hs.1 ?_
        refine sw_ne1 (pt := 67) (pn := 61) rfl rfl rfl (by omega) (fun m2 => ?_) (fun h => absurd h (by omega))
        refine sw_p 2 (f' := (69, [some (2, 0), some (0, r), some (0, 0)], [])) rfl ?_
        refine go_ww (d := d + 5) hs hB hr (μ 0 12).toNat 0 (by omega) (by omega) (fun hw => ?_) (fun hw o2 => ?_)
        · rw [if_pos hw]
          exact ⟨_, rfl, rfl, rfl, fr_rfl, h29, h30⟩
        · rw [if_neg (by omega)]
          refine sw_p 1 (f' := (103, [some (2, 0), some (0, r), o2], [(2, 0)])) rfl ?_
          refine sw_cv1 (pn := 106) (q0 := mj_Mo_goOn) (q := mj_Mo_moveAll) (p := 0) (as2 := []) (L2 := [some (2, 0), none, none]) (rest := []) (v := none) (s1 := s) (ν1 := (ma_e (mo_pn μ))) rfl rfl rfl rfl rfl rfl rfl rfl rfl hs.1 (mo_moveAll (d := d + 1) hs hB hC hT (hq (by omega) hk) (by omega)) ?_
          show sw_w E _ 90 (106, [some (2, 0), some (0, r), o2], []) s (ma_e (mo_pn μ)) _
          refine sw_p 1 (f' := (107, [some (2, 0), some (0, r), o2], [(0, 1)])) rfl ?_
          exact sw_retZ rfl rfl rfl (by omega) ⟨_, rfl, rfl, rfl, fr_rfl, ma_e_b1 (Or.inl rfl) h29, ma_e_b1 (Or.inr rfl) h30⟩
  refine sw_p 4 (f' := (4, [some (2, 0), some (0, 0), some (0, 0)], [])) rfl ?_
  exact go_wl (d := d + 5) hs (ν 0 12).toNat 0 (ν, 0) hB0 (Or.inl rfl) (by omega) (by show (0 : Int) + _ = ν 0 12; omega) K
theorem mo_step (hs : mo_sh s) (hB0 : mo_B (mo_cd ν 0)) (hG : gi_I (go_0 (mo_cd ν 0)).1 f) : sw_w E (d + 7) 89 (0, [some (2, 0)], []) s ν (sw_vr (go_P (mo_cd ν 0)) s) := by
  have hr : (go_f (mo_cd ν 0)).2 = 0 ∨ (go_f (mo_cd ν 0)).2 = 1 := go_f_r
  refine sw_p 2 (f' := (2, [some (2, 0)], [(0, 0), (2, 0)])) rfl ?_
  refine sw_pI (pn := 5) (i := 0) rfl rfl rfl rfl rfl (by omega) hs.1 ?_
  refine sw_p 1 (f' := (6, [some (2, 0)], [(2, 0)])) rfl ?_
  refine sw_cv2 (pn := 9) (q0 := mj_Mo_step) (q := mj_Mo_goOn) (p := 0) (as2 := []) (L2 := [some (2, 0), none, none]) (rest := []) (s1 := s) rfl rfl rfl rfl rfl rfl rfl rfl rfl hs.1 (mo_goOn (d := d) hs hB0 hG) (fun v ν1 hv => ?_)
  obtain ⟨rfl, hv⟩ := hv
  show sw_w E _ 89 (9, [some (2, 0)], [(0, (go_f (mo_cd ν 0)).2)]) s ν1 _
  exact sw_retZ rfl rfl rfl (by omega) ⟨_, rfl, rfl, rfl, hv⟩
end GO
