/-! the class: what is asked of its cells -/
theorem mo_un_neg {ν : mm_T} {b k : Int} (h : k < 0) : ∀ n : Nat, mo_un ν b n k = 0
  | 0 => rfl
  | n + 1 => if_pos h
theorem ck_p_0 {ν : mm_T} {c : Int} : ∀ (n : Nat) (b : Int), ck_p ν c n b 0 = 0
  | 0, _ => rfl
  | n + 1, b => by
    unfold ck_p
    split
    · rfl
    · rw [if_neg (by omega)]; exact ck_p_0 n _
theorem ck_p_neg {ν : mm_T} {c b r : Int} (h : b < 0) : ∀ n : Nat, ck_p ν c n b r = r
  | 0 => rfl
  | n + 1 => if_pos h
section PC1
variable {E : mv_E} {s ν ρ : mm_T} {f : Int → Int} {d : Nat} {a b c k t i u x y z r : Int} {Q : nm_O → mm_T → mm_T → Prop}
theorem cl_th (hI : iv_A ρ f) (hR : pt_R s ν ρ f) (hc : 0 ≤ c ∧ c < ρ 0 12) : sw_w E d 28 (0, [some (2, 300 + c)], []) s ν (sw_is (some (0, if 1 ≤ ρ 15 c ∧ ρ 15 c ≤ 3 then 1 else 0)) s ν) := by
  have h12 := hI.1.2.2.1
  have hcd := hI.1.cd c hc.1 (by omega)
  have e := (hR.cn c hc.1 hc.2).2.2.1
  have h := pt_isThere (E := E) (d := d) (ν := ν) (p := 300 + c) (by omega) (hR.ca c hc.1 hc.2).1 (by rw [e]; omega)
  rw [e] at h
  exact h
theorem cl_th1 (hI : iv_A ρ f) (hR : pt_R s ν ρ f) (hc : 0 ≤ c ∧ c < ρ 0 12) (h : 1 ≤ ρ 15 c ∧ ρ 15 c ≤ 3) : sw_w E d 28 (0, [some (2, 300 + c)], []) s ν (sw_is (some (0, 1)) s ν) := by
  have h1 := cl_th (E := E) (d := d) hI hR hc
  rwa [if_pos h] at h1
theorem cl_th0 (hI : iv_A ρ f) (hR : pt_R s ν ρ f) (hc : 0 ≤ c ∧ c < ρ 0 12) (h : ¬ (1 ≤ ρ 15 c ∧ ρ 15 c ≤ 3)) : sw_w E d 28 (0, [some (2, 300 + c)], []) s ν (sw_is (some (0, 0)) s ν) := by
  have h1 := cl_th (E := E) (d := d) hI hR hc
  rwa [if_neg h] at h1
theorem cl_sum (hI : iv_A ρ f) (hR : pt_R s ν ρ f) (ht : 0 ≤ t ∧ t < ρ 0 8) : sw_w E d 18 (0, [some (2, 200 + t)], []) s ν (sw_is (some (0, ρ 9 (3 * t + 0) + ρ 9 (3 * t + 1) + ρ 9 (3 * t + 2))) s ν) := by
  refine sw_p 1 (f' := (1, [some (2, 200 + t)], [(2, 200 + t)])) rfl ?_
  refine sw_hA (pn := 4) (i := 0) (v := 220 + t) rfl rfl rfl rfl rfl (hR.ty t (by omega) (by omega)).1 (hR.ty t (by omega) (by omega)).2.1.1 (by omega) ?_
  refine sw_p 1 (f' := (5, [some (2, 200 + t)], [(0, 0), (2, 220 + t)])) rfl ?_
  refine sw_ial (pn := 6) (l := 3) rfl rfl (by omega) (hR.ty t (by omega) (by omega)).2.1.2.1 (hR.ty t (by omega) (by omega)).2.1.2.2 (by omega) (by omega) ?_
  rw [show ν (220 + t) 0 = ρ 9 (3 * t + 0) from ((hR.tn t (by omega) (by omega)).2 0 (by omega) (by omega)).1]
  refine sw_p 1 (f' := (7, [some (2, 200 + t)], [(2, 200 + t), (0, ρ 9 (3 * t + 0))])) rfl ?_
  refine sw_hA (pn := 10) (i := 0) (v := 220 + t) rfl rfl rfl rfl rfl (hR.ty t (by omega) (by omega)).1 (hR.ty t (by omega) (by omega)).2.1.1 (by omega) ?_
  refine sw_p 1 (f' := (11, [some (2, 200 + t)], [(0, 1), (2, 220 + t), (0, ρ 9 (3 * t + 0))])) rfl ?_
  refine sw_ial (pn := 12) (l := 3) rfl rfl (by omega) (hR.ty t (by omega) (by omega)).2.1.2.1 (hR.ty t (by omega) (by omega)).2.1.2.2 (by omega) (by omega) ?_
  rw [show ν (220 + t) 1 = ρ 9 (3 * t + 1) from ((hR.tn t (by omega) (by omega)).2 1 (by omega) (by omega)).1]
  refine sw_p 2 (f' := (14, [some (2, 200 + t)], [(2, 200 + t), (0, (ρ 9 (3 * t + 0)) + (ρ 9 (3 * t + 1)))])) rfl ?_
  refine sw_hA (pn := 17) (i := 0) (v := 220 + t) rfl rfl rfl rfl rfl (hR.ty t (by omega) (by omega)).1 (hR.ty t (by omega) (by omega)).2.1.1 (by omega) ?_
  refine sw_p 1 (f' := (18, [some (2, 200 + t)], [(0, 2), (2, 220 + t), (0, (ρ 9 (3 * t + 0)) + (ρ 9 (3 * t + 1)))])) rfl ?_
  refine sw_ial (pn := 19) (l := 3) rfl rfl (by omega) (hR.ty t (by omega) (by omega)).2.1.2.1 (hR.ty t (by omega) (by omega)).2.1.2.2 (by omega) (by omega) ?_
  rw [show ν (220 + t) 2 = ρ 9 (3 * t + 2) from ((hR.tn t (by omega) (by omega)).2 2 (by omega) (by omega)).1]
  refine sw_p 1 (f' := (20, [some (2, 200 + t)], [(0, ((ρ 9 (3 * t + 0)) + (ρ 9 (3 * t + 1))) + (ρ 9 (3 * t + 2)))])) rfl ?_
  exact sw_retI rfl rfl rfl ⟨rfl, rfl, rfl⟩
theorem cl_se (hI : iv_A ρ f) (hR : pt_R s ν ρ f) (hb : 0 ≤ b ∧ b < ρ 0 1) (hi : 0 ≤ i ∧ i < 4) : sw_w E d 26 (0, [some (2, 100 + b), some (0, i)], []) s ν (sw_is (some (0, if ρ 2 (4 * b + i) = -1 then 1 else 0)) s ν) := by
  have h8 := hI.1.1
  have hsl := hI.1.2.2.2.2.2.2.2.1 (4 * b + i) (by omega) (by omega)
  by_cases h1 : 100 ≤ ρ 2 (4 * b + i)
  · rw [if_neg (by omega)]
    refine sw_p 1 (f' := (1, [some (2, 100 + b), some (0, i)], [(2, 100 + b)])) rfl ?_
    refine sw_hA (pn := 4) (i := 4) (v := 110 + b) rfl rfl rfl rfl rfl (hR.br b (by omega) (by omega)).1 (hR.br b (by omega) (by omega)).2.2.2.2.2.1.1 (by omega) ?_
    refine sw_p 1 (f' := (5, [some (2, 100 + b), some (0, i)], [(0, i), (2, 110 + b)])) rfl ?_
    refine sw_aal (pn := 6) (t := 3) (l := 4) rfl rfl rfl (by decide) (by omega) (hR.br b (by omega) (by omega)).2.2.2.2.2.1.2.1 (hR.br b (by omega) (by omega)).2.2.2.2.2.1.2.2 (by omega) (by omega) (fun h => absurd h (by rw [show ν (110 + b) i = -1 from ((hR.sl b i (by omega) (by omega) (by omega) (by omega)).1).trans (if_neg (by omega))]; omega)) (fun _ => ?_)
    refine sw_p 2 (f' := (10, [some (2, 100 + b), some (0, i)], [(2, 100 + b)])) rfl ?_
    refine sw_hA (pn := 13) (i := 5) (v := 120 + b) rfl rfl rfl rfl rfl (hR.br b (by omega) (by omega)).1 (hR.br b (by omega) (by omega)).2.2.2.2.2.2.1 (by omega) ?_
    refine sw_p 1 (f' := (14, [some (2, 100 + b), some (0, i)], [(0, i), (2, 120 + b)])) rfl ?_
    refine sw_aal (pn := 15) (t := 5) (l := 4) rfl rfl rfl (by decide) (by omega) (hR.br b (by omega) (by omega)).2.2.2.2.2.2.2.1 (hR.br b (by omega) (by omega)).2.2.2.2.2.2.2.2 (by omega) (by omega) (fun _ => ?_) (fun h => absurd h (by rw [show ν (120 + b) i = 200 + ρ 2 (4 * b + i) from ((hR.sl b i (by omega) (by omega) (by omega) (by omega)).2).trans (if_pos (by omega))]; omega))
    rw [show ν (120 + b) i = 200 + ρ 2 (4 * b + i) from ((hR.sl b i (by omega) (by omega) (by omega) (by omega)).2).trans (if_pos (by omega))]
    refine sw_p 2 (f' := (23, [some (2, 100 + b), some (0, i)], [(0, 0)])) rfl ?_
    exact sw_retZ rfl rfl rfl (by omega) ⟨rfl, rfl, rfl⟩
  · by_cases h2 : 0 ≤ ρ 2 (4 * b + i)
    · rw [if_neg (by omega)]
      refine sw_p 1 (f' := (1, [some (2, 100 + b), some (0, i)], [(2, 100 + b)])) rfl ?_
      refine sw_hA (pn := 4) (i := 4) (v := 110 + b) rfl rfl rfl rfl rfl (hR.br b (by omega) (by omega)).1 (hR.br b (by omega) (by omega)).2.2.2.2.2.1.1 (by omega) ?_
      refine sw_p 1 (f' := (5, [some (2, 100 + b), some (0, i)], [(0, i), (2, 110 + b)])) rfl ?_
      refine sw_aal (pn := 6) (t := 3) (l := 4) rfl rfl rfl (by decide) (by omega) (hR.br b (by omega) (by omega)).2.2.2.2.2.1.2.1 (hR.br b (by omega) (by omega)).2.2.2.2.2.1.2.2 (by omega) (by omega) (fun _ => ?_) (fun h => absurd h (by rw [show ν (110 + b) i = 100 + ρ 2 (4 * b + i) from ((hR.sl b i (by omega) (by omega) (by omega) (by omega)).1).trans (if_pos (by omega))]; omega))
      rw [show ν (110 + b) i = 100 + ρ 2 (4 * b + i) from ((hR.sl b i (by omega) (by omega) (by omega) (by omega)).1).trans (if_pos (by omega))]
      refine sw_p 2 (f' := (23, [some (2, 100 + b), some (0, i)], [(0, 0)])) rfl ?_
      exact sw_retZ rfl rfl rfl (by omega) ⟨rfl, rfl, rfl⟩
    · rw [if_pos (by omega)]
      refine sw_p 1 (f' := (1, [some (2, 100 + b), some (0, i)], [(2, 100 + b)])) rfl ?_
      refine sw_hA (pn := 4) (i := 4) (v := 110 + b) rfl rfl rfl rfl rfl (hR.br b (by omega) (by omega)).1 (hR.br b (by omega) (by omega)).2.2.2.2.2.1.1 (by omega) ?_
      refine sw_p 1 (f' := (5, [some (2, 100 + b), some (0, i)], [(0, i), (2, 110 + b)])) rfl ?_
      refine sw_aal (pn := 6) (t := 3) (l := 4) rfl rfl rfl (by decide) (by omega) (hR.br b (by omega) (by omega)).2.2.2.2.2.1.2.1 (hR.br b (by omega) (by omega)).2.2.2.2.2.1.2.2 (by omega) (by omega) (fun h => absurd h (by rw [show ν (110 + b) i = -1 from ((hR.sl b i (by omega) (by omega) (by omega) (by omega)).1).trans (if_neg (by omega))]; omega)) (fun _ => ?_)
      refine sw_p 2 (f' := (10, [some (2, 100 + b), some (0, i)], [(2, 100 + b)])) rfl ?_
      refine sw_hA (pn := 13) (i := 5) (v := 120 + b) rfl rfl rfl rfl rfl (hR.br b (by omega) (by omega)).1 (hR.br b (by omega) (by omega)).2.2.2.2.2.2.1 (by omega) ?_
      refine sw_p 1 (f' := (14, [some (2, 100 + b), some (0, i)], [(0, i), (2, 120 + b)])) rfl ?_
      refine sw_aal (pn := 15) (t := 5) (l := 4) rfl rfl rfl (by decide) (by omega) (hR.br b (by omega) (by omega)).2.2.2.2.2.2.2.1 (hR.br b (by omega) (by omega)).2.2.2.2.2.2.2.2 (by omega) (by omega) (fun h => absurd h (by rw [show ν (120 + b) i = -1 from ((hR.sl b i (by omega) (by omega) (by omega) (by omega)).2).trans (if_neg (by omega))]; omega)) (fun _ => ?_)
      refine sw_p 3 (f' := (23, [some (2, 100 + b), some (0, i)], [(0, 1)])) rfl ?_
      exact sw_retZ rfl rfl rfl (by omega) ⟨rfl, rfl, rfl⟩
theorem cl_ab_l (hI : iv_A ρ f) (hR : pt_R s ν ρ f) (hb : 0 ≤ b ∧ b < ρ 0 1) : ∀ (n : Nat) (k : Int), 0 ≤ k → k < n → k < ρ 0 1 → sw_w E d 24 (2, [some (2, 100 + a), some (2, 100 + b), some (2, 100 + k)], []) s ν (sw_is (some (0, mo_un ρ b n k)) s ν) := by
  intro n
  induction n with
  | zero => intro k h0 h1; omega
  | succ n ih =>
    intro k h0 h1 h2
    have h8 := hI.1.1
    have hov := hI.1.ov k h0 (by omega)
    have htr := hI.2.2.1.2.1 k
    by_cases hk0 : k = 0
    · skip
      refine sw_p 4 (f' := (8, [some (2, 100 + a), some (2, 100 + b), some (2, 100 + k)], [(2, 100 + b), (2, 100 + k)])) rfl ?_
      refine sw_acn (pt := 13) (pn := 11) rfl rfl rfl (by rw [(hR.br k (by omega) (by omega)).1]; omega) (by rw [(hR.br b (by omega) (by omega)).1]; omega) (fun m1 => ?_) (fun m1 => ?_)
      · skip
        refine sw_p 1 (f' := (14, [some (2, 100 + a), some (2, 100 + b), some (2, 100 + k)], [(2, 100 + k)])) rfl ?_
        refine sw_hN (pn := 17) (i := 1) rfl rfl rfl rfl rfl (hR.br k (by omega) (by omega)).1 (by rw [(((hR.br k (by omega) (by omega)).2.2.1).trans (if_pos (by omega)))]; omega) ?_
        refine sw_p 2 (f' := (2, [some (2, 100 + a), some (2, 100 + b), some (3, 0)], [])) rfl ?_
        rw [show mo_un ρ b (n + 1) k = 0 from (if_neg (by omega)).trans ((if_neg (by omega)).trans (mo_un_neg (by omega) n))]
        refine sw_p 3 (f' := (22, [some (2, 100 + a), some (2, 100 + b), some (3, 0)], [(0, 0)])) rfl ?_
        exact sw_retZ rfl rfl rfl (by omega) ⟨rfl, rfl, rfl⟩
      · skip
        refine sw_p 1 (f' := (12, [some (2, 100 + a), some (2, 100 + b), some (2, 100 + k)], [(0, 1)])) rfl ?_
        exact sw_retZ rfl rfl rfl (by omega) ⟨by rw [show mo_un ρ b (n + 1) k = 1 from (if_neg (by omega)).trans (if_pos (by omega))], rfl, rfl⟩
    · skip
      refine sw_p 4 (f' := (8, [some (2, 100 + a), some (2, 100 + b), some (2, 100 + k)], [(2, 100 + b), (2, 100 + k)])) rfl ?_
      refine sw_acn (pt := 13) (pn := 11) rfl rfl rfl (by rw [(hR.br k (by omega) (by omega)).1]; omega) (by rw [(hR.br b (by omega) (by omega)).1]; omega) (fun m1 => ?_) (fun m1 => ?_)
      · skip
        refine sw_p 1 (f' := (14, [some (2, 100 + a), some (2, 100 + b), some (2, 100 + k)], [(2, 100 + k)])) rfl ?_
        refine sw_hA (pn := 17) (i := 1) (v := 100 + ρ 3 k) rfl rfl rfl rfl rfl (hR.br k (by omega) (by omega)).1 (((hR.br k (by omega) (by omega)).2.2.1).trans (if_neg (by omega))) (by omega) ?_
        refine sw_p 2 (f' := (2, [some (2, 100 + a), some (2, 100 + b), some (2, 100 + ρ 3 k)], [])) rfl ?_
        rw [show mo_un ρ b (n + 1) k = mo_un ρ b n (ρ 3 k) from (if_neg (by omega)).trans (if_neg (by omega))]
        exact ih (ρ 3 k) (by omega) (by omega) (by omega)
      · skip
        refine sw_p 1 (f' := (12, [some (2, 100 + a), some (2, 100 + b), some (2, 100 + k)], [(0, 1)])) rfl ?_
        exact sw_retZ rfl rfl rfl (by omega) ⟨by rw [show mo_un ρ b (n + 1) k = 1 from (if_neg (by omega)).trans (if_pos (by omega))], rfl, rfl⟩
theorem cl_ab (hI : iv_A ρ f) (hR : pt_R s ν ρ f) (hb : 0 ≤ b ∧ b < ρ 0 1) (ha : 0 ≤ a ∧ a < ρ 0 1) : sw_w E d 24 (0, [some (2, 100 + a), some (2, 100 + b), none], []) s ν (sw_is (some (0, mo_un ρ b 8 a)) s ν) := by
  have h8 := hI.1.1
  refine sw_p 2 (f' := (2, [some (2, 100 + a), some (2, 100 + b), some (2, 100 + a)], [])) rfl ?_
  exact cl_ab_l hI hR hb 8 a (by omega) (by omega) (by omega)
theorem cl_pw_l (hI : iv_A ρ f) (hR : pt_R s ν ρ f) (hb : 0 ≤ b ∧ b < ρ 0 1) : ∀ (n : Nat) (i : Int), 0 ≤ i → i + n = ρ 0 12 → sw_w E (d + 1) 46 (4, [some (2, 50), some (2, 100 + b), some (0, sm_s (mo_pwc ρ b) i.toNat), some (0, i)], []) s ν (sw_is (some (0, mo_pw ρ b)) s ν) := by
  intro n
  induction n with
  | zero =>
    intro i hi hn
    have h12 := hI.1.2.2.1
    refine sw_p 2 (f' := (6, [some (2, 50), some (2, 100 + b), some (0, sm_s (mo_pwc ρ b) i.toNat), some (0, i)], [(2, 50), (0, i)])) rfl ?_
    refine sw_gI (pn := 9) (i := 10) rfl rfl rfl rfl rfl (by omega) hR.sh.1 ?_
    rw [show ν 50 10 = ρ 0 12 from hR.z.2.2.1]
    refine sw_ge2 (pt := 61) (pn := 12) rfl rfl rfl (by omega) (by omega) (fun h1 => ?_) (fun h => absurd h (by omega))
    refine sw_p 1 (f' := (62, [some (2, 50), some (2, 100 + b), some (0, sm_s (mo_pwc ρ b) i.toNat), some (0, i)], [(0, sm_s (mo_pwc ρ b) i.toNat)])) rfl ?_
    exact sw_retI rfl rfl rfl ⟨by rw [show i = ρ 0 12 by omega]; rfl, rfl, rfl⟩
  | succ n ih =>
    intro i hi hn
    have h12 := hI.1.2.2.1
    have hcd := hI.1.cd i hi (by omega)
    have hK := hI.2.2.2.2.2.1 i hi (by omega)
    have hun := mo_un_b ρ b 8 (ρ 14 i)
    have e := sm_su (g := mo_pwc ρ b) hi
    by_cases hth : 1 ≤ ρ 15 i ∧ ρ 15 i ≤ 3
    · by_cases hu : mo_un ρ b 8 (ρ 14 i) = 0
      · skip
        rw [show mo_pwc ρ b i = 0 from (if_neg (by unfold mo_th; rw [if_pos hth]; omega)).trans (if_pos hu)] at e
        refine sw_p 2 (f' := (6, [some (2, 50), some (2, 100 + b), some (0, sm_s (mo_pwc ρ b) i.toNat), some (0, i)], [(2, 50), (0, i)])) rfl ?_
        refine sw_gI (pn := 9) (i := 10) rfl rfl rfl rfl rfl (by omega) hR.sh.1 ?_
        rw [show ν 50 10 = ρ 0 12 from hR.z.2.2.1]
        refine sw_ge2 (pt := 61) (pn := 12) rfl rfl rfl (by omega) (by omega) (fun h => absurd h (by omega)) (fun m1 => ?_)
        refine sw_p 1 (f' := (13, [some (2, 50), some (2, 100 + b), some (0, sm_s (mo_pwc ρ b) i.toNat), some (0, i)], [(2, 50)])) rfl ?_
        refine sw_hA (pn := 16) (i := 2) (v := 53) rfl rfl rfl rfl rfl hR.sh.1 hR.sh.2.2.2.1.1 (by omega) ?_
        refine sw_p 1 (f' := (17, [some (2, 50), some (2, 100 + b), some (0, sm_s (mo_pwc ρ b) i.toNat), some (0, i)], [(0, i), (2, 53)])) rfl ?_
        refine sw_aal (pn := 18) (t := 5) (l := 40) rfl rfl rfl (by decide) (by omega) hR.sh.2.2.2.1.2.1 hR.sh.2.2.2.1.2.2 (by omega) (by omega) (fun _ => ?_) (fun h => absurd h (by rw [show ν 53 i = 300 + i from (hR.cn i (by omega) (by omega)).1]; omega))
        rw [show ν 53 i = 300 + i from (hR.cn i (by omega) (by omega)).1]
        refine sw_cv1 (pn := 21) (q0 := mj_PT_powerUsed) (q := mj_Ca_isThere) (p := 300 + i) (as2 := []) (L2 := [some (2, 300 + i)]) (rest := []) (v := some (0, 1)) (s1 := s) (ν1 := ν) rfl rfl rfl rfl rfl rfl rfl rfl rfl (hR.ca i (by omega) (by omega)).1 (cl_th1 hI hR (by omega) hth) ?_
        show sw_w E _ 46 (21, [some (2, 50), some (2, 100 + b), some (0, sm_s (mo_pwc ρ b) i.toNat), some (0, i)], [(0, 1)]) s ν _
        refine sw_eq1 (pt := 55) (pn := 24) rfl rfl rfl (by omega) (fun h => absurd h (by decide)) (fun _ => ?_)
        refine sw_p 1 (f' := (25, [some (2, 50), some (2, 100 + b), some (0, sm_s (mo_pwc ρ b) i.toNat), some (0, i)], [(2, 50)])) rfl ?_
        refine sw_hA (pn := 28) (i := 2) (v := 53) rfl rfl rfl rfl rfl hR.sh.1 hR.sh.2.2.2.1.1 (by omega) ?_
        refine sw_p 1 (f' := (29, [some (2, 50), some (2, 100 + b), some (0, sm_s (mo_pwc ρ b) i.toNat), some (0, i)], [(0, i), (2, 53)])) rfl ?_
        refine sw_aal (pn := 30) (t := 5) (l := 40) rfl rfl rfl (by decide) (by omega) hR.sh.2.2.2.1.2.1 hR.sh.2.2.2.1.2.2 (by omega) (by omega) (fun _ => ?_) (fun h => absurd h (by rw [show ν 53 i = 300 + i from (hR.cn i (by omega) (by omega)).1]; omega))
        rw [show ν 53 i = 300 + i from (hR.cn i (by omega) (by omega)).1]
        refine sw_hA (pn := 33) (i := 0) (v := 100 + ρ 14 i) rfl rfl rfl rfl rfl (hR.ca i (by omega) (by omega)).1 (hR.ca i (by omega) (by omega)).2.1 (by omega) ?_
        refine sw_p 1 (f' := (34, [some (2, 50), some (2, 100 + b), some (0, sm_s (mo_pwc ρ b) i.toNat), some (0, i)], [(2, 100 + b), (2, 100 + ρ 14 i)])) rfl ?_
        refine sw_cv1 (pn := 37) (q0 := mj_PT_powerUsed) (q := mj_Br_isAtOrBelow) (p := 100 + ρ 14 i) (as2 := [(2, 100 + b)]) (L2 := [some (2, 100 + ρ 14 i), some (2, 100 + b), none]) (rest := []) (v := some (0, 0)) (s1 := s) (ν1 := ν) rfl rfl rfl rfl rfl rfl rfl rfl rfl (hR.br (ρ 14 i) (by omega) (by omega)).1 (by have h := cl_ab (E := E) (d := d) hI hR hb (a := ρ 14 i) (by omega); rw [hu] at h; exact h) ?_
        show sw_w E _ 46 (37, [some (2, 50), some (2, 100 + b), some (0, sm_s (mo_pwc ρ b) i.toNat), some (0, i)], [(0, 0)]) s ν _
        refine sw_eq1 (pt := 55) (pn := 40) rfl rfl rfl (by omega) (fun _ => ?_) (fun h => absurd h (by decide))
        refine sw_p 2 (f' := (4, [some (2, 50), some (2, 100 + b), some (0, sm_s (mo_pwc ρ b) i.toNat), some (0, i + 1)], [])) rfl ?_
        rw [Int.add_zero] at e
        rw [← e]
        exact ih (i + 1) (by omega) (by omega)
      · have hu : mo_un ρ b 8 (ρ 14 i) = 1 := by omega
        rw [show mo_pwc ρ b i = ρ 10 (ρ 13 i) from (if_neg (by unfold mo_th; rw [if_pos hth]; omega)).trans (if_neg (by omega))] at e
        refine sw_p 2 (f' := (6, [some (2, 50), some (2, 100 + b), some (0, sm_s (mo_pwc ρ b) i.toNat), some (0, i)], [(2, 50), (0, i)])) rfl ?_
        refine sw_gI (pn := 9) (i := 10) rfl rfl rfl rfl rfl (by omega) hR.sh.1 ?_
        rw [show ν 50 10 = ρ 0 12 from hR.z.2.2.1]
        refine sw_ge2 (pt := 61) (pn := 12) rfl rfl rfl (by omega) (by omega) (fun h => absurd h (by omega)) (fun m1 => ?_)
        refine sw_p 1 (f' := (13, [some (2, 50), some (2, 100 + b), some (0, sm_s (mo_pwc ρ b) i.toNat), some (0, i)], [(2, 50)])) rfl ?_
        refine sw_hA (pn := 16) (i := 2) (v := 53) rfl rfl rfl rfl rfl hR.sh.1 hR.sh.2.2.2.1.1 (by omega) ?_
        refine sw_p 1 (f' := (17, [some (2, 50), some (2, 100 + b), some (0, sm_s (mo_pwc ρ b) i.toNat), some (0, i)], [(0, i), (2, 53)])) rfl ?_
        refine sw_aal (pn := 18) (t := 5) (l := 40) rfl rfl rfl (by decide) (by omega) hR.sh.2.2.2.1.2.1 hR.sh.2.2.2.1.2.2 (by omega) (by omega) (fun _ => ?_) (fun h => absurd h (by rw [show ν 53 i = 300 + i from (hR.cn i (by omega) (by omega)).1]; omega))
        rw [show ν 53 i = 300 + i from (hR.cn i (by omega) (by omega)).1]
        refine sw_cv1 (pn := 21) (q0 := mj_PT_powerUsed) (q := mj_Ca_isThere) (p := 300 + i) (as2 := []) (L2 := [some (2, 300 + i)]) (rest := []) (v := some (0, 1)) (s1 := s) (ν1 := ν) rfl rfl rfl rfl rfl rfl rfl rfl rfl (hR.ca i (by omega) (by omega)).1 (cl_th1 hI hR (by omega) hth) ?_
        show sw_w E _ 46 (21, [some (2, 50), some (2, 100 + b), some (0, sm_s (mo_pwc ρ b) i.toNat), some (0, i)], [(0, 1)]) s ν _
        refine sw_eq1 (pt := 55) (pn := 24) rfl rfl rfl (by omega) (fun h => absurd h (by decide)) (fun _ => ?_)
        refine sw_p 1 (f' := (25, [some (2, 50), some (2, 100 + b), some (0, sm_s (mo_pwc ρ b) i.toNat), some (0, i)], [(2, 50)])) rfl ?_
        refine sw_hA (pn := 28) (i := 2) (v := 53) rfl rfl rfl rfl rfl hR.sh.1 hR.sh.2.2.2.1.1 (by omega) ?_
        refine sw_p 1 (f' := (29, [some (2, 50), some (2, 100 + b), some (0, sm_s (mo_pwc ρ b) i.toNat), some (0, i)], [(0, i), (2, 53)])) rfl ?_
        refine sw_aal (pn := 30) (t := 5) (l := 40) rfl rfl rfl (by decide) (by omega) hR.sh.2.2.2.1.2.1 hR.sh.2.2.2.1.2.2 (by omega) (by omega) (fun _ => ?_) (fun h => absurd h (by rw [show ν 53 i = 300 + i from (hR.cn i (by omega) (by omega)).1]; omega))
        rw [show ν 53 i = 300 + i from (hR.cn i (by omega) (by omega)).1]
        refine sw_hA (pn := 33) (i := 0) (v := 100 + ρ 14 i) rfl rfl rfl rfl rfl (hR.ca i (by omega) (by omega)).1 (hR.ca i (by omega) (by omega)).2.1 (by omega) ?_
        refine sw_p 1 (f' := (34, [some (2, 50), some (2, 100 + b), some (0, sm_s (mo_pwc ρ b) i.toNat), some (0, i)], [(2, 100 + b), (2, 100 + ρ 14 i)])) rfl ?_
        refine sw_cv1 (pn := 37) (q0 := mj_PT_powerUsed) (q := mj_Br_isAtOrBelow) (p := 100 + ρ 14 i) (as2 := [(2, 100 + b)]) (L2 := [some (2, 100 + ρ 14 i), some (2, 100 + b), none]) (rest := []) (v := some (0, 1)) (s1 := s) (ν1 := ν) rfl rfl rfl rfl rfl rfl rfl rfl rfl (hR.br (ρ 14 i) (by omega) (by omega)).1 (by have h := cl_ab (E := E) (d := d) hI hR hb (a := ρ 14 i) (by omega); rw [hu] at h; exact h) ?_
        show sw_w E _ 46 (37, [some (2, 50), some (2, 100 + b), some (0, sm_s (mo_pwc ρ b) i.toNat), some (0, i)], [(0, 1)]) s ν _
        refine sw_eq1 (pt := 55) (pn := 40) rfl rfl rfl (by omega) (fun h => absurd h (by decide)) (fun _ => ?_)
        refine sw_p 2 (f' := (42, [some (2, 50), some (2, 100 + b), some (0, sm_s (mo_pwc ρ b) i.toNat), some (0, i)], [(2, 50), (0, sm_s (mo_pwc ρ b) i.toNat)])) rfl ?_
        refine sw_hA (pn := 45) (i := 2) (v := 53) rfl rfl rfl rfl rfl hR.sh.1 hR.sh.2.2.2.1.1 (by omega) ?_
        refine sw_p 1 (f' := (46, [some (2, 50), some (2, 100 + b), some (0, sm_s (mo_pwc ρ b) i.toNat), some (0, i)], [(0, i), (2, 53), (0, sm_s (mo_pwc ρ b) i.toNat)])) rfl ?_
        refine sw_aal (pn := 47) (t := 5) (l := 40) rfl rfl rfl (by decide) (by omega) hR.sh.2.2.2.1.2.1 hR.sh.2.2.2.1.2.2 (by omega) (by omega) (fun _ => ?_) (fun h => absurd h (by rw [show ν 53 i = 300 + i from (hR.cn i (by omega) (by omega)).1]; omega))
        rw [show ν 53 i = 300 + i from (hR.cn i (by omega) (by omega)).1]
        refine sw_hA (pn := 50) (i := 2) (v := 200 + ρ 13 i) rfl rfl rfl rfl rfl (hR.ca i (by omega) (by omega)).1 (hR.ca i (by omega) (by omega)).2.2.2.1 (by omega) ?_
        refine sw_hI (pn := 53) (i := 2) (v := ρ 10 (ρ 13 i)) rfl rfl rfl rfl rfl (hR.ty (ρ 13 i) (by omega) (by omega)).1 (hR.ty (ρ 13 i) (by omega) (by omega)).2.2.2.1 ?_
        refine sw_p 4 (f' := (4, [some (2, 50), some (2, 100 + b), some (0, (sm_s (mo_pwc ρ b) i.toNat) + (ρ 10 (ρ 13 i))), some (0, i + 1)], [])) rfl ?_
        rw [← e]
        exact ih (i + 1) (by omega) (by omega)
    · rw [show mo_pwc ρ b i = 0 from if_pos (by unfold mo_th; rw [if_neg hth]), Int.add_zero] at e
      refine sw_p 2 (f' := (6, [some (2, 50), some (2, 100 + b), some (0, sm_s (mo_pwc ρ b) i.toNat), some (0, i)], [(2, 50), (0, i)])) rfl ?_
      refine sw_gI (pn := 9) (i := 10) rfl rfl rfl rfl rfl (by omega) hR.sh.1 ?_
      rw [show ν 50 10 = ρ 0 12 from hR.z.2.2.1]
      refine sw_ge2 (pt := 61) (pn := 12) rfl rfl rfl (by omega) (by omega) (fun h => absurd h (by omega)) (fun m1 => ?_)
      refine sw_p 1 (f' := (13, [some (2, 50), some (2, 100 + b), some (0, sm_s (mo_pwc ρ b) i.toNat), some (0, i)], [(2, 50)])) rfl ?_
      refine sw_hA (pn := 16) (i := 2) (v := 53) rfl rfl rfl rfl rfl hR.sh.1 hR.sh.2.2.2.1.1 (by omega) ?_
      refine sw_p 1 (f' := (17, [some (2, 50), some (2, 100 + b), some (0, sm_s (mo_pwc ρ b) i.toNat), some (0, i)], [(0, i), (2, 53)])) rfl ?_
      refine sw_aal (pn := 18) (t := 5) (l := 40) rfl rfl rfl (by decide) (by omega) hR.sh.2.2.2.1.2.1 hR.sh.2.2.2.1.2.2 (by omega) (by omega) (fun _ => ?_) (fun h => absurd h (by rw [show ν 53 i = 300 + i from (hR.cn i (by omega) (by omega)).1]; omega))
      rw [show ν 53 i = 300 + i from (hR.cn i (by omega) (by omega)).1]
      refine sw_cv1 (pn := 21) (q0 := mj_PT_powerUsed) (q := mj_Ca_isThere) (p := 300 + i) (as2 := []) (L2 := [some (2, 300 + i)]) (rest := []) (v := some (0, 0)) (s1 := s) (ν1 := ν) rfl rfl rfl rfl rfl rfl rfl rfl rfl (hR.ca i (by omega) (by omega)).1 (cl_th0 hI hR (by omega) hth) ?_
      show sw_w E _ 46 (21, [some (2, 50), some (2, 100 + b), some (0, sm_s (mo_pwc ρ b) i.toNat), some (0, i)], [(0, 0)]) s ν _
      refine sw_eq1 (pt := 55) (pn := 24) rfl rfl rfl (by omega) (fun _ => ?_) (fun h => absurd h (by decide))
      refine sw_p 2 (f' := (4, [some (2, 50), some (2, 100 + b), some (0, sm_s (mo_pwc ρ b) i.toNat), some (0, i + 1)], [])) rfl ?_
      rw [← e]
      exact ih (i + 1) (by omega) (by omega)
theorem cl_pw (hI : iv_A ρ f) (hR : pt_R s ν ρ f) (hb : 0 ≤ b ∧ b < ρ 0 1) : sw_w E (d + 1) 46 (0, [some (2, 50), some (2, 100 + b), none, none], []) s ν (sw_is (some (0, mo_pw ρ b)) s ν) := by
  have h12 := hI.1.2.2.1
  refine sw_p 4 (f' := (4, [some (2, 50), some (2, 100 + b), some (0, 0), some (0, 0)], [])) rfl ?_
  exact cl_pw_l hI hR hb (ρ 0 12).toNat 0 (by omega) (by omega)
theorem cl_xp_l (hI : iv_A ρ f) (hR : pt_R s ν ρ f) (hc : 0 ≤ c ∧ c < ρ 0 12) : ∀ (n : Nat) (k : Int), 0 ≤ k → k < n → k < ρ 0 1 → sw_w E (d + 2) 45 (5, [some (2, 50), some (2, 300 + c), some (2, 100 + k)], []) s ν (sw_is (some (0, if ck_p ρ c n k 1 = 0 then 1 else 0)) s ν) := by
  intro n
  induction n with
  | zero => intro k h0 h1; omega
  | succ n ih =>
    intro k h0 h1 h2
    have h8 := hI.1.1
    have h12 := hI.1.2.2.1
    have hov := hI.1.ov k h0 (by omega)
    have htr := hI.2.2.1.2.1 k
    have hcd := hI.1.cd c hc.1 (by omega)
    have hK := hI.2.2.2.2.2.1 c hc.1 hc.2
    have hpw := hI.1.pw (ρ 13 c) (by omega) (by omega)
    have hlm := hI.1.2.2.2.2.2.2.2.2.1 k (by omega) (by omega)
    have hpb := mo_pw_b (b := k) hI.1
    have ec : ck_p ρ c (n + 1) k 1 = ck_p ρ c n (ρ 3 k) (if (1 : Int) ≠ 0 ∧ mo_pw ρ k + ρ 10 (ρ 13 c) ≤ ρ 4 k then 1 else 0) := if_neg (by omega)
    by_cases hk0 : k = 0
    · skip
      refine sw_p 4 (f' := (11, [some (2, 50), some (2, 300 + c), some (2, 100 + k)], [(2, 100 + k), (2, 50)])) rfl ?_
      refine sw_cv1 (pn := 14) (q0 := mj_PT_exceedsPower) (q := mj_PT_powerUsed) (p := 50) (as2 := [(2, 100 + k)]) (L2 := [some (2, 50), some (2, 100 + k), none, none]) (rest := []) (v := some (0, mo_pw ρ k)) (s1 := s) (ν1 := ν) rfl rfl rfl rfl rfl rfl rfl rfl rfl hR.sh.1 (cl_pw hI hR (by omega)) ?_
      show sw_w E _ 45 (14, [some (2, 50), some (2, 300 + c), some (2, 100 + k)], [(0, mo_pw ρ k)]) s ν _
      refine sw_p 1 (f' := (15, [some (2, 50), some (2, 300 + c), some (2, 100 + k)], [(2, 300 + c), (0, mo_pw ρ k)])) rfl ?_
      refine sw_hA (pn := 18) (i := 2) (v := 200 + ρ 13 c) rfl rfl rfl rfl rfl (hR.ca c (by omega) (by omega)).1 (hR.ca c (by omega) (by omega)).2.2.2.1 (by omega) ?_
      refine sw_hI (pn := 21) (i := 2) (v := ρ 10 (ρ 13 c)) rfl rfl rfl rfl rfl (hR.ty (ρ 13 c) (by omega) (by omega)).1 (hR.ty (ρ 13 c) (by omega) (by omega)).2.2.2.1 ?_
      refine sw_p 2 (f' := (23, [some (2, 50), some (2, 300 + c), some (2, 100 + k)], [(2, 100 + k), (0, (mo_pw ρ k) + (ρ 10 (ρ 13 c)))])) rfl ?_
      refine sw_hI (pn := 26) (i := 2) (v := ρ 4 k) rfl rfl rfl rfl rfl (hR.br k (by omega) (by omega)).1 (hR.br k (by omega) (by omega)).2.2.2.1 ?_
      refine sw_le2 (pt := 31) (pn := 29) rfl rfl rfl (by omega) (by omega) (fun m1 => ?_) (fun m1 => ?_)
      · skip
        refine sw_p 1 (f' := (32, [some (2, 50), some (2, 300 + c), some (2, 100 + k)], [(2, 100 + k)])) rfl ?_
        refine sw_hN (pn := 35) (i := 1) rfl rfl rfl rfl rfl (hR.br k (by omega) (by omega)).1 (by rw [(((hR.br k (by omega) (by omega)).2.2.1).trans (if_pos (by omega)))]; omega) ?_
        refine sw_p 2 (f' := (5, [some (2, 50), some (2, 300 + c), some (3, 0)], [])) rfl ?_
        rw [ec, if_pos (show ((1 : Int) ≠ 0 ∧ mo_pw ρ k + ρ 10 (ρ 13 c) ≤ ρ 4 k) by omega), ck_p_neg (by omega), if_neg (by omega)]
        refine sw_p 3 (f' := (40, [some (2, 50), some (2, 300 + c), some (3, 0)], [(0, 0)])) rfl ?_
        exact sw_retZ rfl rfl rfl (by omega) ⟨rfl, rfl, rfl⟩
      · skip
        refine sw_p 1 (f' := (30, [some (2, 50), some (2, 300 + c), some (2, 100 + k)], [(0, 1)])) rfl ?_
        exact sw_retZ rfl rfl rfl (by omega) ⟨by rw [ec, if_neg (show ¬ ((1 : Int) ≠ 0 ∧ mo_pw ρ k + ρ 10 (ρ 13 c) ≤ ρ 4 k) by omega), ck_p_0, if_pos rfl], rfl, rfl⟩
    · skip
      refine sw_p 4 (f' := (11, [some (2, 50), some (2, 300 + c), some (2, 100 + k)], [(2, 100 + k), (2, 50)])) rfl ?_
      refine sw_cv1 (pn := 14) (q0 := mj_PT_exceedsPower) (q := mj_PT_powerUsed) (p := 50) (as2 := [(2, 100 + k)]) (L2 := [some (2, 50), some (2, 100 + k), none, none]) (rest := []) (v := some (0, mo_pw ρ k)) (s1 := s) (ν1 := ν) rfl rfl rfl rfl rfl rfl rfl rfl rfl hR.sh.1 (cl_pw hI hR (by omega)) ?_
      show sw_w E _ 45 (14, [some (2, 50), some (2, 300 + c), some (2, 100 + k)], [(0, mo_pw ρ k)]) s ν _
      refine sw_p 1 (f' := (15, [some (2, 50), some (2, 300 + c), some (2, 100 + k)], [(2, 300 + c), (0, mo_pw ρ k)])) rfl ?_
      refine sw_hA (pn := 18) (i := 2) (v := 200 + ρ 13 c) rfl rfl rfl rfl rfl (hR.ca c (by omega) (by omega)).1 (hR.ca c (by omega) (by omega)).2.2.2.1 (by omega) ?_
      refine sw_hI (pn := 21) (i := 2) (v := ρ 10 (ρ 13 c)) rfl rfl rfl rfl rfl (hR.ty (ρ 13 c) (by omega) (by omega)).1 (hR.ty (ρ 13 c) (by omega) (by omega)).2.2.2.1 ?_
      refine sw_p 2 (f' := (23, [some (2, 50), some (2, 300 + c), some (2, 100 + k)], [(2, 100 + k), (0, (mo_pw ρ k) + (ρ 10 (ρ 13 c)))])) rfl ?_
      refine sw_hI (pn := 26) (i := 2) (v := ρ 4 k) rfl rfl rfl rfl rfl (hR.br k (by omega) (by omega)).1 (hR.br k (by omega) (by omega)).2.2.2.1 ?_
      refine sw_le2 (pt := 31) (pn := 29) rfl rfl rfl (by omega) (by omega) (fun m1 => ?_) (fun m1 => ?_)
      · skip
        refine sw_p 1 (f' := (32, [some (2, 50), some (2, 300 + c), some (2, 100 + k)], [(2, 100 + k)])) rfl ?_
        refine sw_hA (pn := 35) (i := 1) (v := 100 + ρ 3 k) rfl rfl rfl rfl rfl (hR.br k (by omega) (by omega)).1 (((hR.br k (by omega) (by omega)).2.2.1).trans (if_neg (by omega))) (by omega) ?_
        refine sw_p 2 (f' := (5, [some (2, 50), some (2, 300 + c), some (2, 100 + ρ 3 k)], [])) rfl ?_
        rw [ec, if_pos (show ((1 : Int) ≠ 0 ∧ mo_pw ρ k + ρ 10 (ρ 13 c) ≤ ρ 4 k) by omega)]
        exact ih (ρ 3 k) (by omega) (by omega) (by omega)
      · skip
        refine sw_p 1 (f' := (30, [some (2, 50), some (2, 300 + c), some (2, 100 + k)], [(0, 1)])) rfl ?_
        exact sw_retZ rfl rfl rfl (by omega) ⟨by rw [ec, if_neg (show ¬ ((1 : Int) ≠ 0 ∧ mo_pw ρ k + ρ 10 (ρ 13 c) ≤ ρ 4 k) by omega), ck_p_0, if_pos rfl], rfl, rfl⟩
theorem cl_xp (hI : iv_A ρ f) (hR : pt_R s ν ρ f) (hc : 0 ≤ c ∧ c < ρ 0 12) : sw_w E (d + 2) 45 (0, [some (2, 50), some (2, 300 + c), none], []) s ν (sw_is (some (0, if ck_p ρ c 8 (ρ 14 c) 1 = 0 then 1 else 0)) s ν) := by
  have h8 := hI.1.1
  have h12 := hI.1.2.2.1
  have hcd := hI.1.cd c hc.1 (by omega)
  have hK := hI.2.2.2.2.2.1 c hc.1 hc.2
  refine sw_p 1 (f' := (1, [some (2, 50), some (2, 300 + c), none], [(2, 300 + c)])) rfl ?_
  refine sw_hA (pn := 4) (i := 0) (v := 100 + ρ 14 c) rfl rfl rfl rfl rfl (hR.ca c (by omega) (by omega)).1 (hR.ca c (by omega) (by omega)).2.1 (by omega) ?_
  refine sw_p 1 (f' := (5, [some (2, 50), some (2, 300 + c), some (2, 100 + ρ 14 c)], [])) rfl ?_
  exact cl_xp_l hI hR hc 8 (ρ 14 c) (by omega) (by omega) (by omega)
theorem ck_s_1 : ∀ (n : Nat) (i : Int), ck_s ρ n i 1 = 1
  | 0, _ => rfl
  | n + 1, i => by
    unfold ck_s
    rw [if_pos (by omega)]
    exact ck_s_1 n (i + 1)
theorem cl_cp_l (hI : iv_A ρ f) (hR : pt_R s ν ρ f) : ∀ (n : Nat) (i : Int), 0 ≤ i → i + n = ρ 0 12 → sw_w E (d + 1) 52 (2, [some (2, 50), some (0, i)], []) s ν (sw_is (some (0, if ck_s ρ n i 0 = 0 then 1 else 0)) s ν) := by
  intro n
  induction n with
  | zero =>
    intro i hi hn
    have h12 := hI.1.2.2.1
    refine sw_p 2 (f' := (4, [some (2, 50), some (0, i)], [(2, 50), (0, i)])) rfl ?_
    refine sw_gI (pn := 7) (i := 10) rfl rfl rfl rfl rfl (by omega) hR.sh.1 ?_
    rw [show ν 50 10 = ρ 0 12 from hR.z.2.2.1]
    refine sw_ge2 (pt := 45) (pn := 10) rfl rfl rfl (by omega) (by omega) (fun h1 => ?_) (fun h => absurd h (by omega))
    refine sw_p 1 (f' := (46, [some (2, 50), some (0, i)], [(0, 1)])) rfl ?_
    exact sw_retZ rfl rfl rfl (by omega) ⟨rfl, rfl, rfl⟩
  | succ n ih =>
    intro i hi hn
    have h12 := hI.1.2.2.1
    have hcd := hI.1.cd i hi (by omega)
    have hK := hI.2.2.2.2.2.1 i hi (by omega)
    have h11 := hI.2.2.2.2.1 (ρ 13 i) (by omega) (by omega)
    have ec : ck_s ρ (n + 1) i 0 = ck_s ρ n (i + 1) (if (0 : Int) ≠ 0 ∨ ((1 ≤ ρ 15 i ∧ ρ 15 i ≤ 3) ∧ ρ 11 (ρ 13 i) = 0) then 1 else 0) := rfl
    by_cases hth : 1 ≤ ρ 15 i ∧ ρ 15 i ≤ 3
    · skip
      refine sw_p 2 (f' := (4, [some (2, 50), some (0, i)], [(2, 50), (0, i)])) rfl ?_
      refine sw_gI (pn := 7) (i := 10) rfl rfl rfl rfl rfl (by omega) hR.sh.1 ?_
      rw [show ν 50 10 = ρ 0 12 from hR.z.2.2.1]
      refine sw_ge2 (pt := 45) (pn := 10) rfl rfl rfl (by omega) (by omega) (fun h => absurd h (by omega)) (fun m1 => ?_)
      refine sw_p 1 (f' := (11, [some (2, 50), some (0, i)], [(2, 50)])) rfl ?_
      refine sw_hA (pn := 14) (i := 2) (v := 53) rfl rfl rfl rfl rfl hR.sh.1 hR.sh.2.2.2.1.1 (by omega) ?_
      refine sw_p 1 (f' := (15, [some (2, 50), some (0, i)], [(0, i), (2, 53)])) rfl ?_
      refine sw_aal (pn := 16) (t := 5) (l := 40) rfl rfl rfl (by decide) (by omega) hR.sh.2.2.2.1.2.1 hR.sh.2.2.2.1.2.2 (by omega) (by omega) (fun _ => ?_) (fun h => absurd h (by rw [show ν 53 i = 300 + i from (hR.cn i (by omega) (by omega)).1]; omega))
      rw [show ν 53 i = 300 + i from (hR.cn i (by omega) (by omega)).1]
      refine sw_cv1 (pn := 19) (q0 := mj_PT_canAllPause) (q := mj_Ca_isThere) (p := 300 + i) (as2 := []) (L2 := [some (2, 300 + i)]) (rest := []) (v := some (0, 1)) (s1 := s) (ν1 := ν) rfl rfl rfl rfl rfl rfl rfl rfl rfl (hR.ca i (by omega) (by omega)).1 (cl_th1 hI hR (by omega) hth) ?_
      show sw_w E _ 52 (19, [some (2, 50), some (0, i)], [(0, 1)]) s ν _
      refine sw_eq1 (pt := 39) (pn := 22) rfl rfl rfl (by omega) (fun h => absurd h (by decide)) (fun _ => ?_)
      refine sw_p 1 (f' := (23, [some (2, 50), some (0, i)], [(2, 50)])) rfl ?_
      refine sw_hA (pn := 26) (i := 2) (v := 53) rfl rfl rfl rfl rfl hR.sh.1 hR.sh.2.2.2.1.1 (by omega) ?_
      refine sw_p 1 (f' := (27, [some (2, 50), some (0, i)], [(0, i), (2, 53)])) rfl ?_
      refine sw_aal (pn := 28) (t := 5) (l := 40) rfl rfl rfl (by decide) (by omega) hR.sh.2.2.2.1.2.1 hR.sh.2.2.2.1.2.2 (by omega) (by omega) (fun _ => ?_) (fun h => absurd h (by rw [show ν 53 i = 300 + i from (hR.cn i (by omega) (by omega)).1]; omega))
      rw [show ν 53 i = 300 + i from (hR.cn i (by omega) (by omega)).1]
      refine sw_hA (pn := 31) (i := 2) (v := 200 + ρ 13 i) rfl rfl rfl rfl rfl (hR.ca i (by omega) (by omega)).1 (hR.ca i (by omega) (by omega)).2.2.2.1 (by omega) ?_
      refine sw_hI (pn := 34) (i := 3) (v := ρ 11 (ρ 13 i)) rfl rfl rfl rfl rfl (hR.ty (ρ 13 i) (by omega) (by omega)).1 (hR.ty (ρ 13 i) (by omega) (by omega)).2.2.2.2 ?_
      refine sw_ne1 (pt := 39) (pn := 37) rfl rfl rfl (by omega) (fun m3 => ?_) (fun m3 => ?_)
      · skip
        refine sw_p 2 (f' := (2, [some (2, 50), some (0, i + 1)], [])) rfl ?_
        rw [ec, if_neg (show ¬ ((0 : Int) ≠ 0 ∨ ((1 ≤ ρ 15 i ∧ ρ 15 i ≤ 3) ∧ ρ 11 (ρ 13 i) = 0)) by omega)]
        exact ih (i + 1) (by omega) (by omega)
      · skip
        refine sw_p 1 (f' := (38, [some (2, 50), some (0, i)], [(0, 0)])) rfl ?_
        exact sw_retZ rfl rfl rfl (by omega) ⟨by rw [ec, if_pos (show ((0 : Int) ≠ 0 ∨ ((1 ≤ ρ 15 i ∧ ρ 15 i ≤ 3) ∧ ρ 11 (ρ 13 i) = 0)) by omega), ck_s_1, if_neg (by omega)], rfl, rfl⟩
    · skip
      refine sw_p 2 (f' := (4, [some (2, 50), some (0, i)], [(2, 50), (0, i)])) rfl ?_
      refine sw_gI (pn := 7) (i := 10) rfl rfl rfl rfl rfl (by omega) hR.sh.1 ?_
      rw [show ν 50 10 = ρ 0 12 from hR.z.2.2.1]
      refine sw_ge2 (pt := 45) (pn := 10) rfl rfl rfl (by omega) (by omega) (fun h => absurd h (by omega)) (fun m1 => ?_)
      refine sw_p 1 (f' := (11, [some (2, 50), some (0, i)], [(2, 50)])) rfl ?_
      refine sw_hA (pn := 14) (i := 2) (v := 53) rfl rfl rfl rfl rfl hR.sh.1 hR.sh.2.2.2.1.1 (by omega) ?_
      refine sw_p 1 (f' := (15, [some (2, 50), some (0, i)], [(0, i), (2, 53)])) rfl ?_
      refine sw_aal (pn := 16) (t := 5) (l := 40) rfl rfl rfl (by decide) (by omega) hR.sh.2.2.2.1.2.1 hR.sh.2.2.2.1.2.2 (by omega) (by omega) (fun _ => ?_) (fun h => absurd h (by rw [show ν 53 i = 300 + i from (hR.cn i (by omega) (by omega)).1]; omega))
      rw [show ν 53 i = 300 + i from (hR.cn i (by omega) (by omega)).1]
      refine sw_cv1 (pn := 19) (q0 := mj_PT_canAllPause) (q := mj_Ca_isThere) (p := 300 + i) (as2 := []) (L2 := [some (2, 300 + i)]) (rest := []) (v := some (0, 0)) (s1 := s) (ν1 := ν) rfl rfl rfl rfl rfl rfl rfl rfl rfl (hR.ca i (by omega) (by omega)).1 (cl_th0 hI hR (by omega) hth) ?_
      show sw_w E _ 52 (19, [some (2, 50), some (0, i)], [(0, 0)]) s ν _
      refine sw_eq1 (pt := 39) (pn := 22) rfl rfl rfl (by omega) (fun _ => ?_) (fun h => absurd h (by decide))
      refine sw_p 2 (f' := (2, [some (2, 50), some (0, i + 1)], [])) rfl ?_
      rw [ec, if_neg (show ¬ ((0 : Int) ≠ 0 ∨ ((1 ≤ ρ 15 i ∧ ρ 15 i ≤ 3) ∧ ρ 11 (ρ 13 i) = 0)) by omega)]
      exact ih (i + 1) (by omega) (by omega)
theorem cl_cp (hI : iv_A ρ f) (hR : pt_R s ν ρ f) : sw_w E (d + 1) 52 (0, [some (2, 50), none], []) s ν (sw_is (some (0, if ck_s ρ (ρ 0 12).toNat 0 0 = 0 then 1 else 0)) s ν) := by
  have h12 := hI.1.2.2.1
  refine sw_p 2 (f' := (2, [some (2, 50), some (0, 0)], [])) rfl ?_
  exact cl_cp_l hI hR (ρ 0 12).toNat 0 (by omega) (by omega)
theorem cl_rs_l (hI : iv_A ρ f) (hR : pt_R s ν ρ f) (hpt : ∀ c, 0 ≤ c → c < ρ 0 12 → 0 < ρ 19 c → 1 ≤ ρ 15 c ∧ ρ 15 c ≤ 3) : ∀ (n : Nat) (i : Int), 0 ≤ i → i + n = ρ 0 12 → sw_w E d 56 (2, [some (2, 50), some (0, i)], []) s ν (sw_is (some (0, go_w ρ n i)) s ν) := by
  intro n
  induction n with
  | zero =>
    intro i hi hn
    have h12 := hI.1.2.2.1
    refine sw_p 2 (f' := (4, [some (2, 50), some (0, i)], [(2, 50), (0, i)])) rfl ?_
    refine sw_gI (pn := 7) (i := 10) rfl rfl rfl rfl rfl (by omega) hR.sh.1 ?_
    rw [show ν 50 10 = ρ 0 12 from hR.z.2.2.1]
    refine sw_ge2 (pt := 30) (pn := 10) rfl rfl rfl (by omega) (by omega) (fun h1 => ?_) (fun h => absurd h (by omega))
    refine sw_p 1 (f' := (31, [some (2, 50), some (0, i)], [(0, 0)])) rfl ?_
    exact sw_retZ rfl rfl rfl (by omega) ⟨rfl, rfl, rfl⟩
  | succ n ih =>
    intro i hi hn
    have h12 := hI.1.2.2.1
    have hcd := hI.1.cd i hi (by omega)
    have hp := hpt i hi (by omega)
    refine sw_p 2 (f' := (4, [some (2, 50), some (0, i)], [(2, 50), (0, i)])) rfl ?_
    refine sw_gI (pn := 7) (i := 10) rfl rfl rfl rfl rfl (by omega) hR.sh.1 ?_
    rw [show ν 50 10 = ρ 0 12 from hR.z.2.2.1]
    refine sw_ge2 (pt := 30) (pn := 10) rfl rfl rfl (by omega) (by omega) (fun h => absurd h (by omega)) (fun m1 => ?_)
    refine sw_p 1 (f' := (11, [some (2, 50), some (0, i)], [(2, 50)])) rfl ?_
    refine sw_hA (pn := 14) (i := 2) (v := 53) rfl rfl rfl rfl rfl hR.sh.1 hR.sh.2.2.2.1.1 (by omega) ?_
    refine sw_p 1 (f' := (15, [some (2, 50), some (0, i)], [(0, i), (2, 53)])) rfl ?_
    refine sw_aal (pn := 16) (t := 5) (l := 40) rfl rfl rfl (by decide) (by omega) hR.sh.2.2.2.1.2.1 hR.sh.2.2.2.1.2.2 (by omega) (by omega) (fun _ => ?_) (fun h => absurd h (by rw [show ν 53 i = 300 + i from (hR.cn i (by omega) (by omega)).1]; omega))
    rw [show ν 53 i = 300 + i from (hR.cn i (by omega) (by omega)).1]
    refine sw_gI (pn := 19) (i := 9) rfl rfl rfl rfl rfl (by omega) (hR.ca i (by omega) (by omega)).1 ?_
    rw [show ν (300 + i) 9 = ρ 19 i from (hR.cn i (by omega) (by omega)).2.2.2.2.2.1]
    refine sw_le1 (pt := 24) (pn := 22) rfl rfl rfl (by omega) (fun m2 => ?_) (fun m2 => ?_)
    · skip
      refine sw_p 2 (f' := (2, [some (2, 50), some (0, i + 1)], [])) rfl ?_
      rw [show go_w ρ (n + 1) i = go_w ρ n (i + 1) from if_neg (by omega)]
      exact ih (i + 1) (by omega) (by omega)
    · skip
      refine sw_p 1 (f' := (23, [some (2, 50), some (0, i)], [(0, 1)])) rfl ?_
      exact sw_retZ rfl rfl rfl (by omega) ⟨by rw [show go_w ρ (n + 1) i = 1 from if_pos ⟨hp (by omega), by omega⟩], rfl, rfl⟩
theorem cl_rs (hI : iv_A ρ f) (hR : pt_R s ν ρ f) (hpt : ∀ c, 0 ≤ c → c < ρ 0 12 → 0 < ρ 19 c → 1 ≤ ρ 15 c ∧ ρ 15 c ≤ 3) : sw_w E d 56 (0, [some (2, 50), none], []) s ν (sw_is (some (0, go_w ρ (ρ 0 12).toNat 0)) s ν) := by
  have h12 := hI.1.2.2.1
  refine sw_p 2 (f' := (2, [some (2, 50), some (0, 0)], [])) rfl ?_
  exact cl_rs_l hI hR hpt (ρ 0 12).toNat 0 (by omega) (by omega)
end PC1
