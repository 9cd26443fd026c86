/-! what the reference leaves alone: names from 31 on -/
def hi_r (ν ν' : mm_T) : Prop := ∀ p, 31 ≤ p → ν' p = ν p
section HI
variable {E : mv_E} {s ν ν' ν2 ρ : mm_T} {f : Int → Int} {d : Nat} {a b c e i k l n o p r t u w x y z : Int} {q : Int → Int} {Q : nm_O → mm_T → mm_T → Prop}
theorem hi_rfl : hi_r ν ν := fun _ _ => rfl
theorem hi_tr (h : hi_r ν ν') (h2 : hi_r ν' ν2) : hi_r ν ν2 := fun p hp => (h2 p hp).trans (h p hp)
theorem hi_u (h : p < 31) : hi_r ν (mm_u ν p i z) := fun q hq => by
  funext k
  exact mm_u_ne (by omega)
theorem hi_rg {lo hh : Int} {g : Int → Int} (h : p < 31) : hi_r ν (rg_m ν p lo hh g) := fun q hq => by
  funext k
  exact rg_ne (by omega)
theorem hi_cd : hi_r ν (mo_cd ν z) := hi_u (by decide)
theorem hi_rm : hi_r ν (mo_rm ν c y) := hi_tr (hi_tr (hi_tr (hi_tr (hi_u (by decide)) (hi_u (by decide))) (hi_rg (by decide))) (hi_rg (by decide))) (hi_u (by decide))
theorem hi_ch : hi_r ν (mo_ch ν x y) := hi_rg (by decide)
theorem hi_ls : hi_r ν (mo_ls ν c w) := hi_rg (by decide)
theorem hi_pl {g : Int → Int} : hi_r ν (pl_f ν c x e g) := fun q hq => by
  funext k
  unfold pl_f
  rw [if_neg (by omega), if_neg (by omega), if_neg (by omega)]
theorem hi_me : ∀ (n : Nat) (ν : mm_T), hi_r ν (mo_me n ν)
  | 0, _ => hi_rfl
  | n + 1, ν => hi_tr (hi_u (by decide)) (hi_me n _)
theorem hi_pn : hi_r ν (mo_pn ν) := hi_tr (hi_me _ _) (fun q hq => by
  funext k
  exact pn_ne (by omega) (by omega) (by omega))
theorem hi_ma : hi_r ν (ma_e ν) := hi_tr (hi_tr (hi_tr (fun q hq => by
  funext k
  exact ma_ne (by omega) (by omega)) hi_ch) (hi_u (by decide))) (hi_u (by decide))
theorem hi_g1 : ∀ (n : Nat) (c : Int) (X : mm_T × Int), hi_r X.1 (go_1 n c X).1
  | 0, _, _ => hi_rfl
  | n + 1, c, X => by
    rw [go_1]
    refine hi_tr ?_ (hi_g1 n (c + 1) _)
    by_cases h : X.1 15 c = 3 ∧ X.1 19 c = 0
    · rw [if_pos h]; exact hi_rm
    · rw [if_neg h]; exact hi_rfl
theorem hi_ck : hi_r ν (ck_f ν) := by
  unfold ck_f
  split
  · exact hi_tr (hi_u (by decide)) hi_rm
  · split
    · exact hi_tr (hi_tr hi_pl (hi_u (by decide))) (hi_u (by decide))
    · split
      · exact hi_tr (hi_u (by decide)) hi_rm
      · split
        · exact hi_tr (hi_u (by decide)) hi_rm
        · exact hi_tr (hi_u (by decide)) hi_ch
theorem hi_go (ν : mm_T) : hi_r ν (go_f ν).1 := by
  unfold go_f
  refine hi_tr (ν' := (go_0 ν).1) (hi_g1 (ν 0 12).toNat 0 (ν, 0)) ?_
  unfold go_2
  split
  · exact hi_rfl
  · split
    · exact hi_ck
    · split
      · exact hi_rfl
      · exact hi_tr hi_pn hi_ma
theorem hi_jk (h : jk_r ν ν') : hi_r ν ν' := fun p hp => h p (by simp only [List.mem_cons, List.not_mem_nil, or_false]; omega)
/-- one step of the reference, over a memory alike -/
theorem mo_goh (hs : mo_sh s) (hI : iv_I ρ f) (h : rq_r ρ ν) (h29 : mo_b1 ν 29) (h30 : mo_b1 ν 30) : sw_w E (d + 6) 90 (0, [some (2, 0), none, none], []) s ν (sw_vr (fun v ν' => v = some (0, (go_f ρ).2) ∧ rq_r (go_f ρ).1 ν' ∧ mo_b1 ν' 29 ∧ mo_b1 ν' 30 ∧ hi_r ν ν') s) := by
  have hIn : iv_I ν f := rq_I h hI
  refine sw_mono (mo_goOn (d := d) hs hIn.1.1 (gi_of (iv_go0 hIn) (go_1_b1 (Or.inl rfl) _ 0 (ν, 0) h29) (go_1_b1 (Or.inr rfl) _ 0 (ν, 0) h30))) ?_
  intro o s2 ν2 ⟨v, e1, e2, e3, e4, e5, e6⟩
  have hg := rq_gof h hI
  exact ⟨v, e1, e2, by rw [e3, hg.2], rq_tr hg.1 (rq_jk e4), e5, e6, hi_tr (hi_go ν) (hi_jk e4)⟩
theorem mo_sth (hs : mo_sh s) (hI : iv_I ρ f) (h : rq_r ρ ν) (h29 : mo_b1 ν 29) (h30 : mo_b1 ν 30) : sw_w E (d + 7) 89 (0, [some (2, 0)], []) s ν (sw_vr (fun v ν' => v = some (0, (go_f ρ).2) ∧ rq_r (go_f ρ).1 ν' ∧ mo_b1 ν' 29 ∧ mo_b1 ν' 30 ∧ hi_r ν ν') s) := by
  have h2 : rq_r ρ (mo_cd ν 0) := ⟨fun p hp => by
    have hp0 : p ≠ 0 := fun h0 => by rw [h0] at hp; revert hp; decide
    rw [← h.1 p hp]; funext i; exact mm_u_ne (by omega), fun i hi => by rw [← h.2 i hi]; exact mm_u_ne (by omega)⟩
  have hIn : iv_I (mo_cd ν 0) f := rq_I h2 hI
  have h29' : mo_b1 (mo_cd ν 0) 29 := fun a a1 a2 => by rw [mo_cd_ne (by omega)]; exact h29 a a1 a2
  have h30' : mo_b1 (mo_cd ν 0) 30 := fun a a1 a2 => by rw [mo_cd_ne (by omega)]; exact h30 a a1 a2
  refine sw_mono (mo_step (d := d) hs hIn.1.1 (gi_of (iv_go0 hIn) (go_1_b1 (Or.inl rfl) _ 0 (mo_cd ν 0, 0) h29') (go_1_b1 (Or.inr rfl) _ 0 (mo_cd ν 0, 0) h30'))) ?_
  intro o s2 ν2 ⟨v, e1, e2, e3, e4, e5, e6⟩
  have hg := rq_gof h2 hI
  exact ⟨v, e1, e2, by rw [e3, hg.2], rq_tr hg.1 (rq_jk e4), e5, e6, hi_tr (hi_u (by decide)) (hi_tr (hi_go _) (hi_jk e4))⟩
theorem mo_slh (hs : mo_sh s) : ∀ (n : Nat) (ρ ν : mm_T) (k : Int), iv_I ρ f → rq_r ρ ν → mo_b1 ν 29 → mo_b1 ν 30 → se_t n ρ → sw_w E (d + 7) 110 (7, [some (2, 0), some (0, k)], []) s ν (sw_vr (fun v ν' => v = some (0, k + (se_f n ρ).1) ∧ rq_r (se_f n ρ).2 ν' ∧ mo_b1 ν' 29 ∧ mo_b1 ν' 30 ∧ hi_r ν ν') s) := by
  intro n
  induction n with
  | zero => intro ρ ν k hI h h29 h30 ht; exact absurd ht (fun h => h)
  | succ n ih =>
    intro ρ ν k hI h h29 h30 ht
    have hr01 := go_f_r (ν := ρ)
    by_cases hr : (go_f ρ).2 = 0
    · have e : se_f (n + 1) ρ = (0, (go_f ρ).1) := if_pos hr
      rw [e]
      refine sw_p 1 (f' := (8, [some (2, 0), some (0, k)], [(2, 0)])) rfl ?_
      refine sw_cv2 (pn := 11) (q0 := mj_Mo_settle) (q := mj_Mo_goOn) (p := 0) (as2 := []) (L2 := [some (2, 0), none, none]) (rest := []) (s1 := s) rfl rfl rfl rfl rfl rfl rfl rfl rfl hs.1 (mo_goh (d := d) hs hI h h29 h30) (fun v ν1 hv => ?_)
      obtain ⟨rfl, hv1, hv2, hv3, hv4⟩ := hv
      rw [hr]
      show sw_w E _ 110 (11, [some (2, 0), some (0, k)], [(0, 0)]) s ν1 _
      refine sw_eq1 (pt := 20) (pn := 14) rfl rfl rfl (by omega) (fun _ => ?_) (fun h => absurd h (by decide))
      refine sw_p 1 (f' := (21, [some (2, 0), some (0, k)], [(0, k)])) rfl ?_
      exact sw_retI rfl rfl rfl ⟨_, rfl, rfl, by rw [show (((0 : Int), (go_f ρ).1).1) = 0 from rfl, Int.add_zero], hv1, hv2, hv3, hv4⟩
    · have hr1 : (go_f ρ).2 = 1 := by omega
      have e : se_f (n + 1) ρ = ((se_f n (go_f ρ).1).1 + 1, (se_f n (go_f ρ).1).2) := if_neg hr
      rw [e]
      have ht : se_t n (go_f ρ).1 := by rcases ht with ht | ht; exact absurd ht hr; exact ht
      refine sw_p 1 (f' := (8, [some (2, 0), some (0, k)], [(2, 0)])) rfl ?_
      refine sw_cv2 (pn := 11) (q0 := mj_Mo_settle) (q := mj_Mo_goOn) (p := 0) (as2 := []) (L2 := [some (2, 0), none, none]) (rest := []) (s1 := s) rfl rfl rfl rfl rfl rfl rfl rfl rfl hs.1 (mo_goh (d := d) hs hI h h29 h30) (fun v ν1 hv => ?_)
      obtain ⟨rfl, hv1, hv2, hv3, hv4⟩ := hv
      rw [hr1]
      show sw_w E _ 110 (11, [some (2, 0), some (0, k)], [(0, 1)]) s ν1 _
      refine sw_eq1 (pt := 20) (pn := 14) rfl rfl rfl (by omega) (fun h => absurd h (by decide)) (fun _ => ?_)
      refine sw_p 2 (f' := (7, [some (2, 0), some (0, k + 1)], [])) rfl ?_
      refine sw_mono (ih (go_f ρ).1 ν1 (k + 1) (iv_gof hI) hv1 hv2 hv3 ht) ?_
      intro o s2 ν2 ⟨v, e1, e2, e3, e4, e5, e6, e7⟩
      refine ⟨v, e1, e2, ?_, e4, e5, e6, hi_tr hv4 e7⟩
      rw [e3]
      show some ((0 : Nat), k + 1 + (se_f n (go_f ρ).1).1) = some (0, k + ((se_f n (go_f ρ).1).1 + 1))
      rw [show k + 1 + (se_f n (go_f ρ).1).1 = k + ((se_f n (go_f ρ).1).1 + 1) by omega]
theorem mo_seh (hs : mo_sh s) (hI : iv_I ρ f) (h : rq_r ρ ν) (h29 : mo_b1 ν 29) (h30 : mo_b1 ν 30) : sw_w E (d + 7) 110 (0, [some (2, 0), none], []) s ν (sw_vr (fun v ν' => v = some (0, (se_f 4 ρ).1) ∧ rq_r (se_f 4 ρ).2 ν' ∧ mo_b1 ν' 29 ∧ mo_b1 ν' 30 ∧ hi_r ν ν') s) := by
  have h2 : rq_r ρ (mm_u ν 0 0 0) := ⟨fun p hp => by
    have hp0 : p ≠ 0 := fun h0 => by rw [h0] at hp; revert hp; decide
    rw [← h.1 p hp]; funext i; exact mm_u_ne (by omega), fun i hi => by rw [← h.2 i hi]; exact mm_u_ne (by omega)⟩
  have h29' : mo_b1 (mm_u ν 0 0 0) 29 := fun a a1 a2 => by rw [mm_u_ne (by omega)]; exact h29 a a1 a2
  have h30' : mo_b1 (mm_u ν 0 0 0) 30 := fun a a1 a2 => by rw [mm_u_ne (by omega)]; exact h30 a a1 a2
  refine sw_p 2 (f' := (2, [some (2, 0), none], [(0, 0), (2, 0)])) rfl ?_
  refine sw_pI (pn := 5) (i := 0) rfl rfl rfl rfl rfl (by omega) hs.1 ?_
  refine sw_p 2 (f' := (7, [some (2, 0), some (0, 0)], [])) rfl ?_
  have hz := mo_slh (E := E) (d := d) hs 4 ρ (mm_u ν 0 0 0) 0 hI h2 h29' h30' (se_t0 hI)
  rw [Int.zero_add] at hz
  exact sw_mono hz (fun o s2 ν2 ⟨v, e1, e2, e3, e4, e5, e6, e7⟩ => ⟨v, e1, e2, e3, e4, e5, e6, hi_tr (hi_u (by decide)) e7⟩)
end HI
