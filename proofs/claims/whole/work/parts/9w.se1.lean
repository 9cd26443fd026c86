/-! settle, step: class and reference -/
section SE
variable {E : mv_E} {s ν ν1 ρ : mm_T} {f : Int → Int} {d : Nat} {a b c e i k l n o p r t u w x y z : Int} {q : Int → Int} {Q : nm_O → mm_T → mm_T → Prop}
/-- one step of the reference, over a memory alike -/
theorem mo_go (hs : mo_sh s) (hI : iv_I ρ f) (h : rq_r ρ ν) (h29 : mo_b1 ν 29) (h30 : mo_b1 ν 30) : sw_w E (d + 6) 90 (0, [some (2, 0), none, none], []) s ν (sw_vr (fun v ν' => v = some (0, (go_f ρ).2) ∧ rq_r (go_f ρ).1 ν' ∧ mo_b1 ν' 29 ∧ mo_b1 ν' 30) s) := by
  have hIn : iv_I ν f := rq_I h hI
  refine sw_mono (mo_goOn (d := d) hs hIn.1.1 (gi_of (iv_go0 hIn) (go_1_b1 (Or.inl rfl) _ 0 (ν, 0) h29) (go_1_b1 (Or.inr rfl) _ 0 (ν, 0) h30))) ?_
  intro o s2 ν2 ⟨v, e1, e2, e3, e4, e5, e6⟩
  have hg := rq_gof h hI
  exact ⟨v, e1, e2, by rw [e3, hg.2], rq_tr hg.1 (rq_jk e4), e5, e6⟩
theorem mo_step2 (hs : mo_sh s) (hI : iv_I ρ f) (h : rq_r ρ ν) (h29 : mo_b1 ν 29) (h30 : mo_b1 ν 30) : sw_w E (d + 7) 89 (0, [some (2, 0)], []) s ν (sw_vr (fun v ν' => v = some (0, (go_f ρ).2) ∧ rq_r (go_f ρ).1 ν' ∧ mo_b1 ν' 29 ∧ mo_b1 ν' 30) s) := by
  have h2 : rq_r ρ (mo_cd ν 0) := ⟨fun p hp => by
    have hp0 : p ≠ 0 := fun h0 => by rw [h0] at hp; revert hp; decide
    rw [← h.1 p hp]; funext i; exact mm_u_ne (by omega), fun i hi => by rw [← h.2 i hi]; exact mm_u_ne (by omega)⟩
  have hIn : iv_I (mo_cd ν 0) f := rq_I h2 hI
  have h29' : mo_b1 (mo_cd ν 0) 29 := fun a a1 a2 => by rw [mo_cd_ne (by omega)]; exact h29 a a1 a2
  have h30' : mo_b1 (mo_cd ν 0) 30 := fun a a1 a2 => by rw [mo_cd_ne (by omega)]; exact h30 a a1 a2
  refine sw_mono (mo_step (d := d) hs hIn.1.1 (gi_of (iv_go0 hIn) (go_1_b1 (Or.inl rfl) _ 0 (mo_cd ν 0, 0) h29') (go_1_b1 (Or.inr rfl) _ 0 (mo_cd ν 0, 0) h30'))) ?_
  intro o s2 ν2 ⟨v, e1, e2, e3, e4, e5, e6⟩
  have hg := rq_gof h2 hI
  exact ⟨v, e1, e2, by rw [e3, hg.2], rq_tr hg.1 (rq_jk e4), e5, e6⟩
theorem mo_se_l (hs : mo_sh s) : ∀ (n : Nat) (ρ ν : mm_T) (k : Int), iv_I ρ f → rq_r ρ ν → mo_b1 ν 29 → mo_b1 ν 30 → se_t n ρ → sw_w E (d + 7) 110 (7, [some (2, 0), some (0, k)], []) s ν (sw_vr (fun v ν' => v = some (0, k + (se_f n ρ).1) ∧ rq_r (se_f n ρ).2 ν' ∧ mo_b1 ν' 29 ∧ mo_b1 ν' 30) s) := by
  intro n
  induction n with
  | zero => intro ρ ν k hI h h29 h30 ht; exact absurd ht (fun h => h)
  | succ n ih =>
    intro ρ ν k hI h h29 h30 ht
    have hr01 := go_f_r (ν := ρ)
    by_cases hr : (go_f ρ).2 = 0
    · have e : se_f (n + 1) ρ = (0, (go_f ρ).1) := if_pos hr
      rw [e]
      refine sw_p 1 (f' := (8, [some (2, 0), some (0, k)], [(2, 0)])) rfl ?_
      refine sw_cv2 (pn := 11) (q0 := mj_Mo_settle) (q := mj_Mo_goOn) (p := 0) (as2 := []) (L2 := [some (2, 0), none, none]) (rest := []) (s1 := s) rfl rfl rfl rfl rfl rfl rfl rfl rfl hs.1 (mo_go (d := d) hs hI h h29 h30) (fun v ν1 hv => ?_)
      obtain ⟨rfl, hv1, hv2, hv3⟩ := hv
      rw [hr]
      show sw_w E _ 110 (11, [some (2, 0), some (0, k)], [(0, 0)]) s ν1 _
      refine sw_eq1 (pt := 20) (pn := 14) rfl rfl rfl (by omega) (fun _ => ?_) (fun h => absurd h (by decide))
      refine sw_p 1 (f' := (21, [some (2, 0), some (0, k)], [(0, k)])) rfl ?_
      exact sw_retI rfl rfl rfl ⟨_, rfl, rfl, by rw [show (((0 : Int), (go_f ρ).1).1) = 0 from rfl, Int.add_zero], hv1, hv2, hv3⟩
    · have hr1 : (go_f ρ).2 = 1 := by omega
      have e : se_f (n + 1) ρ = ((se_f n (go_f ρ).1).1 + 1, (se_f n (go_f ρ).1).2) := if_neg hr
      rw [e]
      have ht : se_t n (go_f ρ).1 := by rcases ht with ht | ht; exact absurd ht hr; exact ht
      refine sw_p 1 (f' := (8, [some (2, 0), some (0, k)], [(2, 0)])) rfl ?_
      refine sw_cv2 (pn := 11) (q0 := mj_Mo_settle) (q := mj_Mo_goOn) (p := 0) (as2 := []) (L2 := [some (2, 0), none, none]) (rest := []) (s1 := s) rfl rfl rfl rfl rfl rfl rfl rfl rfl hs.1 (mo_go (d := d) hs hI h h29 h30) (fun v ν1 hv => ?_)
      obtain ⟨rfl, hv1, hv2, hv3⟩ := hv
      rw [hr1]
      show sw_w E _ 110 (11, [some (2, 0), some (0, k)], [(0, 1)]) s ν1 _
      refine sw_eq1 (pt := 20) (pn := 14) rfl rfl rfl (by omega) (fun h => absurd h (by decide)) (fun _ => ?_)
      refine sw_p 2 (f' := (7, [some (2, 0), some (0, k + 1)], [])) rfl ?_
      refine sw_mono (ih (go_f ρ).1 ν1 (k + 1) (iv_gof hI) hv1 hv2 hv3 ht) ?_
      intro o s2 ν2 ⟨v, e1, e2, e3, e4⟩
      refine ⟨v, e1, e2, ?_, e4⟩
      rw [e3]
      show some ((0 : Nat), k + 1 + (se_f n (go_f ρ).1).1) = some (0, k + ((se_f n (go_f ρ).1).1 + 1))
      rw [show k + 1 + (se_f n (go_f ρ).1).1 = k + ((se_f n (go_f ρ).1).1 + 1) by omega]
theorem mo_settle (hs : mo_sh s) (hI : iv_I ρ f) (h : rq_r ρ ν) (h29 : mo_b1 ν 29) (h30 : mo_b1 ν 30) : sw_w E (d + 7) 110 (0, [some (2, 0), none], []) s ν (sw_vr (fun v ν' => v = some (0, (se_f 4 ρ).1) ∧ rq_r (se_f 4 ρ).2 ν' ∧ mo_b1 ν' 29 ∧ mo_b1 ν' 30) s) := by
  have h2 : rq_r ρ (mm_u ν 0 0 0) := ⟨fun p hp => by
    have hp0 : p ≠ 0 := fun h0 => by rw [h0] at hp; revert hp; decide
    rw [← h.1 p hp]; funext i; exact mm_u_ne (by omega), fun i hi => by rw [← h.2 i hi]; exact mm_u_ne (by omega)⟩
  have h29' : mo_b1 (mm_u ν 0 0 0) 29 := fun a a1 a2 => by rw [mm_u_ne (by omega)]; exact h29 a a1 a2
  have h30' : mo_b1 (mm_u ν 0 0 0) 30 := fun a a1 a2 => by rw [mm_u_ne (by omega)]; exact h30 a a1 a2
  refine sw_p 2 (f' := (2, [some (2, 0), none], [(0, 0), (2, 0)])) rfl ?_
  refine sw_pI (pn := 5) (i := 0) rfl rfl rfl rfl rfl (by omega) hs.1 ?_
  refine sw_p 2 (f' := (7, [some (2, 0), some (0, 0)], [])) rfl ?_
  have hz := mo_se_l (E := E) (d := d) hs 4 ρ (mm_u ν 0 0 0) 0 hI h2 h29' h30' (se_t0 hI)
  rw [Int.zero_add] at hz
  exact hz
theorem cl_se_l : ∀ (n : Nat) (ρ ν : mm_T) (k : Int), iv_I ρ f → pt_R s ν ρ f → 0 ≤ k → k + n ≤ 100 → se_t n ρ → sw_w E (d + 6) 61 (2, [some (2, 50), some (0, k)], []) s ν (sw_vr (fun v ν' => v = some (0, k + (se_f n ρ).1) ∧ pt_R s ν' (se_f n ρ).2 f ∧ lo_r ν ν') s) := by
  intro n
  induction n with
  | zero => intro ρ ν k hI h h0 hk ht; exact absurd ht (fun h => h)
  | succ n ih =>
    intro ρ ν k hI h h0 hk ht
    have hR := h
    have hr01 := go_f_r (ν := ρ)
    by_cases hr : (go_f ρ).2 = 0
    · have e : se_f (n + 1) ρ = (0, (go_f ρ).1) := if_pos hr
      rw [e]
      refine sw_p 2 (f' := (6, [some (2, 50), some (0, k)], [(0, 512), (0, k)])) rfl ?_
      refine sw_ge2 (pt := 22) (pn := 9) rfl rfl rfl (by omega) (by omega) (fun h => absurd h (by omega)) (fun m1 => ?_)
      refine sw_p 1 (f' := (10, [some (2, 50), some (0, k)], [(2, 50)])) rfl ?_
      refine sw_cv2 (pn := 13) (q0 := mj_PT_settle) (q := mj_PT_step) (p := 50) (as2 := []) (L2 := [some (2, 50), none]) (rest := []) (s1 := s) rfl rfl rfl rfl rfl rfl rfl rfl rfl hR.sh.1 (cl_step (d := d) hI h) (fun v ν1 hv => ?_)
      obtain ⟨rfl, hv1, hv2⟩ := hv
      rw [hr]
      show sw_w E _ 61 (13, [some (2, 50), some (0, k)], [(0, 0)]) s ν1 _
      refine sw_eq1 (pt := 22) (pn := 16) rfl rfl rfl (by omega) (fun _ => ?_) (fun h => absurd h (by decide))
      refine sw_p 1 (f' := (23, [some (2, 50), some (0, k)], [(0, k)])) rfl ?_
      exact sw_retI rfl rfl rfl ⟨_, rfl, rfl, by rw [show (((0 : Int), (go_f ρ).1).1) = 0 from rfl, Int.add_zero], hv1, hv2⟩
    · have hr1 : (go_f ρ).2 = 1 := by omega
      have e : se_f (n + 1) ρ = ((se_f n (go_f ρ).1).1 + 1, (se_f n (go_f ρ).1).2) := if_neg hr
      rw [e]
      have ht : se_t n (go_f ρ).1 := by rcases ht with ht | ht; exact absurd ht hr; exact ht
      refine sw_p 2 (f' := (6, [some (2, 50), some (0, k)], [(0, 512), (0, k)])) rfl ?_
      refine sw_ge2 (pt := 22) (pn := 9) rfl rfl rfl (by omega) (by omega) (fun h => absurd h (by omega)) (fun m1 => ?_)
      refine sw_p 1 (f' := (10, [some (2, 50), some (0, k)], [(2, 50)])) rfl ?_
      refine sw_cv2 (pn := 13) (q0 := mj_PT_settle) (q := mj_PT_step) (p := 50) (as2 := []) (L2 := [some (2, 50), none]) (rest := []) (s1 := s) rfl rfl rfl rfl rfl rfl rfl rfl rfl hR.sh.1 (cl_step (d := d) hI h) (fun v ν1 hv => ?_)
      obtain ⟨rfl, hv1, hv2⟩ := hv
      rw [hr1]
      show sw_w E _ 61 (13, [some (2, 50), some (0, k)], [(0, 1)]) s ν1 _
      refine sw_eq1 (pt := 22) (pn := 16) rfl rfl rfl (by omega) (fun h => absurd h (by decide)) (fun _ => ?_)
      refine sw_p 2 (f' := (2, [some (2, 50), some (0, k + 1)], [])) rfl ?_
      refine sw_mono (ih (go_f ρ).1 ν1 (k + 1) (iv_gof hI) hv1 (by omega) (by omega) ht) ?_
      intro o s2 ν2 ⟨v, e1, e2, e3, e4, e5⟩
      refine ⟨v, e1, e2, ?_, e4, lo_tr hv2 e5⟩
      rw [e3]
      show some ((0 : Nat), k + 1 + (se_f n (go_f ρ).1).1) = some (0, k + ((se_f n (go_f ρ).1).1 + 1))
      rw [show k + 1 + (se_f n (go_f ρ).1).1 = k + ((se_f n (go_f ρ).1).1 + 1) by omega]
theorem cl_settle (hI : iv_I ρ f) (hR : pt_R s ν ρ f) : sw_w E (d + 6) 61 (0, [some (2, 50), none], []) s ν (sw_vr (fun v ν' => v = some (0, (se_f 4 ρ).1) ∧ pt_R s ν' (se_f 4 ρ).2 f ∧ lo_r ν ν') s) := by
  refine sw_p 2 (f' := (2, [some (2, 50), some (0, 0)], [])) rfl ?_
  have hz := cl_se_l (E := E) (d := d) 4 ρ ν 0 hI hR (by omega) (by omega) (se_t0 hI)
  rw [Int.zero_add] at hz
  exact hz
end SE
