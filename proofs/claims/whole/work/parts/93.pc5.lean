/-! the class: growsFrom, grows -/
def od_o2 (a b c : Int) : Bool := decide (0 ∈ od_l (od_g a b c) ∧ 1 ∈ od_l (od_g a b c) ∧ 2 ∈ od_l (od_g a b c))
theorem od_all2 : (od_zs.all fun a => od_zs.all fun b => od_zs.all fun c => od_o2 a b c) = true := by decide +kernel
theorem od_in2 {g : Int → Int} {k : Int} (h0 : g 0 = 0 ∨ st_pw (g 0)) (h1 : g 1 = 0 ∨ st_pw (g 1)) (h2 : g 2 = 0 ∨ st_pw (g 2)) (hk : 0 ≤ k ∧ k < 3) : k ∈ od_l g := by
  have h := List.all_eq_true.mp (List.all_eq_true.mp (List.all_eq_true.mp od_all2 _ (od_mem h0)) _ (od_mem h1)) _ (od_mem h2)
  have h : 0 ∈ od_l g ∧ 1 ∈ od_l g ∧ 2 ∈ od_l g := of_decide_eq_true h
  have hk3 : k = 0 ∨ k = 1 ∨ k = 2 := by omega
  rcases hk3 with rfl | rfl | rfl
  · exact h.1
  · exact h.2.1
  · exact h.2.2
theorem cf_bd {f : Int → Int} {x e : Int} (hx : 0 ≤ x) (he : e ≤ 4096) : ∀ (l : List Int) (g q r : Int → Int), cf_s f x e l g q = some r → ∀ k, (0 ≤ q k ∧ q k ≤ 4096) ∨ k ∈ l → 0 ≤ r k ∧ r k ≤ 4096
  | [], g, q, r, h, k, hk => by
    have h : q = r := Option.some.inj h
    rw [← h]
    rcases hk with hk | hk
    · exact hk
    · exact absurd hk List.not_mem_nil
  | j :: l, g, q, r, h, k, hk => by
    unfold cf_s at h
    by_cases h1 : 0 < f j
    · rw [if_pos h1] at h
      by_cases h2 : ff_p g (f j) x e < 0
      · rw [if_pos h2] at h; cases h
      · rw [if_neg h2] at h
        have h3 := ff_p_r (g := g) (x := x) (e := e) h1
        refine cf_bd hx he l _ _ r h k ?_
        by_cases hkj : k = j
        · rw [if_pos hkj]; exact Or.inl (by omega)
        · rw [if_neg hkj]
          rcases hk with hk | hk
          · exact Or.inl hk
          · exact Or.inr ((List.mem_cons.mp hk).elim (fun h => absurd h hkj) id)
    · rw [if_neg h1] at h
      refine cf_bd hx he l _ _ r h k ?_
      by_cases hkj : k = j
      · rw [if_pos hkj]; exact Or.inl (by omega)
      · rw [if_neg hkj]
        rcases hk with hk | hk
        · exact Or.inl hk
        · exact Or.inr ((List.mem_cons.mp hk).elim (fun h => absurd h hkj) id)
/-- places found -/
def cp_q (ρ : mm_T) (c : Int) (q : Int → Int) (ν1 : mm_T) : Prop := ∀ k, 0 ≤ k → k < 3 → (0 ≤ ν1 64 k ∧ ν1 64 k ≤ 4096) ∧ (0 < ρ 9 (3 * ρ 13 c + k) → ν1 64 k = q k)
/-- the ends of growsFrom, grows -/
def cg_P (fs : List Int) (ν ρ : mm_T) (c : Int) (r : Option (Int × Int × (Int → Int))) (v : Option mg_V) (ν' : mm_T) : Prop := match r with
  | none => v = some (0, 0) ∧ fr_r fs ν ν'
  | some (x, e, q) => v = some (0, 1) ∧ ∃ ν1, fr_r fs ν ν1 ∧ cp_q ρ c q ν1 ∧ ν' = mm_u (mm_u ν1 (100 + ρ 14 c) 6 x) (100 + ρ 14 c) 7 e
theorem cg_fr {fs gs : List Int} {ν ν1 ν' ρ : mm_T} {c : Int} {r : Option (Int × Int × (Int → Int))} {v : Option mg_V} (hf : fr_r fs ν ν1) (hs : ∀ p ∈ gs, p ∈ fs) (h : cg_P gs ν1 ρ c r v ν') : cg_P fs ν ρ c r v ν' := by
  rcases r with _ | ⟨x, e, q⟩
  · exact ⟨h.1, fr_tr hf h.2 (fun _ h => h) hs⟩
  · obtain ⟨h1, ν2, h2, h3, h4⟩ := h
    exact ⟨h1, ν2, fr_tr hf h2 (fun _ h => h) hs, h3, h4⟩
section PC5
variable {E : mv_E} {s ν ρ : mm_T} {f : Int → Int} {d : Nat} {a b c e i k l n o p q r t u w x y z t0 : Int} {g : Int → Int} {Q : nm_O → mm_T → mm_T → Prop} {o4 o5 o6 o7 : Option mg_V}
theorem cj_7 {ν' : mm_T} (h : fr_r [58, 59, 60, 61, 62, 63, 64] ν ν') : cj_r ν ν' := fun o i h1 h2 h3 => congrFun (h o (by simp only [List.mem_cons, List.not_mem_nil, or_false]; omega)) i
/-- fits, in the reference's words -/
theorem cl_fits2 (hI : iv_A ρ f) (hR0 : pt_R s ν ρ f) (hc : 0 ≤ c ∧ c < ρ 0 12) (hx : 0 ≤ x ∧ x ≤ e ∧ e ≤ 4096) (hJ : st_I ν 55 56 57 (oc_m ρ (ρ 14 c) (100 + c))) (hn : ν 55 2 ≤ 9) (hg : ∀ a, oc_m ρ (ρ 14 c) (100 + c) a = 1 → x ≤ a ∧ a < e) : sw_w E (d + 1) 48 (0, [some (2, 50), some (2, 300 + c), some (0, x), some (0, e), none, none, none, none], []) s ν (sw_vr (fun v ν' => match ff_r ρ c x e (fun _ => 0) with | none => v = some (0, 0) ∧ fr_r [61, 62, 63, 64] ν ν' | some q => v = some (0, 1) ∧ fr_r [61, 62, 63, 64] ν ν' ∧ cp_q ρ c q ν') s) := by
  have h12 := hI.1.2.2.1
  have hcd := hI.1.cd c hc.1 (by omega)
  obtain ⟨q0, h⟩ := cl_fits (E := E) (d := d) hI hR0 hc hx hJ hn hg
  refine sw_mono h ?_
  intro o s2 ν2 ⟨v, e1, e2, e3⟩
  refine ⟨v, e1, e2, ?_⟩
  rcases cf_r (x := x) (e := e) (q := q0) hI.1 (by omega : 0 ≤ c ∧ c < 40) hI.2.2.2.1 with ⟨g1, g2⟩ | ⟨r, r', g1, g2, g3⟩
  · rw [g1] at e3
    rw [g2]
    exact e3
  · rw [g1] at e3
    rw [g2]
    obtain ⟨g4, g5, g6⟩ := e3
    refine ⟨g4, g5, fun k k0 k1 => ?_⟩
    rw [g6 k k0 k1]
    exact ⟨cf_bd hx.1 hx.2.2 _ _ _ _ g1 k (Or.inr (od_in2 (g := fun k => ρ 9 (3 * ρ 13 c + k)) (hI.2.2.2.1 (3 * ρ 13 c + 0) (by omega) (by omega)) (hI.2.2.2.1 (3 * ρ 13 c + 1) (by omega) (by omega)) (hI.2.2.2.1 (3 * ρ 13 c + 2) (by omega) (by omega)) ⟨k0, k1⟩)), g3 k k0 k1⟩
theorem cl_gf_l (hI : iv_A ρ f) (hR0 : pt_R s ν ρ f) (hc : 0 ≤ c ∧ c < ρ 0 12) (hJ : st_I ν 55 56 57 (oc_m ρ (ρ 14 c) (100 + c))) (hn9 : ν 55 2 ≤ 9) (hJb : st_I ν 58 59 60 g) (hx : 0 ≤ x) (hl : 0 ≤ l ∧ l ≤ 4096 ∧ l % 64 = 0) : ∀ (n : Nat) (t : Int) (ν1 : mm_T), fr_r [61, 62, 63, 64] ν ν1 → x ≤ t → t ≤ 4096 + 64 → t % 64 = 0 → l < t + 64 * (n + 1) → (∀ a, (oc_m ρ (ρ 14 c) (100 + c)) a = 1 → x ≤ a ∧ a < t) → sw_w E (d + 2) 50 (3, [some (2, 50), some (2, 300 + c), some (0, x), some (0, t0), some (0, l), some (0, t)], []) s ν1 (sw_vr (cg_P [61, 62, 63, 64] ν ρ c (gf_r ρ c x l g n t)) s) := by
  intro n
  induction n with
  | zero =>
    intro t ν1 hf1 ht ht2 ht3 hn hg
    refine sw_p 2 (f' := (7, [some (2, 50), some (2, 300 + c), some (0, x), some (0, t0), some (0, l), some (0, t)], [(0, l), (0, t)])) rfl ?_
    refine sw_ge2 (pt := 69) (pn := 10) rfl rfl rfl (by omega) (by omega) (fun m1 => ?_) (fun h => absurd h (by omega))
    refine sw_p 1 (f' := (70, [some (2, 50), some (2, 300 + c), some (0, x), some (0, t0), some (0, l), some (0, t)], [(0, 0)])) rfl ?_
    exact sw_retZ rfl rfl rfl (by omega) ⟨_, rfl, rfl, by rw [show gf_r ρ c x l g 0 t = none from rfl]; exact ⟨rfl, hf1⟩⟩
  | succ n ih =>
    intro t ν1 hf1 ht ht2 ht3 hn hg
    have h8 := hI.1.1
    have h12 := hI.1.2.2.1
    have hcd := hI.1.cd c hc.1 (by omega)
    have hK := hI.2.2.2.2.2.1 c hc.1 hc.2
    have hR := pt_R_fr hI.1 (cj_6 hf1) (fun _ _ => rfl) hR0
    by_cases h1 : t < l
    · have hJ1 : st_I ν1 55 56 57 (oc_m ρ (ρ 14 c) (100 + c)) := by unfold st_I; rw [hf1 55 (by decide), hf1 56 (by decide), hf1 57 (by decide)]; exact hJ
      have hb1 : st_I ν1 58 59 60 g := by unfold st_I; rw [hf1 58 (by decide), hf1 59 (by decide), hf1 60 (by decide)]; exact hJb
      have h55 : ν1 55 2 ≤ 9 := by rw [hf1 55 (by decide)]; exact hn9
      by_cases h2 : mo_to (fun _ => g) 30 64 t = t + 64
      · have hq := st_fr_1 hb1 (x := t) (e := t + 64) (mo_to_0 64 t h2) (by omega)
        refine sw_p 2 (f' := (7, [some (2, 50), some (2, 300 + c), some (0, x), some (0, t0), some (0, l), some (0, t)], [(0, l), (0, t)])) rfl ?_
        refine sw_ge2 (pt := 69) (pn := 10) rfl rfl rfl (by omega) (by omega) (fun h => absurd h (by omega)) (fun m1 => ?_)
        refine sw_p 1 (f' := (11, [some (2, 50), some (2, 300 + c), some (0, x), some (0, t0), some (0, l), some (0, t)], [(2, 50)])) rfl ?_
        refine sw_hA (pn := 14) (i := 5) (v := 58) rfl rfl rfl rfl rfl hR.sh.1 hR.sh.2.2.2.2.2.2.1.1 (by omega) ?_
        refine sw_p 4 (f' := (21, [some (2, 50), some (2, 300 + c), some (0, x), some (0, t0), some (0, l), some (0, t)], [(0, t + 64), (0, t), (2, 58)])) rfl ?_
        refine sw_cv1 (pn := 24) (q0 := mj_PT_growsFrom) (q := mj_St_isFree) (p := 58) (as2 := [(0, t), (0, t + 64)]) (L2 := [some (2, 58), some (0, t), some (0, t + 64), none]) (rest := []) (v := some (0, 1)) (s1 := s) (ν1 := ν1) rfl rfl rfl rfl rfl rfl rfl rfl rfl hR.sh.2.2.2.2.2.2.1.2.1.2 (st_free_1 hR.sh.2.2.2.2.2.2.1.2 (st_I_B hb1) (by omega) (by omega) hq) ?_
        show sw_w E _ 50 (24, [some (2, 50), some (2, 300 + c), some (0, x), some (0, t0), some (0, l), some (0, t)], [(0, 1)]) s ν1 _
        refine sw_eq1 (pt := 69) (pn := 27) rfl rfl rfl (by omega) (fun h => absurd h (by decide)) (fun _ => ?_)
        refine sw_p 6 (f' := (35, [some (2, 50), some (2, 300 + c), some (0, x), some (0, t0), some (0, l), some (0, t)], [(0, t + 64), (0, x), (2, 300 + c), (2, 50)])) rfl ?_
        refine sw_cv2 (pn := 38) (q0 := mj_PT_growsFrom) (q := mj_PT_fits) (p := 50) (as2 := [(2, 300 + c), (0, x), (0, t + 64)]) (L2 := [some (2, 50), some (2, 300 + c), some (0, x), some (0, t + 64), none, none, none, none]) (rest := []) (s1 := s) rfl rfl rfl rfl rfl rfl rfl rfl rfl hR.sh.1 (cl_fits2 (d := d) hI hR hc (by omega) hJ1 h55 (fun a ha => by have := hg a ha; omega)) (fun v ν2 hv => ?_)
        rcases hfr : ff_r ρ c x (t + 64) (fun _ => 0) with _ | q1
        · skip
          rw [hfr] at hv
          obtain ⟨rfl, hf2⟩ := hv
          show sw_w E _ 50 (38, [some (2, 50), some (2, 300 + c), some (0, x), some (0, t0), some (0, l), some (0, t)], [(0, 0)]) s ν2 _
          refine sw_eq1 (pt := 63) (pn := 41) rfl rfl rfl (by omega) (fun _ => ?_) (fun h => absurd h (by decide))
          refine sw_p 2 (f' := (3, [some (2, 50), some (2, 300 + c), some (0, x), some (0, t0), some (0, l), some (0, t + 64)], [])) rfl ?_
          rw [show gf_r ρ c x l g (n + 1) t = gf_r ρ c x l g n (t + 64) from (if_pos ⟨by omega, h2⟩).trans (by rw [hfr])]
          exact ih (t + 64) ν2 (fr_tr hf1 hf2 (by decide) (by decide)) (by omega) (by omega) (by omega) (by omega) (fun a ha => by have := hg a ha; omega)
        · skip
          rw [hfr] at hv
          obtain ⟨rfl, hf2, hv⟩ := hv
          have hR := pt_R_fr hI.1 (cj_6 hf2) (fun _ _ => rfl) hR
          show sw_w E _ 50 (38, [some (2, 50), some (2, 300 + c), some (0, x), some (0, t0), some (0, l), some (0, t)], [(0, 1)]) s ν2 _
          refine sw_eq1 (pt := 63) (pn := 41) rfl rfl rfl (by omega) (fun h => absurd h (by decide)) (fun _ => ?_)
          refine sw_p 1 (f' := (42, [some (2, 50), some (2, 300 + c), some (0, x), some (0, t0), some (0, l), some (0, t)], [(2, 300 + c)])) rfl ?_
          refine sw_hA (pn := 45) (i := 0) (v := 100 + ρ 14 c) rfl rfl rfl rfl rfl (hR.ca c (by omega) (by omega)).1 (hR.ca c (by omega) (by omega)).2.1 (by omega) ?_
          refine sw_p 1 (f' := (46, [some (2, 50), some (2, 300 + c), some (0, x), some (0, t0), some (0, l), some (0, t)], [(0, x), (2, 100 + ρ 14 c)])) rfl ?_
          refine sw_pI (pn := 49) (i := 6) rfl rfl rfl rfl rfl (by omega) (hR.br (ρ 14 c) (by omega) (by omega)).1 ?_
          refine sw_p 1 (f' := (50, [some (2, 50), some (2, 300 + c), some (0, x), some (0, t0), some (0, l), some (0, t)], [(2, 300 + c)])) rfl ?_
          refine sw_hA (pn := 53) (i := 0) (v := 100 + ρ 14 c) rfl rfl rfl rfl rfl (hR.ca c (by omega) (by omega)).1 (hR.ca c (by omega) (by omega)).2.1 (by omega) ?_
          refine sw_p 3 (f' := (58, [some (2, 50), some (2, 300 + c), some (0, x), some (0, t0), some (0, l), some (0, t)], [(0, t + 64), (2, 100 + ρ 14 c)])) rfl ?_
          refine sw_pI (pn := 61) (i := 7) rfl rfl rfl rfl rfl (by omega) (hR.br (ρ 14 c) (by omega) (by omega)).1 ?_
          refine sw_p 1 (f' := (62, [some (2, 50), some (2, 300 + c), some (0, x), some (0, t0), some (0, l), some (0, t)], [(0, 1)])) rfl ?_
          exact sw_retZ rfl rfl rfl (by omega) ⟨_, rfl, rfl, by rw [show gf_r ρ c x l g (n + 1) t = some (x, t + 64, q1) from (if_pos ⟨by omega, h2⟩).trans (by rw [hfr])]; exact ⟨rfl, ν2, fr_tr hf1 hf2 (by decide) (by decide), hv, rfl⟩⟩
      · have hq := st_fr_0 hb1 (x := t) (e := t + 64) (mo_to_1 64 t h2)
        refine sw_p 2 (f' := (7, [some (2, 50), some (2, 300 + c), some (0, x), some (0, t0), some (0, l), some (0, t)], [(0, l), (0, t)])) rfl ?_
        refine sw_ge2 (pt := 69) (pn := 10) rfl rfl rfl (by omega) (by omega) (fun h => absurd h (by omega)) (fun m1 => ?_)
        refine sw_p 1 (f' := (11, [some (2, 50), some (2, 300 + c), some (0, x), some (0, t0), some (0, l), some (0, t)], [(2, 50)])) rfl ?_
        refine sw_hA (pn := 14) (i := 5) (v := 58) rfl rfl rfl rfl rfl hR.sh.1 hR.sh.2.2.2.2.2.2.1.1 (by omega) ?_
        refine sw_p 4 (f' := (21, [some (2, 50), some (2, 300 + c), some (0, x), some (0, t0), some (0, l), some (0, t)], [(0, t + 64), (0, t), (2, 58)])) rfl ?_
        refine sw_cv1 (pn := 24) (q0 := mj_PT_growsFrom) (q := mj_St_isFree) (p := 58) (as2 := [(0, t), (0, t + 64)]) (L2 := [some (2, 58), some (0, t), some (0, t + 64), none]) (rest := []) (v := some (0, 0)) (s1 := s) (ν1 := ν1) rfl rfl rfl rfl rfl rfl rfl rfl rfl hR.sh.2.2.2.2.2.2.1.2.1.2 (st_free_0 hR.sh.2.2.2.2.2.2.1.2 (st_I_B hb1) (by omega) (by omega) hq) ?_
        show sw_w E _ 50 (24, [some (2, 50), some (2, 300 + c), some (0, x), some (0, t0), some (0, l), some (0, t)], [(0, 0)]) s ν1 _
        refine sw_eq1 (pt := 69) (pn := 27) rfl rfl rfl (by omega) (fun _ => ?_) (fun h => absurd h (by decide))
        refine sw_p 1 (f' := (70, [some (2, 50), some (2, 300 + c), some (0, x), some (0, t0), some (0, l), some (0, t)], [(0, 0)])) rfl ?_
        exact sw_retZ rfl rfl rfl (by omega) ⟨_, rfl, rfl, by rw [show gf_r ρ c x l g (n + 1) t = none from if_neg (fun h => h2 h.2)]; exact ⟨rfl, hf1⟩⟩
    · skip
      refine sw_p 2 (f' := (7, [some (2, 50), some (2, 300 + c), some (0, x), some (0, t0), some (0, l), some (0, t)], [(0, l), (0, t)])) rfl ?_
      refine sw_ge2 (pt := 69) (pn := 10) rfl rfl rfl (by omega) (by omega) (fun m1 => ?_) (fun h => absurd h (by omega))
      refine sw_p 1 (f' := (70, [some (2, 50), some (2, 300 + c), some (0, x), some (0, t0), some (0, l), some (0, t)], [(0, 0)])) rfl ?_
      exact sw_retZ rfl rfl rfl (by omega) ⟨_, rfl, rfl, by rw [show gf_r ρ c x l g (n + 1) t = none from if_neg (fun h => h1 (by omega))]; exact ⟨rfl, hf1⟩⟩
theorem cl_gf (hI : iv_A ρ f) (hR0 : pt_R s ν ρ f) (hc : 0 ≤ c ∧ c < ρ 0 12) (hJ : st_I ν 55 56 57 (oc_m ρ (ρ 14 c) (100 + c))) (hn9 : ν 55 2 ≤ 9) (hJb : st_I ν 58 59 60 g) (hx : 0 ≤ x) (hl : 0 ≤ l ∧ l ≤ 4096 ∧ l % 64 = 0) (ht : x ≤ t ∧ t ≤ 4096 ∧ t % 64 = 0) (hg : ∀ a, (oc_m ρ (ρ 14 c) (100 + c)) a = 1 → x ≤ a ∧ a < t) : sw_w E (d + 2) 50 (0, [some (2, 50), some (2, 300 + c), some (0, x), some (0, t), some (0, l), none], []) s ν (sw_vr (cg_P [61, 62, 63, 64] ν ρ c (gf_r ρ c x l g 64 t)) s) := by
  refine sw_p 2 (f' := (3, [some (2, 50), some (2, 300 + c), some (0, x), some (0, t), some (0, l), some (0, t)], [])) rfl ?_
  exact cl_gf_l hI hR0 hc hJ hn9 hJb hx hl 64 t ν fr_rfl ht.1 (by omega) ht.2.2 (by omega) hg
theorem cl_gs_l (hI : iv_A ρ f) (hR0 : pt_R s ν ρ f) (hc : 0 ≤ c ∧ c < ρ 0 12) (hJ : st_I ν 55 56 57 (oc_m ρ (ρ 14 c) (100 + c))) (hn9 : ν 55 2 ≤ 9) (hJb : st_I ν 58 59 60 g) (hu : 0 ≤ u ∧ u < ρ 0 1) (hl : ρ 6 u = l) (hl2 : 0 ≤ l ∧ l ≤ 4096 ∧ l % 64 = 0) (hg : ∀ a, (oc_m ρ (ρ 14 c) (100 + c)) a = 0) : ∀ (n : Nat) (t : Int) (ν1 : mm_T), fr_r [61, 62, 63, 64] ν ν1 → 0 ≤ t → t ≤ 4096 + 64 → t % 64 = 0 → l ≤ t + 64 * n → sw_w E (d + 3) 49 (56, [some (2, 50), some (2, 300 + c), some (2, 100 + ρ 14 c), some (2, 100 + u), some (0, t)], []) s ν1 (sw_vr (cg_P [61, 62, 63, 64] ν ρ c (gs_r ρ c l g n t)) s) := by
  intro n
  induction n with
  | zero =>
    intro t ν1 hf1 ht ht2 ht3 hn
    have h8 := hI.1.1
    have hR := pt_R_fr hI.1 (cj_6 hf1) (fun _ _ => rfl) hR0
    refine sw_p 2 (f' := (59, [some (2, 50), some (2, 300 + c), some (2, 100 + ρ 14 c), some (2, 100 + u), some (0, t)], [(2, 100 + u), (0, t)])) rfl ?_
    refine sw_gI (pn := 62) (i := 7) rfl rfl rfl rfl rfl (by omega) (hR.br u (by omega) (by omega)).1 ?_
    rw [show ν1 (100 + u) 7 = l from ((hR.bn u (by omega) (by omega)).2.2).trans hl]
    refine sw_ge2 (pt := 89) (pn := 65) rfl rfl rfl (by omega) (by omega) (fun m1 => ?_) (fun h => absurd h (by omega))
    refine sw_p 1 (f' := (90, [some (2, 50), some (2, 300 + c), some (2, 100 + ρ 14 c), some (2, 100 + u), some (0, t)], [(0, 0)])) rfl ?_
    exact sw_retZ rfl rfl rfl (by omega) ⟨_, rfl, rfl, by rw [show gs_r ρ c l g 0 t = none from rfl]; exact ⟨rfl, hf1⟩⟩
  | succ n ih =>
    intro t ν1 hf1 ht ht2 ht3 hn
    have h8 := hI.1.1
    have h12 := hI.1.2.2.1
    have hcd := hI.1.cd c hc.1 (by omega)
    have hK := hI.2.2.2.2.2.1 c hc.1 hc.2
    have hR := pt_R_fr hI.1 (cj_6 hf1) (fun _ _ => rfl) hR0
    have hJ1 : st_I ν1 55 56 57 (oc_m ρ (ρ 14 c) (100 + c)) := by unfold st_I; rw [hf1 55 (by decide), hf1 56 (by decide), hf1 57 (by decide)]; exact hJ
    have hb1 : st_I ν1 58 59 60 g := by unfold st_I; rw [hf1 58 (by decide), hf1 59 (by decide), hf1 60 (by decide)]; exact hJb
    have h55 : ν1 55 2 ≤ 9 := by rw [hf1 55 (by decide)]; exact hn9
    by_cases h1 : t < l
    · skip
      refine sw_p 2 (f' := (59, [some (2, 50), some (2, 300 + c), some (2, 100 + ρ 14 c), some (2, 100 + u), some (0, t)], [(2, 100 + u), (0, t)])) rfl ?_
      refine sw_gI (pn := 62) (i := 7) rfl rfl rfl rfl rfl (by omega) (hR.br u (by omega) (by omega)).1 ?_
      rw [show ν1 (100 + u) 7 = l from ((hR.bn u (by omega) (by omega)).2.2).trans hl]
      refine sw_ge2 (pt := 89) (pn := 65) rfl rfl rfl (by omega) (by omega) (fun h => absurd h (by omega)) (fun m1 => ?_)
      refine sw_p 5 (f' := (72, [some (2, 50), some (2, 300 + c), some (2, 100 + ρ 14 c), some (2, 100 + u), some (0, t)], [(2, 100 + u), (0, t), (0, t), (2, 300 + c), (2, 50)])) rfl ?_
      refine sw_gI (pn := 75) (i := 7) rfl rfl rfl rfl rfl (by omega) (hR.br u (by omega) (by omega)).1 ?_
      rw [show ν1 (100 + u) 7 = l from ((hR.bn u (by omega) (by omega)).2.2).trans hl]
      refine sw_cv2 (pn := 78) (q0 := mj_PT_grows) (q := mj_PT_growsFrom) (p := 50) (as2 := [(2, 300 + c), (0, t), (0, t), (0, l)]) (L2 := [some (2, 50), some (2, 300 + c), some (0, t), some (0, t), some (0, l), none]) (rest := []) (s1 := s) rfl rfl rfl rfl rfl rfl rfl rfl rfl hR.sh.1 (cl_gf (d := d) (g := g) hI hR hc hJ1 h55 hb1 (by omega) hl2 (by omega) (fun a ha => by have := hg a; omega)) (fun v ν2 hv => ?_)
      have hv := cg_fr hf1 (fun _ h => h) hv
      rcases hfr : gf_r ρ c t l g 64 t with _ | ⟨x1, e1, q1⟩
      · skip
        rw [hfr] at hv
        obtain ⟨rfl, hf2⟩ := hv
        show sw_w E _ 49 (78, [some (2, 50), some (2, 300 + c), some (2, 100 + ρ 14 c), some (2, 100 + u), some (0, t)], [(0, 0)]) s ν2 _
        refine sw_eq1 (pt := 83) (pn := 81) rfl rfl rfl (by omega) (fun _ => ?_) (fun h => absurd h (by decide))
        refine sw_p 2 (f' := (56, [some (2, 50), some (2, 300 + c), some (2, 100 + ρ 14 c), some (2, 100 + u), some (0, t + 64)], [])) rfl ?_
        rw [show gs_r ρ c l g (n + 1) t = gs_r ρ c l g n (t + 64) from (if_pos h1).trans (by rw [hfr])]
        exact ih (t + 64) ν2 hf2 (by omega) (by omega) (by omega) (by omega)
      · skip
        rw [hfr] at hv
        have hv0 := hv
        obtain ⟨rfl, _⟩ := hv
        show sw_w E _ 49 (78, [some (2, 50), some (2, 300 + c), some (2, 100 + ρ 14 c), some (2, 100 + u), some (0, t)], [(0, 1)]) s ν2 _
        refine sw_eq1 (pt := 83) (pn := 81) rfl rfl rfl (by omega) (fun h => absurd h (by decide)) (fun _ => ?_)
        refine sw_p 1 (f' := (82, [some (2, 50), some (2, 300 + c), some (2, 100 + ρ 14 c), some (2, 100 + u), some (0, t)], [(0, 1)])) rfl ?_
        exact sw_retZ rfl rfl rfl (by omega) ⟨_, rfl, rfl, by rw [show gs_r ρ c l g (n + 1) t = some (x1, e1, q1) from (if_pos h1).trans (by rw [hfr])]; exact hv0⟩
    · skip
      refine sw_p 2 (f' := (59, [some (2, 50), some (2, 300 + c), some (2, 100 + ρ 14 c), some (2, 100 + u), some (0, t)], [(2, 100 + u), (0, t)])) rfl ?_
      refine sw_gI (pn := 62) (i := 7) rfl rfl rfl rfl rfl (by omega) (hR.br u (by omega) (by omega)).1 ?_
      rw [show ν1 (100 + u) 7 = l from ((hR.bn u (by omega) (by omega)).2.2).trans hl]
      refine sw_ge2 (pt := 89) (pn := 65) rfl rfl rfl (by omega) (by omega) (fun m1 => ?_) (fun h => absurd h (by omega))
      refine sw_p 1 (f' := (90, [some (2, 50), some (2, 300 + c), some (2, 100 + ρ 14 c), some (2, 100 + u), some (0, t)], [(0, 0)])) rfl ?_
      exact sw_retZ rfl rfl rfl (by omega) ⟨_, rfl, rfl, by rw [show gs_r ρ c l g (n + 1) t = none from if_neg h1]; exact ⟨rfl, hf1⟩⟩
theorem cl_grows (hI : iv_A ρ f) (hR : pt_R s ν ρ f) (hc : 0 ≤ c ∧ c < ρ 0 12) (hD : iv_D ρ) (hW : iv_W ρ) (hO : iv_O ρ) (hrg : iv_R ρ) (hJ : st_I ν 55 56 57 (oc_m ρ (ρ 14 c) (100 + c))) (hn9 : ν 55 2 ≤ 9) (hg : ∀ a, (oc_m ρ (ρ 14 c) (100 + c)) a = 1 → ρ 5 (ρ 14 c) ≤ a ∧ a < ρ 6 (ρ 14 c)) (hA : ∀ i, 0 ≤ i → i < 32 → i / 4 ≠ ρ 14 c → 100 ≤ ρ 2 i → 1 ≤ ρ 15 (ρ 2 i - 100)) (hin : 0 ≤ ρ 3 (ρ 14 c) → ∃ j, 0 ≤ j ∧ j < 4 ∧ ρ 2 (4 * ρ 3 (ρ 14 c) + j) = ρ 14 c) : sw_w E (d + 3) 49 (0, [some (2, 50), some (2, 300 + c), none, none, none], []) s ν (sw_vr (cg_P [58, 59, 60, 61, 62, 63, 64] ν ρ c (gr_r ρ c)) s) := by
  have h8 := hI.1.1
  have h12 := hI.1.2.2.1
  have hcd := hI.1.cd c hc.1 (by omega)
  have hK := hI.2.2.2.2.2.1 c hc.1 hc.2
  have hov := hI.1.ov (ρ 14 c) (by omega) (by omega)
  have htr := hI.2.2.1.2.1 (ρ 14 c)
  have hob := hI.2.1.2.1 (ρ 14 c) (by omega) (by omega)
  have hoo := hO.2 (ρ 14 c) (by omega) (by omega)
  by_cases hb0 : ρ 14 c = 0
  · have h30 : ρ 3 (ρ 14 c) < 0 := by omega
    refine sw_p 1 (f' := (1, [some (2, 50), some (2, 300 + c), none, none, none], [(2, 300 + c)])) rfl ?_
    refine sw_hA (pn := 4) (i := 0) (v := 100 + ρ 14 c) rfl rfl rfl rfl rfl (hR.ca c (by omega) (by omega)).1 (hR.ca c (by omega) (by omega)).2.1 (by omega) ?_
    refine sw_p 2 (f' := (6, [some (2, 50), some (2, 300 + c), some (2, 100 + ρ 14 c), none, none], [(2, 100 + ρ 14 c)])) rfl ?_
    refine sw_hN (pn := 9) (i := 1) rfl rfl rfl rfl rfl (hR.br (ρ 14 c) (by omega) (by omega)).1 (by rw [(((hR.br (ρ 14 c) (by omega) (by omega)).2.2.1).trans (if_pos (by omega)))]; omega) ?_
    refine sw_p 4 (f' := (15, [some (2, 50), some (2, 300 + c), some (2, 100 + ρ 14 c), some (3, 0), none], [(0, 0)])) rfl ?_
    exact sw_retZ rfl rfl rfl (by omega) ⟨_, rfl, rfl, by rw [show gr_r ρ c = none from if_pos h30]; exact ⟨rfl, fr_rfl⟩⟩
  · have htr := htr (by omega) (by omega)
    obtain ⟨u, hu⟩ : ∃ u, u = ρ 3 (ρ 14 c) := ⟨_, rfl⟩
    obtain ⟨j, hj0, hj1, hjw⟩ := hin (by omega)
    rw [← hu] at hjw
    have hub := hI.2.1.2.1 u (by omega) (by omega)
    have huo := hO.2 u (by omega) (by omega)
    have hlb := iv_lob (i := 4 * u + j) (ρ := ρ) (by rw [hjw]; omega)
    have hwi := hW (4 * u + j) 0 (by omega) (by omega) (by omega) (by omega)
    rw [hlb.1, hlb.2, hjw, show (4 * u + j) / 4 = u by omega] at hwi
    have hga := st_ga_B (E := E) (d := d) (p := 58) (q := 59) (r := 60) (b := u) (w := ρ 14 c) hI hR hR.sh.2.2.2.2.2.2.1.2 (by omega) (by omega) hD hO hrg (by omega) (fun i h1 h2 h3 => by
      have hs := hI.1.2.2.2.2.2.2.2.1 i (by omega) (by omega)
      have hk := hI.2.2.2.2.2.2 i (by omega) (by omega) h3
      have ha := hA i (by omega) (by omega) (by omega) h3
      have hc2 := hI.1.cd (ρ 2 i - 100) (by omega) (by omega)
      constructor
      · intro _; omega
      · intro _; omega) ⟨hj0, hj1⟩ hjw (by omega)
    by_cases hcl : ρ 5 (ρ 14 c) = ρ 6 (ρ 14 c)
    · skip
      refine sw_p 1 (f' := (1, [some (2, 50), some (2, 300 + c), none, none, none], [(2, 300 + c)])) rfl ?_
      refine sw_hA (pn := 4) (i := 0) (v := 100 + ρ 14 c) rfl rfl rfl rfl rfl (hR.ca c (by omega) (by omega)).1 (hR.ca c (by omega) (by omega)).2.1 (by omega) ?_
      refine sw_p 2 (f' := (6, [some (2, 50), some (2, 300 + c), some (2, 100 + ρ 14 c), none, none], [(2, 100 + ρ 14 c)])) rfl ?_
      refine sw_hA (pn := 9) (i := 1) (v := 100 + u) rfl rfl rfl rfl rfl (hR.br (ρ 14 c) (by omega) (by omega)).1 (by rw [((hR.br (ρ 14 c) (by omega) (by omega)).2.2.1).trans (if_neg (by omega)), hu]) (by omega) ?_
      refine sw_p 4 (f' := (17, [some (2, 50), some (2, 300 + c), some (2, 100 + ρ 14 c), some (2, 100 + u), none], [(2, 50)])) rfl ?_
      refine sw_hA (pn := 20) (i := 5) (v := 58) rfl rfl rfl rfl rfl hR.sh.1 hR.sh.2.2.2.2.2.2.1.1 (by omega) ?_
      refine sw_p 2 (f' := (22, [some (2, 50), some (2, 300 + c), some (2, 100 + ρ 14 c), some (2, 100 + u), none], [(2, 100 + ρ 14 c), (2, 100 + u), (2, 58)])) rfl ?_
      refine sw_cv2 (pn := 25) (q0 := mj_PT_grows) (q := mj_St_gather) (p := 58) (as2 := [(2, 100 + u), (2, 100 + ρ 14 c)]) (L2 := [some (2, 58), some (2, 100 + u), some (2, 100 + ρ 14 c), none, none, none]) (rest := []) (s1 := s) rfl rfl rfl rfl rfl rfl rfl rfl rfl hR.sh.2.2.2.2.2.2.1.2.1.2 hga (fun v ν1 hv => ?_)
      obtain ⟨rfl, hf1, hJb, _⟩ := hv
      have hR := st_R (p := 58) (q := 59) (r := 60) (by omega) hI hf1 hR
      have hJ1 : st_I ν1 55 56 57 (oc_m ρ (ρ 14 c) (100 + c)) := by unfold st_I; rw [hf1 55 (by decide), hf1 56 (by decide), hf1 57 (by decide)]; exact hJ
      have h55 : ν1 55 2 ≤ 9 := by rw [hf1 55 (by decide)]; exact hn9
      have hf1 : fr_r [58, 59, 60, 61, 62, 63, 64] ν ν1 := fr_w hf1 (by decide)
      show sw_w E _ 49 (25, [some (2, 50), some (2, 300 + c), some (2, 100 + ρ 14 c), some (2, 100 + u), none], []) s ν1 _
      refine sw_p 1 (f' := (26, [some (2, 50), some (2, 300 + c), some (2, 100 + ρ 14 c), some (2, 100 + u), none], [(2, 100 + ρ 14 c)])) rfl ?_
      refine sw_cv1 (pn := 29) (q0 := mj_PT_grows) (q := mj_Br_isClosed) (p := 100 + ρ 14 c) (as2 := []) (L2 := [some (2, 100 + ρ 14 c)]) (rest := []) (v := some (0, 1)) (s1 := s) (ν1 := ν1) rfl rfl rfl rfl rfl rfl rfl rfl rfl (hR.br (ρ 14 c) (by omega) (by omega)).1 (by have h := pt_isClosed (E := E) (d := d + 2) (s := s) (ν := ν1) (p := 100 + ρ 14 c) (by omega) (hR.br (ρ 14 c) (by omega) (by omega)).1 (by rw [(hR.bn (ρ 14 c) (by omega) (by omega)).2.1]; omega) (by rw [(hR.bn (ρ 14 c) (by omega) (by omega)).2.2]; omega); rw [(hR.bn (ρ 14 c) (by omega) (by omega)).2.1, (hR.bn (ρ 14 c) (by omega) (by omega)).2.2, if_pos (by omega)] at h; exact h) ?_
      show sw_w E _ 49 (29, [some (2, 50), some (2, 300 + c), some (2, 100 + ρ 14 c), some (2, 100 + u), none], [(0, 1)]) s ν1 _
      refine sw_ne1 (pt := 50) (pn := 32) rfl rfl rfl (by omega) (fun _ => ?_) (fun h => absurd h (by decide))
      refine sw_p 1 (f' := (51, [some (2, 50), some (2, 300 + c), some (2, 100 + ρ 14 c), some (2, 100 + u), none], [(2, 100 + u)])) rfl ?_
      refine sw_gI (pn := 54) (i := 6) rfl rfl rfl rfl rfl (by omega) (hR.br u (by omega) (by omega)).1 ?_
      rw [show ν1 (100 + u) 6 = ρ 5 u from (hR.bn u (by omega) (by omega)).2.1]
      refine sw_p 1 (f' := (56, [some (2, 50), some (2, 300 + c), some (2, 100 + ρ 14 c), some (2, 100 + u), some (0, ρ 5 u)], [])) rfl ?_
      have hz := cl_gs_l (E := E) (d := d) (g := oc_m ρ u (ρ 14 c)) (u := u) (l := ρ 6 u) hI hR hc hJ1 h55 hJb (by omega) rfl (by omega) (fun a => by have h01 := (hJ.2.2.2.1 a); have := hg a; omega) 64 (ρ 5 u) ν1 fr_rfl (by omega) (by omega) (by omega) (by omega)
      rw [show gs_r ρ c (ρ 6 u) (oc_m ρ u (ρ 14 c)) 64 (ρ 5 u) = gr_r ρ c by unfold gr_r; rw [← hu, if_neg (by omega), if_neg (by omega)]] at hz
      exact sw_mono hz (fun o s2 ν2 ⟨v, e1, e2, e3⟩ => ⟨v, e1, e2, cg_fr hf1 (by decide) e3⟩)
    · skip
      refine sw_p 1 (f' := (1, [some (2, 50), some (2, 300 + c), none, none, none], [(2, 300 + c)])) rfl ?_
      refine sw_hA (pn := 4) (i := 0) (v := 100 + ρ 14 c) rfl rfl rfl rfl rfl (hR.ca c (by omega) (by omega)).1 (hR.ca c (by omega) (by omega)).2.1 (by omega) ?_
      refine sw_p 2 (f' := (6, [some (2, 50), some (2, 300 + c), some (2, 100 + ρ 14 c), none, none], [(2, 100 + ρ 14 c)])) rfl ?_
      refine sw_hA (pn := 9) (i := 1) (v := 100 + u) rfl rfl rfl rfl rfl (hR.br (ρ 14 c) (by omega) (by omega)).1 (by rw [((hR.br (ρ 14 c) (by omega) (by omega)).2.2.1).trans (if_neg (by omega)), hu]) (by omega) ?_
      refine sw_p 4 (f' := (17, [some (2, 50), some (2, 300 + c), some (2, 100 + ρ 14 c), some (2, 100 + u), none], [(2, 50)])) rfl ?_
      refine sw_hA (pn := 20) (i := 5) (v := 58) rfl rfl rfl rfl rfl hR.sh.1 hR.sh.2.2.2.2.2.2.1.1 (by omega) ?_
      refine sw_p 2 (f' := (22, [some (2, 50), some (2, 300 + c), some (2, 100 + ρ 14 c), some (2, 100 + u), none], [(2, 100 + ρ 14 c), (2, 100 + u), (2, 58)])) rfl ?_
      refine sw_cv2 (pn := 25) (q0 := mj_PT_grows) (q := mj_St_gather) (p := 58) (as2 := [(2, 100 + u), (2, 100 + ρ 14 c)]) (L2 := [some (2, 58), some (2, 100 + u), some (2, 100 + ρ 14 c), none, none, none]) (rest := []) (s1 := s) rfl rfl rfl rfl rfl rfl rfl rfl rfl hR.sh.2.2.2.2.2.2.1.2.1.2 hga (fun v ν1 hv => ?_)
      obtain ⟨rfl, hf1, hJb, _⟩ := hv
      have hR := st_R (p := 58) (q := 59) (r := 60) (by omega) hI hf1 hR
      have hJ1 : st_I ν1 55 56 57 (oc_m ρ (ρ 14 c) (100 + c)) := by unfold st_I; rw [hf1 55 (by decide), hf1 56 (by decide), hf1 57 (by decide)]; exact hJ
      have h55 : ν1 55 2 ≤ 9 := by rw [hf1 55 (by decide)]; exact hn9
      have hf1 : fr_r [58, 59, 60, 61, 62, 63, 64] ν ν1 := fr_w hf1 (by decide)
      show sw_w E _ 49 (25, [some (2, 50), some (2, 300 + c), some (2, 100 + ρ 14 c), some (2, 100 + u), none], []) s ν1 _
      refine sw_p 1 (f' := (26, [some (2, 50), some (2, 300 + c), some (2, 100 + ρ 14 c), some (2, 100 + u), none], [(2, 100 + ρ 14 c)])) rfl ?_
      refine sw_cv1 (pn := 29) (q0 := mj_PT_grows) (q := mj_Br_isClosed) (p := 100 + ρ 14 c) (as2 := []) (L2 := [some (2, 100 + ρ 14 c)]) (rest := []) (v := some (0, 0)) (s1 := s) (ν1 := ν1) rfl rfl rfl rfl rfl rfl rfl rfl rfl (hR.br (ρ 14 c) (by omega) (by omega)).1 (by have h := pt_isClosed (E := E) (d := d + 2) (s := s) (ν := ν1) (p := 100 + ρ 14 c) (by omega) (hR.br (ρ 14 c) (by omega) (by omega)).1 (by rw [(hR.bn (ρ 14 c) (by omega) (by omega)).2.1]; omega) (by rw [(hR.bn (ρ 14 c) (by omega) (by omega)).2.2]; omega); rw [(hR.bn (ρ 14 c) (by omega) (by omega)).2.1, (hR.bn (ρ 14 c) (by omega) (by omega)).2.2, if_neg (by omega)] at h; exact h) ?_
      show sw_w E _ 49 (29, [some (2, 50), some (2, 300 + c), some (2, 100 + ρ 14 c), some (2, 100 + u), none], [(0, 0)]) s ν1 _
      refine sw_ne1 (pt := 50) (pn := 32) rfl rfl rfl (by omega) (fun h => absurd h (by decide)) (fun _ => ?_)
      refine sw_p 3 (f' := (35, [some (2, 50), some (2, 300 + c), some (2, 100 + ρ 14 c), some (2, 100 + u), none], [(2, 100 + ρ 14 c), (2, 300 + c), (2, 50)])) rfl ?_
      refine sw_gI (pn := 38) (i := 6) rfl rfl rfl rfl rfl (by omega) (hR.br (ρ 14 c) (by omega) (by omega)).1 ?_
      rw [show ν1 (100 + ρ 14 c) 6 = ρ 5 (ρ 14 c) from (hR.bn (ρ 14 c) (by omega) (by omega)).2.1]
      refine sw_p 1 (f' := (39, [some (2, 50), some (2, 300 + c), some (2, 100 + ρ 14 c), some (2, 100 + u), none], [(2, 100 + ρ 14 c), (0, ρ 5 (ρ 14 c)), (2, 300 + c), (2, 50)])) rfl ?_
      refine sw_gI (pn := 42) (i := 7) rfl rfl rfl rfl rfl (by omega) (hR.br (ρ 14 c) (by omega) (by omega)).1 ?_
      rw [show ν1 (100 + ρ 14 c) 7 = ρ 6 (ρ 14 c) from (hR.bn (ρ 14 c) (by omega) (by omega)).2.2]
      refine sw_p 1 (f' := (43, [some (2, 50), some (2, 300 + c), some (2, 100 + ρ 14 c), some (2, 100 + u), none], [(2, 100 + u), (0, ρ 6 (ρ 14 c)), (0, ρ 5 (ρ 14 c)), (2, 300 + c), (2, 50)])) rfl ?_
      refine sw_gI (pn := 46) (i := 7) rfl rfl rfl rfl rfl (by omega) (hR.br u (by omega) (by omega)).1 ?_
      rw [show ν1 (100 + u) 7 = ρ 6 u from (hR.bn u (by omega) (by omega)).2.2]
      refine sw_cv2 (pn := 49) (q0 := mj_PT_grows) (q := mj_PT_growsFrom) (p := 50) (as2 := [(2, 300 + c), (0, ρ 5 (ρ 14 c)), (0, ρ 6 (ρ 14 c)), (0, ρ 6 u)]) (L2 := [some (2, 50), some (2, 300 + c), some (0, ρ 5 (ρ 14 c)), some (0, ρ 6 (ρ 14 c)), some (0, ρ 6 u), none]) (rest := []) (s1 := s) rfl rfl rfl rfl rfl rfl rfl rfl rfl hR.sh.1 (cl_gf (d := d) (g := oc_m ρ u (ρ 14 c)) hI hR hc hJ1 h55 hJb (by omega) (by omega) (by omega) hg) (fun v ν2 hv => ?_)
      have hv := cg_fr hf1 (by decide) hv
      rw [show gf_r ρ c (ρ 5 (ρ 14 c)) (ρ 6 u) (oc_m ρ u (ρ 14 c)) 64 (ρ 6 (ρ 14 c)) = gr_r ρ c by unfold gr_r; rw [← hu, if_neg (by omega), if_pos (by omega)]] at hv
      rcases hfr : gr_r ρ c with _ | ⟨x1, e1, q1⟩
      · skip
        rw [hfr] at hv
        have hv0 := hv
        obtain ⟨rfl, _⟩ := hv
        show sw_w E _ 49 (49, [some (2, 50), some (2, 300 + c), some (2, 100 + ρ 14 c), some (2, 100 + u), none], [(0, 0)]) s ν2 _
        exact sw_retZ rfl rfl rfl (by omega) ⟨_, rfl, rfl, hv0⟩
      · skip
        rw [hfr] at hv
        have hv0 := hv
        obtain ⟨rfl, _⟩ := hv
        show sw_w E _ 49 (49, [some (2, 50), some (2, 300 + c), some (2, 100 + ρ 14 c), some (2, 100 + u), none], [(0, 1)]) s ν2 _
        exact sw_retZ rfl rfl rfl (by omega) ⟨_, rfl, rfl, hv0⟩
end PC5
