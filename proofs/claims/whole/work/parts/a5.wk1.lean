/-! work: class, relation, invariant -/
section WK
variable {E : mv_E} {s ν ν1 ρ ρ' ρ1 : mm_T} {f : Int → Int} {d : Nat} {a b c e i k l n o p r t u w x y z : Int} {Q : nm_O → mm_T → mm_T → Prop}
theorem u19_p (h : p ≠ 19) : mm_u ρ 19 c z p = ρ p := by
  funext i
  exact mm_u_ne (by omega)
theorem u19_wt {c2 : Int} : mo_wt (mm_u ρ 19 c z) c2 = mo_wt ρ c2 := mo_wt_c (mm_u_ne (by omega)) (u19_p (by omega)) (u19_p (by omega)) c2
theorem u19_pd {c2 : Int} : mo_pd (mm_u ρ 19 c z) c2 = mo_pd ρ c2 := mo_pd_c (u19_p (by omega)) (u19_p (by omega)) c2
theorem u19_ft : mo_ft (mm_u ρ 19 c z) c = mo_ft ρ c := by
  unfold mo_ft
  rw [mm_u_ne (by omega)]
  have key : ∀ (n : Nat) (r : Int), mo_fi (mm_u ρ 19 c z) c r n = mo_fi ρ c r n := fun n => by
    induction n with
    | zero => intro r; rfl
    | succ n ih => intro r; rw [mo_fi, mo_fi, u19_pd, ih]
  exact key _ _
theorem R_19 (hA : iv_A ρ f) (h8 : iv_8 ρ) (hR : pt_R s ν ρ f) (hc : 0 ≤ c ∧ c < ρ 0 12) : pt_R s (mm_u ν (300 + c) 9 z) (mm_u ρ 19 c z) f := by
  have b12 := hA.1.2.2.1
  have b24 := hA.1.2.2.2.2.2.1
  have w8 := h8 c hc.1 hc.2
  obtain ⟨g1, g2, g3, g4, g5, g6, g7⟩ := hR.cn c hc.1 hc.2
  refine R_q (c := c) hA h8 hR hc (fun p _ _ h3 _ _ => u19_p h3) (fun i _ => mm_u_ne (by omega)) (fun c2 _ _ => Or.inl (mm_u_ne (by omega))) (fun p i h1 h2 h3 h4 => mm_u_ne (by omega)) (fun c2 h => ⟨mm_u_ne (by omega), mm_u_ne (by omega), mm_u_ne (by omega)⟩) (fun c2 h t t0 t1 => by rw [u19_pd]) ⟨?_, ?_, ?_, ?_⟩ (fun i h1 h2 => ?_) (fun t t0 t1 => ?_)
  · rw [mm_u_ne (by omega), mm_u_ne (by omega)]; exact g3
  · rw [mm_u_ne (by omega), u19_wt]; exact g5
  · rw [mm_u_at, mm_u_at]
  · rw [mm_u_ne (by omega), mm_u_ne (by omega)]; exact g7
  · rw [u19_wt] at h2
    rw [mm_u_ne (by omega)]
    unfold rk_t
    rw [u19_pd]
    exact hR.q c i hc.1 hc.2 h1 h2
  · rw [mm_u_ne (by omega), mm_u_ne (by omega)]
    exact (hR.rq t t0 t1).2.2.2
theorem iv_19 (hI : iv_I ρ f) (hc : 0 ≤ c ∧ c < ρ 0 12) (hz : 0 ≤ z ∧ z ≤ 8) (hP : 0 < z → (1 ≤ ρ 15 c ∧ ρ 15 c ≤ 3) ∧ 1 ≤ mo_wt ρ c) : iv_I (mm_u ρ 19 c z) f := by
  refine iv_q hI (mo_Bu_19 hI.1.1 hz) (fun p _ _ h3 _ _ => u19_p h3) (fun i _ => mm_u_ne (by omega)) (fun c2 _ _ => Or.inl (mm_u_ne (by omega))) (fun c2 h1 h2 => ⟨mm_u_ne (by omega), mm_u_ne (by omega)⟩) (fun c2 c0 c1 => ?_) (fun c2 c0 c1 hp => ?_)
  · rw [mm_u_ne (by omega)] at c1
    rw [u19_wt]
    exact hI.2.2.1 c2 c0 c1
  · rw [mm_u_ne (by omega)] at c1
    rw [u19_wt, mm_u_ne (by omega)]
    by_cases hcc : c2 = c
    · rw [hcc, mm_u_at] at hp
      rw [hcc]
      exact hP hp
    · rw [mm_u_ne (by omega)] at hp
      exact hI.2.2.2.2.2.2.2.1 c2 c0 c1 hp
/-- the last piece done -/
theorem wf_20 : mo_wf ρ c t 20 i = if i = c then 31 * ρ 20 c + ρ 27 t else ρ 20 i := by
  unfold mo_wf
  rw [mm_u_ne (by omega)]
  by_cases h : i = c
  · rw [h, mm_u_at, if_pos rfl]
  · rw [mm_u_ne (by omega), if_neg h]
theorem wf_28 : mo_wf ρ c t 28 i = if i = t then Int.bmod (31 * ρ 20 c + ρ 27 t + ρ 26 t) 4294967296 else ρ 28 i := by
  unfold mo_wf
  by_cases h : i = t
  · rw [h, mm_u_at, if_pos rfl]
  · rw [mm_u_ne (by omega), mm_u_ne (by omega), if_neg h]
theorem wf_p (h : p ≠ 20 ∧ p ≠ 28) : mo_wf ρ c t p = ρ p := by
  funext i
  unfold mo_wf
  rw [mm_u_ne (by omega), mm_u_ne (by omega)]
theorem wf_pd {c2 : Int} : mo_pd (mo_wf ρ c t) c2 i = if i = t then 0 else mo_pd ρ c2 i := by
  have hb : Int.bmod (31 * ρ 20 c + ρ 27 t + ρ 26 t) 4294967296 < 1099511627776 := by
    have := Int.bmod_lt (x := 31 * ρ 20 c + ρ 27 t + ρ 26 t) (m := 4294967296) (by omega)
    omega
  unfold mo_pd
  rw [wf_28, wf_p (by omega)]
  by_cases h : i = t
  · rw [if_pos h, if_pos h, if_neg (by omega)]
  · rw [if_neg h, if_neg h]
theorem wf_w (h24 : 0 ≤ ρ 0 24) (ht : t = mo_ft ρ c) (hw : 1 ≤ mo_wt ρ c) : mo_wt (mo_wf ρ c t) c = mo_wt ρ c - 1 := by
  obtain ⟨f0, f1, f2, f3⟩ := fr_t1 (ρ := ρ) (c := c) h24 hw
  rw [← ht] at f0 f1 f2 f3
  unfold mo_wt
  rw [wf_p (by omega)]
  have := sm_1 (g := mo_pd ρ c) (g' := mo_pd (mo_wf ρ c t) c) (j := t) (d := -1) f0 (ρ 0 24).toNat (by omega) (fun i _ _ h => by rw [wf_pd, if_neg h]) (by rw [wf_pd, if_pos rfl, f2]; omega)
  omega
theorem wf_o {c2 : Int} (hcc : c2 ≠ c) (hp : mo_pd ρ c t = 1) : mo_pd (mo_wf ρ c t) c2 i = mo_pd ρ c2 i := by
  rw [wf_pd]
  by_cases h : i = t
  · rw [if_pos h, h]
    unfold mo_pd at hp ⊢
    by_cases h2 : ρ 25 t = c ∧ ρ 28 t = 1099511627776
    · rw [if_neg (fun h3 => hcc (by omega))]
    · rw [if_neg h2] at hp; omega
  · rw [if_neg h]
theorem ffe_ne (h1 : ¬ (p = 300 + c ∧ (i = 8 ∨ i = 10))) (h2 : p ≠ 380 + c) (h3 : ¬ (p = 1000 + t ∧ i = 2)) : ff_e ν ρ c t p i = ν p i := by
  unfold ff_e
  rw [mm_u_ne (by omega), fq_ne (by omega)]
  unfold ff_1
  rw [mm_u_ne (by omega), mm_u_ne (by omega), mm_u_ne (by omega)]
theorem R_wf (hA : iv_A ρ f) (h8 : iv_8 ρ) (hR : pt_R s ν ρ f) (hc : 0 ≤ c ∧ c < ρ 0 12) (hw : 1 ≤ mo_wt ρ c) (ht : t = mo_ft ρ c) : pt_R s (ff_e ν ρ c t) (mo_wf ρ c t) f := by
  have b12 := hA.1.2.2.1
  have b24 := hA.1.2.2.2.2.2.1
  have w8 := h8 c hc.1 hc.2
  obtain ⟨g1, g2, g3, g4, g5, g6, g7⟩ := hR.cn c hc.1 hc.2
  obtain ⟨f0, f1, f2, f3⟩ := ft_q hA hR hc hw
  rw [← ht] at f0 f1 f2 f3
  have hww := wf_w b24.1 ht hw
  refine R_q (c := c) hA h8 hR hc (fun p _ _ _ h4 h5 => wf_p ⟨h4, h5⟩) (fun i _ => by rw [wf_p (by omega)]) (fun c2 _ _ => Or.inl (by rw [wf_p (by omega)])) (fun p i h1 h2 h3 h4 => ffe_ne (by omega) h3 (by omega)) (fun c2 h => ⟨by rw [wf_p (by omega)], by rw [wf_20, if_neg h], by rw [wf_p (by omega)]⟩) (fun c2 h u _ _ => wf_o h f2) ⟨?_, ?_, ?_, ?_⟩ (fun i h1 h2 => ?_) (fun u u0 u1 => ?_)
  · rw [ffe_ne (by omega) (by omega) (by omega), wf_p (by omega)]; exact g3
  · rw [hww]
    unfold ff_e
    rw [mm_u_ne (by omega), fq_ne (by omega)]
    unfold ff_1
    exact mm_u_at
  · rw [ffe_ne (by omega) (by omega) (by omega), wf_p (by omega)]; exact g6
  · rw [wf_20, if_pos rfl]
    unfold ff_e
    rw [mm_u_ne (by omega), fq_ne (by omega)]
    unfold ff_1
    rw [mm_u_ne (by omega), mm_u_ne (by omega), mm_u_at]
  · rw [hww] at h2
    obtain ⟨u, u0, u1, u2, u3, u4⟩ := hR.q c (i + 1) hc.1 hc.2 (by omega) (by omega)
    have hut : t < u := by
      by_cases h : u < t
      · have := rk_lt (ρ := ρ) (c := c) u0 h u3
        have := rk_0 (ρ := ρ) (c := c) (t := u)
        omega
      · by_cases h3 : u = t
        · rw [h3] at u4
          unfold rk_t at f3
          omega
        · omega
    refine ⟨u, u0, u1, ?_, by rw [wf_pd, if_neg (by omega)]; exact u3, ?_⟩
    · unfold ff_e
      rw [mm_u_ne (by omega), fq_at (by omega)]
      unfold ff_1
      rw [mm_u_ne (by omega), mm_u_ne (by omega), mm_u_ne (by omega)]
      exact u2
    · unfold rk_t
      have := sm_1 (g := mo_pd ρ c) (g' := mo_pd (mo_wf ρ c t) c) (j := t) (d := -1) f1.1 u.toNat (by omega) (fun i _ _ h => by rw [wf_pd, if_neg h]) (by rw [wf_pd, if_pos rfl, f2]; omega)
      omega
  · rw [wf_28]
    by_cases h : u = t
    · rw [if_pos h, h]
      unfold ff_e
      rw [mm_u_ne (by omega), fq_ne (by omega)]
      unfold ff_1
      rw [mm_u_ne (by omega), mm_u_at]
    · rw [if_neg h, ffe_ne (by omega) (by omega) (by omega)]
      exact (hR.rq u u0 u1).2.2.2
theorem iv_wf (hI : iv_I ρ f) (hc : 0 ≤ c ∧ c < ρ 0 12) (h19 : ρ 19 c = 0) (hw : 1 ≤ mo_wt ρ c) (ht : t = mo_ft ρ c) : iv_I (mo_wf ρ c t) f := by
  have b24 := hI.1.1.2.2.2.2.2.1
  obtain ⟨f0, f1, f2, f3⟩ := fr_t1 (ρ := ρ) (c := c) b24.1 hw
  rw [← ht] at f0 f1 f2 f3
  have hww := wf_w b24.1 ht hw
  have hwo : ∀ c2, c2 ≠ c → mo_wt (mo_wf ρ c t) c2 = mo_wt ρ c2 := fun c2 h => by
    unfold mo_wt
    rw [wf_p (by omega)]
    exact sm_c _ (fun i _ _ => wf_o h f2)
  refine iv_q hI (mo_B_wf hI.1.1) (fun p _ _ _ h4 h5 => wf_p ⟨h4, h5⟩) (fun i _ => by rw [wf_p (by omega)]) (fun c2 _ _ => Or.inl (by rw [wf_p (by omega)])) (fun c2 h1 h2 => ⟨by rw [wf_p (by omega)], by rw [wf_20, if_neg (by omega)]⟩) (fun c2 c0 c1 => ?_) (fun c2 c0 c1 hp => ?_)
  · rw [wf_p (by omega)] at c1
    by_cases hcc : c2 = c
    · rw [hcc, hww]
      have := hI.2.2.1 c hc.1 hc.2
      omega
    · rw [hwo c2 hcc]
      exact hI.2.2.1 c2 c0 c1
  · rw [wf_p (by omega)] at c1 hp
    by_cases hcc : c2 = c
    · rw [hcc] at hp; omega
    · rw [hwo c2 hcc, wf_p (by omega)]
      exact hI.2.2.2.2.2.2.2.1 c2 c0 c1 hp
theorem ffe_lo (hc : 0 ≤ c) (ht : 0 ≤ t) : lo_r ν (ff_e ν ρ c t) := fun p hp => by
  funext i
  exact ffe_ne (by omega) (by omega) (by omega)
theorem ffe_19 : ff_e ν (mm_u ρ 19 c z) c t = ff_e ν ρ c t := by
  unfold ff_e ff_1
  rw [u19_wt, u19_p (by omega), u19_p (by omega), u19_p (by omega)]
/-- what work makes of the memory, and whether it did a piece -/
def wk_z (ρ : mm_T) (c : Int) : Int := if ρ 19 c = 0 then ρ 26 (mo_ft ρ c) % 8 + 1 else ρ 19 c
def wk_d (ρ : mm_T) (c : Int) : Prop := 0 < ρ 19 c ∨ (ρ 15 c = 1 ∧ 1 ≤ mo_wt ρ c)
def wk_f (ρ : mm_T) (c : Int) : mm_T := if wk_z ρ c = 1 then mo_wf (mm_u ρ 19 c 0) c (mo_ft ρ c) else mm_u ρ 19 c (wk_z ρ c - 1)
theorem wk_b (hI : iv_I ρ f) (hc : 0 ≤ c ∧ c < ρ 0 12) (hd : wk_d ρ c) : (1 ≤ ρ 15 c ∧ ρ 15 c ≤ 3) ∧ 1 ≤ mo_wt ρ c ∧ 1 ≤ wk_z ρ c ∧ wk_z ρ c ≤ 8 := by
  have b12 := hI.1.1.2.2.1
  have b24 := hI.1.1.2.2.2.2.2.1
  have hcd := hI.1.1.cd c hc.1 (by omega)
  have h : (1 ≤ ρ 15 c ∧ ρ 15 c ≤ 3) ∧ 1 ≤ mo_wt ρ c := by
    rcases hd with h | h
    · exact hI.2.2.2.2.2.2.2.1 c hc.1 hc.2 h
    · exact ⟨by omega, h.2⟩
  refine ⟨h.1, h.2, ?_⟩
  obtain ⟨f0, f1, f2, f3⟩ := fr_t1 (ρ := ρ) (c := c) b24.1 h.2
  have htk := hI.1.1.tk (mo_ft ρ c) f0 (by omega)
  unfold wk_z
  split <;> omega
theorem iv_wk (hI : iv_I ρ f) (hc : 0 ≤ c ∧ c < ρ 0 12) (hd : wk_d ρ c) : iv_I (wk_f ρ c) f := by
  have hb := wk_b hI hc hd
  unfold wk_f
  split
  · have h1 := iv_19 (z := 0) hI hc (by omega) (by omega)
    exact iv_wf h1 (by rw [mm_u_ne (by omega)]; exact hc) mm_u_at (by rw [u19_wt]; exact hb.2.1) u19_ft.symm
  · exact iv_19 hI hc (by omega) (fun _ => ⟨hb.1, hb.2.1⟩)
theorem R_wk (hI : iv_I ρ f) (hR : pt_R s ν ρ f) (hc : 0 ≤ c ∧ c < ρ 0 12) (hd : wk_d ρ c) (h1 : wk_z ρ c = 1) : pt_R s (ff_e (mm_u ν (300 + c) 9 0) ρ c (mo_ft ρ c)) (wk_f ρ c) f := by
  have hb := wk_b hI hc hd
  unfold wk_f
  rw [if_pos h1, ← ffe_19 (z := 0)]
  have hI1 := iv_19 (z := 0) hI hc (by omega) (by omega)
  exact R_wf hI1.1 hI1.2.2.1 (R_19 hI.1 hI.2.2.1 hR hc) (by rw [mm_u_ne (by omega)]; exact hc) (by rw [u19_wt]; exact hb.2.1) u19_ft.symm
theorem R_wk2 (hI : iv_I ρ f) (hR : pt_R s ν ρ f) (hc : 0 ≤ c ∧ c < ρ 0 12) (h1 : wk_z ρ c ≠ 1) : pt_R s (mm_u ν (300 + c) 9 (wk_z ρ c - 1)) (wk_f ρ c) f := by
  unfold wk_f
  rw [if_neg h1]
  exact R_19 hI.1 hI.2.2.1 hR hc
theorem uu_same {p i x y : Int} : mm_u (mm_u ν p i x) p i y = mm_u ν p i y := by
  funext q k
  unfold mm_u
  split <;> rfl
theorem cl_dp (hI : iv_I ρ f) (hR : pt_R s ν ρ f) (hc : 0 ≤ c ∧ c < ρ 0 12) (hd : wk_d ρ c) : sw_w E (d + 1) 32 (0, [some (2, 300 + c)], []) s ν (sw_vr (fun v ν' => v = some (0, 1) ∧ pt_R s ν' (wk_f ρ c) f ∧ lo_r ν ν') s) := by
  have b12 := hI.1.1.2.2.1
  have b24 := hI.1.1.2.2.2.2.2.1
  have hcd := hI.1.1.cd c hc.1 (by omega)
  have hb := wk_b hI hc hd
  obtain ⟨f0, f1, f2, f3⟩ := fr_t1 (ρ := ρ) (c := c) b24.1 hb.2.1
  have htk := hI.1.1.tk (mo_ft ρ c) f0 (by omega)
  by_cases h19 : ρ 19 c = 0
  · have hz : wk_z ρ c = ρ 26 (mo_ft ρ c) % 8 + 1 := if_pos h19
    have hs1 : ρ 15 c = 1 := by
      rcases hd with h | h
      · omega
      · exact h.1
    by_cases h8 : ρ 26 (mo_ft ρ c) % 8 = 0
    · refine sw_mono (cl_dp_b2 hI.1 hI.2.2.1 hR hc h19 hs1 hb.2.1 h8) ?_
      intro o s2 ν2 ⟨e1, e2, e3⟩
      rw [uu_same, show ρ 26 (mo_ft ρ c) % 8 + 1 - 1 = 0 by omega] at e3
      refine ⟨_, e1, e2, rfl, ?_, ?_⟩
      · rw [e3]; exact R_wk hI hR hc hd (by omega)
      · rw [e3]; exact lo_tr (lo_u (i := 9) (z := 0) (by omega)) (ffe_lo hc.1 f0)
    · refine sw_mono (cl_dp_b1 hI.1 hI.2.2.1 hR hc h19 hs1 hb.2.1 h8) ?_
      intro o s2 ν2 ⟨e1, e2, e3⟩
      rw [uu_same, ← hz] at e3
      refine ⟨_, e1, e2, rfl, ?_, ?_⟩
      · rw [e3]; exact R_wk2 hI hR hc (by omega)
      · rw [e3]; exact lo_u (by omega)
  · have hz : wk_z ρ c = ρ 19 c := if_neg h19
    by_cases h8 : ρ 19 c = 1
    · refine sw_mono (cl_dp_a2 hI.1 hI.2.2.1 hR hc h8 hb.2.1) ?_
      intro o s2 ν2 ⟨e1, e2, e3⟩
      rw [show ρ 19 c - 1 = 0 by omega] at e3
      refine ⟨_, e1, e2, rfl, ?_, ?_⟩
      · rw [e3]; exact R_wk hI hR hc hd (by omega)
      · rw [e3]; exact lo_tr (lo_u (i := 9) (z := 0) (by omega)) (ffe_lo hc.1 f0)
    · refine sw_mono (cl_dp_a1 hI.1 hI.2.2.1 hR hc (by omega)) ?_
      intro o s2 ν2 ⟨e1, e2, e3⟩
      rw [← hz] at e3
      refine ⟨_, e1, e2, rfl, ?_, ?_⟩
      · rw [e3]; exact R_wk2 hI hR hc (by omega)
      · rw [e3]; exact lo_u (by omega)
theorem cl_dp0 (hI : iv_I ρ f) (hR : pt_R s ν ρ f) (hc : 0 ≤ c ∧ c < ρ 0 12) (hd : ¬ wk_d ρ c) : sw_w E (d + 1) 32 (0, [some (2, 300 + c)], []) s ν (sw_is (some (0, 0)) s ν) := by
  have b12 := hI.1.1.2.2.1
  have hcd := hI.1.1.cd c hc.1 (by omega)
  have w0 := wt_0 (ρ := ρ) (c := c)
  have h19 : ρ 19 c = 0 := by
    have : ¬ 0 < ρ 19 c := fun h => hd (Or.inl h)
    omega
  by_cases h15 : ρ 15 c = 1
  · exact cl_dp_n2 hI.1 hI.2.2.1 hR hc h19 h15 (by
      have : ¬ 1 ≤ mo_wt ρ c := fun h => hd (Or.inr ⟨h15, h⟩)
      omega)
  · exact cl_dp_n1 hI.1 hI.2.2.1 hR hc h19 h15
theorem cl_wk0 (hI : iv_I ρ f) (hR : pt_R s ν ρ f) (hc : 0 ≤ c ∧ c < ρ 0 12) (hd : ¬ wk_d ρ c) : sw_w E (d + 2) 74 (0, [some (2, 50), some (0, c)], []) s ν (sw_is (some (0, 0)) s ν) := by
  have b12 := hI.1.1.2.2.1
  refine sw_p 2 (f' := (2, [some (2, 50), some (0, c)], [(0, c), (2, 50)])) rfl ?_
  refine sw_cv1 (pn := 5) (q0 := mj_PT_work) (q := mj_PT_cardNumbered) (p := 50) (as2 := [(0, c)]) (L2 := [some (2, 50), some (0, c)]) (rest := []) (v := some (2, 300 + c)) (s1 := s) (ν1 := ν) rfl rfl rfl rfl rfl rfl rfl rfl rfl hR.sh.1 (cl_cN1 hI.1 hR hc) ?_
  show sw_w E _ 74 (5, [some (2, 50), some (0, c)], [(2, 300 + c)]) s ν _
  refine sw_cv1 (pn := 8) (q0 := mj_PT_work) (q := mj_Ca_doPiece) (p := 300 + c) (as2 := []) (L2 := [some (2, 300 + c)]) (rest := []) (v := some (0, 0)) (s1 := s) (ν1 := ν) rfl rfl rfl rfl rfl rfl rfl rfl rfl (hR.ca c (by omega) (by omega)).1 (cl_dp0 hI hR hc hd) ?_
  show sw_w E _ 74 (8, [some (2, 50), some (0, c)], [(0, 0)]) s ν _
  exact sw_retZ rfl rfl rfl (by omega) ⟨rfl, rfl, rfl⟩
theorem cl_wk1 (hI : iv_I ρ f) (hR : pt_R s ν ρ f) (hc : 0 ≤ c ∧ c < ρ 0 12) (hd : wk_d ρ c) : sw_w E (d + 2) 74 (0, [some (2, 50), some (0, c)], []) s ν (sw_vr (fun v ν' => v = some (0, 1) ∧ pt_R s ν' (wk_f ρ c) f ∧ lo_r ν ν') s) := by
  have b12 := hI.1.1.2.2.1
  refine sw_p 2 (f' := (2, [some (2, 50), some (0, c)], [(0, c), (2, 50)])) rfl ?_
  refine sw_cv1 (pn := 5) (q0 := mj_PT_work) (q := mj_PT_cardNumbered) (p := 50) (as2 := [(0, c)]) (L2 := [some (2, 50), some (0, c)]) (rest := []) (v := some (2, 300 + c)) (s1 := s) (ν1 := ν) rfl rfl rfl rfl rfl rfl rfl rfl rfl hR.sh.1 (cl_cN1 hI.1 hR hc) ?_
  show sw_w E _ 74 (5, [some (2, 50), some (0, c)], [(2, 300 + c)]) s ν _
  refine sw_cv2 (pn := 8) (q0 := mj_PT_work) (q := mj_Ca_doPiece) (p := 300 + c) (as2 := []) (L2 := [some (2, 300 + c)]) (rest := []) (s1 := s) rfl rfl rfl rfl rfl rfl rfl rfl rfl (hR.ca c (by omega) (by omega)).1 (cl_dp hI hR hc hd) (fun v ν1 hv => ?_)
  obtain ⟨rfl, hv1, hv2⟩ := hv
  show sw_w E _ 74 (8, [some (2, 50), some (0, c)], [(0, 1)]) s ν1 _
  exact sw_retZ rfl rfl rfl (by omega) ⟨_, rfl, rfl, rfl, hv1, hv2⟩
end WK
