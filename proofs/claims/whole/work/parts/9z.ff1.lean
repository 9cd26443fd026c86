/-! the class: finishFirst, doPiece -/
/-- the queue of c moved on by one, up to the i-th place -/
def fq_m (ν : mm_T) (c i : Int) : mm_T := fun p q => if p = 380 + c ∧ 0 ≤ q ∧ q < i then ν (380 + c) (q + 1) else ν p q
section FF1
variable {E : mv_E} {s ν ν0 ρ : mm_T} {f : Int → Int} {d : Nat} {a b c e i k l n o p q r t u w x y z : Int} {Q : nm_O → mm_T → mm_T → Prop}
theorem fq_0 : fq_m ν c 0 = ν := by
  funext p q
  unfold fq_m
  rw [if_neg (by omega)]
theorem fq_ne (h : ¬ (p = 380 + c ∧ 0 ≤ q ∧ q < i)) : fq_m ν c i p q = ν p q := by
  unfold fq_m
  rw [if_neg h]
theorem fq_at (h : 0 ≤ q ∧ q < i) : fq_m ν c i (380 + c) q = ν (380 + c) (q + 1) := by
  unfold fq_m
  rw [if_pos ⟨rfl, h⟩]
theorem fq_su (hi : 0 ≤ i) (h : ν (380 + c) (i + 1) = x) : mm_u (fq_m ν c i) (380 + c) i x = fq_m ν c (i + 1) := by
  funext p q
  by_cases g1 : p = 380 + c ∧ q = i
  · rw [g1.1, g1.2, mm_u_at, fq_at (by omega), h]
  · rw [mm_u_ne g1]
    unfold fq_m
    by_cases g3 : p = 380 + c ∧ 0 ≤ q ∧ q < i
    · rw [if_pos g3, if_pos (by omega)]
    · rw [if_neg g3, if_neg (show ¬ (p = 380 + c ∧ 0 ≤ q ∧ q < i + 1) by omega)]
/-- the fields after the first request of c, the ticket t, is done -/
def ff_1 (ν ρ : mm_T) (c t : Int) : mm_T := mm_u (mm_u (mm_u ν (300 + c) 10 (31 * ρ 20 c + ρ 27 t)) (1000 + t) 2 (Int.bmod (31 * ρ 20 c + ρ 27 t + ρ 26 t) 4294967296)) (300 + c) 8 (mo_wt ρ c - 1)
def ff_e (ν ρ : mm_T) (c t : Int) : mm_T := mm_u (fq_m (ff_1 ν ρ c t) c (mo_wt ρ c - 1)) (380 + c) (mo_wt ρ c - 1) (-1)
theorem ft_q (hA : iv_A ρ f) (hR : pt_R s ν0 ρ f) (hc : 0 ≤ c ∧ c < ρ 0 12) (hw : 1 ≤ mo_wt ρ c) : ν0 (380 + c) 0 = 1000 + mo_ft ρ c ∧ (0 ≤ mo_ft ρ c ∧ mo_ft ρ c < ρ 0 24) ∧ mo_pd ρ c (mo_ft ρ c) = 1 ∧ rk_t ρ c (mo_ft ρ c) = 0 := by
  have b24 := hA.1.2.2.2.2.2.1
  obtain ⟨f0, f1, f2, f3⟩ := fr_t1 (ρ := ρ) (c := c) b24.1 hw
  obtain ⟨t, t0, t1, t2, t3, t4⟩ := hR.q c 0 hc.1 hc.2 (by omega) (by omega)
  have := rk_un t0 f0 t3 f2 (by rw [f3]; exact t4)
  rw [← this]
  exact ⟨t2, ⟨t0, t1⟩, t3, t4⟩
theorem cl_ff_l (hA : iv_A ρ f) (h8 : iv_8 ρ) (hR : pt_R s ν0 ρ f) (hc : 0 ≤ c ∧ c < ρ 0 12) (hq : ∀ i, ν (380 + c) i = ν0 (380 + c) i) (hn : ν (300 + c) 8 = mo_wt ρ c) (hx : ν (300 + c) 10 = ρ 20 c) (hw : 1 ≤ mo_wt ρ c) (ht : t = mo_ft ρ c) : ∀ (n : Nat) (i : Int), 0 ≤ i → i + n = mo_wt ρ c - 1 → sw_w E d 33 (49, [some (2, 300 + c), some (2, 1000 + t), some (0, i)], []) s (fq_m (ff_1 ν ρ c t) c i) (sw_is none s (ff_e ν ρ c t)) := by
  have b12 := hA.1.2.2.1
  have b24 := hA.1.2.2.2.2.2.1
  have w8 := h8 c hc.1 hc.2
  obtain ⟨f0, f1, f2, f3⟩ := ft_q hA hR hc hw
  rw [← ht] at f0 f1 f2 f3
  intro n
  induction n with
  | zero =>
    intro i hi hin
    have hie : i = mo_wt ρ c - 1 := by omega
    rw [hie]
    refine sw_p 2 (f' := (51, [some (2, 300 + c), some (2, 1000 + t), some (0, mo_wt ρ c - 1)], [(2, 300 + c), (0, mo_wt ρ c - 1)])) rfl ?_
    refine sw_gI (pn := 54) (i := 8) rfl rfl rfl rfl rfl (by omega) (hR.ca c (by omega) (by omega)).1 ?_
    rw [show (fq_m (ff_1 ν ρ c t) c (mo_wt ρ c - 1)) (300 + c) 8 = mo_wt ρ c - 1 from ((fq_ne (by omega)).trans mm_u_at)]
    refine sw_ge2 (pt := 77) (pn := 57) rfl rfl rfl (by omega) (by omega) (fun m1 => ?_) (fun h => absurd h (by omega))
    refine sw_p 1 (f' := (78, [some (2, 300 + c), some (2, 1000 + t), some (0, mo_wt ρ c - 1)], [(2, 300 + c)])) rfl ?_
    refine sw_hA (pn := 81) (i := 4) (v := 380 + c) rfl rfl rfl rfl rfl (hR.ca c (by omega) (by omega)).1 (hR.ca c (by omega) (by omega)).2.2.2.2.2.1 (by omega) ?_
    refine sw_p 1 (f' := (82, [some (2, 300 + c), some (2, 1000 + t), some (0, mo_wt ρ c - 1)], [(2, 300 + c), (2, 380 + c)])) rfl ?_
    refine sw_gI (pn := 85) (i := 8) rfl rfl rfl rfl rfl (by omega) (hR.ca c (by omega) (by omega)).1 ?_
    rw [show (fq_m (ff_1 ν ρ c t) c (mo_wt ρ c - 1)) (300 + c) 8 = mo_wt ρ c - 1 from ((fq_ne (by omega)).trans mm_u_at)]
    refine sw_p 1 (f' := (86, [some (2, 300 + c), some (2, 1000 + t), some (0, mo_wt ρ c - 1)], [(3, 0), (0, mo_wt ρ c - 1), (2, 380 + c)])) rfl ?_
    refine sw_aasN (pn := 87) (t := 6) (l := 8) rfl rfl rfl (by decide) (by omega) (hR.ca c (by omega) (by omega)).2.2.2.2.2.2.1 (hR.ca c (by omega) (by omega)).2.2.2.2.2.2.2 (by omega) (by omega) ?_
    exact sw_retV rfl rfl rfl ⟨rfl, rfl, rfl⟩
  | succ n ih =>
    intro i hi hin
    obtain ⟨u, u0, u1, u2, u3, u4⟩ := hR.q c (i + 1) hc.1 hc.2 (by omega) (by omega)
    refine sw_p 2 (f' := (51, [some (2, 300 + c), some (2, 1000 + t), some (0, i)], [(2, 300 + c), (0, i)])) rfl ?_
    refine sw_gI (pn := 54) (i := 8) rfl rfl rfl rfl rfl (by omega) (hR.ca c (by omega) (by omega)).1 ?_
    rw [show (fq_m (ff_1 ν ρ c t) c i) (300 + c) 8 = mo_wt ρ c - 1 from ((fq_ne (by omega)).trans mm_u_at)]
    refine sw_ge2 (pt := 77) (pn := 57) rfl rfl rfl (by omega) (by omega) (fun h => absurd h (by omega)) (fun m1 => ?_)
    refine sw_p 1 (f' := (58, [some (2, 300 + c), some (2, 1000 + t), some (0, i)], [(2, 300 + c)])) rfl ?_
    refine sw_hA (pn := 61) (i := 4) (v := 380 + c) rfl rfl rfl rfl rfl (hR.ca c (by omega) (by omega)).1 (hR.ca c (by omega) (by omega)).2.2.2.2.2.1 (by omega) ?_
    refine sw_p 2 (f' := (63, [some (2, 300 + c), some (2, 1000 + t), some (0, i)], [(2, 300 + c), (0, i), (2, 380 + c)])) rfl ?_
    refine sw_hA (pn := 66) (i := 4) (v := 380 + c) rfl rfl rfl rfl rfl (hR.ca c (by omega) (by omega)).1 (hR.ca c (by omega) (by omega)).2.2.2.2.2.1 (by omega) ?_
    refine sw_p 3 (f' := (69, [some (2, 300 + c), some (2, 1000 + t), some (0, i)], [(0, i + 1), (2, 380 + c), (0, i), (2, 380 + c)])) rfl ?_
    refine sw_aal (pn := 70) (t := 6) (l := 8) rfl rfl rfl (by decide) (by omega) (hR.ca c (by omega) (by omega)).2.2.2.2.2.2.1 (hR.ca c (by omega) (by omega)).2.2.2.2.2.2.2 (by omega) (by omega) (fun _ => ?_) (fun h => absurd h (by rw [show (fq_m (ff_1 ν ρ c t) c i) (380 + c) (i + 1) = 1000 + u from ((fq_ne (by omega)).trans ((mm_u_ne (by omega)).trans ((mm_u_ne (by omega)).trans ((mm_u_ne (by omega)).trans ((hq (i + 1)).trans u2)))))]; omega))
    rw [show (fq_m (ff_1 ν ρ c t) c i) (380 + c) (i + 1) = 1000 + u from ((fq_ne (by omega)).trans ((mm_u_ne (by omega)).trans ((mm_u_ne (by omega)).trans ((mm_u_ne (by omega)).trans ((hq (i + 1)).trans u2)))))]
    refine sw_aas (pn := 71) (t := 6) (c := 4) (l := 8) rfl rfl rfl (by decide) (by decide) (hR.rq u (by omega) (by omega)).1 (by omega) (hR.ca c (by omega) (by omega)).2.2.2.2.2.2.1 (hR.ca c (by omega) (by omega)).2.2.2.2.2.2.2 (by omega) (by omega) ?_
    refine sw_p 2 (f' := (49, [some (2, 300 + c), some (2, 1000 + t), some (0, i + 1)], [])) rfl ?_
    rw [fq_su hi (show ff_1 ν ρ c t (380 + c) (i + 1) = 1000 + u from (mm_u_ne (by omega)).trans ((mm_u_ne (by omega)).trans ((mm_u_ne (by omega)).trans ((hq (i + 1)).trans u2))))]
    exact ih (i + 1) (by omega) (by omega)
theorem cl_ff (hA : iv_A ρ f) (h8 : iv_8 ρ) (hR : pt_R s ν0 ρ f) (hc : 0 ≤ c ∧ c < ρ 0 12) (hq : ∀ i, ν (380 + c) i = ν0 (380 + c) i) (hn : ν (300 + c) 8 = mo_wt ρ c) (hx : ν (300 + c) 10 = ρ 20 c) (hw : 1 ≤ mo_wt ρ c) (ht : t = mo_ft ρ c) : sw_w E d 33 (0, [some (2, 300 + c), none, none], []) s ν (sw_is none s (ff_e ν ρ c t)) := by
  have b12 := hA.1.2.2.1
  have b24 := hA.1.2.2.2.2.2.1
  have w8 := h8 c hc.1 hc.2
  obtain ⟨f0, f1, f2, f3⟩ := ft_q hA hR hc hw
  rw [← ht] at f0 f1 f2 f3
  refine sw_p 1 (f' := (1, [some (2, 300 + c), none, none], [(2, 300 + c)])) rfl ?_
  refine sw_hA (pn := 4) (i := 4) (v := 380 + c) rfl rfl rfl rfl rfl (hR.ca c (by omega) (by omega)).1 (hR.ca c (by omega) (by omega)).2.2.2.2.2.1 (by omega) ?_
  refine sw_p 1 (f' := (5, [some (2, 300 + c), none, none], [(0, 0), (2, 380 + c)])) rfl ?_
  refine sw_aal (pn := 6) (t := 6) (l := 8) rfl rfl rfl (by decide) (by omega) (hR.ca c (by omega) (by omega)).2.2.2.2.2.2.1 (hR.ca c (by omega) (by omega)).2.2.2.2.2.2.2 (by omega) (by omega) (fun _ => ?_) (fun h => absurd h (by rw [show ν (380 + c) 0 = 1000 + t from ((hq 0).trans f0)]; omega))
  rw [show ν (380 + c) 0 = 1000 + t from ((hq 0).trans f0)]
  refine sw_p 4 (f' := (11, [some (2, 300 + c), some (2, 1000 + t), none], [(2, 300 + c), (0, 31), (2, 300 + c)])) rfl ?_
  refine sw_gI (pn := 14) (i := 10) rfl rfl rfl rfl rfl (by omega) (hR.ca c (by omega) (by omega)).1 ?_
  rw [show ν (300 + c) 10 = ρ 20 c from hx]
  refine sw_p 2 (f' := (16, [some (2, 300 + c), some (2, 1000 + t), none], [(2, 1000 + t), (0, 31 * (ρ 20 c)), (2, 300 + c)])) rfl ?_
  refine sw_hI (pn := 19) (i := 1) (v := ρ 27 t) rfl rfl rfl rfl rfl (hR.rq t (by omega) (by omega)).1 (hR.rq t (by omega) (by omega)).2.2.1 ?_
  refine sw_p 1 (f' := (20, [some (2, 300 + c), some (2, 1000 + t), none], [(0, (31 * (ρ 20 c)) + (ρ 27 t)), (2, 300 + c)])) rfl ?_
  refine sw_pI (pn := 23) (i := 10) rfl rfl rfl rfl rfl (by omega) (hR.ca c (by omega) (by omega)).1 ?_
  refine sw_p 2 (f' := (25, [some (2, 300 + c), some (2, 1000 + t), none], [(2, 300 + c), (2, 1000 + t)])) rfl ?_
  refine sw_gI (pn := 28) (i := 10) rfl rfl rfl rfl rfl (by omega) (hR.ca c (by omega) (by omega)).1 ?_
  rw [show (mm_u ν (300 + c) 10 ((31 * (ρ 20 c)) + (ρ 27 t))) (300 + c) 10 = (31 * (ρ 20 c)) + (ρ 27 t) from mm_u_at]
  refine sw_p 1 (f' := (29, [some (2, 300 + c), some (2, 1000 + t), none], [(2, 1000 + t), (0, (31 * (ρ 20 c)) + (ρ 27 t)), (2, 1000 + t)])) rfl ?_
  refine sw_hI (pn := 32) (i := 0) (v := ρ 26 t) rfl rfl rfl rfl rfl (hR.rq t (by omega) (by omega)).1 (hR.rq t (by omega) (by omega)).2.1 ?_
  refine sw_p 1 (f' := (33, [some (2, 300 + c), some (2, 1000 + t), none], [(0, ((31 * (ρ 20 c)) + (ρ 27 t)) + (ρ 26 t)), (2, 1000 + t)])) rfl ?_
  refine sw_i2lw (pn := 34) rfl rfl ?_
  refine sw_pL (pn := 37) (i := 2) rfl rfl rfl rfl rfl (by omega) (hR.rq t (by omega) (by omega)).1 ?_
  refine sw_p 2 (f' := (39, [some (2, 300 + c), some (2, 1000 + t), none], [(2, 300 + c), (2, 300 + c)])) rfl ?_
  refine sw_gI (pn := 42) (i := 8) rfl rfl rfl rfl rfl (by omega) (hR.ca c (by omega) (by omega)).1 ?_
  rw [show (mm_u (mm_u ν (300 + c) 10 ((31 * (ρ 20 c)) + (ρ 27 t))) (1000 + t) 2 (Int.bmod (((31 * (ρ 20 c)) + (ρ 27 t)) + (ρ 26 t)) 4294967296)) (300 + c) 8 = mo_wt ρ c from (mm_u_ne (by omega)).trans ((mm_u_ne (by omega)).trans (hn))]
  refine sw_p 2 (f' := (44, [some (2, 300 + c), some (2, 1000 + t), none], [(0, (mo_wt ρ c) - 1), (2, 300 + c)])) rfl ?_
  refine sw_pI (pn := 47) (i := 8) rfl rfl rfl rfl rfl (by omega) (hR.ca c (by omega) (by omega)).1 ?_
  refine sw_p 2 (f' := (49, [some (2, 300 + c), some (2, 1000 + t), some (0, 0)], [])) rfl ?_
  have h := cl_ff_l (E := E) (d := d) hA h8 hR hc hq hn hx hw ht (mo_wt ρ c - 1).toNat 0 (by omega) (by omega)
  rw [fq_0] at h
  exact h
theorem cl_dp_n1 (hA : iv_A ρ f) (h8 : iv_8 ρ) (hR : pt_R s ν ρ f) (hc : 0 ≤ c ∧ c < ρ 0 12) (h1 : ρ 19 c = 0) (h2 : ρ 15 c ≠ 1) : sw_w E (d + 1) 32 (0, [some (2, 300 + c)], []) s ν (sw_is (some (0, 0)) s ν) := by
  have b12 := hA.1.2.2.1
  have b24 := hA.1.2.2.2.2.2.1
  have w8 := h8 c hc.1 hc.2
  have w0 := wt_0 (ρ := ρ) (c := c)
  have hcd := hA.1.cd c hc.1 (by omega)
  refine sw_p 1 (f' := (1, [some (2, 300 + c)], [(2, 300 + c)])) rfl ?_
  refine sw_gI (pn := 4) (i := 9) rfl rfl rfl rfl rfl (by omega) (hR.ca c (by omega) (by omega)).1 ?_
  rw [show ν (300 + c) 9 = ρ 19 c from (hR.cn c (by omega) (by omega)).2.2.2.2.2.1]
  refine sw_ne1 (pt := 40) (pn := 7) rfl rfl rfl (by omega) (fun h => absurd h (by omega)) (fun m1 => ?_)
  refine sw_p 1 (f' := (8, [some (2, 300 + c)], [(2, 300 + c)])) rfl ?_
  refine sw_gI (pn := 11) (i := 6) rfl rfl rfl rfl rfl (by omega) (hR.ca c (by omega) (by omega)).1 ?_
  rw [show ν (300 + c) 6 = ρ 15 c from (hR.cn c (by omega) (by omega)).2.2.1]
  refine sw_p 1 (f' := (12, [some (2, 300 + c)], [(0, 1), (0, ρ 15 c)])) rfl ?_
  refine sw_ne2 (pt := 40) (pn := 15) rfl rfl rfl (by omega) (by omega) (fun m2 => ?_) (fun h => absurd h (by omega))
  refine sw_p 1 (f' := (41, [some (2, 300 + c)], [(2, 300 + c)])) rfl ?_
  refine sw_gI (pn := 44) (i := 9) rfl rfl rfl rfl rfl (by omega) (hR.ca c (by omega) (by omega)).1 ?_
  rw [show ν (300 + c) 9 = ρ 19 c from (hR.cn c (by omega) (by omega)).2.2.2.2.2.1]
  refine sw_ne1 (pt := 49) (pn := 47) rfl rfl rfl (by omega) (fun h => absurd h (by omega)) (fun m3 => ?_)
  refine sw_p 1 (f' := (48, [some (2, 300 + c)], [(0, 0)])) rfl ?_
  exact sw_retZ rfl rfl rfl (by omega) ⟨rfl, rfl, rfl⟩
theorem cl_dp_n2 (hA : iv_A ρ f) (h8 : iv_8 ρ) (hR : pt_R s ν ρ f) (hc : 0 ≤ c ∧ c < ρ 0 12) (h1 : ρ 19 c = 0) (h2 : ρ 15 c = 1) (h3 : mo_wt ρ c = 0) : sw_w E (d + 1) 32 (0, [some (2, 300 + c)], []) s ν (sw_is (some (0, 0)) s ν) := by
  have b12 := hA.1.2.2.1
  have b24 := hA.1.2.2.2.2.2.1
  have w8 := h8 c hc.1 hc.2
  have w0 := wt_0 (ρ := ρ) (c := c)
  have hcd := hA.1.cd c hc.1 (by omega)
  refine sw_p 1 (f' := (1, [some (2, 300 + c)], [(2, 300 + c)])) rfl ?_
  refine sw_gI (pn := 4) (i := 9) rfl rfl rfl rfl rfl (by omega) (hR.ca c (by omega) (by omega)).1 ?_
  rw [show ν (300 + c) 9 = ρ 19 c from (hR.cn c (by omega) (by omega)).2.2.2.2.2.1]
  refine sw_ne1 (pt := 40) (pn := 7) rfl rfl rfl (by omega) (fun h => absurd h (by omega)) (fun m1 => ?_)
  refine sw_p 1 (f' := (8, [some (2, 300 + c)], [(2, 300 + c)])) rfl ?_
  refine sw_gI (pn := 11) (i := 6) rfl rfl rfl rfl rfl (by omega) (hR.ca c (by omega) (by omega)).1 ?_
  rw [show ν (300 + c) 6 = ρ 15 c from (hR.cn c (by omega) (by omega)).2.2.1]
  refine sw_p 1 (f' := (12, [some (2, 300 + c)], [(0, 1), (0, ρ 15 c)])) rfl ?_
  refine sw_ne2 (pt := 40) (pn := 15) rfl rfl rfl (by omega) (by omega) (fun h => absurd h (by omega)) (fun m2 => ?_)
  refine sw_p 1 (f' := (16, [some (2, 300 + c)], [(2, 300 + c)])) rfl ?_
  refine sw_gI (pn := 19) (i := 8) rfl rfl rfl rfl rfl (by omega) (hR.ca c (by omega) (by omega)).1 ?_
  rw [show ν (300 + c) 8 = mo_wt ρ c from (hR.cn c (by omega) (by omega)).2.2.2.2.1]
  refine sw_le1 (pt := 40) (pn := 22) rfl rfl rfl (by omega) (fun m3 => ?_) (fun h => absurd h (by omega))
  refine sw_p 1 (f' := (41, [some (2, 300 + c)], [(2, 300 + c)])) rfl ?_
  refine sw_gI (pn := 44) (i := 9) rfl rfl rfl rfl rfl (by omega) (hR.ca c (by omega) (by omega)).1 ?_
  rw [show ν (300 + c) 9 = ρ 19 c from (hR.cn c (by omega) (by omega)).2.2.2.2.2.1]
  refine sw_ne1 (pt := 49) (pn := 47) rfl rfl rfl (by omega) (fun h => absurd h (by omega)) (fun m4 => ?_)
  refine sw_p 1 (f' := (48, [some (2, 300 + c)], [(0, 0)])) rfl ?_
  exact sw_retZ rfl rfl rfl (by omega) ⟨rfl, rfl, rfl⟩
theorem cl_dp_a1 (hA : iv_A ρ f) (h8 : iv_8 ρ) (hR : pt_R s ν ρ f) (hc : 0 ≤ c ∧ c < ρ 0 12) (h1 : 1 < ρ 19 c) : sw_w E (d + 1) 32 (0, [some (2, 300 + c)], []) s ν (sw_is (some (0, 1)) s (mm_u ν (300 + c) 9 (ρ 19 c - 1))) := by
  have b12 := hA.1.2.2.1
  have b24 := hA.1.2.2.2.2.2.1
  have w8 := h8 c hc.1 hc.2
  have w0 := wt_0 (ρ := ρ) (c := c)
  have hcd := hA.1.cd c hc.1 (by omega)
  refine sw_p 1 (f' := (1, [some (2, 300 + c)], [(2, 300 + c)])) rfl ?_
  refine sw_gI (pn := 4) (i := 9) rfl rfl rfl rfl rfl (by omega) (hR.ca c (by omega) (by omega)).1 ?_
  rw [show ν (300 + c) 9 = ρ 19 c from (hR.cn c (by omega) (by omega)).2.2.2.2.2.1]
  refine sw_ne1 (pt := 40) (pn := 7) rfl rfl rfl (by omega) (fun m1 => ?_) (fun h => absurd h (by omega))
  refine sw_p 1 (f' := (41, [some (2, 300 + c)], [(2, 300 + c)])) rfl ?_
  refine sw_gI (pn := 44) (i := 9) rfl rfl rfl rfl rfl (by omega) (hR.ca c (by omega) (by omega)).1 ?_
  rw [show ν (300 + c) 9 = ρ 19 c from (hR.cn c (by omega) (by omega)).2.2.2.2.2.1]
  refine sw_ne1 (pt := 49) (pn := 47) rfl rfl rfl (by omega) (fun m2 => ?_) (fun h => absurd h (by omega))
  refine sw_p 2 (f' := (51, [some (2, 300 + c)], [(2, 300 + c), (2, 300 + c)])) rfl ?_
  refine sw_gI (pn := 54) (i := 9) rfl rfl rfl rfl rfl (by omega) (hR.ca c (by omega) (by omega)).1 ?_
  rw [show ν (300 + c) 9 = ρ 19 c from (hR.cn c (by omega) (by omega)).2.2.2.2.2.1]
  refine sw_p 2 (f' := (56, [some (2, 300 + c)], [(0, (ρ 19 c) - 1), (2, 300 + c)])) rfl ?_
  refine sw_pI (pn := 59) (i := 9) rfl rfl rfl rfl rfl (by omega) (hR.ca c (by omega) (by omega)).1 ?_
  refine sw_p 1 (f' := (60, [some (2, 300 + c)], [(2, 300 + c)])) rfl ?_
  refine sw_gI (pn := 63) (i := 9) rfl rfl rfl rfl rfl (by omega) (hR.ca c (by omega) (by omega)).1 ?_
  rw [show (mm_u ν (300 + c) 9 ((ρ 19 c) - 1)) (300 + c) 9 = (ρ 19 c) - 1 from mm_u_at]
  refine sw_ne1 (pt := 70) (pn := 66) rfl rfl rfl (by omega) (fun m3 => ?_) (fun h => absurd h (by omega))
  refine sw_p 1 (f' := (71, [some (2, 300 + c)], [(0, 1)])) rfl ?_
  exact sw_retZ rfl rfl rfl (by omega) ⟨rfl, rfl, rfl⟩
theorem cl_dp_a2 (hA : iv_A ρ f) (h8 : iv_8 ρ) (hR : pt_R s ν ρ f) (hc : 0 ≤ c ∧ c < ρ 0 12) (h1 : ρ 19 c = 1) (h3 : 1 ≤ mo_wt ρ c) : sw_w E (d + 1) 32 (0, [some (2, 300 + c)], []) s ν (sw_is (some (0, 1)) s (ff_e (mm_u ν (300 + c) 9 (ρ 19 c - 1)) ρ c (mo_ft ρ c))) := by
  have b12 := hA.1.2.2.1
  have b24 := hA.1.2.2.2.2.2.1
  have w8 := h8 c hc.1 hc.2
  have w0 := wt_0 (ρ := ρ) (c := c)
  have hcd := hA.1.cd c hc.1 (by omega)
  obtain ⟨f0, f1, f2, f3⟩ := ft_q hA hR hc h3
  have htk := hA.1.tk (mo_ft ρ c) f1.1 (by omega)
  refine sw_p 1 (f' := (1, [some (2, 300 + c)], [(2, 300 + c)])) rfl ?_
  refine sw_gI (pn := 4) (i := 9) rfl rfl rfl rfl rfl (by omega) (hR.ca c (by omega) (by omega)).1 ?_
  rw [show ν (300 + c) 9 = ρ 19 c from (hR.cn c (by omega) (by omega)).2.2.2.2.2.1]
  refine sw_ne1 (pt := 40) (pn := 7) rfl rfl rfl (by omega) (fun m1 => ?_) (fun h => absurd h (by omega))
  refine sw_p 1 (f' := (41, [some (2, 300 + c)], [(2, 300 + c)])) rfl ?_
  refine sw_gI (pn := 44) (i := 9) rfl rfl rfl rfl rfl (by omega) (hR.ca c (by omega) (by omega)).1 ?_
  rw [show ν (300 + c) 9 = ρ 19 c from (hR.cn c (by omega) (by omega)).2.2.2.2.2.1]
  refine sw_ne1 (pt := 49) (pn := 47) rfl rfl rfl (by omega) (fun m2 => ?_) (fun h => absurd h (by omega))
  refine sw_p 2 (f' := (51, [some (2, 300 + c)], [(2, 300 + c), (2, 300 + c)])) rfl ?_
  refine sw_gI (pn := 54) (i := 9) rfl rfl rfl rfl rfl (by omega) (hR.ca c (by omega) (by omega)).1 ?_
  rw [show ν (300 + c) 9 = ρ 19 c from (hR.cn c (by omega) (by omega)).2.2.2.2.2.1]
  refine sw_p 2 (f' := (56, [some (2, 300 + c)], [(0, (ρ 19 c) - 1), (2, 300 + c)])) rfl ?_
  refine sw_pI (pn := 59) (i := 9) rfl rfl rfl rfl rfl (by omega) (hR.ca c (by omega) (by omega)).1 ?_
  refine sw_p 1 (f' := (60, [some (2, 300 + c)], [(2, 300 + c)])) rfl ?_
  refine sw_gI (pn := 63) (i := 9) rfl rfl rfl rfl rfl (by omega) (hR.ca c (by omega) (by omega)).1 ?_
  rw [show (mm_u ν (300 + c) 9 ((ρ 19 c) - 1)) (300 + c) 9 = (ρ 19 c) - 1 from mm_u_at]
  refine sw_ne1 (pt := 70) (pn := 66) rfl rfl rfl (by omega) (fun h => absurd h (by omega)) (fun m3 => ?_)
  refine sw_p 1 (f' := (67, [some (2, 300 + c)], [(2, 300 + c)])) rfl ?_
  refine sw_cv1 (pn := 70) (q0 := mj_Ca_doPiece) (q := mj_Ca_finishFirst) (p := 300 + c) (as2 := []) (L2 := [some (2, 300 + c), none, none]) (rest := []) (v := none) (s1 := s) (ν1 := (ff_e (mm_u ν (300 + c) 9 ((ρ 19 c) - 1)) ρ c (mo_ft ρ c))) rfl rfl rfl rfl rfl rfl rfl rfl rfl (hR.ca c (by omega) (by omega)).1 (cl_ff (t := mo_ft ρ c) hA h8 hR hc (fun i => mm_u_ne (by omega)) ((mm_u_ne (by omega)).trans (hR.cn c (by omega) (by omega)).2.2.2.2.1) ((mm_u_ne (by omega)).trans (hR.cn c (by omega) (by omega)).2.2.2.2.2.2) h3 rfl) ?_
  show sw_w E _ 32 (70, [some (2, 300 + c)], []) s (ff_e (mm_u ν (300 + c) 9 ((ρ 19 c) - 1)) ρ c (mo_ft ρ c)) _
  refine sw_p 1 (f' := (71, [some (2, 300 + c)], [(0, 1)])) rfl ?_
  exact sw_retZ rfl rfl rfl (by omega) ⟨rfl, rfl, rfl⟩
theorem cl_dp_b1 (hA : iv_A ρ f) (h8 : iv_8 ρ) (hR : pt_R s ν ρ f) (hc : 0 ≤ c ∧ c < ρ 0 12) (h1 : ρ 19 c = 0) (h2 : ρ 15 c = 1) (h3 : 1 ≤ mo_wt ρ c) (h4 : ρ 26 (mo_ft ρ c) % 8 ≠ 0) : sw_w E (d + 1) 32 (0, [some (2, 300 + c)], []) s ν (sw_is (some (0, 1)) s (mm_u (mm_u ν (300 + c) 9 (ρ 26 (mo_ft ρ c) % 8 + 1)) (300 + c) 9 (ρ 26 (mo_ft ρ c) % 8 + 1 - 1))) := by
  have b12 := hA.1.2.2.1
  have b24 := hA.1.2.2.2.2.2.1
  have w8 := h8 c hc.1 hc.2
  have w0 := wt_0 (ρ := ρ) (c := c)
  have hcd := hA.1.cd c hc.1 (by omega)
  obtain ⟨f0, f1, f2, f3⟩ := ft_q hA hR hc h3
  have htk := hA.1.tk (mo_ft ρ c) f1.1 (by omega)
  refine sw_p 1 (f' := (1, [some (2, 300 + c)], [(2, 300 + c)])) rfl ?_
  refine sw_gI (pn := 4) (i := 9) rfl rfl rfl rfl rfl (by omega) (hR.ca c (by omega) (by omega)).1 ?_
  rw [show ν (300 + c) 9 = ρ 19 c from (hR.cn c (by omega) (by omega)).2.2.2.2.2.1]
  refine sw_ne1 (pt := 40) (pn := 7) rfl rfl rfl (by omega) (fun h => absurd h (by omega)) (fun m1 => ?_)
  refine sw_p 1 (f' := (8, [some (2, 300 + c)], [(2, 300 + c)])) rfl ?_
  refine sw_gI (pn := 11) (i := 6) rfl rfl rfl rfl rfl (by omega) (hR.ca c (by omega) (by omega)).1 ?_
  rw [show ν (300 + c) 6 = ρ 15 c from (hR.cn c (by omega) (by omega)).2.2.1]
  refine sw_p 1 (f' := (12, [some (2, 300 + c)], [(0, 1), (0, ρ 15 c)])) rfl ?_
  refine sw_ne2 (pt := 40) (pn := 15) rfl rfl rfl (by omega) (by omega) (fun h => absurd h (by omega)) (fun m2 => ?_)
  refine sw_p 1 (f' := (16, [some (2, 300 + c)], [(2, 300 + c)])) rfl ?_
  refine sw_gI (pn := 19) (i := 8) rfl rfl rfl rfl rfl (by omega) (hR.ca c (by omega) (by omega)).1 ?_
  rw [show ν (300 + c) 8 = mo_wt ρ c from (hR.cn c (by omega) (by omega)).2.2.2.2.1]
  refine sw_le1 (pt := 40) (pn := 22) rfl rfl rfl (by omega) (fun h => absurd h (by omega)) (fun m3 => ?_)
  refine sw_p 2 (f' := (24, [some (2, 300 + c)], [(2, 300 + c), (2, 300 + c)])) rfl ?_
  refine sw_hA (pn := 27) (i := 4) (v := 380 + c) rfl rfl rfl rfl rfl (hR.ca c (by omega) (by omega)).1 (hR.ca c (by omega) (by omega)).2.2.2.2.2.1 (by omega) ?_
  refine sw_p 1 (f' := (28, [some (2, 300 + c)], [(0, 0), (2, 380 + c), (2, 300 + c)])) rfl ?_
  refine sw_aal (pn := 29) (t := 6) (l := 8) rfl rfl rfl (by decide) (by omega) (hR.ca c (by omega) (by omega)).2.2.2.2.2.2.1 (hR.ca c (by omega) (by omega)).2.2.2.2.2.2.2 (by omega) (by omega) (fun _ => ?_) (fun h => absurd h (by rw [show ν (380 + c) 0 = 1000 + mo_ft ρ c from f0]; omega))
  rw [show ν (380 + c) 0 = 1000 + mo_ft ρ c from f0]
  refine sw_hI (pn := 32) (i := 0) (v := ρ 26 (mo_ft ρ c)) rfl rfl rfl rfl rfl (hR.rq (mo_ft ρ c) (by omega) (by omega)).1 (hR.rq (mo_ft ρ c) (by omega) (by omega)).2.1 ?_
  refine sw_p 1 (f' := (34, [some (2, 300 + c)], [(0, 8), (0, ρ 26 (mo_ft ρ c)), (2, 300 + c)])) rfl ?_
  refine sw_irem (pn := 35) rfl rfl (by omega) (by omega) ?_
  refine sw_p 2 (f' := (37, [some (2, 300 + c)], [(0, ((ρ 26 (mo_ft ρ c)) % 8) + 1), (2, 300 + c)])) rfl ?_
  refine sw_pI (pn := 40) (i := 9) rfl rfl rfl rfl rfl (by omega) (hR.ca c (by omega) (by omega)).1 ?_
  refine sw_p 1 (f' := (41, [some (2, 300 + c)], [(2, 300 + c)])) rfl ?_
  refine sw_gI (pn := 44) (i := 9) rfl rfl rfl rfl rfl (by omega) (hR.ca c (by omega) (by omega)).1 ?_
  rw [show (mm_u ν (300 + c) 9 (((ρ 26 (mo_ft ρ c)) % 8) + 1)) (300 + c) 9 = ((ρ 26 (mo_ft ρ c)) % 8) + 1 from mm_u_at]
  refine sw_ne1 (pt := 49) (pn := 47) rfl rfl rfl (by omega) (fun m4 => ?_) (fun h => absurd h (by omega))
  refine sw_p 2 (f' := (51, [some (2, 300 + c)], [(2, 300 + c), (2, 300 + c)])) rfl ?_
  refine sw_gI (pn := 54) (i := 9) rfl rfl rfl rfl rfl (by omega) (hR.ca c (by omega) (by omega)).1 ?_
  rw [show (mm_u ν (300 + c) 9 (((ρ 26 (mo_ft ρ c)) % 8) + 1)) (300 + c) 9 = ((ρ 26 (mo_ft ρ c)) % 8) + 1 from mm_u_at]
  refine sw_p 2 (f' := (56, [some (2, 300 + c)], [(0, (((ρ 26 (mo_ft ρ c)) % 8) + 1) - 1), (2, 300 + c)])) rfl ?_
  refine sw_pI (pn := 59) (i := 9) rfl rfl rfl rfl rfl (by omega) (hR.ca c (by omega) (by omega)).1 ?_
  refine sw_p 1 (f' := (60, [some (2, 300 + c)], [(2, 300 + c)])) rfl ?_
  refine sw_gI (pn := 63) (i := 9) rfl rfl rfl rfl rfl (by omega) (hR.ca c (by omega) (by omega)).1 ?_
  rw [show (mm_u (mm_u ν (300 + c) 9 (((ρ 26 (mo_ft ρ c)) % 8) + 1)) (300 + c) 9 ((((ρ 26 (mo_ft ρ c)) % 8) + 1) - 1)) (300 + c) 9 = (((ρ 26 (mo_ft ρ c)) % 8) + 1) - 1 from mm_u_at]
  refine sw_ne1 (pt := 70) (pn := 66) rfl rfl rfl (by omega) (fun m5 => ?_) (fun h => absurd h (by omega))
  refine sw_p 1 (f' := (71, [some (2, 300 + c)], [(0, 1)])) rfl ?_
  exact sw_retZ rfl rfl rfl (by omega) ⟨rfl, rfl, rfl⟩
theorem cl_dp_b2 (hA : iv_A ρ f) (h8 : iv_8 ρ) (hR : pt_R s ν ρ f) (hc : 0 ≤ c ∧ c < ρ 0 12) (h1 : ρ 19 c = 0) (h2 : ρ 15 c = 1) (h3 : 1 ≤ mo_wt ρ c) (h4 : ρ 26 (mo_ft ρ c) % 8 = 0) : sw_w E (d + 1) 32 (0, [some (2, 300 + c)], []) s ν (sw_is (some (0, 1)) s (ff_e (mm_u (mm_u ν (300 + c) 9 (ρ 26 (mo_ft ρ c) % 8 + 1)) (300 + c) 9 (ρ 26 (mo_ft ρ c) % 8 + 1 - 1)) ρ c (mo_ft ρ c))) := by
  have b12 := hA.1.2.2.1
  have b24 := hA.1.2.2.2.2.2.1
  have w8 := h8 c hc.1 hc.2
  have w0 := wt_0 (ρ := ρ) (c := c)
  have hcd := hA.1.cd c hc.1 (by omega)
  obtain ⟨f0, f1, f2, f3⟩ := ft_q hA hR hc h3
  have htk := hA.1.tk (mo_ft ρ c) f1.1 (by omega)
  refine sw_p 1 (f' := (1, [some (2, 300 + c)], [(2, 300 + c)])) rfl ?_
  refine sw_gI (pn := 4) (i := 9) rfl rfl rfl rfl rfl (by omega) (hR.ca c (by omega) (by omega)).1 ?_
  rw [show ν (300 + c) 9 = ρ 19 c from (hR.cn c (by omega) (by omega)).2.2.2.2.2.1]
  refine sw_ne1 (pt := 40) (pn := 7) rfl rfl rfl (by omega) (fun h => absurd h (by omega)) (fun m1 => ?_)
  refine sw_p 1 (f' := (8, [some (2, 300 + c)], [(2, 300 + c)])) rfl ?_
  refine sw_gI (pn := 11) (i := 6) rfl rfl rfl rfl rfl (by omega) (hR.ca c (by omega) (by omega)).1 ?_
  rw [show ν (300 + c) 6 = ρ 15 c from (hR.cn c (by omega) (by omega)).2.2.1]
  refine sw_p 1 (f' := (12, [some (2, 300 + c)], [(0, 1), (0, ρ 15 c)])) rfl ?_
  refine sw_ne2 (pt := 40) (pn := 15) rfl rfl rfl (by omega) (by omega) (fun h => absurd h (by omega)) (fun m2 => ?_)
  refine sw_p 1 (f' := (16, [some (2, 300 + c)], [(2, 300 + c)])) rfl ?_
  refine sw_gI (pn := 19) (i := 8) rfl rfl rfl rfl rfl (by omega) (hR.ca c (by omega) (by omega)).1 ?_
  rw [show ν (300 + c) 8 = mo_wt ρ c from (hR.cn c (by omega) (by omega)).2.2.2.2.1]
  refine sw_le1 (pt := 40) (pn := 22) rfl rfl rfl (by omega) (fun h => absurd h (by omega)) (fun m3 => ?_)
  refine sw_p 2 (f' := (24, [some (2, 300 + c)], [(2, 300 + c), (2, 300 + c)])) rfl ?_
  refine sw_hA (pn := 27) (i := 4) (v := 380 + c) rfl rfl rfl rfl rfl (hR.ca c (by omega) (by omega)).1 (hR.ca c (by omega) (by omega)).2.2.2.2.2.1 (by omega) ?_
  refine sw_p 1 (f' := (28, [some (2, 300 + c)], [(0, 0), (2, 380 + c), (2, 300 + c)])) rfl ?_
  refine sw_aal (pn := 29) (t := 6) (l := 8) rfl rfl rfl (by decide) (by omega) (hR.ca c (by omega) (by omega)).2.2.2.2.2.2.1 (hR.ca c (by omega) (by omega)).2.2.2.2.2.2.2 (by omega) (by omega) (fun _ => ?_) (fun h => absurd h (by rw [show ν (380 + c) 0 = 1000 + mo_ft ρ c from f0]; omega))
  rw [show ν (380 + c) 0 = 1000 + mo_ft ρ c from f0]
  refine sw_hI (pn := 32) (i := 0) (v := ρ 26 (mo_ft ρ c)) rfl rfl rfl rfl rfl (hR.rq (mo_ft ρ c) (by omega) (by omega)).1 (hR.rq (mo_ft ρ c) (by omega) (by omega)).2.1 ?_
  refine sw_p 1 (f' := (34, [some (2, 300 + c)], [(0, 8), (0, ρ 26 (mo_ft ρ c)), (2, 300 + c)])) rfl ?_
  refine sw_irem (pn := 35) rfl rfl (by omega) (by omega) ?_
  refine sw_p 2 (f' := (37, [some (2, 300 + c)], [(0, ((ρ 26 (mo_ft ρ c)) % 8) + 1), (2, 300 + c)])) rfl ?_
  refine sw_pI (pn := 40) (i := 9) rfl rfl rfl rfl rfl (by omega) (hR.ca c (by omega) (by omega)).1 ?_
  refine sw_p 1 (f' := (41, [some (2, 300 + c)], [(2, 300 + c)])) rfl ?_
  refine sw_gI (pn := 44) (i := 9) rfl rfl rfl rfl rfl (by omega) (hR.ca c (by omega) (by omega)).1 ?_
  rw [show (mm_u ν (300 + c) 9 (((ρ 26 (mo_ft ρ c)) % 8) + 1)) (300 + c) 9 = ((ρ 26 (mo_ft ρ c)) % 8) + 1 from mm_u_at]
  refine sw_ne1 (pt := 49) (pn := 47) rfl rfl rfl (by omega) (fun m4 => ?_) (fun h => absurd h (by omega))
  refine sw_p 2 (f' := (51, [some (2, 300 + c)], [(2, 300 + c), (2, 300 + c)])) rfl ?_
  refine sw_gI (pn := 54) (i := 9) rfl rfl rfl rfl rfl (by omega) (hR.ca c (by omega) (by omega)).1 ?_
  rw [show (mm_u ν (300 + c) 9 (((ρ 26 (mo_ft ρ c)) % 8) + 1)) (300 + c) 9 = ((ρ 26 (mo_ft ρ c)) % 8) + 1 from mm_u_at]
  refine sw_p 2 (f' := (56, [some (2, 300 + c)], [(0, (((ρ 26 (mo_ft ρ c)) % 8) + 1) - 1), (2, 300 + c)])) rfl ?_
  refine sw_pI (pn := 59) (i := 9) rfl rfl rfl rfl rfl (by omega) (hR.ca c (by omega) (by omega)).1 ?_
  refine sw_p 1 (f' := (60, [some (2, 300 + c)], [(2, 300 + c)])) rfl ?_
  refine sw_gI (pn := 63) (i := 9) rfl rfl rfl rfl rfl (by omega) (hR.ca c (by omega) (by omega)).1 ?_
  rw [show (mm_u (mm_u ν (300 + c) 9 (((ρ 26 (mo_ft ρ c)) % 8) + 1)) (300 + c) 9 ((((ρ 26 (mo_ft ρ c)) % 8) + 1) - 1)) (300 + c) 9 = (((ρ 26 (mo_ft ρ c)) % 8) + 1) - 1 from mm_u_at]
  refine sw_ne1 (pt := 70) (pn := 66) rfl rfl rfl (by omega) (fun h => absurd h (by omega)) (fun m5 => ?_)
  refine sw_p 1 (f' := (67, [some (2, 300 + c)], [(2, 300 + c)])) rfl ?_
  refine sw_cv1 (pn := 70) (q0 := mj_Ca_doPiece) (q := mj_Ca_finishFirst) (p := 300 + c) (as2 := []) (L2 := [some (2, 300 + c), none, none]) (rest := []) (v := none) (s1 := s) (ν1 := (ff_e (mm_u (mm_u ν (300 + c) 9 (((ρ 26 (mo_ft ρ c)) % 8) + 1)) (300 + c) 9 ((((ρ 26 (mo_ft ρ c)) % 8) + 1) - 1)) ρ c (mo_ft ρ c))) rfl rfl rfl rfl rfl rfl rfl rfl rfl (hR.ca c (by omega) (by omega)).1 (cl_ff (t := mo_ft ρ c) hA h8 hR hc (fun i => (mm_u_ne (by omega)).trans (mm_u_ne (by omega))) (((mm_u_ne (by omega)).trans (mm_u_ne (by omega))).trans (hR.cn c (by omega) (by omega)).2.2.2.2.1) (((mm_u_ne (by omega)).trans (mm_u_ne (by omega))).trans (hR.cn c (by omega) (by omega)).2.2.2.2.2.2) h3 rfl) ?_
  show sw_w E _ 32 (70, [some (2, 300 + c)], []) s (ff_e (mm_u (mm_u ν (300 + c) 9 (((ρ 26 (mo_ft ρ c)) % 8) + 1)) (300 + c) 9 ((((ρ 26 (mo_ft ρ c)) % 8) + 1) - 1)) ρ c (mo_ft ρ c)) _
  refine sw_p 1 (f' := (71, [some (2, 300 + c)], [(0, 1)])) rfl ?_
  exact sw_retZ rfl rfl rfl (by omega) ⟨rfl, rfl, rfl⟩
end FF1
