/-! the law: its beginning -/
section BJ
variable {E : mv_E} {s s0 s1 ν ν1 ρ : mm_T} {d : Nat} {i p : Int} {Q : nm_O → mm_T → mm_T → Prop}
theorem pe_R (h : pe_r s0 s ν) (hb : be_r ρ) : pt_R s ν ρ (fun _ => 0) := by
  obtain ⟨h1, h2, h3, h4, h5, h6, -, -⟩ := h
  obtain ⟨g0, g2, g3, g4, g6, gz⟩ := hb
  have q1 : ρ 0 1 = 1 := g0 1 (by decide)
  have q8 : ρ 0 8 = 0 := g0 8 (by decide)
  have q12 : ρ 0 12 = 0 := g0 12 (by decide)
  have q21 : ρ 0 21 = -1 := g0 21 (by decide)
  have q22 : ρ 0 22 = 0 := g0 22 (by decide)
  have q23 : ρ 0 23 = 0 := g0 23 (by decide)
  have q24 : ρ 0 24 = 0 := g0 24 (by decide)
  have e4 : ρ 4 0 = 1000 := g4 0
  have e6 : ρ 6 0 = 4096 := g6 0
  have e5 : ρ 5 0 = 0 := gz 5 (by decide) 0
  refine ⟨h1, fun b b0 b1 => ?_, fun b b0 b1 => ?_, fun b i b0 b1 i0 i1 => ?_, fun t t0 t1 => ?_, fun t t0 t1 => ?_, fun c c0 c1 => ?_, fun c c0 c1 => ?_, fun c k c0 c1 => ?_, fun c c0 c1 => ?_, fun c i c0 c1 => ?_, fun t t0 t1 => ?_, ⟨?_, Or.inl ⟨h5.1, q24⟩, fun t t0 t1 => ?_⟩, ?_⟩
  · have hb : b = 0 := by omega
    subst hb
    rw [if_pos rfl, e4]
    exact h2
  · have hb : b = 0 := by omega
    subst hb
    rw [e5, e6]
    exact h3
  · have hb : b = 0 := by omega
    subst hb
    rw [g2 (4 * 0 + i) (by omega) (by omega), if_neg (by omega), if_neg (by omega)]
    exact h4 i
  · omega
  · omega
  · omega
  · omega
  · omega
  · omega
  · omega
  · omega
  · rw [q24]; exact h5.2
  · omega
  · unfold pt_Z
    rw [q1, q8, q12, q21, q22, q23, if_pos (by decide)]
    exact h6
/-- memory with nothing in it -/
def em_s : mm_T := fun p i => if p = -1 ∧ (i = 0 ∨ i = 1) then 0 else -1
theorem em_1 : em_s p (-1) = -1 := by
  unfold em_s
  rw [if_neg (by omega)]
theorem em_c0 : em_s (-1) 0 = 0 := by decide
theorem em_c1 : em_s (-1) 1 = 0 := by decide
theorem lw_s (hK : ∀ ρ s ν o5 o6 o7, lw_I ρ (fun _ => 0) s ν → ρ 0 24 = 0 → s (-1) 0 ≤ 1000 → s (-1) 1 ≤ 200000 → sw_w E 11 140 (23, [some (2, 9001), some (2, 50), some (2, 0), some (2, 40), some (0, 0), o5, o6, o7], []) s ν Q) : sw_w E 11 140 (0, [some (2, 9001), none, none, none, none, none, none, none], []) em_s ν Q := by
  refine sw_new (pn := 3) (k := 100) (sz := 14) 50 rfl rfl rfl rfl rfl rfl (by omega) (by rw [em_1]; decide) ?_
  refine sw_p 1 (f' := (4, [some (2, 9001), none, none, none, none, none, none, none], [(2, 50), (2, 50)])) rfl ?_
  have hs1 : ∀ p i, 0 ≤ p → p ≠ 50 → nm_al em_s 50 100 0 14 (mm_z 0) p i = em_s p i := fun p i h1 h2 => al_ne (by omega) (by omega)
  refine sw_ci (pn := 7) (q0 := mj_Lw_law) (q := mj_PT_init) (p := 50) (as2 := []) (L2 := [some (2, 50)]) (rest := [(2, 50)]) (Q2 := fun o s' ν' => o = .inl none ∧ pe_r (nm_al em_s 50 100 0 14 (mm_z 0)) s' ν') rfl rfl rfl rfl rfl rfl rfl rfl rfl (pi_0 (d := 7) (al_k (by omega)) (fun p h1 h2 => by rw [hs1 p _ (by omega) (by omega), em_1]; decide) ⟨fun i h1 h2 h3 => nw_at (by
    have : i = 8 ∨ i = 9 ∨ i = 10 ∨ i = 12 ∨ i = 13 := by omega
    rcases this with rfl | rfl | rfl | rfl | rfl <;> decide), nw_at (by decide)⟩ (fun s' ν' h => ⟨rfl, h⟩)) (fun v s2 ν2 hv => ?_) (fun _ _ _ h => nomatch h.1)
  obtain ⟨hv1, hpe⟩ := hv
  cases hv1
  have hfr := hpe.2.2.2.2.2.2.1
  have hc0 := hpe.2.2.2.2.2.2.2.1
  have hc1 := hpe.2.2.2.2.2.2.2.2
  rw [al_c0, em_c0] at hc0
  rw [al_c1, em_c1] at hc1
  have hun : ∀ p, 0 ≤ p → ¬ (50 ≤ p ∧ p ≤ 64) → p ≠ 100 → p ≠ 110 → p ≠ 120 → s2 p (-1) = -1 := fun p g0 g1 g2 g3 g4 => by
    rw [hfr p (-1) g0 g1 g2 g3 g4, hs1 p _ g0 (by omega), em_1]
  clear hfr hs1
  show sw_w E _ 140 (7, [some (2, 9001), none, none, none, none, none, none, none], [(2, 50)]) s2 ν2 _
  refine sw_p 1 (f' := (8, [some (2, 9001), some (2, 50), none, none, none, none, none, none], [])) rfl ?_
  refine sw_new (pn := 11) (k := 106) (sz := 31) 0 rfl rfl rfl rfl rfl rfl (by omega) (by rw [hun 0 (by decide) (by decide) (by decide) (by decide) (by decide)]; decide) ?_
  refine sw_p 1 (f' := (12, [some (2, 9001), some (2, 50), none, none, none, none, none, none], [(2, 0), (2, 0)])) rfl ?_
  refine sw_ci (pn := 15) (q0 := mj_Lw_law) (q := mj_Mo_init) (p := 0) (as2 := []) (L2 := [some (2, 0), none]) (rest := [(2, 0)]) (Q2 := fun o s' ν' => o = .inl none ∧ mi_E (nm_al s2 0 106 0 31 (mm_z 6)) (sw_nw ν2 0 (mm_z 6)) s' ν') rfl rfl rfl rfl rfl rfl rfl rfl rfl (mi_0 (d := 10) (al_k (by omega)) (fun p h1 h2 => by rw [al_ne (by omega) (by omega), hun p (by omega) (by omega) (by omega) (by omega) (by omega)]; decide) (fun i hi => nw_at (by
    rcases hi with rfl | rfl | rfl | rfl | rfl | rfl | rfl | rfl <;> decide)) (fun s' ν' h => ⟨rfl, h⟩)) (fun v s3 ν3 hv => ?_) (fun _ _ _ h => nomatch h.1)
  obtain ⟨hv1, hsh, hbe, hfr, hd0, hd1⟩ := hv
  cases hv1
  rw [al_c0] at hd0
  rw [al_c1] at hd1
  have es : ∀ p, 31 ≤ p → s3 p = s2 p := fun p hp => by
    rw [(hfr p hp).1]
    funext i
    exact al_ne (by omega) (by omega)
  have en : ∀ p, 31 ≤ p → ν3 p = ν2 p := fun p hp => by
    rw [(hfr p hp).2]
    funext i
    exact nw_ne (by omega)
  clear hfr
  show sw_w E _ 140 (15, [some (2, 9001), some (2, 50), none, none, none, none, none, none], [(2, 0)]) s3 ν3 _
  refine sw_p 2 (f' := (17, [some (2, 9001), some (2, 50), some (2, 0), none, none, none, none, none], [(0, 1)])) rfl ?_
  have h40 : s3 40 (-1) < 0 := by
    rw [es 40 (by decide), hun 40 (by decide) (by decide) (by decide) (by decide) (by decide)]
    decide
  refine sw_na (pn := 19) (t := 2) 40 rfl rfl rfl (by exact Or.inr (Or.inr rfl)) (by omega) (by omega) h40 ?_
  refine sw_p 3 (f' := (23, [some (2, 9001), some (2, 50), some (2, 0), some (2, 40), some (0, 0), none, none, none], [])) rfl ?_
  have n40 : ∀ p, p ≠ 40 → sw_nw ν3 40 (fun _ => 0) p = ν3 p := fun p hp => by
    funext i
    exact nw_ne hp
  have s40 : ∀ p i, 0 ≤ p → p ≠ 40 → nm_al s3 40 2 1 1 (fun _ => 0) p i = s3 p i := fun p i h1 h2 => al_ne h2 (by omega)
  have hB := (iv_be hbe).1.1
  have hR0 : pt_R s2 ν2 ν3 (fun _ => 0) := pe_R hpe hbe
  have hR1 : pt_R (nm_al s3 40 2 1 1 (fun _ => 0)) ν2 ν3 (fun _ => 0) := R_s hB (fun p i hp => by
    have b1 := hB.1
    have b8 := hB.2.1
    have b12 := hB.2.2.1
    have b24 := hB.2.2.2.2.2.1
    unfold us_d at hp
    rw [s40 p i (by omega) (by omega), es p (by omega)]) hR0
  have hR2 : pt_R (nm_al s3 40 2 1 1 (fun _ => 0)) (sw_nw ν3 40 (fun _ => 0)) ν3 (fun _ => 0) := R_hi hB hR1 (fun p hp => by rw [n40 p (by omega), en p (by omega)])
  have q1 : ν3 0 1 = 1 := hbe.1 1 (by decide)
  have q8 : ν3 0 8 = 0 := hbe.1 8 (by decide)
  have q12 : ν3 0 12 = 0 := hbe.1 12 (by decide)
  have q24 : ν3 0 24 = 0 := hbe.1 24 (by decide)
  have hun2 : ∀ p, 50 ≤ p → ¬ (50 ≤ p ∧ p ≤ 64) → p ≠ 100 → p ≠ 110 → p ≠ 120 → nm_al s3 40 2 1 1 (fun _ => 0) p (-1) < 0 := fun p g0 g1 g2 g3 g4 => by
    rw [s40 p _ (by omega) (by omega), es p (by omega), hun p (by omega) g1 g2 g3 g4]
    decide
  have hB1 : ∀ p, p ∈ be_l → mo_b1 (sw_nw ν3 40 (fun _ => 0)) p := fun p hp a a1 a2 => by
    have hp4 : p ≠ 40 := fun h => by rw [h] at hp; revert hp; decide
    rw [n40 p hp4]
    exact Or.inl (hbe.2.2.2.2.2 p hp a)
  refine hK ν3 _ _ none none none ⟨⟨?_, fun q hq => ?_⟩, ⟨al_k (by omega), al_l (by omega)⟩, iv_be hbe, hR2, ⟨fun b g1 g2 => ?_, fun t g1 g2 => ?_, fun c g1 g2 => ?_, fun t g1 g2 => ?_, fun p g1 g2 g3 => ?_⟩, ⟨fun p hp => ?_, fun i hi => ?_⟩, hB1 29 (by decide), hB1 30 (by decide)⟩ q24 ?_ ?_
  · exact (s40 0 _ (by decide) (by decide)).trans hsh.1
  · have hq2 : 0 ≤ q.1 ∧ q.1 < 40 := (show ∀ q ∈ mo_fs, 0 ≤ q.1 ∧ q.1 < 40 by decide) q hq
    have hq3 := hsh.2 q hq
    exact ⟨(s40 0 _ (by decide) (by decide)).trans hq3.1, (s40 q.1 _ hq2.1 (by omega)).trans hq3.2.1, (s40 q.1 _ hq2.1 (by omega)).trans hq3.2.2⟩
  · rw [q1] at g1
    exact ⟨hun2 _ (by omega) (by omega) (by omega) (by omega) (by omega), hun2 _ (by omega) (by omega) (by omega) (by omega) (by omega), hun2 _ (by omega) (by omega) (by omega) (by omega) (by omega)⟩
  · rw [q8] at g1
    exact ⟨hun2 _ (by omega) (by omega) (by omega) (by omega) (by omega), hun2 _ (by omega) (by omega) (by omega) (by omega) (by omega), hun2 _ (by omega) (by omega) (by omega) (by omega) (by omega)⟩
  · rw [q12] at g1
    exact ⟨hun2 _ (by omega) (by omega) (by omega) (by omega) (by omega), hun2 _ (by omega) (by omega) (by omega) (by omega) (by omega), hun2 _ (by omega) (by omega) (by omega) (by omega) (by omega)⟩
  · rw [q24] at g1
    exact hun2 _ (by omega) (by omega) (by omega) (by omega) (by omega)
  · exact hun2 _ (by omega) (by omega) (by omega) (by omega) (by omega)
  · have := rq_lb p hp
    exact n40 p (by omega)
  · rw [n40 0 (by decide)]
  · rw [al_c0]; omega
  · rw [al_c1]; omega
end BJ
