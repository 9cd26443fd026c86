/-! the reference is made -/
def mi_J (D : List (Int × Int × Int)) (s0 ν0 s ν : mm_T) : Prop := s 0 (-1) = 106 ∧ (∀ q ∈ D, s 0 q.1 = q.1 ∧ s q.1 (-1) = q.2.1 ∧ s q.1 (-2) = q.2.2) ∧ (∀ q ∈ D, ∀ i, ν q.1 i = 0) ∧ (∀ p, 1 ≤ p → p ≤ 30 → (∀ q ∈ D, q.1 ≠ p) → s p (-1) < 0) ∧ (∀ p, 31 ≤ p → s p = s0 p ∧ ν p = ν0 p) ∧ (s (-1) 0 = s0 (-1) 0 + D.length ∧ s (-1) 1 ≤ s0 (-1) 1 + 4096 * D.length) ∧ (∀ i, be_i i → ν 0 i = if i = 1 then 1 else if i = 21 ∧ 17 ≤ D.length then -1 else 0)
def mi_E (s0 ν0 s ν : mm_T) : Prop := mo_sh s ∧ be_r ν ∧ (∀ p, 31 ≤ p → s p = s0 p ∧ ν p = ν0 p) ∧ s (-1) 0 ≤ s0 (-1) 0 + 30 ∧ s (-1) 1 ≤ s0 (-1) 1 + 100000
theorem be_n : ∀ p ∈ be_l, p ≠ 2 ∧ p ≠ 3 ∧ p ≠ 4 ∧ p ≠ 6 := by decide
theorem be_m : ∀ p ∈ be_l, ∃ q ∈ mo_fs, q.1 = p := by decide
theorem mi_in : ∀ q ∈ mo_fs, ([(30, 1, 4096), (29, 1, 4096), (28, 2, 512), (27, 0, 512), (26, 0, 512), (25, 0, 512), (20, 0, 40), (19, 0, 40), (18, 0, 120), (17, 0, 120), (16, 0, 40), (15, 0, 40), (14, 0, 40), (13, 0, 40), (11, 1, 16), (10, 0, 16), (9, 0, 48), (7, 0, 8), (6, 0, 8), (5, 0, 8), (4, 0, 8), (3, 0, 8), (2, 0, 32)] : List (Int × Int × Int)).elem q = true := by decide
/-- between the array and the field that follows -/
def mi_K (D : List (Int × Int × Int)) (s0 ν0 s ν : mm_T) : Prop := s 0 (-1) = 106 ∧ (∀ q ∈ D, s 0 q.1 = q.1 ∧ s q.1 (-1) = q.2.1 ∧ s q.1 (-2) = q.2.2) ∧ (∀ q ∈ D, ∀ i, ν q.1 i = 0) ∧ (∀ p, 1 ≤ p → p ≤ 30 → (∀ q ∈ D, q.1 ≠ p) → s p (-1) < 0) ∧ (∀ p, 31 ≤ p → s p = s0 p ∧ ν p = ν0 p) ∧ (s (-1) 0 = s0 (-1) 0 + D.length ∧ s (-1) 1 ≤ s0 (-1) 1 + 4096 * D.length) ∧ (∀ i, be_i i → ν 0 i = if i = 1 then 1 else 0)
section MI
variable {E : mv_E} {s s0 s1 ν ν0 ν1 ν' : mm_T} {d : Nat} {i k l p t x y z : Int} {Q : nm_O → mm_T → mm_T → Prop} {D : List (Int × Int × Int)}
theorem mi_st (hJ : mi_J D s0 ν0 s ν) (hp : 2 ≤ p ∧ p ≤ 30) (hD : ∀ q ∈ D, q.1 ≠ p ∧ 1 ≤ q.1) (hl : 0 ≤ l ∧ l ≤ 4096) (hn : D.length ≠ 16) : mi_J ((p, t, l) :: D) s0 ν0 (mm_u (nm_al s p t l l (fun _ => 0)) 0 p p) (sw_nw ν p (fun _ => 0)) := by
  obtain ⟨j1, j2, j3, j4, j5, ⟨j6, j7⟩, j8⟩ := hJ
  refine ⟨?_, fun q hq => ?_, fun q hq i => ?_, fun q g1 g2 g3 => ?_, fun q g1 => ⟨?_, ?_⟩, ⟨?_, ?_⟩, fun i g1 => ?_⟩
  · rw [mm_u_ne (by omega), al_ne (by omega) (by omega)]; exact j1
  · rcases List.mem_cons.mp hq with rfl | hq
    · exact ⟨mm_u_at, by rw [mm_u_ne (by omega), al_k (by omega)], by rw [mm_u_ne (by omega), al_l (by omega)]⟩
    · have hd := hD q hq
      rw [mm_u_ne (by omega), al_ne (by omega) (by omega), mm_u_ne (by omega), al_ne (by omega) (by omega), mm_u_ne (by omega), al_ne (by omega) (by omega)]
      exact j2 q hq
  · rcases List.mem_cons.mp hq with rfl | hq
    · exact nw_af
    · have hd := hD q hq
      rw [nw_ne (by omega)]
      exact j3 q hq i
  · have h1 := g3 _ List.mem_cons_self
    simp only [] at h1
    rw [mm_u_ne (by omega), al_ne (by omega) (by omega)]
    exact j4 q g1 g2 (fun r hr => g3 r (List.mem_cons_of_mem _ hr))
  · funext i
    rw [mm_u_ne (by omega), al_ne (by omega) (by omega), (j5 q g1).1]
  · funext i
    rw [nw_ne (by omega), (j5 q g1).2]
  · rw [mm_u_ne (by omega), al_c0, j6, List.length_cons]
    omega
  · rw [mm_u_ne (by omega), al_c1, List.length_cons]
    omega
  · rw [nw_ne (by omega), j8 i g1, List.length_cons]
    by_cases h1 : i = 1
    · rw [if_pos h1, if_pos h1]
    · rw [if_neg h1, if_neg h1]
      by_cases h2 : i = 21 ∧ 17 ≤ D.length
      · rw [if_pos h2, if_pos ⟨h2.1, by omega⟩]
      · rw [if_neg h2, if_neg (by omega)]
theorem mi_sk (hJ : mi_J D s0 ν0 s ν) (hp : 2 ≤ p ∧ p ≤ 30) (hD : ∀ q ∈ D, q.1 ≠ p ∧ 1 ≤ q.1) (hl : 0 ≤ l ∧ l ≤ 4096) (hn : D.length = 16) : mi_K ((p, t, l) :: D) s0 ν0 (mm_u (nm_al s p t l l (fun _ => 0)) 0 p p) (sw_nw ν p (fun _ => 0)) := by
  obtain ⟨j1, j2, j3, j4, j5, ⟨j6, j7⟩, j8⟩ := hJ
  refine ⟨?_, fun q hq => ?_, fun q hq i => ?_, fun q g1 g2 g3 => ?_, fun q g1 => ⟨?_, ?_⟩, ⟨?_, ?_⟩, fun i g1 => ?_⟩
  · rw [mm_u_ne (by omega), al_ne (by omega) (by omega)]; exact j1
  · rcases List.mem_cons.mp hq with rfl | hq
    · exact ⟨mm_u_at, by rw [mm_u_ne (by omega), al_k (by omega)], by rw [mm_u_ne (by omega), al_l (by omega)]⟩
    · have hd := hD q hq
      rw [mm_u_ne (by omega), al_ne (by omega) (by omega), mm_u_ne (by omega), al_ne (by omega) (by omega), mm_u_ne (by omega), al_ne (by omega) (by omega)]
      exact j2 q hq
  · rcases List.mem_cons.mp hq with rfl | hq
    · exact nw_af
    · have hd := hD q hq
      rw [nw_ne (by omega)]
      exact j3 q hq i
  · have h1 := g3 _ List.mem_cons_self
    simp only [] at h1
    rw [mm_u_ne (by omega), al_ne (by omega) (by omega)]
    exact j4 q g1 g2 (fun r hr => g3 r (List.mem_cons_of_mem _ hr))
  · funext i
    rw [mm_u_ne (by omega), al_ne (by omega) (by omega), (j5 q g1).1]
  · funext i
    rw [nw_ne (by omega), (j5 q g1).2]
  · rw [mm_u_ne (by omega), al_c0, j6, List.length_cons]
    omega
  · rw [mm_u_ne (by omega), al_c1, List.length_cons]
    omega
  · rw [nw_ne (by omega), j8 i g1]
    by_cases h1 : i = 1
    · rw [if_pos h1, if_pos h1]
    · rw [if_neg h1, if_neg h1, if_neg (by omega)]
theorem mi_k (hJ : mi_K D s0 ν0 s ν) (hn : D.length = 17) (hD : ∀ q ∈ D, 1 ≤ q.1) : mi_J D s0 ν0 s (mm_u ν 0 21 (-1)) := by
  obtain ⟨j1, j2, j3, j4, j5, ⟨j6, j7⟩, j8⟩ := hJ
  refine ⟨j1, j2, fun q hq i => ?_, j4, fun p g1 => ⟨(j5 p g1).1, ?_⟩, ⟨j6, j7⟩, fun i g1 => ?_⟩
  · have := hD q hq
    rw [mm_u_ne (by omega)]; exact j3 q hq i
  · funext i
    rw [mm_u_ne (by omega), (j5 p g1).2]
  · by_cases h1 : i = 1
    · rw [if_pos h1, mm_u_ne (by omega), j8 i g1, if_pos h1]
    · rw [if_neg h1]
      by_cases h2 : i = 21
      · rw [if_pos ⟨h2, by omega⟩, h2, mm_u_at]
      · rw [if_neg (fun h => h2 h.1), mm_u_ne (by omega), j8 i g1, if_neg h1]
theorem mi_l2 (hs : mo_sh s) (hk : ∀ ν', (∀ p, p ≠ 2 → ν' p = ν p) → (∀ j, 0 ≤ j → j < 32 → ν' 2 j = -1) → sw_w E d 81 (225, [some (2, 0), some (0, 32)], []) s ν' Q) : sw_w E d 81 (206, [some (2, 0), some (0, 0)], []) s ν Q := by
  have key : ∀ (n : Nat) (i : Int) (ν1 : mm_T), 0 ≤ i → i + n = 32 → (∀ p, p ≠ 2 → ν1 p = ν p) → (∀ j, 0 ≤ j → j < i → ν1 2 j = -1) → sw_w E d 81 (206, [some (2, 0), some (0, i)], []) s ν1 Q := by
    intro n
    induction n with
    | zero =>
      intro i ν1 h0 h1 h2 h3
      have hi : i = 32 := by omega
      subst hi
      refine sw_p 2 (f' := (209, [some (2, 0), some (0, 32)], [(0, 32), (0, 32)])) rfl ?_
      refine sw_ge2 (pt := 225) (pn := 212) rfl rfl rfl (by omega) (by omega) (fun _ => ?_) (fun h => absurd h (by decide))
      exact hk ν1 h2 h3
    | succ n ih =>
      intro i ν1 h0 h1 h2 h3
      refine sw_p 2 (f' := (209, [some (2, 0), some (0, i)], [(0, 32), (0, i)])) rfl ?_
      refine sw_ge2 (pt := 225) (pn := 212) rfl rfl rfl (by omega) (by omega) (fun h => absurd h (by omega)) (fun _ => ?_)
      refine sw_p 1 (f' := (213, [some (2, 0), some (0, i)], [(2, 0)])) rfl ?_
      refine sw_hA (pn := 216) (i := 2) (v := 2) rfl rfl rfl rfl rfl hs.1 (mo_s2 hs).1 (by omega) ?_
      refine sw_p 2 (f' := (218, [some (2, 0), some (0, i)], [(0, -1), (0, i), (2, 2)])) rfl ?_
      refine sw_ias (pn := 219) (l := 32) rfl rfl (by omega) (mo_s2 hs).2.1 (mo_s2 hs).2.2 (by omega) (by omega) ?_
      refine sw_p 2 (f' := (206, [some (2, 0), some (0, i + 1)], [])) rfl ?_
      refine ih (i + 1) _ (by omega) (by omega) (fun p hp => ?_) (fun j j0 j1 => ?_)
      · funext k
        rw [mm_u_ne (by omega), h2 p hp]
      · by_cases hj : j = i
        · rw [hj, mm_u_at]
        · rw [mm_u_ne (by omega)]; exact h3 j j0 (by omega)
  exact key 32 0 ν (by omega) (by omega) (fun p _ => rfl) (fun j j0 j1 => by omega)
theorem mi_l3 (hs : mo_sh s) (hk : ∀ ν', (∀ p, p ≠ 3 → ν' p = ν p) → (∀ j, 0 ≤ j → j < 8 → ν' 3 j = -1) → sw_w E d 81 (246, [some (2, 0), some (0, 8)], []) s ν' Q) : sw_w E d 81 (227, [some (2, 0), some (0, 0)], []) s ν Q := by
  have key : ∀ (n : Nat) (i : Int) (ν1 : mm_T), 0 ≤ i → i + n = 8 → (∀ p, p ≠ 3 → ν1 p = ν p) → (∀ j, 0 ≤ j → j < i → ν1 3 j = -1) → sw_w E d 81 (227, [some (2, 0), some (0, i)], []) s ν1 Q := by
    intro n
    induction n with
    | zero =>
      intro i ν1 h0 h1 h2 h3
      have hi : i = 8 := by omega
      subst hi
      refine sw_p 2 (f' := (230, [some (2, 0), some (0, 8)], [(0, 8), (0, 8)])) rfl ?_
      refine sw_ge2 (pt := 246) (pn := 233) rfl rfl rfl (by omega) (by omega) (fun _ => ?_) (fun h => absurd h (by decide))
      exact hk ν1 h2 h3
    | succ n ih =>
      intro i ν1 h0 h1 h2 h3
      refine sw_p 2 (f' := (230, [some (2, 0), some (0, i)], [(0, 8), (0, i)])) rfl ?_
      refine sw_ge2 (pt := 246) (pn := 233) rfl rfl rfl (by omega) (by omega) (fun h => absurd h (by omega)) (fun _ => ?_)
      refine sw_p 1 (f' := (234, [some (2, 0), some (0, i)], [(2, 0)])) rfl ?_
      refine sw_hA (pn := 237) (i := 3) (v := 3) rfl rfl rfl rfl rfl hs.1 (mo_s3 hs).1 (by omega) ?_
      refine sw_p 2 (f' := (239, [some (2, 0), some (0, i)], [(0, -1), (0, i), (2, 3)])) rfl ?_
      refine sw_ias (pn := 240) (l := 8) rfl rfl (by omega) (mo_s3 hs).2.1 (mo_s3 hs).2.2 (by omega) (by omega) ?_
      refine sw_p 2 (f' := (227, [some (2, 0), some (0, i + 1)], [])) rfl ?_
      refine ih (i + 1) _ (by omega) (by omega) (fun p hp => ?_) (fun j j0 j1 => ?_)
      · funext k
        rw [mm_u_ne (by omega), h2 p hp]
      · by_cases hj : j = i
        · rw [hj, mm_u_at]
        · rw [mm_u_ne (by omega)]; exact h3 j j0 (by omega)
  exact key 8 0 ν (by omega) (by omega) (fun p _ => rfl) (fun j j0 j1 => by omega)
theorem mi_0 (h106 : s (0 : Int) (-1) = 106) (hu : ∀ p, 1 ≤ p → p ≤ 30 → s p (-1) < 0) (hz : ∀ i, be_i i → ν 0 i = 0) (hQ : ∀ s' ν', mi_E s ν s' ν' → Q (.inl none) s' ν') : sw_w E d 81 (0, [some (2, 0), none], []) s ν Q := by
  revert hQ
  generalize hs0 : s = s0 at *
  generalize hv0 : ν = ν0 at *
  intro hQ
  refine sw_p 1 (f' := (1, [some (2, 0), none], [(2, 0)])) rfl ?_
  refine sw_oi (pn := 4) rfl rfl rfl ?_
  refine sw_p 2 (f' := (6, [some (2, 0), none], [(0, 1), (2, 0)])) rfl ?_
  refine sw_pI (pn := 9) (i := 1) rfl rfl rfl rfl rfl (by omega) h106 ?_
  have hJ : mi_J [] s0 ν0 s0 (mm_u ν0 0 1 1) := by
    refine ⟨h106, fun q hq => absurd hq (by simp), fun q hq => absurd hq (by simp), fun p g1 g2 _ => hu p g1 g2, fun p g1 => ⟨rfl, ?_⟩, ⟨by simp, by simp⟩, fun i g1 => ?_⟩
    · funext i
      exact mm_u_ne (by omega)
    · by_cases h1 : i = 1
      · rw [if_pos h1, h1, mm_u_at]
      · rw [if_neg h1, if_neg (by simp), mm_u_ne (by omega)]
        exact hz i g1
  clear h106 hu hz
  refine sw_p 2 (f' := (12, [some (2, 0), none], [(0, 32), (2, 0)])) rfl ?_
  refine sw_na (pn := 14) (t := 0) 2 rfl rfl rfl (by exact Or.inl rfl) (by omega) (by omega) (hJ.2.2.2.1 2 (by decide) (by decide) (by decide)) ?_
  refine sw_qA (pn := 17) (i := 2) rfl rfl rfl rfl rfl ((al_ne (by omega) (by omega)).trans hJ.1) ?_
  suffices h : ∀ s ν, mi_J [(2, 0, 32)] s0 ν0 s ν → sw_w E d 81 (17, [some (2, 0), none], []) s ν Q from h _ _ (mi_st hJ (by decide) (by decide) (by decide) (by decide))
  clear hJ
  intro s ν hJ
  refine sw_p 2 (f' := (20, [some (2, 0), none], [(0, 8), (2, 0)])) rfl ?_
  refine sw_na (pn := 22) (t := 0) 3 rfl rfl rfl (by exact Or.inl rfl) (by omega) (by omega) (hJ.2.2.2.1 3 (by decide) (by decide) (by decide)) ?_
  refine sw_qA (pn := 25) (i := 3) rfl rfl rfl rfl rfl ((al_ne (by omega) (by omega)).trans hJ.1) ?_
  suffices h : ∀ s ν, mi_J [(3, 0, 8), (2, 0, 32)] s0 ν0 s ν → sw_w E d 81 (25, [some (2, 0), none], []) s ν Q from h _ _ (mi_st hJ (by decide) (by decide) (by decide) (by decide))
  clear hJ
  intro s ν hJ
  refine sw_p 2 (f' := (28, [some (2, 0), none], [(0, 8), (2, 0)])) rfl ?_
  refine sw_na (pn := 30) (t := 0) 4 rfl rfl rfl (by exact Or.inl rfl) (by omega) (by omega) (hJ.2.2.2.1 4 (by decide) (by decide) (by decide)) ?_
  refine sw_qA (pn := 33) (i := 4) rfl rfl rfl rfl rfl ((al_ne (by omega) (by omega)).trans hJ.1) ?_
  suffices h : ∀ s ν, mi_J [(4, 0, 8), (3, 0, 8), (2, 0, 32)] s0 ν0 s ν → sw_w E d 81 (33, [some (2, 0), none], []) s ν Q from h _ _ (mi_st hJ (by decide) (by decide) (by decide) (by decide))
  clear hJ
  intro s ν hJ
  refine sw_p 2 (f' := (36, [some (2, 0), none], [(0, 8), (2, 0)])) rfl ?_
  refine sw_na (pn := 38) (t := 0) 5 rfl rfl rfl (by exact Or.inl rfl) (by omega) (by omega) (hJ.2.2.2.1 5 (by decide) (by decide) (by decide)) ?_
  refine sw_qA (pn := 41) (i := 5) rfl rfl rfl rfl rfl ((al_ne (by omega) (by omega)).trans hJ.1) ?_
  suffices h : ∀ s ν, mi_J [(5, 0, 8), (4, 0, 8), (3, 0, 8), (2, 0, 32)] s0 ν0 s ν → sw_w E d 81 (41, [some (2, 0), none], []) s ν Q from h _ _ (mi_st hJ (by decide) (by decide) (by decide) (by decide))
  clear hJ
  intro s ν hJ
  refine sw_p 2 (f' := (44, [some (2, 0), none], [(0, 8), (2, 0)])) rfl ?_
  refine sw_na (pn := 46) (t := 0) 6 rfl rfl rfl (by exact Or.inl rfl) (by omega) (by omega) (hJ.2.2.2.1 6 (by decide) (by decide) (by decide)) ?_
  refine sw_qA (pn := 49) (i := 6) rfl rfl rfl rfl rfl ((al_ne (by omega) (by omega)).trans hJ.1) ?_
  suffices h : ∀ s ν, mi_J [(6, 0, 8), (5, 0, 8), (4, 0, 8), (3, 0, 8), (2, 0, 32)] s0 ν0 s ν → sw_w E d 81 (49, [some (2, 0), none], []) s ν Q from h _ _ (mi_st hJ (by decide) (by decide) (by decide) (by decide))
  clear hJ
  intro s ν hJ
  refine sw_p 2 (f' := (52, [some (2, 0), none], [(0, 8), (2, 0)])) rfl ?_
  refine sw_na (pn := 54) (t := 0) 7 rfl rfl rfl (by exact Or.inl rfl) (by omega) (by omega) (hJ.2.2.2.1 7 (by decide) (by decide) (by decide)) ?_
  refine sw_qA (pn := 57) (i := 7) rfl rfl rfl rfl rfl ((al_ne (by omega) (by omega)).trans hJ.1) ?_
  suffices h : ∀ s ν, mi_J [(7, 0, 8), (6, 0, 8), (5, 0, 8), (4, 0, 8), (3, 0, 8), (2, 0, 32)] s0 ν0 s ν → sw_w E d 81 (57, [some (2, 0), none], []) s ν Q from h _ _ (mi_st hJ (by decide) (by decide) (by decide) (by decide))
  clear hJ
  intro s ν hJ
  refine sw_p 2 (f' := (60, [some (2, 0), none], [(0, 48), (2, 0)])) rfl ?_
  refine sw_na (pn := 62) (t := 0) 9 rfl rfl rfl (by exact Or.inl rfl) (by omega) (by omega) (hJ.2.2.2.1 9 (by decide) (by decide) (by decide)) ?_
  refine sw_qA (pn := 65) (i := 9) rfl rfl rfl rfl rfl ((al_ne (by omega) (by omega)).trans hJ.1) ?_
  suffices h : ∀ s ν, mi_J [(9, 0, 48), (7, 0, 8), (6, 0, 8), (5, 0, 8), (4, 0, 8), (3, 0, 8), (2, 0, 32)] s0 ν0 s ν → sw_w E d 81 (65, [some (2, 0), none], []) s ν Q from h _ _ (mi_st hJ (by decide) (by decide) (by decide) (by decide))
  clear hJ
  intro s ν hJ
  refine sw_p 2 (f' := (68, [some (2, 0), none], [(0, 16), (2, 0)])) rfl ?_
  refine sw_na (pn := 70) (t := 0) 10 rfl rfl rfl (by exact Or.inl rfl) (by omega) (by omega) (hJ.2.2.2.1 10 (by decide) (by decide) (by decide)) ?_
  refine sw_qA (pn := 73) (i := 10) rfl rfl rfl rfl rfl ((al_ne (by omega) (by omega)).trans hJ.1) ?_
  suffices h : ∀ s ν, mi_J [(10, 0, 16), (9, 0, 48), (7, 0, 8), (6, 0, 8), (5, 0, 8), (4, 0, 8), (3, 0, 8), (2, 0, 32)] s0 ν0 s ν → sw_w E d 81 (73, [some (2, 0), none], []) s ν Q from h _ _ (mi_st hJ (by decide) (by decide) (by decide) (by decide))
  clear hJ
  intro s ν hJ
  refine sw_p 2 (f' := (76, [some (2, 0), none], [(0, 16), (2, 0)])) rfl ?_
  refine sw_na (pn := 78) (t := 1) 11 rfl rfl rfl (by exact Or.inr (Or.inl rfl)) (by omega) (by omega) (hJ.2.2.2.1 11 (by decide) (by decide) (by decide)) ?_
  refine sw_qA (pn := 81) (i := 11) rfl rfl rfl rfl rfl ((al_ne (by omega) (by omega)).trans hJ.1) ?_
  suffices h : ∀ s ν, mi_J [(11, 1, 16), (10, 0, 16), (9, 0, 48), (7, 0, 8), (6, 0, 8), (5, 0, 8), (4, 0, 8), (3, 0, 8), (2, 0, 32)] s0 ν0 s ν → sw_w E d 81 (81, [some (2, 0), none], []) s ν Q from h _ _ (mi_st hJ (by decide) (by decide) (by decide) (by decide))
  clear hJ
  intro s ν hJ
  refine sw_p 2 (f' := (84, [some (2, 0), none], [(0, 40), (2, 0)])) rfl ?_
  refine sw_na (pn := 86) (t := 0) 13 rfl rfl rfl (by exact Or.inl rfl) (by omega) (by omega) (hJ.2.2.2.1 13 (by decide) (by decide) (by decide)) ?_
  refine sw_qA (pn := 89) (i := 13) rfl rfl rfl rfl rfl ((al_ne (by omega) (by omega)).trans hJ.1) ?_
  suffices h : ∀ s ν, mi_J [(13, 0, 40), (11, 1, 16), (10, 0, 16), (9, 0, 48), (7, 0, 8), (6, 0, 8), (5, 0, 8), (4, 0, 8), (3, 0, 8), (2, 0, 32)] s0 ν0 s ν → sw_w E d 81 (89, [some (2, 0), none], []) s ν Q from h _ _ (mi_st hJ (by decide) (by decide) (by decide) (by decide))
  clear hJ
  intro s ν hJ
  refine sw_p 2 (f' := (92, [some (2, 0), none], [(0, 40), (2, 0)])) rfl ?_
  refine sw_na (pn := 94) (t := 0) 14 rfl rfl rfl (by exact Or.inl rfl) (by omega) (by omega) (hJ.2.2.2.1 14 (by decide) (by decide) (by decide)) ?_
  refine sw_qA (pn := 97) (i := 14) rfl rfl rfl rfl rfl ((al_ne (by omega) (by omega)).trans hJ.1) ?_
  suffices h : ∀ s ν, mi_J [(14, 0, 40), (13, 0, 40), (11, 1, 16), (10, 0, 16), (9, 0, 48), (7, 0, 8), (6, 0, 8), (5, 0, 8), (4, 0, 8), (3, 0, 8), (2, 0, 32)] s0 ν0 s ν → sw_w E d 81 (97, [some (2, 0), none], []) s ν Q from h _ _ (mi_st hJ (by decide) (by decide) (by decide) (by decide))
  clear hJ
  intro s ν hJ
  refine sw_p 2 (f' := (100, [some (2, 0), none], [(0, 40), (2, 0)])) rfl ?_
  refine sw_na (pn := 102) (t := 0) 15 rfl rfl rfl (by exact Or.inl rfl) (by omega) (by omega) (hJ.2.2.2.1 15 (by decide) (by decide) (by decide)) ?_
  refine sw_qA (pn := 105) (i := 15) rfl rfl rfl rfl rfl ((al_ne (by omega) (by omega)).trans hJ.1) ?_
  suffices h : ∀ s ν, mi_J [(15, 0, 40), (14, 0, 40), (13, 0, 40), (11, 1, 16), (10, 0, 16), (9, 0, 48), (7, 0, 8), (6, 0, 8), (5, 0, 8), (4, 0, 8), (3, 0, 8), (2, 0, 32)] s0 ν0 s ν → sw_w E d 81 (105, [some (2, 0), none], []) s ν Q from h _ _ (mi_st hJ (by decide) (by decide) (by decide) (by decide))
  clear hJ
  intro s ν hJ
  refine sw_p 2 (f' := (108, [some (2, 0), none], [(0, 40), (2, 0)])) rfl ?_
  refine sw_na (pn := 110) (t := 0) 16 rfl rfl rfl (by exact Or.inl rfl) (by omega) (by omega) (hJ.2.2.2.1 16 (by decide) (by decide) (by decide)) ?_
  refine sw_qA (pn := 113) (i := 16) rfl rfl rfl rfl rfl ((al_ne (by omega) (by omega)).trans hJ.1) ?_
  suffices h : ∀ s ν, mi_J [(16, 0, 40), (15, 0, 40), (14, 0, 40), (13, 0, 40), (11, 1, 16), (10, 0, 16), (9, 0, 48), (7, 0, 8), (6, 0, 8), (5, 0, 8), (4, 0, 8), (3, 0, 8), (2, 0, 32)] s0 ν0 s ν → sw_w E d 81 (113, [some (2, 0), none], []) s ν Q from h _ _ (mi_st hJ (by decide) (by decide) (by decide) (by decide))
  clear hJ
  intro s ν hJ
  refine sw_p 2 (f' := (116, [some (2, 0), none], [(0, 120), (2, 0)])) rfl ?_
  refine sw_na (pn := 118) (t := 0) 17 rfl rfl rfl (by exact Or.inl rfl) (by omega) (by omega) (hJ.2.2.2.1 17 (by decide) (by decide) (by decide)) ?_
  refine sw_qA (pn := 121) (i := 17) rfl rfl rfl rfl rfl ((al_ne (by omega) (by omega)).trans hJ.1) ?_
  suffices h : ∀ s ν, mi_J [(17, 0, 120), (16, 0, 40), (15, 0, 40), (14, 0, 40), (13, 0, 40), (11, 1, 16), (10, 0, 16), (9, 0, 48), (7, 0, 8), (6, 0, 8), (5, 0, 8), (4, 0, 8), (3, 0, 8), (2, 0, 32)] s0 ν0 s ν → sw_w E d 81 (121, [some (2, 0), none], []) s ν Q from h _ _ (mi_st hJ (by decide) (by decide) (by decide) (by decide))
  clear hJ
  intro s ν hJ
  refine sw_p 2 (f' := (124, [some (2, 0), none], [(0, 120), (2, 0)])) rfl ?_
  refine sw_na (pn := 126) (t := 0) 18 rfl rfl rfl (by exact Or.inl rfl) (by omega) (by omega) (hJ.2.2.2.1 18 (by decide) (by decide) (by decide)) ?_
  refine sw_qA (pn := 129) (i := 18) rfl rfl rfl rfl rfl ((al_ne (by omega) (by omega)).trans hJ.1) ?_
  suffices h : ∀ s ν, mi_J [(18, 0, 120), (17, 0, 120), (16, 0, 40), (15, 0, 40), (14, 0, 40), (13, 0, 40), (11, 1, 16), (10, 0, 16), (9, 0, 48), (7, 0, 8), (6, 0, 8), (5, 0, 8), (4, 0, 8), (3, 0, 8), (2, 0, 32)] s0 ν0 s ν → sw_w E d 81 (129, [some (2, 0), none], []) s ν Q from h _ _ (mi_st hJ (by decide) (by decide) (by decide) (by decide))
  clear hJ
  intro s ν hJ
  refine sw_p 2 (f' := (132, [some (2, 0), none], [(0, 40), (2, 0)])) rfl ?_
  refine sw_na (pn := 134) (t := 0) 19 rfl rfl rfl (by exact Or.inl rfl) (by omega) (by omega) (hJ.2.2.2.1 19 (by decide) (by decide) (by decide)) ?_
  refine sw_qA (pn := 137) (i := 19) rfl rfl rfl rfl rfl ((al_ne (by omega) (by omega)).trans hJ.1) ?_
  suffices h : ∀ s ν, mi_J [(19, 0, 40), (18, 0, 120), (17, 0, 120), (16, 0, 40), (15, 0, 40), (14, 0, 40), (13, 0, 40), (11, 1, 16), (10, 0, 16), (9, 0, 48), (7, 0, 8), (6, 0, 8), (5, 0, 8), (4, 0, 8), (3, 0, 8), (2, 0, 32)] s0 ν0 s ν → sw_w E d 81 (137, [some (2, 0), none], []) s ν Q from h _ _ (mi_st hJ (by decide) (by decide) (by decide) (by decide))
  clear hJ
  intro s ν hJ
  refine sw_p 2 (f' := (140, [some (2, 0), none], [(0, 40), (2, 0)])) rfl ?_
  refine sw_na (pn := 142) (t := 0) 20 rfl rfl rfl (by exact Or.inl rfl) (by omega) (by omega) (hJ.2.2.2.1 20 (by decide) (by decide) (by decide)) ?_
  refine sw_qA (pn := 145) (i := 20) rfl rfl rfl rfl rfl ((al_ne (by omega) (by omega)).trans hJ.1) ?_
  suffices h : ∀ s ν, mi_K [(20, 0, 40), (19, 0, 40), (18, 0, 120), (17, 0, 120), (16, 0, 40), (15, 0, 40), (14, 0, 40), (13, 0, 40), (11, 1, 16), (10, 0, 16), (9, 0, 48), (7, 0, 8), (6, 0, 8), (5, 0, 8), (4, 0, 8), (3, 0, 8), (2, 0, 32)] s0 ν0 s ν → sw_w E d 81 (145, [some (2, 0), none], []) s ν Q from h _ _ (mi_sk hJ (by decide) (by decide) (by decide) rfl)
  clear hJ
  intro s ν hJ
  refine sw_p 2 (f' := (147, [some (2, 0), none], [(0, -1), (2, 0)])) rfl ?_
  refine sw_pI (pn := 150) (i := 21) rfl rfl rfl rfl rfl (by omega) hJ.1 ?_
  suffices h : ∀ s ν, mi_J [(20, 0, 40), (19, 0, 40), (18, 0, 120), (17, 0, 120), (16, 0, 40), (15, 0, 40), (14, 0, 40), (13, 0, 40), (11, 1, 16), (10, 0, 16), (9, 0, 48), (7, 0, 8), (6, 0, 8), (5, 0, 8), (4, 0, 8), (3, 0, 8), (2, 0, 32)] s0 ν0 s ν → sw_w E d 81 (150, [some (2, 0), none], []) s ν Q from h _ _ (mi_k hJ rfl (by decide))
  clear hJ
  intro s ν hJ
  refine sw_p 2 (f' := (154, [some (2, 0), none], [(0, 512), (2, 0)])) rfl ?_
  refine sw_na (pn := 156) (t := 0) 25 rfl rfl rfl (by exact Or.inl rfl) (by omega) (by omega) (hJ.2.2.2.1 25 (by decide) (by decide) (by decide)) ?_
  refine sw_qA (pn := 159) (i := 25) rfl rfl rfl rfl rfl ((al_ne (by omega) (by omega)).trans hJ.1) ?_
  suffices h : ∀ s ν, mi_J [(25, 0, 512), (20, 0, 40), (19, 0, 40), (18, 0, 120), (17, 0, 120), (16, 0, 40), (15, 0, 40), (14, 0, 40), (13, 0, 40), (11, 1, 16), (10, 0, 16), (9, 0, 48), (7, 0, 8), (6, 0, 8), (5, 0, 8), (4, 0, 8), (3, 0, 8), (2, 0, 32)] s0 ν0 s ν → sw_w E d 81 (159, [some (2, 0), none], []) s ν Q from h _ _ (mi_st hJ (by decide) (by decide) (by decide) (by decide))
  clear hJ
  intro s ν hJ
  refine sw_p 2 (f' := (163, [some (2, 0), none], [(0, 512), (2, 0)])) rfl ?_
  refine sw_na (pn := 165) (t := 0) 26 rfl rfl rfl (by exact Or.inl rfl) (by omega) (by omega) (hJ.2.2.2.1 26 (by decide) (by decide) (by decide)) ?_
  refine sw_qA (pn := 168) (i := 26) rfl rfl rfl rfl rfl ((al_ne (by omega) (by omega)).trans hJ.1) ?_
  suffices h : ∀ s ν, mi_J [(26, 0, 512), (25, 0, 512), (20, 0, 40), (19, 0, 40), (18, 0, 120), (17, 0, 120), (16, 0, 40), (15, 0, 40), (14, 0, 40), (13, 0, 40), (11, 1, 16), (10, 0, 16), (9, 0, 48), (7, 0, 8), (6, 0, 8), (5, 0, 8), (4, 0, 8), (3, 0, 8), (2, 0, 32)] s0 ν0 s ν → sw_w E d 81 (168, [some (2, 0), none], []) s ν Q from h _ _ (mi_st hJ (by decide) (by decide) (by decide) (by decide))
  clear hJ
  intro s ν hJ
  refine sw_p 2 (f' := (172, [some (2, 0), none], [(0, 512), (2, 0)])) rfl ?_
  refine sw_na (pn := 174) (t := 0) 27 rfl rfl rfl (by exact Or.inl rfl) (by omega) (by omega) (hJ.2.2.2.1 27 (by decide) (by decide) (by decide)) ?_
  refine sw_qA (pn := 177) (i := 27) rfl rfl rfl rfl rfl ((al_ne (by omega) (by omega)).trans hJ.1) ?_
  suffices h : ∀ s ν, mi_J [(27, 0, 512), (26, 0, 512), (25, 0, 512), (20, 0, 40), (19, 0, 40), (18, 0, 120), (17, 0, 120), (16, 0, 40), (15, 0, 40), (14, 0, 40), (13, 0, 40), (11, 1, 16), (10, 0, 16), (9, 0, 48), (7, 0, 8), (6, 0, 8), (5, 0, 8), (4, 0, 8), (3, 0, 8), (2, 0, 32)] s0 ν0 s ν → sw_w E d 81 (177, [some (2, 0), none], []) s ν Q from h _ _ (mi_st hJ (by decide) (by decide) (by decide) (by decide))
  clear hJ
  intro s ν hJ
  refine sw_p 2 (f' := (181, [some (2, 0), none], [(0, 512), (2, 0)])) rfl ?_
  refine sw_na (pn := 183) (t := 2) 28 rfl rfl rfl (by exact Or.inr (Or.inr rfl)) (by omega) (by omega) (hJ.2.2.2.1 28 (by decide) (by decide) (by decide)) ?_
  refine sw_qA (pn := 186) (i := 28) rfl rfl rfl rfl rfl ((al_ne (by omega) (by omega)).trans hJ.1) ?_
  suffices h : ∀ s ν, mi_J [(28, 2, 512), (27, 0, 512), (26, 0, 512), (25, 0, 512), (20, 0, 40), (19, 0, 40), (18, 0, 120), (17, 0, 120), (16, 0, 40), (15, 0, 40), (14, 0, 40), (13, 0, 40), (11, 1, 16), (10, 0, 16), (9, 0, 48), (7, 0, 8), (6, 0, 8), (5, 0, 8), (4, 0, 8), (3, 0, 8), (2, 0, 32)] s0 ν0 s ν → sw_w E d 81 (186, [some (2, 0), none], []) s ν Q from h _ _ (mi_st hJ (by decide) (by decide) (by decide) (by decide))
  clear hJ
  intro s ν hJ
  refine sw_p 2 (f' := (190, [some (2, 0), none], [(0, 4096), (2, 0)])) rfl ?_
  refine sw_na (pn := 192) (t := 1) 29 rfl rfl rfl (by exact Or.inr (Or.inl rfl)) (by omega) (by omega) (hJ.2.2.2.1 29 (by decide) (by decide) (by decide)) ?_
  refine sw_qA (pn := 195) (i := 29) rfl rfl rfl rfl rfl ((al_ne (by omega) (by omega)).trans hJ.1) ?_
  suffices h : ∀ s ν, mi_J [(29, 1, 4096), (28, 2, 512), (27, 0, 512), (26, 0, 512), (25, 0, 512), (20, 0, 40), (19, 0, 40), (18, 0, 120), (17, 0, 120), (16, 0, 40), (15, 0, 40), (14, 0, 40), (13, 0, 40), (11, 1, 16), (10, 0, 16), (9, 0, 48), (7, 0, 8), (6, 0, 8), (5, 0, 8), (4, 0, 8), (3, 0, 8), (2, 0, 32)] s0 ν0 s ν → sw_w E d 81 (195, [some (2, 0), none], []) s ν Q from h _ _ (mi_st hJ (by decide) (by decide) (by decide) (by decide))
  clear hJ
  intro s ν hJ
  refine sw_p 2 (f' := (199, [some (2, 0), none], [(0, 4096), (2, 0)])) rfl ?_
  refine sw_na (pn := 201) (t := 1) 30 rfl rfl rfl (by exact Or.inr (Or.inl rfl)) (by omega) (by omega) (hJ.2.2.2.1 30 (by decide) (by decide) (by decide)) ?_
  refine sw_qA (pn := 204) (i := 30) rfl rfl rfl rfl rfl ((al_ne (by omega) (by omega)).trans hJ.1) ?_
  suffices h : ∀ s ν, mi_J [(30, 1, 4096), (29, 1, 4096), (28, 2, 512), (27, 0, 512), (26, 0, 512), (25, 0, 512), (20, 0, 40), (19, 0, 40), (18, 0, 120), (17, 0, 120), (16, 0, 40), (15, 0, 40), (14, 0, 40), (13, 0, 40), (11, 1, 16), (10, 0, 16), (9, 0, 48), (7, 0, 8), (6, 0, 8), (5, 0, 8), (4, 0, 8), (3, 0, 8), (2, 0, 32)] s0 ν0 s ν → sw_w E d 81 (204, [some (2, 0), none], []) s ν Q from h _ _ (mi_st hJ (by decide) (by decide) (by decide) (by decide))
  clear hJ
  intro s ν hJ
  have hs : mo_sh s := ⟨hJ.1, fun q hq => hJ.2.1 q (List.mem_of_elem_eq_true (mi_in q hq))⟩
  refine sw_p 2 (f' := (206, [some (2, 0), some (0, 0)], [])) rfl ?_
  refine mi_l2 hs (fun ν2 e1 e2 => ?_)
  refine sw_p 2 (f' := (227, [some (2, 0), some (0, 0)], [])) rfl ?_
  refine mi_l3 hs (fun ν3 e3 e4 => ?_)
  refine sw_p 1 (f' := (247, [some (2, 0), some (0, 8)], [(2, 0)])) rfl ?_
  refine sw_hA (pn := 250) (i := 4) (v := 4) rfl rfl rfl rfl rfl hs.1 (mo_s4 hs).1 (by omega) ?_
  refine sw_p 2 (f' := (254, [some (2, 0), some (0, 8)], [(0, 1000), (0, 0), (2, 4)])) rfl ?_
  refine sw_ias (pn := 255) (l := 8) rfl rfl (by omega) (mo_s4 hs).2.1 (mo_s4 hs).2.2 (by omega) (by omega) ?_
  refine sw_p 1 (f' := (256, [some (2, 0), some (0, 8)], [(2, 0)])) rfl ?_
  refine sw_hA (pn := 259) (i := 6) (v := 6) rfl rfl rfl rfl rfl hs.1 (mo_s6 hs).1 (by omega) ?_
  refine sw_p 2 (f' := (263, [some (2, 0), some (0, 8)], [(0, 4096), (0, 0), (2, 6)])) rfl ?_
  refine sw_ias (pn := 264) (l := 8) rfl rfl (by omega) (mo_s6 hs).2.1 (mo_s6 hs).2.2 (by omega) (by omega) ?_
  refine sw_retV rfl rfl rfl (hQ _ _ ⟨hs, ?_, fun p hp => ⟨(hJ.2.2.2.2.1 p hp).1, ?_⟩, ?_, ?_⟩)
  · have hz := hJ.2.2.1
    have h0 := hJ.2.2.2.2.2.2
    have er : ∀ p, p ≠ 2 → p ≠ 3 → p ≠ 4 → p ≠ 6 → (mm_u (mm_u ν3 4 0 1000) 6 0 4096) p = ν p := fun p g1 g2 g3 g4 => by
      funext i
      rw [mm_u_ne (by omega), mm_u_ne (by omega), e3 p g2, e1 p g1]
    refine ⟨fun i g1 => ?_, fun i g1 g2 => ?_, fun i g1 g2 => ?_, fun i => ?_, fun i => ?_, fun p hp i => ?_⟩
    · rw [er 0 (by decide) (by decide) (by decide) (by decide), h0 i g1]
      by_cases h1 : i = 1
      · rw [if_pos h1, if_pos h1]
      · rw [if_neg h1, if_neg h1]
        by_cases h2 : i = 21
        · rw [if_pos ⟨h2, by decide⟩, if_pos h2]
        · rw [if_neg (fun h => h2 h.1), if_neg h2]
    · rw [mm_u_ne (by omega), mm_u_ne (by omega), e3 2 (by decide)]; exact e2 i g1 g2
    · rw [mm_u_ne (by omega), mm_u_ne (by omega)]; exact e4 i g1 g2
    · rw [mm_u_ne (by omega)]
      by_cases h1 : i = 0
      · rw [if_pos h1, h1, mm_u_at]
      · rw [if_neg h1, mm_u_ne (by omega), e3 4 (by decide), e1 4 (by decide)]
        exact hz (4, 0, 8) (by decide) i
    · by_cases h1 : i = 0
      · rw [if_pos h1, h1, mm_u_at]
      · rw [if_neg h1, mm_u_ne (by omega), mm_u_ne (by omega), e3 6 (by decide), e1 6 (by decide)]
        exact hz (6, 0, 8) (by decide) i
    · have hp2 := be_n p hp
      rw [er p hp2.1 hp2.2.1 hp2.2.2.1 hp2.2.2.2]
      have hp3 : ∃ q ∈ mo_fs, q.1 = p := be_m p hp
      obtain ⟨q, hq, rfl⟩ := hp3
      exact hz q (List.mem_of_elem_eq_true (mi_in q hq)) i
  · funext i
    rw [mm_u_ne (by omega), mm_u_ne (by omega), e3 p (by omega), e1 p (by omega), (hJ.2.2.2.2.1 p hp).2]
  · have := hJ.2.2.2.2.2.1.1
    simp only [List.length_cons, List.length_nil] at this
    omega
  · have := hJ.2.2.2.2.2.1.2
    simp only [List.length_cons, List.length_nil] at this
    omega
end MI
