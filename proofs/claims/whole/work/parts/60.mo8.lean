/-! the reference: leave, pull; bounds stay -/
section MO8
variable {E : mv_E} {s ν : mm_T} {d : Nat} {b c r x y w p f g k t v lo hi l z : Int}
set_option maxHeartbeats 1000000 in
theorem mo_B_15 (h : mo_B ν) (hz : 0 ≤ z ∧ z ≤ 5) : mo_B (mm_u ν 15 c z) := by
  have e : ∀ {p i : Int}, p ≠ 15 → mm_u ν 15 c z p i = ν p i := fun h => mm_u_ne (by omega)
  obtain ⟨h1, h2, h3, h4, h5, h6, h7, h8, h9, h10, h11, h12, h13, h14⟩ := h
  refine ⟨?_, ?_, ?_, ?_, ?_, ?_, ?_, ?_, ?_, ?_, ?_, ?_, ?_, ?_⟩
  · rw [e (by omega)]; exact h1
  · rw [e (by omega)]; exact h2
  · rw [e (by omega)]; exact h3
  · rw [e (by omega), e (by omega)]; exact h4
  · rw [e (by omega)]; exact h5
  · rw [e (by omega)]; exact h6
  · intro k a b; rw [e (by omega)]; exact h7 k a b
  · intro k a b; rw [e (by omega)]; exact h8 k a b
  · intro k a b; rw [e (by omega)]; exact h9 k a b
  · intro k a b; rw [e (by omega)]; exact h10 k a b
  · intro k a b
    rw [e (p := 13) (by omega), e (p := 14) (by omega), e (p := 19) (by omega)]
    have h := h11 k a b
    refine ⟨h.1, h.2.1, ?_, h.2.2.2⟩
    by_cases hk : k = c
    · rw [hk, mm_u_at]; exact hz
    · rw [mm_u_ne (by omega)]; exact h.2.2.1
  · intro k a b; rw [e (by omega)]; exact h12 k a b
  · intro k a b; rw [e (by omega)]; exact h13 k a b
  · intro k a b; rw [e (by omega), e (by omega), e (by omega)]; exact h14 k a b
set_option maxHeartbeats 1000000 in
theorem mo_B_ch (h : mo_B ν) (hz : 0 ≤ y ∧ y ≤ 5) : mo_B (mo_ch ν x y) := by
  have e : ∀ {p i : Int}, p ≠ 15 → mo_ch ν x y p i = ν p i := fun h => rg_ne (by omega)
  obtain ⟨h1, h2, h3, h4, h5, h6, h7, h8, h9, h10, h11, h12, h13, h14⟩ := h
  refine ⟨?_, ?_, ?_, ?_, ?_, ?_, ?_, ?_, ?_, ?_, ?_, ?_, ?_, ?_⟩
  · rw [e (by omega)]; exact h1
  · rw [e (by omega)]; exact h2
  · rw [e (by omega)]; exact h3
  · rw [e (by omega), e (by omega)]; exact h4
  · rw [e (by omega)]; exact h5
  · rw [e (by omega)]; exact h6
  · intro k a b; rw [e (by omega)]; exact h7 k a b
  · intro k a b; rw [e (by omega)]; exact h8 k a b
  · intro k a b; rw [e (by omega)]; exact h9 k a b
  · intro k a b; rw [e (by omega)]; exact h10 k a b
  · intro k a b
    rw [e (p := 13) (by omega), e (p := 14) (by omega), e (p := 19) (by omega)]
    have h := h11 k a b
    refine ⟨h.1, h.2.1, ?_, h.2.2.2⟩
    unfold mo_ch
    by_cases hk : k < ν 0 12
    · rw [rg_at ⟨a, hk⟩]
      split
      · exact hz
      · exact h.2.2.1
    · rw [rg_ne (by omega)]; exact h.2.2.1
  · intro k a b; rw [e (by omega)]; exact h12 k a b
  · intro k a b; rw [e (by omega)]; exact h13 k a b
  · intro k a b; rw [e (by omega), e (by omega), e (by omega)]; exact h14 k a b
/-- what is read of a memory with a card taken out -/
theorem mo_rm_ne (hp : p ≠ 0) (h2 : p ≠ 2) (h15 : p ≠ 15) (h17 : p ≠ 17) (h19 : p ≠ 19) : mo_rm ν c y p k = ν p k := by
  unfold mo_rm mo_rm3 mo_rm2 mo_rm1
  rw [mm_u_ne (by omega), rg_ne (by omega), rg_ne (by omega), mm_u_ne (by omega), mm_u_ne (by omega)]
theorem mo_rm_0 (hk : k ≠ 21) : mo_rm ν c y 0 k = ν 0 k := by
  unfold mo_rm
  rw [mm_u_ne (by omega), mo_rm3_0]
theorem mo_rm_21 : mo_rm ν c y 0 21 = if ν 0 21 = c then -1 else ν 0 21 := by
  unfold mo_rm
  rw [mm_u_at]
theorem mo_rm_2 (hk : 0 ≤ k ∧ k < 32) : mo_rm ν c y 2 k = if ν 2 k = 100 + c then -1 else ν 2 k := by
  unfold mo_rm mo_rm3
  rw [mm_u_ne (by omega), rg_at hk]
theorem mo_rm_15 : mo_rm ν c y 15 k = if k = c then y else ν 15 k := by
  unfold mo_rm mo_rm3 mo_rm2 mo_rm1
  rw [mm_u_ne (by omega), rg_ne (by omega), rg_ne (by omega), mm_u_ne (by omega)]
  by_cases h : k = c
  · rw [if_pos h, h, mm_u_at]
  · rw [if_neg h, mm_u_ne (by omega)]
theorem mo_rm_19 : mo_rm ν c y 19 k = if k = c then 0 else ν 19 k := by
  unfold mo_rm mo_rm3 mo_rm2 mo_rm1
  rw [mm_u_ne (by omega), rg_ne (by omega), rg_ne (by omega)]
  by_cases h : k = c
  · rw [if_pos h, h, mm_u_at]
  · rw [if_neg h, mm_u_ne (by omega), mm_u_ne (by omega)]
theorem mo_rm_17 : mo_rm ν c y 17 k = if 3 * c ≤ k ∧ k < 3 * c + 3 then -1 else ν 17 k := by
  unfold mo_rm mo_rm3 mo_rm2 mo_rm1
  rw [mm_u_ne (by omega), rg_ne (by omega)]
  by_cases h : 3 * c ≤ k ∧ k < 3 * c + 3
  · rw [if_pos h, rg_at h]
  · rw [if_neg h, rg_ne (by omega), mm_u_ne (by omega), mm_u_ne (by omega)]
set_option maxHeartbeats 1000000 in
theorem mo_B_rm (h : mo_B ν) (hc : 0 ≤ c) (hz : 0 ≤ y ∧ y ≤ 5) : mo_B (mo_rm ν c y) := by
  have e : ∀ {p i : Int}, p ≠ 0 ∧ p ≠ 2 ∧ p ≠ 15 ∧ p ≠ 17 ∧ p ≠ 19 → mo_rm ν c y p i = ν p i := fun h => mo_rm_ne h.1 h.2.1 h.2.2.1 h.2.2.2.1 h.2.2.2.2
  obtain ⟨h1, h2, h3, h4, h5, h6, h7, h8, h9, h10, h11, h12, h13, h14⟩ := h
  refine ⟨?_, ?_, ?_, ?_, ?_, ?_, ?_, ?_, ?_, ?_, ?_, ?_, ?_, ?_⟩
  · rw [mo_rm_0 (by omega)]; exact h1
  · rw [mo_rm_0 (by omega)]; exact h2
  · rw [mo_rm_0 (by omega)]; exact h3
  · rw [mo_rm_0 (k := 12) (by omega), mo_rm_21]; split <;> omega
  · rw [mo_rm_0 (by omega)]; exact h5
  · rw [mo_rm_0 (by omega)]; exact h6
  · intro k a b; rw [e (by omega)]; exact h7 k a b
  · intro k a b
    have h := h8 k a b
    rw [mo_rm_2 ⟨a, b⟩]
    split <;> omega
  · intro k a b; rw [e (by omega)]; exact h9 k a b
  · intro k a b; rw [e (by omega)]; exact h10 k a b
  · intro k a b
    have h := h11 k a b
    rw [e (by omega), e (by omega), mo_rm_15, mo_rm_19]
    refine ⟨h.1, h.2.1, ?_, ?_⟩
    · split <;> omega
    · split <;> omega
  · intro k a b; rw [e (by omega)]; exact h12 k a b
  · intro k a b
    have h := h13 k a b
    rw [mo_rm_17]
    split <;> omega
  · intro k a b; rw [e (by omega), e (by omega), e (by omega)]; exact h14 k a b
theorem mo_fi_b (ν : mm_T) (c : Int) : ∀ (n : Nat) (r : Int), -1 ≤ r ∧ r < 512 → n ≤ 512 → -1 ≤ mo_fi ν c r n ∧ mo_fi ν c r n < 512
  | 0, r, hr, _ => hr
  | n + 1, r, hr, hn => by
    rw [mo_fi]
    refine mo_fi_b ν c n _ ?_ (by omega)
    split <;> omega
/-- a card that leaves -/
def mo_lv (ν : mm_T) (c : Int) : mm_T := mm_u (mo_cd ν 0) 15 c 3
def mo_lw (ν : mm_T) (c : Int) : Int := if 0 < ν 19 c then mo_fi (mo_lv ν c) c (-1) (mo_lv ν c 0 24).toNat else -1
/-- a card pulled: the others may go on -/
def mo_pu (ν : mm_T) (c : Int) : mm_T := if c = ν 0 21 ∧ ν 0 22 ≠ 0 then mo_ch (mo_cd ν 0) 2 1 else mo_cd ν 0
theorem mo_leave_a (hs : mo_sh s) (hB : mo_B ν) (hc : 0 ≤ c ∧ c < ν 0 12) (h1 : ν 15 c = 1) (h2 : 0 < ν 19 c) : sw_w E (d + 1) 114 (0, [some (2, 0), some (0, c)], []) s ν (sw_is (some (0, sm_s (mo_lsn (mo_lv ν c) c (mo_lw ν c)) (mo_lv ν c 0 24).toNat)) s (mo_ls (mo_lv ν c) c (mo_lw ν c))) := by
  have hn := hB.2.2.1
  have hcd := hB.cd c (by omega) (by omega)
  have hBl : mo_B (mo_lv ν c) := mo_B_15 (mo_B_cd hB) (by omega)
  have h24 : mo_lv ν c 0 24 = ν 0 24 := (mm_u_ne (by omega)).trans (mm_u_ne (by omega))
  have htk := hB.2.2.2.2.2.1
  have hfb := mo_fi_b (mo_lv ν c) c (mo_lv ν c 0 24).toNat (-1) (by omega) (by omega)
  refine sw_p 3 (f' := (3, [some (2, 0), some (0, c)], [(0, c), (2, 0), (2, 0)])) rfl ?_
  refine sw_cv1 (pn := 6) (q0 := mj_Mo_leave) (q := mj_Mo_isCard) (p := 0) (as2 := [(0, c)]) (L2 := [some (2, 0), some (0, c)]) (rest := [(2, 0)]) (v := some (0, 1)) (s1 := s) (ν1 := ν) rfl rfl rfl rfl rfl rfl rfl rfl rfl hs.1 (mo_isC1 hs hB (by omega)) ?_
  show sw_w E _ 114 (6, [some (2, 0), some (0, c)], [(0, 1), (2, 0)]) s ν _
  refine sw_ne1 (pt := 13) (pn := 9) rfl rfl rfl (by omega) (fun _ => ?_) (fun h => absurd h (by decide))
  refine sw_p 1 (f' := (14, [some (2, 0), some (0, c)], [(2, 0), (2, 0)])) rfl ?_
  refine sw_hA (pn := 17) (i := 15) (v := 15) rfl rfl rfl rfl rfl hs.1 (mo_s15 hs).1 (by omega) ?_
  refine sw_p 1 (f' := (18, [some (2, 0), some (0, c)], [(0, c), (2, 15), (2, 0)])) rfl ?_
  refine sw_ial (pn := 19) (l := 40) rfl rfl (by omega) (mo_s15 hs).2.1 (mo_s15 hs).2.2 (by omega) (by omega) ?_
  refine sw_p 1 (f' := (20, [some (2, 0), some (0, c)], [(0, 1), (0, ν 15 c), (2, 0)])) rfl ?_
  refine sw_eq2 (pt := 27) (pn := 23) rfl rfl rfl (by omega) (by omega) (fun h2 => ?_) (fun h => absurd h (by omega))
  refine sw_p 1 (f' := (28, [some (2, 0), some (0, c)], [(0, 0), (2, 0)])) rfl ?_
  refine sw_pI (pn := 31) (i := 0) rfl rfl rfl rfl rfl (by omega) hs.1 ?_
  refine sw_p 1 (f' := (32, [some (2, 0), some (0, c)], [(2, 0)])) rfl ?_
  refine sw_gI (pn := 35) (i := 0) rfl rfl rfl rfl rfl (by omega) hs.1 ?_
  rw [show (mm_u ν 0 0 0) 0 0 = 0 from mm_u_at]
  refine sw_le1 (pt := 40) (pn := 38) rfl rfl rfl (by omega) (fun _ => ?_) (fun h => absurd h (by decide))
  refine sw_p 1 (f' := (41, [some (2, 0), some (0, c)], [(2, 0)])) rfl ?_
  refine sw_hA (pn := 44) (i := 15) (v := 15) rfl rfl rfl rfl rfl hs.1 (mo_s15 hs).1 (by omega) ?_
  refine sw_p 2 (f' := (46, [some (2, 0), some (0, c)], [(0, 3), (0, c), (2, 15)])) rfl ?_
  refine sw_ias (pn := 47) (l := 40) rfl rfl (by omega) (mo_s15 hs).2.1 (mo_s15 hs).2.2 (by omega) (by omega) ?_
  refine sw_p 3 (f' := (50, [some (2, 0), some (0, c)], [(2, 0), (0, c), (2, 0)])) rfl ?_
  refine sw_hA (pn := 53) (i := 19) (v := 19) rfl rfl rfl rfl rfl hs.1 (mo_s19 hs).1 (by omega) ?_
  refine sw_p 1 (f' := (54, [some (2, 0), some (0, c)], [(0, c), (2, 19), (0, c), (2, 0)])) rfl ?_
  refine sw_ial (pn := 55) (l := 40) rfl rfl (by omega) (mo_s19 hs).2.1 (mo_s19 hs).2.2 (by omega) (by omega) ?_
  rw [show (mm_u (mm_u ν 0 0 0) 15 c 3) 19 c = ν 19 c from (mm_u_ne (by omega)).trans (mm_u_ne (by omega))]
  refine sw_le1 (pt := 66) (pn := 58) rfl rfl rfl (by omega) (fun h => absurd h (by omega)) (fun h4 => ?_)
  refine sw_p 2 (f' := (60, [some (2, 0), some (0, c)], [(0, c), (2, 0), (0, c), (2, 0)])) rfl ?_
  refine sw_cv1 (pn := 63) (q0 := mj_Mo_leave) (q := mj_Mo_firstOf) (p := 0) (as2 := [(0, c)]) (L2 := [some (2, 0), some (0, c), none, none]) (rest := [(0, c), (2, 0)]) (v := some (0, mo_fi (mo_lv ν c) c (-1) (mo_lv ν c 0 24).toNat)) (s1 := s) (ν1 := (mm_u (mm_u ν 0 0 0) 15 c 3)) rfl rfl rfl rfl rfl rfl rfl rfl rfl hs.1 (mo_firstOf hs hBl (by omega)) ?_
  show sw_w E _ 114 (63, [some (2, 0), some (0, c)], [(0, mo_fi (mo_lv ν c) c (-1) (mo_lv ν c 0 24).toNat), (0, c), (2, 0)]) s (mm_u (mm_u ν 0 0 0) 15 c 3) _
  refine sw_p 1 (f' := (67, [some (2, 0), some (0, c)], [(0, mo_fi (mo_lv ν c) c (-1) (mo_lv ν c 0 24).toNat), (0, c), (2, 0)])) rfl ?_
  refine sw_cv1 (pn := 70) (q0 := mj_Mo_leave) (q := mj_Mo_lose) (p := 0) (as2 := [(0, c), (0, mo_fi (mo_lv ν c) c (-1) (mo_lv ν c 0 24).toNat)]) (L2 := [some (2, 0), some (0, c), some (0, mo_fi (mo_lv ν c) c (-1) (mo_lv ν c 0 24).toNat), none, none]) (rest := []) (v := some (0, sm_s (mo_lsn (mo_lv ν c) c (mo_lw ν c)) (mo_lv ν c 0 24).toNat)) (s1 := s) (ν1 := (mo_ls (mo_lv ν c) c (mo_lw ν c))) rfl rfl rfl rfl rfl rfl rfl rfl rfl hs.1 (by rw [show mo_fi (mo_lv ν c) c (-1) (mo_lv ν c 0 24).toNat = mo_lw ν c by unfold mo_lw; rw [if_pos (by omega)]]; exact mo_lose hs hBl (by omega) (by unfold mo_lw; split <;> omega)) ?_
  show sw_w E _ 114 (70, [some (2, 0), some (0, c)], [(0, sm_s (mo_lsn (mo_lv ν c) c (mo_lw ν c)) (mo_lv ν c 0 24).toNat)]) s (mo_ls (mo_lv ν c) c (mo_lw ν c)) _
  exact sw_retI rfl rfl rfl ⟨rfl, rfl, rfl⟩
theorem mo_leave_b (hs : mo_sh s) (hB : mo_B ν) (hc : 0 ≤ c ∧ c < ν 0 12) (h1 : ν 15 c = 1) (h2 : ν 19 c ≤ 0) : sw_w E (d + 1) 114 (0, [some (2, 0), some (0, c)], []) s ν (sw_is (some (0, sm_s (mo_lsn (mo_lv ν c) c (mo_lw ν c)) (mo_lv ν c 0 24).toNat)) s (mo_ls (mo_lv ν c) c (mo_lw ν c))) := by
  have hn := hB.2.2.1
  have hcd := hB.cd c (by omega) (by omega)
  have hBl : mo_B (mo_lv ν c) := mo_B_15 (mo_B_cd hB) (by omega)
  have h24 : mo_lv ν c 0 24 = ν 0 24 := (mm_u_ne (by omega)).trans (mm_u_ne (by omega))
  have htk := hB.2.2.2.2.2.1
  have hfb := mo_fi_b (mo_lv ν c) c (mo_lv ν c 0 24).toNat (-1) (by omega) (by omega)
  refine sw_p 3 (f' := (3, [some (2, 0), some (0, c)], [(0, c), (2, 0), (2, 0)])) rfl ?_
  refine sw_cv1 (pn := 6) (q0 := mj_Mo_leave) (q := mj_Mo_isCard) (p := 0) (as2 := [(0, c)]) (L2 := [some (2, 0), some (0, c)]) (rest := [(2, 0)]) (v := some (0, 1)) (s1 := s) (ν1 := ν) rfl rfl rfl rfl rfl rfl rfl rfl rfl hs.1 (mo_isC1 hs hB (by omega)) ?_
  show sw_w E _ 114 (6, [some (2, 0), some (0, c)], [(0, 1), (2, 0)]) s ν _
  refine sw_ne1 (pt := 13) (pn := 9) rfl rfl rfl (by omega) (fun _ => ?_) (fun h => absurd h (by decide))
  refine sw_p 1 (f' := (14, [some (2, 0), some (0, c)], [(2, 0), (2, 0)])) rfl ?_
  refine sw_hA (pn := 17) (i := 15) (v := 15) rfl rfl rfl rfl rfl hs.1 (mo_s15 hs).1 (by omega) ?_
  refine sw_p 1 (f' := (18, [some (2, 0), some (0, c)], [(0, c), (2, 15), (2, 0)])) rfl ?_
  refine sw_ial (pn := 19) (l := 40) rfl rfl (by omega) (mo_s15 hs).2.1 (mo_s15 hs).2.2 (by omega) (by omega) ?_
  refine sw_p 1 (f' := (20, [some (2, 0), some (0, c)], [(0, 1), (0, ν 15 c), (2, 0)])) rfl ?_
  refine sw_eq2 (pt := 27) (pn := 23) rfl rfl rfl (by omega) (by omega) (fun h2 => ?_) (fun h => absurd h (by omega))
  refine sw_p 1 (f' := (28, [some (2, 0), some (0, c)], [(0, 0), (2, 0)])) rfl ?_
  refine sw_pI (pn := 31) (i := 0) rfl rfl rfl rfl rfl (by omega) hs.1 ?_
  refine sw_p 1 (f' := (32, [some (2, 0), some (0, c)], [(2, 0)])) rfl ?_
  refine sw_gI (pn := 35) (i := 0) rfl rfl rfl rfl rfl (by omega) hs.1 ?_
  rw [show (mm_u ν 0 0 0) 0 0 = 0 from mm_u_at]
  refine sw_le1 (pt := 40) (pn := 38) rfl rfl rfl (by omega) (fun _ => ?_) (fun h => absurd h (by decide))
  refine sw_p 1 (f' := (41, [some (2, 0), some (0, c)], [(2, 0)])) rfl ?_
  refine sw_hA (pn := 44) (i := 15) (v := 15) rfl rfl rfl rfl rfl hs.1 (mo_s15 hs).1 (by omega) ?_
  refine sw_p 2 (f' := (46, [some (2, 0), some (0, c)], [(0, 3), (0, c), (2, 15)])) rfl ?_
  refine sw_ias (pn := 47) (l := 40) rfl rfl (by omega) (mo_s15 hs).2.1 (mo_s15 hs).2.2 (by omega) (by omega) ?_
  refine sw_p 3 (f' := (50, [some (2, 0), some (0, c)], [(2, 0), (0, c), (2, 0)])) rfl ?_
  refine sw_hA (pn := 53) (i := 19) (v := 19) rfl rfl rfl rfl rfl hs.1 (mo_s19 hs).1 (by omega) ?_
  refine sw_p 1 (f' := (54, [some (2, 0), some (0, c)], [(0, c), (2, 19), (0, c), (2, 0)])) rfl ?_
  refine sw_ial (pn := 55) (l := 40) rfl rfl (by omega) (mo_s19 hs).2.1 (mo_s19 hs).2.2 (by omega) (by omega) ?_
  rw [show (mm_u (mm_u ν 0 0 0) 15 c 3) 19 c = ν 19 c from (mm_u_ne (by omega)).trans (mm_u_ne (by omega))]
  refine sw_le1 (pt := 66) (pn := 58) rfl rfl rfl (by omega) (fun h4 => ?_) (fun h => absurd h (by omega))
  refine sw_p 1 (f' := (67, [some (2, 0), some (0, c)], [(0, -1), (0, c), (2, 0)])) rfl ?_
  refine sw_cv1 (pn := 70) (q0 := mj_Mo_leave) (q := mj_Mo_lose) (p := 0) (as2 := [(0, c), (0, -1)]) (L2 := [some (2, 0), some (0, c), some (0, -1), none, none]) (rest := []) (v := some (0, sm_s (mo_lsn (mo_lv ν c) c (mo_lw ν c)) (mo_lv ν c 0 24).toNat)) (s1 := s) (ν1 := (mo_ls (mo_lv ν c) c (mo_lw ν c))) rfl rfl rfl rfl rfl rfl rfl rfl rfl hs.1 (by rw [show -1 = mo_lw ν c by unfold mo_lw; rw [if_neg (by omega)]]; exact mo_lose hs hBl (by omega) (by unfold mo_lw; split <;> omega)) ?_
  show sw_w E _ 114 (70, [some (2, 0), some (0, c)], [(0, sm_s (mo_lsn (mo_lv ν c) c (mo_lw ν c)) (mo_lv ν c 0 24).toNat)]) s (mo_ls (mo_lv ν c) c (mo_lw ν c)) _
  exact sw_retI rfl rfl rfl ⟨rfl, rfl, rfl⟩
theorem mo_leave_s (hs : mo_sh s) (hB : mo_B ν) (hc : 0 ≤ c ∧ c < ν 0 12) (h1 : ν 15 c ≠ 1) : sw_w E (d + 1) 114 (0, [some (2, 0), some (0, c)], []) s ν (sw_is (some (0, 0)) s (mo_cd ν 2)) := by
  have hn := hB.2.2.1
  have hcd := hB.cd c
  refine sw_p 3 (f' := (3, [some (2, 0), some (0, c)], [(0, c), (2, 0), (2, 0)])) rfl ?_
  refine sw_cv1 (pn := 6) (q0 := mj_Mo_leave) (q := mj_Mo_isCard) (p := 0) (as2 := [(0, c)]) (L2 := [some (2, 0), some (0, c)]) (rest := [(2, 0)]) (v := some (0, 1)) (s1 := s) (ν1 := ν) rfl rfl rfl rfl rfl rfl rfl rfl rfl hs.1 (mo_isC1 hs hB (by omega)) ?_
  show sw_w E _ 114 (6, [some (2, 0), some (0, c)], [(0, 1), (2, 0)]) s ν _
  refine sw_ne1 (pt := 13) (pn := 9) rfl rfl rfl (by omega) (fun _ => ?_) (fun h => absurd h (by decide))
  refine sw_p 1 (f' := (14, [some (2, 0), some (0, c)], [(2, 0), (2, 0)])) rfl ?_
  refine sw_hA (pn := 17) (i := 15) (v := 15) rfl rfl rfl rfl rfl hs.1 (mo_s15 hs).1 (by omega) ?_
  refine sw_p 1 (f' := (18, [some (2, 0), some (0, c)], [(0, c), (2, 15), (2, 0)])) rfl ?_
  refine sw_ial (pn := 19) (l := 40) rfl rfl (by omega) (mo_s15 hs).2.1 (mo_s15 hs).2.2 (by omega) (by omega) ?_
  refine sw_p 1 (f' := (20, [some (2, 0), some (0, c)], [(0, 1), (0, ν 15 c), (2, 0)])) rfl ?_
  refine sw_eq2 (pt := 27) (pn := 23) rfl rfl rfl (by omega) (by omega) (fun h => absurd h (by omega)) (fun h2 => ?_)
  refine sw_p 2 (f' := (28, [some (2, 0), some (0, c)], [(0, 2), (2, 0)])) rfl ?_
  refine sw_pI (pn := 31) (i := 0) rfl rfl rfl rfl rfl (by omega) hs.1 ?_
  refine sw_p 1 (f' := (32, [some (2, 0), some (0, c)], [(2, 0)])) rfl ?_
  refine sw_gI (pn := 35) (i := 0) rfl rfl rfl rfl rfl (by omega) hs.1 ?_
  rw [show (mm_u ν 0 0 2) 0 0 = 2 from mm_u_at]
  refine sw_le1 (pt := 40) (pn := 38) rfl rfl rfl (by omega) (fun h => absurd h (by decide)) (fun _ => ?_)
  refine sw_p 1 (f' := (39, [some (2, 0), some (0, c)], [(0, 0)])) rfl ?_
  exact sw_retI rfl rfl rfl ⟨rfl, rfl, rfl⟩
theorem mo_leave_bad (hs : mo_sh s) (hB : mo_B ν) (hc : -2147483648 ≤ c ∧ c < 2147483648) (h0 : ¬ (0 ≤ c ∧ c < ν 0 12)) : sw_w E (d + 1) 114 (0, [some (2, 0), some (0, c)], []) s ν (sw_is (some (0, 0)) s (mo_cd ν 1)) := by
  have hn := hB.2.2.1
  have hcd := hB.cd c
  refine sw_p 3 (f' := (3, [some (2, 0), some (0, c)], [(0, c), (2, 0), (2, 0)])) rfl ?_
  refine sw_cv1 (pn := 6) (q0 := mj_Mo_leave) (q := mj_Mo_isCard) (p := 0) (as2 := [(0, c)]) (L2 := [some (2, 0), some (0, c)]) (rest := [(2, 0)]) (v := some (0, 0)) (s1 := s) (ν1 := ν) rfl rfl rfl rfl rfl rfl rfl rfl rfl hs.1 (mo_isC0 hs hB (by omega) (by omega)) ?_
  show sw_w E _ 114 (6, [some (2, 0), some (0, c)], [(0, 0), (2, 0)]) s ν _
  refine sw_ne1 (pt := 13) (pn := 9) rfl rfl rfl (by omega) (fun h => absurd h (by decide)) (fun _ => ?_)
  refine sw_p 2 (f' := (28, [some (2, 0), some (0, c)], [(0, 1), (2, 0)])) rfl ?_
  refine sw_pI (pn := 31) (i := 0) rfl rfl rfl rfl rfl (by omega) hs.1 ?_
  refine sw_p 1 (f' := (32, [some (2, 0), some (0, c)], [(2, 0)])) rfl ?_
  refine sw_gI (pn := 35) (i := 0) rfl rfl rfl rfl rfl (by omega) hs.1 ?_
  rw [show (mm_u ν 0 0 1) 0 0 = 1 from mm_u_at]
  refine sw_le1 (pt := 40) (pn := 38) rfl rfl rfl (by omega) (fun h => absurd h (by decide)) (fun _ => ?_)
  refine sw_p 1 (f' := (39, [some (2, 0), some (0, c)], [(0, 0)])) rfl ?_
  exact sw_retI rfl rfl rfl ⟨rfl, rfl, rfl⟩
theorem mo_pull_a (hs : mo_sh s) (hB : mo_B ν) (hc : 0 ≤ c ∧ c < ν 0 12) (h1 : ν 15 c ≠ 4) (h2 : ν 15 c ≠ 5) (h3 : c = ν 0 21) (h4 : ν 0 22 ≠ 0) : sw_w E (d + 1) 111 (0, [some (2, 0), some (0, c)], []) s ν (sw_is (some (0, sm_s (mo_lsn (mo_rm (mo_pu ν c) c 4) c (-1)) (mo_rm (mo_pu ν c) c 4 0 24).toNat)) s (mo_ls (mo_rm (mo_pu ν c) c 4) c (-1))) := by
  have hn := hB.2.2.1
  have hcd := hB.cd c (by omega) (by omega)
  have hcm := hB.2.2.2.1
  have hck := hB.2.2.2.2.1
  have hBp : mo_B (mo_pu ν c) := by
    unfold mo_pu
    split
    · exact mo_B_ch (mo_B_cd hB) (by omega)
    · exact mo_B_cd hB
  have hBr : mo_B (mo_rm (mo_pu ν c) c 4) := mo_B_rm hBp (by omega) (by omega)
  refine sw_p 3 (f' := (3, [some (2, 0), some (0, c)], [(0, c), (2, 0), (2, 0)])) rfl ?_
  refine sw_cv1 (pn := 6) (q0 := mj_Mo_pull) (q := mj_Mo_isCard) (p := 0) (as2 := [(0, c)]) (L2 := [some (2, 0), some (0, c)]) (rest := [(2, 0)]) (v := some (0, 1)) (s1 := s) (ν1 := ν) rfl rfl rfl rfl rfl rfl rfl rfl rfl hs.1 (mo_isC1 hs hB (by omega)) ?_
  show sw_w E _ 111 (6, [some (2, 0), some (0, c)], [(0, 1), (2, 0)]) s ν _
  refine sw_ne1 (pt := 13) (pn := 9) rfl rfl rfl (by omega) (fun _ => ?_) (fun h => absurd h (by decide))
  refine sw_p 1 (f' := (14, [some (2, 0), some (0, c)], [(2, 0), (2, 0)])) rfl ?_
  refine sw_hA (pn := 17) (i := 15) (v := 15) rfl rfl rfl rfl rfl hs.1 (mo_s15 hs).1 (by omega) ?_
  refine sw_p 1 (f' := (18, [some (2, 0), some (0, c)], [(0, c), (2, 15), (2, 0)])) rfl ?_
  refine sw_ial (pn := 19) (l := 40) rfl rfl (by omega) (mo_s15 hs).2.1 (mo_s15 hs).2.2 (by omega) (by omega) ?_
  refine sw_p 1 (f' := (20, [some (2, 0), some (0, c)], [(0, 4), (0, ν 15 c), (2, 0)])) rfl ?_
  refine sw_eq2 (pt := 33) (pn := 23) rfl rfl rfl (by omega) (by omega) (fun h => absurd h (by omega)) (fun h2 => ?_)
  refine sw_p 1 (f' := (24, [some (2, 0), some (0, c)], [(2, 0), (2, 0)])) rfl ?_
  refine sw_hA (pn := 27) (i := 15) (v := 15) rfl rfl rfl rfl rfl hs.1 (mo_s15 hs).1 (by omega) ?_
  refine sw_p 1 (f' := (28, [some (2, 0), some (0, c)], [(0, c), (2, 15), (2, 0)])) rfl ?_
  refine sw_ial (pn := 29) (l := 40) rfl rfl (by omega) (mo_s15 hs).2.1 (mo_s15 hs).2.2 (by omega) (by omega) ?_
  refine sw_p 1 (f' := (30, [some (2, 0), some (0, c)], [(0, 5), (0, ν 15 c), (2, 0)])) rfl ?_
  refine sw_ne2 (pt := 37) (pn := 33) rfl rfl rfl (by omega) (by omega) (fun h3 => ?_) (fun h => absurd h (by omega))
  refine sw_p 1 (f' := (38, [some (2, 0), some (0, c)], [(0, 0), (2, 0)])) rfl ?_
  refine sw_pI (pn := 41) (i := 0) rfl rfl rfl rfl rfl (by omega) hs.1 ?_
  refine sw_p 1 (f' := (42, [some (2, 0), some (0, c)], [(2, 0)])) rfl ?_
  refine sw_gI (pn := 45) (i := 0) rfl rfl rfl rfl rfl (by omega) hs.1 ?_
  rw [show (mm_u ν 0 0 0) 0 0 = 0 from mm_u_at]
  refine sw_le1 (pt := 50) (pn := 48) rfl rfl rfl (by omega) (fun _ => ?_) (fun h => absurd h (by decide))
  refine sw_p 2 (f' := (52, [some (2, 0), some (0, c)], [(2, 0), (0, c)])) rfl ?_
  refine sw_gI (pn := 55) (i := 21) rfl rfl rfl rfl rfl (by omega) hs.1 ?_
  rw [show (mm_u ν 0 0 0) 0 21 = ν 0 21 from mm_u_ne (by omega)]
  refine sw_ne2 (pt := 71) (pn := 58) rfl rfl rfl (by omega) (by omega) (fun h => absurd h (by omega)) (fun h5 => ?_)
  refine sw_p 1 (f' := (59, [some (2, 0), some (0, c)], [(2, 0)])) rfl ?_
  refine sw_gI (pn := 62) (i := 22) rfl rfl rfl rfl rfl (by omega) hs.1 ?_
  rw [show (mm_u ν 0 0 0) 0 22 = ν 0 22 from mm_u_ne (by omega)]
  refine sw_eq1 (pt := 71) (pn := 65) rfl rfl rfl (by omega) (fun h => absurd h (by omega)) (fun h6 => ?_)
  refine sw_p 3 (f' := (68, [some (2, 0), some (0, c)], [(0, 1), (0, 2), (2, 0)])) rfl ?_
  refine sw_cv1 (pn := 71) (q0 := mj_Mo_pull) (q := mj_Mo_change) (p := 0) (as2 := [(0, 2), (0, 1)]) (L2 := [some (2, 0), some (0, 2), some (0, 1), none]) (rest := []) (v := none) (s1 := s) (ν1 := (mo_ch (mo_cd ν 0) 2 1)) rfl rfl rfl rfl rfl rfl rfl rfl rfl hs.1 (mo_change hs (mo_B_cd hB) (by omega)) ?_
  show sw_w E _ 111 (71, [some (2, 0), some (0, c)], []) s (mo_ch (mo_cd ν 0) 2 1) _
  refine sw_p 3 (f' := (74, [some (2, 0), some (0, c)], [(0, 4), (0, c), (2, 0)])) rfl ?_
  refine sw_cv1 (pn := 77) (q0 := mj_Mo_pull) (q := mj_Mo_remove) (p := 0) (as2 := [(0, c), (0, 4)]) (L2 := [some (2, 0), some (0, c), some (0, 4), none]) (rest := []) (v := none) (s1 := s) (ν1 := (mo_rm (mo_pu ν c) c 4)) rfl rfl rfl rfl rfl rfl rfl rfl rfl hs.1 (by rw [show (mo_ch (mo_cd ν 0) 2 1) = mo_pu ν c by unfold mo_pu; rw [if_pos (by omega)]]; exact mo_remove hs hBp (by omega) (by omega)) ?_
  show sw_w E _ 111 (77, [some (2, 0), some (0, c)], []) s (mo_rm (mo_pu ν c) c 4) _
  refine sw_p 3 (f' := (80, [some (2, 0), some (0, c)], [(0, -1), (0, c), (2, 0)])) rfl ?_
  refine sw_cv1 (pn := 83) (q0 := mj_Mo_pull) (q := mj_Mo_lose) (p := 0) (as2 := [(0, c), (0, -1)]) (L2 := [some (2, 0), some (0, c), some (0, -1), none, none]) (rest := []) (v := some (0, sm_s (mo_lsn (mo_rm (mo_pu ν c) c 4) c (-1)) (mo_rm (mo_pu ν c) c 4 0 24).toNat)) (s1 := s) (ν1 := (mo_ls (mo_rm (mo_pu ν c) c 4) c (-1))) rfl rfl rfl rfl rfl rfl rfl rfl rfl hs.1 (mo_lose hs hBr (by omega) (by omega)) ?_
  show sw_w E _ 111 (83, [some (2, 0), some (0, c)], [(0, sm_s (mo_lsn (mo_rm (mo_pu ν c) c 4) c (-1)) (mo_rm (mo_pu ν c) c 4 0 24).toNat)]) s (mo_ls (mo_rm (mo_pu ν c) c 4) c (-1)) _
  exact sw_retI rfl rfl rfl ⟨rfl, rfl, rfl⟩
theorem mo_pull_b (hs : mo_sh s) (hB : mo_B ν) (hc : 0 ≤ c ∧ c < ν 0 12) (h1 : ν 15 c ≠ 4) (h2 : ν 15 c ≠ 5) (h3 : c = ν 0 21) (h4 : ν 0 22 = 0) : sw_w E (d + 1) 111 (0, [some (2, 0), some (0, c)], []) s ν (sw_is (some (0, sm_s (mo_lsn (mo_rm (mo_pu ν c) c 4) c (-1)) (mo_rm (mo_pu ν c) c 4 0 24).toNat)) s (mo_ls (mo_rm (mo_pu ν c) c 4) c (-1))) := by
  have hn := hB.2.2.1
  have hcd := hB.cd c (by omega) (by omega)
  have hcm := hB.2.2.2.1
  have hck := hB.2.2.2.2.1
  have hBp : mo_B (mo_pu ν c) := by
    unfold mo_pu
    split
    · exact mo_B_ch (mo_B_cd hB) (by omega)
    · exact mo_B_cd hB
  have hBr : mo_B (mo_rm (mo_pu ν c) c 4) := mo_B_rm hBp (by omega) (by omega)
  refine sw_p 3 (f' := (3, [some (2, 0), some (0, c)], [(0, c), (2, 0), (2, 0)])) rfl ?_
  refine sw_cv1 (pn := 6) (q0 := mj_Mo_pull) (q := mj_Mo_isCard) (p := 0) (as2 := [(0, c)]) (L2 := [some (2, 0), some (0, c)]) (rest := [(2, 0)]) (v := some (0, 1)) (s1 := s) (ν1 := ν) rfl rfl rfl rfl rfl rfl rfl rfl rfl hs.1 (mo_isC1 hs hB (by omega)) ?_
  show sw_w E _ 111 (6, [some (2, 0), some (0, c)], [(0, 1), (2, 0)]) s ν _
  refine sw_ne1 (pt := 13) (pn := 9) rfl rfl rfl (by omega) (fun _ => ?_) (fun h => absurd h (by decide))
  refine sw_p 1 (f' := (14, [some (2, 0), some (0, c)], [(2, 0), (2, 0)])) rfl ?_
  refine sw_hA (pn := 17) (i := 15) (v := 15) rfl rfl rfl rfl rfl hs.1 (mo_s15 hs).1 (by omega) ?_
  refine sw_p 1 (f' := (18, [some (2, 0), some (0, c)], [(0, c), (2, 15), (2, 0)])) rfl ?_
  refine sw_ial (pn := 19) (l := 40) rfl rfl (by omega) (mo_s15 hs).2.1 (mo_s15 hs).2.2 (by omega) (by omega) ?_
  refine sw_p 1 (f' := (20, [some (2, 0), some (0, c)], [(0, 4), (0, ν 15 c), (2, 0)])) rfl ?_
  refine sw_eq2 (pt := 33) (pn := 23) rfl rfl rfl (by omega) (by omega) (fun h => absurd h (by omega)) (fun h2 => ?_)
  refine sw_p 1 (f' := (24, [some (2, 0), some (0, c)], [(2, 0), (2, 0)])) rfl ?_
  refine sw_hA (pn := 27) (i := 15) (v := 15) rfl rfl rfl rfl rfl hs.1 (mo_s15 hs).1 (by omega) ?_
  refine sw_p 1 (f' := (28, [some (2, 0), some (0, c)], [(0, c), (2, 15), (2, 0)])) rfl ?_
  refine sw_ial (pn := 29) (l := 40) rfl rfl (by omega) (mo_s15 hs).2.1 (mo_s15 hs).2.2 (by omega) (by omega) ?_
  refine sw_p 1 (f' := (30, [some (2, 0), some (0, c)], [(0, 5), (0, ν 15 c), (2, 0)])) rfl ?_
  refine sw_ne2 (pt := 37) (pn := 33) rfl rfl rfl (by omega) (by omega) (fun h3 => ?_) (fun h => absurd h (by omega))
  refine sw_p 1 (f' := (38, [some (2, 0), some (0, c)], [(0, 0), (2, 0)])) rfl ?_
  refine sw_pI (pn := 41) (i := 0) rfl rfl rfl rfl rfl (by omega) hs.1 ?_
  refine sw_p 1 (f' := (42, [some (2, 0), some (0, c)], [(2, 0)])) rfl ?_
  refine sw_gI (pn := 45) (i := 0) rfl rfl rfl rfl rfl (by omega) hs.1 ?_
  rw [show (mm_u ν 0 0 0) 0 0 = 0 from mm_u_at]
  refine sw_le1 (pt := 50) (pn := 48) rfl rfl rfl (by omega) (fun _ => ?_) (fun h => absurd h (by decide))
  refine sw_p 2 (f' := (52, [some (2, 0), some (0, c)], [(2, 0), (0, c)])) rfl ?_
  refine sw_gI (pn := 55) (i := 21) rfl rfl rfl rfl rfl (by omega) hs.1 ?_
  rw [show (mm_u ν 0 0 0) 0 21 = ν 0 21 from mm_u_ne (by omega)]
  refine sw_ne2 (pt := 71) (pn := 58) rfl rfl rfl (by omega) (by omega) (fun h => absurd h (by omega)) (fun h5 => ?_)
  refine sw_p 1 (f' := (59, [some (2, 0), some (0, c)], [(2, 0)])) rfl ?_
  refine sw_gI (pn := 62) (i := 22) rfl rfl rfl rfl rfl (by omega) hs.1 ?_
  rw [show (mm_u ν 0 0 0) 0 22 = ν 0 22 from mm_u_ne (by omega)]
  refine sw_eq1 (pt := 71) (pn := 65) rfl rfl rfl (by omega) (fun h6 => ?_) (fun h => absurd h (by omega))
  refine sw_p 3 (f' := (74, [some (2, 0), some (0, c)], [(0, 4), (0, c), (2, 0)])) rfl ?_
  refine sw_cv1 (pn := 77) (q0 := mj_Mo_pull) (q := mj_Mo_remove) (p := 0) (as2 := [(0, c), (0, 4)]) (L2 := [some (2, 0), some (0, c), some (0, 4), none]) (rest := []) (v := none) (s1 := s) (ν1 := (mo_rm (mo_pu ν c) c 4)) rfl rfl rfl rfl rfl rfl rfl rfl rfl hs.1 (by rw [show (mm_u ν 0 0 0) = mo_pu ν c by unfold mo_pu; rw [if_neg (by omega)]]; exact mo_remove hs hBp (by omega) (by omega)) ?_
  show sw_w E _ 111 (77, [some (2, 0), some (0, c)], []) s (mo_rm (mo_pu ν c) c 4) _
  refine sw_p 3 (f' := (80, [some (2, 0), some (0, c)], [(0, -1), (0, c), (2, 0)])) rfl ?_
  refine sw_cv1 (pn := 83) (q0 := mj_Mo_pull) (q := mj_Mo_lose) (p := 0) (as2 := [(0, c), (0, -1)]) (L2 := [some (2, 0), some (0, c), some (0, -1), none, none]) (rest := []) (v := some (0, sm_s (mo_lsn (mo_rm (mo_pu ν c) c 4) c (-1)) (mo_rm (mo_pu ν c) c 4 0 24).toNat)) (s1 := s) (ν1 := (mo_ls (mo_rm (mo_pu ν c) c 4) c (-1))) rfl rfl rfl rfl rfl rfl rfl rfl rfl hs.1 (mo_lose hs hBr (by omega) (by omega)) ?_
  show sw_w E _ 111 (83, [some (2, 0), some (0, c)], [(0, sm_s (mo_lsn (mo_rm (mo_pu ν c) c 4) c (-1)) (mo_rm (mo_pu ν c) c 4 0 24).toNat)]) s (mo_ls (mo_rm (mo_pu ν c) c 4) c (-1)) _
  exact sw_retI rfl rfl rfl ⟨rfl, rfl, rfl⟩
theorem mo_pull_c (hs : mo_sh s) (hB : mo_B ν) (hc : 0 ≤ c ∧ c < ν 0 12) (h1 : ν 15 c ≠ 4) (h2 : ν 15 c ≠ 5) (h3 : c ≠ ν 0 21) : sw_w E (d + 1) 111 (0, [some (2, 0), some (0, c)], []) s ν (sw_is (some (0, sm_s (mo_lsn (mo_rm (mo_pu ν c) c 4) c (-1)) (mo_rm (mo_pu ν c) c 4 0 24).toNat)) s (mo_ls (mo_rm (mo_pu ν c) c 4) c (-1))) := by
  have hn := hB.2.2.1
  have hcd := hB.cd c (by omega) (by omega)
  have hcm := hB.2.2.2.1
  have hck := hB.2.2.2.2.1
  have hBp : mo_B (mo_pu ν c) := by
    unfold mo_pu
    split
    · exact mo_B_ch (mo_B_cd hB) (by omega)
    · exact mo_B_cd hB
  have hBr : mo_B (mo_rm (mo_pu ν c) c 4) := mo_B_rm hBp (by omega) (by omega)
  refine sw_p 3 (f' := (3, [some (2, 0), some (0, c)], [(0, c), (2, 0), (2, 0)])) rfl ?_
  refine sw_cv1 (pn := 6) (q0 := mj_Mo_pull) (q := mj_Mo_isCard) (p := 0) (as2 := [(0, c)]) (L2 := [some (2, 0), some (0, c)]) (rest := [(2, 0)]) (v := some (0, 1)) (s1 := s) (ν1 := ν) rfl rfl rfl rfl rfl rfl rfl rfl rfl hs.1 (mo_isC1 hs hB (by omega)) ?_
  show sw_w E _ 111 (6, [some (2, 0), some (0, c)], [(0, 1), (2, 0)]) s ν _
  refine sw_ne1 (pt := 13) (pn := 9) rfl rfl rfl (by omega) (fun _ => ?_) (fun h => absurd h (by decide))
  refine sw_p 1 (f' := (14, [some (2, 0), some (0, c)], [(2, 0), (2, 0)])) rfl ?_
  refine sw_hA (pn := 17) (i := 15) (v := 15) rfl rfl rfl rfl rfl hs.1 (mo_s15 hs).1 (by omega) ?_
  refine sw_p 1 (f' := (18, [some (2, 0), some (0, c)], [(0, c), (2, 15), (2, 0)])) rfl ?_
  refine sw_ial (pn := 19) (l := 40) rfl rfl (by omega) (mo_s15 hs).2.1 (mo_s15 hs).2.2 (by omega) (by omega) ?_
  refine sw_p 1 (f' := (20, [some (2, 0), some (0, c)], [(0, 4), (0, ν 15 c), (2, 0)])) rfl ?_
  refine sw_eq2 (pt := 33) (pn := 23) rfl rfl rfl (by omega) (by omega) (fun h => absurd h (by omega)) (fun h2 => ?_)
  refine sw_p 1 (f' := (24, [some (2, 0), some (0, c)], [(2, 0), (2, 0)])) rfl ?_
  refine sw_hA (pn := 27) (i := 15) (v := 15) rfl rfl rfl rfl rfl hs.1 (mo_s15 hs).1 (by omega) ?_
  refine sw_p 1 (f' := (28, [some (2, 0), some (0, c)], [(0, c), (2, 15), (2, 0)])) rfl ?_
  refine sw_ial (pn := 29) (l := 40) rfl rfl (by omega) (mo_s15 hs).2.1 (mo_s15 hs).2.2 (by omega) (by omega) ?_
  refine sw_p 1 (f' := (30, [some (2, 0), some (0, c)], [(0, 5), (0, ν 15 c), (2, 0)])) rfl ?_
  refine sw_ne2 (pt := 37) (pn := 33) rfl rfl rfl (by omega) (by omega) (fun h3 => ?_) (fun h => absurd h (by omega))
  refine sw_p 1 (f' := (38, [some (2, 0), some (0, c)], [(0, 0), (2, 0)])) rfl ?_
  refine sw_pI (pn := 41) (i := 0) rfl rfl rfl rfl rfl (by omega) hs.1 ?_
  refine sw_p 1 (f' := (42, [some (2, 0), some (0, c)], [(2, 0)])) rfl ?_
  refine sw_gI (pn := 45) (i := 0) rfl rfl rfl rfl rfl (by omega) hs.1 ?_
  rw [show (mm_u ν 0 0 0) 0 0 = 0 from mm_u_at]
  refine sw_le1 (pt := 50) (pn := 48) rfl rfl rfl (by omega) (fun _ => ?_) (fun h => absurd h (by decide))
  refine sw_p 2 (f' := (52, [some (2, 0), some (0, c)], [(2, 0), (0, c)])) rfl ?_
  refine sw_gI (pn := 55) (i := 21) rfl rfl rfl rfl rfl (by omega) hs.1 ?_
  rw [show (mm_u ν 0 0 0) 0 21 = ν 0 21 from mm_u_ne (by omega)]
  refine sw_ne2 (pt := 71) (pn := 58) rfl rfl rfl (by omega) (by omega) (fun h5 => ?_) (fun h => absurd h (by omega))
  refine sw_p 3 (f' := (74, [some (2, 0), some (0, c)], [(0, 4), (0, c), (2, 0)])) rfl ?_
  refine sw_cv1 (pn := 77) (q0 := mj_Mo_pull) (q := mj_Mo_remove) (p := 0) (as2 := [(0, c), (0, 4)]) (L2 := [some (2, 0), some (0, c), some (0, 4), none]) (rest := []) (v := none) (s1 := s) (ν1 := (mo_rm (mo_pu ν c) c 4)) rfl rfl rfl rfl rfl rfl rfl rfl rfl hs.1 (by rw [show (mm_u ν 0 0 0) = mo_pu ν c by unfold mo_pu; rw [if_neg (by omega)]]; exact mo_remove hs hBp (by omega) (by omega)) ?_
  show sw_w E _ 111 (77, [some (2, 0), some (0, c)], []) s (mo_rm (mo_pu ν c) c 4) _
  refine sw_p 3 (f' := (80, [some (2, 0), some (0, c)], [(0, -1), (0, c), (2, 0)])) rfl ?_
  refine sw_cv1 (pn := 83) (q0 := mj_Mo_pull) (q := mj_Mo_lose) (p := 0) (as2 := [(0, c), (0, -1)]) (L2 := [some (2, 0), some (0, c), some (0, -1), none, none]) (rest := []) (v := some (0, sm_s (mo_lsn (mo_rm (mo_pu ν c) c 4) c (-1)) (mo_rm (mo_pu ν c) c 4 0 24).toNat)) (s1 := s) (ν1 := (mo_ls (mo_rm (mo_pu ν c) c 4) c (-1))) rfl rfl rfl rfl rfl rfl rfl rfl rfl hs.1 (mo_lose hs hBr (by omega) (by omega)) ?_
  show sw_w E _ 111 (83, [some (2, 0), some (0, c)], [(0, sm_s (mo_lsn (mo_rm (mo_pu ν c) c 4) c (-1)) (mo_rm (mo_pu ν c) c 4 0 24).toNat)]) s (mo_ls (mo_rm (mo_pu ν c) c 4) c (-1)) _
  exact sw_retI rfl rfl rfl ⟨rfl, rfl, rfl⟩
theorem mo_pull_s1 (hs : mo_sh s) (hB : mo_B ν) (hc : 0 ≤ c ∧ c < ν 0 12) (h1 : ν 15 c = 4) : sw_w E (d + 1) 111 (0, [some (2, 0), some (0, c)], []) s ν (sw_is (some (0, 0)) s (mo_cd ν 2)) := by
  have hn := hB.2.2.1
  have hcd := hB.cd c
  refine sw_p 3 (f' := (3, [some (2, 0), some (0, c)], [(0, c), (2, 0), (2, 0)])) rfl ?_
  refine sw_cv1 (pn := 6) (q0 := mj_Mo_pull) (q := mj_Mo_isCard) (p := 0) (as2 := [(0, c)]) (L2 := [some (2, 0), some (0, c)]) (rest := [(2, 0)]) (v := some (0, 1)) (s1 := s) (ν1 := ν) rfl rfl rfl rfl rfl rfl rfl rfl rfl hs.1 (mo_isC1 hs hB (by omega)) ?_
  show sw_w E _ 111 (6, [some (2, 0), some (0, c)], [(0, 1), (2, 0)]) s ν _
  refine sw_ne1 (pt := 13) (pn := 9) rfl rfl rfl (by omega) (fun _ => ?_) (fun h => absurd h (by decide))
  refine sw_p 1 (f' := (14, [some (2, 0), some (0, c)], [(2, 0), (2, 0)])) rfl ?_
  refine sw_hA (pn := 17) (i := 15) (v := 15) rfl rfl rfl rfl rfl hs.1 (mo_s15 hs).1 (by omega) ?_
  refine sw_p 1 (f' := (18, [some (2, 0), some (0, c)], [(0, c), (2, 15), (2, 0)])) rfl ?_
  refine sw_ial (pn := 19) (l := 40) rfl rfl (by omega) (mo_s15 hs).2.1 (mo_s15 hs).2.2 (by omega) (by omega) ?_
  refine sw_p 1 (f' := (20, [some (2, 0), some (0, c)], [(0, 4), (0, ν 15 c), (2, 0)])) rfl ?_
  refine sw_eq2 (pt := 33) (pn := 23) rfl rfl rfl (by omega) (by omega) (fun h2 => ?_) (fun h => absurd h (by omega))
  refine sw_p 2 (f' := (38, [some (2, 0), some (0, c)], [(0, 2), (2, 0)])) rfl ?_
  refine sw_pI (pn := 41) (i := 0) rfl rfl rfl rfl rfl (by omega) hs.1 ?_
  refine sw_p 1 (f' := (42, [some (2, 0), some (0, c)], [(2, 0)])) rfl ?_
  refine sw_gI (pn := 45) (i := 0) rfl rfl rfl rfl rfl (by omega) hs.1 ?_
  rw [show (mm_u ν 0 0 2) 0 0 = 2 from mm_u_at]
  refine sw_le1 (pt := 50) (pn := 48) rfl rfl rfl (by omega) (fun h => absurd h (by decide)) (fun _ => ?_)
  refine sw_p 1 (f' := (49, [some (2, 0), some (0, c)], [(0, 0)])) rfl ?_
  exact sw_retI rfl rfl rfl ⟨rfl, rfl, rfl⟩
theorem mo_pull_s2 (hs : mo_sh s) (hB : mo_B ν) (hc : 0 ≤ c ∧ c < ν 0 12) (h1 : ν 15 c = 5) : sw_w E (d + 1) 111 (0, [some (2, 0), some (0, c)], []) s ν (sw_is (some (0, 0)) s (mo_cd ν 2)) := by
  have hn := hB.2.2.1
  have hcd := hB.cd c
  refine sw_p 3 (f' := (3, [some (2, 0), some (0, c)], [(0, c), (2, 0), (2, 0)])) rfl ?_
  refine sw_cv1 (pn := 6) (q0 := mj_Mo_pull) (q := mj_Mo_isCard) (p := 0) (as2 := [(0, c)]) (L2 := [some (2, 0), some (0, c)]) (rest := [(2, 0)]) (v := some (0, 1)) (s1 := s) (ν1 := ν) rfl rfl rfl rfl rfl rfl rfl rfl rfl hs.1 (mo_isC1 hs hB (by omega)) ?_
  show sw_w E _ 111 (6, [some (2, 0), some (0, c)], [(0, 1), (2, 0)]) s ν _
  refine sw_ne1 (pt := 13) (pn := 9) rfl rfl rfl (by omega) (fun _ => ?_) (fun h => absurd h (by decide))
  refine sw_p 1 (f' := (14, [some (2, 0), some (0, c)], [(2, 0), (2, 0)])) rfl ?_
  refine sw_hA (pn := 17) (i := 15) (v := 15) rfl rfl rfl rfl rfl hs.1 (mo_s15 hs).1 (by omega) ?_
  refine sw_p 1 (f' := (18, [some (2, 0), some (0, c)], [(0, c), (2, 15), (2, 0)])) rfl ?_
  refine sw_ial (pn := 19) (l := 40) rfl rfl (by omega) (mo_s15 hs).2.1 (mo_s15 hs).2.2 (by omega) (by omega) ?_
  refine sw_p 1 (f' := (20, [some (2, 0), some (0, c)], [(0, 4), (0, ν 15 c), (2, 0)])) rfl ?_
  refine sw_eq2 (pt := 33) (pn := 23) rfl rfl rfl (by omega) (by omega) (fun h => absurd h (by omega)) (fun h2 => ?_)
  refine sw_p 1 (f' := (24, [some (2, 0), some (0, c)], [(2, 0), (2, 0)])) rfl ?_
  refine sw_hA (pn := 27) (i := 15) (v := 15) rfl rfl rfl rfl rfl hs.1 (mo_s15 hs).1 (by omega) ?_
  refine sw_p 1 (f' := (28, [some (2, 0), some (0, c)], [(0, c), (2, 15), (2, 0)])) rfl ?_
  refine sw_ial (pn := 29) (l := 40) rfl rfl (by omega) (mo_s15 hs).2.1 (mo_s15 hs).2.2 (by omega) (by omega) ?_
  refine sw_p 1 (f' := (30, [some (2, 0), some (0, c)], [(0, 5), (0, ν 15 c), (2, 0)])) rfl ?_
  refine sw_ne2 (pt := 37) (pn := 33) rfl rfl rfl (by omega) (by omega) (fun h => absurd h (by omega)) (fun h3 => ?_)
  refine sw_p 2 (f' := (38, [some (2, 0), some (0, c)], [(0, 2), (2, 0)])) rfl ?_
  refine sw_pI (pn := 41) (i := 0) rfl rfl rfl rfl rfl (by omega) hs.1 ?_
  refine sw_p 1 (f' := (42, [some (2, 0), some (0, c)], [(2, 0)])) rfl ?_
  refine sw_gI (pn := 45) (i := 0) rfl rfl rfl rfl rfl (by omega) hs.1 ?_
  rw [show (mm_u ν 0 0 2) 0 0 = 2 from mm_u_at]
  refine sw_le1 (pt := 50) (pn := 48) rfl rfl rfl (by omega) (fun h => absurd h (by decide)) (fun _ => ?_)
  refine sw_p 1 (f' := (49, [some (2, 0), some (0, c)], [(0, 0)])) rfl ?_
  exact sw_retI rfl rfl rfl ⟨rfl, rfl, rfl⟩
theorem mo_pull_bad (hs : mo_sh s) (hB : mo_B ν) (hc : -2147483648 ≤ c ∧ c < 2147483648) (h0 : ¬ (0 ≤ c ∧ c < ν 0 12)) : sw_w E (d + 1) 111 (0, [some (2, 0), some (0, c)], []) s ν (sw_is (some (0, 0)) s (mo_cd ν 1)) := by
  have hn := hB.2.2.1
  have hcd := hB.cd c
  refine sw_p 3 (f' := (3, [some (2, 0), some (0, c)], [(0, c), (2, 0), (2, 0)])) rfl ?_
  refine sw_cv1 (pn := 6) (q0 := mj_Mo_pull) (q := mj_Mo_isCard) (p := 0) (as2 := [(0, c)]) (L2 := [some (2, 0), some (0, c)]) (rest := [(2, 0)]) (v := some (0, 0)) (s1 := s) (ν1 := ν) rfl rfl rfl rfl rfl rfl rfl rfl rfl hs.1 (mo_isC0 hs hB (by omega) (by omega)) ?_
  show sw_w E _ 111 (6, [some (2, 0), some (0, c)], [(0, 0), (2, 0)]) s ν _
  refine sw_ne1 (pt := 13) (pn := 9) rfl rfl rfl (by omega) (fun h => absurd h (by decide)) (fun _ => ?_)
  refine sw_p 2 (f' := (38, [some (2, 0), some (0, c)], [(0, 1), (2, 0)])) rfl ?_
  refine sw_pI (pn := 41) (i := 0) rfl rfl rfl rfl rfl (by omega) hs.1 ?_
  refine sw_p 1 (f' := (42, [some (2, 0), some (0, c)], [(2, 0)])) rfl ?_
  refine sw_gI (pn := 45) (i := 0) rfl rfl rfl rfl rfl (by omega) hs.1 ?_
  rw [show (mm_u ν 0 0 1) 0 0 = 1 from mm_u_at]
  refine sw_le1 (pt := 50) (pn := 48) rfl rfl rfl (by omega) (fun h => absurd h (by decide)) (fun _ => ?_)
  refine sw_p 1 (f' := (49, [some (2, 0), some (0, c)], [(0, 0)])) rfl ?_
  exact sw_retI rfl rfl rfl ⟨rfl, rfl, rfl⟩
end MO8
