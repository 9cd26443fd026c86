/-! the reference: sums and searches over cards and tickets; marks -/
def mo_th (ν : mm_T) (c : Int) : Int := if 1 ≤ ν 15 c ∧ ν 15 c ≤ 3 then 1 else 0
theorem mo_th_b (ν : mm_T) (c : Int) : mo_th ν c = 0 ∨ mo_th ν c = 1 := by unfold mo_th; split <;> omega
/-- what a card adds to the power under b -/
def mo_pwc (ν : mm_T) (b c : Int) : Int := if mo_th ν c = 0 then 0 else if mo_un ν b 8 (ν 14 c) = 0 then 0 else ν 10 (ν 13 c)
def mo_pw (ν : mm_T) (b : Int) : Int := sm_s (mo_pwc ν b) (ν 0 12).toNat
/-- is t a ticket of c that is pending -/
def mo_pd (ν : mm_T) (c t : Int) : Int := if ν 25 t = c ∧ ν 28 t = 1099511627776 then 1 else 0
def mo_wt (ν : mm_T) (c : Int) : Int := sm_s (mo_pd ν c) (ν 0 24).toNat
/-- the first of the tickets 0 .. n - 1 of c that is pending, or r -/
def mo_fi (ν : mm_T) (c r : Int) : Nat → Int
  | 0 => r
  | n + 1 => mo_fi ν c (if mo_pd ν c n = 1 then n else r) n
/-- bounds of what stands in the reference's cells -/
def mo_B (ν : mm_T) : Prop := (1 ≤ ν 0 1 ∧ ν 0 1 ≤ 8) ∧ (0 ≤ ν 0 8 ∧ ν 0 8 ≤ 16) ∧ (0 ≤ ν 0 12 ∧ ν 0 12 ≤ 40) ∧ (-1 ≤ ν 0 21 ∧ ν 0 21 < ν 0 12) ∧ (ν 0 22 = 0 ∨ ν 0 22 = 1) ∧ (0 ≤ ν 0 24 ∧ ν 0 24 ≤ 512) ∧
  (∀ k, 0 ≤ k → k < 8 → -1 ≤ ν 3 k ∧ ν 3 k < k) ∧ (∀ k, 0 ≤ k → k < 32 → -1 ≤ ν 2 k ∧ ν 2 k < 140) ∧ (∀ k, 0 ≤ k → k < 8 → 0 ≤ ν 4 k ∧ ν 4 k ≤ 1000) ∧
  (∀ k, 0 ≤ k → k < 16 → 0 ≤ ν 10 k ∧ ν 10 k ≤ 1000) ∧ (∀ c, 0 ≤ c → c < 40 → (0 ≤ ν 13 c ∧ ν 13 c < 16) ∧ (0 ≤ ν 14 c ∧ ν 14 c < 8) ∧ (0 ≤ ν 15 c ∧ ν 15 c ≤ 5) ∧ (0 ≤ ν 19 c ∧ ν 19 c ≤ 8)) ∧
  (∀ k, 0 ≤ k → k < 48 → 0 ≤ ν 9 k ∧ ν 9 k ≤ 1024) ∧ (∀ k, 0 ≤ k → k < 120 → -1 ≤ ν 17 k ∧ ν 17 k ≤ 4096) ∧
  (∀ t, 0 ≤ t → t < 512 → (0 ≤ ν 25 t ∧ ν 25 t < 40) ∧ (0 ≤ ν 26 t ∧ ν 26 t < 2147483648) ∧ (-4398046511104 ≤ ν 28 t ∧ ν 28 t ≤ 4398046511104))
theorem mo_B.ov {ν : mm_T} (h : mo_B ν) : mo_ov ν := h.2.2.2.2.2.2.1
theorem mo_B.cd {ν : mm_T} (h : mo_B ν) : ∀ c, 0 ≤ c → c < 40 → (0 ≤ ν 13 c ∧ ν 13 c < 16) ∧ (0 ≤ ν 14 c ∧ ν 14 c < 8) ∧ (0 ≤ ν 15 c ∧ ν 15 c ≤ 5) ∧ (0 ≤ ν 19 c ∧ ν 19 c ≤ 8) := h.2.2.2.2.2.2.2.2.2.2.1
theorem mo_B.tk {ν : mm_T} (h : mo_B ν) : ∀ t, 0 ≤ t → t < 512 → (0 ≤ ν 25 t ∧ ν 25 t < 40) ∧ (0 ≤ ν 26 t ∧ ν 26 t < 2147483648) ∧ (-4398046511104 ≤ ν 28 t ∧ ν 28 t ≤ 4398046511104) := h.2.2.2.2.2.2.2.2.2.2.2.2.2
theorem mo_B.pw {ν : mm_T} (h : mo_B ν) : ∀ k, 0 ≤ k → k < 16 → 0 ≤ ν 10 k ∧ ν 10 k ≤ 1000 := h.2.2.2.2.2.2.2.2.2.1
section MO3
variable {E : mv_E} {s ν : mm_T} {d : Nat} {b c r x y w : Int}
theorem mo_isThere2 (hs : mo_sh s) (hc : 0 ≤ c ∧ c < 40) (h0 : 0 ≤ ν 15 c ∧ ν 15 c ≤ 5) : sw_w E d 94 (0, [some (2, 0), some (0, c)], []) s ν (sw_is (some (0, mo_th ν c)) s ν) := mo_isThere hs hc h0
theorem mo_powerOf_l (hs : mo_sh s) (hB : mo_B ν) (hb : 0 ≤ b ∧ b < 8) : ∀ (m : Nat) (i : Int), 0 ≤ i → i + m = ν 0 12 → sw_w E (d + 1) 93 (4, [some (2, 0), some (0, b), some (0, sm_s (mo_pwc ν b) i.toNat), some (0, i)], []) s ν (sw_is (some (0, mo_pw ν b)) s ν) := by
  intro m
  induction m with
  | zero =>
    intro i hi him
    have h12 := hB.2.2.1
    refine sw_p 2 (f' := (6, [some (2, 0), some (0, b), some (0, sm_s (mo_pwc ν b) i.toNat), some (0, i)], [(2, 0), (0, i)])) rfl ?_
    refine sw_gI (pn := 9) (i := 12) rfl rfl rfl rfl rfl (by omega) hs.1 ?_
    refine sw_ge2 (pt := 53) (pn := 12) rfl rfl rfl (by omega) (by omega) (fun h1 => ?_) (fun h1 => ?_)
    · skip
      refine sw_p 1 (f' := (54, [some (2, 0), some (0, b), some (0, sm_s (mo_pwc ν b) i.toNat), some (0, i)], [(0, sm_s (mo_pwc ν b) i.toNat)])) rfl ?_
      exact sw_retI rfl rfl rfl ⟨by rw [show i = ν 0 12 by omega]; rfl, rfl, rfl⟩
    · skip
      omega
  | succ m ih =>
    intro i hi him
    have h12 := hB.2.2.1
    have hcd := hB.cd i hi (by omega)
    have hpw := hB.pw (ν 13 i)
    have hth := mo_th_b ν i
    have hun := mo_un_b ν b 8 (ν 14 i)
    refine sw_p 2 (f' := (6, [some (2, 0), some (0, b), some (0, sm_s (mo_pwc ν b) i.toNat), some (0, i)], [(2, 0), (0, i)])) rfl ?_
    refine sw_gI (pn := 9) (i := 12) rfl rfl rfl rfl rfl (by omega) hs.1 ?_
    refine sw_ge2 (pt := 53) (pn := 12) rfl rfl rfl (by omega) (by omega) (fun h1 => ?_) (fun h1 => ?_)
    · skip
      refine sw_p 1 (f' := (54, [some (2, 0), some (0, b), some (0, sm_s (mo_pwc ν b) i.toNat), some (0, i)], [(0, sm_s (mo_pwc ν b) i.toNat)])) rfl ?_
      exact sw_retI rfl rfl rfl (absurd him (by omega))
    · skip
      refine sw_p 2 (f' := (14, [some (2, 0), some (0, b), some (0, sm_s (mo_pwc ν b) i.toNat), some (0, i)], [(0, i), (2, 0)])) rfl ?_
      refine sw_cv1 (pn := 17) (q0 := mj_Mo_powerOf) (q := mj_Mo_isThere) (p := 0) (as2 := [(0, i)]) (L2 := [some (2, 0), some (0, i)]) (rest := []) (v := some (0, mo_th ν i)) (s1 := s) (ν1 := ν) rfl rfl rfl rfl rfl rfl rfl rfl rfl hs.1 (mo_isThere2 hs (by omega) (by omega)) ?_
      show sw_w E _ 93 (17, [some (2, 0), some (0, b), some (0, sm_s (mo_pwc ν b) i.toNat), some (0, i)], [(0, mo_th ν i)]) s ν _
      refine sw_eq1 (pt := 45) (pn := 20) rfl rfl rfl (by omega) (fun h2 => ?_) (fun h2 => ?_)
      · skip
        refine sw_p 4 (f' := (4, [some (2, 0), some (0, b), some (0, sm_s (mo_pwc ν b) i.toNat), some (0, i + 1)], [])) rfl ?_
        have e : sm_s (mo_pwc ν b) (i + 1).toNat = sm_s (mo_pwc ν b) i.toNat := by
          rw [sm_su hi]
          unfold mo_pwc
          rw [if_pos (by omega)]
          exact Int.add_zero _
        rw [← e]
        exact ih (i + 1) (by omega) (by omega)
      · skip
        refine sw_p 3 (f' := (23, [some (2, 0), some (0, b), some (0, sm_s (mo_pwc ν b) i.toNat), some (0, i)], [(0, b), (0, i), (2, 0)])) rfl ?_
        refine sw_cv1 (pn := 26) (q0 := mj_Mo_powerOf) (q := mj_Mo_hangsUnder) (p := 0) (as2 := [(0, i), (0, b)]) (L2 := [some (2, 0), some (0, i), some (0, b), none]) (rest := []) (v := some (0, mo_un ν b 8 (ν 14 i))) (s1 := s) (ν1 := ν) rfl rfl rfl rfl rfl rfl rfl rfl rfl hs.1 (mo_hangs hs hB.ov (by omega) (by omega) (by omega)) ?_
        show sw_w E _ 93 (26, [some (2, 0), some (0, b), some (0, sm_s (mo_pwc ν b) i.toNat), some (0, i)], [(0, mo_un ν b 8 (ν 14 i))]) s ν _
        refine sw_eq1 (pt := 45) (pn := 29) rfl rfl rfl (by omega) (fun h3 => ?_) (fun h3 => ?_)
        · skip
          refine sw_p 4 (f' := (4, [some (2, 0), some (0, b), some (0, sm_s (mo_pwc ν b) i.toNat), some (0, i + 1)], [])) rfl ?_
          have e : sm_s (mo_pwc ν b) (i + 1).toNat = sm_s (mo_pwc ν b) i.toNat := by
            rw [sm_su hi]
            unfold mo_pwc
            rw [if_neg (by omega), if_pos (by omega)]
            exact Int.add_zero _
          rw [← e]
          exact ih (i + 1) (by omega) (by omega)
        · skip
          refine sw_p 2 (f' := (31, [some (2, 0), some (0, b), some (0, sm_s (mo_pwc ν b) i.toNat), some (0, i)], [(2, 0), (0, sm_s (mo_pwc ν b) i.toNat)])) rfl ?_
          refine sw_hA (pn := 34) (i := 10) (v := 10) rfl rfl rfl rfl rfl hs.1 (mo_s10 hs).1 (by omega) ?_
          refine sw_p 1 (f' := (35, [some (2, 0), some (0, b), some (0, sm_s (mo_pwc ν b) i.toNat), some (0, i)], [(2, 0), (2, 10), (0, sm_s (mo_pwc ν b) i.toNat)])) rfl ?_
          refine sw_hA (pn := 38) (i := 13) (v := 13) rfl rfl rfl rfl rfl hs.1 (mo_s13 hs).1 (by omega) ?_
          refine sw_p 1 (f' := (39, [some (2, 0), some (0, b), some (0, sm_s (mo_pwc ν b) i.toNat), some (0, i)], [(0, i), (2, 13), (2, 10), (0, sm_s (mo_pwc ν b) i.toNat)])) rfl ?_
          refine sw_ial (pn := 40) (l := 40) rfl rfl (by omega) (mo_s13 hs).2.1 (mo_s13 hs).2.2 (by omega) (by omega) ?_
          refine sw_ial (pn := 41) (l := 16) rfl rfl (by omega) (mo_s10 hs).2.1 (mo_s10 hs).2.2 (by omega) (by omega) ?_
          refine sw_p 5 (f' := (4, [some (2, 0), some (0, b), some (0, (sm_s (mo_pwc ν b) i.toNat) + (ν 10 (ν 13 i))), some (0, i + 1)], [])) rfl ?_
          have e : sm_s (mo_pwc ν b) (i + 1).toNat = (sm_s (mo_pwc ν b) i.toNat) + (ν 10 (ν 13 i)) := by
            rw [sm_su hi]
            unfold mo_pwc
            rw [if_neg (by omega), if_neg (by omega)]
          rw [← e]
          exact ih (i + 1) (by omega) (by omega)
theorem mo_powerOf (hs : mo_sh s) (hB : mo_B ν) (hb : 0 ≤ b ∧ b < 8) : sw_w E (d + 1) 93 (0, [some (2, 0), some (0, b), none, none], []) s ν (sw_is (some (0, mo_pw ν b)) s ν) := by
  have h12 := hB.2.2.1
  refine sw_p 4 (f' := (4, [some (2, 0), some (0, b), some (0, 0), some (0, 0)], [])) rfl ?_
  exact mo_powerOf_l hs hB hb (ν 0 12).toNat 0 (by omega) (by omega)
theorem mo_waiting_l (hs : mo_sh s) (hB : mo_B ν) (hc : -2147483648 ≤ c ∧ c < 2147483648) : ∀ (m : Nat) (i : Int), 0 ≤ i → i + m = ν 0 24 → sw_w E d 117 (4, [some (2, 0), some (0, c), some (0, sm_s (mo_pd ν c) i.toNat), some (0, i)], []) s ν (sw_is (some (0, mo_wt ν c)) s ν) := by
  intro m
  induction m with
  | zero =>
    intro i hi him
    have h12 := hB.2.2.2.2.2.1
    refine sw_p 2 (f' := (6, [some (2, 0), some (0, c), some (0, sm_s (mo_pd ν c) i.toNat), some (0, i)], [(2, 0), (0, i)])) rfl ?_
    refine sw_gI (pn := 9) (i := 24) rfl rfl rfl rfl rfl (by omega) hs.1 ?_
    refine sw_ge2 (pt := 49) (pn := 12) rfl rfl rfl (by omega) (by omega) (fun h1 => ?_) (fun h1 => ?_)
    · skip
      refine sw_p 1 (f' := (50, [some (2, 0), some (0, c), some (0, sm_s (mo_pd ν c) i.toNat), some (0, i)], [(0, sm_s (mo_pd ν c) i.toNat)])) rfl ?_
      exact sw_retI rfl rfl rfl ⟨by rw [show i = ν 0 24 by omega]; rfl, rfl, rfl⟩
    · skip
      omega
  | succ m ih =>
    intro i hi him
    have h12 := hB.2.2.2.2.2.1
    have htk := hB.tk i hi (by omega)
    refine sw_p 2 (f' := (6, [some (2, 0), some (0, c), some (0, sm_s (mo_pd ν c) i.toNat), some (0, i)], [(2, 0), (0, i)])) rfl ?_
    refine sw_gI (pn := 9) (i := 24) rfl rfl rfl rfl rfl (by omega) hs.1 ?_
    refine sw_ge2 (pt := 49) (pn := 12) rfl rfl rfl (by omega) (by omega) (fun h1 => ?_) (fun h1 => ?_)
    · skip
      refine sw_p 1 (f' := (50, [some (2, 0), some (0, c), some (0, sm_s (mo_pd ν c) i.toNat), some (0, i)], [(0, sm_s (mo_pd ν c) i.toNat)])) rfl ?_
      exact sw_retI rfl rfl rfl (absurd him (by omega))
    · skip
      refine sw_p 1 (f' := (13, [some (2, 0), some (0, c), some (0, sm_s (mo_pd ν c) i.toNat), some (0, i)], [(2, 0)])) rfl ?_
      refine sw_hA (pn := 16) (i := 25) (v := 25) rfl rfl rfl rfl rfl hs.1 (mo_s25 hs).1 (by omega) ?_
      refine sw_p 1 (f' := (17, [some (2, 0), some (0, c), some (0, sm_s (mo_pd ν c) i.toNat), some (0, i)], [(0, i), (2, 25)])) rfl ?_
      refine sw_ial (pn := 18) (l := 512) rfl rfl (by omega) (mo_s25 hs).2.1 (mo_s25 hs).2.2 (by omega) (by omega) ?_
      refine sw_p 1 (f' := (19, [some (2, 0), some (0, c), some (0, sm_s (mo_pd ν c) i.toNat), some (0, i)], [(0, c), (0, ν 25 i)])) rfl ?_
      refine sw_ne2 (pt := 41) (pn := 22) rfl rfl rfl (by omega) (by omega) (fun h2 => ?_) (fun h2 => ?_)
      · skip
        refine sw_p 4 (f' := (4, [some (2, 0), some (0, c), some (0, sm_s (mo_pd ν c) i.toNat), some (0, i + 1)], [])) rfl ?_
        have e : sm_s (mo_pd ν c) (i + 1).toNat = sm_s (mo_pd ν c) i.toNat := by
          rw [sm_su hi]
          unfold mo_pd
          rw [if_neg (by omega)]
          exact Int.add_zero _
        rw [← e]
        exact ih (i + 1) (by omega) (by omega)
      · skip
        refine sw_p 1 (f' := (23, [some (2, 0), some (0, c), some (0, sm_s (mo_pd ν c) i.toNat), some (0, i)], [(2, 0)])) rfl ?_
        refine sw_hA (pn := 26) (i := 28) (v := 28) rfl rfl rfl rfl rfl hs.1 (mo_s28 hs).1 (by omega) ?_
        refine sw_p 1 (f' := (27, [some (2, 0), some (0, c), some (0, sm_s (mo_pd ν c) i.toNat), some (0, i)], [(0, i), (2, 28)])) rfl ?_
        refine sw_lal (pn := 28) (l := 512) rfl rfl (by omega) (mo_s28 hs).2.1 (mo_s28 hs).2.2 (by omega) (by omega) ?_
        refine sw_p 1 (f' := (31, [some (2, 0), some (0, c), some (0, sm_s (mo_pd ν c) i.toNat), some (0, i)], [(1, 1099511627776), (1, ν 28 i)])) rfl ?_
        refine sw_lcn (pt := 41) (pn := 35) rfl rfl rfl rfl (by omega) (by omega) (fun h3 => ?_) (fun h3 => ?_)
        · skip
          refine sw_p 4 (f' := (4, [some (2, 0), some (0, c), some (0, sm_s (mo_pd ν c) i.toNat), some (0, i + 1)], [])) rfl ?_
          have e : sm_s (mo_pd ν c) (i + 1).toNat = sm_s (mo_pd ν c) i.toNat := by
            rw [sm_su hi]
            unfold mo_pd
            rw [if_neg (by omega)]
            exact Int.add_zero _
          rw [← e]
          exact ih (i + 1) (by omega) (by omega)
        · skip
          refine sw_p 7 (f' := (4, [some (2, 0), some (0, c), some (0, (sm_s (mo_pd ν c) i.toNat) + 1), some (0, i + 1)], [])) rfl ?_
          have e : sm_s (mo_pd ν c) (i + 1).toNat = (sm_s (mo_pd ν c) i.toNat) + 1 := by
            rw [sm_su hi]
            unfold mo_pd
            rw [if_pos (by omega)]
          rw [← e]
          exact ih (i + 1) (by omega) (by omega)
theorem mo_waiting (hs : mo_sh s) (hB : mo_B ν) (hc : -2147483648 ≤ c ∧ c < 2147483648) : sw_w E d 117 (0, [some (2, 0), some (0, c), none, none], []) s ν (sw_is (some (0, mo_wt ν c)) s ν) := by
  have h12 := hB.2.2.2.2.2.1
  refine sw_p 4 (f' := (4, [some (2, 0), some (0, c), some (0, 0), some (0, 0)], [])) rfl ?_
  exact mo_waiting_l hs hB hc (ν 0 24).toNat 0 (by omega) (by omega)
theorem mo_firstOf_l (hs : mo_sh s) (hB : mo_B ν) (hc : -2147483648 ≤ c ∧ c < 2147483648) : ∀ (n : Nat) (r : Int), (n : Int) ≤ 512 → sw_w E d 115 (9, [some (2, 0), some (0, c), some (0, r), some (0, (n : Int) - 1)], []) s ν (sw_is (some (0, mo_fi ν c r n)) s ν) := by
  intro n
  induction n with
  | zero =>
    intro r hn
    refine sw_p 1 (f' := (10, [some (2, 0), some (0, c), some (0, r), some (0, ((0 : Nat) : Int) - 1)], [(0, ((0 : Nat) : Int) - 1)])) rfl ?_
    refine sw_lt1 (pt := 48) (pn := 13) rfl rfl rfl (by omega) (fun h1 => ?_) (fun h1 => ?_)
    · skip
      refine sw_p 1 (f' := (49, [some (2, 0), some (0, c), some (0, r), some (0, ((0 : Nat) : Int) - 1)], [(0, r)])) rfl ?_
      exact sw_retI rfl rfl rfl ⟨rfl, rfl, rfl⟩
    · skip
      omega
  | succ n ih =>
    intro r hn
    have htk := hB.tk n (by omega) (by omega)
    rw [show ((n + 1 : Nat) : Int) - 1 = (n : Int) by omega]
    refine sw_p 1 (f' := (10, [some (2, 0), some (0, c), some (0, r), some (0, (n : Int))], [(0, (n : Int))])) rfl ?_
    refine sw_lt1 (pt := 48) (pn := 13) rfl rfl rfl (by omega) (fun h1 => ?_) (fun h1 => ?_)
    · skip
      refine sw_p 1 (f' := (49, [some (2, 0), some (0, c), some (0, r), some (0, (n : Int))], [(0, r)])) rfl ?_
      exact sw_retI rfl rfl rfl (absurd hn (by omega))
    · skip
      refine sw_p 1 (f' := (14, [some (2, 0), some (0, c), some (0, r), some (0, (n : Int))], [(2, 0)])) rfl ?_
      refine sw_hA (pn := 17) (i := 25) (v := 25) rfl rfl rfl rfl rfl hs.1 (mo_s25 hs).1 (by omega) ?_
      refine sw_p 1 (f' := (18, [some (2, 0), some (0, c), some (0, r), some (0, (n : Int))], [(0, (n : Int)), (2, 25)])) rfl ?_
      refine sw_ial (pn := 19) (l := 512) rfl rfl (by omega) (mo_s25 hs).2.1 (mo_s25 hs).2.2 (by omega) (by omega) ?_
      refine sw_p 1 (f' := (20, [some (2, 0), some (0, c), some (0, r), some (0, (n : Int))], [(0, c), (0, ν 25 ((n : Int)))])) rfl ?_
      refine sw_ne2 (pt := 40) (pn := 23) rfl rfl rfl (by omega) (by omega) (fun h2 => ?_) (fun h2 => ?_)
      · skip
        refine sw_p 4 (f' := (9, [some (2, 0), some (0, c), some (0, r), some (0, (n : Int) + (-1))], [])) rfl ?_
        have e : mo_fi ν c r (n + 1) = mo_fi ν c r n := by
          rw [mo_fi]
          unfold mo_pd
          rw [if_neg (by omega)]
        rw [e]
        exact ih r (by omega)
      · skip
        refine sw_p 1 (f' := (24, [some (2, 0), some (0, c), some (0, r), some (0, (n : Int))], [(2, 0)])) rfl ?_
        refine sw_hA (pn := 27) (i := 28) (v := 28) rfl rfl rfl rfl rfl hs.1 (mo_s28 hs).1 (by omega) ?_
        refine sw_p 1 (f' := (28, [some (2, 0), some (0, c), some (0, r), some (0, (n : Int))], [(0, (n : Int)), (2, 28)])) rfl ?_
        refine sw_lal (pn := 29) (l := 512) rfl rfl (by omega) (mo_s28 hs).2.1 (mo_s28 hs).2.2 (by omega) (by omega) ?_
        refine sw_p 1 (f' := (32, [some (2, 0), some (0, c), some (0, r), some (0, (n : Int))], [(1, 1099511627776), (1, ν 28 ((n : Int)))])) rfl ?_
        refine sw_lcn (pt := 40) (pn := 36) rfl rfl rfl rfl (by omega) (by omega) (fun h3 => ?_) (fun h3 => ?_)
        · skip
          refine sw_p 4 (f' := (9, [some (2, 0), some (0, c), some (0, r), some (0, (n : Int) + (-1))], [])) rfl ?_
          have e : mo_fi ν c r (n + 1) = mo_fi ν c r n := by
            rw [mo_fi]
            unfold mo_pd
            rw [if_neg (by omega)]
          rw [e]
          exact ih r (by omega)
        · skip
          refine sw_p 5 (f' := (9, [some (2, 0), some (0, c), some (0, (n : Int)), some (0, (n : Int) + (-1))], [])) rfl ?_
          have e : mo_fi ν c r (n + 1) = mo_fi ν c (n : Int) n := by
            rw [mo_fi]
            unfold mo_pd
            rw [if_pos (by omega)]
          rw [e]
          exact ih (n : Int) (by omega)
theorem mo_firstOf (hs : mo_sh s) (hB : mo_B ν) (hc : -2147483648 ≤ c ∧ c < 2147483648) : sw_w E d 115 (0, [some (2, 0), some (0, c), none, none], []) s ν (sw_is (some (0, mo_fi ν c (-1) (ν 0 24).toNat)) s ν) := by
  have h12 := hB.2.2.2.2.2.1
  refine sw_p 3 (f' := (3, [some (2, 0), some (0, c), some (0, -1), none], [(2, 0)])) rfl ?_
  refine sw_gI (pn := 6) (i := 24) rfl rfl rfl rfl rfl (by omega) hs.1 ?_
  refine sw_p 3 (f' := (9, [some (2, 0), some (0, c), some (0, -1), some (0, (ν 0 24) - 1)], [])) rfl ?_
  rw [show ν 0 24 - 1 = (((ν 0 24).toNat : Nat) : Int) - 1 by omega]
  exact mo_firstOf_l hs hB hc (ν 0 24).toNat (-1) (by omega)
end MO3
