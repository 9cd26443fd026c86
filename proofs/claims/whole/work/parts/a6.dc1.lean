/-! decode: ranges lie apart everywhere; the reference's work in one -/
/-- the address a lies in what the slot i holds -/
def it_a (ρ : mm_T) (a i k : Int) : Prop := iv_lo ρ i k ≤ a ∧ a < iv_hi ρ i k
def dc_h (ρ : mm_T) (a c : Int) : Prop := mo_hit ρ a c 0 = 1 ∨ mo_hit ρ a c 1 = 1 ∨ mo_hit ρ a c 2 = 1
section DC
variable {E : mv_E} {s ν ν1 ρ ρ' ρ1 : mm_T} {f : Int → Int} {d : Nat} {a b c e i k l n o p r t u w x y z : Int} {Q : nm_O → mm_T → mm_T → Prop}
theorem it_up (hI : iv_I ρ f) (hi : 0 ≤ i ∧ i < 32) (hk : 0 ≤ k ∧ k < 3) (h : it_a ρ a i k) (hb : 1 ≤ i / 4) : ∃ j, 0 ≤ j ∧ j < 32 ∧ ρ 2 j = i / 4 ∧ j / 4 < i / 4 ∧ it_a ρ a j 0 := by
  have b1 := hI.1.1.1
  have hn : i / 4 < ρ 0 1 := by
    by_cases hh : i / 4 < ρ 0 1
    · exact hh
    · have := hI.2.2.2.2.2.2.2.2.2.1.1 i (by omega) hi.2
      unfold it_a iv_lo iv_hi at h
      rw [if_neg (by omega), if_neg (by omega), if_neg (by omega), if_neg (by omega)] at h
      omega
  obtain ⟨j, j0, j1, j2⟩ := hI.2.2.2.2.2.2.2.2.1.2.2.2 (i / 4) hb hn
  have hW := hI.2.2.2.2.1 i k hi.1 hi.2 hk.1 hk.2 (by unfold it_a at h; omega)
  have hT := hI.1.2.2.1.2.2 j j0 j1 (by omega) (by omega)
  have hT2 := hI.1.2.2.1.2.1 (i / 4) hb hn
  rw [j2] at hT
  refine ⟨j, j0, j1, j2, by omega, ?_⟩
  unfold it_a at h ⊢
  unfold iv_lo iv_hi
  rw [if_neg (by omega), if_pos ⟨by omega, rfl⟩, if_neg (by omega), if_pos ⟨by omega, rfl⟩, j2]
  omega
theorem it_ap (hI : iv_I ρ f) : ∀ (n : Nat) (i k j l : Int), 0 ≤ i → i < 32 → 0 ≤ j → j < 32 → 0 ≤ k → k < 3 → 0 ≤ l → l < 3 → i / 4 + j / 4 ≤ n → it_a ρ a i k → it_a ρ a j l → (i = j ∧ k = l) ∨ (ρ 2 i < 100 ∧ ρ 2 i ≤ j / 4) ∨ (ρ 2 j < 100 ∧ ρ 2 j ≤ i / 4)
  | n, i, k, j, l, i0, i1, j0, j1, k0, k1, l0, l1, hn, h1, h2 => by
    by_cases hb : i / 4 = j / 4
    · by_cases he : i = j ∧ k = l
      · exact Or.inl he
      · have := hI.2.2.2.1 i j k l i0 i1 j0 j1 k0 k1 l0 l1 hb he (by unfold it_a at h1; omega) (by unfold it_a at h2; omega)
        unfold it_a at h1 h2
        omega
    · by_cases hlt : i / 4 < j / 4
      · obtain ⟨j', g0, g1, g2, g3, g4⟩ := it_up hI ⟨j0, j1⟩ ⟨l0, l1⟩ h2 (by omega)
        match n, hn with
        | 0, hn => omega
        | n + 1, hn =>
          rcases it_ap hI n i k j' 0 i0 i1 g0 g1 k0 k1 (by omega) (by omega) (by omega) h1 g4 with ⟨e1, e2⟩ | ⟨e1, e2⟩ | ⟨e1, e2⟩
          · rw [e1, g2]
            exact Or.inr (Or.inl ⟨by omega, by omega⟩)
          · exact Or.inr (Or.inl ⟨e1, by omega⟩)
          · omega
      · obtain ⟨i', g0, g1, g2, g3, g4⟩ := it_up hI ⟨i0, i1⟩ ⟨k0, k1⟩ h1 (by omega)
        match n, hn with
        | 0, hn => omega
        | n + 1, hn =>
          rcases it_ap hI n i' 0 j l g0 g1 j0 j1 (by omega) (by omega) l0 l1 (by omega) g4 h2 with ⟨e1, e2⟩ | ⟨e1, e2⟩ | ⟨e1, e2⟩
          · rw [← e1, g2]
            exact Or.inr (Or.inr ⟨by omega, by omega⟩)
          · omega
          · exact Or.inr (Or.inr ⟨e1, by omega⟩)
theorem hit_it (hI : iv_I ρ f) (hc : 0 ≤ c ∧ c < ρ 0 12) (hk : 0 ≤ k ∧ k < 3) (h : mo_hit ρ a c k = 1) : ∃ i, 0 ≤ i ∧ i < 32 ∧ ρ 2 i = 100 + c ∧ it_a ρ a i k := by
  have h2 : 0 ≤ ρ 17 (3 * c + k) ∧ ρ 17 (3 * c + k) ≤ a ∧ a < ρ 17 (3 * c + k) + ρ 9 (3 * ρ 13 c + k) := by
    unfold mo_hit at h
    split at h
    · next h2 => exact h2
    · omega
  rcases hI.2.2.2.2.2.2.1 c k hc.1 hc.2 hk.1 hk.2 with ⟨g1, g2⟩ | ⟨g1, g2⟩
  · obtain ⟨i, i0, i1, i2⟩ := hI.2.2.2.2.2.2.2.2.1.2.2.1 c hc.1 hc.2 g1.2
    refine ⟨i, i0, i1, i2, ?_⟩
    unfold it_a iv_lo iv_hi
    rw [i2, show 100 + c - 100 = c by omega, if_pos (show 100 ≤ 100 + c by omega), if_pos (show 100 ≤ 100 + c by omega), if_neg (show ¬ ρ 17 (3 * c + k) < 0 by omega), if_neg (show ¬ ρ 17 (3 * c + k) < 0 by omega)]
    exact h2.2
  · omega
theorem dc_un (hI : iv_I ρ f) {c2 : Int} (hc : 0 ≤ c ∧ c < ρ 0 12) (hc2 : 0 ≤ c2 ∧ c2 < ρ 0 12) (h1 : dc_h ρ a c) (h2 : dc_h ρ a c2) : c = c2 := by
  have g : ∀ c, 0 ≤ c ∧ c < ρ 0 12 → dc_h ρ a c → ∃ i k, 0 ≤ i ∧ i < 32 ∧ 0 ≤ k ∧ k < 3 ∧ ρ 2 i = 100 + c ∧ it_a ρ a i k := fun c hc h => by
    rcases h with h | h | h
    · obtain ⟨i, i0, i1, i2, i3⟩ := hit_it hI hc (k := 0) (by omega) h
      exact ⟨i, 0, i0, i1, by omega, by omega, i2, i3⟩
    · obtain ⟨i, i0, i1, i2, i3⟩ := hit_it hI hc (k := 1) (by omega) h
      exact ⟨i, 1, i0, i1, by omega, by omega, i2, i3⟩
    · obtain ⟨i, i0, i1, i2, i3⟩ := hit_it hI hc (k := 2) (by omega) h
      exact ⟨i, 2, i0, i1, by omega, by omega, i2, i3⟩
  obtain ⟨i, k, i0, i1, k0, k1, i2, i3⟩ := g c hc h1
  obtain ⟨j, l, j0, j1, l0, l1, j2, j3⟩ := g c2 hc2 h2
  rcases it_ap hI (i / 4 + j / 4).toNat i k j l i0 i1 j0 j1 k0 k1 l0 l1 (by omega) i3 j3 with ⟨e1, e2⟩ | ⟨e1, e2⟩ | ⟨e1, e2⟩
  · rw [e1] at i2; omega
  · omega
  · omega
theorem di_h (h : dc_h ρ a c) : mo_di ρ a c 3 r = c := by
  unfold mo_di mo_di mo_di mo_di
  rw [show (2 : Int) - ((2 : Nat) : Int) = 0 by omega, show (2 : Int) - ((1 : Nat) : Int) = 1 by omega, show (2 : Int) - ((0 : Nat) : Int) = 2 by omega]
  by_cases h2 : mo_hit ρ a c 2 = 1
  · rw [if_pos h2]
  · rw [if_neg h2]
    by_cases h1 : mo_hit ρ a c 1 = 1
    · rw [if_pos h1]
    · rw [if_neg h1]
      rcases h with h | h | h
      · rw [if_pos h]
      · exact absurd h h1
      · exact absurd h h2
theorem di_n (h : ¬ dc_h ρ a c) : mo_di ρ a c 3 r = r := by
  unfold mo_di mo_di mo_di mo_di
  rw [show (2 : Int) - ((2 : Nat) : Int) = 0 by omega, show (2 : Int) - ((1 : Nat) : Int) = 1 by omega, show (2 : Int) - ((0 : Nat) : Int) = 2 by omega]
  rw [if_neg (fun h2 => h (Or.inr (Or.inr h2))), if_neg (fun h2 => h (Or.inr (Or.inl h2))), if_neg (fun h2 => h (Or.inl h2))]
theorem do_n : ∀ (n : Nat) (c r : Int), (∀ c2, c ≤ c2 → c2 < c + n → ¬ dc_h ρ a c2) → mo_do ρ a n c r = r
  | 0, _, _, _ => rfl
  | n + 1, c, r, h => by
    show mo_do ρ a n (c + 1) (mo_di ρ a c 3 r) = r
    rw [di_n (h c (by omega) (by omega))]
    exact do_n n (c + 1) r (fun c2 h1 h2 => h c2 (by omega) (by omega))
theorem do_h (hI : iv_I ρ f) {n : Nat} (hc : 0 ≤ c) (hn : c + (n + 1 : Nat) = ρ 0 12) (h : dc_h ρ a c) : mo_do ρ a (n + 1) c (-1) = c := by
  show mo_do ρ a n (c + 1) (mo_di ρ a c 3 (-1)) = c
  rw [di_h h]
  exact do_n n (c + 1) c (fun c2 h1 h2 h3 => by have := dc_un hI (c := c) (c2 := c2) (by omega) (by omega) h h3; omega)
/-- the class's test is the reference's -/
theorem hold_k (hI : iv_I ρ f) (hR : pt_R s ν ρ f) (hc : 0 ≤ c ∧ c < ρ 0 12) (hk : 0 ≤ k ∧ k < 3) (ht : 1 ≤ ρ 15 c ∧ ρ 15 c ≤ 3) : (ν (340 + c) k ≤ a ∧ a < ν (340 + c) k + ρ 9 (3 * ρ 13 c + k)) ↔ mo_hit ρ a c k = 1 := by
  have b12 := hI.1.1.2.2.1
  have hcd := hI.1.1.cd c hc.1 (by omega)
  have h9 := hI.1.1.2.2.2.2.2.2.2.2.2.2.2.1 (3 * ρ 13 c + k) (by omega) (by omega)
  obtain ⟨g1, g2⟩ := hR.cr c k hc.1 hc.2 hk.1 hk.2
  have hr := hI.2.2.2.2.2.2.1 c k hc.1 hc.2 hk.1 hk.2
  unfold mo_hit
  by_cases hz : 0 < ρ 9 (3 * ρ 13 c + k)
  · have e := g2 ht hz
    rw [e]
    rcases hr with ⟨r1, r2, r3⟩ | ⟨r1, r2⟩
    · constructor
      · intro h
        rw [if_pos ⟨r3, h⟩]
      · intro h
        split at h
        · next h2 => exact h2.2
        · omega
    · exact absurd ⟨ht, hz⟩ r1
  · constructor
    · intro h
      omega
    · intro h
      split at h <;> omega
theorem dc_nt (hI : iv_I ρ f) (hc : 0 ≤ c ∧ c < ρ 0 12) (ht : ¬ (1 ≤ ρ 15 c ∧ ρ 15 c ≤ 3)) : ¬ dc_h ρ a c := by
  have g : ∀ k, 0 ≤ k → k < 3 → mo_hit ρ a c k ≠ 1 := fun k k0 k1 h => by
    rcases hI.2.2.2.2.2.2.1 c k hc.1 hc.2 k0 k1 with ⟨r1, r2, r3⟩ | ⟨r1, r2⟩
    · exact ht r1
    · unfold mo_hit at h
      rw [if_neg (by omega)] at h
      omega
  rintro (h | h | h)
  · exact g 0 (by omega) (by omega) h
  · exact g 1 (by omega) (by omega) h
  · exact g 2 (by omega) (by omega) h
theorem dc_t (hI : iv_I ρ f) (hR : pt_R s ν ρ f) (hc : 0 ≤ c ∧ c < ρ 0 12) (ht : 1 ≤ ρ 15 c ∧ ρ 15 c ≤ 3) : ((ν (340 + c) 0 ≤ a ∧ a < ν (340 + c) 0 + ρ 9 (3 * ρ 13 c + 0)) ∨ (ν (340 + c) 1 ≤ a ∧ a < ν (340 + c) 1 + ρ 9 (3 * ρ 13 c + 1)) ∨ (ν (340 + c) 2 ≤ a ∧ a < ν (340 + c) 2 + ρ 9 (3 * ρ 13 c + 2))) ↔ dc_h ρ a c := by
  unfold dc_h
  rw [hold_k hI hR hc (by omega) ht, hold_k hI hR hc (by omega) ht, hold_k hI hR hc (by omega) ht]
theorem cl_dc_l (hI : iv_I ρ f) (hR : pt_R s ν ρ f) (ha : -2147483648 ≤ a ∧ a < 2147483648) : ∀ (n : Nat) (c : Int), 0 ≤ c → c + n = ρ 0 12 → sw_w E (d + 1) 62 (2, [some (2, 50), some (0, a), some (0, c)], []) s ν (sw_is (some (0, mo_do ρ a n c (-1))) s ν) := by
  have b12 := hI.1.1.2.2.1
  intro n
  induction n with
  | zero =>
    intro c hc hn
    refine sw_p 2 (f' := (4, [some (2, 50), some (0, a), some (0, c)], [(2, 50), (0, c)])) rfl ?_
    refine sw_gI (pn := 7) (i := 10) rfl rfl rfl rfl rfl (by omega) hR.sh.1 ?_
    rw [show ν 50 10 = ρ 0 12 from hR.z.2.2.1]
    refine sw_ge2 (pt := 43) (pn := 10) rfl rfl rfl (by omega) (by omega) (fun m1 => ?_) (fun h => absurd h (by omega))
    refine sw_p 1 (f' := (44, [some (2, 50), some (0, a), some (0, c)], [(0, -1)])) rfl ?_
    exact sw_retI rfl rfl rfl ⟨rfl, rfl, rfl⟩
  | succ n ih =>
    intro c hc hn
    have hcd := hI.1.1.cd c hc (by omega)
    have hcc : 0 ≤ c ∧ c < ρ 0 12 := ⟨hc, by omega⟩
    have en : ¬ dc_h ρ a c → mo_do ρ a (n + 1) c (-1) = mo_do ρ a n (c + 1) (-1) := fun h => by
      show mo_do ρ a n (c + 1) (mo_di ρ a c 3 (-1)) = _
      rw [di_n h]
    by_cases ht : 1 ≤ ρ 15 c ∧ ρ 15 c ≤ 3
    · by_cases hh : dc_h ρ a c
      · rw [do_h hI hc hn hh]
        refine sw_p 2 (f' := (4, [some (2, 50), some (0, a), some (0, c)], [(2, 50), (0, c)])) rfl ?_
        refine sw_gI (pn := 7) (i := 10) rfl rfl rfl rfl rfl (by omega) hR.sh.1 ?_
        rw [show ν 50 10 = ρ 0 12 from hR.z.2.2.1]
        refine sw_ge2 (pt := 43) (pn := 10) rfl rfl rfl (by omega) (by omega) (fun h => absurd h (by omega)) (fun m1 => ?_)
        refine sw_p 1 (f' := (11, [some (2, 50), some (0, a), some (0, c)], [(2, 50)])) rfl ?_
        refine sw_hA (pn := 14) (i := 2) (v := 53) rfl rfl rfl rfl rfl hR.sh.1 hR.sh.2.2.2.1.1 (by omega) ?_
        refine sw_p 1 (f' := (15, [some (2, 50), some (0, a), some (0, c)], [(0, c), (2, 53)])) rfl ?_
        refine sw_aal (pn := 16) (t := 5) (l := 40) rfl rfl rfl (by decide) (by omega) hR.sh.2.2.2.1.2.1 hR.sh.2.2.2.1.2.2 (by omega) (by omega) (fun _ => ?_) (fun h => absurd h (by rw [show ν 53 c = 300 + c from (hR.cn c (by omega) (by omega)).1]; omega))
        rw [show ν 53 c = 300 + c from (hR.cn c (by omega) (by omega)).1]
        refine sw_cv1 (pn := 19) (q0 := mj_PT_decode) (q := mj_Ca_isThere) (p := 300 + c) (as2 := []) (L2 := [some (2, 300 + c)]) (rest := []) (v := some (0, 1)) (s1 := s) (ν1 := ν) rfl rfl rfl rfl rfl rfl rfl rfl rfl (hR.ca c (by omega) (by omega)).1 (by have h := cl_th (E := E) (d := d) hI.1 hR hcc; rw [if_pos ht] at h; exact h) ?_
        show sw_w E _ 62 (19, [some (2, 50), some (0, a), some (0, c)], [(0, 1)]) s ν _
        refine sw_eq1 (pt := 37) (pn := 22) rfl rfl rfl (by omega) (fun h => absurd h (by decide)) (fun _ => ?_)
        refine sw_p 1 (f' := (23, [some (2, 50), some (0, a), some (0, c)], [(2, 50)])) rfl ?_
        refine sw_hA (pn := 26) (i := 2) (v := 53) rfl rfl rfl rfl rfl hR.sh.1 hR.sh.2.2.2.1.1 (by omega) ?_
        refine sw_p 1 (f' := (27, [some (2, 50), some (0, a), some (0, c)], [(0, c), (2, 53)])) rfl ?_
        refine sw_aal (pn := 28) (t := 5) (l := 40) rfl rfl rfl (by decide) (by omega) hR.sh.2.2.2.1.2.1 hR.sh.2.2.2.1.2.2 (by omega) (by omega) (fun _ => ?_) (fun h => absurd h (by rw [show ν 53 c = 300 + c from (hR.cn c (by omega) (by omega)).1]; omega))
        rw [show ν 53 c = 300 + c from (hR.cn c (by omega) (by omega)).1]
        refine sw_p 1 (f' := (29, [some (2, 50), some (0, a), some (0, c)], [(0, a), (2, 300 + c)])) rfl ?_
        refine sw_cv1 (pn := 32) (q0 := mj_PT_decode) (q := mj_Ca_holds) (p := 300 + c) (as2 := [(0, a)]) (L2 := [some (2, 300 + c), some (0, a), none]) (rest := []) (v := some (0, 1)) (s1 := s) (ν1 := ν) rfl rfl rfl rfl rfl rfl rfl rfl rfl (hR.ca c (by omega) (by omega)).1 (by have h := cl_hold (E := E) (d := d) hI.1 hR hcc ha; rw [if_pos ((dc_t hI hR hcc ht).2 hh)] at h; exact h) ?_
        show sw_w E _ 62 (32, [some (2, 50), some (0, a), some (0, c)], [(0, 1)]) s ν _
        refine sw_eq1 (pt := 37) (pn := 35) rfl rfl rfl (by omega) (fun h => absurd h (by decide)) (fun _ => ?_)
        refine sw_p 1 (f' := (36, [some (2, 50), some (0, a), some (0, c)], [(0, c)])) rfl ?_
        exact sw_retI rfl rfl rfl ⟨rfl, rfl, rfl⟩
      · rw [en hh]
        refine sw_p 2 (f' := (4, [some (2, 50), some (0, a), some (0, c)], [(2, 50), (0, c)])) rfl ?_
        refine sw_gI (pn := 7) (i := 10) rfl rfl rfl rfl rfl (by omega) hR.sh.1 ?_
        rw [show ν 50 10 = ρ 0 12 from hR.z.2.2.1]
        refine sw_ge2 (pt := 43) (pn := 10) rfl rfl rfl (by omega) (by omega) (fun h => absurd h (by omega)) (fun m1 => ?_)
        refine sw_p 1 (f' := (11, [some (2, 50), some (0, a), some (0, c)], [(2, 50)])) rfl ?_
        refine sw_hA (pn := 14) (i := 2) (v := 53) rfl rfl rfl rfl rfl hR.sh.1 hR.sh.2.2.2.1.1 (by omega) ?_
        refine sw_p 1 (f' := (15, [some (2, 50), some (0, a), some (0, c)], [(0, c), (2, 53)])) rfl ?_
        refine sw_aal (pn := 16) (t := 5) (l := 40) rfl rfl rfl (by decide) (by omega) hR.sh.2.2.2.1.2.1 hR.sh.2.2.2.1.2.2 (by omega) (by omega) (fun _ => ?_) (fun h => absurd h (by rw [show ν 53 c = 300 + c from (hR.cn c (by omega) (by omega)).1]; omega))
        rw [show ν 53 c = 300 + c from (hR.cn c (by omega) (by omega)).1]
        refine sw_cv1 (pn := 19) (q0 := mj_PT_decode) (q := mj_Ca_isThere) (p := 300 + c) (as2 := []) (L2 := [some (2, 300 + c)]) (rest := []) (v := some (0, 1)) (s1 := s) (ν1 := ν) rfl rfl rfl rfl rfl rfl rfl rfl rfl (hR.ca c (by omega) (by omega)).1 (by have h := cl_th (E := E) (d := d) hI.1 hR hcc; rw [if_pos ht] at h; exact h) ?_
        show sw_w E _ 62 (19, [some (2, 50), some (0, a), some (0, c)], [(0, 1)]) s ν _
        refine sw_eq1 (pt := 37) (pn := 22) rfl rfl rfl (by omega) (fun h => absurd h (by decide)) (fun _ => ?_)
        refine sw_p 1 (f' := (23, [some (2, 50), some (0, a), some (0, c)], [(2, 50)])) rfl ?_
        refine sw_hA (pn := 26) (i := 2) (v := 53) rfl rfl rfl rfl rfl hR.sh.1 hR.sh.2.2.2.1.1 (by omega) ?_
        refine sw_p 1 (f' := (27, [some (2, 50), some (0, a), some (0, c)], [(0, c), (2, 53)])) rfl ?_
        refine sw_aal (pn := 28) (t := 5) (l := 40) rfl rfl rfl (by decide) (by omega) hR.sh.2.2.2.1.2.1 hR.sh.2.2.2.1.2.2 (by omega) (by omega) (fun _ => ?_) (fun h => absurd h (by rw [show ν 53 c = 300 + c from (hR.cn c (by omega) (by omega)).1]; omega))
        rw [show ν 53 c = 300 + c from (hR.cn c (by omega) (by omega)).1]
        refine sw_p 1 (f' := (29, [some (2, 50), some (0, a), some (0, c)], [(0, a), (2, 300 + c)])) rfl ?_
        refine sw_cv1 (pn := 32) (q0 := mj_PT_decode) (q := mj_Ca_holds) (p := 300 + c) (as2 := [(0, a)]) (L2 := [some (2, 300 + c), some (0, a), none]) (rest := []) (v := some (0, 0)) (s1 := s) (ν1 := ν) rfl rfl rfl rfl rfl rfl rfl rfl rfl (hR.ca c (by omega) (by omega)).1 (by have h := cl_hold (E := E) (d := d) hI.1 hR hcc ha; rw [if_neg (fun h2 => hh ((dc_t hI hR hcc ht).1 h2))] at h; exact h) ?_
        show sw_w E _ 62 (32, [some (2, 50), some (0, a), some (0, c)], [(0, 0)]) s ν _
        refine sw_eq1 (pt := 37) (pn := 35) rfl rfl rfl (by omega) (fun _ => ?_) (fun h => absurd h (by decide))
        refine sw_p 2 (f' := (2, [some (2, 50), some (0, a), some (0, c + 1)], [])) rfl ?_
        exact ih (c + 1) (by omega) (by omega)
    · rw [en (dc_nt hI hcc ht)]
      refine sw_p 2 (f' := (4, [some (2, 50), some (0, a), some (0, c)], [(2, 50), (0, c)])) rfl ?_
      refine sw_gI (pn := 7) (i := 10) rfl rfl rfl rfl rfl (by omega) hR.sh.1 ?_
      rw [show ν 50 10 = ρ 0 12 from hR.z.2.2.1]
      refine sw_ge2 (pt := 43) (pn := 10) rfl rfl rfl (by omega) (by omega) (fun h => absurd h (by omega)) (fun m1 => ?_)
      refine sw_p 1 (f' := (11, [some (2, 50), some (0, a), some (0, c)], [(2, 50)])) rfl ?_
      refine sw_hA (pn := 14) (i := 2) (v := 53) rfl rfl rfl rfl rfl hR.sh.1 hR.sh.2.2.2.1.1 (by omega) ?_
      refine sw_p 1 (f' := (15, [some (2, 50), some (0, a), some (0, c)], [(0, c), (2, 53)])) rfl ?_
      refine sw_aal (pn := 16) (t := 5) (l := 40) rfl rfl rfl (by decide) (by omega) hR.sh.2.2.2.1.2.1 hR.sh.2.2.2.1.2.2 (by omega) (by omega) (fun _ => ?_) (fun h => absurd h (by rw [show ν 53 c = 300 + c from (hR.cn c (by omega) (by omega)).1]; omega))
      rw [show ν 53 c = 300 + c from (hR.cn c (by omega) (by omega)).1]
      refine sw_cv1 (pn := 19) (q0 := mj_PT_decode) (q := mj_Ca_isThere) (p := 300 + c) (as2 := []) (L2 := [some (2, 300 + c)]) (rest := []) (v := some (0, 0)) (s1 := s) (ν1 := ν) rfl rfl rfl rfl rfl rfl rfl rfl rfl (hR.ca c (by omega) (by omega)).1 (by have h := cl_th (E := E) (d := d) hI.1 hR hcc; rw [if_neg ht] at h; exact h) ?_
      show sw_w E _ 62 (19, [some (2, 50), some (0, a), some (0, c)], [(0, 0)]) s ν _
      refine sw_eq1 (pt := 37) (pn := 22) rfl rfl rfl (by omega) (fun _ => ?_) (fun h => absurd h (by decide))
      refine sw_p 2 (f' := (2, [some (2, 50), some (0, a), some (0, c + 1)], [])) rfl ?_
      exact ih (c + 1) (by omega) (by omega)
theorem cl_dc (hI : iv_I ρ f) (hR : pt_R s ν ρ f) (ha : -2147483648 ≤ a ∧ a < 2147483648) : sw_w E (d + 1) 62 (0, [some (2, 50), some (0, a), none], []) s ν (sw_is (some (0, mo_do ρ a (ρ 0 12).toNat 0 (-1))) s ν) := by
  have b12 := hI.1.1.2.2.1
  refine sw_p 2 (f' := (2, [some (2, 50), some (0, a), some (0, 0)], [])) rfl ?_
  exact cl_dc_l hI hR ha (ρ 0 12).toNat 0 (by omega) (by omega)
/-- the reference's work -/
theorem mo_wk (hs : mo_sh s) (hI : iv_I ν f) (hc : 0 ≤ c ∧ c < ν 0 12) (hd : wk_d ν c) : sw_w E (d + 1) 118 (0, [some (2, 0), some (0, c), none], []) s ν (sw_is (some (0, 1)) s (wk_f (mo_cd ν 0) c)) := by
  have hB := hI.1.1
  have b12 := hB.2.2.1
  have b24 := hB.2.2.2.2.2.1
  have hcd := hB.cd c hc.1 (by omega)
  have hb := wk_b hI hc hd
  have e19 : mo_cd ν 0 19 c = ν 19 c := mm_u_ne (by omega)
  have e26 : mo_cd ν 0 26 = ν 26 := by funext i; exact mm_u_ne (by omega)
  have eft : mo_ft (mo_cd ν 0) c = mo_ft ν c := by
    unfold mo_ft
    rw [mo_fi_cd, show mo_cd ν 0 0 24 = ν 0 24 from mm_u_ne (by omega)]
  have ez : wk_z (mo_cd ν 0) c = wk_z ν c := by
    unfold wk_z
    rw [e19, e26, eft]
  obtain ⟨f0, f1, f2, f3⟩ := fr_t1 (ρ := ν) (c := c) b24.1 hb.2.1
  by_cases h19 : ν 19 c = 0
  · have hz : wk_z ν c = ν 26 (mo_ft ν c) % 8 + 1 := if_pos h19
    have hs1 : ν 15 c = 1 := by
      rcases hd with h | h
      · omega
      · exact h.1
    by_cases h8 : ν 26 (mo_ft ν c) % 8 = 0
    · have h := mo_work_b2 (E := E) (d := d) hs hB hc h19 hs1 f0 h8
      rw [uu_same, show ν 26 (mo_ft ν c) % 8 + 1 - 1 = 0 by omega] at h
      unfold wk_f
      rw [ez, if_pos (by omega), eft]
      exact h
    · have h := mo_work_b1 (E := E) (d := d) hs hB hc h19 hs1 f0 h8
      rw [uu_same, ← hz] at h
      unfold wk_f
      rw [ez, if_neg (by omega)]
      exact h
  · have hz : wk_z ν c = ν 19 c := if_neg h19
    by_cases h8 : ν 19 c = 1
    · have h := mo_work_a2 (E := E) (d := d) hs hB hc h8 f0
      rw [show ν 19 c - 1 = 0 by omega] at h
      unfold wk_f
      rw [ez, if_pos (by omega), eft]
      exact h
    · have h := mo_work_a1 (E := E) (d := d) hs hB hc (by omega)
      rw [← hz] at h
      unfold wk_f
      rw [ez, if_neg (by omega)]
      exact h
theorem mo_wk0 (hs : mo_sh s) (hI : iv_I ν f) (hc : 0 ≤ c ∧ c < ν 0 12) (hd : ¬ wk_d ν c) : sw_w E (d + 1) 118 (0, [some (2, 0), some (0, c), none], []) s ν (sw_is (some (0, 0)) s (mo_cd ν 0)) := by
  have hB := hI.1.1
  have b12 := hB.2.2.1
  have b24 := hB.2.2.2.2.2.1
  have hcd := hB.cd c hc.1 (by omega)
  have w0 := wt_0 (ρ := ν) (c := c)
  have h19 : ν 19 c = 0 := by
    have : ¬ 0 < ν 19 c := fun h => hd (Or.inl h)
    omega
  by_cases h15 : ν 15 c = 1
  · have hw : mo_wt ν c = 0 := by
      have : ¬ 1 ≤ mo_wt ν c := fun h => hd (Or.inr ⟨h15, h⟩)
      omega
    exact mo_work_n2 hs hB hc h19 h15 (by rw [fr_t0 b24.1 hw]; omega)
  · exact mo_work_n1 hs hB hc h19 h15
end DC
