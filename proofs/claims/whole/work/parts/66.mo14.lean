/-! the reference: lookAt -/
/-- memory with one row of marks given by g -/
def mo_wr (ν : mm_T) (p : Int) (g : Int → Int) : mm_T := fun q k => if q = p then g k else ν q k
/-- more marks -/
def mo_mkr (lo hi : Int) (g : Int → Int) : Int → Int := fun k => if lo ≤ k ∧ k < hi then 1 else g k
/-- the range k of c marked -/
def mo_mk1 (ν : mm_T) (c k : Int) (g : Int → Int) : Int → Int := if ν 17 (3 * c + k) < 0 then g else mo_mkr (ν 17 (3 * c + k)) (ν 17 (3 * c + k) + ν 9 (3 * ν 13 c + k)) g
/-- what is in a slot marked, but for w -/
def mo_mku (ν : mm_T) (w u : Int) (g : Int → Int) : Int → Int := if u = w ∨ u = -1 then g else if u < 100 then mo_mkr (ν 5 u) (ν 6 u) g else mo_mk1 ν (u - 100) 2 (mo_mk1 ν (u - 100) 1 (mo_mk1 ν (u - 100) 0 g))
def mo_mks (ν : mm_T) (w : Int) : Nat → Int → (Int → Int) → Int → Int
  | 0, _, g => g
  | n + 1, i, g => mo_mks ν w n (i + 1) (mo_mku ν w (ν 2 i) g)
/-- what lies directly in the opening of b, as marks -/
def mo_look (ν : mm_T) (b x e w p : Int) : Int → Int := mo_mks ν w 4 (4 * b) (fun k => if x ≤ k ∧ k < e then 0 else ν p k)
/-- bounds: what is in slots, openings, ranges -/
def mo_C (ν : mm_T) : Prop := (∀ i, 0 ≤ i → i < 32 → ν 2 i < 8 ∨ 100 ≤ ν 2 i) ∧ (∀ u, 0 ≤ u → u < 8 → (0 ≤ ν 5 u ∧ ν 5 u ≤ 4096) ∧ (0 ≤ ν 6 u ∧ ν 6 u ≤ 4096)) ∧ (∀ c k, 0 ≤ c → c < 40 → 0 ≤ k → k < 3 → 0 ≤ ν 17 (3 * c + k) → ν 17 (3 * c + k) + ν 9 (3 * ν 13 c + k) ≤ 4096)
section MO14
variable {E : mv_E} {s ν : mm_T} {d : Nat} {a b c r x y w p f k t v lo hi l z e u i : Int} {g : Int → Int} {Q : nm_O → mm_T → mm_T → Prop} {o7 o8 o9 : Option mg_V}
theorem mo_wr_ne {q k : Int} (h : q ≠ p) : mo_wr ν p g q k = ν q k := by unfold mo_wr; rw [if_neg h]
theorem mo_wr_mk : rg_m (mo_wr ν p g) p lo hi (fun _ => 1) = mo_wr ν p (mo_mkr lo hi g) := by
  funext q k
  by_cases h : q = p ∧ lo ≤ k ∧ k < hi
  · obtain ⟨rfl, h1⟩ := h
    rw [rg_at h1]
    unfold mo_wr mo_mkr
    rw [if_pos rfl, if_pos h1]
  · rw [rg_ne h]
    unfold mo_wr mo_mkr
    by_cases hq : q = p
    · rw [if_pos hq, if_pos hq, if_neg (fun h1 => h ⟨hq, h1⟩)]
    · rw [if_neg hq, if_neg hq]
theorem mo_wr_0 (h : hi ≤ lo) : mo_mkr lo hi g = g := by
  funext k
  unfold mo_mkr
  rw [if_neg (by omega)]
theorem mo_markw (hp : 0 ≤ p) (hk : s p (-1) = 1) (hl : s p (-2) = 4096) (hx : 0 ≤ x ∧ x < 2147483648) (hy : -2147483648 ≤ y ∧ y ≤ 4096) : sw_w E d 99 (0, [some (2, p), some (0, x), some (0, y), none], []) s (mo_wr ν p g) (sw_is none s (mo_wr ν p (mo_mkr x y g))) := by
  have h := mo_mark (E := E) (d := d) (ν := mo_wr ν p g) hp hk hl hx.1 hy.2 hx.2 hy.1
  rwa [mo_wr_mk] at h
theorem mo_sizew (hs : mo_sh s) (hB : mo_B ν) (hp : p = 29 ∨ p = 30) (hc : 0 ≤ c ∧ c < 40) (hk : 0 ≤ k ∧ k < 3) : sw_w E d 100 (0, [some (2, 0), some (0, c), some (0, k)], []) s (mo_wr ν p g) (sw_is (some (0, ν 9 (3 * ν 13 c + k))) s (mo_wr ν p g)) := by
  have hcd := hB.cd c hc.1 hc.2
  have h := mo_sizeOf (E := E) (d := d) (s := s) (ν := mo_wr ν p g) (c := c) (k := k) hs hc hk (by rw [mo_wr_ne (by omega)]; omega)
  rw [show mo_wr ν p g 13 c = ν 13 c from mo_wr_ne (by omega), show mo_wr ν p g 9 (3 * ν 13 c + k) = ν 9 (3 * ν 13 c + k) from mo_wr_ne (by omega)] at h
  exact h
theorem mo_look_k (hs : mo_sh s) (hB : mo_B ν) (hC : mo_C ν) (hp : p = 29 ∨ p = 30) (hk : s p (-1) = 1) (hl : s p (-2) = 4096) (hc : 0 ≤ c ∧ c < 40) (hk3 : 0 ≤ k ∧ k < 3) (kk : ∀ o9, sw_w E (d + 1) 98 (90, [some (2, 0), some (0, b), some (0, x), some (0, e), some (0, w), some (2, p), some (0, i), some (0, c + 100), some (0, k + 1), o9], []) s (mo_wr ν p (mo_mk1 ν c k g)) Q) : sw_w E (d + 1) 98 (90, [some (2, 0), some (0, b), some (0, x), some (0, e), some (0, w), some (2, p), some (0, i), some (0, c + 100), some (0, k), o9], []) s (mo_wr ν p g) Q := by
  have hcd := hB.cd c hc.1 hc.2
  have hrg := hB.2.2.2.2.2.2.2.2.2.2.2.2.1 (3 * c + k) (by omega) (by omega)
  have hsz := hB.2.2.2.2.2.2.2.2.2.2.2.1 (3 * ν 13 c + k) (by omega) (by omega)
  have hcr := hC.2.2 c k hc.1 hc.2 hk3.1 hk3.2
  have ec : 3 * (c + 100 - 100) + k = 3 * c + k := by omega
  by_cases hneg : ν 17 (3 * c + k) < 0
  · skip
    refine sw_p 2 (f' := (93, [some (2, 0), some (0, b), some (0, x), some (0, e), some (0, w), some (2, p), some (0, i), some (0, c + 100), some (0, k), o9], [(0, 3), (0, k)])) rfl ?_
    refine sw_ge2 (pt := 165) (pn := 96) rfl rfl rfl (by omega) (by omega) (fun h => absurd h (by omega)) (fun h1 => ?_)
    refine sw_p 2 (f' := (100, [some (2, 0), some (0, b), some (0, x), some (0, e), some (0, w), some (2, p), some (0, i), some (0, c + 100), some (0, k), o9], [(0, 100), (0, c + 100)])) rfl ?_
    refine sw_lt2 (pt := 165) (pn := 103) rfl rfl rfl (by omega) (by omega) (fun h => absurd h (by omega)) (fun h2 => ?_)
    refine sw_p 1 (f' := (104, [some (2, 0), some (0, b), some (0, x), some (0, e), some (0, w), some (2, p), some (0, i), some (0, c + 100), some (0, k), o9], [(2, 0)])) rfl ?_
    refine sw_hA (pn := 107) (i := 17) (v := 17) rfl rfl rfl rfl rfl hs.1 (mo_s17 hs).1 (by omega) ?_
    refine sw_p 7 (f' := (117, [some (2, 0), some (0, b), some (0, x), some (0, e), some (0, w), some (2, p), some (0, i), some (0, c + 100), some (0, k), o9], [(0, (3 * ((c + 100) - 100)) + k), (2, 17)])) rfl ?_
    refine sw_ial (pn := 118) (l := 120) rfl rfl (by omega) (mo_s17 hs).2.1 (mo_s17 hs).2.2 (by omega) (by omega) ?_
    rw [show (mo_wr ν p g) 17 ((3 * ((c + 100) - 100)) + k) = ν 17 (3 * c + k) from (by rw [ec]; exact mo_wr_ne (by omega))]
    refine sw_p 3 (f' := (124, [some (2, 0), some (0, b), some (0, x), some (0, e), some (0, w), some (2, p), some (0, i), some (0, c + 100), some (0, k), some (0, ν 17 (3 * c + k))], [(0, ν 17 (3 * c + k)), (2, p)])) rfl ?_
    refine sw_ge1 (pt := 131) (pn := 127) rfl rfl rfl (by omega) (fun h => absurd h (by omega)) (fun h3 => ?_)
    refine sw_p 3 (f' := (135, [some (2, 0), some (0, b), some (0, x), some (0, e), some (0, w), some (2, p), some (0, i), some (0, c + 100), some (0, k), some (0, ν 17 (3 * c + k))], [(0, ν 17 (3 * c + k)), (0, 0), (2, p)])) rfl ?_
    refine sw_ge1 (pt := 142) (pn := 138) rfl rfl rfl (by omega) (fun h => absurd h (by omega)) (fun h4 => ?_)
    refine sw_p 2 (f' := (156, [some (2, 0), some (0, b), some (0, x), some (0, e), some (0, w), some (2, p), some (0, i), some (0, c + 100), some (0, k), some (0, ν 17 (3 * c + k))], [(0, 0), (0, 0), (2, p)])) rfl ?_
    refine sw_cs1 (pn := 159) (q0 := mj_Mo_lookAt) (q := mj_Mo_mark) (L2 := [some (2, p), some (0, 0), some (0, 0), none]) (rest := []) (v := none) (s1 := s) (ν1 := (mo_wr ν p (mo_mk1 ν c k g))) rfl rfl rfl rfl rfl rfl rfl rfl (by have h := mo_markw (E := E) (d := d) (x := 0) (y := 0) (ν := ν) (g := g) (by omega) hk hl (by omega) (by omega); rw [mo_wr_0 (by omega)] at h; unfold mo_mk1; rw [if_pos (by omega)]; exact h) ?_
    show sw_w E _ 98 (159, [some (2, 0), some (0, b), some (0, x), some (0, e), some (0, w), some (2, p), some (0, i), some (0, c + 100), some (0, k), some (0, ν 17 (3 * c + k))], []) s (mo_wr ν p (mo_mk1 ν c k g)) _
    refine sw_p 2 (f' := (90, [some (2, 0), some (0, b), some (0, x), some (0, e), some (0, w), some (2, p), some (0, i), some (0, c + 100), some (0, k + 1), some (0, ν 17 (3 * c + k))], [])) rfl ?_
    exact kk _
  · skip
    refine sw_p 2 (f' := (93, [some (2, 0), some (0, b), some (0, x), some (0, e), some (0, w), some (2, p), some (0, i), some (0, c + 100), some (0, k), o9], [(0, 3), (0, k)])) rfl ?_
    refine sw_ge2 (pt := 165) (pn := 96) rfl rfl rfl (by omega) (by omega) (fun h => absurd h (by omega)) (fun h1 => ?_)
    refine sw_p 2 (f' := (100, [some (2, 0), some (0, b), some (0, x), some (0, e), some (0, w), some (2, p), some (0, i), some (0, c + 100), some (0, k), o9], [(0, 100), (0, c + 100)])) rfl ?_
    refine sw_lt2 (pt := 165) (pn := 103) rfl rfl rfl (by omega) (by omega) (fun h => absurd h (by omega)) (fun h2 => ?_)
    refine sw_p 1 (f' := (104, [some (2, 0), some (0, b), some (0, x), some (0, e), some (0, w), some (2, p), some (0, i), some (0, c + 100), some (0, k), o9], [(2, 0)])) rfl ?_
    refine sw_hA (pn := 107) (i := 17) (v := 17) rfl rfl rfl rfl rfl hs.1 (mo_s17 hs).1 (by omega) ?_
    refine sw_p 7 (f' := (117, [some (2, 0), some (0, b), some (0, x), some (0, e), some (0, w), some (2, p), some (0, i), some (0, c + 100), some (0, k), o9], [(0, (3 * ((c + 100) - 100)) + k), (2, 17)])) rfl ?_
    refine sw_ial (pn := 118) (l := 120) rfl rfl (by omega) (mo_s17 hs).2.1 (mo_s17 hs).2.2 (by omega) (by omega) ?_
    rw [show (mo_wr ν p g) 17 ((3 * ((c + 100) - 100)) + k) = ν 17 (3 * c + k) from (by rw [ec]; exact mo_wr_ne (by omega))]
    refine sw_p 3 (f' := (124, [some (2, 0), some (0, b), some (0, x), some (0, e), some (0, w), some (2, p), some (0, i), some (0, c + 100), some (0, k), some (0, ν 17 (3 * c + k))], [(0, ν 17 (3 * c + k)), (2, p)])) rfl ?_
    refine sw_ge1 (pt := 131) (pn := 127) rfl rfl rfl (by omega) (fun h3 => ?_) (fun h => absurd h (by omega))
    refine sw_p 2 (f' := (135, [some (2, 0), some (0, b), some (0, x), some (0, e), some (0, w), some (2, p), some (0, i), some (0, c + 100), some (0, k), some (0, ν 17 (3 * c + k))], [(0, ν 17 (3 * c + k)), (0, ν 17 (3 * c + k)), (2, p)])) rfl ?_
    refine sw_ge1 (pt := 142) (pn := 138) rfl rfl rfl (by omega) (fun h4 => ?_) (fun h => absurd h (by omega))
    refine sw_p 6 (f' := (152, [some (2, 0), some (0, b), some (0, x), some (0, e), some (0, w), some (2, p), some (0, i), some (0, c + 100), some (0, k), some (0, ν 17 (3 * c + k))], [(0, k), (0, (c + 100) - 100), (2, 0), (0, ν 17 (3 * c + k)), (0, ν 17 (3 * c + k)), (2, p)])) rfl ?_
    refine sw_cv1 (pn := 155) (q0 := mj_Mo_lookAt) (q := mj_Mo_sizeOf) (p := 0) (as2 := [(0, (c + 100) - 100), (0, k)]) (L2 := [some (2, 0), some (0, (c + 100) - 100), some (0, k)]) (rest := [(0, ν 17 (3 * c + k)), (0, ν 17 (3 * c + k)), (2, p)]) (v := some (0, ν 9 (3 * ν 13 c + k))) (s1 := s) (ν1 := (mo_wr ν p g)) rfl rfl rfl rfl rfl rfl rfl rfl rfl hs.1 (by rw [show c + 100 - 100 = c by omega]; exact mo_sizew hs hB hp hc hk3) ?_
    show sw_w E _ 98 (155, [some (2, 0), some (0, b), some (0, x), some (0, e), some (0, w), some (2, p), some (0, i), some (0, c + 100), some (0, k), some (0, ν 17 (3 * c + k))], [(0, ν 9 (3 * ν 13 c + k)), (0, ν 17 (3 * c + k)), (0, ν 17 (3 * c + k)), (2, p)]) s (mo_wr ν p g) _
    refine sw_p 1 (f' := (156, [some (2, 0), some (0, b), some (0, x), some (0, e), some (0, w), some (2, p), some (0, i), some (0, c + 100), some (0, k), some (0, ν 17 (3 * c + k))], [(0, (ν 17 (3 * c + k)) + (ν 9 (3 * ν 13 c + k))), (0, ν 17 (3 * c + k)), (2, p)])) rfl ?_
    refine sw_cs1 (pn := 159) (q0 := mj_Mo_lookAt) (q := mj_Mo_mark) (L2 := [some (2, p), some (0, ν 17 (3 * c + k)), some (0, (ν 17 (3 * c + k)) + (ν 9 (3 * ν 13 c + k))), none]) (rest := []) (v := none) (s1 := s) (ν1 := (mo_wr ν p (mo_mk1 ν c k g))) rfl rfl rfl rfl rfl rfl rfl rfl (by have h := mo_markw (E := E) (d := d) (x := ν 17 (3 * c + k)) (y := ν 17 (3 * c + k) + ν 9 (3 * ν 13 c + k)) (ν := ν) (g := g) (by omega) hk hl (by omega) (by omega); unfold mo_mk1; rw [if_neg (by omega)]; exact h) ?_
    show sw_w E _ 98 (159, [some (2, 0), some (0, b), some (0, x), some (0, e), some (0, w), some (2, p), some (0, i), some (0, c + 100), some (0, k), some (0, ν 17 (3 * c + k))], []) s (mo_wr ν p (mo_mk1 ν c k g)) _
    refine sw_p 2 (f' := (90, [some (2, 0), some (0, b), some (0, x), some (0, e), some (0, w), some (2, p), some (0, i), some (0, c + 100), some (0, k + 1), some (0, ν 17 (3 * c + k))], [])) rfl ?_
    exact kk _
theorem mo_look_o (hs : mo_sh s) (hB : mo_B ν) (hC : mo_C ν) (hp : p = 29 ∨ p = 30) (hk : s p (-1) = 1) (hl : s p (-2) = 4096) (hb : 0 ≤ b ∧ b < 8) (hw : -2147483648 ≤ w ∧ w < 2147483648) : ∀ (n : Nat) (i : Int) (g : Int → Int) (o7 o8 o9 : Option mg_V), 4 * b ≤ i → i + n = 4 * b + 4 → sw_w E (d + 1) 98 (26, [some (2, 0), some (0, b), some (0, x), some (0, e), some (0, w), some (2, p), some (0, i), o7, o8, o9], []) s (mo_wr ν p g) (sw_is none s (mo_wr ν p (mo_mks ν w n i g))) := by
  intro n
  induction n with
  | zero =>
    intro i g o7 o8 o9 hi hn
    refine sw_p 6 (f' := (33, [some (2, 0), some (0, b), some (0, x), some (0, e), some (0, w), some (2, p), some (0, i), o7, o8, o9], [(0, (4 * b) + 4), (0, i)])) rfl ?_
    refine sw_ge2 (pt := 171) (pn := 36) rfl rfl rfl (by omega) (by omega) (fun h1 => ?_) (fun h => absurd h (by omega))
    exact sw_retV rfl rfl rfl ⟨rfl, rfl, rfl⟩
  | succ n ih =>
    intro i g o7 o8 o9 hi hn
    have hsl := hB.2.2.2.2.2.2.2.1 i (by omega) (by omega)
    have hsc := hC.1 i (by omega) (by omega)
    have hbe := hC.2.1 (ν 2 i)
    refine sw_p 6 (f' := (33, [some (2, 0), some (0, b), some (0, x), some (0, e), some (0, w), some (2, p), some (0, i), o7, o8, o9], [(0, (4 * b) + 4), (0, i)])) rfl ?_
    refine sw_ge2 (pt := 171) (pn := 36) rfl rfl rfl (by omega) (by omega) (fun h => absurd h (by omega)) (fun h1 => ?_)
    refine sw_p 1 (f' := (37, [some (2, 0), some (0, b), some (0, x), some (0, e), some (0, w), some (2, p), some (0, i), o7, o8, o9], [(2, 0)])) rfl ?_
    refine sw_hA (pn := 40) (i := 2) (v := 2) rfl rfl rfl rfl rfl hs.1 (mo_s2 hs).1 (by omega) ?_
    refine sw_p 1 (f' := (42, [some (2, 0), some (0, b), some (0, x), some (0, e), some (0, w), some (2, p), some (0, i), o7, o8, o9], [(0, i), (2, 2)])) rfl ?_
    refine sw_ial (pn := 43) (l := 32) rfl rfl (by omega) (mo_s2 hs).2.1 (mo_s2 hs).2.2 (by omega) (by omega) ?_
    rw [show (mo_wr ν p g) 2 i = ν 2 i from mo_wr_ne (by omega)]
    refine sw_p 3 (f' := (49, [some (2, 0), some (0, b), some (0, x), some (0, e), some (0, w), some (2, p), some (0, i), some (0, ν 2 i), o8, o9], [(0, w), (0, ν 2 i)])) rfl ?_
    refine sw_eq2 (pt := 165) (pn := 52) rfl rfl rfl (by omega) (by omega) (fun h2 => ?_) (fun h2 => ?_)
    · skip
      refine sw_p 2 (f' := (26, [some (2, 0), some (0, b), some (0, x), some (0, e), some (0, w), some (2, p), some (0, i + 1), some (0, ν 2 i), o8, o9], [])) rfl ?_
      rw [mo_mks, show mo_mku ν w (ν 2 i) g = g by unfold mo_mku; rw [if_pos (by omega)]]
      exact ih (i + 1) _ _ _ _ (by omega) (by omega)
    · skip
      refine sw_p 2 (f' := (55, [some (2, 0), some (0, b), some (0, x), some (0, e), some (0, w), some (2, p), some (0, i), some (0, ν 2 i), o8, o9], [(0, -1), (0, ν 2 i)])) rfl ?_
      refine sw_ne2 (pt := 61) (pn := 58) rfl rfl rfl (by omega) (by omega) (fun h3 => ?_) (fun h3 => ?_)
      · skip
        refine sw_p 2 (f' := (65, [some (2, 0), some (0, b), some (0, x), some (0, e), some (0, w), some (2, p), some (0, i), some (0, ν 2 i), o8, o9], [(0, 100), (0, ν 2 i)])) rfl ?_
        refine sw_ge2 (pt := 87) (pn := 68) rfl rfl rfl (by omega) (by omega) (fun h4 => ?_) (fun h4 => ?_)
        · skip
          refine sw_p 2 (f' := (90, [some (2, 0), some (0, b), some (0, x), some (0, e), some (0, w), some (2, p), some (0, i), some (0, ν 2 i), some (0, 0), o9], [])) rfl ?_
          obtain ⟨c, hcu⟩ : ∃ c, ν 2 i = c + 100 := ⟨ν 2 i - 100, by omega⟩
          rw [hcu]
          refine mo_look_k hs hB hC hp hk hl (c := c) (k := 0) (by omega) (by omega) (fun o9 => ?_)
          refine mo_look_k hs hB hC hp hk hl (c := c) (k := 0 + 1) (by omega) (by omega) (fun o9 => ?_)
          refine mo_look_k hs hB hC hp hk hl (c := c) (k := 0 + 1 + 1) (by omega) (by omega) (fun o9 => ?_)
          show sw_w E (d + 1) 98 (90, [some (2, 0), some (0, b), some (0, x), some (0, e), some (0, w), some (2, p), some (0, i), some (0, c + 100), some (0, 3), o9], []) s (mo_wr ν p (mo_mk1 ν c 2 (mo_mk1 ν c 1 (mo_mk1 ν c 0 g)))) _
          refine sw_p 2 (f' := (93, [some (2, 0), some (0, b), some (0, x), some (0, e), some (0, w), some (2, p), some (0, i), some (0, c + 100), some (0, 3), o9], [(0, 3), (0, 3)])) rfl ?_
          refine sw_ge2 (pt := 165) (pn := 96) rfl rfl rfl (by omega) (by omega) (fun _ => ?_) (fun h => absurd h (by decide))
          refine sw_p 2 (f' := (26, [some (2, 0), some (0, b), some (0, x), some (0, e), some (0, w), some (2, p), some (0, i + 1), some (0, c + 100), some (0, 3), o9], [])) rfl ?_
          rw [mo_mks, show mo_mku ν w (ν 2 i) g = mo_mk1 ν c 2 (mo_mk1 ν c 1 (mo_mk1 ν c 0 g)) by rw [hcu]; unfold mo_mku; rw [if_neg (by omega), if_neg (by omega), show c + 100 - 100 = c by omega]]
          exact ih (i + 1) _ _ _ _ (by omega) (by omega)
        · skip
          refine sw_p 2 (f' := (71, [some (2, 0), some (0, b), some (0, x), some (0, e), some (0, w), some (2, p), some (0, i), some (0, ν 2 i), o8, o9], [(2, 0), (2, p)])) rfl ?_
          refine sw_hA (pn := 74) (i := 5) (v := 5) rfl rfl rfl rfl rfl hs.1 (mo_s5 hs).1 (by omega) ?_
          refine sw_p 1 (f' := (76, [some (2, 0), some (0, b), some (0, x), some (0, e), some (0, w), some (2, p), some (0, i), some (0, ν 2 i), o8, o9], [(0, ν 2 i), (2, 5), (2, p)])) rfl ?_
          refine sw_ial (pn := 77) (l := 8) rfl rfl (by omega) (mo_s5 hs).2.1 (mo_s5 hs).2.2 (by omega) (by omega) ?_
          rw [show (mo_wr ν p g) 5 (ν 2 i) = ν 5 (ν 2 i) from mo_wr_ne (by omega)]
          refine sw_p 1 (f' := (78, [some (2, 0), some (0, b), some (0, x), some (0, e), some (0, w), some (2, p), some (0, i), some (0, ν 2 i), o8, o9], [(2, 0), (0, ν 5 (ν 2 i)), (2, p)])) rfl ?_
          refine sw_hA (pn := 81) (i := 6) (v := 6) rfl rfl rfl rfl rfl hs.1 (mo_s6 hs).1 (by omega) ?_
          refine sw_p 1 (f' := (83, [some (2, 0), some (0, b), some (0, x), some (0, e), some (0, w), some (2, p), some (0, i), some (0, ν 2 i), o8, o9], [(0, ν 2 i), (2, 6), (0, ν 5 (ν 2 i)), (2, p)])) rfl ?_
          refine sw_ial (pn := 84) (l := 8) rfl rfl (by omega) (mo_s6 hs).2.1 (mo_s6 hs).2.2 (by omega) (by omega) ?_
          rw [show (mo_wr ν p g) 6 (ν 2 i) = ν 6 (ν 2 i) from mo_wr_ne (by omega)]
          refine sw_cs1 (pn := 87) (q0 := mj_Mo_lookAt) (q := mj_Mo_mark) (L2 := [some (2, p), some (0, ν 5 (ν 2 i)), some (0, ν 6 (ν 2 i)), none]) (rest := []) (v := none) (s1 := s) (ν1 := (mo_wr ν p (mo_mkr (ν 5 (ν 2 i)) (ν 6 (ν 2 i)) g))) rfl rfl rfl rfl rfl rfl rfl rfl (mo_markw (by omega) hk hl (by omega) (by omega)) ?_
          show sw_w E _ 98 (87, [some (2, 0), some (0, b), some (0, x), some (0, e), some (0, w), some (2, p), some (0, i), some (0, ν 2 i), o8, o9], []) s (mo_wr ν p (mo_mkr (ν 5 (ν 2 i)) (ν 6 (ν 2 i)) g)) _
          refine sw_p 4 (f' := (93, [some (2, 0), some (0, b), some (0, x), some (0, e), some (0, w), some (2, p), some (0, i), some (0, ν 2 i), some (0, 0), o9], [(0, 3), (0, 0)])) rfl ?_
          refine sw_ge2 (pt := 165) (pn := 96) rfl rfl rfl (by omega) (by omega) (fun h => absurd h (by decide)) (fun _ => ?_)
          refine sw_p 2 (f' := (100, [some (2, 0), some (0, b), some (0, x), some (0, e), some (0, w), some (2, p), some (0, i), some (0, ν 2 i), some (0, 0), o9], [(0, 100), (0, ν 2 i)])) rfl ?_
          refine sw_lt2 (pt := 165) (pn := 103) rfl rfl rfl (by omega) (by omega) (fun q2 => ?_) (fun h => absurd h (by omega))
          refine sw_p 2 (f' := (26, [some (2, 0), some (0, b), some (0, x), some (0, e), some (0, w), some (2, p), some (0, i + 1), some (0, ν 2 i), some (0, 0), o9], [])) rfl ?_
          rw [mo_mks, show mo_mku ν w (ν 2 i) g = mo_mkr (ν 5 (ν 2 i)) (ν 6 (ν 2 i)) g by unfold mo_mku; rw [if_neg (by omega), if_pos (by omega)]]
          exact ih (i + 1) _ _ _ _ (by omega) (by omega)
      · skip
        refine sw_p 3 (f' := (26, [some (2, 0), some (0, b), some (0, x), some (0, e), some (0, w), some (2, p), some (0, i + 1), some (0, ν 2 i), o8, o9], [])) rfl ?_
        rw [mo_mks, show mo_mku ν w (ν 2 i) g = g by unfold mo_mku; rw [if_pos (by omega)]]
        exact ih (i + 1) _ _ _ _ (by omega) (by omega)
theorem mo_wr_cl : rg_m ν p x e (fun _ => 0) = mo_wr ν p (fun k => if x ≤ k ∧ k < e then 0 else ν p k) := by
  funext q k
  by_cases h : q = p
  · subst h
    unfold mo_wr
    rw [if_pos rfl]
    by_cases h1 : x ≤ k ∧ k < e
    · rw [rg_at h1]
      exact (if_pos h1).symm
    · rw [rg_ne (fun h2 => h1 h2.2)]
      exact (if_neg h1).symm
  · rw [rg_ne (fun h2 => h h2.1), mo_wr_ne h]
theorem mo_look_c (hs : mo_sh s) (hB : mo_B ν) (hC : mo_C ν) (hp : p = 29 ∨ p = 30) (hk : s p (-1) = 1) (hl : s p (-2) = 4096) (hb : 0 ≤ b ∧ b < 8) (hw : -2147483648 ≤ w ∧ w < 2147483648) (hx : 0 ≤ x ∧ x ≤ 4096) (he : 0 ≤ e ∧ e ≤ 4096) : ∀ (n : Nat) (i : Int), x ≤ i → (i + n = e ∨ n = 0 ∧ e ≤ i ∧ i = x) → sw_w E (d + 1) 98 (3, [some (2, 0), some (0, b), some (0, x), some (0, e), some (0, w), some (2, p), some (0, i), none, none, none], []) s (rg_m ν p x i (fun _ => 0)) (sw_is none s (mo_wr ν p (mo_look ν b x e w p))) := by
  intro n
  induction n with
  | zero =>
    intro i hi hn
    have e1 : rg_m ν p x i (fun _ => 0) = mo_wr ν p (fun k => if x ≤ k ∧ k < e then 0 else ν p k) := by
      rw [← mo_wr_cl]
      rcases hn with h | h
      · rw [show i = e by omega]
      · rw [rg_0 (by omega), rg_0 (by omega)]
    rw [e1]
    refine sw_p 2 (f' := (6, [some (2, 0), some (0, b), some (0, x), some (0, e), some (0, w), some (2, p), some (0, i), none, none, none], [(0, e), (0, i)])) rfl ?_
    refine sw_ge2 (pt := 21) (pn := 9) rfl rfl rfl (by omega) (by omega) (fun h1 => ?_) (fun h => absurd h (by omega))
    refine sw_p 4 (f' := (26, [some (2, 0), some (0, b), some (0, x), some (0, e), some (0, w), some (2, p), some (0, 4 * b), none, none, none], [])) rfl ?_
    exact mo_look_o hs hB hC hp hk hl hb hw 4 (4 * b) _ _ _ _ (by omega) (by omega)
  | succ n ih =>
    intro i hi hn
    refine sw_p 2 (f' := (6, [some (2, 0), some (0, b), some (0, x), some (0, e), some (0, w), some (2, p), some (0, i), none, none, none], [(0, e), (0, i)])) rfl ?_
    refine sw_ge2 (pt := 21) (pn := 9) rfl rfl rfl (by omega) (by omega) (fun h => absurd h (by omega)) (fun h1 => ?_)
    refine sw_p 3 (f' := (14, [some (2, 0), some (0, b), some (0, x), some (0, e), some (0, w), some (2, p), some (0, i), none, none, none], [(0, 0), (0, i), (2, p)])) rfl ?_
    refine sw_bas (pn := 15) (l := 4096) rfl rfl (by omega) (by omega) hk hl (by omega) (by omega) ?_
    refine sw_p 2 (f' := (3, [some (2, 0), some (0, b), some (0, x), some (0, e), some (0, w), some (2, p), some (0, i + 1), none, none, none], [])) rfl ?_
    rw [rg_u (g := fun _ => 0) (by omega) rfl]
    exact ih (i + 1) (by omega) (by omega)
theorem mo_lookAt (hs : mo_sh s) (hB : mo_B ν) (hC : mo_C ν) (hp : p = 29 ∨ p = 30) (hk : s p (-1) = 1) (hl : s p (-2) = 4096) (hb : 0 ≤ b ∧ b < 8) (hw : -2147483648 ≤ w ∧ w < 2147483648) (hx : 0 ≤ x ∧ x ≤ 4096) (he : 0 ≤ e ∧ e ≤ 4096) : sw_w E (d + 1) 98 (0, [some (2, 0), some (0, b), some (0, x), some (0, e), some (0, w), some (2, p), none, none, none, none], []) s ν (sw_is none s (mo_wr ν p (mo_look ν b x e w p))) := by
  refine sw_p 2 (f' := (3, [some (2, 0), some (0, b), some (0, x), some (0, e), some (0, w), some (2, p), some (0, x), none, none, none], [])) rfl ?_
  have h := mo_look_c (E := E) (d := d) hs hB hC hp hk hl hb hw hx he (e - x).toNat x (by omega) (by omega)
  rw [rg_0 (by omega)] at h
  exact h
end MO14
