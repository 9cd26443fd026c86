/-! the reference: laidBy, refuse -/
/-- what a slot's content takes when all is packed -/
def mo_ldu (ν : mm_T) (u : Int) : Int := if 100 ≤ u then ν 9 (3 * ν 13 (u - 100) + 0) + ν 9 (3 * ν 13 (u - 100) + 1) + ν 9 (3 * ν 13 (u - 100) + 2) else if 0 ≤ u then ν 7 u else 0
def mo_lds (ν : mm_T) : Nat → Int → Int
  | 0, _ => 0
  | n + 1, i => mo_ldu ν (ν 2 i) + mo_lds ν n (i + 1)
/-- what a bridge lays -/
def mo_ld (ν : mm_T) (b : Int) : Int := mo_lds ν 4 (4 * b)
section MO15
variable {E : mv_E} {s ν : mm_T} {d : Nat} {a b c r x y w p f k t v lo hi l z e u i : Int} {o4 o5 : Option mg_V}
theorem mo_laid_l (hs : mo_sh s) (hB : mo_B ν) (hC : mo_C ν) (hb : 0 ≤ b ∧ b < 8) : ∀ (n : Nat) (i r : Int) (o4 o5 : Option mg_V), 4 * b ≤ i → i + n = 4 * b + 4 → sw_w E (d + 1) 106 (6, [some (2, 0), some (0, b), some (0, r), some (0, i), o4, o5], []) s ν (sw_is (some (0, r + mo_lds ν n i)) s ν) := by
  intro n
  induction n with
  | zero =>
    intro i r o4 o5 hi hn
    refine sw_p 6 (f' := (12, [some (2, 0), some (0, b), some (0, r), some (0, i), o4, o5], [(0, (4 * b) + 4), (0, i)])) rfl ?_
    refine sw_ge2 (pt := 91) (pn := 15) rfl rfl rfl (by omega) (by omega) (fun h1 => ?_) (fun h => absurd h (by omega))
    refine sw_p 1 (f' := (92, [some (2, 0), some (0, b), some (0, r), some (0, i), o4, o5], [(0, r)])) rfl ?_
    exact sw_retI rfl rfl rfl ⟨by rw [mo_lds, Int.add_zero], rfl, rfl⟩
  | succ n ih =>
    intro i r o4 o5 hi hn
    have hsl := hB.2.2.2.2.2.2.2.1 i (by omega) (by omega)
    have hsc := hC.1 i (by omega) (by omega)
    have hcd := hB.cd (ν 2 i - 100)
    by_cases hu : 100 ≤ ν 2 i
    · skip
      refine sw_p 6 (f' := (12, [some (2, 0), some (0, b), some (0, r), some (0, i), o4, o5], [(0, (4 * b) + 4), (0, i)])) rfl ?_
      refine sw_ge2 (pt := 91) (pn := 15) rfl rfl rfl (by omega) (by omega) (fun h => absurd h (by omega)) (fun h1 => ?_)
      refine sw_p 1 (f' := (16, [some (2, 0), some (0, b), some (0, r), some (0, i), o4, o5], [(2, 0)])) rfl ?_
      refine sw_hA (pn := 19) (i := 2) (v := 2) rfl rfl rfl rfl rfl hs.1 (mo_s2 hs).1 (by omega) ?_
      refine sw_p 1 (f' := (20, [some (2, 0), some (0, b), some (0, r), some (0, i), o4, o5], [(0, i), (2, 2)])) rfl ?_
      refine sw_ial (pn := 21) (l := 32) rfl rfl (by omega) (mo_s2 hs).2.1 (mo_s2 hs).2.2 (by omega) (by omega) ?_
      refine sw_p 5 (f' := (29, [some (2, 0), some (0, b), some (0, r), some (0, i), some (0, ν 2 i), some (0, 0)], [(0, 3), (0, 0)])) rfl ?_
      refine sw_ge2 (pt := 59) (pn := 32) rfl rfl rfl (by omega) (by omega) (fun h => absurd h (by decide)) (fun _ => ?_)
      refine sw_p 2 (f' := (36, [some (2, 0), some (0, b), some (0, r), some (0, i), some (0, ν 2 i), some (0, 0)], [(0, 100), (0, ν 2 i)])) rfl ?_
      refine sw_lt2 (pt := 59) (pn := 39) rfl rfl rfl (by omega) (by omega) (fun h => absurd h (by omega)) (fun h3 => ?_)
      refine sw_p 6 (f' := (48, [some (2, 0), some (0, b), some (0, r), some (0, i), some (0, ν 2 i), some (0, 0)], [(0, 0), (0, (ν 2 i) - 100), (2, 0), (0, r)])) rfl ?_
      refine sw_cv1 (pn := 51) (q0 := mj_Mo_laidBy) (q := mj_Mo_sizeOf) (p := 0) (as2 := [(0, (ν 2 i) - 100), (0, 0)]) (L2 := [some (2, 0), some (0, (ν 2 i) - 100), some (0, 0)]) (rest := [(0, r)]) (v := some (0, ν 9 (3 * ν 13 (ν 2 i - 100) + 0))) (s1 := s) (ν1 := ν) rfl rfl rfl rfl rfl rfl rfl rfl rfl hs.1 (mo_sizeOf hs (by omega) (by omega) (by omega)) ?_
      show sw_w E _ 106 (51, [some (2, 0), some (0, b), some (0, r), some (0, i), some (0, ν 2 i), some (0, 0)], [(0, ν 9 (3 * ν 13 (ν 2 i - 100) + 0)), (0, r)]) s ν _
      refine sw_p 6 (f' := (29, [some (2, 0), some (0, b), some (0, r + (ν 9 (3 * ν 13 (ν 2 i - 100) + 0))), some (0, i), some (0, ν 2 i), some (0, 1)], [(0, 3), (0, 1)])) rfl ?_
      refine sw_ge2 (pt := 59) (pn := 32) rfl rfl rfl (by omega) (by omega) (fun h => absurd h (by decide)) (fun _ => ?_)
      refine sw_p 2 (f' := (36, [some (2, 0), some (0, b), some (0, r + (ν 9 (3 * ν 13 (ν 2 i - 100) + 0))), some (0, i), some (0, ν 2 i), some (0, 1)], [(0, 100), (0, ν 2 i)])) rfl ?_
      refine sw_lt2 (pt := 59) (pn := 39) rfl rfl rfl (by omega) (by omega) (fun h => absurd h (by omega)) (fun h5 => ?_)
      refine sw_p 6 (f' := (48, [some (2, 0), some (0, b), some (0, r + (ν 9 (3 * ν 13 (ν 2 i - 100) + 0))), some (0, i), some (0, ν 2 i), some (0, 1)], [(0, 1), (0, (ν 2 i) - 100), (2, 0), (0, r + (ν 9 (3 * ν 13 (ν 2 i - 100) + 0)))])) rfl ?_
      refine sw_cv1 (pn := 51) (q0 := mj_Mo_laidBy) (q := mj_Mo_sizeOf) (p := 0) (as2 := [(0, (ν 2 i) - 100), (0, 1)]) (L2 := [some (2, 0), some (0, (ν 2 i) - 100), some (0, 1)]) (rest := [(0, r + (ν 9 (3 * ν 13 (ν 2 i - 100) + 0)))]) (v := some (0, ν 9 (3 * ν 13 (ν 2 i - 100) + 1))) (s1 := s) (ν1 := ν) rfl rfl rfl rfl rfl rfl rfl rfl rfl hs.1 (mo_sizeOf hs (by omega) (by omega) (by omega)) ?_
      show sw_w E _ 106 (51, [some (2, 0), some (0, b), some (0, r + (ν 9 (3 * ν 13 (ν 2 i - 100) + 0))), some (0, i), some (0, ν 2 i), some (0, 1)], [(0, ν 9 (3 * ν 13 (ν 2 i - 100) + 1)), (0, r + (ν 9 (3 * ν 13 (ν 2 i - 100) + 0)))]) s ν _
      refine sw_p 6 (f' := (29, [some (2, 0), some (0, b), some (0, (r + (ν 9 (3 * ν 13 (ν 2 i - 100) + 0))) + (ν 9 (3 * ν 13 (ν 2 i - 100) + 1))), some (0, i), some (0, ν 2 i), some (0, 2)], [(0, 3), (0, 2)])) rfl ?_
      refine sw_ge2 (pt := 59) (pn := 32) rfl rfl rfl (by omega) (by omega) (fun h => absurd h (by decide)) (fun _ => ?_)
      refine sw_p 2 (f' := (36, [some (2, 0), some (0, b), some (0, (r + (ν 9 (3 * ν 13 (ν 2 i - 100) + 0))) + (ν 9 (3 * ν 13 (ν 2 i - 100) + 1))), some (0, i), some (0, ν 2 i), some (0, 2)], [(0, 100), (0, ν 2 i)])) rfl ?_
      refine sw_lt2 (pt := 59) (pn := 39) rfl rfl rfl (by omega) (by omega) (fun h => absurd h (by omega)) (fun h7 => ?_)
      refine sw_p 6 (f' := (48, [some (2, 0), some (0, b), some (0, (r + (ν 9 (3 * ν 13 (ν 2 i - 100) + 0))) + (ν 9 (3 * ν 13 (ν 2 i - 100) + 1))), some (0, i), some (0, ν 2 i), some (0, 2)], [(0, 2), (0, (ν 2 i) - 100), (2, 0), (0, (r + (ν 9 (3 * ν 13 (ν 2 i - 100) + 0))) + (ν 9 (3 * ν 13 (ν 2 i - 100) + 1)))])) rfl ?_
      refine sw_cv1 (pn := 51) (q0 := mj_Mo_laidBy) (q := mj_Mo_sizeOf) (p := 0) (as2 := [(0, (ν 2 i) - 100), (0, 2)]) (L2 := [some (2, 0), some (0, (ν 2 i) - 100), some (0, 2)]) (rest := [(0, (r + (ν 9 (3 * ν 13 (ν 2 i - 100) + 0))) + (ν 9 (3 * ν 13 (ν 2 i - 100) + 1)))]) (v := some (0, ν 9 (3 * ν 13 (ν 2 i - 100) + 2))) (s1 := s) (ν1 := ν) rfl rfl rfl rfl rfl rfl rfl rfl rfl hs.1 (mo_sizeOf hs (by omega) (by omega) (by omega)) ?_
      show sw_w E _ 106 (51, [some (2, 0), some (0, b), some (0, (r + (ν 9 (3 * ν 13 (ν 2 i - 100) + 0))) + (ν 9 (3 * ν 13 (ν 2 i - 100) + 1))), some (0, i), some (0, ν 2 i), some (0, 2)], [(0, ν 9 (3 * ν 13 (ν 2 i - 100) + 2)), (0, (r + (ν 9 (3 * ν 13 (ν 2 i - 100) + 0))) + (ν 9 (3 * ν 13 (ν 2 i - 100) + 1)))]) s ν _
      refine sw_p 6 (f' := (29, [some (2, 0), some (0, b), some (0, ((r + (ν 9 (3 * ν 13 (ν 2 i - 100) + 0))) + (ν 9 (3 * ν 13 (ν 2 i - 100) + 1))) + (ν 9 (3 * ν 13 (ν 2 i - 100) + 2))), some (0, i), some (0, ν 2 i), some (0, 3)], [(0, 3), (0, 3)])) rfl ?_
      refine sw_ge2 (pt := 59) (pn := 32) rfl rfl rfl (by omega) (by omega) (fun _ => ?_) (fun h => absurd h (by decide))
      refine sw_p 1 (f' := (61, [some (2, 0), some (0, b), some (0, ((r + (ν 9 (3 * ν 13 (ν 2 i - 100) + 0))) + (ν 9 (3 * ν 13 (ν 2 i - 100) + 1))) + (ν 9 (3 * ν 13 (ν 2 i - 100) + 2))), some (0, i), some (0, ν 2 i), some (0, 3)], [(0, ν 2 i)])) rfl ?_
      refine sw_lt1 (pt := 83) (pn := 64) rfl rfl rfl (by omega) (fun h => absurd h (by omega)) (fun h9 => ?_)
      refine sw_p 2 (f' := (68, [some (2, 0), some (0, b), some (0, ((r + (ν 9 (3 * ν 13 (ν 2 i - 100) + 0))) + (ν 9 (3 * ν 13 (ν 2 i - 100) + 1))) + (ν 9 (3 * ν 13 (ν 2 i - 100) + 2))), some (0, i), some (0, ν 2 i), some (0, 3)], [(0, 100), (0, ν 2 i)])) rfl ?_
      refine sw_ge2 (pt := 83) (pn := 71) rfl rfl rfl (by omega) (by omega) (fun h10 => ?_) (fun h => absurd h (by omega))
      refine sw_p 4 (f' := (6, [some (2, 0), some (0, b), some (0, ((r + (ν 9 (3 * ν 13 (ν 2 i - 100) + 0))) + (ν 9 (3 * ν 13 (ν 2 i - 100) + 1))) + (ν 9 (3 * ν 13 (ν 2 i - 100) + 2))), some (0, i + 1), some (0, ν 2 i), some (0, 3)], [])) rfl ?_
      have e : r + mo_lds ν (n + 1) i = (((r + (ν 9 (3 * ν 13 (ν 2 i - 100) + 0))) + (ν 9 (3 * ν 13 (ν 2 i - 100) + 1))) + (ν 9 (3 * ν 13 (ν 2 i - 100) + 2))) + mo_lds ν n (i + 1) := by
        rw [mo_lds]
        unfold mo_ldu
        rw [if_pos (by omega)]
        omega
      rw [e]
      exact ih (i + 1) _ _ _ (by omega) (by omega)
    · skip
      refine sw_p 6 (f' := (12, [some (2, 0), some (0, b), some (0, r), some (0, i), o4, o5], [(0, (4 * b) + 4), (0, i)])) rfl ?_
      refine sw_ge2 (pt := 91) (pn := 15) rfl rfl rfl (by omega) (by omega) (fun h => absurd h (by omega)) (fun h1 => ?_)
      refine sw_p 1 (f' := (16, [some (2, 0), some (0, b), some (0, r), some (0, i), o4, o5], [(2, 0)])) rfl ?_
      refine sw_hA (pn := 19) (i := 2) (v := 2) rfl rfl rfl rfl rfl hs.1 (mo_s2 hs).1 (by omega) ?_
      refine sw_p 1 (f' := (20, [some (2, 0), some (0, b), some (0, r), some (0, i), o4, o5], [(0, i), (2, 2)])) rfl ?_
      refine sw_ial (pn := 21) (l := 32) rfl rfl (by omega) (mo_s2 hs).2.1 (mo_s2 hs).2.2 (by omega) (by omega) ?_
      refine sw_p 5 (f' := (29, [some (2, 0), some (0, b), some (0, r), some (0, i), some (0, ν 2 i), some (0, 0)], [(0, 3), (0, 0)])) rfl ?_
      refine sw_ge2 (pt := 59) (pn := 32) rfl rfl rfl (by omega) (by omega) (fun h => absurd h (by decide)) (fun _ => ?_)
      refine sw_p 2 (f' := (36, [some (2, 0), some (0, b), some (0, r), some (0, i), some (0, ν 2 i), some (0, 0)], [(0, 100), (0, ν 2 i)])) rfl ?_
      refine sw_lt2 (pt := 59) (pn := 39) rfl rfl rfl (by omega) (by omega) (fun h3 => ?_) (fun h => absurd h (by omega))
      refine sw_p 1 (f' := (61, [some (2, 0), some (0, b), some (0, r), some (0, i), some (0, ν 2 i), some (0, 0)], [(0, ν 2 i)])) rfl ?_
      refine sw_lt1 (pt := 83) (pn := 64) rfl rfl rfl (by omega) (fun h4 => ?_) (fun h4 => ?_)
      · skip
        refine sw_p 4 (f' := (6, [some (2, 0), some (0, b), some (0, r), some (0, i + 1), some (0, ν 2 i), some (0, 0)], [])) rfl ?_
        have e : r + mo_lds ν (n + 1) i = r + mo_lds ν n (i + 1) := by
          rw [mo_lds]
          unfold mo_ldu
          rw [if_neg (by omega), if_neg (by omega)]
          omega
        rw [e]
        exact ih (i + 1) _ _ _ (by omega) (by omega)
      · skip
        refine sw_p 2 (f' := (68, [some (2, 0), some (0, b), some (0, r), some (0, i), some (0, ν 2 i), some (0, 0)], [(0, 100), (0, ν 2 i)])) rfl ?_
        refine sw_ge2 (pt := 83) (pn := 71) rfl rfl rfl (by omega) (by omega) (fun h => absurd h (by omega)) (fun h5 => ?_)
        refine sw_p 2 (f' := (73, [some (2, 0), some (0, b), some (0, r), some (0, i), some (0, ν 2 i), some (0, 0)], [(2, 0), (0, r)])) rfl ?_
        refine sw_hA (pn := 76) (i := 7) (v := 7) rfl rfl rfl rfl rfl hs.1 (mo_s7 hs).1 (by omega) ?_
        refine sw_p 1 (f' := (78, [some (2, 0), some (0, b), some (0, r), some (0, i), some (0, ν 2 i), some (0, 0)], [(0, ν 2 i), (2, 7), (0, r)])) rfl ?_
        refine sw_ial (pn := 79) (l := 8) rfl rfl (by omega) (mo_s7 hs).2.1 (mo_s7 hs).2.2 (by omega) (by omega) ?_
        refine sw_p 5 (f' := (6, [some (2, 0), some (0, b), some (0, r + (ν 7 (ν 2 i))), some (0, i + 1), some (0, ν 2 i), some (0, 0)], [])) rfl ?_
        have e : r + mo_lds ν (n + 1) i = (r + (ν 7 (ν 2 i))) + mo_lds ν n (i + 1) := by
          rw [mo_lds]
          unfold mo_ldu
          rw [if_neg (by omega), if_pos (by omega)]
          omega
        rw [e]
        exact ih (i + 1) _ _ _ (by omega) (by omega)
theorem mo_laidBy (hs : mo_sh s) (hB : mo_B ν) (hC : mo_C ν) (hb : 0 ≤ b ∧ b < 8) : sw_w E (d + 1) 106 (0, [some (2, 0), some (0, b), none, none, none, none], []) s ν (sw_is (some (0, mo_ld ν b)) s ν) := by
  refine sw_p 6 (f' := (6, [some (2, 0), some (0, b), some (0, 0), some (0, 4 * b), none, none], [])) rfl ?_
  have h := mo_laid_l (E := E) (d := d) hs hB hC hb 4 (4 * b) 0 none none (by omega) (by omega)
  rw [Int.zero_add] at h
  exact h
theorem mo_refuse (hs : mo_sh s) (hB : mo_B ν) (hBr : mo_B (mm_u ν 16 (ν 0 21) y)) (hc : 0 ≤ ν 0 21) : sw_w E (d + 1) 96 (0, [some (2, 0), some (0, y)], []) s ν (sw_is none s (mo_rm (mm_u ν 16 (ν 0 21) y) (ν 0 21) 5)) := by
  have hcm := hB.2.2.2.1
  have hnc := hB.2.2.1
  refine sw_p 1 (f' := (1, [some (2, 0), some (0, y)], [(2, 0)])) rfl ?_
  refine sw_hA (pn := 4) (i := 16) (v := 16) rfl rfl rfl rfl rfl hs.1 (mo_s16 hs).1 (by omega) ?_
  refine sw_p 1 (f' := (5, [some (2, 0), some (0, y)], [(2, 0), (2, 16)])) rfl ?_
  refine sw_gI (pn := 8) (i := 21) rfl rfl rfl rfl rfl (by omega) hs.1 ?_
  refine sw_p 1 (f' := (9, [some (2, 0), some (0, y)], [(0, y), (0, ν 0 21), (2, 16)])) rfl ?_
  refine sw_ias (pn := 10) (l := 40) rfl rfl (by omega) (mo_s16 hs).2.1 (mo_s16 hs).2.2 (by omega) (by omega) ?_
  refine sw_p 2 (f' := (12, [some (2, 0), some (0, y)], [(2, 0), (2, 0)])) rfl ?_
  refine sw_gI (pn := 15) (i := 21) rfl rfl rfl rfl rfl (by omega) hs.1 ?_
  rw [show (mm_u ν 16 (ν 0 21) y) 0 21 = ν 0 21 from mm_u_ne (by omega)]
  refine sw_p 1 (f' := (16, [some (2, 0), some (0, y)], [(0, 5), (0, ν 0 21), (2, 0)])) rfl ?_
  refine sw_cv1 (pn := 19) (q0 := mj_Mo_refuse) (q := mj_Mo_remove) (p := 0) (as2 := [(0, ν 0 21), (0, 5)]) (L2 := [some (2, 0), some (0, ν 0 21), some (0, 5), none]) (rest := []) (v := none) (s1 := s) (ν1 := (mo_rm (mm_u ν 16 (ν 0 21) y) (ν 0 21) 5)) rfl rfl rfl rfl rfl rfl rfl rfl rfl hs.1 (mo_remove hs hBr (by omega) (by omega)) ?_
  show sw_w E _ 96 (19, [some (2, 0), some (0, y)], []) s (mo_rm (mm_u ν 16 (ν 0 21) y) (ν 0 21) 5) _
  exact sw_retV rfl rfl rfl ⟨rfl, rfl, rfl⟩
end MO15
