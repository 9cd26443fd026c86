/-! the reference: small methods -/
section MO1
variable {E : mv_E} {s ν : mm_T} {d : Nat} {v lo hi b c k : Int}
theorem mo_within (hv : -2147483648 ≤ v ∧ v < 2147483648) (hlo : -2147483648 ≤ lo ∧ lo < 2147483648) (hhi : -2147483648 ≤ hi ∧ hi < 2147483648) : sw_w E d 85 (0, [some (0, v), some (0, lo), some (0, hi)], []) s ν (sw_is (some (0, if lo ≤ v ∧ v ≤ hi then 1 else 0)) s ν) := by
  refine sw_p 2 (f' := (2, [some (0, v), some (0, lo), some (0, hi)], [(0, lo), (0, v)])) rfl ?_
  refine sw_lt2 (pt := 14) (pn := 5) rfl rfl rfl (by omega) (by omega) (fun h1 => ?_) (fun h1 => ?_)
  · skip
    refine sw_p 1 (f' := (15, [some (0, v), some (0, lo), some (0, hi)], [(0, 0)])) rfl ?_
    exact sw_retZ rfl rfl rfl (by omega) ⟨by first | rw [if_pos (by omega)] | rw [if_neg (by omega)] | rfl, rfl, rfl⟩
  · skip
    refine sw_p 2 (f' := (7, [some (0, v), some (0, lo), some (0, hi)], [(0, hi), (0, v)])) rfl ?_
    refine sw_gt2 (pt := 14) (pn := 10) rfl rfl rfl (by omega) (by omega) (fun h2 => ?_) (fun h2 => ?_)
    · skip
      refine sw_p 1 (f' := (15, [some (0, v), some (0, lo), some (0, hi)], [(0, 0)])) rfl ?_
      exact sw_retZ rfl rfl rfl (by omega) ⟨by first | rw [if_pos (by omega)] | rw [if_neg (by omega)] | rfl, rfl, rfl⟩
    · skip
      refine sw_p 2 (f' := (15, [some (0, v), some (0, lo), some (0, hi)], [(0, 1)])) rfl ?_
      exact sw_retZ rfl rfl rfl (by omega) ⟨by first | rw [if_pos (by omega)] | rw [if_neg (by omega)] | rfl, rfl, rfl⟩
theorem mo_isBridge (hs : mo_sh s) (hb : -2147483648 ≤ b ∧ b < 2147483648) (h0 : 0 ≤ ν 0 1 ∧ ν 0 1 ≤ 8) : sw_w E d 84 (0, [some (2, 0), some (0, b)], []) s ν (sw_is (some (0, if 0 ≤ b ∧ b < ν 0 1 then 1 else 0)) s ν) := by
  refine sw_p 1 (f' := (1, [some (2, 0), some (0, b)], [(0, b)])) rfl ?_
  refine sw_lt1 (pt := 16) (pn := 4) rfl rfl rfl (by omega) (fun h1 => ?_) (fun h1 => ?_)
  · skip
    refine sw_p 1 (f' := (17, [some (2, 0), some (0, b)], [(0, 0)])) rfl ?_
    exact sw_retZ rfl rfl rfl (by omega) ⟨by first | rw [if_pos (by omega)] | rw [if_neg (by omega)] | rfl, rfl, rfl⟩
  · skip
    refine sw_p 2 (f' := (6, [some (2, 0), some (0, b)], [(2, 0), (0, b)])) rfl ?_
    refine sw_gI (pn := 9) (i := 1) rfl rfl rfl rfl rfl (by omega) hs.1 ?_
    refine sw_ge2 (pt := 16) (pn := 12) rfl rfl rfl (by omega) (by omega) (fun h2 => ?_) (fun h2 => ?_)
    · skip
      refine sw_p 1 (f' := (17, [some (2, 0), some (0, b)], [(0, 0)])) rfl ?_
      exact sw_retZ rfl rfl rfl (by omega) ⟨by first | rw [if_pos (by omega)] | rw [if_neg (by omega)] | rfl, rfl, rfl⟩
    · skip
      refine sw_p 2 (f' := (17, [some (2, 0), some (0, b)], [(0, 1)])) rfl ?_
      exact sw_retZ rfl rfl rfl (by omega) ⟨by first | rw [if_pos (by omega)] | rw [if_neg (by omega)] | rfl, rfl, rfl⟩
theorem mo_isCard (hs : mo_sh s) (hc : -2147483648 ≤ c ∧ c < 2147483648) (h0 : 0 ≤ ν 0 12 ∧ ν 0 12 ≤ 40) : sw_w E d 112 (0, [some (2, 0), some (0, c)], []) s ν (sw_is (some (0, if 0 ≤ c ∧ c < ν 0 12 then 1 else 0)) s ν) := by
  refine sw_p 1 (f' := (1, [some (2, 0), some (0, c)], [(0, c)])) rfl ?_
  refine sw_lt1 (pt := 16) (pn := 4) rfl rfl rfl (by omega) (fun h1 => ?_) (fun h1 => ?_)
  · skip
    refine sw_p 1 (f' := (17, [some (2, 0), some (0, c)], [(0, 0)])) rfl ?_
    exact sw_retZ rfl rfl rfl (by omega) ⟨by first | rw [if_pos (by omega)] | rw [if_neg (by omega)] | rfl, rfl, rfl⟩
  · skip
    refine sw_p 2 (f' := (6, [some (2, 0), some (0, c)], [(2, 0), (0, c)])) rfl ?_
    refine sw_gI (pn := 9) (i := 12) rfl rfl rfl rfl rfl (by omega) hs.1 ?_
    refine sw_ge2 (pt := 16) (pn := 12) rfl rfl rfl (by omega) (by omega) (fun h2 => ?_) (fun h2 => ?_)
    · skip
      refine sw_p 1 (f' := (17, [some (2, 0), some (0, c)], [(0, 0)])) rfl ?_
      exact sw_retZ rfl rfl rfl (by omega) ⟨by first | rw [if_pos (by omega)] | rw [if_neg (by omega)] | rfl, rfl, rfl⟩
    · skip
      refine sw_p 2 (f' := (17, [some (2, 0), some (0, c)], [(0, 1)])) rfl ?_
      exact sw_retZ rfl rfl rfl (by omega) ⟨by first | rw [if_pos (by omega)] | rw [if_neg (by omega)] | rfl, rfl, rfl⟩
theorem mo_thrown (hs : mo_sh s) : sw_w E d 82 (0, [some (2, 0)], []) s ν (sw_is (some (0, ν 0 0)) s ν) := by
  refine sw_p 1 (f' := (1, [some (2, 0)], [(2, 0)])) rfl ?_
  refine sw_gI (pn := 4) (i := 0) rfl rfl rfl rfl rfl (by omega) hs.1 ?_
  exact sw_retI rfl rfl rfl ⟨by first | rw [if_pos (by omega)] | rw [if_neg (by omega)] | rfl, rfl, rfl⟩
theorem mo_isThere (hs : mo_sh s) (hc : 0 ≤ c ∧ c < 40) (h0 : 0 ≤ ν 15 c ∧ ν 15 c ≤ 5) : sw_w E d 94 (0, [some (2, 0), some (0, c)], []) s ν (sw_is (some (0, if 1 ≤ ν 15 c ∧ ν 15 c ≤ 3 then 1 else 0)) s ν) := by
  refine sw_p 1 (f' := (1, [some (2, 0), some (0, c)], [(2, 0)])) rfl ?_
  refine sw_hA (pn := 4) (i := 15) (v := 15) rfl rfl rfl rfl rfl hs.1 (mo_s15 hs).1 (by omega) ?_
  refine sw_p 1 (f' := (5, [some (2, 0), some (0, c)], [(0, c), (2, 15)])) rfl ?_
  refine sw_ial (pn := 6) (l := 40) rfl rfl (by omega) (mo_s15 hs).2.1 (mo_s15 hs).2.2 (by omega) (by omega) ?_
  refine sw_p 1 (f' := (7, [some (2, 0), some (0, c)], [(0, 1), (0, ν 15 c)])) rfl ?_
  refine sw_eq2 (pt := 30) (pn := 10) rfl rfl rfl (by omega) (by omega) (fun h1 => ?_) (fun h1 => ?_)
  · skip
    refine sw_p 2 (f' := (35, [some (2, 0), some (0, c)], [(0, 1)])) rfl ?_
    exact sw_retZ rfl rfl rfl (by omega) ⟨by first | rw [if_pos (by omega)] | rw [if_neg (by omega)] | rfl, rfl, rfl⟩
  · skip
    refine sw_p 1 (f' := (11, [some (2, 0), some (0, c)], [(2, 0)])) rfl ?_
    refine sw_hA (pn := 14) (i := 15) (v := 15) rfl rfl rfl rfl rfl hs.1 (mo_s15 hs).1 (by omega) ?_
    refine sw_p 1 (f' := (15, [some (2, 0), some (0, c)], [(0, c), (2, 15)])) rfl ?_
    refine sw_ial (pn := 16) (l := 40) rfl rfl (by omega) (mo_s15 hs).2.1 (mo_s15 hs).2.2 (by omega) (by omega) ?_
    refine sw_p 1 (f' := (17, [some (2, 0), some (0, c)], [(0, 2), (0, ν 15 c)])) rfl ?_
    refine sw_eq2 (pt := 30) (pn := 20) rfl rfl rfl (by omega) (by omega) (fun h2 => ?_) (fun h2 => ?_)
    · skip
      refine sw_p 2 (f' := (35, [some (2, 0), some (0, c)], [(0, 1)])) rfl ?_
      exact sw_retZ rfl rfl rfl (by omega) ⟨by first | rw [if_pos (by omega)] | rw [if_neg (by omega)] | rfl, rfl, rfl⟩
    · skip
      refine sw_p 1 (f' := (21, [some (2, 0), some (0, c)], [(2, 0)])) rfl ?_
      refine sw_hA (pn := 24) (i := 15) (v := 15) rfl rfl rfl rfl rfl hs.1 (mo_s15 hs).1 (by omega) ?_
      refine sw_p 1 (f' := (25, [some (2, 0), some (0, c)], [(0, c), (2, 15)])) rfl ?_
      refine sw_ial (pn := 26) (l := 40) rfl rfl (by omega) (mo_s15 hs).2.1 (mo_s15 hs).2.2 (by omega) (by omega) ?_
      refine sw_p 1 (f' := (27, [some (2, 0), some (0, c)], [(0, 3), (0, ν 15 c)])) rfl ?_
      refine sw_ne2 (pt := 34) (pn := 30) rfl rfl rfl (by omega) (by omega) (fun h3 => ?_) (fun h3 => ?_)
      · skip
        refine sw_p 1 (f' := (35, [some (2, 0), some (0, c)], [(0, 0)])) rfl ?_
        exact sw_retZ rfl rfl rfl (by omega) ⟨by first | rw [if_pos (by omega)] | rw [if_neg (by omega)] | rfl, rfl, rfl⟩
      · skip
        refine sw_p 2 (f' := (35, [some (2, 0), some (0, c)], [(0, 1)])) rfl ?_
        exact sw_retZ rfl rfl rfl (by omega) ⟨by first | rw [if_pos (by omega)] | rw [if_neg (by omega)] | rfl, rfl, rfl⟩
theorem mo_sizeOf (hs : mo_sh s) (hc : 0 ≤ c ∧ c < 40) (hk : 0 ≤ k ∧ k < 3) (h0 : 0 ≤ ν 13 c ∧ ν 13 c < 16) : sw_w E d 100 (0, [some (2, 0), some (0, c), some (0, k)], []) s ν (sw_is (some (0, ν 9 (3 * ν 13 c + k))) s ν) := by
  refine sw_p 1 (f' := (1, [some (2, 0), some (0, c), some (0, k)], [(2, 0)])) rfl ?_
  refine sw_hA (pn := 4) (i := 9) (v := 9) rfl rfl rfl rfl rfl hs.1 (mo_s9 hs).1 (by omega) ?_
  refine sw_p 2 (f' := (6, [some (2, 0), some (0, c), some (0, k)], [(2, 0), (0, 3), (2, 9)])) rfl ?_
  refine sw_hA (pn := 9) (i := 13) (v := 13) rfl rfl rfl rfl rfl hs.1 (mo_s13 hs).1 (by omega) ?_
  refine sw_p 1 (f' := (10, [some (2, 0), some (0, c), some (0, k)], [(0, c), (2, 13), (0, 3), (2, 9)])) rfl ?_
  refine sw_ial (pn := 11) (l := 40) rfl rfl (by omega) (mo_s13 hs).2.1 (mo_s13 hs).2.2 (by omega) (by omega) ?_
  refine sw_p 3 (f' := (14, [some (2, 0), some (0, c), some (0, k)], [(0, (3 * (ν 13 c)) + k), (2, 9)])) rfl ?_
  refine sw_ial (pn := 15) (l := 48) rfl rfl (by omega) (mo_s9 hs).2.1 (mo_s9 hs).2.2 (by omega) (by omega) ?_
  exact sw_retI rfl rfl rfl ⟨rfl, rfl, rfl⟩
end MO1
