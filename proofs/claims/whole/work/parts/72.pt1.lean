/-! the class: small methods -/
/-- a new exception of the class c thrown -/
def sw_ex (c : Nat) (s ν : mm_T) : nm_O → mm_T → mm_T → Prop := fun o s' ν' => o = .inr c ∧ s' = nm_cnt s 1 6 ∧ ν' = ν
section PT1
variable {E : mv_E} {s ν : mm_T} {d : Nat} {x y z i l p lo hi : Int}
theorem pt_rw1 (hx : -2147483648 ≤ x ∧ x < 2147483648) (hlo : -2147483648 ≤ lo ∧ lo < 2147483648) (hhi : -2147483648 ≤ hi ∧ hi < 2147483648) (h : lo ≤ x ∧ x ≤ hi) : sw_w E d 66 (0, [some (0, x), some (0, lo), some (0, hi)], []) s ν (sw_is none s ν) := by
  refine sw_p 2 (f' := (2, [some (0, x), some (0, lo), some (0, hi)], [(0, lo), (0, x)])) rfl ?_
  refine sw_lt2 (pt := 10) (pn := 5) rfl rfl rfl (by omega) (by omega) (fun h => absurd h (by omega)) (fun h1 => ?_)
  refine sw_p 2 (f' := (7, [some (0, x), some (0, lo), some (0, hi)], [(0, hi), (0, x)])) rfl ?_
  refine sw_le2 (pt := 18) (pn := 10) rfl rfl rfl (by omega) (by omega) (fun h2 => ?_) (fun h => absurd h (by omega))
  exact sw_retV rfl rfl rfl ⟨rfl, rfl, rfl⟩
theorem pt_rw0 (hx : -2147483648 ≤ x ∧ x < 2147483648) (hlo : -2147483648 ≤ lo ∧ lo < 2147483648) (hhi : -2147483648 ≤ hi ∧ hi < 2147483648) (hd : 5 ≤ d) (h : x < lo) : sw_w E d 66 (0, [some (0, x), some (0, lo), some (0, hi)], []) s ν (sw_ex 8 s ν) := by
  refine sw_p 2 (f' := (2, [some (0, x), some (0, lo), some (0, hi)], [(0, lo), (0, x)])) rfl ?_
  refine sw_lt2 (pt := 10) (pn := 5) rfl rfl rfl (by omega) (by omega) (fun h1 => ?_) (fun h => absurd h (by omega))
  exact sw_thr rfl rfl rfl rfl rfl (by omega) ⟨rfl, rfl, rfl⟩
theorem pt_rw2 (hx : -2147483648 ≤ x ∧ x < 2147483648) (hlo : -2147483648 ≤ lo ∧ lo < 2147483648) (hhi : -2147483648 ≤ hi ∧ hi < 2147483648) (hd : 5 ≤ d) (h : lo ≤ x) (h2 : hi < x) : sw_w E d 66 (0, [some (0, x), some (0, lo), some (0, hi)], []) s ν (sw_ex 8 s ν) := by
  refine sw_p 2 (f' := (2, [some (0, x), some (0, lo), some (0, hi)], [(0, lo), (0, x)])) rfl ?_
  refine sw_lt2 (pt := 10) (pn := 5) rfl rfl rfl (by omega) (by omega) (fun h => absurd h (by omega)) (fun h1 => ?_)
  refine sw_p 2 (f' := (7, [some (0, x), some (0, lo), some (0, hi)], [(0, hi), (0, x)])) rfl ?_
  refine sw_le2 (pt := 18) (pn := 10) rfl rfl rfl (by omega) (by omega) (fun h => absurd h (by omega)) (fun h2 => ?_)
  exact sw_thr rfl rfl rfl rfl rfl (by omega) ⟨rfl, rfl, rfl⟩
theorem pt_isThere (hp0 : 0 ≤ p) (hp : s p (-1) = 103) (h : 0 ≤ ν p 6 ∧ ν p 6 ≤ 5) : sw_w E d 28 (0, [some (2, p)], []) s ν (sw_is (some (0, if 1 ≤ ν p 6 ∧ ν p 6 ≤ 3 then 1 else 0)) s ν) := by
  refine sw_p 1 (f' := (1, [some (2, p)], [(2, p)])) rfl ?_
  refine sw_gI (pn := 4) (i := 6) rfl rfl rfl rfl rfl (by omega) hp ?_
  refine sw_p 1 (f' := (5, [some (2, p)], [(0, 1), (0, ν p 6)])) rfl ?_
  refine sw_eq2 (pt := 24) (pn := 8) rfl rfl rfl (by omega) (by omega) (fun h1 => ?_) (fun h1 => ?_)
  · skip
    refine sw_p 2 (f' := (29, [some (2, p)], [(0, 1)])) rfl ?_
    exact sw_retZ rfl rfl rfl (by omega) ⟨by first | rw [if_pos (by omega)] | rw [if_neg (by omega)], rfl, rfl⟩
  · skip
    refine sw_p 1 (f' := (9, [some (2, p)], [(2, p)])) rfl ?_
    refine sw_gI (pn := 12) (i := 6) rfl rfl rfl rfl rfl (by omega) hp ?_
    refine sw_p 1 (f' := (13, [some (2, p)], [(0, 2), (0, ν p 6)])) rfl ?_
    refine sw_eq2 (pt := 24) (pn := 16) rfl rfl rfl (by omega) (by omega) (fun h2 => ?_) (fun h2 => ?_)
    · skip
      refine sw_p 2 (f' := (29, [some (2, p)], [(0, 1)])) rfl ?_
      exact sw_retZ rfl rfl rfl (by omega) ⟨by first | rw [if_pos (by omega)] | rw [if_neg (by omega)], rfl, rfl⟩
    · skip
      refine sw_p 1 (f' := (17, [some (2, p)], [(2, p)])) rfl ?_
      refine sw_gI (pn := 20) (i := 6) rfl rfl rfl rfl rfl (by omega) hp ?_
      refine sw_p 1 (f' := (21, [some (2, p)], [(0, 3), (0, ν p 6)])) rfl ?_
      refine sw_ne2 (pt := 28) (pn := 24) rfl rfl rfl (by omega) (by omega) (fun h3 => ?_) (fun h3 => ?_)
      · skip
        refine sw_p 1 (f' := (29, [some (2, p)], [(0, 0)])) rfl ?_
        exact sw_retZ rfl rfl rfl (by omega) ⟨by first | rw [if_pos (by omega)] | rw [if_neg (by omega)], rfl, rfl⟩
      · skip
        refine sw_p 2 (f' := (29, [some (2, p)], [(0, 1)])) rfl ?_
        exact sw_retZ rfl rfl rfl (by omega) ⟨by first | rw [if_pos (by omega)] | rw [if_neg (by omega)], rfl, rfl⟩
theorem pt_isClosed (hp0 : 0 ≤ p) (hp : s p (-1) = 101) (h6 : 0 ≤ ν p 6 ∧ ν p 6 ≤ 4096) (h7 : 0 ≤ ν p 7 ∧ ν p 7 ≤ 4096) : sw_w E d 23 (0, [some (2, p)], []) s ν (sw_is (some (0, if ν p 6 = ν p 7 then 1 else 0)) s ν) := by
  refine sw_p 1 (f' := (1, [some (2, p)], [(2, p)])) rfl ?_
  refine sw_gI (pn := 4) (i := 6) rfl rfl rfl rfl rfl (by omega) hp ?_
  refine sw_p 1 (f' := (5, [some (2, p)], [(2, p), (0, ν p 6)])) rfl ?_
  refine sw_gI (pn := 8) (i := 7) rfl rfl rfl rfl rfl (by omega) hp ?_
  refine sw_ne2 (pt := 15) (pn := 11) rfl rfl rfl (by omega) (by omega) (fun h1 => ?_) (fun h1 => ?_)
  · skip
    refine sw_p 1 (f' := (16, [some (2, p)], [(0, 0)])) rfl ?_
    exact sw_retZ rfl rfl rfl (by omega) ⟨by first | rw [if_pos (by omega)] | rw [if_neg (by omega)], rfl, rfl⟩
  · skip
    refine sw_p 2 (f' := (16, [some (2, p)], [(0, 1)])) rfl ?_
    exact sw_retZ rfl rfl rfl (by omega) ⟨by first | rw [if_pos (by omega)] | rw [if_neg (by omega)], rfl, rfl⟩
theorem pt_sizeOf (hx : -1 ≤ x ∧ x ≤ 10) : sw_w E d 20 (0, [some (0, x)], []) s ν (sw_is (some (0, mo_e x)) s ν) := by
  refine sw_p 1 (f' := (1, [some (0, x)], [(0, x)])) rfl ?_
  refine sw_ge1 (pt := 8) (pn := 4) rfl rfl rfl (by omega) (fun h1 => ?_) (fun h1 => ?_)
  · skip
    refine sw_p 2 (f' := (10, [some (0, x)], [(0, x), (0, 1)])) rfl ?_
    refine sw_ishl (pn := 11) (z := mo_p2 x) rfl rfl (mo_shl (by omega)) ?_
    exact sw_retI rfl rfl rfl ⟨by rw [mo_e1 (by omega)], rfl, rfl⟩
  · skip
    refine sw_p 2 (f' := (11, [some (0, x)], [(0, 0)])) rfl ?_
    exact sw_retI rfl rfl rfl ⟨by rw [mo_e0 (by omega)], rfl, rfl⟩
end PT1
