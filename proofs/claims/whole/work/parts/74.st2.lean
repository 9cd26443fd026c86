/-! the class: one Stretches becomes another -/
section ST2
variable {E : mv_E} {s ν : mm_T} {d : Nat} {p q r p2 q2 r2 : Int}
/-- what a Stretches holds after it became another -/
def st_bc (ν : mm_T) (p q r p2 q2 r2 : Int) : mm_T := mm_u (mm_cp (mm_cp ν q 0 q2 0 12) r 0 r2 0 12) p 2 (ν p2 2)
theorem st_become (hs : st_sh s p q r) (h2 : st_sh s p2 q2 r2) (h3 : q ≠ q2 ∧ r ≠ r2 ∧ p2 ≠ q ∧ p2 ≠ r) : sw_w E d 38 (0, [some (2, p), some (2, p2)], []) s ν (sw_is none s (st_bc ν p q r p2 q2 r2)) := by
  have a1 := hs.1.1
  have a2 := hs.2.1.2.1
  have a3 := hs.2.2.2.1
  have b1 := h2.1.1
  have b2 := h2.2.1.2.1
  have b3 := h2.2.2.2.1
  refine sw_p 1 (f' := (1, [some (2, p), some (2, p2)], [(2, p2)])) rfl ?_
  refine sw_hA (pn := 4) (i := 0) (v := q2) rfl rfl rfl rfl rfl h2.1.2 h2.2.1.1 (by omega) ?_
  refine sw_p 2 (f' := (6, [some (2, p), some (2, p2)], [(2, p), (0, 0), (2, q2)])) rfl ?_
  refine sw_hA (pn := 9) (i := 0) (v := q) rfl rfl rfl rfl rfl hs.1.2 hs.2.1.1 (by omega) ?_
  refine sw_p 2 (f' := (12, [some (2, p), some (2, p2)], [(0, 12), (0, 0), (2, q), (0, 0), (2, q2)])) rfl ?_
  refine sw_cpy (pn := 15) (la := 12) (lb := 12) rfl rfl (by omega) (by omega) (by omega) h2.2.1.2.2.1 h2.2.1.2.2.2 hs.2.1.2.2.1 hs.2.1.2.2.2 (by omega) (by omega) (by omega) (by omega) (by omega) rfl ?_
  refine sw_p 1 (f' := (16, [some (2, p), some (2, p2)], [(2, p2)])) rfl ?_
  refine sw_hA (pn := 19) (i := 1) (v := r2) rfl rfl rfl rfl rfl h2.1.2 h2.2.2.1 (by omega) ?_
  refine sw_p 2 (f' := (21, [some (2, p), some (2, p2)], [(2, p), (0, 0), (2, r2)])) rfl ?_
  refine sw_hA (pn := 24) (i := 1) (v := r) rfl rfl rfl rfl rfl hs.1.2 hs.2.2.1 (by omega) ?_
  refine sw_p 2 (f' := (27, [some (2, p), some (2, p2)], [(0, 12), (0, 0), (2, r), (0, 0), (2, r2)])) rfl ?_
  refine sw_cpy (pn := 30) (la := 12) (lb := 12) rfl rfl (by omega) (by omega) (by omega) h2.2.2.2.2.1 h2.2.2.2.2.2 hs.2.2.2.2.1 hs.2.2.2.2.2 (by omega) (by omega) (by omega) (by omega) (by omega) rfl ?_
  refine sw_p 2 (f' := (32, [some (2, p), some (2, p2)], [(2, p2), (2, p)])) rfl ?_
  refine sw_gI (pn := 35) (i := 2) rfl rfl rfl rfl rfl (by omega) h2.1.2 ?_
  rw [show (mm_cp (mm_cp ν q 0 q2 0 12) r 0 r2 0 12) p2 2 = ν p2 2 from (mm_cp_ne (by omega)).trans (mm_cp_ne (by omega))]
  refine sw_pI (pn := 38) (i := 2) rfl rfl rfl rfl rfl (by omega) hs.1.2 ?_
  exact sw_retV rfl rfl rfl ⟨rfl, rfl, rfl⟩
end ST2
