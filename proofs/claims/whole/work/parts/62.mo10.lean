/-! the reference: type, plug -/
section MO10
variable {E : mv_E} {s ν : mm_T} {d : Nat} {b c r x y w p f g k t v lo hi l z : Int}
def mo_p2 (y : Int) : Int := 2 ^ y.toNat
/-- the size that an exponent stands for -/
def mo_e (y : Int) : Int := if y < 0 then 0 else mo_p2 y
theorem mo_e0 (h : y < 0) : mo_e y = 0 := if_pos h
theorem mo_e1 (h : 0 ≤ y) : mo_e y = mo_p2 y := if_neg (by omega)
theorem mo_shl (h : 0 ≤ y ∧ y ≤ 10) : Int32.ofInt 1 <<< (Int32.ofInt y &&& 31) = Int32.ofInt (mo_p2 y) := by
  have h : y = 0 ∨ y = 1 ∨ y = 2 ∨ y = 3 ∨ y = 4 ∨ y = 5 ∨ y = 6 ∨ y = 7 ∨ y = 8 ∨ y = 9 ∨ y = 10 := by omega
  rcases h with rfl | rfl | rfl | rfl | rfl | rfl | rfl | rfl | rfl | rfl | rfl <;> decide
/-- a type added -/
def mo_ty (ν : mm_T) (x y z w v : Int) : mm_T := mm_u (mm_u (mm_u (mm_u (mm_u (mm_u (mo_cd ν 0) 9 (3 * ν 0 8) (mo_e x)) 9 (3 * ν 0 8 + 1) (mo_e y)) 9 (3 * ν 0 8 + 2) (mo_e z)) 10 (ν 0 8) w) 11 (ν 0 8) v) 0 8 (ν 0 8 + 1)
/-- a card plugged -/
def mo_pl (ν : mm_T) (b x t : Int) : mm_T := mm_u (mm_u (mm_u (mm_u (mm_u (mm_u (mm_u (mm_u (mm_u (mm_u (mo_cd ν 0) 2 (4 * b + x) (100 + ν 0 12)) 13 (ν 0 12) t) 14 (ν 0 12) b) 15 (ν 0 12) 0) 17 (3 * ν 0 12 + 0) (-1)) 17 (3 * ν 0 12 + 1) (-1)) 17 (3 * ν 0 12 + 2) (-1)) 0 21 (ν 0 12)) 0 22 0) 0 12 (ν 0 12 + 1)
theorem mo_type_ok (hs : mo_sh s) (hB : mo_B ν) (hx : -1 ≤ x ∧ x ≤ 10) (hy : -1 ≤ y ∧ y ≤ 10) (hz : -1 ≤ z ∧ z ≤ 10) (hw : 0 ≤ w ∧ w ≤ 1000) (hv : v = 0 ∨ v = 1) (h1 : ν 0 8 ≠ 16) : sw_w E (d + 1) 87 (0, [some (2, 0), some (0, x), some (0, y), some (0, z), some (0, w), some (0, v), none], []) s ν (sw_is (some (0, ν 0 8 + 1 - 1)) s (mo_ty ν x y z w v)) := by
  have hn := hB.2.1
  refine sw_p 3 (f' := (4, [some (2, 0), some (0, x), some (0, y), some (0, z), some (0, w), some (0, v), none], [(0, 10), (0, -1), (0, x)])) rfl ?_
  refine sw_cs1 (pn := 7) (q0 := mj_Mo_type) (q := mj_Mo_within) (L2 := [some (0, x), some (0, -1), some (0, 10)]) (rest := []) (v := some (0, 1)) (s1 := s) (ν1 := ν) rfl rfl rfl rfl rfl rfl rfl rfl (mo_in1 (by omega) (by omega) (by omega) (by omega)) ?_
  show sw_w E _ 87 (7, [some (2, 0), some (0, x), some (0, y), some (0, z), some (0, w), some (0, v), none], [(0, 1)]) s ν _
  refine sw_eq1 (pt := 46) (pn := 10) rfl rfl rfl (by omega) (fun h => absurd h (by decide)) (fun _ => ?_)
  refine sw_p 3 (f' := (14, [some (2, 0), some (0, x), some (0, y), some (0, z), some (0, w), some (0, v), none], [(0, 10), (0, -1), (0, y)])) rfl ?_
  refine sw_cs1 (pn := 17) (q0 := mj_Mo_type) (q := mj_Mo_within) (L2 := [some (0, y), some (0, -1), some (0, 10)]) (rest := []) (v := some (0, 1)) (s1 := s) (ν1 := ν) rfl rfl rfl rfl rfl rfl rfl rfl (mo_in1 (by omega) (by omega) (by omega) (by omega)) ?_
  show sw_w E _ 87 (17, [some (2, 0), some (0, x), some (0, y), some (0, z), some (0, w), some (0, v), none], [(0, 1)]) s ν _
  refine sw_eq1 (pt := 46) (pn := 20) rfl rfl rfl (by omega) (fun h => absurd h (by decide)) (fun _ => ?_)
  refine sw_p 3 (f' := (24, [some (2, 0), some (0, x), some (0, y), some (0, z), some (0, w), some (0, v), none], [(0, 10), (0, -1), (0, z)])) rfl ?_
  refine sw_cs1 (pn := 27) (q0 := mj_Mo_type) (q := mj_Mo_within) (L2 := [some (0, z), some (0, -1), some (0, 10)]) (rest := []) (v := some (0, 1)) (s1 := s) (ν1 := ν) rfl rfl rfl rfl rfl rfl rfl rfl (mo_in1 (by omega) (by omega) (by omega) (by omega)) ?_
  show sw_w E _ 87 (27, [some (2, 0), some (0, x), some (0, y), some (0, z), some (0, w), some (0, v), none], [(0, 1)]) s ν _
  refine sw_eq1 (pt := 46) (pn := 30) rfl rfl rfl (by omega) (fun h => absurd h (by decide)) (fun _ => ?_)
  refine sw_p 3 (f' := (36, [some (2, 0), some (0, x), some (0, y), some (0, z), some (0, w), some (0, v), none], [(0, 1000), (0, 0), (0, w)])) rfl ?_
  refine sw_cs1 (pn := 39) (q0 := mj_Mo_type) (q := mj_Mo_within) (L2 := [some (0, w), some (0, 0), some (0, 1000)]) (rest := []) (v := some (0, 1)) (s1 := s) (ν1 := ν) rfl rfl rfl rfl rfl rfl rfl rfl (mo_in1 (by omega) (by omega) (by omega) (by omega)) ?_
  show sw_w E _ 87 (39, [some (2, 0), some (0, x), some (0, y), some (0, z), some (0, w), some (0, v), none], [(0, 1)]) s ν _
  refine sw_eq1 (pt := 46) (pn := 42) rfl rfl rfl (by omega) (fun h => absurd h (by decide)) (fun _ => ?_)
  refine sw_p 5 (f' := (52, [some (2, 0), some (0, x), some (0, y), some (0, z), some (0, w), some (0, v), some (0, 1)], [(0, 1), (2, 0)])) rfl ?_
  refine sw_ne1 (pt := 59) (pn := 55) rfl rfl rfl (by omega) (fun _ => ?_) (fun h => absurd h (by decide))
  refine sw_p 1 (f' := (60, [some (2, 0), some (0, x), some (0, y), some (0, z), some (0, w), some (0, v), some (0, 1)], [(2, 0), (2, 0)])) rfl ?_
  refine sw_gI (pn := 63) (i := 8) rfl rfl rfl rfl rfl (by omega) hs.1 ?_
  refine sw_p 1 (f' := (65, [some (2, 0), some (0, x), some (0, y), some (0, z), some (0, w), some (0, v), some (0, 1)], [(0, 16), (0, ν 0 8), (2, 0)])) rfl ?_
  refine sw_ne2 (pt := 72) (pn := 68) rfl rfl rfl (by omega) (by omega) (fun h6 => ?_) (fun h => absurd h (by omega))
  refine sw_p 1 (f' := (73, [some (2, 0), some (0, x), some (0, y), some (0, z), some (0, w), some (0, v), some (0, 1)], [(0, 0), (2, 0)])) rfl ?_
  refine sw_pI (pn := 76) (i := 0) rfl rfl rfl rfl rfl (by omega) hs.1 ?_
  refine sw_p 1 (f' := (77, [some (2, 0), some (0, x), some (0, y), some (0, z), some (0, w), some (0, v), some (0, 1)], [(2, 0)])) rfl ?_
  refine sw_gI (pn := 80) (i := 0) rfl rfl rfl rfl rfl (by omega) hs.1 ?_
  rw [show (mm_u ν 0 0 0) 0 0 = 0 from mm_u_at]
  refine sw_le1 (pt := 85) (pn := 83) rfl rfl rfl (by omega) (fun _ => ?_) (fun h => absurd h (by decide))
  refine sw_p 1 (f' := (86, [some (2, 0), some (0, x), some (0, y), some (0, z), some (0, w), some (0, v), some (0, 1)], [(2, 0)])) rfl ?_
  refine sw_hA (pn := 89) (i := 9) (v := 9) rfl rfl rfl rfl rfl hs.1 (mo_s9 hs).1 (by omega) ?_
  refine sw_p 2 (f' := (91, [some (2, 0), some (0, x), some (0, y), some (0, z), some (0, w), some (0, v), some (0, 1)], [(2, 0), (0, 3), (2, 9)])) rfl ?_
  refine sw_gI (pn := 94) (i := 8) rfl rfl rfl rfl rfl (by omega) hs.1 ?_
  rw [show (mm_u ν 0 0 0) 0 8 = ν 0 8 from mm_u_ne (by omega)]
  refine sw_p 2 (f' := (96, [some (2, 0), some (0, x), some (0, y), some (0, z), some (0, w), some (0, v), some (0, 1)], [(0, x), (0, 3 * (ν 0 8)), (2, 9)])) rfl ?_
  refine sw_ge1 (pt := 103) (pn := 99) rfl rfl rfl (by omega) (fun h8 => ?_) (fun h8 => ?_)
  · skip
    refine sw_p 2 (f' := (105, [some (2, 0), some (0, x), some (0, y), some (0, z), some (0, w), some (0, v), some (0, 1)], [(0, x), (0, 1), (0, 3 * (ν 0 8)), (2, 9)])) rfl ?_
    refine sw_ishl (pn := 106) (z := mo_p2 x) rfl rfl (mo_shl (by omega)) ?_
    refine sw_ias (pn := 107) (l := 48) rfl rfl (by omega) (mo_s9 hs).2.1 (mo_s9 hs).2.2 (by omega) (by omega) ?_
    refine sw_p 1 (f' := (108, [some (2, 0), some (0, x), some (0, y), some (0, z), some (0, w), some (0, v), some (0, 1)], [(2, 0)])) rfl ?_
    refine sw_hA (pn := 111) (i := 9) (v := 9) rfl rfl rfl rfl rfl hs.1 (mo_s9 hs).1 (by omega) ?_
    refine sw_p 2 (f' := (113, [some (2, 0), some (0, x), some (0, y), some (0, z), some (0, w), some (0, v), some (0, 1)], [(2, 0), (0, 3), (2, 9)])) rfl ?_
    refine sw_gI (pn := 116) (i := 8) rfl rfl rfl rfl rfl (by omega) hs.1 ?_
    rw [show (mm_u (mm_u ν 0 0 0) 9 (3 * (ν 0 8)) (mo_p2 x)) 0 8 = ν 0 8 from (mm_u_ne (by omega)).trans (mm_u_ne (by omega))]
    refine sw_p 4 (f' := (120, [some (2, 0), some (0, x), some (0, y), some (0, z), some (0, w), some (0, v), some (0, 1)], [(0, y), (0, (3 * (ν 0 8)) + 1), (2, 9)])) rfl ?_
    refine sw_ge1 (pt := 127) (pn := 123) rfl rfl rfl (by omega) (fun h9 => ?_) (fun h9 => ?_)
    · skip
      refine sw_p 2 (f' := (129, [some (2, 0), some (0, x), some (0, y), some (0, z), some (0, w), some (0, v), some (0, 1)], [(0, y), (0, 1), (0, (3 * (ν 0 8)) + 1), (2, 9)])) rfl ?_
      refine sw_ishl (pn := 130) (z := mo_p2 y) rfl rfl (mo_shl (by omega)) ?_
      refine sw_ias (pn := 131) (l := 48) rfl rfl (by omega) (mo_s9 hs).2.1 (mo_s9 hs).2.2 (by omega) (by omega) ?_
      refine sw_p 1 (f' := (132, [some (2, 0), some (0, x), some (0, y), some (0, z), some (0, w), some (0, v), some (0, 1)], [(2, 0)])) rfl ?_
      refine sw_hA (pn := 135) (i := 9) (v := 9) rfl rfl rfl rfl rfl hs.1 (mo_s9 hs).1 (by omega) ?_
      refine sw_p 2 (f' := (137, [some (2, 0), some (0, x), some (0, y), some (0, z), some (0, w), some (0, v), some (0, 1)], [(2, 0), (0, 3), (2, 9)])) rfl ?_
      refine sw_gI (pn := 140) (i := 8) rfl rfl rfl rfl rfl (by omega) hs.1 ?_
      rw [show (mm_u (mm_u (mm_u ν 0 0 0) 9 (3 * (ν 0 8)) (mo_p2 x)) 9 ((3 * (ν 0 8)) + 1) (mo_p2 y)) 0 8 = ν 0 8 from (mm_u_ne (by omega)).trans ((mm_u_ne (by omega)).trans (mm_u_ne (by omega)))]
      refine sw_p 4 (f' := (144, [some (2, 0), some (0, x), some (0, y), some (0, z), some (0, w), some (0, v), some (0, 1)], [(0, z), (0, (3 * (ν 0 8)) + 2), (2, 9)])) rfl ?_
      refine sw_ge1 (pt := 151) (pn := 147) rfl rfl rfl (by omega) (fun h10 => ?_) (fun h10 => ?_)
      · skip
        refine sw_p 2 (f' := (153, [some (2, 0), some (0, x), some (0, y), some (0, z), some (0, w), some (0, v), some (0, 1)], [(0, z), (0, 1), (0, (3 * (ν 0 8)) + 2), (2, 9)])) rfl ?_
        refine sw_ishl (pn := 154) (z := mo_p2 z) rfl rfl (mo_shl (by omega)) ?_
        refine sw_ias (pn := 155) (l := 48) rfl rfl (by omega) (mo_s9 hs).2.1 (mo_s9 hs).2.2 (by omega) (by omega) ?_
        refine sw_p 1 (f' := (156, [some (2, 0), some (0, x), some (0, y), some (0, z), some (0, w), some (0, v), some (0, 1)], [(2, 0)])) rfl ?_
        refine sw_hA (pn := 159) (i := 10) (v := 10) rfl rfl rfl rfl rfl hs.1 (mo_s10 hs).1 (by omega) ?_
        refine sw_p 1 (f' := (160, [some (2, 0), some (0, x), some (0, y), some (0, z), some (0, w), some (0, v), some (0, 1)], [(2, 0), (2, 10)])) rfl ?_
        refine sw_gI (pn := 163) (i := 8) rfl rfl rfl rfl rfl (by omega) hs.1 ?_
        rw [show (mm_u (mm_u (mm_u (mm_u ν 0 0 0) 9 (3 * (ν 0 8)) (mo_p2 x)) 9 ((3 * (ν 0 8)) + 1) (mo_p2 y)) 9 ((3 * (ν 0 8)) + 2) (mo_p2 z)) 0 8 = ν 0 8 from (mm_u_ne (by omega)).trans ((mm_u_ne (by omega)).trans ((mm_u_ne (by omega)).trans (mm_u_ne (by omega))))]
        refine sw_p 1 (f' := (165, [some (2, 0), some (0, x), some (0, y), some (0, z), some (0, w), some (0, v), some (0, 1)], [(0, w), (0, ν 0 8), (2, 10)])) rfl ?_
        refine sw_ias (pn := 166) (l := 16) rfl rfl (by omega) (mo_s10 hs).2.1 (mo_s10 hs).2.2 (by omega) (by omega) ?_
        refine sw_p 1 (f' := (167, [some (2, 0), some (0, x), some (0, y), some (0, z), some (0, w), some (0, v), some (0, 1)], [(2, 0)])) rfl ?_
        refine sw_hA (pn := 170) (i := 11) (v := 11) rfl rfl rfl rfl rfl hs.1 (mo_s11 hs).1 (by omega) ?_
        refine sw_p 1 (f' := (171, [some (2, 0), some (0, x), some (0, y), some (0, z), some (0, w), some (0, v), some (0, 1)], [(2, 0), (2, 11)])) rfl ?_
        refine sw_gI (pn := 174) (i := 8) rfl rfl rfl rfl rfl (by omega) hs.1 ?_
        rw [show (mm_u (mm_u (mm_u (mm_u (mm_u ν 0 0 0) 9 (3 * (ν 0 8)) (mo_p2 x)) 9 ((3 * (ν 0 8)) + 1) (mo_p2 y)) 9 ((3 * (ν 0 8)) + 2) (mo_p2 z)) 10 (ν 0 8) w) 0 8 = ν 0 8 from (mm_u_ne (by omega)).trans ((mm_u_ne (by omega)).trans ((mm_u_ne (by omega)).trans ((mm_u_ne (by omega)).trans (mm_u_ne (by omega)))))]
        refine sw_p 1 (f' := (176, [some (2, 0), some (0, x), some (0, y), some (0, z), some (0, w), some (0, v), some (0, 1)], [(0, v), (0, ν 0 8), (2, 11)])) rfl ?_
        refine sw_bas (pn := 177) (l := 16) rfl rfl (by omega) (by omega) (mo_s11 hs).2.1 (mo_s11 hs).2.2 (by omega) (by omega) ?_
        refine sw_p 2 (f' := (179, [some (2, 0), some (0, x), some (0, y), some (0, z), some (0, w), some (0, v), some (0, 1)], [(2, 0), (2, 0)])) rfl ?_
        refine sw_gI (pn := 182) (i := 8) rfl rfl rfl rfl rfl (by omega) hs.1 ?_
        rw [show (mm_u (mm_u (mm_u (mm_u (mm_u (mm_u ν 0 0 0) 9 (3 * (ν 0 8)) (mo_p2 x)) 9 ((3 * (ν 0 8)) + 1) (mo_p2 y)) 9 ((3 * (ν 0 8)) + 2) (mo_p2 z)) 10 (ν 0 8) w) 11 (ν 0 8) v) 0 8 = ν 0 8 from (mm_u_ne (by omega)).trans ((mm_u_ne (by omega)).trans ((mm_u_ne (by omega)).trans ((mm_u_ne (by omega)).trans ((mm_u_ne (by omega)).trans (mm_u_ne (by omega))))))]
        refine sw_p 2 (f' := (184, [some (2, 0), some (0, x), some (0, y), some (0, z), some (0, w), some (0, v), some (0, 1)], [(0, (ν 0 8) + 1), (2, 0)])) rfl ?_
        refine sw_pI (pn := 187) (i := 8) rfl rfl rfl rfl rfl (by omega) hs.1 ?_
        refine sw_p 1 (f' := (188, [some (2, 0), some (0, x), some (0, y), some (0, z), some (0, w), some (0, v), some (0, 1)], [(2, 0)])) rfl ?_
        refine sw_gI (pn := 191) (i := 8) rfl rfl rfl rfl rfl (by omega) hs.1 ?_
        rw [show (mm_u (mm_u (mm_u (mm_u (mm_u (mm_u (mm_u ν 0 0 0) 9 (3 * (ν 0 8)) (mo_p2 x)) 9 ((3 * (ν 0 8)) + 1) (mo_p2 y)) 9 ((3 * (ν 0 8)) + 2) (mo_p2 z)) 10 (ν 0 8) w) 11 (ν 0 8) v) 0 8 ((ν 0 8) + 1)) 0 8 = (ν 0 8) + 1 from mm_u_at]
        refine sw_p 2 (f' := (193, [some (2, 0), some (0, x), some (0, y), some (0, z), some (0, w), some (0, v), some (0, 1)], [(0, ((ν 0 8) + 1) - 1)])) rfl ?_
        exact sw_retI rfl rfl rfl ⟨rfl, rfl, by unfold mo_ty; rw [mo_e1 (y := x) (by omega), mo_e1 (y := y) (by omega), mo_e1 (y := z) (by omega)]⟩
      · skip
        refine sw_p 2 (f' := (154, [some (2, 0), some (0, x), some (0, y), some (0, z), some (0, w), some (0, v), some (0, 1)], [(0, 0), (0, (3 * (ν 0 8)) + 2), (2, 9)])) rfl ?_
        refine sw_ias (pn := 155) (l := 48) rfl rfl (by omega) (mo_s9 hs).2.1 (mo_s9 hs).2.2 (by omega) (by omega) ?_
        refine sw_p 1 (f' := (156, [some (2, 0), some (0, x), some (0, y), some (0, z), some (0, w), some (0, v), some (0, 1)], [(2, 0)])) rfl ?_
        refine sw_hA (pn := 159) (i := 10) (v := 10) rfl rfl rfl rfl rfl hs.1 (mo_s10 hs).1 (by omega) ?_
        refine sw_p 1 (f' := (160, [some (2, 0), some (0, x), some (0, y), some (0, z), some (0, w), some (0, v), some (0, 1)], [(2, 0), (2, 10)])) rfl ?_
        refine sw_gI (pn := 163) (i := 8) rfl rfl rfl rfl rfl (by omega) hs.1 ?_
        rw [show (mm_u (mm_u (mm_u (mm_u ν 0 0 0) 9 (3 * (ν 0 8)) (mo_p2 x)) 9 ((3 * (ν 0 8)) + 1) (mo_p2 y)) 9 ((3 * (ν 0 8)) + 2) 0) 0 8 = ν 0 8 from (mm_u_ne (by omega)).trans ((mm_u_ne (by omega)).trans ((mm_u_ne (by omega)).trans (mm_u_ne (by omega))))]
        refine sw_p 1 (f' := (165, [some (2, 0), some (0, x), some (0, y), some (0, z), some (0, w), some (0, v), some (0, 1)], [(0, w), (0, ν 0 8), (2, 10)])) rfl ?_
        refine sw_ias (pn := 166) (l := 16) rfl rfl (by omega) (mo_s10 hs).2.1 (mo_s10 hs).2.2 (by omega) (by omega) ?_
        refine sw_p 1 (f' := (167, [some (2, 0), some (0, x), some (0, y), some (0, z), some (0, w), some (0, v), some (0, 1)], [(2, 0)])) rfl ?_
        refine sw_hA (pn := 170) (i := 11) (v := 11) rfl rfl rfl rfl rfl hs.1 (mo_s11 hs).1 (by omega) ?_
        refine sw_p 1 (f' := (171, [some (2, 0), some (0, x), some (0, y), some (0, z), some (0, w), some (0, v), some (0, 1)], [(2, 0), (2, 11)])) rfl ?_
        refine sw_gI (pn := 174) (i := 8) rfl rfl rfl rfl rfl (by omega) hs.1 ?_
        rw [show (mm_u (mm_u (mm_u (mm_u (mm_u ν 0 0 0) 9 (3 * (ν 0 8)) (mo_p2 x)) 9 ((3 * (ν 0 8)) + 1) (mo_p2 y)) 9 ((3 * (ν 0 8)) + 2) 0) 10 (ν 0 8) w) 0 8 = ν 0 8 from (mm_u_ne (by omega)).trans ((mm_u_ne (by omega)).trans ((mm_u_ne (by omega)).trans ((mm_u_ne (by omega)).trans (mm_u_ne (by omega)))))]
        refine sw_p 1 (f' := (176, [some (2, 0), some (0, x), some (0, y), some (0, z), some (0, w), some (0, v), some (0, 1)], [(0, v), (0, ν 0 8), (2, 11)])) rfl ?_
        refine sw_bas (pn := 177) (l := 16) rfl rfl (by omega) (by omega) (mo_s11 hs).2.1 (mo_s11 hs).2.2 (by omega) (by omega) ?_
        refine sw_p 2 (f' := (179, [some (2, 0), some (0, x), some (0, y), some (0, z), some (0, w), some (0, v), some (0, 1)], [(2, 0), (2, 0)])) rfl ?_
        refine sw_gI (pn := 182) (i := 8) rfl rfl rfl rfl rfl (by omega) hs.1 ?_
        rw [show (mm_u (mm_u (mm_u (mm_u (mm_u (mm_u ν 0 0 0) 9 (3 * (ν 0 8)) (mo_p2 x)) 9 ((3 * (ν 0 8)) + 1) (mo_p2 y)) 9 ((3 * (ν 0 8)) + 2) 0) 10 (ν 0 8) w) 11 (ν 0 8) v) 0 8 = ν 0 8 from (mm_u_ne (by omega)).trans ((mm_u_ne (by omega)).trans ((mm_u_ne (by omega)).trans ((mm_u_ne (by omega)).trans ((mm_u_ne (by omega)).trans (mm_u_ne (by omega))))))]
        refine sw_p 2 (f' := (184, [some (2, 0), some (0, x), some (0, y), some (0, z), some (0, w), some (0, v), some (0, 1)], [(0, (ν 0 8) + 1), (2, 0)])) rfl ?_
        refine sw_pI (pn := 187) (i := 8) rfl rfl rfl rfl rfl (by omega) hs.1 ?_
        refine sw_p 1 (f' := (188, [some (2, 0), some (0, x), some (0, y), some (0, z), some (0, w), some (0, v), some (0, 1)], [(2, 0)])) rfl ?_
        refine sw_gI (pn := 191) (i := 8) rfl rfl rfl rfl rfl (by omega) hs.1 ?_
        rw [show (mm_u (mm_u (mm_u (mm_u (mm_u (mm_u (mm_u ν 0 0 0) 9 (3 * (ν 0 8)) (mo_p2 x)) 9 ((3 * (ν 0 8)) + 1) (mo_p2 y)) 9 ((3 * (ν 0 8)) + 2) 0) 10 (ν 0 8) w) 11 (ν 0 8) v) 0 8 ((ν 0 8) + 1)) 0 8 = (ν 0 8) + 1 from mm_u_at]
        refine sw_p 2 (f' := (193, [some (2, 0), some (0, x), some (0, y), some (0, z), some (0, w), some (0, v), some (0, 1)], [(0, ((ν 0 8) + 1) - 1)])) rfl ?_
        exact sw_retI rfl rfl rfl ⟨rfl, rfl, by unfold mo_ty; rw [mo_e1 (y := x) (by omega), mo_e1 (y := y) (by omega), mo_e0 (y := z) (by omega)]⟩
    · skip
      refine sw_p 2 (f' := (130, [some (2, 0), some (0, x), some (0, y), some (0, z), some (0, w), some (0, v), some (0, 1)], [(0, 0), (0, (3 * (ν 0 8)) + 1), (2, 9)])) rfl ?_
      refine sw_ias (pn := 131) (l := 48) rfl rfl (by omega) (mo_s9 hs).2.1 (mo_s9 hs).2.2 (by omega) (by omega) ?_
      refine sw_p 1 (f' := (132, [some (2, 0), some (0, x), some (0, y), some (0, z), some (0, w), some (0, v), some (0, 1)], [(2, 0)])) rfl ?_
      refine sw_hA (pn := 135) (i := 9) (v := 9) rfl rfl rfl rfl rfl hs.1 (mo_s9 hs).1 (by omega) ?_
      refine sw_p 2 (f' := (137, [some (2, 0), some (0, x), some (0, y), some (0, z), some (0, w), some (0, v), some (0, 1)], [(2, 0), (0, 3), (2, 9)])) rfl ?_
      refine sw_gI (pn := 140) (i := 8) rfl rfl rfl rfl rfl (by omega) hs.1 ?_
      rw [show (mm_u (mm_u (mm_u ν 0 0 0) 9 (3 * (ν 0 8)) (mo_p2 x)) 9 ((3 * (ν 0 8)) + 1) 0) 0 8 = ν 0 8 from (mm_u_ne (by omega)).trans ((mm_u_ne (by omega)).trans (mm_u_ne (by omega)))]
      refine sw_p 4 (f' := (144, [some (2, 0), some (0, x), some (0, y), some (0, z), some (0, w), some (0, v), some (0, 1)], [(0, z), (0, (3 * (ν 0 8)) + 2), (2, 9)])) rfl ?_
      refine sw_ge1 (pt := 151) (pn := 147) rfl rfl rfl (by omega) (fun h11 => ?_) (fun h11 => ?_)
      · skip
        refine sw_p 2 (f' := (153, [some (2, 0), some (0, x), some (0, y), some (0, z), some (0, w), some (0, v), some (0, 1)], [(0, z), (0, 1), (0, (3 * (ν 0 8)) + 2), (2, 9)])) rfl ?_
        refine sw_ishl (pn := 154) (z := mo_p2 z) rfl rfl (mo_shl (by omega)) ?_
        refine sw_ias (pn := 155) (l := 48) rfl rfl (by omega) (mo_s9 hs).2.1 (mo_s9 hs).2.2 (by omega) (by omega) ?_
        refine sw_p 1 (f' := (156, [some (2, 0), some (0, x), some (0, y), some (0, z), some (0, w), some (0, v), some (0, 1)], [(2, 0)])) rfl ?_
        refine sw_hA (pn := 159) (i := 10) (v := 10) rfl rfl rfl rfl rfl hs.1 (mo_s10 hs).1 (by omega) ?_
        refine sw_p 1 (f' := (160, [some (2, 0), some (0, x), some (0, y), some (0, z), some (0, w), some (0, v), some (0, 1)], [(2, 0), (2, 10)])) rfl ?_
        refine sw_gI (pn := 163) (i := 8) rfl rfl rfl rfl rfl (by omega) hs.1 ?_
        rw [show (mm_u (mm_u (mm_u (mm_u ν 0 0 0) 9 (3 * (ν 0 8)) (mo_p2 x)) 9 ((3 * (ν 0 8)) + 1) 0) 9 ((3 * (ν 0 8)) + 2) (mo_p2 z)) 0 8 = ν 0 8 from (mm_u_ne (by omega)).trans ((mm_u_ne (by omega)).trans ((mm_u_ne (by omega)).trans (mm_u_ne (by omega))))]
        refine sw_p 1 (f' := (165, [some (2, 0), some (0, x), some (0, y), some (0, z), some (0, w), some (0, v), some (0, 1)], [(0, w), (0, ν 0 8), (2, 10)])) rfl ?_
        refine sw_ias (pn := 166) (l := 16) rfl rfl (by omega) (mo_s10 hs).2.1 (mo_s10 hs).2.2 (by omega) (by omega) ?_
        refine sw_p 1 (f' := (167, [some (2, 0), some (0, x), some (0, y), some (0, z), some (0, w), some (0, v), some (0, 1)], [(2, 0)])) rfl ?_
        refine sw_hA (pn := 170) (i := 11) (v := 11) rfl rfl rfl rfl rfl hs.1 (mo_s11 hs).1 (by omega) ?_
        refine sw_p 1 (f' := (171, [some (2, 0), some (0, x), some (0, y), some (0, z), some (0, w), some (0, v), some (0, 1)], [(2, 0), (2, 11)])) rfl ?_
        refine sw_gI (pn := 174) (i := 8) rfl rfl rfl rfl rfl (by omega) hs.1 ?_
        rw [show (mm_u (mm_u (mm_u (mm_u (mm_u ν 0 0 0) 9 (3 * (ν 0 8)) (mo_p2 x)) 9 ((3 * (ν 0 8)) + 1) 0) 9 ((3 * (ν 0 8)) + 2) (mo_p2 z)) 10 (ν 0 8) w) 0 8 = ν 0 8 from (mm_u_ne (by omega)).trans ((mm_u_ne (by omega)).trans ((mm_u_ne (by omega)).trans ((mm_u_ne (by omega)).trans (mm_u_ne (by omega)))))]
        refine sw_p 1 (f' := (176, [some (2, 0), some (0, x), some (0, y), some (0, z), some (0, w), some (0, v), some (0, 1)], [(0, v), (0, ν 0 8), (2, 11)])) rfl ?_
        refine sw_bas (pn := 177) (l := 16) rfl rfl (by omega) (by omega) (mo_s11 hs).2.1 (mo_s11 hs).2.2 (by omega) (by omega) ?_
        refine sw_p 2 (f' := (179, [some (2, 0), some (0, x), some (0, y), some (0, z), some (0, w), some (0, v), some (0, 1)], [(2, 0), (2, 0)])) rfl ?_
        refine sw_gI (pn := 182) (i := 8) rfl rfl rfl rfl rfl (by omega) hs.1 ?_
        rw [show (mm_u (mm_u (mm_u (mm_u (mm_u (mm_u ν 0 0 0) 9 (3 * (ν 0 8)) (mo_p2 x)) 9 ((3 * (ν 0 8)) + 1) 0) 9 ((3 * (ν 0 8)) + 2) (mo_p2 z)) 10 (ν 0 8) w) 11 (ν 0 8) v) 0 8 = ν 0 8 from (mm_u_ne (by omega)).trans ((mm_u_ne (by omega)).trans ((mm_u_ne (by omega)).trans ((mm_u_ne (by omega)).trans ((mm_u_ne (by omega)).trans (mm_u_ne (by omega))))))]
        refine sw_p 2 (f' := (184, [some (2, 0), some (0, x), some (0, y), some (0, z), some (0, w), some (0, v), some (0, 1)], [(0, (ν 0 8) + 1), (2, 0)])) rfl ?_
        refine sw_pI (pn := 187) (i := 8) rfl rfl rfl rfl rfl (by omega) hs.1 ?_
        refine sw_p 1 (f' := (188, [some (2, 0), some (0, x), some (0, y), some (0, z), some (0, w), some (0, v), some (0, 1)], [(2, 0)])) rfl ?_
        refine sw_gI (pn := 191) (i := 8) rfl rfl rfl rfl rfl (by omega) hs.1 ?_
        rw [show (mm_u (mm_u (mm_u (mm_u (mm_u (mm_u (mm_u ν 0 0 0) 9 (3 * (ν 0 8)) (mo_p2 x)) 9 ((3 * (ν 0 8)) + 1) 0) 9 ((3 * (ν 0 8)) + 2) (mo_p2 z)) 10 (ν 0 8) w) 11 (ν 0 8) v) 0 8 ((ν 0 8) + 1)) 0 8 = (ν 0 8) + 1 from mm_u_at]
        refine sw_p 2 (f' := (193, [some (2, 0), some (0, x), some (0, y), some (0, z), some (0, w), some (0, v), some (0, 1)], [(0, ((ν 0 8) + 1) - 1)])) rfl ?_
        exact sw_retI rfl rfl rfl ⟨rfl, rfl, by unfold mo_ty; rw [mo_e1 (y := x) (by omega), mo_e0 (y := y) (by omega), mo_e1 (y := z) (by omega)]⟩
      · skip
        refine sw_p 2 (f' := (154, [some (2, 0), some (0, x), some (0, y), some (0, z), some (0, w), some (0, v), some (0, 1)], [(0, 0), (0, (3 * (ν 0 8)) + 2), (2, 9)])) rfl ?_
        refine sw_ias (pn := 155) (l := 48) rfl rfl (by omega) (mo_s9 hs).2.1 (mo_s9 hs).2.2 (by omega) (by omega) ?_
        refine sw_p 1 (f' := (156, [some (2, 0), some (0, x), some (0, y), some (0, z), some (0, w), some (0, v), some (0, 1)], [(2, 0)])) rfl ?_
        refine sw_hA (pn := 159) (i := 10) (v := 10) rfl rfl rfl rfl rfl hs.1 (mo_s10 hs).1 (by omega) ?_
        refine sw_p 1 (f' := (160, [some (2, 0), some (0, x), some (0, y), some (0, z), some (0, w), some (0, v), some (0, 1)], [(2, 0), (2, 10)])) rfl ?_
        refine sw_gI (pn := 163) (i := 8) rfl rfl rfl rfl rfl (by omega) hs.1 ?_
        rw [show (mm_u (mm_u (mm_u (mm_u ν 0 0 0) 9 (3 * (ν 0 8)) (mo_p2 x)) 9 ((3 * (ν 0 8)) + 1) 0) 9 ((3 * (ν 0 8)) + 2) 0) 0 8 = ν 0 8 from (mm_u_ne (by omega)).trans ((mm_u_ne (by omega)).trans ((mm_u_ne (by omega)).trans (mm_u_ne (by omega))))]
        refine sw_p 1 (f' := (165, [some (2, 0), some (0, x), some (0, y), some (0, z), some (0, w), some (0, v), some (0, 1)], [(0, w), (0, ν 0 8), (2, 10)])) rfl ?_
        refine sw_ias (pn := 166) (l := 16) rfl rfl (by omega) (mo_s10 hs).2.1 (mo_s10 hs).2.2 (by omega) (by omega) ?_
        refine sw_p 1 (f' := (167, [some (2, 0), some (0, x), some (0, y), some (0, z), some (0, w), some (0, v), some (0, 1)], [(2, 0)])) rfl ?_
        refine sw_hA (pn := 170) (i := 11) (v := 11) rfl rfl rfl rfl rfl hs.1 (mo_s11 hs).1 (by omega) ?_
        refine sw_p 1 (f' := (171, [some (2, 0), some (0, x), some (0, y), some (0, z), some (0, w), some (0, v), some (0, 1)], [(2, 0), (2, 11)])) rfl ?_
        refine sw_gI (pn := 174) (i := 8) rfl rfl rfl rfl rfl (by omega) hs.1 ?_
        rw [show (mm_u (mm_u (mm_u (mm_u (mm_u ν 0 0 0) 9 (3 * (ν 0 8)) (mo_p2 x)) 9 ((3 * (ν 0 8)) + 1) 0) 9 ((3 * (ν 0 8)) + 2) 0) 10 (ν 0 8) w) 0 8 = ν 0 8 from (mm_u_ne (by omega)).trans ((mm_u_ne (by omega)).trans ((mm_u_ne (by omega)).trans ((mm_u_ne (by omega)).trans (mm_u_ne (by omega)))))]
        refine sw_p 1 (f' := (176, [some (2, 0), some (0, x), some (0, y), some (0, z), some (0, w), some (0, v), some (0, 1)], [(0, v), (0, ν 0 8), (2, 11)])) rfl ?_
        refine sw_bas (pn := 177) (l := 16) rfl rfl (by omega) (by omega) (mo_s11 hs).2.1 (mo_s11 hs).2.2 (by omega) (by omega) ?_
        refine sw_p 2 (f' := (179, [some (2, 0), some (0, x), some (0, y), some (0, z), some (0, w), some (0, v), some (0, 1)], [(2, 0), (2, 0)])) rfl ?_
        refine sw_gI (pn := 182) (i := 8) rfl rfl rfl rfl rfl (by omega) hs.1 ?_
        rw [show (mm_u (mm_u (mm_u (mm_u (mm_u (mm_u ν 0 0 0) 9 (3 * (ν 0 8)) (mo_p2 x)) 9 ((3 * (ν 0 8)) + 1) 0) 9 ((3 * (ν 0 8)) + 2) 0) 10 (ν 0 8) w) 11 (ν 0 8) v) 0 8 = ν 0 8 from (mm_u_ne (by omega)).trans ((mm_u_ne (by omega)).trans ((mm_u_ne (by omega)).trans ((mm_u_ne (by omega)).trans ((mm_u_ne (by omega)).trans (mm_u_ne (by omega))))))]
        refine sw_p 2 (f' := (184, [some (2, 0), some (0, x), some (0, y), some (0, z), some (0, w), some (0, v), some (0, 1)], [(0, (ν 0 8) + 1), (2, 0)])) rfl ?_
        refine sw_pI (pn := 187) (i := 8) rfl rfl rfl rfl rfl (by omega) hs.1 ?_
        refine sw_p 1 (f' := (188, [some (2, 0), some (0, x), some (0, y), some (0, z), some (0, w), some (0, v), some (0, 1)], [(2, 0)])) rfl ?_
        refine sw_gI (pn := 191) (i := 8) rfl rfl rfl rfl rfl (by omega) hs.1 ?_
        rw [show (mm_u (mm_u (mm_u (mm_u (mm_u (mm_u (mm_u ν 0 0 0) 9 (3 * (ν 0 8)) (mo_p2 x)) 9 ((3 * (ν 0 8)) + 1) 0) 9 ((3 * (ν 0 8)) + 2) 0) 10 (ν 0 8) w) 11 (ν 0 8) v) 0 8 ((ν 0 8) + 1)) 0 8 = (ν 0 8) + 1 from mm_u_at]
        refine sw_p 2 (f' := (193, [some (2, 0), some (0, x), some (0, y), some (0, z), some (0, w), some (0, v), some (0, 1)], [(0, ((ν 0 8) + 1) - 1)])) rfl ?_
        exact sw_retI rfl rfl rfl ⟨rfl, rfl, by unfold mo_ty; rw [mo_e1 (y := x) (by omega), mo_e0 (y := y) (by omega), mo_e0 (y := z) (by omega)]⟩
  · skip
    refine sw_p 2 (f' := (106, [some (2, 0), some (0, x), some (0, y), some (0, z), some (0, w), some (0, v), some (0, 1)], [(0, 0), (0, 3 * (ν 0 8)), (2, 9)])) rfl ?_
    refine sw_ias (pn := 107) (l := 48) rfl rfl (by omega) (mo_s9 hs).2.1 (mo_s9 hs).2.2 (by omega) (by omega) ?_
    refine sw_p 1 (f' := (108, [some (2, 0), some (0, x), some (0, y), some (0, z), some (0, w), some (0, v), some (0, 1)], [(2, 0)])) rfl ?_
    refine sw_hA (pn := 111) (i := 9) (v := 9) rfl rfl rfl rfl rfl hs.1 (mo_s9 hs).1 (by omega) ?_
    refine sw_p 2 (f' := (113, [some (2, 0), some (0, x), some (0, y), some (0, z), some (0, w), some (0, v), some (0, 1)], [(2, 0), (0, 3), (2, 9)])) rfl ?_
    refine sw_gI (pn := 116) (i := 8) rfl rfl rfl rfl rfl (by omega) hs.1 ?_
    rw [show (mm_u (mm_u ν 0 0 0) 9 (3 * (ν 0 8)) 0) 0 8 = ν 0 8 from (mm_u_ne (by omega)).trans (mm_u_ne (by omega))]
    refine sw_p 4 (f' := (120, [some (2, 0), some (0, x), some (0, y), some (0, z), some (0, w), some (0, v), some (0, 1)], [(0, y), (0, (3 * (ν 0 8)) + 1), (2, 9)])) rfl ?_
    refine sw_ge1 (pt := 127) (pn := 123) rfl rfl rfl (by omega) (fun h12 => ?_) (fun h12 => ?_)
    · skip
      refine sw_p 2 (f' := (129, [some (2, 0), some (0, x), some (0, y), some (0, z), some (0, w), some (0, v), some (0, 1)], [(0, y), (0, 1), (0, (3 * (ν 0 8)) + 1), (2, 9)])) rfl ?_
      refine sw_ishl (pn := 130) (z := mo_p2 y) rfl rfl (mo_shl (by omega)) ?_
      refine sw_ias (pn := 131) (l := 48) rfl rfl (by omega) (mo_s9 hs).2.1 (mo_s9 hs).2.2 (by omega) (by omega) ?_
      refine sw_p 1 (f' := (132, [some (2, 0), some (0, x), some (0, y), some (0, z), some (0, w), some (0, v), some (0, 1)], [(2, 0)])) rfl ?_
      refine sw_hA (pn := 135) (i := 9) (v := 9) rfl rfl rfl rfl rfl hs.1 (mo_s9 hs).1 (by omega) ?_
      refine sw_p 2 (f' := (137, [some (2, 0), some (0, x), some (0, y), some (0, z), some (0, w), some (0, v), some (0, 1)], [(2, 0), (0, 3), (2, 9)])) rfl ?_
      refine sw_gI (pn := 140) (i := 8) rfl rfl rfl rfl rfl (by omega) hs.1 ?_
      rw [show (mm_u (mm_u (mm_u ν 0 0 0) 9 (3 * (ν 0 8)) 0) 9 ((3 * (ν 0 8)) + 1) (mo_p2 y)) 0 8 = ν 0 8 from (mm_u_ne (by omega)).trans ((mm_u_ne (by omega)).trans (mm_u_ne (by omega)))]
      refine sw_p 4 (f' := (144, [some (2, 0), some (0, x), some (0, y), some (0, z), some (0, w), some (0, v), some (0, 1)], [(0, z), (0, (3 * (ν 0 8)) + 2), (2, 9)])) rfl ?_
      refine sw_ge1 (pt := 151) (pn := 147) rfl rfl rfl (by omega) (fun h13 => ?_) (fun h13 => ?_)
      · skip
        refine sw_p 2 (f' := (153, [some (2, 0), some (0, x), some (0, y), some (0, z), some (0, w), some (0, v), some (0, 1)], [(0, z), (0, 1), (0, (3 * (ν 0 8)) + 2), (2, 9)])) rfl ?_
        refine sw_ishl (pn := 154) (z := mo_p2 z) rfl rfl (mo_shl (by omega)) ?_
        refine sw_ias (pn := 155) (l := 48) rfl rfl (by omega) (mo_s9 hs).2.1 (mo_s9 hs).2.2 (by omega) (by omega) ?_
        refine sw_p 1 (f' := (156, [some (2, 0), some (0, x), some (0, y), some (0, z), some (0, w), some (0, v), some (0, 1)], [(2, 0)])) rfl ?_
        refine sw_hA (pn := 159) (i := 10) (v := 10) rfl rfl rfl rfl rfl hs.1 (mo_s10 hs).1 (by omega) ?_
        refine sw_p 1 (f' := (160, [some (2, 0), some (0, x), some (0, y), some (0, z), some (0, w), some (0, v), some (0, 1)], [(2, 0), (2, 10)])) rfl ?_
        refine sw_gI (pn := 163) (i := 8) rfl rfl rfl rfl rfl (by omega) hs.1 ?_
        rw [show (mm_u (mm_u (mm_u (mm_u ν 0 0 0) 9 (3 * (ν 0 8)) 0) 9 ((3 * (ν 0 8)) + 1) (mo_p2 y)) 9 ((3 * (ν 0 8)) + 2) (mo_p2 z)) 0 8 = ν 0 8 from (mm_u_ne (by omega)).trans ((mm_u_ne (by omega)).trans ((mm_u_ne (by omega)).trans (mm_u_ne (by omega))))]
        refine sw_p 1 (f' := (165, [some (2, 0), some (0, x), some (0, y), some (0, z), some (0, w), some (0, v), some (0, 1)], [(0, w), (0, ν 0 8), (2, 10)])) rfl ?_
        refine sw_ias (pn := 166) (l := 16) rfl rfl (by omega) (mo_s10 hs).2.1 (mo_s10 hs).2.2 (by omega) (by omega) ?_
        refine sw_p 1 (f' := (167, [some (2, 0), some (0, x), some (0, y), some (0, z), some (0, w), some (0, v), some (0, 1)], [(2, 0)])) rfl ?_
        refine sw_hA (pn := 170) (i := 11) (v := 11) rfl rfl rfl rfl rfl hs.1 (mo_s11 hs).1 (by omega) ?_
        refine sw_p 1 (f' := (171, [some (2, 0), some (0, x), some (0, y), some (0, z), some (0, w), some (0, v), some (0, 1)], [(2, 0), (2, 11)])) rfl ?_
        refine sw_gI (pn := 174) (i := 8) rfl rfl rfl rfl rfl (by omega) hs.1 ?_
        rw [show (mm_u (mm_u (mm_u (mm_u (mm_u ν 0 0 0) 9 (3 * (ν 0 8)) 0) 9 ((3 * (ν 0 8)) + 1) (mo_p2 y)) 9 ((3 * (ν 0 8)) + 2) (mo_p2 z)) 10 (ν 0 8) w) 0 8 = ν 0 8 from (mm_u_ne (by omega)).trans ((mm_u_ne (by omega)).trans ((mm_u_ne (by omega)).trans ((mm_u_ne (by omega)).trans (mm_u_ne (by omega)))))]
        refine sw_p 1 (f' := (176, [some (2, 0), some (0, x), some (0, y), some (0, z), some (0, w), some (0, v), some (0, 1)], [(0, v), (0, ν 0 8), (2, 11)])) rfl ?_
        refine sw_bas (pn := 177) (l := 16) rfl rfl (by omega) (by omega) (mo_s11 hs).2.1 (mo_s11 hs).2.2 (by omega) (by omega) ?_
        refine sw_p 2 (f' := (179, [some (2, 0), some (0, x), some (0, y), some (0, z), some (0, w), some (0, v), some (0, 1)], [(2, 0), (2, 0)])) rfl ?_
        refine sw_gI (pn := 182) (i := 8) rfl rfl rfl rfl rfl (by omega) hs.1 ?_
        rw [show (mm_u (mm_u (mm_u (mm_u (mm_u (mm_u ν 0 0 0) 9 (3 * (ν 0 8)) 0) 9 ((3 * (ν 0 8)) + 1) (mo_p2 y)) 9 ((3 * (ν 0 8)) + 2) (mo_p2 z)) 10 (ν 0 8) w) 11 (ν 0 8) v) 0 8 = ν 0 8 from (mm_u_ne (by omega)).trans ((mm_u_ne (by omega)).trans ((mm_u_ne (by omega)).trans ((mm_u_ne (by omega)).trans ((mm_u_ne (by omega)).trans (mm_u_ne (by omega))))))]
        refine sw_p 2 (f' := (184, [some (2, 0), some (0, x), some (0, y), some (0, z), some (0, w), some (0, v), some (0, 1)], [(0, (ν 0 8) + 1), (2, 0)])) rfl ?_
        refine sw_pI (pn := 187) (i := 8) rfl rfl rfl rfl rfl (by omega) hs.1 ?_
        refine sw_p 1 (f' := (188, [some (2, 0), some (0, x), some (0, y), some (0, z), some (0, w), some (0, v), some (0, 1)], [(2, 0)])) rfl ?_
        refine sw_gI (pn := 191) (i := 8) rfl rfl rfl rfl rfl (by omega) hs.1 ?_
        rw [show (mm_u (mm_u (mm_u (mm_u (mm_u (mm_u (mm_u ν 0 0 0) 9 (3 * (ν 0 8)) 0) 9 ((3 * (ν 0 8)) + 1) (mo_p2 y)) 9 ((3 * (ν 0 8)) + 2) (mo_p2 z)) 10 (ν 0 8) w) 11 (ν 0 8) v) 0 8 ((ν 0 8) + 1)) 0 8 = (ν 0 8) + 1 from mm_u_at]
        refine sw_p 2 (f' := (193, [some (2, 0), some (0, x), some (0, y), some (0, z), some (0, w), some (0, v), some (0, 1)], [(0, ((ν 0 8) + 1) - 1)])) rfl ?_
        exact sw_retI rfl rfl rfl ⟨rfl, rfl, by unfold mo_ty; rw [mo_e0 (y := x) (by omega), mo_e1 (y := y) (by omega), mo_e1 (y := z) (by omega)]⟩
      · skip
        refine sw_p 2 (f' := (154, [some (2, 0), some (0, x), some (0, y), some (0, z), some (0, w), some (0, v), some (0, 1)], [(0, 0), (0, (3 * (ν 0 8)) + 2), (2, 9)])) rfl ?_
        refine sw_ias (pn := 155) (l := 48) rfl rfl (by omega) (mo_s9 hs).2.1 (mo_s9 hs).2.2 (by omega) (by omega) ?_
        refine sw_p 1 (f' := (156, [some (2, 0), some (0, x), some (0, y), some (0, z), some (0, w), some (0, v), some (0, 1)], [(2, 0)])) rfl ?_
        refine sw_hA (pn := 159) (i := 10) (v := 10) rfl rfl rfl rfl rfl hs.1 (mo_s10 hs).1 (by omega) ?_
        refine sw_p 1 (f' := (160, [some (2, 0), some (0, x), some (0, y), some (0, z), some (0, w), some (0, v), some (0, 1)], [(2, 0), (2, 10)])) rfl ?_
        refine sw_gI (pn := 163) (i := 8) rfl rfl rfl rfl rfl (by omega) hs.1 ?_
        rw [show (mm_u (mm_u (mm_u (mm_u ν 0 0 0) 9 (3 * (ν 0 8)) 0) 9 ((3 * (ν 0 8)) + 1) (mo_p2 y)) 9 ((3 * (ν 0 8)) + 2) 0) 0 8 = ν 0 8 from (mm_u_ne (by omega)).trans ((mm_u_ne (by omega)).trans ((mm_u_ne (by omega)).trans (mm_u_ne (by omega))))]
        refine sw_p 1 (f' := (165, [some (2, 0), some (0, x), some (0, y), some (0, z), some (0, w), some (0, v), some (0, 1)], [(0, w), (0, ν 0 8), (2, 10)])) rfl ?_
        refine sw_ias (pn := 166) (l := 16) rfl rfl (by omega) (mo_s10 hs).2.1 (mo_s10 hs).2.2 (by omega) (by omega) ?_
        refine sw_p 1 (f' := (167, [some (2, 0), some (0, x), some (0, y), some (0, z), some (0, w), some (0, v), some (0, 1)], [(2, 0)])) rfl ?_
        refine sw_hA (pn := 170) (i := 11) (v := 11) rfl rfl rfl rfl rfl hs.1 (mo_s11 hs).1 (by omega) ?_
        refine sw_p 1 (f' := (171, [some (2, 0), some (0, x), some (0, y), some (0, z), some (0, w), some (0, v), some (0, 1)], [(2, 0), (2, 11)])) rfl ?_
        refine sw_gI (pn := 174) (i := 8) rfl rfl rfl rfl rfl (by omega) hs.1 ?_
        rw [show (mm_u (mm_u (mm_u (mm_u (mm_u ν 0 0 0) 9 (3 * (ν 0 8)) 0) 9 ((3 * (ν 0 8)) + 1) (mo_p2 y)) 9 ((3 * (ν 0 8)) + 2) 0) 10 (ν 0 8) w) 0 8 = ν 0 8 from (mm_u_ne (by omega)).trans ((mm_u_ne (by omega)).trans ((mm_u_ne (by omega)).trans ((mm_u_ne (by omega)).trans (mm_u_ne (by omega)))))]
        refine sw_p 1 (f' := (176, [some (2, 0), some (0, x), some (0, y), some (0, z), some (0, w), some (0, v), some (0, 1)], [(0, v), (0, ν 0 8), (2, 11)])) rfl ?_
        refine sw_bas (pn := 177) (l := 16) rfl rfl (by omega) (by omega) (mo_s11 hs).2.1 (mo_s11 hs).2.2 (by omega) (by omega) ?_
        refine sw_p 2 (f' := (179, [some (2, 0), some (0, x), some (0, y), some (0, z), some (0, w), some (0, v), some (0, 1)], [(2, 0), (2, 0)])) rfl ?_
        refine sw_gI (pn := 182) (i := 8) rfl rfl rfl rfl rfl (by omega) hs.1 ?_
        rw [show (mm_u (mm_u (mm_u (mm_u (mm_u (mm_u ν 0 0 0) 9 (3 * (ν 0 8)) 0) 9 ((3 * (ν 0 8)) + 1) (mo_p2 y)) 9 ((3 * (ν 0 8)) + 2) 0) 10 (ν 0 8) w) 11 (ν 0 8) v) 0 8 = ν 0 8 from (mm_u_ne (by omega)).trans ((mm_u_ne (by omega)).trans ((mm_u_ne (by omega)).trans ((mm_u_ne (by omega)).trans ((mm_u_ne (by omega)).trans (mm_u_ne (by omega))))))]
        refine sw_p 2 (f' := (184, [some (2, 0), some (0, x), some (0, y), some (0, z), some (0, w), some (0, v), some (0, 1)], [(0, (ν 0 8) + 1), (2, 0)])) rfl ?_
        refine sw_pI (pn := 187) (i := 8) rfl rfl rfl rfl rfl (by omega) hs.1 ?_
        refine sw_p 1 (f' := (188, [some (2, 0), some (0, x), some (0, y), some (0, z), some (0, w), some (0, v), some (0, 1)], [(2, 0)])) rfl ?_
        refine sw_gI (pn := 191) (i := 8) rfl rfl rfl rfl rfl (by omega) hs.1 ?_
        rw [show (mm_u (mm_u (mm_u (mm_u (mm_u (mm_u (mm_u ν 0 0 0) 9 (3 * (ν 0 8)) 0) 9 ((3 * (ν 0 8)) + 1) (mo_p2 y)) 9 ((3 * (ν 0 8)) + 2) 0) 10 (ν 0 8) w) 11 (ν 0 8) v) 0 8 ((ν 0 8) + 1)) 0 8 = (ν 0 8) + 1 from mm_u_at]
        refine sw_p 2 (f' := (193, [some (2, 0), some (0, x), some (0, y), some (0, z), some (0, w), some (0, v), some (0, 1)], [(0, ((ν 0 8) + 1) - 1)])) rfl ?_
        exact sw_retI rfl rfl rfl ⟨rfl, rfl, by unfold mo_ty; rw [mo_e0 (y := x) (by omega), mo_e1 (y := y) (by omega), mo_e0 (y := z) (by omega)]⟩
    · skip
      refine sw_p 2 (f' := (130, [some (2, 0), some (0, x), some (0, y), some (0, z), some (0, w), some (0, v), some (0, 1)], [(0, 0), (0, (3 * (ν 0 8)) + 1), (2, 9)])) rfl ?_
      refine sw_ias (pn := 131) (l := 48) rfl rfl (by omega) (mo_s9 hs).2.1 (mo_s9 hs).2.2 (by omega) (by omega) ?_
      refine sw_p 1 (f' := (132, [some (2, 0), some (0, x), some (0, y), some (0, z), some (0, w), some (0, v), some (0, 1)], [(2, 0)])) rfl ?_
      refine sw_hA (pn := 135) (i := 9) (v := 9) rfl rfl rfl rfl rfl hs.1 (mo_s9 hs).1 (by omega) ?_
      refine sw_p 2 (f' := (137, [some (2, 0), some (0, x), some (0, y), some (0, z), some (0, w), some (0, v), some (0, 1)], [(2, 0), (0, 3), (2, 9)])) rfl ?_
      refine sw_gI (pn := 140) (i := 8) rfl rfl rfl rfl rfl (by omega) hs.1 ?_
      rw [show (mm_u (mm_u (mm_u ν 0 0 0) 9 (3 * (ν 0 8)) 0) 9 ((3 * (ν 0 8)) + 1) 0) 0 8 = ν 0 8 from (mm_u_ne (by omega)).trans ((mm_u_ne (by omega)).trans (mm_u_ne (by omega)))]
      refine sw_p 4 (f' := (144, [some (2, 0), some (0, x), some (0, y), some (0, z), some (0, w), some (0, v), some (0, 1)], [(0, z), (0, (3 * (ν 0 8)) + 2), (2, 9)])) rfl ?_
      refine sw_ge1 (pt := 151) (pn := 147) rfl rfl rfl (by omega) (fun h14 => ?_) (fun h14 => ?_)
      · skip
        refine sw_p 2 (f' := (153, [some (2, 0), some (0, x), some (0, y), some (0, z), some (0, w), some (0, v), some (0, 1)], [(0, z), (0, 1), (0, (3 * (ν 0 8)) + 2), (2, 9)])) rfl ?_
        refine sw_ishl (pn := 154) (z := mo_p2 z) rfl rfl (mo_shl (by omega)) ?_
        refine sw_ias (pn := 155) (l := 48) rfl rfl (by omega) (mo_s9 hs).2.1 (mo_s9 hs).2.2 (by omega) (by omega) ?_
        refine sw_p 1 (f' := (156, [some (2, 0), some (0, x), some (0, y), some (0, z), some (0, w), some (0, v), some (0, 1)], [(2, 0)])) rfl ?_
        refine sw_hA (pn := 159) (i := 10) (v := 10) rfl rfl rfl rfl rfl hs.1 (mo_s10 hs).1 (by omega) ?_
        refine sw_p 1 (f' := (160, [some (2, 0), some (0, x), some (0, y), some (0, z), some (0, w), some (0, v), some (0, 1)], [(2, 0), (2, 10)])) rfl ?_
        refine sw_gI (pn := 163) (i := 8) rfl rfl rfl rfl rfl (by omega) hs.1 ?_
        rw [show (mm_u (mm_u (mm_u (mm_u ν 0 0 0) 9 (3 * (ν 0 8)) 0) 9 ((3 * (ν 0 8)) + 1) 0) 9 ((3 * (ν 0 8)) + 2) (mo_p2 z)) 0 8 = ν 0 8 from (mm_u_ne (by omega)).trans ((mm_u_ne (by omega)).trans ((mm_u_ne (by omega)).trans (mm_u_ne (by omega))))]
        refine sw_p 1 (f' := (165, [some (2, 0), some (0, x), some (0, y), some (0, z), some (0, w), some (0, v), some (0, 1)], [(0, w), (0, ν 0 8), (2, 10)])) rfl ?_
        refine sw_ias (pn := 166) (l := 16) rfl rfl (by omega) (mo_s10 hs).2.1 (mo_s10 hs).2.2 (by omega) (by omega) ?_
        refine sw_p 1 (f' := (167, [some (2, 0), some (0, x), some (0, y), some (0, z), some (0, w), some (0, v), some (0, 1)], [(2, 0)])) rfl ?_
        refine sw_hA (pn := 170) (i := 11) (v := 11) rfl rfl rfl rfl rfl hs.1 (mo_s11 hs).1 (by omega) ?_
        refine sw_p 1 (f' := (171, [some (2, 0), some (0, x), some (0, y), some (0, z), some (0, w), some (0, v), some (0, 1)], [(2, 0), (2, 11)])) rfl ?_
        refine sw_gI (pn := 174) (i := 8) rfl rfl rfl rfl rfl (by omega) hs.1 ?_
        rw [show (mm_u (mm_u (mm_u (mm_u (mm_u ν 0 0 0) 9 (3 * (ν 0 8)) 0) 9 ((3 * (ν 0 8)) + 1) 0) 9 ((3 * (ν 0 8)) + 2) (mo_p2 z)) 10 (ν 0 8) w) 0 8 = ν 0 8 from (mm_u_ne (by omega)).trans ((mm_u_ne (by omega)).trans ((mm_u_ne (by omega)).trans ((mm_u_ne (by omega)).trans (mm_u_ne (by omega)))))]
        refine sw_p 1 (f' := (176, [some (2, 0), some (0, x), some (0, y), some (0, z), some (0, w), some (0, v), some (0, 1)], [(0, v), (0, ν 0 8), (2, 11)])) rfl ?_
        refine sw_bas (pn := 177) (l := 16) rfl rfl (by omega) (by omega) (mo_s11 hs).2.1 (mo_s11 hs).2.2 (by omega) (by omega) ?_
        refine sw_p 2 (f' := (179, [some (2, 0), some (0, x), some (0, y), some (0, z), some (0, w), some (0, v), some (0, 1)], [(2, 0), (2, 0)])) rfl ?_
        refine sw_gI (pn := 182) (i := 8) rfl rfl rfl rfl rfl (by omega) hs.1 ?_
        rw [show (mm_u (mm_u (mm_u (mm_u (mm_u (mm_u ν 0 0 0) 9 (3 * (ν 0 8)) 0) 9 ((3 * (ν 0 8)) + 1) 0) 9 ((3 * (ν 0 8)) + 2) (mo_p2 z)) 10 (ν 0 8) w) 11 (ν 0 8) v) 0 8 = ν 0 8 from (mm_u_ne (by omega)).trans ((mm_u_ne (by omega)).trans ((mm_u_ne (by omega)).trans ((mm_u_ne (by omega)).trans ((mm_u_ne (by omega)).trans (mm_u_ne (by omega))))))]
        refine sw_p 2 (f' := (184, [some (2, 0), some (0, x), some (0, y), some (0, z), some (0, w), some (0, v), some (0, 1)], [(0, (ν 0 8) + 1), (2, 0)])) rfl ?_
        refine sw_pI (pn := 187) (i := 8) rfl rfl rfl rfl rfl (by omega) hs.1 ?_
        refine sw_p 1 (f' := (188, [some (2, 0), some (0, x), some (0, y), some (0, z), some (0, w), some (0, v), some (0, 1)], [(2, 0)])) rfl ?_
        refine sw_gI (pn := 191) (i := 8) rfl rfl rfl rfl rfl (by omega) hs.1 ?_
        rw [show (mm_u (mm_u (mm_u (mm_u (mm_u (mm_u (mm_u ν 0 0 0) 9 (3 * (ν 0 8)) 0) 9 ((3 * (ν 0 8)) + 1) 0) 9 ((3 * (ν 0 8)) + 2) (mo_p2 z)) 10 (ν 0 8) w) 11 (ν 0 8) v) 0 8 ((ν 0 8) + 1)) 0 8 = (ν 0 8) + 1 from mm_u_at]
        refine sw_p 2 (f' := (193, [some (2, 0), some (0, x), some (0, y), some (0, z), some (0, w), some (0, v), some (0, 1)], [(0, ((ν 0 8) + 1) - 1)])) rfl ?_
        exact sw_retI rfl rfl rfl ⟨rfl, rfl, by unfold mo_ty; rw [mo_e0 (y := x) (by omega), mo_e0 (y := y) (by omega), mo_e1 (y := z) (by omega)]⟩
      · skip
        refine sw_p 2 (f' := (154, [some (2, 0), some (0, x), some (0, y), some (0, z), some (0, w), some (0, v), some (0, 1)], [(0, 0), (0, (3 * (ν 0 8)) + 2), (2, 9)])) rfl ?_
        refine sw_ias (pn := 155) (l := 48) rfl rfl (by omega) (mo_s9 hs).2.1 (mo_s9 hs).2.2 (by omega) (by omega) ?_
        refine sw_p 1 (f' := (156, [some (2, 0), some (0, x), some (0, y), some (0, z), some (0, w), some (0, v), some (0, 1)], [(2, 0)])) rfl ?_
        refine sw_hA (pn := 159) (i := 10) (v := 10) rfl rfl rfl rfl rfl hs.1 (mo_s10 hs).1 (by omega) ?_
        refine sw_p 1 (f' := (160, [some (2, 0), some (0, x), some (0, y), some (0, z), some (0, w), some (0, v), some (0, 1)], [(2, 0), (2, 10)])) rfl ?_
        refine sw_gI (pn := 163) (i := 8) rfl rfl rfl rfl rfl (by omega) hs.1 ?_
        rw [show (mm_u (mm_u (mm_u (mm_u ν 0 0 0) 9 (3 * (ν 0 8)) 0) 9 ((3 * (ν 0 8)) + 1) 0) 9 ((3 * (ν 0 8)) + 2) 0) 0 8 = ν 0 8 from (mm_u_ne (by omega)).trans ((mm_u_ne (by omega)).trans ((mm_u_ne (by omega)).trans (mm_u_ne (by omega))))]
        refine sw_p 1 (f' := (165, [some (2, 0), some (0, x), some (0, y), some (0, z), some (0, w), some (0, v), some (0, 1)], [(0, w), (0, ν 0 8), (2, 10)])) rfl ?_
        refine sw_ias (pn := 166) (l := 16) rfl rfl (by omega) (mo_s10 hs).2.1 (mo_s10 hs).2.2 (by omega) (by omega) ?_
        refine sw_p 1 (f' := (167, [some (2, 0), some (0, x), some (0, y), some (0, z), some (0, w), some (0, v), some (0, 1)], [(2, 0)])) rfl ?_
        refine sw_hA (pn := 170) (i := 11) (v := 11) rfl rfl rfl rfl rfl hs.1 (mo_s11 hs).1 (by omega) ?_
        refine sw_p 1 (f' := (171, [some (2, 0), some (0, x), some (0, y), some (0, z), some (0, w), some (0, v), some (0, 1)], [(2, 0), (2, 11)])) rfl ?_
        refine sw_gI (pn := 174) (i := 8) rfl rfl rfl rfl rfl (by omega) hs.1 ?_
        rw [show (mm_u (mm_u (mm_u (mm_u (mm_u ν 0 0 0) 9 (3 * (ν 0 8)) 0) 9 ((3 * (ν 0 8)) + 1) 0) 9 ((3 * (ν 0 8)) + 2) 0) 10 (ν 0 8) w) 0 8 = ν 0 8 from (mm_u_ne (by omega)).trans ((mm_u_ne (by omega)).trans ((mm_u_ne (by omega)).trans ((mm_u_ne (by omega)).trans (mm_u_ne (by omega)))))]
        refine sw_p 1 (f' := (176, [some (2, 0), some (0, x), some (0, y), some (0, z), some (0, w), some (0, v), some (0, 1)], [(0, v), (0, ν 0 8), (2, 11)])) rfl ?_
        refine sw_bas (pn := 177) (l := 16) rfl rfl (by omega) (by omega) (mo_s11 hs).2.1 (mo_s11 hs).2.2 (by omega) (by omega) ?_
        refine sw_p 2 (f' := (179, [some (2, 0), some (0, x), some (0, y), some (0, z), some (0, w), some (0, v), some (0, 1)], [(2, 0), (2, 0)])) rfl ?_
        refine sw_gI (pn := 182) (i := 8) rfl rfl rfl rfl rfl (by omega) hs.1 ?_
        rw [show (mm_u (mm_u (mm_u (mm_u (mm_u (mm_u ν 0 0 0) 9 (3 * (ν 0 8)) 0) 9 ((3 * (ν 0 8)) + 1) 0) 9 ((3 * (ν 0 8)) + 2) 0) 10 (ν 0 8) w) 11 (ν 0 8) v) 0 8 = ν 0 8 from (mm_u_ne (by omega)).trans ((mm_u_ne (by omega)).trans ((mm_u_ne (by omega)).trans ((mm_u_ne (by omega)).trans ((mm_u_ne (by omega)).trans (mm_u_ne (by omega))))))]
        refine sw_p 2 (f' := (184, [some (2, 0), some (0, x), some (0, y), some (0, z), some (0, w), some (0, v), some (0, 1)], [(0, (ν 0 8) + 1), (2, 0)])) rfl ?_
        refine sw_pI (pn := 187) (i := 8) rfl rfl rfl rfl rfl (by omega) hs.1 ?_
        refine sw_p 1 (f' := (188, [some (2, 0), some (0, x), some (0, y), some (0, z), some (0, w), some (0, v), some (0, 1)], [(2, 0)])) rfl ?_
        refine sw_gI (pn := 191) (i := 8) rfl rfl rfl rfl rfl (by omega) hs.1 ?_
        rw [show (mm_u (mm_u (mm_u (mm_u (mm_u (mm_u (mm_u ν 0 0 0) 9 (3 * (ν 0 8)) 0) 9 ((3 * (ν 0 8)) + 1) 0) 9 ((3 * (ν 0 8)) + 2) 0) 10 (ν 0 8) w) 11 (ν 0 8) v) 0 8 ((ν 0 8) + 1)) 0 8 = (ν 0 8) + 1 from mm_u_at]
        refine sw_p 2 (f' := (193, [some (2, 0), some (0, x), some (0, y), some (0, z), some (0, w), some (0, v), some (0, 1)], [(0, ((ν 0 8) + 1) - 1)])) rfl ?_
        exact sw_retI rfl rfl rfl ⟨rfl, rfl, by unfold mo_ty; rw [mo_e0 (y := x) (by omega), mo_e0 (y := y) (by omega), mo_e0 (y := z) (by omega)]⟩
theorem mo_type_s (hs : mo_sh s) (hB : mo_B ν) (hx : -1 ≤ x ∧ x ≤ 10) (hy : -1 ≤ y ∧ y ≤ 10) (hz : -1 ≤ z ∧ z ≤ 10) (hw : 0 ≤ w ∧ w ≤ 1000) (h1 : ν 0 8 = 16) : sw_w E (d + 1) 87 (0, [some (2, 0), some (0, x), some (0, y), some (0, z), some (0, w), some (0, v), none], []) s ν (sw_is (some (0, 0)) s (mo_cd ν 2)) := by
  have hn := hB.2.1
  refine sw_p 3 (f' := (4, [some (2, 0), some (0, x), some (0, y), some (0, z), some (0, w), some (0, v), none], [(0, 10), (0, -1), (0, x)])) rfl ?_
  refine sw_cs1 (pn := 7) (q0 := mj_Mo_type) (q := mj_Mo_within) (L2 := [some (0, x), some (0, -1), some (0, 10)]) (rest := []) (v := some (0, 1)) (s1 := s) (ν1 := ν) rfl rfl rfl rfl rfl rfl rfl rfl (mo_in1 (by omega) (by omega) (by omega) (by omega)) ?_
  show sw_w E _ 87 (7, [some (2, 0), some (0, x), some (0, y), some (0, z), some (0, w), some (0, v), none], [(0, 1)]) s ν _
  refine sw_eq1 (pt := 46) (pn := 10) rfl rfl rfl (by omega) (fun h => absurd h (by decide)) (fun _ => ?_)
  refine sw_p 3 (f' := (14, [some (2, 0), some (0, x), some (0, y), some (0, z), some (0, w), some (0, v), none], [(0, 10), (0, -1), (0, y)])) rfl ?_
  refine sw_cs1 (pn := 17) (q0 := mj_Mo_type) (q := mj_Mo_within) (L2 := [some (0, y), some (0, -1), some (0, 10)]) (rest := []) (v := some (0, 1)) (s1 := s) (ν1 := ν) rfl rfl rfl rfl rfl rfl rfl rfl (mo_in1 (by omega) (by omega) (by omega) (by omega)) ?_
  show sw_w E _ 87 (17, [some (2, 0), some (0, x), some (0, y), some (0, z), some (0, w), some (0, v), none], [(0, 1)]) s ν _
  refine sw_eq1 (pt := 46) (pn := 20) rfl rfl rfl (by omega) (fun h => absurd h (by decide)) (fun _ => ?_)
  refine sw_p 3 (f' := (24, [some (2, 0), some (0, x), some (0, y), some (0, z), some (0, w), some (0, v), none], [(0, 10), (0, -1), (0, z)])) rfl ?_
  refine sw_cs1 (pn := 27) (q0 := mj_Mo_type) (q := mj_Mo_within) (L2 := [some (0, z), some (0, -1), some (0, 10)]) (rest := []) (v := some (0, 1)) (s1 := s) (ν1 := ν) rfl rfl rfl rfl rfl rfl rfl rfl (mo_in1 (by omega) (by omega) (by omega) (by omega)) ?_
  show sw_w E _ 87 (27, [some (2, 0), some (0, x), some (0, y), some (0, z), some (0, w), some (0, v), none], [(0, 1)]) s ν _
  refine sw_eq1 (pt := 46) (pn := 30) rfl rfl rfl (by omega) (fun h => absurd h (by decide)) (fun _ => ?_)
  refine sw_p 3 (f' := (36, [some (2, 0), some (0, x), some (0, y), some (0, z), some (0, w), some (0, v), none], [(0, 1000), (0, 0), (0, w)])) rfl ?_
  refine sw_cs1 (pn := 39) (q0 := mj_Mo_type) (q := mj_Mo_within) (L2 := [some (0, w), some (0, 0), some (0, 1000)]) (rest := []) (v := some (0, 1)) (s1 := s) (ν1 := ν) rfl rfl rfl rfl rfl rfl rfl rfl (mo_in1 (by omega) (by omega) (by omega) (by omega)) ?_
  show sw_w E _ 87 (39, [some (2, 0), some (0, x), some (0, y), some (0, z), some (0, w), some (0, v), none], [(0, 1)]) s ν _
  refine sw_eq1 (pt := 46) (pn := 42) rfl rfl rfl (by omega) (fun h => absurd h (by decide)) (fun _ => ?_)
  refine sw_p 5 (f' := (52, [some (2, 0), some (0, x), some (0, y), some (0, z), some (0, w), some (0, v), some (0, 1)], [(0, 1), (2, 0)])) rfl ?_
  refine sw_ne1 (pt := 59) (pn := 55) rfl rfl rfl (by omega) (fun _ => ?_) (fun h => absurd h (by decide))
  refine sw_p 1 (f' := (60, [some (2, 0), some (0, x), some (0, y), some (0, z), some (0, w), some (0, v), some (0, 1)], [(2, 0), (2, 0)])) rfl ?_
  refine sw_gI (pn := 63) (i := 8) rfl rfl rfl rfl rfl (by omega) hs.1 ?_
  refine sw_p 1 (f' := (65, [some (2, 0), some (0, x), some (0, y), some (0, z), some (0, w), some (0, v), some (0, 1)], [(0, 16), (0, ν 0 8), (2, 0)])) rfl ?_
  refine sw_ne2 (pt := 72) (pn := 68) rfl rfl rfl (by omega) (by omega) (fun h => absurd h (by omega)) (fun h6 => ?_)
  refine sw_p 2 (f' := (73, [some (2, 0), some (0, x), some (0, y), some (0, z), some (0, w), some (0, v), some (0, 1)], [(0, 2), (2, 0)])) rfl ?_
  refine sw_pI (pn := 76) (i := 0) rfl rfl rfl rfl rfl (by omega) hs.1 ?_
  refine sw_p 1 (f' := (77, [some (2, 0), some (0, x), some (0, y), some (0, z), some (0, w), some (0, v), some (0, 1)], [(2, 0)])) rfl ?_
  refine sw_gI (pn := 80) (i := 0) rfl rfl rfl rfl rfl (by omega) hs.1 ?_
  rw [show (mm_u ν 0 0 2) 0 0 = 2 from mm_u_at]
  refine sw_le1 (pt := 85) (pn := 83) rfl rfl rfl (by omega) (fun h => absurd h (by decide)) (fun _ => ?_)
  refine sw_p 1 (f' := (84, [some (2, 0), some (0, x), some (0, y), some (0, z), some (0, w), some (0, v), some (0, 1)], [(0, 0)])) rfl ?_
  exact sw_retI rfl rfl rfl ⟨rfl, rfl, rfl⟩
theorem mo_type_b1 (hs : mo_sh s) (hB : mo_B ν) (hx : -2147483648 ≤ x ∧ x < 2147483648) (h0 : ¬ (-1 ≤ x ∧ x ≤ 10)) : sw_w E (d + 1) 87 (0, [some (2, 0), some (0, x), some (0, y), some (0, z), some (0, w), some (0, v), none], []) s ν (sw_is (some (0, 0)) s (mo_cd ν 1)) := by
  have hn := hB.2.1
  refine sw_p 3 (f' := (4, [some (2, 0), some (0, x), some (0, y), some (0, z), some (0, w), some (0, v), none], [(0, 10), (0, -1), (0, x)])) rfl ?_
  refine sw_cs1 (pn := 7) (q0 := mj_Mo_type) (q := mj_Mo_within) (L2 := [some (0, x), some (0, -1), some (0, 10)]) (rest := []) (v := some (0, 0)) (s1 := s) (ν1 := ν) rfl rfl rfl rfl rfl rfl rfl rfl (mo_in0 (by omega) (by omega) (by omega) (by omega)) ?_
  show sw_w E _ 87 (7, [some (2, 0), some (0, x), some (0, y), some (0, z), some (0, w), some (0, v), none], [(0, 0)]) s ν _
  refine sw_eq1 (pt := 46) (pn := 10) rfl rfl rfl (by omega) (fun _ => ?_) (fun h => absurd h (by decide))
  refine sw_p 4 (f' := (52, [some (2, 0), some (0, x), some (0, y), some (0, z), some (0, w), some (0, v), some (0, 0)], [(0, 0), (2, 0)])) rfl ?_
  refine sw_ne1 (pt := 59) (pn := 55) rfl rfl rfl (by omega) (fun h => absurd h (by decide)) (fun _ => ?_)
  refine sw_p 2 (f' := (73, [some (2, 0), some (0, x), some (0, y), some (0, z), some (0, w), some (0, v), some (0, 0)], [(0, 1), (2, 0)])) rfl ?_
  refine sw_pI (pn := 76) (i := 0) rfl rfl rfl rfl rfl (by omega) hs.1 ?_
  refine sw_p 1 (f' := (77, [some (2, 0), some (0, x), some (0, y), some (0, z), some (0, w), some (0, v), some (0, 0)], [(2, 0)])) rfl ?_
  refine sw_gI (pn := 80) (i := 0) rfl rfl rfl rfl rfl (by omega) hs.1 ?_
  rw [show (mm_u ν 0 0 1) 0 0 = 1 from mm_u_at]
  refine sw_le1 (pt := 85) (pn := 83) rfl rfl rfl (by omega) (fun h => absurd h (by decide)) (fun _ => ?_)
  refine sw_p 1 (f' := (84, [some (2, 0), some (0, x), some (0, y), some (0, z), some (0, w), some (0, v), some (0, 0)], [(0, 0)])) rfl ?_
  exact sw_retI rfl rfl rfl ⟨rfl, rfl, rfl⟩
theorem mo_type_b2 (hs : mo_sh s) (hB : mo_B ν) (hx : -1 ≤ x ∧ x ≤ 10) (hy : -2147483648 ≤ y ∧ y < 2147483648) (h0 : ¬ (-1 ≤ y ∧ y ≤ 10)) : sw_w E (d + 1) 87 (0, [some (2, 0), some (0, x), some (0, y), some (0, z), some (0, w), some (0, v), none], []) s ν (sw_is (some (0, 0)) s (mo_cd ν 1)) := by
  have hn := hB.2.1
  refine sw_p 3 (f' := (4, [some (2, 0), some (0, x), some (0, y), some (0, z), some (0, w), some (0, v), none], [(0, 10), (0, -1), (0, x)])) rfl ?_
  refine sw_cs1 (pn := 7) (q0 := mj_Mo_type) (q := mj_Mo_within) (L2 := [some (0, x), some (0, -1), some (0, 10)]) (rest := []) (v := some (0, 1)) (s1 := s) (ν1 := ν) rfl rfl rfl rfl rfl rfl rfl rfl (mo_in1 (by omega) (by omega) (by omega) (by omega)) ?_
  show sw_w E _ 87 (7, [some (2, 0), some (0, x), some (0, y), some (0, z), some (0, w), some (0, v), none], [(0, 1)]) s ν _
  refine sw_eq1 (pt := 46) (pn := 10) rfl rfl rfl (by omega) (fun h => absurd h (by decide)) (fun _ => ?_)
  refine sw_p 3 (f' := (14, [some (2, 0), some (0, x), some (0, y), some (0, z), some (0, w), some (0, v), none], [(0, 10), (0, -1), (0, y)])) rfl ?_
  refine sw_cs1 (pn := 17) (q0 := mj_Mo_type) (q := mj_Mo_within) (L2 := [some (0, y), some (0, -1), some (0, 10)]) (rest := []) (v := some (0, 0)) (s1 := s) (ν1 := ν) rfl rfl rfl rfl rfl rfl rfl rfl (mo_in0 (by omega) (by omega) (by omega) (by omega)) ?_
  show sw_w E _ 87 (17, [some (2, 0), some (0, x), some (0, y), some (0, z), some (0, w), some (0, v), none], [(0, 0)]) s ν _
  refine sw_eq1 (pt := 46) (pn := 20) rfl rfl rfl (by omega) (fun _ => ?_) (fun h => absurd h (by decide))
  refine sw_p 4 (f' := (52, [some (2, 0), some (0, x), some (0, y), some (0, z), some (0, w), some (0, v), some (0, 0)], [(0, 0), (2, 0)])) rfl ?_
  refine sw_ne1 (pt := 59) (pn := 55) rfl rfl rfl (by omega) (fun h => absurd h (by decide)) (fun _ => ?_)
  refine sw_p 2 (f' := (73, [some (2, 0), some (0, x), some (0, y), some (0, z), some (0, w), some (0, v), some (0, 0)], [(0, 1), (2, 0)])) rfl ?_
  refine sw_pI (pn := 76) (i := 0) rfl rfl rfl rfl rfl (by omega) hs.1 ?_
  refine sw_p 1 (f' := (77, [some (2, 0), some (0, x), some (0, y), some (0, z), some (0, w), some (0, v), some (0, 0)], [(2, 0)])) rfl ?_
  refine sw_gI (pn := 80) (i := 0) rfl rfl rfl rfl rfl (by omega) hs.1 ?_
  rw [show (mm_u ν 0 0 1) 0 0 = 1 from mm_u_at]
  refine sw_le1 (pt := 85) (pn := 83) rfl rfl rfl (by omega) (fun h => absurd h (by decide)) (fun _ => ?_)
  refine sw_p 1 (f' := (84, [some (2, 0), some (0, x), some (0, y), some (0, z), some (0, w), some (0, v), some (0, 0)], [(0, 0)])) rfl ?_
  exact sw_retI rfl rfl rfl ⟨rfl, rfl, rfl⟩
theorem mo_type_b3 (hs : mo_sh s) (hB : mo_B ν) (hx : -1 ≤ x ∧ x ≤ 10) (hy : -1 ≤ y ∧ y ≤ 10) (hz : -2147483648 ≤ z ∧ z < 2147483648) (h0 : ¬ (-1 ≤ z ∧ z ≤ 10)) : sw_w E (d + 1) 87 (0, [some (2, 0), some (0, x), some (0, y), some (0, z), some (0, w), some (0, v), none], []) s ν (sw_is (some (0, 0)) s (mo_cd ν 1)) := by
  have hn := hB.2.1
  refine sw_p 3 (f' := (4, [some (2, 0), some (0, x), some (0, y), some (0, z), some (0, w), some (0, v), none], [(0, 10), (0, -1), (0, x)])) rfl ?_
  refine sw_cs1 (pn := 7) (q0 := mj_Mo_type) (q := mj_Mo_within) (L2 := [some (0, x), some (0, -1), some (0, 10)]) (rest := []) (v := some (0, 1)) (s1 := s) (ν1 := ν) rfl rfl rfl rfl rfl rfl rfl rfl (mo_in1 (by omega) (by omega) (by omega) (by omega)) ?_
  show sw_w E _ 87 (7, [some (2, 0), some (0, x), some (0, y), some (0, z), some (0, w), some (0, v), none], [(0, 1)]) s ν _
  refine sw_eq1 (pt := 46) (pn := 10) rfl rfl rfl (by omega) (fun h => absurd h (by decide)) (fun _ => ?_)
  refine sw_p 3 (f' := (14, [some (2, 0), some (0, x), some (0, y), some (0, z), some (0, w), some (0, v), none], [(0, 10), (0, -1), (0, y)])) rfl ?_
  refine sw_cs1 (pn := 17) (q0 := mj_Mo_type) (q := mj_Mo_within) (L2 := [some (0, y), some (0, -1), some (0, 10)]) (rest := []) (v := some (0, 1)) (s1 := s) (ν1 := ν) rfl rfl rfl rfl rfl rfl rfl rfl (mo_in1 (by omega) (by omega) (by omega) (by omega)) ?_
  show sw_w E _ 87 (17, [some (2, 0), some (0, x), some (0, y), some (0, z), some (0, w), some (0, v), none], [(0, 1)]) s ν _
  refine sw_eq1 (pt := 46) (pn := 20) rfl rfl rfl (by omega) (fun h => absurd h (by decide)) (fun _ => ?_)
  refine sw_p 3 (f' := (24, [some (2, 0), some (0, x), some (0, y), some (0, z), some (0, w), some (0, v), none], [(0, 10), (0, -1), (0, z)])) rfl ?_
  refine sw_cs1 (pn := 27) (q0 := mj_Mo_type) (q := mj_Mo_within) (L2 := [some (0, z), some (0, -1), some (0, 10)]) (rest := []) (v := some (0, 0)) (s1 := s) (ν1 := ν) rfl rfl rfl rfl rfl rfl rfl rfl (mo_in0 (by omega) (by omega) (by omega) (by omega)) ?_
  show sw_w E _ 87 (27, [some (2, 0), some (0, x), some (0, y), some (0, z), some (0, w), some (0, v), none], [(0, 0)]) s ν _
  refine sw_eq1 (pt := 46) (pn := 30) rfl rfl rfl (by omega) (fun _ => ?_) (fun h => absurd h (by decide))
  refine sw_p 4 (f' := (52, [some (2, 0), some (0, x), some (0, y), some (0, z), some (0, w), some (0, v), some (0, 0)], [(0, 0), (2, 0)])) rfl ?_
  refine sw_ne1 (pt := 59) (pn := 55) rfl rfl rfl (by omega) (fun h => absurd h (by decide)) (fun _ => ?_)
  refine sw_p 2 (f' := (73, [some (2, 0), some (0, x), some (0, y), some (0, z), some (0, w), some (0, v), some (0, 0)], [(0, 1), (2, 0)])) rfl ?_
  refine sw_pI (pn := 76) (i := 0) rfl rfl rfl rfl rfl (by omega) hs.1 ?_
  refine sw_p 1 (f' := (77, [some (2, 0), some (0, x), some (0, y), some (0, z), some (0, w), some (0, v), some (0, 0)], [(2, 0)])) rfl ?_
  refine sw_gI (pn := 80) (i := 0) rfl rfl rfl rfl rfl (by omega) hs.1 ?_
  rw [show (mm_u ν 0 0 1) 0 0 = 1 from mm_u_at]
  refine sw_le1 (pt := 85) (pn := 83) rfl rfl rfl (by omega) (fun h => absurd h (by decide)) (fun _ => ?_)
  refine sw_p 1 (f' := (84, [some (2, 0), some (0, x), some (0, y), some (0, z), some (0, w), some (0, v), some (0, 0)], [(0, 0)])) rfl ?_
  exact sw_retI rfl rfl rfl ⟨rfl, rfl, rfl⟩
theorem mo_type_b4 (hs : mo_sh s) (hB : mo_B ν) (hx : -1 ≤ x ∧ x ≤ 10) (hy : -1 ≤ y ∧ y ≤ 10) (hz : -1 ≤ z ∧ z ≤ 10) (hw : -2147483648 ≤ w ∧ w < 2147483648) (h0 : ¬ (0 ≤ w ∧ w ≤ 1000)) : sw_w E (d + 1) 87 (0, [some (2, 0), some (0, x), some (0, y), some (0, z), some (0, w), some (0, v), none], []) s ν (sw_is (some (0, 0)) s (mo_cd ν 1)) := by
  have hn := hB.2.1
  refine sw_p 3 (f' := (4, [some (2, 0), some (0, x), some (0, y), some (0, z), some (0, w), some (0, v), none], [(0, 10), (0, -1), (0, x)])) rfl ?_
  refine sw_cs1 (pn := 7) (q0 := mj_Mo_type) (q := mj_Mo_within) (L2 := [some (0, x), some (0, -1), some (0, 10)]) (rest := []) (v := some (0, 1)) (s1 := s) (ν1 := ν) rfl rfl rfl rfl rfl rfl rfl rfl (mo_in1 (by omega) (by omega) (by omega) (by omega)) ?_
  show sw_w E _ 87 (7, [some (2, 0), some (0, x), some (0, y), some (0, z), some (0, w), some (0, v), none], [(0, 1)]) s ν _
  refine sw_eq1 (pt := 46) (pn := 10) rfl rfl rfl (by omega) (fun h => absurd h (by decide)) (fun _ => ?_)
  refine sw_p 3 (f' := (14, [some (2, 0), some (0, x), some (0, y), some (0, z), some (0, w), some (0, v), none], [(0, 10), (0, -1), (0, y)])) rfl ?_
  refine sw_cs1 (pn := 17) (q0 := mj_Mo_type) (q := mj_Mo_within) (L2 := [some (0, y), some (0, -1), some (0, 10)]) (rest := []) (v := some (0, 1)) (s1 := s) (ν1 := ν) rfl rfl rfl rfl rfl rfl rfl rfl (mo_in1 (by omega) (by omega) (by omega) (by omega)) ?_
  show sw_w E _ 87 (17, [some (2, 0), some (0, x), some (0, y), some (0, z), some (0, w), some (0, v), none], [(0, 1)]) s ν _
  refine sw_eq1 (pt := 46) (pn := 20) rfl rfl rfl (by omega) (fun h => absurd h (by decide)) (fun _ => ?_)
  refine sw_p 3 (f' := (24, [some (2, 0), some (0, x), some (0, y), some (0, z), some (0, w), some (0, v), none], [(0, 10), (0, -1), (0, z)])) rfl ?_
  refine sw_cs1 (pn := 27) (q0 := mj_Mo_type) (q := mj_Mo_within) (L2 := [some (0, z), some (0, -1), some (0, 10)]) (rest := []) (v := some (0, 1)) (s1 := s) (ν1 := ν) rfl rfl rfl rfl rfl rfl rfl rfl (mo_in1 (by omega) (by omega) (by omega) (by omega)) ?_
  show sw_w E _ 87 (27, [some (2, 0), some (0, x), some (0, y), some (0, z), some (0, w), some (0, v), none], [(0, 1)]) s ν _
  refine sw_eq1 (pt := 46) (pn := 30) rfl rfl rfl (by omega) (fun h => absurd h (by decide)) (fun _ => ?_)
  refine sw_p 3 (f' := (36, [some (2, 0), some (0, x), some (0, y), some (0, z), some (0, w), some (0, v), none], [(0, 1000), (0, 0), (0, w)])) rfl ?_
  refine sw_cs1 (pn := 39) (q0 := mj_Mo_type) (q := mj_Mo_within) (L2 := [some (0, w), some (0, 0), some (0, 1000)]) (rest := []) (v := some (0, 0)) (s1 := s) (ν1 := ν) rfl rfl rfl rfl rfl rfl rfl rfl (mo_in0 (by omega) (by omega) (by omega) (by omega)) ?_
  show sw_w E _ 87 (39, [some (2, 0), some (0, x), some (0, y), some (0, z), some (0, w), some (0, v), none], [(0, 0)]) s ν _
  refine sw_eq1 (pt := 46) (pn := 42) rfl rfl rfl (by omega) (fun _ => ?_) (fun h => absurd h (by decide))
  refine sw_p 4 (f' := (52, [some (2, 0), some (0, x), some (0, y), some (0, z), some (0, w), some (0, v), some (0, 0)], [(0, 0), (2, 0)])) rfl ?_
  refine sw_ne1 (pt := 59) (pn := 55) rfl rfl rfl (by omega) (fun h => absurd h (by decide)) (fun _ => ?_)
  refine sw_p 2 (f' := (73, [some (2, 0), some (0, x), some (0, y), some (0, z), some (0, w), some (0, v), some (0, 0)], [(0, 1), (2, 0)])) rfl ?_
  refine sw_pI (pn := 76) (i := 0) rfl rfl rfl rfl rfl (by omega) hs.1 ?_
  refine sw_p 1 (f' := (77, [some (2, 0), some (0, x), some (0, y), some (0, z), some (0, w), some (0, v), some (0, 0)], [(2, 0)])) rfl ?_
  refine sw_gI (pn := 80) (i := 0) rfl rfl rfl rfl rfl (by omega) hs.1 ?_
  rw [show (mm_u ν 0 0 1) 0 0 = 1 from mm_u_at]
  refine sw_le1 (pt := 85) (pn := 83) rfl rfl rfl (by omega) (fun h => absurd h (by decide)) (fun _ => ?_)
  refine sw_p 1 (f' := (84, [some (2, 0), some (0, x), some (0, y), some (0, z), some (0, w), some (0, v), some (0, 0)], [(0, 0)])) rfl ?_
  exact sw_retI rfl rfl rfl ⟨rfl, rfl, rfl⟩
theorem mo_plug_ok (hs : mo_sh s) (hB : mo_B ν) (hb : 0 ≤ b ∧ b < ν 0 1) (hx : 0 ≤ x ∧ x ≤ 3) (ht : 0 ≤ t ∧ t < ν 0 8) (h1 : ν 2 (4 * b + x) = -1) (h2 : ν 0 12 ≠ 40) (h4 : ν 0 21 < 0) : sw_w E (d + 1) 88 (0, [some (2, 0), some (0, b), some (0, x), some (0, t), none], []) s ν (sw_is (some (0, ν 0 12)) s (mo_pl ν b x t)) := by
  have hn := hB.1
  have hcm := hB.2.2.2.1
  have hcc := hB.2.2.1
  have hty := hB.2.1
  have hsl := hB.2.2.2.2.2.2.2.1 (4 * b + x)
  refine sw_p 3 (f' := (3, [some (2, 0), some (0, b), some (0, x), some (0, t), none], [(0, b), (2, 0), (2, 0)])) rfl ?_
  refine sw_cv1 (pn := 6) (q0 := mj_Mo_plug) (q := mj_Mo_isBridge) (p := 0) (as2 := [(0, b)]) (L2 := [some (2, 0), some (0, b)]) (rest := [(2, 0)]) (v := some (0, 1)) (s1 := s) (ν1 := ν) rfl rfl rfl rfl rfl rfl rfl rfl rfl hs.1 (mo_isB1 hs hB (by omega)) ?_
  show sw_w E _ 88 (6, [some (2, 0), some (0, b), some (0, x), some (0, t), none], [(0, 1), (2, 0)]) s ν _
  refine sw_eq1 (pt := 34) (pn := 9) rfl rfl rfl (by omega) (fun h => absurd h (by decide)) (fun _ => ?_)
  refine sw_p 3 (f' := (12, [some (2, 0), some (0, b), some (0, x), some (0, t), none], [(0, 3), (0, 0), (0, x), (2, 0)])) rfl ?_
  refine sw_cs1 (pn := 15) (q0 := mj_Mo_plug) (q := mj_Mo_within) (L2 := [some (0, x), some (0, 0), some (0, 3)]) (rest := [(2, 0)]) (v := some (0, 1)) (s1 := s) (ν1 := ν) rfl rfl rfl rfl rfl rfl rfl rfl (mo_in1 (by omega) (by omega) (by omega) (by omega)) ?_
  show sw_w E _ 88 (15, [some (2, 0), some (0, b), some (0, x), some (0, t), none], [(0, 1), (2, 0)]) s ν _
  refine sw_eq1 (pt := 34) (pn := 18) rfl rfl rfl (by omega) (fun h => absurd h (by decide)) (fun _ => ?_)
  refine sw_p 1 (f' := (19, [some (2, 0), some (0, b), some (0, x), some (0, t), none], [(0, t), (2, 0)])) rfl ?_
  refine sw_lt1 (pt := 34) (pn := 22) rfl rfl rfl (by omega) (fun h => absurd h (by omega)) (fun h3 => ?_)
  refine sw_p 2 (f' := (24, [some (2, 0), some (0, b), some (0, x), some (0, t), none], [(2, 0), (0, t), (2, 0)])) rfl ?_
  refine sw_gI (pn := 27) (i := 8) rfl rfl rfl rfl rfl (by omega) hs.1 ?_
  refine sw_ge2 (pt := 34) (pn := 30) rfl rfl rfl (by omega) (by omega) (fun h => absurd h (by omega)) (fun h4 => ?_)
  refine sw_p 2 (f' := (35, [some (2, 0), some (0, b), some (0, x), some (0, t), none], [(0, 0), (2, 0)])) rfl ?_
  refine sw_pI (pn := 38) (i := 0) rfl rfl rfl rfl rfl (by omega) hs.1 ?_
  refine sw_p 1 (f' := (39, [some (2, 0), some (0, b), some (0, x), some (0, t), none], [(2, 0)])) rfl ?_
  refine sw_gI (pn := 42) (i := 0) rfl rfl rfl rfl rfl (by omega) hs.1 ?_
  rw [show (mm_u ν 0 0 0) 0 0 = 0 from mm_u_at]
  refine sw_ne1 (pt := 80) (pn := 45) rfl rfl rfl (by omega) (fun h => absurd h (by decide)) (fun _ => ?_)
  refine sw_p 1 (f' := (46, [some (2, 0), some (0, b), some (0, x), some (0, t), none], [(2, 0)])) rfl ?_
  refine sw_hA (pn := 49) (i := 2) (v := 2) rfl rfl rfl rfl rfl hs.1 (mo_s2 hs).1 (by omega) ?_
  refine sw_p 5 (f' := (54, [some (2, 0), some (0, b), some (0, x), some (0, t), none], [(0, (4 * b) + x), (2, 2)])) rfl ?_
  refine sw_ial (pn := 55) (l := 32) rfl rfl (by omega) (mo_s2 hs).2.1 (mo_s2 hs).2.2 (by omega) (by omega) ?_
  rw [show (mm_u ν 0 0 0) 2 ((4 * b) + x) = ν 2 ((4 * b) + x) from mm_u_ne (by omega)]
  refine sw_p 1 (f' := (56, [some (2, 0), some (0, b), some (0, x), some (0, t), none], [(0, -1), (0, ν 2 ((4 * b) + x))])) rfl ?_
  refine sw_ne2 (pt := 75) (pn := 59) rfl rfl rfl (by omega) (by omega) (fun h => absurd h (by omega)) (fun h6 => ?_)
  refine sw_p 1 (f' := (60, [some (2, 0), some (0, b), some (0, x), some (0, t), none], [(2, 0)])) rfl ?_
  refine sw_gI (pn := 63) (i := 12) rfl rfl rfl rfl rfl (by omega) hs.1 ?_
  rw [show (mm_u ν 0 0 0) 0 12 = ν 0 12 from mm_u_ne (by omega)]
  refine sw_p 1 (f' := (65, [some (2, 0), some (0, b), some (0, x), some (0, t), none], [(0, 40), (0, ν 0 12)])) rfl ?_
  refine sw_eq2 (pt := 75) (pn := 68) rfl rfl rfl (by omega) (by omega) (fun h => absurd h (by omega)) (fun h7 => ?_)
  refine sw_p 1 (f' := (69, [some (2, 0), some (0, b), some (0, x), some (0, t), none], [(2, 0)])) rfl ?_
  refine sw_gI (pn := 72) (i := 21) rfl rfl rfl rfl rfl (by omega) hs.1 ?_
  rw [show (mm_u ν 0 0 0) 0 21 = ν 0 21 from mm_u_ne (by omega)]
  refine sw_lt1 (pt := 80) (pn := 75) rfl rfl rfl (by omega) (fun h8 => ?_) (fun h => absurd h (by omega))
  refine sw_p 1 (f' := (81, [some (2, 0), some (0, b), some (0, x), some (0, t), none], [(2, 0)])) rfl ?_
  refine sw_gI (pn := 84) (i := 0) rfl rfl rfl rfl rfl (by omega) hs.1 ?_
  rw [show (mm_u ν 0 0 0) 0 0 = 0 from mm_u_at]
  refine sw_le1 (pt := 89) (pn := 87) rfl rfl rfl (by omega) (fun _ => ?_) (fun h => absurd h (by decide))
  refine sw_p 1 (f' := (90, [some (2, 0), some (0, b), some (0, x), some (0, t), none], [(2, 0)])) rfl ?_
  refine sw_hA (pn := 93) (i := 2) (v := 2) rfl rfl rfl rfl rfl hs.1 (mo_s2 hs).1 (by omega) ?_
  refine sw_p 7 (f' := (101, [some (2, 0), some (0, b), some (0, x), some (0, t), none], [(2, 0), (0, 100), (0, (4 * b) + x), (2, 2)])) rfl ?_
  refine sw_gI (pn := 104) (i := 12) rfl rfl rfl rfl rfl (by omega) hs.1 ?_
  rw [show (mm_u ν 0 0 0) 0 12 = ν 0 12 from mm_u_ne (by omega)]
  refine sw_p 1 (f' := (105, [some (2, 0), some (0, b), some (0, x), some (0, t), none], [(0, 100 + (ν 0 12)), (0, (4 * b) + x), (2, 2)])) rfl ?_
  refine sw_ias (pn := 106) (l := 32) rfl rfl (by omega) (mo_s2 hs).2.1 (mo_s2 hs).2.2 (by omega) (by omega) ?_
  refine sw_p 1 (f' := (107, [some (2, 0), some (0, b), some (0, x), some (0, t), none], [(2, 0)])) rfl ?_
  refine sw_hA (pn := 110) (i := 13) (v := 13) rfl rfl rfl rfl rfl hs.1 (mo_s13 hs).1 (by omega) ?_
  refine sw_p 1 (f' := (111, [some (2, 0), some (0, b), some (0, x), some (0, t), none], [(2, 0), (2, 13)])) rfl ?_
  refine sw_gI (pn := 114) (i := 12) rfl rfl rfl rfl rfl (by omega) hs.1 ?_
  rw [show (mm_u (mm_u ν 0 0 0) 2 ((4 * b) + x) (100 + (ν 0 12))) 0 12 = ν 0 12 from (mm_u_ne (by omega)).trans (mm_u_ne (by omega))]
  refine sw_p 1 (f' := (115, [some (2, 0), some (0, b), some (0, x), some (0, t), none], [(0, t), (0, ν 0 12), (2, 13)])) rfl ?_
  refine sw_ias (pn := 116) (l := 40) rfl rfl (by omega) (mo_s13 hs).2.1 (mo_s13 hs).2.2 (by omega) (by omega) ?_
  refine sw_p 1 (f' := (117, [some (2, 0), some (0, b), some (0, x), some (0, t), none], [(2, 0)])) rfl ?_
  refine sw_hA (pn := 120) (i := 14) (v := 14) rfl rfl rfl rfl rfl hs.1 (mo_s14 hs).1 (by omega) ?_
  refine sw_p 1 (f' := (121, [some (2, 0), some (0, b), some (0, x), some (0, t), none], [(2, 0), (2, 14)])) rfl ?_
  refine sw_gI (pn := 124) (i := 12) rfl rfl rfl rfl rfl (by omega) hs.1 ?_
  rw [show (mm_u (mm_u (mm_u ν 0 0 0) 2 ((4 * b) + x) (100 + (ν 0 12))) 13 (ν 0 12) t) 0 12 = ν 0 12 from (mm_u_ne (by omega)).trans ((mm_u_ne (by omega)).trans (mm_u_ne (by omega)))]
  refine sw_p 1 (f' := (125, [some (2, 0), some (0, b), some (0, x), some (0, t), none], [(0, b), (0, ν 0 12), (2, 14)])) rfl ?_
  refine sw_ias (pn := 126) (l := 40) rfl rfl (by omega) (mo_s14 hs).2.1 (mo_s14 hs).2.2 (by omega) (by omega) ?_
  refine sw_p 1 (f' := (127, [some (2, 0), some (0, b), some (0, x), some (0, t), none], [(2, 0)])) rfl ?_
  refine sw_hA (pn := 130) (i := 15) (v := 15) rfl rfl rfl rfl rfl hs.1 (mo_s15 hs).1 (by omega) ?_
  refine sw_p 1 (f' := (131, [some (2, 0), some (0, b), some (0, x), some (0, t), none], [(2, 0), (2, 15)])) rfl ?_
  refine sw_gI (pn := 134) (i := 12) rfl rfl rfl rfl rfl (by omega) hs.1 ?_
  rw [show (mm_u (mm_u (mm_u (mm_u ν 0 0 0) 2 ((4 * b) + x) (100 + (ν 0 12))) 13 (ν 0 12) t) 14 (ν 0 12) b) 0 12 = ν 0 12 from (mm_u_ne (by omega)).trans ((mm_u_ne (by omega)).trans ((mm_u_ne (by omega)).trans (mm_u_ne (by omega))))]
  refine sw_p 1 (f' := (135, [some (2, 0), some (0, b), some (0, x), some (0, t), none], [(0, 0), (0, ν 0 12), (2, 15)])) rfl ?_
  refine sw_ias (pn := 136) (l := 40) rfl rfl (by omega) (mo_s15 hs).2.1 (mo_s15 hs).2.2 (by omega) (by omega) ?_
  refine sw_p 4 (f' := (142, [some (2, 0), some (0, b), some (0, x), some (0, t), some (0, 0)], [(0, 3), (0, 0)])) rfl ?_
  refine sw_ge2 (pt := 166) (pn := 145) rfl rfl rfl (by omega) (by omega) (fun h => absurd h (by decide)) (fun _ => ?_)
  refine sw_p 1 (f' := (146, [some (2, 0), some (0, b), some (0, x), some (0, t), some (0, 0)], [(2, 0)])) rfl ?_
  refine sw_hA (pn := 149) (i := 17) (v := 17) rfl rfl rfl rfl rfl hs.1 (mo_s17 hs).1 (by omega) ?_
  refine sw_p 2 (f' := (151, [some (2, 0), some (0, b), some (0, x), some (0, t), some (0, 0)], [(2, 0), (0, 3), (2, 17)])) rfl ?_
  refine sw_gI (pn := 154) (i := 12) rfl rfl rfl rfl rfl (by omega) hs.1 ?_
  rw [show (mm_u (mm_u (mm_u (mm_u (mm_u ν 0 0 0) 2 ((4 * b) + x) (100 + (ν 0 12))) 13 (ν 0 12) t) 14 (ν 0 12) b) 15 (ν 0 12) 0) 0 12 = ν 0 12 from (mm_u_ne (by omega)).trans ((mm_u_ne (by omega)).trans ((mm_u_ne (by omega)).trans ((mm_u_ne (by omega)).trans (mm_u_ne (by omega)))))]
  refine sw_p 4 (f' := (159, [some (2, 0), some (0, b), some (0, x), some (0, t), some (0, 0)], [(0, -1), (0, (3 * (ν 0 12)) + 0), (2, 17)])) rfl ?_
  refine sw_ias (pn := 160) (l := 120) rfl rfl (by omega) (mo_s17 hs).2.1 (mo_s17 hs).2.2 (by omega) (by omega) ?_
  refine sw_p 4 (f' := (142, [some (2, 0), some (0, b), some (0, x), some (0, t), some (0, 1)], [(0, 3), (0, 1)])) rfl ?_
  refine sw_ge2 (pt := 166) (pn := 145) rfl rfl rfl (by omega) (by omega) (fun h => absurd h (by decide)) (fun _ => ?_)
  refine sw_p 1 (f' := (146, [some (2, 0), some (0, b), some (0, x), some (0, t), some (0, 1)], [(2, 0)])) rfl ?_
  refine sw_hA (pn := 149) (i := 17) (v := 17) rfl rfl rfl rfl rfl hs.1 (mo_s17 hs).1 (by omega) ?_
  refine sw_p 2 (f' := (151, [some (2, 0), some (0, b), some (0, x), some (0, t), some (0, 1)], [(2, 0), (0, 3), (2, 17)])) rfl ?_
  refine sw_gI (pn := 154) (i := 12) rfl rfl rfl rfl rfl (by omega) hs.1 ?_
  rw [show (mm_u (mm_u (mm_u (mm_u (mm_u (mm_u ν 0 0 0) 2 ((4 * b) + x) (100 + (ν 0 12))) 13 (ν 0 12) t) 14 (ν 0 12) b) 15 (ν 0 12) 0) 17 ((3 * (ν 0 12)) + 0) (-1)) 0 12 = ν 0 12 from (mm_u_ne (by omega)).trans ((mm_u_ne (by omega)).trans ((mm_u_ne (by omega)).trans ((mm_u_ne (by omega)).trans ((mm_u_ne (by omega)).trans (mm_u_ne (by omega))))))]
  refine sw_p 4 (f' := (159, [some (2, 0), some (0, b), some (0, x), some (0, t), some (0, 1)], [(0, -1), (0, (3 * (ν 0 12)) + 1), (2, 17)])) rfl ?_
  refine sw_ias (pn := 160) (l := 120) rfl rfl (by omega) (mo_s17 hs).2.1 (mo_s17 hs).2.2 (by omega) (by omega) ?_
  refine sw_p 4 (f' := (142, [some (2, 0), some (0, b), some (0, x), some (0, t), some (0, 2)], [(0, 3), (0, 2)])) rfl ?_
  refine sw_ge2 (pt := 166) (pn := 145) rfl rfl rfl (by omega) (by omega) (fun h => absurd h (by decide)) (fun _ => ?_)
  refine sw_p 1 (f' := (146, [some (2, 0), some (0, b), some (0, x), some (0, t), some (0, 2)], [(2, 0)])) rfl ?_
  refine sw_hA (pn := 149) (i := 17) (v := 17) rfl rfl rfl rfl rfl hs.1 (mo_s17 hs).1 (by omega) ?_
  refine sw_p 2 (f' := (151, [some (2, 0), some (0, b), some (0, x), some (0, t), some (0, 2)], [(2, 0), (0, 3), (2, 17)])) rfl ?_
  refine sw_gI (pn := 154) (i := 12) rfl rfl rfl rfl rfl (by omega) hs.1 ?_
  rw [show (mm_u (mm_u (mm_u (mm_u (mm_u (mm_u (mm_u ν 0 0 0) 2 ((4 * b) + x) (100 + (ν 0 12))) 13 (ν 0 12) t) 14 (ν 0 12) b) 15 (ν 0 12) 0) 17 ((3 * (ν 0 12)) + 0) (-1)) 17 ((3 * (ν 0 12)) + 1) (-1)) 0 12 = ν 0 12 from (mm_u_ne (by omega)).trans ((mm_u_ne (by omega)).trans ((mm_u_ne (by omega)).trans ((mm_u_ne (by omega)).trans ((mm_u_ne (by omega)).trans ((mm_u_ne (by omega)).trans (mm_u_ne (by omega)))))))]
  refine sw_p 4 (f' := (159, [some (2, 0), some (0, b), some (0, x), some (0, t), some (0, 2)], [(0, -1), (0, (3 * (ν 0 12)) + 2), (2, 17)])) rfl ?_
  refine sw_ias (pn := 160) (l := 120) rfl rfl (by omega) (mo_s17 hs).2.1 (mo_s17 hs).2.2 (by omega) (by omega) ?_
  refine sw_p 4 (f' := (142, [some (2, 0), some (0, b), some (0, x), some (0, t), some (0, 3)], [(0, 3), (0, 3)])) rfl ?_
  refine sw_ge2 (pt := 166) (pn := 145) rfl rfl rfl (by omega) (by omega) (fun _ => ?_) (fun h => absurd h (by decide))
  refine sw_p 2 (f' := (168, [some (2, 0), some (0, b), some (0, x), some (0, t), some (0, 3)], [(2, 0), (2, 0)])) rfl ?_
  refine sw_gI (pn := 171) (i := 12) rfl rfl rfl rfl rfl (by omega) hs.1 ?_
  rw [show (mm_u (mm_u (mm_u (mm_u (mm_u (mm_u (mm_u (mm_u ν 0 0 0) 2 ((4 * b) + x) (100 + (ν 0 12))) 13 (ν 0 12) t) 14 (ν 0 12) b) 15 (ν 0 12) 0) 17 ((3 * (ν 0 12)) + 0) (-1)) 17 ((3 * (ν 0 12)) + 1) (-1)) 17 ((3 * (ν 0 12)) + 2) (-1)) 0 12 = ν 0 12 from (mm_u_ne (by omega)).trans ((mm_u_ne (by omega)).trans ((mm_u_ne (by omega)).trans ((mm_u_ne (by omega)).trans ((mm_u_ne (by omega)).trans ((mm_u_ne (by omega)).trans ((mm_u_ne (by omega)).trans (mm_u_ne (by omega))))))))]
  refine sw_pI (pn := 174) (i := 21) rfl rfl rfl rfl rfl (by omega) hs.1 ?_
  refine sw_p 2 (f' := (176, [some (2, 0), some (0, b), some (0, x), some (0, t), some (0, 3)], [(0, 0), (2, 0)])) rfl ?_
  refine sw_pZ (pn := 179) (i := 22) rfl rfl rfl rfl rfl (by omega) hs.1 (by omega) ?_
  refine sw_p 2 (f' := (181, [some (2, 0), some (0, b), some (0, x), some (0, t), some (0, 3)], [(2, 0), (2, 0)])) rfl ?_
  refine sw_gI (pn := 184) (i := 12) rfl rfl rfl rfl rfl (by omega) hs.1 ?_
  rw [show (mm_u (mm_u (mm_u (mm_u (mm_u (mm_u (mm_u (mm_u (mm_u (mm_u ν 0 0 0) 2 ((4 * b) + x) (100 + (ν 0 12))) 13 (ν 0 12) t) 14 (ν 0 12) b) 15 (ν 0 12) 0) 17 ((3 * (ν 0 12)) + 0) (-1)) 17 ((3 * (ν 0 12)) + 1) (-1)) 17 ((3 * (ν 0 12)) + 2) (-1)) 0 21 (ν 0 12)) 0 22 0) 0 12 = ν 0 12 from (mm_u_ne (by omega)).trans ((mm_u_ne (by omega)).trans ((mm_u_ne (by omega)).trans ((mm_u_ne (by omega)).trans ((mm_u_ne (by omega)).trans ((mm_u_ne (by omega)).trans ((mm_u_ne (by omega)).trans ((mm_u_ne (by omega)).trans ((mm_u_ne (by omega)).trans (mm_u_ne (by omega))))))))))]
  refine sw_p 2 (f' := (186, [some (2, 0), some (0, b), some (0, x), some (0, t), some (0, 3)], [(0, (ν 0 12) + 1), (2, 0)])) rfl ?_
  refine sw_pI (pn := 189) (i := 12) rfl rfl rfl rfl rfl (by omega) hs.1 ?_
  refine sw_p 1 (f' := (190, [some (2, 0), some (0, b), some (0, x), some (0, t), some (0, 3)], [(2, 0)])) rfl ?_
  refine sw_gI (pn := 193) (i := 21) rfl rfl rfl rfl rfl (by omega) hs.1 ?_
  rw [show (mm_u (mm_u (mm_u (mm_u (mm_u (mm_u (mm_u (mm_u (mm_u (mm_u (mm_u ν 0 0 0) 2 ((4 * b) + x) (100 + (ν 0 12))) 13 (ν 0 12) t) 14 (ν 0 12) b) 15 (ν 0 12) 0) 17 ((3 * (ν 0 12)) + 0) (-1)) 17 ((3 * (ν 0 12)) + 1) (-1)) 17 ((3 * (ν 0 12)) + 2) (-1)) 0 21 (ν 0 12)) 0 22 0) 0 12 ((ν 0 12) + 1)) 0 21 = ν 0 12 from (mm_u_ne (by omega)).trans ((mm_u_ne (by omega)).trans (mm_u_at))]
  exact sw_retI rfl rfl rfl ⟨rfl, rfl, rfl⟩
theorem mo_plug_s1 (hs : mo_sh s) (hB : mo_B ν) (hb : 0 ≤ b ∧ b < ν 0 1) (hx : 0 ≤ x ∧ x ≤ 3) (ht : 0 ≤ t ∧ t < ν 0 8) (h1 : ν 2 (4 * b + x) ≠ -1) : sw_w E (d + 1) 88 (0, [some (2, 0), some (0, b), some (0, x), some (0, t), none], []) s ν (sw_is (some (0, 0)) s (mm_u (mo_cd ν 0) 0 0 2)) := by
  have hn := hB.1
  have hcm := hB.2.2.2.1
  have hcc := hB.2.2.1
  have hty := hB.2.1
  have hsl := hB.2.2.2.2.2.2.2.1 (4 * b + x)
  refine sw_p 3 (f' := (3, [some (2, 0), some (0, b), some (0, x), some (0, t), none], [(0, b), (2, 0), (2, 0)])) rfl ?_
  refine sw_cv1 (pn := 6) (q0 := mj_Mo_plug) (q := mj_Mo_isBridge) (p := 0) (as2 := [(0, b)]) (L2 := [some (2, 0), some (0, b)]) (rest := [(2, 0)]) (v := some (0, 1)) (s1 := s) (ν1 := ν) rfl rfl rfl rfl rfl rfl rfl rfl rfl hs.1 (mo_isB1 hs hB (by omega)) ?_
  show sw_w E _ 88 (6, [some (2, 0), some (0, b), some (0, x), some (0, t), none], [(0, 1), (2, 0)]) s ν _
  refine sw_eq1 (pt := 34) (pn := 9) rfl rfl rfl (by omega) (fun h => absurd h (by decide)) (fun _ => ?_)
  refine sw_p 3 (f' := (12, [some (2, 0), some (0, b), some (0, x), some (0, t), none], [(0, 3), (0, 0), (0, x), (2, 0)])) rfl ?_
  refine sw_cs1 (pn := 15) (q0 := mj_Mo_plug) (q := mj_Mo_within) (L2 := [some (0, x), some (0, 0), some (0, 3)]) (rest := [(2, 0)]) (v := some (0, 1)) (s1 := s) (ν1 := ν) rfl rfl rfl rfl rfl rfl rfl rfl (mo_in1 (by omega) (by omega) (by omega) (by omega)) ?_
  show sw_w E _ 88 (15, [some (2, 0), some (0, b), some (0, x), some (0, t), none], [(0, 1), (2, 0)]) s ν _
  refine sw_eq1 (pt := 34) (pn := 18) rfl rfl rfl (by omega) (fun h => absurd h (by decide)) (fun _ => ?_)
  refine sw_p 1 (f' := (19, [some (2, 0), some (0, b), some (0, x), some (0, t), none], [(0, t), (2, 0)])) rfl ?_
  refine sw_lt1 (pt := 34) (pn := 22) rfl rfl rfl (by omega) (fun h => absurd h (by omega)) (fun h3 => ?_)
  refine sw_p 2 (f' := (24, [some (2, 0), some (0, b), some (0, x), some (0, t), none], [(2, 0), (0, t), (2, 0)])) rfl ?_
  refine sw_gI (pn := 27) (i := 8) rfl rfl rfl rfl rfl (by omega) hs.1 ?_
  refine sw_ge2 (pt := 34) (pn := 30) rfl rfl rfl (by omega) (by omega) (fun h => absurd h (by omega)) (fun h4 => ?_)
  refine sw_p 2 (f' := (35, [some (2, 0), some (0, b), some (0, x), some (0, t), none], [(0, 0), (2, 0)])) rfl ?_
  refine sw_pI (pn := 38) (i := 0) rfl rfl rfl rfl rfl (by omega) hs.1 ?_
  refine sw_p 1 (f' := (39, [some (2, 0), some (0, b), some (0, x), some (0, t), none], [(2, 0)])) rfl ?_
  refine sw_gI (pn := 42) (i := 0) rfl rfl rfl rfl rfl (by omega) hs.1 ?_
  rw [show (mm_u ν 0 0 0) 0 0 = 0 from mm_u_at]
  refine sw_ne1 (pt := 80) (pn := 45) rfl rfl rfl (by omega) (fun h => absurd h (by decide)) (fun _ => ?_)
  refine sw_p 1 (f' := (46, [some (2, 0), some (0, b), some (0, x), some (0, t), none], [(2, 0)])) rfl ?_
  refine sw_hA (pn := 49) (i := 2) (v := 2) rfl rfl rfl rfl rfl hs.1 (mo_s2 hs).1 (by omega) ?_
  refine sw_p 5 (f' := (54, [some (2, 0), some (0, b), some (0, x), some (0, t), none], [(0, (4 * b) + x), (2, 2)])) rfl ?_
  refine sw_ial (pn := 55) (l := 32) rfl rfl (by omega) (mo_s2 hs).2.1 (mo_s2 hs).2.2 (by omega) (by omega) ?_
  rw [show (mm_u ν 0 0 0) 2 ((4 * b) + x) = ν 2 ((4 * b) + x) from mm_u_ne (by omega)]
  refine sw_p 1 (f' := (56, [some (2, 0), some (0, b), some (0, x), some (0, t), none], [(0, -1), (0, ν 2 ((4 * b) + x))])) rfl ?_
  refine sw_ne2 (pt := 75) (pn := 59) rfl rfl rfl (by omega) (by omega) (fun h6 => ?_) (fun h => absurd h (by omega))
  refine sw_p 2 (f' := (77, [some (2, 0), some (0, b), some (0, x), some (0, t), none], [(0, 2), (2, 0)])) rfl ?_
  refine sw_pI (pn := 80) (i := 0) rfl rfl rfl rfl rfl (by omega) hs.1 ?_
  refine sw_p 1 (f' := (81, [some (2, 0), some (0, b), some (0, x), some (0, t), none], [(2, 0)])) rfl ?_
  refine sw_gI (pn := 84) (i := 0) rfl rfl rfl rfl rfl (by omega) hs.1 ?_
  rw [show (mm_u (mm_u ν 0 0 0) 0 0 2) 0 0 = 2 from mm_u_at]
  refine sw_le1 (pt := 89) (pn := 87) rfl rfl rfl (by omega) (fun h => absurd h (by decide)) (fun _ => ?_)
  refine sw_p 1 (f' := (88, [some (2, 0), some (0, b), some (0, x), some (0, t), none], [(0, 0)])) rfl ?_
  exact sw_retI rfl rfl rfl ⟨rfl, rfl, rfl⟩
theorem mo_plug_s2 (hs : mo_sh s) (hB : mo_B ν) (hb : 0 ≤ b ∧ b < ν 0 1) (hx : 0 ≤ x ∧ x ≤ 3) (ht : 0 ≤ t ∧ t < ν 0 8) (h1 : ν 2 (4 * b + x) = -1) (h2 : ν 0 12 = 40) : sw_w E (d + 1) 88 (0, [some (2, 0), some (0, b), some (0, x), some (0, t), none], []) s ν (sw_is (some (0, 0)) s (mm_u (mo_cd ν 0) 0 0 2)) := by
  have hn := hB.1
  have hcm := hB.2.2.2.1
  have hcc := hB.2.2.1
  have hty := hB.2.1
  have hsl := hB.2.2.2.2.2.2.2.1 (4 * b + x)
  refine sw_p 3 (f' := (3, [some (2, 0), some (0, b), some (0, x), some (0, t), none], [(0, b), (2, 0), (2, 0)])) rfl ?_
  refine sw_cv1 (pn := 6) (q0 := mj_Mo_plug) (q := mj_Mo_isBridge) (p := 0) (as2 := [(0, b)]) (L2 := [some (2, 0), some (0, b)]) (rest := [(2, 0)]) (v := some (0, 1)) (s1 := s) (ν1 := ν) rfl rfl rfl rfl rfl rfl rfl rfl rfl hs.1 (mo_isB1 hs hB (by omega)) ?_
  show sw_w E _ 88 (6, [some (2, 0), some (0, b), some (0, x), some (0, t), none], [(0, 1), (2, 0)]) s ν _
  refine sw_eq1 (pt := 34) (pn := 9) rfl rfl rfl (by omega) (fun h => absurd h (by decide)) (fun _ => ?_)
  refine sw_p 3 (f' := (12, [some (2, 0), some (0, b), some (0, x), some (0, t), none], [(0, 3), (0, 0), (0, x), (2, 0)])) rfl ?_
  refine sw_cs1 (pn := 15) (q0 := mj_Mo_plug) (q := mj_Mo_within) (L2 := [some (0, x), some (0, 0), some (0, 3)]) (rest := [(2, 0)]) (v := some (0, 1)) (s1 := s) (ν1 := ν) rfl rfl rfl rfl rfl rfl rfl rfl (mo_in1 (by omega) (by omega) (by omega) (by omega)) ?_
  show sw_w E _ 88 (15, [some (2, 0), some (0, b), some (0, x), some (0, t), none], [(0, 1), (2, 0)]) s ν _
  refine sw_eq1 (pt := 34) (pn := 18) rfl rfl rfl (by omega) (fun h => absurd h (by decide)) (fun _ => ?_)
  refine sw_p 1 (f' := (19, [some (2, 0), some (0, b), some (0, x), some (0, t), none], [(0, t), (2, 0)])) rfl ?_
  refine sw_lt1 (pt := 34) (pn := 22) rfl rfl rfl (by omega) (fun h => absurd h (by omega)) (fun h3 => ?_)
  refine sw_p 2 (f' := (24, [some (2, 0), some (0, b), some (0, x), some (0, t), none], [(2, 0), (0, t), (2, 0)])) rfl ?_
  refine sw_gI (pn := 27) (i := 8) rfl rfl rfl rfl rfl (by omega) hs.1 ?_
  refine sw_ge2 (pt := 34) (pn := 30) rfl rfl rfl (by omega) (by omega) (fun h => absurd h (by omega)) (fun h4 => ?_)
  refine sw_p 2 (f' := (35, [some (2, 0), some (0, b), some (0, x), some (0, t), none], [(0, 0), (2, 0)])) rfl ?_
  refine sw_pI (pn := 38) (i := 0) rfl rfl rfl rfl rfl (by omega) hs.1 ?_
  refine sw_p 1 (f' := (39, [some (2, 0), some (0, b), some (0, x), some (0, t), none], [(2, 0)])) rfl ?_
  refine sw_gI (pn := 42) (i := 0) rfl rfl rfl rfl rfl (by omega) hs.1 ?_
  rw [show (mm_u ν 0 0 0) 0 0 = 0 from mm_u_at]
  refine sw_ne1 (pt := 80) (pn := 45) rfl rfl rfl (by omega) (fun h => absurd h (by decide)) (fun _ => ?_)
  refine sw_p 1 (f' := (46, [some (2, 0), some (0, b), some (0, x), some (0, t), none], [(2, 0)])) rfl ?_
  refine sw_hA (pn := 49) (i := 2) (v := 2) rfl rfl rfl rfl rfl hs.1 (mo_s2 hs).1 (by omega) ?_
  refine sw_p 5 (f' := (54, [some (2, 0), some (0, b), some (0, x), some (0, t), none], [(0, (4 * b) + x), (2, 2)])) rfl ?_
  refine sw_ial (pn := 55) (l := 32) rfl rfl (by omega) (mo_s2 hs).2.1 (mo_s2 hs).2.2 (by omega) (by omega) ?_
  rw [show (mm_u ν 0 0 0) 2 ((4 * b) + x) = ν 2 ((4 * b) + x) from mm_u_ne (by omega)]
  refine sw_p 1 (f' := (56, [some (2, 0), some (0, b), some (0, x), some (0, t), none], [(0, -1), (0, ν 2 ((4 * b) + x))])) rfl ?_
  refine sw_ne2 (pt := 75) (pn := 59) rfl rfl rfl (by omega) (by omega) (fun h => absurd h (by omega)) (fun h6 => ?_)
  refine sw_p 1 (f' := (60, [some (2, 0), some (0, b), some (0, x), some (0, t), none], [(2, 0)])) rfl ?_
  refine sw_gI (pn := 63) (i := 12) rfl rfl rfl rfl rfl (by omega) hs.1 ?_
  rw [show (mm_u ν 0 0 0) 0 12 = ν 0 12 from mm_u_ne (by omega)]
  refine sw_p 1 (f' := (65, [some (2, 0), some (0, b), some (0, x), some (0, t), none], [(0, 40), (0, ν 0 12)])) rfl ?_
  refine sw_eq2 (pt := 75) (pn := 68) rfl rfl rfl (by omega) (by omega) (fun h7 => ?_) (fun h => absurd h (by omega))
  refine sw_p 2 (f' := (77, [some (2, 0), some (0, b), some (0, x), some (0, t), none], [(0, 2), (2, 0)])) rfl ?_
  refine sw_pI (pn := 80) (i := 0) rfl rfl rfl rfl rfl (by omega) hs.1 ?_
  refine sw_p 1 (f' := (81, [some (2, 0), some (0, b), some (0, x), some (0, t), none], [(2, 0)])) rfl ?_
  refine sw_gI (pn := 84) (i := 0) rfl rfl rfl rfl rfl (by omega) hs.1 ?_
  rw [show (mm_u (mm_u ν 0 0 0) 0 0 2) 0 0 = 2 from mm_u_at]
  refine sw_le1 (pt := 89) (pn := 87) rfl rfl rfl (by omega) (fun h => absurd h (by decide)) (fun _ => ?_)
  refine sw_p 1 (f' := (88, [some (2, 0), some (0, b), some (0, x), some (0, t), none], [(0, 0)])) rfl ?_
  exact sw_retI rfl rfl rfl ⟨rfl, rfl, rfl⟩
theorem mo_plug_s3 (hs : mo_sh s) (hB : mo_B ν) (hb : 0 ≤ b ∧ b < ν 0 1) (hx : 0 ≤ x ∧ x ≤ 3) (ht : 0 ≤ t ∧ t < ν 0 8) (h1 : ν 2 (4 * b + x) = -1) (h2 : ν 0 12 ≠ 40) (h4 : 0 ≤ ν 0 21) : sw_w E (d + 1) 88 (0, [some (2, 0), some (0, b), some (0, x), some (0, t), none], []) s ν (sw_is (some (0, 0)) s (mm_u (mo_cd ν 0) 0 0 2)) := by
  have hn := hB.1
  have hcm := hB.2.2.2.1
  have hcc := hB.2.2.1
  have hty := hB.2.1
  have hsl := hB.2.2.2.2.2.2.2.1 (4 * b + x)
  refine sw_p 3 (f' := (3, [some (2, 0), some (0, b), some (0, x), some (0, t), none], [(0, b), (2, 0), (2, 0)])) rfl ?_
  refine sw_cv1 (pn := 6) (q0 := mj_Mo_plug) (q := mj_Mo_isBridge) (p := 0) (as2 := [(0, b)]) (L2 := [some (2, 0), some (0, b)]) (rest := [(2, 0)]) (v := some (0, 1)) (s1 := s) (ν1 := ν) rfl rfl rfl rfl rfl rfl rfl rfl rfl hs.1 (mo_isB1 hs hB (by omega)) ?_
  show sw_w E _ 88 (6, [some (2, 0), some (0, b), some (0, x), some (0, t), none], [(0, 1), (2, 0)]) s ν _
  refine sw_eq1 (pt := 34) (pn := 9) rfl rfl rfl (by omega) (fun h => absurd h (by decide)) (fun _ => ?_)
  refine sw_p 3 (f' := (12, [some (2, 0), some (0, b), some (0, x), some (0, t), none], [(0, 3), (0, 0), (0, x), (2, 0)])) rfl ?_
  refine sw_cs1 (pn := 15) (q0 := mj_Mo_plug) (q := mj_Mo_within) (L2 := [some (0, x), some (0, 0), some (0, 3)]) (rest := [(2, 0)]) (v := some (0, 1)) (s1 := s) (ν1 := ν) rfl rfl rfl rfl rfl rfl rfl rfl (mo_in1 (by omega) (by omega) (by omega) (by omega)) ?_
  show sw_w E _ 88 (15, [some (2, 0), some (0, b), some (0, x), some (0, t), none], [(0, 1), (2, 0)]) s ν _
  refine sw_eq1 (pt := 34) (pn := 18) rfl rfl rfl (by omega) (fun h => absurd h (by decide)) (fun _ => ?_)
  refine sw_p 1 (f' := (19, [some (2, 0), some (0, b), some (0, x), some (0, t), none], [(0, t), (2, 0)])) rfl ?_
  refine sw_lt1 (pt := 34) (pn := 22) rfl rfl rfl (by omega) (fun h => absurd h (by omega)) (fun h3 => ?_)
  refine sw_p 2 (f' := (24, [some (2, 0), some (0, b), some (0, x), some (0, t), none], [(2, 0), (0, t), (2, 0)])) rfl ?_
  refine sw_gI (pn := 27) (i := 8) rfl rfl rfl rfl rfl (by omega) hs.1 ?_
  refine sw_ge2 (pt := 34) (pn := 30) rfl rfl rfl (by omega) (by omega) (fun h => absurd h (by omega)) (fun h4 => ?_)
  refine sw_p 2 (f' := (35, [some (2, 0), some (0, b), some (0, x), some (0, t), none], [(0, 0), (2, 0)])) rfl ?_
  refine sw_pI (pn := 38) (i := 0) rfl rfl rfl rfl rfl (by omega) hs.1 ?_
  refine sw_p 1 (f' := (39, [some (2, 0), some (0, b), some (0, x), some (0, t), none], [(2, 0)])) rfl ?_
  refine sw_gI (pn := 42) (i := 0) rfl rfl rfl rfl rfl (by omega) hs.1 ?_
  rw [show (mm_u ν 0 0 0) 0 0 = 0 from mm_u_at]
  refine sw_ne1 (pt := 80) (pn := 45) rfl rfl rfl (by omega) (fun h => absurd h (by decide)) (fun _ => ?_)
  refine sw_p 1 (f' := (46, [some (2, 0), some (0, b), some (0, x), some (0, t), none], [(2, 0)])) rfl ?_
  refine sw_hA (pn := 49) (i := 2) (v := 2) rfl rfl rfl rfl rfl hs.1 (mo_s2 hs).1 (by omega) ?_
  refine sw_p 5 (f' := (54, [some (2, 0), some (0, b), some (0, x), some (0, t), none], [(0, (4 * b) + x), (2, 2)])) rfl ?_
  refine sw_ial (pn := 55) (l := 32) rfl rfl (by omega) (mo_s2 hs).2.1 (mo_s2 hs).2.2 (by omega) (by omega) ?_
  rw [show (mm_u ν 0 0 0) 2 ((4 * b) + x) = ν 2 ((4 * b) + x) from mm_u_ne (by omega)]
  refine sw_p 1 (f' := (56, [some (2, 0), some (0, b), some (0, x), some (0, t), none], [(0, -1), (0, ν 2 ((4 * b) + x))])) rfl ?_
  refine sw_ne2 (pt := 75) (pn := 59) rfl rfl rfl (by omega) (by omega) (fun h => absurd h (by omega)) (fun h6 => ?_)
  refine sw_p 1 (f' := (60, [some (2, 0), some (0, b), some (0, x), some (0, t), none], [(2, 0)])) rfl ?_
  refine sw_gI (pn := 63) (i := 12) rfl rfl rfl rfl rfl (by omega) hs.1 ?_
  rw [show (mm_u ν 0 0 0) 0 12 = ν 0 12 from mm_u_ne (by omega)]
  refine sw_p 1 (f' := (65, [some (2, 0), some (0, b), some (0, x), some (0, t), none], [(0, 40), (0, ν 0 12)])) rfl ?_
  refine sw_eq2 (pt := 75) (pn := 68) rfl rfl rfl (by omega) (by omega) (fun h => absurd h (by omega)) (fun h7 => ?_)
  refine sw_p 1 (f' := (69, [some (2, 0), some (0, b), some (0, x), some (0, t), none], [(2, 0)])) rfl ?_
  refine sw_gI (pn := 72) (i := 21) rfl rfl rfl rfl rfl (by omega) hs.1 ?_
  rw [show (mm_u ν 0 0 0) 0 21 = ν 0 21 from mm_u_ne (by omega)]
  refine sw_lt1 (pt := 80) (pn := 75) rfl rfl rfl (by omega) (fun h => absurd h (by omega)) (fun h8 => ?_)
  refine sw_p 2 (f' := (77, [some (2, 0), some (0, b), some (0, x), some (0, t), none], [(0, 2), (2, 0)])) rfl ?_
  refine sw_pI (pn := 80) (i := 0) rfl rfl rfl rfl rfl (by omega) hs.1 ?_
  refine sw_p 1 (f' := (81, [some (2, 0), some (0, b), some (0, x), some (0, t), none], [(2, 0)])) rfl ?_
  refine sw_gI (pn := 84) (i := 0) rfl rfl rfl rfl rfl (by omega) hs.1 ?_
  rw [show (mm_u (mm_u ν 0 0 0) 0 0 2) 0 0 = 2 from mm_u_at]
  refine sw_le1 (pt := 89) (pn := 87) rfl rfl rfl (by omega) (fun h => absurd h (by decide)) (fun _ => ?_)
  refine sw_p 1 (f' := (88, [some (2, 0), some (0, b), some (0, x), some (0, t), none], [(0, 0)])) rfl ?_
  exact sw_retI rfl rfl rfl ⟨rfl, rfl, rfl⟩
theorem mo_plug_b1 (hs : mo_sh s) (hB : mo_B ν) (hb : -2147483648 ≤ b ∧ b < 2147483648) (h0 : ¬ (0 ≤ b ∧ b < ν 0 1)) : sw_w E (d + 1) 88 (0, [some (2, 0), some (0, b), some (0, x), some (0, t), none], []) s ν (sw_is (some (0, 0)) s (mo_cd ν 1)) := by
  have hn := hB.1
  have hcm := hB.2.2.2.1
  have hcc := hB.2.2.1
  have hty := hB.2.1
  have hsl := hB.2.2.2.2.2.2.2.1 (4 * b + x)
  refine sw_p 3 (f' := (3, [some (2, 0), some (0, b), some (0, x), some (0, t), none], [(0, b), (2, 0), (2, 0)])) rfl ?_
  refine sw_cv1 (pn := 6) (q0 := mj_Mo_plug) (q := mj_Mo_isBridge) (p := 0) (as2 := [(0, b)]) (L2 := [some (2, 0), some (0, b)]) (rest := [(2, 0)]) (v := some (0, 0)) (s1 := s) (ν1 := ν) rfl rfl rfl rfl rfl rfl rfl rfl rfl hs.1 (mo_isB0 hs hB (by omega) (by omega)) ?_
  show sw_w E _ 88 (6, [some (2, 0), some (0, b), some (0, x), some (0, t), none], [(0, 0), (2, 0)]) s ν _
  refine sw_eq1 (pt := 34) (pn := 9) rfl rfl rfl (by omega) (fun _ => ?_) (fun h => absurd h (by decide))
  refine sw_p 1 (f' := (35, [some (2, 0), some (0, b), some (0, x), some (0, t), none], [(0, 1), (2, 0)])) rfl ?_
  refine sw_pI (pn := 38) (i := 0) rfl rfl rfl rfl rfl (by omega) hs.1 ?_
  refine sw_p 1 (f' := (39, [some (2, 0), some (0, b), some (0, x), some (0, t), none], [(2, 0)])) rfl ?_
  refine sw_gI (pn := 42) (i := 0) rfl rfl rfl rfl rfl (by omega) hs.1 ?_
  rw [show (mm_u ν 0 0 1) 0 0 = 1 from mm_u_at]
  refine sw_ne1 (pt := 80) (pn := 45) rfl rfl rfl (by omega) (fun _ => ?_) (fun h => absurd h (by decide))
  refine sw_p 1 (f' := (81, [some (2, 0), some (0, b), some (0, x), some (0, t), none], [(2, 0)])) rfl ?_
  refine sw_gI (pn := 84) (i := 0) rfl rfl rfl rfl rfl (by omega) hs.1 ?_
  rw [show (mm_u ν 0 0 1) 0 0 = 1 from mm_u_at]
  refine sw_le1 (pt := 89) (pn := 87) rfl rfl rfl (by omega) (fun h => absurd h (by decide)) (fun _ => ?_)
  refine sw_p 1 (f' := (88, [some (2, 0), some (0, b), some (0, x), some (0, t), none], [(0, 0)])) rfl ?_
  exact sw_retI rfl rfl rfl ⟨rfl, rfl, rfl⟩
theorem mo_plug_b2 (hs : mo_sh s) (hB : mo_B ν) (hb : 0 ≤ b ∧ b < ν 0 1) (hx : -2147483648 ≤ x ∧ x < 2147483648) (h0 : ¬ (0 ≤ x ∧ x ≤ 3)) : sw_w E (d + 1) 88 (0, [some (2, 0), some (0, b), some (0, x), some (0, t), none], []) s ν (sw_is (some (0, 0)) s (mo_cd ν 1)) := by
  have hn := hB.1
  have hcm := hB.2.2.2.1
  have hcc := hB.2.2.1
  have hty := hB.2.1
  have hsl := hB.2.2.2.2.2.2.2.1 (4 * b + x)
  refine sw_p 3 (f' := (3, [some (2, 0), some (0, b), some (0, x), some (0, t), none], [(0, b), (2, 0), (2, 0)])) rfl ?_
  refine sw_cv1 (pn := 6) (q0 := mj_Mo_plug) (q := mj_Mo_isBridge) (p := 0) (as2 := [(0, b)]) (L2 := [some (2, 0), some (0, b)]) (rest := [(2, 0)]) (v := some (0, 1)) (s1 := s) (ν1 := ν) rfl rfl rfl rfl rfl rfl rfl rfl rfl hs.1 (mo_isB1 hs hB (by omega)) ?_
  show sw_w E _ 88 (6, [some (2, 0), some (0, b), some (0, x), some (0, t), none], [(0, 1), (2, 0)]) s ν _
  refine sw_eq1 (pt := 34) (pn := 9) rfl rfl rfl (by omega) (fun h => absurd h (by decide)) (fun _ => ?_)
  refine sw_p 3 (f' := (12, [some (2, 0), some (0, b), some (0, x), some (0, t), none], [(0, 3), (0, 0), (0, x), (2, 0)])) rfl ?_
  refine sw_cs1 (pn := 15) (q0 := mj_Mo_plug) (q := mj_Mo_within) (L2 := [some (0, x), some (0, 0), some (0, 3)]) (rest := [(2, 0)]) (v := some (0, 0)) (s1 := s) (ν1 := ν) rfl rfl rfl rfl rfl rfl rfl rfl (mo_in0 (by omega) (by omega) (by omega) (by omega)) ?_
  show sw_w E _ 88 (15, [some (2, 0), some (0, b), some (0, x), some (0, t), none], [(0, 0), (2, 0)]) s ν _
  refine sw_eq1 (pt := 34) (pn := 18) rfl rfl rfl (by omega) (fun _ => ?_) (fun h => absurd h (by decide))
  refine sw_p 1 (f' := (35, [some (2, 0), some (0, b), some (0, x), some (0, t), none], [(0, 1), (2, 0)])) rfl ?_
  refine sw_pI (pn := 38) (i := 0) rfl rfl rfl rfl rfl (by omega) hs.1 ?_
  refine sw_p 1 (f' := (39, [some (2, 0), some (0, b), some (0, x), some (0, t), none], [(2, 0)])) rfl ?_
  refine sw_gI (pn := 42) (i := 0) rfl rfl rfl rfl rfl (by omega) hs.1 ?_
  rw [show (mm_u ν 0 0 1) 0 0 = 1 from mm_u_at]
  refine sw_ne1 (pt := 80) (pn := 45) rfl rfl rfl (by omega) (fun _ => ?_) (fun h => absurd h (by decide))
  refine sw_p 1 (f' := (81, [some (2, 0), some (0, b), some (0, x), some (0, t), none], [(2, 0)])) rfl ?_
  refine sw_gI (pn := 84) (i := 0) rfl rfl rfl rfl rfl (by omega) hs.1 ?_
  rw [show (mm_u ν 0 0 1) 0 0 = 1 from mm_u_at]
  refine sw_le1 (pt := 89) (pn := 87) rfl rfl rfl (by omega) (fun h => absurd h (by decide)) (fun _ => ?_)
  refine sw_p 1 (f' := (88, [some (2, 0), some (0, b), some (0, x), some (0, t), none], [(0, 0)])) rfl ?_
  exact sw_retI rfl rfl rfl ⟨rfl, rfl, rfl⟩
theorem mo_plug_b3 (hs : mo_sh s) (hB : mo_B ν) (hb : 0 ≤ b ∧ b < ν 0 1) (hx : 0 ≤ x ∧ x ≤ 3) (ht : -2147483648 ≤ t ∧ t < 0) : sw_w E (d + 1) 88 (0, [some (2, 0), some (0, b), some (0, x), some (0, t), none], []) s ν (sw_is (some (0, 0)) s (mo_cd ν 1)) := by
  have hn := hB.1
  have hcm := hB.2.2.2.1
  have hcc := hB.2.2.1
  have hty := hB.2.1
  have hsl := hB.2.2.2.2.2.2.2.1 (4 * b + x)
  refine sw_p 3 (f' := (3, [some (2, 0), some (0, b), some (0, x), some (0, t), none], [(0, b), (2, 0), (2, 0)])) rfl ?_
  refine sw_cv1 (pn := 6) (q0 := mj_Mo_plug) (q := mj_Mo_isBridge) (p := 0) (as2 := [(0, b)]) (L2 := [some (2, 0), some (0, b)]) (rest := [(2, 0)]) (v := some (0, 1)) (s1 := s) (ν1 := ν) rfl rfl rfl rfl rfl rfl rfl rfl rfl hs.1 (mo_isB1 hs hB (by omega)) ?_
  show sw_w E _ 88 (6, [some (2, 0), some (0, b), some (0, x), some (0, t), none], [(0, 1), (2, 0)]) s ν _
  refine sw_eq1 (pt := 34) (pn := 9) rfl rfl rfl (by omega) (fun h => absurd h (by decide)) (fun _ => ?_)
  refine sw_p 3 (f' := (12, [some (2, 0), some (0, b), some (0, x), some (0, t), none], [(0, 3), (0, 0), (0, x), (2, 0)])) rfl ?_
  refine sw_cs1 (pn := 15) (q0 := mj_Mo_plug) (q := mj_Mo_within) (L2 := [some (0, x), some (0, 0), some (0, 3)]) (rest := [(2, 0)]) (v := some (0, 1)) (s1 := s) (ν1 := ν) rfl rfl rfl rfl rfl rfl rfl rfl (mo_in1 (by omega) (by omega) (by omega) (by omega)) ?_
  show sw_w E _ 88 (15, [some (2, 0), some (0, b), some (0, x), some (0, t), none], [(0, 1), (2, 0)]) s ν _
  refine sw_eq1 (pt := 34) (pn := 18) rfl rfl rfl (by omega) (fun h => absurd h (by decide)) (fun _ => ?_)
  refine sw_p 1 (f' := (19, [some (2, 0), some (0, b), some (0, x), some (0, t), none], [(0, t), (2, 0)])) rfl ?_
  refine sw_lt1 (pt := 34) (pn := 22) rfl rfl rfl (by omega) (fun h3 => ?_) (fun h => absurd h (by omega))
  refine sw_p 1 (f' := (35, [some (2, 0), some (0, b), some (0, x), some (0, t), none], [(0, 1), (2, 0)])) rfl ?_
  refine sw_pI (pn := 38) (i := 0) rfl rfl rfl rfl rfl (by omega) hs.1 ?_
  refine sw_p 1 (f' := (39, [some (2, 0), some (0, b), some (0, x), some (0, t), none], [(2, 0)])) rfl ?_
  refine sw_gI (pn := 42) (i := 0) rfl rfl rfl rfl rfl (by omega) hs.1 ?_
  rw [show (mm_u ν 0 0 1) 0 0 = 1 from mm_u_at]
  refine sw_ne1 (pt := 80) (pn := 45) rfl rfl rfl (by omega) (fun _ => ?_) (fun h => absurd h (by decide))
  refine sw_p 1 (f' := (81, [some (2, 0), some (0, b), some (0, x), some (0, t), none], [(2, 0)])) rfl ?_
  refine sw_gI (pn := 84) (i := 0) rfl rfl rfl rfl rfl (by omega) hs.1 ?_
  rw [show (mm_u ν 0 0 1) 0 0 = 1 from mm_u_at]
  refine sw_le1 (pt := 89) (pn := 87) rfl rfl rfl (by omega) (fun h => absurd h (by decide)) (fun _ => ?_)
  refine sw_p 1 (f' := (88, [some (2, 0), some (0, b), some (0, x), some (0, t), none], [(0, 0)])) rfl ?_
  exact sw_retI rfl rfl rfl ⟨rfl, rfl, rfl⟩
theorem mo_plug_b4 (hs : mo_sh s) (hB : mo_B ν) (hb : 0 ≤ b ∧ b < ν 0 1) (hx : 0 ≤ x ∧ x ≤ 3) (ht : 0 ≤ t ∧ t < 2147483648) (h0 : ν 0 8 ≤ t) : sw_w E (d + 1) 88 (0, [some (2, 0), some (0, b), some (0, x), some (0, t), none], []) s ν (sw_is (some (0, 0)) s (mo_cd ν 1)) := by
  have hn := hB.1
  have hcm := hB.2.2.2.1
  have hcc := hB.2.2.1
  have hty := hB.2.1
  have hsl := hB.2.2.2.2.2.2.2.1 (4 * b + x)
  refine sw_p 3 (f' := (3, [some (2, 0), some (0, b), some (0, x), some (0, t), none], [(0, b), (2, 0), (2, 0)])) rfl ?_
  refine sw_cv1 (pn := 6) (q0 := mj_Mo_plug) (q := mj_Mo_isBridge) (p := 0) (as2 := [(0, b)]) (L2 := [some (2, 0), some (0, b)]) (rest := [(2, 0)]) (v := some (0, 1)) (s1 := s) (ν1 := ν) rfl rfl rfl rfl rfl rfl rfl rfl rfl hs.1 (mo_isB1 hs hB (by omega)) ?_
  show sw_w E _ 88 (6, [some (2, 0), some (0, b), some (0, x), some (0, t), none], [(0, 1), (2, 0)]) s ν _
  refine sw_eq1 (pt := 34) (pn := 9) rfl rfl rfl (by omega) (fun h => absurd h (by decide)) (fun _ => ?_)
  refine sw_p 3 (f' := (12, [some (2, 0), some (0, b), some (0, x), some (0, t), none], [(0, 3), (0, 0), (0, x), (2, 0)])) rfl ?_
  refine sw_cs1 (pn := 15) (q0 := mj_Mo_plug) (q := mj_Mo_within) (L2 := [some (0, x), some (0, 0), some (0, 3)]) (rest := [(2, 0)]) (v := some (0, 1)) (s1 := s) (ν1 := ν) rfl rfl rfl rfl rfl rfl rfl rfl (mo_in1 (by omega) (by omega) (by omega) (by omega)) ?_
  show sw_w E _ 88 (15, [some (2, 0), some (0, b), some (0, x), some (0, t), none], [(0, 1), (2, 0)]) s ν _
  refine sw_eq1 (pt := 34) (pn := 18) rfl rfl rfl (by omega) (fun h => absurd h (by decide)) (fun _ => ?_)
  refine sw_p 1 (f' := (19, [some (2, 0), some (0, b), some (0, x), some (0, t), none], [(0, t), (2, 0)])) rfl ?_
  refine sw_lt1 (pt := 34) (pn := 22) rfl rfl rfl (by omega) (fun h => absurd h (by omega)) (fun h3 => ?_)
  refine sw_p 2 (f' := (24, [some (2, 0), some (0, b), some (0, x), some (0, t), none], [(2, 0), (0, t), (2, 0)])) rfl ?_
  refine sw_gI (pn := 27) (i := 8) rfl rfl rfl rfl rfl (by omega) hs.1 ?_
  refine sw_ge2 (pt := 34) (pn := 30) rfl rfl rfl (by omega) (by omega) (fun h4 => ?_) (fun h => absurd h (by omega))
  refine sw_p 1 (f' := (35, [some (2, 0), some (0, b), some (0, x), some (0, t), none], [(0, 1), (2, 0)])) rfl ?_
  refine sw_pI (pn := 38) (i := 0) rfl rfl rfl rfl rfl (by omega) hs.1 ?_
  refine sw_p 1 (f' := (39, [some (2, 0), some (0, b), some (0, x), some (0, t), none], [(2, 0)])) rfl ?_
  refine sw_gI (pn := 42) (i := 0) rfl rfl rfl rfl rfl (by omega) hs.1 ?_
  rw [show (mm_u ν 0 0 1) 0 0 = 1 from mm_u_at]
  refine sw_ne1 (pt := 80) (pn := 45) rfl rfl rfl (by omega) (fun _ => ?_) (fun h => absurd h (by decide))
  refine sw_p 1 (f' := (81, [some (2, 0), some (0, b), some (0, x), some (0, t), none], [(2, 0)])) rfl ?_
  refine sw_gI (pn := 84) (i := 0) rfl rfl rfl rfl rfl (by omega) hs.1 ?_
  rw [show (mm_u ν 0 0 1) 0 0 = 1 from mm_u_at]
  refine sw_le1 (pt := 89) (pn := 87) rfl rfl rfl (by omega) (fun h => absurd h (by decide)) (fun _ => ?_)
  refine sw_p 1 (f' := (88, [some (2, 0), some (0, b), some (0, x), some (0, t), none], [(0, 0)])) rfl ?_
  exact sw_retI rfl rfl rfl ⟨rfl, rfl, rfl⟩
end MO10
