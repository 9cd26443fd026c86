/-! the class: rankOf, a type newly made -/
/-- three sizes in a row -/
def ty_g (x y z i : Int) : Int := if i = 0 then x else if i = 1 then y else z
section TY1
variable {E : mv_E} {s ν : mm_T} {d : Nat} {a b c e i k l n o p q r t u v w x y z sz : Int} {Q : nm_O → mm_T → mm_T → Prop}
theorem od_cg {g g' : Int → Int} (h0 : g 0 = g' 0) (h1 : g 1 = g' 1) (h2 : g 2 = g' 2) (hk : k = 0 ∨ k = 1 ∨ k = 2) : od_r g k = od_r g' k := by
  unfold od_r
  rcases hk with rfl | rfl | rfl <;> rw [h0, h1, h2]
theorem od_kc {g g' : Int → Int} (h0 : g 0 = g' 0) (h1 : g 1 = g' 1) (h2 : g 2 = g' 2) : od_k g k = od_k g' k := by
  unfold od_k
  rw [od_cg h0 h1 h2 (Or.inr (Or.inr rfl)), od_cg h0 h1 h2 (Or.inr (Or.inl rfl))]
theorem od_b {g : Int → Int} (hk : k = 0 ∨ k = 1 ∨ k = 2) : 0 ≤ od_r g k ∧ od_r g k ≤ 2 := by
  unfold od_r
  rcases hk with rfl | rfl | rfl <;> (repeat' split) <;> omega
theorem rk_o0 (ha : 0 ≤ a) (hk : s a (-1) = 0) (hl : s a (-2) = 3) (hx : ν a 0 = x) (hy : ν a 1 = y) (hz : ν a 2 = z) (bx : 0 ≤ x ∧ x ≤ 1024) (by_ : 0 ≤ y ∧ y ≤ 1024) (bz : 0 ≤ z ∧ z ≤ 1024) : sw_w E d 21 (0, [some (0, 0), some (2, a), none, none], []) s ν (sw_is (some (0, od_r (ty_g x y z) 0)) s ν) := by
  have g0 : ty_g x y z 0 = x := rfl
  have g1 : ty_g x y z 1 = y := rfl
  have g2 : ty_g x y z 2 = z := rfl
  refine sw_p 6 (f' := (6, [some (0, 0), some (2, a), some (0, 0), some (0, 0)], [(0, 3), (0, 0)])) rfl ?_
  refine sw_ge2 (pt := 41) (pn := 9) rfl rfl rfl (by omega) (by omega) (fun h => absurd h (by decide)) (fun _ => ?_)
  refine sw_p 2 (f' := (11, [some (0, 0), some (2, a), some (0, 0), some (0, 0)], [(0, 0), (2, a)])) rfl ?_
  refine sw_ial (pn := 12) (l := 3) rfl rfl (by omega) (hk) (hl) (by omega) (by omega) ?_
  rw [show ν a 0 = x from hx]
  refine sw_p 2 (f' := (14, [some (0, 0), some (2, a), some (0, 0), some (0, 0)], [(0, 0), (2, a), (0, x)])) rfl ?_
  refine sw_ial (pn := 15) (l := 3) rfl rfl (by omega) (hk) (hl) (by omega) (by omega) ?_
  rw [show ν a 0 = x from hx]
  refine sw_gt2 (pt := 32) (pn := 18) rfl rfl rfl (by omega) (by omega) (fun h2 => ?_) (fun h2 => ?_)
  · skip
    refine sw_p 5 (f' := (6, [some (0, 0), some (2, a), some (0, 1), some (0, 1)], [(0, 3), (0, 1)])) rfl ?_
    refine sw_ge2 (pt := 41) (pn := 9) rfl rfl rfl (by omega) (by omega) (fun h => absurd h (by decide)) (fun _ => ?_)
    refine sw_p 2 (f' := (11, [some (0, 0), some (2, a), some (0, 1), some (0, 1)], [(0, 1), (2, a)])) rfl ?_
    refine sw_ial (pn := 12) (l := 3) rfl rfl (by omega) (hk) (hl) (by omega) (by omega) ?_
    rw [show ν a 1 = y from hy]
    refine sw_p 2 (f' := (14, [some (0, 0), some (2, a), some (0, 1), some (0, 1)], [(0, 0), (2, a), (0, y)])) rfl ?_
    refine sw_ial (pn := 15) (l := 3) rfl rfl (by omega) (hk) (hl) (by omega) (by omega) ?_
    rw [show ν a 0 = x from hx]
    refine sw_gt2 (pt := 32) (pn := 18) rfl rfl rfl (by omega) (by omega) (fun h4 => ?_) (fun h4 => ?_)
    · skip
      refine sw_p 5 (f' := (6, [some (0, 0), some (2, a), some (0, 2), some (0, 2)], [(0, 3), (0, 2)])) rfl ?_
      refine sw_ge2 (pt := 41) (pn := 9) rfl rfl rfl (by omega) (by omega) (fun h => absurd h (by decide)) (fun _ => ?_)
      refine sw_p 2 (f' := (11, [some (0, 0), some (2, a), some (0, 2), some (0, 2)], [(0, 2), (2, a)])) rfl ?_
      refine sw_ial (pn := 12) (l := 3) rfl rfl (by omega) (hk) (hl) (by omega) (by omega) ?_
      rw [show ν a 2 = z from hz]
      refine sw_p 2 (f' := (14, [some (0, 0), some (2, a), some (0, 2), some (0, 2)], [(0, 0), (2, a), (0, z)])) rfl ?_
      refine sw_ial (pn := 15) (l := 3) rfl rfl (by omega) (hk) (hl) (by omega) (by omega) ?_
      rw [show ν a 0 = x from hx]
      refine sw_gt2 (pt := 32) (pn := 18) rfl rfl rfl (by omega) (by omega) (fun h6 => ?_) (fun h6 => ?_)
      · skip
        refine sw_p 5 (f' := (6, [some (0, 0), some (2, a), some (0, 3), some (0, 3)], [(0, 3), (0, 3)])) rfl ?_
        refine sw_ge2 (pt := 41) (pn := 9) rfl rfl rfl (by omega) (by omega) (fun _ => ?_) (fun h => absurd h (by decide))
        refine sw_p 1 (f' := (42, [some (0, 0), some (2, a), some (0, 3), some (0, 3)], [(0, 3)])) rfl ?_
        exact sw_retI rfl rfl rfl ⟨by rw [show od_r (ty_g x y z) 0 = 3 by unfold od_r; rw [g0, g1, g2]; (repeat' split) <;> omega], rfl, rfl⟩
      · skip
        refine sw_p 2 (f' := (20, [some (0, 0), some (2, a), some (0, 2), some (0, 2)], [(0, 2), (2, a)])) rfl ?_
        refine sw_ial (pn := 21) (l := 3) rfl rfl (by omega) (hk) (hl) (by omega) (by omega) ?_
        rw [show ν a 2 = z from hz]
        refine sw_p 2 (f' := (23, [some (0, 0), some (2, a), some (0, 2), some (0, 2)], [(0, 0), (2, a), (0, z)])) rfl ?_
        refine sw_ial (pn := 24) (l := 3) rfl rfl (by omega) (hk) (hl) (by omega) (by omega) ?_
        rw [show ν a 0 = x from hx]
        refine sw_ne2 (pt := 35) (pn := 27) rfl rfl rfl (by omega) (by omega) (fun h8 => ?_) (fun h8 => ?_)
        · skip
          refine sw_p 4 (f' := (6, [some (0, 0), some (2, a), some (0, 2), some (0, 3)], [(0, 3), (0, 3)])) rfl ?_
          refine sw_ge2 (pt := 41) (pn := 9) rfl rfl rfl (by omega) (by omega) (fun _ => ?_) (fun h => absurd h (by decide))
          refine sw_p 1 (f' := (42, [some (0, 0), some (2, a), some (0, 2), some (0, 3)], [(0, 2)])) rfl ?_
          exact sw_retI rfl rfl rfl ⟨by rw [show od_r (ty_g x y z) 0 = 2 by unfold od_r; rw [g0, g1, g2]; (repeat' split) <;> omega], rfl, rfl⟩
        · skip
          refine sw_p 2 (f' := (29, [some (0, 0), some (2, a), some (0, 2), some (0, 2)], [(0, 0), (0, 2)])) rfl ?_
          refine sw_ge2 (pt := 35) (pn := 32) rfl rfl rfl (by omega) (by omega) (fun _ => ?_) (fun h => absurd h (by decide))
          refine sw_p 4 (f' := (6, [some (0, 0), some (2, a), some (0, 2), some (0, 3)], [(0, 3), (0, 3)])) rfl ?_
          refine sw_ge2 (pt := 41) (pn := 9) rfl rfl rfl (by omega) (by omega) (fun _ => ?_) (fun h => absurd h (by decide))
          refine sw_p 1 (f' := (42, [some (0, 0), some (2, a), some (0, 2), some (0, 3)], [(0, 2)])) rfl ?_
          exact sw_retI rfl rfl rfl ⟨by rw [show od_r (ty_g x y z) 0 = 2 by unfold od_r; rw [g0, g1, g2]; (repeat' split) <;> omega], rfl, rfl⟩
    · skip
      refine sw_p 2 (f' := (20, [some (0, 0), some (2, a), some (0, 1), some (0, 1)], [(0, 1), (2, a)])) rfl ?_
      refine sw_ial (pn := 21) (l := 3) rfl rfl (by omega) (hk) (hl) (by omega) (by omega) ?_
      rw [show ν a 1 = y from hy]
      refine sw_p 2 (f' := (23, [some (0, 0), some (2, a), some (0, 1), some (0, 1)], [(0, 0), (2, a), (0, y)])) rfl ?_
      refine sw_ial (pn := 24) (l := 3) rfl rfl (by omega) (hk) (hl) (by omega) (by omega) ?_
      rw [show ν a 0 = x from hx]
      refine sw_ne2 (pt := 35) (pn := 27) rfl rfl rfl (by omega) (by omega) (fun h12 => ?_) (fun h12 => ?_)
      · skip
        refine sw_p 4 (f' := (6, [some (0, 0), some (2, a), some (0, 1), some (0, 2)], [(0, 3), (0, 2)])) rfl ?_
        refine sw_ge2 (pt := 41) (pn := 9) rfl rfl rfl (by omega) (by omega) (fun h => absurd h (by decide)) (fun _ => ?_)
        refine sw_p 2 (f' := (11, [some (0, 0), some (2, a), some (0, 1), some (0, 2)], [(0, 2), (2, a)])) rfl ?_
        refine sw_ial (pn := 12) (l := 3) rfl rfl (by omega) (hk) (hl) (by omega) (by omega) ?_
        rw [show ν a 2 = z from hz]
        refine sw_p 2 (f' := (14, [some (0, 0), some (2, a), some (0, 1), some (0, 2)], [(0, 0), (2, a), (0, z)])) rfl ?_
        refine sw_ial (pn := 15) (l := 3) rfl rfl (by omega) (hk) (hl) (by omega) (by omega) ?_
        rw [show ν a 0 = x from hx]
        refine sw_gt2 (pt := 32) (pn := 18) rfl rfl rfl (by omega) (by omega) (fun h14 => ?_) (fun h14 => ?_)
        · skip
          refine sw_p 5 (f' := (6, [some (0, 0), some (2, a), some (0, 2), some (0, 3)], [(0, 3), (0, 3)])) rfl ?_
          refine sw_ge2 (pt := 41) (pn := 9) rfl rfl rfl (by omega) (by omega) (fun _ => ?_) (fun h => absurd h (by decide))
          refine sw_p 1 (f' := (42, [some (0, 0), some (2, a), some (0, 2), some (0, 3)], [(0, 2)])) rfl ?_
          exact sw_retI rfl rfl rfl ⟨by rw [show od_r (ty_g x y z) 0 = 2 by unfold od_r; rw [g0, g1, g2]; (repeat' split) <;> omega], rfl, rfl⟩
        · skip
          refine sw_p 2 (f' := (20, [some (0, 0), some (2, a), some (0, 1), some (0, 2)], [(0, 2), (2, a)])) rfl ?_
          refine sw_ial (pn := 21) (l := 3) rfl rfl (by omega) (hk) (hl) (by omega) (by omega) ?_
          rw [show ν a 2 = z from hz]
          refine sw_p 2 (f' := (23, [some (0, 0), some (2, a), some (0, 1), some (0, 2)], [(0, 0), (2, a), (0, z)])) rfl ?_
          refine sw_ial (pn := 24) (l := 3) rfl rfl (by omega) (hk) (hl) (by omega) (by omega) ?_
          rw [show ν a 0 = x from hx]
          refine sw_ne2 (pt := 35) (pn := 27) rfl rfl rfl (by omega) (by omega) (fun h16 => ?_) (fun h16 => ?_)
          · skip
            refine sw_p 4 (f' := (6, [some (0, 0), some (2, a), some (0, 1), some (0, 3)], [(0, 3), (0, 3)])) rfl ?_
            refine sw_ge2 (pt := 41) (pn := 9) rfl rfl rfl (by omega) (by omega) (fun _ => ?_) (fun h => absurd h (by decide))
            refine sw_p 1 (f' := (42, [some (0, 0), some (2, a), some (0, 1), some (0, 3)], [(0, 1)])) rfl ?_
            exact sw_retI rfl rfl rfl ⟨by rw [show od_r (ty_g x y z) 0 = 1 by unfold od_r; rw [g0, g1, g2]; (repeat' split) <;> omega], rfl, rfl⟩
          · skip
            refine sw_p 2 (f' := (29, [some (0, 0), some (2, a), some (0, 1), some (0, 2)], [(0, 0), (0, 2)])) rfl ?_
            refine sw_ge2 (pt := 35) (pn := 32) rfl rfl rfl (by omega) (by omega) (fun _ => ?_) (fun h => absurd h (by decide))
            refine sw_p 4 (f' := (6, [some (0, 0), some (2, a), some (0, 1), some (0, 3)], [(0, 3), (0, 3)])) rfl ?_
            refine sw_ge2 (pt := 41) (pn := 9) rfl rfl rfl (by omega) (by omega) (fun _ => ?_) (fun h => absurd h (by decide))
            refine sw_p 1 (f' := (42, [some (0, 0), some (2, a), some (0, 1), some (0, 3)], [(0, 1)])) rfl ?_
            exact sw_retI rfl rfl rfl ⟨by rw [show od_r (ty_g x y z) 0 = 1 by unfold od_r; rw [g0, g1, g2]; (repeat' split) <;> omega], rfl, rfl⟩
      · skip
        refine sw_p 2 (f' := (29, [some (0, 0), some (2, a), some (0, 1), some (0, 1)], [(0, 0), (0, 1)])) rfl ?_
        refine sw_ge2 (pt := 35) (pn := 32) rfl rfl rfl (by omega) (by omega) (fun _ => ?_) (fun h => absurd h (by decide))
        refine sw_p 4 (f' := (6, [some (0, 0), some (2, a), some (0, 1), some (0, 2)], [(0, 3), (0, 2)])) rfl ?_
        refine sw_ge2 (pt := 41) (pn := 9) rfl rfl rfl (by omega) (by omega) (fun h => absurd h (by decide)) (fun _ => ?_)
        refine sw_p 2 (f' := (11, [some (0, 0), some (2, a), some (0, 1), some (0, 2)], [(0, 2), (2, a)])) rfl ?_
        refine sw_ial (pn := 12) (l := 3) rfl rfl (by omega) (hk) (hl) (by omega) (by omega) ?_
        rw [show ν a 2 = z from hz]
        refine sw_p 2 (f' := (14, [some (0, 0), some (2, a), some (0, 1), some (0, 2)], [(0, 0), (2, a), (0, z)])) rfl ?_
        refine sw_ial (pn := 15) (l := 3) rfl rfl (by omega) (hk) (hl) (by omega) (by omega) ?_
        rw [show ν a 0 = x from hx]
        refine sw_gt2 (pt := 32) (pn := 18) rfl rfl rfl (by omega) (by omega) (fun h22 => ?_) (fun h22 => ?_)
        · skip
          refine sw_p 5 (f' := (6, [some (0, 0), some (2, a), some (0, 2), some (0, 3)], [(0, 3), (0, 3)])) rfl ?_
          refine sw_ge2 (pt := 41) (pn := 9) rfl rfl rfl (by omega) (by omega) (fun _ => ?_) (fun h => absurd h (by decide))
          refine sw_p 1 (f' := (42, [some (0, 0), some (2, a), some (0, 2), some (0, 3)], [(0, 2)])) rfl ?_
          exact sw_retI rfl rfl rfl ⟨by rw [show od_r (ty_g x y z) 0 = 2 by unfold od_r; rw [g0, g1, g2]; (repeat' split) <;> omega], rfl, rfl⟩
        · skip
          refine sw_p 2 (f' := (20, [some (0, 0), some (2, a), some (0, 1), some (0, 2)], [(0, 2), (2, a)])) rfl ?_
          refine sw_ial (pn := 21) (l := 3) rfl rfl (by omega) (hk) (hl) (by omega) (by omega) ?_
          rw [show ν a 2 = z from hz]
          refine sw_p 2 (f' := (23, [some (0, 0), some (2, a), some (0, 1), some (0, 2)], [(0, 0), (2, a), (0, z)])) rfl ?_
          refine sw_ial (pn := 24) (l := 3) rfl rfl (by omega) (hk) (hl) (by omega) (by omega) ?_
          rw [show ν a 0 = x from hx]
          refine sw_ne2 (pt := 35) (pn := 27) rfl rfl rfl (by omega) (by omega) (fun h24 => ?_) (fun h24 => ?_)
          · skip
            refine sw_p 4 (f' := (6, [some (0, 0), some (2, a), some (0, 1), some (0, 3)], [(0, 3), (0, 3)])) rfl ?_
            refine sw_ge2 (pt := 41) (pn := 9) rfl rfl rfl (by omega) (by omega) (fun _ => ?_) (fun h => absurd h (by decide))
            refine sw_p 1 (f' := (42, [some (0, 0), some (2, a), some (0, 1), some (0, 3)], [(0, 1)])) rfl ?_
            exact sw_retI rfl rfl rfl ⟨by rw [show od_r (ty_g x y z) 0 = 1 by unfold od_r; rw [g0, g1, g2]; (repeat' split) <;> omega], rfl, rfl⟩
          · skip
            refine sw_p 2 (f' := (29, [some (0, 0), some (2, a), some (0, 1), some (0, 2)], [(0, 0), (0, 2)])) rfl ?_
            refine sw_ge2 (pt := 35) (pn := 32) rfl rfl rfl (by omega) (by omega) (fun _ => ?_) (fun h => absurd h (by decide))
            refine sw_p 4 (f' := (6, [some (0, 0), some (2, a), some (0, 1), some (0, 3)], [(0, 3), (0, 3)])) rfl ?_
            refine sw_ge2 (pt := 41) (pn := 9) rfl rfl rfl (by omega) (by omega) (fun _ => ?_) (fun h => absurd h (by decide))
            refine sw_p 1 (f' := (42, [some (0, 0), some (2, a), some (0, 1), some (0, 3)], [(0, 1)])) rfl ?_
            exact sw_retI rfl rfl rfl ⟨by rw [show od_r (ty_g x y z) 0 = 1 by unfold od_r; rw [g0, g1, g2]; (repeat' split) <;> omega], rfl, rfl⟩
  · skip
    refine sw_p 2 (f' := (20, [some (0, 0), some (2, a), some (0, 0), some (0, 0)], [(0, 0), (2, a)])) rfl ?_
    refine sw_ial (pn := 21) (l := 3) rfl rfl (by omega) (hk) (hl) (by omega) (by omega) ?_
    rw [show ν a 0 = x from hx]
    refine sw_p 2 (f' := (23, [some (0, 0), some (2, a), some (0, 0), some (0, 0)], [(0, 0), (2, a), (0, x)])) rfl ?_
    refine sw_ial (pn := 24) (l := 3) rfl rfl (by omega) (hk) (hl) (by omega) (by omega) ?_
    rw [show ν a 0 = x from hx]
    refine sw_ne2 (pt := 35) (pn := 27) rfl rfl rfl (by omega) (by omega) (fun h28 => ?_) (fun h28 => ?_)
    · skip
      refine sw_p 4 (f' := (6, [some (0, 0), some (2, a), some (0, 0), some (0, 1)], [(0, 3), (0, 1)])) rfl ?_
      refine sw_ge2 (pt := 41) (pn := 9) rfl rfl rfl (by omega) (by omega) (fun h => absurd h (by decide)) (fun _ => ?_)
      refine sw_p 2 (f' := (11, [some (0, 0), some (2, a), some (0, 0), some (0, 1)], [(0, 1), (2, a)])) rfl ?_
      refine sw_ial (pn := 12) (l := 3) rfl rfl (by omega) (hk) (hl) (by omega) (by omega) ?_
      rw [show ν a 1 = y from hy]
      refine sw_p 2 (f' := (14, [some (0, 0), some (2, a), some (0, 0), some (0, 1)], [(0, 0), (2, a), (0, y)])) rfl ?_
      refine sw_ial (pn := 15) (l := 3) rfl rfl (by omega) (hk) (hl) (by omega) (by omega) ?_
      rw [show ν a 0 = x from hx]
      refine sw_gt2 (pt := 32) (pn := 18) rfl rfl rfl (by omega) (by omega) (fun h30 => ?_) (fun h30 => ?_)
      · skip
        refine sw_p 5 (f' := (6, [some (0, 0), some (2, a), some (0, 1), some (0, 2)], [(0, 3), (0, 2)])) rfl ?_
        refine sw_ge2 (pt := 41) (pn := 9) rfl rfl rfl (by omega) (by omega) (fun h => absurd h (by decide)) (fun _ => ?_)
        refine sw_p 2 (f' := (11, [some (0, 0), some (2, a), some (0, 1), some (0, 2)], [(0, 2), (2, a)])) rfl ?_
        refine sw_ial (pn := 12) (l := 3) rfl rfl (by omega) (hk) (hl) (by omega) (by omega) ?_
        rw [show ν a 2 = z from hz]
        refine sw_p 2 (f' := (14, [some (0, 0), some (2, a), some (0, 1), some (0, 2)], [(0, 0), (2, a), (0, z)])) rfl ?_
        refine sw_ial (pn := 15) (l := 3) rfl rfl (by omega) (hk) (hl) (by omega) (by omega) ?_
        rw [show ν a 0 = x from hx]
        refine sw_gt2 (pt := 32) (pn := 18) rfl rfl rfl (by omega) (by omega) (fun h32 => ?_) (fun h32 => ?_)
        · skip
          refine sw_p 5 (f' := (6, [some (0, 0), some (2, a), some (0, 2), some (0, 3)], [(0, 3), (0, 3)])) rfl ?_
          refine sw_ge2 (pt := 41) (pn := 9) rfl rfl rfl (by omega) (by omega) (fun _ => ?_) (fun h => absurd h (by decide))
          refine sw_p 1 (f' := (42, [some (0, 0), some (2, a), some (0, 2), some (0, 3)], [(0, 2)])) rfl ?_
          exact sw_retI rfl rfl rfl ⟨by rw [show od_r (ty_g x y z) 0 = 2 by unfold od_r; rw [g0, g1, g2]; (repeat' split) <;> omega], rfl, rfl⟩
        · skip
          refine sw_p 2 (f' := (20, [some (0, 0), some (2, a), some (0, 1), some (0, 2)], [(0, 2), (2, a)])) rfl ?_
          refine sw_ial (pn := 21) (l := 3) rfl rfl (by omega) (hk) (hl) (by omega) (by omega) ?_
          rw [show ν a 2 = z from hz]
          refine sw_p 2 (f' := (23, [some (0, 0), some (2, a), some (0, 1), some (0, 2)], [(0, 0), (2, a), (0, z)])) rfl ?_
          refine sw_ial (pn := 24) (l := 3) rfl rfl (by omega) (hk) (hl) (by omega) (by omega) ?_
          rw [show ν a 0 = x from hx]
          refine sw_ne2 (pt := 35) (pn := 27) rfl rfl rfl (by omega) (by omega) (fun h34 => ?_) (fun h34 => ?_)
          · skip
            refine sw_p 4 (f' := (6, [some (0, 0), some (2, a), some (0, 1), some (0, 3)], [(0, 3), (0, 3)])) rfl ?_
            refine sw_ge2 (pt := 41) (pn := 9) rfl rfl rfl (by omega) (by omega) (fun _ => ?_) (fun h => absurd h (by decide))
            refine sw_p 1 (f' := (42, [some (0, 0), some (2, a), some (0, 1), some (0, 3)], [(0, 1)])) rfl ?_
            exact sw_retI rfl rfl rfl ⟨by rw [show od_r (ty_g x y z) 0 = 1 by unfold od_r; rw [g0, g1, g2]; (repeat' split) <;> omega], rfl, rfl⟩
          · skip
            refine sw_p 2 (f' := (29, [some (0, 0), some (2, a), some (0, 1), some (0, 2)], [(0, 0), (0, 2)])) rfl ?_
            refine sw_ge2 (pt := 35) (pn := 32) rfl rfl rfl (by omega) (by omega) (fun _ => ?_) (fun h => absurd h (by decide))
            refine sw_p 4 (f' := (6, [some (0, 0), some (2, a), some (0, 1), some (0, 3)], [(0, 3), (0, 3)])) rfl ?_
            refine sw_ge2 (pt := 41) (pn := 9) rfl rfl rfl (by omega) (by omega) (fun _ => ?_) (fun h => absurd h (by decide))
            refine sw_p 1 (f' := (42, [some (0, 0), some (2, a), some (0, 1), some (0, 3)], [(0, 1)])) rfl ?_
            exact sw_retI rfl rfl rfl ⟨by rw [show od_r (ty_g x y z) 0 = 1 by unfold od_r; rw [g0, g1, g2]; (repeat' split) <;> omega], rfl, rfl⟩
      · skip
        refine sw_p 2 (f' := (20, [some (0, 0), some (2, a), some (0, 0), some (0, 1)], [(0, 1), (2, a)])) rfl ?_
        refine sw_ial (pn := 21) (l := 3) rfl rfl (by omega) (hk) (hl) (by omega) (by omega) ?_
        rw [show ν a 1 = y from hy]
        refine sw_p 2 (f' := (23, [some (0, 0), some (2, a), some (0, 0), some (0, 1)], [(0, 0), (2, a), (0, y)])) rfl ?_
        refine sw_ial (pn := 24) (l := 3) rfl rfl (by omega) (hk) (hl) (by omega) (by omega) ?_
        rw [show ν a 0 = x from hx]
        refine sw_ne2 (pt := 35) (pn := 27) rfl rfl rfl (by omega) (by omega) (fun h38 => ?_) (fun h38 => ?_)
        · skip
          refine sw_p 4 (f' := (6, [some (0, 0), some (2, a), some (0, 0), some (0, 2)], [(0, 3), (0, 2)])) rfl ?_
          refine sw_ge2 (pt := 41) (pn := 9) rfl rfl rfl (by omega) (by omega) (fun h => absurd h (by decide)) (fun _ => ?_)
          refine sw_p 2 (f' := (11, [some (0, 0), some (2, a), some (0, 0), some (0, 2)], [(0, 2), (2, a)])) rfl ?_
          refine sw_ial (pn := 12) (l := 3) rfl rfl (by omega) (hk) (hl) (by omega) (by omega) ?_
          rw [show ν a 2 = z from hz]
          refine sw_p 2 (f' := (14, [some (0, 0), some (2, a), some (0, 0), some (0, 2)], [(0, 0), (2, a), (0, z)])) rfl ?_
          refine sw_ial (pn := 15) (l := 3) rfl rfl (by omega) (hk) (hl) (by omega) (by omega) ?_
          rw [show ν a 0 = x from hx]
          refine sw_gt2 (pt := 32) (pn := 18) rfl rfl rfl (by omega) (by omega) (fun h40 => ?_) (fun h40 => ?_)
          · skip
            refine sw_p 5 (f' := (6, [some (0, 0), some (2, a), some (0, 1), some (0, 3)], [(0, 3), (0, 3)])) rfl ?_
            refine sw_ge2 (pt := 41) (pn := 9) rfl rfl rfl (by omega) (by omega) (fun _ => ?_) (fun h => absurd h (by decide))
            refine sw_p 1 (f' := (42, [some (0, 0), some (2, a), some (0, 1), some (0, 3)], [(0, 1)])) rfl ?_
            exact sw_retI rfl rfl rfl ⟨by rw [show od_r (ty_g x y z) 0 = 1 by unfold od_r; rw [g0, g1, g2]; (repeat' split) <;> omega], rfl, rfl⟩
          · skip
            refine sw_p 2 (f' := (20, [some (0, 0), some (2, a), some (0, 0), some (0, 2)], [(0, 2), (2, a)])) rfl ?_
            refine sw_ial (pn := 21) (l := 3) rfl rfl (by omega) (hk) (hl) (by omega) (by omega) ?_
            rw [show ν a 2 = z from hz]
            refine sw_p 2 (f' := (23, [some (0, 0), some (2, a), some (0, 0), some (0, 2)], [(0, 0), (2, a), (0, z)])) rfl ?_
            refine sw_ial (pn := 24) (l := 3) rfl rfl (by omega) (hk) (hl) (by omega) (by omega) ?_
            rw [show ν a 0 = x from hx]
            refine sw_ne2 (pt := 35) (pn := 27) rfl rfl rfl (by omega) (by omega) (fun h42 => ?_) (fun h42 => ?_)
            · skip
              refine sw_p 4 (f' := (6, [some (0, 0), some (2, a), some (0, 0), some (0, 3)], [(0, 3), (0, 3)])) rfl ?_
              refine sw_ge2 (pt := 41) (pn := 9) rfl rfl rfl (by omega) (by omega) (fun _ => ?_) (fun h => absurd h (by decide))
              refine sw_p 1 (f' := (42, [some (0, 0), some (2, a), some (0, 0), some (0, 3)], [(0, 0)])) rfl ?_
              exact sw_retI rfl rfl rfl ⟨by rw [show od_r (ty_g x y z) 0 = 0 by unfold od_r; rw [g0, g1, g2]; (repeat' split) <;> omega], rfl, rfl⟩
            · skip
              refine sw_p 2 (f' := (29, [some (0, 0), some (2, a), some (0, 0), some (0, 2)], [(0, 0), (0, 2)])) rfl ?_
              refine sw_ge2 (pt := 35) (pn := 32) rfl rfl rfl (by omega) (by omega) (fun _ => ?_) (fun h => absurd h (by decide))
              refine sw_p 4 (f' := (6, [some (0, 0), some (2, a), some (0, 0), some (0, 3)], [(0, 3), (0, 3)])) rfl ?_
              refine sw_ge2 (pt := 41) (pn := 9) rfl rfl rfl (by omega) (by omega) (fun _ => ?_) (fun h => absurd h (by decide))
              refine sw_p 1 (f' := (42, [some (0, 0), some (2, a), some (0, 0), some (0, 3)], [(0, 0)])) rfl ?_
              exact sw_retI rfl rfl rfl ⟨by rw [show od_r (ty_g x y z) 0 = 0 by unfold od_r; rw [g0, g1, g2]; (repeat' split) <;> omega], rfl, rfl⟩
        · skip
          refine sw_p 2 (f' := (29, [some (0, 0), some (2, a), some (0, 0), some (0, 1)], [(0, 0), (0, 1)])) rfl ?_
          refine sw_ge2 (pt := 35) (pn := 32) rfl rfl rfl (by omega) (by omega) (fun _ => ?_) (fun h => absurd h (by decide))
          refine sw_p 4 (f' := (6, [some (0, 0), some (2, a), some (0, 0), some (0, 2)], [(0, 3), (0, 2)])) rfl ?_
          refine sw_ge2 (pt := 41) (pn := 9) rfl rfl rfl (by omega) (by omega) (fun h => absurd h (by decide)) (fun _ => ?_)
          refine sw_p 2 (f' := (11, [some (0, 0), some (2, a), some (0, 0), some (0, 2)], [(0, 2), (2, a)])) rfl ?_
          refine sw_ial (pn := 12) (l := 3) rfl rfl (by omega) (hk) (hl) (by omega) (by omega) ?_
          rw [show ν a 2 = z from hz]
          refine sw_p 2 (f' := (14, [some (0, 0), some (2, a), some (0, 0), some (0, 2)], [(0, 0), (2, a), (0, z)])) rfl ?_
          refine sw_ial (pn := 15) (l := 3) rfl rfl (by omega) (hk) (hl) (by omega) (by omega) ?_
          rw [show ν a 0 = x from hx]
          refine sw_gt2 (pt := 32) (pn := 18) rfl rfl rfl (by omega) (by omega) (fun h48 => ?_) (fun h48 => ?_)
          · skip
            refine sw_p 5 (f' := (6, [some (0, 0), some (2, a), some (0, 1), some (0, 3)], [(0, 3), (0, 3)])) rfl ?_
            refine sw_ge2 (pt := 41) (pn := 9) rfl rfl rfl (by omega) (by omega) (fun _ => ?_) (fun h => absurd h (by decide))
            refine sw_p 1 (f' := (42, [some (0, 0), some (2, a), some (0, 1), some (0, 3)], [(0, 1)])) rfl ?_
            exact sw_retI rfl rfl rfl ⟨by rw [show od_r (ty_g x y z) 0 = 1 by unfold od_r; rw [g0, g1, g2]; (repeat' split) <;> omega], rfl, rfl⟩
          · skip
            refine sw_p 2 (f' := (20, [some (0, 0), some (2, a), some (0, 0), some (0, 2)], [(0, 2), (2, a)])) rfl ?_
            refine sw_ial (pn := 21) (l := 3) rfl rfl (by omega) (hk) (hl) (by omega) (by omega) ?_
            rw [show ν a 2 = z from hz]
            refine sw_p 2 (f' := (23, [some (0, 0), some (2, a), some (0, 0), some (0, 2)], [(0, 0), (2, a), (0, z)])) rfl ?_
            refine sw_ial (pn := 24) (l := 3) rfl rfl (by omega) (hk) (hl) (by omega) (by omega) ?_
            rw [show ν a 0 = x from hx]
            refine sw_ne2 (pt := 35) (pn := 27) rfl rfl rfl (by omega) (by omega) (fun h50 => ?_) (fun h50 => ?_)
            · skip
              refine sw_p 4 (f' := (6, [some (0, 0), some (2, a), some (0, 0), some (0, 3)], [(0, 3), (0, 3)])) rfl ?_
              refine sw_ge2 (pt := 41) (pn := 9) rfl rfl rfl (by omega) (by omega) (fun _ => ?_) (fun h => absurd h (by decide))
              refine sw_p 1 (f' := (42, [some (0, 0), some (2, a), some (0, 0), some (0, 3)], [(0, 0)])) rfl ?_
              exact sw_retI rfl rfl rfl ⟨by rw [show od_r (ty_g x y z) 0 = 0 by unfold od_r; rw [g0, g1, g2]; (repeat' split) <;> omega], rfl, rfl⟩
            · skip
              refine sw_p 2 (f' := (29, [some (0, 0), some (2, a), some (0, 0), some (0, 2)], [(0, 0), (0, 2)])) rfl ?_
              refine sw_ge2 (pt := 35) (pn := 32) rfl rfl rfl (by omega) (by omega) (fun _ => ?_) (fun h => absurd h (by decide))
              refine sw_p 4 (f' := (6, [some (0, 0), some (2, a), some (0, 0), some (0, 3)], [(0, 3), (0, 3)])) rfl ?_
              refine sw_ge2 (pt := 41) (pn := 9) rfl rfl rfl (by omega) (by omega) (fun _ => ?_) (fun h => absurd h (by decide))
              refine sw_p 1 (f' := (42, [some (0, 0), some (2, a), some (0, 0), some (0, 3)], [(0, 0)])) rfl ?_
              exact sw_retI rfl rfl rfl ⟨by rw [show od_r (ty_g x y z) 0 = 0 by unfold od_r; rw [g0, g1, g2]; (repeat' split) <;> omega], rfl, rfl⟩
    · skip
      refine sw_p 2 (f' := (29, [some (0, 0), some (2, a), some (0, 0), some (0, 0)], [(0, 0), (0, 0)])) rfl ?_
      refine sw_ge2 (pt := 35) (pn := 32) rfl rfl rfl (by omega) (by omega) (fun _ => ?_) (fun h => absurd h (by decide))
      refine sw_p 4 (f' := (6, [some (0, 0), some (2, a), some (0, 0), some (0, 1)], [(0, 3), (0, 1)])) rfl ?_
      refine sw_ge2 (pt := 41) (pn := 9) rfl rfl rfl (by omega) (by omega) (fun h => absurd h (by decide)) (fun _ => ?_)
      refine sw_p 2 (f' := (11, [some (0, 0), some (2, a), some (0, 0), some (0, 1)], [(0, 1), (2, a)])) rfl ?_
      refine sw_ial (pn := 12) (l := 3) rfl rfl (by omega) (hk) (hl) (by omega) (by omega) ?_
      rw [show ν a 1 = y from hy]
      refine sw_p 2 (f' := (14, [some (0, 0), some (2, a), some (0, 0), some (0, 1)], [(0, 0), (2, a), (0, y)])) rfl ?_
      refine sw_ial (pn := 15) (l := 3) rfl rfl (by omega) (hk) (hl) (by omega) (by omega) ?_
      rw [show ν a 0 = x from hx]
      refine sw_gt2 (pt := 32) (pn := 18) rfl rfl rfl (by omega) (by omega) (fun h56 => ?_) (fun h56 => ?_)
      · skip
        refine sw_p 5 (f' := (6, [some (0, 0), some (2, a), some (0, 1), some (0, 2)], [(0, 3), (0, 2)])) rfl ?_
        refine sw_ge2 (pt := 41) (pn := 9) rfl rfl rfl (by omega) (by omega) (fun h => absurd h (by decide)) (fun _ => ?_)
        refine sw_p 2 (f' := (11, [some (0, 0), some (2, a), some (0, 1), some (0, 2)], [(0, 2), (2, a)])) rfl ?_
        refine sw_ial (pn := 12) (l := 3) rfl rfl (by omega) (hk) (hl) (by omega) (by omega) ?_
        rw [show ν a 2 = z from hz]
        refine sw_p 2 (f' := (14, [some (0, 0), some (2, a), some (0, 1), some (0, 2)], [(0, 0), (2, a), (0, z)])) rfl ?_
        refine sw_ial (pn := 15) (l := 3) rfl rfl (by omega) (hk) (hl) (by omega) (by omega) ?_
        rw [show ν a 0 = x from hx]
        refine sw_gt2 (pt := 32) (pn := 18) rfl rfl rfl (by omega) (by omega) (fun h58 => ?_) (fun h58 => ?_)
        · skip
          refine sw_p 5 (f' := (6, [some (0, 0), some (2, a), some (0, 2), some (0, 3)], [(0, 3), (0, 3)])) rfl ?_
          refine sw_ge2 (pt := 41) (pn := 9) rfl rfl rfl (by omega) (by omega) (fun _ => ?_) (fun h => absurd h (by decide))
          refine sw_p 1 (f' := (42, [some (0, 0), some (2, a), some (0, 2), some (0, 3)], [(0, 2)])) rfl ?_
          exact sw_retI rfl rfl rfl ⟨by rw [show od_r (ty_g x y z) 0 = 2 by unfold od_r; rw [g0, g1, g2]; (repeat' split) <;> omega], rfl, rfl⟩
        · skip
          refine sw_p 2 (f' := (20, [some (0, 0), some (2, a), some (0, 1), some (0, 2)], [(0, 2), (2, a)])) rfl ?_
          refine sw_ial (pn := 21) (l := 3) rfl rfl (by omega) (hk) (hl) (by omega) (by omega) ?_
          rw [show ν a 2 = z from hz]
          refine sw_p 2 (f' := (23, [some (0, 0), some (2, a), some (0, 1), some (0, 2)], [(0, 0), (2, a), (0, z)])) rfl ?_
          refine sw_ial (pn := 24) (l := 3) rfl rfl (by omega) (hk) (hl) (by omega) (by omega) ?_
          rw [show ν a 0 = x from hx]
          refine sw_ne2 (pt := 35) (pn := 27) rfl rfl rfl (by omega) (by omega) (fun h60 => ?_) (fun h60 => ?_)
          · skip
            refine sw_p 4 (f' := (6, [some (0, 0), some (2, a), some (0, 1), some (0, 3)], [(0, 3), (0, 3)])) rfl ?_
            refine sw_ge2 (pt := 41) (pn := 9) rfl rfl rfl (by omega) (by omega) (fun _ => ?_) (fun h => absurd h (by decide))
            refine sw_p 1 (f' := (42, [some (0, 0), some (2, a), some (0, 1), some (0, 3)], [(0, 1)])) rfl ?_
            exact sw_retI rfl rfl rfl ⟨by rw [show od_r (ty_g x y z) 0 = 1 by unfold od_r; rw [g0, g1, g2]; (repeat' split) <;> omega], rfl, rfl⟩
          · skip
            refine sw_p 2 (f' := (29, [some (0, 0), some (2, a), some (0, 1), some (0, 2)], [(0, 0), (0, 2)])) rfl ?_
            refine sw_ge2 (pt := 35) (pn := 32) rfl rfl rfl (by omega) (by omega) (fun _ => ?_) (fun h => absurd h (by decide))
            refine sw_p 4 (f' := (6, [some (0, 0), some (2, a), some (0, 1), some (0, 3)], [(0, 3), (0, 3)])) rfl ?_
            refine sw_ge2 (pt := 41) (pn := 9) rfl rfl rfl (by omega) (by omega) (fun _ => ?_) (fun h => absurd h (by decide))
            refine sw_p 1 (f' := (42, [some (0, 0), some (2, a), some (0, 1), some (0, 3)], [(0, 1)])) rfl ?_
            exact sw_retI rfl rfl rfl ⟨by rw [show od_r (ty_g x y z) 0 = 1 by unfold od_r; rw [g0, g1, g2]; (repeat' split) <;> omega], rfl, rfl⟩
      · skip
        refine sw_p 2 (f' := (20, [some (0, 0), some (2, a), some (0, 0), some (0, 1)], [(0, 1), (2, a)])) rfl ?_
        refine sw_ial (pn := 21) (l := 3) rfl rfl (by omega) (hk) (hl) (by omega) (by omega) ?_
        rw [show ν a 1 = y from hy]
        refine sw_p 2 (f' := (23, [some (0, 0), some (2, a), some (0, 0), some (0, 1)], [(0, 0), (2, a), (0, y)])) rfl ?_
        refine sw_ial (pn := 24) (l := 3) rfl rfl (by omega) (hk) (hl) (by omega) (by omega) ?_
        rw [show ν a 0 = x from hx]
        refine sw_ne2 (pt := 35) (pn := 27) rfl rfl rfl (by omega) (by omega) (fun h64 => ?_) (fun h64 => ?_)
        · skip
          refine sw_p 4 (f' := (6, [some (0, 0), some (2, a), some (0, 0), some (0, 2)], [(0, 3), (0, 2)])) rfl ?_
          refine sw_ge2 (pt := 41) (pn := 9) rfl rfl rfl (by omega) (by omega) (fun h => absurd h (by decide)) (fun _ => ?_)
          refine sw_p 2 (f' := (11, [some (0, 0), some (2, a), some (0, 0), some (0, 2)], [(0, 2), (2, a)])) rfl ?_
          refine sw_ial (pn := 12) (l := 3) rfl rfl (by omega) (hk) (hl) (by omega) (by omega) ?_
          rw [show ν a 2 = z from hz]
          refine sw_p 2 (f' := (14, [some (0, 0), some (2, a), some (0, 0), some (0, 2)], [(0, 0), (2, a), (0, z)])) rfl ?_
          refine sw_ial (pn := 15) (l := 3) rfl rfl (by omega) (hk) (hl) (by omega) (by omega) ?_
          rw [show ν a 0 = x from hx]
          refine sw_gt2 (pt := 32) (pn := 18) rfl rfl rfl (by omega) (by omega) (fun h66 => ?_) (fun h66 => ?_)
          · skip
            refine sw_p 5 (f' := (6, [some (0, 0), some (2, a), some (0, 1), some (0, 3)], [(0, 3), (0, 3)])) rfl ?_
            refine sw_ge2 (pt := 41) (pn := 9) rfl rfl rfl (by omega) (by omega) (fun _ => ?_) (fun h => absurd h (by decide))
            refine sw_p 1 (f' := (42, [some (0, 0), some (2, a), some (0, 1), some (0, 3)], [(0, 1)])) rfl ?_
            exact sw_retI rfl rfl rfl ⟨by rw [show od_r (ty_g x y z) 0 = 1 by unfold od_r; rw [g0, g1, g2]; (repeat' split) <;> omega], rfl, rfl⟩
          · skip
            refine sw_p 2 (f' := (20, [some (0, 0), some (2, a), some (0, 0), some (0, 2)], [(0, 2), (2, a)])) rfl ?_
            refine sw_ial (pn := 21) (l := 3) rfl rfl (by omega) (hk) (hl) (by omega) (by omega) ?_
            rw [show ν a 2 = z from hz]
            refine sw_p 2 (f' := (23, [some (0, 0), some (2, a), some (0, 0), some (0, 2)], [(0, 0), (2, a), (0, z)])) rfl ?_
            refine sw_ial (pn := 24) (l := 3) rfl rfl (by omega) (hk) (hl) (by omega) (by omega) ?_
            rw [show ν a 0 = x from hx]
            refine sw_ne2 (pt := 35) (pn := 27) rfl rfl rfl (by omega) (by omega) (fun h68 => ?_) (fun h68 => ?_)
            · skip
              refine sw_p 4 (f' := (6, [some (0, 0), some (2, a), some (0, 0), some (0, 3)], [(0, 3), (0, 3)])) rfl ?_
              refine sw_ge2 (pt := 41) (pn := 9) rfl rfl rfl (by omega) (by omega) (fun _ => ?_) (fun h => absurd h (by decide))
              refine sw_p 1 (f' := (42, [some (0, 0), some (2, a), some (0, 0), some (0, 3)], [(0, 0)])) rfl ?_
              exact sw_retI rfl rfl rfl ⟨by rw [show od_r (ty_g x y z) 0 = 0 by unfold od_r; rw [g0, g1, g2]; (repeat' split) <;> omega], rfl, rfl⟩
            · skip
              refine sw_p 2 (f' := (29, [some (0, 0), some (2, a), some (0, 0), some (0, 2)], [(0, 0), (0, 2)])) rfl ?_
              refine sw_ge2 (pt := 35) (pn := 32) rfl rfl rfl (by omega) (by omega) (fun _ => ?_) (fun h => absurd h (by decide))
              refine sw_p 4 (f' := (6, [some (0, 0), some (2, a), some (0, 0), some (0, 3)], [(0, 3), (0, 3)])) rfl ?_
              refine sw_ge2 (pt := 41) (pn := 9) rfl rfl rfl (by omega) (by omega) (fun _ => ?_) (fun h => absurd h (by decide))
              refine sw_p 1 (f' := (42, [some (0, 0), some (2, a), some (0, 0), some (0, 3)], [(0, 0)])) rfl ?_
              exact sw_retI rfl rfl rfl ⟨by rw [show od_r (ty_g x y z) 0 = 0 by unfold od_r; rw [g0, g1, g2]; (repeat' split) <;> omega], rfl, rfl⟩
        · skip
          refine sw_p 2 (f' := (29, [some (0, 0), some (2, a), some (0, 0), some (0, 1)], [(0, 0), (0, 1)])) rfl ?_
          refine sw_ge2 (pt := 35) (pn := 32) rfl rfl rfl (by omega) (by omega) (fun _ => ?_) (fun h => absurd h (by decide))
          refine sw_p 4 (f' := (6, [some (0, 0), some (2, a), some (0, 0), some (0, 2)], [(0, 3), (0, 2)])) rfl ?_
          refine sw_ge2 (pt := 41) (pn := 9) rfl rfl rfl (by omega) (by omega) (fun h => absurd h (by decide)) (fun _ => ?_)
          refine sw_p 2 (f' := (11, [some (0, 0), some (2, a), some (0, 0), some (0, 2)], [(0, 2), (2, a)])) rfl ?_
          refine sw_ial (pn := 12) (l := 3) rfl rfl (by omega) (hk) (hl) (by omega) (by omega) ?_
          rw [show ν a 2 = z from hz]
          refine sw_p 2 (f' := (14, [some (0, 0), some (2, a), some (0, 0), some (0, 2)], [(0, 0), (2, a), (0, z)])) rfl ?_
          refine sw_ial (pn := 15) (l := 3) rfl rfl (by omega) (hk) (hl) (by omega) (by omega) ?_
          rw [show ν a 0 = x from hx]
          refine sw_gt2 (pt := 32) (pn := 18) rfl rfl rfl (by omega) (by omega) (fun h74 => ?_) (fun h74 => ?_)
          · skip
            refine sw_p 5 (f' := (6, [some (0, 0), some (2, a), some (0, 1), some (0, 3)], [(0, 3), (0, 3)])) rfl ?_
            refine sw_ge2 (pt := 41) (pn := 9) rfl rfl rfl (by omega) (by omega) (fun _ => ?_) (fun h => absurd h (by decide))
            refine sw_p 1 (f' := (42, [some (0, 0), some (2, a), some (0, 1), some (0, 3)], [(0, 1)])) rfl ?_
            exact sw_retI rfl rfl rfl ⟨by rw [show od_r (ty_g x y z) 0 = 1 by unfold od_r; rw [g0, g1, g2]; (repeat' split) <;> omega], rfl, rfl⟩
          · skip
            refine sw_p 2 (f' := (20, [some (0, 0), some (2, a), some (0, 0), some (0, 2)], [(0, 2), (2, a)])) rfl ?_
            refine sw_ial (pn := 21) (l := 3) rfl rfl (by omega) (hk) (hl) (by omega) (by omega) ?_
            rw [show ν a 2 = z from hz]
            refine sw_p 2 (f' := (23, [some (0, 0), some (2, a), some (0, 0), some (0, 2)], [(0, 0), (2, a), (0, z)])) rfl ?_
            refine sw_ial (pn := 24) (l := 3) rfl rfl (by omega) (hk) (hl) (by omega) (by omega) ?_
            rw [show ν a 0 = x from hx]
            refine sw_ne2 (pt := 35) (pn := 27) rfl rfl rfl (by omega) (by omega) (fun h76 => ?_) (fun h76 => ?_)
            · skip
              refine sw_p 4 (f' := (6, [some (0, 0), some (2, a), some (0, 0), some (0, 3)], [(0, 3), (0, 3)])) rfl ?_
              refine sw_ge2 (pt := 41) (pn := 9) rfl rfl rfl (by omega) (by omega) (fun _ => ?_) (fun h => absurd h (by decide))
              refine sw_p 1 (f' := (42, [some (0, 0), some (2, a), some (0, 0), some (0, 3)], [(0, 0)])) rfl ?_
              exact sw_retI rfl rfl rfl ⟨by rw [show od_r (ty_g x y z) 0 = 0 by unfold od_r; rw [g0, g1, g2]; (repeat' split) <;> omega], rfl, rfl⟩
            · skip
              refine sw_p 2 (f' := (29, [some (0, 0), some (2, a), some (0, 0), some (0, 2)], [(0, 0), (0, 2)])) rfl ?_
              refine sw_ge2 (pt := 35) (pn := 32) rfl rfl rfl (by omega) (by omega) (fun _ => ?_) (fun h => absurd h (by decide))
              refine sw_p 4 (f' := (6, [some (0, 0), some (2, a), some (0, 0), some (0, 3)], [(0, 3), (0, 3)])) rfl ?_
              refine sw_ge2 (pt := 41) (pn := 9) rfl rfl rfl (by omega) (by omega) (fun _ => ?_) (fun h => absurd h (by decide))
              refine sw_p 1 (f' := (42, [some (0, 0), some (2, a), some (0, 0), some (0, 3)], [(0, 0)])) rfl ?_
              exact sw_retI rfl rfl rfl ⟨by rw [show od_r (ty_g x y z) 0 = 0 by unfold od_r; rw [g0, g1, g2]; (repeat' split) <;> omega], rfl, rfl⟩
theorem rk_o1 (ha : 0 ≤ a) (hk : s a (-1) = 0) (hl : s a (-2) = 3) (hx : ν a 0 = x) (hy : ν a 1 = y) (hz : ν a 2 = z) (bx : 0 ≤ x ∧ x ≤ 1024) (by_ : 0 ≤ y ∧ y ≤ 1024) (bz : 0 ≤ z ∧ z ≤ 1024) : sw_w E d 21 (0, [some (0, 1), some (2, a), none, none], []) s ν (sw_is (some (0, od_r (ty_g x y z) 1)) s ν) := by
  have g0 : ty_g x y z 0 = x := rfl
  have g1 : ty_g x y z 1 = y := rfl
  have g2 : ty_g x y z 2 = z := rfl
  refine sw_p 6 (f' := (6, [some (0, 1), some (2, a), some (0, 0), some (0, 0)], [(0, 3), (0, 0)])) rfl ?_
  refine sw_ge2 (pt := 41) (pn := 9) rfl rfl rfl (by omega) (by omega) (fun h => absurd h (by decide)) (fun _ => ?_)
  refine sw_p 2 (f' := (11, [some (0, 1), some (2, a), some (0, 0), some (0, 0)], [(0, 0), (2, a)])) rfl ?_
  refine sw_ial (pn := 12) (l := 3) rfl rfl (by omega) (hk) (hl) (by omega) (by omega) ?_
  rw [show ν a 0 = x from hx]
  refine sw_p 2 (f' := (14, [some (0, 1), some (2, a), some (0, 0), some (0, 0)], [(0, 1), (2, a), (0, x)])) rfl ?_
  refine sw_ial (pn := 15) (l := 3) rfl rfl (by omega) (hk) (hl) (by omega) (by omega) ?_
  rw [show ν a 1 = y from hy]
  refine sw_gt2 (pt := 32) (pn := 18) rfl rfl rfl (by omega) (by omega) (fun h2 => ?_) (fun h2 => ?_)
  · skip
    refine sw_p 5 (f' := (6, [some (0, 1), some (2, a), some (0, 1), some (0, 1)], [(0, 3), (0, 1)])) rfl ?_
    refine sw_ge2 (pt := 41) (pn := 9) rfl rfl rfl (by omega) (by omega) (fun h => absurd h (by decide)) (fun _ => ?_)
    refine sw_p 2 (f' := (11, [some (0, 1), some (2, a), some (0, 1), some (0, 1)], [(0, 1), (2, a)])) rfl ?_
    refine sw_ial (pn := 12) (l := 3) rfl rfl (by omega) (hk) (hl) (by omega) (by omega) ?_
    rw [show ν a 1 = y from hy]
    refine sw_p 2 (f' := (14, [some (0, 1), some (2, a), some (0, 1), some (0, 1)], [(0, 1), (2, a), (0, y)])) rfl ?_
    refine sw_ial (pn := 15) (l := 3) rfl rfl (by omega) (hk) (hl) (by omega) (by omega) ?_
    rw [show ν a 1 = y from hy]
    refine sw_gt2 (pt := 32) (pn := 18) rfl rfl rfl (by omega) (by omega) (fun h4 => ?_) (fun h4 => ?_)
    · skip
      refine sw_p 5 (f' := (6, [some (0, 1), some (2, a), some (0, 2), some (0, 2)], [(0, 3), (0, 2)])) rfl ?_
      refine sw_ge2 (pt := 41) (pn := 9) rfl rfl rfl (by omega) (by omega) (fun h => absurd h (by decide)) (fun _ => ?_)
      refine sw_p 2 (f' := (11, [some (0, 1), some (2, a), some (0, 2), some (0, 2)], [(0, 2), (2, a)])) rfl ?_
      refine sw_ial (pn := 12) (l := 3) rfl rfl (by omega) (hk) (hl) (by omega) (by omega) ?_
      rw [show ν a 2 = z from hz]
      refine sw_p 2 (f' := (14, [some (0, 1), some (2, a), some (0, 2), some (0, 2)], [(0, 1), (2, a), (0, z)])) rfl ?_
      refine sw_ial (pn := 15) (l := 3) rfl rfl (by omega) (hk) (hl) (by omega) (by omega) ?_
      rw [show ν a 1 = y from hy]
      refine sw_gt2 (pt := 32) (pn := 18) rfl rfl rfl (by omega) (by omega) (fun h6 => ?_) (fun h6 => ?_)
      · skip
        refine sw_p 5 (f' := (6, [some (0, 1), some (2, a), some (0, 3), some (0, 3)], [(0, 3), (0, 3)])) rfl ?_
        refine sw_ge2 (pt := 41) (pn := 9) rfl rfl rfl (by omega) (by omega) (fun _ => ?_) (fun h => absurd h (by decide))
        refine sw_p 1 (f' := (42, [some (0, 1), some (2, a), some (0, 3), some (0, 3)], [(0, 3)])) rfl ?_
        exact sw_retI rfl rfl rfl ⟨by rw [show od_r (ty_g x y z) 1 = 3 by unfold od_r; rw [g0, g1, g2]; (repeat' split) <;> omega], rfl, rfl⟩
      · skip
        refine sw_p 2 (f' := (20, [some (0, 1), some (2, a), some (0, 2), some (0, 2)], [(0, 2), (2, a)])) rfl ?_
        refine sw_ial (pn := 21) (l := 3) rfl rfl (by omega) (hk) (hl) (by omega) (by omega) ?_
        rw [show ν a 2 = z from hz]
        refine sw_p 2 (f' := (23, [some (0, 1), some (2, a), some (0, 2), some (0, 2)], [(0, 1), (2, a), (0, z)])) rfl ?_
        refine sw_ial (pn := 24) (l := 3) rfl rfl (by omega) (hk) (hl) (by omega) (by omega) ?_
        rw [show ν a 1 = y from hy]
        refine sw_ne2 (pt := 35) (pn := 27) rfl rfl rfl (by omega) (by omega) (fun h8 => ?_) (fun h8 => ?_)
        · skip
          refine sw_p 4 (f' := (6, [some (0, 1), some (2, a), some (0, 2), some (0, 3)], [(0, 3), (0, 3)])) rfl ?_
          refine sw_ge2 (pt := 41) (pn := 9) rfl rfl rfl (by omega) (by omega) (fun _ => ?_) (fun h => absurd h (by decide))
          refine sw_p 1 (f' := (42, [some (0, 1), some (2, a), some (0, 2), some (0, 3)], [(0, 2)])) rfl ?_
          exact sw_retI rfl rfl rfl ⟨by rw [show od_r (ty_g x y z) 1 = 2 by unfold od_r; rw [g0, g1, g2]; (repeat' split) <;> omega], rfl, rfl⟩
        · skip
          refine sw_p 2 (f' := (29, [some (0, 1), some (2, a), some (0, 2), some (0, 2)], [(0, 1), (0, 2)])) rfl ?_
          refine sw_ge2 (pt := 35) (pn := 32) rfl rfl rfl (by omega) (by omega) (fun _ => ?_) (fun h => absurd h (by decide))
          refine sw_p 4 (f' := (6, [some (0, 1), some (2, a), some (0, 2), some (0, 3)], [(0, 3), (0, 3)])) rfl ?_
          refine sw_ge2 (pt := 41) (pn := 9) rfl rfl rfl (by omega) (by omega) (fun _ => ?_) (fun h => absurd h (by decide))
          refine sw_p 1 (f' := (42, [some (0, 1), some (2, a), some (0, 2), some (0, 3)], [(0, 2)])) rfl ?_
          exact sw_retI rfl rfl rfl ⟨by rw [show od_r (ty_g x y z) 1 = 2 by unfold od_r; rw [g0, g1, g2]; (repeat' split) <;> omega], rfl, rfl⟩
    · skip
      refine sw_p 2 (f' := (20, [some (0, 1), some (2, a), some (0, 1), some (0, 1)], [(0, 1), (2, a)])) rfl ?_
      refine sw_ial (pn := 21) (l := 3) rfl rfl (by omega) (hk) (hl) (by omega) (by omega) ?_
      rw [show ν a 1 = y from hy]
      refine sw_p 2 (f' := (23, [some (0, 1), some (2, a), some (0, 1), some (0, 1)], [(0, 1), (2, a), (0, y)])) rfl ?_
      refine sw_ial (pn := 24) (l := 3) rfl rfl (by omega) (hk) (hl) (by omega) (by omega) ?_
      rw [show ν a 1 = y from hy]
      refine sw_ne2 (pt := 35) (pn := 27) rfl rfl rfl (by omega) (by omega) (fun h12 => ?_) (fun h12 => ?_)
      · skip
        refine sw_p 4 (f' := (6, [some (0, 1), some (2, a), some (0, 1), some (0, 2)], [(0, 3), (0, 2)])) rfl ?_
        refine sw_ge2 (pt := 41) (pn := 9) rfl rfl rfl (by omega) (by omega) (fun h => absurd h (by decide)) (fun _ => ?_)
        refine sw_p 2 (f' := (11, [some (0, 1), some (2, a), some (0, 1), some (0, 2)], [(0, 2), (2, a)])) rfl ?_
        refine sw_ial (pn := 12) (l := 3) rfl rfl (by omega) (hk) (hl) (by omega) (by omega) ?_
        rw [show ν a 2 = z from hz]
        refine sw_p 2 (f' := (14, [some (0, 1), some (2, a), some (0, 1), some (0, 2)], [(0, 1), (2, a), (0, z)])) rfl ?_
        refine sw_ial (pn := 15) (l := 3) rfl rfl (by omega) (hk) (hl) (by omega) (by omega) ?_
        rw [show ν a 1 = y from hy]
        refine sw_gt2 (pt := 32) (pn := 18) rfl rfl rfl (by omega) (by omega) (fun h14 => ?_) (fun h14 => ?_)
        · skip
          refine sw_p 5 (f' := (6, [some (0, 1), some (2, a), some (0, 2), some (0, 3)], [(0, 3), (0, 3)])) rfl ?_
          refine sw_ge2 (pt := 41) (pn := 9) rfl rfl rfl (by omega) (by omega) (fun _ => ?_) (fun h => absurd h (by decide))
          refine sw_p 1 (f' := (42, [some (0, 1), some (2, a), some (0, 2), some (0, 3)], [(0, 2)])) rfl ?_
          exact sw_retI rfl rfl rfl ⟨by rw [show od_r (ty_g x y z) 1 = 2 by unfold od_r; rw [g0, g1, g2]; (repeat' split) <;> omega], rfl, rfl⟩
        · skip
          refine sw_p 2 (f' := (20, [some (0, 1), some (2, a), some (0, 1), some (0, 2)], [(0, 2), (2, a)])) rfl ?_
          refine sw_ial (pn := 21) (l := 3) rfl rfl (by omega) (hk) (hl) (by omega) (by omega) ?_
          rw [show ν a 2 = z from hz]
          refine sw_p 2 (f' := (23, [some (0, 1), some (2, a), some (0, 1), some (0, 2)], [(0, 1), (2, a), (0, z)])) rfl ?_
          refine sw_ial (pn := 24) (l := 3) rfl rfl (by omega) (hk) (hl) (by omega) (by omega) ?_
          rw [show ν a 1 = y from hy]
          refine sw_ne2 (pt := 35) (pn := 27) rfl rfl rfl (by omega) (by omega) (fun h16 => ?_) (fun h16 => ?_)
          · skip
            refine sw_p 4 (f' := (6, [some (0, 1), some (2, a), some (0, 1), some (0, 3)], [(0, 3), (0, 3)])) rfl ?_
            refine sw_ge2 (pt := 41) (pn := 9) rfl rfl rfl (by omega) (by omega) (fun _ => ?_) (fun h => absurd h (by decide))
            refine sw_p 1 (f' := (42, [some (0, 1), some (2, a), some (0, 1), some (0, 3)], [(0, 1)])) rfl ?_
            exact sw_retI rfl rfl rfl ⟨by rw [show od_r (ty_g x y z) 1 = 1 by unfold od_r; rw [g0, g1, g2]; (repeat' split) <;> omega], rfl, rfl⟩
          · skip
            refine sw_p 2 (f' := (29, [some (0, 1), some (2, a), some (0, 1), some (0, 2)], [(0, 1), (0, 2)])) rfl ?_
            refine sw_ge2 (pt := 35) (pn := 32) rfl rfl rfl (by omega) (by omega) (fun _ => ?_) (fun h => absurd h (by decide))
            refine sw_p 4 (f' := (6, [some (0, 1), some (2, a), some (0, 1), some (0, 3)], [(0, 3), (0, 3)])) rfl ?_
            refine sw_ge2 (pt := 41) (pn := 9) rfl rfl rfl (by omega) (by omega) (fun _ => ?_) (fun h => absurd h (by decide))
            refine sw_p 1 (f' := (42, [some (0, 1), some (2, a), some (0, 1), some (0, 3)], [(0, 1)])) rfl ?_
            exact sw_retI rfl rfl rfl ⟨by rw [show od_r (ty_g x y z) 1 = 1 by unfold od_r; rw [g0, g1, g2]; (repeat' split) <;> omega], rfl, rfl⟩
      · skip
        refine sw_p 2 (f' := (29, [some (0, 1), some (2, a), some (0, 1), some (0, 1)], [(0, 1), (0, 1)])) rfl ?_
        refine sw_ge2 (pt := 35) (pn := 32) rfl rfl rfl (by omega) (by omega) (fun _ => ?_) (fun h => absurd h (by decide))
        refine sw_p 4 (f' := (6, [some (0, 1), some (2, a), some (0, 1), some (0, 2)], [(0, 3), (0, 2)])) rfl ?_
        refine sw_ge2 (pt := 41) (pn := 9) rfl rfl rfl (by omega) (by omega) (fun h => absurd h (by decide)) (fun _ => ?_)
        refine sw_p 2 (f' := (11, [some (0, 1), some (2, a), some (0, 1), some (0, 2)], [(0, 2), (2, a)])) rfl ?_
        refine sw_ial (pn := 12) (l := 3) rfl rfl (by omega) (hk) (hl) (by omega) (by omega) ?_
        rw [show ν a 2 = z from hz]
        refine sw_p 2 (f' := (14, [some (0, 1), some (2, a), some (0, 1), some (0, 2)], [(0, 1), (2, a), (0, z)])) rfl ?_
        refine sw_ial (pn := 15) (l := 3) rfl rfl (by omega) (hk) (hl) (by omega) (by omega) ?_
        rw [show ν a 1 = y from hy]
        refine sw_gt2 (pt := 32) (pn := 18) rfl rfl rfl (by omega) (by omega) (fun h22 => ?_) (fun h22 => ?_)
        · skip
          refine sw_p 5 (f' := (6, [some (0, 1), some (2, a), some (0, 2), some (0, 3)], [(0, 3), (0, 3)])) rfl ?_
          refine sw_ge2 (pt := 41) (pn := 9) rfl rfl rfl (by omega) (by omega) (fun _ => ?_) (fun h => absurd h (by decide))
          refine sw_p 1 (f' := (42, [some (0, 1), some (2, a), some (0, 2), some (0, 3)], [(0, 2)])) rfl ?_
          exact sw_retI rfl rfl rfl ⟨by rw [show od_r (ty_g x y z) 1 = 2 by unfold od_r; rw [g0, g1, g2]; (repeat' split) <;> omega], rfl, rfl⟩
        · skip
          refine sw_p 2 (f' := (20, [some (0, 1), some (2, a), some (0, 1), some (0, 2)], [(0, 2), (2, a)])) rfl ?_
          refine sw_ial (pn := 21) (l := 3) rfl rfl (by omega) (hk) (hl) (by omega) (by omega) ?_
          rw [show ν a 2 = z from hz]
          refine sw_p 2 (f' := (23, [some (0, 1), some (2, a), some (0, 1), some (0, 2)], [(0, 1), (2, a), (0, z)])) rfl ?_
          refine sw_ial (pn := 24) (l := 3) rfl rfl (by omega) (hk) (hl) (by omega) (by omega) ?_
          rw [show ν a 1 = y from hy]
          refine sw_ne2 (pt := 35) (pn := 27) rfl rfl rfl (by omega) (by omega) (fun h24 => ?_) (fun h24 => ?_)
          · skip
            refine sw_p 4 (f' := (6, [some (0, 1), some (2, a), some (0, 1), some (0, 3)], [(0, 3), (0, 3)])) rfl ?_
            refine sw_ge2 (pt := 41) (pn := 9) rfl rfl rfl (by omega) (by omega) (fun _ => ?_) (fun h => absurd h (by decide))
            refine sw_p 1 (f' := (42, [some (0, 1), some (2, a), some (0, 1), some (0, 3)], [(0, 1)])) rfl ?_
            exact sw_retI rfl rfl rfl ⟨by rw [show od_r (ty_g x y z) 1 = 1 by unfold od_r; rw [g0, g1, g2]; (repeat' split) <;> omega], rfl, rfl⟩
          · skip
            refine sw_p 2 (f' := (29, [some (0, 1), some (2, a), some (0, 1), some (0, 2)], [(0, 1), (0, 2)])) rfl ?_
            refine sw_ge2 (pt := 35) (pn := 32) rfl rfl rfl (by omega) (by omega) (fun _ => ?_) (fun h => absurd h (by decide))
            refine sw_p 4 (f' := (6, [some (0, 1), some (2, a), some (0, 1), some (0, 3)], [(0, 3), (0, 3)])) rfl ?_
            refine sw_ge2 (pt := 41) (pn := 9) rfl rfl rfl (by omega) (by omega) (fun _ => ?_) (fun h => absurd h (by decide))
            refine sw_p 1 (f' := (42, [some (0, 1), some (2, a), some (0, 1), some (0, 3)], [(0, 1)])) rfl ?_
            exact sw_retI rfl rfl rfl ⟨by rw [show od_r (ty_g x y z) 1 = 1 by unfold od_r; rw [g0, g1, g2]; (repeat' split) <;> omega], rfl, rfl⟩
  · skip
    refine sw_p 2 (f' := (20, [some (0, 1), some (2, a), some (0, 0), some (0, 0)], [(0, 0), (2, a)])) rfl ?_
    refine sw_ial (pn := 21) (l := 3) rfl rfl (by omega) (hk) (hl) (by omega) (by omega) ?_
    rw [show ν a 0 = x from hx]
    refine sw_p 2 (f' := (23, [some (0, 1), some (2, a), some (0, 0), some (0, 0)], [(0, 1), (2, a), (0, x)])) rfl ?_
    refine sw_ial (pn := 24) (l := 3) rfl rfl (by omega) (hk) (hl) (by omega) (by omega) ?_
    rw [show ν a 1 = y from hy]
    refine sw_ne2 (pt := 35) (pn := 27) rfl rfl rfl (by omega) (by omega) (fun h28 => ?_) (fun h28 => ?_)
    · skip
      refine sw_p 4 (f' := (6, [some (0, 1), some (2, a), some (0, 0), some (0, 1)], [(0, 3), (0, 1)])) rfl ?_
      refine sw_ge2 (pt := 41) (pn := 9) rfl rfl rfl (by omega) (by omega) (fun h => absurd h (by decide)) (fun _ => ?_)
      refine sw_p 2 (f' := (11, [some (0, 1), some (2, a), some (0, 0), some (0, 1)], [(0, 1), (2, a)])) rfl ?_
      refine sw_ial (pn := 12) (l := 3) rfl rfl (by omega) (hk) (hl) (by omega) (by omega) ?_
      rw [show ν a 1 = y from hy]
      refine sw_p 2 (f' := (14, [some (0, 1), some (2, a), some (0, 0), some (0, 1)], [(0, 1), (2, a), (0, y)])) rfl ?_
      refine sw_ial (pn := 15) (l := 3) rfl rfl (by omega) (hk) (hl) (by omega) (by omega) ?_
      rw [show ν a 1 = y from hy]
      refine sw_gt2 (pt := 32) (pn := 18) rfl rfl rfl (by omega) (by omega) (fun h30 => ?_) (fun h30 => ?_)
      · skip
        refine sw_p 5 (f' := (6, [some (0, 1), some (2, a), some (0, 1), some (0, 2)], [(0, 3), (0, 2)])) rfl ?_
        refine sw_ge2 (pt := 41) (pn := 9) rfl rfl rfl (by omega) (by omega) (fun h => absurd h (by decide)) (fun _ => ?_)
        refine sw_p 2 (f' := (11, [some (0, 1), some (2, a), some (0, 1), some (0, 2)], [(0, 2), (2, a)])) rfl ?_
        refine sw_ial (pn := 12) (l := 3) rfl rfl (by omega) (hk) (hl) (by omega) (by omega) ?_
        rw [show ν a 2 = z from hz]
        refine sw_p 2 (f' := (14, [some (0, 1), some (2, a), some (0, 1), some (0, 2)], [(0, 1), (2, a), (0, z)])) rfl ?_
        refine sw_ial (pn := 15) (l := 3) rfl rfl (by omega) (hk) (hl) (by omega) (by omega) ?_
        rw [show ν a 1 = y from hy]
        refine sw_gt2 (pt := 32) (pn := 18) rfl rfl rfl (by omega) (by omega) (fun h32 => ?_) (fun h32 => ?_)
        · skip
          refine sw_p 5 (f' := (6, [some (0, 1), some (2, a), some (0, 2), some (0, 3)], [(0, 3), (0, 3)])) rfl ?_
          refine sw_ge2 (pt := 41) (pn := 9) rfl rfl rfl (by omega) (by omega) (fun _ => ?_) (fun h => absurd h (by decide))
          refine sw_p 1 (f' := (42, [some (0, 1), some (2, a), some (0, 2), some (0, 3)], [(0, 2)])) rfl ?_
          exact sw_retI rfl rfl rfl ⟨by rw [show od_r (ty_g x y z) 1 = 2 by unfold od_r; rw [g0, g1, g2]; (repeat' split) <;> omega], rfl, rfl⟩
        · skip
          refine sw_p 2 (f' := (20, [some (0, 1), some (2, a), some (0, 1), some (0, 2)], [(0, 2), (2, a)])) rfl ?_
          refine sw_ial (pn := 21) (l := 3) rfl rfl (by omega) (hk) (hl) (by omega) (by omega) ?_
          rw [show ν a 2 = z from hz]
          refine sw_p 2 (f' := (23, [some (0, 1), some (2, a), some (0, 1), some (0, 2)], [(0, 1), (2, a), (0, z)])) rfl ?_
          refine sw_ial (pn := 24) (l := 3) rfl rfl (by omega) (hk) (hl) (by omega) (by omega) ?_
          rw [show ν a 1 = y from hy]
          refine sw_ne2 (pt := 35) (pn := 27) rfl rfl rfl (by omega) (by omega) (fun h34 => ?_) (fun h34 => ?_)
          · skip
            refine sw_p 4 (f' := (6, [some (0, 1), some (2, a), some (0, 1), some (0, 3)], [(0, 3), (0, 3)])) rfl ?_
            refine sw_ge2 (pt := 41) (pn := 9) rfl rfl rfl (by omega) (by omega) (fun _ => ?_) (fun h => absurd h (by decide))
            refine sw_p 1 (f' := (42, [some (0, 1), some (2, a), some (0, 1), some (0, 3)], [(0, 1)])) rfl ?_
            exact sw_retI rfl rfl rfl ⟨by rw [show od_r (ty_g x y z) 1 = 1 by unfold od_r; rw [g0, g1, g2]; (repeat' split) <;> omega], rfl, rfl⟩
          · skip
            refine sw_p 2 (f' := (29, [some (0, 1), some (2, a), some (0, 1), some (0, 2)], [(0, 1), (0, 2)])) rfl ?_
            refine sw_ge2 (pt := 35) (pn := 32) rfl rfl rfl (by omega) (by omega) (fun _ => ?_) (fun h => absurd h (by decide))
            refine sw_p 4 (f' := (6, [some (0, 1), some (2, a), some (0, 1), some (0, 3)], [(0, 3), (0, 3)])) rfl ?_
            refine sw_ge2 (pt := 41) (pn := 9) rfl rfl rfl (by omega) (by omega) (fun _ => ?_) (fun h => absurd h (by decide))
            refine sw_p 1 (f' := (42, [some (0, 1), some (2, a), some (0, 1), some (0, 3)], [(0, 1)])) rfl ?_
            exact sw_retI rfl rfl rfl ⟨by rw [show od_r (ty_g x y z) 1 = 1 by unfold od_r; rw [g0, g1, g2]; (repeat' split) <;> omega], rfl, rfl⟩
      · skip
        refine sw_p 2 (f' := (20, [some (0, 1), some (2, a), some (0, 0), some (0, 1)], [(0, 1), (2, a)])) rfl ?_
        refine sw_ial (pn := 21) (l := 3) rfl rfl (by omega) (hk) (hl) (by omega) (by omega) ?_
        rw [show ν a 1 = y from hy]
        refine sw_p 2 (f' := (23, [some (0, 1), some (2, a), some (0, 0), some (0, 1)], [(0, 1), (2, a), (0, y)])) rfl ?_
        refine sw_ial (pn := 24) (l := 3) rfl rfl (by omega) (hk) (hl) (by omega) (by omega) ?_
        rw [show ν a 1 = y from hy]
        refine sw_ne2 (pt := 35) (pn := 27) rfl rfl rfl (by omega) (by omega) (fun h38 => ?_) (fun h38 => ?_)
        · skip
          refine sw_p 4 (f' := (6, [some (0, 1), some (2, a), some (0, 0), some (0, 2)], [(0, 3), (0, 2)])) rfl ?_
          refine sw_ge2 (pt := 41) (pn := 9) rfl rfl rfl (by omega) (by omega) (fun h => absurd h (by decide)) (fun _ => ?_)
          refine sw_p 2 (f' := (11, [some (0, 1), some (2, a), some (0, 0), some (0, 2)], [(0, 2), (2, a)])) rfl ?_
          refine sw_ial (pn := 12) (l := 3) rfl rfl (by omega) (hk) (hl) (by omega) (by omega) ?_
          rw [show ν a 2 = z from hz]
          refine sw_p 2 (f' := (14, [some (0, 1), some (2, a), some (0, 0), some (0, 2)], [(0, 1), (2, a), (0, z)])) rfl ?_
          refine sw_ial (pn := 15) (l := 3) rfl rfl (by omega) (hk) (hl) (by omega) (by omega) ?_
          rw [show ν a 1 = y from hy]
          refine sw_gt2 (pt := 32) (pn := 18) rfl rfl rfl (by omega) (by omega) (fun h40 => ?_) (fun h40 => ?_)
          · skip
            refine sw_p 5 (f' := (6, [some (0, 1), some (2, a), some (0, 1), some (0, 3)], [(0, 3), (0, 3)])) rfl ?_
            refine sw_ge2 (pt := 41) (pn := 9) rfl rfl rfl (by omega) (by omega) (fun _ => ?_) (fun h => absurd h (by decide))
            refine sw_p 1 (f' := (42, [some (0, 1), some (2, a), some (0, 1), some (0, 3)], [(0, 1)])) rfl ?_
            exact sw_retI rfl rfl rfl ⟨by rw [show od_r (ty_g x y z) 1 = 1 by unfold od_r; rw [g0, g1, g2]; (repeat' split) <;> omega], rfl, rfl⟩
          · skip
            refine sw_p 2 (f' := (20, [some (0, 1), some (2, a), some (0, 0), some (0, 2)], [(0, 2), (2, a)])) rfl ?_
            refine sw_ial (pn := 21) (l := 3) rfl rfl (by omega) (hk) (hl) (by omega) (by omega) ?_
            rw [show ν a 2 = z from hz]
            refine sw_p 2 (f' := (23, [some (0, 1), some (2, a), some (0, 0), some (0, 2)], [(0, 1), (2, a), (0, z)])) rfl ?_
            refine sw_ial (pn := 24) (l := 3) rfl rfl (by omega) (hk) (hl) (by omega) (by omega) ?_
            rw [show ν a 1 = y from hy]
            refine sw_ne2 (pt := 35) (pn := 27) rfl rfl rfl (by omega) (by omega) (fun h42 => ?_) (fun h42 => ?_)
            · skip
              refine sw_p 4 (f' := (6, [some (0, 1), some (2, a), some (0, 0), some (0, 3)], [(0, 3), (0, 3)])) rfl ?_
              refine sw_ge2 (pt := 41) (pn := 9) rfl rfl rfl (by omega) (by omega) (fun _ => ?_) (fun h => absurd h (by decide))
              refine sw_p 1 (f' := (42, [some (0, 1), some (2, a), some (0, 0), some (0, 3)], [(0, 0)])) rfl ?_
              exact sw_retI rfl rfl rfl ⟨by rw [show od_r (ty_g x y z) 1 = 0 by unfold od_r; rw [g0, g1, g2]; (repeat' split) <;> omega], rfl, rfl⟩
            · skip
              refine sw_p 2 (f' := (29, [some (0, 1), some (2, a), some (0, 0), some (0, 2)], [(0, 1), (0, 2)])) rfl ?_
              refine sw_ge2 (pt := 35) (pn := 32) rfl rfl rfl (by omega) (by omega) (fun _ => ?_) (fun h => absurd h (by decide))
              refine sw_p 4 (f' := (6, [some (0, 1), some (2, a), some (0, 0), some (0, 3)], [(0, 3), (0, 3)])) rfl ?_
              refine sw_ge2 (pt := 41) (pn := 9) rfl rfl rfl (by omega) (by omega) (fun _ => ?_) (fun h => absurd h (by decide))
              refine sw_p 1 (f' := (42, [some (0, 1), some (2, a), some (0, 0), some (0, 3)], [(0, 0)])) rfl ?_
              exact sw_retI rfl rfl rfl ⟨by rw [show od_r (ty_g x y z) 1 = 0 by unfold od_r; rw [g0, g1, g2]; (repeat' split) <;> omega], rfl, rfl⟩
        · skip
          refine sw_p 2 (f' := (29, [some (0, 1), some (2, a), some (0, 0), some (0, 1)], [(0, 1), (0, 1)])) rfl ?_
          refine sw_ge2 (pt := 35) (pn := 32) rfl rfl rfl (by omega) (by omega) (fun _ => ?_) (fun h => absurd h (by decide))
          refine sw_p 4 (f' := (6, [some (0, 1), some (2, a), some (0, 0), some (0, 2)], [(0, 3), (0, 2)])) rfl ?_
          refine sw_ge2 (pt := 41) (pn := 9) rfl rfl rfl (by omega) (by omega) (fun h => absurd h (by decide)) (fun _ => ?_)
          refine sw_p 2 (f' := (11, [some (0, 1), some (2, a), some (0, 0), some (0, 2)], [(0, 2), (2, a)])) rfl ?_
          refine sw_ial (pn := 12) (l := 3) rfl rfl (by omega) (hk) (hl) (by omega) (by omega) ?_
          rw [show ν a 2 = z from hz]
          refine sw_p 2 (f' := (14, [some (0, 1), some (2, a), some (0, 0), some (0, 2)], [(0, 1), (2, a), (0, z)])) rfl ?_
          refine sw_ial (pn := 15) (l := 3) rfl rfl (by omega) (hk) (hl) (by omega) (by omega) ?_
          rw [show ν a 1 = y from hy]
          refine sw_gt2 (pt := 32) (pn := 18) rfl rfl rfl (by omega) (by omega) (fun h48 => ?_) (fun h48 => ?_)
          · skip
            refine sw_p 5 (f' := (6, [some (0, 1), some (2, a), some (0, 1), some (0, 3)], [(0, 3), (0, 3)])) rfl ?_
            refine sw_ge2 (pt := 41) (pn := 9) rfl rfl rfl (by omega) (by omega) (fun _ => ?_) (fun h => absurd h (by decide))
            refine sw_p 1 (f' := (42, [some (0, 1), some (2, a), some (0, 1), some (0, 3)], [(0, 1)])) rfl ?_
            exact sw_retI rfl rfl rfl ⟨by rw [show od_r (ty_g x y z) 1 = 1 by unfold od_r; rw [g0, g1, g2]; (repeat' split) <;> omega], rfl, rfl⟩
          · skip
            refine sw_p 2 (f' := (20, [some (0, 1), some (2, a), some (0, 0), some (0, 2)], [(0, 2), (2, a)])) rfl ?_
            refine sw_ial (pn := 21) (l := 3) rfl rfl (by omega) (hk) (hl) (by omega) (by omega) ?_
            rw [show ν a 2 = z from hz]
            refine sw_p 2 (f' := (23, [some (0, 1), some (2, a), some (0, 0), some (0, 2)], [(0, 1), (2, a), (0, z)])) rfl ?_
            refine sw_ial (pn := 24) (l := 3) rfl rfl (by omega) (hk) (hl) (by omega) (by omega) ?_
            rw [show ν a 1 = y from hy]
            refine sw_ne2 (pt := 35) (pn := 27) rfl rfl rfl (by omega) (by omega) (fun h50 => ?_) (fun h50 => ?_)
            · skip
              refine sw_p 4 (f' := (6, [some (0, 1), some (2, a), some (0, 0), some (0, 3)], [(0, 3), (0, 3)])) rfl ?_
              refine sw_ge2 (pt := 41) (pn := 9) rfl rfl rfl (by omega) (by omega) (fun _ => ?_) (fun h => absurd h (by decide))
              refine sw_p 1 (f' := (42, [some (0, 1), some (2, a), some (0, 0), some (0, 3)], [(0, 0)])) rfl ?_
              exact sw_retI rfl rfl rfl ⟨by rw [show od_r (ty_g x y z) 1 = 0 by unfold od_r; rw [g0, g1, g2]; (repeat' split) <;> omega], rfl, rfl⟩
            · skip
              refine sw_p 2 (f' := (29, [some (0, 1), some (2, a), some (0, 0), some (0, 2)], [(0, 1), (0, 2)])) rfl ?_
              refine sw_ge2 (pt := 35) (pn := 32) rfl rfl rfl (by omega) (by omega) (fun _ => ?_) (fun h => absurd h (by decide))
              refine sw_p 4 (f' := (6, [some (0, 1), some (2, a), some (0, 0), some (0, 3)], [(0, 3), (0, 3)])) rfl ?_
              refine sw_ge2 (pt := 41) (pn := 9) rfl rfl rfl (by omega) (by omega) (fun _ => ?_) (fun h => absurd h (by decide))
              refine sw_p 1 (f' := (42, [some (0, 1), some (2, a), some (0, 0), some (0, 3)], [(0, 0)])) rfl ?_
              exact sw_retI rfl rfl rfl ⟨by rw [show od_r (ty_g x y z) 1 = 0 by unfold od_r; rw [g0, g1, g2]; (repeat' split) <;> omega], rfl, rfl⟩
    · skip
      refine sw_p 2 (f' := (29, [some (0, 1), some (2, a), some (0, 0), some (0, 0)], [(0, 1), (0, 0)])) rfl ?_
      refine sw_ge2 (pt := 35) (pn := 32) rfl rfl rfl (by omega) (by omega) (fun h => absurd h (by decide)) (fun _ => ?_)
      refine sw_p 5 (f' := (6, [some (0, 1), some (2, a), some (0, 1), some (0, 1)], [(0, 3), (0, 1)])) rfl ?_
      refine sw_ge2 (pt := 41) (pn := 9) rfl rfl rfl (by omega) (by omega) (fun h => absurd h (by decide)) (fun _ => ?_)
      refine sw_p 2 (f' := (11, [some (0, 1), some (2, a), some (0, 1), some (0, 1)], [(0, 1), (2, a)])) rfl ?_
      refine sw_ial (pn := 12) (l := 3) rfl rfl (by omega) (hk) (hl) (by omega) (by omega) ?_
      rw [show ν a 1 = y from hy]
      refine sw_p 2 (f' := (14, [some (0, 1), some (2, a), some (0, 1), some (0, 1)], [(0, 1), (2, a), (0, y)])) rfl ?_
      refine sw_ial (pn := 15) (l := 3) rfl rfl (by omega) (hk) (hl) (by omega) (by omega) ?_
      rw [show ν a 1 = y from hy]
      refine sw_gt2 (pt := 32) (pn := 18) rfl rfl rfl (by omega) (by omega) (fun h56 => ?_) (fun h56 => ?_)
      · skip
        refine sw_p 5 (f' := (6, [some (0, 1), some (2, a), some (0, 2), some (0, 2)], [(0, 3), (0, 2)])) rfl ?_
        refine sw_ge2 (pt := 41) (pn := 9) rfl rfl rfl (by omega) (by omega) (fun h => absurd h (by decide)) (fun _ => ?_)
        refine sw_p 2 (f' := (11, [some (0, 1), some (2, a), some (0, 2), some (0, 2)], [(0, 2), (2, a)])) rfl ?_
        refine sw_ial (pn := 12) (l := 3) rfl rfl (by omega) (hk) (hl) (by omega) (by omega) ?_
        rw [show ν a 2 = z from hz]
        refine sw_p 2 (f' := (14, [some (0, 1), some (2, a), some (0, 2), some (0, 2)], [(0, 1), (2, a), (0, z)])) rfl ?_
        refine sw_ial (pn := 15) (l := 3) rfl rfl (by omega) (hk) (hl) (by omega) (by omega) ?_
        rw [show ν a 1 = y from hy]
        refine sw_gt2 (pt := 32) (pn := 18) rfl rfl rfl (by omega) (by omega) (fun h58 => ?_) (fun h58 => ?_)
        · skip
          refine sw_p 5 (f' := (6, [some (0, 1), some (2, a), some (0, 3), some (0, 3)], [(0, 3), (0, 3)])) rfl ?_
          refine sw_ge2 (pt := 41) (pn := 9) rfl rfl rfl (by omega) (by omega) (fun _ => ?_) (fun h => absurd h (by decide))
          refine sw_p 1 (f' := (42, [some (0, 1), some (2, a), some (0, 3), some (0, 3)], [(0, 3)])) rfl ?_
          exact sw_retI rfl rfl rfl ⟨by rw [show od_r (ty_g x y z) 1 = 3 by unfold od_r; rw [g0, g1, g2]; (repeat' split) <;> omega], rfl, rfl⟩
        · skip
          refine sw_p 2 (f' := (20, [some (0, 1), some (2, a), some (0, 2), some (0, 2)], [(0, 2), (2, a)])) rfl ?_
          refine sw_ial (pn := 21) (l := 3) rfl rfl (by omega) (hk) (hl) (by omega) (by omega) ?_
          rw [show ν a 2 = z from hz]
          refine sw_p 2 (f' := (23, [some (0, 1), some (2, a), some (0, 2), some (0, 2)], [(0, 1), (2, a), (0, z)])) rfl ?_
          refine sw_ial (pn := 24) (l := 3) rfl rfl (by omega) (hk) (hl) (by omega) (by omega) ?_
          rw [show ν a 1 = y from hy]
          refine sw_ne2 (pt := 35) (pn := 27) rfl rfl rfl (by omega) (by omega) (fun h60 => ?_) (fun h60 => ?_)
          · skip
            refine sw_p 4 (f' := (6, [some (0, 1), some (2, a), some (0, 2), some (0, 3)], [(0, 3), (0, 3)])) rfl ?_
            refine sw_ge2 (pt := 41) (pn := 9) rfl rfl rfl (by omega) (by omega) (fun _ => ?_) (fun h => absurd h (by decide))
            refine sw_p 1 (f' := (42, [some (0, 1), some (2, a), some (0, 2), some (0, 3)], [(0, 2)])) rfl ?_
            exact sw_retI rfl rfl rfl ⟨by rw [show od_r (ty_g x y z) 1 = 2 by unfold od_r; rw [g0, g1, g2]; (repeat' split) <;> omega], rfl, rfl⟩
          · skip
            refine sw_p 2 (f' := (29, [some (0, 1), some (2, a), some (0, 2), some (0, 2)], [(0, 1), (0, 2)])) rfl ?_
            refine sw_ge2 (pt := 35) (pn := 32) rfl rfl rfl (by omega) (by omega) (fun _ => ?_) (fun h => absurd h (by decide))
            refine sw_p 4 (f' := (6, [some (0, 1), some (2, a), some (0, 2), some (0, 3)], [(0, 3), (0, 3)])) rfl ?_
            refine sw_ge2 (pt := 41) (pn := 9) rfl rfl rfl (by omega) (by omega) (fun _ => ?_) (fun h => absurd h (by decide))
            refine sw_p 1 (f' := (42, [some (0, 1), some (2, a), some (0, 2), some (0, 3)], [(0, 2)])) rfl ?_
            exact sw_retI rfl rfl rfl ⟨by rw [show od_r (ty_g x y z) 1 = 2 by unfold od_r; rw [g0, g1, g2]; (repeat' split) <;> omega], rfl, rfl⟩
      · skip
        refine sw_p 2 (f' := (20, [some (0, 1), some (2, a), some (0, 1), some (0, 1)], [(0, 1), (2, a)])) rfl ?_
        refine sw_ial (pn := 21) (l := 3) rfl rfl (by omega) (hk) (hl) (by omega) (by omega) ?_
        rw [show ν a 1 = y from hy]
        refine sw_p 2 (f' := (23, [some (0, 1), some (2, a), some (0, 1), some (0, 1)], [(0, 1), (2, a), (0, y)])) rfl ?_
        refine sw_ial (pn := 24) (l := 3) rfl rfl (by omega) (hk) (hl) (by omega) (by omega) ?_
        rw [show ν a 1 = y from hy]
        refine sw_ne2 (pt := 35) (pn := 27) rfl rfl rfl (by omega) (by omega) (fun h64 => ?_) (fun h64 => ?_)
        · skip
          refine sw_p 4 (f' := (6, [some (0, 1), some (2, a), some (0, 1), some (0, 2)], [(0, 3), (0, 2)])) rfl ?_
          refine sw_ge2 (pt := 41) (pn := 9) rfl rfl rfl (by omega) (by omega) (fun h => absurd h (by decide)) (fun _ => ?_)
          refine sw_p 2 (f' := (11, [some (0, 1), some (2, a), some (0, 1), some (0, 2)], [(0, 2), (2, a)])) rfl ?_
          refine sw_ial (pn := 12) (l := 3) rfl rfl (by omega) (hk) (hl) (by omega) (by omega) ?_
          rw [show ν a 2 = z from hz]
          refine sw_p 2 (f' := (14, [some (0, 1), some (2, a), some (0, 1), some (0, 2)], [(0, 1), (2, a), (0, z)])) rfl ?_
          refine sw_ial (pn := 15) (l := 3) rfl rfl (by omega) (hk) (hl) (by omega) (by omega) ?_
          rw [show ν a 1 = y from hy]
          refine sw_gt2 (pt := 32) (pn := 18) rfl rfl rfl (by omega) (by omega) (fun h66 => ?_) (fun h66 => ?_)
          · skip
            refine sw_p 5 (f' := (6, [some (0, 1), some (2, a), some (0, 2), some (0, 3)], [(0, 3), (0, 3)])) rfl ?_
            refine sw_ge2 (pt := 41) (pn := 9) rfl rfl rfl (by omega) (by omega) (fun _ => ?_) (fun h => absurd h (by decide))
            refine sw_p 1 (f' := (42, [some (0, 1), some (2, a), some (0, 2), some (0, 3)], [(0, 2)])) rfl ?_
            exact sw_retI rfl rfl rfl ⟨by rw [show od_r (ty_g x y z) 1 = 2 by unfold od_r; rw [g0, g1, g2]; (repeat' split) <;> omega], rfl, rfl⟩
          · skip
            refine sw_p 2 (f' := (20, [some (0, 1), some (2, a), some (0, 1), some (0, 2)], [(0, 2), (2, a)])) rfl ?_
            refine sw_ial (pn := 21) (l := 3) rfl rfl (by omega) (hk) (hl) (by omega) (by omega) ?_
            rw [show ν a 2 = z from hz]
            refine sw_p 2 (f' := (23, [some (0, 1), some (2, a), some (0, 1), some (0, 2)], [(0, 1), (2, a), (0, z)])) rfl ?_
            refine sw_ial (pn := 24) (l := 3) rfl rfl (by omega) (hk) (hl) (by omega) (by omega) ?_
            rw [show ν a 1 = y from hy]
            refine sw_ne2 (pt := 35) (pn := 27) rfl rfl rfl (by omega) (by omega) (fun h68 => ?_) (fun h68 => ?_)
            · skip
              refine sw_p 4 (f' := (6, [some (0, 1), some (2, a), some (0, 1), some (0, 3)], [(0, 3), (0, 3)])) rfl ?_
              refine sw_ge2 (pt := 41) (pn := 9) rfl rfl rfl (by omega) (by omega) (fun _ => ?_) (fun h => absurd h (by decide))
              refine sw_p 1 (f' := (42, [some (0, 1), some (2, a), some (0, 1), some (0, 3)], [(0, 1)])) rfl ?_
              exact sw_retI rfl rfl rfl ⟨by rw [show od_r (ty_g x y z) 1 = 1 by unfold od_r; rw [g0, g1, g2]; (repeat' split) <;> omega], rfl, rfl⟩
            · skip
              refine sw_p 2 (f' := (29, [some (0, 1), some (2, a), some (0, 1), some (0, 2)], [(0, 1), (0, 2)])) rfl ?_
              refine sw_ge2 (pt := 35) (pn := 32) rfl rfl rfl (by omega) (by omega) (fun _ => ?_) (fun h => absurd h (by decide))
              refine sw_p 4 (f' := (6, [some (0, 1), some (2, a), some (0, 1), some (0, 3)], [(0, 3), (0, 3)])) rfl ?_
              refine sw_ge2 (pt := 41) (pn := 9) rfl rfl rfl (by omega) (by omega) (fun _ => ?_) (fun h => absurd h (by decide))
              refine sw_p 1 (f' := (42, [some (0, 1), some (2, a), some (0, 1), some (0, 3)], [(0, 1)])) rfl ?_
              exact sw_retI rfl rfl rfl ⟨by rw [show od_r (ty_g x y z) 1 = 1 by unfold od_r; rw [g0, g1, g2]; (repeat' split) <;> omega], rfl, rfl⟩
        · skip
          refine sw_p 2 (f' := (29, [some (0, 1), some (2, a), some (0, 1), some (0, 1)], [(0, 1), (0, 1)])) rfl ?_
          refine sw_ge2 (pt := 35) (pn := 32) rfl rfl rfl (by omega) (by omega) (fun _ => ?_) (fun h => absurd h (by decide))
          refine sw_p 4 (f' := (6, [some (0, 1), some (2, a), some (0, 1), some (0, 2)], [(0, 3), (0, 2)])) rfl ?_
          refine sw_ge2 (pt := 41) (pn := 9) rfl rfl rfl (by omega) (by omega) (fun h => absurd h (by decide)) (fun _ => ?_)
          refine sw_p 2 (f' := (11, [some (0, 1), some (2, a), some (0, 1), some (0, 2)], [(0, 2), (2, a)])) rfl ?_
          refine sw_ial (pn := 12) (l := 3) rfl rfl (by omega) (hk) (hl) (by omega) (by omega) ?_
          rw [show ν a 2 = z from hz]
          refine sw_p 2 (f' := (14, [some (0, 1), some (2, a), some (0, 1), some (0, 2)], [(0, 1), (2, a), (0, z)])) rfl ?_
          refine sw_ial (pn := 15) (l := 3) rfl rfl (by omega) (hk) (hl) (by omega) (by omega) ?_
          rw [show ν a 1 = y from hy]
          refine sw_gt2 (pt := 32) (pn := 18) rfl rfl rfl (by omega) (by omega) (fun h74 => ?_) (fun h74 => ?_)
          · skip
            refine sw_p 5 (f' := (6, [some (0, 1), some (2, a), some (0, 2), some (0, 3)], [(0, 3), (0, 3)])) rfl ?_
            refine sw_ge2 (pt := 41) (pn := 9) rfl rfl rfl (by omega) (by omega) (fun _ => ?_) (fun h => absurd h (by decide))
            refine sw_p 1 (f' := (42, [some (0, 1), some (2, a), some (0, 2), some (0, 3)], [(0, 2)])) rfl ?_
            exact sw_retI rfl rfl rfl ⟨by rw [show od_r (ty_g x y z) 1 = 2 by unfold od_r; rw [g0, g1, g2]; (repeat' split) <;> omega], rfl, rfl⟩
          · skip
            refine sw_p 2 (f' := (20, [some (0, 1), some (2, a), some (0, 1), some (0, 2)], [(0, 2), (2, a)])) rfl ?_
            refine sw_ial (pn := 21) (l := 3) rfl rfl (by omega) (hk) (hl) (by omega) (by omega) ?_
            rw [show ν a 2 = z from hz]
            refine sw_p 2 (f' := (23, [some (0, 1), some (2, a), some (0, 1), some (0, 2)], [(0, 1), (2, a), (0, z)])) rfl ?_
            refine sw_ial (pn := 24) (l := 3) rfl rfl (by omega) (hk) (hl) (by omega) (by omega) ?_
            rw [show ν a 1 = y from hy]
            refine sw_ne2 (pt := 35) (pn := 27) rfl rfl rfl (by omega) (by omega) (fun h76 => ?_) (fun h76 => ?_)
            · skip
              refine sw_p 4 (f' := (6, [some (0, 1), some (2, a), some (0, 1), some (0, 3)], [(0, 3), (0, 3)])) rfl ?_
              refine sw_ge2 (pt := 41) (pn := 9) rfl rfl rfl (by omega) (by omega) (fun _ => ?_) (fun h => absurd h (by decide))
              refine sw_p 1 (f' := (42, [some (0, 1), some (2, a), some (0, 1), some (0, 3)], [(0, 1)])) rfl ?_
              exact sw_retI rfl rfl rfl ⟨by rw [show od_r (ty_g x y z) 1 = 1 by unfold od_r; rw [g0, g1, g2]; (repeat' split) <;> omega], rfl, rfl⟩
            · skip
              refine sw_p 2 (f' := (29, [some (0, 1), some (2, a), some (0, 1), some (0, 2)], [(0, 1), (0, 2)])) rfl ?_
              refine sw_ge2 (pt := 35) (pn := 32) rfl rfl rfl (by omega) (by omega) (fun _ => ?_) (fun h => absurd h (by decide))
              refine sw_p 4 (f' := (6, [some (0, 1), some (2, a), some (0, 1), some (0, 3)], [(0, 3), (0, 3)])) rfl ?_
              refine sw_ge2 (pt := 41) (pn := 9) rfl rfl rfl (by omega) (by omega) (fun _ => ?_) (fun h => absurd h (by decide))
              refine sw_p 1 (f' := (42, [some (0, 1), some (2, a), some (0, 1), some (0, 3)], [(0, 1)])) rfl ?_
              exact sw_retI rfl rfl rfl ⟨by rw [show od_r (ty_g x y z) 1 = 1 by unfold od_r; rw [g0, g1, g2]; (repeat' split) <;> omega], rfl, rfl⟩
theorem rk_o2 (ha : 0 ≤ a) (hk : s a (-1) = 0) (hl : s a (-2) = 3) (hx : ν a 0 = x) (hy : ν a 1 = y) (hz : ν a 2 = z) (bx : 0 ≤ x ∧ x ≤ 1024) (by_ : 0 ≤ y ∧ y ≤ 1024) (bz : 0 ≤ z ∧ z ≤ 1024) : sw_w E d 21 (0, [some (0, 2), some (2, a), none, none], []) s ν (sw_is (some (0, od_r (ty_g x y z) 2)) s ν) := by
  have g0 : ty_g x y z 0 = x := rfl
  have g1 : ty_g x y z 1 = y := rfl
  have g2 : ty_g x y z 2 = z := rfl
  refine sw_p 6 (f' := (6, [some (0, 2), some (2, a), some (0, 0), some (0, 0)], [(0, 3), (0, 0)])) rfl ?_
  refine sw_ge2 (pt := 41) (pn := 9) rfl rfl rfl (by omega) (by omega) (fun h => absurd h (by decide)) (fun _ => ?_)
  refine sw_p 2 (f' := (11, [some (0, 2), some (2, a), some (0, 0), some (0, 0)], [(0, 0), (2, a)])) rfl ?_
  refine sw_ial (pn := 12) (l := 3) rfl rfl (by omega) (hk) (hl) (by omega) (by omega) ?_
  rw [show ν a 0 = x from hx]
  refine sw_p 2 (f' := (14, [some (0, 2), some (2, a), some (0, 0), some (0, 0)], [(0, 2), (2, a), (0, x)])) rfl ?_
  refine sw_ial (pn := 15) (l := 3) rfl rfl (by omega) (hk) (hl) (by omega) (by omega) ?_
  rw [show ν a 2 = z from hz]
  refine sw_gt2 (pt := 32) (pn := 18) rfl rfl rfl (by omega) (by omega) (fun h2 => ?_) (fun h2 => ?_)
  · skip
    refine sw_p 5 (f' := (6, [some (0, 2), some (2, a), some (0, 1), some (0, 1)], [(0, 3), (0, 1)])) rfl ?_
    refine sw_ge2 (pt := 41) (pn := 9) rfl rfl rfl (by omega) (by omega) (fun h => absurd h (by decide)) (fun _ => ?_)
    refine sw_p 2 (f' := (11, [some (0, 2), some (2, a), some (0, 1), some (0, 1)], [(0, 1), (2, a)])) rfl ?_
    refine sw_ial (pn := 12) (l := 3) rfl rfl (by omega) (hk) (hl) (by omega) (by omega) ?_
    rw [show ν a 1 = y from hy]
    refine sw_p 2 (f' := (14, [some (0, 2), some (2, a), some (0, 1), some (0, 1)], [(0, 2), (2, a), (0, y)])) rfl ?_
    refine sw_ial (pn := 15) (l := 3) rfl rfl (by omega) (hk) (hl) (by omega) (by omega) ?_
    rw [show ν a 2 = z from hz]
    refine sw_gt2 (pt := 32) (pn := 18) rfl rfl rfl (by omega) (by omega) (fun h4 => ?_) (fun h4 => ?_)
    · skip
      refine sw_p 5 (f' := (6, [some (0, 2), some (2, a), some (0, 2), some (0, 2)], [(0, 3), (0, 2)])) rfl ?_
      refine sw_ge2 (pt := 41) (pn := 9) rfl rfl rfl (by omega) (by omega) (fun h => absurd h (by decide)) (fun _ => ?_)
      refine sw_p 2 (f' := (11, [some (0, 2), some (2, a), some (0, 2), some (0, 2)], [(0, 2), (2, a)])) rfl ?_
      refine sw_ial (pn := 12) (l := 3) rfl rfl (by omega) (hk) (hl) (by omega) (by omega) ?_
      rw [show ν a 2 = z from hz]
      refine sw_p 2 (f' := (14, [some (0, 2), some (2, a), some (0, 2), some (0, 2)], [(0, 2), (2, a), (0, z)])) rfl ?_
      refine sw_ial (pn := 15) (l := 3) rfl rfl (by omega) (hk) (hl) (by omega) (by omega) ?_
      rw [show ν a 2 = z from hz]
      refine sw_gt2 (pt := 32) (pn := 18) rfl rfl rfl (by omega) (by omega) (fun h6 => ?_) (fun h6 => ?_)
      · skip
        refine sw_p 5 (f' := (6, [some (0, 2), some (2, a), some (0, 3), some (0, 3)], [(0, 3), (0, 3)])) rfl ?_
        refine sw_ge2 (pt := 41) (pn := 9) rfl rfl rfl (by omega) (by omega) (fun _ => ?_) (fun h => absurd h (by decide))
        refine sw_p 1 (f' := (42, [some (0, 2), some (2, a), some (0, 3), some (0, 3)], [(0, 3)])) rfl ?_
        exact sw_retI rfl rfl rfl ⟨by rw [show od_r (ty_g x y z) 2 = 3 by unfold od_r; rw [g0, g1, g2]; (repeat' split) <;> omega], rfl, rfl⟩
      · skip
        refine sw_p 2 (f' := (20, [some (0, 2), some (2, a), some (0, 2), some (0, 2)], [(0, 2), (2, a)])) rfl ?_
        refine sw_ial (pn := 21) (l := 3) rfl rfl (by omega) (hk) (hl) (by omega) (by omega) ?_
        rw [show ν a 2 = z from hz]
        refine sw_p 2 (f' := (23, [some (0, 2), some (2, a), some (0, 2), some (0, 2)], [(0, 2), (2, a), (0, z)])) rfl ?_
        refine sw_ial (pn := 24) (l := 3) rfl rfl (by omega) (hk) (hl) (by omega) (by omega) ?_
        rw [show ν a 2 = z from hz]
        refine sw_ne2 (pt := 35) (pn := 27) rfl rfl rfl (by omega) (by omega) (fun h8 => ?_) (fun h8 => ?_)
        · skip
          refine sw_p 4 (f' := (6, [some (0, 2), some (2, a), some (0, 2), some (0, 3)], [(0, 3), (0, 3)])) rfl ?_
          refine sw_ge2 (pt := 41) (pn := 9) rfl rfl rfl (by omega) (by omega) (fun _ => ?_) (fun h => absurd h (by decide))
          refine sw_p 1 (f' := (42, [some (0, 2), some (2, a), some (0, 2), some (0, 3)], [(0, 2)])) rfl ?_
          exact sw_retI rfl rfl rfl ⟨by rw [show od_r (ty_g x y z) 2 = 2 by unfold od_r; rw [g0, g1, g2]; (repeat' split) <;> omega], rfl, rfl⟩
        · skip
          refine sw_p 2 (f' := (29, [some (0, 2), some (2, a), some (0, 2), some (0, 2)], [(0, 2), (0, 2)])) rfl ?_
          refine sw_ge2 (pt := 35) (pn := 32) rfl rfl rfl (by omega) (by omega) (fun _ => ?_) (fun h => absurd h (by decide))
          refine sw_p 4 (f' := (6, [some (0, 2), some (2, a), some (0, 2), some (0, 3)], [(0, 3), (0, 3)])) rfl ?_
          refine sw_ge2 (pt := 41) (pn := 9) rfl rfl rfl (by omega) (by omega) (fun _ => ?_) (fun h => absurd h (by decide))
          refine sw_p 1 (f' := (42, [some (0, 2), some (2, a), some (0, 2), some (0, 3)], [(0, 2)])) rfl ?_
          exact sw_retI rfl rfl rfl ⟨by rw [show od_r (ty_g x y z) 2 = 2 by unfold od_r; rw [g0, g1, g2]; (repeat' split) <;> omega], rfl, rfl⟩
    · skip
      refine sw_p 2 (f' := (20, [some (0, 2), some (2, a), some (0, 1), some (0, 1)], [(0, 1), (2, a)])) rfl ?_
      refine sw_ial (pn := 21) (l := 3) rfl rfl (by omega) (hk) (hl) (by omega) (by omega) ?_
      rw [show ν a 1 = y from hy]
      refine sw_p 2 (f' := (23, [some (0, 2), some (2, a), some (0, 1), some (0, 1)], [(0, 2), (2, a), (0, y)])) rfl ?_
      refine sw_ial (pn := 24) (l := 3) rfl rfl (by omega) (hk) (hl) (by omega) (by omega) ?_
      rw [show ν a 2 = z from hz]
      refine sw_ne2 (pt := 35) (pn := 27) rfl rfl rfl (by omega) (by omega) (fun h12 => ?_) (fun h12 => ?_)
      · skip
        refine sw_p 4 (f' := (6, [some (0, 2), some (2, a), some (0, 1), some (0, 2)], [(0, 3), (0, 2)])) rfl ?_
        refine sw_ge2 (pt := 41) (pn := 9) rfl rfl rfl (by omega) (by omega) (fun h => absurd h (by decide)) (fun _ => ?_)
        refine sw_p 2 (f' := (11, [some (0, 2), some (2, a), some (0, 1), some (0, 2)], [(0, 2), (2, a)])) rfl ?_
        refine sw_ial (pn := 12) (l := 3) rfl rfl (by omega) (hk) (hl) (by omega) (by omega) ?_
        rw [show ν a 2 = z from hz]
        refine sw_p 2 (f' := (14, [some (0, 2), some (2, a), some (0, 1), some (0, 2)], [(0, 2), (2, a), (0, z)])) rfl ?_
        refine sw_ial (pn := 15) (l := 3) rfl rfl (by omega) (hk) (hl) (by omega) (by omega) ?_
        rw [show ν a 2 = z from hz]
        refine sw_gt2 (pt := 32) (pn := 18) rfl rfl rfl (by omega) (by omega) (fun h14 => ?_) (fun h14 => ?_)
        · skip
          refine sw_p 5 (f' := (6, [some (0, 2), some (2, a), some (0, 2), some (0, 3)], [(0, 3), (0, 3)])) rfl ?_
          refine sw_ge2 (pt := 41) (pn := 9) rfl rfl rfl (by omega) (by omega) (fun _ => ?_) (fun h => absurd h (by decide))
          refine sw_p 1 (f' := (42, [some (0, 2), some (2, a), some (0, 2), some (0, 3)], [(0, 2)])) rfl ?_
          exact sw_retI rfl rfl rfl ⟨by rw [show od_r (ty_g x y z) 2 = 2 by unfold od_r; rw [g0, g1, g2]; (repeat' split) <;> omega], rfl, rfl⟩
        · skip
          refine sw_p 2 (f' := (20, [some (0, 2), some (2, a), some (0, 1), some (0, 2)], [(0, 2), (2, a)])) rfl ?_
          refine sw_ial (pn := 21) (l := 3) rfl rfl (by omega) (hk) (hl) (by omega) (by omega) ?_
          rw [show ν a 2 = z from hz]
          refine sw_p 2 (f' := (23, [some (0, 2), some (2, a), some (0, 1), some (0, 2)], [(0, 2), (2, a), (0, z)])) rfl ?_
          refine sw_ial (pn := 24) (l := 3) rfl rfl (by omega) (hk) (hl) (by omega) (by omega) ?_
          rw [show ν a 2 = z from hz]
          refine sw_ne2 (pt := 35) (pn := 27) rfl rfl rfl (by omega) (by omega) (fun h16 => ?_) (fun h16 => ?_)
          · skip
            refine sw_p 4 (f' := (6, [some (0, 2), some (2, a), some (0, 1), some (0, 3)], [(0, 3), (0, 3)])) rfl ?_
            refine sw_ge2 (pt := 41) (pn := 9) rfl rfl rfl (by omega) (by omega) (fun _ => ?_) (fun h => absurd h (by decide))
            refine sw_p 1 (f' := (42, [some (0, 2), some (2, a), some (0, 1), some (0, 3)], [(0, 1)])) rfl ?_
            exact sw_retI rfl rfl rfl ⟨by rw [show od_r (ty_g x y z) 2 = 1 by unfold od_r; rw [g0, g1, g2]; (repeat' split) <;> omega], rfl, rfl⟩
          · skip
            refine sw_p 2 (f' := (29, [some (0, 2), some (2, a), some (0, 1), some (0, 2)], [(0, 2), (0, 2)])) rfl ?_
            refine sw_ge2 (pt := 35) (pn := 32) rfl rfl rfl (by omega) (by omega) (fun _ => ?_) (fun h => absurd h (by decide))
            refine sw_p 4 (f' := (6, [some (0, 2), some (2, a), some (0, 1), some (0, 3)], [(0, 3), (0, 3)])) rfl ?_
            refine sw_ge2 (pt := 41) (pn := 9) rfl rfl rfl (by omega) (by omega) (fun _ => ?_) (fun h => absurd h (by decide))
            refine sw_p 1 (f' := (42, [some (0, 2), some (2, a), some (0, 1), some (0, 3)], [(0, 1)])) rfl ?_
            exact sw_retI rfl rfl rfl ⟨by rw [show od_r (ty_g x y z) 2 = 1 by unfold od_r; rw [g0, g1, g2]; (repeat' split) <;> omega], rfl, rfl⟩
      · skip
        refine sw_p 2 (f' := (29, [some (0, 2), some (2, a), some (0, 1), some (0, 1)], [(0, 2), (0, 1)])) rfl ?_
        refine sw_ge2 (pt := 35) (pn := 32) rfl rfl rfl (by omega) (by omega) (fun h => absurd h (by decide)) (fun _ => ?_)
        refine sw_p 5 (f' := (6, [some (0, 2), some (2, a), some (0, 2), some (0, 2)], [(0, 3), (0, 2)])) rfl ?_
        refine sw_ge2 (pt := 41) (pn := 9) rfl rfl rfl (by omega) (by omega) (fun h => absurd h (by decide)) (fun _ => ?_)
        refine sw_p 2 (f' := (11, [some (0, 2), some (2, a), some (0, 2), some (0, 2)], [(0, 2), (2, a)])) rfl ?_
        refine sw_ial (pn := 12) (l := 3) rfl rfl (by omega) (hk) (hl) (by omega) (by omega) ?_
        rw [show ν a 2 = z from hz]
        refine sw_p 2 (f' := (14, [some (0, 2), some (2, a), some (0, 2), some (0, 2)], [(0, 2), (2, a), (0, z)])) rfl ?_
        refine sw_ial (pn := 15) (l := 3) rfl rfl (by omega) (hk) (hl) (by omega) (by omega) ?_
        rw [show ν a 2 = z from hz]
        refine sw_gt2 (pt := 32) (pn := 18) rfl rfl rfl (by omega) (by omega) (fun h22 => ?_) (fun h22 => ?_)
        · skip
          refine sw_p 5 (f' := (6, [some (0, 2), some (2, a), some (0, 3), some (0, 3)], [(0, 3), (0, 3)])) rfl ?_
          refine sw_ge2 (pt := 41) (pn := 9) rfl rfl rfl (by omega) (by omega) (fun _ => ?_) (fun h => absurd h (by decide))
          refine sw_p 1 (f' := (42, [some (0, 2), some (2, a), some (0, 3), some (0, 3)], [(0, 3)])) rfl ?_
          exact sw_retI rfl rfl rfl ⟨by rw [show od_r (ty_g x y z) 2 = 3 by unfold od_r; rw [g0, g1, g2]; (repeat' split) <;> omega], rfl, rfl⟩
        · skip
          refine sw_p 2 (f' := (20, [some (0, 2), some (2, a), some (0, 2), some (0, 2)], [(0, 2), (2, a)])) rfl ?_
          refine sw_ial (pn := 21) (l := 3) rfl rfl (by omega) (hk) (hl) (by omega) (by omega) ?_
          rw [show ν a 2 = z from hz]
          refine sw_p 2 (f' := (23, [some (0, 2), some (2, a), some (0, 2), some (0, 2)], [(0, 2), (2, a), (0, z)])) rfl ?_
          refine sw_ial (pn := 24) (l := 3) rfl rfl (by omega) (hk) (hl) (by omega) (by omega) ?_
          rw [show ν a 2 = z from hz]
          refine sw_ne2 (pt := 35) (pn := 27) rfl rfl rfl (by omega) (by omega) (fun h24 => ?_) (fun h24 => ?_)
          · skip
            refine sw_p 4 (f' := (6, [some (0, 2), some (2, a), some (0, 2), some (0, 3)], [(0, 3), (0, 3)])) rfl ?_
            refine sw_ge2 (pt := 41) (pn := 9) rfl rfl rfl (by omega) (by omega) (fun _ => ?_) (fun h => absurd h (by decide))
            refine sw_p 1 (f' := (42, [some (0, 2), some (2, a), some (0, 2), some (0, 3)], [(0, 2)])) rfl ?_
            exact sw_retI rfl rfl rfl ⟨by rw [show od_r (ty_g x y z) 2 = 2 by unfold od_r; rw [g0, g1, g2]; (repeat' split) <;> omega], rfl, rfl⟩
          · skip
            refine sw_p 2 (f' := (29, [some (0, 2), some (2, a), some (0, 2), some (0, 2)], [(0, 2), (0, 2)])) rfl ?_
            refine sw_ge2 (pt := 35) (pn := 32) rfl rfl rfl (by omega) (by omega) (fun _ => ?_) (fun h => absurd h (by decide))
            refine sw_p 4 (f' := (6, [some (0, 2), some (2, a), some (0, 2), some (0, 3)], [(0, 3), (0, 3)])) rfl ?_
            refine sw_ge2 (pt := 41) (pn := 9) rfl rfl rfl (by omega) (by omega) (fun _ => ?_) (fun h => absurd h (by decide))
            refine sw_p 1 (f' := (42, [some (0, 2), some (2, a), some (0, 2), some (0, 3)], [(0, 2)])) rfl ?_
            exact sw_retI rfl rfl rfl ⟨by rw [show od_r (ty_g x y z) 2 = 2 by unfold od_r; rw [g0, g1, g2]; (repeat' split) <;> omega], rfl, rfl⟩
  · skip
    refine sw_p 2 (f' := (20, [some (0, 2), some (2, a), some (0, 0), some (0, 0)], [(0, 0), (2, a)])) rfl ?_
    refine sw_ial (pn := 21) (l := 3) rfl rfl (by omega) (hk) (hl) (by omega) (by omega) ?_
    rw [show ν a 0 = x from hx]
    refine sw_p 2 (f' := (23, [some (0, 2), some (2, a), some (0, 0), some (0, 0)], [(0, 2), (2, a), (0, x)])) rfl ?_
    refine sw_ial (pn := 24) (l := 3) rfl rfl (by omega) (hk) (hl) (by omega) (by omega) ?_
    rw [show ν a 2 = z from hz]
    refine sw_ne2 (pt := 35) (pn := 27) rfl rfl rfl (by omega) (by omega) (fun h28 => ?_) (fun h28 => ?_)
    · skip
      refine sw_p 4 (f' := (6, [some (0, 2), some (2, a), some (0, 0), some (0, 1)], [(0, 3), (0, 1)])) rfl ?_
      refine sw_ge2 (pt := 41) (pn := 9) rfl rfl rfl (by omega) (by omega) (fun h => absurd h (by decide)) (fun _ => ?_)
      refine sw_p 2 (f' := (11, [some (0, 2), some (2, a), some (0, 0), some (0, 1)], [(0, 1), (2, a)])) rfl ?_
      refine sw_ial (pn := 12) (l := 3) rfl rfl (by omega) (hk) (hl) (by omega) (by omega) ?_
      rw [show ν a 1 = y from hy]
      refine sw_p 2 (f' := (14, [some (0, 2), some (2, a), some (0, 0), some (0, 1)], [(0, 2), (2, a), (0, y)])) rfl ?_
      refine sw_ial (pn := 15) (l := 3) rfl rfl (by omega) (hk) (hl) (by omega) (by omega) ?_
      rw [show ν a 2 = z from hz]
      refine sw_gt2 (pt := 32) (pn := 18) rfl rfl rfl (by omega) (by omega) (fun h30 => ?_) (fun h30 => ?_)
      · skip
        refine sw_p 5 (f' := (6, [some (0, 2), some (2, a), some (0, 1), some (0, 2)], [(0, 3), (0, 2)])) rfl ?_
        refine sw_ge2 (pt := 41) (pn := 9) rfl rfl rfl (by omega) (by omega) (fun h => absurd h (by decide)) (fun _ => ?_)
        refine sw_p 2 (f' := (11, [some (0, 2), some (2, a), some (0, 1), some (0, 2)], [(0, 2), (2, a)])) rfl ?_
        refine sw_ial (pn := 12) (l := 3) rfl rfl (by omega) (hk) (hl) (by omega) (by omega) ?_
        rw [show ν a 2 = z from hz]
        refine sw_p 2 (f' := (14, [some (0, 2), some (2, a), some (0, 1), some (0, 2)], [(0, 2), (2, a), (0, z)])) rfl ?_
        refine sw_ial (pn := 15) (l := 3) rfl rfl (by omega) (hk) (hl) (by omega) (by omega) ?_
        rw [show ν a 2 = z from hz]
        refine sw_gt2 (pt := 32) (pn := 18) rfl rfl rfl (by omega) (by omega) (fun h32 => ?_) (fun h32 => ?_)
        · skip
          refine sw_p 5 (f' := (6, [some (0, 2), some (2, a), some (0, 2), some (0, 3)], [(0, 3), (0, 3)])) rfl ?_
          refine sw_ge2 (pt := 41) (pn := 9) rfl rfl rfl (by omega) (by omega) (fun _ => ?_) (fun h => absurd h (by decide))
          refine sw_p 1 (f' := (42, [some (0, 2), some (2, a), some (0, 2), some (0, 3)], [(0, 2)])) rfl ?_
          exact sw_retI rfl rfl rfl ⟨by rw [show od_r (ty_g x y z) 2 = 2 by unfold od_r; rw [g0, g1, g2]; (repeat' split) <;> omega], rfl, rfl⟩
        · skip
          refine sw_p 2 (f' := (20, [some (0, 2), some (2, a), some (0, 1), some (0, 2)], [(0, 2), (2, a)])) rfl ?_
          refine sw_ial (pn := 21) (l := 3) rfl rfl (by omega) (hk) (hl) (by omega) (by omega) ?_
          rw [show ν a 2 = z from hz]
          refine sw_p 2 (f' := (23, [some (0, 2), some (2, a), some (0, 1), some (0, 2)], [(0, 2), (2, a), (0, z)])) rfl ?_
          refine sw_ial (pn := 24) (l := 3) rfl rfl (by omega) (hk) (hl) (by omega) (by omega) ?_
          rw [show ν a 2 = z from hz]
          refine sw_ne2 (pt := 35) (pn := 27) rfl rfl rfl (by omega) (by omega) (fun h34 => ?_) (fun h34 => ?_)
          · skip
            refine sw_p 4 (f' := (6, [some (0, 2), some (2, a), some (0, 1), some (0, 3)], [(0, 3), (0, 3)])) rfl ?_
            refine sw_ge2 (pt := 41) (pn := 9) rfl rfl rfl (by omega) (by omega) (fun _ => ?_) (fun h => absurd h (by decide))
            refine sw_p 1 (f' := (42, [some (0, 2), some (2, a), some (0, 1), some (0, 3)], [(0, 1)])) rfl ?_
            exact sw_retI rfl rfl rfl ⟨by rw [show od_r (ty_g x y z) 2 = 1 by unfold od_r; rw [g0, g1, g2]; (repeat' split) <;> omega], rfl, rfl⟩
          · skip
            refine sw_p 2 (f' := (29, [some (0, 2), some (2, a), some (0, 1), some (0, 2)], [(0, 2), (0, 2)])) rfl ?_
            refine sw_ge2 (pt := 35) (pn := 32) rfl rfl rfl (by omega) (by omega) (fun _ => ?_) (fun h => absurd h (by decide))
            refine sw_p 4 (f' := (6, [some (0, 2), some (2, a), some (0, 1), some (0, 3)], [(0, 3), (0, 3)])) rfl ?_
            refine sw_ge2 (pt := 41) (pn := 9) rfl rfl rfl (by omega) (by omega) (fun _ => ?_) (fun h => absurd h (by decide))
            refine sw_p 1 (f' := (42, [some (0, 2), some (2, a), some (0, 1), some (0, 3)], [(0, 1)])) rfl ?_
            exact sw_retI rfl rfl rfl ⟨by rw [show od_r (ty_g x y z) 2 = 1 by unfold od_r; rw [g0, g1, g2]; (repeat' split) <;> omega], rfl, rfl⟩
      · skip
        refine sw_p 2 (f' := (20, [some (0, 2), some (2, a), some (0, 0), some (0, 1)], [(0, 1), (2, a)])) rfl ?_
        refine sw_ial (pn := 21) (l := 3) rfl rfl (by omega) (hk) (hl) (by omega) (by omega) ?_
        rw [show ν a 1 = y from hy]
        refine sw_p 2 (f' := (23, [some (0, 2), some (2, a), some (0, 0), some (0, 1)], [(0, 2), (2, a), (0, y)])) rfl ?_
        refine sw_ial (pn := 24) (l := 3) rfl rfl (by omega) (hk) (hl) (by omega) (by omega) ?_
        rw [show ν a 2 = z from hz]
        refine sw_ne2 (pt := 35) (pn := 27) rfl rfl rfl (by omega) (by omega) (fun h38 => ?_) (fun h38 => ?_)
        · skip
          refine sw_p 4 (f' := (6, [some (0, 2), some (2, a), some (0, 0), some (0, 2)], [(0, 3), (0, 2)])) rfl ?_
          refine sw_ge2 (pt := 41) (pn := 9) rfl rfl rfl (by omega) (by omega) (fun h => absurd h (by decide)) (fun _ => ?_)
          refine sw_p 2 (f' := (11, [some (0, 2), some (2, a), some (0, 0), some (0, 2)], [(0, 2), (2, a)])) rfl ?_
          refine sw_ial (pn := 12) (l := 3) rfl rfl (by omega) (hk) (hl) (by omega) (by omega) ?_
          rw [show ν a 2 = z from hz]
          refine sw_p 2 (f' := (14, [some (0, 2), some (2, a), some (0, 0), some (0, 2)], [(0, 2), (2, a), (0, z)])) rfl ?_
          refine sw_ial (pn := 15) (l := 3) rfl rfl (by omega) (hk) (hl) (by omega) (by omega) ?_
          rw [show ν a 2 = z from hz]
          refine sw_gt2 (pt := 32) (pn := 18) rfl rfl rfl (by omega) (by omega) (fun h40 => ?_) (fun h40 => ?_)
          · skip
            refine sw_p 5 (f' := (6, [some (0, 2), some (2, a), some (0, 1), some (0, 3)], [(0, 3), (0, 3)])) rfl ?_
            refine sw_ge2 (pt := 41) (pn := 9) rfl rfl rfl (by omega) (by omega) (fun _ => ?_) (fun h => absurd h (by decide))
            refine sw_p 1 (f' := (42, [some (0, 2), some (2, a), some (0, 1), some (0, 3)], [(0, 1)])) rfl ?_
            exact sw_retI rfl rfl rfl ⟨by rw [show od_r (ty_g x y z) 2 = 1 by unfold od_r; rw [g0, g1, g2]; (repeat' split) <;> omega], rfl, rfl⟩
          · skip
            refine sw_p 2 (f' := (20, [some (0, 2), some (2, a), some (0, 0), some (0, 2)], [(0, 2), (2, a)])) rfl ?_
            refine sw_ial (pn := 21) (l := 3) rfl rfl (by omega) (hk) (hl) (by omega) (by omega) ?_
            rw [show ν a 2 = z from hz]
            refine sw_p 2 (f' := (23, [some (0, 2), some (2, a), some (0, 0), some (0, 2)], [(0, 2), (2, a), (0, z)])) rfl ?_
            refine sw_ial (pn := 24) (l := 3) rfl rfl (by omega) (hk) (hl) (by omega) (by omega) ?_
            rw [show ν a 2 = z from hz]
            refine sw_ne2 (pt := 35) (pn := 27) rfl rfl rfl (by omega) (by omega) (fun h42 => ?_) (fun h42 => ?_)
            · skip
              refine sw_p 4 (f' := (6, [some (0, 2), some (2, a), some (0, 0), some (0, 3)], [(0, 3), (0, 3)])) rfl ?_
              refine sw_ge2 (pt := 41) (pn := 9) rfl rfl rfl (by omega) (by omega) (fun _ => ?_) (fun h => absurd h (by decide))
              refine sw_p 1 (f' := (42, [some (0, 2), some (2, a), some (0, 0), some (0, 3)], [(0, 0)])) rfl ?_
              exact sw_retI rfl rfl rfl ⟨by rw [show od_r (ty_g x y z) 2 = 0 by unfold od_r; rw [g0, g1, g2]; (repeat' split) <;> omega], rfl, rfl⟩
            · skip
              refine sw_p 2 (f' := (29, [some (0, 2), some (2, a), some (0, 0), some (0, 2)], [(0, 2), (0, 2)])) rfl ?_
              refine sw_ge2 (pt := 35) (pn := 32) rfl rfl rfl (by omega) (by omega) (fun _ => ?_) (fun h => absurd h (by decide))
              refine sw_p 4 (f' := (6, [some (0, 2), some (2, a), some (0, 0), some (0, 3)], [(0, 3), (0, 3)])) rfl ?_
              refine sw_ge2 (pt := 41) (pn := 9) rfl rfl rfl (by omega) (by omega) (fun _ => ?_) (fun h => absurd h (by decide))
              refine sw_p 1 (f' := (42, [some (0, 2), some (2, a), some (0, 0), some (0, 3)], [(0, 0)])) rfl ?_
              exact sw_retI rfl rfl rfl ⟨by rw [show od_r (ty_g x y z) 2 = 0 by unfold od_r; rw [g0, g1, g2]; (repeat' split) <;> omega], rfl, rfl⟩
        · skip
          refine sw_p 2 (f' := (29, [some (0, 2), some (2, a), some (0, 0), some (0, 1)], [(0, 2), (0, 1)])) rfl ?_
          refine sw_ge2 (pt := 35) (pn := 32) rfl rfl rfl (by omega) (by omega) (fun h => absurd h (by decide)) (fun _ => ?_)
          refine sw_p 5 (f' := (6, [some (0, 2), some (2, a), some (0, 1), some (0, 2)], [(0, 3), (0, 2)])) rfl ?_
          refine sw_ge2 (pt := 41) (pn := 9) rfl rfl rfl (by omega) (by omega) (fun h => absurd h (by decide)) (fun _ => ?_)
          refine sw_p 2 (f' := (11, [some (0, 2), some (2, a), some (0, 1), some (0, 2)], [(0, 2), (2, a)])) rfl ?_
          refine sw_ial (pn := 12) (l := 3) rfl rfl (by omega) (hk) (hl) (by omega) (by omega) ?_
          rw [show ν a 2 = z from hz]
          refine sw_p 2 (f' := (14, [some (0, 2), some (2, a), some (0, 1), some (0, 2)], [(0, 2), (2, a), (0, z)])) rfl ?_
          refine sw_ial (pn := 15) (l := 3) rfl rfl (by omega) (hk) (hl) (by omega) (by omega) ?_
          rw [show ν a 2 = z from hz]
          refine sw_gt2 (pt := 32) (pn := 18) rfl rfl rfl (by omega) (by omega) (fun h48 => ?_) (fun h48 => ?_)
          · skip
            refine sw_p 5 (f' := (6, [some (0, 2), some (2, a), some (0, 2), some (0, 3)], [(0, 3), (0, 3)])) rfl ?_
            refine sw_ge2 (pt := 41) (pn := 9) rfl rfl rfl (by omega) (by omega) (fun _ => ?_) (fun h => absurd h (by decide))
            refine sw_p 1 (f' := (42, [some (0, 2), some (2, a), some (0, 2), some (0, 3)], [(0, 2)])) rfl ?_
            exact sw_retI rfl rfl rfl ⟨by rw [show od_r (ty_g x y z) 2 = 2 by unfold od_r; rw [g0, g1, g2]; (repeat' split) <;> omega], rfl, rfl⟩
          · skip
            refine sw_p 2 (f' := (20, [some (0, 2), some (2, a), some (0, 1), some (0, 2)], [(0, 2), (2, a)])) rfl ?_
            refine sw_ial (pn := 21) (l := 3) rfl rfl (by omega) (hk) (hl) (by omega) (by omega) ?_
            rw [show ν a 2 = z from hz]
            refine sw_p 2 (f' := (23, [some (0, 2), some (2, a), some (0, 1), some (0, 2)], [(0, 2), (2, a), (0, z)])) rfl ?_
            refine sw_ial (pn := 24) (l := 3) rfl rfl (by omega) (hk) (hl) (by omega) (by omega) ?_
            rw [show ν a 2 = z from hz]
            refine sw_ne2 (pt := 35) (pn := 27) rfl rfl rfl (by omega) (by omega) (fun h50 => ?_) (fun h50 => ?_)
            · skip
              refine sw_p 4 (f' := (6, [some (0, 2), some (2, a), some (0, 1), some (0, 3)], [(0, 3), (0, 3)])) rfl ?_
              refine sw_ge2 (pt := 41) (pn := 9) rfl rfl rfl (by omega) (by omega) (fun _ => ?_) (fun h => absurd h (by decide))
              refine sw_p 1 (f' := (42, [some (0, 2), some (2, a), some (0, 1), some (0, 3)], [(0, 1)])) rfl ?_
              exact sw_retI rfl rfl rfl ⟨by rw [show od_r (ty_g x y z) 2 = 1 by unfold od_r; rw [g0, g1, g2]; (repeat' split) <;> omega], rfl, rfl⟩
            · skip
              refine sw_p 2 (f' := (29, [some (0, 2), some (2, a), some (0, 1), some (0, 2)], [(0, 2), (0, 2)])) rfl ?_
              refine sw_ge2 (pt := 35) (pn := 32) rfl rfl rfl (by omega) (by omega) (fun _ => ?_) (fun h => absurd h (by decide))
              refine sw_p 4 (f' := (6, [some (0, 2), some (2, a), some (0, 1), some (0, 3)], [(0, 3), (0, 3)])) rfl ?_
              refine sw_ge2 (pt := 41) (pn := 9) rfl rfl rfl (by omega) (by omega) (fun _ => ?_) (fun h => absurd h (by decide))
              refine sw_p 1 (f' := (42, [some (0, 2), some (2, a), some (0, 1), some (0, 3)], [(0, 1)])) rfl ?_
              exact sw_retI rfl rfl rfl ⟨by rw [show od_r (ty_g x y z) 2 = 1 by unfold od_r; rw [g0, g1, g2]; (repeat' split) <;> omega], rfl, rfl⟩
    · skip
      refine sw_p 2 (f' := (29, [some (0, 2), some (2, a), some (0, 0), some (0, 0)], [(0, 2), (0, 0)])) rfl ?_
      refine sw_ge2 (pt := 35) (pn := 32) rfl rfl rfl (by omega) (by omega) (fun h => absurd h (by decide)) (fun _ => ?_)
      refine sw_p 5 (f' := (6, [some (0, 2), some (2, a), some (0, 1), some (0, 1)], [(0, 3), (0, 1)])) rfl ?_
      refine sw_ge2 (pt := 41) (pn := 9) rfl rfl rfl (by omega) (by omega) (fun h => absurd h (by decide)) (fun _ => ?_)
      refine sw_p 2 (f' := (11, [some (0, 2), some (2, a), some (0, 1), some (0, 1)], [(0, 1), (2, a)])) rfl ?_
      refine sw_ial (pn := 12) (l := 3) rfl rfl (by omega) (hk) (hl) (by omega) (by omega) ?_
      rw [show ν a 1 = y from hy]
      refine sw_p 2 (f' := (14, [some (0, 2), some (2, a), some (0, 1), some (0, 1)], [(0, 2), (2, a), (0, y)])) rfl ?_
      refine sw_ial (pn := 15) (l := 3) rfl rfl (by omega) (hk) (hl) (by omega) (by omega) ?_
      rw [show ν a 2 = z from hz]
      refine sw_gt2 (pt := 32) (pn := 18) rfl rfl rfl (by omega) (by omega) (fun h56 => ?_) (fun h56 => ?_)
      · skip
        refine sw_p 5 (f' := (6, [some (0, 2), some (2, a), some (0, 2), some (0, 2)], [(0, 3), (0, 2)])) rfl ?_
        refine sw_ge2 (pt := 41) (pn := 9) rfl rfl rfl (by omega) (by omega) (fun h => absurd h (by decide)) (fun _ => ?_)
        refine sw_p 2 (f' := (11, [some (0, 2), some (2, a), some (0, 2), some (0, 2)], [(0, 2), (2, a)])) rfl ?_
        refine sw_ial (pn := 12) (l := 3) rfl rfl (by omega) (hk) (hl) (by omega) (by omega) ?_
        rw [show ν a 2 = z from hz]
        refine sw_p 2 (f' := (14, [some (0, 2), some (2, a), some (0, 2), some (0, 2)], [(0, 2), (2, a), (0, z)])) rfl ?_
        refine sw_ial (pn := 15) (l := 3) rfl rfl (by omega) (hk) (hl) (by omega) (by omega) ?_
        rw [show ν a 2 = z from hz]
        refine sw_gt2 (pt := 32) (pn := 18) rfl rfl rfl (by omega) (by omega) (fun h58 => ?_) (fun h58 => ?_)
        · skip
          refine sw_p 5 (f' := (6, [some (0, 2), some (2, a), some (0, 3), some (0, 3)], [(0, 3), (0, 3)])) rfl ?_
          refine sw_ge2 (pt := 41) (pn := 9) rfl rfl rfl (by omega) (by omega) (fun _ => ?_) (fun h => absurd h (by decide))
          refine sw_p 1 (f' := (42, [some (0, 2), some (2, a), some (0, 3), some (0, 3)], [(0, 3)])) rfl ?_
          exact sw_retI rfl rfl rfl ⟨by rw [show od_r (ty_g x y z) 2 = 3 by unfold od_r; rw [g0, g1, g2]; (repeat' split) <;> omega], rfl, rfl⟩
        · skip
          refine sw_p 2 (f' := (20, [some (0, 2), some (2, a), some (0, 2), some (0, 2)], [(0, 2), (2, a)])) rfl ?_
          refine sw_ial (pn := 21) (l := 3) rfl rfl (by omega) (hk) (hl) (by omega) (by omega) ?_
          rw [show ν a 2 = z from hz]
          refine sw_p 2 (f' := (23, [some (0, 2), some (2, a), some (0, 2), some (0, 2)], [(0, 2), (2, a), (0, z)])) rfl ?_
          refine sw_ial (pn := 24) (l := 3) rfl rfl (by omega) (hk) (hl) (by omega) (by omega) ?_
          rw [show ν a 2 = z from hz]
          refine sw_ne2 (pt := 35) (pn := 27) rfl rfl rfl (by omega) (by omega) (fun h60 => ?_) (fun h60 => ?_)
          · skip
            refine sw_p 4 (f' := (6, [some (0, 2), some (2, a), some (0, 2), some (0, 3)], [(0, 3), (0, 3)])) rfl ?_
            refine sw_ge2 (pt := 41) (pn := 9) rfl rfl rfl (by omega) (by omega) (fun _ => ?_) (fun h => absurd h (by decide))
            refine sw_p 1 (f' := (42, [some (0, 2), some (2, a), some (0, 2), some (0, 3)], [(0, 2)])) rfl ?_
            exact sw_retI rfl rfl rfl ⟨by rw [show od_r (ty_g x y z) 2 = 2 by unfold od_r; rw [g0, g1, g2]; (repeat' split) <;> omega], rfl, rfl⟩
          · skip
            refine sw_p 2 (f' := (29, [some (0, 2), some (2, a), some (0, 2), some (0, 2)], [(0, 2), (0, 2)])) rfl ?_
            refine sw_ge2 (pt := 35) (pn := 32) rfl rfl rfl (by omega) (by omega) (fun _ => ?_) (fun h => absurd h (by decide))
            refine sw_p 4 (f' := (6, [some (0, 2), some (2, a), some (0, 2), some (0, 3)], [(0, 3), (0, 3)])) rfl ?_
            refine sw_ge2 (pt := 41) (pn := 9) rfl rfl rfl (by omega) (by omega) (fun _ => ?_) (fun h => absurd h (by decide))
            refine sw_p 1 (f' := (42, [some (0, 2), some (2, a), some (0, 2), some (0, 3)], [(0, 2)])) rfl ?_
            exact sw_retI rfl rfl rfl ⟨by rw [show od_r (ty_g x y z) 2 = 2 by unfold od_r; rw [g0, g1, g2]; (repeat' split) <;> omega], rfl, rfl⟩
      · skip
        refine sw_p 2 (f' := (20, [some (0, 2), some (2, a), some (0, 1), some (0, 1)], [(0, 1), (2, a)])) rfl ?_
        refine sw_ial (pn := 21) (l := 3) rfl rfl (by omega) (hk) (hl) (by omega) (by omega) ?_
        rw [show ν a 1 = y from hy]
        refine sw_p 2 (f' := (23, [some (0, 2), some (2, a), some (0, 1), some (0, 1)], [(0, 2), (2, a), (0, y)])) rfl ?_
        refine sw_ial (pn := 24) (l := 3) rfl rfl (by omega) (hk) (hl) (by omega) (by omega) ?_
        rw [show ν a 2 = z from hz]
        refine sw_ne2 (pt := 35) (pn := 27) rfl rfl rfl (by omega) (by omega) (fun h64 => ?_) (fun h64 => ?_)
        · skip
          refine sw_p 4 (f' := (6, [some (0, 2), some (2, a), some (0, 1), some (0, 2)], [(0, 3), (0, 2)])) rfl ?_
          refine sw_ge2 (pt := 41) (pn := 9) rfl rfl rfl (by omega) (by omega) (fun h => absurd h (by decide)) (fun _ => ?_)
          refine sw_p 2 (f' := (11, [some (0, 2), some (2, a), some (0, 1), some (0, 2)], [(0, 2), (2, a)])) rfl ?_
          refine sw_ial (pn := 12) (l := 3) rfl rfl (by omega) (hk) (hl) (by omega) (by omega) ?_
          rw [show ν a 2 = z from hz]
          refine sw_p 2 (f' := (14, [some (0, 2), some (2, a), some (0, 1), some (0, 2)], [(0, 2), (2, a), (0, z)])) rfl ?_
          refine sw_ial (pn := 15) (l := 3) rfl rfl (by omega) (hk) (hl) (by omega) (by omega) ?_
          rw [show ν a 2 = z from hz]
          refine sw_gt2 (pt := 32) (pn := 18) rfl rfl rfl (by omega) (by omega) (fun h66 => ?_) (fun h66 => ?_)
          · skip
            refine sw_p 5 (f' := (6, [some (0, 2), some (2, a), some (0, 2), some (0, 3)], [(0, 3), (0, 3)])) rfl ?_
            refine sw_ge2 (pt := 41) (pn := 9) rfl rfl rfl (by omega) (by omega) (fun _ => ?_) (fun h => absurd h (by decide))
            refine sw_p 1 (f' := (42, [some (0, 2), some (2, a), some (0, 2), some (0, 3)], [(0, 2)])) rfl ?_
            exact sw_retI rfl rfl rfl ⟨by rw [show od_r (ty_g x y z) 2 = 2 by unfold od_r; rw [g0, g1, g2]; (repeat' split) <;> omega], rfl, rfl⟩
          · skip
            refine sw_p 2 (f' := (20, [some (0, 2), some (2, a), some (0, 1), some (0, 2)], [(0, 2), (2, a)])) rfl ?_
            refine sw_ial (pn := 21) (l := 3) rfl rfl (by omega) (hk) (hl) (by omega) (by omega) ?_
            rw [show ν a 2 = z from hz]
            refine sw_p 2 (f' := (23, [some (0, 2), some (2, a), some (0, 1), some (0, 2)], [(0, 2), (2, a), (0, z)])) rfl ?_
            refine sw_ial (pn := 24) (l := 3) rfl rfl (by omega) (hk) (hl) (by omega) (by omega) ?_
            rw [show ν a 2 = z from hz]
            refine sw_ne2 (pt := 35) (pn := 27) rfl rfl rfl (by omega) (by omega) (fun h68 => ?_) (fun h68 => ?_)
            · skip
              refine sw_p 4 (f' := (6, [some (0, 2), some (2, a), some (0, 1), some (0, 3)], [(0, 3), (0, 3)])) rfl ?_
              refine sw_ge2 (pt := 41) (pn := 9) rfl rfl rfl (by omega) (by omega) (fun _ => ?_) (fun h => absurd h (by decide))
              refine sw_p 1 (f' := (42, [some (0, 2), some (2, a), some (0, 1), some (0, 3)], [(0, 1)])) rfl ?_
              exact sw_retI rfl rfl rfl ⟨by rw [show od_r (ty_g x y z) 2 = 1 by unfold od_r; rw [g0, g1, g2]; (repeat' split) <;> omega], rfl, rfl⟩
            · skip
              refine sw_p 2 (f' := (29, [some (0, 2), some (2, a), some (0, 1), some (0, 2)], [(0, 2), (0, 2)])) rfl ?_
              refine sw_ge2 (pt := 35) (pn := 32) rfl rfl rfl (by omega) (by omega) (fun _ => ?_) (fun h => absurd h (by decide))
              refine sw_p 4 (f' := (6, [some (0, 2), some (2, a), some (0, 1), some (0, 3)], [(0, 3), (0, 3)])) rfl ?_
              refine sw_ge2 (pt := 41) (pn := 9) rfl rfl rfl (by omega) (by omega) (fun _ => ?_) (fun h => absurd h (by decide))
              refine sw_p 1 (f' := (42, [some (0, 2), some (2, a), some (0, 1), some (0, 3)], [(0, 1)])) rfl ?_
              exact sw_retI rfl rfl rfl ⟨by rw [show od_r (ty_g x y z) 2 = 1 by unfold od_r; rw [g0, g1, g2]; (repeat' split) <;> omega], rfl, rfl⟩
        · skip
          refine sw_p 2 (f' := (29, [some (0, 2), some (2, a), some (0, 1), some (0, 1)], [(0, 2), (0, 1)])) rfl ?_
          refine sw_ge2 (pt := 35) (pn := 32) rfl rfl rfl (by omega) (by omega) (fun h => absurd h (by decide)) (fun _ => ?_)
          refine sw_p 5 (f' := (6, [some (0, 2), some (2, a), some (0, 2), some (0, 2)], [(0, 3), (0, 2)])) rfl ?_
          refine sw_ge2 (pt := 41) (pn := 9) rfl rfl rfl (by omega) (by omega) (fun h => absurd h (by decide)) (fun _ => ?_)
          refine sw_p 2 (f' := (11, [some (0, 2), some (2, a), some (0, 2), some (0, 2)], [(0, 2), (2, a)])) rfl ?_
          refine sw_ial (pn := 12) (l := 3) rfl rfl (by omega) (hk) (hl) (by omega) (by omega) ?_
          rw [show ν a 2 = z from hz]
          refine sw_p 2 (f' := (14, [some (0, 2), some (2, a), some (0, 2), some (0, 2)], [(0, 2), (2, a), (0, z)])) rfl ?_
          refine sw_ial (pn := 15) (l := 3) rfl rfl (by omega) (hk) (hl) (by omega) (by omega) ?_
          rw [show ν a 2 = z from hz]
          refine sw_gt2 (pt := 32) (pn := 18) rfl rfl rfl (by omega) (by omega) (fun h74 => ?_) (fun h74 => ?_)
          · skip
            refine sw_p 5 (f' := (6, [some (0, 2), some (2, a), some (0, 3), some (0, 3)], [(0, 3), (0, 3)])) rfl ?_
            refine sw_ge2 (pt := 41) (pn := 9) rfl rfl rfl (by omega) (by omega) (fun _ => ?_) (fun h => absurd h (by decide))
            refine sw_p 1 (f' := (42, [some (0, 2), some (2, a), some (0, 3), some (0, 3)], [(0, 3)])) rfl ?_
            exact sw_retI rfl rfl rfl ⟨by rw [show od_r (ty_g x y z) 2 = 3 by unfold od_r; rw [g0, g1, g2]; (repeat' split) <;> omega], rfl, rfl⟩
          · skip
            refine sw_p 2 (f' := (20, [some (0, 2), some (2, a), some (0, 2), some (0, 2)], [(0, 2), (2, a)])) rfl ?_
            refine sw_ial (pn := 21) (l := 3) rfl rfl (by omega) (hk) (hl) (by omega) (by omega) ?_
            rw [show ν a 2 = z from hz]
            refine sw_p 2 (f' := (23, [some (0, 2), some (2, a), some (0, 2), some (0, 2)], [(0, 2), (2, a), (0, z)])) rfl ?_
            refine sw_ial (pn := 24) (l := 3) rfl rfl (by omega) (hk) (hl) (by omega) (by omega) ?_
            rw [show ν a 2 = z from hz]
            refine sw_ne2 (pt := 35) (pn := 27) rfl rfl rfl (by omega) (by omega) (fun h76 => ?_) (fun h76 => ?_)
            · skip
              refine sw_p 4 (f' := (6, [some (0, 2), some (2, a), some (0, 2), some (0, 3)], [(0, 3), (0, 3)])) rfl ?_
              refine sw_ge2 (pt := 41) (pn := 9) rfl rfl rfl (by omega) (by omega) (fun _ => ?_) (fun h => absurd h (by decide))
              refine sw_p 1 (f' := (42, [some (0, 2), some (2, a), some (0, 2), some (0, 3)], [(0, 2)])) rfl ?_
              exact sw_retI rfl rfl rfl ⟨by rw [show od_r (ty_g x y z) 2 = 2 by unfold od_r; rw [g0, g1, g2]; (repeat' split) <;> omega], rfl, rfl⟩
            · skip
              refine sw_p 2 (f' := (29, [some (0, 2), some (2, a), some (0, 2), some (0, 2)], [(0, 2), (0, 2)])) rfl ?_
              refine sw_ge2 (pt := 35) (pn := 32) rfl rfl rfl (by omega) (by omega) (fun _ => ?_) (fun h => absurd h (by decide))
              refine sw_p 4 (f' := (6, [some (0, 2), some (2, a), some (0, 2), some (0, 3)], [(0, 3), (0, 3)])) rfl ?_
              refine sw_ge2 (pt := 41) (pn := 9) rfl rfl rfl (by omega) (by omega) (fun _ => ?_) (fun h => absurd h (by decide))
              refine sw_p 1 (f' := (42, [some (0, 2), some (2, a), some (0, 2), some (0, 3)], [(0, 2)])) rfl ?_
              exact sw_retI rfl rfl rfl ⟨by rw [show od_r (ty_g x y z) 2 = 2 by unfold od_r; rw [g0, g1, g2]; (repeat' split) <;> omega], rfl, rfl⟩
end TY1
