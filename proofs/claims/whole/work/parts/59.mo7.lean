/-! the reference: bridge, request, leave, pull -/
section MO7
variable {E : mv_E} {s ν : mm_T} {d : Nat} {b c r x y w p f g k t v lo hi l : Int}
theorem mo_cnt_cd {z : Int} : ∀ (n : Nat) (k : Int), mo_cnt (mo_cd ν z) n k = mo_cnt ν n k
  | 0, k => rfl
  | n + 1, k => by
    unfold mo_cnt
    rw [show mo_cd ν z 3 k = ν 3 k from mm_u_ne (by omega), mo_cnt_cd n]
theorem mo_pd_cd {z : Int} : mo_pd (mo_cd ν z) c = mo_pd ν c := by
  funext t
  unfold mo_pd
  rw [show mo_cd ν z 25 t = ν 25 t from mm_u_ne (by omega), show mo_cd ν z 28 t = ν 28 t from mm_u_ne (by omega)]
theorem mo_wt_cd {z : Int} : mo_wt (mo_cd ν z) c = mo_wt ν c := by
  unfold mo_wt
  rw [mo_pd_cd, show mo_cd ν z 0 24 = ν 0 24 from mm_u_ne (by omega)]
theorem mo_pd_b (ν : mm_T) (c t : Int) : 0 ≤ mo_pd ν c t ∧ mo_pd ν c t ≤ 1 := by unfold mo_pd; split <;> omega
theorem mo_wt_b (hB : mo_B ν) : 0 ≤ mo_wt ν c ∧ mo_wt ν c ≤ 512 := by
  have h1 := hB.2.2.2.2.2.1
  have h2 := sm_b (g := mo_pd ν c) (M := 1) (fun i _ => mo_pd_b ν c i) (ν 0 24).toNat
  unfold mo_wt
  omega
/-- a bridge added -/
def mo_br (ν : mm_T) (b x l : Int) : mm_T := mm_u (mm_u (mm_u (mm_u (mo_cd ν 0) 2 (4 * b + x) (ν 0 1)) 3 (ν 0 1) b) 4 (ν 0 1) l) 0 1 (ν 0 1 + 1)
/-- a request made -/
def mo_rq (ν : mm_T) (c x w : Int) : mm_T := mm_u (mm_u (mm_u (mm_u (mm_u (mo_cd ν 0) 25 (ν 0 24) c) 26 (ν 0 24) x) 27 (ν 0 24) w) 28 (ν 0 24) 1099511627776) 0 24 (ν 0 24 + 1)
theorem mo_bridge_ok (hs : mo_sh s) (hB : mo_B ν) (hb : 0 ≤ b ∧ b < ν 0 1) (hx : 0 ≤ x ∧ x ≤ 3) (hl : 0 ≤ l ∧ l ≤ 1000) (h1 : ν 2 (4 * b + x) = -1) (h2 : ν 0 1 ≠ 8) (h3 : mo_cnt ν 8 (ν 3 b) ≠ 4) (h4 : ν 0 21 < 0) : sw_w E (d + 1) 83 (0, [some (2, 0), some (0, b), some (0, x), some (0, l)], []) s ν (sw_is (some (0, ν 0 1 + 1 - 1)) s (mo_br ν b x l)) := by
  have hn := hB.1
  have hcm := hB.2.2.2.1
  have hcc := hB.2.2.1
  have hsl := hB.2.2.2.2.2.2.2.1 (4 * b + x)
  have hct := mo_cnt_b ν 8 (ν 3 b)
  refine sw_p 3 (f' := (3, [some (2, 0), some (0, b), some (0, x), some (0, l)], [(0, b), (2, 0), (2, 0)])) rfl ?_
  refine sw_cv1 (pn := 6) (q0 := mj_Mo_bridge) (q := mj_Mo_isBridge) (p := 0) (as2 := [(0, b)]) (L2 := [some (2, 0), some (0, b)]) (rest := [(2, 0)]) (v := some (0, 1)) (s1 := s) (ν1 := ν) rfl rfl rfl rfl rfl rfl rfl rfl rfl hs.1 (mo_isB1 hs hB (by omega)) ?_
  show sw_w E _ 83 (6, [some (2, 0), some (0, b), some (0, x), some (0, l)], [(0, 1), (2, 0)]) s ν _
  refine sw_eq1 (pt := 33) (pn := 9) rfl rfl rfl (by omega) (fun h => absurd h (by decide)) (fun _ => ?_)
  refine sw_p 3 (f' := (12, [some (2, 0), some (0, b), some (0, x), some (0, l)], [(0, 3), (0, 0), (0, x), (2, 0)])) rfl ?_
  refine sw_cs1 (pn := 15) (q0 := mj_Mo_bridge) (q := mj_Mo_within) (L2 := [some (0, x), some (0, 0), some (0, 3)]) (rest := [(2, 0)]) (v := some (0, 1)) (s1 := s) (ν1 := ν) rfl rfl rfl rfl rfl rfl rfl rfl (mo_in1 (by omega) (by omega) (by omega) (by omega)) ?_
  show sw_w E _ 83 (15, [some (2, 0), some (0, b), some (0, x), some (0, l)], [(0, 1), (2, 0)]) s ν _
  refine sw_eq1 (pt := 33) (pn := 18) rfl rfl rfl (by omega) (fun h => absurd h (by decide)) (fun _ => ?_)
  refine sw_p 3 (f' := (23, [some (2, 0), some (0, b), some (0, x), some (0, l)], [(0, 1000), (0, 0), (0, l), (2, 0)])) rfl ?_
  refine sw_cs1 (pn := 26) (q0 := mj_Mo_bridge) (q := mj_Mo_within) (L2 := [some (0, l), some (0, 0), some (0, 1000)]) (rest := [(2, 0)]) (v := some (0, 1)) (s1 := s) (ν1 := ν) rfl rfl rfl rfl rfl rfl rfl rfl (mo_in1 (by omega) (by omega) (by omega) (by omega)) ?_
  show sw_w E _ 83 (26, [some (2, 0), some (0, b), some (0, x), some (0, l)], [(0, 1), (2, 0)]) s ν _
  refine sw_eq1 (pt := 33) (pn := 29) rfl rfl rfl (by omega) (fun h => absurd h (by decide)) (fun _ => ?_)
  refine sw_p 2 (f' := (34, [some (2, 0), some (0, b), some (0, x), some (0, l)], [(0, 0), (2, 0)])) rfl ?_
  refine sw_pI (pn := 37) (i := 0) rfl rfl rfl rfl rfl (by omega) hs.1 ?_
  refine sw_p 1 (f' := (38, [some (2, 0), some (0, b), some (0, x), some (0, l)], [(2, 0)])) rfl ?_
  refine sw_gI (pn := 41) (i := 0) rfl rfl rfl rfl rfl (by omega) hs.1 ?_
  rw [show (mm_u ν 0 0 0) 0 0 = 0 from mm_u_at]
  refine sw_ne1 (pt := 88) (pn := 44) rfl rfl rfl (by omega) (fun h => absurd h (by decide)) (fun _ => ?_)
  refine sw_p 1 (f' := (45, [some (2, 0), some (0, b), some (0, x), some (0, l)], [(2, 0)])) rfl ?_
  refine sw_hA (pn := 48) (i := 2) (v := 2) rfl rfl rfl rfl rfl hs.1 (mo_s2 hs).1 (by omega) ?_
  refine sw_p 5 (f' := (53, [some (2, 0), some (0, b), some (0, x), some (0, l)], [(0, (4 * b) + x), (2, 2)])) rfl ?_
  refine sw_ial (pn := 54) (l := 32) rfl rfl (by omega) (mo_s2 hs).2.1 (mo_s2 hs).2.2 (by omega) (by omega) ?_
  rw [show (mm_u ν 0 0 0) 2 ((4 * b) + x) = ν 2 ((4 * b) + x) from mm_u_ne (by omega)]
  refine sw_p 1 (f' := (55, [some (2, 0), some (0, b), some (0, x), some (0, l)], [(0, -1), (0, ν 2 ((4 * b) + x))])) rfl ?_
  refine sw_ne2 (pt := 83) (pn := 58) rfl rfl rfl (by omega) (by omega) (fun h => absurd h (by omega)) (fun h5 => ?_)
  refine sw_p 1 (f' := (59, [some (2, 0), some (0, b), some (0, x), some (0, l)], [(2, 0)])) rfl ?_
  refine sw_gI (pn := 62) (i := 1) rfl rfl rfl rfl rfl (by omega) hs.1 ?_
  rw [show (mm_u ν 0 0 0) 0 1 = ν 0 1 from mm_u_ne (by omega)]
  refine sw_p 1 (f' := (64, [some (2, 0), some (0, b), some (0, x), some (0, l)], [(0, 8), (0, ν 0 1)])) rfl ?_
  refine sw_eq2 (pt := 83) (pn := 67) rfl rfl rfl (by omega) (by omega) (fun h => absurd h (by omega)) (fun h6 => ?_)
  refine sw_p 2 (f' := (69, [some (2, 0), some (0, b), some (0, x), some (0, l)], [(0, b), (2, 0)])) rfl ?_
  refine sw_cv1 (pn := 72) (q0 := mj_Mo_bridge) (q := mj_Mo_depthOf) (p := 0) (as2 := [(0, b)]) (L2 := [some (2, 0), some (0, b), none, none]) (rest := []) (v := some (0, mo_cnt ν 8 (ν 3 b))) (s1 := s) (ν1 := (mm_u ν 0 0 0)) rfl rfl rfl rfl rfl rfl rfl rfl rfl hs.1 (by have h := mo_depthOf (E := E) (d := d) (b := b) (s := s) (ν := mo_cd ν 0) hs (mo_B_cd hB).ov (by omega); rw [mo_cnt_cd, show mo_cd ν 0 3 b = ν 3 b from mm_u_ne (by omega)] at h; exact h) ?_
  show sw_w E _ 83 (72, [some (2, 0), some (0, b), some (0, x), some (0, l)], [(0, mo_cnt ν 8 (ν 3 b))]) s (mm_u ν 0 0 0) _
  refine sw_p 1 (f' := (73, [some (2, 0), some (0, b), some (0, x), some (0, l)], [(0, 4), (0, mo_cnt ν 8 (ν 3 b))])) rfl ?_
  refine sw_eq2 (pt := 83) (pn := 76) rfl rfl rfl (by omega) (by omega) (fun h => absurd h (by omega)) (fun h7 => ?_)
  refine sw_p 1 (f' := (77, [some (2, 0), some (0, b), some (0, x), some (0, l)], [(2, 0)])) rfl ?_
  refine sw_gI (pn := 80) (i := 21) rfl rfl rfl rfl rfl (by omega) hs.1 ?_
  rw [show (mm_u ν 0 0 0) 0 21 = ν 0 21 from mm_u_ne (by omega)]
  refine sw_lt1 (pt := 88) (pn := 83) rfl rfl rfl (by omega) (fun h8 => ?_) (fun h => absurd h (by omega))
  refine sw_p 1 (f' := (89, [some (2, 0), some (0, b), some (0, x), some (0, l)], [(2, 0)])) rfl ?_
  refine sw_gI (pn := 92) (i := 0) rfl rfl rfl rfl rfl (by omega) hs.1 ?_
  rw [show (mm_u ν 0 0 0) 0 0 = 0 from mm_u_at]
  refine sw_le1 (pt := 97) (pn := 95) rfl rfl rfl (by omega) (fun _ => ?_) (fun h => absurd h (by decide))
  refine sw_p 1 (f' := (98, [some (2, 0), some (0, b), some (0, x), some (0, l)], [(2, 0)])) rfl ?_
  refine sw_hA (pn := 101) (i := 2) (v := 2) rfl rfl rfl rfl rfl hs.1 (mo_s2 hs).1 (by omega) ?_
  refine sw_p 6 (f' := (107, [some (2, 0), some (0, b), some (0, x), some (0, l)], [(2, 0), (0, (4 * b) + x), (2, 2)])) rfl ?_
  refine sw_gI (pn := 110) (i := 1) rfl rfl rfl rfl rfl (by omega) hs.1 ?_
  rw [show (mm_u ν 0 0 0) 0 1 = ν 0 1 from mm_u_ne (by omega)]
  refine sw_ias (pn := 111) (l := 32) rfl rfl (by omega) (mo_s2 hs).2.1 (mo_s2 hs).2.2 (by omega) (by omega) ?_
  refine sw_p 1 (f' := (112, [some (2, 0), some (0, b), some (0, x), some (0, l)], [(2, 0)])) rfl ?_
  refine sw_hA (pn := 115) (i := 3) (v := 3) rfl rfl rfl rfl rfl hs.1 (mo_s3 hs).1 (by omega) ?_
  refine sw_p 1 (f' := (116, [some (2, 0), some (0, b), some (0, x), some (0, l)], [(2, 0), (2, 3)])) rfl ?_
  refine sw_gI (pn := 119) (i := 1) rfl rfl rfl rfl rfl (by omega) hs.1 ?_
  rw [show (mm_u (mm_u ν 0 0 0) 2 ((4 * b) + x) (ν 0 1)) 0 1 = ν 0 1 from (mm_u_ne (by omega)).trans (mm_u_ne (by omega))]
  refine sw_p 1 (f' := (120, [some (2, 0), some (0, b), some (0, x), some (0, l)], [(0, b), (0, ν 0 1), (2, 3)])) rfl ?_
  refine sw_ias (pn := 121) (l := 8) rfl rfl (by omega) (mo_s3 hs).2.1 (mo_s3 hs).2.2 (by omega) (by omega) ?_
  refine sw_p 1 (f' := (122, [some (2, 0), some (0, b), some (0, x), some (0, l)], [(2, 0)])) rfl ?_
  refine sw_hA (pn := 125) (i := 4) (v := 4) rfl rfl rfl rfl rfl hs.1 (mo_s4 hs).1 (by omega) ?_
  refine sw_p 1 (f' := (126, [some (2, 0), some (0, b), some (0, x), some (0, l)], [(2, 0), (2, 4)])) rfl ?_
  refine sw_gI (pn := 129) (i := 1) rfl rfl rfl rfl rfl (by omega) hs.1 ?_
  rw [show (mm_u (mm_u (mm_u ν 0 0 0) 2 ((4 * b) + x) (ν 0 1)) 3 (ν 0 1) b) 0 1 = ν 0 1 from (mm_u_ne (by omega)).trans ((mm_u_ne (by omega)).trans (mm_u_ne (by omega)))]
  refine sw_p 1 (f' := (130, [some (2, 0), some (0, b), some (0, x), some (0, l)], [(0, l), (0, ν 0 1), (2, 4)])) rfl ?_
  refine sw_ias (pn := 131) (l := 8) rfl rfl (by omega) (mo_s4 hs).2.1 (mo_s4 hs).2.2 (by omega) (by omega) ?_
  refine sw_p 2 (f' := (133, [some (2, 0), some (0, b), some (0, x), some (0, l)], [(2, 0), (2, 0)])) rfl ?_
  refine sw_gI (pn := 136) (i := 1) rfl rfl rfl rfl rfl (by omega) hs.1 ?_
  rw [show (mm_u (mm_u (mm_u (mm_u ν 0 0 0) 2 ((4 * b) + x) (ν 0 1)) 3 (ν 0 1) b) 4 (ν 0 1) l) 0 1 = ν 0 1 from (mm_u_ne (by omega)).trans ((mm_u_ne (by omega)).trans ((mm_u_ne (by omega)).trans (mm_u_ne (by omega))))]
  refine sw_p 2 (f' := (138, [some (2, 0), some (0, b), some (0, x), some (0, l)], [(0, (ν 0 1) + 1), (2, 0)])) rfl ?_
  refine sw_pI (pn := 141) (i := 1) rfl rfl rfl rfl rfl (by omega) hs.1 ?_
  refine sw_p 1 (f' := (142, [some (2, 0), some (0, b), some (0, x), some (0, l)], [(2, 0)])) rfl ?_
  refine sw_gI (pn := 145) (i := 1) rfl rfl rfl rfl rfl (by omega) hs.1 ?_
  rw [show (mm_u (mm_u (mm_u (mm_u (mm_u ν 0 0 0) 2 ((4 * b) + x) (ν 0 1)) 3 (ν 0 1) b) 4 (ν 0 1) l) 0 1 ((ν 0 1) + 1)) 0 1 = (ν 0 1) + 1 from mm_u_at]
  refine sw_p 2 (f' := (147, [some (2, 0), some (0, b), some (0, x), some (0, l)], [(0, ((ν 0 1) + 1) - 1)])) rfl ?_
  exact sw_retI rfl rfl rfl ⟨rfl, rfl, rfl⟩
theorem mo_bridge_s1 (hs : mo_sh s) (hB : mo_B ν) (hb : 0 ≤ b ∧ b < ν 0 1) (hx : 0 ≤ x ∧ x ≤ 3) (hl : 0 ≤ l ∧ l ≤ 1000) (h1 : ν 2 (4 * b + x) ≠ -1) : sw_w E (d + 1) 83 (0, [some (2, 0), some (0, b), some (0, x), some (0, l)], []) s ν (sw_is (some (0, 0)) s (mm_u (mo_cd ν 0) 0 0 2)) := by
  have hn := hB.1
  have hcm := hB.2.2.2.1
  have hcc := hB.2.2.1
  have hsl := hB.2.2.2.2.2.2.2.1 (4 * b + x)
  have hct := mo_cnt_b ν 8 (ν 3 b)
  refine sw_p 3 (f' := (3, [some (2, 0), some (0, b), some (0, x), some (0, l)], [(0, b), (2, 0), (2, 0)])) rfl ?_
  refine sw_cv1 (pn := 6) (q0 := mj_Mo_bridge) (q := mj_Mo_isBridge) (p := 0) (as2 := [(0, b)]) (L2 := [some (2, 0), some (0, b)]) (rest := [(2, 0)]) (v := some (0, 1)) (s1 := s) (ν1 := ν) rfl rfl rfl rfl rfl rfl rfl rfl rfl hs.1 (mo_isB1 hs hB (by omega)) ?_
  show sw_w E _ 83 (6, [some (2, 0), some (0, b), some (0, x), some (0, l)], [(0, 1), (2, 0)]) s ν _
  refine sw_eq1 (pt := 33) (pn := 9) rfl rfl rfl (by omega) (fun h => absurd h (by decide)) (fun _ => ?_)
  refine sw_p 3 (f' := (12, [some (2, 0), some (0, b), some (0, x), some (0, l)], [(0, 3), (0, 0), (0, x), (2, 0)])) rfl ?_
  refine sw_cs1 (pn := 15) (q0 := mj_Mo_bridge) (q := mj_Mo_within) (L2 := [some (0, x), some (0, 0), some (0, 3)]) (rest := [(2, 0)]) (v := some (0, 1)) (s1 := s) (ν1 := ν) rfl rfl rfl rfl rfl rfl rfl rfl (mo_in1 (by omega) (by omega) (by omega) (by omega)) ?_
  show sw_w E _ 83 (15, [some (2, 0), some (0, b), some (0, x), some (0, l)], [(0, 1), (2, 0)]) s ν _
  refine sw_eq1 (pt := 33) (pn := 18) rfl rfl rfl (by omega) (fun h => absurd h (by decide)) (fun _ => ?_)
  refine sw_p 3 (f' := (23, [some (2, 0), some (0, b), some (0, x), some (0, l)], [(0, 1000), (0, 0), (0, l), (2, 0)])) rfl ?_
  refine sw_cs1 (pn := 26) (q0 := mj_Mo_bridge) (q := mj_Mo_within) (L2 := [some (0, l), some (0, 0), some (0, 1000)]) (rest := [(2, 0)]) (v := some (0, 1)) (s1 := s) (ν1 := ν) rfl rfl rfl rfl rfl rfl rfl rfl (mo_in1 (by omega) (by omega) (by omega) (by omega)) ?_
  show sw_w E _ 83 (26, [some (2, 0), some (0, b), some (0, x), some (0, l)], [(0, 1), (2, 0)]) s ν _
  refine sw_eq1 (pt := 33) (pn := 29) rfl rfl rfl (by omega) (fun h => absurd h (by decide)) (fun _ => ?_)
  refine sw_p 2 (f' := (34, [some (2, 0), some (0, b), some (0, x), some (0, l)], [(0, 0), (2, 0)])) rfl ?_
  refine sw_pI (pn := 37) (i := 0) rfl rfl rfl rfl rfl (by omega) hs.1 ?_
  refine sw_p 1 (f' := (38, [some (2, 0), some (0, b), some (0, x), some (0, l)], [(2, 0)])) rfl ?_
  refine sw_gI (pn := 41) (i := 0) rfl rfl rfl rfl rfl (by omega) hs.1 ?_
  rw [show (mm_u ν 0 0 0) 0 0 = 0 from mm_u_at]
  refine sw_ne1 (pt := 88) (pn := 44) rfl rfl rfl (by omega) (fun h => absurd h (by decide)) (fun _ => ?_)
  refine sw_p 1 (f' := (45, [some (2, 0), some (0, b), some (0, x), some (0, l)], [(2, 0)])) rfl ?_
  refine sw_hA (pn := 48) (i := 2) (v := 2) rfl rfl rfl rfl rfl hs.1 (mo_s2 hs).1 (by omega) ?_
  refine sw_p 5 (f' := (53, [some (2, 0), some (0, b), some (0, x), some (0, l)], [(0, (4 * b) + x), (2, 2)])) rfl ?_
  refine sw_ial (pn := 54) (l := 32) rfl rfl (by omega) (mo_s2 hs).2.1 (mo_s2 hs).2.2 (by omega) (by omega) ?_
  rw [show (mm_u ν 0 0 0) 2 ((4 * b) + x) = ν 2 ((4 * b) + x) from mm_u_ne (by omega)]
  refine sw_p 1 (f' := (55, [some (2, 0), some (0, b), some (0, x), some (0, l)], [(0, -1), (0, ν 2 ((4 * b) + x))])) rfl ?_
  refine sw_ne2 (pt := 83) (pn := 58) rfl rfl rfl (by omega) (by omega) (fun h5 => ?_) (fun h => absurd h (by omega))
  refine sw_p 2 (f' := (85, [some (2, 0), some (0, b), some (0, x), some (0, l)], [(0, 2), (2, 0)])) rfl ?_
  refine sw_pI (pn := 88) (i := 0) rfl rfl rfl rfl rfl (by omega) hs.1 ?_
  refine sw_p 1 (f' := (89, [some (2, 0), some (0, b), some (0, x), some (0, l)], [(2, 0)])) rfl ?_
  refine sw_gI (pn := 92) (i := 0) rfl rfl rfl rfl rfl (by omega) hs.1 ?_
  rw [show (mm_u (mm_u ν 0 0 0) 0 0 2) 0 0 = 2 from mm_u_at]
  refine sw_le1 (pt := 97) (pn := 95) rfl rfl rfl (by omega) (fun h => absurd h (by decide)) (fun _ => ?_)
  refine sw_p 1 (f' := (96, [some (2, 0), some (0, b), some (0, x), some (0, l)], [(0, 0)])) rfl ?_
  exact sw_retI rfl rfl rfl ⟨rfl, rfl, rfl⟩
theorem mo_bridge_s2 (hs : mo_sh s) (hB : mo_B ν) (hb : 0 ≤ b ∧ b < ν 0 1) (hx : 0 ≤ x ∧ x ≤ 3) (hl : 0 ≤ l ∧ l ≤ 1000) (h1 : ν 2 (4 * b + x) = -1) (h2 : ν 0 1 = 8) : sw_w E (d + 1) 83 (0, [some (2, 0), some (0, b), some (0, x), some (0, l)], []) s ν (sw_is (some (0, 0)) s (mm_u (mo_cd ν 0) 0 0 2)) := by
  have hn := hB.1
  have hcm := hB.2.2.2.1
  have hcc := hB.2.2.1
  have hsl := hB.2.2.2.2.2.2.2.1 (4 * b + x)
  have hct := mo_cnt_b ν 8 (ν 3 b)
  refine sw_p 3 (f' := (3, [some (2, 0), some (0, b), some (0, x), some (0, l)], [(0, b), (2, 0), (2, 0)])) rfl ?_
  refine sw_cv1 (pn := 6) (q0 := mj_Mo_bridge) (q := mj_Mo_isBridge) (p := 0) (as2 := [(0, b)]) (L2 := [some (2, 0), some (0, b)]) (rest := [(2, 0)]) (v := some (0, 1)) (s1 := s) (ν1 := ν) rfl rfl rfl rfl rfl rfl rfl rfl rfl hs.1 (mo_isB1 hs hB (by omega)) ?_
  show sw_w E _ 83 (6, [some (2, 0), some (0, b), some (0, x), some (0, l)], [(0, 1), (2, 0)]) s ν _
  refine sw_eq1 (pt := 33) (pn := 9) rfl rfl rfl (by omega) (fun h => absurd h (by decide)) (fun _ => ?_)
  refine sw_p 3 (f' := (12, [some (2, 0), some (0, b), some (0, x), some (0, l)], [(0, 3), (0, 0), (0, x), (2, 0)])) rfl ?_
  refine sw_cs1 (pn := 15) (q0 := mj_Mo_bridge) (q := mj_Mo_within) (L2 := [some (0, x), some (0, 0), some (0, 3)]) (rest := [(2, 0)]) (v := some (0, 1)) (s1 := s) (ν1 := ν) rfl rfl rfl rfl rfl rfl rfl rfl (mo_in1 (by omega) (by omega) (by omega) (by omega)) ?_
  show sw_w E _ 83 (15, [some (2, 0), some (0, b), some (0, x), some (0, l)], [(0, 1), (2, 0)]) s ν _
  refine sw_eq1 (pt := 33) (pn := 18) rfl rfl rfl (by omega) (fun h => absurd h (by decide)) (fun _ => ?_)
  refine sw_p 3 (f' := (23, [some (2, 0), some (0, b), some (0, x), some (0, l)], [(0, 1000), (0, 0), (0, l), (2, 0)])) rfl ?_
  refine sw_cs1 (pn := 26) (q0 := mj_Mo_bridge) (q := mj_Mo_within) (L2 := [some (0, l), some (0, 0), some (0, 1000)]) (rest := [(2, 0)]) (v := some (0, 1)) (s1 := s) (ν1 := ν) rfl rfl rfl rfl rfl rfl rfl rfl (mo_in1 (by omega) (by omega) (by omega) (by omega)) ?_
  show sw_w E _ 83 (26, [some (2, 0), some (0, b), some (0, x), some (0, l)], [(0, 1), (2, 0)]) s ν _
  refine sw_eq1 (pt := 33) (pn := 29) rfl rfl rfl (by omega) (fun h => absurd h (by decide)) (fun _ => ?_)
  refine sw_p 2 (f' := (34, [some (2, 0), some (0, b), some (0, x), some (0, l)], [(0, 0), (2, 0)])) rfl ?_
  refine sw_pI (pn := 37) (i := 0) rfl rfl rfl rfl rfl (by omega) hs.1 ?_
  refine sw_p 1 (f' := (38, [some (2, 0), some (0, b), some (0, x), some (0, l)], [(2, 0)])) rfl ?_
  refine sw_gI (pn := 41) (i := 0) rfl rfl rfl rfl rfl (by omega) hs.1 ?_
  rw [show (mm_u ν 0 0 0) 0 0 = 0 from mm_u_at]
  refine sw_ne1 (pt := 88) (pn := 44) rfl rfl rfl (by omega) (fun h => absurd h (by decide)) (fun _ => ?_)
  refine sw_p 1 (f' := (45, [some (2, 0), some (0, b), some (0, x), some (0, l)], [(2, 0)])) rfl ?_
  refine sw_hA (pn := 48) (i := 2) (v := 2) rfl rfl rfl rfl rfl hs.1 (mo_s2 hs).1 (by omega) ?_
  refine sw_p 5 (f' := (53, [some (2, 0), some (0, b), some (0, x), some (0, l)], [(0, (4 * b) + x), (2, 2)])) rfl ?_
  refine sw_ial (pn := 54) (l := 32) rfl rfl (by omega) (mo_s2 hs).2.1 (mo_s2 hs).2.2 (by omega) (by omega) ?_
  rw [show (mm_u ν 0 0 0) 2 ((4 * b) + x) = ν 2 ((4 * b) + x) from mm_u_ne (by omega)]
  refine sw_p 1 (f' := (55, [some (2, 0), some (0, b), some (0, x), some (0, l)], [(0, -1), (0, ν 2 ((4 * b) + x))])) rfl ?_
  refine sw_ne2 (pt := 83) (pn := 58) rfl rfl rfl (by omega) (by omega) (fun h => absurd h (by omega)) (fun h5 => ?_)
  refine sw_p 1 (f' := (59, [some (2, 0), some (0, b), some (0, x), some (0, l)], [(2, 0)])) rfl ?_
  refine sw_gI (pn := 62) (i := 1) rfl rfl rfl rfl rfl (by omega) hs.1 ?_
  rw [show (mm_u ν 0 0 0) 0 1 = ν 0 1 from mm_u_ne (by omega)]
  refine sw_p 1 (f' := (64, [some (2, 0), some (0, b), some (0, x), some (0, l)], [(0, 8), (0, ν 0 1)])) rfl ?_
  refine sw_eq2 (pt := 83) (pn := 67) rfl rfl rfl (by omega) (by omega) (fun h6 => ?_) (fun h => absurd h (by omega))
  refine sw_p 2 (f' := (85, [some (2, 0), some (0, b), some (0, x), some (0, l)], [(0, 2), (2, 0)])) rfl ?_
  refine sw_pI (pn := 88) (i := 0) rfl rfl rfl rfl rfl (by omega) hs.1 ?_
  refine sw_p 1 (f' := (89, [some (2, 0), some (0, b), some (0, x), some (0, l)], [(2, 0)])) rfl ?_
  refine sw_gI (pn := 92) (i := 0) rfl rfl rfl rfl rfl (by omega) hs.1 ?_
  rw [show (mm_u (mm_u ν 0 0 0) 0 0 2) 0 0 = 2 from mm_u_at]
  refine sw_le1 (pt := 97) (pn := 95) rfl rfl rfl (by omega) (fun h => absurd h (by decide)) (fun _ => ?_)
  refine sw_p 1 (f' := (96, [some (2, 0), some (0, b), some (0, x), some (0, l)], [(0, 0)])) rfl ?_
  exact sw_retI rfl rfl rfl ⟨rfl, rfl, rfl⟩
theorem mo_bridge_s3 (hs : mo_sh s) (hB : mo_B ν) (hb : 0 ≤ b ∧ b < ν 0 1) (hx : 0 ≤ x ∧ x ≤ 3) (hl : 0 ≤ l ∧ l ≤ 1000) (h1 : ν 2 (4 * b + x) = -1) (h2 : ν 0 1 ≠ 8) (h3 : mo_cnt ν 8 (ν 3 b) = 4) : sw_w E (d + 1) 83 (0, [some (2, 0), some (0, b), some (0, x), some (0, l)], []) s ν (sw_is (some (0, 0)) s (mm_u (mo_cd ν 0) 0 0 2)) := by
  have hn := hB.1
  have hcm := hB.2.2.2.1
  have hcc := hB.2.2.1
  have hsl := hB.2.2.2.2.2.2.2.1 (4 * b + x)
  have hct := mo_cnt_b ν 8 (ν 3 b)
  refine sw_p 3 (f' := (3, [some (2, 0), some (0, b), some (0, x), some (0, l)], [(0, b), (2, 0), (2, 0)])) rfl ?_
  refine sw_cv1 (pn := 6) (q0 := mj_Mo_bridge) (q := mj_Mo_isBridge) (p := 0) (as2 := [(0, b)]) (L2 := [some (2, 0), some (0, b)]) (rest := [(2, 0)]) (v := some (0, 1)) (s1 := s) (ν1 := ν) rfl rfl rfl rfl rfl rfl rfl rfl rfl hs.1 (mo_isB1 hs hB (by omega)) ?_
  show sw_w E _ 83 (6, [some (2, 0), some (0, b), some (0, x), some (0, l)], [(0, 1), (2, 0)]) s ν _
  refine sw_eq1 (pt := 33) (pn := 9) rfl rfl rfl (by omega) (fun h => absurd h (by decide)) (fun _ => ?_)
  refine sw_p 3 (f' := (12, [some (2, 0), some (0, b), some (0, x), some (0, l)], [(0, 3), (0, 0), (0, x), (2, 0)])) rfl ?_
  refine sw_cs1 (pn := 15) (q0 := mj_Mo_bridge) (q := mj_Mo_within) (L2 := [some (0, x), some (0, 0), some (0, 3)]) (rest := [(2, 0)]) (v := some (0, 1)) (s1 := s) (ν1 := ν) rfl rfl rfl rfl rfl rfl rfl rfl (mo_in1 (by omega) (by omega) (by omega) (by omega)) ?_
  show sw_w E _ 83 (15, [some (2, 0), some (0, b), some (0, x), some (0, l)], [(0, 1), (2, 0)]) s ν _
  refine sw_eq1 (pt := 33) (pn := 18) rfl rfl rfl (by omega) (fun h => absurd h (by decide)) (fun _ => ?_)
  refine sw_p 3 (f' := (23, [some (2, 0), some (0, b), some (0, x), some (0, l)], [(0, 1000), (0, 0), (0, l), (2, 0)])) rfl ?_
  refine sw_cs1 (pn := 26) (q0 := mj_Mo_bridge) (q := mj_Mo_within) (L2 := [some (0, l), some (0, 0), some (0, 1000)]) (rest := [(2, 0)]) (v := some (0, 1)) (s1 := s) (ν1 := ν) rfl rfl rfl rfl rfl rfl rfl rfl (mo_in1 (by omega) (by omega) (by omega) (by omega)) ?_
  show sw_w E _ 83 (26, [some (2, 0), some (0, b), some (0, x), some (0, l)], [(0, 1), (2, 0)]) s ν _
  refine sw_eq1 (pt := 33) (pn := 29) rfl rfl rfl (by omega) (fun h => absurd h (by decide)) (fun _ => ?_)
  refine sw_p 2 (f' := (34, [some (2, 0), some (0, b), some (0, x), some (0, l)], [(0, 0), (2, 0)])) rfl ?_
  refine sw_pI (pn := 37) (i := 0) rfl rfl rfl rfl rfl (by omega) hs.1 ?_
  refine sw_p 1 (f' := (38, [some (2, 0), some (0, b), some (0, x), some (0, l)], [(2, 0)])) rfl ?_
  refine sw_gI (pn := 41) (i := 0) rfl rfl rfl rfl rfl (by omega) hs.1 ?_
  rw [show (mm_u ν 0 0 0) 0 0 = 0 from mm_u_at]
  refine sw_ne1 (pt := 88) (pn := 44) rfl rfl rfl (by omega) (fun h => absurd h (by decide)) (fun _ => ?_)
  refine sw_p 1 (f' := (45, [some (2, 0), some (0, b), some (0, x), some (0, l)], [(2, 0)])) rfl ?_
  refine sw_hA (pn := 48) (i := 2) (v := 2) rfl rfl rfl rfl rfl hs.1 (mo_s2 hs).1 (by omega) ?_
  refine sw_p 5 (f' := (53, [some (2, 0), some (0, b), some (0, x), some (0, l)], [(0, (4 * b) + x), (2, 2)])) rfl ?_
  refine sw_ial (pn := 54) (l := 32) rfl rfl (by omega) (mo_s2 hs).2.1 (mo_s2 hs).2.2 (by omega) (by omega) ?_
  rw [show (mm_u ν 0 0 0) 2 ((4 * b) + x) = ν 2 ((4 * b) + x) from mm_u_ne (by omega)]
  refine sw_p 1 (f' := (55, [some (2, 0), some (0, b), some (0, x), some (0, l)], [(0, -1), (0, ν 2 ((4 * b) + x))])) rfl ?_
  refine sw_ne2 (pt := 83) (pn := 58) rfl rfl rfl (by omega) (by omega) (fun h => absurd h (by omega)) (fun h5 => ?_)
  refine sw_p 1 (f' := (59, [some (2, 0), some (0, b), some (0, x), some (0, l)], [(2, 0)])) rfl ?_
  refine sw_gI (pn := 62) (i := 1) rfl rfl rfl rfl rfl (by omega) hs.1 ?_
  rw [show (mm_u ν 0 0 0) 0 1 = ν 0 1 from mm_u_ne (by omega)]
  refine sw_p 1 (f' := (64, [some (2, 0), some (0, b), some (0, x), some (0, l)], [(0, 8), (0, ν 0 1)])) rfl ?_
  refine sw_eq2 (pt := 83) (pn := 67) rfl rfl rfl (by omega) (by omega) (fun h => absurd h (by omega)) (fun h6 => ?_)
  refine sw_p 2 (f' := (69, [some (2, 0), some (0, b), some (0, x), some (0, l)], [(0, b), (2, 0)])) rfl ?_
  refine sw_cv1 (pn := 72) (q0 := mj_Mo_bridge) (q := mj_Mo_depthOf) (p := 0) (as2 := [(0, b)]) (L2 := [some (2, 0), some (0, b), none, none]) (rest := []) (v := some (0, mo_cnt ν 8 (ν 3 b))) (s1 := s) (ν1 := (mm_u ν 0 0 0)) rfl rfl rfl rfl rfl rfl rfl rfl rfl hs.1 (by have h := mo_depthOf (E := E) (d := d) (b := b) (s := s) (ν := mo_cd ν 0) hs (mo_B_cd hB).ov (by omega); rw [mo_cnt_cd, show mo_cd ν 0 3 b = ν 3 b from mm_u_ne (by omega)] at h; exact h) ?_
  show sw_w E _ 83 (72, [some (2, 0), some (0, b), some (0, x), some (0, l)], [(0, mo_cnt ν 8 (ν 3 b))]) s (mm_u ν 0 0 0) _
  refine sw_p 1 (f' := (73, [some (2, 0), some (0, b), some (0, x), some (0, l)], [(0, 4), (0, mo_cnt ν 8 (ν 3 b))])) rfl ?_
  refine sw_eq2 (pt := 83) (pn := 76) rfl rfl rfl (by omega) (by omega) (fun h7 => ?_) (fun h => absurd h (by omega))
  refine sw_p 2 (f' := (85, [some (2, 0), some (0, b), some (0, x), some (0, l)], [(0, 2), (2, 0)])) rfl ?_
  refine sw_pI (pn := 88) (i := 0) rfl rfl rfl rfl rfl (by omega) hs.1 ?_
  refine sw_p 1 (f' := (89, [some (2, 0), some (0, b), some (0, x), some (0, l)], [(2, 0)])) rfl ?_
  refine sw_gI (pn := 92) (i := 0) rfl rfl rfl rfl rfl (by omega) hs.1 ?_
  rw [show (mm_u (mm_u ν 0 0 0) 0 0 2) 0 0 = 2 from mm_u_at]
  refine sw_le1 (pt := 97) (pn := 95) rfl rfl rfl (by omega) (fun h => absurd h (by decide)) (fun _ => ?_)
  refine sw_p 1 (f' := (96, [some (2, 0), some (0, b), some (0, x), some (0, l)], [(0, 0)])) rfl ?_
  exact sw_retI rfl rfl rfl ⟨rfl, rfl, rfl⟩
theorem mo_bridge_s4 (hs : mo_sh s) (hB : mo_B ν) (hb : 0 ≤ b ∧ b < ν 0 1) (hx : 0 ≤ x ∧ x ≤ 3) (hl : 0 ≤ l ∧ l ≤ 1000) (h1 : ν 2 (4 * b + x) = -1) (h2 : ν 0 1 ≠ 8) (h3 : mo_cnt ν 8 (ν 3 b) ≠ 4) (h4 : 0 ≤ ν 0 21) : sw_w E (d + 1) 83 (0, [some (2, 0), some (0, b), some (0, x), some (0, l)], []) s ν (sw_is (some (0, 0)) s (mm_u (mo_cd ν 0) 0 0 2)) := by
  have hn := hB.1
  have hcm := hB.2.2.2.1
  have hcc := hB.2.2.1
  have hsl := hB.2.2.2.2.2.2.2.1 (4 * b + x)
  have hct := mo_cnt_b ν 8 (ν 3 b)
  refine sw_p 3 (f' := (3, [some (2, 0), some (0, b), some (0, x), some (0, l)], [(0, b), (2, 0), (2, 0)])) rfl ?_
  refine sw_cv1 (pn := 6) (q0 := mj_Mo_bridge) (q := mj_Mo_isBridge) (p := 0) (as2 := [(0, b)]) (L2 := [some (2, 0), some (0, b)]) (rest := [(2, 0)]) (v := some (0, 1)) (s1 := s) (ν1 := ν) rfl rfl rfl rfl rfl rfl rfl rfl rfl hs.1 (mo_isB1 hs hB (by omega)) ?_
  show sw_w E _ 83 (6, [some (2, 0), some (0, b), some (0, x), some (0, l)], [(0, 1), (2, 0)]) s ν _
  refine sw_eq1 (pt := 33) (pn := 9) rfl rfl rfl (by omega) (fun h => absurd h (by decide)) (fun _ => ?_)
  refine sw_p 3 (f' := (12, [some (2, 0), some (0, b), some (0, x), some (0, l)], [(0, 3), (0, 0), (0, x), (2, 0)])) rfl ?_
  refine sw_cs1 (pn := 15) (q0 := mj_Mo_bridge) (q := mj_Mo_within) (L2 := [some (0, x), some (0, 0), some (0, 3)]) (rest := [(2, 0)]) (v := some (0, 1)) (s1 := s) (ν1 := ν) rfl rfl rfl rfl rfl rfl rfl rfl (mo_in1 (by omega) (by omega) (by omega) (by omega)) ?_
  show sw_w E _ 83 (15, [some (2, 0), some (0, b), some (0, x), some (0, l)], [(0, 1), (2, 0)]) s ν _
  refine sw_eq1 (pt := 33) (pn := 18) rfl rfl rfl (by omega) (fun h => absurd h (by decide)) (fun _ => ?_)
  refine sw_p 3 (f' := (23, [some (2, 0), some (0, b), some (0, x), some (0, l)], [(0, 1000), (0, 0), (0, l), (2, 0)])) rfl ?_
  refine sw_cs1 (pn := 26) (q0 := mj_Mo_bridge) (q := mj_Mo_within) (L2 := [some (0, l), some (0, 0), some (0, 1000)]) (rest := [(2, 0)]) (v := some (0, 1)) (s1 := s) (ν1 := ν) rfl rfl rfl rfl rfl rfl rfl rfl (mo_in1 (by omega) (by omega) (by omega) (by omega)) ?_
  show sw_w E _ 83 (26, [some (2, 0), some (0, b), some (0, x), some (0, l)], [(0, 1), (2, 0)]) s ν _
  refine sw_eq1 (pt := 33) (pn := 29) rfl rfl rfl (by omega) (fun h => absurd h (by decide)) (fun _ => ?_)
  refine sw_p 2 (f' := (34, [some (2, 0), some (0, b), some (0, x), some (0, l)], [(0, 0), (2, 0)])) rfl ?_
  refine sw_pI (pn := 37) (i := 0) rfl rfl rfl rfl rfl (by omega) hs.1 ?_
  refine sw_p 1 (f' := (38, [some (2, 0), some (0, b), some (0, x), some (0, l)], [(2, 0)])) rfl ?_
  refine sw_gI (pn := 41) (i := 0) rfl rfl rfl rfl rfl (by omega) hs.1 ?_
  rw [show (mm_u ν 0 0 0) 0 0 = 0 from mm_u_at]
  refine sw_ne1 (pt := 88) (pn := 44) rfl rfl rfl (by omega) (fun h => absurd h (by decide)) (fun _ => ?_)
  refine sw_p 1 (f' := (45, [some (2, 0), some (0, b), some (0, x), some (0, l)], [(2, 0)])) rfl ?_
  refine sw_hA (pn := 48) (i := 2) (v := 2) rfl rfl rfl rfl rfl hs.1 (mo_s2 hs).1 (by omega) ?_
  refine sw_p 5 (f' := (53, [some (2, 0), some (0, b), some (0, x), some (0, l)], [(0, (4 * b) + x), (2, 2)])) rfl ?_
  refine sw_ial (pn := 54) (l := 32) rfl rfl (by omega) (mo_s2 hs).2.1 (mo_s2 hs).2.2 (by omega) (by omega) ?_
  rw [show (mm_u ν 0 0 0) 2 ((4 * b) + x) = ν 2 ((4 * b) + x) from mm_u_ne (by omega)]
  refine sw_p 1 (f' := (55, [some (2, 0), some (0, b), some (0, x), some (0, l)], [(0, -1), (0, ν 2 ((4 * b) + x))])) rfl ?_
  refine sw_ne2 (pt := 83) (pn := 58) rfl rfl rfl (by omega) (by omega) (fun h => absurd h (by omega)) (fun h5 => ?_)
  refine sw_p 1 (f' := (59, [some (2, 0), some (0, b), some (0, x), some (0, l)], [(2, 0)])) rfl ?_
  refine sw_gI (pn := 62) (i := 1) rfl rfl rfl rfl rfl (by omega) hs.1 ?_
  rw [show (mm_u ν 0 0 0) 0 1 = ν 0 1 from mm_u_ne (by omega)]
  refine sw_p 1 (f' := (64, [some (2, 0), some (0, b), some (0, x), some (0, l)], [(0, 8), (0, ν 0 1)])) rfl ?_
  refine sw_eq2 (pt := 83) (pn := 67) rfl rfl rfl (by omega) (by omega) (fun h => absurd h (by omega)) (fun h6 => ?_)
  refine sw_p 2 (f' := (69, [some (2, 0), some (0, b), some (0, x), some (0, l)], [(0, b), (2, 0)])) rfl ?_
  refine sw_cv1 (pn := 72) (q0 := mj_Mo_bridge) (q := mj_Mo_depthOf) (p := 0) (as2 := [(0, b)]) (L2 := [some (2, 0), some (0, b), none, none]) (rest := []) (v := some (0, mo_cnt ν 8 (ν 3 b))) (s1 := s) (ν1 := (mm_u ν 0 0 0)) rfl rfl rfl rfl rfl rfl rfl rfl rfl hs.1 (by have h := mo_depthOf (E := E) (d := d) (b := b) (s := s) (ν := mo_cd ν 0) hs (mo_B_cd hB).ov (by omega); rw [mo_cnt_cd, show mo_cd ν 0 3 b = ν 3 b from mm_u_ne (by omega)] at h; exact h) ?_
  show sw_w E _ 83 (72, [some (2, 0), some (0, b), some (0, x), some (0, l)], [(0, mo_cnt ν 8 (ν 3 b))]) s (mm_u ν 0 0 0) _
  refine sw_p 1 (f' := (73, [some (2, 0), some (0, b), some (0, x), some (0, l)], [(0, 4), (0, mo_cnt ν 8 (ν 3 b))])) rfl ?_
  refine sw_eq2 (pt := 83) (pn := 76) rfl rfl rfl (by omega) (by omega) (fun h => absurd h (by omega)) (fun h7 => ?_)
  refine sw_p 1 (f' := (77, [some (2, 0), some (0, b), some (0, x), some (0, l)], [(2, 0)])) rfl ?_
  refine sw_gI (pn := 80) (i := 21) rfl rfl rfl rfl rfl (by omega) hs.1 ?_
  rw [show (mm_u ν 0 0 0) 0 21 = ν 0 21 from mm_u_ne (by omega)]
  refine sw_lt1 (pt := 88) (pn := 83) rfl rfl rfl (by omega) (fun h => absurd h (by omega)) (fun h8 => ?_)
  refine sw_p 2 (f' := (85, [some (2, 0), some (0, b), some (0, x), some (0, l)], [(0, 2), (2, 0)])) rfl ?_
  refine sw_pI (pn := 88) (i := 0) rfl rfl rfl rfl rfl (by omega) hs.1 ?_
  refine sw_p 1 (f' := (89, [some (2, 0), some (0, b), some (0, x), some (0, l)], [(2, 0)])) rfl ?_
  refine sw_gI (pn := 92) (i := 0) rfl rfl rfl rfl rfl (by omega) hs.1 ?_
  rw [show (mm_u (mm_u ν 0 0 0) 0 0 2) 0 0 = 2 from mm_u_at]
  refine sw_le1 (pt := 97) (pn := 95) rfl rfl rfl (by omega) (fun h => absurd h (by decide)) (fun _ => ?_)
  refine sw_p 1 (f' := (96, [some (2, 0), some (0, b), some (0, x), some (0, l)], [(0, 0)])) rfl ?_
  exact sw_retI rfl rfl rfl ⟨rfl, rfl, rfl⟩
theorem mo_bridge_b1 (hs : mo_sh s) (hB : mo_B ν) (hb : -2147483648 ≤ b ∧ b < 2147483648) (h0 : ¬ (0 ≤ b ∧ b < ν 0 1)) : sw_w E (d + 1) 83 (0, [some (2, 0), some (0, b), some (0, x), some (0, l)], []) s ν (sw_is (some (0, 0)) s (mo_cd ν 1)) := by
  have hn := hB.1
  refine sw_p 3 (f' := (3, [some (2, 0), some (0, b), some (0, x), some (0, l)], [(0, b), (2, 0), (2, 0)])) rfl ?_
  refine sw_cv1 (pn := 6) (q0 := mj_Mo_bridge) (q := mj_Mo_isBridge) (p := 0) (as2 := [(0, b)]) (L2 := [some (2, 0), some (0, b)]) (rest := [(2, 0)]) (v := some (0, 0)) (s1 := s) (ν1 := ν) rfl rfl rfl rfl rfl rfl rfl rfl rfl hs.1 (mo_isB0 hs hB (by omega) (by omega)) ?_
  show sw_w E _ 83 (6, [some (2, 0), some (0, b), some (0, x), some (0, l)], [(0, 0), (2, 0)]) s ν _
  refine sw_eq1 (pt := 33) (pn := 9) rfl rfl rfl (by omega) (fun _ => ?_) (fun h => absurd h (by decide))
  refine sw_p 1 (f' := (34, [some (2, 0), some (0, b), some (0, x), some (0, l)], [(0, 1), (2, 0)])) rfl ?_
  refine sw_pI (pn := 37) (i := 0) rfl rfl rfl rfl rfl (by omega) hs.1 ?_
  refine sw_p 1 (f' := (38, [some (2, 0), some (0, b), some (0, x), some (0, l)], [(2, 0)])) rfl ?_
  refine sw_gI (pn := 41) (i := 0) rfl rfl rfl rfl rfl (by omega) hs.1 ?_
  rw [show (mm_u ν 0 0 1) 0 0 = 1 from mm_u_at]
  refine sw_ne1 (pt := 88) (pn := 44) rfl rfl rfl (by omega) (fun _ => ?_) (fun h => absurd h (by decide))
  refine sw_p 1 (f' := (89, [some (2, 0), some (0, b), some (0, x), some (0, l)], [(2, 0)])) rfl ?_
  refine sw_gI (pn := 92) (i := 0) rfl rfl rfl rfl rfl (by omega) hs.1 ?_
  rw [show (mm_u ν 0 0 1) 0 0 = 1 from mm_u_at]
  refine sw_le1 (pt := 97) (pn := 95) rfl rfl rfl (by omega) (fun h => absurd h (by decide)) (fun _ => ?_)
  refine sw_p 1 (f' := (96, [some (2, 0), some (0, b), some (0, x), some (0, l)], [(0, 0)])) rfl ?_
  exact sw_retI rfl rfl rfl ⟨rfl, rfl, rfl⟩
theorem mo_bridge_b2 (hs : mo_sh s) (hB : mo_B ν) (hb : 0 ≤ b ∧ b < ν 0 1) (hx : -2147483648 ≤ x ∧ x < 2147483648) (h0 : ¬ (0 ≤ x ∧ x ≤ 3)) : sw_w E (d + 1) 83 (0, [some (2, 0), some (0, b), some (0, x), some (0, l)], []) s ν (sw_is (some (0, 0)) s (mo_cd ν 1)) := by
  have hn := hB.1
  refine sw_p 3 (f' := (3, [some (2, 0), some (0, b), some (0, x), some (0, l)], [(0, b), (2, 0), (2, 0)])) rfl ?_
  refine sw_cv1 (pn := 6) (q0 := mj_Mo_bridge) (q := mj_Mo_isBridge) (p := 0) (as2 := [(0, b)]) (L2 := [some (2, 0), some (0, b)]) (rest := [(2, 0)]) (v := some (0, 1)) (s1 := s) (ν1 := ν) rfl rfl rfl rfl rfl rfl rfl rfl rfl hs.1 (mo_isB1 hs hB (by omega)) ?_
  show sw_w E _ 83 (6, [some (2, 0), some (0, b), some (0, x), some (0, l)], [(0, 1), (2, 0)]) s ν _
  refine sw_eq1 (pt := 33) (pn := 9) rfl rfl rfl (by omega) (fun h => absurd h (by decide)) (fun _ => ?_)
  refine sw_p 3 (f' := (12, [some (2, 0), some (0, b), some (0, x), some (0, l)], [(0, 3), (0, 0), (0, x), (2, 0)])) rfl ?_
  refine sw_cs1 (pn := 15) (q0 := mj_Mo_bridge) (q := mj_Mo_within) (L2 := [some (0, x), some (0, 0), some (0, 3)]) (rest := [(2, 0)]) (v := some (0, 0)) (s1 := s) (ν1 := ν) rfl rfl rfl rfl rfl rfl rfl rfl (mo_in0 (by omega) (by omega) (by omega) (by omega)) ?_
  show sw_w E _ 83 (15, [some (2, 0), some (0, b), some (0, x), some (0, l)], [(0, 0), (2, 0)]) s ν _
  refine sw_eq1 (pt := 33) (pn := 18) rfl rfl rfl (by omega) (fun _ => ?_) (fun h => absurd h (by decide))
  refine sw_p 1 (f' := (34, [some (2, 0), some (0, b), some (0, x), some (0, l)], [(0, 1), (2, 0)])) rfl ?_
  refine sw_pI (pn := 37) (i := 0) rfl rfl rfl rfl rfl (by omega) hs.1 ?_
  refine sw_p 1 (f' := (38, [some (2, 0), some (0, b), some (0, x), some (0, l)], [(2, 0)])) rfl ?_
  refine sw_gI (pn := 41) (i := 0) rfl rfl rfl rfl rfl (by omega) hs.1 ?_
  rw [show (mm_u ν 0 0 1) 0 0 = 1 from mm_u_at]
  refine sw_ne1 (pt := 88) (pn := 44) rfl rfl rfl (by omega) (fun _ => ?_) (fun h => absurd h (by decide))
  refine sw_p 1 (f' := (89, [some (2, 0), some (0, b), some (0, x), some (0, l)], [(2, 0)])) rfl ?_
  refine sw_gI (pn := 92) (i := 0) rfl rfl rfl rfl rfl (by omega) hs.1 ?_
  rw [show (mm_u ν 0 0 1) 0 0 = 1 from mm_u_at]
  refine sw_le1 (pt := 97) (pn := 95) rfl rfl rfl (by omega) (fun h => absurd h (by decide)) (fun _ => ?_)
  refine sw_p 1 (f' := (96, [some (2, 0), some (0, b), some (0, x), some (0, l)], [(0, 0)])) rfl ?_
  exact sw_retI rfl rfl rfl ⟨rfl, rfl, rfl⟩
theorem mo_bridge_b3 (hs : mo_sh s) (hB : mo_B ν) (hb : 0 ≤ b ∧ b < ν 0 1) (hx : 0 ≤ x ∧ x ≤ 3) (hl : -2147483648 ≤ l ∧ l < 2147483648) (h0 : ¬ (0 ≤ l ∧ l ≤ 1000)) : sw_w E (d + 1) 83 (0, [some (2, 0), some (0, b), some (0, x), some (0, l)], []) s ν (sw_is (some (0, 0)) s (mo_cd ν 1)) := by
  have hn := hB.1
  refine sw_p 3 (f' := (3, [some (2, 0), some (0, b), some (0, x), some (0, l)], [(0, b), (2, 0), (2, 0)])) rfl ?_
  refine sw_cv1 (pn := 6) (q0 := mj_Mo_bridge) (q := mj_Mo_isBridge) (p := 0) (as2 := [(0, b)]) (L2 := [some (2, 0), some (0, b)]) (rest := [(2, 0)]) (v := some (0, 1)) (s1 := s) (ν1 := ν) rfl rfl rfl rfl rfl rfl rfl rfl rfl hs.1 (mo_isB1 hs hB (by omega)) ?_
  show sw_w E _ 83 (6, [some (2, 0), some (0, b), some (0, x), some (0, l)], [(0, 1), (2, 0)]) s ν _
  refine sw_eq1 (pt := 33) (pn := 9) rfl rfl rfl (by omega) (fun h => absurd h (by decide)) (fun _ => ?_)
  refine sw_p 3 (f' := (12, [some (2, 0), some (0, b), some (0, x), some (0, l)], [(0, 3), (0, 0), (0, x), (2, 0)])) rfl ?_
  refine sw_cs1 (pn := 15) (q0 := mj_Mo_bridge) (q := mj_Mo_within) (L2 := [some (0, x), some (0, 0), some (0, 3)]) (rest := [(2, 0)]) (v := some (0, 1)) (s1 := s) (ν1 := ν) rfl rfl rfl rfl rfl rfl rfl rfl (mo_in1 (by omega) (by omega) (by omega) (by omega)) ?_
  show sw_w E _ 83 (15, [some (2, 0), some (0, b), some (0, x), some (0, l)], [(0, 1), (2, 0)]) s ν _
  refine sw_eq1 (pt := 33) (pn := 18) rfl rfl rfl (by omega) (fun h => absurd h (by decide)) (fun _ => ?_)
  refine sw_p 3 (f' := (23, [some (2, 0), some (0, b), some (0, x), some (0, l)], [(0, 1000), (0, 0), (0, l), (2, 0)])) rfl ?_
  refine sw_cs1 (pn := 26) (q0 := mj_Mo_bridge) (q := mj_Mo_within) (L2 := [some (0, l), some (0, 0), some (0, 1000)]) (rest := [(2, 0)]) (v := some (0, 0)) (s1 := s) (ν1 := ν) rfl rfl rfl rfl rfl rfl rfl rfl (mo_in0 (by omega) (by omega) (by omega) (by omega)) ?_
  show sw_w E _ 83 (26, [some (2, 0), some (0, b), some (0, x), some (0, l)], [(0, 0), (2, 0)]) s ν _
  refine sw_eq1 (pt := 33) (pn := 29) rfl rfl rfl (by omega) (fun _ => ?_) (fun h => absurd h (by decide))
  refine sw_p 1 (f' := (34, [some (2, 0), some (0, b), some (0, x), some (0, l)], [(0, 1), (2, 0)])) rfl ?_
  refine sw_pI (pn := 37) (i := 0) rfl rfl rfl rfl rfl (by omega) hs.1 ?_
  refine sw_p 1 (f' := (38, [some (2, 0), some (0, b), some (0, x), some (0, l)], [(2, 0)])) rfl ?_
  refine sw_gI (pn := 41) (i := 0) rfl rfl rfl rfl rfl (by omega) hs.1 ?_
  rw [show (mm_u ν 0 0 1) 0 0 = 1 from mm_u_at]
  refine sw_ne1 (pt := 88) (pn := 44) rfl rfl rfl (by omega) (fun _ => ?_) (fun h => absurd h (by decide))
  refine sw_p 1 (f' := (89, [some (2, 0), some (0, b), some (0, x), some (0, l)], [(2, 0)])) rfl ?_
  refine sw_gI (pn := 92) (i := 0) rfl rfl rfl rfl rfl (by omega) hs.1 ?_
  rw [show (mm_u ν 0 0 1) 0 0 = 1 from mm_u_at]
  refine sw_le1 (pt := 97) (pn := 95) rfl rfl rfl (by omega) (fun h => absurd h (by decide)) (fun _ => ?_)
  refine sw_p 1 (f' := (96, [some (2, 0), some (0, b), some (0, x), some (0, l)], [(0, 0)])) rfl ?_
  exact sw_retI rfl rfl rfl ⟨rfl, rfl, rfl⟩
theorem mo_request_ok (hs : mo_sh s) (hB : mo_B ν) (hc : 0 ≤ c ∧ c < ν 0 12) (hx : 0 ≤ x ∧ x < 2147483648) (h1 : ν 15 c = 1 ∨ ν 15 c = 2) (h2 : mo_wt ν c ≠ 8) (h3 : ν 0 24 < 512) : sw_w E (d + 1) 116 (0, [some (2, 0), some (0, c), some (0, x), some (0, w)], []) s ν (sw_is (some (0, ν 0 24 + 1 - 1)) s (mo_rq ν c x w)) := by
  have hn := hB.2.2.1
  have hcd := hB.cd c
  have htk := hB.2.2.2.2.2.1
  have hwb := mo_wt_b (c := c) hB
  refine sw_p 3 (f' := (3, [some (2, 0), some (0, c), some (0, x), some (0, w)], [(0, c), (2, 0), (2, 0)])) rfl ?_
  refine sw_cv1 (pn := 6) (q0 := mj_Mo_request) (q := mj_Mo_isCard) (p := 0) (as2 := [(0, c)]) (L2 := [some (2, 0), some (0, c)]) (rest := [(2, 0)]) (v := some (0, 1)) (s1 := s) (ν1 := ν) rfl rfl rfl rfl rfl rfl rfl rfl rfl hs.1 (mo_isC1 hs hB (by omega)) ?_
  show sw_w E _ 116 (6, [some (2, 0), some (0, c), some (0, x), some (0, w)], [(0, 1), (2, 0)]) s ν _
  refine sw_eq1 (pt := 13) (pn := 9) rfl rfl rfl (by omega) (fun h => absurd h (by decide)) (fun _ => ?_)
  refine sw_p 1 (f' := (10, [some (2, 0), some (0, c), some (0, x), some (0, w)], [(0, x), (2, 0)])) rfl ?_
  refine sw_ge1 (pt := 17) (pn := 13) rfl rfl rfl (by omega) (fun h2 => ?_) (fun h => absurd h (by omega))
  refine sw_p 1 (f' := (18, [some (2, 0), some (0, c), some (0, x), some (0, w)], [(2, 0), (2, 0)])) rfl ?_
  refine sw_hA (pn := 21) (i := 15) (v := 15) rfl rfl rfl rfl rfl hs.1 (mo_s15 hs).1 (by omega) ?_
  refine sw_p 1 (f' := (22, [some (2, 0), some (0, c), some (0, x), some (0, w)], [(0, c), (2, 15), (2, 0)])) rfl ?_
  refine sw_ial (pn := 23) (l := 40) rfl rfl (by omega) (mo_s15 hs).2.1 (mo_s15 hs).2.2 (by omega) (by omega) ?_
  refine sw_p 1 (f' := (24, [some (2, 0), some (0, c), some (0, x), some (0, w)], [(0, 1), (0, ν 15 c), (2, 0)])) rfl ?_
  refine sw_eq2 (pt := 37) (pn := 27) rfl rfl rfl (by omega) (by omega) (fun h3 => ?_) (fun h3 => ?_)
  · skip
    refine sw_p 2 (f' := (39, [some (2, 0), some (0, c), some (0, x), some (0, w)], [(0, c), (2, 0), (2, 0)])) rfl ?_
    refine sw_cv1 (pn := 42) (q0 := mj_Mo_request) (q := mj_Mo_waiting) (p := 0) (as2 := [(0, c)]) (L2 := [some (2, 0), some (0, c), none, none]) (rest := [(2, 0)]) (v := some (0, mo_wt ν c)) (s1 := s) (ν1 := ν) rfl rfl rfl rfl rfl rfl rfl rfl rfl hs.1 (mo_waiting hs hB (by omega)) ?_
    show sw_w E _ 116 (42, [some (2, 0), some (0, c), some (0, x), some (0, w)], [(0, mo_wt ν c), (2, 0)]) s ν _
    refine sw_p 1 (f' := (44, [some (2, 0), some (0, c), some (0, x), some (0, w)], [(0, 8), (0, mo_wt ν c), (2, 0)])) rfl ?_
    refine sw_ne2 (pt := 51) (pn := 47) rfl rfl rfl (by omega) (by omega) (fun h4 => ?_) (fun h => absurd h (by omega))
    refine sw_p 1 (f' := (52, [some (2, 0), some (0, c), some (0, x), some (0, w)], [(0, 0), (2, 0)])) rfl ?_
    refine sw_pI (pn := 55) (i := 0) rfl rfl rfl rfl rfl (by omega) hs.1 ?_
    refine sw_p 1 (f' := (56, [some (2, 0), some (0, c), some (0, x), some (0, w)], [(2, 0)])) rfl ?_
    refine sw_gI (pn := 59) (i := 0) rfl rfl rfl rfl rfl (by omega) hs.1 ?_
    rw [show (mm_u ν 0 0 0) 0 0 = 0 from mm_u_at]
    refine sw_le1 (pt := 64) (pn := 62) rfl rfl rfl (by omega) (fun _ => ?_) (fun h => absurd h (by decide))
    refine sw_p 1 (f' := (65, [some (2, 0), some (0, c), some (0, x), some (0, w)], [(2, 0)])) rfl ?_
    refine sw_hA (pn := 68) (i := 25) (v := 25) rfl rfl rfl rfl rfl hs.1 (mo_s25 hs).1 (by omega) ?_
    refine sw_p 1 (f' := (69, [some (2, 0), some (0, c), some (0, x), some (0, w)], [(2, 0), (2, 25)])) rfl ?_
    refine sw_gI (pn := 72) (i := 24) rfl rfl rfl rfl rfl (by omega) hs.1 ?_
    rw [show (mm_u ν 0 0 0) 0 24 = ν 0 24 from mm_u_ne (by omega)]
    refine sw_p 1 (f' := (73, [some (2, 0), some (0, c), some (0, x), some (0, w)], [(0, c), (0, ν 0 24), (2, 25)])) rfl ?_
    refine sw_ias (pn := 74) (l := 512) rfl rfl (by omega) (mo_s25 hs).2.1 (mo_s25 hs).2.2 (by omega) (by omega) ?_
    refine sw_p 1 (f' := (75, [some (2, 0), some (0, c), some (0, x), some (0, w)], [(2, 0)])) rfl ?_
    refine sw_hA (pn := 78) (i := 26) (v := 26) rfl rfl rfl rfl rfl hs.1 (mo_s26 hs).1 (by omega) ?_
    refine sw_p 1 (f' := (79, [some (2, 0), some (0, c), some (0, x), some (0, w)], [(2, 0), (2, 26)])) rfl ?_
    refine sw_gI (pn := 82) (i := 24) rfl rfl rfl rfl rfl (by omega) hs.1 ?_
    rw [show (mm_u (mm_u ν 0 0 0) 25 (ν 0 24) c) 0 24 = ν 0 24 from (mm_u_ne (by omega)).trans (mm_u_ne (by omega))]
    refine sw_p 1 (f' := (83, [some (2, 0), some (0, c), some (0, x), some (0, w)], [(0, x), (0, ν 0 24), (2, 26)])) rfl ?_
    refine sw_ias (pn := 84) (l := 512) rfl rfl (by omega) (mo_s26 hs).2.1 (mo_s26 hs).2.2 (by omega) (by omega) ?_
    refine sw_p 1 (f' := (85, [some (2, 0), some (0, c), some (0, x), some (0, w)], [(2, 0)])) rfl ?_
    refine sw_hA (pn := 88) (i := 27) (v := 27) rfl rfl rfl rfl rfl hs.1 (mo_s27 hs).1 (by omega) ?_
    refine sw_p 1 (f' := (89, [some (2, 0), some (0, c), some (0, x), some (0, w)], [(2, 0), (2, 27)])) rfl ?_
    refine sw_gI (pn := 92) (i := 24) rfl rfl rfl rfl rfl (by omega) hs.1 ?_
    rw [show (mm_u (mm_u (mm_u ν 0 0 0) 25 (ν 0 24) c) 26 (ν 0 24) x) 0 24 = ν 0 24 from (mm_u_ne (by omega)).trans ((mm_u_ne (by omega)).trans (mm_u_ne (by omega)))]
    refine sw_p 1 (f' := (93, [some (2, 0), some (0, c), some (0, x), some (0, w)], [(0, w), (0, ν 0 24), (2, 27)])) rfl ?_
    refine sw_ias (pn := 94) (l := 512) rfl rfl (by omega) (mo_s27 hs).2.1 (mo_s27 hs).2.2 (by omega) (by omega) ?_
    refine sw_p 1 (f' := (95, [some (2, 0), some (0, c), some (0, x), some (0, w)], [(2, 0)])) rfl ?_
    refine sw_hA (pn := 98) (i := 28) (v := 28) rfl rfl rfl rfl rfl hs.1 (mo_s28 hs).1 (by omega) ?_
    refine sw_p 1 (f' := (99, [some (2, 0), some (0, c), some (0, x), some (0, w)], [(2, 0), (2, 28)])) rfl ?_
    refine sw_gI (pn := 102) (i := 24) rfl rfl rfl rfl rfl (by omega) hs.1 ?_
    rw [show (mm_u (mm_u (mm_u (mm_u ν 0 0 0) 25 (ν 0 24) c) 26 (ν 0 24) x) 27 (ν 0 24) w) 0 24 = ν 0 24 from (mm_u_ne (by omega)).trans ((mm_u_ne (by omega)).trans ((mm_u_ne (by omega)).trans (mm_u_ne (by omega))))]
    refine sw_p 1 (f' := (105, [some (2, 0), some (0, c), some (0, x), some (0, w)], [(1, 1099511627776), (0, ν 0 24), (2, 28)])) rfl ?_
    refine sw_las (pn := 106) (l := 512) rfl rfl (by omega) (mo_s28 hs).2.1 (mo_s28 hs).2.2 (by omega) (by omega) ?_
    refine sw_p 2 (f' := (108, [some (2, 0), some (0, c), some (0, x), some (0, w)], [(2, 0), (2, 0)])) rfl ?_
    refine sw_gI (pn := 111) (i := 24) rfl rfl rfl rfl rfl (by omega) hs.1 ?_
    rw [show (mm_u (mm_u (mm_u (mm_u (mm_u ν 0 0 0) 25 (ν 0 24) c) 26 (ν 0 24) x) 27 (ν 0 24) w) 28 (ν 0 24) 1099511627776) 0 24 = ν 0 24 from (mm_u_ne (by omega)).trans ((mm_u_ne (by omega)).trans ((mm_u_ne (by omega)).trans ((mm_u_ne (by omega)).trans (mm_u_ne (by omega)))))]
    refine sw_p 2 (f' := (113, [some (2, 0), some (0, c), some (0, x), some (0, w)], [(0, (ν 0 24) + 1), (2, 0)])) rfl ?_
    refine sw_pI (pn := 116) (i := 24) rfl rfl rfl rfl rfl (by omega) hs.1 ?_
    refine sw_p 1 (f' := (117, [some (2, 0), some (0, c), some (0, x), some (0, w)], [(2, 0)])) rfl ?_
    refine sw_gI (pn := 120) (i := 24) rfl rfl rfl rfl rfl (by omega) hs.1 ?_
    rw [show (mm_u (mm_u (mm_u (mm_u (mm_u (mm_u ν 0 0 0) 25 (ν 0 24) c) 26 (ν 0 24) x) 27 (ν 0 24) w) 28 (ν 0 24) 1099511627776) 0 24 ((ν 0 24) + 1)) 0 24 = (ν 0 24) + 1 from mm_u_at]
    refine sw_p 2 (f' := (122, [some (2, 0), some (0, c), some (0, x), some (0, w)], [(0, ((ν 0 24) + 1) - 1)])) rfl ?_
    exact sw_retI rfl rfl rfl ⟨rfl, rfl, rfl⟩
  · skip
    refine sw_p 1 (f' := (28, [some (2, 0), some (0, c), some (0, x), some (0, w)], [(2, 0), (2, 0)])) rfl ?_
    refine sw_hA (pn := 31) (i := 15) (v := 15) rfl rfl rfl rfl rfl hs.1 (mo_s15 hs).1 (by omega) ?_
    refine sw_p 1 (f' := (32, [some (2, 0), some (0, c), some (0, x), some (0, w)], [(0, c), (2, 15), (2, 0)])) rfl ?_
    refine sw_ial (pn := 33) (l := 40) rfl rfl (by omega) (mo_s15 hs).2.1 (mo_s15 hs).2.2 (by omega) (by omega) ?_
    refine sw_p 1 (f' := (34, [some (2, 0), some (0, c), some (0, x), some (0, w)], [(0, 2), (0, ν 15 c), (2, 0)])) rfl ?_
    refine sw_ne2 (pt := 47) (pn := 37) rfl rfl rfl (by omega) (by omega) (fun h => absurd h (by omega)) (fun h6 => ?_)
    refine sw_p 2 (f' := (39, [some (2, 0), some (0, c), some (0, x), some (0, w)], [(0, c), (2, 0), (2, 0)])) rfl ?_
    refine sw_cv1 (pn := 42) (q0 := mj_Mo_request) (q := mj_Mo_waiting) (p := 0) (as2 := [(0, c)]) (L2 := [some (2, 0), some (0, c), none, none]) (rest := [(2, 0)]) (v := some (0, mo_wt ν c)) (s1 := s) (ν1 := ν) rfl rfl rfl rfl rfl rfl rfl rfl rfl hs.1 (mo_waiting hs hB (by omega)) ?_
    show sw_w E _ 116 (42, [some (2, 0), some (0, c), some (0, x), some (0, w)], [(0, mo_wt ν c), (2, 0)]) s ν _
    refine sw_p 1 (f' := (44, [some (2, 0), some (0, c), some (0, x), some (0, w)], [(0, 8), (0, mo_wt ν c), (2, 0)])) rfl ?_
    refine sw_ne2 (pt := 51) (pn := 47) rfl rfl rfl (by omega) (by omega) (fun h7 => ?_) (fun h => absurd h (by omega))
    refine sw_p 1 (f' := (52, [some (2, 0), some (0, c), some (0, x), some (0, w)], [(0, 0), (2, 0)])) rfl ?_
    refine sw_pI (pn := 55) (i := 0) rfl rfl rfl rfl rfl (by omega) hs.1 ?_
    refine sw_p 1 (f' := (56, [some (2, 0), some (0, c), some (0, x), some (0, w)], [(2, 0)])) rfl ?_
    refine sw_gI (pn := 59) (i := 0) rfl rfl rfl rfl rfl (by omega) hs.1 ?_
    rw [show (mm_u ν 0 0 0) 0 0 = 0 from mm_u_at]
    refine sw_le1 (pt := 64) (pn := 62) rfl rfl rfl (by omega) (fun _ => ?_) (fun h => absurd h (by decide))
    refine sw_p 1 (f' := (65, [some (2, 0), some (0, c), some (0, x), some (0, w)], [(2, 0)])) rfl ?_
    refine sw_hA (pn := 68) (i := 25) (v := 25) rfl rfl rfl rfl rfl hs.1 (mo_s25 hs).1 (by omega) ?_
    refine sw_p 1 (f' := (69, [some (2, 0), some (0, c), some (0, x), some (0, w)], [(2, 0), (2, 25)])) rfl ?_
    refine sw_gI (pn := 72) (i := 24) rfl rfl rfl rfl rfl (by omega) hs.1 ?_
    rw [show (mm_u ν 0 0 0) 0 24 = ν 0 24 from mm_u_ne (by omega)]
    refine sw_p 1 (f' := (73, [some (2, 0), some (0, c), some (0, x), some (0, w)], [(0, c), (0, ν 0 24), (2, 25)])) rfl ?_
    refine sw_ias (pn := 74) (l := 512) rfl rfl (by omega) (mo_s25 hs).2.1 (mo_s25 hs).2.2 (by omega) (by omega) ?_
    refine sw_p 1 (f' := (75, [some (2, 0), some (0, c), some (0, x), some (0, w)], [(2, 0)])) rfl ?_
    refine sw_hA (pn := 78) (i := 26) (v := 26) rfl rfl rfl rfl rfl hs.1 (mo_s26 hs).1 (by omega) ?_
    refine sw_p 1 (f' := (79, [some (2, 0), some (0, c), some (0, x), some (0, w)], [(2, 0), (2, 26)])) rfl ?_
    refine sw_gI (pn := 82) (i := 24) rfl rfl rfl rfl rfl (by omega) hs.1 ?_
    rw [show (mm_u (mm_u ν 0 0 0) 25 (ν 0 24) c) 0 24 = ν 0 24 from (mm_u_ne (by omega)).trans (mm_u_ne (by omega))]
    refine sw_p 1 (f' := (83, [some (2, 0), some (0, c), some (0, x), some (0, w)], [(0, x), (0, ν 0 24), (2, 26)])) rfl ?_
    refine sw_ias (pn := 84) (l := 512) rfl rfl (by omega) (mo_s26 hs).2.1 (mo_s26 hs).2.2 (by omega) (by omega) ?_
    refine sw_p 1 (f' := (85, [some (2, 0), some (0, c), some (0, x), some (0, w)], [(2, 0)])) rfl ?_
    refine sw_hA (pn := 88) (i := 27) (v := 27) rfl rfl rfl rfl rfl hs.1 (mo_s27 hs).1 (by omega) ?_
    refine sw_p 1 (f' := (89, [some (2, 0), some (0, c), some (0, x), some (0, w)], [(2, 0), (2, 27)])) rfl ?_
    refine sw_gI (pn := 92) (i := 24) rfl rfl rfl rfl rfl (by omega) hs.1 ?_
    rw [show (mm_u (mm_u (mm_u ν 0 0 0) 25 (ν 0 24) c) 26 (ν 0 24) x) 0 24 = ν 0 24 from (mm_u_ne (by omega)).trans ((mm_u_ne (by omega)).trans (mm_u_ne (by omega)))]
    refine sw_p 1 (f' := (93, [some (2, 0), some (0, c), some (0, x), some (0, w)], [(0, w), (0, ν 0 24), (2, 27)])) rfl ?_
    refine sw_ias (pn := 94) (l := 512) rfl rfl (by omega) (mo_s27 hs).2.1 (mo_s27 hs).2.2 (by omega) (by omega) ?_
    refine sw_p 1 (f' := (95, [some (2, 0), some (0, c), some (0, x), some (0, w)], [(2, 0)])) rfl ?_
    refine sw_hA (pn := 98) (i := 28) (v := 28) rfl rfl rfl rfl rfl hs.1 (mo_s28 hs).1 (by omega) ?_
    refine sw_p 1 (f' := (99, [some (2, 0), some (0, c), some (0, x), some (0, w)], [(2, 0), (2, 28)])) rfl ?_
    refine sw_gI (pn := 102) (i := 24) rfl rfl rfl rfl rfl (by omega) hs.1 ?_
    rw [show (mm_u (mm_u (mm_u (mm_u ν 0 0 0) 25 (ν 0 24) c) 26 (ν 0 24) x) 27 (ν 0 24) w) 0 24 = ν 0 24 from (mm_u_ne (by omega)).trans ((mm_u_ne (by omega)).trans ((mm_u_ne (by omega)).trans (mm_u_ne (by omega))))]
    refine sw_p 1 (f' := (105, [some (2, 0), some (0, c), some (0, x), some (0, w)], [(1, 1099511627776), (0, ν 0 24), (2, 28)])) rfl ?_
    refine sw_las (pn := 106) (l := 512) rfl rfl (by omega) (mo_s28 hs).2.1 (mo_s28 hs).2.2 (by omega) (by omega) ?_
    refine sw_p 2 (f' := (108, [some (2, 0), some (0, c), some (0, x), some (0, w)], [(2, 0), (2, 0)])) rfl ?_
    refine sw_gI (pn := 111) (i := 24) rfl rfl rfl rfl rfl (by omega) hs.1 ?_
    rw [show (mm_u (mm_u (mm_u (mm_u (mm_u ν 0 0 0) 25 (ν 0 24) c) 26 (ν 0 24) x) 27 (ν 0 24) w) 28 (ν 0 24) 1099511627776) 0 24 = ν 0 24 from (mm_u_ne (by omega)).trans ((mm_u_ne (by omega)).trans ((mm_u_ne (by omega)).trans ((mm_u_ne (by omega)).trans (mm_u_ne (by omega)))))]
    refine sw_p 2 (f' := (113, [some (2, 0), some (0, c), some (0, x), some (0, w)], [(0, (ν 0 24) + 1), (2, 0)])) rfl ?_
    refine sw_pI (pn := 116) (i := 24) rfl rfl rfl rfl rfl (by omega) hs.1 ?_
    refine sw_p 1 (f' := (117, [some (2, 0), some (0, c), some (0, x), some (0, w)], [(2, 0)])) rfl ?_
    refine sw_gI (pn := 120) (i := 24) rfl rfl rfl rfl rfl (by omega) hs.1 ?_
    rw [show (mm_u (mm_u (mm_u (mm_u (mm_u (mm_u ν 0 0 0) 25 (ν 0 24) c) 26 (ν 0 24) x) 27 (ν 0 24) w) 28 (ν 0 24) 1099511627776) 0 24 ((ν 0 24) + 1)) 0 24 = (ν 0 24) + 1 from mm_u_at]
    refine sw_p 2 (f' := (122, [some (2, 0), some (0, c), some (0, x), some (0, w)], [(0, ((ν 0 24) + 1) - 1)])) rfl ?_
    exact sw_retI rfl rfl rfl ⟨rfl, rfl, rfl⟩
theorem mo_request_s1 (hs : mo_sh s) (hB : mo_B ν) (hc : 0 ≤ c ∧ c < ν 0 12) (hx : 0 ≤ x ∧ x < 2147483648) (h1 : ν 15 c ≠ 1) (h2 : ν 15 c ≠ 2) : sw_w E (d + 1) 116 (0, [some (2, 0), some (0, c), some (0, x), some (0, w)], []) s ν (sw_is (some (0, 0)) s (mo_cd ν 2)) := by
  have hn := hB.2.2.1
  have hcd := hB.cd c
  have htk := hB.2.2.2.2.2.1
  have hwb := mo_wt_b (c := c) hB
  refine sw_p 3 (f' := (3, [some (2, 0), some (0, c), some (0, x), some (0, w)], [(0, c), (2, 0), (2, 0)])) rfl ?_
  refine sw_cv1 (pn := 6) (q0 := mj_Mo_request) (q := mj_Mo_isCard) (p := 0) (as2 := [(0, c)]) (L2 := [some (2, 0), some (0, c)]) (rest := [(2, 0)]) (v := some (0, 1)) (s1 := s) (ν1 := ν) rfl rfl rfl rfl rfl rfl rfl rfl rfl hs.1 (mo_isC1 hs hB (by omega)) ?_
  show sw_w E _ 116 (6, [some (2, 0), some (0, c), some (0, x), some (0, w)], [(0, 1), (2, 0)]) s ν _
  refine sw_eq1 (pt := 13) (pn := 9) rfl rfl rfl (by omega) (fun h => absurd h (by decide)) (fun _ => ?_)
  refine sw_p 1 (f' := (10, [some (2, 0), some (0, c), some (0, x), some (0, w)], [(0, x), (2, 0)])) rfl ?_
  refine sw_ge1 (pt := 17) (pn := 13) rfl rfl rfl (by omega) (fun h2 => ?_) (fun h => absurd h (by omega))
  refine sw_p 1 (f' := (18, [some (2, 0), some (0, c), some (0, x), some (0, w)], [(2, 0), (2, 0)])) rfl ?_
  refine sw_hA (pn := 21) (i := 15) (v := 15) rfl rfl rfl rfl rfl hs.1 (mo_s15 hs).1 (by omega) ?_
  refine sw_p 1 (f' := (22, [some (2, 0), some (0, c), some (0, x), some (0, w)], [(0, c), (2, 15), (2, 0)])) rfl ?_
  refine sw_ial (pn := 23) (l := 40) rfl rfl (by omega) (mo_s15 hs).2.1 (mo_s15 hs).2.2 (by omega) (by omega) ?_
  refine sw_p 1 (f' := (24, [some (2, 0), some (0, c), some (0, x), some (0, w)], [(0, 1), (0, ν 15 c), (2, 0)])) rfl ?_
  refine sw_eq2 (pt := 37) (pn := 27) rfl rfl rfl (by omega) (by omega) (fun h => absurd h (by omega)) (fun h3 => ?_)
  refine sw_p 1 (f' := (28, [some (2, 0), some (0, c), some (0, x), some (0, w)], [(2, 0), (2, 0)])) rfl ?_
  refine sw_hA (pn := 31) (i := 15) (v := 15) rfl rfl rfl rfl rfl hs.1 (mo_s15 hs).1 (by omega) ?_
  refine sw_p 1 (f' := (32, [some (2, 0), some (0, c), some (0, x), some (0, w)], [(0, c), (2, 15), (2, 0)])) rfl ?_
  refine sw_ial (pn := 33) (l := 40) rfl rfl (by omega) (mo_s15 hs).2.1 (mo_s15 hs).2.2 (by omega) (by omega) ?_
  refine sw_p 1 (f' := (34, [some (2, 0), some (0, c), some (0, x), some (0, w)], [(0, 2), (0, ν 15 c), (2, 0)])) rfl ?_
  refine sw_ne2 (pt := 47) (pn := 37) rfl rfl rfl (by omega) (by omega) (fun h4 => ?_) (fun h => absurd h (by omega))
  refine sw_p 2 (f' := (52, [some (2, 0), some (0, c), some (0, x), some (0, w)], [(0, 2), (2, 0)])) rfl ?_
  refine sw_pI (pn := 55) (i := 0) rfl rfl rfl rfl rfl (by omega) hs.1 ?_
  refine sw_p 1 (f' := (56, [some (2, 0), some (0, c), some (0, x), some (0, w)], [(2, 0)])) rfl ?_
  refine sw_gI (pn := 59) (i := 0) rfl rfl rfl rfl rfl (by omega) hs.1 ?_
  rw [show (mm_u ν 0 0 2) 0 0 = 2 from mm_u_at]
  refine sw_le1 (pt := 64) (pn := 62) rfl rfl rfl (by omega) (fun h => absurd h (by decide)) (fun _ => ?_)
  refine sw_p 1 (f' := (63, [some (2, 0), some (0, c), some (0, x), some (0, w)], [(0, 0)])) rfl ?_
  exact sw_retI rfl rfl rfl ⟨rfl, rfl, rfl⟩
theorem mo_request_s2 (hs : mo_sh s) (hB : mo_B ν) (hc : 0 ≤ c ∧ c < ν 0 12) (hx : 0 ≤ x ∧ x < 2147483648) (h1 : ν 15 c = 1 ∨ ν 15 c = 2) (h2 : mo_wt ν c = 8) : sw_w E (d + 1) 116 (0, [some (2, 0), some (0, c), some (0, x), some (0, w)], []) s ν (sw_is (some (0, 0)) s (mo_cd ν 2)) := by
  have hn := hB.2.2.1
  have hcd := hB.cd c
  have htk := hB.2.2.2.2.2.1
  have hwb := mo_wt_b (c := c) hB
  refine sw_p 3 (f' := (3, [some (2, 0), some (0, c), some (0, x), some (0, w)], [(0, c), (2, 0), (2, 0)])) rfl ?_
  refine sw_cv1 (pn := 6) (q0 := mj_Mo_request) (q := mj_Mo_isCard) (p := 0) (as2 := [(0, c)]) (L2 := [some (2, 0), some (0, c)]) (rest := [(2, 0)]) (v := some (0, 1)) (s1 := s) (ν1 := ν) rfl rfl rfl rfl rfl rfl rfl rfl rfl hs.1 (mo_isC1 hs hB (by omega)) ?_
  show sw_w E _ 116 (6, [some (2, 0), some (0, c), some (0, x), some (0, w)], [(0, 1), (2, 0)]) s ν _
  refine sw_eq1 (pt := 13) (pn := 9) rfl rfl rfl (by omega) (fun h => absurd h (by decide)) (fun _ => ?_)
  refine sw_p 1 (f' := (10, [some (2, 0), some (0, c), some (0, x), some (0, w)], [(0, x), (2, 0)])) rfl ?_
  refine sw_ge1 (pt := 17) (pn := 13) rfl rfl rfl (by omega) (fun h2 => ?_) (fun h => absurd h (by omega))
  refine sw_p 1 (f' := (18, [some (2, 0), some (0, c), some (0, x), some (0, w)], [(2, 0), (2, 0)])) rfl ?_
  refine sw_hA (pn := 21) (i := 15) (v := 15) rfl rfl rfl rfl rfl hs.1 (mo_s15 hs).1 (by omega) ?_
  refine sw_p 1 (f' := (22, [some (2, 0), some (0, c), some (0, x), some (0, w)], [(0, c), (2, 15), (2, 0)])) rfl ?_
  refine sw_ial (pn := 23) (l := 40) rfl rfl (by omega) (mo_s15 hs).2.1 (mo_s15 hs).2.2 (by omega) (by omega) ?_
  refine sw_p 1 (f' := (24, [some (2, 0), some (0, c), some (0, x), some (0, w)], [(0, 1), (0, ν 15 c), (2, 0)])) rfl ?_
  refine sw_eq2 (pt := 37) (pn := 27) rfl rfl rfl (by omega) (by omega) (fun h3 => ?_) (fun h3 => ?_)
  · skip
    refine sw_p 2 (f' := (39, [some (2, 0), some (0, c), some (0, x), some (0, w)], [(0, c), (2, 0), (2, 0)])) rfl ?_
    refine sw_cv1 (pn := 42) (q0 := mj_Mo_request) (q := mj_Mo_waiting) (p := 0) (as2 := [(0, c)]) (L2 := [some (2, 0), some (0, c), none, none]) (rest := [(2, 0)]) (v := some (0, mo_wt ν c)) (s1 := s) (ν1 := ν) rfl rfl rfl rfl rfl rfl rfl rfl rfl hs.1 (mo_waiting hs hB (by omega)) ?_
    show sw_w E _ 116 (42, [some (2, 0), some (0, c), some (0, x), some (0, w)], [(0, mo_wt ν c), (2, 0)]) s ν _
    refine sw_p 1 (f' := (44, [some (2, 0), some (0, c), some (0, x), some (0, w)], [(0, 8), (0, mo_wt ν c), (2, 0)])) rfl ?_
    refine sw_ne2 (pt := 51) (pn := 47) rfl rfl rfl (by omega) (by omega) (fun h => absurd h (by omega)) (fun h4 => ?_)
    refine sw_p 2 (f' := (52, [some (2, 0), some (0, c), some (0, x), some (0, w)], [(0, 2), (2, 0)])) rfl ?_
    refine sw_pI (pn := 55) (i := 0) rfl rfl rfl rfl rfl (by omega) hs.1 ?_
    refine sw_p 1 (f' := (56, [some (2, 0), some (0, c), some (0, x), some (0, w)], [(2, 0)])) rfl ?_
    refine sw_gI (pn := 59) (i := 0) rfl rfl rfl rfl rfl (by omega) hs.1 ?_
    rw [show (mm_u ν 0 0 2) 0 0 = 2 from mm_u_at]
    refine sw_le1 (pt := 64) (pn := 62) rfl rfl rfl (by omega) (fun h => absurd h (by decide)) (fun _ => ?_)
    refine sw_p 1 (f' := (63, [some (2, 0), some (0, c), some (0, x), some (0, w)], [(0, 0)])) rfl ?_
    exact sw_retI rfl rfl rfl ⟨rfl, rfl, rfl⟩
  · skip
    refine sw_p 1 (f' := (28, [some (2, 0), some (0, c), some (0, x), some (0, w)], [(2, 0), (2, 0)])) rfl ?_
    refine sw_hA (pn := 31) (i := 15) (v := 15) rfl rfl rfl rfl rfl hs.1 (mo_s15 hs).1 (by omega) ?_
    refine sw_p 1 (f' := (32, [some (2, 0), some (0, c), some (0, x), some (0, w)], [(0, c), (2, 15), (2, 0)])) rfl ?_
    refine sw_ial (pn := 33) (l := 40) rfl rfl (by omega) (mo_s15 hs).2.1 (mo_s15 hs).2.2 (by omega) (by omega) ?_
    refine sw_p 1 (f' := (34, [some (2, 0), some (0, c), some (0, x), some (0, w)], [(0, 2), (0, ν 15 c), (2, 0)])) rfl ?_
    refine sw_ne2 (pt := 47) (pn := 37) rfl rfl rfl (by omega) (by omega) (fun h => absurd h (by omega)) (fun h6 => ?_)
    refine sw_p 2 (f' := (39, [some (2, 0), some (0, c), some (0, x), some (0, w)], [(0, c), (2, 0), (2, 0)])) rfl ?_
    refine sw_cv1 (pn := 42) (q0 := mj_Mo_request) (q := mj_Mo_waiting) (p := 0) (as2 := [(0, c)]) (L2 := [some (2, 0), some (0, c), none, none]) (rest := [(2, 0)]) (v := some (0, mo_wt ν c)) (s1 := s) (ν1 := ν) rfl rfl rfl rfl rfl rfl rfl rfl rfl hs.1 (mo_waiting hs hB (by omega)) ?_
    show sw_w E _ 116 (42, [some (2, 0), some (0, c), some (0, x), some (0, w)], [(0, mo_wt ν c), (2, 0)]) s ν _
    refine sw_p 1 (f' := (44, [some (2, 0), some (0, c), some (0, x), some (0, w)], [(0, 8), (0, mo_wt ν c), (2, 0)])) rfl ?_
    refine sw_ne2 (pt := 51) (pn := 47) rfl rfl rfl (by omega) (by omega) (fun h => absurd h (by omega)) (fun h7 => ?_)
    refine sw_p 2 (f' := (52, [some (2, 0), some (0, c), some (0, x), some (0, w)], [(0, 2), (2, 0)])) rfl ?_
    refine sw_pI (pn := 55) (i := 0) rfl rfl rfl rfl rfl (by omega) hs.1 ?_
    refine sw_p 1 (f' := (56, [some (2, 0), some (0, c), some (0, x), some (0, w)], [(2, 0)])) rfl ?_
    refine sw_gI (pn := 59) (i := 0) rfl rfl rfl rfl rfl (by omega) hs.1 ?_
    rw [show (mm_u ν 0 0 2) 0 0 = 2 from mm_u_at]
    refine sw_le1 (pt := 64) (pn := 62) rfl rfl rfl (by omega) (fun h => absurd h (by decide)) (fun _ => ?_)
    refine sw_p 1 (f' := (63, [some (2, 0), some (0, c), some (0, x), some (0, w)], [(0, 0)])) rfl ?_
    exact sw_retI rfl rfl rfl ⟨rfl, rfl, rfl⟩
theorem mo_request_b1 (hs : mo_sh s) (hB : mo_B ν) (hc : -2147483648 ≤ c ∧ c < 2147483648) (h0 : ¬ (0 ≤ c ∧ c < ν 0 12)) : sw_w E (d + 1) 116 (0, [some (2, 0), some (0, c), some (0, x), some (0, w)], []) s ν (sw_is (some (0, 0)) s (mo_cd ν 1)) := by
  have hn := hB.2.2.1
  have hcd := hB.cd c
  have htk := hB.2.2.2.2.2.1
  have hwb := mo_wt_b (c := c) hB
  refine sw_p 3 (f' := (3, [some (2, 0), some (0, c), some (0, x), some (0, w)], [(0, c), (2, 0), (2, 0)])) rfl ?_
  refine sw_cv1 (pn := 6) (q0 := mj_Mo_request) (q := mj_Mo_isCard) (p := 0) (as2 := [(0, c)]) (L2 := [some (2, 0), some (0, c)]) (rest := [(2, 0)]) (v := some (0, 0)) (s1 := s) (ν1 := ν) rfl rfl rfl rfl rfl rfl rfl rfl rfl hs.1 (mo_isC0 hs hB (by omega) (by omega)) ?_
  show sw_w E _ 116 (6, [some (2, 0), some (0, c), some (0, x), some (0, w)], [(0, 0), (2, 0)]) s ν _
  refine sw_eq1 (pt := 13) (pn := 9) rfl rfl rfl (by omega) (fun _ => ?_) (fun h => absurd h (by decide))
  refine sw_p 2 (f' := (52, [some (2, 0), some (0, c), some (0, x), some (0, w)], [(0, 1), (2, 0)])) rfl ?_
  refine sw_pI (pn := 55) (i := 0) rfl rfl rfl rfl rfl (by omega) hs.1 ?_
  refine sw_p 1 (f' := (56, [some (2, 0), some (0, c), some (0, x), some (0, w)], [(2, 0)])) rfl ?_
  refine sw_gI (pn := 59) (i := 0) rfl rfl rfl rfl rfl (by omega) hs.1 ?_
  rw [show (mm_u ν 0 0 1) 0 0 = 1 from mm_u_at]
  refine sw_le1 (pt := 64) (pn := 62) rfl rfl rfl (by omega) (fun h => absurd h (by decide)) (fun _ => ?_)
  refine sw_p 1 (f' := (63, [some (2, 0), some (0, c), some (0, x), some (0, w)], [(0, 0)])) rfl ?_
  exact sw_retI rfl rfl rfl ⟨rfl, rfl, rfl⟩
theorem mo_request_b2 (hs : mo_sh s) (hB : mo_B ν) (hc : 0 ≤ c ∧ c < ν 0 12) (hx : -2147483648 ≤ x ∧ x < 0) : sw_w E (d + 1) 116 (0, [some (2, 0), some (0, c), some (0, x), some (0, w)], []) s ν (sw_is (some (0, 0)) s (mo_cd ν 1)) := by
  have hn := hB.2.2.1
  have hcd := hB.cd c
  have htk := hB.2.2.2.2.2.1
  have hwb := mo_wt_b (c := c) hB
  refine sw_p 3 (f' := (3, [some (2, 0), some (0, c), some (0, x), some (0, w)], [(0, c), (2, 0), (2, 0)])) rfl ?_
  refine sw_cv1 (pn := 6) (q0 := mj_Mo_request) (q := mj_Mo_isCard) (p := 0) (as2 := [(0, c)]) (L2 := [some (2, 0), some (0, c)]) (rest := [(2, 0)]) (v := some (0, 1)) (s1 := s) (ν1 := ν) rfl rfl rfl rfl rfl rfl rfl rfl rfl hs.1 (mo_isC1 hs hB (by omega)) ?_
  show sw_w E _ 116 (6, [some (2, 0), some (0, c), some (0, x), some (0, w)], [(0, 1), (2, 0)]) s ν _
  refine sw_eq1 (pt := 13) (pn := 9) rfl rfl rfl (by omega) (fun h => absurd h (by decide)) (fun _ => ?_)
  refine sw_p 1 (f' := (10, [some (2, 0), some (0, c), some (0, x), some (0, w)], [(0, x), (2, 0)])) rfl ?_
  refine sw_ge1 (pt := 17) (pn := 13) rfl rfl rfl (by omega) (fun h => absurd h (by omega)) (fun h2 => ?_)
  refine sw_p 2 (f' := (52, [some (2, 0), some (0, c), some (0, x), some (0, w)], [(0, 1), (2, 0)])) rfl ?_
  refine sw_pI (pn := 55) (i := 0) rfl rfl rfl rfl rfl (by omega) hs.1 ?_
  refine sw_p 1 (f' := (56, [some (2, 0), some (0, c), some (0, x), some (0, w)], [(2, 0)])) rfl ?_
  refine sw_gI (pn := 59) (i := 0) rfl rfl rfl rfl rfl (by omega) hs.1 ?_
  rw [show (mm_u ν 0 0 1) 0 0 = 1 from mm_u_at]
  refine sw_le1 (pt := 64) (pn := 62) rfl rfl rfl (by omega) (fun h => absurd h (by decide)) (fun _ => ?_)
  refine sw_p 1 (f' := (63, [some (2, 0), some (0, c), some (0, x), some (0, w)], [(0, 0)])) rfl ?_
  exact sw_retI rfl rfl rfl ⟨rfl, rfl, rfl⟩
end MO7
