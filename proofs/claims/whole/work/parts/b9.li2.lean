/-! the lists: add -/
def ad_e (s ν : mm_T) (e n : Int) (s' ν' : mm_T) : Prop := (ν' 54 1 = n + 1 ∧ (ν' 54 0, s' (ν' 54 0) (-2)) ∈ lc_l ∧ s' (ν' 54 0) (-1) = 7 ∧ n + 1 ≤ s' (ν' 54 0) (-2)) ∧ (∀ t, 0 ≤ t → t < n → ν' (ν' 54 0) t = 1000 + t) ∧ ν' (ν' 54 0) n = e ∧ (∀ p i, p ≠ 54 → ¬ (70 ≤ p ∧ p ≤ 80) → ν' p i = ν p i) ∧ (∀ p i, 0 ≤ p → p = ν 54 0 ∨ ¬ (70 ≤ p ∧ p ≤ 80) → s' p i = s p i) ∧ (∀ p, 70 ≤ p → p ≤ 80 → n + 1 ≤ lp_f p → s' p (-1) < 0) ∧ (s (-1) 0 ≤ s' (-1) 0 ∧ s' (-1) 0 ≤ s (-1) 0 + 1) ∧ s (-1) 1 ≤ s' (-1) 1 ∧ s' (-1) 1 ≤ s (-1) 1 + 549
theorem lc_sh : ∀ x ∈ lc_l, Int32.ofInt x.2 >>> (Int32.ofInt 1 &&& 31) = Int32.ofInt (x.2 / 2) := by decide
theorem lc_nx : ∀ x ∈ lc_l, x.1 < 80 → (x.1 + 1, x.2 + x.2 / 2) ∈ lc_l := by decide
theorem lc_lp : ∀ x ∈ lc_l, x.1 < 80 → lp_f (x.1 + 1) = x.2 := by decide
theorem lc_80 : ∀ x ∈ lc_l, x.1 = 80 → x.2 = 549 := by decide
section LI2
variable {E : mv_E} {s ν ρ : mm_T} {d : Nat} {a b c e i k l m n p q t x y z : Int}
theorem li_nl (hx : 10 ≤ x ∧ x ≤ 1000) (hz : 2 ≤ z ∧ z ≤ 1000) : sw_w E (d + 1) 15 (0, [some (0, x), some (0, 1), some (0, z), none], []) s ν (sw_is (some (0, x + z)) s ν) := by
  refine sw_p 3 (f' := (3, [some (0, x), some (0, 1), some (0, z), none], [(0, z), (0, 1), (0, x)])) rfl ?_
  refine sw_cs1 (pn := 6) (q0 := mj_Su_newLength) (q := mj_Ma_max) (L2 := [some (0, 1), some (0, z)]) (rest := [(0, x)]) (v := some (0, z)) (s1 := s) (ν1 := ν) rfl rfl rfl rfl rfl rfl rfl rfl (by have h := li_max (E := E) (d := d) (s := s) (ν := ν) (x := 1) (y := z) (by omega) (by omega); rw [if_neg (by omega)] at h; exact h) ?_
  show sw_w E _ 15 (6, [some (0, x), some (0, 1), some (0, z), none], [(0, z), (0, x)]) s ν _
  refine sw_p 4 (f' := (10, [some (0, x), some (0, 1), some (0, z), some (0, x + z)], [(0, x + z), (0, 0)])) rfl ?_
  refine sw_ge2 (pt := 21) (pn := 13) rfl rfl rfl (by omega) (by omega) (fun h => absurd h (by omega)) (fun h1 => ?_)
  refine sw_p 2 (f' := (16, [some (0, x), some (0, 1), some (0, z), some (0, x + z)], [(0, 2147483639), (0, x + z)])) rfl ?_
  refine sw_gt2 (pt := 21) (pn := 19) rfl rfl rfl (by omega) (by omega) (fun h => absurd h (by omega)) (fun h2 => ?_)
  refine sw_p 1 (f' := (20, [some (0, x), some (0, 1), some (0, z), some (0, x + z)], [(0, x + z)])) rfl ?_
  exact sw_retI rfl rfl rfl ⟨rfl, rfl, rfl⟩
theorem li_c1 (hq : s q (-1) = 7) (hl : s q (-2) = l) (hm : 0 ≤ l ∧ l < m ∧ m ≤ 1000) (ha : 0 ≤ a ∧ a ≤ 80) (hq0 : 0 ≤ q ∧ q ≤ 80) (haq : a ≠ q) (hn : s a (-1) < 0) (hel : ∀ i, 0 ≤ i → i < l → 1000 ≤ ν q i ∧ s (ν q i) (-1) = 104) : sw_w E (d + 1) 11 (0, [some (2, q), some (0, m), some (2, 9003), none], []) s ν (sw_is (some (2, a)) (nm_al s a 7 m m (fun _ => -1)) (mm_cp (sw_nw ν a (fun _ => -1)) a 0 q 0 l)) := by
  refine sw_p 1 (f' := (1, [some (2, q), some (0, m), some (2, 9003), none], [(2, 9003)])) rfl ?_
  refine sw_ldcM (pn := 3) rfl rfl ?_
  refine sw_acns (pn := 6) rfl rfl ?_
  refine sw_p 1 (f' := (7, [some (2, q), some (0, m), some (2, 9003), none], [(0, m)])) rfl ?_
  refine sw_an (pn := 10) (t := 7) a rfl rfl rfl (by decide) (by omega) (by omega) hn ?_
  refine sw_p 7 (f' := (30, [some (2, q), some (0, m), some (2, 9003), some (2, a)], [(2, q), (0, 0), (2, a), (0, 0), (2, q)])) rfl ?_
  refine sw_len (pn := 31) (t := 7) (l := l) rfl rfl ((al_ne (by omega) (by omega)).trans (hq)) rfl (by decide) ((al_ne (by omega) (by omega)).trans (hl)) (by omega) ?_
  refine sw_p 1 (f' := (32, [some (2, q), some (0, m), some (2, 9003), some (2, a)], [(0, m), (0, l), (0, 0), (2, a), (0, 0), (2, q)])) rfl ?_
  refine sw_cs1 (pn := 35) (q0 := mj_As_copyOf_11) (q := mj_Ma_min) (L2 := [some (0, l), some (0, m)]) (rest := [(0, 0), (2, a), (0, 0), (2, q)]) (v := some (0, l)) (s1 := (nm_al s a 7 m m (fun _ => -1))) (ν1 := (sw_nw ν a (fun _ => -1))) rfl rfl rfl rfl rfl rfl rfl rfl (by have h := li_min (E := E) (d := d) (s := (nm_al s a 7 m m (fun _ => -1))) (ν := (sw_nw ν a (fun _ => -1))) (x := l) (y := m) (by omega) (by omega); rw [if_pos (by omega)] at h; exact h) ?_
  show sw_w E _ 11 (35, [some (2, q), some (0, m), some (2, 9003), some (2, a)], [(0, l), (0, 0), (2, a), (0, 0), (2, q)]) (nm_al s a 7 m m (fun _ => -1)) (sw_nw ν a (fun _ => -1)) _
  refine sw_cpR (pn := 38) (la := l) (lb := m) rfl rfl (by omega) (by omega) (by omega) ((al_ne (by omega) (by omega)).trans (hq)) ((al_ne (by omega) (by omega)).trans (hl)) (al_k (by omega)) (al_l (by omega)) (by omega) (by omega) (by omega) (by omega) (by omega) (fun i h1 h2 => by have h3 := hel i h1 (by omega); rw [nw_ne (by omega)]; exact ⟨by omega, by rw [al_ne (by omega) (by omega)]; exact h3.2⟩) rfl ?_
  refine sw_p 1 (f' := (39, [some (2, q), some (0, m), some (2, 9003), some (2, a)], [(2, a)])) rfl ?_
  exact sw_retR rfl rfl rfl ⟨rfl, rfl, rfl⟩
theorem li_c0 (hq : s q (-1) = 7) (hl : s q (-2) = l) (hm : 0 ≤ l ∧ l < m ∧ m ≤ 1000) (ha : 0 ≤ a ∧ a ≤ 80) (hq0 : 0 ≤ q ∧ q ≤ 80) (haq : a ≠ q) (hn : s a (-1) < 0) (hel : ∀ i, 0 ≤ i → i < l → 1000 ≤ ν q i ∧ s (ν q i) (-1) = 104) : sw_w E (d + 2) 10 (0, [some (2, q), some (0, m)], []) s ν (sw_is (some (2, a)) (nm_al s a 7 m m (fun _ => -1)) (mm_cp (sw_nw ν a (fun _ => -1)) a 0 q 0 l)) := by
  refine sw_p 3 (f' := (3, [some (2, q), some (0, m)], [(2, q), (0, m), (2, q)])) rfl ?_
  refine sw_getC (pn := 6) rfl rfl hq rfl ?_
  refine sw_cs1 (pn := 9) (q0 := mj_As_copyOf) (q := mj_As_copyOf_11) (L2 := [some (2, q), some (0, m), some (2, 9003), none]) (rest := []) (v := some (2, a)) (s1 := (nm_al s a 7 m m (fun _ => -1))) (ν1 := (mm_cp (sw_nw ν a (fun _ => -1)) a 0 q 0 l)) rfl rfl rfl rfl rfl rfl rfl rfl (li_c1 hq hl hm ha hq0 haq hn hel) ?_
  show sw_w E _ 10 (9, [some (2, q), some (0, m)], [(2, a)]) (nm_al s a 7 m m (fun _ => -1)) (mm_cp (sw_nw ν a (fun _ => -1)) a 0 q 0 l) _
  exact sw_retR rfl rfl rfl ⟨rfl, rfl, rfl⟩
theorem li_g7 (h54 : s 54 (-1) = 107) (h0 : ν 54 0 = q) (hq : s q (-1) = 7) (hl : s q (-2) = l) (hm : 10 ≤ l ∧ l ≤ 400) (ha : 0 ≤ a ∧ a ≤ 80) (hq0 : 0 ≤ q ∧ q ≤ 80) (haq : a ≠ q) (ha54 : a ≠ 54) (hn : s a (-1) < 0) (hel : ∀ i, 0 ≤ i → i < l → 1000 ≤ ν q i ∧ s (ν q i) (-1) = 104) (hsh : Int32.ofInt l >>> (Int32.ofInt 1 &&& 31) = Int32.ofInt (l / 2)) : sw_w E (d + 3) 7 (0, [some (2, 54), some (0, l + 1), none, none], []) s ν (sw_is (some (2, a)) (nm_al s a 7 (l + l / 2) (l + l / 2) (fun _ => -1)) (mm_u (mm_cp (sw_nw ν a (fun _ => -1)) a 0 q 0 l) 54 0 a)) := by
  refine sw_p 1 (f' := (1, [some (2, 54), some (0, l + 1), none, none], [(2, 54)])) rfl ?_
  refine sw_gA (pn := 4) (i := 0) rfl rfl rfl rfl rfl (by omega) h54 (fun _ => ?_) (fun h => absurd h (by omega))
  rw [h0]
  refine sw_len (pn := 5) (t := 7) (l := l) rfl rfl hq rfl (by decide) hl (by omega) ?_
  refine sw_p 2 (f' := (7, [some (2, 54), some (0, l + 1), some (0, l), none], [(0, l)])) rfl ?_
  refine sw_gt1 (pt := 20) (pn := 10) rfl rfl rfl (by omega) (fun _ => ?_) (fun h => absurd h (by omega))
  refine sw_p 6 (f' := (26, [some (2, 54), some (0, l + 1), some (0, l), none], [(0, 1), (0, l), (0, l + 1 - l), (0, l)])) rfl ?_
  refine sw_ishr (pn := 27) (z := l / 2) rfl rfl hsh ?_
  rw [show l + 1 - l = 1 by omega]
  refine sw_cs1 (pn := 30) (q0 := mj_Al_grow_7) (q := mj_Su_newLength) (L2 := [some (0, l), some (0, 1), some (0, l / 2), none]) (rest := []) (v := some (0, l + l / 2)) (s1 := s) (ν1 := ν) rfl rfl rfl rfl rfl rfl rfl rfl (li_nl (by omega) (by omega)) ?_
  show sw_w E _ 7 (30, [some (2, 54), some (0, l + 1), some (0, l), none], [(0, l + l / 2)]) s ν _
  refine sw_p 3 (f' := (33, [some (2, 54), some (0, l + 1), some (0, l), some (0, l + l / 2)], [(2, 54), (2, 54)])) rfl ?_
  refine sw_gA (pn := 36) (i := 0) rfl rfl rfl rfl rfl (by omega) h54 (fun _ => ?_) (fun h => absurd h (by omega))
  rw [h0]
  refine sw_p 1 (f' := (37, [some (2, 54), some (0, l + 1), some (0, l), some (0, l + l / 2)], [(0, l + l / 2), (2, q), (2, 54)])) rfl ?_
  refine sw_cs1 (pn := 40) (q0 := mj_Al_grow_7) (q := mj_As_copyOf) (L2 := [some (2, q), some (0, l + l / 2)]) (rest := [(2, 54)]) (v := some (2, a)) (s1 := (nm_al s a 7 (l + l / 2) (l + l / 2) (fun _ => -1))) (ν1 := (mm_cp (sw_nw ν a (fun _ => -1)) a 0 q 0 l)) rfl rfl rfl rfl rfl rfl rfl rfl (li_c0 hq hl (by omega) ha hq0 haq hn hel) ?_
  show sw_w E _ 7 (40, [some (2, 54), some (0, l + 1), some (0, l), some (0, l + l / 2)], [(2, a), (2, 54)]) (nm_al s a 7 (l + l / 2) (l + l / 2) (fun _ => -1)) (mm_cp (sw_nw ν a (fun _ => -1)) a 0 q 0 l) _
  refine sw_p 1 (f' := (41, [some (2, 54), some (0, l + 1), some (0, l), some (0, l + l / 2)], [(2, a), (2, 54), (2, a)])) rfl ?_
  refine sw_pA (pn := 44) (i := 0) rfl rfl rfl rfl rfl (by omega) (by rw [al_ne (by omega) (by omega)]; exact h54) ?_
  exact sw_retR rfl rfl rfl ⟨rfl, rfl, rfl⟩
theorem li_g0 (hE : E.2.2.2.2.1 < E.1 ∧ E.2.2.2.2.1 ≠ E.2.1) (h54 : s 54 (-1) = 107) (h0 : ν 54 0 = 9002) (hn : s 70 (-1) < 0) : sw_w E (d + 3) 7 (0, [some (2, 54), some (0, 1), none, none], []) s ν (sw_is (some (2, 70)) (nm_al s 70 7 10 10 (fun _ => -1)) (mm_u (sw_nw ν 70 (fun _ => -1)) 54 0 70)) := by
  refine sw_p 1 (f' := (1, [some (2, 54), some (0, 1), none, none], [(2, 54)])) rfl ?_
  refine sw_gA (pn := 4) (i := 0) rfl rfl rfl rfl rfl (by omega) h54 (fun _ => ?_) (fun h => absurd h (by omega))
  rw [h0]
  refine sw_lenE (pn := 5) rfl rfl hE.1 hE.2 ?_
  refine sw_p 2 (f' := (7, [some (2, 54), some (0, 1), some (0, 0), none], [(0, 0)])) rfl ?_
  refine sw_gt1 (pt := 20) (pn := 10) rfl rfl rfl (by omega) (fun h => absurd h (by decide)) (fun _ => ?_)
  refine sw_p 1 (f' := (11, [some (2, 54), some (0, 1), some (0, 0), none], [(2, 54)])) rfl ?_
  refine sw_gA (pn := 14) (i := 0) rfl rfl rfl rfl rfl (by omega) h54 (fun _ => ?_) (fun h => absurd h (by omega))
  rw [h0]
  refine sw_gets (pn := 17) rfl rfl ?_
  refine sw_acqs (pt := 45) rfl rfl ?_
  refine sw_p 3 (f' := (49, [some (2, 54), some (0, 1), some (0, 0), none], [(0, 1), (0, 10), (2, 54)])) rfl ?_
  refine sw_cs1 (pn := 52) (q0 := mj_Al_grow_7) (q := mj_Ma_max) (L2 := [some (0, 10), some (0, 1)]) (rest := [(2, 54)]) (v := some (0, 10)) (s1 := s) (ν1 := ν) rfl rfl rfl rfl rfl rfl rfl rfl (by have h := li_max (E := E) (d := d + 2) (s := s) (ν := ν) (x := 10) (y := 1) (by omega) (by omega); rw [if_pos (by omega)] at h; exact h) ?_
  show sw_w E _ 7 (52, [some (2, 54), some (0, 1), some (0, 0), none], [(0, 10), (2, 54)]) s ν _
  refine sw_an (pn := 55) (t := 7) 70 rfl rfl rfl (by decide) (by omega) (by omega) hn ?_
  refine sw_p 1 (f' := (56, [some (2, 54), some (0, 1), some (0, 0), none], [(2, 70), (2, 54), (2, 70)])) rfl ?_
  refine sw_pA (pn := 59) (i := 0) rfl rfl rfl rfl rfl (by omega) (by rw [al_ne (by omega) (by omega)]; exact h54) ?_
  exact sw_retR rfl rfl rfl ⟨rfl, rfl, rfl⟩
theorem li_g6 (h54 : s 54 (-1) = 107) (h0 : ν 54 0 = q) (h1 : ν 54 1 = l) (hq : s q (-1) = 7) (hl : s q (-2) = l) (hm : 10 ≤ l ∧ l ≤ 400) (ha : 0 ≤ a ∧ a ≤ 80) (hq0 : 0 ≤ q ∧ q ≤ 80) (haq : a ≠ q) (ha54 : a ≠ 54) (hn : s a (-1) < 0) (hel : ∀ i, 0 ≤ i → i < l → 1000 ≤ ν q i ∧ s (ν q i) (-1) = 104) (hsh : Int32.ofInt l >>> (Int32.ofInt 1 &&& 31) = Int32.ofInt (l / 2)) : sw_w E (d + 4) 6 (0, [some (2, 54)], []) s ν (sw_is (some (2, a)) (nm_al s a 7 (l + l / 2) (l + l / 2) (fun _ => -1)) (mm_u (mm_cp (sw_nw ν a (fun _ => -1)) a 0 q 0 l) 54 0 a)) := by
  refine sw_p 2 (f' := (2, [some (2, 54)], [(2, 54), (2, 54)])) rfl ?_
  refine sw_gI (pn := 5) (i := 1) rfl rfl rfl rfl rfl (by omega) h54 ?_
  rw [h1]
  refine sw_p 2 (f' := (7, [some (2, 54)], [(0, l + 1), (2, 54)])) rfl ?_
  refine sw_cv1 (pn := 10) (q0 := mj_Al_grow) (q := mj_Al_grow_7) (p := 54) (as2 := [(0, l + 1)]) (L2 := [some (2, 54), some (0, l + 1), none, none]) (rest := []) (v := some (2, a)) (s1 := (nm_al s a 7 (l + l / 2) (l + l / 2) (fun _ => -1))) (ν1 := (mm_u (mm_cp (sw_nw ν a (fun _ => -1)) a 0 q 0 l) 54 0 a)) rfl rfl rfl rfl rfl rfl rfl rfl rfl h54 (li_g7 h54 h0 hq hl hm ha hq0 haq ha54 hn hel hsh) ?_
  show sw_w E _ 6 (10, [some (2, 54)], [(2, a)]) (nm_al s a 7 (l + l / 2) (l + l / 2) (fun _ => -1)) (mm_u (mm_cp (sw_nw ν a (fun _ => -1)) a 0 q 0 l) 54 0 a) _
  exact sw_retR rfl rfl rfl ⟨rfl, rfl, rfl⟩
theorem li_g60 (hE : E.2.2.2.2.1 < E.1 ∧ E.2.2.2.2.1 ≠ E.2.1) (h54 : s 54 (-1) = 107) (h0 : ν 54 0 = 9002) (h1 : ν 54 1 = 0) (hn : s 70 (-1) < 0) : sw_w E (d + 4) 6 (0, [some (2, 54)], []) s ν (sw_is (some (2, 70)) (nm_al s 70 7 10 10 (fun _ => -1)) (mm_u (sw_nw ν 70 (fun _ => -1)) 54 0 70)) := by
  refine sw_p 2 (f' := (2, [some (2, 54)], [(2, 54), (2, 54)])) rfl ?_
  refine sw_gI (pn := 5) (i := 1) rfl rfl rfl rfl rfl (by omega) h54 ?_
  rw [h1]
  refine sw_p 2 (f' := (7, [some (2, 54)], [(0, 1), (2, 54)])) rfl ?_
  refine sw_cv1 (pn := 10) (q0 := mj_Al_grow) (q := mj_Al_grow_7) (p := 54) (as2 := [(0, 1)]) (L2 := [some (2, 54), some (0, 1), none, none]) (rest := []) (v := some (2, 70)) (s1 := (nm_al s 70 7 10 10 (fun _ => -1))) (ν1 := (mm_u (sw_nw ν 70 (fun _ => -1)) 54 0 70)) rfl rfl rfl rfl rfl rfl rfl rfl rfl h54 (li_g0 hE h54 h0 hn) ?_
  show sw_w E _ 6 (10, [some (2, 54)], [(2, 70)]) (nm_al s 70 7 10 10 (fun _ => -1)) (mm_u (sw_nw ν 70 (fun _ => -1)) 54 0 70) _
  exact sw_retR rfl rfl rfl ⟨rfl, rfl, rfl⟩
theorem li_a5n (h54 : s 54 (-1) = 107) (hq : s q (-1) = 7) (hl : s q (-2) = l) (hl1 : l ≤ 1000) (hn0 : 0 ≤ n ∧ n < l) (hq0 : 70 ≤ q ∧ q ≤ 80) (he : s e (-1) = 104) (he0 : 1000 ≤ e) : sw_w E (d + 5) 5 (0, [some (2, 54), some (2, e), some (2, q), some (0, n)], []) s ν (sw_is none s (mm_u (mm_u ν q n e) 54 1 (n + 1))) := by
  refine sw_p 2 (f' := (2, [some (2, 54), some (2, e), some (2, q), some (0, n)], [(2, q), (0, n)])) rfl ?_
  refine sw_len (pn := 3) (t := 7) (l := l) rfl rfl hq rfl (by decide) hl (by omega) ?_
  refine sw_ne2 (pt := 11) (pn := 6) rfl rfl rfl (by omega) (by omega) (fun _ => ?_) (fun h => absurd h (by omega))
  refine sw_p 3 (f' := (14, [some (2, 54), some (2, e), some (2, q), some (0, n)], [(2, e), (0, n), (2, q)])) rfl ?_
  refine sw_aas (pn := 15) (t := 7) (c := 4) (l := l) rfl rfl rfl (by decide) (by decide) he (by omega) hq hl (by omega) (by omega) ?_
  refine sw_p 4 (f' := (19, [some (2, 54), some (2, e), some (2, q), some (0, n)], [(0, n + 1), (2, 54)])) rfl ?_
  refine sw_pI (pn := 22) (i := 1) rfl rfl rfl rfl rfl (by omega) h54 ?_
  exact sw_retV rfl rfl rfl ⟨rfl, rfl, rfl⟩
theorem li_a5f (h54 : s 54 (-1) = 107) (h0 : ν 54 0 = q) (h1 : ν 54 1 = l) (hq : s q (-1) = 7) (hl : s q (-2) = l) (hm : 10 ≤ l ∧ l ≤ 400) (ha : 0 ≤ a ∧ a ≤ 80) (hq0 : 0 ≤ q ∧ q ≤ 80) (haq : a ≠ q) (ha54 : a ≠ 54) (hn : s a (-1) < 0) (hel : ∀ i, 0 ≤ i → i < l → 1000 ≤ ν q i ∧ s (ν q i) (-1) = 104) (hsh : Int32.ofInt l >>> (Int32.ofInt 1 &&& 31) = Int32.ofInt (l / 2)) (he : s e (-1) = 104) (he0 : 1000 ≤ e) : sw_w E (d + 5) 5 (0, [some (2, 54), some (2, e), some (2, q), some (0, l)], []) s ν (sw_is none (nm_al s a 7 (l + l / 2) (l + l / 2) (fun _ => -1)) (mm_u (mm_u (mm_u (mm_cp (sw_nw ν a (fun _ => -1)) a 0 q 0 l) 54 0 a) a l e) 54 1 (l + 1))) := by
  refine sw_p 2 (f' := (2, [some (2, 54), some (2, e), some (2, q), some (0, l)], [(2, q), (0, l)])) rfl ?_
  refine sw_len (pn := 3) (t := 7) (l := l) rfl rfl hq rfl (by decide) hl (by omega) ?_
  refine sw_ne2 (pt := 11) (pn := 6) rfl rfl rfl (by omega) (by omega) (fun h => absurd h (by omega)) (fun _ => ?_)
  refine sw_p 1 (f' := (7, [some (2, 54), some (2, e), some (2, q), some (0, l)], [(2, 54)])) rfl ?_
  refine sw_cv1 (pn := 10) (q0 := mj_Al_add_5) (q := mj_Al_grow) (p := 54) (as2 := []) (L2 := [some (2, 54)]) (rest := []) (v := some (2, a)) (s1 := (nm_al s a 7 (l + l / 2) (l + l / 2) (fun _ => -1))) (ν1 := (mm_u (mm_cp (sw_nw ν a (fun _ => -1)) a 0 q 0 l) 54 0 a)) rfl rfl rfl rfl rfl rfl rfl rfl rfl h54 (li_g6 h54 h0 h1 hq hl hm ha hq0 haq ha54 hn hel hsh) ?_
  show sw_w E _ 5 (10, [some (2, 54), some (2, e), some (2, q), some (0, l)], [(2, a)]) (nm_al s a 7 (l + l / 2) (l + l / 2) (fun _ => -1)) (mm_u (mm_cp (sw_nw ν a (fun _ => -1)) a 0 q 0 l) 54 0 a) _
  refine sw_p 4 (f' := (14, [some (2, 54), some (2, e), some (2, a), some (0, l)], [(2, e), (0, l), (2, a)])) rfl ?_
  refine sw_aas (pn := 15) (t := 7) (c := 4) (l := (l + l / 2)) rfl rfl rfl (by decide) (by decide) (by rw [al_ne (by omega) (by omega)]; exact he) (by omega) (al_k (by omega)) (al_l (by omega)) (by omega) (by omega) ?_
  refine sw_p 4 (f' := (19, [some (2, 54), some (2, e), some (2, a), some (0, l)], [(0, l + 1), (2, 54)])) rfl ?_
  refine sw_pI (pn := 22) (i := 1) rfl rfl rfl rfl rfl (by omega) (by rw [al_ne (by omega) (by omega)]; exact h54) ?_
  exact sw_retV rfl rfl rfl ⟨rfl, rfl, rfl⟩
theorem li_a50 (hE : E.2.2.2.2.1 < E.1 ∧ E.2.2.2.2.1 ≠ E.2.1) (h54 : s 54 (-1) = 107) (h0 : ν 54 0 = 9002) (h1 : ν 54 1 = 0) (hn : s 70 (-1) < 0) (he : s e (-1) = 104) (he0 : 1000 ≤ e) : sw_w E (d + 5) 5 (0, [some (2, 54), some (2, e), some (2, 9002), some (0, 0)], []) s ν (sw_is none (nm_al s 70 7 10 10 (fun _ => -1)) (mm_u (mm_u (mm_u (sw_nw ν 70 (fun _ => -1)) 54 0 70) 70 0 e) 54 1 1)) := by
  refine sw_p 2 (f' := (2, [some (2, 54), some (2, e), some (2, 9002), some (0, 0)], [(2, 9002), (0, 0)])) rfl ?_
  refine sw_lenE (pn := 3) rfl rfl hE.1 hE.2 ?_
  refine sw_ne2 (pt := 11) (pn := 6) rfl rfl rfl (by omega) (by omega) (fun h => absurd h (by omega)) (fun _ => ?_)
  refine sw_p 1 (f' := (7, [some (2, 54), some (2, e), some (2, 9002), some (0, 0)], [(2, 54)])) rfl ?_
  refine sw_cv1 (pn := 10) (q0 := mj_Al_add_5) (q := mj_Al_grow) (p := 54) (as2 := []) (L2 := [some (2, 54)]) (rest := []) (v := some (2, 70)) (s1 := (nm_al s 70 7 10 10 (fun _ => -1))) (ν1 := (mm_u (sw_nw ν 70 (fun _ => -1)) 54 0 70)) rfl rfl rfl rfl rfl rfl rfl rfl rfl h54 (li_g60 hE h54 h0 h1 hn) ?_
  show sw_w E _ 5 (10, [some (2, 54), some (2, e), some (2, 9002), some (0, 0)], [(2, 70)]) (nm_al s 70 7 10 10 (fun _ => -1)) (mm_u (sw_nw ν 70 (fun _ => -1)) 54 0 70) _
  refine sw_p 4 (f' := (14, [some (2, 54), some (2, e), some (2, 70), some (0, 0)], [(2, e), (0, 0), (2, 70)])) rfl ?_
  refine sw_aas (pn := 15) (t := 7) (c := 4) (l := 10) rfl rfl rfl (by decide) (by decide) (by rw [al_ne (by omega) (by omega)]; exact he) (by omega) (al_k (by omega)) (al_l (by omega)) (by omega) (by omega) ?_
  refine sw_p 4 (f' := (19, [some (2, 54), some (2, e), some (2, 70), some (0, 0)], [(0, 1), (2, 54)])) rfl ?_
  refine sw_pI (pn := 22) (i := 1) rfl rfl rfl rfl rfl (by omega) (by rw [al_ne (by omega) (by omega)]; exact h54) ?_
  exact sw_retV rfl rfl rfl ⟨rfl, rfl, rfl⟩
theorem li_an (h0 : ν 54 0 = q) (h1 : ν 54 1 = n) (h54 : s 54 (-1) = 107) (hq : s q (-1) = 7) (hl : s q (-2) = l) (hl1 : l ≤ 1000) (hn0 : 0 ≤ n ∧ n < l) (hq0 : 70 ≤ q ∧ q ≤ 80) (he : s e (-1) = 104) (he0 : 1000 ≤ e) : sw_w E (d + 6) 4 (0, [some (2, 54), some (2, e)], []) s ν (sw_is (some (0, 1)) s (mm_u (mm_u (mm_u ν 54 2 (ν 54 2 + 1)) q n e) 54 1 (n + 1))) := by
  have g0 : (mm_u ν 54 2 (ν 54 2 + 1)) 54 0 = q := (mm_u_ne (by omega)).trans h0
  have g1 : (mm_u ν 54 2 (ν 54 2 + 1)) 54 1 = n := (mm_u_ne (by omega)).trans h1
  refine sw_p 2 (f' := (2, [some (2, 54), some (2, e)], [(2, 54), (2, 54)])) rfl ?_
  refine sw_gI (pn := 5) (i := 2) rfl rfl rfl rfl rfl (by omega) h54 ?_
  refine sw_p 2 (f' := (7, [some (2, 54), some (2, e)], [(0, ν 54 2 + 1), (2, 54)])) rfl ?_
  refine sw_pI (pn := 10) (i := 2) rfl rfl rfl rfl rfl (by omega) h54 ?_
  refine sw_p 3 (f' := (13, [some (2, 54), some (2, e)], [(2, 54), (2, e), (2, 54)])) rfl ?_
  refine sw_gA (pn := 16) (i := 0) rfl rfl rfl rfl rfl (by omega) h54 (fun _ => ?_) (fun h => absurd h (by omega))
  rw [g0]
  refine sw_p 1 (f' := (17, [some (2, 54), some (2, e)], [(2, 54), (2, q), (2, e), (2, 54)])) rfl ?_
  refine sw_gI (pn := 20) (i := 1) rfl rfl rfl rfl rfl (by omega) h54 ?_
  rw [g1]
  refine sw_cv1 (pn := 23) (q0 := mj_Al_add) (q := mj_Al_add_5) (p := 54) (as2 := [(2, e), (2, q), (0, n)]) (L2 := [some (2, 54), some (2, e), some (2, q), some (0, n)]) (rest := []) (v := none) (s1 := s) (ν1 := (mm_u (mm_u (mm_u ν 54 2 (ν 54 2 + 1)) q n e) 54 1 (n + 1))) rfl rfl rfl rfl rfl rfl rfl rfl rfl h54 (li_a5n h54 hq hl hl1 hn0 hq0 he he0) ?_
  show sw_w E _ 4 (23, [some (2, 54), some (2, e)], []) s (mm_u (mm_u (mm_u ν 54 2 (ν 54 2 + 1)) q n e) 54 1 (n + 1)) _
  refine sw_p 1 (f' := (24, [some (2, 54), some (2, e)], [(0, 1)])) rfl ?_
  exact sw_retZ rfl rfl rfl (by omega) ⟨rfl, rfl, rfl⟩
theorem li_af (h54 : s 54 (-1) = 107) (h0 : ν 54 0 = q) (h1 : ν 54 1 = l) (hq : s q (-1) = 7) (hl : s q (-2) = l) (hm : 10 ≤ l ∧ l ≤ 400) (ha : 0 ≤ a ∧ a ≤ 80) (hq0 : 70 ≤ q ∧ q ≤ 80) (haq : a ≠ q) (ha54 : a ≠ 54) (hn : s a (-1) < 0) (hel : ∀ i, 0 ≤ i → i < l → 1000 ≤ ν q i ∧ s (ν q i) (-1) = 104) (hsh : Int32.ofInt l >>> (Int32.ofInt 1 &&& 31) = Int32.ofInt (l / 2)) (he : s e (-1) = 104) (he0 : 1000 ≤ e) : sw_w E (d + 6) 4 (0, [some (2, 54), some (2, e)], []) s ν (sw_is (some (0, 1)) (nm_al s a 7 (l + l / 2) (l + l / 2) (fun _ => -1)) (mm_u (mm_u (mm_u (mm_cp (sw_nw (mm_u ν 54 2 (ν 54 2 + 1)) a (fun _ => -1)) a 0 q 0 l) 54 0 a) a l e) 54 1 (l + 1))) := by
  have g0 : (mm_u ν 54 2 (ν 54 2 + 1)) 54 0 = q := (mm_u_ne (by omega)).trans h0
  have g1 : (mm_u ν 54 2 (ν 54 2 + 1)) 54 1 = l := (mm_u_ne (by omega)).trans h1
  refine sw_p 2 (f' := (2, [some (2, 54), some (2, e)], [(2, 54), (2, 54)])) rfl ?_
  refine sw_gI (pn := 5) (i := 2) rfl rfl rfl rfl rfl (by omega) h54 ?_
  refine sw_p 2 (f' := (7, [some (2, 54), some (2, e)], [(0, ν 54 2 + 1), (2, 54)])) rfl ?_
  refine sw_pI (pn := 10) (i := 2) rfl rfl rfl rfl rfl (by omega) h54 ?_
  refine sw_p 3 (f' := (13, [some (2, 54), some (2, e)], [(2, 54), (2, e), (2, 54)])) rfl ?_
  refine sw_gA (pn := 16) (i := 0) rfl rfl rfl rfl rfl (by omega) h54 (fun _ => ?_) (fun h => absurd h (by omega))
  rw [g0]
  refine sw_p 1 (f' := (17, [some (2, 54), some (2, e)], [(2, 54), (2, q), (2, e), (2, 54)])) rfl ?_
  refine sw_gI (pn := 20) (i := 1) rfl rfl rfl rfl rfl (by omega) h54 ?_
  rw [g1]
  refine sw_cv1 (pn := 23) (q0 := mj_Al_add) (q := mj_Al_add_5) (p := 54) (as2 := [(2, e), (2, q), (0, l)]) (L2 := [some (2, 54), some (2, e), some (2, q), some (0, l)]) (rest := []) (v := none) (s1 := (nm_al s a 7 (l + l / 2) (l + l / 2) (fun _ => -1))) (ν1 := (mm_u (mm_u (mm_u (mm_cp (sw_nw (mm_u ν 54 2 (ν 54 2 + 1)) a (fun _ => -1)) a 0 q 0 l) 54 0 a) a l e) 54 1 (l + 1))) rfl rfl rfl rfl rfl rfl rfl rfl rfl h54 (li_a5f h54 g0 g1 hq hl hm ha (by omega) haq ha54 hn (fun i g2 g3 => by rw [mm_u_ne (by omega)]; exact hel i g2 g3) hsh he he0) ?_
  show sw_w E _ 4 (23, [some (2, 54), some (2, e)], []) (nm_al s a 7 (l + l / 2) (l + l / 2) (fun _ => -1)) (mm_u (mm_u (mm_u (mm_cp (sw_nw (mm_u ν 54 2 (ν 54 2 + 1)) a (fun _ => -1)) a 0 q 0 l) 54 0 a) a l e) 54 1 (l + 1)) _
  refine sw_p 1 (f' := (24, [some (2, 54), some (2, e)], [(0, 1)])) rfl ?_
  exact sw_retZ rfl rfl rfl (by omega) ⟨rfl, rfl, rfl⟩
theorem li_a0 (hE : E.2.2.2.2.1 < E.1 ∧ E.2.2.2.2.1 ≠ E.2.1) (h54 : s 54 (-1) = 107) (h0 : ν 54 0 = 9002) (h1 : ν 54 1 = 0) (hn : s 70 (-1) < 0) (he : s e (-1) = 104) (he0 : 1000 ≤ e) : sw_w E (d + 6) 4 (0, [some (2, 54), some (2, e)], []) s ν (sw_is (some (0, 1)) (nm_al s 70 7 10 10 (fun _ => -1)) (mm_u (mm_u (mm_u (sw_nw (mm_u ν 54 2 (ν 54 2 + 1)) 70 (fun _ => -1)) 54 0 70) 70 0 e) 54 1 1)) := by
  have g0 : (mm_u ν 54 2 (ν 54 2 + 1)) 54 0 = 9002 := (mm_u_ne (by omega)).trans h0
  have g1 : (mm_u ν 54 2 (ν 54 2 + 1)) 54 1 = 0 := (mm_u_ne (by omega)).trans h1
  refine sw_p 2 (f' := (2, [some (2, 54), some (2, e)], [(2, 54), (2, 54)])) rfl ?_
  refine sw_gI (pn := 5) (i := 2) rfl rfl rfl rfl rfl (by omega) h54 ?_
  refine sw_p 2 (f' := (7, [some (2, 54), some (2, e)], [(0, ν 54 2 + 1), (2, 54)])) rfl ?_
  refine sw_pI (pn := 10) (i := 2) rfl rfl rfl rfl rfl (by omega) h54 ?_
  refine sw_p 3 (f' := (13, [some (2, 54), some (2, e)], [(2, 54), (2, e), (2, 54)])) rfl ?_
  refine sw_gA (pn := 16) (i := 0) rfl rfl rfl rfl rfl (by omega) h54 (fun _ => ?_) (fun h => absurd h (by omega))
  rw [g0]
  refine sw_p 1 (f' := (17, [some (2, 54), some (2, e)], [(2, 54), (2, 9002), (2, e), (2, 54)])) rfl ?_
  refine sw_gI (pn := 20) (i := 1) rfl rfl rfl rfl rfl (by omega) h54 ?_
  rw [g1]
  refine sw_cv1 (pn := 23) (q0 := mj_Al_add) (q := mj_Al_add_5) (p := 54) (as2 := [(2, e), (2, 9002), (0, 0)]) (L2 := [some (2, 54), some (2, e), some (2, 9002), some (0, 0)]) (rest := []) (v := none) (s1 := (nm_al s 70 7 10 10 (fun _ => -1))) (ν1 := (mm_u (mm_u (mm_u (sw_nw (mm_u ν 54 2 (ν 54 2 + 1)) 70 (fun _ => -1)) 54 0 70) 70 0 e) 54 1 1)) rfl rfl rfl rfl rfl rfl rfl rfl rfl h54 (li_a50 hE h54 g0 g1 hn he he0) ?_
  show sw_w E _ 4 (23, [some (2, 54), some (2, e)], []) (nm_al s 70 7 10 10 (fun _ => -1)) (mm_u (mm_u (mm_u (sw_nw (mm_u ν 54 2 (ν 54 2 + 1)) 70 (fun _ => -1)) 54 0 70) 70 0 e) 54 1 1) _
  refine sw_p 1 (f' := (24, [some (2, 54), some (2, e)], [(0, 1)])) rfl ?_
  exact sw_retZ rfl rfl rfl (by omega) ⟨rfl, rfl, rfl⟩
theorem sw_iv {j : Nat} {g : mg_F} {s1 ν1 : mm_T} {r : Option mg_V} {P : Option mg_V → mm_T → mm_T → Prop} (h : sw_w E d j g s ν (sw_is r s1 ν1)) (hP : P r s1 ν1) : sw_w E d j g s ν (sw_vs P) := sw_mono h (fun o s' ν' ⟨e1, e2, e3⟩ => ⟨r, e1, by rw [e2, e3]; exact hP⟩)
theorem li_ad (hE : E.2.2.2.2.1 < E.1 ∧ E.2.2.2.2.1 ≠ E.2.1) (h54 : s 54 (-1) = 107) (hL : pt_L s ν ρ) (hu : ∀ p, 70 ≤ p → p ≤ 80 → ρ 0 24 ≤ lp_f p → s p (-1) < 0) (hn : 0 ≤ ρ 0 24 ∧ ρ 0 24 < 512) (hr : ∀ t, 0 ≤ t → t < ρ 0 24 → s (1000 + t) (-1) = 104) (he : s e (-1) = 104) (he0 : 1000 ≤ e) : sw_w E (d + 6) 4 (0, [some (2, 54), some (2, e)], []) s ν (sw_vs (fun r s' ν' => r = some (0, 1) ∧ ad_e s ν e (ρ 0 24) s' ν')) := by
  obtain ⟨h1, h2, h3⟩ := hL
  rcases h2 with ⟨h0, hz⟩ | ⟨hlc, hk, hsz⟩
  · rw [hz] at h1
    have w := li_a0 (E := E) (d := d) hE h54 h0 h1 (hu 70 (by omega) (by omega) (by rw [hz]; decide)) he he0
    refine sw_iv w ⟨rfl, ?_⟩
    rw [hz]
    have e0 : (mm_u (mm_u (mm_u (sw_nw (mm_u ν 54 2 (ν 54 2 + 1)) 70 (fun _ => -1)) 54 0 70) 70 0 e) 54 1 1) 54 0 = 70 := by rw [mm_u_ne (by omega), mm_u_ne (by omega), mm_u_at]
    unfold ad_e
    rw [e0, al_k (by omega), al_l (by omega), al_c0, al_c1]
    refine ⟨⟨mm_u_at, by decide, rfl, by decide⟩, fun t t0 t1 => by omega, ?_, fun p i g1 g2 => ?_, fun p i g1 g2 => al_ne (by omega) (by omega), fun p g1 g2 g3 => ?_, by omega, by omega, by omega⟩
    · exact (mm_u_ne (by omega)).trans mm_u_at
    · rw [mm_u_ne (by omega), mm_u_ne (by omega), mm_u_ne (by omega), nw_ne (by omega), mm_u_ne (by omega)]
    · have hp : p ≠ 70 := fun h => by rw [h] at g3; exact absurd g3 (by decide)
      rw [al_ne (by omega) (by omega)]
      exact hu p g1 g2 (by omega)
  · have hb := lc_b _ hlc
    have hsh := lc_sh _ hlc
    have hnx := lc_nx _ hlc
    have h80 := lc_80 _ hlc
    have hlp := lc_lp _ hlc
    generalize hq : ν 54 0 = q at *
    generalize hl : s q (-2) = l at *
    simp only [] at hb hsh hnx h80 hlp
    by_cases hf : ρ 0 24 < l
    · have w := li_an (E := E) (d := d) (q := q) (n := ρ 0 24) (l := l) hq h1 h54 hk hl (by omega) ⟨hn.1, hf⟩ (by omega) he he0
      refine sw_iv w ⟨rfl, ?_⟩
      have e0 : (mm_u (mm_u (mm_u ν 54 2 (ν 54 2 + 1)) q (ρ 0 24) e) 54 1 (ρ 0 24 + 1)) 54 0 = q := by rw [mm_u_ne (by omega), mm_u_ne (by omega), mm_u_ne (by omega)]; exact hq
      unfold ad_e
      rw [e0]
      refine ⟨⟨mm_u_at, by rw [hl]; exact hlc, hk, by omega⟩, fun t t0 t1 => ?_, ?_, fun p i g1 g2 => ?_, fun p i g1 g2 => rfl, fun p g1 g2 g3 => hu p g1 g2 (by omega), by omega, by omega, by omega⟩
      · rw [mm_u_ne (by omega), mm_u_ne (by omega), mm_u_ne (by omega)]; exact h3 t t0 t1
      · rw [mm_u_ne (by omega), mm_u_at]
      · rw [mm_u_ne (by omega), mm_u_ne (by omega), mm_u_ne (by omega)]
    · have hn8 : q ≠ 80 := fun h => by have := h80 h; omega
      have hnx2 := hnx (by omega)
      have hb2 := lc_b _ hnx2
      simp only [] at hb2
      have hle : ρ 0 24 = l := by omega
      have w := li_af (E := E) (d := d) (q := q) (a := q + 1) (l := l) h54 hq (by omega) hk hl (by omega) (by omega) (by omega) (by omega) (by omega) (hu (q + 1) (by omega) (by omega) (by rw [hlp (by omega)]; omega)) (fun i g2 g3 => by rw [h3 i g2 (by omega)]; exact ⟨by omega, hr i g2 (by omega)⟩) hsh he he0
      refine sw_iv w ⟨rfl, ?_⟩
      rw [hle]
      generalize hM : mm_u ν 54 2 (ν 54 2 + 1) = M
      have e0 : (mm_u (mm_u (mm_u (mm_cp (sw_nw M (q + 1) (fun _ => -1)) (q + 1) 0 q 0 l) 54 0 (q + 1)) (q + 1) l e) 54 1 (l + 1)) 54 0 = q + 1 := by rw [mm_u_ne (by omega), mm_u_ne (by omega), mm_u_at]
      unfold ad_e
      rw [e0, al_k (by omega), al_l (by omega), al_c0, al_c1]
      refine ⟨⟨mm_u_at, hnx2, rfl, by omega⟩, fun t t0 t1 => ?_, ?_, fun p i g1 g2 => ?_, fun p i g1 g2 => al_ne (by omega) (by omega), fun p g1 g2 g3 => ?_, by omega, by omega, by omega⟩
      · rw [mm_u_ne (by omega), mm_u_ne (by omega), mm_u_ne (by omega), mm_cp_at (by omega), nw_ne (by omega), ← hM, mm_u_ne (by omega), show 0 + (t - 0) = t by omega]; exact h3 t t0 (by omega)
      · rw [mm_u_ne (by omega), mm_u_at]
      · rw [mm_u_ne (by omega), mm_u_ne (by omega), mm_u_ne (by omega), mm_cp_ne (by omega), nw_ne (by omega), ← hM, mm_u_ne (by omega)]
      · have hp : p ≠ q + 1 := fun h => by rw [h, hlp (by omega)] at g3; omega
        rw [al_ne (by omega) (by omega)]
        exact hu p g1 g2 (by omega)
end LI2
