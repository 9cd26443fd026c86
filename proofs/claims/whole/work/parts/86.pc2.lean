/-! the class: public methods that change nothing -/
section PC2
variable {E : mv_E} {s ν ρ : mm_T} {f : Int → Int} {d : Nat} {a b c k t i u x y z r lo hi : Int} {Q : nm_O → mm_T → mm_T → Prop}
theorem pt_rwx (hx : -2147483648 ≤ x ∧ x < 2147483648) (hlo : -2147483648 ≤ lo ∧ lo < 2147483648) (hhi : -2147483648 ≤ hi ∧ hi < 2147483648) (hd : 5 ≤ d) (h : ¬ (lo ≤ x ∧ x ≤ hi)) : sw_w E d 66 (0, [some (0, x), some (0, lo), some (0, hi)], []) s ν (sw_ex 8 s ν) := by
  by_cases h1 : x < lo
  · exact pt_rw0 hx hlo hhi hd h1
  · exact pt_rw2 hx hlo hhi hd (by omega) (by omega)
theorem cl_bN1 (hI : iv_A ρ f) (hR : pt_R s ν ρ f) (hb : 0 ≤ b ∧ b < ρ 0 1) : sw_w E (d + 1) 65 (0, [some (2, 50), some (0, b)], []) s ν (sw_is (some (2, 100 + b)) s ν) := by
  have h8 := hI.1.1
  refine sw_p 3 (f' := (3, [some (2, 50), some (0, b)], [(2, 50), (0, 0), (0, b)])) rfl ?_
  refine sw_gI (pn := 6) (i := 8) rfl rfl rfl rfl rfl (by omega) hR.sh.1 ?_
  rw [show ν 50 8 = ρ 0 1 from hR.z.1]
  refine sw_p 2 (f' := (8, [some (2, 50), some (0, b)], [(0, (ρ 0 1) - 1), (0, 0), (0, b)])) rfl ?_
  refine sw_cs1 (pn := 11) (q0 := mj_PT_bridgeNumbered) (q := mj_PT_requireWithin) (L2 := [some (0, b), some (0, 0), some (0, (ρ 0 1) - 1)]) (rest := []) (v := none) (s1 := s) (ν1 := ν) rfl rfl rfl rfl rfl rfl rfl rfl (pt_rw1 (by omega) (by omega) (by omega) (by omega)) ?_
  show sw_w E _ 65 (11, [some (2, 50), some (0, b)], []) s ν _
  refine sw_p 1 (f' := (12, [some (2, 50), some (0, b)], [(2, 50)])) rfl ?_
  refine sw_hA (pn := 15) (i := 0) (v := 51) rfl rfl rfl rfl rfl hR.sh.1 hR.sh.2.1.1 (by omega) ?_
  refine sw_p 1 (f' := (16, [some (2, 50), some (0, b)], [(0, b), (2, 51)])) rfl ?_
  refine sw_aal (pn := 17) (t := 3) (l := 8) rfl rfl rfl (by decide) (by omega) hR.sh.2.1.2.1 hR.sh.2.1.2.2 (by omega) (by omega) (fun _ => ?_) (fun h => absurd h (by rw [show ν 51 b = 100 + b from (hR.bn b (by omega) (by omega)).1]; omega))
  rw [show ν 51 b = 100 + b from (hR.bn b (by omega) (by omega)).1]
  exact sw_retA rfl rfl rfl ⟨rfl, rfl, rfl⟩
theorem cl_bN0 (hI : iv_A ρ f) (hR : pt_R s ν ρ f) (hb : -2147483648 ≤ b ∧ b < 2147483648) (hd : 5 ≤ d) (h : ¬ (0 ≤ b ∧ b < ρ 0 1)) : sw_w E (d + 1) 65 (0, [some (2, 50), some (0, b)], []) s ν (sw_ex 8 s ν) := by
  have h8 := hI.1.1
  refine sw_p 3 (f' := (3, [some (2, 50), some (0, b)], [(2, 50), (0, 0), (0, b)])) rfl ?_
  refine sw_gI (pn := 6) (i := 8) rfl rfl rfl rfl rfl (by omega) hR.sh.1 ?_
  rw [show ν 50 8 = ρ 0 1 from hR.z.1]
  refine sw_p 2 (f' := (8, [some (2, 50), some (0, b)], [(0, (ρ 0 1) - 1), (0, 0), (0, b)])) rfl ?_
  exact sw_cs (pn := 11) (q0 := mj_PT_bridgeNumbered) (q := mj_PT_requireWithin) (L2 := [some (0, b), some (0, 0), some (0, (ρ 0 1) - 1)]) (rest := []) (Q2 := sw_ex 8 s ν) rfl rfl rfl rfl rfl rfl rfl rfl (pt_rwx (by omega) (by omega) (by omega) (by omega) (by omega)) (fun _ _ _ h => nomatch h.1) (fun _ _ _ h => h)
theorem cl_cN1 (hI : iv_A ρ f) (hR : pt_R s ν ρ f) (hc : 0 ≤ c ∧ c < ρ 0 12) : sw_w E (d + 1) 71 (0, [some (2, 50), some (0, c)], []) s ν (sw_is (some (2, 300 + c)) s ν) := by
  have h12 := hI.1.2.2.1
  refine sw_p 3 (f' := (3, [some (2, 50), some (0, c)], [(2, 50), (0, 0), (0, c)])) rfl ?_
  refine sw_gI (pn := 6) (i := 10) rfl rfl rfl rfl rfl (by omega) hR.sh.1 ?_
  rw [show ν 50 10 = ρ 0 12 from hR.z.2.2.1]
  refine sw_p 2 (f' := (8, [some (2, 50), some (0, c)], [(0, (ρ 0 12) - 1), (0, 0), (0, c)])) rfl ?_
  refine sw_cs1 (pn := 11) (q0 := mj_PT_cardNumbered) (q := mj_PT_requireWithin) (L2 := [some (0, c), some (0, 0), some (0, (ρ 0 12) - 1)]) (rest := []) (v := none) (s1 := s) (ν1 := ν) rfl rfl rfl rfl rfl rfl rfl rfl (pt_rw1 (by omega) (by omega) (by omega) (by omega)) ?_
  show sw_w E _ 71 (11, [some (2, 50), some (0, c)], []) s ν _
  refine sw_p 1 (f' := (12, [some (2, 50), some (0, c)], [(2, 50)])) rfl ?_
  refine sw_hA (pn := 15) (i := 2) (v := 53) rfl rfl rfl rfl rfl hR.sh.1 hR.sh.2.2.2.1.1 (by omega) ?_
  refine sw_p 1 (f' := (16, [some (2, 50), some (0, c)], [(0, c), (2, 53)])) rfl ?_
  refine sw_aal (pn := 17) (t := 5) (l := 40) rfl rfl rfl (by decide) (by omega) hR.sh.2.2.2.1.2.1 hR.sh.2.2.2.1.2.2 (by omega) (by omega) (fun _ => ?_) (fun h => absurd h (by rw [show ν 53 c = 300 + c from (hR.cn c (by omega) (by omega)).1]; omega))
  rw [show ν 53 c = 300 + c from (hR.cn c (by omega) (by omega)).1]
  exact sw_retA rfl rfl rfl ⟨rfl, rfl, rfl⟩
theorem cl_cN0 (hI : iv_A ρ f) (hR : pt_R s ν ρ f) (hc : -2147483648 ≤ c ∧ c < 2147483648) (hd : 5 ≤ d) (h : ¬ (0 ≤ c ∧ c < ρ 0 12)) : sw_w E (d + 1) 71 (0, [some (2, 50), some (0, c)], []) s ν (sw_ex 8 s ν) := by
  have h12 := hI.1.2.2.1
  refine sw_p 3 (f' := (3, [some (2, 50), some (0, c)], [(2, 50), (0, 0), (0, c)])) rfl ?_
  refine sw_gI (pn := 6) (i := 10) rfl rfl rfl rfl rfl (by omega) hR.sh.1 ?_
  rw [show ν 50 10 = ρ 0 12 from hR.z.2.2.1]
  refine sw_p 2 (f' := (8, [some (2, 50), some (0, c)], [(0, (ρ 0 12) - 1), (0, 0), (0, c)])) rfl ?_
  exact sw_cs (pn := 11) (q0 := mj_PT_cardNumbered) (q := mj_PT_requireWithin) (L2 := [some (0, c), some (0, 0), some (0, (ρ 0 12) - 1)]) (rest := []) (Q2 := sw_ex 8 s ν) rfl rfl rfl rfl rfl rfl rfl rfl (pt_rwx (by omega) (by omega) (by omega) (by omega) (by omega)) (fun _ _ _ h => nomatch h.1) (fun _ _ _ h => h)
theorem cl_rS1  (hx : 0 ≤ x ∧ x ≤ 3) : sw_w E (d + 1) 67 (0, [some (0, x)], []) s ν (sw_is (none) s ν) := by
  refine sw_p 3 (f' := (3, [some (0, x)], [(0, 3), (0, 0), (0, x)])) rfl ?_
  refine sw_cs1 (pn := 6) (q0 := mj_PT_requireSlot) (q := mj_PT_requireWithin) (L2 := [some (0, x), some (0, 0), some (0, 3)]) (rest := []) (v := none) (s1 := s) (ν1 := ν) rfl rfl rfl rfl rfl rfl rfl rfl (pt_rw1 (by omega) (by omega) (by omega) (by omega)) ?_
  show sw_w E _ 67 (6, [some (0, x)], []) s ν _
  exact sw_retV rfl rfl rfl ⟨rfl, rfl, rfl⟩
theorem cl_rS0  (hx : -2147483648 ≤ x ∧ x < 2147483648) (hd : 5 ≤ d) (h : ¬ (0 ≤ x ∧ x ≤ 3)) : sw_w E (d + 1) 67 (0, [some (0, x)], []) s ν (sw_ex 8 s ν) := by
  refine sw_p 3 (f' := (3, [some (0, x)], [(0, 3), (0, 0), (0, x)])) rfl ?_
  exact sw_cs (pn := 6) (q0 := mj_PT_requireSlot) (q := mj_PT_requireWithin) (L2 := [some (0, x), some (0, 0), some (0, 3)]) (rest := []) (Q2 := sw_ex 8 s ν) rfl rfl rfl rfl rfl rfl rfl rfl (pt_rwx (by omega) (by omega) (by omega) (by omega) (by omega)) (fun _ _ _ h => nomatch h.1) (fun _ _ _ h => h)
theorem cl_moved (hI : iv_A ρ f) (hR : pt_R s ν ρ f)  : sw_w E d 63 (0, [some (2, 50)], []) s ν (sw_is (some (0, ρ 0 23)) s ν) := by
  refine sw_p 1 (f' := (1, [some (2, 50)], [(2, 50)])) rfl ?_
  refine sw_gI (pn := 4) (i := 13) rfl rfl rfl rfl rfl (by omega) hR.sh.1 ?_
  rw [show ν 50 13 = ρ 0 23 from hR.z.2.2.2.2.2]
  exact sw_retI rfl rfl rfl ⟨rfl, rfl, rfl⟩
theorem cl_op1 (hI : iv_A ρ f) (hR : pt_R s ν ρ f) (hb : 0 ≤ b ∧ b < ρ 0 1) (hz : z = 0 ∨ z = 1) : sw_w E (d + 2) 78 (0, [some (2, 50), some (0, b), some (0, z), none], []) s ν (sw_is (some (0, if z = 0 then ρ 5 b else ρ 6 b)) s ν) := by
  have h8 := hI.1.1
  refine sw_p 2 (f' := (2, [some (2, 50), some (0, b), some (0, z), none], [(0, b), (2, 50)])) rfl ?_
  refine sw_cv1 (pn := 5) (q0 := mj_PT_opening) (q := mj_PT_bridgeNumbered) (p := 50) (as2 := [(0, b)]) (L2 := [some (2, 50), some (0, b)]) (rest := []) (v := some (2, 100 + b)) (s1 := s) (ν1 := ν) rfl rfl rfl rfl rfl rfl rfl rfl rfl hR.sh.1 (cl_bN1 hI hR (by omega)) ?_
  show sw_w E _ 78 (5, [some (2, 50), some (0, b), some (0, z), none], [(2, 100 + b)]) s ν _
  refine sw_p 2 (f' := (7, [some (2, 50), some (0, b), some (0, z), some (2, 100 + b)], [(0, z)])) rfl ?_
  refine sw_eq1 (pt := 17) (pn := 10) rfl rfl rfl (by omega) (fun m1 => ?_) (fun m1 => ?_)
  · skip
    refine sw_p 1 (f' := (18, [some (2, 50), some (0, b), some (0, z), some (2, 100 + b)], [(2, 100 + b)])) rfl ?_
    refine sw_gI (pn := 21) (i := 6) rfl rfl rfl rfl rfl (by omega) (hR.br b (by omega) (by omega)).1 ?_
    rw [show ν (100 + b) 6 = ρ 5 b from (hR.bn b (by omega) (by omega)).2.1]
    exact sw_retI rfl rfl rfl ⟨by rw [if_pos (by omega)], rfl, rfl⟩
  · skip
    refine sw_p 1 (f' := (11, [some (2, 50), some (0, b), some (0, z), some (2, 100 + b)], [(2, 100 + b)])) rfl ?_
    refine sw_gI (pn := 14) (i := 7) rfl rfl rfl rfl rfl (by omega) (hR.br b (by omega) (by omega)).1 ?_
    rw [show ν (100 + b) 7 = ρ 6 b from (hR.bn b (by omega) (by omega)).2.2]
    refine sw_p 1 (f' := (21, [some (2, 50), some (0, b), some (0, z), some (2, 100 + b)], [(0, ρ 6 b)])) rfl ?_
    exact sw_retI rfl rfl rfl ⟨by rw [if_neg (by omega)], rfl, rfl⟩
theorem cl_op0 (hI : iv_A ρ f) (hR : pt_R s ν ρ f) (hb : -2147483648 ≤ b ∧ b < 2147483648) (hd : 5 ≤ d) (h : ¬ (0 ≤ b ∧ b < ρ 0 1)) : sw_w E (d + 2) 78 (0, [some (2, 50), some (0, b), some (0, z), none], []) s ν (sw_ex 8 s ν) := by
  have h8 := hI.1.1
  refine sw_p 2 (f' := (2, [some (2, 50), some (0, b), some (0, z), none], [(0, b), (2, 50)])) rfl ?_
  exact sw_cv (pn := 5) (q0 := mj_PT_opening) (q := mj_PT_bridgeNumbered) (p := 50) (as2 := [(0, b)]) (L2 := [some (2, 50), some (0, b)]) (rest := []) (Q2 := sw_ex 8 s ν) rfl rfl rfl rfl rfl rfl rfl rfl rfl hR.sh.1 (cl_bN0 hI hR (by omega) (by omega) (by omega)) (fun _ _ _ h => nomatch h.1) (fun _ _ _ h => h)
theorem cl_po1 (hI : iv_A ρ f) (hR : pt_R s ν ρ f) (hb : 0 ≤ b ∧ b < ρ 0 1) : sw_w E (d + 2) 79 (0, [some (2, 50), some (0, b)], []) s ν (sw_is (some (0, mo_pw ρ b)) s ν) := by
  have h8 := hI.1.1
  refine sw_p 3 (f' := (3, [some (2, 50), some (0, b)], [(0, b), (2, 50), (2, 50)])) rfl ?_
  refine sw_cv1 (pn := 6) (q0 := mj_PT_power) (q := mj_PT_bridgeNumbered) (p := 50) (as2 := [(0, b)]) (L2 := [some (2, 50), some (0, b)]) (rest := [(2, 50)]) (v := some (2, 100 + b)) (s1 := s) (ν1 := ν) rfl rfl rfl rfl rfl rfl rfl rfl rfl hR.sh.1 (cl_bN1 hI hR (by omega)) ?_
  show sw_w E _ 79 (6, [some (2, 50), some (0, b)], [(2, 100 + b), (2, 50)]) s ν _
  refine sw_cv1 (pn := 9) (q0 := mj_PT_power) (q := mj_PT_powerUsed) (p := 50) (as2 := [(2, 100 + b)]) (L2 := [some (2, 50), some (2, 100 + b), none, none]) (rest := []) (v := some (0, mo_pw ρ b)) (s1 := s) (ν1 := ν) rfl rfl rfl rfl rfl rfl rfl rfl rfl hR.sh.1 (cl_pw hI hR (by omega)) ?_
  show sw_w E _ 79 (9, [some (2, 50), some (0, b)], [(0, mo_pw ρ b)]) s ν _
  exact sw_retI rfl rfl rfl ⟨rfl, rfl, rfl⟩
theorem cl_po0 (hI : iv_A ρ f) (hR : pt_R s ν ρ f) (hb : -2147483648 ≤ b ∧ b < 2147483648) (hd : 5 ≤ d) (h : ¬ (0 ≤ b ∧ b < ρ 0 1)) : sw_w E (d + 2) 79 (0, [some (2, 50), some (0, b)], []) s ν (sw_ex 8 s ν) := by
  have h8 := hI.1.1
  refine sw_p 3 (f' := (3, [some (2, 50), some (0, b)], [(0, b), (2, 50), (2, 50)])) rfl ?_
  exact sw_cv (pn := 6) (q0 := mj_PT_power) (q := mj_PT_bridgeNumbered) (p := 50) (as2 := [(0, b)]) (L2 := [some (2, 50), some (0, b)]) (rest := [(2, 50)]) (Q2 := sw_ex 8 s ν) rfl rfl rfl rfl rfl rfl rfl rfl rfl hR.sh.1 (cl_bN0 hI hR (by omega) (by omega) (by omega)) (fun _ _ _ h => nomatch h.1) (fun _ _ _ h => h)
theorem cl_sl1 (hI : iv_A ρ f) (hR : pt_R s ν ρ f) (hb : 0 ≤ b ∧ b < ρ 0 1) (hi : 0 ≤ i ∧ i ≤ 3) : sw_w E (d + 2) 80 (0, [some (2, 50), some (0, b), some (0, i), none], []) s ν (sw_is (some (0, ρ 2 (4 * b + i))) s ν) := by
  have h8 := hI.1.1
  have h12 := hI.1.2.2.1
  have hsl := hI.1.2.2.2.2.2.2.2.1 (4 * b + i) (by omega) (by omega)
  have htr := hI.2.2.1.2.2 (4 * b + i) (by omega) (by omega)
  have hK := hI.2.2.2.2.2.2 (4 * b + i) (by omega) (by omega)
  by_cases h1 : 100 ≤ ρ 2 (4 * b + i)
  · obtain ⟨c, hc⟩ : ∃ c, ρ 2 (4 * b + i) = c + 100 := ⟨ρ 2 (4 * b + i) - 100, by omega⟩
    have hK := hK h1
    refine sw_p 2 (f' := (2, [some (2, 50), some (0, b), some (0, i), none], [(0, b), (2, 50)])) rfl ?_
    refine sw_cv1 (pn := 5) (q0 := mj_PT_slot) (q := mj_PT_bridgeNumbered) (p := 50) (as2 := [(0, b)]) (L2 := [some (2, 50), some (0, b)]) (rest := []) (v := some (2, 100 + b)) (s1 := s) (ν1 := ν) rfl rfl rfl rfl rfl rfl rfl rfl rfl hR.sh.1 (cl_bN1 hI hR (by omega)) ?_
    show sw_w E _ 80 (5, [some (2, 50), some (0, b), some (0, i), none], [(2, 100 + b)]) s ν _
    refine sw_p 2 (f' := (7, [some (2, 50), some (0, b), some (0, i), some (2, 100 + b)], [(0, i)])) rfl ?_
    refine sw_cs1 (pn := 10) (q0 := mj_PT_slot) (q := mj_PT_requireSlot) (L2 := [some (0, i)]) (rest := []) (v := none) (s1 := s) (ν1 := ν) rfl rfl rfl rfl rfl rfl rfl rfl (cl_rS1 (by omega)) ?_
    show sw_w E _ 80 (10, [some (2, 50), some (0, b), some (0, i), some (2, 100 + b)], []) s ν _
    refine sw_p 1 (f' := (11, [some (2, 50), some (0, b), some (0, i), some (2, 100 + b)], [(2, 100 + b)])) rfl ?_
    refine sw_hA (pn := 14) (i := 4) (v := 110 + b) rfl rfl rfl rfl rfl (hR.br b (by omega) (by omega)).1 (hR.br b (by omega) (by omega)).2.2.2.2.2.1.1 (by omega) ?_
    refine sw_p 1 (f' := (15, [some (2, 50), some (0, b), some (0, i), some (2, 100 + b)], [(0, i), (2, 110 + b)])) rfl ?_
    refine sw_aal (pn := 16) (t := 3) (l := 4) rfl rfl rfl (by decide) (by omega) (hR.br b (by omega) (by omega)).2.2.2.2.2.1.2.1 (hR.br b (by omega) (by omega)).2.2.2.2.2.1.2.2 (by omega) (by omega) (fun h => absurd h (by rw [show ν (110 + b) i = -1 from ((hR.sl b i (by omega) (by omega) (by omega) (by omega)).1).trans (if_neg (by omega))]; omega)) (fun _ => ?_)
    refine sw_p 2 (f' := (30, [some (2, 50), some (0, b), some (0, i), some (2, 100 + b)], [(2, 100 + b)])) rfl ?_
    refine sw_hA (pn := 33) (i := 5) (v := 120 + b) rfl rfl rfl rfl rfl (hR.br b (by omega) (by omega)).1 (hR.br b (by omega) (by omega)).2.2.2.2.2.2.1 (by omega) ?_
    refine sw_p 1 (f' := (34, [some (2, 50), some (0, b), some (0, i), some (2, 100 + b)], [(0, i), (2, 120 + b)])) rfl ?_
    refine sw_aal (pn := 35) (t := 5) (l := 4) rfl rfl rfl (by decide) (by omega) (hR.br b (by omega) (by omega)).2.2.2.2.2.2.2.1 (hR.br b (by omega) (by omega)).2.2.2.2.2.2.2.2 (by omega) (by omega) (fun _ => ?_) (fun h => absurd h (by rw [show ν (120 + b) i = 300 + c from (((hR.sl b i (by omega) (by omega) (by omega) (by omega)).2).trans (if_pos (by omega))).trans (by omega)]; omega))
    rw [show ν (120 + b) i = 300 + c from (((hR.sl b i (by omega) (by omega) (by omega) (by omega)).2).trans (if_pos (by omega))).trans (by omega)]
    refine sw_p 3 (f' := (41, [some (2, 50), some (0, b), some (0, i), some (2, 100 + b)], [(2, 100 + b), (0, 100)])) rfl ?_
    refine sw_hA (pn := 44) (i := 5) (v := 120 + b) rfl rfl rfl rfl rfl (hR.br b (by omega) (by omega)).1 (hR.br b (by omega) (by omega)).2.2.2.2.2.2.1 (by omega) ?_
    refine sw_p 1 (f' := (45, [some (2, 50), some (0, b), some (0, i), some (2, 100 + b)], [(0, i), (2, 120 + b), (0, 100)])) rfl ?_
    refine sw_aal (pn := 46) (t := 5) (l := 4) rfl rfl rfl (by decide) (by omega) (hR.br b (by omega) (by omega)).2.2.2.2.2.2.2.1 (hR.br b (by omega) (by omega)).2.2.2.2.2.2.2.2 (by omega) (by omega) (fun _ => ?_) (fun h => absurd h (by rw [show ν (120 + b) i = 300 + c from (((hR.sl b i (by omega) (by omega) (by omega) (by omega)).2).trans (if_pos (by omega))).trans (by omega)]; omega))
    rw [show ν (120 + b) i = 300 + c from (((hR.sl b i (by omega) (by omega) (by omega) (by omega)).2).trans (if_pos (by omega))).trans (by omega)]
    refine sw_gI (pn := 49) (i := 5) rfl rfl rfl rfl rfl (by omega) (hR.ca c (by omega) (by omega)).1 ?_
    rw [show ν (300 + c) 5 = c from (hR.cn c (by omega) (by omega)).2.1]
    refine sw_p 2 (f' := (54, [some (2, 50), some (0, b), some (0, i), some (2, 100 + b)], [(0, 100 + c)])) rfl ?_
    exact sw_retI rfl rfl rfl ⟨by rw [hc, Int.add_comm], rfl, rfl⟩
  · by_cases h2 : 0 ≤ ρ 2 (4 * b + i)
    · skip
      refine sw_p 2 (f' := (2, [some (2, 50), some (0, b), some (0, i), none], [(0, b), (2, 50)])) rfl ?_
      refine sw_cv1 (pn := 5) (q0 := mj_PT_slot) (q := mj_PT_bridgeNumbered) (p := 50) (as2 := [(0, b)]) (L2 := [some (2, 50), some (0, b)]) (rest := []) (v := some (2, 100 + b)) (s1 := s) (ν1 := ν) rfl rfl rfl rfl rfl rfl rfl rfl rfl hR.sh.1 (cl_bN1 hI hR (by omega)) ?_
      show sw_w E _ 80 (5, [some (2, 50), some (0, b), some (0, i), none], [(2, 100 + b)]) s ν _
      refine sw_p 2 (f' := (7, [some (2, 50), some (0, b), some (0, i), some (2, 100 + b)], [(0, i)])) rfl ?_
      refine sw_cs1 (pn := 10) (q0 := mj_PT_slot) (q := mj_PT_requireSlot) (L2 := [some (0, i)]) (rest := []) (v := none) (s1 := s) (ν1 := ν) rfl rfl rfl rfl rfl rfl rfl rfl (cl_rS1 (by omega)) ?_
      show sw_w E _ 80 (10, [some (2, 50), some (0, b), some (0, i), some (2, 100 + b)], []) s ν _
      refine sw_p 1 (f' := (11, [some (2, 50), some (0, b), some (0, i), some (2, 100 + b)], [(2, 100 + b)])) rfl ?_
      refine sw_hA (pn := 14) (i := 4) (v := 110 + b) rfl rfl rfl rfl rfl (hR.br b (by omega) (by omega)).1 (hR.br b (by omega) (by omega)).2.2.2.2.2.1.1 (by omega) ?_
      refine sw_p 1 (f' := (15, [some (2, 50), some (0, b), some (0, i), some (2, 100 + b)], [(0, i), (2, 110 + b)])) rfl ?_
      refine sw_aal (pn := 16) (t := 3) (l := 4) rfl rfl rfl (by decide) (by omega) (hR.br b (by omega) (by omega)).2.2.2.2.2.1.2.1 (hR.br b (by omega) (by omega)).2.2.2.2.2.1.2.2 (by omega) (by omega) (fun _ => ?_) (fun h => absurd h (by rw [show ν (110 + b) i = 100 + ρ 2 (4 * b + i) from ((hR.sl b i (by omega) (by omega) (by omega) (by omega)).1).trans (if_pos (by omega))]; omega))
      rw [show ν (110 + b) i = 100 + ρ 2 (4 * b + i) from ((hR.sl b i (by omega) (by omega) (by omega) (by omega)).1).trans (if_pos (by omega))]
      refine sw_p 2 (f' := (20, [some (2, 50), some (0, b), some (0, i), some (2, 100 + b)], [(2, 100 + b)])) rfl ?_
      refine sw_hA (pn := 23) (i := 4) (v := 110 + b) rfl rfl rfl rfl rfl (hR.br b (by omega) (by omega)).1 (hR.br b (by omega) (by omega)).2.2.2.2.2.1.1 (by omega) ?_
      refine sw_p 1 (f' := (24, [some (2, 50), some (0, b), some (0, i), some (2, 100 + b)], [(0, i), (2, 110 + b)])) rfl ?_
      refine sw_aal (pn := 25) (t := 3) (l := 4) rfl rfl rfl (by decide) (by omega) (hR.br b (by omega) (by omega)).2.2.2.2.2.1.2.1 (hR.br b (by omega) (by omega)).2.2.2.2.2.1.2.2 (by omega) (by omega) (fun _ => ?_) (fun h => absurd h (by rw [show ν (110 + b) i = 100 + ρ 2 (4 * b + i) from ((hR.sl b i (by omega) (by omega) (by omega) (by omega)).1).trans (if_pos (by omega))]; omega))
      rw [show ν (110 + b) i = 100 + ρ 2 (4 * b + i) from ((hR.sl b i (by omega) (by omega) (by omega) (by omega)).1).trans (if_pos (by omega))]
      refine sw_hI (pn := 28) (i := 0) (v := ρ 2 (4 * b + i)) rfl rfl rfl rfl rfl (hR.br (ρ 2 (4 * b + i)) (by omega) (by omega)).1 (hR.br (ρ 2 (4 * b + i)) (by omega) (by omega)).2.1 ?_
      exact sw_retI rfl rfl rfl ⟨rfl, rfl, rfl⟩
    · rw [show ρ 2 (4 * b + i) = -1 by omega]
      refine sw_p 2 (f' := (2, [some (2, 50), some (0, b), some (0, i), none], [(0, b), (2, 50)])) rfl ?_
      refine sw_cv1 (pn := 5) (q0 := mj_PT_slot) (q := mj_PT_bridgeNumbered) (p := 50) (as2 := [(0, b)]) (L2 := [some (2, 50), some (0, b)]) (rest := []) (v := some (2, 100 + b)) (s1 := s) (ν1 := ν) rfl rfl rfl rfl rfl rfl rfl rfl rfl hR.sh.1 (cl_bN1 hI hR (by omega)) ?_
      show sw_w E _ 80 (5, [some (2, 50), some (0, b), some (0, i), none], [(2, 100 + b)]) s ν _
      refine sw_p 2 (f' := (7, [some (2, 50), some (0, b), some (0, i), some (2, 100 + b)], [(0, i)])) rfl ?_
      refine sw_cs1 (pn := 10) (q0 := mj_PT_slot) (q := mj_PT_requireSlot) (L2 := [some (0, i)]) (rest := []) (v := none) (s1 := s) (ν1 := ν) rfl rfl rfl rfl rfl rfl rfl rfl (cl_rS1 (by omega)) ?_
      show sw_w E _ 80 (10, [some (2, 50), some (0, b), some (0, i), some (2, 100 + b)], []) s ν _
      refine sw_p 1 (f' := (11, [some (2, 50), some (0, b), some (0, i), some (2, 100 + b)], [(2, 100 + b)])) rfl ?_
      refine sw_hA (pn := 14) (i := 4) (v := 110 + b) rfl rfl rfl rfl rfl (hR.br b (by omega) (by omega)).1 (hR.br b (by omega) (by omega)).2.2.2.2.2.1.1 (by omega) ?_
      refine sw_p 1 (f' := (15, [some (2, 50), some (0, b), some (0, i), some (2, 100 + b)], [(0, i), (2, 110 + b)])) rfl ?_
      refine sw_aal (pn := 16) (t := 3) (l := 4) rfl rfl rfl (by decide) (by omega) (hR.br b (by omega) (by omega)).2.2.2.2.2.1.2.1 (hR.br b (by omega) (by omega)).2.2.2.2.2.1.2.2 (by omega) (by omega) (fun h => absurd h (by rw [show ν (110 + b) i = -1 from ((hR.sl b i (by omega) (by omega) (by omega) (by omega)).1).trans (if_neg (by omega))]; omega)) (fun _ => ?_)
      refine sw_p 2 (f' := (30, [some (2, 50), some (0, b), some (0, i), some (2, 100 + b)], [(2, 100 + b)])) rfl ?_
      refine sw_hA (pn := 33) (i := 5) (v := 120 + b) rfl rfl rfl rfl rfl (hR.br b (by omega) (by omega)).1 (hR.br b (by omega) (by omega)).2.2.2.2.2.2.1 (by omega) ?_
      refine sw_p 1 (f' := (34, [some (2, 50), some (0, b), some (0, i), some (2, 100 + b)], [(0, i), (2, 120 + b)])) rfl ?_
      refine sw_aal (pn := 35) (t := 5) (l := 4) rfl rfl rfl (by decide) (by omega) (hR.br b (by omega) (by omega)).2.2.2.2.2.2.2.1 (hR.br b (by omega) (by omega)).2.2.2.2.2.2.2.2 (by omega) (by omega) (fun h => absurd h (by rw [show ν (120 + b) i = -1 from ((hR.sl b i (by omega) (by omega) (by omega) (by omega)).2).trans (if_neg (by omega))]; omega)) (fun _ => ?_)
      refine sw_p 2 (f' := (54, [some (2, 50), some (0, b), some (0, i), some (2, 100 + b)], [(0, -1)])) rfl ?_
      exact sw_retI rfl rfl rfl ⟨rfl, rfl, rfl⟩
theorem cl_sl0 (hI : iv_A ρ f) (hR : pt_R s ν ρ f) (hb : -2147483648 ≤ b ∧ b < 2147483648) (hd : 5 ≤ d) (h : ¬ (0 ≤ b ∧ b < ρ 0 1)) : sw_w E (d + 2) 80 (0, [some (2, 50), some (0, b), some (0, i), none], []) s ν (sw_ex 8 s ν) := by
  have h8 := hI.1.1
  refine sw_p 2 (f' := (2, [some (2, 50), some (0, b), some (0, i), none], [(0, b), (2, 50)])) rfl ?_
  exact sw_cv (pn := 5) (q0 := mj_PT_slot) (q := mj_PT_bridgeNumbered) (p := 50) (as2 := [(0, b)]) (L2 := [some (2, 50), some (0, b)]) (rest := []) (Q2 := sw_ex 8 s ν) rfl rfl rfl rfl rfl rfl rfl rfl rfl hR.sh.1 (cl_bN0 hI hR (by omega) (by omega) (by omega)) (fun _ _ _ h => nomatch h.1) (fun _ _ _ h => h)
theorem cl_sl2 (hI : iv_A ρ f) (hR : pt_R s ν ρ f) (hi : -2147483648 ≤ i ∧ i < 2147483648) (hd : 5 ≤ d) (hb : 0 ≤ b ∧ b < ρ 0 1) (h : ¬ (0 ≤ i ∧ i ≤ 3)) : sw_w E (d + 2) 80 (0, [some (2, 50), some (0, b), some (0, i), none], []) s ν (sw_ex 8 s ν) := by
  have h8 := hI.1.1
  refine sw_p 2 (f' := (2, [some (2, 50), some (0, b), some (0, i), none], [(0, b), (2, 50)])) rfl ?_
  refine sw_cv1 (pn := 5) (q0 := mj_PT_slot) (q := mj_PT_bridgeNumbered) (p := 50) (as2 := [(0, b)]) (L2 := [some (2, 50), some (0, b)]) (rest := []) (v := some (2, 100 + b)) (s1 := s) (ν1 := ν) rfl rfl rfl rfl rfl rfl rfl rfl rfl hR.sh.1 (cl_bN1 hI hR (by omega)) ?_
  show sw_w E _ 80 (5, [some (2, 50), some (0, b), some (0, i), none], [(2, 100 + b)]) s ν _
  refine sw_p 2 (f' := (7, [some (2, 50), some (0, b), some (0, i), some (2, 100 + b)], [(0, i)])) rfl ?_
  exact sw_cs (pn := 10) (q0 := mj_PT_slot) (q := mj_PT_requireSlot) (L2 := [some (0, i)]) (rest := []) (Q2 := sw_ex 8 s ν) rfl rfl rfl rfl rfl rfl rfl rfl (cl_rS0 (by omega) (by omega) (by omega)) (fun _ _ _ h => nomatch h.1) (fun _ _ _ h => h)
theorem cl_ca0 (hI : iv_A ρ f) (hR : pt_R s ν ρ f) (hc : 0 ≤ c ∧ c < ρ 0 12) (hk : k = 0) : sw_w E (d + 2) 76 (0, [some (2, 50), some (0, c), some (0, k), none], []) s ν (sw_is (some (0, ρ 15 c)) s ν) := by
  have h12 := hI.1.2.2.1
  refine sw_p 2 (f' := (2, [some (2, 50), some (0, c), some (0, k), none], [(0, c), (2, 50)])) rfl ?_
  refine sw_cv1 (pn := 5) (q0 := mj_PT_card) (q := mj_PT_cardNumbered) (p := 50) (as2 := [(0, c)]) (L2 := [some (2, 50), some (0, c)]) (rest := []) (v := some (2, 300 + c)) (s1 := s) (ν1 := ν) rfl rfl rfl rfl rfl rfl rfl rfl rfl hR.sh.1 (cl_cN1 hI hR (by omega)) ?_
  show sw_w E _ 76 (5, [some (2, 50), some (0, c), some (0, k), none], [(2, 300 + c)]) s ν _
  refine sw_p 2 (f' := (7, [some (2, 50), some (0, c), some (0, k), some (2, 300 + c)], [(0, k)])) rfl ?_
  refine sw_tsw rfl (by omega) ?_
  rw [show (mv_sw k 56 0 3 (#[36, 41, 46, 51] : Array Int).toList).toNat = 36 by unfold mv_sw; rw [if_neg (by omega), show (k - 0).toNat = 0 by omega]; rfl]
  refine sw_p 1 (f' := (37, [some (2, 50), some (0, c), some (0, k), some (2, 300 + c)], [(2, 300 + c)])) rfl ?_
  refine sw_gI (pn := 40) (i := 6) rfl rfl rfl rfl rfl (by omega) (hR.ca c (by omega) (by omega)).1 ?_
  rw [show ν (300 + c) 6 = ρ 15 c from (hR.cn c (by omega) (by omega)).2.2.1]
  exact sw_retI rfl rfl rfl ⟨rfl, rfl, rfl⟩
theorem cl_ca1 (hI : iv_A ρ f) (hR : pt_R s ν ρ f) (hc : 0 ≤ c ∧ c < ρ 0 12) (hk : k = 1) : sw_w E (d + 2) 76 (0, [some (2, 50), some (0, c), some (0, k), none], []) s ν (sw_is (some (0, ρ 16 c)) s ν) := by
  have h12 := hI.1.2.2.1
  refine sw_p 2 (f' := (2, [some (2, 50), some (0, c), some (0, k), none], [(0, c), (2, 50)])) rfl ?_
  refine sw_cv1 (pn := 5) (q0 := mj_PT_card) (q := mj_PT_cardNumbered) (p := 50) (as2 := [(0, c)]) (L2 := [some (2, 50), some (0, c)]) (rest := []) (v := some (2, 300 + c)) (s1 := s) (ν1 := ν) rfl rfl rfl rfl rfl rfl rfl rfl rfl hR.sh.1 (cl_cN1 hI hR (by omega)) ?_
  show sw_w E _ 76 (5, [some (2, 50), some (0, c), some (0, k), none], [(2, 300 + c)]) s ν _
  refine sw_p 2 (f' := (7, [some (2, 50), some (0, c), some (0, k), some (2, 300 + c)], [(0, k)])) rfl ?_
  refine sw_tsw rfl (by omega) ?_
  rw [show (mv_sw k 56 0 3 (#[36, 41, 46, 51] : Array Int).toList).toNat = 41 by unfold mv_sw; rw [if_neg (by omega), show (k - 0).toNat = 1 by omega]; rfl]
  refine sw_p 1 (f' := (42, [some (2, 50), some (0, c), some (0, k), some (2, 300 + c)], [(2, 300 + c)])) rfl ?_
  refine sw_gI (pn := 45) (i := 7) rfl rfl rfl rfl rfl (by omega) (hR.ca c (by omega) (by omega)).1 ?_
  rw [show ν (300 + c) 7 = ρ 16 c from (hR.cn c (by omega) (by omega)).2.2.2.1]
  exact sw_retI rfl rfl rfl ⟨rfl, rfl, rfl⟩
theorem cl_ca2 (hI : iv_A ρ f) (hR : pt_R s ν ρ f) (hc : 0 ≤ c ∧ c < ρ 0 12) (hk : k = 2) : sw_w E (d + 2) 76 (0, [some (2, 50), some (0, c), some (0, k), none], []) s ν (sw_is (some (0, mo_wt ρ c)) s ν) := by
  have h12 := hI.1.2.2.1
  refine sw_p 2 (f' := (2, [some (2, 50), some (0, c), some (0, k), none], [(0, c), (2, 50)])) rfl ?_
  refine sw_cv1 (pn := 5) (q0 := mj_PT_card) (q := mj_PT_cardNumbered) (p := 50) (as2 := [(0, c)]) (L2 := [some (2, 50), some (0, c)]) (rest := []) (v := some (2, 300 + c)) (s1 := s) (ν1 := ν) rfl rfl rfl rfl rfl rfl rfl rfl rfl hR.sh.1 (cl_cN1 hI hR (by omega)) ?_
  show sw_w E _ 76 (5, [some (2, 50), some (0, c), some (0, k), none], [(2, 300 + c)]) s ν _
  refine sw_p 2 (f' := (7, [some (2, 50), some (0, c), some (0, k), some (2, 300 + c)], [(0, k)])) rfl ?_
  refine sw_tsw rfl (by omega) ?_
  rw [show (mv_sw k 56 0 3 (#[36, 41, 46, 51] : Array Int).toList).toNat = 46 by unfold mv_sw; rw [if_neg (by omega), show (k - 0).toNat = 2 by omega]; rfl]
  refine sw_p 1 (f' := (47, [some (2, 50), some (0, c), some (0, k), some (2, 300 + c)], [(2, 300 + c)])) rfl ?_
  refine sw_gI (pn := 50) (i := 8) rfl rfl rfl rfl rfl (by omega) (hR.ca c (by omega) (by omega)).1 ?_
  rw [show ν (300 + c) 8 = mo_wt ρ c from (hR.cn c (by omega) (by omega)).2.2.2.2.1]
  exact sw_retI rfl rfl rfl ⟨rfl, rfl, rfl⟩
theorem cl_ca3 (hI : iv_A ρ f) (hR : pt_R s ν ρ f) (hc : 0 ≤ c ∧ c < ρ 0 12) (hk : k = 3) : sw_w E (d + 2) 76 (0, [some (2, 50), some (0, c), some (0, k), none], []) s ν (sw_is (some (0, ρ 19 c)) s ν) := by
  have h12 := hI.1.2.2.1
  refine sw_p 2 (f' := (2, [some (2, 50), some (0, c), some (0, k), none], [(0, c), (2, 50)])) rfl ?_
  refine sw_cv1 (pn := 5) (q0 := mj_PT_card) (q := mj_PT_cardNumbered) (p := 50) (as2 := [(0, c)]) (L2 := [some (2, 50), some (0, c)]) (rest := []) (v := some (2, 300 + c)) (s1 := s) (ν1 := ν) rfl rfl rfl rfl rfl rfl rfl rfl rfl hR.sh.1 (cl_cN1 hI hR (by omega)) ?_
  show sw_w E _ 76 (5, [some (2, 50), some (0, c), some (0, k), none], [(2, 300 + c)]) s ν _
  refine sw_p 2 (f' := (7, [some (2, 50), some (0, c), some (0, k), some (2, 300 + c)], [(0, k)])) rfl ?_
  refine sw_tsw rfl (by omega) ?_
  rw [show (mv_sw k 56 0 3 (#[36, 41, 46, 51] : Array Int).toList).toNat = 51 by unfold mv_sw; rw [if_neg (by omega), show (k - 0).toNat = 3 by omega]; rfl]
  refine sw_p 1 (f' := (52, [some (2, 50), some (0, c), some (0, k), some (2, 300 + c)], [(2, 300 + c)])) rfl ?_
  refine sw_gI (pn := 55) (i := 9) rfl rfl rfl rfl rfl (by omega) (hR.ca c (by omega) (by omega)).1 ?_
  rw [show ν (300 + c) 9 = ρ 19 c from (hR.cn c (by omega) (by omega)).2.2.2.2.2.1]
  exact sw_retI rfl rfl rfl ⟨rfl, rfl, rfl⟩
theorem cl_caX (hI : iv_A ρ f) (hR : pt_R s ν ρ f) (hc : -2147483648 ≤ c ∧ c < 2147483648) (hd : 5 ≤ d) (h : ¬ (0 ≤ c ∧ c < ρ 0 12)) : sw_w E (d + 2) 76 (0, [some (2, 50), some (0, c), some (0, k), none], []) s ν (sw_ex 8 s ν) := by
  have h12 := hI.1.2.2.1
  refine sw_p 2 (f' := (2, [some (2, 50), some (0, c), some (0, k), none], [(0, c), (2, 50)])) rfl ?_
  exact sw_cv (pn := 5) (q0 := mj_PT_card) (q := mj_PT_cardNumbered) (p := 50) (as2 := [(0, c)]) (L2 := [some (2, 50), some (0, c)]) (rest := []) (Q2 := sw_ex 8 s ν) rfl rfl rfl rfl rfl rfl rfl rfl rfl hR.sh.1 (cl_cN0 hI hR (by omega) (by omega) (by omega)) (fun _ _ _ h => nomatch h.1) (fun _ _ _ h => h)
theorem cl_caY (hI : iv_A ρ f) (hR : pt_R s ν ρ f) (hk : -2147483648 ≤ k ∧ k < 2147483648) (hd : 5 ≤ d) (hc : 0 ≤ c ∧ c < ρ 0 12) (h : ¬ (0 ≤ k ∧ k ≤ 3)) : sw_w E (d + 2) 76 (0, [some (2, 50), some (0, c), some (0, k), none], []) s ν (sw_ex 8 s ν) := by
  have h12 := hI.1.2.2.1
  refine sw_p 2 (f' := (2, [some (2, 50), some (0, c), some (0, k), none], [(0, c), (2, 50)])) rfl ?_
  refine sw_cv1 (pn := 5) (q0 := mj_PT_card) (q := mj_PT_cardNumbered) (p := 50) (as2 := [(0, c)]) (L2 := [some (2, 50), some (0, c)]) (rest := []) (v := some (2, 300 + c)) (s1 := s) (ν1 := ν) rfl rfl rfl rfl rfl rfl rfl rfl rfl hR.sh.1 (cl_cN1 hI hR (by omega)) ?_
  show sw_w E _ 76 (5, [some (2, 50), some (0, c), some (0, k), none], [(2, 300 + c)]) s ν _
  refine sw_p 2 (f' := (7, [some (2, 50), some (0, c), some (0, k), some (2, 300 + c)], [(0, k)])) rfl ?_
  refine sw_tsw rfl (by omega) ?_
  rw [show (mv_sw k 56 0 3 (#[36, 41, 46, 51] : Array Int).toList).toNat = 56 by unfold mv_sw; rw [if_pos (by omega)]; rfl]
  exact sw_thr rfl rfl rfl rfl rfl (by omega) ⟨rfl, rfl, rfl⟩
theorem cl_rg1 (hI : iv_A ρ f) (hR : pt_R s ν ρ f) (hc : 0 ≤ c ∧ c < ρ 0 12) (hk : 0 ≤ k ∧ k < 3) (h : 1 ≤ ρ 15 c ∧ ρ 15 c ≤ 3) (hz : 0 < ρ 9 (3 * ρ 13 c + k)) : sw_w E (d + 2) 77 (0, [some (2, 50), some (0, c), some (0, k), none], []) s ν (sw_is (some (0, ρ 17 (3 * c + k))) s ν) := by
  have h12 := hI.1.2.2.1
  have hcd := hI.1.cd c hc.1 (by omega)
  have hK := hI.2.2.2.2.2.1 c hc.1 hc.2
  have hsz := hI.1.2.2.2.2.2.2.2.2.2.2.2.1 (3 * ρ 13 c + k) (by omega) (by omega)
  refine sw_p 2 (f' := (2, [some (2, 50), some (0, c), some (0, k), none], [(0, c), (2, 50)])) rfl ?_
  refine sw_cv1 (pn := 5) (q0 := mj_PT_range) (q := mj_PT_cardNumbered) (p := 50) (as2 := [(0, c)]) (L2 := [some (2, 50), some (0, c)]) (rest := []) (v := some (2, 300 + c)) (s1 := s) (ν1 := ν) rfl rfl rfl rfl rfl rfl rfl rfl rfl hR.sh.1 (cl_cN1 hI hR (by omega)) ?_
  show sw_w E _ 77 (5, [some (2, 50), some (0, c), some (0, k), none], [(2, 300 + c)]) s ν _
  refine sw_p 4 (f' := (9, [some (2, 50), some (0, c), some (0, k), some (2, 300 + c)], [(0, 2), (0, 0), (0, k)])) rfl ?_
  refine sw_cs1 (pn := 12) (q0 := mj_PT_range) (q := mj_PT_requireWithin) (L2 := [some (0, k), some (0, 0), some (0, 2)]) (rest := []) (v := none) (s1 := s) (ν1 := ν) rfl rfl rfl rfl rfl rfl rfl rfl (pt_rw1 (by omega) (by omega) (by omega) (by omega)) ?_
  show sw_w E _ 77 (12, [some (2, 50), some (0, c), some (0, k), some (2, 300 + c)], []) s ν _
  refine sw_p 1 (f' := (13, [some (2, 50), some (0, c), some (0, k), some (2, 300 + c)], [(2, 300 + c)])) rfl ?_
  refine sw_cv1 (pn := 16) (q0 := mj_PT_range) (q := mj_Ca_isThere) (p := 300 + c) (as2 := []) (L2 := [some (2, 300 + c)]) (rest := []) (v := some (0, 1)) (s1 := s) (ν1 := ν) rfl rfl rfl rfl rfl rfl rfl rfl rfl (hR.ca c (by omega) (by omega)).1 (cl_th1 hI hR (by omega) (by omega)) ?_
  show sw_w E _ 77 (16, [some (2, 50), some (0, c), some (0, k), some (2, 300 + c)], [(0, 1)]) s ν _
  refine sw_eq1 (pt := 40) (pn := 19) rfl rfl rfl (by omega) (fun h => absurd h (by decide)) (fun _ => ?_)
  refine sw_p 1 (f' := (20, [some (2, 50), some (0, c), some (0, k), some (2, 300 + c)], [(2, 300 + c)])) rfl ?_
  refine sw_hA (pn := 23) (i := 2) (v := 200 + ρ 13 c) rfl rfl rfl rfl rfl (hR.ca c (by omega) (by omega)).1 (hR.ca c (by omega) (by omega)).2.2.2.1 (by omega) ?_
  refine sw_hA (pn := 26) (i := 0) (v := 220 + (ρ 13 c)) rfl rfl rfl rfl rfl (hR.ty (ρ 13 c) (by omega) (by omega)).1 (hR.ty (ρ 13 c) (by omega) (by omega)).2.1.1 (by omega) ?_
  refine sw_p 1 (f' := (27, [some (2, 50), some (0, c), some (0, k), some (2, 300 + c)], [(0, k), (2, 220 + (ρ 13 c))])) rfl ?_
  refine sw_ial (pn := 28) (l := 3) rfl rfl (by omega) (hR.ty ((ρ 13 c)) (by omega) (by omega)).2.1.2.1 (hR.ty ((ρ 13 c)) (by omega) (by omega)).2.1.2.2 (by omega) (by omega) ?_
  rw [show ν (220 + (ρ 13 c)) k = ρ 9 (3 * ((ρ 13 c)) + k) from ((hR.tn ((ρ 13 c)) (by omega) (by omega)).2 k (by omega) (by omega)).1]
  refine sw_le1 (pt := 40) (pn := 31) rfl rfl rfl (by omega) (fun h => absurd h (by omega)) (fun m2 => ?_)
  refine sw_p 1 (f' := (32, [some (2, 50), some (0, c), some (0, k), some (2, 300 + c)], [(2, 300 + c)])) rfl ?_
  refine sw_hA (pn := 35) (i := 3) (v := 340 + c) rfl rfl rfl rfl rfl (hR.ca c (by omega) (by omega)).1 (hR.ca c (by omega) (by omega)).2.2.2.2.1.1 (by omega) ?_
  refine sw_p 1 (f' := (36, [some (2, 50), some (0, c), some (0, k), some (2, 300 + c)], [(0, k), (2, 340 + c)])) rfl ?_
  refine sw_ial (pn := 37) (l := 3) rfl rfl (by omega) (hR.ca c (by omega) (by omega)).2.2.2.2.1.2.1 (hR.ca c (by omega) (by omega)).2.2.2.2.1.2.2 (by omega) (by omega) ?_
  rw [show ν (340 + c) k = ρ 17 (3 * c + k) from ((hR.cr c k (by omega) (by omega) (by omega) (by omega)).2 (by omega) (by omega))]
  refine sw_p 1 (f' := (41, [some (2, 50), some (0, c), some (0, k), some (2, 300 + c)], [(0, ρ 17 (3 * c + k))])) rfl ?_
  exact sw_retI rfl rfl rfl ⟨rfl, rfl, rfl⟩
theorem cl_rg2 (hI : iv_A ρ f) (hR : pt_R s ν ρ f) (hc : 0 ≤ c ∧ c < ρ 0 12) (hk : 0 ≤ k ∧ k < 3) (h : 1 ≤ ρ 15 c ∧ ρ 15 c ≤ 3) (hz : ρ 9 (3 * ρ 13 c + k) = 0) : sw_w E (d + 2) 77 (0, [some (2, 50), some (0, c), some (0, k), none], []) s ν (sw_is (some (0, -1)) s ν) := by
  have h12 := hI.1.2.2.1
  have hcd := hI.1.cd c hc.1 (by omega)
  have hK := hI.2.2.2.2.2.1 c hc.1 hc.2
  have hsz := hI.1.2.2.2.2.2.2.2.2.2.2.2.1 (3 * ρ 13 c + k) (by omega) (by omega)
  refine sw_p 2 (f' := (2, [some (2, 50), some (0, c), some (0, k), none], [(0, c), (2, 50)])) rfl ?_
  refine sw_cv1 (pn := 5) (q0 := mj_PT_range) (q := mj_PT_cardNumbered) (p := 50) (as2 := [(0, c)]) (L2 := [some (2, 50), some (0, c)]) (rest := []) (v := some (2, 300 + c)) (s1 := s) (ν1 := ν) rfl rfl rfl rfl rfl rfl rfl rfl rfl hR.sh.1 (cl_cN1 hI hR (by omega)) ?_
  show sw_w E _ 77 (5, [some (2, 50), some (0, c), some (0, k), none], [(2, 300 + c)]) s ν _
  refine sw_p 4 (f' := (9, [some (2, 50), some (0, c), some (0, k), some (2, 300 + c)], [(0, 2), (0, 0), (0, k)])) rfl ?_
  refine sw_cs1 (pn := 12) (q0 := mj_PT_range) (q := mj_PT_requireWithin) (L2 := [some (0, k), some (0, 0), some (0, 2)]) (rest := []) (v := none) (s1 := s) (ν1 := ν) rfl rfl rfl rfl rfl rfl rfl rfl (pt_rw1 (by omega) (by omega) (by omega) (by omega)) ?_
  show sw_w E _ 77 (12, [some (2, 50), some (0, c), some (0, k), some (2, 300 + c)], []) s ν _
  refine sw_p 1 (f' := (13, [some (2, 50), some (0, c), some (0, k), some (2, 300 + c)], [(2, 300 + c)])) rfl ?_
  refine sw_cv1 (pn := 16) (q0 := mj_PT_range) (q := mj_Ca_isThere) (p := 300 + c) (as2 := []) (L2 := [some (2, 300 + c)]) (rest := []) (v := some (0, 1)) (s1 := s) (ν1 := ν) rfl rfl rfl rfl rfl rfl rfl rfl rfl (hR.ca c (by omega) (by omega)).1 (cl_th1 hI hR (by omega) (by omega)) ?_
  show sw_w E _ 77 (16, [some (2, 50), some (0, c), some (0, k), some (2, 300 + c)], [(0, 1)]) s ν _
  refine sw_eq1 (pt := 40) (pn := 19) rfl rfl rfl (by omega) (fun h => absurd h (by decide)) (fun _ => ?_)
  refine sw_p 1 (f' := (20, [some (2, 50), some (0, c), some (0, k), some (2, 300 + c)], [(2, 300 + c)])) rfl ?_
  refine sw_hA (pn := 23) (i := 2) (v := 200 + ρ 13 c) rfl rfl rfl rfl rfl (hR.ca c (by omega) (by omega)).1 (hR.ca c (by omega) (by omega)).2.2.2.1 (by omega) ?_
  refine sw_hA (pn := 26) (i := 0) (v := 220 + (ρ 13 c)) rfl rfl rfl rfl rfl (hR.ty (ρ 13 c) (by omega) (by omega)).1 (hR.ty (ρ 13 c) (by omega) (by omega)).2.1.1 (by omega) ?_
  refine sw_p 1 (f' := (27, [some (2, 50), some (0, c), some (0, k), some (2, 300 + c)], [(0, k), (2, 220 + (ρ 13 c))])) rfl ?_
  refine sw_ial (pn := 28) (l := 3) rfl rfl (by omega) (hR.ty ((ρ 13 c)) (by omega) (by omega)).2.1.2.1 (hR.ty ((ρ 13 c)) (by omega) (by omega)).2.1.2.2 (by omega) (by omega) ?_
  rw [show ν (220 + (ρ 13 c)) k = ρ 9 (3 * ((ρ 13 c)) + k) from ((hR.tn ((ρ 13 c)) (by omega) (by omega)).2 k (by omega) (by omega)).1]
  refine sw_le1 (pt := 40) (pn := 31) rfl rfl rfl (by omega) (fun m2 => ?_) (fun h => absurd h (by omega))
  refine sw_p 1 (f' := (41, [some (2, 50), some (0, c), some (0, k), some (2, 300 + c)], [(0, -1)])) rfl ?_
  exact sw_retI rfl rfl rfl ⟨rfl, rfl, rfl⟩
theorem cl_rg3 (hI : iv_A ρ f) (hR : pt_R s ν ρ f) (hc : 0 ≤ c ∧ c < ρ 0 12) (hk : 0 ≤ k ∧ k < 3) (h : ¬ (1 ≤ ρ 15 c ∧ ρ 15 c ≤ 3)) : sw_w E (d + 2) 77 (0, [some (2, 50), some (0, c), some (0, k), none], []) s ν (sw_is (some (0, -1)) s ν) := by
  have h12 := hI.1.2.2.1
  have hcd := hI.1.cd c hc.1 (by omega)
  have hK := hI.2.2.2.2.2.1 c hc.1 hc.2
  have hsz := hI.1.2.2.2.2.2.2.2.2.2.2.2.1 (3 * ρ 13 c + k) (by omega) (by omega)
  refine sw_p 2 (f' := (2, [some (2, 50), some (0, c), some (0, k), none], [(0, c), (2, 50)])) rfl ?_
  refine sw_cv1 (pn := 5) (q0 := mj_PT_range) (q := mj_PT_cardNumbered) (p := 50) (as2 := [(0, c)]) (L2 := [some (2, 50), some (0, c)]) (rest := []) (v := some (2, 300 + c)) (s1 := s) (ν1 := ν) rfl rfl rfl rfl rfl rfl rfl rfl rfl hR.sh.1 (cl_cN1 hI hR (by omega)) ?_
  show sw_w E _ 77 (5, [some (2, 50), some (0, c), some (0, k), none], [(2, 300 + c)]) s ν _
  refine sw_p 4 (f' := (9, [some (2, 50), some (0, c), some (0, k), some (2, 300 + c)], [(0, 2), (0, 0), (0, k)])) rfl ?_
  refine sw_cs1 (pn := 12) (q0 := mj_PT_range) (q := mj_PT_requireWithin) (L2 := [some (0, k), some (0, 0), some (0, 2)]) (rest := []) (v := none) (s1 := s) (ν1 := ν) rfl rfl rfl rfl rfl rfl rfl rfl (pt_rw1 (by omega) (by omega) (by omega) (by omega)) ?_
  show sw_w E _ 77 (12, [some (2, 50), some (0, c), some (0, k), some (2, 300 + c)], []) s ν _
  refine sw_p 1 (f' := (13, [some (2, 50), some (0, c), some (0, k), some (2, 300 + c)], [(2, 300 + c)])) rfl ?_
  refine sw_cv1 (pn := 16) (q0 := mj_PT_range) (q := mj_Ca_isThere) (p := 300 + c) (as2 := []) (L2 := [some (2, 300 + c)]) (rest := []) (v := some (0, 0)) (s1 := s) (ν1 := ν) rfl rfl rfl rfl rfl rfl rfl rfl rfl (hR.ca c (by omega) (by omega)).1 (cl_th0 hI hR (by omega) (by omega)) ?_
  show sw_w E _ 77 (16, [some (2, 50), some (0, c), some (0, k), some (2, 300 + c)], [(0, 0)]) s ν _
  refine sw_eq1 (pt := 40) (pn := 19) rfl rfl rfl (by omega) (fun _ => ?_) (fun h => absurd h (by decide))
  refine sw_p 1 (f' := (41, [some (2, 50), some (0, c), some (0, k), some (2, 300 + c)], [(0, -1)])) rfl ?_
  exact sw_retI rfl rfl rfl ⟨rfl, rfl, rfl⟩
theorem cl_rgX (hI : iv_A ρ f) (hR : pt_R s ν ρ f) (hc : -2147483648 ≤ c ∧ c < 2147483648) (hd : 5 ≤ d) (h : ¬ (0 ≤ c ∧ c < ρ 0 12)) : sw_w E (d + 2) 77 (0, [some (2, 50), some (0, c), some (0, k), none], []) s ν (sw_ex 8 s ν) := by
  have h12 := hI.1.2.2.1
  refine sw_p 2 (f' := (2, [some (2, 50), some (0, c), some (0, k), none], [(0, c), (2, 50)])) rfl ?_
  exact sw_cv (pn := 5) (q0 := mj_PT_range) (q := mj_PT_cardNumbered) (p := 50) (as2 := [(0, c)]) (L2 := [some (2, 50), some (0, c)]) (rest := []) (Q2 := sw_ex 8 s ν) rfl rfl rfl rfl rfl rfl rfl rfl rfl hR.sh.1 (cl_cN0 hI hR (by omega) (by omega) (by omega)) (fun _ _ _ h => nomatch h.1) (fun _ _ _ h => h)
theorem cl_rgY (hI : iv_A ρ f) (hR : pt_R s ν ρ f) (hk : -2147483648 ≤ k ∧ k < 2147483648) (hd : 5 ≤ d) (hc : 0 ≤ c ∧ c < ρ 0 12) (h : ¬ (0 ≤ k ∧ k < 3)) : sw_w E (d + 2) 77 (0, [some (2, 50), some (0, c), some (0, k), none], []) s ν (sw_ex 8 s ν) := by
  have h12 := hI.1.2.2.1
  refine sw_p 2 (f' := (2, [some (2, 50), some (0, c), some (0, k), none], [(0, c), (2, 50)])) rfl ?_
  refine sw_cv1 (pn := 5) (q0 := mj_PT_range) (q := mj_PT_cardNumbered) (p := 50) (as2 := [(0, c)]) (L2 := [some (2, 50), some (0, c)]) (rest := []) (v := some (2, 300 + c)) (s1 := s) (ν1 := ν) rfl rfl rfl rfl rfl rfl rfl rfl rfl hR.sh.1 (cl_cN1 hI hR (by omega)) ?_
  show sw_w E _ 77 (5, [some (2, 50), some (0, c), some (0, k), none], [(2, 300 + c)]) s ν _
  refine sw_p 4 (f' := (9, [some (2, 50), some (0, c), some (0, k), some (2, 300 + c)], [(0, 2), (0, 0), (0, k)])) rfl ?_
  exact sw_cs (pn := 12) (q0 := mj_PT_range) (q := mj_PT_requireWithin) (L2 := [some (0, k), some (0, 0), some (0, 2)]) (rest := []) (Q2 := sw_ex 8 s ν) rfl rfl rfl rfl rfl rfl rfl rfl (pt_rwx (by omega) (by omega) (by omega) (by omega) (by omega)) (fun _ _ _ h => nomatch h.1) (fun _ _ _ h => h)
theorem cl_re1 (hI : iv_A ρ f) (hR : pt_R s ν ρ f) (ht : 0 ≤ t ∧ t < ρ 0 24) : sw_w E (d + 3) 75 (0, [some (2, 50), some (0, t)], []) s ν (sw_is (some (1, ρ 28 t)) s ν) := by
  have h24 := hI.1.2.2.2.2.2.1
  refine sw_p 3 (f' := (3, [some (2, 50), some (0, t)], [(2, 50), (0, 0), (0, t)])) rfl ?_
  refine sw_hA (pn := 6) (i := 3) (v := 54) rfl rfl rfl rfl rfl hR.sh.1 hR.sh.2.2.2.2.1.1 (by omega) ?_
  refine sw_cv1 (pn := 9) (q0 := mj_PT_result) (q := mj_Al_size) (p := 54) (as2 := []) (L2 := [some (2, 54)]) (rest := [(0, 0), (0, t)]) (v := some (0, ρ 0 24)) (s1 := s) (ν1 := ν) rfl rfl rfl rfl rfl rfl rfl rfl rfl hR.sh.2.2.2.2.1.2 (by have h := li_size (E := E) (d := d + 2) (s := s) (ν := ν) (p := 54) (by omega) hR.sh.2.2.2.2.1.2; rw [hR.li.1] at h; exact h) ?_
  show sw_w E _ 75 (9, [some (2, 50), some (0, t)], [(0, ρ 0 24), (0, 0), (0, t)]) s ν _
  refine sw_p 2 (f' := (11, [some (2, 50), some (0, t)], [(0, (ρ 0 24) - 1), (0, 0), (0, t)])) rfl ?_
  refine sw_cs1 (pn := 14) (q0 := mj_PT_result) (q := mj_PT_requireWithin) (L2 := [some (0, t), some (0, 0), some (0, (ρ 0 24) - 1)]) (rest := []) (v := none) (s1 := s) (ν1 := ν) rfl rfl rfl rfl rfl rfl rfl rfl (pt_rw1 (by omega) (by omega) (by omega) (by omega)) ?_
  show sw_w E _ 75 (14, [some (2, 50), some (0, t)], []) s ν _
  refine sw_p 1 (f' := (15, [some (2, 50), some (0, t)], [(2, 50)])) rfl ?_
  refine sw_hA (pn := 18) (i := 3) (v := 54) rfl rfl rfl rfl rfl hR.sh.1 hR.sh.2.2.2.2.1.1 (by omega) ?_
  refine sw_p 1 (f' := (19, [some (2, 50), some (0, t)], [(0, t), (2, 54)])) rfl ?_
  refine sw_cv1 (pn := 22) (q0 := mj_PT_result) (q := mj_Al_get) (p := 54) (as2 := [(0, t)]) (L2 := [some (2, 54), some (0, t)]) (rest := []) (v := some (2, 1000 + t)) (s1 := s) (ν1 := ν) rfl rfl rfl rfl rfl rfl rfl rfl rfl hR.sh.2.2.2.2.1.2 (by have e := hR.li.2.2 t (by omega) (by omega); have h1 := hR.li.n (by omega); have h := li_get (E := E) (d := d) (s := s) (ν := ν) (p := 54) (i := t) (l := s (ν 54 0) (-2)) (by omega) hR.sh.2.2.2.2.1.2 h1.2.1 rfl (by omega) (by rw [hR.li.1]; omega) (by rw [hR.li.1]; omega) (by omega) (by rw [e]; omega); rw [e] at h; exact h) ?_
  show sw_w E _ 75 (22, [some (2, 50), some (0, t)], [(2, 1000 + t)]) s ν _
  refine sw_cast (pn := 25) rfl rfl (hR.rq t (by omega) (by omega)).1 ?_
  refine sw_gL (pn := 28) (i := 2) rfl rfl rfl rfl rfl (by omega) (hR.rq t (by omega) (by omega)).1 ?_
  exact sw_retL rfl rfl rfl ⟨by rw [(hR.rq t (by omega) (by omega)).2.2.2], rfl, rfl⟩
theorem cl_re0 (hI : iv_A ρ f) (hR : pt_R s ν ρ f) (ht : -2147483648 ≤ t ∧ t < 2147483648) (hd : 5 ≤ d) (h : ¬ (0 ≤ t ∧ t < ρ 0 24)) : sw_w E (d + 3) 75 (0, [some (2, 50), some (0, t)], []) s ν (sw_ex 8 s ν) := by
  have h24 := hI.1.2.2.2.2.2.1
  refine sw_p 3 (f' := (3, [some (2, 50), some (0, t)], [(2, 50), (0, 0), (0, t)])) rfl ?_
  refine sw_hA (pn := 6) (i := 3) (v := 54) rfl rfl rfl rfl rfl hR.sh.1 hR.sh.2.2.2.2.1.1 (by omega) ?_
  refine sw_cv1 (pn := 9) (q0 := mj_PT_result) (q := mj_Al_size) (p := 54) (as2 := []) (L2 := [some (2, 54)]) (rest := [(0, 0), (0, t)]) (v := some (0, ρ 0 24)) (s1 := s) (ν1 := ν) rfl rfl rfl rfl rfl rfl rfl rfl rfl hR.sh.2.2.2.2.1.2 (by have h := li_size (E := E) (d := d + 2) (s := s) (ν := ν) (p := 54) (by omega) hR.sh.2.2.2.2.1.2; rw [hR.li.1] at h; exact h) ?_
  show sw_w E _ 75 (9, [some (2, 50), some (0, t)], [(0, ρ 0 24), (0, 0), (0, t)]) s ν _
  refine sw_p 2 (f' := (11, [some (2, 50), some (0, t)], [(0, (ρ 0 24) - 1), (0, 0), (0, t)])) rfl ?_
  exact sw_cs (pn := 14) (q0 := mj_PT_result) (q := mj_PT_requireWithin) (L2 := [some (0, t), some (0, 0), some (0, (ρ 0 24) - 1)]) (rest := []) (Q2 := sw_ex 8 s ν) rfl rfl rfl rfl rfl rfl rfl rfl (pt_rwx (by omega) (by omega) (by omega) (by omega) (by omega)) (fun _ _ _ h => nomatch h.1) (fun _ _ _ h => h)
def cl_hit (ν ρ : mm_T) (a c k : Int) : Prop := ν (340 + c) k ≤ a ∧ a < ν (340 + c) k + ρ 9 (3 * ρ 13 c + k)
theorem cl_hold (hI : iv_A ρ f) (hR : pt_R s ν ρ f) (hc : 0 ≤ c ∧ c < ρ 0 12) (ha : -2147483648 ≤ a ∧ a < 2147483648) : sw_w E d 29 (0, [some (2, 300 + c), some (0, a), none], []) s ν (sw_is (some (0, if (ν (340 + c) 0 ≤ a ∧ a < ν (340 + c) 0 + ρ 9 (3 * ρ 13 c + 0)) ∨ (ν (340 + c) 1 ≤ a ∧ a < ν (340 + c) 1 + ρ 9 (3 * ρ 13 c + 1)) ∨ (ν (340 + c) 2 ≤ a ∧ a < ν (340 + c) 2 + ρ 9 (3 * ρ 13 c + 2)) then 1 else 0)) s ν) := by
  have h12 := hI.1.2.2.1
  have hcd := hI.1.cd c hc.1 (by omega)
  have hK := hI.2.2.2.2.2.1 c hc.1 hc.2
  have hs0 := hI.1.2.2.2.2.2.2.2.2.2.2.2.1 (3 * ρ 13 c + 0) (by omega) (by omega)
  have hs1 := hI.1.2.2.2.2.2.2.2.2.2.2.2.1 (3 * ρ 13 c + 1) (by omega) (by omega)
  have hs2 := hI.1.2.2.2.2.2.2.2.2.2.2.2.1 (3 * ρ 13 c + 2) (by omega) (by omega)
  have hr0 := (hR.cr c 0 (by omega) (by omega) (by omega) (by omega)).1
  have hr1 := (hR.cr c 1 (by omega) (by omega) (by omega) (by omega)).1
  have hr2 := (hR.cr c 2 (by omega) (by omega) (by omega) (by omega)).1
  refine sw_p 4 (f' := (4, [some (2, 300 + c), some (0, a), some (0, 0)], [(0, 3), (0, 0)])) rfl ?_
  refine sw_ge2 (pt := 45) (pn := 7) rfl rfl rfl (by omega) (by omega) (fun h => absurd h (by decide)) (fun _ => ?_)
  refine sw_p 2 (f' := (9, [some (2, 300 + c), some (0, a), some (0, 0)], [(2, 300 + c), (0, a)])) rfl ?_
  refine sw_hA (pn := 12) (i := 3) (v := 340 + c) rfl rfl rfl rfl rfl (hR.ca c (by omega) (by omega)).1 (hR.ca c (by omega) (by omega)).2.2.2.2.1.1 (by omega) ?_
  refine sw_p 1 (f' := (13, [some (2, 300 + c), some (0, a), some (0, 0)], [(0, 0), (2, 340 + c), (0, a)])) rfl ?_
  refine sw_ial (pn := 14) (l := 3) rfl rfl (by omega) (hR.ca c (by omega) (by omega)).2.2.2.2.1.2.1 (hR.ca c (by omega) (by omega)).2.2.2.2.1.2.2 (by omega) (by omega) ?_
  refine sw_lt2 (pt := 39) (pn := 17) rfl rfl rfl (by omega) (by omega) (fun m2 => ?_) (fun m2 => ?_)
  · skip
    refine sw_p 4 (f' := (4, [some (2, 300 + c), some (0, a), some (0, 1)], [(0, 3), (0, 1)])) rfl ?_
    refine sw_ge2 (pt := 45) (pn := 7) rfl rfl rfl (by omega) (by omega) (fun h => absurd h (by decide)) (fun _ => ?_)
    refine sw_p 2 (f' := (9, [some (2, 300 + c), some (0, a), some (0, 1)], [(2, 300 + c), (0, a)])) rfl ?_
    refine sw_hA (pn := 12) (i := 3) (v := 340 + c) rfl rfl rfl rfl rfl (hR.ca c (by omega) (by omega)).1 (hR.ca c (by omega) (by omega)).2.2.2.2.1.1 (by omega) ?_
    refine sw_p 1 (f' := (13, [some (2, 300 + c), some (0, a), some (0, 1)], [(0, 1), (2, 340 + c), (0, a)])) rfl ?_
    refine sw_ial (pn := 14) (l := 3) rfl rfl (by omega) (hR.ca c (by omega) (by omega)).2.2.2.2.1.2.1 (hR.ca c (by omega) (by omega)).2.2.2.2.1.2.2 (by omega) (by omega) ?_
    refine sw_lt2 (pt := 39) (pn := 17) rfl rfl rfl (by omega) (by omega) (fun m4 => ?_) (fun m4 => ?_)
    · skip
      refine sw_p 4 (f' := (4, [some (2, 300 + c), some (0, a), some (0, 2)], [(0, 3), (0, 2)])) rfl ?_
      refine sw_ge2 (pt := 45) (pn := 7) rfl rfl rfl (by omega) (by omega) (fun h => absurd h (by decide)) (fun _ => ?_)
      refine sw_p 2 (f' := (9, [some (2, 300 + c), some (0, a), some (0, 2)], [(2, 300 + c), (0, a)])) rfl ?_
      refine sw_hA (pn := 12) (i := 3) (v := 340 + c) rfl rfl rfl rfl rfl (hR.ca c (by omega) (by omega)).1 (hR.ca c (by omega) (by omega)).2.2.2.2.1.1 (by omega) ?_
      refine sw_p 1 (f' := (13, [some (2, 300 + c), some (0, a), some (0, 2)], [(0, 2), (2, 340 + c), (0, a)])) rfl ?_
      refine sw_ial (pn := 14) (l := 3) rfl rfl (by omega) (hR.ca c (by omega) (by omega)).2.2.2.2.1.2.1 (hR.ca c (by omega) (by omega)).2.2.2.2.1.2.2 (by omega) (by omega) ?_
      refine sw_lt2 (pt := 39) (pn := 17) rfl rfl rfl (by omega) (by omega) (fun m6 => ?_) (fun m6 => ?_)
      · skip
        refine sw_p 4 (f' := (4, [some (2, 300 + c), some (0, a), some (0, 3)], [(0, 3), (0, 3)])) rfl ?_
        refine sw_ge2 (pt := 45) (pn := 7) rfl rfl rfl (by omega) (by omega) (fun _ => ?_) (fun h => absurd h (by decide))
        refine sw_p 1 (f' := (46, [some (2, 300 + c), some (0, a), some (0, 3)], [(0, 0)])) rfl ?_
        exact sw_retZ rfl rfl rfl (by omega) ⟨by rw [if_neg (by omega)], rfl, rfl⟩
      · skip
        refine sw_p 2 (f' := (19, [some (2, 300 + c), some (0, a), some (0, 2)], [(2, 300 + c), (0, a)])) rfl ?_
        refine sw_hA (pn := 22) (i := 3) (v := 340 + c) rfl rfl rfl rfl rfl (hR.ca c (by omega) (by omega)).1 (hR.ca c (by omega) (by omega)).2.2.2.2.1.1 (by omega) ?_
        refine sw_p 1 (f' := (23, [some (2, 300 + c), some (0, a), some (0, 2)], [(0, 2), (2, 340 + c), (0, a)])) rfl ?_
        refine sw_ial (pn := 24) (l := 3) rfl rfl (by omega) (hR.ca c (by omega) (by omega)).2.2.2.2.1.2.1 (hR.ca c (by omega) (by omega)).2.2.2.2.1.2.2 (by omega) (by omega) ?_
        refine sw_p 1 (f' := (25, [some (2, 300 + c), some (0, a), some (0, 2)], [(2, 300 + c), (0, ν (340 + c) 2), (0, a)])) rfl ?_
        refine sw_hA (pn := 28) (i := 2) (v := 200 + ρ 13 c) rfl rfl rfl rfl rfl (hR.ca c (by omega) (by omega)).1 (hR.ca c (by omega) (by omega)).2.2.2.1 (by omega) ?_
        refine sw_hA (pn := 31) (i := 0) (v := 220 + (ρ 13 c)) rfl rfl rfl rfl rfl (hR.ty (ρ 13 c) (by omega) (by omega)).1 (hR.ty (ρ 13 c) (by omega) (by omega)).2.1.1 (by omega) ?_
        refine sw_p 1 (f' := (32, [some (2, 300 + c), some (0, a), some (0, 2)], [(0, 2), (2, 220 + (ρ 13 c)), (0, ν (340 + c) 2), (0, a)])) rfl ?_
        refine sw_ial (pn := 33) (l := 3) rfl rfl (by omega) (hR.ty ((ρ 13 c)) (by omega) (by omega)).2.1.2.1 (hR.ty ((ρ 13 c)) (by omega) (by omega)).2.1.2.2 (by omega) (by omega) ?_
        rw [show ν (220 + (ρ 13 c)) 2 = ρ 9 (3 * ((ρ 13 c)) + 2) from ((hR.tn ((ρ 13 c)) (by omega) (by omega)).2 2 (by omega) (by omega)).1]
        refine sw_p 1 (f' := (34, [some (2, 300 + c), some (0, a), some (0, 2)], [(0, (ν (340 + c) 2) + (ρ 9 (3 * ((ρ 13 c)) + 2))), (0, a)])) rfl ?_
        refine sw_ge2 (pt := 39) (pn := 37) rfl rfl rfl (by omega) (by omega) (fun m8 => ?_) (fun m8 => ?_)
        · skip
          refine sw_p 4 (f' := (4, [some (2, 300 + c), some (0, a), some (0, 3)], [(0, 3), (0, 3)])) rfl ?_
          refine sw_ge2 (pt := 45) (pn := 7) rfl rfl rfl (by omega) (by omega) (fun _ => ?_) (fun h => absurd h (by decide))
          refine sw_p 1 (f' := (46, [some (2, 300 + c), some (0, a), some (0, 3)], [(0, 0)])) rfl ?_
          exact sw_retZ rfl rfl rfl (by omega) ⟨by rw [if_neg (by omega)], rfl, rfl⟩
        · skip
          refine sw_p 1 (f' := (38, [some (2, 300 + c), some (0, a), some (0, 2)], [(0, 1)])) rfl ?_
          exact sw_retZ rfl rfl rfl (by omega) ⟨by rw [if_pos (by omega)], rfl, rfl⟩
    · skip
      refine sw_p 2 (f' := (19, [some (2, 300 + c), some (0, a), some (0, 1)], [(2, 300 + c), (0, a)])) rfl ?_
      refine sw_hA (pn := 22) (i := 3) (v := 340 + c) rfl rfl rfl rfl rfl (hR.ca c (by omega) (by omega)).1 (hR.ca c (by omega) (by omega)).2.2.2.2.1.1 (by omega) ?_
      refine sw_p 1 (f' := (23, [some (2, 300 + c), some (0, a), some (0, 1)], [(0, 1), (2, 340 + c), (0, a)])) rfl ?_
      refine sw_ial (pn := 24) (l := 3) rfl rfl (by omega) (hR.ca c (by omega) (by omega)).2.2.2.2.1.2.1 (hR.ca c (by omega) (by omega)).2.2.2.2.1.2.2 (by omega) (by omega) ?_
      refine sw_p 1 (f' := (25, [some (2, 300 + c), some (0, a), some (0, 1)], [(2, 300 + c), (0, ν (340 + c) 1), (0, a)])) rfl ?_
      refine sw_hA (pn := 28) (i := 2) (v := 200 + ρ 13 c) rfl rfl rfl rfl rfl (hR.ca c (by omega) (by omega)).1 (hR.ca c (by omega) (by omega)).2.2.2.1 (by omega) ?_
      refine sw_hA (pn := 31) (i := 0) (v := 220 + (ρ 13 c)) rfl rfl rfl rfl rfl (hR.ty (ρ 13 c) (by omega) (by omega)).1 (hR.ty (ρ 13 c) (by omega) (by omega)).2.1.1 (by omega) ?_
      refine sw_p 1 (f' := (32, [some (2, 300 + c), some (0, a), some (0, 1)], [(0, 1), (2, 220 + (ρ 13 c)), (0, ν (340 + c) 1), (0, a)])) rfl ?_
      refine sw_ial (pn := 33) (l := 3) rfl rfl (by omega) (hR.ty ((ρ 13 c)) (by omega) (by omega)).2.1.2.1 (hR.ty ((ρ 13 c)) (by omega) (by omega)).2.1.2.2 (by omega) (by omega) ?_
      rw [show ν (220 + (ρ 13 c)) 1 = ρ 9 (3 * ((ρ 13 c)) + 1) from ((hR.tn ((ρ 13 c)) (by omega) (by omega)).2 1 (by omega) (by omega)).1]
      refine sw_p 1 (f' := (34, [some (2, 300 + c), some (0, a), some (0, 1)], [(0, (ν (340 + c) 1) + (ρ 9 (3 * ((ρ 13 c)) + 1))), (0, a)])) rfl ?_
      refine sw_ge2 (pt := 39) (pn := 37) rfl rfl rfl (by omega) (by omega) (fun m10 => ?_) (fun m10 => ?_)
      · skip
        refine sw_p 4 (f' := (4, [some (2, 300 + c), some (0, a), some (0, 2)], [(0, 3), (0, 2)])) rfl ?_
        refine sw_ge2 (pt := 45) (pn := 7) rfl rfl rfl (by omega) (by omega) (fun h => absurd h (by decide)) (fun _ => ?_)
        refine sw_p 2 (f' := (9, [some (2, 300 + c), some (0, a), some (0, 2)], [(2, 300 + c), (0, a)])) rfl ?_
        refine sw_hA (pn := 12) (i := 3) (v := 340 + c) rfl rfl rfl rfl rfl (hR.ca c (by omega) (by omega)).1 (hR.ca c (by omega) (by omega)).2.2.2.2.1.1 (by omega) ?_
        refine sw_p 1 (f' := (13, [some (2, 300 + c), some (0, a), some (0, 2)], [(0, 2), (2, 340 + c), (0, a)])) rfl ?_
        refine sw_ial (pn := 14) (l := 3) rfl rfl (by omega) (hR.ca c (by omega) (by omega)).2.2.2.2.1.2.1 (hR.ca c (by omega) (by omega)).2.2.2.2.1.2.2 (by omega) (by omega) ?_
        refine sw_lt2 (pt := 39) (pn := 17) rfl rfl rfl (by omega) (by omega) (fun m12 => ?_) (fun m12 => ?_)
        · skip
          refine sw_p 4 (f' := (4, [some (2, 300 + c), some (0, a), some (0, 3)], [(0, 3), (0, 3)])) rfl ?_
          refine sw_ge2 (pt := 45) (pn := 7) rfl rfl rfl (by omega) (by omega) (fun _ => ?_) (fun h => absurd h (by decide))
          refine sw_p 1 (f' := (46, [some (2, 300 + c), some (0, a), some (0, 3)], [(0, 0)])) rfl ?_
          exact sw_retZ rfl rfl rfl (by omega) ⟨by rw [if_neg (by omega)], rfl, rfl⟩
        · skip
          refine sw_p 2 (f' := (19, [some (2, 300 + c), some (0, a), some (0, 2)], [(2, 300 + c), (0, a)])) rfl ?_
          refine sw_hA (pn := 22) (i := 3) (v := 340 + c) rfl rfl rfl rfl rfl (hR.ca c (by omega) (by omega)).1 (hR.ca c (by omega) (by omega)).2.2.2.2.1.1 (by omega) ?_
          refine sw_p 1 (f' := (23, [some (2, 300 + c), some (0, a), some (0, 2)], [(0, 2), (2, 340 + c), (0, a)])) rfl ?_
          refine sw_ial (pn := 24) (l := 3) rfl rfl (by omega) (hR.ca c (by omega) (by omega)).2.2.2.2.1.2.1 (hR.ca c (by omega) (by omega)).2.2.2.2.1.2.2 (by omega) (by omega) ?_
          refine sw_p 1 (f' := (25, [some (2, 300 + c), some (0, a), some (0, 2)], [(2, 300 + c), (0, ν (340 + c) 2), (0, a)])) rfl ?_
          refine sw_hA (pn := 28) (i := 2) (v := 200 + ρ 13 c) rfl rfl rfl rfl rfl (hR.ca c (by omega) (by omega)).1 (hR.ca c (by omega) (by omega)).2.2.2.1 (by omega) ?_
          refine sw_hA (pn := 31) (i := 0) (v := 220 + (ρ 13 c)) rfl rfl rfl rfl rfl (hR.ty (ρ 13 c) (by omega) (by omega)).1 (hR.ty (ρ 13 c) (by omega) (by omega)).2.1.1 (by omega) ?_
          refine sw_p 1 (f' := (32, [some (2, 300 + c), some (0, a), some (0, 2)], [(0, 2), (2, 220 + (ρ 13 c)), (0, ν (340 + c) 2), (0, a)])) rfl ?_
          refine sw_ial (pn := 33) (l := 3) rfl rfl (by omega) (hR.ty ((ρ 13 c)) (by omega) (by omega)).2.1.2.1 (hR.ty ((ρ 13 c)) (by omega) (by omega)).2.1.2.2 (by omega) (by omega) ?_
          rw [show ν (220 + (ρ 13 c)) 2 = ρ 9 (3 * ((ρ 13 c)) + 2) from ((hR.tn ((ρ 13 c)) (by omega) (by omega)).2 2 (by omega) (by omega)).1]
          refine sw_p 1 (f' := (34, [some (2, 300 + c), some (0, a), some (0, 2)], [(0, (ν (340 + c) 2) + (ρ 9 (3 * ((ρ 13 c)) + 2))), (0, a)])) rfl ?_
          refine sw_ge2 (pt := 39) (pn := 37) rfl rfl rfl (by omega) (by omega) (fun m14 => ?_) (fun m14 => ?_)
          · skip
            refine sw_p 4 (f' := (4, [some (2, 300 + c), some (0, a), some (0, 3)], [(0, 3), (0, 3)])) rfl ?_
            refine sw_ge2 (pt := 45) (pn := 7) rfl rfl rfl (by omega) (by omega) (fun _ => ?_) (fun h => absurd h (by decide))
            refine sw_p 1 (f' := (46, [some (2, 300 + c), some (0, a), some (0, 3)], [(0, 0)])) rfl ?_
            exact sw_retZ rfl rfl rfl (by omega) ⟨by rw [if_neg (by omega)], rfl, rfl⟩
          · skip
            refine sw_p 1 (f' := (38, [some (2, 300 + c), some (0, a), some (0, 2)], [(0, 1)])) rfl ?_
            exact sw_retZ rfl rfl rfl (by omega) ⟨by rw [if_pos (by omega)], rfl, rfl⟩
      · skip
        refine sw_p 1 (f' := (38, [some (2, 300 + c), some (0, a), some (0, 1)], [(0, 1)])) rfl ?_
        exact sw_retZ rfl rfl rfl (by omega) ⟨by rw [if_pos (by omega)], rfl, rfl⟩
  · skip
    refine sw_p 2 (f' := (19, [some (2, 300 + c), some (0, a), some (0, 0)], [(2, 300 + c), (0, a)])) rfl ?_
    refine sw_hA (pn := 22) (i := 3) (v := 340 + c) rfl rfl rfl rfl rfl (hR.ca c (by omega) (by omega)).1 (hR.ca c (by omega) (by omega)).2.2.2.2.1.1 (by omega) ?_
    refine sw_p 1 (f' := (23, [some (2, 300 + c), some (0, a), some (0, 0)], [(0, 0), (2, 340 + c), (0, a)])) rfl ?_
    refine sw_ial (pn := 24) (l := 3) rfl rfl (by omega) (hR.ca c (by omega) (by omega)).2.2.2.2.1.2.1 (hR.ca c (by omega) (by omega)).2.2.2.2.1.2.2 (by omega) (by omega) ?_
    refine sw_p 1 (f' := (25, [some (2, 300 + c), some (0, a), some (0, 0)], [(2, 300 + c), (0, ν (340 + c) 0), (0, a)])) rfl ?_
    refine sw_hA (pn := 28) (i := 2) (v := 200 + ρ 13 c) rfl rfl rfl rfl rfl (hR.ca c (by omega) (by omega)).1 (hR.ca c (by omega) (by omega)).2.2.2.1 (by omega) ?_
    refine sw_hA (pn := 31) (i := 0) (v := 220 + (ρ 13 c)) rfl rfl rfl rfl rfl (hR.ty (ρ 13 c) (by omega) (by omega)).1 (hR.ty (ρ 13 c) (by omega) (by omega)).2.1.1 (by omega) ?_
    refine sw_p 1 (f' := (32, [some (2, 300 + c), some (0, a), some (0, 0)], [(0, 0), (2, 220 + (ρ 13 c)), (0, ν (340 + c) 0), (0, a)])) rfl ?_
    refine sw_ial (pn := 33) (l := 3) rfl rfl (by omega) (hR.ty ((ρ 13 c)) (by omega) (by omega)).2.1.2.1 (hR.ty ((ρ 13 c)) (by omega) (by omega)).2.1.2.2 (by omega) (by omega) ?_
    rw [show ν (220 + (ρ 13 c)) 0 = ρ 9 (3 * ((ρ 13 c)) + 0) from ((hR.tn ((ρ 13 c)) (by omega) (by omega)).2 0 (by omega) (by omega)).1]
    refine sw_p 1 (f' := (34, [some (2, 300 + c), some (0, a), some (0, 0)], [(0, (ν (340 + c) 0) + (ρ 9 (3 * ((ρ 13 c)) + 0))), (0, a)])) rfl ?_
    refine sw_ge2 (pt := 39) (pn := 37) rfl rfl rfl (by omega) (by omega) (fun m16 => ?_) (fun m16 => ?_)
    · skip
      refine sw_p 4 (f' := (4, [some (2, 300 + c), some (0, a), some (0, 1)], [(0, 3), (0, 1)])) rfl ?_
      refine sw_ge2 (pt := 45) (pn := 7) rfl rfl rfl (by omega) (by omega) (fun h => absurd h (by decide)) (fun _ => ?_)
      refine sw_p 2 (f' := (9, [some (2, 300 + c), some (0, a), some (0, 1)], [(2, 300 + c), (0, a)])) rfl ?_
      refine sw_hA (pn := 12) (i := 3) (v := 340 + c) rfl rfl rfl rfl rfl (hR.ca c (by omega) (by omega)).1 (hR.ca c (by omega) (by omega)).2.2.2.2.1.1 (by omega) ?_
      refine sw_p 1 (f' := (13, [some (2, 300 + c), some (0, a), some (0, 1)], [(0, 1), (2, 340 + c), (0, a)])) rfl ?_
      refine sw_ial (pn := 14) (l := 3) rfl rfl (by omega) (hR.ca c (by omega) (by omega)).2.2.2.2.1.2.1 (hR.ca c (by omega) (by omega)).2.2.2.2.1.2.2 (by omega) (by omega) ?_
      refine sw_lt2 (pt := 39) (pn := 17) rfl rfl rfl (by omega) (by omega) (fun m18 => ?_) (fun m18 => ?_)
      · skip
        refine sw_p 4 (f' := (4, [some (2, 300 + c), some (0, a), some (0, 2)], [(0, 3), (0, 2)])) rfl ?_
        refine sw_ge2 (pt := 45) (pn := 7) rfl rfl rfl (by omega) (by omega) (fun h => absurd h (by decide)) (fun _ => ?_)
        refine sw_p 2 (f' := (9, [some (2, 300 + c), some (0, a), some (0, 2)], [(2, 300 + c), (0, a)])) rfl ?_
        refine sw_hA (pn := 12) (i := 3) (v := 340 + c) rfl rfl rfl rfl rfl (hR.ca c (by omega) (by omega)).1 (hR.ca c (by omega) (by omega)).2.2.2.2.1.1 (by omega) ?_
        refine sw_p 1 (f' := (13, [some (2, 300 + c), some (0, a), some (0, 2)], [(0, 2), (2, 340 + c), (0, a)])) rfl ?_
        refine sw_ial (pn := 14) (l := 3) rfl rfl (by omega) (hR.ca c (by omega) (by omega)).2.2.2.2.1.2.1 (hR.ca c (by omega) (by omega)).2.2.2.2.1.2.2 (by omega) (by omega) ?_
        refine sw_lt2 (pt := 39) (pn := 17) rfl rfl rfl (by omega) (by omega) (fun m20 => ?_) (fun m20 => ?_)
        · skip
          refine sw_p 4 (f' := (4, [some (2, 300 + c), some (0, a), some (0, 3)], [(0, 3), (0, 3)])) rfl ?_
          refine sw_ge2 (pt := 45) (pn := 7) rfl rfl rfl (by omega) (by omega) (fun _ => ?_) (fun h => absurd h (by decide))
          refine sw_p 1 (f' := (46, [some (2, 300 + c), some (0, a), some (0, 3)], [(0, 0)])) rfl ?_
          exact sw_retZ rfl rfl rfl (by omega) ⟨by rw [if_neg (by omega)], rfl, rfl⟩
        · skip
          refine sw_p 2 (f' := (19, [some (2, 300 + c), some (0, a), some (0, 2)], [(2, 300 + c), (0, a)])) rfl ?_
          refine sw_hA (pn := 22) (i := 3) (v := 340 + c) rfl rfl rfl rfl rfl (hR.ca c (by omega) (by omega)).1 (hR.ca c (by omega) (by omega)).2.2.2.2.1.1 (by omega) ?_
          refine sw_p 1 (f' := (23, [some (2, 300 + c), some (0, a), some (0, 2)], [(0, 2), (2, 340 + c), (0, a)])) rfl ?_
          refine sw_ial (pn := 24) (l := 3) rfl rfl (by omega) (hR.ca c (by omega) (by omega)).2.2.2.2.1.2.1 (hR.ca c (by omega) (by omega)).2.2.2.2.1.2.2 (by omega) (by omega) ?_
          refine sw_p 1 (f' := (25, [some (2, 300 + c), some (0, a), some (0, 2)], [(2, 300 + c), (0, ν (340 + c) 2), (0, a)])) rfl ?_
          refine sw_hA (pn := 28) (i := 2) (v := 200 + ρ 13 c) rfl rfl rfl rfl rfl (hR.ca c (by omega) (by omega)).1 (hR.ca c (by omega) (by omega)).2.2.2.1 (by omega) ?_
          refine sw_hA (pn := 31) (i := 0) (v := 220 + (ρ 13 c)) rfl rfl rfl rfl rfl (hR.ty (ρ 13 c) (by omega) (by omega)).1 (hR.ty (ρ 13 c) (by omega) (by omega)).2.1.1 (by omega) ?_
          refine sw_p 1 (f' := (32, [some (2, 300 + c), some (0, a), some (0, 2)], [(0, 2), (2, 220 + (ρ 13 c)), (0, ν (340 + c) 2), (0, a)])) rfl ?_
          refine sw_ial (pn := 33) (l := 3) rfl rfl (by omega) (hR.ty ((ρ 13 c)) (by omega) (by omega)).2.1.2.1 (hR.ty ((ρ 13 c)) (by omega) (by omega)).2.1.2.2 (by omega) (by omega) ?_
          rw [show ν (220 + (ρ 13 c)) 2 = ρ 9 (3 * ((ρ 13 c)) + 2) from ((hR.tn ((ρ 13 c)) (by omega) (by omega)).2 2 (by omega) (by omega)).1]
          refine sw_p 1 (f' := (34, [some (2, 300 + c), some (0, a), some (0, 2)], [(0, (ν (340 + c) 2) + (ρ 9 (3 * ((ρ 13 c)) + 2))), (0, a)])) rfl ?_
          refine sw_ge2 (pt := 39) (pn := 37) rfl rfl rfl (by omega) (by omega) (fun m22 => ?_) (fun m22 => ?_)
          · skip
            refine sw_p 4 (f' := (4, [some (2, 300 + c), some (0, a), some (0, 3)], [(0, 3), (0, 3)])) rfl ?_
            refine sw_ge2 (pt := 45) (pn := 7) rfl rfl rfl (by omega) (by omega) (fun _ => ?_) (fun h => absurd h (by decide))
            refine sw_p 1 (f' := (46, [some (2, 300 + c), some (0, a), some (0, 3)], [(0, 0)])) rfl ?_
            exact sw_retZ rfl rfl rfl (by omega) ⟨by rw [if_neg (by omega)], rfl, rfl⟩
          · skip
            refine sw_p 1 (f' := (38, [some (2, 300 + c), some (0, a), some (0, 2)], [(0, 1)])) rfl ?_
            exact sw_retZ rfl rfl rfl (by omega) ⟨by rw [if_pos (by omega)], rfl, rfl⟩
      · skip
        refine sw_p 2 (f' := (19, [some (2, 300 + c), some (0, a), some (0, 1)], [(2, 300 + c), (0, a)])) rfl ?_
        refine sw_hA (pn := 22) (i := 3) (v := 340 + c) rfl rfl rfl rfl rfl (hR.ca c (by omega) (by omega)).1 (hR.ca c (by omega) (by omega)).2.2.2.2.1.1 (by omega) ?_
        refine sw_p 1 (f' := (23, [some (2, 300 + c), some (0, a), some (0, 1)], [(0, 1), (2, 340 + c), (0, a)])) rfl ?_
        refine sw_ial (pn := 24) (l := 3) rfl rfl (by omega) (hR.ca c (by omega) (by omega)).2.2.2.2.1.2.1 (hR.ca c (by omega) (by omega)).2.2.2.2.1.2.2 (by omega) (by omega) ?_
        refine sw_p 1 (f' := (25, [some (2, 300 + c), some (0, a), some (0, 1)], [(2, 300 + c), (0, ν (340 + c) 1), (0, a)])) rfl ?_
        refine sw_hA (pn := 28) (i := 2) (v := 200 + ρ 13 c) rfl rfl rfl rfl rfl (hR.ca c (by omega) (by omega)).1 (hR.ca c (by omega) (by omega)).2.2.2.1 (by omega) ?_
        refine sw_hA (pn := 31) (i := 0) (v := 220 + (ρ 13 c)) rfl rfl rfl rfl rfl (hR.ty (ρ 13 c) (by omega) (by omega)).1 (hR.ty (ρ 13 c) (by omega) (by omega)).2.1.1 (by omega) ?_
        refine sw_p 1 (f' := (32, [some (2, 300 + c), some (0, a), some (0, 1)], [(0, 1), (2, 220 + (ρ 13 c)), (0, ν (340 + c) 1), (0, a)])) rfl ?_
        refine sw_ial (pn := 33) (l := 3) rfl rfl (by omega) (hR.ty ((ρ 13 c)) (by omega) (by omega)).2.1.2.1 (hR.ty ((ρ 13 c)) (by omega) (by omega)).2.1.2.2 (by omega) (by omega) ?_
        rw [show ν (220 + (ρ 13 c)) 1 = ρ 9 (3 * ((ρ 13 c)) + 1) from ((hR.tn ((ρ 13 c)) (by omega) (by omega)).2 1 (by omega) (by omega)).1]
        refine sw_p 1 (f' := (34, [some (2, 300 + c), some (0, a), some (0, 1)], [(0, (ν (340 + c) 1) + (ρ 9 (3 * ((ρ 13 c)) + 1))), (0, a)])) rfl ?_
        refine sw_ge2 (pt := 39) (pn := 37) rfl rfl rfl (by omega) (by omega) (fun m24 => ?_) (fun m24 => ?_)
        · skip
          refine sw_p 4 (f' := (4, [some (2, 300 + c), some (0, a), some (0, 2)], [(0, 3), (0, 2)])) rfl ?_
          refine sw_ge2 (pt := 45) (pn := 7) rfl rfl rfl (by omega) (by omega) (fun h => absurd h (by decide)) (fun _ => ?_)
          refine sw_p 2 (f' := (9, [some (2, 300 + c), some (0, a), some (0, 2)], [(2, 300 + c), (0, a)])) rfl ?_
          refine sw_hA (pn := 12) (i := 3) (v := 340 + c) rfl rfl rfl rfl rfl (hR.ca c (by omega) (by omega)).1 (hR.ca c (by omega) (by omega)).2.2.2.2.1.1 (by omega) ?_
          refine sw_p 1 (f' := (13, [some (2, 300 + c), some (0, a), some (0, 2)], [(0, 2), (2, 340 + c), (0, a)])) rfl ?_
          refine sw_ial (pn := 14) (l := 3) rfl rfl (by omega) (hR.ca c (by omega) (by omega)).2.2.2.2.1.2.1 (hR.ca c (by omega) (by omega)).2.2.2.2.1.2.2 (by omega) (by omega) ?_
          refine sw_lt2 (pt := 39) (pn := 17) rfl rfl rfl (by omega) (by omega) (fun m26 => ?_) (fun m26 => ?_)
          · skip
            refine sw_p 4 (f' := (4, [some (2, 300 + c), some (0, a), some (0, 3)], [(0, 3), (0, 3)])) rfl ?_
            refine sw_ge2 (pt := 45) (pn := 7) rfl rfl rfl (by omega) (by omega) (fun _ => ?_) (fun h => absurd h (by decide))
            refine sw_p 1 (f' := (46, [some (2, 300 + c), some (0, a), some (0, 3)], [(0, 0)])) rfl ?_
            exact sw_retZ rfl rfl rfl (by omega) ⟨by rw [if_neg (by omega)], rfl, rfl⟩
          · skip
            refine sw_p 2 (f' := (19, [some (2, 300 + c), some (0, a), some (0, 2)], [(2, 300 + c), (0, a)])) rfl ?_
            refine sw_hA (pn := 22) (i := 3) (v := 340 + c) rfl rfl rfl rfl rfl (hR.ca c (by omega) (by omega)).1 (hR.ca c (by omega) (by omega)).2.2.2.2.1.1 (by omega) ?_
            refine sw_p 1 (f' := (23, [some (2, 300 + c), some (0, a), some (0, 2)], [(0, 2), (2, 340 + c), (0, a)])) rfl ?_
            refine sw_ial (pn := 24) (l := 3) rfl rfl (by omega) (hR.ca c (by omega) (by omega)).2.2.2.2.1.2.1 (hR.ca c (by omega) (by omega)).2.2.2.2.1.2.2 (by omega) (by omega) ?_
            refine sw_p 1 (f' := (25, [some (2, 300 + c), some (0, a), some (0, 2)], [(2, 300 + c), (0, ν (340 + c) 2), (0, a)])) rfl ?_
            refine sw_hA (pn := 28) (i := 2) (v := 200 + ρ 13 c) rfl rfl rfl rfl rfl (hR.ca c (by omega) (by omega)).1 (hR.ca c (by omega) (by omega)).2.2.2.1 (by omega) ?_
            refine sw_hA (pn := 31) (i := 0) (v := 220 + (ρ 13 c)) rfl rfl rfl rfl rfl (hR.ty (ρ 13 c) (by omega) (by omega)).1 (hR.ty (ρ 13 c) (by omega) (by omega)).2.1.1 (by omega) ?_
            refine sw_p 1 (f' := (32, [some (2, 300 + c), some (0, a), some (0, 2)], [(0, 2), (2, 220 + (ρ 13 c)), (0, ν (340 + c) 2), (0, a)])) rfl ?_
            refine sw_ial (pn := 33) (l := 3) rfl rfl (by omega) (hR.ty ((ρ 13 c)) (by omega) (by omega)).2.1.2.1 (hR.ty ((ρ 13 c)) (by omega) (by omega)).2.1.2.2 (by omega) (by omega) ?_
            rw [show ν (220 + (ρ 13 c)) 2 = ρ 9 (3 * ((ρ 13 c)) + 2) from ((hR.tn ((ρ 13 c)) (by omega) (by omega)).2 2 (by omega) (by omega)).1]
            refine sw_p 1 (f' := (34, [some (2, 300 + c), some (0, a), some (0, 2)], [(0, (ν (340 + c) 2) + (ρ 9 (3 * ((ρ 13 c)) + 2))), (0, a)])) rfl ?_
            refine sw_ge2 (pt := 39) (pn := 37) rfl rfl rfl (by omega) (by omega) (fun m28 => ?_) (fun m28 => ?_)
            · skip
              refine sw_p 4 (f' := (4, [some (2, 300 + c), some (0, a), some (0, 3)], [(0, 3), (0, 3)])) rfl ?_
              refine sw_ge2 (pt := 45) (pn := 7) rfl rfl rfl (by omega) (by omega) (fun _ => ?_) (fun h => absurd h (by decide))
              refine sw_p 1 (f' := (46, [some (2, 300 + c), some (0, a), some (0, 3)], [(0, 0)])) rfl ?_
              exact sw_retZ rfl rfl rfl (by omega) ⟨by rw [if_neg (by omega)], rfl, rfl⟩
            · skip
              refine sw_p 1 (f' := (38, [some (2, 300 + c), some (0, a), some (0, 2)], [(0, 1)])) rfl ?_
              exact sw_retZ rfl rfl rfl (by omega) ⟨by rw [if_pos (by omega)], rfl, rfl⟩
        · skip
          refine sw_p 1 (f' := (38, [some (2, 300 + c), some (0, a), some (0, 1)], [(0, 1)])) rfl ?_
          exact sw_retZ rfl rfl rfl (by omega) ⟨by rw [if_pos (by omega)], rfl, rfl⟩
    · skip
      refine sw_p 1 (f' := (38, [some (2, 300 + c), some (0, a), some (0, 0)], [(0, 1)])) rfl ?_
      exact sw_retZ rfl rfl rfl (by omega) ⟨by rw [if_pos (by omega)], rfl, rfl⟩
end PC2
