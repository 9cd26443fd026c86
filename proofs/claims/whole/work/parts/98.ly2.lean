/-! the class: moveAll -/
def ly_l (ρ : mm_T) : Nat → Int → ly_S → ly_S
  | 0, _, X => X
  | n + 1, b, X => ly_l ρ n (b + 1) (ly_1 ρ b X)
/-- where laying begins: the openings but the root's are closed -/
def ly_0 (ν : mm_T) (n : Int) : ly_S := (fun c k => ν (340 + c) k, fun u => if 1 ≤ u ∧ u < n then 0 else ν (100 + u) 6, fun u => if 1 ≤ u ∧ u < n then 0 else ν (100 + u) 7, 0, 0)
/-- memory once blocks are measured -/
def mb_N (ν ρ ν1 : mm_T) : Prop := (∀ p i, ¬ (100 ≤ p ∧ p < 108 ∧ i = 8) → ν1 p i = ν p i) ∧ ∀ u, 1 ≤ u → u < ρ 0 1 → ν1 (100 + u) 8 = mo_me (ρ 0 1).toNat ρ 7 u
section LY2
variable {E : mv_E} {s ν ρ : mm_T} {f : Int → Int} {d : Nat} {a b c e i k l n o p q r t u w x y z M : Int} {X : ly_S} {Q : nm_O → mm_T → mm_T → Prop}
theorem ly_m0 {mv at_ : Int} : ly_m ν (fun c k => ν (340 + c) k, fun u => ν (100 + u) 6, fun u => ν (100 + u) 7, ν 50 13, at_) = ν := by
  funext p i
  unfold ly_m
  by_cases h1 : 340 ≤ p ∧ p < 380
  · rw [if_pos h1]
    show ν (340 + (p - 340)) i = ν p i
    rw [show 340 + (p - 340) = p by omega]
  · rw [if_neg h1]
    by_cases h2 : 100 ≤ p ∧ p < 108 ∧ i = 6
    · rw [if_pos h2]
      show ν (100 + (p - 100)) 6 = ν p i
      rw [show 100 + (p - 100) = p by omega, h2.2.2]
    · rw [if_neg h2]
      by_cases h3 : 100 ≤ p ∧ p < 108 ∧ i = 7
      · rw [if_pos h3]
        show ν (100 + (p - 100)) 7 = ν p i
        rw [show 100 + (p - 100) = p by omega, h3.2.2]
      · rw [if_neg h3]
        by_cases h4 : p = 50 ∧ i = 13
        · rw [if_pos h4, h4.1, h4.2]
        · rw [if_neg h4]
theorem ly_wz0 (hI : iv_A ρ f) (hR : pt_R s ν ρ f) : ∀ (n : Nat) (b : Int), 1 ≤ b → b + n = ρ 0 1 → (∀ o2 : Option mg_V, sw_w E d 57 (46, [some (2, 50), some (2, 300 + c), o2], []) s (ly_m ν (ly_0 ν (ρ 0 1))) Q) → sw_w E d 57 (12, [some (2, 50), some (2, 300 + c), some (0, b)], []) s (ly_m ν (fun c k => ν (340 + c) k, fun u => if 1 ≤ u ∧ u < b then 0 else ν (100 + u) 6, fun u => if 1 ≤ u ∧ u < b then 0 else ν (100 + u) 7, 0, 0)) Q := by
  intro n
  induction n with
  | zero =>
    intro b hb hn kk
    have h8 := hI.1.1
    rw [show b = ρ 0 1 by omega]
    refine sw_p 2 (f' := (14, [some (2, 50), some (2, 300 + c), some (0, ρ 0 1)], [(2, 50), (0, ρ 0 1)])) rfl ?_
    refine sw_gI (pn := 17) (i := 8) rfl rfl rfl rfl rfl (by omega) hR.sh.1 ?_
    rw [show (ly_m ν (fun c k => ν (340 + c) k, fun u => if 1 ≤ u ∧ u < ρ 0 1 then 0 else ν (100 + u) 6, fun u => if 1 ≤ u ∧ u < ρ 0 1 then 0 else ν (100 + u) 7, 0, 0)) 50 8 = ρ 0 1 from (ly_ne (by omega) (by omega) (by omega)).trans (hR.z.1)]
    refine sw_ge2 (pt := 46) (pn := 20) rfl rfl rfl (by omega) (by omega) (fun m1 => ?_) (fun h => absurd h (by omega))
    exact kk _
  | succ n ih =>
    intro b hb hn kk
    have h8 := hI.1.1
    refine sw_p 2 (f' := (14, [some (2, 50), some (2, 300 + c), some (0, b)], [(2, 50), (0, b)])) rfl ?_
    refine sw_gI (pn := 17) (i := 8) rfl rfl rfl rfl rfl (by omega) hR.sh.1 ?_
    rw [show (ly_m ν (fun c k => ν (340 + c) k, fun u => if 1 ≤ u ∧ u < b then 0 else ν (100 + u) 6, fun u => if 1 ≤ u ∧ u < b then 0 else ν (100 + u) 7, 0, 0)) 50 8 = ρ 0 1 from (ly_ne (by omega) (by omega) (by omega)).trans (hR.z.1)]
    refine sw_ge2 (pt := 46) (pn := 20) rfl rfl rfl (by omega) (by omega) (fun h => absurd h (by omega)) (fun m1 => ?_)
    refine sw_p 1 (f' := (21, [some (2, 50), some (2, 300 + c), some (0, b)], [(2, 50)])) rfl ?_
    refine sw_hA (pn := 24) (i := 0) (v := 51) rfl rfl rfl rfl rfl hR.sh.1 hR.sh.2.1.1 (by omega) ?_
    refine sw_p 1 (f' := (25, [some (2, 50), some (2, 300 + c), some (0, b)], [(0, b), (2, 51)])) rfl ?_
    refine sw_aal (pn := 26) (t := 3) (l := 8) rfl rfl rfl (by decide) (by omega) hR.sh.2.1.2.1 hR.sh.2.1.2.2 (by omega) (by omega) (fun _ => ?_) (fun h => absurd h (by rw [show (ly_m ν (fun c k => ν (340 + c) k, fun u => if 1 ≤ u ∧ u < b then 0 else ν (100 + u) 6, fun u => if 1 ≤ u ∧ u < b then 0 else ν (100 + u) 7, 0, 0)) 51 b = 100 + b from (ly_ne (by omega) (by omega) (by omega)).trans ((hR.bn b (by omega) (by omega)).1)]; omega))
    rw [show (ly_m ν (fun c k => ν (340 + c) k, fun u => if 1 ≤ u ∧ u < b then 0 else ν (100 + u) 6, fun u => if 1 ≤ u ∧ u < b then 0 else ν (100 + u) 7, 0, 0)) 51 b = 100 + b from (ly_ne (by omega) (by omega) (by omega)).trans ((hR.bn b (by omega) (by omega)).1)]
    refine sw_p 1 (f' := (27, [some (2, 50), some (2, 300 + c), some (0, b)], [(0, 0), (2, 100 + b)])) rfl ?_
    refine sw_pI (pn := 30) (i := 6) rfl rfl rfl rfl rfl (by omega) (hR.br b (by omega) (by omega)).1 ?_
    refine sw_p 1 (f' := (31, [some (2, 50), some (2, 300 + c), some (0, b)], [(2, 50)])) rfl ?_
    refine sw_hA (pn := 34) (i := 0) (v := 51) rfl rfl rfl rfl rfl hR.sh.1 hR.sh.2.1.1 (by omega) ?_
    refine sw_p 1 (f' := (35, [some (2, 50), some (2, 300 + c), some (0, b)], [(0, b), (2, 51)])) rfl ?_
    refine sw_aal (pn := 36) (t := 3) (l := 8) rfl rfl rfl (by decide) (by omega) hR.sh.2.1.2.1 hR.sh.2.1.2.2 (by omega) (by omega) (fun _ => ?_) (fun h => absurd h (by rw [show (mm_u (ly_m ν (fun c k => ν (340 + c) k, fun u => if 1 ≤ u ∧ u < b then 0 else ν (100 + u) 6, fun u => if 1 ≤ u ∧ u < b then 0 else ν (100 + u) 7, 0, 0)) (100 + b) 6 0) 51 b = 100 + b from (mm_u_ne (by omega)).trans ((ly_ne (by omega) (by omega) (by omega)).trans ((hR.bn b (by omega) (by omega)).1))]; omega))
    rw [show (mm_u (ly_m ν (fun c k => ν (340 + c) k, fun u => if 1 ≤ u ∧ u < b then 0 else ν (100 + u) 6, fun u => if 1 ≤ u ∧ u < b then 0 else ν (100 + u) 7, 0, 0)) (100 + b) 6 0) 51 b = 100 + b from (mm_u_ne (by omega)).trans ((ly_ne (by omega) (by omega) (by omega)).trans ((hR.bn b (by omega) (by omega)).1))]
    refine sw_p 1 (f' := (37, [some (2, 50), some (2, 300 + c), some (0, b)], [(0, 0), (2, 100 + b)])) rfl ?_
    refine sw_pI (pn := 40) (i := 7) rfl rfl rfl rfl rfl (by omega) (hR.br b (by omega) (by omega)).1 ?_
    refine sw_p 2 (f' := (12, [some (2, 50), some (2, 300 + c), some (0, b + 1)], [])) rfl ?_
    rw [ly_u6 (by omega), ly_u7 (by omega)]
    rw [show (fun i => if i = b then 0 else (if 1 ≤ i ∧ i < b then 0 else ν (100 + i) 6)) = (fun u => if 1 ≤ u ∧ u < b + 1 then 0 else ν (100 + u) 6) by
      funext i
      by_cases h1 : i = b
      · rw [if_pos h1, if_pos (by omega)]
      · rw [if_neg h1]
        by_cases h2 : 1 ≤ i ∧ i < b
        · rw [if_pos h2, if_pos (by omega)]
        · rw [if_neg h2, if_neg (by omega)], show (fun i => if i = b then 0 else (if 1 ≤ i ∧ i < b then 0 else ν (100 + i) 7)) = (fun u => if 1 ≤ u ∧ u < b + 1 then 0 else ν (100 + u) 7) by
      funext i
      by_cases h1 : i = b
      · rw [if_pos h1, if_pos (by omega)]
      · rw [if_neg h1]
        by_cases h2 : 1 ≤ i ∧ i < b
        · rw [if_pos h2, if_pos (by omega)]
        · rw [if_neg h2, if_neg (by omega)]]
    exact ih (b + 1) (by omega) (by omega) kk
theorem ly_wl (hI : iv_A ρ f) (hR : pt_R s ν ρ f) (hcm : 0 ≤ ρ 0 21) (h7 : ∀ u, 1 ≤ u → u < ρ 0 1 → ν (100 + u) 8 = ρ 7 u) (hb7 : ∀ u, 0 ≤ u → u < ρ 0 1 → 0 ≤ ρ 7 u ∧ ρ 7 u ≤ 4194304) : ∀ (n : Nat) (b M : Int) (X : ly_S), 0 ≤ b → b + n = ρ 0 1 → M ≤ 5000 + 98292 * b → ly_B (ρ 0 12) (ρ 0 1) M X → (∀ o2 : Option mg_V, sw_w E (d + 2) 57 (72, [some (2, 50), some (2, 300 + c), o2], []) s (ly_m ν (ly_l ρ n b X)) Q) → sw_w E (d + 2) 57 (48, [some (2, 50), some (2, 300 + c), some (0, b)], []) s (ly_m ν X) Q := by
  intro n
  induction n with
  | zero =>
    intro b M X hb hn hM hX kk
    have h8 := hI.1.1
    refine sw_p 2 (f' := (50, [some (2, 50), some (2, 300 + c), some (0, b)], [(2, 50), (0, b)])) rfl ?_
    refine sw_gI (pn := 53) (i := 8) rfl rfl rfl rfl rfl (by omega) hR.sh.1 ?_
    rw [show (ly_m ν X) 50 8 = ρ 0 1 from (ly_ne (by omega) (by omega) (by omega)).trans (hR.z.1)]
    refine sw_ge2 (pt := 72) (pn := 56) rfl rfl rfl (by omega) (by omega) (fun m1 => ?_) (fun h => absurd h (by omega))
    exact kk _
  | succ n ih =>
    intro b M X hb hn hM hX kk
    have h8 := hI.1.1
    refine sw_p 2 (f' := (50, [some (2, 50), some (2, 300 + c), some (0, b)], [(2, 50), (0, b)])) rfl ?_
    refine sw_gI (pn := 53) (i := 8) rfl rfl rfl rfl rfl (by omega) hR.sh.1 ?_
    rw [show (ly_m ν X) 50 8 = ρ 0 1 from (ly_ne (by omega) (by omega) (by omega)).trans (hR.z.1)]
    refine sw_ge2 (pt := 72) (pn := 56) rfl rfl rfl (by omega) (by omega) (fun h => absurd h (by omega)) (fun m1 => ?_)
    refine sw_p 2 (f' := (58, [some (2, 50), some (2, 300 + c), some (0, b)], [(2, 50), (2, 50)])) rfl ?_
    refine sw_hA (pn := 61) (i := 0) (v := 51) rfl rfl rfl rfl rfl hR.sh.1 hR.sh.2.1.1 (by omega) ?_
    refine sw_p 1 (f' := (62, [some (2, 50), some (2, 300 + c), some (0, b)], [(0, b), (2, 51), (2, 50)])) rfl ?_
    refine sw_aal (pn := 63) (t := 3) (l := 8) rfl rfl rfl (by decide) (by omega) hR.sh.2.1.2.1 hR.sh.2.1.2.2 (by omega) (by omega) (fun _ => ?_) (fun h => absurd h (by rw [show (ly_m ν X) 51 b = 100 + b from (ly_ne (by omega) (by omega) (by omega)).trans ((hR.bn b (by omega) (by omega)).1)]; omega))
    rw [show (ly_m ν X) 51 b = 100 + b from (ly_ne (by omega) (by omega) (by omega)).trans ((hR.bn b (by omega) (by omega)).1)]
    refine sw_cv2 (pn := 66) (q0 := mj_PT_moveAll) (q := mj_PT_layOut) (p := 50) (as2 := [(2, 100 + b)]) (L2 := [some (2, 50), some (2, 100 + b), none, none, none]) (rest := []) (s1 := s) rfl rfl rfl rfl rfl rfl rfl rfl rfl hR.sh.1 (ly_lo (M := M) hI hR hcm h7 hb7 (by omega) (by omega) hX) (fun v ν2 hv => ?_)
    obtain ⟨rfl, e2, hX2⟩ := hv
    show sw_w E _ 57 (66, [some (2, 50), some (2, 300 + c), some (0, b)], []) s ν2 _
    refine sw_p 2 (f' := (48, [some (2, 50), some (2, 300 + c), some (0, b + 1)], [])) rfl ?_
    rw [e2]
    exact ih (b + 1) (M + 98292) _ (by omega) (by omega) (by omega) hX2 kk
theorem cl_mvA {ρ2 : mm_T} (hI : iv_A ρ f) (hR : pt_R s ν ρ f) (hcm : 0 ≤ ρ 0 21) (hI2 : iv_A ρ2 f) (hE : ∀ ν1, mb_N ν ρ ν1 → pt_R s (ly_m ν1 (ly_l (mo_me (ρ 0 1).toNat ρ) (ρ 0 1).toNat 0 (ly_0 ν1 (ρ 0 1)))) ρ2 f) : sw_w E (d + 3) 57 (0, [some (2, 50), some (2, 300 + ρ 0 21), none], []) s ν (sw_vr (fun v ν' => v = none ∧ ∃ ν1, mb_N ν ρ ν1 ∧ ν' = mm_u (mm_u (ta_m (ly_m ν1 (ly_l (mo_me (ρ 0 1).toNat ρ) (ρ 0 1).toNat 0 (ly_0 ν1 (ρ 0 1)))) ρ2 2 1 (ρ2 0 12)) (300 + ρ 0 21) 6 1) 50 11 (-1)) s) := by
  have h8 := hI.1.1
  have h12 := hI.1.2.2.1
  have h21 := hI.1.2.2.2.1
  refine sw_p 1 (f' := (1, [some (2, 50), some (2, 300 + ρ 0 21), none], [(2, 50)])) rfl ?_
  refine sw_cv2 (pn := 4) (q0 := mj_PT_moveAll) (q := mj_PT_measureBlocks) (p := 50) (as2 := []) (L2 := [some (2, 50), none, none]) (rest := []) (s1 := s) rfl rfl rfl rfl rfl rfl rfl rfl rfl hR.sh.1 (cl_mb (d := d) hI hR) (fun v ν1 hv => ?_)
  obtain ⟨rfl, hv1, hv2⟩ := hv
  have hN : mb_N ν ρ ν1 := ⟨hv1, hv2⟩
  have hfr := me_fr (ρ 0 1).toNat ρ
  have hI1 : iv_A (mo_me (ρ 0 1).toNat ρ) f := iv_A_fr (fr_w hfr (by decide)) hI
  have hR1 : pt_R s ν1 (mo_me (ρ 0 1).toNat ρ) f := pt_R_fr hI.1 (fun p i h1 h2 h3 => hv1 p i h3) (rr_of (fr_w hfr (by decide))) hR
  have h0 := hfr 0 (by decide)
  have hb7 : ∀ u, 0 ≤ u → u < mo_me (ρ 0 1).toNat ρ 0 1 → 0 ≤ mo_me (ρ 0 1).toNat ρ 7 u ∧ mo_me (ρ 0 1).toNat ρ 7 u ≤ 4194304 := fun u h1 h2 => by
    have := me_b (ρ 0 1).toNat ρ hI.1 hI.2.1 hI.2.2.1 (by omega) (fun u h3 h4 => by omega) u h1 (by rw [h0] at h2; exact h2)
    have hbb : mo_bd (f u) ≤ 4194304 := by unfold mo_bd; split <;> (try split) <;> (try split) <;> (try split) <;> omega
    omega
  have hE1 := hE ν1 hN
  generalize hρ1 : mo_me (ρ 0 1).toNat ρ = ρ1 at *
  rw [show some (0, if (ρ 0 1).toNat = 0 then (0 : Int) else mo_ld ρ1 0) = some (0, mo_ld ρ1 0) by rw [if_neg (by omega)]]
  show sw_w E _ 57 (4, [some (2, 50), some (2, 300 + ρ 0 21), none], [(0, mo_ld ρ1 0)]) s ν1 _
  refine sw_p 3 (f' := (7, [some (2, 50), some (2, 300 + ρ 0 21), none], [(0, 0), (2, 50)])) rfl ?_
  refine sw_pI (pn := 10) (i := 13) rfl rfl rfl rfl rfl (by omega) hR.sh.1 ?_
  refine sw_p 2 (f' := (12, [some (2, 50), some (2, 300 + ρ 0 21), some (0, 1)], [])) rfl ?_
  have em : mm_u ν1 50 13 0 = ly_m ν1 (fun c k => ν1 (340 + c) k, fun u => if 1 ≤ u ∧ u < 1 then 0 else ν1 (100 + u) 6, fun u => if 1 ≤ u ∧ u < 1 then 0 else ν1 (100 + u) 7, 0, 0) := by
    have h := ly_u13 (ν := ν1) (cb := fun c k => ν1 (340 + c) k) (bb := fun u => ν1 (100 + u) 6) (be := fun u => ν1 (100 + u) 7) (mv := ν1 50 13) (at_ := 0) (z := 0)
    rw [ly_m0 (mv := 0)] at h
    rw [h, show (fun u => if 1 ≤ u ∧ u < (1 : Int) then 0 else ν1 (100 + u) 6) = (fun u => ν1 (100 + u) 6) by funext u; rw [if_neg (by omega)], show (fun u => if 1 ≤ u ∧ u < (1 : Int) then 0 else ν1 (100 + u) 7) = (fun u => ν1 (100 + u) 7) by funext u; rw [if_neg (by omega)]]
  rw [em]
  refine ly_wz0 (c := ρ 0 21) hI1 hR1 (ρ1 0 1 - 1).toNat 1 (by omega) (by rw [h0]; omega) (fun o2 => ?_)
  have hX0 : ly_B (ρ1 0 12) (ρ1 0 1) 4096 (ly_0 ν1 (ρ 0 1)) := by
    refine ⟨fun c k h1 h2 h3 h4 => ?_, fun u h1 h2 => ?_, by show (0 : Int) ≤ 0 ∧ (0 : Int) ≤ 4096; omega⟩
    · exact (hR1.cr c k h1 h2 h3 h4).1
    · show 0 ≤ (if 1 ≤ u ∧ u < ρ 0 1 then 0 else ν1 (100 + u) 6) ∧ (if 1 ≤ u ∧ u < ρ 0 1 then 0 else ν1 (100 + u) 6) ≤ 4096
      split
      · omega
      · rw [(hR1.bn u h1 h2).2.1]
        exact (hI1.2.1.2.1 u h1 (by rw [h0] at h2; omega)).1
  refine sw_p 2 (f' := (48, [some (2, 50), some (2, 300 + ρ 0 21), some (0, 0)], [])) rfl ?_
  rw [h0]
  refine ly_wl (c := ρ 0 21) (d := d + 1) hI1 hR1 (by rw [h0]; exact hcm) (by rw [h0]; exact hv2) hb7 (ρ 0 1).toNat 0 4096 _ (by omega) (by rw [h0]; omega) (by omega) hX0 (fun o2 => ?_)
  refine sw_p 3 (f' := (75, [some (2, 50), some (2, 300 + ρ 0 21), o2], [(0, 1), (0, 2), (2, 50)])) rfl ?_
  refine sw_cv1 (pn := 78) (q0 := mj_PT_moveAll) (q := mj_PT_turnAll) (p := 50) (as2 := [(0, 2), (0, 1)]) (L2 := [some (2, 50), some (0, 2), some (0, 1), none]) (rest := []) (v := none) (s1 := s) (ν1 := (ta_m (ly_m ν1 (ly_l ρ1 (ρ 0 1).toNat 0 (ly_0 ν1 (ρ 0 1)))) ρ2 2 1 (ρ2 0 12))) rfl rfl rfl rfl rfl rfl rfl rfl rfl hR.sh.1 (cl_ta hI2 hE1 (by omega)) ?_
  show sw_w E _ 57 (78, [some (2, 50), some (2, 300 + ρ 0 21), o2], []) s (ta_m (ly_m ν1 (ly_l ρ1 (ρ 0 1).toNat 0 (ly_0 ν1 (ρ 0 1)))) ρ2 2 1 (ρ2 0 12)) _
  refine sw_p 2 (f' := (80, [some (2, 50), some (2, 300 + ρ 0 21), o2], [(0, 1), (2, 300 + ρ 0 21)])) rfl ?_
  refine sw_pI (pn := 83) (i := 6) rfl rfl rfl rfl rfl (by omega) (hR.ca (ρ 0 21) (by omega) (by omega)).1 ?_
  refine sw_p 2 (f' := (85, [some (2, 50), some (2, 300 + ρ 0 21), o2], [(3, 0), (2, 50)])) rfl ?_
  refine sw_pN (pn := 88) (i := 11) rfl rfl rfl rfl rfl (by omega) hR.sh.1 ?_
  exact sw_retV rfl rfl rfl ⟨_, rfl, rfl, rfl, ν1, hN, rfl⟩
end LY2
