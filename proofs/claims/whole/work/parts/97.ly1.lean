/-! the class: layRanges, layBlock, layOut -/
/-- the class's state while all is laid: begins of ranges, begins and ends of openings, how many moved, where the next is laid -/
abbrev ly_S : Type := (Int → Int → Int) × (Int → Int) × (Int → Int) × Int × Int
def ly_m (ν : mm_T) (X : ly_S) : mm_T := fun p i => if 340 ≤ p ∧ p < 380 then X.1 (p - 340) i else if 100 ≤ p ∧ p < 108 ∧ i = 6 then X.2.1 (p - 100) else if 100 ≤ p ∧ p < 108 ∧ i = 7 then X.2.2.1 (p - 100) else if p = 50 ∧ i = 13 then X.2.2.2.1 else ν p i
def ly_k (ρ : mm_T) (z c k : Int) (X : ly_S) : ly_S := if ρ 9 (3 * ρ 13 c + k) = z then (fun c2 k2 => if c2 = c ∧ k2 = k then X.2.2.2.2 else X.1 c2 k2, X.2.1, X.2.2.1, if c ≠ ρ 0 21 ∧ X.1 c k ≠ X.2.2.2.2 then X.2.2.2.1 + 1 else X.2.2.2.1, X.2.2.2.2 + z) else X
def ly_u (ρ : mm_T) (z u : Int) (X : ly_S) : ly_S := if 100 ≤ u then ly_k ρ z (u - 100) 2 (ly_k ρ z (u - 100) 1 (ly_k ρ z (u - 100) 0 X)) else if 0 ≤ u ∧ ρ 7 u = z then (X.1, fun i => if i = u then X.2.2.2.2 else X.2.1 i, fun i => if i = u then X.2.2.2.2 + z else X.2.2.1 i, X.2.2.2.1, X.2.2.2.2 + z) else X
def ly_s (ρ : mm_T) (z : Int) : Nat → Int → ly_S → ly_S
  | 0, _, X => X
  | n + 1, i, X => ly_s ρ z n (i + 1) (ly_u ρ z (ρ 2 i) X)
def ly_z (ρ : mm_T) (b : Int) : List Int → ly_S → ly_S
  | [], X => X
  | z :: r, X => ly_z ρ b r (ly_s ρ z 4 (4 * b) X)
/-- a bridge laid out: from its begin on -/
def ly_1 (ρ : mm_T) (b : Int) (X : ly_S) : ly_S := ly_z ρ b pn_l (X.1, X.2.1, X.2.2.1, X.2.2.2.1, X.2.1 b)
section LY
variable {E : mv_E} {s ν ρ : mm_T} {f : Int → Int} {d : Nat} {a b c e i k l n o p q r t u w x y z M : Int} {X : ly_S} {Q : nm_O → mm_T → mm_T → Prop}
theorem ly_ne (h1 : ¬ (340 ≤ p ∧ p < 380)) (h2 : ¬ (100 ≤ p ∧ p < 108 ∧ (i = 6 ∨ i = 7))) (h3 : ¬ (p = 50 ∧ i = 13)) : ly_m ν X p i = ν p i := by
  unfold ly_m
  rw [if_neg h1, if_neg (by omega), if_neg (by omega), if_neg h3]
theorem ly_c (h : 0 ≤ c ∧ c < 40) : ly_m ν X (340 + c) k = X.1 c k := by
  unfold ly_m
  rw [if_pos (by omega), show 340 + c - 340 = c by omega]
theorem ly_6 (h : 0 ≤ u ∧ u < 8) : ly_m ν X (100 + u) 6 = X.2.1 u := by
  unfold ly_m
  rw [if_neg (by omega), if_pos (by omega), show 100 + u - 100 = u by omega]
theorem ly_7 (h : 0 ≤ u ∧ u < 8) : ly_m ν X (100 + u) 7 = X.2.2.1 u := by
  unfold ly_m
  rw [if_neg (by omega), if_neg (by omega), if_pos (by omega), show 100 + u - 100 = u by omega]
theorem ly_13 : ly_m ν X 50 13 = X.2.2.2.1 := by
  unfold ly_m
  rw [if_neg (by omega), if_neg (by omega), if_neg (by omega), if_pos (by omega)]
theorem ly_uc {cb : Int → Int → Int} {bb be : Int → Int} {mv at_ : Int} (h : 0 ≤ c ∧ c < 40) : mm_u (ly_m ν (cb, bb, be, mv, at_)) (340 + c) k z = ly_m ν (fun c2 k2 => if c2 = c ∧ k2 = k then z else cb c2 k2, bb, be, mv, at_) := by
  funext p i
  unfold mm_u ly_m
  by_cases h1 : 340 ≤ p ∧ p < 380
  · rw [if_pos h1, if_pos h1]
    by_cases h2 : p = 340 + c ∧ i = k
    · rw [if_pos h2]
      exact (if_pos ⟨by omega, h2.2⟩).symm
    · rw [if_neg h2]
      exact (if_neg (fun h3 => h2 ⟨by omega, h3.2⟩)).symm
  · rw [if_neg (by omega), if_neg h1, if_neg h1]
theorem ly_u13 {cb : Int → Int → Int} {bb be : Int → Int} {mv at_ : Int} : mm_u (ly_m ν (cb, bb, be, mv, at_)) 50 13 z = ly_m ν (cb, bb, be, z, at_) := by
  funext p i
  unfold mm_u ly_m
  by_cases h1 : p = 50 ∧ i = 13
  · rw [if_pos h1, if_neg (by omega), if_neg (by omega), if_neg (by omega), if_pos h1]
  · rw [if_neg h1, if_neg h1, if_neg h1]
theorem ly_u6 {cb : Int → Int → Int} {bb be : Int → Int} {mv at_ : Int} (h : 0 ≤ u ∧ u < 8) : mm_u (ly_m ν (cb, bb, be, mv, at_)) (100 + u) 6 z = ly_m ν (cb, fun i => if i = u then z else bb i, be, mv, at_) := by
  funext p i
  unfold mm_u ly_m
  by_cases h1 : 340 ≤ p ∧ p < 380
  · rw [if_neg (by omega), if_pos h1, if_pos h1]
  · rw [if_neg h1, if_neg h1]
    by_cases h2 : 100 ≤ p ∧ p < 108 ∧ i = 6
    · rw [if_pos h2, if_pos h2]
      by_cases h3 : p = 100 + u ∧ i = 6
      · rw [if_pos h3]
        exact (if_pos (by omega)).symm
      · rw [if_neg h3]
        exact (if_neg (by omega)).symm
    · rw [if_neg h2, if_neg h2, if_neg (by omega)]
theorem ly_u7 {cb : Int → Int → Int} {bb be : Int → Int} {mv at_ : Int} (h : 0 ≤ u ∧ u < 8) : mm_u (ly_m ν (cb, bb, be, mv, at_)) (100 + u) 7 z = ly_m ν (cb, bb, fun i => if i = u then z else be i, mv, at_) := by
  funext p i
  unfold mm_u ly_m
  by_cases h1 : 340 ≤ p ∧ p < 380
  · rw [if_neg (by omega), if_pos h1, if_pos h1]
  · rw [if_neg h1, if_neg h1]
    by_cases h2 : 100 ≤ p ∧ p < 108 ∧ i = 6
    · rw [if_neg (by omega), if_pos h2, if_pos h2]
    · rw [if_neg h2, if_neg h2]
      by_cases h4 : 100 ≤ p ∧ p < 108 ∧ i = 7
      · rw [if_pos h4, if_pos h4]
        by_cases h3 : p = 100 + u ∧ i = 7
        · rw [if_pos h3]
          exact (if_pos (by omega)).symm
        · rw [if_neg h3]
          exact (if_neg (by omega)).symm
      · rw [if_neg h4, if_neg h4, if_neg (by omega)]
/-- the state's last part is no memory -/
theorem ly_at {cb : Int → Int → Int} {bb be : Int → Int} {mv a1 a2 : Int} : ly_m ν (cb, bb, be, mv, a1) = ly_m ν (cb, bb, be, mv, a2) := rfl
/-- bounds while laying -/
def ly_B (N N2 M : Int) (X : ly_S) : Prop := (∀ c k, 0 ≤ c → c < N → 0 ≤ k → k < 3 → 0 ≤ X.1 c k ∧ X.1 c k ≤ M) ∧ (∀ u, 0 ≤ u → u < N2 → 0 ≤ X.2.1 u ∧ X.2.1 u ≤ M) ∧ (0 ≤ X.2.2.2.2 ∧ X.2.2.2.2 ≤ M)
theorem ly_B_w {N N2 M2 : Int} (h : ly_B N N2 M X) (h2 : M ≤ M2) : ly_B N N2 M2 X := ⟨fun c k a b e g => ⟨(h.1 c k a b e g).1, by have := (h.1 c k a b e g).2; omega⟩, fun u a b => ⟨(h.2.1 u a b).1, by have := (h.2.1 u a b).2; omega⟩, h.2.2.1, by have := h.2.2.2; omega⟩
theorem ly_B_k {N N2 : Int} (hz : 0 ≤ z) (h : ly_B N N2 M X) : ly_B N N2 (M + z) (ly_k ρ z c k X) := by
  unfold ly_k
  split
  · refine ⟨fun c2 k2 a b e g => ?_, fun u a b => ?_, ?_⟩
    · have h1 := h.1 c2 k2 a b e g
      have h2 := h.2.2
      show 0 ≤ (if c2 = c ∧ k2 = k then X.2.2.2.2 else X.1 c2 k2) ∧ (if c2 = c ∧ k2 = k then X.2.2.2.2 else X.1 c2 k2) ≤ M + z
      split <;> omega
    · have h1 := h.2.1 u a b
      show 0 ≤ X.2.1 u ∧ X.2.1 u ≤ M + z
      omega
    · have h2 := h.2.2
      show 0 ≤ X.2.2.2.2 + z ∧ X.2.2.2.2 + z ≤ M + z
      omega
  · exact ly_B_w h (by omega)
theorem ly_B_u {N N2 : Int} (hz : 0 ≤ z) (h : ly_B N N2 M X) : ly_B N N2 (M + 3 * z) (ly_u ρ z u X) := by
  unfold ly_u
  split
  · exact ly_B_w (ly_B_k hz (ly_B_k hz (ly_B_k hz h))) (by omega)
  · split
    · refine ⟨fun c2 k2 a b e g => ?_, fun u2 a b => ?_, ?_⟩
      · have h1 := h.1 c2 k2 a b e g
        show 0 ≤ X.1 c2 k2 ∧ X.1 c2 k2 ≤ M + 3 * z
        omega
      · have h1 := h.2.1 u2 a b
        have h2 := h.2.2
        show 0 ≤ (if u2 = u then X.2.2.2.2 else X.2.1 u2) ∧ (if u2 = u then X.2.2.2.2 else X.2.1 u2) ≤ M + 3 * z
        split <;> omega
      · have h2 := h.2.2
        show 0 ≤ X.2.2.2.2 + z ∧ X.2.2.2.2 + z ≤ M + 3 * z
        omega
    · exact ly_B_w h (by omega)
theorem ly_wk (hI : iv_A ρ f) (hR : pt_R s ν ρ f) (hcm : 0 ≤ ρ 0 21) (hc : 0 ≤ c ∧ c < ρ 0 12) (hk : 0 ≤ k ∧ k < 3) (hz : 0 ≤ z ∧ z ≤ 4096) (hM : M ≤ 100000000) (hX : ly_B (ρ 0 12) (ρ 0 1) M X) (kk : sw_w E d 59 (6, [some (2, 50), some (2, 300 + c), some (0, z), some (0, y), some (0, (ly_k ρ z c k X).2.2.2.2), some (0, k + 1)], []) s (ly_m ν (ly_k ρ z c k X)) Q) : sw_w E d 59 (6, [some (2, 50), some (2, 300 + c), some (0, z), some (0, y), some (0, X.2.2.2.2), some (0, k)], []) s (ly_m ν X) Q := by
  have h12 := hI.1.2.2.1
  have hcd := hI.1.cd c hc.1 (by omega)
  have hK := hI.2.2.2.2.2.1 c hc.1 hc.2
  have hsz := hI.1.2.2.2.2.2.2.2.2.2.2.2.1 (3 * ρ 13 c + k) (by omega) (by omega)
  have h21 := hI.1.2.2.2.1
  have hb1 := hX.1 c k hc.1 hc.2 hk.1 hk.2
  have hb2 := hX.2.2
  obtain ⟨cb, bb, be, mv, at_⟩ := X
  change 0 ≤ cb c k ∧ cb c k ≤ M at hb1
  change 0 ≤ at_ ∧ at_ ≤ M at hb2
  by_cases hq : ρ 9 (3 * ρ 13 c + k) = z
  · skip
    refine sw_p 2 (f' := (9, [some (2, 50), some (2, 300 + c), some (0, z), some (0, y), some (0, at_), some (0, k)], [(0, 3), (0, k)])) rfl ?_
    refine sw_ge2 (pt := 77) (pn := 12) rfl rfl rfl (by omega) (by omega) (fun h => absurd h (by omega)) (fun m1 => ?_)
    refine sw_p 1 (f' := (13, [some (2, 50), some (2, 300 + c), some (0, z), some (0, y), some (0, at_), some (0, k)], [(2, 300 + c)])) rfl ?_
    refine sw_hA (pn := 16) (i := 2) (v := 200 + ρ 13 c) rfl rfl rfl rfl rfl (hR.ca c (by omega) (by omega)).1 (hR.ca c (by omega) (by omega)).2.2.2.1 (by omega) ?_
    refine sw_hA (pn := 19) (i := 0) (v := 220 + (ρ 13 c)) rfl rfl rfl rfl rfl (hR.ty (ρ 13 c) (by omega) (by omega)).1 (hR.ty (ρ 13 c) (by omega) (by omega)).2.1.1 (by omega) ?_
    refine sw_p 1 (f' := (21, [some (2, 50), some (2, 300 + c), some (0, z), some (0, y), some (0, at_), some (0, k)], [(0, k), (2, 220 + (ρ 13 c))])) rfl ?_
    refine sw_ial (pn := 22) (l := 3) rfl rfl (by omega) (hR.ty (ρ 13 c) (by omega) (by omega)).2.1.2.1 (hR.ty (ρ 13 c) (by omega) (by omega)).2.1.2.2 (by omega) (by omega) ?_
    rw [show (ly_m ν (cb, bb, be, mv, at_)) (220 + (ρ 13 c)) k = ρ 9 (3 * (ρ 13 c) + k) from (ly_ne (by omega) (by omega) (by omega)).trans (((hR.tn (ρ 13 c) (by omega) (by omega)).2 k (by omega) (by omega)).1)]
    refine sw_p 1 (f' := (23, [some (2, 50), some (2, 300 + c), some (0, z), some (0, y), some (0, at_), some (0, k)], [(0, z), (0, ρ 9 (3 * (ρ 13 c) + k))])) rfl ?_
    refine sw_ne2 (pt := 71) (pn := 26) rfl rfl rfl (by omega) (by omega) (fun h => absurd h (by omega)) (fun m2 => ?_)
    refine sw_p 2 (f' := (28, [some (2, 50), some (2, 300 + c), some (0, z), some (0, y), some (0, at_), some (0, k)], [(2, 50), (2, 300 + c)])) rfl ?_
    refine sw_gA (pn := 31) (i := 11) rfl rfl rfl rfl rfl (by omega) hR.sh.1 (fun _ => ?_) (fun h => absurd h (by rw [show (ly_m ν (cb, bb, be, mv, at_)) 50 11 = 300 + ρ 0 21 from (ly_ne (by omega) (by omega) (by omega)).trans (((hR.z.2.2.2.1).trans (if_neg (by omega))))]; omega))
    rw [show (ly_m ν (cb, bb, be, mv, at_)) 50 11 = 300 + ρ 0 21 from (ly_ne (by omega) (by omega) (by omega)).trans (((hR.z.2.2.2.1).trans (if_neg (by omega))))]
    refine sw_acq (pt := 56) (pn := 34) rfl rfl rfl (by rw [(hR.ca c (by omega) (by omega)).1]; omega) (by rw [(hR.ca (ρ 0 21) (by omega) (by omega)).1]; omega) (fun m3 => ?_) (fun m3 => ?_)
    · skip
      refine sw_p 1 (f' := (57, [some (2, 50), some (2, 300 + c), some (0, z), some (0, y), some (0, at_), some (0, k)], [(2, 300 + c)])) rfl ?_
      refine sw_hA (pn := 60) (i := 3) (v := 340 + c) rfl rfl rfl rfl rfl (hR.ca c (by omega) (by omega)).1 (hR.ca c (by omega) (by omega)).2.2.2.2.1.1 (by omega) ?_
      refine sw_p 2 (f' := (64, [some (2, 50), some (2, 300 + c), some (0, z), some (0, y), some (0, at_), some (0, k)], [(0, at_), (0, k), (2, 340 + c)])) rfl ?_
      refine sw_ias (pn := 65) (l := 3) rfl rfl (by omega) (hR.ca c (by omega) (by omega)).2.2.2.2.1.2.1 (hR.ca c (by omega) (by omega)).2.2.2.2.1.2.2 (by omega) (by omega) ?_
      refine sw_p 6 (f' := (6, [some (2, 50), some (2, 300 + c), some (0, z), some (0, y), some (0, at_ + z), some (0, k + 1)], [])) rfl ?_
      rw [ly_uc (by omega)]
      rw [show ly_k ρ z c k (cb, bb, be, mv, at_) = (fun c2 k2 => if c2 = c ∧ k2 = k then at_ else cb c2 k2, bb, be, mv, at_ + z) by unfold ly_k; rw [if_pos hq, if_neg (by show ¬ (c ≠ ρ 0 21 ∧ cb c k ≠ at_); omega)]] at kk
      exact kk
    · skip
      refine sw_p 1 (f' := (35, [some (2, 50), some (2, 300 + c), some (0, z), some (0, y), some (0, at_), some (0, k)], [(2, 300 + c)])) rfl ?_
      refine sw_hA (pn := 38) (i := 3) (v := 340 + c) rfl rfl rfl rfl rfl (hR.ca c (by omega) (by omega)).1 (hR.ca c (by omega) (by omega)).2.2.2.2.1.1 (by omega) ?_
      refine sw_p 1 (f' := (40, [some (2, 50), some (2, 300 + c), some (0, z), some (0, y), some (0, at_), some (0, k)], [(0, k), (2, 340 + c)])) rfl ?_
      refine sw_ial (pn := 41) (l := 3) rfl rfl (by omega) (hR.ca c (by omega) (by omega)).2.2.2.2.1.2.1 (hR.ca c (by omega) (by omega)).2.2.2.2.1.2.2 (by omega) (by omega) ?_
      rw [show (ly_m ν (cb, bb, be, mv, at_)) (340 + c) k = cb c k from ly_c (by omega)]
      refine sw_p 1 (f' := (43, [some (2, 50), some (2, 300 + c), some (0, z), some (0, y), some (0, at_), some (0, k)], [(0, at_), (0, cb c k)])) rfl ?_
      refine sw_eq2 (pt := 56) (pn := 46) rfl rfl rfl (by omega) (by omega) (fun m4 => ?_) (fun m4 => ?_)
      · skip
        refine sw_p 1 (f' := (57, [some (2, 50), some (2, 300 + c), some (0, z), some (0, y), some (0, at_), some (0, k)], [(2, 300 + c)])) rfl ?_
        refine sw_hA (pn := 60) (i := 3) (v := 340 + c) rfl rfl rfl rfl rfl (hR.ca c (by omega) (by omega)).1 (hR.ca c (by omega) (by omega)).2.2.2.2.1.1 (by omega) ?_
        refine sw_p 2 (f' := (64, [some (2, 50), some (2, 300 + c), some (0, z), some (0, y), some (0, at_), some (0, k)], [(0, at_), (0, k), (2, 340 + c)])) rfl ?_
        refine sw_ias (pn := 65) (l := 3) rfl rfl (by omega) (hR.ca c (by omega) (by omega)).2.2.2.2.1.2.1 (hR.ca c (by omega) (by omega)).2.2.2.2.1.2.2 (by omega) (by omega) ?_
        refine sw_p 6 (f' := (6, [some (2, 50), some (2, 300 + c), some (0, z), some (0, y), some (0, at_ + z), some (0, k + 1)], [])) rfl ?_
        rw [ly_uc (by omega)]
        rw [show ly_k ρ z c k (cb, bb, be, mv, at_) = (fun c2 k2 => if c2 = c ∧ k2 = k then at_ else cb c2 k2, bb, be, mv, at_ + z) by unfold ly_k; rw [if_pos hq, if_neg (by show ¬ (c ≠ ρ 0 21 ∧ cb c k ≠ at_); omega)]] at kk
        exact kk
      · skip
        refine sw_p 2 (f' := (48, [some (2, 50), some (2, 300 + c), some (0, z), some (0, y), some (0, at_), some (0, k)], [(2, 50), (2, 50)])) rfl ?_
        refine sw_gI (pn := 51) (i := 13) rfl rfl rfl rfl rfl (by omega) hR.sh.1 ?_
        rw [show (ly_m ν (cb, bb, be, mv, at_)) 50 13 = mv from ly_13]
        refine sw_p 2 (f' := (53, [some (2, 50), some (2, 300 + c), some (0, z), some (0, y), some (0, at_), some (0, k)], [(0, mv + 1), (2, 50)])) rfl ?_
        refine sw_pI (pn := 56) (i := 13) rfl rfl rfl rfl rfl (by omega) hR.sh.1 ?_
        rw [ly_u13]
        refine sw_p 1 (f' := (57, [some (2, 50), some (2, 300 + c), some (0, z), some (0, y), some (0, at_), some (0, k)], [(2, 300 + c)])) rfl ?_
        refine sw_hA (pn := 60) (i := 3) (v := 340 + c) rfl rfl rfl rfl rfl (hR.ca c (by omega) (by omega)).1 (hR.ca c (by omega) (by omega)).2.2.2.2.1.1 (by omega) ?_
        refine sw_p 2 (f' := (64, [some (2, 50), some (2, 300 + c), some (0, z), some (0, y), some (0, at_), some (0, k)], [(0, at_), (0, k), (2, 340 + c)])) rfl ?_
        refine sw_ias (pn := 65) (l := 3) rfl rfl (by omega) (hR.ca c (by omega) (by omega)).2.2.2.2.1.2.1 (hR.ca c (by omega) (by omega)).2.2.2.2.1.2.2 (by omega) (by omega) ?_
        refine sw_p 6 (f' := (6, [some (2, 50), some (2, 300 + c), some (0, z), some (0, y), some (0, at_ + z), some (0, k + 1)], [])) rfl ?_
        rw [ly_uc (by omega)]
        rw [show ly_k ρ z c k (cb, bb, be, mv, at_) = (fun c2 k2 => if c2 = c ∧ k2 = k then at_ else cb c2 k2, bb, be, mv + 1, at_ + z) by unfold ly_k; rw [if_pos hq, if_pos (by exact ⟨by omega, by omega⟩)]] at kk
        exact kk
  · rw [show ly_k ρ z c k (cb, bb, be, mv, at_) = (cb, bb, be, mv, at_) from if_neg hq] at kk
    refine sw_p 2 (f' := (9, [some (2, 50), some (2, 300 + c), some (0, z), some (0, y), some (0, at_), some (0, k)], [(0, 3), (0, k)])) rfl ?_
    refine sw_ge2 (pt := 77) (pn := 12) rfl rfl rfl (by omega) (by omega) (fun h => absurd h (by omega)) (fun m1 => ?_)
    refine sw_p 1 (f' := (13, [some (2, 50), some (2, 300 + c), some (0, z), some (0, y), some (0, at_), some (0, k)], [(2, 300 + c)])) rfl ?_
    refine sw_hA (pn := 16) (i := 2) (v := 200 + ρ 13 c) rfl rfl rfl rfl rfl (hR.ca c (by omega) (by omega)).1 (hR.ca c (by omega) (by omega)).2.2.2.1 (by omega) ?_
    refine sw_hA (pn := 19) (i := 0) (v := 220 + (ρ 13 c)) rfl rfl rfl rfl rfl (hR.ty (ρ 13 c) (by omega) (by omega)).1 (hR.ty (ρ 13 c) (by omega) (by omega)).2.1.1 (by omega) ?_
    refine sw_p 1 (f' := (21, [some (2, 50), some (2, 300 + c), some (0, z), some (0, y), some (0, at_), some (0, k)], [(0, k), (2, 220 + (ρ 13 c))])) rfl ?_
    refine sw_ial (pn := 22) (l := 3) rfl rfl (by omega) (hR.ty (ρ 13 c) (by omega) (by omega)).2.1.2.1 (hR.ty (ρ 13 c) (by omega) (by omega)).2.1.2.2 (by omega) (by omega) ?_
    rw [show (ly_m ν (cb, bb, be, mv, at_)) (220 + (ρ 13 c)) k = ρ 9 (3 * (ρ 13 c) + k) from (ly_ne (by omega) (by omega) (by omega)).trans (((hR.tn (ρ 13 c) (by omega) (by omega)).2 k (by omega) (by omega)).1)]
    refine sw_p 1 (f' := (23, [some (2, 50), some (2, 300 + c), some (0, z), some (0, y), some (0, at_), some (0, k)], [(0, z), (0, ρ 9 (3 * (ρ 13 c) + k))])) rfl ?_
    refine sw_ne2 (pt := 71) (pn := 26) rfl rfl rfl (by omega) (by omega) (fun m2 => ?_) (fun h => absurd h (by omega))
    refine sw_p 2 (f' := (6, [some (2, 50), some (2, 300 + c), some (0, z), some (0, y), some (0, at_), some (0, k + 1)], [])) rfl ?_
    exact kk
theorem ly_lr (hI : iv_A ρ f) (hR : pt_R s ν ρ f) (hcm : 0 ≤ ρ 0 21) (hc : 0 ≤ c ∧ c < ρ 0 12) (hz : 0 ≤ z ∧ z ≤ 4096) (hM : M ≤ 90000000) (hX : ly_B (ρ 0 12) (ρ 0 1) M X) : sw_w E d 59 (0, [some (2, 50), some (2, 300 + c), some (0, z), some (0, X.2.2.2.2), none, none], []) s (ly_m ν X) (sw_is (some (0, (ly_k ρ z c 2 (ly_k ρ z c 1 (ly_k ρ z c 0 X))).2.2.2.2)) s (ly_m ν (ly_k ρ z c 2 (ly_k ρ z c 1 (ly_k ρ z c 0 X))))) := by
  refine sw_p 4 (f' := (6, [some (2, 50), some (2, 300 + c), some (0, z), some (0, X.2.2.2.2), some (0, X.2.2.2.2), some (0, 0)], [])) rfl ?_
  refine ly_wk (k := 0) (M := M) hI hR hcm hc (by omega) hz (by omega) hX ?_
  refine ly_wk (k := 0 + 1) (M := M + z) hI hR hcm hc (by omega) hz (by omega) (ly_B_k hz.1 hX) ?_
  refine ly_wk (k := 0 + 1 + 1) (M := M + z + z) hI hR hcm hc (by omega) hz (by omega) (ly_B_k hz.1 (ly_B_k hz.1 hX)) ?_
  show sw_w E d 59 (6, [some (2, 50), some (2, 300 + c), some (0, z), some (0, X.2.2.2.2), some (0, (ly_k ρ z c 2 (ly_k ρ z c 1 (ly_k ρ z c 0 X))).2.2.2.2), some (0, 3)], []) s (ly_m ν (ly_k ρ z c 2 (ly_k ρ z c 1 (ly_k ρ z c 0 X)))) _
  refine sw_p 2 (f' := (9, [some (2, 50), some (2, 300 + c), some (0, z), some (0, X.2.2.2.2), some (0, (ly_k ρ z c 2 (ly_k ρ z c 1 (ly_k ρ z c 0 X))).2.2.2.2), some (0, 3)], [(0, 3), (0, 3)])) rfl ?_
  refine sw_ge2 (pt := 77) (pn := 12) rfl rfl rfl (by omega) (by omega) (fun _ => ?_) (fun h => absurd h (by decide))
  refine sw_p 1 (f' := (79, [some (2, 50), some (2, 300 + c), some (0, z), some (0, X.2.2.2.2), some (0, (ly_k ρ z c 2 (ly_k ρ z c 1 (ly_k ρ z c 0 X))).2.2.2.2), some (0, 3)], [(0, (ly_k ρ z c 2 (ly_k ρ z c 1 (ly_k ρ z c 0 X))).2.2.2.2)])) rfl ?_
  exact sw_retI rfl rfl rfl ⟨rfl, rfl, rfl⟩
theorem ly_lb (hI : iv_A ρ f) (hR : pt_R s ν ρ f) (hu : 1 ≤ u ∧ u < ρ 0 1) (h7 : ν (100 + u) 8 = ρ 7 u) (hb7 : 0 ≤ ρ 7 u ∧ ρ 7 u ≤ 4194304) (hz : 0 ≤ z ∧ z ≤ 4096) : sw_w E d 60 (0, [some (2, 100 + u), some (0, z), some (0, X.2.2.2.2)], []) s (ly_m ν X) (sw_is (some (0, (ly_u ρ z u X).2.2.2.2)) s (ly_m ν (ly_u ρ z u X))) := by
  have h8 := hI.1.1
  obtain ⟨cb, bb, be, mv, at_⟩ := X
  by_cases hq : ρ 7 u = z
  · rw [show ly_u ρ z u (cb, bb, be, mv, at_) = (cb, fun i => if i = u then at_ else bb i, fun i => if i = u then at_ + z else be i, mv, at_ + z) from (if_neg (by omega)).trans (if_pos ⟨by omega, hq⟩)]
    refine sw_p 1 (f' := (1, [some (2, 100 + u), some (0, z), some (0, at_)], [(2, 100 + u)])) rfl ?_
    refine sw_gI (pn := 4) (i := 8) rfl rfl rfl rfl rfl (by omega) (hR.br u (by omega) (by omega)).1 ?_
    rw [show (ly_m ν (cb, bb, be, mv, at_)) (100 + u) 8 = ρ 7 u from (ly_ne (by omega) (by omega) (by omega)).trans h7]
    refine sw_p 1 (f' := (5, [some (2, 100 + u), some (0, z), some (0, at_)], [(0, z), (0, ρ 7 u)])) rfl ?_
    refine sw_eq2 (pt := 10) (pn := 8) rfl rfl rfl (by omega) (by omega) (fun m1 => ?_) (fun h => absurd h (by omega))
    refine sw_p 2 (f' := (12, [some (2, 100 + u), some (0, z), some (0, at_)], [(0, at_), (2, 100 + u)])) rfl ?_
    refine sw_pI (pn := 15) (i := 6) rfl rfl rfl rfl rfl (by omega) (hR.br u (by omega) (by omega)).1 ?_
    refine sw_p 4 (f' := (19, [some (2, 100 + u), some (0, z), some (0, at_)], [(0, at_ + z), (2, 100 + u)])) rfl ?_
    refine sw_pI (pn := 22) (i := 7) rfl rfl rfl rfl rfl (by omega) (hR.br u (by omega) (by omega)).1 ?_
    rw [ly_u6 (by omega), ly_u7 (by omega)]
    refine sw_p 1 (f' := (23, [some (2, 100 + u), some (0, z), some (0, at_)], [(2, 100 + u)])) rfl ?_
    refine sw_gI (pn := 26) (i := 7) rfl rfl rfl rfl rfl (by omega) (hR.br u (by omega) (by omega)).1 ?_
    rw [show (ly_m ν (cb, fun i => if i = u then at_ else bb i, fun i => if i = u then at_ + z else be i, mv, at_)) (100 + u) 7 = at_ + z from (ly_7 (by omega)).trans (if_pos rfl)]
    exact sw_retI rfl rfl rfl ⟨rfl, rfl, rfl⟩
  · rw [show ly_u ρ z u (cb, bb, be, mv, at_) = (cb, bb, be, mv, at_) from (if_neg (by omega)).trans (if_neg (fun h => hq h.2))]
    refine sw_p 1 (f' := (1, [some (2, 100 + u), some (0, z), some (0, at_)], [(2, 100 + u)])) rfl ?_
    refine sw_gI (pn := 4) (i := 8) rfl rfl rfl rfl rfl (by omega) (hR.br u (by omega) (by omega)).1 ?_
    rw [show (ly_m ν (cb, bb, be, mv, at_)) (100 + u) 8 = ρ 7 u from (ly_ne (by omega) (by omega) (by omega)).trans h7]
    refine sw_p 1 (f' := (5, [some (2, 100 + u), some (0, z), some (0, at_)], [(0, z), (0, ρ 7 u)])) rfl ?_
    refine sw_eq2 (pt := 10) (pn := 8) rfl rfl rfl (by omega) (by omega) (fun h => absurd h (by omega)) (fun m1 => ?_)
    refine sw_p 1 (f' := (9, [some (2, 100 + u), some (0, z), some (0, at_)], [(0, at_)])) rfl ?_
    exact sw_retI rfl rfl rfl ⟨rfl, rfl, rfl⟩
theorem ly_ws (hI : iv_A ρ f) (hR : pt_R s ν ρ f) (hcm : 0 ≤ ρ 0 21) (h7 : ∀ u, 1 ≤ u → u < ρ 0 1 → ν (100 + u) 8 = ρ 7 u) (hb7 : ∀ u, 0 ≤ u → u < ρ 0 1 → 0 ≤ ρ 7 u ∧ ρ 7 u ≤ 4194304) (hb : 0 ≤ b ∧ b < ρ 0 1) (hz : 0 ≤ z ∧ z ≤ 4096) (hM : M ≤ 80000000) : ∀ (n : Nat) (i : Int) (X : ly_S), 0 ≤ i → i + n = 4 → ly_B (ρ 0 12) (ρ 0 1) (M + 3 * z * i) X → (∀ o4 : Option mg_V, ly_B (ρ 0 12) (ρ 0 1) (M + 3 * z * 4) (ly_s ρ z n (4 * b + i) X) → sw_w E (d + 1) 58 (9, [some (2, 50), some (2, 100 + b), some (0, (ly_s ρ z n (4 * b + i) X).2.2.2.2), some (0, z / 2), o4], []) s (ly_m ν (ly_s ρ z n (4 * b + i) X)) Q) → sw_w E (d + 1) 58 (16, [some (2, 50), some (2, 100 + b), some (0, X.2.2.2.2), some (0, z), some (0, i)], []) s (ly_m ν X) Q := by
  intro n
  induction n with
  | zero =>
    intro i X hi hn hX kk
    rw [show i = 4 by omega] at hX
    refine sw_p 2 (f' := (19, [some (2, 50), some (2, 100 + b), some (0, X.2.2.2.2), some (0, z), some (0, i)], [(0, 4), (0, i)])) rfl ?_
    refine sw_ge2 (pt := 78) (pn := 22) rfl rfl rfl (by omega) (by omega) (fun m1 => ?_) (fun h => absurd h (by omega))
    refine sw_p 2 (f' := (80, [some (2, 50), some (2, 100 + b), some (0, X.2.2.2.2), some (0, z), some (0, i)], [(0, 2), (0, z)])) rfl ?_
    refine sw_idiv (pn := 81) rfl rfl (by omega) (by omega) ?_
    refine sw_p 2 (f' := (9, [some (2, 50), some (2, 100 + b), some (0, X.2.2.2.2), some (0, z / 2), some (0, i)], [])) rfl ?_
    exact kk _ hX
  | succ n ih =>
    intro i X hi hn hX kk
    have h8 := hI.1.1
    have h12 := hI.1.2.2.1
    have hsl := hI.1.2.2.2.2.2.2.2.1 (4 * b + i) (by omega) (by omega)
    have hsc := hI.2.1.1 (4 * b + i) (by omega) (by omega)
    have htr := hI.2.2.1.2.2 (4 * b + i) (by omega) (by omega)
    have hK := hI.2.2.2.2.2.2 (4 * b + i) (by omega) (by omega)
    have hzi : 3 * z * i ≤ 3 * z * 4 := Int.mul_le_mul_of_nonneg_left (by omega) (by omega)
    have hX1 : ly_B (ρ 0 12) (ρ 0 1) (M + 3 * z * (i + 1)) (ly_u ρ z (ρ 2 (4 * b + i)) X) := by
      rw [Int.mul_add, Int.mul_one, ← Int.add_assoc]
      exact ly_B_u hz.1 hX
    rw [show ly_s ρ z (n + 1) (4 * b + i) X = ly_s ρ z n (4 * b + (i + 1)) (ly_u ρ z (ρ 2 (4 * b + i)) X) by rw [ly_s, show 4 * b + i + 1 = 4 * b + (i + 1) by omega]] at kk
    by_cases h1 : 100 ≤ ρ 2 (4 * b + i)
    · obtain ⟨c, hc⟩ : ∃ c, ρ 2 (4 * b + i) = c + 100 := ⟨ρ 2 (4 * b + i) - 100, by omega⟩
      have hK := hK h1
      rw [show ly_u ρ z (ρ 2 (4 * b + i)) X = (ly_k ρ z c 2 (ly_k ρ z c 1 (ly_k ρ z c 0 X))) by rw [hc]; unfold ly_u; rw [if_pos (by omega), show c + 100 - 100 = c by omega]] at hX1 kk
      refine sw_p 2 (f' := (19, [some (2, 50), some (2, 100 + b), some (0, X.2.2.2.2), some (0, z), some (0, i)], [(0, 4), (0, i)])) rfl ?_
      refine sw_ge2 (pt := 78) (pn := 22) rfl rfl rfl (by omega) (by omega) (fun h => absurd h (by omega)) (fun m1 => ?_)
      refine sw_p 1 (f' := (23, [some (2, 50), some (2, 100 + b), some (0, X.2.2.2.2), some (0, z), some (0, i)], [(2, 100 + b)])) rfl ?_
      refine sw_hA (pn := 26) (i := 5) (v := 120 + b) rfl rfl rfl rfl rfl (hR.br b (by omega) (by omega)).1 (hR.br b (by omega) (by omega)).2.2.2.2.2.2.1 (by omega) ?_
      refine sw_p 1 (f' := (28, [some (2, 50), some (2, 100 + b), some (0, X.2.2.2.2), some (0, z), some (0, i)], [(0, i), (2, 120 + b)])) rfl ?_
      refine sw_aal (pn := 29) (t := 5) (l := 4) rfl rfl rfl (by decide) (by omega) (hR.br b (by omega) (by omega)).2.2.2.2.2.2.2.1 (hR.br b (by omega) (by omega)).2.2.2.2.2.2.2.2 (by omega) (by omega) (fun _ => ?_) (fun h => absurd h (by rw [show (ly_m ν X) (120 + b) i = 300 + c from (ly_ne (by omega) (by omega) (by omega)).trans ((((hR.sl b i (by omega) (by omega) (by omega) (by omega)).2).trans (if_pos (by omega))).trans (by omega))]; omega))
      rw [show (ly_m ν X) (120 + b) i = 300 + c from (ly_ne (by omega) (by omega) (by omega)).trans ((((hR.sl b i (by omega) (by omega) (by omega) (by omega)).2).trans (if_pos (by omega))).trans (by omega))]
      refine sw_p 3 (f' := (34, [some (2, 50), some (2, 100 + b), some (0, X.2.2.2.2), some (0, z), some (0, i)], [(2, 100 + b), (2, 50)])) rfl ?_
      refine sw_hA (pn := 37) (i := 5) (v := 120 + b) rfl rfl rfl rfl rfl (hR.br b (by omega) (by omega)).1 (hR.br b (by omega) (by omega)).2.2.2.2.2.2.1 (by omega) ?_
      refine sw_p 1 (f' := (39, [some (2, 50), some (2, 100 + b), some (0, X.2.2.2.2), some (0, z), some (0, i)], [(0, i), (2, 120 + b), (2, 50)])) rfl ?_
      refine sw_aal (pn := 40) (t := 5) (l := 4) rfl rfl rfl (by decide) (by omega) (hR.br b (by omega) (by omega)).2.2.2.2.2.2.2.1 (hR.br b (by omega) (by omega)).2.2.2.2.2.2.2.2 (by omega) (by omega) (fun _ => ?_) (fun h => absurd h (by rw [show (ly_m ν X) (120 + b) i = 300 + c from (ly_ne (by omega) (by omega) (by omega)).trans ((((hR.sl b i (by omega) (by omega) (by omega) (by omega)).2).trans (if_pos (by omega))).trans (by omega))]; omega))
      rw [show (ly_m ν X) (120 + b) i = 300 + c from (ly_ne (by omega) (by omega) (by omega)).trans ((((hR.sl b i (by omega) (by omega) (by omega) (by omega)).2).trans (if_pos (by omega))).trans (by omega))]
      refine sw_p 2 (f' := (42, [some (2, 50), some (2, 100 + b), some (0, X.2.2.2.2), some (0, z), some (0, i)], [(0, X.2.2.2.2), (0, z), (2, 300 + c), (2, 50)])) rfl ?_
      refine sw_cv1 (pn := 45) (q0 := mj_PT_layOut) (q := mj_PT_layRanges) (p := 50) (as2 := [(2, 300 + c), (0, z), (0, X.2.2.2.2)]) (L2 := [some (2, 50), some (2, 300 + c), some (0, z), some (0, X.2.2.2.2), none, none]) (rest := []) (v := some (0, (ly_k ρ z c 2 (ly_k ρ z c 1 (ly_k ρ z c 0 X))).2.2.2.2)) (s1 := s) (ν1 := (ly_m ν (ly_k ρ z c 2 (ly_k ρ z c 1 (ly_k ρ z c 0 X))))) rfl rfl rfl rfl rfl rfl rfl rfl rfl hR.sh.1 (ly_lr (M := M + 3 * z * i) hI hR hcm (by omega) hz (by omega) hX) ?_
      show sw_w E _ 58 (45, [some (2, 50), some (2, 100 + b), some (0, X.2.2.2.2), some (0, z), some (0, i)], [(0, (ly_k ρ z c 2 (ly_k ρ z c 1 (ly_k ρ z c 0 X))).2.2.2.2)]) s (ly_m ν (ly_k ρ z c 2 (ly_k ρ z c 1 (ly_k ρ z c 0 X)))) _
      refine sw_p 4 (f' := (16, [some (2, 50), some (2, 100 + b), some (0, (ly_k ρ z c 2 (ly_k ρ z c 1 (ly_k ρ z c 0 X))).2.2.2.2), some (0, z), some (0, i + 1)], [])) rfl ?_
      exact ih (i + 1) _ (by omega) (by omega) hX1 kk
    · by_cases h2 : 0 ≤ ρ 2 (4 * b + i)
      · have htr := htr h2 (by omega)
        refine sw_p 2 (f' := (19, [some (2, 50), some (2, 100 + b), some (0, X.2.2.2.2), some (0, z), some (0, i)], [(0, 4), (0, i)])) rfl ?_
        refine sw_ge2 (pt := 78) (pn := 22) rfl rfl rfl (by omega) (by omega) (fun h => absurd h (by omega)) (fun m1 => ?_)
        refine sw_p 1 (f' := (23, [some (2, 50), some (2, 100 + b), some (0, X.2.2.2.2), some (0, z), some (0, i)], [(2, 100 + b)])) rfl ?_
        refine sw_hA (pn := 26) (i := 5) (v := 120 + b) rfl rfl rfl rfl rfl (hR.br b (by omega) (by omega)).1 (hR.br b (by omega) (by omega)).2.2.2.2.2.2.1 (by omega) ?_
        refine sw_p 1 (f' := (28, [some (2, 50), some (2, 100 + b), some (0, X.2.2.2.2), some (0, z), some (0, i)], [(0, i), (2, 120 + b)])) rfl ?_
        refine sw_aal (pn := 29) (t := 5) (l := 4) rfl rfl rfl (by decide) (by omega) (hR.br b (by omega) (by omega)).2.2.2.2.2.2.2.1 (hR.br b (by omega) (by omega)).2.2.2.2.2.2.2.2 (by omega) (by omega) (fun h => absurd h (by rw [show (ly_m ν X) (120 + b) i = -1 from (ly_ne (by omega) (by omega) (by omega)).trans (((hR.sl b i (by omega) (by omega) (by omega) (by omega)).2).trans (if_neg (by omega)))]; omega)) (fun _ => ?_)
        refine sw_p 2 (f' := (50, [some (2, 50), some (2, 100 + b), some (0, X.2.2.2.2), some (0, z), some (0, i)], [(2, 100 + b)])) rfl ?_
        refine sw_hA (pn := 53) (i := 4) (v := 110 + b) rfl rfl rfl rfl rfl (hR.br b (by omega) (by omega)).1 (hR.br b (by omega) (by omega)).2.2.2.2.2.1.1 (by omega) ?_
        refine sw_p 1 (f' := (55, [some (2, 50), some (2, 100 + b), some (0, X.2.2.2.2), some (0, z), some (0, i)], [(0, i), (2, 110 + b)])) rfl ?_
        refine sw_aal (pn := 56) (t := 3) (l := 4) rfl rfl rfl (by decide) (by omega) (hR.br b (by omega) (by omega)).2.2.2.2.2.1.2.1 (hR.br b (by omega) (by omega)).2.2.2.2.2.1.2.2 (by omega) (by omega) (fun _ => ?_) (fun h => absurd h (by rw [show (ly_m ν X) (110 + b) i = 100 + ρ 2 (4 * b + i) from (ly_ne (by omega) (by omega) (by omega)).trans (((hR.sl b i (by omega) (by omega) (by omega) (by omega)).1).trans (if_pos (by omega)))]; omega))
        rw [show (ly_m ν X) (110 + b) i = 100 + ρ 2 (4 * b + i) from (ly_ne (by omega) (by omega) (by omega)).trans (((hR.sl b i (by omega) (by omega) (by omega) (by omega)).1).trans (if_pos (by omega)))]
        refine sw_p 2 (f' := (60, [some (2, 50), some (2, 100 + b), some (0, X.2.2.2.2), some (0, z), some (0, i)], [(2, 100 + b)])) rfl ?_
        refine sw_hA (pn := 63) (i := 4) (v := 110 + b) rfl rfl rfl rfl rfl (hR.br b (by omega) (by omega)).1 (hR.br b (by omega) (by omega)).2.2.2.2.2.1.1 (by omega) ?_
        refine sw_p 1 (f' := (65, [some (2, 50), some (2, 100 + b), some (0, X.2.2.2.2), some (0, z), some (0, i)], [(0, i), (2, 110 + b)])) rfl ?_
        refine sw_aal (pn := 66) (t := 3) (l := 4) rfl rfl rfl (by decide) (by omega) (hR.br b (by omega) (by omega)).2.2.2.2.2.1.2.1 (hR.br b (by omega) (by omega)).2.2.2.2.2.1.2.2 (by omega) (by omega) (fun _ => ?_) (fun h => absurd h (by rw [show (ly_m ν X) (110 + b) i = 100 + ρ 2 (4 * b + i) from (ly_ne (by omega) (by omega) (by omega)).trans (((hR.sl b i (by omega) (by omega) (by omega) (by omega)).1).trans (if_pos (by omega)))]; omega))
        rw [show (ly_m ν X) (110 + b) i = 100 + ρ 2 (4 * b + i) from (ly_ne (by omega) (by omega) (by omega)).trans (((hR.sl b i (by omega) (by omega) (by omega) (by omega)).1).trans (if_pos (by omega)))]
        refine sw_p 2 (f' := (68, [some (2, 50), some (2, 100 + b), some (0, X.2.2.2.2), some (0, z), some (0, i)], [(0, X.2.2.2.2), (0, z), (2, 100 + ρ 2 (4 * b + i))])) rfl ?_
        refine sw_cs1 (pn := 71) (q0 := mj_PT_layOut) (q := mj_PT_layBlock) (L2 := [some (2, 100 + ρ 2 (4 * b + i)), some (0, z), some (0, X.2.2.2.2)]) (rest := []) (v := some (0, (ly_u ρ z (ρ 2 (4 * b + i)) X).2.2.2.2)) (s1 := s) (ν1 := (ly_m ν (ly_u ρ z (ρ 2 (4 * b + i)) X))) rfl rfl rfl rfl rfl rfl rfl rfl (ly_lb hI hR (by omega) (h7 _ (by omega) (by omega)) (hb7 _ (by omega) (by omega)) hz) ?_
        show sw_w E _ 58 (71, [some (2, 50), some (2, 100 + b), some (0, X.2.2.2.2), some (0, z), some (0, i)], [(0, (ly_u ρ z (ρ 2 (4 * b + i)) X).2.2.2.2)]) s (ly_m ν (ly_u ρ z (ρ 2 (4 * b + i)) X)) _
        refine sw_p 3 (f' := (16, [some (2, 50), some (2, 100 + b), some (0, (ly_u ρ z (ρ 2 (4 * b + i)) X).2.2.2.2), some (0, z), some (0, i + 1)], [])) rfl ?_
        exact ih (i + 1) _ (by omega) (by omega) hX1 kk
      · rw [show ly_u ρ z (ρ 2 (4 * b + i)) X = X from (if_neg h1).trans (if_neg (fun h => h2 h.1))] at hX1 kk
        refine sw_p 2 (f' := (19, [some (2, 50), some (2, 100 + b), some (0, X.2.2.2.2), some (0, z), some (0, i)], [(0, 4), (0, i)])) rfl ?_
        refine sw_ge2 (pt := 78) (pn := 22) rfl rfl rfl (by omega) (by omega) (fun h => absurd h (by omega)) (fun m1 => ?_)
        refine sw_p 1 (f' := (23, [some (2, 50), some (2, 100 + b), some (0, X.2.2.2.2), some (0, z), some (0, i)], [(2, 100 + b)])) rfl ?_
        refine sw_hA (pn := 26) (i := 5) (v := 120 + b) rfl rfl rfl rfl rfl (hR.br b (by omega) (by omega)).1 (hR.br b (by omega) (by omega)).2.2.2.2.2.2.1 (by omega) ?_
        refine sw_p 1 (f' := (28, [some (2, 50), some (2, 100 + b), some (0, X.2.2.2.2), some (0, z), some (0, i)], [(0, i), (2, 120 + b)])) rfl ?_
        refine sw_aal (pn := 29) (t := 5) (l := 4) rfl rfl rfl (by decide) (by omega) (hR.br b (by omega) (by omega)).2.2.2.2.2.2.2.1 (hR.br b (by omega) (by omega)).2.2.2.2.2.2.2.2 (by omega) (by omega) (fun h => absurd h (by rw [show (ly_m ν X) (120 + b) i = -1 from (ly_ne (by omega) (by omega) (by omega)).trans (((hR.sl b i (by omega) (by omega) (by omega) (by omega)).2).trans (if_neg (by omega)))]; omega)) (fun _ => ?_)
        refine sw_p 2 (f' := (50, [some (2, 50), some (2, 100 + b), some (0, X.2.2.2.2), some (0, z), some (0, i)], [(2, 100 + b)])) rfl ?_
        refine sw_hA (pn := 53) (i := 4) (v := 110 + b) rfl rfl rfl rfl rfl (hR.br b (by omega) (by omega)).1 (hR.br b (by omega) (by omega)).2.2.2.2.2.1.1 (by omega) ?_
        refine sw_p 1 (f' := (55, [some (2, 50), some (2, 100 + b), some (0, X.2.2.2.2), some (0, z), some (0, i)], [(0, i), (2, 110 + b)])) rfl ?_
        refine sw_aal (pn := 56) (t := 3) (l := 4) rfl rfl rfl (by decide) (by omega) (hR.br b (by omega) (by omega)).2.2.2.2.2.1.2.1 (hR.br b (by omega) (by omega)).2.2.2.2.2.1.2.2 (by omega) (by omega) (fun h => absurd h (by rw [show (ly_m ν X) (110 + b) i = -1 from (ly_ne (by omega) (by omega) (by omega)).trans (((hR.sl b i (by omega) (by omega) (by omega) (by omega)).1).trans (if_neg (by omega)))]; omega)) (fun _ => ?_)
        refine sw_p 3 (f' := (16, [some (2, 50), some (2, 100 + b), some (0, X.2.2.2.2), some (0, z), some (0, i + 1)], [])) rfl ?_
        exact ih (i + 1) _ (by omega) (by omega) hX1 kk
theorem ly_wz (hI : iv_A ρ f) (hR : pt_R s ν ρ f) (hcm : 0 ≤ ρ 0 21) (h7 : ∀ u, 1 ≤ u → u < ρ 0 1 → ν (100 + u) 8 = ρ 7 u) (hb7 : ∀ u, 0 ≤ u → u < ρ 0 1 → 0 ≤ ρ 7 u ∧ ρ 7 u ≤ 4194304) (hb : 0 ≤ b ∧ b < ρ 0 1) (hz : 0 < z ∧ z ≤ 4096) (hM : M ≤ 80000000) (hX : ly_B (ρ 0 12) (ρ 0 1) M X) {o4 : Option mg_V} (kk : ∀ o4 : Option mg_V, ly_B (ρ 0 12) (ρ 0 1) (M + 12 * z) (ly_s ρ z 4 (4 * b) X) → sw_w E (d + 1) 58 (9, [some (2, 50), some (2, 100 + b), some (0, (ly_s ρ z 4 (4 * b) X).2.2.2.2), some (0, z / 2), o4], []) s (ly_m ν (ly_s ρ z 4 (4 * b) X)) Q) : sw_w E (d + 1) 58 (9, [some (2, 50), some (2, 100 + b), some (0, X.2.2.2.2), some (0, z), o4], []) s (ly_m ν X) Q := by
  refine sw_p 1 (f' := (10, [some (2, 50), some (2, 100 + b), some (0, X.2.2.2.2), some (0, z), o4], [(0, z)])) rfl ?_
  refine sw_le1 (pt := 85) (pn := 13) rfl rfl rfl (by omega) (fun h => absurd h (by omega)) (fun m1 => ?_)
  refine sw_p 2 (f' := (16, [some (2, 50), some (2, 100 + b), some (0, X.2.2.2.2), some (0, z), some (0, 0)], [])) rfl ?_
  refine ly_ws (M := M) hI hR hcm h7 hb7 hb (by omega) hM 4 0 X (by omega) (by omega) (by rw [Int.mul_zero, Int.add_zero]; exact hX) ?_
  rw [Int.add_zero]
  intro o4 h
  exact kk o4 (ly_B_w h (by omega))
theorem ly_lo (hI : iv_A ρ f) (hR : pt_R s ν ρ f) (hcm : 0 ≤ ρ 0 21) (h7 : ∀ u, 1 ≤ u → u < ρ 0 1 → ν (100 + u) 8 = ρ 7 u) (hb7 : ∀ u, 0 ≤ u → u < ρ 0 1 → 0 ≤ ρ 7 u ∧ ρ 7 u ≤ 4194304) (hb : 0 ≤ b ∧ b < ρ 0 1) (hM : M ≤ 70000000) (hX : ly_B (ρ 0 12) (ρ 0 1) M X) : sw_w E (d + 1) 58 (0, [some (2, 50), some (2, 100 + b), none, none, none], []) s (ly_m ν X) (sw_vr (fun v ν1 => v = none ∧ ν1 = ly_m ν (ly_1 ρ b X) ∧ ly_B (ρ 0 12) (ρ 0 1) (M + 98292) (ly_1 ρ b X)) s) := by
  have h8 := hI.1.1
  have hX0 : ly_B (ρ 0 12) (ρ 0 1) M (X.1, X.2.1, X.2.2.1, X.2.2.2.1, X.2.1 b) := ⟨hX.1, hX.2.1, hX.2.1 b hb.1 hb.2⟩
  refine sw_p 1 (f' := (1, [some (2, 50), some (2, 100 + b), none, none, none], [(2, 100 + b)])) rfl ?_
  refine sw_gI (pn := 4) (i := 6) rfl rfl rfl rfl rfl (by omega) (hR.br b (by omega) (by omega)).1 ?_
  rw [show (ly_m ν X) (100 + b) 6 = X.2.1 b from ly_6 (by omega)]
  refine sw_p 3 (f' := (9, [some (2, 50), some (2, 100 + b), some (0, X.2.1 b), some (0, 4096), none], [])) rfl ?_
  show sw_w E (d + 1) 58 (9, [some (2, 50), some (2, 100 + b), some (0, (X.1, X.2.1, X.2.2.1, X.2.2.2.1, X.2.1 b).2.2.2.2), some (0, 4096), none], []) s (ly_m ν (X.1, X.2.1, X.2.2.1, X.2.2.2.1, X.2.1 b)) _
  unfold ly_1
  refine ly_wz (M := M) hI hR hcm h7 hb7 hb (by omega) (by omega) hX0 (fun o4 hX0 => ?_)
  rw [show (4096 : Int) / 2 = 2048 by decide]
  refine ly_wz (M := M + 12 * 4096) hI hR hcm h7 hb7 hb (by omega) (by omega) hX0 (fun o4 hX0 => ?_)
  rw [show (2048 : Int) / 2 = 1024 by decide]
  refine ly_wz (M := M + 12 * 4096 + 12 * 2048) hI hR hcm h7 hb7 hb (by omega) (by omega) hX0 (fun o4 hX0 => ?_)
  rw [show (1024 : Int) / 2 = 512 by decide]
  refine ly_wz (M := M + 12 * 4096 + 12 * 2048 + 12 * 1024) hI hR hcm h7 hb7 hb (by omega) (by omega) hX0 (fun o4 hX0 => ?_)
  rw [show (512 : Int) / 2 = 256 by decide]
  refine ly_wz (M := M + 12 * 4096 + 12 * 2048 + 12 * 1024 + 12 * 512) hI hR hcm h7 hb7 hb (by omega) (by omega) hX0 (fun o4 hX0 => ?_)
  rw [show (256 : Int) / 2 = 128 by decide]
  refine ly_wz (M := M + 12 * 4096 + 12 * 2048 + 12 * 1024 + 12 * 512 + 12 * 256) hI hR hcm h7 hb7 hb (by omega) (by omega) hX0 (fun o4 hX0 => ?_)
  rw [show (128 : Int) / 2 = 64 by decide]
  refine ly_wz (M := M + 12 * 4096 + 12 * 2048 + 12 * 1024 + 12 * 512 + 12 * 256 + 12 * 128) hI hR hcm h7 hb7 hb (by omega) (by omega) hX0 (fun o4 hX0 => ?_)
  rw [show (64 : Int) / 2 = 32 by decide]
  refine ly_wz (M := M + 12 * 4096 + 12 * 2048 + 12 * 1024 + 12 * 512 + 12 * 256 + 12 * 128 + 12 * 64) hI hR hcm h7 hb7 hb (by omega) (by omega) hX0 (fun o4 hX0 => ?_)
  rw [show (32 : Int) / 2 = 16 by decide]
  refine ly_wz (M := M + 12 * 4096 + 12 * 2048 + 12 * 1024 + 12 * 512 + 12 * 256 + 12 * 128 + 12 * 64 + 12 * 32) hI hR hcm h7 hb7 hb (by omega) (by omega) hX0 (fun o4 hX0 => ?_)
  rw [show (16 : Int) / 2 = 8 by decide]
  refine ly_wz (M := M + 12 * 4096 + 12 * 2048 + 12 * 1024 + 12 * 512 + 12 * 256 + 12 * 128 + 12 * 64 + 12 * 32 + 12 * 16) hI hR hcm h7 hb7 hb (by omega) (by omega) hX0 (fun o4 hX0 => ?_)
  rw [show (8 : Int) / 2 = 4 by decide]
  refine ly_wz (M := M + 12 * 4096 + 12 * 2048 + 12 * 1024 + 12 * 512 + 12 * 256 + 12 * 128 + 12 * 64 + 12 * 32 + 12 * 16 + 12 * 8) hI hR hcm h7 hb7 hb (by omega) (by omega) hX0 (fun o4 hX0 => ?_)
  rw [show (4 : Int) / 2 = 2 by decide]
  refine ly_wz (M := M + 12 * 4096 + 12 * 2048 + 12 * 1024 + 12 * 512 + 12 * 256 + 12 * 128 + 12 * 64 + 12 * 32 + 12 * 16 + 12 * 8 + 12 * 4) hI hR hcm h7 hb7 hb (by omega) (by omega) hX0 (fun o4 hX0 => ?_)
  rw [show (2 : Int) / 2 = 1 by decide]
  refine ly_wz (M := M + 12 * 4096 + 12 * 2048 + 12 * 1024 + 12 * 512 + 12 * 256 + 12 * 128 + 12 * 64 + 12 * 32 + 12 * 16 + 12 * 8 + 12 * 4 + 12 * 2) hI hR hcm h7 hb7 hb (by omega) (by omega) hX0 (fun o4 hX0 => ?_)
  rw [show (1 : Int) / 2 = 0 by decide]
  show sw_w E (d + 1) 58 (9, [some (2, 50), some (2, 100 + b), some (0, (ly_z ρ b pn_l (X.1, X.2.1, X.2.2.1, X.2.2.2.1, X.2.1 b)).2.2.2.2), some (0, 0), o4], []) s (ly_m ν (ly_z ρ b pn_l (X.1, X.2.1, X.2.2.1, X.2.2.2.1, X.2.1 b))) _
  refine sw_p 1 (f' := (10, [some (2, 50), some (2, 100 + b), some (0, (ly_z ρ b pn_l (X.1, X.2.1, X.2.2.1, X.2.2.2.1, X.2.1 b)).2.2.2.2), some (0, 0), o4], [(0, 0)])) rfl ?_
  refine sw_le1 (pt := 85) (pn := 13) rfl rfl rfl (by omega) (fun _ => ?_) (fun h => absurd h (by decide))
  exact sw_retV rfl rfl rfl ⟨_, rfl, rfl, rfl, rfl, ly_B_w hX0 (by omega)⟩
end LY
