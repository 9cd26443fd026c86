/-! the law: its loop, its end -/
def lw_O : nm_O → mm_T → mm_T → Prop := fun o s _ => o = .inl (some (0, 1)) ∧ s (-1) 0 ≤ 600000 ∧ s (-1) 1 ≤ 7000000
section BK
variable {E : mv_E} {s s1 ν ν1 ρ : mm_T} {f : Int → Int} {d : Nat} {i p : Int}
set_option maxRecDepth 20000 in
theorem lw_b {o5 o6 o7 : Option mg_V} {Q : nm_O → mm_T → mm_T → Prop} (h : sw_w E 11 140 (23, [some (2, 9001), some (2, 50), some (2, 0), some (2, 40), some (0, i + 6), o5, o6, o7], []) s ν Q) : sw_w E 11 140 (1122, [some (2, 9001), some (2, 50), some (2, 0), some (2, 40), some (0, i), o5, o6, o7], []) s ν Q := by
  refine sw_p 2 (f' := (23, [some (2, 9001), some (2, 50), some (2, 0), some (2, 40), some (0, i + 6), o5, o6, o7], [])) rfl ?_
  exact h
set_option maxRecDepth 20000 in
theorem lw_l (hS : E.2.1 < E.1) (hlen : E.2.2.1 ≤ 3072) (hE : E.2.2.2.2.1 < E.1 ∧ E.2.2.2.2.1 ≠ E.2.1) : ∀ (m : Nat) (i : Int) (ρ : mm_T) (f : Int → Int) (s ν : mm_T) (o5 o6 o7 : Option mg_V), 0 ≤ i → i ≤ (E.2.2.1 : Int) → (E.2.2.1 : Int) - i < 6 * m + 6 → lw_I ρ f s ν → 6 * ρ 0 24 ≤ i → s (-1) 0 ≤ 1000 + 10 * i → s (-1) 1 ≤ 200000 + 1000 * i → sw_w E 11 140 (23, [some (2, 9001), some (2, 50), some (2, 0), some (2, 40), some (0, i), o5, o6, o7], []) s ν lw_O := by
  intro m
  induction m with
  | zero =>
    intro i ρ f s ν o5 o6 o7 h0 h1 h2 hI h3 h4 h5
    refine sw_p 2 (f' := (26, [some (2, 9001), some (2, 50), some (2, 0), some (2, 40), some (0, i), o5, o6, o7], [(2, 9001), (0, i)])) rfl ?_
    refine sw_lenS (pn := 27) rfl rfl hS ?_
    refine sw_p 2 (f' := (30, [some (2, 9001), some (2, 50), some (2, 0), some (2, 40), some (0, i), o5, o6, o7], [(0, (E.2.2.1 : Int) - 6), (0, i)])) rfl ?_
    refine sw_gt2 (pt := 1128) (pn := 33) rfl rfl rfl (by omega) (by omega) (fun _ => ?_) (fun h => absurd h (by omega))
    refine sw_p 1 (f' := (1129, [some (2, 9001), some (2, 50), some (2, 0), some (2, 40), some (0, i), o5, o6, o7], [(0, 1)])) rfl ?_
    exact sw_retZ rfl rfl rfl (Or.inr rfl) ⟨rfl, by omega, by omega⟩
  | succ m ih =>
    intro i ρ f s ν o5 o6 o7 h0 h1 h2 hI h3 h4 h5
    refine sw_p 2 (f' := (26, [some (2, 9001), some (2, 50), some (2, 0), some (2, 40), some (0, i), o5, o6, o7], [(2, 9001), (0, i)])) rfl ?_
    refine sw_lenS (pn := 27) rfl rfl hS ?_
    refine sw_p 2 (f' := (30, [some (2, 9001), some (2, 50), some (2, 0), some (2, 40), some (0, i), o5, o6, o7], [(0, (E.2.2.1 : Int) - 6), (0, i)])) rfl ?_
    refine sw_gt2 (pt := 1128) (pn := 33) rfl rfl rfl (by omega) (by omega) (fun _ => ?_) (fun h6 => ?_)
    · refine sw_p 1 (f' := (1129, [some (2, 9001), some (2, 50), some (2, 0), some (2, 40), some (0, i), o5, o6, o7], [(0, 1)])) rfl ?_
      exact sw_retZ rfl rfl rfl (Or.inr rfl) ⟨rfl, by omega, by omega⟩
    · refine sw_p 2 (f' := (36, [some (2, 9001), some (2, 50), some (2, 0), some (2, 40), some (0, i), o5, o6, o7], [(0, i), (2, 9001)])) rfl ?_
      refine sw_ialS (pn := 37) rfl rfl hS (by omega) hlen ?_
      refine sw_p 1 (f' := (39, [some (2, 9001), some (2, 50), some (2, 0), some (2, 40), some (0, i), o5, o6, o7], [(0, 31), (0, (E.2.2.2.1 i.toNat).toInt)])) rfl ?_
      refine sw_iand (pn := 40) (z := (Int32.ofInt (E.2.2.2.1 i.toNat).toInt &&& Int32.ofInt 31).toInt) rfl rfl (Int32.ofInt_toInt _).symm ?_
      have hz := i3_b (Int32.ofInt (E.2.2.2.1 i.toNat).toInt &&& Int32.ofInt 31)
      generalize (Int32.ofInt (E.2.2.2.1 i.toNat).toInt &&& Int32.ofInt 31).toInt = z at hz ⊢
      have hi : 0 ≤ i ∧ i + 6 ≤ (E.2.2.1 : Int) := by omega
      have hK : ∀ ρ' f' s' ν' o5 o6 o7, ns_r s s' → lw_I ρ' f' s' ν' → ρ' 0 24 ≤ ρ 0 24 + 1 → sw_w E 11 140 (1122, [some (2, 9001), some (2, 50), some (2, 0), some (2, 40), some (0, i), o5, o6, o7], []) s' ν' lw_O := fun ρ' f' s' ν' o5 o6 o7 hn hI' h24 => by
        obtain ⟨-, n1, n2, n3⟩ := hn
        exact lw_b (ih (i + 6) ρ' f' s' ν' o5 o6 o7 (by omega) (by omega) (by omega) hI' (by omega) (by omega) (by omega))
      refine sw_tsw rfl hz ?_
      by_cases hd : z < 0 ∨ 16 < z
      · rw [show (mv_sw z 1122 0 16 (#[124, 204, 324, 404, 417, 430, 486, 542, 622, 685, 740, 808, 876, 960, 985, 1041, 1109] : Array Int).toList).toNat = 1122 by unfold mv_sw; rw [if_pos hd]; rfl]
        exact hK ρ f s ν o5 o6 o7 ns_rfl hI (by omega)
      · have hc : z = 0 ∨ z = 1 ∨ z = 2 ∨ z = 3 ∨ z = 4 ∨ z = 5 ∨ z = 6 ∨ z = 7 ∨ z = 8 ∨ z = 9 ∨ z = 10 ∨ z = 11 ∨ z = 12 ∨ z = 13 ∨ z = 14 ∨ z = 15 ∨ z = 16 := by omega
        rcases hc with rfl | rfl | rfl | rfl | rfl | rfl | rfl | rfl | rfl | rfl | rfl | rfl | rfl | rfl | rfl | rfl | rfl
        · exact lq_127 hS hlen hi hI hK
        · exact lq_128 hS hlen hi hI hK
        · exact lq_129 hS hlen hi hI hK
        · exact lq_42 hS hlen hi hI hK
        · exact lq_61 hS hlen hi hI hK
        · exact lq_130 hS hlen hi hI hK
        · exact lq_131 hS hlen hi hI hK
        · exact lq_132 hS hlen hi hI hE (by omega) hK
        · exact lq_133 hS hlen hi hI hK
        · exact lq_134 hS hlen hi hI hK
        · exact lq_135 hS hlen hi hI hK
        · exact lq_136 hS hlen hi hI hK
        · exact lq_137 hS hlen hi hI hK
        · exact lq_62 hS hlen hi hI hK
        · exact lq_138 hS hlen hi hI hK
        · exact lq_139 hS hlen hi hI hK
        · exact lq_63 hS hlen hi hI hK
theorem lw_all (hS : E.2.1 < E.1) (hlen : E.2.2.1 ≤ 3072) (hE : E.2.2.2.2.1 < E.1 ∧ E.2.2.2.2.1 ≠ E.2.1) : sw_w E 11 140 (0, [some (2, 9001), none, none, none, none, none, none, none], []) em_s ν lw_O := by
  refine lw_s (fun ρ s ν o5 o6 o7 h1 h2 h3 h4 => ?_)
  exact lw_l hS hlen hE (E.2.2.1 + 1) 0 ρ _ s ν o5 o6 o7 (by omega) (by omega) (by omega) h1 (by omega) (by omega) (by omega)
/-- names of what was there before -/
def em_A (E : mv_E) : Int → Int := fun p => if p = 9001 then (E.2.1 : Int) else if p = 9002 then (E.2.2.2.2.1 : Int) else (E.2.2.2.2.2 : Int)
theorem em_R : nm_R E (em_A E) (sw_o em_s em_s) em_s := by
  have hna : ∀ p, ¬ nm_a (sw_o em_s em_s) p := fun p h => by
    unfold nm_a at h
    rw [sw_s (by decide), em_1] at h
    omega
  have hh : mm_h E em_s = [] := by
    unfold mm_h
    rw [em_c0]
    rfl
  refine ⟨fun p h => absurd h (hna p), fun p q h => absurd h (hna p), fun p i h => absurd h (hna p), ⟨by rw [em_c0]; decide, by rw [sw_n (by decide)], ?_⟩, ⟨?_, ?_, ?_⟩, fun p _ => hna p⟩
  · rw [sw_n (by decide), em_c1, hh]
    rfl
  · unfold em_A
    rw [if_pos rfl]
  · unfold em_A
    rw [if_neg (by decide), if_pos rfl]
  · unfold em_A
    rw [if_neg (by decide), if_neg (by decide)]
theorem lw_goal : mt_goal := by
  intro E hlen hS h3 h4
  have w := lw_all (E := E) (ν := em_s) hS hlen ⟨h3, h4⟩
  have hkf : nm_kf (sw_o em_s em_s) (0, [some (2, 9001), none, none, none, none, none, none, none], []) := by
    refine ⟨fun v hv _ => ?_, fun v hv => absurd hv (by simp)⟩
    simp only [List.mem_cons, Option.some.injEq, reduceCtorEq, List.not_mem_nil, or_false] at hv
    rw [hv]
    exact Or.inr (Or.inl rfl)
  obtain ⟨n, r, μ, hrun, A', κ', o, hR, -, hres, s', ν', hκ, ho, hc0, hc1⟩ := w (em_A E) em_s em_R hkf
  subst ho
  have hr : r = .inl (some (0, 1)) := by
    cases r with
    | inl v =>
      cases v with
      | none => exact hres.elim
      | some v => rw [hres.1]; rfl
    | inr a => exact hres.elim
  subst hr
  have hh : mm_h E em_s = [] := by
    unfold mm_h
    rw [em_c0]
    rfl
  rw [hh] at hrun
  refine ⟨n, mm_h E μ, ?_, ?_, ?_⟩
  · have hf : mg_eF (nm_f (em_A E) (0, [some (2, 9001), none, none, none, none, none, none, none], [])) = (0, mv_in 8 [.ref E.2.1], []) := by
      show (0, [some (Value.ref (em_A E 9001).toNat), none, none, none, none, none, none, none], []) = (0, mv_in 8 [.ref E.2.1], [])
      rw [em_R.2.2.2.2.1.1, Int.toNat_natCast]
      rfl
    rw [hf] at hrun
    exact hrun
  · rw [mm_h_len]
    have := hR.2.2.2.1.2.1
    rw [hκ, sw_n (by decide)] at this
    omega
  · have := hR.2.2.2.1.2.2
    rw [hκ, sw_n (by decide)] at this
    omega
end BK
theorem i_vc : Claimed_1_1 ∧ Claimed_1_2 := mt_vc lw_goal
