/-! the class: cells that the relation does not speak of; sumToLay, blockFor, measureBlocks -/
/-- rows of the reference that count -/
def rr_l : List Int := [0, 2, 3, 4, 5, 6, 9, 10, 11, 13, 14, 15, 16, 17, 19, 20, 25, 26, 27, 28]
/-- the class's cells but for stretches, places and blocks are as they were -/
def cj_r (ν ν' : mm_T) : Prop := ∀ p i, 50 ≤ p → ¬ (55 ≤ p ∧ p ≤ 64) → ¬ (100 ≤ p ∧ p < 108 ∧ i = 8) → ν' p i = ν p i
theorem cj_rfl {ν : mm_T} : cj_r ν ν := fun _ _ _ _ _ => rfl
theorem cj_tr {ν ν1 ν2 : mm_T} (h1 : cj_r ν ν1) (h2 : cj_r ν1 ν2) : cj_r ν ν2 := fun p i a b c => (h2 p i a b c).trans (h1 p i a b c)
theorem mo_pd_c {ρ ρ' : mm_T} (h25 : ρ' 25 = ρ 25) (h28 : ρ' 28 = ρ 28) (c : Int) : mo_pd ρ' c = mo_pd ρ c := by
  funext t
  unfold mo_pd
  rw [h25, h28]
theorem mo_wt_c {ρ ρ' : mm_T} (h0 : ρ' 0 24 = ρ 0 24) (h25 : ρ' 25 = ρ 25) (h28 : ρ' 28 = ρ 28) (c : Int) : mo_wt ρ' c = mo_wt ρ c := by
  unfold mo_wt
  rw [h0, mo_pd_c h25 h28]
section RF
variable {s ν ν' ρ ρ' : mm_T} {f : Int → Int}
theorem pt_R_fr (hB : mo_B ρ) (hn : cj_r ν ν') (hr : ∀ p ∈ rr_l, ρ' p = ρ p) (hR : pt_R s ν ρ f) : pt_R s ν' ρ' f := by
  have e0 := hr 0 (by decide)
  have e2 := hr 2 (by decide)
  have e3 := hr 3 (by decide)
  have e4 := hr 4 (by decide)
  have e5 := hr 5 (by decide)
  have e6 := hr 6 (by decide)
  have e9 := hr 9 (by decide)
  have e10 := hr 10 (by decide)
  have e11 := hr 11 (by decide)
  have e13 := hr 13 (by decide)
  have e14 := hr 14 (by decide)
  have e15 := hr 15 (by decide)
  have e16 := hr 16 (by decide)
  have e17 := hr 17 (by decide)
  have e19 := hr 19 (by decide)
  have e20 := hr 20 (by decide)
  have e25 := hr 25 (by decide)
  have e26 := hr 26 (by decide)
  have e27 := hr 27 (by decide)
  have e28 := hr 28 (by decide)
  have ew := mo_wt_c (congrFun e0 24) e25 e28
  have ep := mo_pd_c e25 e28
  have b1 := hB.1
  have b8 := hB.2.1
  have b12 := hB.2.2.1
  have b24 := hB.2.2.2.2.2.1
  obtain ⟨h1, h2, h3, h4, h5, h6, h7, h8, h9, h10, h11, h12, h13, h14⟩ := hR
  refine ⟨h1, ?_, ?_, ?_, ?_, ?_, ?_, ?_, ?_, ?_, ?_, ?_, ?_, ?_⟩
  · unfold pt_Br at h2 ⊢
    rw [e0, e3, e4]
    exact h2
  · unfold pt_Bn at h3 ⊢
    rw [e0, e5, e6]
    intro b hb hb2
    rw [hn 51 b (by omega) (by omega) (by omega), hn (100 + b) 6 (by omega) (by omega) (by omega), hn (100 + b) 7 (by omega) (by omega) (by omega)]
    exact h3 b hb hb2
  · unfold pt_Sl at h4 ⊢
    rw [e0, e2]
    intro b i hb hb2 hi hi2
    rw [hn (110 + b) i (by omega) (by omega) (by omega), hn (120 + b) i (by omega) (by omega) (by omega)]
    exact h4 b i hb hb2 hi hi2
  · unfold pt_Ty at h5 ⊢
    rw [e0, e10, e11]
    exact h5
  · unfold pt_Tn at h6 ⊢
    rw [e0, e9]
    intro t ht ht2
    rw [hn 52 t (by omega) (by omega) (by omega)]
    refine ⟨(h6 t ht ht2).1, fun k hk hk2 => ?_⟩
    rw [hn (220 + t) k (by omega) (by omega) (by omega), hn (240 + t) k (by omega) (by omega) (by omega)]
    exact (h6 t ht ht2).2 k hk hk2
  · unfold pt_Ca at h7 ⊢
    rw [e0, e13, e14]
    exact h7
  · unfold pt_Cn at h8 ⊢
    rw [e0, e15, e16, e19, e20]
    intro c hc hc2
    rw [ew, hn 53 c (by omega) (by omega) (by omega), hn (300 + c) 5 (by omega) (by omega) (by omega), hn (300 + c) 6 (by omega) (by omega) (by omega), hn (300 + c) 7 (by omega) (by omega) (by omega), hn (300 + c) 8 (by omega) (by omega) (by omega), hn (300 + c) 9 (by omega) (by omega) (by omega), hn (300 + c) 10 (by omega) (by omega) (by omega)]
    exact h8 c hc hc2
  · unfold pt_Cr at h9 ⊢
    rw [e0, e9, e13, e15, e17]
    intro c k hc hc2 hk hk2
    rw [hn (340 + c) k (by omega) (by omega) (by omega)]
    exact h9 c k hc hc2 hk hk2
  · unfold pt_Cs at h10 ⊢
    rw [e0, e2, e14, e15]
    exact h10
  · unfold pt_Q at h11 ⊢
    rw [e0]
    intro c i hc hc2 hi hi2
    rw [ew] at hi2
    rw [ep, hn (380 + c) i (by omega) (by omega) (by omega)]
    exact h11 c i hc hc2 hi hi2
  · unfold pt_Rq at h12 ⊢
    rw [e0, e26, e27, e28]
    intro t ht ht2
    rw [hn (1000 + t) 2 (by omega) (by omega) (by omega)]
    exact h12 t ht ht2
  · unfold pt_L at h13 ⊢
    rw [e0, hn 54 0 (by omega) (by omega) (by omega), hn 54 1 (by omega) (by omega) (by omega)]
    have hw := pt_L.w h13
    obtain ⟨g1, g2, g6⟩ := h13
    refine ⟨g1, g2, fun t ht ht2 => ?_⟩
    rw [hn (ν 54 0) t (by omega) (by omega) (by omega)]
    exact g6 t ht ht2
  · unfold pt_Z at h14 ⊢
    rw [e0, hn 50 8 (by omega) (by omega) (by omega), hn 50 9 (by omega) (by omega) (by omega), hn 50 10 (by omega) (by omega) (by omega), hn 50 11 (by omega) (by omega) (by omega), hn 50 12 (by omega) (by omega) (by omega), hn 50 13 (by omega) (by omega) (by omega)]
    exact h14
theorem iv_K_c (h0 : ρ' 0 = ρ 0) (h2 : ρ' 2 = ρ 2) (h13 : ρ' 13 = ρ 13) (h14 : ρ' 14 = ρ 14) (h15 : ρ' 15 = ρ 15) (h : iv_K ρ) : iv_K ρ' := by
  unfold iv_K at h ⊢
  rw [h0, h2, h13, h14, h15]
  exact h
/-- what stays of the first half of the invariant when blocks and marks alone change -/
theorem iv_A_fr (hf : fr_r [7, 18, 29, 30] ρ ρ') (h : iv_A ρ f) : iv_A ρ' f := by
  obtain ⟨h1, h2, h3, h4, h5, h6⟩ := h
  exact ⟨mo_B_fr (fr_w hf (by decide)) h1, mo_C_fr (hf 2 (by decide)) (hf 5 (by decide)) (hf 6 (by decide)) (hf 9 (by decide)) (hf 13 (by decide)) (hf 17 (by decide)) h2, tr_fr (congrFun (hf 0 (by decide)) 1) (hf 2 (by decide)) (hf 3 (by decide)) h3, by unfold mo_p2s; rw [hf 9 (by decide)]; exact h4, by rw [hf 11 (by decide)]; exact h5, iv_K_c (hf 0 (by decide)) (hf 2 (by decide)) (hf 13 (by decide)) (hf 14 (by decide)) (hf 15 (by decide)) h6⟩
theorem rr_of (hf : fr_r [7, 18, 29, 30] ρ ρ') : ∀ p ∈ rr_l, ρ' p = ρ p := fun p hp => hf p (fun h => by
  simp only [List.mem_cons, List.not_mem_nil, or_false] at h
  rcases h with h | h | h | h <;> subst h <;> revert hp <;> decide)
end RF
section PC3
variable {E : mv_E} {s ν ρ : mm_T} {f : Int → Int} {d : Nat} {a b c k t i u x y z r m lo hi : Int} {Q : nm_O → mm_T → mm_T → Prop}
def cb_k : Nat → Int → Int → Int
  | 0, x, _ => x
  | n + 1, x, m => if x < m ∧ x < 1048576 then cb_k n (x * 2) m else x
def cb_l (m : Int) : Int := if m = 0 then 0 else cb_k 14 64 m
theorem cb_eq (hm : m ≤ 1048576) : ∀ (n : Nat) (x : Int), m ≤ x * 2 ^ n → cb_k n x m = mo_bk (n + 2) x m
  | 0, x, h => by
    rw [Int.pow_zero] at h
    unfold cb_k mo_bk
    rw [if_neg (by omega)]
  | n + 1, x, h => by
    unfold cb_k mo_bk
    by_cases h1 : x < m
    · rw [if_pos h1, if_pos ⟨h1, by omega⟩, Int.mul_comm x 2]
      exact cb_eq hm n (2 * x) (by rw [mo_2p]; exact h)
    · rw [if_neg h1, if_neg (fun h2 => h1 h2.1)]
theorem cb_bl (hm : m ≤ 1048576) : cb_l m = mo_bl m := by
  have e : (64 : Int) * 2 ^ 14 = 1048576 := by decide
  unfold cb_l mo_bl
  split
  · rfl
  · exact cb_eq hm 14 64 (by omega)
theorem cl_bf_l (hm : 0 ≤ m ∧ m ≤ 4194304) : ∀ (n : Nat) (x : Int), 0 ≤ x ∧ x ≤ 2097152 → 1048576 ≤ x * 2 ^ n → sw_w E d 54 (9, [some (0, m), some (0, x)], []) s ν (sw_is (some (0, cb_k n x m)) s ν) := by
  intro n
  induction n with
  | zero =>
    intro x hx hn
    rw [Int.pow_zero] at hn
    refine sw_p 2 (f' := (11, [some (0, m), some (0, x)], [(0, m), (0, x)])) rfl ?_
    refine sw_ge2 (pt := 28) (pn := 14) rfl rfl rfl (by omega) (by omega) (fun h1 => ?_) (fun h1 => ?_)
    · skip
      refine sw_p 1 (f' := (29, [some (0, m), some (0, x)], [(0, x)])) rfl ?_
      exact sw_retI rfl rfl rfl ⟨rfl, rfl, rfl⟩
    · skip
      refine sw_p 2 (f' := (18, [some (0, m), some (0, x)], [(0, 1048576), (0, x)])) rfl ?_
      refine sw_ge2 (pt := 28) (pn := 21) rfl rfl rfl (by omega) (by omega) (fun h2 => ?_) (fun h => absurd h (by omega))
      refine sw_p 1 (f' := (29, [some (0, m), some (0, x)], [(0, x)])) rfl ?_
      exact sw_retI rfl rfl rfl ⟨rfl, rfl, rfl⟩
  | succ n ih =>
    intro x hx hn
    unfold cb_k
    by_cases h1 : x < m ∧ x < 1048576
    · rw [if_pos h1]
      refine sw_p 2 (f' := (11, [some (0, m), some (0, x)], [(0, m), (0, x)])) rfl ?_
      refine sw_ge2 (pt := 28) (pn := 14) rfl rfl rfl (by omega) (by omega) (fun h => absurd h (by omega)) (fun m1 => ?_)
      refine sw_p 2 (f' := (18, [some (0, m), some (0, x)], [(0, 1048576), (0, x)])) rfl ?_
      refine sw_ge2 (pt := 28) (pn := 21) rfl rfl rfl (by omega) (by omega) (fun h => absurd h (by omega)) (fun m2 => ?_)
      refine sw_p 5 (f' := (9, [some (0, m), some (0, x * 2)], [])) rfl ?_
      exact ih (x * 2) (by omega) (by rw [Int.mul_comm x 2, mo_2p]; exact hn)
    · rw [if_neg h1]
      refine sw_p 2 (f' := (11, [some (0, m), some (0, x)], [(0, m), (0, x)])) rfl ?_
      refine sw_ge2 (pt := 28) (pn := 14) rfl rfl rfl (by omega) (by omega) (fun m1 => ?_) (fun m1 => ?_)
      · skip
        refine sw_p 1 (f' := (29, [some (0, m), some (0, x)], [(0, x)])) rfl ?_
        exact sw_retI rfl rfl rfl ⟨rfl, rfl, rfl⟩
      · skip
        refine sw_p 2 (f' := (18, [some (0, m), some (0, x)], [(0, 1048576), (0, x)])) rfl ?_
        refine sw_ge2 (pt := 28) (pn := 21) rfl rfl rfl (by omega) (by omega) (fun m2 => ?_) (fun m2 => ?_)
        · skip
          refine sw_p 1 (f' := (29, [some (0, m), some (0, x)], [(0, x)])) rfl ?_
          exact sw_retI rfl rfl rfl ⟨rfl, rfl, rfl⟩
        · skip
          omega
theorem cl_bf (hm : 0 ≤ m ∧ m ≤ 4194304) : sw_w E d 54 (0, [some (0, m), none], []) s ν (sw_is (some (0, cb_l m)) s ν) := by
  unfold cb_l
  by_cases h0 : m = 0
  · rw [if_pos h0]
    refine sw_p 1 (f' := (1, [some (0, m), none], [(0, m)])) rfl ?_
    refine sw_ne1 (pt := 6) (pn := 4) rfl rfl rfl (by omega) (fun h => absurd h (by omega)) (fun m1 => ?_)
    refine sw_p 1 (f' := (5, [some (0, m), none], [(0, 0)])) rfl ?_
    exact sw_retI rfl rfl rfl ⟨rfl, rfl, rfl⟩
  · rw [if_neg h0]
    refine sw_p 1 (f' := (1, [some (0, m), none], [(0, m)])) rfl ?_
    refine sw_ne1 (pt := 6) (pn := 4) rfl rfl rfl (by omega) (fun m1 => ?_) (fun h => absurd h (by omega))
    refine sw_p 2 (f' := (9, [some (0, m), some (0, 64)], [])) rfl ?_
    exact cl_bf_l hm 14 64 (by omega) (by decide)
theorem cl_stl_l (hI : iv_A ρ f) (hR : pt_R s ν ρ f) (hb : 0 ≤ b ∧ b < ρ 0 1) (hm : ∀ u, 1 ≤ u → u < ρ 0 1 → ρ 3 u = b → ν (100 + u) 8 = ρ 7 u) : ∀ (n : Nat) (i r : Int), 0 ≤ i → i + n = 4 → sw_w E (d + 1) 25 (4, [some (2, 100 + b), some (0, r), some (0, i)], []) s ν (sw_is (some (0, r + mo_lds ρ n (4 * b + i))) s ν) := by
  intro n
  induction n with
  | zero =>
    intro i r hi hn
    rw [show r + mo_lds ρ 0 (4 * b + i) = r from Int.add_zero r]
    refine sw_p 2 (f' := (6, [some (2, 100 + b), some (0, r), some (0, i)], [(0, 4), (0, i)])) rfl ?_
    refine sw_ge2 (pt := 63) (pn := 9) rfl rfl rfl (by omega) (by omega) (fun m1 => ?_) (fun h => absurd h (by omega))
    refine sw_p 1 (f' := (64, [some (2, 100 + b), some (0, r), some (0, i)], [(0, r)])) rfl ?_
    exact sw_retI rfl rfl rfl ⟨rfl, rfl, rfl⟩
  | succ n ih =>
    intro i r hi hn
    have h8 := hI.1.1
    have h12 := hI.1.2.2.1
    have hsl := hI.1.2.2.2.2.2.2.2.1 (4 * b + i) (by omega) (by omega)
    have hsc := hI.2.1.1 (4 * b + i) (by omega) (by omega)
    have htr := hI.2.2.1.2.2 (4 * b + i) (by omega) (by omega)
    have hK := hI.2.2.2.2.2.2 (4 * b + i) (by omega) (by omega)
    have e0 : r + mo_lds ρ (n + 1) (4 * b + i) = r + mo_ldu ρ (ρ 2 (4 * b + i)) + mo_lds ρ n (4 * b + (i + 1)) := by
      show r + (mo_ldu ρ (ρ 2 (4 * b + i)) + mo_lds ρ n (4 * b + i + 1)) = _
      rw [show 4 * b + i + 1 = 4 * b + (i + 1) by omega]
      omega
    rw [e0]
    by_cases h1 : 100 ≤ ρ 2 (4 * b + i)
    · obtain ⟨c, hc⟩ : ∃ c, ρ 2 (4 * b + i) = c + 100 := ⟨ρ 2 (4 * b + i) - 100, by omega⟩
      have hK := hK h1
      have hcd := hI.1.cd c (by omega) (by omega)
      have hKc := hI.2.2.2.2.2.1 c (by omega) (by omega)
      rw [show mo_ldu ρ (ρ 2 (4 * b + i)) = ρ 9 (3 * ρ 13 c + 0) + ρ 9 (3 * ρ 13 c + 1) + ρ 9 (3 * ρ 13 c + 2) by rw [hc]; unfold mo_ldu; rw [if_pos (by omega), show c + 100 - 100 = c by omega]]
      refine sw_p 2 (f' := (6, [some (2, 100 + b), some (0, r), some (0, i)], [(0, 4), (0, i)])) rfl ?_
      refine sw_ge2 (pt := 63) (pn := 9) rfl rfl rfl (by omega) (by omega) (fun h => absurd h (by omega)) (fun m1 => ?_)
      refine sw_p 1 (f' := (10, [some (2, 100 + b), some (0, r), some (0, i)], [(2, 100 + b)])) rfl ?_
      refine sw_hA (pn := 13) (i := 5) (v := 120 + b) rfl rfl rfl rfl rfl (hR.br b (by omega) (by omega)).1 (hR.br b (by omega) (by omega)).2.2.2.2.2.2.1 (by omega) ?_
      refine sw_p 1 (f' := (14, [some (2, 100 + b), some (0, r), some (0, i)], [(0, i), (2, 120 + b)])) rfl ?_
      refine sw_aal (pn := 15) (t := 5) (l := 4) rfl rfl rfl (by decide) (by omega) (hR.br b (by omega) (by omega)).2.2.2.2.2.2.2.1 (hR.br b (by omega) (by omega)).2.2.2.2.2.2.2.2 (by omega) (by omega) (fun _ => ?_) (fun h => absurd h (by rw [show ν (120 + b) i = 300 + c from (((hR.sl b i (by omega) (by omega) (by omega) (by omega)).2).trans (if_pos (by omega))).trans (by omega)]; omega))
      rw [show ν (120 + b) i = 300 + c from (((hR.sl b i (by omega) (by omega) (by omega) (by omega)).2).trans (if_pos (by omega))).trans (by omega)]
      refine sw_p 3 (f' := (20, [some (2, 100 + b), some (0, r), some (0, i)], [(2, 100 + b), (0, r)])) rfl ?_
      refine sw_hA (pn := 23) (i := 5) (v := 120 + b) rfl rfl rfl rfl rfl (hR.br b (by omega) (by omega)).1 (hR.br b (by omega) (by omega)).2.2.2.2.2.2.1 (by omega) ?_
      refine sw_p 1 (f' := (24, [some (2, 100 + b), some (0, r), some (0, i)], [(0, i), (2, 120 + b), (0, r)])) rfl ?_
      refine sw_aal (pn := 25) (t := 5) (l := 4) rfl rfl rfl (by decide) (by omega) (hR.br b (by omega) (by omega)).2.2.2.2.2.2.2.1 (hR.br b (by omega) (by omega)).2.2.2.2.2.2.2.2 (by omega) (by omega) (fun _ => ?_) (fun h => absurd h (by rw [show ν (120 + b) i = 300 + c from (((hR.sl b i (by omega) (by omega) (by omega) (by omega)).2).trans (if_pos (by omega))).trans (by omega)]; omega))
      rw [show ν (120 + b) i = 300 + c from (((hR.sl b i (by omega) (by omega) (by omega) (by omega)).2).trans (if_pos (by omega))).trans (by omega)]
      refine sw_hA (pn := 28) (i := 2) (v := 200 + ρ 13 c) rfl rfl rfl rfl rfl (hR.ca c (by omega) (by omega)).1 (hR.ca c (by omega) (by omega)).2.2.2.1 (by omega) ?_
      refine sw_cv1 (pn := 31) (q0 := mj_Br_sumToLay) (q := mj_Ty_sumOfSizes) (p := 200 + ρ 13 c) (as2 := []) (L2 := [some (2, 200 + ρ 13 c)]) (rest := [(0, r)]) (v := some (0, ρ 9 (3 * ρ 13 c + 0) + ρ 9 (3 * ρ 13 c + 1) + ρ 9 (3 * ρ 13 c + 2))) (s1 := s) (ν1 := ν) rfl rfl rfl rfl rfl rfl rfl rfl rfl (hR.ty (ρ 13 c) (by omega) (by omega)).1 (cl_sum hI hR (by omega)) ?_
      show sw_w E _ 25 (31, [some (2, 100 + b), some (0, r), some (0, i)], [(0, ρ 9 (3 * ρ 13 c + 0) + ρ 9 (3 * ρ 13 c + 1) + ρ 9 (3 * ρ 13 c + 2)), (0, r)]) s ν _
      refine sw_p 5 (f' := (4, [some (2, 100 + b), some (0, r + (ρ 9 (3 * ρ 13 c + 0) + ρ 9 (3 * ρ 13 c + 1) + ρ 9 (3 * ρ 13 c + 2))), some (0, i + 1)], [])) rfl ?_
      exact ih (i + 1) _ (by omega) (by omega)
    · by_cases h2 : 0 ≤ ρ 2 (4 * b + i)
      · have htr := htr h2 (by omega)
        have hmu := hm (ρ 2 (4 * b + i)) htr.1 htr.2.1 (by rw [htr.2.2]; omega)
        rw [show mo_ldu ρ (ρ 2 (4 * b + i)) = ρ 7 (ρ 2 (4 * b + i)) from (if_neg h1).trans (if_pos h2)]
        refine sw_p 2 (f' := (6, [some (2, 100 + b), some (0, r), some (0, i)], [(0, 4), (0, i)])) rfl ?_
        refine sw_ge2 (pt := 63) (pn := 9) rfl rfl rfl (by omega) (by omega) (fun h => absurd h (by omega)) (fun m1 => ?_)
        refine sw_p 1 (f' := (10, [some (2, 100 + b), some (0, r), some (0, i)], [(2, 100 + b)])) rfl ?_
        refine sw_hA (pn := 13) (i := 5) (v := 120 + b) rfl rfl rfl rfl rfl (hR.br b (by omega) (by omega)).1 (hR.br b (by omega) (by omega)).2.2.2.2.2.2.1 (by omega) ?_
        refine sw_p 1 (f' := (14, [some (2, 100 + b), some (0, r), some (0, i)], [(0, i), (2, 120 + b)])) rfl ?_
        refine sw_aal (pn := 15) (t := 5) (l := 4) rfl rfl rfl (by decide) (by omega) (hR.br b (by omega) (by omega)).2.2.2.2.2.2.2.1 (hR.br b (by omega) (by omega)).2.2.2.2.2.2.2.2 (by omega) (by omega) (fun h => absurd h (by rw [show ν (120 + b) i = -1 from ((hR.sl b i (by omega) (by omega) (by omega) (by omega)).2).trans (if_neg (by omega))]; omega)) (fun _ => ?_)
        refine sw_p 2 (f' := (37, [some (2, 100 + b), some (0, r), some (0, i)], [(2, 100 + b)])) rfl ?_
        refine sw_hA (pn := 40) (i := 4) (v := 110 + b) rfl rfl rfl rfl rfl (hR.br b (by omega) (by omega)).1 (hR.br b (by omega) (by omega)).2.2.2.2.2.1.1 (by omega) ?_
        refine sw_p 1 (f' := (41, [some (2, 100 + b), some (0, r), some (0, i)], [(0, i), (2, 110 + b)])) rfl ?_
        refine sw_aal (pn := 42) (t := 3) (l := 4) rfl rfl rfl (by decide) (by omega) (hR.br b (by omega) (by omega)).2.2.2.2.2.1.2.1 (hR.br b (by omega) (by omega)).2.2.2.2.2.1.2.2 (by omega) (by omega) (fun _ => ?_) (fun h => absurd h (by rw [show ν (110 + b) i = 100 + ρ 2 (4 * b + i) from ((hR.sl b i (by omega) (by omega) (by omega) (by omega)).1).trans (if_pos (by omega))]; omega))
        rw [show ν (110 + b) i = 100 + ρ 2 (4 * b + i) from ((hR.sl b i (by omega) (by omega) (by omega) (by omega)).1).trans (if_pos (by omega))]
        refine sw_p 3 (f' := (47, [some (2, 100 + b), some (0, r), some (0, i)], [(2, 100 + b), (0, r)])) rfl ?_
        refine sw_hA (pn := 50) (i := 4) (v := 110 + b) rfl rfl rfl rfl rfl (hR.br b (by omega) (by omega)).1 (hR.br b (by omega) (by omega)).2.2.2.2.2.1.1 (by omega) ?_
        refine sw_p 1 (f' := (51, [some (2, 100 + b), some (0, r), some (0, i)], [(0, i), (2, 110 + b), (0, r)])) rfl ?_
        refine sw_aal (pn := 52) (t := 3) (l := 4) rfl rfl rfl (by decide) (by omega) (hR.br b (by omega) (by omega)).2.2.2.2.2.1.2.1 (hR.br b (by omega) (by omega)).2.2.2.2.2.1.2.2 (by omega) (by omega) (fun _ => ?_) (fun h => absurd h (by rw [show ν (110 + b) i = 100 + ρ 2 (4 * b + i) from ((hR.sl b i (by omega) (by omega) (by omega) (by omega)).1).trans (if_pos (by omega))]; omega))
        rw [show ν (110 + b) i = 100 + ρ 2 (4 * b + i) from ((hR.sl b i (by omega) (by omega) (by omega) (by omega)).1).trans (if_pos (by omega))]
        refine sw_gI (pn := 55) (i := 8) rfl rfl rfl rfl rfl (by omega) (hR.br (ρ 2 (4 * b + i)) (by omega) (by omega)).1 ?_
        rw [show ν (100 + ρ 2 (4 * b + i)) 8 = ρ 7 (ρ 2 (4 * b + i)) from hmu]
        refine sw_p 4 (f' := (4, [some (2, 100 + b), some (0, r + (ρ 7 (ρ 2 (4 * b + i)))), some (0, i + 1)], [])) rfl ?_
        exact ih (i + 1) _ (by omega) (by omega)
      · rw [show mo_ldu ρ (ρ 2 (4 * b + i)) = 0 from (if_neg h1).trans (if_neg h2), Int.add_zero]
        refine sw_p 2 (f' := (6, [some (2, 100 + b), some (0, r), some (0, i)], [(0, 4), (0, i)])) rfl ?_
        refine sw_ge2 (pt := 63) (pn := 9) rfl rfl rfl (by omega) (by omega) (fun h => absurd h (by omega)) (fun m1 => ?_)
        refine sw_p 1 (f' := (10, [some (2, 100 + b), some (0, r), some (0, i)], [(2, 100 + b)])) rfl ?_
        refine sw_hA (pn := 13) (i := 5) (v := 120 + b) rfl rfl rfl rfl rfl (hR.br b (by omega) (by omega)).1 (hR.br b (by omega) (by omega)).2.2.2.2.2.2.1 (by omega) ?_
        refine sw_p 1 (f' := (14, [some (2, 100 + b), some (0, r), some (0, i)], [(0, i), (2, 120 + b)])) rfl ?_
        refine sw_aal (pn := 15) (t := 5) (l := 4) rfl rfl rfl (by decide) (by omega) (hR.br b (by omega) (by omega)).2.2.2.2.2.2.2.1 (hR.br b (by omega) (by omega)).2.2.2.2.2.2.2.2 (by omega) (by omega) (fun h => absurd h (by rw [show ν (120 + b) i = -1 from ((hR.sl b i (by omega) (by omega) (by omega) (by omega)).2).trans (if_neg (by omega))]; omega)) (fun _ => ?_)
        refine sw_p 2 (f' := (37, [some (2, 100 + b), some (0, r), some (0, i)], [(2, 100 + b)])) rfl ?_
        refine sw_hA (pn := 40) (i := 4) (v := 110 + b) rfl rfl rfl rfl rfl (hR.br b (by omega) (by omega)).1 (hR.br b (by omega) (by omega)).2.2.2.2.2.1.1 (by omega) ?_
        refine sw_p 1 (f' := (41, [some (2, 100 + b), some (0, r), some (0, i)], [(0, i), (2, 110 + b)])) rfl ?_
        refine sw_aal (pn := 42) (t := 3) (l := 4) rfl rfl rfl (by decide) (by omega) (hR.br b (by omega) (by omega)).2.2.2.2.2.1.2.1 (hR.br b (by omega) (by omega)).2.2.2.2.2.1.2.2 (by omega) (by omega) (fun h => absurd h (by rw [show ν (110 + b) i = -1 from ((hR.sl b i (by omega) (by omega) (by omega) (by omega)).1).trans (if_neg (by omega))]; omega)) (fun _ => ?_)
        refine sw_p 3 (f' := (4, [some (2, 100 + b), some (0, r), some (0, i + 1)], [])) rfl ?_
        exact ih (i + 1) _ (by omega) (by omega)
theorem cl_stl (hI : iv_A ρ f) (hR : pt_R s ν ρ f) (hb : 0 ≤ b ∧ b < ρ 0 1) (hm : ∀ u, 1 ≤ u → u < ρ 0 1 → ρ 3 u = b → ν (100 + u) 8 = ρ 7 u) : sw_w E (d + 1) 25 (0, [some (2, 100 + b), none, none], []) s ν (sw_is (some (0, mo_ld ρ b)) s ν) := by
  refine sw_p 4 (f' := (4, [some (2, 100 + b), some (0, 0), some (0, 0)], [])) rfl ?_
  have h := cl_stl_l (E := E) (d := d) hI hR hb hm 4 0 0 (by omega) (by omega)
  rw [Int.zero_add, Int.add_zero] at h
  exact h
theorem ld_70 (hI : iv_A ρ f) : mo_ld (mm_u ρ 7 0 z) 0 = mo_ld ρ 0 := by
  have hu : ∀ i, 0 ≤ i → i < 32 → mo_ldu (mm_u ρ 7 0 z) (mm_u ρ 7 0 z 2 i) = mo_ldu ρ (ρ 2 i) := fun i h1 h2 => by
    have htr := hI.2.2.1.2.2 i h1 h2
    rw [mm_u_ne (by omega)]
    unfold mo_ldu
    by_cases h3 : 100 ≤ ρ 2 i
    · rw [if_pos h3, if_pos h3, mm_u_ne (by omega), mm_u_ne (by omega), mm_u_ne (by omega), mm_u_ne (by omega)]
    · rw [if_neg h3, if_neg h3]
      by_cases h4 : 0 ≤ ρ 2 i
      · rw [if_pos h4, if_pos h4, mm_u_ne (by omega)]
      · rw [if_neg h4, if_neg h4]
  show mo_ldu (mm_u ρ 7 0 z) (mm_u ρ 7 0 z 2 (4 * 0)) + (mo_ldu (mm_u ρ 7 0 z) (mm_u ρ 7 0 z 2 (4 * 0 + 1)) + (mo_ldu (mm_u ρ 7 0 z) (mm_u ρ 7 0 z 2 (4 * 0 + 1 + 1)) + (mo_ldu (mm_u ρ 7 0 z) (mm_u ρ 7 0 z 2 (4 * 0 + 1 + 1 + 1)) + 0))) = mo_ldu ρ (ρ 2 (4 * 0)) + (mo_ldu ρ (ρ 2 (4 * 0 + 1)) + (mo_ldu ρ (ρ 2 (4 * 0 + 1 + 1)) + (mo_ldu ρ (ρ 2 (4 * 0 + 1 + 1 + 1)) + 0)))
  rw [hu _ (by omega) (by omega), hu _ (by omega) (by omega), hu _ (by omega) (by omega), hu _ (by omega) (by omega)]
/-- the ends of measureBlocks -/
def mb_P (ν ρ : mm_T) (n : Nat) (m : Int) (v : Option mg_V) (ν' : mm_T) : Prop := v = some (0, if n = 0 then m else mo_ld (mo_me n ρ) 0) ∧ (∀ p i, ¬ (100 ≤ p ∧ p < 108 ∧ i = 8) → ν' p i = ν p i) ∧ ∀ u, 1 ≤ u → u < ρ 0 1 → ν' (100 + u) 8 = mo_me n ρ 7 u
theorem cl_mb_l : ∀ (n : Nat) (b m : Int) (ν ρ : mm_T), b + 1 = n → iv_A ρ f → pt_R s ν ρ f → b < ρ 0 1 → (∀ u, b < u → u < ρ 0 1 → 0 ≤ ρ 7 u ∧ ρ 7 u ≤ mo_bd (f u)) → (∀ u, 1 ≤ u → b < u → u < ρ 0 1 → ν (100 + u) 8 = ρ 7 u) → sw_w E (d + 2) 53 (9, [some (2, 50), some (0, m), some (0, b)], []) s ν (sw_vr (mb_P ν ρ n m) s) := by
  intro n
  induction n with
  | zero =>
    intro b m ν ρ hn hI hR hb hm hc
    refine sw_p 1 (f' := (10, [some (2, 50), some (0, m), some (0, b)], [(0, b)])) rfl ?_
    refine sw_lt1 (pt := 42) (pn := 13) rfl rfl rfl (by omega) (fun m1 => ?_) (fun h => absurd h (by omega))
    refine sw_p 1 (f' := (43, [some (2, 50), some (0, m), some (0, b)], [(0, m)])) rfl ?_
    exact sw_retI rfl rfl rfl ⟨_, rfl, rfl, rfl, fun _ _ _ => rfl, fun u h1 h2 => hc u h1 (by omega) h2⟩
  | succ n ih =>
    intro b m ν ρ hn hI hR hb hm hc
    have h8 := hI.1.1
    have en : b = (n : Int) := by omega
    have hld := ld_b hI.1 hI.2.1 hI.2.2.1 (b := b) (by omega) hm
    have hbl := mo_bl_b hld.1 hld.2
    have hbb : mo_bd (f b) ≤ 4194304 := by unfold mo_bd; split <;> (try split) <;> (try split) <;> (try split) <;> omega
    refine sw_p 1 (f' := (10, [some (2, 50), some (0, m), some (0, b)], [(0, b)])) rfl ?_
    refine sw_lt1 (pt := 42) (pn := 13) rfl rfl rfl (by omega) (fun h => absurd h (by omega)) (fun m1 => ?_)
    refine sw_p 1 (f' := (14, [some (2, 50), some (0, m), some (0, b)], [(2, 50)])) rfl ?_
    refine sw_hA (pn := 17) (i := 0) (v := 51) rfl rfl rfl rfl rfl hR.sh.1 hR.sh.2.1.1 (by omega) ?_
    refine sw_p 1 (f' := (18, [some (2, 50), some (0, m), some (0, b)], [(0, b), (2, 51)])) rfl ?_
    refine sw_aal (pn := 19) (t := 3) (l := 8) rfl rfl rfl (by decide) (by omega) hR.sh.2.1.2.1 hR.sh.2.1.2.2 (by omega) (by omega) (fun _ => ?_) (fun h => absurd h (by rw [show ν 51 b = 100 + b from (hR.bn b (by omega) (by omega)).1]; omega))
    rw [show ν 51 b = 100 + b from (hR.bn b (by omega) (by omega)).1]
    refine sw_cv1 (pn := 22) (q0 := mj_PT_measureBlocks) (q := mj_Br_sumToLay) (p := 100 + b) (as2 := []) (L2 := [some (2, 100 + b), none, none]) (rest := []) (v := some (0, mo_ld ρ b)) (s1 := s) (ν1 := ν) rfl rfl rfl rfl rfl rfl rfl rfl rfl (hR.br b (by omega) (by omega)).1 (cl_stl hI hR (by omega) (fun u h1 h2 h3 => hc u h1 (by have := hI.2.2.1.2.1 u h1 h2; omega) h2)) ?_
    show sw_w E _ 53 (22, [some (2, 50), some (0, m), some (0, b)], [(0, mo_ld ρ b)]) s ν _
    refine sw_p 2 (f' := (24, [some (2, 50), some (0, mo_ld ρ b), some (0, b)], [(2, 50)])) rfl ?_
    refine sw_hA (pn := 27) (i := 0) (v := 51) rfl rfl rfl rfl rfl hR.sh.1 hR.sh.2.1.1 (by omega) ?_
    refine sw_p 1 (f' := (28, [some (2, 50), some (0, mo_ld ρ b), some (0, b)], [(0, b), (2, 51)])) rfl ?_
    refine sw_aal (pn := 29) (t := 3) (l := 8) rfl rfl rfl (by decide) (by omega) hR.sh.2.1.2.1 hR.sh.2.1.2.2 (by omega) (by omega) (fun _ => ?_) (fun h => absurd h (by rw [show ν 51 b = 100 + b from (hR.bn b (by omega) (by omega)).1]; omega))
    rw [show ν 51 b = 100 + b from (hR.bn b (by omega) (by omega)).1]
    refine sw_p 1 (f' := (30, [some (2, 50), some (0, mo_ld ρ b), some (0, b)], [(0, mo_ld ρ b), (2, 100 + b)])) rfl ?_
    refine sw_cs1 (pn := 33) (q0 := mj_PT_measureBlocks) (q := mj_PT_blockFor) (L2 := [some (0, mo_ld ρ b), none]) (rest := [(2, 100 + b)]) (v := some (0, cb_l (mo_ld ρ b))) (s1 := s) (ν1 := ν) rfl rfl rfl rfl rfl rfl rfl rfl (cl_bf (by omega)) ?_
    show sw_w E _ 53 (33, [some (2, 50), some (0, mo_ld ρ b), some (0, b)], [(0, cb_l (mo_ld ρ b)), (2, 100 + b)]) s ν _
    refine sw_pI (pn := 36) (i := 8) rfl rfl rfl rfl rfl (by omega) (hR.br b (by omega) (by omega)).1 ?_
    refine sw_p 2 (f' := (9, [some (2, 50), some (0, mo_ld ρ b), some (0, b + (-1))], [])) rfl ?_
    have hf1 : fr_r [7] ρ (mm_u ρ 7 b (mo_bl (mo_ld ρ b))) := fr_u (by decide)
    have h01 := hf1 0 (by decide)
    have hR1 : pt_R s (mm_u ν (100 + b) 8 (cb_l (mo_ld ρ b))) (mm_u ρ 7 b (mo_bl (mo_ld ρ b))) f := pt_R_fr hI.1 (fun p i h1 h2 h3 => mm_u_ne (by omega)) (rr_of (fr_w hf1 (by decide))) hR
    have hI1 : iv_A (mm_u ρ 7 b (mo_bl (mo_ld ρ b))) f := iv_A_fr (fr_w hf1 (by decide)) hI
    refine sw_mono (ih (b + -1) (mo_ld ρ b) _ _ (by omega) hI1 hR1 (by rw [h01]; omega) ?_ ?_) ?_
    · intro u h1 h2
      rw [h01] at h2
      by_cases hu : u = b
      · rw [hu, mm_u_at]; exact ⟨hbl.1, hbl.2.2⟩
      · rw [mm_u_ne (by omega)]; exact hm u (by omega) h2
    · intro u h1 h2 h3
      rw [h01] at h3
      by_cases hu : u = b
      · have hfu := hI.2.2.1.2.1 u h1 h3
        have hbu : mo_bd (f b) ≤ 1048576 := by rw [← hu]; unfold mo_bd; split <;> (try split) <;> (try split) <;> (try split) <;> omega
        rw [hu, mm_u_at, mm_u_at]; exact cb_bl (by omega)
      · rw [mm_u_ne (by omega), mm_u_ne (by omega)]; exact hc u h1 (by omega) h3
    · intro o s2 ν2 ⟨v, g1, g2, g3, g4, g5⟩
      refine ⟨v, g1, g2, ?_, fun p i h1 => (g4 p i h1).trans (mm_u_ne (by omega)), fun u h1 h2 => ?_⟩
      · rw [g3, if_neg (show ¬ n + 1 = 0 by omega)]
        by_cases hn0 : n = 0
        · have hb0 : b = 0 := by omega
          subst hn0
          rw [if_pos rfl, hb0]
          show some ((0 : Nat), mo_ld ρ 0) = some (0, mo_ld (mm_u ρ 7 ((0 : Nat) : Int) (mo_bl (mo_ld ρ ((0 : Nat) : Int)))) 0)
          rw [show ((0 : Nat) : Int) = 0 from rfl, ld_70 hI]
        · rw [if_neg hn0, en]; rfl
      · rw [g5 u h1 (by rw [h01]; exact h2), en]; rfl
theorem cl_mb (hI : iv_A ρ f) (hR : pt_R s ν ρ f) : sw_w E (d + 2) 53 (0, [some (2, 50), none, none], []) s ν (sw_vr (mb_P ν ρ (ρ 0 1).toNat 0) s) := by
  have h8 := hI.1.1
  refine sw_p 3 (f' := (3, [some (2, 50), some (0, 0), none], [(2, 50)])) rfl ?_
  refine sw_gI (pn := 6) (i := 8) rfl rfl rfl rfl rfl (by omega) hR.sh.1 ?_
  rw [show ν 50 8 = ρ 0 1 from hR.z.1]
  refine sw_p 3 (f' := (9, [some (2, 50), some (0, 0), some (0, (ρ 0 1) - 1)], [])) rfl ?_
  exact cl_mb_l (ρ 0 1).toNat _ 0 ν ρ (by omega) hI hR (by omega) (fun u h1 h2 => by omega) (fun u h1 h2 h3 => by omega)
end PC3
