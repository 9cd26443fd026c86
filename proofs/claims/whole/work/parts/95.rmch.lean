/-! the relation when cards are taken out, and when states are turned -/
/-- no two slots hold the same -/
def iv_U (ρ : mm_T) : Prop := ∀ i j, 0 ≤ i → i < 32 → 0 ≤ j → j < 32 → 0 ≤ ρ 2 i → ρ 2 i = ρ 2 j → i = j
/-- at most eight requests wait -/
def iv_8 (ρ : mm_T) : Prop := ∀ c, 0 ≤ c → c < ρ 0 12 → mo_wt ρ c ≤ 8
section RMCH
variable {s ν ν' ρ : mm_T} {f : Int → Int} {c i k x y z p : Int}
theorem ch_15 (h : 0 ≤ c ∧ c < ρ 0 12) : mo_ch ρ x y 15 c = if ρ 15 c = x then y else ρ 15 c := rg_at h
theorem ch_ne (h : p ≠ 15) : mo_ch ρ x y p = ρ p := by
  funext i
  exact rg_ne (fun h2 => h h2.1)
theorem rm_15 : mo_rm ρ c y 15 i = if i = c then y else ρ 15 i := by
  unfold mo_rm mo_rm3 mo_rm2 mo_rm1
  rw [mm_u_ne (by omega), rg_ne (by omega), rg_ne (by omega), mm_u_ne (by omega)]
  by_cases h : i = c
  · rw [h, mm_u_at, if_pos rfl]
  · rw [mm_u_ne (by omega), if_neg h]
theorem rm_19 : mo_rm ρ c y 19 i = if i = c then 0 else ρ 19 i := by
  unfold mo_rm mo_rm3 mo_rm2 mo_rm1
  rw [mm_u_ne (by omega), rg_ne (by omega), rg_ne (by omega)]
  by_cases h : i = c
  · rw [h, mm_u_at, if_pos rfl]
  · rw [mm_u_ne (by omega), mm_u_ne (by omega), if_neg h]
theorem rm_17 : mo_rm ρ c y 17 i = if 3 * c ≤ i ∧ i < 3 * c + 3 then -1 else ρ 17 i := by
  unfold mo_rm mo_rm3 mo_rm2 mo_rm1
  rw [mm_u_ne (by omega), rg_ne (by omega)]
  by_cases h : 3 * c ≤ i ∧ i < 3 * c + 3
  · rw [rg_at h, if_pos h]
  · rw [rg_ne (fun h2 => h h2.2), mm_u_ne (by omega), mm_u_ne (by omega), if_neg h]
theorem rm_2 (h : 0 ≤ i ∧ i < 32) : mo_rm ρ c y 2 i = if ρ 2 i = 100 + c then -1 else ρ 2 i := by
  unfold mo_rm mo_rm3
  rw [mm_u_ne (by omega), rg_at h]
theorem rm_21 : mo_rm ρ c y 0 21 = if ρ 0 21 = c then -1 else ρ 0 21 := mm_u_at
theorem rm_ne (h : p ≠ 0 ∧ p ≠ 2 ∧ p ≠ 15 ∧ p ≠ 17 ∧ p ≠ 19) : mo_rm ρ c y p = ρ p := by
  funext i
  unfold mo_rm mo_rm3 mo_rm2 mo_rm1
  rw [mm_u_ne (by omega), rg_ne (by omega), rg_ne (by omega), mm_u_ne (by omega), mm_u_ne (by omega)]
theorem mm_u_self : mm_u ρ p i (ρ p i) = ρ := by
  funext q k
  unfold mm_u
  split
  · next h => rw [h.1, h.2]
  · rfl
theorem rm_wt {c2 : Int} : mo_wt (mo_rm ρ c y) c2 = mo_wt ρ c2 := mo_wt_c (mo_rm_0 (by omega)) (rm_ne (by omega)) (rm_ne (by omega)) c2
theorem rm_pd {c2 : Int} : mo_pd (mo_rm ρ c y) c2 = mo_pd ρ c2 := mo_pd_c (rm_ne (by omega)) (rm_ne (by omega)) c2
/-- the class's memory after a card was taken out -/
def rm_N (s ν ρ ν' : mm_T) (c y z : Int) : Prop := ν' (120 + ρ 14 c) (s (300 + c) 1) = -1 ∧ ν' (300 + c) 6 = y ∧ ν' (300 + c) 7 = z ∧ ν' 50 11 = (if ρ 0 21 = c ∨ ρ 0 21 < 0 then -1 else 300 + ρ 0 21) ∧ ∀ p i, 50 ≤ p → ¬ (p = 120 + ρ 14 c ∧ i = s (300 + c) 1) → ¬ (p = 300 + c ∧ (i = 6 ∨ i = 7)) → ¬ (p = 50 ∧ i = 11) → ν' p i = ν p i
theorem R_rm (hI : iv_A ρ f) (hU : iv_U ρ) (h8 : iv_8 ρ) (hR : pt_R s ν ρ f) (hc : 0 ≤ c ∧ c < ρ 0 12) (hst : ρ 15 c ≤ 3) (hy : y = 4 ∨ y = 5) (h19 : ρ 19 c = 0) (hN : rm_N s ν ρ ν' c y z) : pt_R s ν' (mo_rm (mm_u ρ 16 c z) c y) f := by
  obtain ⟨n1, n2, n3, n4, n5⟩ := hN
  have b1 := hI.1.1
  have b8 := hI.1.2.1
  have b12 := hI.1.2.2.1
  have b24 := hI.1.2.2.2.2.2.1
  have hcd := hI.1.cd c hc.1 (by omega)
  have hK := hI.2.2.2.2.2.1 c hc.1 hc.2
  have hsl := (hR.ca c hc.1 hc.2).2.2.1
  have hcs := hR.cs c hc.1 hc.2 hst
  have e0 : ∀ i, i ≠ 21 → mo_rm (mm_u ρ 16 c z) c y 0 i = ρ 0 i := fun i hi => by rw [mo_rm_0 hi, mm_u_ne (by omega)]
  have er : ∀ p, p ≠ 0 → p ≠ 2 → p ≠ 15 → p ≠ 16 → p ≠ 17 → p ≠ 19 → mo_rm (mm_u ρ 16 c z) c y p = ρ p := fun p h1 h2 h3 h4 h5 h6 => by
    rw [rm_ne ⟨h1, h2, h3, h5, h6⟩]
    funext i
    exact mm_u_ne (by omega)
  have ew : ∀ c2, mo_wt (mo_rm (mm_u ρ 16 c z) c y) c2 = mo_wt ρ c2 := fun c2 => mo_wt_c (e0 24 (by omega)) (er 25 (by omega) (by omega) (by omega) (by omega) (by omega) (by omega)) (er 28 (by omega) (by omega) (by omega) (by omega) (by omega) (by omega)) c2
  have ep : ∀ c2, mo_pd (mo_rm (mm_u ρ 16 c z) c y) c2 = mo_pd ρ c2 := fun c2 => mo_pd_c (er 25 (by omega) (by omega) (by omega) (by omega) (by omega) (by omega)) (er 28 (by omega) (by omega) (by omega) (by omega) (by omega) (by omega)) c2
  have e15 : ∀ i, mo_rm (mm_u ρ 16 c z) c y 15 i = if i = c then y else ρ 15 i := fun i => by rw [rm_15, mm_u_ne (by omega)]
  have e19 : ∀ i, mo_rm (mm_u ρ 16 c z) c y 19 i = if i = c then 0 else ρ 19 i := fun i => by rw [rm_19, mm_u_ne (by omega)]
  have e17 : ∀ i, mo_rm (mm_u ρ 16 c z) c y 17 i = if 3 * c ≤ i ∧ i < 3 * c + 3 then -1 else ρ 17 i := fun i => by rw [rm_17, mm_u_ne (by omega)]
  have e2 : ∀ i, 0 ≤ i → i < 32 → mo_rm (mm_u ρ 16 c z) c y 2 i = if ρ 2 i = 100 + c then -1 else ρ 2 i := fun i h1 h2 => by rw [rm_2 ⟨h1, h2⟩, mm_u_ne (by omega)]
  have e16 : ∀ i, mo_rm (mm_u ρ 16 c z) c y 16 i = if i = c then z else ρ 16 i := fun i => by
    rw [rm_ne (by omega)]
    by_cases h : i = c
    · rw [h, mm_u_at, if_pos rfl]
    · rw [mm_u_ne (by omega), if_neg h]
  have e21 : mo_rm (mm_u ρ 16 c z) c y 0 21 = if ρ 0 21 = c then -1 else ρ 0 21 := by rw [rm_21, mm_u_ne (by omega)]
  have e9 := er 9 (by omega) (by omega) (by omega) (by omega) (by omega) (by omega)
  have e13 := er 13 (by omega) (by omega) (by omega) (by omega) (by omega) (by omega)
  have e14 := er 14 (by omega) (by omega) (by omega) (by omega) (by omega) (by omega)
  generalize mo_rm (mm_u ρ 16 c z) c y = ρ' at e0 er ew ep e15 e19 e17 e2 e16 e21 e9 e13 e14 ⊢
  refine ⟨hR.sh, ?_, ?_, ?_, ?_, ?_, ?_, ?_, ?_, ?_, ?_, ?_, ?_, ?_⟩
  · exact pt_Br_c hR.br (e0 1 (by omega)) (fun b _ _ => by rw [er 3 (by omega) (by omega) (by omega) (by omega) (by omega) (by omega)]) (fun b _ _ => by rw [er 4 (by omega) (by omega) (by omega) (by omega) (by omega) (by omega)])
  · exact pt_Bn_c hR.bn (e0 1 (by omega)) (fun b h1 h2 => ⟨n5 51 b (by omega) (by omega) (by omega) (by omega), n5 (100 + b) 6 (by omega) (by omega) (by omega) (by omega), n5 (100 + b) 7 (by omega) (by omega) (by omega) (by omega), by rw [er 5 (by omega) (by omega) (by omega) (by omega) (by omega) (by omega)], by rw [er 6 (by omega) (by omega) (by omega) (by omega) (by omega) (by omega)]⟩)
  · intro b i h1 h2 h3 h4
    rw [e0 1 (by omega)] at h2
    obtain ⟨g1, g2⟩ := hR.sl b i h1 h2 h3 h4
    rw [e2 (4 * b + i) (by omega) (by omega), n5 (110 + b) i (by omega) (by omega) (by omega) (by omega)]
    by_cases hs : ρ 2 (4 * b + i) = 100 + c
    · have hij := hU (4 * b + i) (4 * ρ 14 c + s (300 + c) 1) (by omega) (by omega) (by omega) (by omega) (by omega) (by rw [hs, hcs])
      have hb : b = ρ 14 c := by omega
      have hi : i = s (300 + c) 1 := by omega
      rw [if_pos hs, if_neg (by omega), if_neg (by omega)]
      rw [if_neg (by omega)] at g1
      exact ⟨g1, by rw [hb, hi]; exact n1⟩
    · rw [if_neg hs]
      refine ⟨g1, ?_⟩
      rw [n5 (120 + b) i (by omega) (fun h => hs (by rw [show b = ρ 14 c by omega, h.2]; exact hcs)) (by omega) (by omega)]
      exact g2
  · exact pt_Ty_c hR.ty (e0 8 (by omega)) (fun t _ _ => ⟨by rw [er 10 (by omega) (by omega) (by omega) (by omega) (by omega) (by omega)], by rw [er 11 (by omega) (by omega) (by omega) (by omega) (by omega) (by omega)]⟩)
  · exact pt_Tn_c hR.tn (e0 8 (by omega)) e9 (fun t h1 h2 => ⟨n5 52 t (by omega) (by omega) (by omega) (by omega), fun k k0 k1 => ⟨n5 (220 + t) k (by omega) (by omega) (by omega) (by omega), n5 (240 + t) k (by omega) (by omega) (by omega) (by omega)⟩⟩)
  · exact pt_Ca_c hR.ca (e0 12 (by omega)) (fun c2 _ _ => ⟨by rw [e14], by rw [e13]⟩)
  · refine pt_Cn_c hR.cn (e0 12 (by omega)) (fun c2 h1 h2 h3 => ?_)
    obtain ⟨g1, g2, g3, g4, g5, g6, g7⟩ := h3
    unfold pt_Cf
    rw [n5 53 c2 (by omega) (by omega) (by omega) (by omega), n5 (300 + c2) 5 (by omega) (by omega) (by omega) (by omega), n5 (300 + c2) 8 (by omega) (by omega) (by omega) (by omega), n5 (300 + c2) 9 (by omega) (by omega) (by omega) (by omega), n5 (300 + c2) 10 (by omega) (by omega) (by omega) (by omega), e15, e16, e19, ew, er 20 (by omega) (by omega) (by omega) (by omega) (by omega) (by omega)]
    by_cases hcc : c2 = c
    · rw [if_pos hcc, if_pos hcc, if_pos hcc]
      rw [hcc] at g1 g2 g5 g6 g7 ⊢
      exact ⟨g1, g2, n2, n3, g5, by omega, g7⟩
    · rw [if_neg hcc, if_neg hcc, if_neg hcc, n5 (300 + c2) 6 (by omega) (by omega) (by omega) (by omega), n5 (300 + c2) 7 (by omega) (by omega) (by omega) (by omega)]
      exact ⟨g1, g2, g3, g4, g5, g6, g7⟩
  · refine pt_Cr_c hR.cr (e0 12 (by omega)) e9 (fun c2 k h1 h2 h3 h4 => ⟨n5 (340 + c2) k (by omega) (by omega) (by omega) (by omega), by rw [e13], fun h5 => ?_⟩)
    rw [e15] at h5
    by_cases hcc : c2 = c
    · rw [if_pos hcc] at h5; omega
    · rw [if_neg hcc] at h5
      refine ⟨h5, ?_⟩
      rw [e17, if_neg (by omega)]
  · refine pt_Cs_c hR.cs (e0 12 (by omega)) (fun c2 h1 h2 h3 => ?_)
    rw [e15] at h3
    by_cases hcc : c2 = c
    · rw [if_pos hcc] at h3; omega
    · rw [if_neg hcc] at h3
      have hK2 := hI.2.2.2.2.2.1 c2 h1 h2
      have hcd2 := hI.1.cd c2 h1 (by omega)
      have hsl2 := (hR.ca c2 h1 h2).2.2.1
      refine ⟨h3, by rw [e14], fun h4 => ?_⟩
      rw [e2 _ (by omega) (by omega), if_neg (by omega)]
      exact h4
  · exact pt_Q_c hR.q (e0 12 (by omega)) (e0 24 (by omega)) (fun c2 h1 h2 => ⟨ep c2, fun i h3 h4 => n5 (380 + c2) i (by omega) (by omega) (by omega) (by omega)⟩) h8
  · exact pt_Rq_c hR.rq (e0 24 (by omega)) (fun t h1 h2 => ⟨by rw [er 26 (by omega) (by omega) (by omega) (by omega) (by omega) (by omega)], by rw [er 27 (by omega) (by omega) (by omega) (by omega) (by omega) (by omega)], fun h3 => by rw [n5 (1000 + t) 2 (by omega) (by omega) (by omega) (by omega), er 28 (by omega) (by omega) (by omega) (by omega) (by omega) (by omega)]; exact h3⟩)
  · exact pt_L_c hR.li hI.1 (e0 24 (by omega)) (n5 54 0 (by omega) (by omega) (by omega) (by omega)) (n5 54 1 (by omega) (by omega) (by omega) (by omega)) (fun p t hp => n5 p t (by omega) (by omega) (by omega) (by omega))
  · obtain ⟨g1, g2, g3, g4, g5, g6⟩ := hR.z
    unfold pt_Z
    rw [n5 50 8 (by omega) (by omega) (by omega) (by omega), n5 50 9 (by omega) (by omega) (by omega) (by omega), n5 50 10 (by omega) (by omega) (by omega) (by omega), n5 50 12 (by omega) (by omega) (by omega) (by omega), n5 50 13 (by omega) (by omega) (by omega) (by omega), e0 1 (by omega), e0 8 (by omega), e0 12 (by omega), e0 22 (by omega), e0 23 (by omega), n4, e21]
    refine ⟨g1, g2, g3, ?_, g5, g6⟩
    by_cases h1 : ρ 0 21 = c
    · rw [if_pos (Or.inl h1), if_pos h1, if_pos (by omega)]
    · rw [if_neg h1]
      by_cases h2 : ρ 0 21 < 0
      · rw [if_pos (Or.inr h2), if_pos h2]
      · rw [if_neg (by omega), if_neg h2]
/-- states turned: the class's memory -/
def ta_m (ν ρ : mm_T) (x y n : Int) : mm_T := fun p i => if 300 ≤ p ∧ p < 300 + n ∧ i = 6 ∧ ρ 15 (p - 300) = x then y else ν p i
theorem ta_ne {n : Int} (h : ¬ (300 ≤ p ∧ p < 300 + n ∧ i = 6)) : ta_m ν ρ x y n p i = ν p i := by
  unfold ta_m
  rw [if_neg (fun h2 => h ⟨h2.1, h2.2.1, h2.2.2.1⟩)]
theorem R_ch (hI : iv_A ρ f) (h8 : iv_8 ρ) (hR : pt_R s ν ρ f) (hxy : (x = 1 ∧ y = 2) ∨ (x = 2 ∧ y = 1)) : pt_R s (ta_m ν ρ x y (ρ 0 12)) (mo_ch ρ x y) f := by
  have b1 := hI.1.1
  have b8 := hI.1.2.1
  have b12 := hI.1.2.2.1
  have b24 := hI.1.2.2.2.2.2.1
  have ne : ∀ p i, ¬ (300 ≤ p ∧ p < 300 + ρ 0 12 ∧ i = 6) → ta_m ν ρ x y (ρ 0 12) p i = ν p i := fun p i h => ta_ne h
  have e15 : ∀ c, 0 ≤ c → c < ρ 0 12 → mo_ch ρ x y 15 c = if ρ 15 c = x then y else ρ 15 c := fun c h1 h2 => ch_15 ⟨h1, h2⟩
  have er : ∀ p, p ≠ 15 → mo_ch ρ x y p = ρ p := fun p h => ch_ne h
  have ew : ∀ c2, mo_wt (mo_ch ρ x y) c2 = mo_wt ρ c2 := fun c2 => mo_wt_c (congrFun (er 0 (by omega)) 24) (er 25 (by omega)) (er 28 (by omega)) c2
  have ep : ∀ c2, mo_pd (mo_ch ρ x y) c2 = mo_pd ρ c2 := fun c2 => mo_pd_c (er 25 (by omega)) (er 28 (by omega)) c2
  have e6 : ∀ c, 0 ≤ c → c < ρ 0 12 → ν (300 + c) 6 = ρ 15 c → ta_m ν ρ x y (ρ 0 12) (300 + c) 6 = mo_ch ρ x y 15 c := fun c h1 h2 h3 => by
    rw [e15 c h1 h2]
    unfold ta_m
    rw [show 300 + c - 300 = c by omega]
    by_cases h : ρ 15 c = x
    · rw [if_pos ⟨by omega, by omega, rfl, h⟩, if_pos h]
    · rw [if_neg (fun h2 => h h2.2.2.2), if_neg h]
      exact h3
  generalize mo_ch ρ x y = ρ' at e15 er ew ep e6 ⊢
  generalize ta_m ν ρ x y (ρ 0 12) = ν' at ne e6 ⊢
  have e0 := er 0 (by omega)
  refine ⟨hR.sh, ?_, ?_, ?_, ?_, ?_, ?_, ?_, ?_, ?_, ?_, ?_, ?_, ?_⟩
  · exact pt_Br_c hR.br (by rw [e0]) (fun b _ _ => by rw [er 3 (by omega)]) (fun b _ _ => by rw [er 4 (by omega)])
  · exact pt_Bn_c hR.bn (by rw [e0]) (fun b h1 h2 => ⟨ne 51 b (by omega), ne (100 + b) 6 (by omega), ne (100 + b) 7 (by omega), by rw [er 5 (by omega)], by rw [er 6 (by omega)]⟩)
  · exact pt_Sl_c hR.sl (by rw [e0]) (fun b i h1 h2 h3 h4 => ⟨ne (110 + b) i (by omega), ne (120 + b) i (by omega), by rw [er 2 (by omega)]⟩)
  · exact pt_Ty_c hR.ty (by rw [e0]) (fun t _ _ => ⟨by rw [er 10 (by omega)], by rw [er 11 (by omega)]⟩)
  · exact pt_Tn_c hR.tn (by rw [e0]) (er 9 (by omega)) (fun t h1 h2 => ⟨ne 52 t (by omega), fun k k0 k1 => ⟨ne (220 + t) k (by omega), ne (240 + t) k (by omega)⟩⟩)
  · exact pt_Ca_c hR.ca (by rw [e0]) (fun c2 _ _ => ⟨by rw [er 14 (by omega)], by rw [er 13 (by omega)]⟩)
  · refine pt_Cn_c hR.cn (by rw [e0]) (fun c2 h1 h2 h3 => ?_)
    obtain ⟨g1, g2, g3, g4, g5, g6, g7⟩ := h3
    unfold pt_Cf
    rw [ne 53 c2 (by omega), ne (300 + c2) 5 (by omega), ne (300 + c2) 7 (by omega), ne (300 + c2) 8 (by omega), ne (300 + c2) 9 (by omega), ne (300 + c2) 10 (by omega), e6 c2 h1 h2 g3, ew, er 16 (by omega), er 19 (by omega), er 20 (by omega)]
    exact ⟨g1, g2, rfl, g4, g5, g6, g7⟩
  · refine pt_Cr_c hR.cr (by rw [e0]) (er 9 (by omega)) (fun c2 k h1 h2 h3 h4 => ⟨ne (340 + c2) k (by omega), by rw [er 13 (by omega)], fun h5 => ⟨?_, by rw [er 17 (by omega)]⟩⟩)
    rw [e15 c2 h1 h2] at h5
    split at h5 <;> omega
  · refine pt_Cs_c hR.cs (by rw [e0]) (fun c2 h1 h2 h3 => ⟨?_, by rw [er 14 (by omega)], fun h4 => by rw [er 2 (by omega)]; exact h4⟩)
    rw [e15 c2 h1 h2] at h3
    split at h3 <;> omega
  · exact pt_Q_c hR.q (by rw [e0]) (by rw [e0]) (fun c2 h1 h2 => ⟨ep c2, fun i h3 h4 => ne (380 + c2) i (by omega)⟩) h8
  · exact pt_Rq_c hR.rq (by rw [e0]) (fun t h1 h2 => ⟨by rw [er 26 (by omega)], by rw [er 27 (by omega)], fun h3 => by rw [ne (1000 + t) 2 (by omega), er 28 (by omega)]; exact h3⟩)
  · exact pt_L_c hR.li hI.1 (by rw [e0]) (ne 54 0 (by omega)) (ne 54 1 (by omega)) (fun p t hp => ne p t (by omega))
  · exact pt_Z_c hR.z (fun i h1 h2 => ne 50 i (by omega)) (by rw [e0]) (by rw [e0]) (by rw [e0]) (by rw [e0]) (by rw [e0]) (by rw [e0])
end RMCH
