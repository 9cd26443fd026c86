/-! the invariant; moving all in class and reference -/
/-- the new card; who is in the slots -/
def iv_N (ρ : mm_T) : Prop := (0 ≤ ρ 0 21 → ρ 15 (ρ 0 21) = 0) ∧ (∀ c, 0 ≤ c → c < ρ 0 12 → ρ 15 c = 0 → c = ρ 0 21) ∧ (∀ c, 0 ≤ c → c < ρ 0 12 → ρ 15 c ≤ 3 → ∃ i, 0 ≤ i ∧ i < 32 ∧ ρ 2 i = 100 + c) ∧ (∀ u, 1 ≤ u → u < ρ 0 1 → ∃ i, 0 ≤ i ∧ i < 32 ∧ ρ 2 i = u)
/-- what is not made yet -/
def iv_Z (ρ : mm_T) : Prop := (∀ i, 4 * ρ 0 1 ≤ i → i < 32 → ρ 2 i = -1) ∧ (∀ b, ρ 0 1 ≤ b → b < 8 → ρ 5 b = 0 ∧ ρ 6 b = 0) ∧ (∀ c, ρ 0 12 ≤ c → c < 40 → ρ 16 c = 0 ∧ ρ 19 c = 0 ∧ ρ 20 c = 0) ∧ (∀ t, 0 ≤ t → t < ρ 0 24 → ρ 25 t < ρ 0 12) ∧ (∀ i, 3 * ρ 0 12 ≤ i → i < 120 → ρ 17 i = 0)
/-- who has pieces to do is there and has a request -/
def iv_P (ρ : mm_T) : Prop := ∀ c, 0 ≤ c → c < ρ 0 12 → 0 < ρ 19 c → (1 ≤ ρ 15 c ∧ ρ 15 c ≤ 3) ∧ 1 ≤ mo_wt ρ c
/-- once checked, all can be packed -/
def iv_X (ρ : mm_T) : Prop := 0 ≤ ρ 0 21 → ρ 0 22 ≠ 0 → mo_ld (mo_me (ρ 0 1).toNat ρ) 0 ≤ 4096
def iv_I (ρ : mm_T) (f : Int → Int) : Prop := iv_A ρ f ∧ iv_U ρ ∧ iv_8 ρ ∧ iv_D ρ ∧ iv_W ρ ∧ iv_O ρ ∧ iv_R ρ ∧ iv_P ρ ∧ iv_N ρ ∧ iv_Z ρ ∧ iv_X ρ
/-- what is known of the plan -/
def pv_F (μ : mm_T) (f : Int → Int) (T : pn_T) : Prop := iv_A μ f ∧ iv_U μ ∧ lv_ok μ ∧ (∀ u, 1 ≤ u → u < μ 0 1 → ∃ i, 0 ≤ i ∧ i < 32 ∧ μ 2 i = u) ∧ (∀ u, 1 ≤ u → u < μ 0 1 → μ 7 u = 0 ∨ 64 ≤ μ 7 u) ∧ (∀ b, 0 ≤ b → b < μ 0 1 → μ 7 b = mo_bl (mo_ld μ b)) ∧ (∀ b, 0 ≤ b → b < μ 0 1 → 0 ≤ mo_ld μ b ∧ mo_ld μ b ≤ 4096) ∧ lz_P μ (μ 0 1) T
abbrev pv_T (ρ : mm_T) : pn_T := pn_b (mo_me (ρ 0 1).toNat ρ) (ρ 0 1).toNat 0 (ρ 18, ρ 5, ρ 6)
section INV
variable {s ν ν1 ρ : mm_T} {f : Int → Int} {b c i k u y : Int}
theorem pv_F0 (hI : iv_I ρ f) (h4096 : mo_ld (mo_me (ρ 0 1).toNat ρ) 0 ≤ 4096) : pv_F (mo_me (ρ 0 1).toNat ρ) f (pv_T ρ) := by
  obtain ⟨hA, hU, _, _, _, hO, _, _, hN, _, _⟩ := hI
  have h8 := hA.1.1
  have hf := me_fr (ρ 0 1).toNat ρ
  have h0 := hf 0 (by decide)
  have hA1 : iv_A (mo_me (ρ 0 1).toNat ρ) f := iv_A_fr (fr_w hf (by decide)) hA
  have hU1 : iv_U (mo_me (ρ 0 1).toNat ρ) := by unfold iv_U; rw [hf 2 (by decide)]; exact hU
  have hN1 : ∀ u, 1 ≤ u → u < mo_me (ρ 0 1).toNat ρ 0 1 → ∃ i, 0 ≤ i ∧ i < 32 ∧ mo_me (ρ 0 1).toNat ρ 2 i = u := by rw [h0, hf 2 (by decide)]; exact hN.2.2.2
  have hfix : ∀ b, 0 ≤ b → b < mo_me (ρ 0 1).toNat ρ 0 1 → mo_me (ρ 0 1).toNat ρ 7 b = mo_bl (mo_ld (mo_me (ρ 0 1).toNat ρ) b) := fun b h1 h2 => me_fix hA.2.2.1 (by omega) (ρ 0 1).toNat ρ (by omega) fr_rfl b h1 (by rw [h0] at h2; omega)
  have hb7 : ∀ u, 0 ≤ u → u < mo_me (ρ 0 1).toNat ρ 0 1 → 0 ≤ mo_me (ρ 0 1).toNat ρ 7 u ∧ mo_me (ρ 0 1).toNat ρ 7 u ≤ mo_bd (f u) := fun u h1 h2 => me_b (ρ 0 1).toNat ρ hA.1 hA.2.1 hA.2.2.1 (by omega) (fun u h3 h4 => by omega) u h1 (by rw [h0] at h2; exact h2)
  have hle : ∀ b, 0 ≤ b → b < mo_me (ρ 0 1).toNat ρ 0 1 → 0 ≤ mo_ld (mo_me (ρ 0 1).toNat ρ) b ∧ mo_ld (mo_me (ρ 0 1).toNat ρ) b ≤ 4096 := fun b h1 h2 => ml_all hA1 hfix hb7 hN1 h4096 (ρ 0 1).toNat b h1 (by rw [h0] at h2; omega) h2
  have hlv := lv_of hA1 hfix hle
  refine ⟨hA1, hU1, hlv.1, hN1, hlv.2, hfix, hle, ?_⟩
  refine lz_all hA1 hU1 hlv.1 hN1 hlv.2 (ρ 0 1).toNat 0 _ (by omega) (by rw [h0]; omega) ?_
  exact ⟨fun i k a1 a2 a3 a4 a5 => by omega, fun i k j l a1 a2 a3 a4 a5 a6 a7 a8 a9 b0 => by omega, fun i a1 a2 a3 a4 => by omega, hO.1.1, fun x x0 x1 => by omega⟩
theorem pnr_18 : mo_pn ρ 18 = (pv_T ρ).1 := by
  funext i
  show pn_m (mo_me (ρ 0 1).toNat ρ) (pv_T ρ).1 (pv_T ρ).2.1 (pv_T ρ).2.2 18 i = _
  rw [pn_18]
theorem pnr_5 : mo_pn ρ 5 = (pv_T ρ).2.1 := by
  funext i
  show pn_m (mo_me (ρ 0 1).toNat ρ) (pv_T ρ).1 (pv_T ρ).2.1 (pv_T ρ).2.2 5 i = _
  rw [pn_5]
theorem pnr_6 : mo_pn ρ 6 = (pv_T ρ).2.2 := by
  funext i
  show pn_m (mo_me (ρ 0 1).toNat ρ) (pv_T ρ).1 (pv_T ρ).2.1 (pv_T ρ).2.2 6 i = _
  rw [pn_6]
/-- the card c in its slot -/
theorem pv_c (hI : iv_I ρ f) (hc : 0 ≤ c ∧ c < ρ 0 12) (hs : ρ 15 c ≤ 3) : ∃ i, 0 ≤ i ∧ i < 32 ∧ ρ 2 i = 100 + c ∧ i / 4 = ρ 14 c ∧ ρ 14 c < ρ 0 1 := by
  obtain ⟨i, i0, i1, i2⟩ := hI.2.2.2.2.2.2.2.2.1.2.2.1 c hc.1 hc.2 hs
  have hk := hI.1.2.2.2.2.2.2 i i0 i1 (by omega)
  have hk2 := hI.1.2.2.2.2.2.1 c hc.1 hc.2
  rw [i2, show 100 + c - 100 = c by omega] at hk
  exact ⟨i, i0, i1, i2, by omega, hk2.1⟩
theorem pv_q (hI : iv_I ρ f) (hF : pv_F (mo_me (ρ 0 1).toNat ρ) f (pv_T ρ)) (hc : 0 ≤ c ∧ c < ρ 0 12) (hk : 0 ≤ k ∧ k < 3) (hs : ρ 15 c ≤ 3) (hz : 0 < ρ 9 (3 * ρ 13 c + k)) : 0 ≤ (pv_T ρ).1 (3 * c + k) ∧ (pv_T ρ).1 (3 * c + k) + ρ 9 (3 * ρ 13 c + k) ≤ 4096 := by
  obtain ⟨i, i0, i1, i2, i3, i4⟩ := pv_c hI hc hs
  have h8 := hI.1.1.1
  have hf := me_fr (ρ 0 1).toNat ρ
  have h0 := hf 0 (by decide)
  obtain ⟨g1, g2, g3, g4, g5, g6, g7, g8⟩ := hF
  have hit : it_s (mo_me (ρ 0 1).toNat ρ) i k = ρ 9 (3 * ρ 13 c + k) := by
    rw [it_c (by rw [hf 2 (by decide)]; omega), hf 2 (by decide), hf 9 (by decide), hf 13 (by decide), i2, show 100 + c - 100 = c by omega]
  have hpo : po_s (mo_me (ρ 0 1).toNat ρ) ((pv_T ρ).1, (pv_T ρ).2.1, 0) i k = (pv_T ρ).1 (3 * c + k) := by
    unfold po_s
    rw [if_pos (by rw [hf 2 (by decide)]; omega), hf 2 (by decide), i2, show 100 + c - 100 = c by omega]
  have q1 := g8.1 i k i0 i1 hk.1 hk.2 (by rw [h0]; omega) (by rw [hit]; exact hz)
  rw [hpo, hit] at q1
  have q2 := pn_bd g1 g6 g7 g4 g5 g8 (ρ 0 1).toNat (i / 4) (by omega) (by omega) (by rw [h0]; omega)
  omega
theorem pv_maq (hI : iv_I ρ f) (hF : pv_F (mo_me (ρ 0 1).toNat ρ) f (pv_T ρ)) : ma_q (mo_pn ρ) := by
  intro c k h1 h2 h3 h4 h5 h6
  rw [pn_fr 0 (by decide)] at h2 h5
  rw [pn_fr 15 (by decide)] at h5
  rw [pn_fr 9 (by decide), pn_fr 13 (by decide)] at h6
  have hs : ρ 15 c ≤ 3 := by
    rcases h5 with h5 | h5
    · exact h5.2
    · have := hI.2.2.2.2.2.2.2.2.1.1 (by omega)
      rw [← h5] at this
      omega
  have := pv_q hI hF ⟨h1, h2⟩ ⟨h3, h4⟩ hs h6
  rw [pnr_18]
  omega
/-- the reference's memory once all is moved, before states turn -/
abbrev mv_r (ρ : mm_T) : mm_T := ma_f (mo_pn ρ) (ma_l (mo_pn ρ) (mo_pn ρ 0 12).toNat 0 (mo_pn ρ 17, 0))
theorem mvr_17 (hc : 0 ≤ c ∧ c < ρ 0 12) (hk : 0 ≤ k ∧ k < 3) : mv_r ρ 17 (3 * c + k) = if ((1 ≤ ρ 15 c ∧ ρ 15 c ≤ 3) ∨ c = ρ 0 21) ∧ 0 < ρ 9 (3 * ρ 13 c + k) then (pv_T ρ).1 (3 * c + k) else ρ 17 (3 * c + k) := by
  show ma_m (mo_pn ρ) _ _ 17 (3 * c + k) = _
  have e12 : mo_pn ρ 0 12 = ρ 0 12 := by rw [pn_fr 0 (by decide)]
  have hco : ma_o (mo_pn ρ) ((3 * c + k) / 3) ((3 * c + k) % 3) ↔ ((1 ≤ ρ 15 c ∧ ρ 15 c ≤ 3) ∨ c = ρ 0 21) ∧ 0 < ρ 9 (3 * ρ 13 c + k) := by
    rw [show (3 * c + k) / 3 = c by omega, show (3 * c + k) % 3 = k by omega]
    unfold ma_o
    rw [pn_fr 15 (by decide), pn_fr 0 (by decide), pn_fr 9 (by decide), pn_fr 13 (by decide)]
  rw [ma_17, ma_cf]
  by_cases h : ((1 ≤ ρ 15 c ∧ ρ 15 c ≤ 3) ∨ c = ρ 0 21) ∧ 0 < ρ 9 (3 * ρ 13 c + k)
  · rw [if_pos h, if_pos ⟨by omega, by omega, hco.mpr h⟩, pnr_18]
  · rw [if_neg h, if_neg (fun h2 => h (hco.mp h2.2.2))]
    show mo_pn ρ 17 (3 * c + k) = _
    rw [pn_fr 17 (by decide)]
theorem mvr_n {p : Int} (h1 : p ≠ 17) (h2 : ¬ (p = 0 ∧ i = 23)) (h3 : p ≠ 7 ∧ p ≠ 18 ∧ p ≠ 5 ∧ p ≠ 6) : mv_r ρ p i = ρ p i := by
  show ma_m (mo_pn ρ) _ _ p i = _
  rw [ma_ne h1 h2, pn_fr p (by simp only [List.mem_cons, List.not_mem_nil, or_false]; omega)]
theorem mvr_r {p : Int} (h1 : p ≠ 17 ∧ p ≠ 0) (h3 : p ≠ 7 ∧ p ≠ 18 ∧ p ≠ 5 ∧ p ≠ 6) : mv_r ρ p = ρ p := by
  funext i
  exact mvr_n h1.1 (by omega) h3
theorem mvr_5 : mv_r ρ 5 = (pv_T ρ).2.1 := by
  funext i
  show ma_m (mo_pn ρ) _ _ 5 i = _
  rw [ma_ne (by omega) (by omega), pnr_5]
theorem mvr_6 : mv_r ρ 6 = (pv_T ρ).2.2 := by
  funext i
  show ma_m (mo_pn ρ) _ _ 6 i = _
  rw [ma_ne (by omega) (by omega), pnr_6]
theorem mvr_23 (h12 : 0 ≤ ρ 0 12) : mv_r ρ 0 23 = sm_s (ma_d (mo_pn ρ) (ρ 17)) (3 * ρ 0 12).toNat := by
  show ma_m (mo_pn ρ) _ _ 0 23 = _
  rw [ma_23]
  have h := ma_mv (π := mo_pn ρ) (r0 := ρ 17) (mo_pn ρ 0 12).toNat 0 (mo_pn ρ 17, 0) (by omega) (fun y _ => by rw [pn_fr 17 (by decide)])
  rw [pn_fr 0 (by decide)] at h ⊢
  rw [show (3 * (0 : Int)).toNat = 0 by decide, show 3 * (0 + ((ρ 0 12).toNat : Int)) = 3 * ρ 0 12 by omega] at h
  have e : sm_s (ma_d (mo_pn ρ) (ρ 17)) 0 = 0 := rfl
  rw [e] at h
  show (ma_l (mo_pn ρ) (ρ 0 12).toNat 0 (mo_pn ρ 17, 0)).2 = _
  have e2 : (mo_pn ρ 17, (0 : Int)).2 = 0 := rfl
  rw [e2] at h
  omega
end INV
