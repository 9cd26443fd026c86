/-! memories that are alike where it counts: the same plan -/
/-- what the plan reads -/
def pc_E (μ μ' : mm_T) : Prop := μ' 0 1 = μ 0 1 ∧ μ' 2 = μ 2 ∧ μ' 9 = μ 9 ∧ μ' 13 = μ 13 ∧ ∀ u, 0 ≤ u → u < μ 0 1 → μ' 7 u = μ 7 u
def pc_R (μ : mm_T) (b z m : Int) (S S' : pn_S) : Prop := S'.2.1 = S.2.1 ∧ S'.2.2 = S.2.2 ∧ ∀ i k, 0 ≤ i → i < 32 → 0 ≤ k → k < 3 → 100 ≤ μ 2 i → pl_s μ b z m i k → S'.1 (3 * (μ 2 i - 100) + k) = S.1 (3 * (μ 2 i - 100) + k)
section CG2
variable {ρ ρ' μ μ' : mm_T} {f : Int → Int} {b c i j k l p r x y z m e : Int} {S S' : pn_S} {T T' : pn_T}
theorem it_e (hE : pc_E μ μ') (hT : tr_I μ f) (hi : 0 ≤ i ∧ i < 32) : it_s μ' i k = it_s μ i k := by
  unfold it_s
  rw [hE.2.1, hE.2.2.1, hE.2.2.2.1]
  by_cases h1 : 100 ≤ μ 2 i
  · rw [if_pos h1, if_pos h1]
  · rw [if_neg h1, if_neg h1]
    by_cases h2 : 0 ≤ μ 2 i ∧ k = 0
    · have ht := hT.2.2 i hi.1 hi.2 h2.1 (by omega)
      rw [if_pos h2, if_pos h2, hE.2.2.2.2 (μ 2 i) h2.1 ht.2.1]
    · rw [if_neg h2, if_neg h2]
theorem pc_st (hE : pc_E μ μ') (hT : tr_I μ f) (hb : 0 ≤ b ∧ b < 8) (hm : 0 ≤ m ∧ m < 12) (h : pc_R μ b z m S S') : pc_R μ b z (m + 1) (st_e μ z (4 * b + m / 3) (m % 3) S) (st_e μ' z (4 * b + m / 3) (m % 3) S') := by
  obtain ⟨i0, hi0⟩ : ∃ i0, i0 = 4 * b + m / 3 := ⟨_, rfl⟩
  obtain ⟨k0, hk0⟩ : ∃ k0, k0 = m % 3 := ⟨_, rfl⟩
  rw [← hi0, ← hk0]
  obtain ⟨h1, h2, h3⟩ := h
  have hm3 : 3 * (i0 - 4 * b) + k0 = m := by omega
  have hp : ∀ i k, 0 ≤ i → i < 32 → 0 ≤ k → k < 3 → ¬ (i = i0 ∧ k = k0) → pl_s μ b z (m + 1) i k → pl_s μ b z m i k := fun i k a1 a2 a3 a4 a5 ⟨p1, p2⟩ => ⟨p1, by omega⟩
  unfold st_e
  rw [it_e hE hT (by omega), hE.2.1]
  by_cases hq : it_s μ i0 k0 = z
  · rw [if_pos hq, if_pos hq]
    by_cases h100 : 100 ≤ μ 2 i0
    · rw [if_pos h100, if_pos h100]
      refine ⟨h1, by show S'.2.2 + z = S.2.2 + z; rw [h2], fun i k a1 a2 a3 a4 a5 a6 => ?_⟩
      show (if 3 * (μ 2 i - 100) + k = 3 * (μ 2 i0 - 100) + k0 then S'.2.2 else S'.1 (3 * (μ 2 i - 100) + k)) = (if 3 * (μ 2 i - 100) + k = 3 * (μ 2 i0 - 100) + k0 then S.2.2 else S.1 (3 * (μ 2 i - 100) + k))
      by_cases hx : 3 * (μ 2 i - 100) + k = 3 * (μ 2 i0 - 100) + k0
      · rw [if_pos hx, if_pos hx, h2]
      · rw [if_neg hx, if_neg hx]
        exact h3 i k a1 a2 a3 a4 a5 (hp i k a1 a2 a3 a4 (fun hh => hx (by rw [hh.1, hh.2])) a6)
    · rw [if_neg h100, if_neg h100]
      refine ⟨by show (fun j => if j = μ 2 i0 then S'.2.2 else S'.2.1 j) = (fun j => if j = μ 2 i0 then S.2.2 else S.2.1 j); rw [h1, h2], by show S'.2.2 + z = S.2.2 + z; rw [h2], fun i k a1 a2 a3 a4 a5 a6 => h3 i k a1 a2 a3 a4 a5 (hp i k a1 a2 a3 a4 (fun hh => by rw [hh.1] at a5; omega) a6)⟩
  · rw [if_neg hq, if_neg hq]
    refine ⟨h1, h2, fun i k a1 a2 a3 a4 a5 a6 => h3 i k a1 a2 a3 a4 a5 ?_⟩
    by_cases hik : i = i0 ∧ k = k0
    · obtain ⟨p1, p2⟩ := a6
      rw [hik.1, hik.2] at p1 p2 ⊢
      exact ⟨p1, by omega⟩
    · exact hp i k a1 a2 a3 a4 hik a6
theorem pc_c {b2 z2 m2 : Int} (hp : ∀ i k, 0 ≤ i → i < 32 → 0 ≤ k → k < 3 → pl_s μ b2 z2 m2 i k → pl_s μ b z m i k) (h : pc_R μ b z m S S') : pc_R μ b2 z2 m2 S S' := ⟨h.1, h.2.1, fun i k a1 a2 a3 a4 a5 a6 => h.2.2 i k a1 a2 a3 a4 a5 (hp i k a1 a2 a3 a4 a6)⟩
theorem pc_n (hE : pc_E μ μ') (hT : tr_I μ f) (hb : 0 ≤ b ∧ b < 8) : ∀ (n : Nat) (m : Int) (S S' : pn_S), 0 ≤ m → m + n = 12 → pc_R μ b z m S S' → pc_R μ b z 12 (st_n μ z b n m S) (st_n μ' z b n m S')
  | 0, m, S, S', h0, hn, h => by
    rw [show m = 12 by omega] at h
    exact h
  | n + 1, m, S, S', h0, hn, h => pc_n hE hT hb n (m + 1) _ _ (by omega) (by omega) (pc_st hE hT hb (by omega) h)
theorem pc_1 (hE : pc_E μ μ') (hT : tr_I μ f) (hL : lv_ok μ) (hb : 0 ≤ b ∧ b < 8) (hz : z ∈ pn_l) (h : pc_R μ b z 0 S S') : pc_R μ b (z / 2) 0 (pn_s μ z 4 (4 * b) S) (pn_s μ' z 4 (4 * b) S') := by
  rw [st_ns (lv_64 z hz).1, st_ns (lv_64 z hz).1]
  refine pc_c (fun i k a1 a2 a3 a4 a5 => ?_) (pc_n hE hT hb 12 0 S S' (by omega) (by omega) h)
  have h1 := lv_half z hz _ (hL i k a1 a2 a3 a4)
  obtain ⟨p1, p2⟩ := a5
  refine ⟨p1, ?_⟩
  rcases p2 with p2 | ⟨p2, p3⟩
  · exact Or.inl p2
  · refine Or.inr ⟨p2, ?_⟩
    rcases p3 with p3 | p3
    · have := h1.mp p3
      by_cases he : it_s μ i k = z
      · exact Or.inr ⟨he, by omega⟩
      · exact Or.inl (by omega)
    · omega
theorem pc_z (hE : pc_E μ μ') (hT : tr_I μ f) (hL : lv_ok μ) (hb : 0 ≤ b ∧ b < 8) (h : pc_R μ b 4096 0 S S') : pc_R μ b 0 0 (pn_z μ b pn_l S) (pn_z μ' b pn_l S') := by
  have h := pc_1 hE hT hL hb (by decide) h
  have h := pc_1 hE hT hL hb (z := 2048) (by decide) h
  have h := pc_1 hE hT hL hb (z := 1024) (by decide) h
  have h := pc_1 hE hT hL hb (z := 512) (by decide) h
  have h := pc_1 hE hT hL hb (z := 256) (by decide) h
  have h := pc_1 hE hT hL hb (z := 128) (by decide) h
  have h := pc_1 hE hT hL hb (z := 64) (by decide) h
  have h := pc_1 hE hT hL hb (z := 32) (by decide) h
  have h := pc_1 hE hT hL hb (z := 16) (by decide) h
  have h := pc_1 hE hT hL hb (z := 8) (by decide) h
  have h := pc_1 hE hT hL hb (z := 4) (by decide) h
  have h := pc_1 hE hT hL hb (z := 2) (by decide) h
  have h := pc_1 hE hT hL hb (z := 1) (by decide) h
  exact h
def pc_T (μ : mm_T) (b : Int) (T T' : pn_T) : Prop := T'.2.1 = T.2.1 ∧ T'.2.2 = T.2.2 ∧ ∀ i k, 0 ≤ i → i < 32 → 0 ≤ k → k < 3 → 100 ≤ μ 2 i → 0 < it_s μ i k → i / 4 < b → T'.1 (3 * (μ 2 i - 100) + k) = T.1 (3 * (μ 2 i - 100) + k)
theorem pc_b (hE : pc_E μ μ') (hT : tr_I μ f) (hL : lv_ok μ) (h8 : μ 0 1 ≤ 8) : ∀ (n : Nat) (b : Int) (T T' : pn_T), 0 ≤ b → b + n = μ 0 1 → pc_T μ b T T' → pc_T μ (μ 0 1) (pn_b μ n b T) (pn_b μ' n b T')
  | 0, b, T, T', h0, hn, h => by
    rw [show μ 0 1 = b by omega]
    exact h
  | n + 1, b, T, T', h0, hn, h => by
    refine pc_b hE hT hL h8 n (b + 1) _ _ (by omega) (by omega) ?_
    obtain ⟨h1, h2, h3⟩ := h
    have e7 := hE.2.2.2.2 b h0 (by omega)
    have eb : pn_b1 μ' b T'.2.1 = pn_b1 μ b T.2.1 := by unfold pn_b1; rw [e7, h1]
    have hz := pc_z hE hT hL (b := b) (by omega) (S := (T.1, pn_b1 μ b T.2.1, pn_b1 μ b T.2.1 b)) (S' := (T'.1, pn_b1 μ' b T'.2.1, pn_b1 μ' b T'.2.1 b)) ⟨eb, by show pn_b1 μ' b T'.2.1 b = pn_b1 μ b T.2.1 b; rw [eb], fun i k a1 a2 a3 a4 a5 a6 => h3 i k a1 a2 a3 a4 a5 a6.1 (by
      have := lv_max _ (hL i k a1 a2 a3 a4)
      have := a6.2
      omega)⟩
    refine ⟨hz.1, ?_, fun i k a1 a2 a3 a4 a5 a6 a7 => hz.2.2 i k a1 a2 a3 a4 a5 ⟨a6, by omega⟩⟩
    show pn_e1 μ' b (pn_b1 μ' b T'.2.1) T'.2.2 = pn_e1 μ b (pn_b1 μ b T.2.1) T.2.2
    rw [eb, h2]
    unfold pn_e1
    rw [e7]
theorem pc_of (h : rq_r ρ ρ') (hI : iv_I ρ f) : pc_E (mo_me (ρ 0 1).toNat ρ) (mo_me (ρ' 0 1).toNat ρ') := by
  have hA := hI.1
  have hA' := rq_A h hI
  have b1 := hA.1.1
  have e1 := h.2 1 (by omega)
  rw [e1]
  have hf := me_fr (ρ 0 1).toNat ρ
  have hf' := me_fr (ρ 0 1).toNat ρ'
  have q0 := hf 0 (by decide)
  have q0' := hf' 0 (by decide)
  have fix1 : ∀ b, 0 ≤ b → b < ρ 0 1 → mo_me (ρ 0 1).toNat ρ 7 b = mo_bl (mo_ld (mo_me (ρ 0 1).toNat ρ) b) := fun b h1 h3 => me_fix hA.2.2.1 (by omega) (ρ 0 1).toNat ρ (by omega) fr_rfl b h1 (by omega)
  have fix2 : ∀ b, 0 ≤ b → b < ρ 0 1 → mo_me (ρ 0 1).toNat ρ' 7 b = mo_bl (mo_ld (mo_me (ρ 0 1).toNat ρ') b) := fun b h1 h3 => me_fix hA'.2.2.1 (by omega) (ρ 0 1).toNat ρ' (by omega) fr_rfl b h1 (by omega)
  have bd1 : ∀ u, 0 ≤ u → u < ρ 0 1 → 0 ≤ mo_me (ρ 0 1).toNat ρ 7 u ∧ mo_me (ρ 0 1).toNat ρ 7 u ≤ mo_bd (f u) := fun u h1 h3 => me_b (ρ 0 1).toNat ρ hA.1 hA.2.1 hA.2.2.1 (by omega) (fun u h3 h4 => by omega) u h1 h3
  have bd2 : ∀ u, 0 ≤ u → u < ρ 0 1 → 0 ≤ mo_me (ρ 0 1).toNat ρ' 7 u ∧ mo_me (ρ 0 1).toNat ρ' 7 u ≤ mo_bd (f u) := fun u h1 h3 => me_b (ρ 0 1).toNat ρ' hA'.1 hA'.2.1 hA'.2.2.1 (by omega) (fun u h3 h4 => by omega) u h1 (by omega)
  have g1 := iv_A_fr (fr_w hf (by decide)) hA
  have g2 := iv_A_fr (fr_w hf' (by decide)) hA'
  have r2 : mo_me (ρ 0 1).toNat ρ' 2 = mo_me (ρ 0 1).toNat ρ 2 := by rw [hf 2 (by decide), hf' 2 (by decide)]; exact h.1 2 (by decide)
  have r9 : mo_me (ρ 0 1).toNat ρ' 9 = mo_me (ρ 0 1).toNat ρ 9 := by rw [hf 9 (by decide), hf' 9 (by decide)]; exact h.1 9 (by decide)
  have r13 : mo_me (ρ 0 1).toNat ρ' 13 = mo_me (ρ 0 1).toNat ρ 13 := by rw [hf 13 (by decide), hf' 13 (by decide)]; exact h.1 13 (by decide)
  have r01 : mo_me (ρ 0 1).toNat ρ' 0 1 = mo_me (ρ 0 1).toNat ρ 0 1 := by rw [q0, q0']; exact e1
  refine ⟨r01, r2, r9, r13, fun u u0 u1 => ?_⟩
  rw [q0] at u1
  have a := ml_mo g1 g2 r01 (fun i _ _ => Or.inl (by rw [r2])) r9 r13 (by rw [q0]; exact fix1) (by rw [q0]; exact fix2) (by rw [q0]; exact bd1) (by rw [q0]; exact bd2) (ρ 0 1).toNat u u0 (by rw [q0]; omega) (by rw [q0]; exact u1)
  have b := ml_mo g2 g1 r01.symm (fun i _ _ => Or.inl (by rw [r2])) r9.symm r13.symm (by rw [q0', e1]; exact fix2) (by rw [q0', e1]; exact fix1) (by rw [q0', e1]; exact bd2) (by rw [q0', e1]; exact bd1) (ρ 0 1).toNat u u0 (by rw [q0', e1]; omega) (by rw [q0', e1]; exact u1)
  rw [fix1 u u0 u1, fix2 u u0 u1, show mo_ld (mo_me (ρ 0 1).toNat ρ') u = mo_ld (mo_me (ρ 0 1).toNat ρ) u by omega]
theorem rq_mv (h : rq_r ρ ρ') (hI : iv_I ρ f) (hcm : 0 ≤ ρ 0 21) (hF : pv_F (mo_me (ρ 0 1).toNat ρ) f (pv_T ρ)) : rq_r (ma_e (mo_pn ρ)) (ma_e (mo_pn ρ')) := by
  have hE := pc_of h hI
  have e1 := h.2 1 (by omega)
  have b1 := hI.1.1.1
  have b12 := hI.1.1.2.2.1
  have hf := me_fr (ρ 0 1).toNat ρ
  have q0 := hf 0 (by decide)
  have e12 := h.2 12 (by omega)
  have e21 := h.2 21 (by omega)
  have e15 := h.1 15 (by decide)
  have e9 := h.1 9 (by decide)
  have e13 := h.1 13 (by decide)
  have e17 := h.1 17 (by decide)
  have hpT : pc_T (mo_me (ρ 0 1).toNat ρ) (ρ 0 1) (pv_T ρ) (pv_T ρ') := by
    have hh := pc_b hE hF.1.2.2.1 hF.2.2.1 (by rw [q0]; omega) (ρ 0 1).toNat 0 (ρ 18, ρ 5, ρ 6) (ρ' 18, ρ' 5, ρ' 6) (by omega) (by rw [q0]; omega) ⟨h.1 5 (by decide), h.1 6 (by decide), fun i k a1 a2 a3 a4 a5 a6 a7 => by omega⟩
    rw [q0] at hh
    unfold pv_T
    rw [e1]
    rw [e1] at hh
    exact hh
  have hq : ∀ c k, 0 ≤ c → c < ρ 0 12 → 0 ≤ k → k < 3 → ρ 15 c ≤ 3 → 0 < ρ 9 (3 * ρ 13 c + k) → (pv_T ρ').1 (3 * c + k) = (pv_T ρ).1 (3 * c + k) := fun c k c0 c1 k0 k1 hs hz => by
    obtain ⟨i, i0, i1, i2, i3, i4⟩ := pv_c hI ⟨c0, c1⟩ hs
    have f2 := hf 2 (by decide)
    have hit : it_s (mo_me (ρ 0 1).toNat ρ) i k = ρ 9 (3 * ρ 13 c + k) := by
      rw [it_c (by rw [f2]; omega), f2, hf 9 (by decide), hf 13 (by decide), i2, show 100 + c - 100 = c by omega]
    have := hpT.2.2 i k i0 i1 k0 k1 (by rw [f2]; omega) (by rw [hit]; exact hz) (by omega)
    rw [f2, i2, show 100 + c - 100 = c by omega] at this
    exact this
  have hst := hI.2.2.2.2.2.2.2.2.1.1 hcm
  have hcs : ∀ c, ((1 ≤ ρ 15 c ∧ ρ 15 c ≤ 3) ∨ c = ρ 0 21) → ρ 15 c ≤ 3 := fun c hh => by
    rcases hh with hh | hh
    · exact hh.2
    · rw [hh]; omega
  have hr17 : mv_r ρ' 17 = mv_r ρ 17 := by
    funext y
    show ma_m (mo_pn ρ') _ _ 17 y = ma_m (mo_pn ρ) _ _ 17 y
    rw [ma_17, ma_17, ma_cf, ma_cf]
    have p12 : mo_pn ρ 0 12 = ρ 0 12 := by rw [pn_fr 0 (by decide)]
    have p12' : mo_pn ρ' 0 12 = ρ 0 12 := by rw [pn_fr 0 (by decide)]; exact e12
    have hco : ma_o (mo_pn ρ) (y / 3) (y % 3) ↔ (((1 ≤ ρ 15 (y / 3) ∧ ρ 15 (y / 3) ≤ 3) ∨ y / 3 = ρ 0 21) ∧ 0 < ρ 9 (3 * ρ 13 (y / 3) + y % 3)) := by
      unfold ma_o
      rw [pn_fr 15 (by decide), pn_fr 0 (by decide), pn_fr 9 (by decide), pn_fr 13 (by decide)]
    have hco' : ma_o (mo_pn ρ') (y / 3) (y % 3) ↔ (((1 ≤ ρ 15 (y / 3) ∧ ρ 15 (y / 3) ≤ 3) ∨ y / 3 = ρ 0 21) ∧ 0 < ρ 9 (3 * ρ 13 (y / 3) + y % 3)) := by
      unfold ma_o
      rw [pn_fr 15 (by decide), pn_fr 0 (by decide), pn_fr 9 (by decide), pn_fr 13 (by decide), e15, e9, e13, e21]
    by_cases hc : (3 * 0 ≤ y ∧ y < 3 * (0 + ((ρ 0 12).toNat : Int))) ∧ (((1 ≤ ρ 15 (y / 3) ∧ ρ 15 (y / 3) ≤ 3) ∨ y / 3 = ρ 0 21) ∧ 0 < ρ 9 (3 * ρ 13 (y / 3) + y % 3))
    · rw [if_pos ⟨hc.1.1, by rw [p12']; exact hc.1.2, hco'.mpr hc.2⟩, if_pos ⟨hc.1.1, by rw [p12]; exact hc.1.2, hco.mpr hc.2⟩, pnr_18, pnr_18]
      have := hq (y / 3) (y % 3) (by omega) (by omega) (by omega) (by omega) (hcs _ hc.2.1) hc.2.2
      rw [show 3 * (y / 3) + y % 3 = y by omega] at this
      exact this
    · rw [if_neg (fun hh => hc ⟨⟨hh.1, by rw [p12'] at hh; exact hh.2.1⟩, hco'.mp hh.2.2⟩), if_neg (fun hh => hc ⟨⟨hh.1, by rw [p12] at hh; exact hh.2.1⟩, hco.mp hh.2.2⟩)]
      show mo_pn ρ' 17 y = mo_pn ρ 17 y
      rw [pn_fr 17 (by decide), pn_fr 17 (by decide)]
      exact congrFun e17 y
  have hr23 : mv_r ρ' 0 23 = mv_r ρ 0 23 := by
    rw [mvr_23 (by rw [e12]; exact b12.1), mvr_23 b12.1, e12]
    refine sm_c _ (fun y y0 y1 => ?_)
    have hyc : 0 ≤ y / 3 ∧ y / 3 < ρ 0 12 := by omega
    unfold ma_d ma_o
    have p15 : mo_pn ρ 15 = ρ 15 := pn_fr 15 (by decide)
    have p0 : mo_pn ρ 0 = ρ 0 := pn_fr 0 (by decide)
    have p9 : mo_pn ρ 9 = ρ 9 := pn_fr 9 (by decide)
    have p13 : mo_pn ρ 13 = ρ 13 := pn_fr 13 (by decide)
    have p15' : mo_pn ρ' 15 = ρ 15 := (pn_fr 15 (by decide)).trans e15
    have p0' : mo_pn ρ' 0 21 = ρ 0 21 := by rw [pn_fr 0 (by decide)]; exact e21
    have p9' : mo_pn ρ' 9 = ρ 9 := (pn_fr 9 (by decide)).trans e9
    have p13' : mo_pn ρ' 13 = ρ 13 := (pn_fr 13 (by decide)).trans e13
    simp only [p15, p0, p9, p13, p15', p0', p9', p13', pnr_18, e17]
    by_cases hc : ((1 ≤ ρ 15 (y / 3) ∧ ρ 15 (y / 3) ≤ 3) ∨ y / 3 = ρ 0 21) ∧ 0 < ρ 9 (3 * ρ 13 (y / 3) + y % 3)
    · have := hq (y / 3) (y % 3) hyc.1 hyc.2 (by omega) (by omega) (hcs _ hc.1) hc.2
      rw [show 3 * (y / 3) + y % 3 = y by omega] at this
      rw [this]
    · rw [if_neg (fun hh => hc hh.1), if_neg (fun hh => hc hh.1)]
  have hrr : rq_r (mv_r ρ) (mv_r ρ') := by
    refine ⟨fun p hp => ?_, fun i hi => ?_⟩
    · by_cases hp17 : p = 17
      · rw [hp17]; exact hr17
      · by_cases hp5 : p = 5
        · rw [hp5, mvr_5, mvr_5]; exact hpT.1
        · by_cases hp6 : p = 6
          · rw [hp6, mvr_6, mvr_6]; exact hpT.2.1
          · have hpx : p ≠ 0 ∧ p ≠ 7 ∧ p ≠ 18 := by
              unfold rq_l at hp
              simp only [List.mem_cons, List.not_mem_nil, or_false] at hp
              omega
            rw [mvr_r (by omega) (by omega), mvr_r (by omega) (by omega)]
            exact h.1 p hp
    · by_cases hi23 : i = 23
      · rw [hi23]; exact hr23
      · rw [mvr_n (by omega) (by omega) (by omega), mvr_n (by omega) (by omega) (by omega)]
        exact h.2 i hi
  have em : ∀ ρ : mm_T, ma_e (mo_pn ρ) = mm_u (mm_u (mo_ch (mv_r ρ) 2 1) 15 (ρ 0 21) 1) 0 21 (-1) := fun ρ => by
    show mm_u (mm_u (mo_ch (mv_r ρ) 2 1) 15 (mo_pn ρ 0 21) 1) 0 21 (-1) = _
    rw [pn_fr 0 (by decide)]
  rw [em ρ, em ρ', e21]
  exact rq_u (rq_u (rq_ch hrr))
theorem rq_gof (h : rq_r ρ ρ') (hI : iv_I ρ f) : rq_r (go_f ρ).1 (go_f ρ').1 ∧ (go_f ρ').2 = (go_f ρ).2 := by
  have h0 := rq_go0 h
  have hI1 := iv_go0 hI
  unfold go_f
  rw [h0.2]
  generalize (go_0 ρ).1 = μ at h0 hI1 ⊢
  generalize (go_0 ρ').1 = μ' at h0 ⊢
  generalize (go_0 ρ).2 = r at h0 ⊢
  have hr := h0.1
  unfold go_2
  rw [hr.2 21 (by omega), hr.2 22 (by omega), hr.2 12 (by omega), go_w_c hr]
  by_cases h1 : μ 0 21 < 0
  · rw [if_pos h1, if_pos h1]; exact ⟨hr, rfl⟩
  · rw [if_neg h1, if_neg h1]
    by_cases h2 : μ 0 22 = 0
    · rw [if_pos h2, if_pos h2]; exact ⟨rq_ck hr hI1, rfl⟩
    · rw [if_neg h2, if_neg h2]
      by_cases h3 : go_w μ (μ 0 12).toNat 0 = 1
      · rw [if_pos h3, if_pos h3]; exact ⟨hr, rfl⟩
      · rw [if_neg h3, if_neg h3]
        exact ⟨rq_mv hr hI1 (by omega) (pv_F0 hI1 (hI1.2.2.2.2.2.2.2.2.2.2 (by omega) h2)), rfl⟩
end CG2
