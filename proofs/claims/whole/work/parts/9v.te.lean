/-! settling comes to an end -/
def se_f : Nat → mm_T → Int × mm_T
  | 0, ρ => (0, ρ)
  | n + 1, ρ => if (go_f ρ).2 = 0 then (0, (go_f ρ).1) else ((se_f n (go_f ρ).1).1 + 1, (se_f n (go_f ρ).1).2)
def se_t : Nat → mm_T → Prop
  | 0, _ => False
  | n + 1, ρ => (go_f ρ).2 = 0 ∨ se_t n (go_f ρ).1
/-- none that leaves has nothing to do -/
def no_lv (ρ : mm_T) : Prop := ∀ c, 0 ≤ c → c < ρ 0 12 → ¬ (ρ 15 c = 3 ∧ ρ 19 c = 0)
section TE
variable {ρ ρ' μ : mm_T} {f : Int → Int} {c i k r y : Int}
theorem lv_go1 : ∀ (n : Nat) (c : Int) (X : mm_T × Int), 0 ≤ c → c + n = X.1 0 12 → (∀ c2, 0 ≤ c2 → c2 < c → ¬ (X.1 15 c2 = 3 ∧ X.1 19 c2 = 0)) → no_lv (go_1 n c X).1
  | 0, c, X, h0, hn, h => fun c2 c0 c1 => h c2 c0 (by have : (go_1 0 c X).1 0 12 = X.1 0 12 := rfl; omega)
  | n + 1, c, X, h0, hn, h => by
    unfold go_1
    by_cases hq : X.1 15 c = 3 ∧ X.1 19 c = 0
    · rw [if_pos hq]
      refine lv_go1 n (c + 1) (mo_rm X.1 c 4, 1) (by omega) (by show c + 1 + (n : Int) = mo_rm X.1 c 4 0 12; rw [mo_rm_0 (by omega)]; omega) (fun c2 c0 c1 => ?_)
      show ¬ (mo_rm X.1 c 4 15 c2 = 3 ∧ mo_rm X.1 c 4 19 c2 = 0)
      rw [rm_15, rm_19]
      by_cases hcc : c2 = c
      · rw [if_pos hcc]; omega
      · rw [if_neg hcc, if_neg hcc]
        exact h c2 c0 (by omega)
    · rw [if_neg hq]
      refine lv_go1 n (c + 1) X (by omega) (by omega) (fun c2 c0 c1 => ?_)
      by_cases hcc : c2 = c
      · rw [hcc]; exact hq
      · exact h c2 c0 (by omega)
theorem lv_go0 (h12 : 0 ≤ ρ 0 12) : no_lv (go_0 ρ).1 := lv_go1 _ 0 (ρ, 0) (by omega) (by show (0 : Int) + _ = ρ 0 12; omega) (fun c2 c0 c1 => by omega)
theorem lv_id : ∀ (n : Nat) (c : Int), 0 ≤ c → c + n ≤ ρ 0 12 → no_lv ρ → go_1 n c (ρ, r) = (ρ, r)
  | 0, _, _, _, _ => rfl
  | n + 1, c, h0, hn, h => by
    unfold go_1
    have := h c h0 (by omega)
    show go_1 n (c + 1) (if ρ 15 c = 3 ∧ ρ 19 c = 0 then (mo_rm ρ c 4, 1) else (ρ, r)) = (ρ, r)
    rw [if_neg this]
    exact lv_id n (c + 1) (by omega) (by omega) h
theorem lv_0 (h12 : 0 ≤ ρ 0 12) (h : no_lv ρ) : go_f ρ = go_2 ρ 0 := by
  have e : go_0 ρ = (ρ, 0) := lv_id _ 0 (by omega) (by omega) h
  unfold go_f
  rw [e]
theorem lv_rm (h : no_lv ρ) : no_lv (mo_rm (mm_u ρ 16 c i) c 5) := fun c2 c0 c1 => by
  rw [mo_rm_0 (by omega), mm_u_ne (by omega)] at c1
  rw [rm_15, rm_19, mm_u_ne (by omega), mm_u_ne (by omega)]
  by_cases hcc : c2 = c
  · rw [if_pos hcc]; omega
  · rw [if_neg hcc, if_neg hcc]
    exact h c2 c0 c1
theorem lv_ck (h : no_lv ρ) : no_lv (ck_f ρ) ∧ ((ck_f ρ) 0 21 < 0 ∨ (ck_f ρ) 0 22 ≠ 0) := by
  have hrm : ∀ z, no_lv (mo_rm (mm_u ρ 16 (ρ 0 21) z) (ρ 0 21) 5) ∧ (mo_rm (mm_u ρ 16 (ρ 0 21) z) (ρ 0 21) 5 0 21 < 0 ∨ mo_rm (mm_u ρ 16 (ρ 0 21) z) (ρ 0 21) 5 0 22 ≠ 0) := fun z => ⟨lv_rm h, Or.inl (by rw [rm_21, mm_u_ne (by omega), if_pos rfl]; omega)⟩
  unfold ck_f
  by_cases h1 : ck_p ρ (ρ 0 21) 8 (ρ 14 (ρ 0 21)) 1 = 0
  · rw [if_pos h1]; exact hrm 1
  · rw [if_neg h1]
    rcases fg_r ρ (ρ 0 21) with _ | ⟨x, e, q⟩
    · show no_lv (if ck_s ρ (ρ 0 12).toNat 0 0 ≠ 0 then mo_rm (mm_u ρ 16 (ρ 0 21) 2) (ρ 0 21) 5 else if 4096 < mo_ld (mo_me (ρ 0 1).toNat ρ) 0 then mo_rm (mm_u ρ 16 (ρ 0 21) 3) (ρ 0 21) 5 else mo_ch (mm_u ρ 0 22 1) 1 2) ∧ ((if ck_s ρ (ρ 0 12).toNat 0 0 ≠ 0 then mo_rm (mm_u ρ 16 (ρ 0 21) 2) (ρ 0 21) 5 else if 4096 < mo_ld (mo_me (ρ 0 1).toNat ρ) 0 then mo_rm (mm_u ρ 16 (ρ 0 21) 3) (ρ 0 21) 5 else mo_ch (mm_u ρ 0 22 1) 1 2) 0 21 < 0 ∨ (if ck_s ρ (ρ 0 12).toNat 0 0 ≠ 0 then mo_rm (mm_u ρ 16 (ρ 0 21) 2) (ρ 0 21) 5 else if 4096 < mo_ld (mo_me (ρ 0 1).toNat ρ) 0 then mo_rm (mm_u ρ 16 (ρ 0 21) 3) (ρ 0 21) 5 else mo_ch (mm_u ρ 0 22 1) 1 2) 0 22 ≠ 0)
      by_cases h2 : ck_s ρ (ρ 0 12).toNat 0 0 ≠ 0
      · rw [if_pos h2]; exact hrm 2
      · rw [if_neg h2]
        by_cases h3 : 4096 < mo_ld (mo_me (ρ 0 1).toNat ρ) 0
        · rw [if_pos h3]; exact hrm 3
        · rw [if_neg h3]
          refine ⟨fun c2 c0 c1 => ?_, Or.inr (by rw [ch_ne (by omega), mm_u_at]; omega)⟩
          rw [ch_ne (by omega), mm_u_ne (by omega)] at c1
          rw [ch_15 (by rw [mm_u_ne (by omega)]; exact ⟨c0, c1⟩), ch_ne (by omega), mm_u_ne (by omega), mm_u_ne (by omega)]
          have := h c2 c0 c1
          split
          · omega
          · exact this
    · show no_lv (mm_u (mm_u (pl_f ρ (ρ 0 21) x e q) 15 (ρ 0 21) 1) 0 21 (-1)) ∧ (mm_u (mm_u (pl_f ρ (ρ 0 21) x e q) 15 (ρ 0 21) 1) 0 21 (-1) 0 21 < 0 ∨ mm_u (mm_u (pl_f ρ (ρ 0 21) x e q) 15 (ρ 0 21) 1) 0 21 (-1) 0 22 ≠ 0)
      refine ⟨fun c2 c0 c1 => ?_, Or.inl (by rw [mm_u_at]; omega)⟩
      have er : ∀ p i, p ≠ 17 → p ≠ 5 → p ≠ 6 → pl_f ρ (ρ 0 21) x e q p i = ρ p i := fun p i h1 h2 h3 => by unfold pl_f; rw [if_neg h1, if_neg h2, if_neg h3]
      rw [mm_u_ne (by omega), mm_u_ne (by omega), er 0 12 (by omega) (by omega) (by omega)] at c1
      have q15 : mm_u (mm_u (pl_f ρ (ρ 0 21) x e q) 15 (ρ 0 21) 1) 0 21 (-1) 15 c2 = if c2 = ρ 0 21 then 1 else ρ 15 c2 := by
        rw [mm_u_ne (by omega)]
        by_cases hcc : c2 = ρ 0 21
        · rw [hcc, mm_u_at, if_pos rfl]
        · rw [mm_u_ne (by omega), if_neg hcc]
          exact er 15 c2 (by omega) (by omega) (by omega)
      have q19 : mm_u (mm_u (pl_f ρ (ρ 0 21) x e q) 15 (ρ 0 21) 1) 0 21 (-1) 19 c2 = ρ 19 c2 := by
        rw [mm_u_ne (by omega), mm_u_ne (by omega)]
        exact er 19 c2 (by omega) (by omega) (by omega)
      rw [q15, q19]
      have := h c2 c0 c1
      split
      · omega
      · exact this
theorem lv_mv (h : no_lv ρ) : no_lv (ma_e (mo_pn ρ)) ∧ ma_e (mo_pn ρ) 0 21 < 0 := by
  refine ⟨fun c2 c0 c1 => ?_, by rw [show ma_e (mo_pn ρ) 0 21 = -1 from mm_u_at]; omega⟩
  have e12 : ma_e (mo_pn ρ) 0 12 = ρ 0 12 := mve_0 (by omega)
  rw [e12] at c1
  have e15 : ma_e (mo_pn ρ) 15 c2 = if c2 = ρ 0 21 then 1 else if ρ 15 c2 = 2 then 1 else ρ 15 c2 := mve_15 ⟨c0, c1⟩
  have e19 : ma_e (mo_pn ρ) 19 = ρ 19 := mve_r (by omega)
  rw [e15, e19]
  have := h c2 c0 c1
  split
  · omega
  · split
    · omega
    · exact this
theorem se_t0 (hI : iv_I ρ f) : se_t 4 ρ := by
  have h12 : ∀ {ρ : mm_T}, iv_I ρ f → 0 ≤ ρ 0 12 := fun h => h.1.1.2.2.1.1
  -- from a state without such: with no new card, with one checked, with one not checked
  have t0 : ∀ (n : Nat) (ρ : mm_T), iv_I ρ f → no_lv ρ → ρ 0 21 < 0 → se_t (n + 1) ρ := fun n ρ hI hl hc => Or.inl (by rw [lv_0 (h12 hI) hl]; unfold go_2; rw [if_pos hc])
  have t1 : ∀ (n : Nat) (ρ : mm_T), iv_I ρ f → no_lv ρ → ρ 0 22 ≠ 0 → se_t (n + 2) ρ := fun n ρ hI hl hk => by
    by_cases hc : ρ 0 21 < 0
    · exact t0 _ ρ hI hl hc
    · have e := lv_0 (h12 hI) hl
      by_cases hw : go_w ρ (ρ 0 12).toNat 0 = 1
      · refine Or.inl ?_
        rw [e]; unfold go_2; rw [if_neg hc, if_neg hk, if_pos hw]
      · refine Or.inr (t0 _ _ (iv_gof hI) ?_ ?_)
        · rw [e]; unfold go_2; rw [if_neg hc, if_neg hk, if_neg hw]; exact (lv_mv hl).1
        · rw [e]; unfold go_2; rw [if_neg hc, if_neg hk, if_neg hw]; exact (lv_mv hl).2
  have t2 : ∀ (n : Nat) (ρ : mm_T), iv_I ρ f → no_lv ρ → se_t (n + 3) ρ := fun n ρ hI hl => by
    by_cases hk : ρ 0 22 ≠ 0
    · exact t1 _ ρ hI hl hk
    · by_cases hc : ρ 0 21 < 0
      · exact t0 _ ρ hI hl hc
      · have e : go_f ρ = (ck_f ρ, 1) := by rw [lv_0 (h12 hI) hl]; exact (if_neg hc).trans (if_pos (by omega))
        have hck := lv_ck hl
        refine Or.inr ?_
        have hI1 := iv_gof hI
        rw [e] at hI1 ⊢
        rcases hck.2 with h | h
        · exact t0 _ _ hI1 hck.1 h
        · exact t1 _ _ hI1 hck.1 h
  refine Or.inr (t2 0 _ (iv_gof hI) ?_)
  -- after any step there is none such
  have hl := lv_go0 (h12 hI)
  show no_lv (go_2 (go_0 ρ).1 (go_0 ρ).2).1
  generalize (go_0 ρ).1 = μ at hl ⊢
  generalize (go_0 ρ).2 = r
  unfold go_2
  by_cases h1 : μ 0 21 < 0
  · rw [if_pos h1]; exact hl
  · rw [if_neg h1]
    by_cases h2 : μ 0 22 = 0
    · rw [if_pos h2]; exact (lv_ck hl).1
    · rw [if_neg h2]
      by_cases h3 : go_w μ (μ 0 12).toNat 0 = 1
      · rw [if_pos h3]; exact hl
      · rw [if_neg h3]; exact (lv_mv hl).1
theorem iv_se : ∀ (n : Nat) (ρ : mm_T), iv_I ρ f → iv_I (se_f n ρ).2 f
  | 0, _, h => h
  | n + 1, ρ, h => by
    unfold se_f
    split
    · exact iv_gof h
    · exact iv_se n _ (iv_gof h)
theorem se_b : ∀ (n : Nat) (ρ : mm_T), 0 ≤ (se_f n ρ).1 ∧ (se_f n ρ).1 ≤ n
  | 0, _ => by show (0 : Int) ≤ 0 ∧ (0 : Int) ≤ 0; omega
  | n + 1, ρ => by
    have := se_b n (go_f ρ).1
    unfold se_f
    split
    · show (0 : Int) ≤ 0 ∧ (0 : Int) ≤ ((n + 1 : Nat) : Int); omega
    · show 0 ≤ (se_f n (go_f ρ).1).1 + 1 ∧ (se_f n (go_f ρ).1).1 + 1 ≤ ((n + 1 : Nat) : Int); omega
end TE
