/-! memories that are alike where it counts: the same step -/
def rq_l : List Int := [2, 3, 4, 5, 6, 9, 10, 11, 13, 14, 15, 16, 17, 19, 20, 25, 26, 27, 28]
def rq_r (ρ ρ' : mm_T) : Prop := (∀ p ∈ rq_l, ρ' p = ρ p) ∧ ∀ i, i ≠ 0 → ρ' 0 i = ρ 0 i
section CG1
variable {ρ ρ' μ μ' : mm_T} {f : Int → Int} {b c i j k l p r x y z m e : Int} {q : Int → Int} {S S' : pn_S} {T T' : pn_T}
theorem rq_rfl : rq_r ρ ρ := ⟨fun _ _ => rfl, fun _ _ => rfl⟩
theorem rq_sy (h : rq_r ρ ρ') : rq_r ρ' ρ := ⟨fun p hp => (h.1 p hp).symm, fun i hi => (h.2 i hi).symm⟩
theorem rq_tr {ρ2 : mm_T} (h : rq_r ρ ρ') (h2 : rq_r ρ' ρ2) : rq_r ρ ρ2 := ⟨fun p hp => (h2.1 p hp).trans (h.1 p hp), fun i hi => (h2.2 i hi).trans (h.2 i hi)⟩
theorem rq_jk (h : jk_r ρ ρ') : rq_r ρ ρ' := ⟨fun p hp => h p (fun hm => by
  unfold rq_l at hp
  simp only [List.mem_cons, List.not_mem_nil, or_false] at hp hm
  omega), fun i _ => by rw [h 0 (by decide)]⟩
theorem rq_u (h : rq_r ρ ρ') : rq_r (mm_u ρ p i z) (mm_u ρ' p i z) := ⟨fun q hq => by funext k; unfold mm_u; rw [h.1 q hq], fun k hk => by unfold mm_u; rw [h.2 k hk]⟩
theorem rq_rg {lo hi : Int} {g : Int → Int} (h : rq_r ρ ρ') : rq_r (rg_m ρ p lo hi g) (rg_m ρ' p lo hi g) := ⟨fun q hq => by funext k; unfold rg_m; rw [h.1 q hq], fun k hk => by unfold rg_m; rw [h.2 k hk]⟩
theorem rq_rm (h : rq_r ρ ρ') : rq_r (mo_rm ρ c y) (mo_rm ρ' c y) := by
  unfold mo_rm mo_rm3 mo_rm2 mo_rm1
  rw [h.2 21 (by omega), h.1 2 (by decide)]
  exact rq_u (rq_rg (rq_rg (rq_u (rq_u h))))
theorem rq_ch (h : rq_r ρ ρ') : rq_r (mo_ch ρ x y) (mo_ch ρ' x y) := by
  unfold mo_ch
  rw [h.2 12 (by omega), h.1 15 (by decide)]
  exact rq_rg h
theorem rq_go1 : ∀ (n : Nat) (c : Int) (ρ ρ' : mm_T) (r : Int), rq_r ρ ρ' → rq_r (go_1 n c (ρ, r)).1 (go_1 n c (ρ', r)).1 ∧ (go_1 n c (ρ', r)).2 = (go_1 n c (ρ, r)).2
  | 0, _, _, _, _, h => ⟨h, rfl⟩
  | n + 1, c, ρ, ρ', r, h => by
    unfold go_1
    show rq_r (go_1 n (c + 1) (if ρ 15 c = 3 ∧ ρ 19 c = 0 then (mo_rm ρ c 4, 1) else (ρ, r))).1 (go_1 n (c + 1) (if ρ' 15 c = 3 ∧ ρ' 19 c = 0 then (mo_rm ρ' c 4, 1) else (ρ', r))).1 ∧ (go_1 n (c + 1) (if ρ' 15 c = 3 ∧ ρ' 19 c = 0 then (mo_rm ρ' c 4, 1) else (ρ', r))).2 = (go_1 n (c + 1) (if ρ 15 c = 3 ∧ ρ 19 c = 0 then (mo_rm ρ c 4, 1) else (ρ, r))).2
    rw [h.1 15 (by decide), h.1 19 (by decide)]
    by_cases hq : ρ 15 c = 3 ∧ ρ 19 c = 0
    · rw [if_pos hq, if_pos hq]
      exact rq_go1 n (c + 1) _ _ 1 (rq_rm h)
    · rw [if_neg hq, if_neg hq]
      exact rq_go1 n (c + 1) _ _ r h
theorem rq_go0 (h : rq_r ρ ρ') : rq_r (go_0 ρ).1 (go_0 ρ').1 ∧ (go_0 ρ').2 = (go_0 ρ).2 := by
  unfold go_0
  rw [h.2 12 (by omega)]
  exact rq_go1 _ 0 ρ ρ' 0 h
theorem mo_un_c (h3 : ρ' 3 = ρ 3) : ∀ (n : Nat) (k : Int), mo_un ρ' b n k = mo_un ρ b n k
  | 0, _ => rfl
  | n + 1, k => by
    unfold mo_un
    rw [h3, mo_un_c h3 n]
theorem mo_pw_c (h : rq_r ρ ρ') : mo_pw ρ' b = mo_pw ρ b := by
  unfold mo_pw
  rw [h.2 12 (by omega)]
  congr 1
  funext c
  unfold mo_pwc mo_th
  rw [h.1 15 (by decide), h.1 14 (by decide), h.1 10 (by decide), h.1 13 (by decide), mo_un_c (h.1 3 (by decide))]
theorem ck_p_c (h : rq_r ρ ρ') : ∀ (n : Nat) (b r : Int), ck_p ρ' c n b r = ck_p ρ c n b r
  | 0, _, _ => rfl
  | n + 1, b, r => by
    unfold ck_p
    rw [mo_pw_c h, h.1 3 (by decide), h.1 10 (by decide), h.1 13 (by decide), h.1 4 (by decide), ck_p_c h n]
theorem ck_s_c (h : rq_r ρ ρ') : ∀ (n : Nat) (c r : Int), ck_s ρ' n c r = ck_s ρ n c r
  | 0, _, _ => rfl
  | n + 1, c, r => by
    unfold ck_s
    rw [h.1 15 (by decide), h.1 11 (by decide), h.1 13 (by decide), ck_s_c h n]
theorem go_w_c (h : rq_r ρ ρ') : ∀ (n : Nat) (c : Int), go_w ρ' n c = go_w ρ n c
  | 0, _ => rfl
  | n + 1, c => by
    unfold go_w
    rw [h.1 15 (by decide), h.1 19 (by decide), go_w_c h n]
theorem fg_r_c (h : rq_r ρ ρ') : fg_r ρ' c = fg_r ρ c := by
  unfold fg_r
  rw [ff_r_fr (h.1 2 (by decide)) (h.1 5 (by decide)) (h.1 6 (by decide)) (h.1 9 (by decide)) (h.1 13 (by decide)) (h.1 14 (by decide)) (h.1 17 (by decide)), gr_r_fr (h.1 2 (by decide)) (h.1 3 (by decide)) (h.1 5 (by decide)) (h.1 6 (by decide)) (h.1 9 (by decide)) (h.1 13 (by decide)) (h.1 14 (by decide)) (h.1 17 (by decide)), h.1 5 (by decide), h.1 6 (by decide), h.1 14 (by decide)]
theorem rq_pl (h : rq_r ρ ρ') : rq_r (pl_f ρ c x e q) (pl_f ρ' c x e q) := by
  refine ⟨fun p hp => ?_, fun i hi => ?_⟩
  · funext i
    unfold pl_f
    rw [h.1 17 (by decide), h.1 5 (by decide), h.1 6 (by decide), h.1 9 (by decide), h.1 13 (by decide), h.1 14 (by decide), h.1 p hp]
  · unfold pl_f
    rw [if_neg (by omega), if_neg (by omega), if_neg (by omega), if_neg (by omega), if_neg (by omega), if_neg (by omega)]
    exact h.2 i hi
theorem rq_A (h : rq_r ρ ρ') (hI : iv_I ρ f) : iv_A ρ' f := by
  have hA := hI.1
  have hB : mo_B ρ' := by
    have hb := hA.1
    unfold mo_B at hb ⊢
    rw [h.1 2 (by decide), h.1 3 (by decide), h.1 4 (by decide), h.1 9 (by decide), h.1 10 (by decide), h.1 13 (by decide), h.1 14 (by decide), h.1 15 (by decide), h.1 17 (by decide), h.1 19 (by decide), h.1 25 (by decide), h.1 26 (by decide), h.1 28 (by decide), h.2 1 (by omega), h.2 8 (by omega), h.2 12 (by omega), h.2 21 (by omega), h.2 22 (by omega), h.2 24 (by omega)]
    exact hb
  refine ⟨hB, mo_C_fr (h.1 2 (by decide)) (h.1 5 (by decide)) (h.1 6 (by decide)) (h.1 9 (by decide)) (h.1 13 (by decide)) (h.1 17 (by decide)) hA.2.1, tr_fr (h.2 1 (by omega)) (h.1 2 (by decide)) (h.1 3 (by decide)) hA.2.2.1, by unfold mo_p2s; rw [h.1 9 (by decide)]; exact hA.2.2.2.1, by rw [h.1 11 (by decide)]; exact hA.2.2.2.2.1, ?_⟩
  have hk := hA.2.2.2.2.2
  unfold iv_K at hk ⊢
  rw [h.1 2 (by decide), h.1 13 (by decide), h.1 14 (by decide), h.1 15 (by decide), h.2 1 (by omega), h.2 8 (by omega), h.2 12 (by omega)]
  exact hk
theorem rq_I (h : rq_r ρ ρ') (hI : iv_I ρ f) : iv_I ρ' f := by
  refine iv_c (fun p hp => h.1 p (by unfold rq_l; simp only [List.mem_cons, List.not_mem_nil, or_false] at hp ⊢; omega)) (fun i hi => h.2 i (fun h0 => by rw [h0] at hi; revert hi; decide)) (by rw [h.2 22 (by omega)]; exact hI.1.1.2.2.2.2.1) ?_ hI
  intro h1 h2
  rw [h.2 21 (by omega)] at h1
  rw [h.2 22 (by omega)] at h2
  rw [ml_c hI.1 (rq_A h hI) (h.2 1 (by omega)) (h.1 2 (by decide)) (h.1 9 (by decide)) (h.1 13 (by decide))]
  exact hI.2.2.2.2.2.2.2.2.2.2 h1 h2
theorem rq_ck (h : rq_r ρ ρ') (hI : iv_I ρ f) : rq_r (ck_f ρ) (ck_f ρ') := by
  have e21 := h.2 21 (by omega)
  unfold ck_f
  rw [e21, h.2 12 (by omega), ck_p_c h, h.1 14 (by decide), fg_r_c h, ck_s_c h, ml_c hI.1 (rq_A h hI) (h.2 1 (by omega)) (h.1 2 (by decide)) (h.1 9 (by decide)) (h.1 13 (by decide))]
  by_cases h1 : ck_p ρ (ρ 0 21) 8 (ρ 14 (ρ 0 21)) 1 = 0
  · rw [if_pos h1, if_pos h1]
    exact rq_rm (rq_u h)
  · rw [if_neg h1, if_neg h1]
    rcases fg_r ρ (ρ 0 21) with _ | ⟨x, e, q⟩
    · show rq_r (if ck_s ρ (ρ 0 12).toNat 0 0 ≠ 0 then mo_rm (mm_u ρ 16 (ρ 0 21) 2) (ρ 0 21) 5 else if 4096 < mo_ld (mo_me (ρ 0 1).toNat ρ) 0 then mo_rm (mm_u ρ 16 (ρ 0 21) 3) (ρ 0 21) 5 else mo_ch (mm_u ρ 0 22 1) 1 2) (if ck_s ρ (ρ 0 12).toNat 0 0 ≠ 0 then mo_rm (mm_u ρ' 16 (ρ 0 21) 2) (ρ 0 21) 5 else if 4096 < mo_ld (mo_me (ρ 0 1).toNat ρ) 0 then mo_rm (mm_u ρ' 16 (ρ 0 21) 3) (ρ 0 21) 5 else mo_ch (mm_u ρ' 0 22 1) 1 2)
      by_cases h2 : ck_s ρ (ρ 0 12).toNat 0 0 ≠ 0
      · rw [if_pos h2, if_pos h2]
        exact rq_rm (rq_u h)
      · rw [if_neg h2, if_neg h2]
        by_cases h3 : 4096 < mo_ld (mo_me (ρ 0 1).toNat ρ) 0
        · rw [if_pos h3, if_pos h3]
          exact rq_rm (rq_u h)
        · rw [if_neg h3, if_neg h3]
          exact rq_ch (rq_u h)
    · exact rq_u (rq_u (rq_pl h))
end CG1
