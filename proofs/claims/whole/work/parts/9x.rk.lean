/-! the requests of a card, in their order -/
/-- how many requests of c wait before the ticket t -/
def rk_t (ρ : mm_T) (c t : Int) : Int := sm_s (mo_pd ρ c) t.toNat
section RK
variable {ρ ρ' : mm_T} {c i k n r t u w : Int}
theorem pd_01 (ρ : mm_T) (c t : Int) : mo_pd ρ c t = 0 ∨ mo_pd ρ c t = 1 := by
  unfold mo_pd
  split
  · exact Or.inr rfl
  · exact Or.inl rfl
theorem sm_le {g : Int → Int} (h : ∀ i, 0 ≤ g i) : ∀ (n m : Nat), n ≤ m → sm_s g n ≤ sm_s g m
  | n, 0, hn => by rw [show n = 0 by omega]; omega
  | n, m + 1, hn => by
    by_cases he : n = m + 1
    · rw [he]; omega
    · have := sm_le h n m (by omega)
      have := h m
      show sm_s g n ≤ sm_s g m + g m
      omega
theorem pd_0 : 0 ≤ mo_pd ρ c t := by have := pd_01 ρ c t; omega
theorem rk_lt (h0 : 0 ≤ t) (h : t < u) (hp : mo_pd ρ c t = 1) : rk_t ρ c t + 1 ≤ rk_t ρ c u := by
  have h1 := sm_su (g := mo_pd ρ c) h0
  have h2 := sm_le (g := mo_pd ρ c) (fun _ => pd_0) (t + 1).toNat u.toNat (by omega)
  unfold rk_t
  omega
theorem rk_un (h0 : 0 ≤ t) (h1 : 0 ≤ u) (hp : mo_pd ρ c t = 1) (hq : mo_pd ρ c u = 1) (h : rk_t ρ c t = rk_t ρ c u) : t = u := by
  by_cases h2 : t < u
  · have := rk_lt h0 h2 hp; omega
  · by_cases h3 : u < t
    · have := rk_lt h1 h3 hq; omega
    · omega
theorem rk_wt (h0 : 0 ≤ t) (h1 : t < ρ 0 24) (hp : mo_pd ρ c t = 1) : rk_t ρ c t < mo_wt ρ c := by
  have := rk_lt h0 h1 hp
  unfold mo_wt
  unfold rk_t at this ⊢
  omega
theorem rk_0 : 0 ≤ rk_t ρ c t := sm_nn _ (fun _ _ _ => pd_0)
theorem wt_0 : 0 ≤ mo_wt ρ c := sm_nn _ (fun _ _ _ => pd_0)
theorem fi_s (ρ : mm_T) (c : Int) : ∀ (n : Nat) (r : Int), (mo_fi ρ c r n = r ∧ ∀ t : Int, 0 ≤ t → t < (n : Int) → mo_pd ρ c t = 0) ∨ (0 ≤ mo_fi ρ c r n ∧ mo_fi ρ c r n < (n : Int) ∧ mo_pd ρ c (mo_fi ρ c r n) = 1 ∧ ∀ t : Int, 0 ≤ t → t < mo_fi ρ c r n → mo_pd ρ c t = 0)
  | 0, r => Or.inl ⟨rfl, fun t h1 h2 => by omega⟩
  | n + 1, r => by
    show (mo_fi ρ c (if mo_pd ρ c n = 1 then (n : Int) else r) n = r ∧ _) ∨ (0 ≤ mo_fi ρ c (if mo_pd ρ c n = 1 then (n : Int) else r) n ∧ mo_fi ρ c (if mo_pd ρ c n = 1 then (n : Int) else r) n < ((n + 1 : Nat) : Int) ∧ mo_pd ρ c (mo_fi ρ c (if mo_pd ρ c n = 1 then (n : Int) else r) n) = 1 ∧ ∀ t : Int, 0 ≤ t → t < mo_fi ρ c (if mo_pd ρ c n = 1 then (n : Int) else r) n → mo_pd ρ c t = 0)
    rcases fi_s ρ c n (if mo_pd ρ c n = 1 then (n : Int) else r) with ⟨h1, h2⟩ | ⟨h1, h2, h3, h4⟩
    · by_cases hp : mo_pd ρ c n = 1
      · rw [if_pos hp] at h1 ⊢
        rw [h1]
        exact Or.inr ⟨by omega, by omega, hp, h2⟩
      · rw [if_neg hp] at h1 ⊢
        refine Or.inl ⟨h1, fun t t0 t1 => ?_⟩
        by_cases ht : t = n
        · have := pd_01 ρ c t
          rw [ht] at this ⊢
          omega
        · exact h2 t t0 (by omega)
    · exact Or.inr ⟨h1, by omega, h3, h4⟩
/-- the first that waits -/
theorem fr_t0 (h24 : 0 ≤ ρ 0 24) (h : mo_wt ρ c = 0) : mo_ft ρ c = -1 := by
  rcases fi_s ρ c (ρ 0 24).toNat (-1) with ⟨h1, h2⟩ | ⟨h1, h2, h3, h4⟩
  · exact h1
  · have := rk_wt (ρ := ρ) (c := c) h1 (by omega) h3
    have := rk_0 (ρ := ρ) (c := c) (t := mo_fi ρ c (-1) (ρ 0 24).toNat)
    omega
theorem fr_t1 (h24 : 0 ≤ ρ 0 24) (h : 1 ≤ mo_wt ρ c) : 0 ≤ mo_ft ρ c ∧ mo_ft ρ c < ρ 0 24 ∧ mo_pd ρ c (mo_ft ρ c) = 1 ∧ rk_t ρ c (mo_ft ρ c) = 0 := by
  rcases fi_s ρ c (ρ 0 24).toNat (-1) with ⟨h1, h2⟩ | ⟨h1, h2, h3, h4⟩
  · have : mo_wt ρ c = 0 := sm_0 _ (fun i i0 i1 => h2 i i0 (by omega))
    omega
  · refine ⟨h1, by unfold mo_ft; omega, h3, ?_⟩
    exact sm_0 _ (fun i i0 i1 => h4 i i0 (by unfold mo_ft at i1; omega))
/-- losing: who waits then -/
theorem ls_28 : mo_ls ρ c w 28 t = if 0 ≤ t ∧ t < ρ 0 24 then mo_lsg ρ c w t else ρ 28 t := by
  unfold mo_ls rg_m
  by_cases h : 0 ≤ t ∧ t < ρ 0 24
  · rw [if_pos ⟨rfl, h⟩, if_pos h]
  · rw [if_neg (fun h2 => h h2.2), if_neg h]
theorem ls_ne {p : Int} (h : p ≠ 28) : mo_ls ρ c w p = ρ p := by
  funext i
  exact rg_ne (fun h2 => h h2.1)
theorem ls_pd {c2 : Int} (ht : 0 ≤ t ∧ t < ρ 0 24) : mo_pd (mo_ls ρ c w) c2 t = if c2 = c ∧ t ≠ w then 0 else mo_pd ρ c2 t := by
  unfold mo_pd
  rw [ls_28, if_pos ht, ls_ne (by omega)]
  unfold mo_lsg
  by_cases h1 : ρ 25 t = c ∧ ρ 28 t = 1099511627776 ∧ t ≠ w
  · rw [if_pos h1, if_neg (by omega)]
    by_cases h2 : c2 = c ∧ t ≠ w
    · rw [if_pos h2]
    · rw [if_neg h2, if_neg (fun h3 => h2 ⟨by omega, h1.2.2⟩)]
  · rw [if_neg h1]
    by_cases h2 : c2 = c ∧ t ≠ w
    · rw [if_pos h2, if_neg (fun h3 => h1 ⟨by omega, h3.2, h2.2⟩)]
    · rw [if_neg h2]
theorem ls_wt {c2 : Int} (h24 : 0 ≤ ρ 0 24) (hc : c2 ≠ c) : mo_wt (mo_ls ρ c w) c2 = mo_wt ρ c2 := by
  unfold mo_wt
  rw [ls_ne (by omega)]
  refine sm_c _ (fun i i0 i1 => ?_)
  rw [ls_pd (by omega), if_neg (fun h => hc h.1)]
theorem ls_wtc (h24 : 0 ≤ ρ 0 24) (hw : w < 0 ∨ (w < ρ 0 24 ∧ mo_pd ρ c w = 1)) : mo_wt (mo_ls ρ c w) c = if w < 0 then 0 else 1 := by
  unfold mo_wt
  rw [ls_ne (by omega)]
  by_cases h : w < 0
  · rw [if_pos h]
    exact sm_0 _ (fun i i0 i1 => by rw [ls_pd (by omega), if_pos ⟨rfl, by omega⟩])
  · rw [if_neg h]
    have := sm_1 (g := fun _ => 0) (g' := mo_pd (mo_ls ρ c w) c) (j := w) (d := 1) (by omega) (ρ 0 24).toNat (by omega) (fun i i0 i1 i2 => by rw [ls_pd (by omega), if_pos ⟨rfl, i2⟩]) (by rw [ls_pd (by omega), if_neg (fun h => h.2 rfl)]; omega)
    rw [this, sm_0 _ (fun _ _ _ => rfl)]
    rfl
theorem ls_n (h24 : 0 ≤ ρ 0 24) (hw : w < 0 ∨ (w < ρ 0 24 ∧ mo_pd ρ c w = 1)) : sm_s (mo_lsn ρ c w) (ρ 0 24).toNat = mo_wt ρ c - (if w < 0 then 0 else 1) := by
  have e : ∀ t, mo_lsn ρ c w t = if t = w then 0 else mo_pd ρ c t := fun t => by
    unfold mo_lsn mo_pd
    by_cases ht : t = w
    · rw [if_pos ht, if_neg (fun h => h.2.2 ht)]
    · rw [if_neg ht]
      by_cases h : ρ 25 t = c ∧ ρ 28 t = 1099511627776
      · rw [if_pos h, if_pos ⟨h.1, h.2, ht⟩]
      · rw [if_neg h, if_neg (fun h2 => h ⟨h2.1, h2.2.1⟩)]
  by_cases h : w < 0
  · rw [if_pos h]
    unfold mo_wt
    rw [sm_c (g' := mo_pd ρ c) _ (fun i i0 i1 => by rw [e, if_neg (by omega)])]
    omega
  · rw [if_neg h]
    have := sm_1 (g := mo_lsn ρ c w) (g' := mo_pd ρ c) (j := w) (d := 1) (by omega) (ρ 0 24).toNat (by omega) (fun i i0 i1 i2 => by rw [e, if_neg i2]) (by rw [e, if_pos rfl]; omega)
    unfold mo_wt
    omega
end RK
