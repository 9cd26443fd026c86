/-! losing requests: relation and invariant -/
section RLS
variable {s ν ν' ρ ρ1 : mm_T} {f : Int → Int} {a c i k t w x y z : Int}
/-- ρ1 is ρ but for the state of c, its pieces, and what was thrown -/
def ls_1 (ρ ρ1 : mm_T) (c a : Int) : Prop := (∀ p, p ≠ 0 → p ≠ 15 → p ≠ 19 → ρ1 p = ρ p) ∧ (∀ i, i ≠ 0 → ρ1 0 i = ρ 0 i) ∧ (∀ i, i ≠ c → ρ1 15 i = ρ 15 i ∧ ρ1 19 i = ρ 19 i) ∧ (ρ1 15 c = ρ 15 c ∨ (ρ 15 c = 1 ∧ ρ1 15 c = 3)) ∧ ρ1 19 c = (if a = 0 then 0 else ρ 19 c)
/-- which requests are kept -/
def ls_w (ρ : mm_T) (c w a : Int) : Prop := (w = -1 ∧ a = 0) ∨ (w = mo_ft ρ c ∧ a = 1 ∧ 1 ≤ mo_wt ρ c)
theorem ls_kp (h24 : 0 ≤ ρ 0 24) (hw : ls_w ρ c w a) (ht : 0 ≤ t) (hp : mo_pd ρ c t = 1) : t ≠ w ↔ a ≤ rk_t ρ c t := by
  have h0 := rk_0 (ρ := ρ) (c := c) (t := t)
  rcases hw with ⟨h1, h2⟩ | ⟨h1, h2, h3⟩
  · constructor <;> intro _ <;> omega
  · obtain ⟨f0, f1, f2, f3⟩ := fr_t1 (ρ := ρ) (c := c) h24 h3
    rw [← h1] at f0 f1 f2 f3
    constructor
    · intro h4
      have : rk_t ρ c t ≠ 0 := fun h5 => h4 (rk_un ht f0 hp f2 (by omega))
      omega
    · intro h4 h5
      rw [h5] at h4
      omega
theorem ls_pd1 {c2 : Int} (h1 : ls_1 ρ ρ1 c a) : mo_pd ρ1 c2 = mo_pd ρ c2 := mo_pd_c (h1.1 25 (by omega) (by omega) (by omega)) (h1.1 28 (by omega) (by omega) (by omega)) c2
theorem ls_wt1 {c2 : Int} (h1 : ls_1 ρ ρ1 c a) : mo_wt ρ1 c2 = mo_wt ρ c2 := mo_wt_c (h1.2.1 24 (by omega)) (h1.1 25 (by omega) (by omega) (by omega)) (h1.1 28 (by omega) (by omega) (by omega)) c2
theorem ls_wp (h24 : 0 ≤ ρ 0 24) (hw : ls_w ρ c w a) : w < 0 ∨ (w < ρ 0 24 ∧ mo_pd ρ c w = 1) := by
  rcases hw with ⟨h1, h2⟩ | ⟨h1, h2, h3⟩
  · exact Or.inl (by omega)
  · obtain ⟨f0, f1, f2, f3⟩ := fr_t1 (ρ := ρ) (c := c) h24 h3
    rw [← h1] at f0 f1 f2 f3
    exact Or.inr ⟨f1, f2⟩
theorem ls_wa (h24 : 0 ≤ ρ 0 24) (h1 : ls_1 ρ ρ1 c a) (hw : ls_w ρ c w a) : mo_wt (mo_ls ρ1 c w) c = a := by
  have q24 := h1.2.1 24 (by omega)
  have := ls_wp h24 hw
  rw [ls_wtc (by omega) (by rw [q24, ls_pd1 h1]; exact this)]
  rcases hw with ⟨h1, h2⟩ | ⟨h1, h2, h3⟩
  · rw [if_pos (by omega), h2]
  · obtain ⟨f0, f1, f2, f3⟩ := fr_t1 (ρ := ρ) (c := c) h24 h3
    rw [if_neg (by omega), h2]
theorem R_ls (hA : iv_A ρ f) (h8 : iv_8 ρ) (hR : pt_R s ν ρ f) (hc : 0 ≤ c ∧ c < ρ 0 12) (h1 : ls_1 ρ ρ1 c a) (hw : ls_w ρ c w a)
    (hν : ∀ p i, 50 ≤ p → ¬ (p = 300 + c ∧ (i = 6 ∨ i = 8 ∨ i = 9)) → p ≠ 380 + c → ¬ (1000 ≤ p ∧ p < 1512 ∧ i = 2) → ν' p i = ν p i)
    (hCf : ν' (300 + c) 6 = ρ1 15 c ∧ ν' (300 + c) 8 = a ∧ ν' (300 + c) 9 = ρ1 19 c) (hQ : 1 ≤ a → ν' (380 + c) 0 = ν (380 + c) 0)
    (hRq : ∀ t, 0 ≤ t → t < ρ 0 24 → ν' (1000 + t) 2 = if mo_pd ρ c t = 1 ∧ a ≤ rk_t ρ c t then 2199023255552 else ν (1000 + t) 2) : pt_R s ν' (mo_ls ρ1 c w) f := by
  have b12 := hA.1.2.2.1
  have b24 := hA.1.2.2.2.2.2.1
  have q24 := h1.2.1 24 (by omega)
  have hwa := ls_wa b24.1 h1 hw
  have g1 : ∀ p, p ≠ 28 → mo_ls ρ1 c w p = ρ1 p := fun p h => ls_ne h
  have hpd : ∀ c2 t, 0 ≤ t → t < ρ 0 24 → mo_pd (mo_ls ρ1 c w) c2 t = if c2 = c ∧ t ≠ w then 0 else mo_pd ρ c2 t := fun c2 t t0 t1 => by rw [ls_pd (by omega), ls_pd1 h1]
  have g28 : ∀ t, 0 ≤ t → t < ρ 0 24 → mo_ls ρ1 c w 28 t = if mo_pd ρ c t = 1 ∧ t ≠ w then 2199023255552 else ρ 28 t := fun t t0 t1 => by
    rw [ls_28, if_pos (by omega)]
    unfold mo_lsg mo_pd
    rw [h1.1 25 (by omega) (by omega) (by omega), h1.1 28 (by omega) (by omega) (by omega)]
    by_cases h : ρ 25 t = c ∧ ρ 28 t = 1099511627776
    · rw [if_pos h]
      by_cases h2 : t = w
      · rw [if_neg (fun h3 => h3.2.2 h2), if_neg (fun h3 => h3.2 h2)]
      · rw [if_pos ⟨h.1, h.2, h2⟩, if_pos ⟨rfl, h2⟩]
    · rw [if_neg h, if_neg (fun h3 => h ⟨h3.1, h3.2.1⟩), if_neg (fun h3 => absurd h3.1 (by omega))]
  generalize mo_ls ρ1 c w = ρ' at *
  obtain ⟨k1, k2, k3, k4, k5⟩ := h1
  refine R_q (c := c) hA h8 hR hc (fun p h1 h2 h3 h4 h5 => by rw [g1 p h5]; exact k1 p h1 h2 h3) (fun i hi => by rw [g1 0 (by omega)]; exact k2 i hi) (fun c2 h1 h2 => ?_) (fun p i h1 h2 h3 h4 => hν p i h1 (fun h => h2 ⟨h.1, by omega⟩) h3 h4) (fun c2 h => ⟨by rw [g1 19 (by omega)]; exact (k3 c2 h).2, by rw [g1 20 (by omega), k1 20 (by omega) (by omega) (by omega)], by rw [g1 15 (by omega)]; exact (k3 c2 h).1⟩) (fun c2 h t t0 t1 => by rw [hpd c2 t t0 t1, if_neg (fun h2 => h h2.1)]) ⟨by rw [g1 15 (by omega)]; exact hCf.1, by rw [hwa]; exact hCf.2.1, by rw [g1 19 (by omega)]; exact hCf.2.2, ?_⟩ (fun i h1 h2 => ?_) (fun t t0 t1 => ?_)
  · rw [g1 15 (by omega)]
    by_cases hcc : c2 = c
    · rw [hcc]; exact k4
    · exact Or.inl (k3 c2 hcc).1
  · rw [hν (300 + c) 10 (by omega) (by omega) (by omega) (by omega), g1 20 (by omega), k1 20 (by omega) (by omega) (by omega)]
    exact (hR.cn c hc.1 hc.2).2.2.2.2.2.2
  · rw [hwa] at h2
    rcases hw with ⟨w1, w2⟩ | ⟨w1, w2, w3⟩
    · omega
    · obtain ⟨f0, f1, f2, f3⟩ := ft_q hA hR hc w3
      rw [← w1] at f0 f1 f2 f3
      rw [show i = 0 by omega]
      refine ⟨w, f1.1, f1.2, by rw [hQ (by omega)]; exact f0, by rw [hpd c w f1.1 f1.2, if_neg (fun h => h.2 rfl)]; exact f2, ?_⟩
      exact sm_0 _ (fun j j0 j1 => by rw [hpd c j j0 (by omega), if_pos ⟨rfl, by omega⟩])
  · rw [hRq t t0 t1, g28 t t0 t1]
    by_cases hp : mo_pd ρ c t = 1
    · have := ls_kp b24.1 hw t0 hp
      by_cases ht : t = w
      · rw [if_neg (fun h => this.2 h.2 ht), if_neg (fun h => h.2 ht)]
        exact (hR.rq t t0 t1).2.2.2
      · rw [if_pos ⟨hp, this.1 ht⟩, if_pos ⟨hp, ht⟩]
    · rw [if_neg (fun h => hp h.1), if_neg (fun h => hp h.1)]
      exact (hR.rq t t0 t1).2.2.2
theorem iv_ls (hI : iv_I ρ f) (hc : 0 ≤ c ∧ c < ρ 0 12) (h1 : ls_1 ρ ρ1 c a) (hw : ls_w ρ c w a) (hB : mo_B ρ1) : iv_I (mo_ls ρ1 c w) f := by
  have b12 := hI.1.1.2.2.1
  have b24 := hI.1.1.2.2.2.2.2.1
  have q24 := h1.2.1 24 (by omega)
  have q12 := h1.2.1 12 (by omega)
  have hwa := ls_wa b24.1 h1 hw
  have hwo : ∀ c2, c2 ≠ c → mo_wt (mo_ls ρ1 c w) c2 = mo_wt ρ c2 := fun c2 h => by rw [ls_wt (by omega) h, ls_wt1 h1]
  have g1 : ∀ p, p ≠ 28 → mo_ls ρ1 c w p = ρ1 p := fun p h => ls_ne h
  have hB' : mo_B (mo_ls ρ1 c w) := mo_B_ls hB
  generalize mo_ls ρ1 c w = ρ' at *
  obtain ⟨k1, k2, k3, k4, k5⟩ := h1
  have e15 : ∀ c, 0 ≤ c → c < ρ 0 12 → ρ' 15 c = ρ 15 c ∨ (ρ 15 c = 1 ∧ ρ' 15 c = 3) := fun c2 h1 h2 => by
    rw [g1 15 (by omega)]
    by_cases hcc : c2 = c
    · rw [hcc]; exact k4
    · exact Or.inl (k3 c2 hcc).1
  refine iv_q hI hB' (fun p h1 h2 h3 h4 h5 => by rw [g1 p h5]; exact k1 p h1 h2 h3) (fun i hi => by rw [g1 0 (by omega)]; exact k2 i hi) e15 (fun c2 h1 h2 => ⟨by rw [g1 19 (by omega)]; exact (k3 c2 (by omega)).2, by rw [g1 20 (by omega), k1 20 (by omega) (by omega) (by omega)]⟩) ?_ ?_
  · intro c2 c0 c1
    rw [g1 0 (by omega), q12] at c1
    by_cases hcc : c2 = c
    · rw [hcc, hwa]
      rcases hw with ⟨w1, w2⟩ | ⟨w1, w2, w3⟩ <;> omega
    · rw [hwo c2 hcc]
      exact hI.2.2.1 c2 c0 c1
  · intro c2 c0 c1 hp
    rw [g1 0 (by omega), q12] at c1
    rw [g1 19 (by omega)] at hp
    have h15 := e15 c2 c0 c1
    by_cases hcc : c2 = c
    · rw [hcc] at h15 ⊢ hp
      rw [k5] at hp
      rw [hwa]
      rcases hw with ⟨w1, w2⟩ | ⟨w1, w2, w3⟩
      · rw [if_pos w2] at hp; omega
      · rw [if_neg (by omega)] at hp
        have := hI.2.2.2.2.2.2.2.1 c hc.1 hc.2 hp
        omega
    · rw [(k3 c2 hcc).2] at hp
      rw [hwo c2 hcc]
      have := hI.2.2.2.2.2.2.2.1 c2 c0 c1 hp
      exact ⟨by omega, this.2⟩
/-- what the losing did to the class's cells -/
theorem lfe_6 : lf_e ν ρ c a (300 + c) 6 = ν (300 + c) 6 ∨ 700 ≤ c := by
  by_cases h : 700 ≤ c
  · exact Or.inr h
  · refine Or.inl ?_
    unfold lf_e
    split
    · rw [mm_u_ne (by omega), mm_u_ne (by omega), lf_ne (by omega) (by omega)]
    · rw [mm_u_ne (by omega), lf_ne (by omega) (by omega)]
theorem lfe_8 (hc : 0 ≤ c ∧ c < 40) : lf_e ν ρ c a (300 + c) 8 = a := by
  unfold lf_e
  split
  · next h => rw [mm_u_ne (by omega), mm_u_at, h]
  · exact mm_u_at
theorem lfe_9 (hc : 0 ≤ c ∧ c < 40) : lf_e ν ρ c a (300 + c) 9 = if a = 0 then 0 else ν (300 + c) 9 := by
  unfold lf_e
  split
  · exact mm_u_at
  · rw [mm_u_ne (by omega), lf_ne (by omega) (by omega)]
theorem lfe_q (hc : 0 ≤ c ∧ c < 40) (ha : 1 ≤ a) : lf_e ν ρ c a (380 + c) 0 = ν (380 + c) 0 := by
  unfold lf_e
  rw [if_neg (by omega), mm_u_ne (by omega), lf_ne (by omega) (by omega)]
theorem lfe_t (hc : 0 ≤ c ∧ c < 40) (t0 : 0 ≤ t) (t1 : t < ρ 0 24) : lf_e ν ρ c a (1000 + t) 2 = if mo_pd ρ c t = 1 ∧ a ≤ rk_t ρ c t then 2199023255552 else ν (1000 + t) 2 := by
  have e : lf_e ν ρ c a (1000 + t) 2 = lf_m ν ρ c a (mo_wt ρ c) (1000 + t) 2 := by
    unfold lf_e
    split
    · next h => rw [mm_u_ne (by omega), mm_u_ne (by omega), h]
    · rw [mm_u_ne (by omega)]
  rw [e, lf_t hc t0]
  by_cases h : mo_pd ρ c t = 1 ∧ a ≤ rk_t ρ c t
  · rw [if_pos h, if_pos ⟨t1, h.1, h.2, rk_wt t0 t1 h.1⟩]
  · rw [if_neg h, if_neg (fun h2 => h ⟨h2.2.1, h2.2.2.1⟩)]
theorem lfe_ne {p : Int} (h24 : ρ 0 24 ≤ 512) (h1 : ¬ (p = 300 + c ∧ (i = 8 ∨ i = 9))) (h2 : p ≠ 380 + c) (h3 : ¬ (1000 ≤ p ∧ p < 1512 ∧ i = 2)) : lf_e ν ρ c a p i = ν p i := by
  have e : ∀ a x, lf_m ν ρ c a x p i = ν p i := fun a x => by
    unfold lf_m
    rw [if_neg (fun h => h2 h.1), if_neg (fun h => h3 ⟨h.2.1, by omega, h.1⟩)]
  unfold lf_e
  split
  · rw [mm_u_ne (by omega), mm_u_ne (by omega), e]
  · rw [mm_u_ne (by omega), e]
end RLS
