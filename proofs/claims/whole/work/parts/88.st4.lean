/-! Stretches: add -/
/-- stretches in their order, apart from each other; g their marks -/
def st_I (ν : mm_T) (p q r : Int) (g : Int → Int) : Prop := (0 ≤ ν p 2 ∧ ν p 2 ≤ 12) ∧ (∀ i, 0 ≤ i → i < ν p 2 → 0 ≤ ν q i ∧ ν q i < ν r i ∧ ν r i ≤ 4096) ∧ (∀ i j, 0 ≤ i → i < j → j < ν p 2 → ν r i ≤ ν q j) ∧ (∀ a, g a = 0 ∨ g a = 1) ∧ (∀ a, g a = 1 ↔ ∃ i, 0 ≤ i ∧ i < ν p 2 ∧ ν q i ≤ a ∧ a < ν r i)
/-- memory while the stretches from i on are shifted -/
def sa_m (ν : mm_T) (q r n i : Int) : mm_T := fun o k => if (o = q ∨ o = r) ∧ i < k ∧ k ≤ n then ν o (k - 1) else ν o k
section ST4
variable {E : mv_E} {s ν : mm_T} {d : Nat} {a b c e i k n o p q r t x y z : Int} {g : Int → Int} {Q : nm_O → mm_T → mm_T → Prop}
theorem st_I_B (h : st_I ν p q r g) : st_B ν p q r := ⟨h.1, fun i h1 h2 => by have := h.2.1 i h1 h2; omega⟩
theorem sa_lo (h : k ≤ i) : sa_m ν q r n i o k = ν o k := by unfold sa_m; rw [if_neg (by omega)]
theorem sa_ne (h1 : o ≠ q) (h2 : o ≠ r) : sa_m ν q r n i o k = ν o k := by unfold sa_m; rw [if_neg (fun h => by rcases h.1 with h | h; exact h1 h; exact h2 h)]
theorem sa_0 : sa_m ν q r n n = ν := by funext o k; unfold sa_m; rw [if_neg (by omega)]
theorem sa_st (h0 : 0 < i) (hi : i ≤ n) (hqr : q ≠ r) : mm_u (mm_u (sa_m ν q r n i) q i (ν q (i - 1))) r i (ν r (i - 1)) = sa_m ν q r n (i - 1) := by
  funext o k
  by_cases h1 : o = r ∧ k = i
  · obtain ⟨rfl, rfl⟩ := h1
    rw [mm_u_at]
    unfold sa_m
    rw [if_pos ⟨Or.inr rfl, by omega, by omega⟩]
  · rw [mm_u_ne h1]
    by_cases h2 : o = q ∧ k = i
    · obtain ⟨rfl, rfl⟩ := h2
      rw [mm_u_at]
      unfold sa_m
      rw [if_pos ⟨Or.inl rfl, by omega, by omega⟩]
    · rw [mm_u_ne h2]
      unfold sa_m
      by_cases h3 : (o = q ∨ o = r) ∧ i < k ∧ k ≤ n
      · rw [if_pos h3, if_pos ⟨h3.1, by omega, by omega⟩]
      · rw [if_neg h3, if_neg (fun h4 => by
          rcases h4.1 with h5 | h5
          · exact h3 ⟨Or.inl h5, by have : k ≠ i := fun h6 => h2 ⟨h5, h6⟩; omega, h4.2.2⟩
          · exact h3 ⟨Or.inr h5, by have : k ≠ i := fun h6 => h1 ⟨h5, h6⟩; omega, h4.2.2⟩)]
def sa_e (ν : mm_T) (p q r n i x e : Int) : mm_T := mm_u (mm_u (mm_u (sa_m ν q r n i) q i x) r i e) p 2 (n + 1)
def sa_P (ν : mm_T) (p q r n x e : Int) (v : Option mg_V) (ν' : mm_T) : Prop := v = none ∧ ∃ i, 0 ≤ i ∧ i ≤ n ∧ (∀ j, 0 ≤ j → j < i → ν q j ≤ x) ∧ (∀ j, i ≤ j → j < n → x < ν q j) ∧ ν' = sa_e ν p q r n i x e
theorem st_ad_l (hs : st_sh s p q r) (hd : p ≠ q ∧ p ≠ r ∧ q ≠ r) (hn : ν p 2 = n) (hB : ∀ i, 0 ≤ i → i < n → 0 ≤ ν q i ∧ ν q i ≤ 4096) (hq : ∀ i j, 0 ≤ i → i < j → j < n → ν q i ≤ ν q j) (hn2 : 0 ≤ n ∧ n < 12) (hx : 0 ≤ x ∧ x ≤ 4096) : ∀ (m : Nat) (i : Int), i = m → i ≤ n → (∀ j, i ≤ j → j < n → x < ν q j) → sw_w E d 36 (15, [some (2, p), some (0, x), some (0, e), some (0, i)], []) s (sa_m ν q r n i) (sw_vr (sa_P ν p q r n x e) s) := by
  have hp0 := hs.1.1
  have hq0 := hs.2.1.2.1
  have hr0 := hs.2.2.2.1
  intro m
  induction m with
  | zero =>
    intro i hi hin hj
    refine sw_p 1 (f' := (16, [some (2, p), some (0, x), some (0, e), some (0, i)], [(0, i)])) rfl ?_
    refine sw_le1 (pt := 65) (pn := 19) rfl rfl rfl (by omega) (fun m1 => ?_) (fun h => absurd h (by omega))
    refine sw_p 1 (f' := (66, [some (2, p), some (0, x), some (0, e), some (0, i)], [(2, p)])) rfl ?_
    refine sw_hA (pn := 69) (i := 0) (v := q) rfl rfl rfl rfl rfl hs.1.2 hs.2.1.1 (by omega) ?_
    refine sw_p 2 (f' := (71, [some (2, p), some (0, x), some (0, e), some (0, i)], [(0, x), (0, i), (2, q)])) rfl ?_
    refine sw_ias (pn := 72) (l := 12) rfl rfl (by omega) hs.2.1.2.2.1 hs.2.1.2.2.2 (by omega) (by omega) ?_
    refine sw_p 1 (f' := (73, [some (2, p), some (0, x), some (0, e), some (0, i)], [(2, p)])) rfl ?_
    refine sw_hA (pn := 76) (i := 1) (v := r) rfl rfl rfl rfl rfl hs.1.2 hs.2.2.1 (by omega) ?_
    refine sw_p 2 (f' := (78, [some (2, p), some (0, x), some (0, e), some (0, i)], [(0, e), (0, i), (2, r)])) rfl ?_
    refine sw_ias (pn := 79) (l := 12) rfl rfl (by omega) hs.2.2.2.2.1 hs.2.2.2.2.2 (by omega) (by omega) ?_
    refine sw_p 2 (f' := (81, [some (2, p), some (0, x), some (0, e), some (0, i)], [(2, p), (2, p)])) rfl ?_
    refine sw_gI (pn := 84) (i := 2) rfl rfl rfl rfl rfl (by omega) hs.1.2 ?_
    rw [show (mm_u (mm_u (sa_m ν q r n i) q i x) r i e) p 2 = n from ((mm_u_ne (by omega)).trans ((mm_u_ne (by omega)).trans (sa_ne (by omega) (by omega)))).trans hn]
    refine sw_p 2 (f' := (86, [some (2, p), some (0, x), some (0, e), some (0, i)], [(0, n + 1), (2, p)])) rfl ?_
    refine sw_pI (pn := 89) (i := 2) rfl rfl rfl rfl rfl (by omega) hs.1.2 ?_
    exact sw_retV rfl rfl rfl ⟨_, rfl, rfl, rfl, i, by omega, by omega, fun j h1 h2 => by omega, hj, rfl⟩
  | succ m ih =>
    intro i hi hin hj
    have hb1 := hB (i - 1) (by omega) (by omega)
    refine sw_p 1 (f' := (16, [some (2, p), some (0, x), some (0, e), some (0, i)], [(0, i)])) rfl ?_
    refine sw_le1 (pt := 65) (pn := 19) rfl rfl rfl (by omega) (fun h => absurd h (by omega)) (fun m1 => ?_)
    refine sw_p 1 (f' := (20, [some (2, p), some (0, x), some (0, e), some (0, i)], [(2, p)])) rfl ?_
    refine sw_hA (pn := 23) (i := 0) (v := q) rfl rfl rfl rfl rfl hs.1.2 hs.2.1.1 (by omega) ?_
    refine sw_p 3 (f' := (26, [some (2, p), some (0, x), some (0, e), some (0, i)], [(0, i - 1), (2, q)])) rfl ?_
    refine sw_ial (pn := 27) (l := 12) rfl rfl (by omega) hs.2.1.2.2.1 hs.2.1.2.2.2 (by omega) (by omega) ?_
    rw [show (sa_m ν q r n i) q (i - 1) = ν q (i - 1) from sa_lo (by omega)]
    refine sw_p 1 (f' := (28, [some (2, p), some (0, x), some (0, e), some (0, i)], [(0, x), (0, ν q (i - 1))])) rfl ?_
    refine sw_le2 (pt := 65) (pn := 31) rfl rfl rfl (by omega) (by omega) (fun m2 => ?_) (fun m2 => ?_)
    · skip
      refine sw_p 1 (f' := (66, [some (2, p), some (0, x), some (0, e), some (0, i)], [(2, p)])) rfl ?_
      refine sw_hA (pn := 69) (i := 0) (v := q) rfl rfl rfl rfl rfl hs.1.2 hs.2.1.1 (by omega) ?_
      refine sw_p 2 (f' := (71, [some (2, p), some (0, x), some (0, e), some (0, i)], [(0, x), (0, i), (2, q)])) rfl ?_
      refine sw_ias (pn := 72) (l := 12) rfl rfl (by omega) hs.2.1.2.2.1 hs.2.1.2.2.2 (by omega) (by omega) ?_
      refine sw_p 1 (f' := (73, [some (2, p), some (0, x), some (0, e), some (0, i)], [(2, p)])) rfl ?_
      refine sw_hA (pn := 76) (i := 1) (v := r) rfl rfl rfl rfl rfl hs.1.2 hs.2.2.1 (by omega) ?_
      refine sw_p 2 (f' := (78, [some (2, p), some (0, x), some (0, e), some (0, i)], [(0, e), (0, i), (2, r)])) rfl ?_
      refine sw_ias (pn := 79) (l := 12) rfl rfl (by omega) hs.2.2.2.2.1 hs.2.2.2.2.2 (by omega) (by omega) ?_
      refine sw_p 2 (f' := (81, [some (2, p), some (0, x), some (0, e), some (0, i)], [(2, p), (2, p)])) rfl ?_
      refine sw_gI (pn := 84) (i := 2) rfl rfl rfl rfl rfl (by omega) hs.1.2 ?_
      rw [show (mm_u (mm_u (sa_m ν q r n i) q i x) r i e) p 2 = n from ((mm_u_ne (by omega)).trans ((mm_u_ne (by omega)).trans (sa_ne (by omega) (by omega)))).trans hn]
      refine sw_p 2 (f' := (86, [some (2, p), some (0, x), some (0, e), some (0, i)], [(0, n + 1), (2, p)])) rfl ?_
      refine sw_pI (pn := 89) (i := 2) rfl rfl rfl rfl rfl (by omega) hs.1.2 ?_
      exact sw_retV rfl rfl rfl ⟨_, rfl, rfl, rfl, i, by omega, by omega, fun j h1 h2 => by by_cases hji : j = i - 1; rw [hji]; omega; have := hq j (i - 1) h1 (by omega) (by omega); omega, hj, rfl⟩
    · skip
      refine sw_p 1 (f' := (32, [some (2, p), some (0, x), some (0, e), some (0, i)], [(2, p)])) rfl ?_
      refine sw_hA (pn := 35) (i := 0) (v := q) rfl rfl rfl rfl rfl hs.1.2 hs.2.1.1 (by omega) ?_
      refine sw_p 2 (f' := (37, [some (2, p), some (0, x), some (0, e), some (0, i)], [(2, p), (0, i), (2, q)])) rfl ?_
      refine sw_hA (pn := 40) (i := 0) (v := q) rfl rfl rfl rfl rfl hs.1.2 hs.2.1.1 (by omega) ?_
      refine sw_p 3 (f' := (43, [some (2, p), some (0, x), some (0, e), some (0, i)], [(0, i - 1), (2, q), (0, i), (2, q)])) rfl ?_
      refine sw_ial (pn := 44) (l := 12) rfl rfl (by omega) hs.2.1.2.2.1 hs.2.1.2.2.2 (by omega) (by omega) ?_
      rw [show (sa_m ν q r n i) q (i - 1) = ν q (i - 1) from sa_lo (by omega)]
      refine sw_ias (pn := 45) (l := 12) rfl rfl (by omega) hs.2.1.2.2.1 hs.2.1.2.2.2 (by omega) (by omega) ?_
      refine sw_p 1 (f' := (46, [some (2, p), some (0, x), some (0, e), some (0, i)], [(2, p)])) rfl ?_
      refine sw_hA (pn := 49) (i := 1) (v := r) rfl rfl rfl rfl rfl hs.1.2 hs.2.2.1 (by omega) ?_
      refine sw_p 2 (f' := (51, [some (2, p), some (0, x), some (0, e), some (0, i)], [(2, p), (0, i), (2, r)])) rfl ?_
      refine sw_hA (pn := 54) (i := 1) (v := r) rfl rfl rfl rfl rfl hs.1.2 hs.2.2.1 (by omega) ?_
      refine sw_p 3 (f' := (57, [some (2, p), some (0, x), some (0, e), some (0, i)], [(0, i - 1), (2, r), (0, i), (2, r)])) rfl ?_
      refine sw_ial (pn := 58) (l := 12) rfl rfl (by omega) hs.2.2.2.2.1 hs.2.2.2.2.2 (by omega) (by omega) ?_
      rw [show (mm_u (sa_m ν q r n i) q i (ν q (i - 1))) r (i - 1) = ν r (i - 1) from (mm_u_ne (by omega)).trans (sa_lo (by omega))]
      refine sw_ias (pn := 59) (l := 12) rfl rfl (by omega) hs.2.2.2.2.1 hs.2.2.2.2.2 (by omega) (by omega) ?_
      refine sw_p 2 (f' := (15, [some (2, p), some (0, x), some (0, e), some (0, i + (-1))], [])) rfl ?_
      rw [sa_st (by omega) hin (by omega)]
      exact ih (i + -1) (by omega) (by omega) (fun j h1 h2 => by by_cases hji : j = i - 1; rw [hji]; omega; exact hj j (by omega) h2)
theorem st_ad (hs : st_sh s p q r) (hd : p ≠ q ∧ p ≠ r ∧ q ≠ r) (hn : ν p 2 = n) (hB : ∀ i, 0 ≤ i → i < n → 0 ≤ ν q i ∧ ν q i ≤ 4096) (hq : ∀ i j, 0 ≤ i → i < j → j < n → ν q i ≤ ν q j) (hn2 : 0 ≤ n ∧ n < 12) (hx : 0 ≤ x ∧ x ≤ 4096) : sw_w E d 36 (0, [some (2, p), some (0, x), some (0, e), none], []) s ν (sw_vr (sa_P ν p q r n x e) s) := by
  have hp0 := hs.1.1
  have hq0 := hs.2.1.2.1
  have hr0 := hs.2.2.2.1
  refine sw_p 1 (f' := (1, [some (2, p), some (0, x), some (0, e), none], [(2, p)])) rfl ?_
  refine sw_gI (pn := 4) (i := 2) rfl rfl rfl rfl rfl (by omega) hs.1.2 ?_
  rw [show ν p 2 = n from hn]
  refine sw_p 1 (f' := (6, [some (2, p), some (0, x), some (0, e), none], [(0, 12), (0, n)])) rfl ?_
  refine sw_ne2 (pt := 10) (pn := 9) rfl rfl rfl (by omega) (by omega) (fun m1 => ?_) (fun h => absurd h (by omega))
  refine sw_p 1 (f' := (11, [some (2, p), some (0, x), some (0, e), none], [(2, p)])) rfl ?_
  refine sw_gI (pn := 14) (i := 2) rfl rfl rfl rfl rfl (by omega) hs.1.2 ?_
  rw [show ν p 2 = n from hn]
  refine sw_p 1 (f' := (15, [some (2, p), some (0, x), some (0, e), some (0, n)], [])) rfl ?_
  have h := st_ad_l (E := E) (d := d) (e := e) hs hd hn hB hq hn2 hx n.toNat n (by omega) (by omega) (fun j h1 h2 => by omega)
  rw [sa_0] at h
  exact h
theorem sa_e_q (hd : p ≠ q ∧ p ≠ r ∧ q ≠ r) (hi : 0 ≤ i ∧ i ≤ n) {j : Int} (h0 : 0 ≤ j ∧ j ≤ n) : sa_e ν p q r n i x e q j = if j < i then ν q j else if j = i then x else ν q (j - 1) := by
  unfold sa_e
  rw [mm_u_ne (by omega), mm_u_ne (by omega)]
  by_cases h1 : j = i
  · rw [h1, mm_u_at, if_neg (by omega), if_pos rfl]
  · rw [mm_u_ne (by omega)]
    by_cases h2 : j < i
    · rw [if_pos h2, sa_lo (by omega)]
    · rw [if_neg h2, if_neg h1]
      unfold sa_m
      rw [if_pos ⟨Or.inl rfl, by omega, by omega⟩]
theorem sa_e_r (hd : p ≠ q ∧ p ≠ r ∧ q ≠ r) (hi : 0 ≤ i ∧ i ≤ n) {j : Int} (h0 : 0 ≤ j ∧ j ≤ n) : sa_e ν p q r n i x e r j = if j < i then ν r j else if j = i then e else ν r (j - 1) := by
  unfold sa_e
  rw [mm_u_ne (by omega)]
  by_cases h1 : j = i
  · rw [h1, mm_u_at, if_neg (by omega), if_pos rfl]
  · rw [mm_u_ne (by omega), mm_u_ne (by omega)]
    by_cases h2 : j < i
    · rw [if_pos h2, sa_lo (by omega)]
    · rw [if_neg h2, if_neg h1]
      unfold sa_m
      rw [if_pos ⟨Or.inr rfl, by omega, by omega⟩]
theorem sa_e_fr : fr_r [p, q, r] ν (sa_e ν p q r n i x e) := fun o ho => by
  have h1 : o ≠ p ∧ o ≠ q ∧ o ≠ r := by simpa using ho
  funext k
  unfold sa_e
  rw [mm_u_ne (fun h => h1.1 h.1), mm_u_ne (fun h => h1.2.2 h.1), mm_u_ne (fun h => h1.2.1 h.1), sa_ne h1.2.1 h1.2.2]
/-- the ends of add -/
def st_aP (ν : mm_T) (p q r x e : Int) (g : Int → Int) (v : Option mg_V) (ν' : mm_T) : Prop := v = none ∧ fr_r [p, q, r] ν ν' ∧ ν' p 2 = ν p 2 + 1 ∧ st_I ν' p q r (mo_mkr x e g)
theorem st_add (hs : st_sh s p q r) (hd : p ≠ q ∧ p ≠ r ∧ q ≠ r) (hI : st_I ν p q r g) (hn : ν p 2 < 12) (hx : 0 ≤ x ∧ x < e ∧ e ≤ 4096) (hf : ∀ a, x ≤ a → a < e → g a = 0) : sw_w E d 36 (0, [some (2, p), some (0, x), some (0, e), none], []) s ν (sw_vr (st_aP ν p q r x e g) s) := by
  obtain ⟨h1, h2, h3, h4, h5⟩ := hI
  refine sw_mono (st_ad hs hd rfl (fun i a b => by have := h2 i a b; omega) (fun i j a b c => by have := h3 i j a b c; have := h2 i a (by omega); omega) (by omega) (by omega)) ?_
  intro o s2 ν2 ⟨v, e1, e2, e3, i, i0, i1, i2, i3, e4⟩
  subst e4
  have hp : sa_e ν p q r (ν p 2) i x e p 2 = ν p 2 + 1 := mm_u_at
  have hlo : ∀ j, 0 ≤ j → j < i → ν r j ≤ x := fun j a b => by
    have g1 := i2 j a b
    have g2 := h2 j a (by omega)
    by_cases hc : ν r j ≤ x
    · exact hc
    · have g3 := (h5 x).mpr ⟨j, a, by omega, g1, by omega⟩
      have g4 := hf x (by omega) (by omega)
      omega
  have hhi : ∀ j, i ≤ j → j < ν p 2 → e ≤ ν q j := fun j a b => by
    have g1 := i3 j a b
    have g2 := h2 j (by omega) b
    by_cases hc : e ≤ ν q j
    · exact hc
    · have g3 := (h5 (ν q j)).mpr ⟨j, by omega, b, by omega, by omega⟩
      have g4 := hf (ν q j) (by omega) (by omega)
      omega
  refine ⟨v, e1, e2, e3, sa_e_fr, hp, ?_, ?_, ?_, ?_, ?_⟩
  · rw [hp]; omega
  · intro j a b
    rw [hp] at b
    rw [sa_e_q hd ⟨i0, i1⟩ ⟨a, by omega⟩, sa_e_r hd ⟨i0, i1⟩ ⟨a, by omega⟩]
    by_cases c1 : j < i
    · rw [if_pos c1, if_pos c1]; exact h2 j a (by omega)
    · rw [if_neg c1, if_neg c1]
      by_cases c2 : j = i
      · rw [if_pos c2, if_pos c2]; omega
      · rw [if_neg c2, if_neg c2]; exact h2 (j - 1) (by omega) (by omega)
  · intro j k a b c
    rw [hp] at c
    rw [sa_e_q hd ⟨i0, i1⟩ ⟨by omega, by omega⟩, sa_e_r hd ⟨i0, i1⟩ ⟨a, by omega⟩]
    by_cases c1 : j < i
    · rw [if_pos c1]
      by_cases d1 : k < i
      · rw [if_pos d1]; exact h3 j k a b (by omega)
      · rw [if_neg d1]
        by_cases d2 : k = i
        · rw [if_pos d2]; exact hlo j a c1
        · rw [if_neg d2]; exact h3 j (k - 1) a (by omega) (by omega)
    · rw [if_neg c1, if_neg (show ¬ k < i by omega)]
      by_cases c2 : j = i
      · rw [if_pos c2, if_neg (show ¬ k = i by omega)]; exact hhi (k - 1) (by omega) (by omega)
      · rw [if_neg c2, if_neg (show ¬ k = i by omega)]; exact h3 (j - 1) (k - 1) (by omega) (by omega) (by omega)
  · intro a
    unfold mo_mkr
    split
    · exact Or.inr rfl
    · exact h4 a
  · intro a
    rw [hp]
    constructor
    · intro ha
      unfold mo_mkr at ha
      by_cases c1 : x ≤ a ∧ a < e
      · refine ⟨i, i0, by omega, ?_⟩
        rw [sa_e_q hd ⟨i0, i1⟩ ⟨i0, i1⟩, sa_e_r hd ⟨i0, i1⟩ ⟨i0, i1⟩, if_neg (show ¬ i < i by omega), if_neg (show ¬ i < i by omega), if_pos rfl, if_pos rfl]
        exact c1
      · rw [if_neg c1] at ha
        obtain ⟨j, j0, j1, j2, j3⟩ := (h5 a).mp ha
        by_cases c2 : j < i
        · refine ⟨j, j0, by omega, ?_⟩
          rw [sa_e_q hd ⟨i0, i1⟩ ⟨j0, by omega⟩, sa_e_r hd ⟨i0, i1⟩ ⟨j0, by omega⟩, if_pos c2, if_pos c2]
          exact ⟨j2, j3⟩
        · refine ⟨j + 1, by omega, by omega, ?_⟩
          rw [sa_e_q hd ⟨i0, i1⟩ ⟨by omega, by omega⟩, sa_e_r hd ⟨i0, i1⟩ ⟨by omega, by omega⟩, if_neg (show ¬ j + 1 < i by omega), if_neg (show ¬ j + 1 < i by omega), if_neg (show ¬ j + 1 = i by omega), if_neg (show ¬ j + 1 = i by omega), show j + 1 - 1 = j by omega]
          exact ⟨j2, j3⟩
    · intro ⟨j, j0, j1, j2, j3⟩
      unfold mo_mkr
      by_cases c1 : x ≤ a ∧ a < e
      · rw [if_pos c1]
      · rw [if_neg c1]
        rw [sa_e_q hd ⟨i0, i1⟩ ⟨j0, by omega⟩] at j2
        rw [sa_e_r hd ⟨i0, i1⟩ ⟨j0, by omega⟩] at j3
        by_cases c2 : j < i
        · rw [if_pos c2] at j2 j3
          exact (h5 a).mpr ⟨j, j0, by omega, j2, j3⟩
        · rw [if_neg c2] at j2 j3
          by_cases c3 : j = i
          · rw [if_pos c3] at j2 j3
            exact absurd ⟨j2, j3⟩ c1
          · rw [if_neg c3] at j2 j3
            exact (h5 a).mpr ⟨j - 1, by omega, by omega, j2, j3⟩
end ST4
