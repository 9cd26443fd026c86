/-! the reference: plan -/
/-- memory while all is planned: plans q, begins bg, ends en -/
def pn_m (ν : mm_T) (q bg en : Int → Int) : mm_T := fun p i => if p = 18 then q i else if p = 5 then bg i else if p = 6 then en i else ν p i
abbrev pn_S : Type := (Int → Int) × (Int → Int) × Int
def pn_k (ν : mm_T) (z c k : Int) (S : pn_S) : pn_S := if ν 9 (3 * ν 13 c + k) = z then (fun i => if i = 3 * c + k then S.2.2 else S.1 i, S.2.1, S.2.2 + z) else S
def pn_u (ν : mm_T) (z u : Int) (S : pn_S) : pn_S := if 100 ≤ u then pn_k ν z (u - 100) 2 (pn_k ν z (u - 100) 1 (pn_k ν z (u - 100) 0 S)) else if 0 ≤ u ∧ ν 7 u = z then (S.1, fun i => if i = u then S.2.2 else S.2.1 i, S.2.2 + z) else S
def pn_s (ν : mm_T) (z : Int) : Nat → Int → pn_S → pn_S
  | 0, _, S => S
  | n + 1, i, S => pn_s ν z n (i + 1) (pn_u ν z (ν 2 i) S)
def pn_z (ν : mm_T) (b : Int) : List Int → pn_S → pn_S
  | [], S => S
  | z :: r, S => pn_z ν b r (pn_s ν z 4 (4 * b) S)
def pn_l : List Int := [4096, 2048, 1024, 512, 256, 128, 64, 32, 16, 8, 4, 2, 1]
def pn_b1 (ν : mm_T) (b : Int) (bg : Int → Int) : Int → Int := fun i => if i = b then (if 0 < b ∧ ν 7 b = 0 then 0 else bg b) else bg i
def pn_e1 (ν : mm_T) (b : Int) (bg en : Int → Int) : Int → Int := fun i => if i = b then (if b = 0 then 4096 else if ν 7 b = 0 then 0 else bg b + ν 7 b) else en i
abbrev pn_T : Type := (Int → Int) × (Int → Int) × (Int → Int)
def pn_1 (ν : mm_T) (b : Int) (T : pn_T) : pn_T := ((pn_z ν b pn_l (T.1, pn_b1 ν b T.2.1, pn_b1 ν b T.2.1 b)).1, (pn_z ν b pn_l (T.1, pn_b1 ν b T.2.1, pn_b1 ν b T.2.1 b)).2.1, pn_e1 ν b (pn_b1 ν b T.2.1) T.2.2)
def pn_b (ν : mm_T) : Nat → Int → pn_T → pn_T
  | 0, _, T => T
  | n + 1, b, T => pn_b ν n (b + 1) (pn_1 ν b T)
def pn_f (ν : mm_T) (T : pn_T) : mm_T := pn_m ν T.1 T.2.1 T.2.2
def mo_pn (ν : mm_T) : mm_T := pn_f (mo_me (ν 0 1).toNat ν) (pn_b (mo_me (ν 0 1).toNat ν) (ν 0 1).toNat 0 (ν 18, ν 5, ν 6))
section PN
variable {E : mv_E} {s ν : mm_T} {d : Nat} {b c x y e k z p i t l m a u : Int} {f q bg en : Int → Int} {S : pn_S} {T : pn_T} {o2 o3 o4 o5 o6 : Option mg_V} {Q : nm_O → mm_T → mm_T → Prop}
theorem pn_ne (h1 : p ≠ 18) (h2 : p ≠ 5) (h3 : p ≠ 6) : pn_m ν q bg en p i = ν p i := by unfold pn_m; rw [if_neg h1, if_neg h2, if_neg h3]
theorem pn_18 : pn_m ν q bg en 18 i = q i := by unfold pn_m; rw [if_pos rfl]
theorem pn_5 : pn_m ν q bg en 5 i = bg i := by unfold pn_m; rw [if_neg (by omega), if_pos rfl]
theorem pn_6 : pn_m ν q bg en 6 i = en i := by unfold pn_m; rw [if_neg (by omega), if_neg (by omega), if_pos rfl]
theorem pn_u18 : mm_u (pn_m ν q bg en) 18 k z = pn_m ν (fun i => if i = k then z else q i) bg en := by
  funext p i
  unfold mm_u pn_m
  by_cases h1 : p = 18
  · by_cases h2 : i = k
    · rw [if_pos ⟨h1, h2⟩, if_pos h1]
      exact (if_pos h2).symm
    · rw [if_neg (fun h => h2 h.2), if_pos h1, if_pos h1]
      exact (if_neg h2).symm
  · rw [if_neg (fun h => h1 h.1), if_neg h1, if_neg h1]
theorem pn_u5 : mm_u (pn_m ν q bg en) 5 k z = pn_m ν q (fun i => if i = k then z else bg i) en := by
  funext p i
  unfold mm_u pn_m
  by_cases h1 : p = 5
  · subst h1
    rw [if_neg (show ¬ (5 : Int) = 18 by omega), if_neg (show ¬ (5 : Int) = 18 by omega)]
    by_cases h2 : i = k
    · rw [if_pos ⟨rfl, h2⟩, if_pos rfl]
      exact (if_pos h2).symm
    · rw [if_neg (fun h => h2 h.2), if_pos rfl, if_pos rfl]
      exact (if_neg h2).symm
  · rw [if_neg (fun h => h1 h.1), if_neg h1, if_neg h1]
theorem pn_u6 : mm_u (pn_m ν q bg en) 6 k z = pn_m ν q bg (fun i => if i = k then z else en i) := by
  funext p i
  unfold mm_u pn_m
  by_cases h1 : p = 6
  · subst h1
    rw [if_neg (show ¬ (6 : Int) = 18 by omega), if_neg (show ¬ (6 : Int) = 18 by omega), if_neg (show ¬ (6 : Int) = 5 by omega), if_neg (show ¬ (6 : Int) = 5 by omega)]
    by_cases h2 : i = k
    · rw [if_pos ⟨rfl, h2⟩, if_pos rfl]
      exact (if_pos h2).symm
    · rw [if_neg (fun h => h2 h.2), if_pos rfl, if_pos rfl]
      exact (if_neg h2).symm
  · rw [if_neg (fun h => h1 h.1), if_neg h1, if_neg h1]
theorem pn_0 : pn_m ν (ν 18) (ν 5) (ν 6) = ν := by
  funext p i
  unfold pn_m
  split
  · next h => rw [h]
  · split
    · next h => rw [h]
    · split
      · next h => rw [h]
      · rfl
theorem pn_wk (hs : mo_sh s) (hB : mo_B ν) (hc : 0 ≤ c ∧ c < 40) (hk : 0 ≤ k ∧ k < 3) (hz : 0 ≤ z ∧ z ≤ 4096) (kk : sw_w E (d + 1) 109 (127, [some (2, 0), some (0, b), some (0, (pn_k ν z c k S).2.2), some (0, z), some (0, i), some (0, c + 100), some (0, k + 1)], []) s (pn_m ν (pn_k ν z c k S).1 (pn_k ν z c k S).2.1 en) Q) : sw_w E (d + 1) 109 (127, [some (2, 0), some (0, b), some (0, S.2.2), some (0, z), some (0, i), some (0, c + 100), some (0, k)], []) s (pn_m ν S.1 S.2.1 en) Q := by
  have hcd := hB.cd c hc.1 hc.2
  have hsz := hB.2.2.2.2.2.2.2.2.2.2.2.1 (3 * ν 13 c + k) (by omega) (by omega)
  have ec : 3 * (c + 100 - 100) + k = 3 * c + k := by omega
  by_cases hq : ν 9 (3 * ν 13 c + k) = z
  · rw [show pn_k ν z c k S = (fun i => if i = 3 * c + k then S.2.2 else S.1 i, S.2.1, S.2.2 + z) from if_pos hq] at kk
    refine sw_p 2 (f' := (130, [some (2, 0), some (0, b), some (0, S.2.2), some (0, z), some (0, i), some (0, c + 100), some (0, k)], [(0, 3), (0, k)])) rfl ?_
    refine sw_ge2 (pt := 181) (pn := 133) rfl rfl rfl (by omega) (by omega) (fun h => absurd h (by omega)) (fun h1 => ?_)
    refine sw_p 2 (f' := (137, [some (2, 0), some (0, b), some (0, S.2.2), some (0, z), some (0, i), some (0, c + 100), some (0, k)], [(0, 100), (0, c + 100)])) rfl ?_
    refine sw_lt2 (pt := 181) (pn := 140) rfl rfl rfl (by omega) (by omega) (fun h => absurd h (by omega)) (fun h2 => ?_)
    refine sw_p 5 (f' := (148, [some (2, 0), some (0, b), some (0, S.2.2), some (0, z), some (0, i), some (0, c + 100), some (0, k)], [(0, k), (0, (c + 100) - 100), (2, 0)])) rfl ?_
    refine sw_cv1 (pn := 151) (q0 := mj_Mo_plan) (q := mj_Mo_sizeOf) (p := 0) (as2 := [(0, (c + 100) - 100), (0, k)]) (L2 := [some (2, 0), some (0, (c + 100) - 100), some (0, k)]) (rest := []) (v := some (0, ν 9 (3 * (ν 13 c) + k))) (s1 := s) (ν1 := (pn_m ν S.1 S.2.1 en)) rfl rfl rfl rfl rfl rfl rfl rfl rfl hs.1 (by rw [show c + 100 - 100 = c by omega]; have h := mo_sizeOf (E := E) (d := d) (s := s) (ν := (pn_m ν S.1 S.2.1 en)) (c := c) (k := k) hs (by omega) (by omega) (by rw [show (pn_m ν S.1 S.2.1 en) 13 c = ν 13 c from pn_ne (by omega) (by omega) (by omega)]; omega); rw [show (pn_m ν S.1 S.2.1 en) 13 c = ν 13 c from pn_ne (by omega) (by omega) (by omega), show (pn_m ν S.1 S.2.1 en) 9 (3 * (ν 13 c) + k) = ν 9 (3 * (ν 13 c) + k) from pn_ne (by omega) (by omega) (by omega)] at h; exact h) ?_
    show sw_w E _ 109 (151, [some (2, 0), some (0, b), some (0, S.2.2), some (0, z), some (0, i), some (0, c + 100), some (0, k)], [(0, ν 9 (3 * (ν 13 c) + k))]) s (pn_m ν S.1 S.2.1 en) _
    refine sw_p 1 (f' := (152, [some (2, 0), some (0, b), some (0, S.2.2), some (0, z), some (0, i), some (0, c + 100), some (0, k)], [(0, z), (0, ν 9 (3 * (ν 13 c) + k))])) rfl ?_
    refine sw_ne2 (pt := 175) (pn := 155) rfl rfl rfl (by omega) (by omega) (fun h => absurd h (by omega)) (fun h3 => ?_)
    refine sw_p 1 (f' := (156, [some (2, 0), some (0, b), some (0, S.2.2), some (0, z), some (0, i), some (0, c + 100), some (0, k)], [(2, 0)])) rfl ?_
    refine sw_hA (pn := 159) (i := 18) (v := 18) rfl rfl rfl rfl rfl hs.1 (mo_s18 hs).1 (by omega) ?_
    refine sw_p 8 (f' := (170, [some (2, 0), some (0, b), some (0, S.2.2), some (0, z), some (0, i), some (0, c + 100), some (0, k)], [(0, S.2.2), (0, (3 * ((c + 100) - 100)) + k), (2, 18)])) rfl ?_
    refine sw_ias (pn := 171) (l := 120) rfl rfl (by omega) (mo_s18 hs).2.1 (mo_s18 hs).2.2 (by omega) (by omega) ?_
    refine sw_p 6 (f' := (127, [some (2, 0), some (0, b), some (0, S.2.2 + z), some (0, z), some (0, i), some (0, c + 100), some (0, k + 1)], [])) rfl ?_
    rw [ec, pn_u18]
    exact kk
  · rw [show pn_k ν z c k S = S from if_neg hq] at kk
    refine sw_p 2 (f' := (130, [some (2, 0), some (0, b), some (0, S.2.2), some (0, z), some (0, i), some (0, c + 100), some (0, k)], [(0, 3), (0, k)])) rfl ?_
    refine sw_ge2 (pt := 181) (pn := 133) rfl rfl rfl (by omega) (by omega) (fun h => absurd h (by omega)) (fun h1 => ?_)
    refine sw_p 2 (f' := (137, [some (2, 0), some (0, b), some (0, S.2.2), some (0, z), some (0, i), some (0, c + 100), some (0, k)], [(0, 100), (0, c + 100)])) rfl ?_
    refine sw_lt2 (pt := 181) (pn := 140) rfl rfl rfl (by omega) (by omega) (fun h => absurd h (by omega)) (fun h2 => ?_)
    refine sw_p 5 (f' := (148, [some (2, 0), some (0, b), some (0, S.2.2), some (0, z), some (0, i), some (0, c + 100), some (0, k)], [(0, k), (0, (c + 100) - 100), (2, 0)])) rfl ?_
    refine sw_cv1 (pn := 151) (q0 := mj_Mo_plan) (q := mj_Mo_sizeOf) (p := 0) (as2 := [(0, (c + 100) - 100), (0, k)]) (L2 := [some (2, 0), some (0, (c + 100) - 100), some (0, k)]) (rest := []) (v := some (0, ν 9 (3 * (ν 13 c) + k))) (s1 := s) (ν1 := (pn_m ν S.1 S.2.1 en)) rfl rfl rfl rfl rfl rfl rfl rfl rfl hs.1 (by rw [show c + 100 - 100 = c by omega]; have h := mo_sizeOf (E := E) (d := d) (s := s) (ν := (pn_m ν S.1 S.2.1 en)) (c := c) (k := k) hs (by omega) (by omega) (by rw [show (pn_m ν S.1 S.2.1 en) 13 c = ν 13 c from pn_ne (by omega) (by omega) (by omega)]; omega); rw [show (pn_m ν S.1 S.2.1 en) 13 c = ν 13 c from pn_ne (by omega) (by omega) (by omega), show (pn_m ν S.1 S.2.1 en) 9 (3 * (ν 13 c) + k) = ν 9 (3 * (ν 13 c) + k) from pn_ne (by omega) (by omega) (by omega)] at h; exact h) ?_
    show sw_w E _ 109 (151, [some (2, 0), some (0, b), some (0, S.2.2), some (0, z), some (0, i), some (0, c + 100), some (0, k)], [(0, ν 9 (3 * (ν 13 c) + k))]) s (pn_m ν S.1 S.2.1 en) _
    refine sw_p 1 (f' := (152, [some (2, 0), some (0, b), some (0, S.2.2), some (0, z), some (0, i), some (0, c + 100), some (0, k)], [(0, z), (0, ν 9 (3 * (ν 13 c) + k))])) rfl ?_
    refine sw_ne2 (pt := 175) (pn := 155) rfl rfl rfl (by omega) (by omega) (fun h3 => ?_) (fun h => absurd h (by omega))
    refine sw_p 2 (f' := (127, [some (2, 0), some (0, b), some (0, S.2.2), some (0, z), some (0, i), some (0, c + 100), some (0, k + 1)], [])) rfl ?_
    exact kk
theorem pn_ws (hs : mo_sh s) (hB : mo_B ν) (hC : mo_C ν) (hT : tr_I ν f) (hm : ∀ u, 0 ≤ u → u < ν 0 1 → 0 ≤ ν 7 u ∧ ν 7 u ≤ 4194304) (hb : 0 ≤ b ∧ b < 8) (hz : 0 ≤ z ∧ z ≤ 4096) : ∀ (n : Nat) (i : Int) (S : pn_S) (o5 o6 : Option mg_V), 4 * b ≤ i → i + n = 4 * b + 4 → (∀ (o4 o5 o6 : Option mg_V), sw_w E (d + 1) 109 (96, [some (2, 0), some (0, b), some (0, (pn_s ν z n i S).2.2), some (0, z / 2), o4, o5, o6], []) s (pn_m ν (pn_s ν z n i S).1 (pn_s ν z n i S).2.1 en) Q) → sw_w E (d + 1) 109 (105, [some (2, 0), some (0, b), some (0, S.2.2), some (0, z), some (0, i), o5, o6], []) s (pn_m ν S.1 S.2.1 en) Q := by
  intro n
  induction n with
  | zero =>
    intro i S o5 o6 hi hn kk
    refine sw_p 6 (f' := (112, [some (2, 0), some (0, b), some (0, S.2.2), some (0, z), some (0, i), o5, o6], [(0, (4 * b) + 4), (0, i)])) rfl ?_
    refine sw_ge2 (pt := 222) (pn := 115) rfl rfl rfl (by omega) (by omega) (fun h1 => ?_) (fun h => absurd h (by omega))
    refine sw_p 2 (f' := (224, [some (2, 0), some (0, b), some (0, S.2.2), some (0, z), some (0, i), o5, o6], [(0, 2), (0, z)])) rfl ?_
    refine sw_idiv (pn := 225) rfl rfl (by omega) (by omega) ?_
    refine sw_p 2 (f' := (96, [some (2, 0), some (0, b), some (0, S.2.2), some (0, z / 2), some (0, i), o5, o6], [])) rfl ?_
    exact kk _ _ _
  | succ n ih =>
    intro i S o5 o6 hi hn kk
    have h8 := hB.1
    have hsl := hB.2.2.2.2.2.2.2.1 i (by omega) (by omega)
    have hsc := hC.1 i (by omega) (by omega)
    have htr := hT.2.2 i (by omega) (by omega)
    have hbk := hm (ν 2 i)
    by_cases hu : 100 ≤ ν 2 i
    · skip
      refine sw_p 6 (f' := (112, [some (2, 0), some (0, b), some (0, S.2.2), some (0, z), some (0, i), o5, o6], [(0, (4 * b) + 4), (0, i)])) rfl ?_
      refine sw_ge2 (pt := 222) (pn := 115) rfl rfl rfl (by omega) (by omega) (fun h => absurd h (by omega)) (fun h1 => ?_)
      refine sw_p 1 (f' := (116, [some (2, 0), some (0, b), some (0, S.2.2), some (0, z), some (0, i), o5, o6], [(2, 0)])) rfl ?_
      refine sw_hA (pn := 119) (i := 2) (v := 2) rfl rfl rfl rfl rfl hs.1 (mo_s2 hs).1 (by omega) ?_
      refine sw_p 1 (f' := (121, [some (2, 0), some (0, b), some (0, S.2.2), some (0, z), some (0, i), o5, o6], [(0, i), (2, 2)])) rfl ?_
      refine sw_ial (pn := 122) (l := 32) rfl rfl (by omega) (mo_s2 hs).2.1 (mo_s2 hs).2.2 (by omega) (by omega) ?_
      rw [show (pn_m ν S.1 S.2.1 en) 2 i = ν 2 i from pn_ne (by omega) (by omega) (by omega)]
      refine sw_p 3 (f' := (127, [some (2, 0), some (0, b), some (0, S.2.2), some (0, z), some (0, i), some (0, ν 2 i), some (0, 0)], [])) rfl ?_
      obtain ⟨c, hcu⟩ : ∃ c, ν 2 i = c + 100 := ⟨ν 2 i - 100, by omega⟩
      rw [show pn_s ν z (n + 1) i S = pn_s ν z n (i + 1) (pn_k ν z c 2 (pn_k ν z c 1 (pn_k ν z c 0 S))) by rw [pn_s, hcu, show pn_u ν z (c + 100) S = pn_k ν z (c + 100 - 100) 2 (pn_k ν z (c + 100 - 100) 1 (pn_k ν z (c + 100 - 100) 0 S)) from if_pos (by omega), show c + 100 - 100 = c by omega]] at kk
      rw [hcu]
      refine pn_wk hs hB (c := c) (k := 0) (by omega) (by omega) hz ?_
      refine pn_wk hs hB (c := c) (k := 0 + 1) (by omega) (by omega) hz ?_
      refine pn_wk hs hB (c := c) (k := 0 + 1 + 1) (by omega) (by omega) hz ?_
      show sw_w E (d + 1) 109 (127, [some (2, 0), some (0, b), some (0, (pn_k ν z c 2 (pn_k ν z c 1 (pn_k ν z c 0 S))).2.2), some (0, z), some (0, i), some (0, c + 100), some (0, 3)], []) s (pn_m ν (pn_k ν z c 2 (pn_k ν z c 1 (pn_k ν z c 0 S))).1 (pn_k ν z c 2 (pn_k ν z c 1 (pn_k ν z c 0 S))).2.1 en) _
      refine sw_p 2 (f' := (130, [some (2, 0), some (0, b), some (0, (pn_k ν z c 2 (pn_k ν z c 1 (pn_k ν z c 0 S))).2.2), some (0, z), some (0, i), some (0, c + 100), some (0, 3)], [(0, 3), (0, 3)])) rfl ?_
      refine sw_ge2 (pt := 181) (pn := 133) rfl rfl rfl (by omega) (by omega) (fun _ => ?_) (fun h => absurd h (by decide))
      refine sw_p 1 (f' := (183, [some (2, 0), some (0, b), some (0, (pn_k ν z c 2 (pn_k ν z c 1 (pn_k ν z c 0 S))).2.2), some (0, z), some (0, i), some (0, c + 100), some (0, 3)], [(0, c + 100)])) rfl ?_
      refine sw_lt1 (pt := 216) (pn := 186) rfl rfl rfl (by omega) (fun h => absurd h (by omega)) (fun m2 => ?_)
      refine sw_p 2 (f' := (190, [some (2, 0), some (0, b), some (0, (pn_k ν z c 2 (pn_k ν z c 1 (pn_k ν z c 0 S))).2.2), some (0, z), some (0, i), some (0, c + 100), some (0, 3)], [(0, 100), (0, c + 100)])) rfl ?_
      refine sw_ge2 (pt := 216) (pn := 193) rfl rfl rfl (by omega) (by omega) (fun m3 => ?_) (fun h => absurd h (by omega))
      refine sw_p 2 (f' := (105, [some (2, 0), some (0, b), some (0, (pn_k ν z c 2 (pn_k ν z c 1 (pn_k ν z c 0 S))).2.2), some (0, z), some (0, i + 1), some (0, c + 100), some (0, 3)], [])) rfl ?_
      exact ih (i + 1) _ _ _ (by omega) (by omega) kk
    · by_cases hu2 : 0 ≤ ν 2 i ∧ ν 7 (ν 2 i) = z
      · rw [show pn_s ν z (n + 1) i S = pn_s ν z n (i + 1) (S.1, fun k => if k = ν 2 i then S.2.2 else S.2.1 k, S.2.2 + z) by rw [pn_s, show pn_u ν z (ν 2 i) S = (S.1, fun k => if k = ν 2 i then S.2.2 else S.2.1 k, S.2.2 + z) from (if_neg hu).trans (if_pos hu2)]] at kk
        refine sw_p 6 (f' := (112, [some (2, 0), some (0, b), some (0, S.2.2), some (0, z), some (0, i), o5, o6], [(0, (4 * b) + 4), (0, i)])) rfl ?_
        refine sw_ge2 (pt := 222) (pn := 115) rfl rfl rfl (by omega) (by omega) (fun h => absurd h (by omega)) (fun h1 => ?_)
        refine sw_p 1 (f' := (116, [some (2, 0), some (0, b), some (0, S.2.2), some (0, z), some (0, i), o5, o6], [(2, 0)])) rfl ?_
        refine sw_hA (pn := 119) (i := 2) (v := 2) rfl rfl rfl rfl rfl hs.1 (mo_s2 hs).1 (by omega) ?_
        refine sw_p 1 (f' := (121, [some (2, 0), some (0, b), some (0, S.2.2), some (0, z), some (0, i), o5, o6], [(0, i), (2, 2)])) rfl ?_
        refine sw_ial (pn := 122) (l := 32) rfl rfl (by omega) (mo_s2 hs).2.1 (mo_s2 hs).2.2 (by omega) (by omega) ?_
        rw [show (pn_m ν S.1 S.2.1 en) 2 i = ν 2 i from pn_ne (by omega) (by omega) (by omega)]
        refine sw_p 5 (f' := (130, [some (2, 0), some (0, b), some (0, S.2.2), some (0, z), some (0, i), some (0, ν 2 i), some (0, 0)], [(0, 3), (0, 0)])) rfl ?_
        refine sw_ge2 (pt := 181) (pn := 133) rfl rfl rfl (by omega) (by omega) (fun h => absurd h (by decide)) (fun _ => ?_)
        refine sw_p 2 (f' := (137, [some (2, 0), some (0, b), some (0, S.2.2), some (0, z), some (0, i), some (0, ν 2 i), some (0, 0)], [(0, 100), (0, ν 2 i)])) rfl ?_
        refine sw_lt2 (pt := 181) (pn := 140) rfl rfl rfl (by omega) (by omega) (fun h3 => ?_) (fun h => absurd h (by omega))
        refine sw_p 1 (f' := (183, [some (2, 0), some (0, b), some (0, S.2.2), some (0, z), some (0, i), some (0, ν 2 i), some (0, 0)], [(0, ν 2 i)])) rfl ?_
        refine sw_lt1 (pt := 216) (pn := 186) rfl rfl rfl (by omega) (fun h => absurd h (by omega)) (fun h4 => ?_)
        refine sw_p 2 (f' := (190, [some (2, 0), some (0, b), some (0, S.2.2), some (0, z), some (0, i), some (0, ν 2 i), some (0, 0)], [(0, 100), (0, ν 2 i)])) rfl ?_
        refine sw_ge2 (pt := 216) (pn := 193) rfl rfl rfl (by omega) (by omega) (fun h => absurd h (by omega)) (fun h5 => ?_)
        refine sw_p 1 (f' := (194, [some (2, 0), some (0, b), some (0, S.2.2), some (0, z), some (0, i), some (0, ν 2 i), some (0, 0)], [(2, 0)])) rfl ?_
        refine sw_hA (pn := 197) (i := 7) (v := 7) rfl rfl rfl rfl rfl hs.1 (mo_s7 hs).1 (by omega) ?_
        refine sw_p 1 (f' := (199, [some (2, 0), some (0, b), some (0, S.2.2), some (0, z), some (0, i), some (0, ν 2 i), some (0, 0)], [(0, ν 2 i), (2, 7)])) rfl ?_
        refine sw_ial (pn := 200) (l := 8) rfl rfl (by omega) (mo_s7 hs).2.1 (mo_s7 hs).2.2 (by omega) (by omega) ?_
        rw [show (pn_m ν S.1 S.2.1 en) 7 (ν 2 i) = ν 7 (ν 2 i) from pn_ne (by omega) (by omega) (by omega)]
        refine sw_p 1 (f' := (201, [some (2, 0), some (0, b), some (0, S.2.2), some (0, z), some (0, i), some (0, ν 2 i), some (0, 0)], [(0, z), (0, ν 7 (ν 2 i))])) rfl ?_
        refine sw_ne2 (pt := 216) (pn := 204) rfl rfl rfl (by omega) (by omega) (fun h => absurd h (by omega)) (fun h6 => ?_)
        refine sw_p 1 (f' := (205, [some (2, 0), some (0, b), some (0, S.2.2), some (0, z), some (0, i), some (0, ν 2 i), some (0, 0)], [(2, 0)])) rfl ?_
        refine sw_hA (pn := 208) (i := 5) (v := 5) rfl rfl rfl rfl rfl hs.1 (mo_s5 hs).1 (by omega) ?_
        refine sw_p 2 (f' := (211, [some (2, 0), some (0, b), some (0, S.2.2), some (0, z), some (0, i), some (0, ν 2 i), some (0, 0)], [(0, S.2.2), (0, ν 2 i), (2, 5)])) rfl ?_
        refine sw_ias (pn := 212) (l := 8) rfl rfl (by omega) (mo_s5 hs).2.1 (mo_s5 hs).2.2 (by omega) (by omega) ?_
        refine sw_p 6 (f' := (105, [some (2, 0), some (0, b), some (0, S.2.2 + z), some (0, z), some (0, i + 1), some (0, ν 2 i), some (0, 0)], [])) rfl ?_
        rw [pn_u5]
        exact ih (i + 1) (S.1, fun k => if k = ν 2 i then S.2.2 else S.2.1 k, S.2.2 + z) _ _ (by omega) (by omega) kk
      · rw [show pn_s ν z (n + 1) i S = pn_s ν z n (i + 1) S by rw [pn_s, show pn_u ν z (ν 2 i) S = S from (if_neg hu).trans (if_neg hu2)]] at kk
        refine sw_p 6 (f' := (112, [some (2, 0), some (0, b), some (0, S.2.2), some (0, z), some (0, i), o5, o6], [(0, (4 * b) + 4), (0, i)])) rfl ?_
        refine sw_ge2 (pt := 222) (pn := 115) rfl rfl rfl (by omega) (by omega) (fun h => absurd h (by omega)) (fun h1 => ?_)
        refine sw_p 1 (f' := (116, [some (2, 0), some (0, b), some (0, S.2.2), some (0, z), some (0, i), o5, o6], [(2, 0)])) rfl ?_
        refine sw_hA (pn := 119) (i := 2) (v := 2) rfl rfl rfl rfl rfl hs.1 (mo_s2 hs).1 (by omega) ?_
        refine sw_p 1 (f' := (121, [some (2, 0), some (0, b), some (0, S.2.2), some (0, z), some (0, i), o5, o6], [(0, i), (2, 2)])) rfl ?_
        refine sw_ial (pn := 122) (l := 32) rfl rfl (by omega) (mo_s2 hs).2.1 (mo_s2 hs).2.2 (by omega) (by omega) ?_
        rw [show (pn_m ν S.1 S.2.1 en) 2 i = ν 2 i from pn_ne (by omega) (by omega) (by omega)]
        refine sw_p 5 (f' := (130, [some (2, 0), some (0, b), some (0, S.2.2), some (0, z), some (0, i), some (0, ν 2 i), some (0, 0)], [(0, 3), (0, 0)])) rfl ?_
        refine sw_ge2 (pt := 181) (pn := 133) rfl rfl rfl (by omega) (by omega) (fun h => absurd h (by decide)) (fun _ => ?_)
        refine sw_p 2 (f' := (137, [some (2, 0), some (0, b), some (0, S.2.2), some (0, z), some (0, i), some (0, ν 2 i), some (0, 0)], [(0, 100), (0, ν 2 i)])) rfl ?_
        refine sw_lt2 (pt := 181) (pn := 140) rfl rfl rfl (by omega) (by omega) (fun h3 => ?_) (fun h => absurd h (by omega))
        refine sw_p 1 (f' := (183, [some (2, 0), some (0, b), some (0, S.2.2), some (0, z), some (0, i), some (0, ν 2 i), some (0, 0)], [(0, ν 2 i)])) rfl ?_
        refine sw_lt1 (pt := 216) (pn := 186) rfl rfl rfl (by omega) (fun h4 => ?_) (fun h4 => ?_)
        · skip
          refine sw_p 2 (f' := (105, [some (2, 0), some (0, b), some (0, S.2.2), some (0, z), some (0, i + 1), some (0, ν 2 i), some (0, 0)], [])) rfl ?_
          exact ih (i + 1) _ _ _ (by omega) (by omega) kk
        · skip
          refine sw_p 2 (f' := (190, [some (2, 0), some (0, b), some (0, S.2.2), some (0, z), some (0, i), some (0, ν 2 i), some (0, 0)], [(0, 100), (0, ν 2 i)])) rfl ?_
          refine sw_ge2 (pt := 216) (pn := 193) rfl rfl rfl (by omega) (by omega) (fun h => absurd h (by omega)) (fun h5 => ?_)
          refine sw_p 1 (f' := (194, [some (2, 0), some (0, b), some (0, S.2.2), some (0, z), some (0, i), some (0, ν 2 i), some (0, 0)], [(2, 0)])) rfl ?_
          refine sw_hA (pn := 197) (i := 7) (v := 7) rfl rfl rfl rfl rfl hs.1 (mo_s7 hs).1 (by omega) ?_
          refine sw_p 1 (f' := (199, [some (2, 0), some (0, b), some (0, S.2.2), some (0, z), some (0, i), some (0, ν 2 i), some (0, 0)], [(0, ν 2 i), (2, 7)])) rfl ?_
          refine sw_ial (pn := 200) (l := 8) rfl rfl (by omega) (mo_s7 hs).2.1 (mo_s7 hs).2.2 (by omega) (by omega) ?_
          rw [show (pn_m ν S.1 S.2.1 en) 7 (ν 2 i) = ν 7 (ν 2 i) from pn_ne (by omega) (by omega) (by omega)]
          refine sw_p 1 (f' := (201, [some (2, 0), some (0, b), some (0, S.2.2), some (0, z), some (0, i), some (0, ν 2 i), some (0, 0)], [(0, z), (0, ν 7 (ν 2 i))])) rfl ?_
          refine sw_ne2 (pt := 216) (pn := 204) rfl rfl rfl (by omega) (by omega) (fun h6 => ?_) (fun h => absurd h (by omega))
          refine sw_p 2 (f' := (105, [some (2, 0), some (0, b), some (0, S.2.2), some (0, z), some (0, i + 1), some (0, ν 2 i), some (0, 0)], [])) rfl ?_
          exact ih (i + 1) _ _ _ (by omega) (by omega) kk
theorem pn_wz (hs : mo_sh s) (hB : mo_B ν) (hC : mo_C ν) (hT : tr_I ν f) (hm : ∀ u, 0 ≤ u → u < ν 0 1 → 0 ≤ ν 7 u ∧ ν 7 u ≤ 4194304) (hb : 0 ≤ b ∧ b < 8) (hz : 0 < z ∧ z ≤ 4096) (kk : ∀ (o4 o5 o6 : Option mg_V), sw_w E (d + 1) 109 (96, [some (2, 0), some (0, b), some (0, (pn_s ν z 4 (4 * b) S).2.2), some (0, z / 2), o4, o5, o6], []) s (pn_m ν (pn_s ν z 4 (4 * b) S).1 (pn_s ν z 4 (4 * b) S).2.1 en) Q) : sw_w E (d + 1) 109 (96, [some (2, 0), some (0, b), some (0, S.2.2), some (0, z), o4, o5, o6], []) s (pn_m ν S.1 S.2.1 en) Q := by
  refine sw_p 1 (f' := (97, [some (2, 0), some (0, b), some (0, S.2.2), some (0, z), o4, o5, o6], [(0, z)])) rfl ?_
  refine sw_le1 (pt := 229) (pn := 100) rfl rfl rfl (by omega) (fun h => absurd h (by omega)) (fun h1 => ?_)
  refine sw_p 4 (f' := (105, [some (2, 0), some (0, b), some (0, S.2.2), some (0, z), some (0, 4 * b), o5, o6], [])) rfl ?_
  exact pn_ws hs hB hC hT hm hb (by omega) 4 (4 * b) S _ _ (by omega) (by omega) kk
theorem pn_wb (hs : mo_sh s) (hB : mo_B ν) (hC : mo_C ν) (hT : tr_I ν f) (hm : ∀ u, 0 ≤ u → u < ν 0 1 → 0 ≤ ν 7 u ∧ ν 7 u ≤ 4194304) : ∀ (n : Nat) (b : Int) (T : pn_T) (o2 o3 o4 o5 o6 : Option mg_V), 0 ≤ b → b + n = ν 0 1 → sw_w E (d + 1) 109 (6, [some (2, 0), some (0, b), o2, o3, o4, o5, o6], []) s (pn_m ν T.1 T.2.1 T.2.2) (sw_is none s (pn_f ν (pn_b ν n b T))) := by
  intro n
  induction n with
  | zero =>
    intro b T o2 o3 o4 o5 o6 hb hn
    have h8 := hB.1
    refine sw_p 2 (f' := (8, [some (2, 0), some (0, b), o2, o3, o4, o5, o6], [(2, 0), (0, b)])) rfl ?_
    refine sw_gI (pn := 11) (i := 1) rfl rfl rfl rfl rfl (by omega) hs.1 ?_
    rw [show (pn_m ν T.1 T.2.1 T.2.2) 0 1 = ν 0 1 from pn_ne (by omega) (by omega) (by omega)]
    refine sw_ge2 (pt := 235) (pn := 14) rfl rfl rfl (by omega) (by omega) (fun h1 => ?_) (fun h => absurd h (by omega))
    exact sw_retV rfl rfl rfl ⟨rfl, rfl, rfl⟩
  | succ n ih =>
    intro b T o2 o3 o4 o5 o6 hb hn
    have h8 := hB.1
    have hbk := hm b hb (by omega)
    have K2 : ∀ (o2 o3 o4 o5 o6 : Option mg_V), sw_w E (d + 1) 109 (85, [some (2, 0), some (0, b), o2, o3, o4, o5, o6], []) s (pn_m ν T.1 (pn_b1 ν b T.2.1) (pn_e1 ν b (pn_b1 ν b T.2.1) T.2.2)) (sw_is none s (pn_f ν (pn_b ν (n + 1) b T))) := by
      intro o2 o3 o4 o5 o6
      refine sw_p 1 (f' := (86, [some (2, 0), some (0, b), o2, o3, o4, o5, o6], [(2, 0)])) rfl ?_
      refine sw_hA (pn := 89) (i := 5) (v := 5) rfl rfl rfl rfl rfl hs.1 (mo_s5 hs).1 (by omega) ?_
      refine sw_p 1 (f' := (90, [some (2, 0), some (0, b), o2, o3, o4, o5, o6], [(0, b), (2, 5)])) rfl ?_
      refine sw_ial (pn := 91) (l := 8) rfl rfl (by omega) (mo_s5 hs).2.1 (mo_s5 hs).2.2 (by omega) (by omega) ?_
      rw [show (pn_m ν T.1 (pn_b1 ν b T.2.1) (pn_e1 ν b (pn_b1 ν b T.2.1) T.2.2)) 5 b = (pn_b1 ν b T.2.1) b from pn_5]
      refine sw_p 3 (f' := (96, [some (2, 0), some (0, b), some (0, (pn_b1 ν b T.2.1) b), some (0, 4096), o4, o5, o6], [])) rfl ?_
      refine pn_wz (z := 4096) (S := (T.1, (pn_b1 ν b T.2.1), (pn_b1 ν b T.2.1) b)) hs hB hC hT hm (by omega) (by omega) (fun o4 o5 o6 => ?_)
      rw [show (4096 : Int) / 2 = 2048 by decide]
      refine pn_wz hs hB hC hT hm (by omega) (by omega) (fun o4 o5 o6 => ?_)
      rw [show (2048 : Int) / 2 = 1024 by decide]
      refine pn_wz hs hB hC hT hm (by omega) (by omega) (fun o4 o5 o6 => ?_)
      rw [show (1024 : Int) / 2 = 512 by decide]
      refine pn_wz hs hB hC hT hm (by omega) (by omega) (fun o4 o5 o6 => ?_)
      rw [show (512 : Int) / 2 = 256 by decide]
      refine pn_wz hs hB hC hT hm (by omega) (by omega) (fun o4 o5 o6 => ?_)
      rw [show (256 : Int) / 2 = 128 by decide]
      refine pn_wz hs hB hC hT hm (by omega) (by omega) (fun o4 o5 o6 => ?_)
      rw [show (128 : Int) / 2 = 64 by decide]
      refine pn_wz hs hB hC hT hm (by omega) (by omega) (fun o4 o5 o6 => ?_)
      rw [show (64 : Int) / 2 = 32 by decide]
      refine pn_wz hs hB hC hT hm (by omega) (by omega) (fun o4 o5 o6 => ?_)
      rw [show (32 : Int) / 2 = 16 by decide]
      refine pn_wz hs hB hC hT hm (by omega) (by omega) (fun o4 o5 o6 => ?_)
      rw [show (16 : Int) / 2 = 8 by decide]
      refine pn_wz hs hB hC hT hm (by omega) (by omega) (fun o4 o5 o6 => ?_)
      rw [show (8 : Int) / 2 = 4 by decide]
      refine pn_wz hs hB hC hT hm (by omega) (by omega) (fun o4 o5 o6 => ?_)
      rw [show (4 : Int) / 2 = 2 by decide]
      refine pn_wz hs hB hC hT hm (by omega) (by omega) (fun o4 o5 o6 => ?_)
      rw [show (2 : Int) / 2 = 1 by decide]
      refine pn_wz hs hB hC hT hm (by omega) (by omega) (fun o4 o5 o6 => ?_)
      rw [show (1 : Int) / 2 = 0 by decide]
      show sw_w E (d + 1) 109 (96, [some (2, 0), some (0, b), some (0, (pn_z ν b pn_l (T.1, (pn_b1 ν b T.2.1), (pn_b1 ν b T.2.1) b)).2.2), some (0, 0), o4, o5, o6], []) s (pn_m ν (pn_z ν b pn_l (T.1, (pn_b1 ν b T.2.1), (pn_b1 ν b T.2.1) b)).1 (pn_z ν b pn_l (T.1, (pn_b1 ν b T.2.1), (pn_b1 ν b T.2.1) b)).2.1 (pn_e1 ν b (pn_b1 ν b T.2.1) T.2.2)) _
      refine sw_p 1 (f' := (97, [some (2, 0), some (0, b), some (0, (pn_z ν b pn_l (T.1, (pn_b1 ν b T.2.1), (pn_b1 ν b T.2.1) b)).2.2), some (0, 0), o4, o5, o6], [(0, 0)])) rfl ?_
      refine sw_le1 (pt := 229) (pn := 100) rfl rfl rfl (by omega) (fun _ => ?_) (fun h => absurd h (by decide))
      refine sw_p 2 (f' := (6, [some (2, 0), some (0, b + 1), some (0, (pn_z ν b pn_l (T.1, (pn_b1 ν b T.2.1), (pn_b1 ν b T.2.1) b)).2.2), some (0, 0), o4, o5, o6], [])) rfl ?_
      exact ih (b + 1) (pn_1 ν b T) _ _ _ _ _ (by omega) (by omega)
    have K1 : ∀ (o2 o3 o4 o5 o6 : Option mg_V), sw_w E (d + 1) 109 (43, [some (2, 0), some (0, b), o2, o3, o4, o5, o6], []) s (pn_m ν T.1 (pn_b1 ν b T.2.1) T.2.2) (sw_is none s (pn_f ν (pn_b ν (n + 1) b T))) := by
      intro o2 o3 o4 o5 o6
      refine sw_p 1 (f' := (44, [some (2, 0), some (0, b), o2, o3, o4, o5, o6], [(2, 0)])) rfl ?_
      refine sw_hA (pn := 47) (i := 6) (v := 6) rfl rfl rfl rfl rfl hs.1 (mo_s6 hs).1 (by omega) ?_
      refine sw_p 2 (f' := (49, [some (2, 0), some (0, b), o2, o3, o4, o5, o6], [(0, b), (0, b), (2, 6)])) rfl ?_
      refine sw_ne1 (pt := 58) (pn := 52) rfl rfl rfl (by omega) (fun h1 => ?_) (fun h1 => ?_)
      · skip
        refine sw_p 1 (f' := (59, [some (2, 0), some (0, b), o2, o3, o4, o5, o6], [(2, 0), (0, b), (2, 6)])) rfl ?_
        refine sw_hA (pn := 62) (i := 7) (v := 7) rfl rfl rfl rfl rfl hs.1 (mo_s7 hs).1 (by omega) ?_
        refine sw_p 1 (f' := (63, [some (2, 0), some (0, b), o2, o3, o4, o5, o6], [(0, b), (2, 7), (0, b), (2, 6)])) rfl ?_
        refine sw_ial (pn := 64) (l := 8) rfl rfl (by omega) (mo_s7 hs).2.1 (mo_s7 hs).2.2 (by omega) (by omega) ?_
        rw [show (pn_m ν T.1 (pn_b1 ν b T.2.1) T.2.2) 7 b = ν 7 b from pn_ne (by omega) (by omega) (by omega)]
        refine sw_ne1 (pt := 71) (pn := 67) rfl rfl rfl (by omega) (fun h2 => ?_) (fun h2 => ?_)
        · skip
          refine sw_p 1 (f' := (72, [some (2, 0), some (0, b), o2, o3, o4, o5, o6], [(2, 0), (0, b), (2, 6)])) rfl ?_
          refine sw_hA (pn := 75) (i := 5) (v := 5) rfl rfl rfl rfl rfl hs.1 (mo_s5 hs).1 (by omega) ?_
          refine sw_p 1 (f' := (76, [some (2, 0), some (0, b), o2, o3, o4, o5, o6], [(0, b), (2, 5), (0, b), (2, 6)])) rfl ?_
          refine sw_ial (pn := 77) (l := 8) rfl rfl (by omega) (mo_s5 hs).2.1 (mo_s5 hs).2.2 (by omega) (by omega) ?_
          rw [show (pn_m ν T.1 (pn_b1 ν b T.2.1) T.2.2) 5 b = (pn_b1 ν b T.2.1) b from pn_5]
          refine sw_p 1 (f' := (78, [some (2, 0), some (0, b), o2, o3, o4, o5, o6], [(2, 0), (0, (pn_b1 ν b T.2.1) b), (0, b), (2, 6)])) rfl ?_
          refine sw_hA (pn := 81) (i := 7) (v := 7) rfl rfl rfl rfl rfl hs.1 (mo_s7 hs).1 (by omega) ?_
          refine sw_p 1 (f' := (82, [some (2, 0), some (0, b), o2, o3, o4, o5, o6], [(0, b), (2, 7), (0, (pn_b1 ν b T.2.1) b), (0, b), (2, 6)])) rfl ?_
          refine sw_ial (pn := 83) (l := 8) rfl rfl (by omega) (mo_s7 hs).2.1 (mo_s7 hs).2.2 (by omega) (by omega) ?_
          rw [show (pn_m ν T.1 (pn_b1 ν b T.2.1) T.2.2) 7 b = ν 7 b from pn_ne (by omega) (by omega) (by omega)]
          refine sw_p 1 (f' := (84, [some (2, 0), some (0, b), o2, o3, o4, o5, o6], [(0, ((pn_b1 ν b T.2.1) b) + (ν 7 b)), (0, b), (2, 6)])) rfl ?_
          refine sw_ias (pn := 85) (l := 8) rfl rfl (by omega) (mo_s6 hs).2.1 (mo_s6 hs).2.2 (by omega) (by omega) ?_
          rw [pn_u6, show (fun i => if i = b then ((pn_b1 ν b T.2.1) b) + (ν 7 b) else T.2.2 i) = (pn_e1 ν b (pn_b1 ν b T.2.1) T.2.2) by funext i; unfold pn_e1; by_cases hi : i = b; rw [if_pos hi, if_pos hi]; exact ((if_neg (by omega)).trans (if_neg (by omega))).symm; rw [if_neg hi, if_neg hi]]
          exact K2 _ _ _ _ _
        · skip
          refine sw_p 2 (f' := (84, [some (2, 0), some (0, b), o2, o3, o4, o5, o6], [(0, 0), (0, b), (2, 6)])) rfl ?_
          refine sw_ias (pn := 85) (l := 8) rfl rfl (by omega) (mo_s6 hs).2.1 (mo_s6 hs).2.2 (by omega) (by omega) ?_
          rw [pn_u6, show (fun i => if i = b then 0 else T.2.2 i) = (pn_e1 ν b (pn_b1 ν b T.2.1) T.2.2) by funext i; unfold pn_e1; by_cases hi : i = b; rw [if_pos hi, if_pos hi]; exact ((if_neg (by omega)).trans (if_pos (by omega))).symm; rw [if_neg hi, if_neg hi]]
          exact K2 _ _ _ _ _
      · skip
        refine sw_p 2 (f' := (84, [some (2, 0), some (0, b), o2, o3, o4, o5, o6], [(0, 4096), (0, b), (2, 6)])) rfl ?_
        refine sw_ias (pn := 85) (l := 8) rfl rfl (by omega) (mo_s6 hs).2.1 (mo_s6 hs).2.2 (by omega) (by omega) ?_
        rw [pn_u6, show (fun i => if i = b then 4096 else T.2.2 i) = (pn_e1 ν b (pn_b1 ν b T.2.1) T.2.2) by funext i; unfold pn_e1; by_cases hi : i = b; rw [if_pos hi, if_pos hi]; exact (if_pos (by omega)).symm; rw [if_neg hi, if_neg hi]]
        exact K2 _ _ _ _ _
    refine sw_p 2 (f' := (8, [some (2, 0), some (0, b), o2, o3, o4, o5, o6], [(2, 0), (0, b)])) rfl ?_
    refine sw_gI (pn := 11) (i := 1) rfl rfl rfl rfl rfl (by omega) hs.1 ?_
    rw [show (pn_m ν T.1 T.2.1 T.2.2) 0 1 = ν 0 1 from pn_ne (by omega) (by omega) (by omega)]
    refine sw_ge2 (pt := 235) (pn := 14) rfl rfl rfl (by omega) (by omega) (fun h => absurd h (by omega)) (fun h1 => ?_)
    refine sw_p 1 (f' := (15, [some (2, 0), some (0, b), o2, o3, o4, o5, o6], [(2, 0)])) rfl ?_
    refine sw_hA (pn := 18) (i := 5) (v := 5) rfl rfl rfl rfl rfl hs.1 (mo_s5 hs).1 (by omega) ?_
    refine sw_p 2 (f' := (20, [some (2, 0), some (0, b), o2, o3, o4, o5, o6], [(0, b), (0, b), (2, 5)])) rfl ?_
    refine sw_le1 (pt := 36) (pn := 23) rfl rfl rfl (by omega) (fun h2 => ?_) (fun h2 => ?_)
    · skip
      refine sw_p 1 (f' := (37, [some (2, 0), some (0, b), o2, o3, o4, o5, o6], [(2, 0), (0, b), (2, 5)])) rfl ?_
      refine sw_hA (pn := 40) (i := 5) (v := 5) rfl rfl rfl rfl rfl hs.1 (mo_s5 hs).1 (by omega) ?_
      refine sw_p 1 (f' := (41, [some (2, 0), some (0, b), o2, o3, o4, o5, o6], [(0, b), (2, 5), (0, b), (2, 5)])) rfl ?_
      refine sw_ial (pn := 42) (l := 8) rfl rfl (by omega) (mo_s5 hs).2.1 (mo_s5 hs).2.2 (by omega) (by omega) ?_
      rw [show (pn_m ν T.1 T.2.1 T.2.2) 5 b = T.2.1 b from pn_5]
      refine sw_ias (pn := 43) (l := 8) rfl rfl (by omega) (mo_s5 hs).2.1 (mo_s5 hs).2.2 (by omega) (by omega) ?_
      rw [pn_u5, show (fun i => if i = b then T.2.1 b else T.2.1 i) = (pn_b1 ν b T.2.1) by funext i; unfold pn_b1; by_cases hi : i = b; rw [if_pos hi, if_pos hi]; exact (if_neg (by omega)).symm; rw [if_neg hi, if_neg hi]]
      exact K1 _ _ _ _ _
    · skip
      refine sw_p 1 (f' := (24, [some (2, 0), some (0, b), o2, o3, o4, o5, o6], [(2, 0), (0, b), (2, 5)])) rfl ?_
      refine sw_hA (pn := 27) (i := 7) (v := 7) rfl rfl rfl rfl rfl hs.1 (mo_s7 hs).1 (by omega) ?_
      refine sw_p 1 (f' := (28, [some (2, 0), some (0, b), o2, o3, o4, o5, o6], [(0, b), (2, 7), (0, b), (2, 5)])) rfl ?_
      refine sw_ial (pn := 29) (l := 8) rfl rfl (by omega) (mo_s7 hs).2.1 (mo_s7 hs).2.2 (by omega) (by omega) ?_
      rw [show (pn_m ν T.1 T.2.1 T.2.2) 7 b = ν 7 b from pn_ne (by omega) (by omega) (by omega)]
      refine sw_ne1 (pt := 36) (pn := 32) rfl rfl rfl (by omega) (fun h3 => ?_) (fun h3 => ?_)
      · skip
        refine sw_p 1 (f' := (37, [some (2, 0), some (0, b), o2, o3, o4, o5, o6], [(2, 0), (0, b), (2, 5)])) rfl ?_
        refine sw_hA (pn := 40) (i := 5) (v := 5) rfl rfl rfl rfl rfl hs.1 (mo_s5 hs).1 (by omega) ?_
        refine sw_p 1 (f' := (41, [some (2, 0), some (0, b), o2, o3, o4, o5, o6], [(0, b), (2, 5), (0, b), (2, 5)])) rfl ?_
        refine sw_ial (pn := 42) (l := 8) rfl rfl (by omega) (mo_s5 hs).2.1 (mo_s5 hs).2.2 (by omega) (by omega) ?_
        rw [show (pn_m ν T.1 T.2.1 T.2.2) 5 b = T.2.1 b from pn_5]
        refine sw_ias (pn := 43) (l := 8) rfl rfl (by omega) (mo_s5 hs).2.1 (mo_s5 hs).2.2 (by omega) (by omega) ?_
        rw [pn_u5, show (fun i => if i = b then T.2.1 b else T.2.1 i) = (pn_b1 ν b T.2.1) by funext i; unfold pn_b1; by_cases hi : i = b; rw [if_pos hi, if_pos hi]; exact (if_neg (by omega)).symm; rw [if_neg hi, if_neg hi]]
        exact K1 _ _ _ _ _
      · skip
        refine sw_p 2 (f' := (42, [some (2, 0), some (0, b), o2, o3, o4, o5, o6], [(0, 0), (0, b), (2, 5)])) rfl ?_
        refine sw_ias (pn := 43) (l := 8) rfl rfl (by omega) (mo_s5 hs).2.1 (mo_s5 hs).2.2 (by omega) (by omega) ?_
        rw [pn_u5, show (fun i => if i = b then 0 else T.2.1 i) = (pn_b1 ν b T.2.1) by funext i; unfold pn_b1; by_cases hi : i = b; rw [if_pos hi, if_pos hi]; exact (if_pos (by omega)).symm; rw [if_neg hi, if_neg hi]]
        exact K1 _ _ _ _ _
theorem mo_plan (hs : mo_sh s) (hB : mo_B ν) (hC : mo_C ν) (hT : tr_I ν f) : sw_w E (d + 3) 109 (0, [some (2, 0), none, none, none, none, none, none], []) s ν (sw_is none s (mo_pn ν)) := by
  have h8 := hB.1
  have hfr := me_fr (ν 0 1).toNat ν
  have h0 := hfr 0 (by decide)
  have hB1 : mo_B (mo_me (ν 0 1).toNat ν) := mo_B_fr (fr_w hfr (by decide)) hB
  have hC1 : mo_C (mo_me (ν 0 1).toNat ν) := mo_C_fr (hfr 2 (by decide)) (hfr 5 (by decide)) (hfr 6 (by decide)) (hfr 9 (by decide)) (hfr 13 (by decide)) (hfr 17 (by decide)) hC
  have hT1 : tr_I (mo_me (ν 0 1).toNat ν) f := tr_fr (congrFun h0 1) (hfr 2 (by decide)) (hfr 3 (by decide)) hT
  have hm : ∀ u, 0 ≤ u → u < mo_me (ν 0 1).toNat ν 0 1 → 0 ≤ mo_me (ν 0 1).toNat ν 7 u ∧ mo_me (ν 0 1).toNat ν 7 u ≤ 4194304 := fun u h1 h2 => by
    have := me_b (ν 0 1).toNat ν hB hC hT (by omega) (fun u h3 h4 => by omega) u h1 (by rw [h0] at h2; exact h2)
    have hbb : mo_bd (f u) ≤ 4194304 := by unfold mo_bd; split <;> (try split) <;> (try split) <;> (try split) <;> omega
    omega
  refine sw_p 1 (f' := (1, [some (2, 0), none, none, none, none, none, none], [(2, 0)])) rfl ?_
  refine sw_cv1 (pn := 4) (q0 := mj_Mo_plan) (q := mj_Mo_measure) (p := 0) (as2 := []) (L2 := [some (2, 0), none, none]) (rest := []) (v := none) (s1 := s) (ν1 := (mo_me (ν 0 1).toNat ν)) rfl rfl rfl rfl rfl rfl rfl rfl rfl hs.1 (mo_measure (d := d) hs hB hC hT) ?_
  show sw_w E _ 109 (4, [some (2, 0), none, none, none, none, none, none], []) s (mo_me (ν 0 1).toNat ν) _
  refine sw_p 2 (f' := (6, [some (2, 0), some (0, 0), none, none, none, none, none], [])) rfl ?_
  have hz := pn_wb (E := E) (s := s) (d := d + 2) hs hB1 hC1 hT1 hm (ν 0 1).toNat 0 (ν 18, ν 5, ν 6) none none none none none (by omega) (by rw [h0]; omega)
  rw [show pn_m (mo_me (ν 0 1).toNat ν) (ν 18, ν 5, ν 6).1 (ν 18, ν 5, ν 6).2.1 (ν 18, ν 5, ν 6).2.2 = mo_me (ν 0 1).toNat ν by
    show pn_m (mo_me (ν 0 1).toNat ν) (ν 18) (ν 5) (ν 6) = _
    rw [← hfr 18 (by decide), ← hfr 5 (by decide), ← hfr 6 (by decide)]; exact pn_0] at hz
  exact hz
end PN
