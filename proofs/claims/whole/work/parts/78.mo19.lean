/-! the reference: growsFrom, grows -/
/-! what depends on which rows -/
theorem mo_mku_fr {ν ν' : mm_T} (h5 : ν' 5 = ν 5) (h6 : ν' 6 = ν 6) (h9 : ν' 9 = ν 9) (h13 : ν' 13 = ν 13) (h17 : ν' 17 = ν 17) {w u : Int} {g : Int → Int} : mo_mku ν' w u g = mo_mku ν w u g := by
  unfold mo_mku mo_mk1
  rw [h5, h6, h9, h13, h17]
theorem mo_mks_fr {ν ν' : mm_T} (h2 : ν' 2 = ν 2) (h5 : ν' 5 = ν 5) (h6 : ν' 6 = ν 6) (h9 : ν' 9 = ν 9) (h13 : ν' 13 = ν 13) (h17 : ν' 17 = ν 17) {w : Int} : ∀ (n : Nat) (i : Int) (g : Int → Int), mo_mks ν' w n i g = mo_mks ν w n i g
  | 0, _, _ => rfl
  | n + 1, i, g => by
    unfold mo_mks
    rw [h2, mo_mku_fr h5 h6 h9 h13 h17, mo_mks_fr h2 h5 h6 h9 h13 h17 n]
theorem oc_fr {ν ν' : mm_T} (h2 : ν' 2 = ν 2) (h5 : ν' 5 = ν 5) (h6 : ν' 6 = ν 6) (h9 : ν' 9 = ν 9) (h13 : ν' 13 = ν 13) (h17 : ν' 17 = ν 17) {b w : Int} : oc_m ν' b w = oc_m ν b w := mo_mks_fr h2 h5 h6 h9 h13 h17 _ _ _
theorem ff_r_fr {ν ν' : mm_T} {c x e : Int} {q : Int → Int} (h2 : ν' 2 = ν 2) (h5 : ν' 5 = ν 5) (h6 : ν' 6 = ν 6) (h9 : ν' 9 = ν 9) (h13 : ν' 13 = ν 13) (h14 : ν' 14 = ν 14) (h17 : ν' 17 = ν 17) : ff_r ν' c x e q = ff_r ν c x e q := by
  unfold ff_r
  rw [h9, h13, h14, oc_fr h2 h5 h6 h9 h13 h17]
/-- the places found do not depend on what stood there before -/
theorem ff_q {f : Int → Int} {x e : Int} : ∀ (l : List (Int × Int)) (g q q' : Int → Int), (ff_s f x e l g q = none ∧ ff_s f x e l g q' = none) ∨ ∃ r r', ff_s f x e l g q = some r ∧ ff_s f x e l g q' = some r' ∧ ∀ i, r i = r' i ∨ (r i = q i ∧ r' i = q' i ∧ ∀ z, (z, i) ∈ l → f i ≠ z)
  | [], g, q, q' => Or.inr ⟨q, q', rfl, rfl, fun i => Or.inr ⟨rfl, rfl, fun z h => absurd h (List.not_mem_nil)⟩⟩
  | (z, k) :: l, g, q, q' => by
    by_cases h : f k = z
    · by_cases h2 : ff_p g z x e < 0
      · refine Or.inl ⟨?_, ?_⟩
        · exact (if_pos h).trans (if_pos h2)
        · exact (if_pos h).trans (if_pos h2)
      · have e1 : ∀ q, ff_s f x e ((z, k) :: l) g q = ff_s f x e l (mo_mkr (ff_p g z x e) (ff_p g z x e + z) g) (fun i => if i = k then ff_p g z x e else q i) := fun q => (if_pos h).trans (if_neg h2)
        rw [e1, e1]
        rcases ff_q l (mo_mkr (ff_p g z x e) (ff_p g z x e + z) g) (fun i => if i = k then ff_p g z x e else q i) (fun i => if i = k then ff_p g z x e else q' i) with h3 | ⟨r, r', h3, h4, h5⟩
        · exact Or.inl h3
        · refine Or.inr ⟨r, r', h3, h4, fun i => ?_⟩
          rcases h5 i with h6 | ⟨h6, h7, h8⟩
          · exact Or.inl h6
          · by_cases hi : i = k
            · rw [if_pos hi] at h6 h7
              exact Or.inl (h6.trans h7.symm)
            · rw [if_neg hi] at h6 h7
              refine Or.inr ⟨h6, h7, fun z' hz' => ?_⟩
              rcases List.mem_cons.mp hz' with h9 | h9
              · cases h9; exact absurd rfl hi
              · exact h8 z' h9
    · have e1 : ∀ q, ff_s f x e ((z, k) :: l) g q = ff_s f x e l g q := fun q => if_neg h
      rw [e1, e1]
      rcases ff_q l g q q' with h3 | ⟨r, r', h3, h4, h5⟩
      · exact Or.inl h3
      · refine Or.inr ⟨r, r', h3, h4, fun i => ?_⟩
        rcases h5 i with h6 | ⟨h6, h7, h8⟩
        · exact Or.inl h6
        · refine Or.inr ⟨h6, h7, fun z' hz' => ?_⟩
          rcases List.mem_cons.mp hz' with h9 | h9
          · cases h9; exact h
          · exact h8 z' h9
/-- sizes are powers of two -/
def mo_p2s (ν : mm_T) : Prop := ∀ i, 0 ≤ i → i < 48 → ν 9 i = 0 ∨ st_pw (ν 9 i)
theorem ff_mem {z k : Int} (hz : st_pw z) (hk : 0 ≤ k ∧ k < 3) : (z, k) ∈ ff_l ff_z := by
  have hk3 : k = 0 ∨ k = 1 ∨ k = 2 := by omega
  rcases hz with rfl | rfl | rfl | rfl | rfl | rfl | rfl | rfl | rfl | rfl | rfl <;> rcases hk3 with rfl | rfl | rfl <;> decide
theorem ft_P_q {ν ν' : mm_T} {c x e : Int} {q q' : Int → Int} {v : Option mg_V} (hB : mo_B ν) (hc : 0 ≤ c ∧ c < 40) (hp : mo_p2s ν) (h : ft_P ν c x e (ff_r ν c x e q) v ν') : ft_P ν c x e (ff_r ν c x e q') v ν' := by
  have hcd := hB.cd c hc.1 hc.2
  have h0 := ff_q (f := fun k => ν 9 (3 * ν 13 c + k)) (x := x) (e := e) (ff_l ff_z) (oc_m ν (ν 14 c) (100 + c)) q q'
  unfold ff_r at h ⊢
  rcases h0 with ⟨h1, h2⟩ | ⟨r, r', h1, h2, h3⟩
  · rw [h1] at h
    rw [h2]
    exact h
  · rw [h1] at h
    rw [h2]
    obtain ⟨g1, g2, g3, g4, g5, g6⟩ := h
    refine ⟨g1, g2, g3, fun i => ?_, g5, g6⟩
    rw [g4 i]
    by_cases hi : 3 * c ≤ i ∧ i < 3 * c + 3
    · rw [if_pos hi, if_pos hi]
      by_cases hz : 0 < ν 9 (3 * ν 13 c + (i - 3 * c))
      · rw [if_pos hz, if_pos hz]
        rcases h3 (i - 3 * c) with h4 | ⟨_, _, h4⟩
        · exact h4
        · rcases hp (3 * ν 13 c + (i - 3 * c)) (by omega) (by omega) with h5 | h5
          · omega
          · exact absurd rfl (h4 _ (ff_mem h5 (by omega)))
      · rw [if_neg hz, if_neg hz]
    · rw [if_neg hi, if_neg hi]
theorem ft_P_fr {ν ν1 ν' : mm_T} {c x e : Int} {r : Option (Int → Int)} {v : Option mg_V} (hf : fr_r [29, 18] ν ν1) (h : ft_P ν1 c x e r v ν') : ft_P ν c x e r v ν' := by
  obtain ⟨h1, h2⟩ := h
  refine ⟨h1, ?_⟩
  cases r with
  | none => exact ⟨h2.1, fr_tr hf h2.2 (by decide) (by decide)⟩
  | some q =>
    obtain ⟨g1, g2, g3, g4, g5⟩ := h2
    rw [hf 5 (by decide)] at g4
    rw [hf 6 (by decide)] at g5
    rw [hf 14 (by decide)] at g4 g5
    rw [hf 17 (by decide), hf 9 (by decide), hf 13 (by decide)] at g3
    exact ⟨g1, fr_tr hf g2 (by decide) (by decide), g3, g4, g5⟩
/-- the ends of growsFrom and grows -/
def gr_P (ν : mm_T) (c : Int) (r : Option (Int × Int × (Int → Int))) (v : Option mg_V) (ν' : mm_T) : Prop := match r with
  | none => ft_P ν c 0 0 none v ν'
  | some (x, e, q) => ft_P ν c x e (some q) v ν'
def gf_r (ν : mm_T) (c x l : Int) (g : Int → Int) : Nat → Int → Option (Int × Int × (Int → Int))
  | 0, _ => none
  | n + 1, t => if t + 64 ≤ l ∧ mo_to (fun _ => g) 30 64 t = t + 64 then (match ff_r ν c x (t + 64) (fun _ => 0) with
    | some q => some (x, t + 64, q)
    | none => gf_r ν c x l g n (t + 64)) else none
theorem mo_to_0 {ν : mm_T} {p : Int} : ∀ (n : Nat) (a : Int), mo_to ν p n a = a + n → ∀ k, a ≤ k → k < a + n → ν p k = 0
  | 0, a, _, k, h1, h2 => by omega
  | n + 1, a, h, k, h1, h2 => by
    unfold mo_to at h
    by_cases h0 : ν p a = 0
    · rw [if_pos h0] at h
      by_cases hk : k = a
      · rw [hk]; exact h0
      · exact mo_to_0 n (a + 1) (by omega) k (by omega) (by omega)
    · rw [if_neg h0] at h
      omega
theorem mo_to_1 {ν : mm_T} {p : Int} : ∀ (n : Nat) (a : Int), mo_to ν p n a ≠ a + n → ∃ k, a ≤ k ∧ k < a + n ∧ ν p k ≠ 0
  | 0, a, h => by unfold mo_to at h; omega
  | n + 1, a, h => by
    unfold mo_to at h
    by_cases h0 : ν p a = 0
    · rw [if_pos h0] at h
      obtain ⟨k, h1, h2, h3⟩ := mo_to_1 n (a + 1) (fun h4 => h (by rw [h4]; omega))
      exact ⟨k, by omega, by omega, h3⟩
    · exact ⟨a, by omega, by omega, h0⟩
section GF
variable {E : mv_E} {s ν ν1 : mm_T} {d : Nat} {b c x y e k z p i t t0 l lo : Int} {g q : Int → Int} {o3 : Option mg_V}
theorem mo_gf_l (hs : mo_sh s) (hB : mo_B ν) (hC : mo_C ν) (hp2 : mo_p2s ν) (hc0 : ν 0 21 = c) (hc : 0 ≤ c ∧ c < 40) (h30 : mo_b1 ν 30) (hov : 0 ≤ ν 3 (ν 14 c)) (hl : ν 6 (ν 3 (ν 14 c)) = l) (hx : 0 ≤ x ∧ x ≤ 4096) (ht0 : -2147483648 ≤ t0 ∧ t0 < 2147483648) : ∀ (n : Nat) (t : Int) (ν1 : mm_T), fr_r [29, 18] ν ν1 → mo_b1 ν1 29 → 0 ≤ t → t ≤ 4096 → l < t + 64 * (n + 1) → (∀ a, t ≤ a → a < l → ν 30 a = g a) → sw_w E (d + 3) 103 (2, [some (2, 0), some (0, x), some (0, t0), some (0, t)], []) s ν1 (sw_vr (gr_P ν c (gf_r ν c x l g n t)) s) := by
  intro n
  induction n with
  | zero =>
    intro t ν1 hf h29 ht ht2 hn hg
    have hcd := hB.cd c hc.1 hc.2
    have h3 := hB.ov (ν 14 c) (by omega) (by omega)
    have hlb := (hC.2.1 (ν 3 (ν 14 c)) (by omega) (by omega)).2
    refine sw_p 6 (f' := (9, [some (2, 0), some (0, x), some (0, t0), some (0, t)], [(2, 0), (0, t + 64), (0, t), (2, 0)])) rfl ?_
    refine sw_hA (pn := 12) (i := 6) (v := 6) rfl rfl rfl rfl rfl hs.1 (mo_s6 hs).1 (by omega) ?_
    refine sw_p 1 (f' := (13, [some (2, 0), some (0, x), some (0, t0), some (0, t)], [(2, 0), (2, 6), (0, t + 64), (0, t), (2, 0)])) rfl ?_
    refine sw_hA (pn := 16) (i := 3) (v := 3) rfl rfl rfl rfl rfl hs.1 (mo_s3 hs).1 (by omega) ?_
    refine sw_p 1 (f' := (17, [some (2, 0), some (0, x), some (0, t0), some (0, t)], [(2, 0), (2, 3), (2, 6), (0, t + 64), (0, t), (2, 0)])) rfl ?_
    refine sw_hA (pn := 20) (i := 14) (v := 14) rfl rfl rfl rfl rfl hs.1 (mo_s14 hs).1 (by omega) ?_
    refine sw_p 1 (f' := (21, [some (2, 0), some (0, x), some (0, t0), some (0, t)], [(2, 0), (2, 14), (2, 3), (2, 6), (0, t + 64), (0, t), (2, 0)])) rfl ?_
    refine sw_gI (pn := 24) (i := 21) rfl rfl rfl rfl rfl (by omega) hs.1 ?_
    rw [show ν1 0 21 = c from (congrFun (hf 0 (by decide)) _).trans hc0]
    refine sw_ial (pn := 25) (l := 40) rfl rfl (by omega) (mo_s14 hs).2.1 (mo_s14 hs).2.2 (by omega) (by omega) ?_
    rw [show ν1 14 c = ν 14 c from congrFun (hf 14 (by decide)) _]
    refine sw_ial (pn := 26) (l := 8) rfl rfl (by omega) (mo_s3 hs).2.1 (mo_s3 hs).2.2 (by omega) (by omega) ?_
    rw [show ν1 3 (ν 14 c) = ν 3 (ν 14 c) from congrFun (hf 3 (by decide)) _]
    refine sw_ial (pn := 27) (l := 8) rfl rfl (by omega) (mo_s6 hs).2.1 (mo_s6 hs).2.2 (by omega) (by omega) ?_
    rw [show ν1 6 (ν 3 (ν 14 c)) = l from (congrFun (hf 6 (by decide)) _).trans hl]
    refine sw_cv1 (pn := 30) (q0 := mj_Mo_growsFrom) (q := mj_Mo_isFree) (p := 0) (as2 := [(0, t), (0, t + 64), (0, l)]) (L2 := [some (2, 0), some (0, t), some (0, t + 64), some (0, l), none, none]) (rest := []) (v := some (0, 0)) (s1 := s) (ν1 := ν1) rfl rfl rfl rfl rfl rfl rfl rfl rfl hs.1 (mo_isFree_2 (by omega) (by omega) (by omega) (by omega)) ?_
    show sw_w E _ 103 (30, [some (2, 0), some (0, x), some (0, t0), some (0, t)], [(0, 0)]) s ν1 _
    refine sw_eq1 (pt := 49) (pn := 33) rfl rfl rfl (by omega) (fun _ => ?_) (fun h => absurd h (by decide))
    refine sw_p 1 (f' := (50, [some (2, 0), some (0, x), some (0, t0), some (0, t)], [(0, 0)])) rfl ?_
    exact sw_retZ rfl rfl rfl (by omega) ⟨_, rfl, rfl, ⟨h29, rfl, hf⟩⟩
  | succ n ih =>
    intro t ν1 hf h29 ht ht2 hn hg
    have hcd := hB.cd c hc.1 hc.2
    have h3 := hB.ov (ν 14 c) (by omega) (by omega)
    have hlb := (hC.2.1 (ν 3 (ν 14 c)) (by omega) (by omega)).2
    by_cases h1 : t + 64 ≤ l
    · have et : mo_to (fun _ => g) 30 64 t = mo_to ν1 30 64 t := mo_to_c _ _ (fun k h1 h2 => by rw [hf 30 (by decide)]; exact (hg k h1 (by omega)).symm)
      by_cases h2 : mo_to (fun _ => g) 30 64 t = t + 64
      · have hq : ∀ a, t ≤ a → a < t + 64 → ν1 30 a = 0 := mo_to_0 64 t (et.symm.trans h2)
        have hB1 : mo_B ν1 := mo_B_fr (fr_w hf (by decide)) hB
        have hC1 : mo_C ν1 := mo_C_fr (hf 2 (by decide)) (hf 5 (by decide)) (hf 6 (by decide)) (hf 9 (by decide)) (hf 13 (by decide)) (hf 17 (by decide)) hC
        have hp1 : mo_p2s ν1 := by unfold mo_p2s; rw [hf 9 (by decide)]; exact hp2
        have hc1 : ν1 0 21 = c := (congrFun (hf 0 (by decide)) _).trans hc0
        refine sw_p 6 (f' := (9, [some (2, 0), some (0, x), some (0, t0), some (0, t)], [(2, 0), (0, t + 64), (0, t), (2, 0)])) rfl ?_
        refine sw_hA (pn := 12) (i := 6) (v := 6) rfl rfl rfl rfl rfl hs.1 (mo_s6 hs).1 (by omega) ?_
        refine sw_p 1 (f' := (13, [some (2, 0), some (0, x), some (0, t0), some (0, t)], [(2, 0), (2, 6), (0, t + 64), (0, t), (2, 0)])) rfl ?_
        refine sw_hA (pn := 16) (i := 3) (v := 3) rfl rfl rfl rfl rfl hs.1 (mo_s3 hs).1 (by omega) ?_
        refine sw_p 1 (f' := (17, [some (2, 0), some (0, x), some (0, t0), some (0, t)], [(2, 0), (2, 3), (2, 6), (0, t + 64), (0, t), (2, 0)])) rfl ?_
        refine sw_hA (pn := 20) (i := 14) (v := 14) rfl rfl rfl rfl rfl hs.1 (mo_s14 hs).1 (by omega) ?_
        refine sw_p 1 (f' := (21, [some (2, 0), some (0, x), some (0, t0), some (0, t)], [(2, 0), (2, 14), (2, 3), (2, 6), (0, t + 64), (0, t), (2, 0)])) rfl ?_
        refine sw_gI (pn := 24) (i := 21) rfl rfl rfl rfl rfl (by omega) hs.1 ?_
        rw [show ν1 0 21 = c from (congrFun (hf 0 (by decide)) _).trans hc0]
        refine sw_ial (pn := 25) (l := 40) rfl rfl (by omega) (mo_s14 hs).2.1 (mo_s14 hs).2.2 (by omega) (by omega) ?_
        rw [show ν1 14 c = ν 14 c from congrFun (hf 14 (by decide)) _]
        refine sw_ial (pn := 26) (l := 8) rfl rfl (by omega) (mo_s3 hs).2.1 (mo_s3 hs).2.2 (by omega) (by omega) ?_
        rw [show ν1 3 (ν 14 c) = ν 3 (ν 14 c) from congrFun (hf 3 (by decide)) _]
        refine sw_ial (pn := 27) (l := 8) rfl rfl (by omega) (mo_s6 hs).2.1 (mo_s6 hs).2.2 (by omega) (by omega) ?_
        rw [show ν1 6 (ν 3 (ν 14 c)) = l from (congrFun (hf 6 (by decide)) _).trans hl]
        refine sw_cv1 (pn := 30) (q0 := mj_Mo_growsFrom) (q := mj_Mo_isFree) (p := 0) (as2 := [(0, t), (0, t + 64), (0, l)]) (L2 := [some (2, 0), some (0, t), some (0, t + 64), some (0, l), none, none]) (rest := []) (v := some (0, 1)) (s1 := s) (ν1 := ν1) rfl rfl rfl rfl rfl rfl rfl rfl rfl hs.1 (mo_isFree_1 hs (by intro a h1 h2; rw [hf 30 (by decide)]; exact h30 a h1 h2) (by omega) (by omega) (by omega) (by omega) (by omega) hq) ?_
        show sw_w E _ 103 (30, [some (2, 0), some (0, x), some (0, t0), some (0, t)], [(0, 1)]) s ν1 _
        refine sw_eq1 (pt := 49) (pn := 33) rfl rfl rfl (by omega) (fun h => absurd h (by decide)) (fun _ => ?_)
        refine sw_p 7 (f' := (41, [some (2, 0), some (0, x), some (0, t0), some (0, t + 64)], [(0, t + 64), (0, x), (2, 0)])) rfl ?_
        refine sw_cv2 (pn := 44) (q0 := mj_Mo_growsFrom) (q := mj_Mo_fits) (p := 0) (as2 := [(0, x), (0, t + 64)]) (L2 := [some (2, 0), some (0, x), some (0, t + 64), none, none, none, none]) (rest := []) (s1 := s) rfl rfl rfl rfl rfl rfl rfl rfl rfl hs.1 (mo_fits (d := d) hs hB1 hC1 h29 hc1 hc hx (by omega)) (fun v ν2 hv => ?_)
        have hv := ft_P_fr hf (ft_P_q (q' := fun _ => 0) hB1 hc hp1 hv)
        rw [ff_r_fr (hf 2 (by decide)) (hf 5 (by decide)) (hf 6 (by decide)) (hf 9 (by decide)) (hf 13 (by decide)) (hf 14 (by decide)) (hf 17 (by decide))] at hv
        rcases hfr : ff_r ν c x (t + 64) (fun _ => 0) with _ | q
        · skip
          rw [hfr] at hv
          obtain ⟨hb2, rfl, hf2⟩ := hv
          show sw_w E _ 103 (44, [some (2, 0), some (0, x), some (0, t0), some (0, t + 64)], [(0, 0)]) s ν2 _
          refine sw_eq1 (pt := 2) (pn := 47) rfl rfl rfl (by omega) (fun _ => ?_) (fun h => absurd h (by decide))
          rw [show gf_r ν c x l g (n + 1) t = gf_r ν c x l g n (t + 64) from (if_pos ⟨h1, h2⟩).trans (by rw [hfr])]
          exact ih (t + 64) ν2 (fr_tr hf2 fr_rfl (qs := []) (by decide) (by decide)) hb2 (by omega) (by omega) (by omega) (fun a h4 h5 => hg a (by omega) h5)
        · skip
          rw [hfr] at hv
          have hv0 := hv
          obtain ⟨hb2, rfl, hf2⟩ := hv
          show sw_w E _ 103 (44, [some (2, 0), some (0, x), some (0, t0), some (0, t + 64)], [(0, 1)]) s ν2 _
          refine sw_eq1 (pt := 2) (pn := 47) rfl rfl rfl (by omega) (fun h => absurd h (by decide)) (fun _ => ?_)
          refine sw_p 1 (f' := (48, [some (2, 0), some (0, x), some (0, t0), some (0, t + 64)], [(0, 1)])) rfl ?_
          exact sw_retZ rfl rfl rfl (by omega) ⟨_, rfl, rfl, by rw [show gf_r ν c x l g (n + 1) t = some (x, t + 64, q) from (if_pos ⟨h1, h2⟩).trans (by rw [hfr])]; exact hv0⟩
      · have hq : ∃ a, t ≤ a ∧ a < t + 64 ∧ ν1 30 a ≠ 0 := mo_to_1 64 t (by rw [← et]; exact h2)
        refine sw_p 6 (f' := (9, [some (2, 0), some (0, x), some (0, t0), some (0, t)], [(2, 0), (0, t + 64), (0, t), (2, 0)])) rfl ?_
        refine sw_hA (pn := 12) (i := 6) (v := 6) rfl rfl rfl rfl rfl hs.1 (mo_s6 hs).1 (by omega) ?_
        refine sw_p 1 (f' := (13, [some (2, 0), some (0, x), some (0, t0), some (0, t)], [(2, 0), (2, 6), (0, t + 64), (0, t), (2, 0)])) rfl ?_
        refine sw_hA (pn := 16) (i := 3) (v := 3) rfl rfl rfl rfl rfl hs.1 (mo_s3 hs).1 (by omega) ?_
        refine sw_p 1 (f' := (17, [some (2, 0), some (0, x), some (0, t0), some (0, t)], [(2, 0), (2, 3), (2, 6), (0, t + 64), (0, t), (2, 0)])) rfl ?_
        refine sw_hA (pn := 20) (i := 14) (v := 14) rfl rfl rfl rfl rfl hs.1 (mo_s14 hs).1 (by omega) ?_
        refine sw_p 1 (f' := (21, [some (2, 0), some (0, x), some (0, t0), some (0, t)], [(2, 0), (2, 14), (2, 3), (2, 6), (0, t + 64), (0, t), (2, 0)])) rfl ?_
        refine sw_gI (pn := 24) (i := 21) rfl rfl rfl rfl rfl (by omega) hs.1 ?_
        rw [show ν1 0 21 = c from (congrFun (hf 0 (by decide)) _).trans hc0]
        refine sw_ial (pn := 25) (l := 40) rfl rfl (by omega) (mo_s14 hs).2.1 (mo_s14 hs).2.2 (by omega) (by omega) ?_
        rw [show ν1 14 c = ν 14 c from congrFun (hf 14 (by decide)) _]
        refine sw_ial (pn := 26) (l := 8) rfl rfl (by omega) (mo_s3 hs).2.1 (mo_s3 hs).2.2 (by omega) (by omega) ?_
        rw [show ν1 3 (ν 14 c) = ν 3 (ν 14 c) from congrFun (hf 3 (by decide)) _]
        refine sw_ial (pn := 27) (l := 8) rfl rfl (by omega) (mo_s6 hs).2.1 (mo_s6 hs).2.2 (by omega) (by omega) ?_
        rw [show ν1 6 (ν 3 (ν 14 c)) = l from (congrFun (hf 6 (by decide)) _).trans hl]
        refine sw_cv1 (pn := 30) (q0 := mj_Mo_growsFrom) (q := mj_Mo_isFree) (p := 0) (as2 := [(0, t), (0, t + 64), (0, l)]) (L2 := [some (2, 0), some (0, t), some (0, t + 64), some (0, l), none, none]) (rest := []) (v := some (0, 0)) (s1 := s) (ν1 := ν1) rfl rfl rfl rfl rfl rfl rfl rfl rfl hs.1 (mo_isFree_0 hs (by intro a h1 h2; rw [hf 30 (by decide)]; exact h30 a h1 h2) (by omega) (by omega) (by omega) (by omega) (by omega) hq) ?_
        show sw_w E _ 103 (30, [some (2, 0), some (0, x), some (0, t0), some (0, t)], [(0, 0)]) s ν1 _
        refine sw_eq1 (pt := 49) (pn := 33) rfl rfl rfl (by omega) (fun _ => ?_) (fun h => absurd h (by decide))
        refine sw_p 1 (f' := (50, [some (2, 0), some (0, x), some (0, t0), some (0, t)], [(0, 0)])) rfl ?_
        exact sw_retZ rfl rfl rfl (by omega) ⟨_, rfl, rfl, by rw [show gf_r ν c x l g (n + 1) t = none from if_neg (fun h => h2 h.2)]; exact ⟨h29, rfl, hf⟩⟩
    · skip
      refine sw_p 6 (f' := (9, [some (2, 0), some (0, x), some (0, t0), some (0, t)], [(2, 0), (0, t + 64), (0, t), (2, 0)])) rfl ?_
      refine sw_hA (pn := 12) (i := 6) (v := 6) rfl rfl rfl rfl rfl hs.1 (mo_s6 hs).1 (by omega) ?_
      refine sw_p 1 (f' := (13, [some (2, 0), some (0, x), some (0, t0), some (0, t)], [(2, 0), (2, 6), (0, t + 64), (0, t), (2, 0)])) rfl ?_
      refine sw_hA (pn := 16) (i := 3) (v := 3) rfl rfl rfl rfl rfl hs.1 (mo_s3 hs).1 (by omega) ?_
      refine sw_p 1 (f' := (17, [some (2, 0), some (0, x), some (0, t0), some (0, t)], [(2, 0), (2, 3), (2, 6), (0, t + 64), (0, t), (2, 0)])) rfl ?_
      refine sw_hA (pn := 20) (i := 14) (v := 14) rfl rfl rfl rfl rfl hs.1 (mo_s14 hs).1 (by omega) ?_
      refine sw_p 1 (f' := (21, [some (2, 0), some (0, x), some (0, t0), some (0, t)], [(2, 0), (2, 14), (2, 3), (2, 6), (0, t + 64), (0, t), (2, 0)])) rfl ?_
      refine sw_gI (pn := 24) (i := 21) rfl rfl rfl rfl rfl (by omega) hs.1 ?_
      rw [show ν1 0 21 = c from (congrFun (hf 0 (by decide)) _).trans hc0]
      refine sw_ial (pn := 25) (l := 40) rfl rfl (by omega) (mo_s14 hs).2.1 (mo_s14 hs).2.2 (by omega) (by omega) ?_
      rw [show ν1 14 c = ν 14 c from congrFun (hf 14 (by decide)) _]
      refine sw_ial (pn := 26) (l := 8) rfl rfl (by omega) (mo_s3 hs).2.1 (mo_s3 hs).2.2 (by omega) (by omega) ?_
      rw [show ν1 3 (ν 14 c) = ν 3 (ν 14 c) from congrFun (hf 3 (by decide)) _]
      refine sw_ial (pn := 27) (l := 8) rfl rfl (by omega) (mo_s6 hs).2.1 (mo_s6 hs).2.2 (by omega) (by omega) ?_
      rw [show ν1 6 (ν 3 (ν 14 c)) = l from (congrFun (hf 6 (by decide)) _).trans hl]
      refine sw_cv1 (pn := 30) (q0 := mj_Mo_growsFrom) (q := mj_Mo_isFree) (p := 0) (as2 := [(0, t), (0, t + 64), (0, l)]) (L2 := [some (2, 0), some (0, t), some (0, t + 64), some (0, l), none, none]) (rest := []) (v := some (0, 0)) (s1 := s) (ν1 := ν1) rfl rfl rfl rfl rfl rfl rfl rfl rfl hs.1 (mo_isFree_2 (by omega) (by omega) (by omega) (by omega)) ?_
      show sw_w E _ 103 (30, [some (2, 0), some (0, x), some (0, t0), some (0, t)], [(0, 0)]) s ν1 _
      refine sw_eq1 (pt := 49) (pn := 33) rfl rfl rfl (by omega) (fun _ => ?_) (fun h => absurd h (by decide))
      refine sw_p 1 (f' := (50, [some (2, 0), some (0, x), some (0, t0), some (0, t)], [(0, 0)])) rfl ?_
      exact sw_retZ rfl rfl rfl (by omega) ⟨_, rfl, rfl, by rw [show gf_r ν c x l g (n + 1) t = none from if_neg (fun h => h1 h.1)]; exact ⟨h29, rfl, hf⟩⟩
theorem mo_growsFrom (hs : mo_sh s) (hB : mo_B ν) (hC : mo_C ν) (hp2 : mo_p2s ν) (hc0 : ν 0 21 = c) (hc : 0 ≤ c ∧ c < 40) (h29 : mo_b1 ν 29) (h30 : mo_b1 ν 30) (hov : 0 ≤ ν 3 (ν 14 c)) (hl : ν 6 (ν 3 (ν 14 c)) = l) (hx : 0 ≤ x ∧ x ≤ 4096) (ht : 0 ≤ t ∧ t ≤ 4096) (hg : ∀ a, t ≤ a → a < l → ν 30 a = g a) : sw_w E (d + 3) 103 (0, [some (2, 0), some (0, x), some (0, t), none], []) s ν (sw_vr (gr_P ν c (gf_r ν c x l g 64 t)) s) := by
  have hcd := hB.cd c hc.1 hc.2
  have h3 := hB.ov (ν 14 c) (by omega) (by omega)
  have hlb := (hC.2.1 (ν 3 (ν 14 c)) (by omega) (by omega)).2
  refine sw_p 2 (f' := (2, [some (2, 0), some (0, x), some (0, t), some (0, t)], [])) rfl ?_
  exact mo_gf_l hs hB hC hp2 hc0 hc h30 hov hl hx (by omega) 64 t ν fr_rfl h29 ht.1 ht.2 (by omega) hg
theorem gf_r_fr {ν ν' : mm_T} {c x l : Int} {g : Int → Int} (h2 : ν' 2 = ν 2) (h5 : ν' 5 = ν 5) (h6 : ν' 6 = ν 6) (h9 : ν' 9 = ν 9) (h13 : ν' 13 = ν 13) (h14 : ν' 14 = ν 14) (h17 : ν' 17 = ν 17) : ∀ (n : Nat) (t : Int), gf_r ν' c x l g n t = gf_r ν c x l g n t
  | 0, _ => rfl
  | n + 1, t => by
    unfold gf_r
    rw [ff_r_fr h2 h5 h6 h9 h13 h14 h17, gf_r_fr h2 h5 h6 h9 h13 h14 h17 n]
/-- a closed opening: from which place on it may grow -/
def gs_r (ν : mm_T) (c l : Int) (g : Int → Int) : Nat → Int → Option (Int × Int × (Int → Int))
  | 0, _ => none
  | n + 1, f => if f < l then (match gf_r ν c f l g 64 f with
    | some r => some r
    | none => gs_r ν c l g n (f + 64)) else none
theorem gs_r_fr {ν ν' : mm_T} {c l : Int} {g : Int → Int} (h2 : ν' 2 = ν 2) (h5 : ν' 5 = ν 5) (h6 : ν' 6 = ν 6) (h9 : ν' 9 = ν 9) (h13 : ν' 13 = ν 13) (h14 : ν' 14 = ν 14) (h17 : ν' 17 = ν 17) : ∀ (n : Nat) (t : Int), gs_r ν' c l g n t = gs_r ν c l g n t
  | 0, _ => rfl
  | n + 1, t => by
    unfold gs_r
    rw [gf_r_fr h2 h5 h6 h9 h13 h14 h17, gs_r_fr h2 h5 h6 h9 h13 h14 h17 n]
def gr_r (ν : mm_T) (c : Int) : Option (Int × Int × (Int → Int)) := if ν 3 (ν 14 c) < 0 then none else if ν 5 (ν 14 c) < ν 6 (ν 14 c) then gf_r ν c (ν 5 (ν 14 c)) (ν 6 (ν 3 (ν 14 c))) (oc_m ν (ν 3 (ν 14 c)) (ν 14 c)) 64 (ν 6 (ν 14 c)) else gs_r ν c (ν 6 (ν 3 (ν 14 c))) (oc_m ν (ν 3 (ν 14 c)) (ν 14 c)) 64 (ν 5 (ν 3 (ν 14 c)))
theorem gr_r_fr {ν ν' : mm_T} {c : Int} (h2 : ν' 2 = ν 2) (h3 : ν' 3 = ν 3) (h5 : ν' 5 = ν 5) (h6 : ν' 6 = ν 6) (h9 : ν' 9 = ν 9) (h13 : ν' 13 = ν 13) (h14 : ν' 14 = ν 14) (h17 : ν' 17 = ν 17) : gr_r ν' c = gr_r ν c := by
  unfold gr_r
  rw [gf_r_fr h2 h5 h6 h9 h13 h14 h17, gs_r_fr h2 h5 h6 h9 h13 h14 h17, oc_fr h2 h5 h6 h9 h13 h17, h3, h5, h6, h14]
/-- the ends of fits or grows -/
def pl_P (ν : mm_T) (c : Int) (r : Option (Int × Int × (Int → Int))) (v : Option mg_V) (ν' : mm_T) : Prop := mo_b1 ν' 29 ∧ mo_b1 ν' 30 ∧ match r with
  | none => v = some (0, 0) ∧ fr_r [29, 18, 30] ν ν'
  | some (x, e, q) => v = some (0, 1) ∧ fr_r [29, 18, 30, 17, 5, 6] ν ν' ∧ (∀ i, ν' 17 i = if 3 * c ≤ i ∧ i < 3 * c + 3 then (if 0 < ν 9 (3 * ν 13 c + (i - 3 * c)) then q (i - 3 * c) else -1) else ν 17 i) ∧ (∀ i, ν' 5 i = if i = ν 14 c then x else ν 5 i) ∧ (∀ i, ν' 6 i = if i = ν 14 c then e else ν 6 i)
theorem gr_up {ν ν0 ν' : mm_T} {c : Int} {r : Option (Int × Int × (Int → Int))} {v : Option mg_V} (hf : fr_r [29, 18, 30] ν ν0) (h30 : mo_b1 ν0 30) (h : gr_P ν0 c r v ν') : pl_P ν c r v ν' := by
  rcases r with _ | ⟨x, e, q⟩
  · obtain ⟨h1, h2, h3⟩ := h
    exact ⟨h1, by unfold mo_b1; rw [h3 30 (by decide)]; exact h30, h2, fr_tr hf h3 (by decide) (by decide)⟩
  · obtain ⟨h1, g1, g2, g3, g4, g5⟩ := h
    rw [hf 5 (by decide)] at g4
    rw [hf 6 (by decide)] at g5
    rw [hf 14 (by decide)] at g4 g5
    rw [hf 17 (by decide), hf 9 (by decide), hf 13 (by decide)] at g3
    exact ⟨h1, by unfold mo_b1; rw [g2 30 (by decide)]; exact h30, g1, fr_tr hf g2 (by decide) (by decide), g3, g4, g5⟩
theorem gr_P_fr {ν ν0 ν' : mm_T} {c : Int} {r : Option (Int × Int × (Int → Int))} {v : Option mg_V} (hf : fr_r [29, 18] ν ν0) (h : gr_P ν0 c r v ν') : gr_P ν c r v ν' := by
  rcases r with _ | ⟨x, e, q⟩
  · exact ft_P_fr (c := c) (x := 0) (e := 0) (r := none) hf h
  · exact ft_P_fr (x := x) (e := e) (r := some q) hf h
theorem mo_gs_l {u : Int} (hs : mo_sh s) (hB : mo_B ν) (hC : mo_C ν) (hp2 : mo_p2s ν) (hc0 : ν 0 21 = c) (hc : 0 ≤ c ∧ c < 40) (h30 : mo_b1 ν 30) (hb : ν 14 c = b) (hu : ν 3 b = u) (hu0 : 0 ≤ u) (hl : ν 6 u = l) (hg : ∀ a, lo ≤ a → a < l → ν 30 a = g a) : ∀ (n : Nat) (f : Int) (ν1 : mm_T), fr_r [29, 18] ν ν1 → mo_b1 ν1 29 → 0 ≤ f → lo ≤ f → l ≤ f + 64 * n → f ≤ 4096 + 64 → sw_w E (d + 4) 102 (89, [some (2, 0), some (0, b), some (0, u), some (0, f)], []) s ν1 (sw_vr (gr_P ν c (gs_r ν c l g n f)) s) := by
  intro n
  induction n with
  | zero =>
    intro f ν1 hf h29 hf0 hlo hn hf1
    have hcd := hB.cd c hc.1 hc.2
    have h3 := hB.ov b (by omega) (by omega)
    have hlb := (hC.2.1 u (by omega) (by omega)).2
    refine sw_p 2 (f' := (91, [some (2, 0), some (0, b), some (0, u), some (0, f)], [(2, 0), (0, f)])) rfl ?_
    refine sw_hA (pn := 94) (i := 6) (v := 6) rfl rfl rfl rfl rfl hs.1 (mo_s6 hs).1 (by omega) ?_
    refine sw_p 1 (f' := (95, [some (2, 0), some (0, b), some (0, u), some (0, f)], [(0, u), (2, 6), (0, f)])) rfl ?_
    refine sw_ial (pn := 96) (l := 8) rfl rfl (by omega) (mo_s6 hs).2.1 (mo_s6 hs).2.2 (by omega) (by omega) ?_
    rw [show ν1 6 u = l from (congrFun (hf 6 (by decide)) _).trans hl]
    refine sw_ge2 (pt := 118) (pn := 99) rfl rfl rfl (by omega) (by omega) (fun h1 => ?_) (fun h => absurd h (by omega))
    refine sw_p 1 (f' := (119, [some (2, 0), some (0, b), some (0, u), some (0, f)], [(0, 0)])) rfl ?_
    exact sw_retZ rfl rfl rfl (by omega) ⟨_, rfl, rfl, ⟨h29, rfl, hf⟩⟩
  | succ n ih =>
    intro f ν1 hf h29 hf0 hlo hn hf1
    have hcd := hB.cd c hc.1 hc.2
    have h3 := hB.ov b (by omega) (by omega)
    have hlb := (hC.2.1 u (by omega) (by omega)).2
    have hB1 : mo_B ν1 := mo_B_fr (fr_w hf (by decide)) hB
    have hC1 : mo_C ν1 := mo_C_fr (hf 2 (by decide)) (hf 5 (by decide)) (hf 6 (by decide)) (hf 9 (by decide)) (hf 13 (by decide)) (hf 17 (by decide)) hC
    have hp1 : mo_p2s ν1 := by unfold mo_p2s; rw [hf 9 (by decide)]; exact hp2
    have hc1 : ν1 0 21 = c := (congrFun (hf 0 (by decide)) _).trans hc0
    have hb30 : mo_b1 ν1 30 := by unfold mo_b1; rw [hf 30 (by decide)]; exact h30
    have hov1 : 0 ≤ ν1 3 (ν1 14 c) := by rw [hf 3 (by decide), hf 14 (by decide), hb, hu]; exact hu0
    have hl1 : ν1 6 (ν1 3 (ν1 14 c)) = l := by rw [hf 6 (by decide), hf 3 (by decide), hf 14 (by decide), hb, hu]; exact hl
    by_cases hfl : f < l
    · skip
      refine sw_p 2 (f' := (91, [some (2, 0), some (0, b), some (0, u), some (0, f)], [(2, 0), (0, f)])) rfl ?_
      refine sw_hA (pn := 94) (i := 6) (v := 6) rfl rfl rfl rfl rfl hs.1 (mo_s6 hs).1 (by omega) ?_
      refine sw_p 1 (f' := (95, [some (2, 0), some (0, b), some (0, u), some (0, f)], [(0, u), (2, 6), (0, f)])) rfl ?_
      refine sw_ial (pn := 96) (l := 8) rfl rfl (by omega) (mo_s6 hs).2.1 (mo_s6 hs).2.2 (by omega) (by omega) ?_
      rw [show ν1 6 u = l from (congrFun (hf 6 (by decide)) _).trans hl]
      refine sw_ge2 (pt := 118) (pn := 99) rfl rfl rfl (by omega) (by omega) (fun h => absurd h (by omega)) (fun h1 => ?_)
      refine sw_p 3 (f' := (102, [some (2, 0), some (0, b), some (0, u), some (0, f)], [(0, f), (0, f), (2, 0)])) rfl ?_
      refine sw_cv2 (pn := 105) (q0 := mj_Mo_grows) (q := mj_Mo_growsFrom) (p := 0) (as2 := [(0, f), (0, f)]) (L2 := [some (2, 0), some (0, f), some (0, f), none]) (rest := []) (s1 := s) rfl rfl rfl rfl rfl rfl rfl rfl rfl hs.1 (mo_growsFrom (d := d) (g := g) hs hB1 hC1 hp1 hc1 hc h29 hb30 hov1 hl1 (by omega) (by omega) (fun a h1 h2 => (congrFun (hf 30 (by decide)) _).trans (hg a (by omega) h2))) (fun v ν2 hv => ?_)
      have hv := gr_P_fr hf hv
      rw [gf_r_fr (hf 2 (by decide)) (hf 5 (by decide)) (hf 6 (by decide)) (hf 9 (by decide)) (hf 13 (by decide)) (hf 14 (by decide)) (hf 17 (by decide))] at hv
      rcases hfr : gf_r ν c f l g 64 f with _ | ⟨x1, e1, q1⟩
      · skip
        rw [hfr] at hv
        obtain ⟨hb2, rfl, hf2⟩ := hv
        show sw_w E _ 102 (105, [some (2, 0), some (0, b), some (0, u), some (0, f)], [(0, 0)]) s ν2 _
        refine sw_eq1 (pt := 110) (pn := 108) rfl rfl rfl (by omega) (fun _ => ?_) (fun h => absurd h (by decide))
        refine sw_p 5 (f' := (89, [some (2, 0), some (0, b), some (0, u), some (0, f + 64)], [])) rfl ?_
        rw [show gs_r ν c l g (n + 1) f = gs_r ν c l g n (f + 64) from (if_pos hfl).trans (by rw [hfr])]
        exact ih (f + 64) ν2 hf2 hb2 (by omega) (by omega) (by omega) (by omega)
      · skip
        rw [hfr] at hv
        have hv0 := hv
        obtain ⟨hb2, rfl, hf2⟩ := hv
        show sw_w E _ 102 (105, [some (2, 0), some (0, b), some (0, u), some (0, f)], [(0, 1)]) s ν2 _
        refine sw_eq1 (pt := 110) (pn := 108) rfl rfl rfl (by omega) (fun h => absurd h (by decide)) (fun _ => ?_)
        refine sw_p 1 (f' := (109, [some (2, 0), some (0, b), some (0, u), some (0, f)], [(0, 1)])) rfl ?_
        exact sw_retZ rfl rfl rfl (by omega) ⟨_, rfl, rfl, by rw [show gs_r ν c l g (n + 1) f = some (x1, e1, q1) from (if_pos hfl).trans (by rw [hfr])]; exact hv0⟩
    · skip
      refine sw_p 2 (f' := (91, [some (2, 0), some (0, b), some (0, u), some (0, f)], [(2, 0), (0, f)])) rfl ?_
      refine sw_hA (pn := 94) (i := 6) (v := 6) rfl rfl rfl rfl rfl hs.1 (mo_s6 hs).1 (by omega) ?_
      refine sw_p 1 (f' := (95, [some (2, 0), some (0, b), some (0, u), some (0, f)], [(0, u), (2, 6), (0, f)])) rfl ?_
      refine sw_ial (pn := 96) (l := 8) rfl rfl (by omega) (mo_s6 hs).2.1 (mo_s6 hs).2.2 (by omega) (by omega) ?_
      rw [show ν1 6 u = l from (congrFun (hf 6 (by decide)) _).trans hl]
      refine sw_ge2 (pt := 118) (pn := 99) rfl rfl rfl (by omega) (by omega) (fun h1 => ?_) (fun h => absurd h (by omega))
      refine sw_p 1 (f' := (119, [some (2, 0), some (0, b), some (0, u), some (0, f)], [(0, 0)])) rfl ?_
      exact sw_retZ rfl rfl rfl (by omega) ⟨_, rfl, rfl, by rw [show gs_r ν c l g (n + 1) f = none from if_neg hfl]; exact ⟨h29, rfl, hf⟩⟩
theorem mo_grows (hs : mo_sh s) (hB : mo_B ν) (hC : mo_C ν) (hp2 : mo_p2s ν) (hc0 : ν 0 21 = c) (hc : 0 ≤ c ∧ c < 40) (h29 : mo_b1 ν 29) (h30 : mo_b1 ν 30) (hin : 0 ≤ ν 3 (ν 14 c) → ν 5 (ν 14 c) < ν 6 (ν 14 c) → ν 5 (ν 3 (ν 14 c)) ≤ ν 6 (ν 14 c)) : sw_w E (d + 4) 102 (0, [some (2, 0), none, none, none], []) s ν (sw_vr (pl_P ν c (gr_r ν c)) s) := by
  have hcd := hB.cd c hc.1 hc.2
  have h3 := hB.ov (ν 14 c) (by omega) (by omega)
  have hob := hC.2.1 (ν 14 c) (by omega) (by omega)
  by_cases hu : ν 3 (ν 14 c) < 0
  · skip
    refine sw_p 1 (f' := (1, [some (2, 0), none, none, none], [(2, 0)])) rfl ?_
    refine sw_hA (pn := 4) (i := 14) (v := 14) rfl rfl rfl rfl rfl hs.1 (mo_s14 hs).1 (by omega) ?_
    refine sw_p 1 (f' := (5, [some (2, 0), none, none, none], [(2, 0), (2, 14)])) rfl ?_
    refine sw_gI (pn := 8) (i := 21) rfl rfl rfl rfl rfl (by omega) hs.1 ?_
    rw [show ν 0 21 = c from hc0]
    refine sw_ial (pn := 9) (l := 40) rfl rfl (by omega) (mo_s14 hs).2.1 (mo_s14 hs).2.2 (by omega) (by omega) ?_
    refine sw_p 2 (f' := (11, [some (2, 0), some (0, ν 14 c), none, none], [(2, 0)])) rfl ?_
    refine sw_hA (pn := 14) (i := 3) (v := 3) rfl rfl rfl rfl rfl hs.1 (mo_s3 hs).1 (by omega) ?_
    refine sw_p 1 (f' := (15, [some (2, 0), some (0, ν 14 c), none, none], [(0, ν 14 c), (2, 3)])) rfl ?_
    refine sw_ial (pn := 16) (l := 8) rfl rfl (by omega) (mo_s3 hs).2.1 (mo_s3 hs).2.2 (by omega) (by omega) ?_
    refine sw_ge1 (pt := 21) (pn := 19) rfl rfl rfl (by omega) (fun h => absurd h (by omega)) (fun h1 => ?_)
    refine sw_p 1 (f' := (20, [some (2, 0), some (0, ν 14 c), none, none], [(0, 0)])) rfl ?_
    exact sw_retZ rfl rfl rfl (by omega) ⟨_, rfl, rfl, by rw [show gr_r ν c = none from if_pos hu]; exact ⟨h29, h30, rfl, fr_rfl⟩⟩
  · have hub := hC.2.1 (ν 3 (ν 14 c)) (by omega) (by omega)
    refine sw_p 1 (f' := (1, [some (2, 0), none, none, none], [(2, 0)])) rfl ?_
    refine sw_hA (pn := 4) (i := 14) (v := 14) rfl rfl rfl rfl rfl hs.1 (mo_s14 hs).1 (by omega) ?_
    refine sw_p 1 (f' := (5, [some (2, 0), none, none, none], [(2, 0), (2, 14)])) rfl ?_
    refine sw_gI (pn := 8) (i := 21) rfl rfl rfl rfl rfl (by omega) hs.1 ?_
    rw [show ν 0 21 = c from hc0]
    refine sw_ial (pn := 9) (l := 40) rfl rfl (by omega) (mo_s14 hs).2.1 (mo_s14 hs).2.2 (by omega) (by omega) ?_
    refine sw_p 2 (f' := (11, [some (2, 0), some (0, ν 14 c), none, none], [(2, 0)])) rfl ?_
    refine sw_hA (pn := 14) (i := 3) (v := 3) rfl rfl rfl rfl rfl hs.1 (mo_s3 hs).1 (by omega) ?_
    refine sw_p 1 (f' := (15, [some (2, 0), some (0, ν 14 c), none, none], [(0, ν 14 c), (2, 3)])) rfl ?_
    refine sw_ial (pn := 16) (l := 8) rfl rfl (by omega) (mo_s3 hs).2.1 (mo_s3 hs).2.2 (by omega) (by omega) ?_
    refine sw_ge1 (pt := 21) (pn := 19) rfl rfl rfl (by omega) (fun m1 => ?_) (fun h => absurd h (by omega))
    refine sw_p 1 (f' := (22, [some (2, 0), some (0, ν 14 c), none, none], [(2, 0)])) rfl ?_
    refine sw_hA (pn := 25) (i := 3) (v := 3) rfl rfl rfl rfl rfl hs.1 (mo_s3 hs).1 (by omega) ?_
    refine sw_p 1 (f' := (26, [some (2, 0), some (0, ν 14 c), none, none], [(0, ν 14 c), (2, 3)])) rfl ?_
    refine sw_ial (pn := 27) (l := 8) rfl rfl (by omega) (mo_s3 hs).2.1 (mo_s3 hs).2.2 (by omega) (by omega) ?_
    refine sw_p 4 (f' := (31, [some (2, 0), some (0, ν 14 c), some (0, ν 3 (ν 14 c)), none], [(2, 0), (0, ν 3 (ν 14 c)), (2, 0)])) rfl ?_
    refine sw_hA (pn := 34) (i := 5) (v := 5) rfl rfl rfl rfl rfl hs.1 (mo_s5 hs).1 (by omega) ?_
    refine sw_p 1 (f' := (35, [some (2, 0), some (0, ν 14 c), some (0, ν 3 (ν 14 c)), none], [(0, ν 3 (ν 14 c)), (2, 5), (0, ν 3 (ν 14 c)), (2, 0)])) rfl ?_
    refine sw_ial (pn := 36) (l := 8) rfl rfl (by omega) (mo_s5 hs).2.1 (mo_s5 hs).2.2 (by omega) (by omega) ?_
    refine sw_p 1 (f' := (37, [some (2, 0), some (0, ν 14 c), some (0, ν 3 (ν 14 c)), none], [(2, 0), (0, ν 5 (ν 3 (ν 14 c))), (0, ν 3 (ν 14 c)), (2, 0)])) rfl ?_
    refine sw_hA (pn := 40) (i := 6) (v := 6) rfl rfl rfl rfl rfl hs.1 (mo_s6 hs).1 (by omega) ?_
    refine sw_p 1 (f' := (41, [some (2, 0), some (0, ν 14 c), some (0, ν 3 (ν 14 c)), none], [(0, ν 3 (ν 14 c)), (2, 6), (0, ν 5 (ν 3 (ν 14 c))), (0, ν 3 (ν 14 c)), (2, 0)])) rfl ?_
    refine sw_ial (pn := 42) (l := 8) rfl rfl (by omega) (mo_s6 hs).2.1 (mo_s6 hs).2.2 (by omega) (by omega) ?_
    refine sw_p 2 (f' := (44, [some (2, 0), some (0, ν 14 c), some (0, ν 3 (ν 14 c)), none], [(2, 0), (0, ν 14 c), (0, ν 6 (ν 3 (ν 14 c))), (0, ν 5 (ν 3 (ν 14 c))), (0, ν 3 (ν 14 c)), (2, 0)])) rfl ?_
    refine sw_hA (pn := 47) (i := 30) (v := 30) rfl rfl rfl rfl rfl hs.1 (mo_s30 hs).1 (by omega) ?_
    refine sw_cv1 (pn := 50) (q0 := mj_Mo_grows) (q := mj_Mo_lookAt) (p := 0) (as2 := [(0, ν 3 (ν 14 c)), (0, ν 5 (ν 3 (ν 14 c))), (0, ν 6 (ν 3 (ν 14 c))), (0, ν 14 c), (2, 30)]) (L2 := [some (2, 0), some (0, ν 3 (ν 14 c)), some (0, ν 5 (ν 3 (ν 14 c))), some (0, ν 6 (ν 3 (ν 14 c))), some (0, ν 14 c), some (2, 30), none, none, none, none]) (rest := []) (v := none) (s1 := s) (ν1 := (mo_wr ν 30 (mo_look ν (ν 3 (ν 14 c)) (ν 5 (ν 3 (ν 14 c))) (ν 6 (ν 3 (ν 14 c))) (ν 14 c) 30))) rfl rfl rfl rfl rfl rfl rfl rfl rfl hs.1 (mo_lookAt hs hB hC (Or.inr rfl) (mo_s30 hs).2.1 (mo_s30 hs).2.2 (by omega) (by omega) (by omega) (by omega)) ?_
    show sw_w E _ 102 (50, [some (2, 0), some (0, ν 14 c), some (0, ν 3 (ν 14 c)), none], []) s (mo_wr ν 30 (mo_look ν (ν 3 (ν 14 c)) (ν 5 (ν 3 (ν 14 c))) (ν 6 (ν 3 (ν 14 c))) (ν 14 c) 30)) _
    obtain ⟨ν0, hν0⟩ : ∃ ν0, ν0 = (mo_wr ν 30 (mo_look ν (ν 3 (ν 14 c)) (ν 5 (ν 3 (ν 14 c))) (ν 6 (ν 3 (ν 14 c))) (ν 14 c) 30)) := ⟨_, rfl⟩
    rw [← hν0]
    have hf : fr_r [30] ν ν0 := fun p hp => by rw [hν0]; funext i; exact mo_wr_ne (fun h => hp (by rw [h]; decide))
    have hb30 : mo_b1 ν0 30 := fun a h1 h2 => by rw [hν0]; unfold mo_wr; rw [if_pos rfl]; exact mo_look_1 h30 a h1 h2
    have hg : ∀ a, ν 5 (ν 3 (ν 14 c)) ≤ a → a < ν 6 (ν 3 (ν 14 c)) → ν0 30 a = oc_m ν (ν 3 (ν 14 c)) (ν 14 c) a := fun a h1 h2 => by rw [hν0]; unfold mo_wr; rw [if_pos rfl]; exact mo_look_oc h1 h2
    have hB1 : mo_B ν0 := mo_B_fr (fr_w hf (by decide)) hB
    have hC1 : mo_C ν0 := mo_C_fr (hf 2 (by decide)) (hf 5 (by decide)) (hf 6 (by decide)) (hf 9 (by decide)) (hf 13 (by decide)) (hf 17 (by decide)) hC
    have hp1 : mo_p2s ν0 := by unfold mo_p2s; rw [hf 9 (by decide)]; exact hp2
    have hc1 : ν0 0 21 = c := (congrFun (hf 0 (by decide)) _).trans hc0
    have hb29 : mo_b1 ν0 29 := by unfold mo_b1; rw [hf 29 (by decide)]; exact h29
    clear hν0
    refine sw_p 1 (f' := (51, [some (2, 0), some (0, ν 14 c), some (0, ν 3 (ν 14 c)), none], [(2, 0)])) rfl ?_
    refine sw_hA (pn := 54) (i := 6) (v := 6) rfl rfl rfl rfl rfl hs.1 (mo_s6 hs).1 (by omega) ?_
    refine sw_p 1 (f' := (55, [some (2, 0), some (0, ν 14 c), some (0, ν 3 (ν 14 c)), none], [(0, ν 14 c), (2, 6)])) rfl ?_
    refine sw_ial (pn := 56) (l := 8) rfl rfl (by omega) (mo_s6 hs).2.1 (mo_s6 hs).2.2 (by omega) (by omega) ?_
    rw [show ν0 6 (ν 14 c) = ν 6 (ν 14 c) from congrFun (hf 6 (by decide)) _]
    refine sw_p 1 (f' := (57, [some (2, 0), some (0, ν 14 c), some (0, ν 3 (ν 14 c)), none], [(2, 0), (0, ν 6 (ν 14 c))])) rfl ?_
    refine sw_hA (pn := 60) (i := 5) (v := 5) rfl rfl rfl rfl rfl hs.1 (mo_s5 hs).1 (by omega) ?_
    refine sw_p 1 (f' := (61, [some (2, 0), some (0, ν 14 c), some (0, ν 3 (ν 14 c)), none], [(0, ν 14 c), (2, 5), (0, ν 6 (ν 14 c))])) rfl ?_
    refine sw_ial (pn := 62) (l := 8) rfl rfl (by omega) (mo_s5 hs).2.1 (mo_s5 hs).2.2 (by omega) (by omega) ?_
    rw [show ν0 5 (ν 14 c) = ν 5 (ν 14 c) from congrFun (hf 5 (by decide)) _]
    refine sw_le2 (pt := 82) (pn := 65) rfl rfl rfl (by omega) (by omega) (fun h1 => ?_) (fun h1 => ?_)
    · skip
      refine sw_p 1 (f' := (83, [some (2, 0), some (0, ν 14 c), some (0, ν 3 (ν 14 c)), none], [(2, 0)])) rfl ?_
      refine sw_hA (pn := 86) (i := 5) (v := 5) rfl rfl rfl rfl rfl hs.1 (mo_s5 hs).1 (by omega) ?_
      refine sw_p 1 (f' := (87, [some (2, 0), some (0, ν 14 c), some (0, ν 3 (ν 14 c)), none], [(0, ν 3 (ν 14 c)), (2, 5)])) rfl ?_
      refine sw_ial (pn := 88) (l := 8) rfl rfl (by omega) (mo_s5 hs).2.1 (mo_s5 hs).2.2 (by omega) (by omega) ?_
      rw [show ν0 5 (ν 3 (ν 14 c)) = ν 5 (ν 3 (ν 14 c)) from congrFun (hf 5 (by decide)) _]
      refine sw_p 1 (f' := (89, [some (2, 0), some (0, ν 14 c), some (0, ν 3 (ν 14 c)), some (0, ν 5 (ν 3 (ν 14 c)))], [])) rfl ?_
      have hz := mo_gs_l (E := E) (d := d) (s := s) (g := oc_m ν (ν 3 (ν 14 c)) (ν 14 c)) (lo := ν 5 (ν 3 (ν 14 c))) (l := ν 6 (ν 3 (ν 14 c))) (b := ν 14 c) (u := ν 3 (ν 14 c)) hs hB1 hC1 hp1 hc1 hc hb30 (congrFun (hf 14 (by decide)) _) (congrFun (hf 3 (by decide)) _) (by omega) (congrFun (hf 6 (by decide)) _) hg 64 (ν 5 (ν 3 (ν 14 c))) ν0 fr_rfl hb29 (by omega) (by omega) (by omega) (by omega)
      rw [gs_r_fr (hf 2 (by decide)) (hf 5 (by decide)) (hf 6 (by decide)) (hf 9 (by decide)) (hf 13 (by decide)) (hf 14 (by decide)) (hf 17 (by decide)), show gs_r ν c (ν 6 (ν 3 (ν 14 c))) (oc_m ν (ν 3 (ν 14 c)) (ν 14 c)) 64 (ν 5 (ν 3 (ν 14 c))) = gr_r ν c from ((if_neg hu).trans (if_neg (by omega))).symm] at hz
      exact sw_mono hz (fun o s2 ν2 ⟨v, e1, e2, e3⟩ => ⟨v, e1, e2, gr_up (fr_w hf (by decide)) hb30 e3⟩)
    · skip
      refine sw_p 2 (f' := (67, [some (2, 0), some (0, ν 14 c), some (0, ν 3 (ν 14 c)), none], [(2, 0), (2, 0)])) rfl ?_
      refine sw_hA (pn := 70) (i := 5) (v := 5) rfl rfl rfl rfl rfl hs.1 (mo_s5 hs).1 (by omega) ?_
      refine sw_p 1 (f' := (71, [some (2, 0), some (0, ν 14 c), some (0, ν 3 (ν 14 c)), none], [(0, ν 14 c), (2, 5), (2, 0)])) rfl ?_
      refine sw_ial (pn := 72) (l := 8) rfl rfl (by omega) (mo_s5 hs).2.1 (mo_s5 hs).2.2 (by omega) (by omega) ?_
      rw [show ν0 5 (ν 14 c) = ν 5 (ν 14 c) from congrFun (hf 5 (by decide)) _]
      refine sw_p 1 (f' := (73, [some (2, 0), some (0, ν 14 c), some (0, ν 3 (ν 14 c)), none], [(2, 0), (0, ν 5 (ν 14 c)), (2, 0)])) rfl ?_
      refine sw_hA (pn := 76) (i := 6) (v := 6) rfl rfl rfl rfl rfl hs.1 (mo_s6 hs).1 (by omega) ?_
      refine sw_p 1 (f' := (77, [some (2, 0), some (0, ν 14 c), some (0, ν 3 (ν 14 c)), none], [(0, ν 14 c), (2, 6), (0, ν 5 (ν 14 c)), (2, 0)])) rfl ?_
      refine sw_ial (pn := 78) (l := 8) rfl rfl (by omega) (mo_s6 hs).2.1 (mo_s6 hs).2.2 (by omega) (by omega) ?_
      rw [show ν0 6 (ν 14 c) = ν 6 (ν 14 c) from congrFun (hf 6 (by decide)) _]
      refine sw_cv2 (pn := 81) (q0 := mj_Mo_grows) (q := mj_Mo_growsFrom) (p := 0) (as2 := [(0, ν 5 (ν 14 c)), (0, ν 6 (ν 14 c))]) (L2 := [some (2, 0), some (0, ν 5 (ν 14 c)), some (0, ν 6 (ν 14 c)), none]) (rest := []) (s1 := s) rfl rfl rfl rfl rfl rfl rfl rfl rfl hs.1 (mo_growsFrom (d := d) (g := oc_m ν (ν 3 (ν 14 c)) (ν 14 c)) hs hB1 hC1 hp1 hc1 hc hb29 hb30 (by rw [hf 3 (by decide), hf 14 (by decide)]; omega) (by rw [hf 3 (by decide), hf 14 (by decide), hf 6 (by decide)]) (by omega) (by omega) (fun a h1 h2 => hg a (by omega) h2)) (fun v ν2 hv => ?_)
      rw [gf_r_fr (hf 2 (by decide)) (hf 5 (by decide)) (hf 6 (by decide)) (hf 9 (by decide)) (hf 13 (by decide)) (hf 14 (by decide)) (hf 17 (by decide)), show gf_r ν c (ν 5 (ν 14 c)) (ν 6 (ν 3 (ν 14 c))) (oc_m ν (ν 3 (ν 14 c)) (ν 14 c)) 64 (ν 6 (ν 14 c)) = gr_r ν c from ((if_neg hu).trans (if_pos h1)).symm] at hv
      have hv := gr_up (fr_w hf (by decide)) hb30 hv
      rcases hfr : gr_r ν c with _ | ⟨x1, e1, q1⟩
      · skip
        rw [hfr] at hv
        have hv0 := hv
        obtain ⟨hb2, hb3, rfl, hf2⟩ := hv
        show sw_w E _ 102 (81, [some (2, 0), some (0, ν 14 c), some (0, ν 3 (ν 14 c)), none], [(0, 0)]) s ν2 _
        exact sw_retZ rfl rfl rfl (by omega) ⟨_, rfl, rfl, hv0⟩
      · skip
        rw [hfr] at hv
        have hv0 := hv
        obtain ⟨hb2, hb3, rfl, hf2⟩ := hv
        show sw_w E _ 102 (81, [some (2, 0), some (0, ν 14 c), some (0, ν 3 (ν 14 c)), none], [(0, 1)]) s ν2 _
        exact sw_retZ rfl rfl rfl (by omega) ⟨_, rfl, rfl, hv0⟩
end GF
