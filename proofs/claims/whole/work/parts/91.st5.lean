/-! Stretches: addRanges, gather -/
/-- the stretch that range k of what is in slot i takes (a bridge's opening is range 0) -/
def iv_lo (ρ : mm_T) (i k : Int) : Int := if 100 ≤ ρ 2 i then (if ρ 17 (3 * (ρ 2 i - 100) + k) < 0 then 0 else ρ 17 (3 * (ρ 2 i - 100) + k)) else if 0 ≤ ρ 2 i ∧ k = 0 then ρ 5 (ρ 2 i) else 0
def iv_hi (ρ : mm_T) (i k : Int) : Int := if 100 ≤ ρ 2 i then (if ρ 17 (3 * (ρ 2 i - 100) + k) < 0 then 0 else ρ 17 (3 * (ρ 2 i - 100) + k) + ρ 9 (3 * ρ 13 (ρ 2 i - 100) + k)) else if 0 ≤ ρ 2 i ∧ k = 0 then ρ 6 (ρ 2 i) else 0
/-- what lies directly in one opening lies apart -/
def iv_D (ρ : mm_T) : Prop := ∀ i j k l, 0 ≤ i → i < 32 → 0 ≤ j → j < 32 → 0 ≤ k → k < 3 → 0 ≤ l → l < 3 → i / 4 = j / 4 → ¬ (i = j ∧ k = l) → iv_lo ρ i k < iv_hi ρ i k → iv_lo ρ j l < iv_hi ρ j l → iv_hi ρ i k ≤ iv_lo ρ j l ∨ iv_hi ρ j l ≤ iv_lo ρ i k
/-- what lies directly in an opening lies within it -/
def iv_W (ρ : mm_T) : Prop := ∀ i k, 0 ≤ i → i < 32 → 0 ≤ k → k < 3 → iv_lo ρ i k < iv_hi ρ i k → ρ 5 (i / 4) ≤ iv_lo ρ i k ∧ iv_hi ρ i k ≤ ρ 6 (i / 4)
/-- openings begin and end at multiples of 64 -/
def iv_O (ρ : mm_T) : Prop := (ρ 5 0 = 0 ∧ ρ 6 0 = 4096) ∧ ∀ b, 0 ≤ b → b < 8 → ρ 5 b % 64 = 0 ∧ ρ 6 b % 64 = 0 ∧ ρ 5 b ≤ ρ 6 b
/-- ranges stand where cards are there and sizes are not 0 -/
def iv_R (ρ : mm_T) : Prop := ∀ c k, 0 ≤ c → c < ρ 0 12 → 0 ≤ k → k < 3 → ((1 ≤ ρ 15 c ∧ ρ 15 c ≤ 3) ∧ 0 < ρ 9 (3 * ρ 13 c + k) ∧ 0 ≤ ρ 17 (3 * c + k)) ∨ (¬ ((1 ≤ ρ 15 c ∧ ρ 15 c ≤ 3) ∧ 0 < ρ 9 (3 * ρ 13 c + k)) ∧ ρ 17 (3 * c + k) = -1)
section ST5
variable {E : mv_E} {s ν ρ : mm_T} {f : Int → Int} {d : Nat} {a b c e i k n o p q r t u w x y z : Int} {g : Int → Int} {Q : nm_O → mm_T → mm_T → Prop} {o4 o5 : Option mg_V}
theorem st_cj (hp : 55 ≤ p ∧ p ≤ 63 ∧ 55 ≤ q ∧ q ≤ 63 ∧ 55 ≤ r ∧ r ≤ 63) {ν' : mm_T} (h : fr_r [p, q, r] ν ν') : cj_r ν ν' := fun o i h1 h2 h3 => congrFun (h o (by simp only [List.mem_cons, List.not_mem_nil, or_false]; omega)) i
theorem st_R (hp : 55 ≤ p ∧ p ≤ 63 ∧ 55 ≤ q ∧ q ≤ 63 ∧ 55 ≤ r ∧ r ≤ 63) (hI : iv_A ρ f) {ν' : mm_T} (h : fr_r [p, q, r] ν ν') (hR : pt_R s ν ρ f) : pt_R s ν' ρ f := pt_R_fr hI.1 (st_cj hp h) (fun _ _ => rfl) hR
theorem st_ar_k (hI : iv_A ρ f) (hR : pt_R s ν ρ f) (hs : st_sh s p q r) (hd : p ≠ q ∧ p ≠ r ∧ q ≠ r) (hp : 55 ≤ p ∧ p ≤ 63 ∧ 55 ≤ q ∧ q ≤ 63 ∧ 55 ≤ r ∧ r ≤ 63) (hc : 0 ≤ c ∧ c < ρ 0 12) (hk : 0 ≤ k ∧ k < 3) (hth : 1 ≤ ρ 15 c ∧ ρ 15 c ≤ 3) (hrg : iv_R ρ) (hI2 : st_I ν p q r g) (hn : ν p 2 < 12) (hf : ∀ a, ρ 17 (3 * c + k) ≤ a → a < ρ 17 (3 * c + k) + ρ 9 (3 * ρ 13 c + k) → g a = 0 ∨ ρ 17 (3 * c + k) < 0) (kk : ∀ ν', fr_r [p, q, r] ν ν' → ν' p 2 ≤ ν p 2 + 1 → st_I ν' p q r (mo_mk1 ρ c k g) → sw_w E (d + 1) 37 (2, [some (2, p), some (2, 300 + c), some (0, k + 1)], []) s ν' Q) : sw_w E (d + 1) 37 (2, [some (2, p), some (2, 300 + c), some (0, k)], []) s ν Q := by
  have h12 := hI.1.2.2.1
  have hcd := hI.1.cd c hc.1 (by omega)
  have hK := hI.2.2.2.2.2.1 c hc.1 hc.2
  have hsz := hI.1.2.2.2.2.2.2.2.2.2.2.2.1 (3 * ρ 13 c + k) (by omega) (by omega)
  have hcr := hI.2.1.2.2 c k hc.1 (by omega) hk.1 hk.2
  have hrk := hrg c k hc.1 hc.2 hk.1 hk.2
  by_cases hz : 0 < ρ 9 (3 * ρ 13 c + k)
  · have hr0 : 0 ≤ ρ 17 (3 * c + k) := by omega
    refine sw_p 2 (f' := (4, [some (2, p), some (2, 300 + c), some (0, k)], [(0, 3), (0, k)])) rfl ?_
    refine sw_ge2 (pt := 51) (pn := 7) rfl rfl rfl (by omega) (by omega) (fun h => absurd h (by omega)) (fun m1 => ?_)
    refine sw_p 1 (f' := (8, [some (2, p), some (2, 300 + c), some (0, k)], [(2, 300 + c)])) rfl ?_
    refine sw_hA (pn := 11) (i := 2) (v := 200 + ρ 13 c) rfl rfl rfl rfl rfl (hR.ca c (by omega) (by omega)).1 (hR.ca c (by omega) (by omega)).2.2.2.1 (by omega) ?_
    refine sw_hA (pn := 14) (i := 0) (v := 220 + (ρ 13 c)) rfl rfl rfl rfl rfl (hR.ty (ρ 13 c) (by omega) (by omega)).1 (hR.ty (ρ 13 c) (by omega) (by omega)).2.1.1 (by omega) ?_
    refine sw_p 1 (f' := (15, [some (2, p), some (2, 300 + c), some (0, k)], [(0, k), (2, 220 + (ρ 13 c))])) rfl ?_
    refine sw_ial (pn := 16) (l := 3) rfl rfl (by omega) (hR.ty ((ρ 13 c)) (by omega) (by omega)).2.1.2.1 (hR.ty ((ρ 13 c)) (by omega) (by omega)).2.1.2.2 (by omega) (by omega) ?_
    rw [show ν (220 + (ρ 13 c)) k = ρ 9 (3 * ((ρ 13 c)) + k) from ((hR.tn ((ρ 13 c)) (by omega) (by omega)).2 k (by omega) (by omega)).1]
    refine sw_le1 (pt := 45) (pn := 19) rfl rfl rfl (by omega) (fun h => absurd h (by omega)) (fun m2 => ?_)
    refine sw_p 2 (f' := (21, [some (2, p), some (2, 300 + c), some (0, k)], [(2, 300 + c), (2, p)])) rfl ?_
    refine sw_hA (pn := 24) (i := 3) (v := 340 + c) rfl rfl rfl rfl rfl (hR.ca c (by omega) (by omega)).1 (hR.ca c (by omega) (by omega)).2.2.2.2.1.1 (by omega) ?_
    refine sw_p 1 (f' := (25, [some (2, p), some (2, 300 + c), some (0, k)], [(0, k), (2, 340 + c), (2, p)])) rfl ?_
    refine sw_ial (pn := 26) (l := 3) rfl rfl (by omega) (hR.ca c (by omega) (by omega)).2.2.2.2.1.2.1 (hR.ca c (by omega) (by omega)).2.2.2.2.1.2.2 (by omega) (by omega) ?_
    rw [show ν (340 + c) k = ρ 17 (3 * c + k) from ((hR.cr c k (by omega) (by omega) (by omega) (by omega)).2 (by omega) (by omega))]
    refine sw_p 1 (f' := (27, [some (2, p), some (2, 300 + c), some (0, k)], [(2, 300 + c), (0, ρ 17 (3 * c + k)), (2, p)])) rfl ?_
    refine sw_hA (pn := 30) (i := 3) (v := 340 + c) rfl rfl rfl rfl rfl (hR.ca c (by omega) (by omega)).1 (hR.ca c (by omega) (by omega)).2.2.2.2.1.1 (by omega) ?_
    refine sw_p 1 (f' := (31, [some (2, p), some (2, 300 + c), some (0, k)], [(0, k), (2, 340 + c), (0, ρ 17 (3 * c + k)), (2, p)])) rfl ?_
    refine sw_ial (pn := 32) (l := 3) rfl rfl (by omega) (hR.ca c (by omega) (by omega)).2.2.2.2.1.2.1 (hR.ca c (by omega) (by omega)).2.2.2.2.1.2.2 (by omega) (by omega) ?_
    rw [show ν (340 + c) k = ρ 17 (3 * c + k) from ((hR.cr c k (by omega) (by omega) (by omega) (by omega)).2 (by omega) (by omega))]
    refine sw_p 1 (f' := (33, [some (2, p), some (2, 300 + c), some (0, k)], [(2, 300 + c), (0, ρ 17 (3 * c + k)), (0, ρ 17 (3 * c + k)), (2, p)])) rfl ?_
    refine sw_hA (pn := 36) (i := 2) (v := 200 + ρ 13 c) rfl rfl rfl rfl rfl (hR.ca c (by omega) (by omega)).1 (hR.ca c (by omega) (by omega)).2.2.2.1 (by omega) ?_
    refine sw_hA (pn := 39) (i := 0) (v := 220 + (ρ 13 c)) rfl rfl rfl rfl rfl (hR.ty (ρ 13 c) (by omega) (by omega)).1 (hR.ty (ρ 13 c) (by omega) (by omega)).2.1.1 (by omega) ?_
    refine sw_p 1 (f' := (40, [some (2, p), some (2, 300 + c), some (0, k)], [(0, k), (2, 220 + (ρ 13 c)), (0, ρ 17 (3 * c + k)), (0, ρ 17 (3 * c + k)), (2, p)])) rfl ?_
    refine sw_ial (pn := 41) (l := 3) rfl rfl (by omega) (hR.ty ((ρ 13 c)) (by omega) (by omega)).2.1.2.1 (hR.ty ((ρ 13 c)) (by omega) (by omega)).2.1.2.2 (by omega) (by omega) ?_
    rw [show ν (220 + (ρ 13 c)) k = ρ 9 (3 * ((ρ 13 c)) + k) from ((hR.tn ((ρ 13 c)) (by omega) (by omega)).2 k (by omega) (by omega)).1]
    refine sw_p 1 (f' := (42, [some (2, p), some (2, 300 + c), some (0, k)], [(0, (ρ 17 (3 * c + k)) + (ρ 9 (3 * ((ρ 13 c)) + k))), (0, ρ 17 (3 * c + k)), (2, p)])) rfl ?_
    refine sw_cv2 (pn := 45) (q0 := mj_St_addRanges) (q := mj_St_add) (p := p) (as2 := [(0, ρ 17 (3 * c + k)), (0, (ρ 17 (3 * c + k)) + (ρ 9 (3 * ((ρ 13 c)) + k)))]) (L2 := [some (2, p), some (0, ρ 17 (3 * c + k)), some (0, (ρ 17 (3 * c + k)) + (ρ 9 (3 * ((ρ 13 c)) + k))), none]) (rest := []) (s1 := s) rfl rfl rfl rfl rfl rfl rfl rfl rfl hs.1.2 (st_add (g := g) hs hd hI2 hn (by omega) (fun a h1 h2 => by have := hf a h1 h2; omega)) (fun v ν1 hv => ?_)
    obtain ⟨rfl, hf1, hn1, hv⟩ := hv
    rw [show mo_mkr (ρ 17 (3 * c + k)) (ρ 17 (3 * c + k) + ρ 9 (3 * ρ 13 c + k)) g = mo_mk1 ρ c k g by unfold mo_mk1; rw [if_neg (by omega)]] at hv
    show sw_w E _ 37 (45, [some (2, p), some (2, 300 + c), some (0, k)], []) s ν1 _
    refine sw_p 2 (f' := (2, [some (2, p), some (2, 300 + c), some (0, k + 1)], [])) rfl ?_
    exact kk ν1 hf1 (by omega) hv
  · have e1 : mo_mk1 ρ c k g = g := by unfold mo_mk1; rw [if_pos (by omega)]
    rw [e1] at kk
    refine sw_p 2 (f' := (4, [some (2, p), some (2, 300 + c), some (0, k)], [(0, 3), (0, k)])) rfl ?_
    refine sw_ge2 (pt := 51) (pn := 7) rfl rfl rfl (by omega) (by omega) (fun h => absurd h (by omega)) (fun m1 => ?_)
    refine sw_p 1 (f' := (8, [some (2, p), some (2, 300 + c), some (0, k)], [(2, 300 + c)])) rfl ?_
    refine sw_hA (pn := 11) (i := 2) (v := 200 + ρ 13 c) rfl rfl rfl rfl rfl (hR.ca c (by omega) (by omega)).1 (hR.ca c (by omega) (by omega)).2.2.2.1 (by omega) ?_
    refine sw_hA (pn := 14) (i := 0) (v := 220 + (ρ 13 c)) rfl rfl rfl rfl rfl (hR.ty (ρ 13 c) (by omega) (by omega)).1 (hR.ty (ρ 13 c) (by omega) (by omega)).2.1.1 (by omega) ?_
    refine sw_p 1 (f' := (15, [some (2, p), some (2, 300 + c), some (0, k)], [(0, k), (2, 220 + (ρ 13 c))])) rfl ?_
    refine sw_ial (pn := 16) (l := 3) rfl rfl (by omega) (hR.ty ((ρ 13 c)) (by omega) (by omega)).2.1.2.1 (hR.ty ((ρ 13 c)) (by omega) (by omega)).2.1.2.2 (by omega) (by omega) ?_
    rw [show ν (220 + (ρ 13 c)) k = ρ 9 (3 * ((ρ 13 c)) + k) from ((hR.tn ((ρ 13 c)) (by omega) (by omega)).2 k (by omega) (by omega)).1]
    refine sw_le1 (pt := 45) (pn := 19) rfl rfl rfl (by omega) (fun m2 => ?_) (fun h => absurd h (by omega))
    refine sw_p 2 (f' := (2, [some (2, p), some (2, 300 + c), some (0, k + 1)], [])) rfl ?_
    exact kk ν fr_rfl (by omega) hI2
theorem mk1_0 (h : g a = 0) (h2 : ¬ (0 ≤ ρ 17 (3 * c + k) ∧ ρ 17 (3 * c + k) ≤ a ∧ a < ρ 17 (3 * c + k) + ρ 9 (3 * ρ 13 c + k))) : mo_mk1 ρ c k g a = 0 := by
  unfold mo_mk1
  split
  · exact h
  · unfold mo_mkr
    rw [if_neg (by omega)]
    exact h
theorem st_ar (hI : iv_A ρ f) (hR : pt_R s ν ρ f) (hs : st_sh s p q r) (hd : p ≠ q ∧ p ≠ r ∧ q ≠ r) (hp : 55 ≤ p ∧ p ≤ 63 ∧ 55 ≤ q ∧ q ≤ 63 ∧ 55 ≤ r ∧ r ≤ 63) (hc : 0 ≤ c ∧ c < ρ 0 12) (hth : 1 ≤ ρ 15 c ∧ ρ 15 c ≤ 3) (hrg : iv_R ρ) (hI2 : st_I ν p q r g) (hn : ν p 2 ≤ 9) (hf : ∀ k a, 0 ≤ k → k < 3 → 0 ≤ ρ 17 (3 * c + k) → ρ 17 (3 * c + k) ≤ a → a < ρ 17 (3 * c + k) + ρ 9 (3 * ρ 13 c + k) → g a = 0 ∧ ∀ l, 0 ≤ l → l < 3 → l ≠ k → 0 ≤ ρ 17 (3 * c + l) → ¬ (ρ 17 (3 * c + l) ≤ a ∧ a < ρ 17 (3 * c + l) + ρ 9 (3 * ρ 13 c + l))) : sw_w E (d + 1) 37 (0, [some (2, p), some (2, 300 + c), none], []) s ν (sw_vr (fun v ν' => v = none ∧ fr_r [p, q, r] ν ν' ∧ ν' p 2 ≤ ν p 2 + 3 ∧ st_I ν' p q r (mo_mk1 ρ c 2 (mo_mk1 ρ c 1 (mo_mk1 ρ c 0 g)))) s) := by
  refine sw_p 2 (f' := (2, [some (2, p), some (2, 300 + c), some (0, 0)], [])) rfl ?_
  refine st_ar_k (k := 0) hI hR hs hd hp hc (by omega) hth hrg hI2 (by omega) (fun a h1 h2 => by by_cases h3 : 0 ≤ ρ 17 (3 * c + 0); exact Or.inl (hf 0 a (by omega) (by omega) h3 h1 h2).1; exact Or.inr (by omega)) (fun ν1 f1 n1 J1 => ?_)
  refine st_ar_k (k := 0 + 1) hI (st_R hp hI f1 hR) hs hd hp hc (by omega) hth hrg J1 (by omega) (fun a h1 h2 => by by_cases h3 : 0 ≤ ρ 17 (3 * c + (0 + 1)); exact Or.inl (mk1_0 (hf 1 a (by omega) (by omega) h3 h1 h2).1 (fun h4 => (hf 1 a (by omega) (by omega) h3 h1 h2).2 0 (by omega) (by omega) (by omega) h4.1 h4.2)); exact Or.inr (by omega)) (fun ν2 f2 n2 J2 => ?_)
  have f12 : fr_r [p, q, r] ν ν2 := fr_tr f1 f2 (fun _ h => h) (fun _ h => h)
  refine st_ar_k (k := 0 + 1 + 1) hI (st_R hp hI f12 hR) hs hd hp hc (by omega) hth hrg J2 (by omega) (fun a h1 h2 => by by_cases h3 : 0 ≤ ρ 17 (3 * c + (0 + 1 + 1)); exact Or.inl (mk1_0 (mk1_0 (hf 2 a (by omega) (by omega) h3 h1 h2).1 (fun h4 => (hf 2 a (by omega) (by omega) h3 h1 h2).2 0 (by omega) (by omega) (by omega) h4.1 h4.2)) (fun h4 => (hf 2 a (by omega) (by omega) h3 h1 h2).2 1 (by omega) (by omega) (by omega) h4.1 h4.2)); exact Or.inr (by omega)) (fun ν3 f3 n3 J3 => ?_)
  show sw_w E (d + 1) 37 (2, [some (2, p), some (2, 300 + c), some (0, 3)], []) s ν3 _
  refine sw_p 2 (f' := (4, [some (2, p), some (2, 300 + c), some (0, 3)], [(0, 3), (0, 3)])) rfl ?_
  refine sw_ge2 (pt := 51) (pn := 7) rfl rfl rfl (by omega) (by omega) (fun _ => ?_) (fun h => absurd h (by decide))
  exact sw_retV rfl rfl rfl ⟨_, rfl, rfl, rfl, fr_tr f12 f3 (fun _ h => h) (fun _ h => h), by omega, J3⟩
theorem iv_loc (h : ρ 2 i = c + 100) (hc : 0 ≤ c) (hr : 0 ≤ ρ 17 (3 * c + k)) : iv_lo ρ i k = ρ 17 (3 * c + k) ∧ iv_hi ρ i k = ρ 17 (3 * c + k) + ρ 9 (3 * ρ 13 c + k) := by
  have e : ρ 2 i - 100 = c := by omega
  have h1 : 100 ≤ ρ 2 i := by omega
  constructor
  · unfold iv_lo
    rw [if_pos h1, e, if_neg (by omega)]
  · unfold iv_hi
    rw [if_pos h1, e, if_neg (by omega)]
theorem iv_lob (h : 0 ≤ ρ 2 i ∧ ρ 2 i < 100) : iv_lo ρ i 0 = ρ 5 (ρ 2 i) ∧ iv_hi ρ i 0 = ρ 6 (ρ 2 i) := by
  have h1 : ¬ 100 ≤ ρ 2 i := by omega
  constructor
  · unfold iv_lo
    rw [if_neg h1]
    exact if_pos ⟨h.1, rfl⟩
  · unfold iv_hi
    rw [if_neg h1]
    exact if_pos ⟨h.1, rfl⟩
/-- marks that come from the slots 4 b .. 4 b + i - 1 -/
def iv_M (ρ : mm_T) (b i : Int) (g : Int → Int) : Prop := ∀ a, g a = 1 → ∃ j k, 4 * b ≤ j ∧ j < 4 * b + i ∧ 0 ≤ k ∧ k < 3 ∧ iv_lo ρ j k ≤ a ∧ a < iv_hi ρ j k
theorem iv_M_w {i2 : Int} (h : iv_M ρ b i g) (hi : i ≤ i2) : iv_M ρ b i2 g := fun a ha => by
  obtain ⟨j, k, h1, h2, h3⟩ := h a ha
  exact ⟨j, k, h1, by omega, h3⟩
theorem iv_M_u (hsl : -1 ≤ ρ 2 (4 * b + i)) (hi : 0 ≤ i) (h : iv_M ρ b i g) : iv_M ρ b (i + 1) (mo_mku ρ w (ρ 2 (4 * b + i)) g) := fun a ha => by
  have hold : g a = 1 → ∃ j k, 4 * b ≤ j ∧ j < 4 * b + (i + 1) ∧ 0 ≤ k ∧ k < 3 ∧ iv_lo ρ j k ≤ a ∧ a < iv_hi ρ j k := fun h1 => iv_M_w h (by omega) a h1
  unfold mo_mku at ha
  by_cases h1 : ρ 2 (4 * b + i) = w ∨ ρ 2 (4 * b + i) = -1
  · rw [if_pos h1] at ha; exact hold ha
  · rw [if_neg h1] at ha
    by_cases h2 : ρ 2 (4 * b + i) < 100
    · rw [if_pos h2] at ha
      unfold mo_mkr at ha
      by_cases h3 : ρ 5 (ρ 2 (4 * b + i)) ≤ a ∧ a < ρ 6 (ρ 2 (4 * b + i))
      · have h4 : 0 ≤ ρ 2 (4 * b + i) := by omega
        refine ⟨4 * b + i, 0, by omega, by omega, by omega, by omega, ?_⟩
        rw [(iv_lob ⟨h4, h2⟩).1, (iv_lob ⟨h4, h2⟩).2]
        exact h3
      · rw [if_neg h3] at ha; exact hold ha
    · rw [if_neg h2] at ha
      have hstep : ∀ (k : Int) (g : Int → Int), 0 ≤ k → k < 3 → mo_mk1 ρ (ρ 2 (4 * b + i) - 100) k g a = 1 → g a = 1 ∨ (iv_lo ρ (4 * b + i) k ≤ a ∧ a < iv_hi ρ (4 * b + i) k) := fun k g k0 k1 h3 => by
        unfold mo_mk1 at h3
        split at h3
        · exact Or.inl h3
        · next h4 =>
          have hl := iv_loc (ρ := ρ) (i := 4 * b + i) (c := ρ 2 (4 * b + i) - 100) (k := k) (by omega) (by omega) (by omega)
          rw [hl.1, hl.2]
          unfold mo_mkr at h3
          split at h3
          · next h5 => exact Or.inr h5
          · exact Or.inl h3
      rcases hstep 2 _ (by omega) (by omega) ha with h3 | h3
      · rcases hstep 1 _ (by omega) (by omega) h3 with h3 | h3
        · rcases hstep 0 _ (by omega) (by omega) h3 with h3 | h3
          · exact hold h3
          · exact ⟨4 * b + i, 0, by omega, by omega, by omega, by omega, h3⟩
        · exact ⟨4 * b + i, 1, by omega, by omega, by omega, by omega, h3⟩
      · exact ⟨4 * b + i, 2, by omega, by omega, by omega, by omega, h3⟩
theorem iv_free (hD : iv_D ρ) (hM : iv_M ρ b i g) (h01 : ∀ a, g a = 0 ∨ g a = 1) (hb : 0 ≤ b ∧ b < 8) (hi : 0 ≤ i ∧ i < 4) (hk : 0 ≤ k ∧ k < 3) (h1 : iv_lo ρ (4 * b + i) k ≤ a) (h2 : a < iv_hi ρ (4 * b + i) k) : g a = 0 := by
  rcases h01 a with h | h
  · exact h
  · obtain ⟨j, l, j1, j2, l1, l2, j3, j4⟩ := hM a h
    have := hD j (4 * b + i) l k (by omega) (by omega) (by omega) (by omega) l1 l2 hk.1 hk.2 (by omega) (by omega) (by omega) (by omega)
    omega
/-- the ends of gather -/
def ga_P (ν0 ρ : mm_T) (p q r : Int) (g : Int → Int) (v : Option mg_V) (ν' : mm_T) : Prop := v = none ∧ fr_r [p, q, r] ν0 ν' ∧ st_I ν' p q r g ∧ ν' p 2 ≤ 9
theorem st_ga_N_l (hI : iv_A ρ f) (hR0 : pt_R s ν ρ f) (hs : st_sh s p q r) (hd : p ≠ q ∧ p ≠ r ∧ q ≠ r) (hp : 55 ≤ p ∧ p ≤ 63 ∧ 55 ≤ q ∧ q ≤ 63 ∧ 55 ≤ r ∧ r ≤ 63) (hD : iv_D ρ) (hO : iv_O ρ) (hrg : iv_R ρ) (hb : 0 ≤ b ∧ b < ρ 0 1) (hA : ∀ i, 4 * b ≤ i → i < 4 * b + 4 → 100 ≤ ρ 2 i → ((1 ≤ ρ 15 (ρ 2 i - 100) ∧ ρ 15 (ρ 2 i - 100) ≤ 3) ↔ ρ 2 i ≠ w)) {j : Int} (hj : 0 ≤ j ∧ j < 4) (hjw : ρ 2 (4 * b + j) = w) (hw : 100 ≤ w) : ∀ (n : Nat) (i : Int) (g : Int → Int) (ν1 : mm_T) (o4 o5 : Option mg_V), 0 ≤ i → i + n = 4 → fr_r [p, q, r] ν ν1 → st_I ν1 p q r g → (ν1 p 2 ≤ 3 * i ∧ (j < i → ν1 p 2 ≤ 3 * i - 3)) → iv_M ρ b i g → sw_w E (d + 2) 35 (7, [some (2, p), some (2, 100 + b), some (3, 0), some (0, i), o4, o5], []) s ν1 (sw_vr (ga_P ν ρ p q r (mo_mks ρ w n (4 * b + i) g)) s) := by
  intro n
  induction n with
  | zero =>
    intro i g ν1 o4 o5 hi hn hfr hI2 hcn hM
    refine sw_p 2 (f' := (9, [some (2, p), some (2, 100 + b), some (3, 0), some (0, i), o4, o5], [(0, 4), (0, i)])) rfl ?_
    refine sw_ge2 (pt := 86) (pn := 12) rfl rfl rfl (by omega) (by omega) (fun m1 => ?_) (fun h => absurd h (by omega))
    exact sw_retV rfl rfl rfl ⟨_, rfl, rfl, rfl, hfr, hI2, by omega⟩
  | succ n ih =>
    intro i g ν1 o4 o5 hi hn hfr hI2 hcn hM
    have hR := st_R hp hI hfr hR0
    have h8 := hI.1.1
    have h12 := hI.1.2.2.1
    have hsl := hI.1.2.2.2.2.2.2.2.1 (4 * b + i) (by omega) (by omega)
    have hsc := hI.2.1.1 (4 * b + i) (by omega) (by omega)
    have htr := hI.2.2.1.2.2 (4 * b + i) (by omega) (by omega)
    have hK := hI.2.2.2.2.2.2 (4 * b + i) (by omega) (by omega)
    have hA1 := hA (4 * b + i) (by omega) (by omega)
    have hM1 := iv_M_u (w := w) hsl.1 hi hM
    have e0 : mo_mks ρ w (n + 1) (4 * b + i) g = mo_mks ρ w n (4 * b + (i + 1)) (mo_mku ρ w (ρ 2 (4 * b + i)) g) := by
      show mo_mks ρ w n (4 * b + i + 1) _ = _
      rw [show 4 * b + i + 1 = 4 * b + (i + 1) by omega]
    rw [e0]
    by_cases h1 : 100 ≤ ρ 2 (4 * b + i)
    · have hA1 := hA1 h1
      obtain ⟨c, hc⟩ : ∃ c, ρ 2 (4 * b + i) = c + 100 := ⟨ρ 2 (4 * b + i) - 100, by omega⟩
      have hK := hK h1
      have hcd := hI.1.cd c (by omega) (by omega)
      rw [show ρ 2 (4 * b + i) - 100 = c by omega] at hA1
      by_cases hwu : ρ 2 (4 * b + i) = w
      · have hth : ¬ (1 ≤ ρ 15 c ∧ ρ 15 c ≤ 3) := fun h => hA1.mp h hwu
        rw [show mo_mku ρ w (ρ 2 (4 * b + i)) g = g from if_pos (Or.inl hwu)] at hM1 ⊢
        refine sw_p 2 (f' := (9, [some (2, p), some (2, 100 + b), some (3, 0), some (0, i), o4, o5], [(0, 4), (0, i)])) rfl ?_
        refine sw_ge2 (pt := 86) (pn := 12) rfl rfl rfl (by omega) (by omega) (fun h => absurd h (by omega)) (fun m1 => ?_)
        refine sw_p 1 (f' := (13, [some (2, p), some (2, 100 + b), some (3, 0), some (0, i), o4, o5], [(2, 100 + b)])) rfl ?_
        refine sw_hA (pn := 16) (i := 4) (v := 110 + b) rfl rfl rfl rfl rfl (hR.br b (by omega) (by omega)).1 (hR.br b (by omega) (by omega)).2.2.2.2.2.1.1 (by omega) ?_
        refine sw_p 1 (f' := (17, [some (2, p), some (2, 100 + b), some (3, 0), some (0, i), o4, o5], [(0, i), (2, 110 + b)])) rfl ?_
        refine sw_aal (pn := 18) (t := 3) (l := 4) rfl rfl rfl (by decide) (by omega) (hR.br b (by omega) (by omega)).2.2.2.2.2.1.2.1 (hR.br b (by omega) (by omega)).2.2.2.2.2.1.2.2 (by omega) (by omega) (fun h => absurd h (by rw [show ν1 (110 + b) i = -1 from ((hR.sl b i (by omega) (by omega) (by omega) (by omega)).1).trans (if_neg (by omega))]; omega)) (fun _ => ?_)
        refine sw_p 4 (f' := (54, [some (2, p), some (2, 100 + b), some (3, 0), some (0, i), some (3, 0), o5], [(2, 100 + b)])) rfl ?_
        refine sw_hA (pn := 57) (i := 5) (v := 120 + b) rfl rfl rfl rfl rfl (hR.br b (by omega) (by omega)).1 (hR.br b (by omega) (by omega)).2.2.2.2.2.2.1 (by omega) ?_
        refine sw_p 1 (f' := (58, [some (2, p), some (2, 100 + b), some (3, 0), some (0, i), some (3, 0), o5], [(0, i), (2, 120 + b)])) rfl ?_
        refine sw_aal (pn := 59) (t := 5) (l := 4) rfl rfl rfl (by decide) (by omega) (hR.br b (by omega) (by omega)).2.2.2.2.2.2.2.1 (hR.br b (by omega) (by omega)).2.2.2.2.2.2.2.2 (by omega) (by omega) (fun _ => ?_) (fun h => absurd h (by rw [show ν1 (120 + b) i = 300 + c from (((hR.sl b i (by omega) (by omega) (by omega) (by omega)).2).trans (if_pos (by omega))).trans (by omega)]; omega))
        rw [show ν1 (120 + b) i = 300 + c from (((hR.sl b i (by omega) (by omega) (by omega) (by omega)).2).trans (if_pos (by omega))).trans (by omega)]
        refine sw_p 4 (f' := (68, [some (2, p), some (2, 100 + b), some (3, 0), some (0, i), some (3, 0), some (2, 300 + c)], [(2, 300 + c)])) rfl ?_
        refine sw_cv1 (pn := 71) (q0 := mj_St_gather) (q := mj_Ca_isThere) (p := 300 + c) (as2 := []) (L2 := [some (2, 300 + c)]) (rest := []) (v := some (0, 0)) (s1 := s) (ν1 := ν1) rfl rfl rfl rfl rfl rfl rfl rfl rfl (hR.ca c (by omega) (by omega)).1 (cl_th0 hI hR (by omega) hth) ?_
        show sw_w E _ 35 (71, [some (2, p), some (2, 100 + b), some (3, 0), some (0, i), some (3, 0), some (2, 300 + c)], [(0, 0)]) s ν1 _
        refine sw_eq1 (pt := 80) (pn := 74) rfl rfl rfl (by omega) (fun _ => ?_) (fun h => absurd h (by decide))
        refine sw_p 2 (f' := (7, [some (2, p), some (2, 100 + b), some (3, 0), some (0, i + 1), some (3, 0), some (2, 300 + c)], [])) rfl ?_
        exact ih (i + 1) g ν1 _ _ (by omega) (by omega) hfr hI2 (by omega) hM1
      · have hij : i ≠ j := fun h => hwu (by rw [h]; exact hjw)
        have hth : 1 ≤ ρ 15 c ∧ ρ 15 c ≤ 3 := hA1.mpr hwu
        have hfk : ∀ k a, 0 ≤ k → k < 3 → 0 ≤ ρ 17 (3 * c + k) → ρ 17 (3 * c + k) ≤ a → a < ρ 17 (3 * c + k) + ρ 9 (3 * ρ 13 c + k) → g a = 0 ∧ ∀ l, 0 ≤ l → l < 3 → l ≠ k → 0 ≤ ρ 17 (3 * c + l) → ¬ (ρ 17 (3 * c + l) ≤ a ∧ a < ρ 17 (3 * c + l) + ρ 9 (3 * ρ 13 c + l)) := by
          intro k a k0 k1 hr0 ha1 ha2
          have hlk := iv_loc (k := k) hc (by omega) hr0
          refine ⟨iv_free hD hM hI2.2.2.2.1 (by omega) (by omega) ⟨k0, k1⟩ (by rw [hlk.1]; exact ha1) (by rw [hlk.2]; exact ha2), fun l l0 l1 hlk2 hr1 h3 => ?_⟩
          have hll := iv_loc (k := l) hc (by omega) hr1
          have := hD (4 * b + i) (4 * b + i) k l (by omega) (by omega) (by omega) (by omega) k0 k1 l0 l1 rfl (by omega) (by rw [hlk.1, hlk.2]; omega) (by rw [hll.1, hll.2]; omega)
          rw [hlk.1, hlk.2, hll.1, hll.2] at this
          omega
        rw [show mo_mku ρ w (ρ 2 (4 * b + i)) g = mo_mk1 ρ c 2 (mo_mk1 ρ c 1 (mo_mk1 ρ c 0 g)) by unfold mo_mku; rw [if_neg (by omega), if_neg (by omega), show ρ 2 (4 * b + i) - 100 = c by omega]] at hM1 ⊢
        refine sw_p 2 (f' := (9, [some (2, p), some (2, 100 + b), some (3, 0), some (0, i), o4, o5], [(0, 4), (0, i)])) rfl ?_
        refine sw_ge2 (pt := 86) (pn := 12) rfl rfl rfl (by omega) (by omega) (fun h => absurd h (by omega)) (fun m1 => ?_)
        refine sw_p 1 (f' := (13, [some (2, p), some (2, 100 + b), some (3, 0), some (0, i), o4, o5], [(2, 100 + b)])) rfl ?_
        refine sw_hA (pn := 16) (i := 4) (v := 110 + b) rfl rfl rfl rfl rfl (hR.br b (by omega) (by omega)).1 (hR.br b (by omega) (by omega)).2.2.2.2.2.1.1 (by omega) ?_
        refine sw_p 1 (f' := (17, [some (2, p), some (2, 100 + b), some (3, 0), some (0, i), o4, o5], [(0, i), (2, 110 + b)])) rfl ?_
        refine sw_aal (pn := 18) (t := 3) (l := 4) rfl rfl rfl (by decide) (by omega) (hR.br b (by omega) (by omega)).2.2.2.2.2.1.2.1 (hR.br b (by omega) (by omega)).2.2.2.2.2.1.2.2 (by omega) (by omega) (fun h => absurd h (by rw [show ν1 (110 + b) i = -1 from ((hR.sl b i (by omega) (by omega) (by omega) (by omega)).1).trans (if_neg (by omega))]; omega)) (fun _ => ?_)
        refine sw_p 4 (f' := (54, [some (2, p), some (2, 100 + b), some (3, 0), some (0, i), some (3, 0), o5], [(2, 100 + b)])) rfl ?_
        refine sw_hA (pn := 57) (i := 5) (v := 120 + b) rfl rfl rfl rfl rfl (hR.br b (by omega) (by omega)).1 (hR.br b (by omega) (by omega)).2.2.2.2.2.2.1 (by omega) ?_
        refine sw_p 1 (f' := (58, [some (2, p), some (2, 100 + b), some (3, 0), some (0, i), some (3, 0), o5], [(0, i), (2, 120 + b)])) rfl ?_
        refine sw_aal (pn := 59) (t := 5) (l := 4) rfl rfl rfl (by decide) (by omega) (hR.br b (by omega) (by omega)).2.2.2.2.2.2.2.1 (hR.br b (by omega) (by omega)).2.2.2.2.2.2.2.2 (by omega) (by omega) (fun _ => ?_) (fun h => absurd h (by rw [show ν1 (120 + b) i = 300 + c from (((hR.sl b i (by omega) (by omega) (by omega) (by omega)).2).trans (if_pos (by omega))).trans (by omega)]; omega))
        rw [show ν1 (120 + b) i = 300 + c from (((hR.sl b i (by omega) (by omega) (by omega) (by omega)).2).trans (if_pos (by omega))).trans (by omega)]
        refine sw_p 4 (f' := (68, [some (2, p), some (2, 100 + b), some (3, 0), some (0, i), some (3, 0), some (2, 300 + c)], [(2, 300 + c)])) rfl ?_
        refine sw_cv1 (pn := 71) (q0 := mj_St_gather) (q := mj_Ca_isThere) (p := 300 + c) (as2 := []) (L2 := [some (2, 300 + c)]) (rest := []) (v := some (0, 1)) (s1 := s) (ν1 := ν1) rfl rfl rfl rfl rfl rfl rfl rfl rfl (hR.ca c (by omega) (by omega)).1 (cl_th1 hI hR (by omega) hth) ?_
        show sw_w E _ 35 (71, [some (2, p), some (2, 100 + b), some (3, 0), some (0, i), some (3, 0), some (2, 300 + c)], [(0, 1)]) s ν1 _
        refine sw_eq1 (pt := 80) (pn := 74) rfl rfl rfl (by omega) (fun h => absurd h (by decide)) (fun _ => ?_)
        refine sw_p 2 (f' := (77, [some (2, p), some (2, 100 + b), some (3, 0), some (0, i), some (3, 0), some (2, 300 + c)], [(2, 300 + c), (2, p)])) rfl ?_
        refine sw_cv2 (pn := 80) (q0 := mj_St_gather) (q := mj_St_addRanges) (p := p) (as2 := [(2, 300 + c)]) (L2 := [some (2, p), some (2, 300 + c), none]) (rest := []) (s1 := s) rfl rfl rfl rfl rfl rfl rfl rfl rfl hs.1.2 (st_ar (g := g) (d := d) hI hR hs hd hp (by omega) hth hrg hI2 (by omega) hfk) (fun v ν2 hv => ?_)
        obtain ⟨rfl, hf2, hn2, hv⟩ := hv
        show sw_w E _ 35 (80, [some (2, p), some (2, 100 + b), some (3, 0), some (0, i), some (3, 0), some (2, 300 + c)], []) s ν2 _
        refine sw_p 2 (f' := (7, [some (2, p), some (2, 100 + b), some (3, 0), some (0, i + 1), some (3, 0), some (2, 300 + c)], [])) rfl ?_
        exact ih (i + 1) _ ν2 _ _ (by omega) (by omega) (fr_tr hfr hf2 (fun _ h => h) (fun _ h => h)) hv (by omega) hM1
    · by_cases h2 : 0 ≤ ρ 2 (4 * b + i)
      · have htr := htr h2 (by omega)
        have hob := hI.2.1.2.1 (ρ 2 (4 * b + i)) (by omega) (by omega)
        have hoo := hO.2 (ρ 2 (4 * b + i)) (by omega) (by omega)
        have hlb := iv_lob (i := 4 * b + i) ⟨h2, by omega⟩
        rw [show mo_mku ρ w (ρ 2 (4 * b + i)) g = mo_mkr (ρ 5 (ρ 2 (4 * b + i))) (ρ 6 (ρ 2 (4 * b + i))) g from (if_neg (by omega)).trans (if_pos (by omega))] at hM1 ⊢
        have hij : i ≠ j := fun h => by subst h; omega
        by_cases hcl : ρ 5 (ρ 2 (4 * b + i)) = ρ 6 (ρ 2 (4 * b + i))
        · rw [mo_wr_0 (by omega)] at hM1 ⊢
          refine sw_p 2 (f' := (9, [some (2, p), some (2, 100 + b), some (3, 0), some (0, i), o4, o5], [(0, 4), (0, i)])) rfl ?_
          refine sw_ge2 (pt := 86) (pn := 12) rfl rfl rfl (by omega) (by omega) (fun h => absurd h (by omega)) (fun m1 => ?_)
          refine sw_p 1 (f' := (13, [some (2, p), some (2, 100 + b), some (3, 0), some (0, i), o4, o5], [(2, 100 + b)])) rfl ?_
          refine sw_hA (pn := 16) (i := 4) (v := 110 + b) rfl rfl rfl rfl rfl (hR.br b (by omega) (by omega)).1 (hR.br b (by omega) (by omega)).2.2.2.2.2.1.1 (by omega) ?_
          refine sw_p 1 (f' := (17, [some (2, p), some (2, 100 + b), some (3, 0), some (0, i), o4, o5], [(0, i), (2, 110 + b)])) rfl ?_
          refine sw_aal (pn := 18) (t := 3) (l := 4) rfl rfl rfl (by decide) (by omega) (hR.br b (by omega) (by omega)).2.2.2.2.2.1.2.1 (hR.br b (by omega) (by omega)).2.2.2.2.2.1.2.2 (by omega) (by omega) (fun _ => ?_) (fun h => absurd h (by rw [show ν1 (110 + b) i = 100 + ρ 2 (4 * b + i) from ((hR.sl b i (by omega) (by omega) (by omega) (by omega)).1).trans (if_pos (by omega))]; omega))
          rw [show ν1 (110 + b) i = 100 + ρ 2 (4 * b + i) from ((hR.sl b i (by omega) (by omega) (by omega) (by omega)).1).trans (if_pos (by omega))]
          refine sw_p 5 (f' := (28, [some (2, p), some (2, 100 + b), some (3, 0), some (0, i), some (2, 100 + ρ 2 (4 * b + i)), o5], [(3, 0), (2, 100 + ρ 2 (4 * b + i))])) rfl ?_
          refine sw_acq0 (pt := 53) (pn := 31) rfl rfl rfl ?_
          refine sw_p 1 (f' := (33, [some (2, p), some (2, 100 + b), some (3, 0), some (0, i), some (2, 100 + ρ 2 (4 * b + i)), o5], [(2, 100 + ρ 2 (4 * b + i))])) rfl ?_
          refine sw_cv1 (pn := 36) (q0 := mj_St_gather) (q := mj_Br_isClosed) (p := 100 + ρ 2 (4 * b + i)) (as2 := []) (L2 := [some (2, 100 + ρ 2 (4 * b + i))]) (rest := []) (v := some (0, 1)) (s1 := s) (ν1 := ν1) rfl rfl rfl rfl rfl rfl rfl rfl rfl (hR.br (ρ 2 (4 * b + i)) (by omega) (by omega)).1 (by have h := pt_isClosed (E := E) (d := d + 1) (s := s) (ν := ν1) (p := 100 + ρ 2 (4 * b + i)) (by omega) (hR.br (ρ 2 (4 * b + i)) (by omega) (by omega)).1 (by rw [(hR.bn (ρ 2 (4 * b + i)) (by omega) (by omega)).2.1]; omega) (by rw [(hR.bn (ρ 2 (4 * b + i)) (by omega) (by omega)).2.2]; omega); rw [(hR.bn (ρ 2 (4 * b + i)) (by omega) (by omega)).2.1, (hR.bn (ρ 2 (4 * b + i)) (by omega) (by omega)).2.2, if_pos (by omega)] at h; exact h) ?_
          show sw_w E _ 35 (36, [some (2, p), some (2, 100 + b), some (3, 0), some (0, i), some (2, 100 + ρ 2 (4 * b + i)), o5], [(0, 1)]) s ν1 _
          refine sw_ne1 (pt := 53) (pn := 39) rfl rfl rfl (by omega) (fun _ => ?_) (fun h => absurd h (by decide))
          refine sw_p 1 (f' := (54, [some (2, p), some (2, 100 + b), some (3, 0), some (0, i), some (2, 100 + ρ 2 (4 * b + i)), o5], [(2, 100 + b)])) rfl ?_
          refine sw_hA (pn := 57) (i := 5) (v := 120 + b) rfl rfl rfl rfl rfl (hR.br b (by omega) (by omega)).1 (hR.br b (by omega) (by omega)).2.2.2.2.2.2.1 (by omega) ?_
          refine sw_p 1 (f' := (58, [some (2, p), some (2, 100 + b), some (3, 0), some (0, i), some (2, 100 + ρ 2 (4 * b + i)), o5], [(0, i), (2, 120 + b)])) rfl ?_
          refine sw_aal (pn := 59) (t := 5) (l := 4) rfl rfl rfl (by decide) (by omega) (hR.br b (by omega) (by omega)).2.2.2.2.2.2.2.1 (hR.br b (by omega) (by omega)).2.2.2.2.2.2.2.2 (by omega) (by omega) (fun h => absurd h (by rw [show ν1 (120 + b) i = -1 from ((hR.sl b i (by omega) (by omega) (by omega) (by omega)).2).trans (if_neg (by omega))]; omega)) (fun _ => ?_)
          refine sw_p 5 (f' := (7, [some (2, p), some (2, 100 + b), some (3, 0), some (0, i + 1), some (2, 100 + ρ 2 (4 * b + i)), some (3, 0)], [])) rfl ?_
          exact ih (i + 1) g ν1 _ _ (by omega) (by omega) hfr hI2 (by omega) hM1
        · skip
          refine sw_p 2 (f' := (9, [some (2, p), some (2, 100 + b), some (3, 0), some (0, i), o4, o5], [(0, 4), (0, i)])) rfl ?_
          refine sw_ge2 (pt := 86) (pn := 12) rfl rfl rfl (by omega) (by omega) (fun h => absurd h (by omega)) (fun m1 => ?_)
          refine sw_p 1 (f' := (13, [some (2, p), some (2, 100 + b), some (3, 0), some (0, i), o4, o5], [(2, 100 + b)])) rfl ?_
          refine sw_hA (pn := 16) (i := 4) (v := 110 + b) rfl rfl rfl rfl rfl (hR.br b (by omega) (by omega)).1 (hR.br b (by omega) (by omega)).2.2.2.2.2.1.1 (by omega) ?_
          refine sw_p 1 (f' := (17, [some (2, p), some (2, 100 + b), some (3, 0), some (0, i), o4, o5], [(0, i), (2, 110 + b)])) rfl ?_
          refine sw_aal (pn := 18) (t := 3) (l := 4) rfl rfl rfl (by decide) (by omega) (hR.br b (by omega) (by omega)).2.2.2.2.2.1.2.1 (hR.br b (by omega) (by omega)).2.2.2.2.2.1.2.2 (by omega) (by omega) (fun _ => ?_) (fun h => absurd h (by rw [show ν1 (110 + b) i = 100 + ρ 2 (4 * b + i) from ((hR.sl b i (by omega) (by omega) (by omega) (by omega)).1).trans (if_pos (by omega))]; omega))
          rw [show ν1 (110 + b) i = 100 + ρ 2 (4 * b + i) from ((hR.sl b i (by omega) (by omega) (by omega) (by omega)).1).trans (if_pos (by omega))]
          refine sw_p 5 (f' := (28, [some (2, p), some (2, 100 + b), some (3, 0), some (0, i), some (2, 100 + ρ 2 (4 * b + i)), o5], [(3, 0), (2, 100 + ρ 2 (4 * b + i))])) rfl ?_
          refine sw_acq0 (pt := 53) (pn := 31) rfl rfl rfl ?_
          refine sw_p 1 (f' := (33, [some (2, p), some (2, 100 + b), some (3, 0), some (0, i), some (2, 100 + ρ 2 (4 * b + i)), o5], [(2, 100 + ρ 2 (4 * b + i))])) rfl ?_
          refine sw_cv1 (pn := 36) (q0 := mj_St_gather) (q := mj_Br_isClosed) (p := 100 + ρ 2 (4 * b + i)) (as2 := []) (L2 := [some (2, 100 + ρ 2 (4 * b + i))]) (rest := []) (v := some (0, 0)) (s1 := s) (ν1 := ν1) rfl rfl rfl rfl rfl rfl rfl rfl rfl (hR.br (ρ 2 (4 * b + i)) (by omega) (by omega)).1 (by have h := pt_isClosed (E := E) (d := d + 1) (s := s) (ν := ν1) (p := 100 + ρ 2 (4 * b + i)) (by omega) (hR.br (ρ 2 (4 * b + i)) (by omega) (by omega)).1 (by rw [(hR.bn (ρ 2 (4 * b + i)) (by omega) (by omega)).2.1]; omega) (by rw [(hR.bn (ρ 2 (4 * b + i)) (by omega) (by omega)).2.2]; omega); rw [(hR.bn (ρ 2 (4 * b + i)) (by omega) (by omega)).2.1, (hR.bn (ρ 2 (4 * b + i)) (by omega) (by omega)).2.2, if_neg (by omega)] at h; exact h) ?_
          show sw_w E _ 35 (36, [some (2, p), some (2, 100 + b), some (3, 0), some (0, i), some (2, 100 + ρ 2 (4 * b + i)), o5], [(0, 0)]) s ν1 _
          refine sw_ne1 (pt := 53) (pn := 39) rfl rfl rfl (by omega) (fun h => absurd h (by decide)) (fun _ => ?_)
          refine sw_p 2 (f' := (42, [some (2, p), some (2, 100 + b), some (3, 0), some (0, i), some (2, 100 + ρ 2 (4 * b + i)), o5], [(2, 100 + ρ 2 (4 * b + i)), (2, p)])) rfl ?_
          refine sw_gI (pn := 45) (i := 6) rfl rfl rfl rfl rfl (by omega) (hR.br (ρ 2 (4 * b + i)) (by omega) (by omega)).1 ?_
          rw [show ν1 (100 + ρ 2 (4 * b + i)) 6 = ρ 5 (ρ 2 (4 * b + i)) from (hR.bn (ρ 2 (4 * b + i)) (by omega) (by omega)).2.1]
          refine sw_p 1 (f' := (47, [some (2, p), some (2, 100 + b), some (3, 0), some (0, i), some (2, 100 + ρ 2 (4 * b + i)), o5], [(2, 100 + ρ 2 (4 * b + i)), (0, ρ 5 (ρ 2 (4 * b + i))), (2, p)])) rfl ?_
          refine sw_gI (pn := 50) (i := 7) rfl rfl rfl rfl rfl (by omega) (hR.br (ρ 2 (4 * b + i)) (by omega) (by omega)).1 ?_
          rw [show ν1 (100 + ρ 2 (4 * b + i)) 7 = ρ 6 (ρ 2 (4 * b + i)) from (hR.bn (ρ 2 (4 * b + i)) (by omega) (by omega)).2.2]
          refine sw_cv2 (pn := 53) (q0 := mj_St_gather) (q := mj_St_add) (p := p) (as2 := [(0, ρ 5 (ρ 2 (4 * b + i))), (0, ρ 6 (ρ 2 (4 * b + i)))]) (L2 := [some (2, p), some (0, ρ 5 (ρ 2 (4 * b + i))), some (0, ρ 6 (ρ 2 (4 * b + i))), none]) (rest := []) (s1 := s) rfl rfl rfl rfl rfl rfl rfl rfl rfl hs.1.2 (st_add (g := g) hs hd hI2 (by omega) (by omega) (fun a h3 h4 => iv_free hD hM hI2.2.2.2.1 (by omega) (by omega) (k := 0) (by omega) (by rw [hlb.1]; exact h3) (by rw [hlb.2]; exact h4))) (fun v ν2 hv => ?_)
          obtain ⟨rfl, hf2, hn2, hv⟩ := hv
          have hR := st_R hp hI hf2 hR
          show sw_w E _ 35 (53, [some (2, p), some (2, 100 + b), some (3, 0), some (0, i), some (2, 100 + ρ 2 (4 * b + i)), o5], []) s ν2 _
          refine sw_p 1 (f' := (54, [some (2, p), some (2, 100 + b), some (3, 0), some (0, i), some (2, 100 + ρ 2 (4 * b + i)), o5], [(2, 100 + b)])) rfl ?_
          refine sw_hA (pn := 57) (i := 5) (v := 120 + b) rfl rfl rfl rfl rfl (hR.br b (by omega) (by omega)).1 (hR.br b (by omega) (by omega)).2.2.2.2.2.2.1 (by omega) ?_
          refine sw_p 1 (f' := (58, [some (2, p), some (2, 100 + b), some (3, 0), some (0, i), some (2, 100 + ρ 2 (4 * b + i)), o5], [(0, i), (2, 120 + b)])) rfl ?_
          refine sw_aal (pn := 59) (t := 5) (l := 4) rfl rfl rfl (by decide) (by omega) (hR.br b (by omega) (by omega)).2.2.2.2.2.2.2.1 (hR.br b (by omega) (by omega)).2.2.2.2.2.2.2.2 (by omega) (by omega) (fun h => absurd h (by rw [show ν2 (120 + b) i = -1 from ((hR.sl b i (by omega) (by omega) (by omega) (by omega)).2).trans (if_neg (by omega))]; omega)) (fun _ => ?_)
          refine sw_p 5 (f' := (7, [some (2, p), some (2, 100 + b), some (3, 0), some (0, i + 1), some (2, 100 + ρ 2 (4 * b + i)), some (3, 0)], [])) rfl ?_
          exact ih (i + 1) _ ν2 _ _ (by omega) (by omega) (fr_tr hfr hf2 (fun _ h => h) (fun _ h => h)) hv (by omega) hM1
      · rw [show mo_mku ρ w (ρ 2 (4 * b + i)) g = g from if_pos (by omega)] at hM1 ⊢
        refine sw_p 2 (f' := (9, [some (2, p), some (2, 100 + b), some (3, 0), some (0, i), o4, o5], [(0, 4), (0, i)])) rfl ?_
        refine sw_ge2 (pt := 86) (pn := 12) rfl rfl rfl (by omega) (by omega) (fun h => absurd h (by omega)) (fun m1 => ?_)
        refine sw_p 1 (f' := (13, [some (2, p), some (2, 100 + b), some (3, 0), some (0, i), o4, o5], [(2, 100 + b)])) rfl ?_
        refine sw_hA (pn := 16) (i := 4) (v := 110 + b) rfl rfl rfl rfl rfl (hR.br b (by omega) (by omega)).1 (hR.br b (by omega) (by omega)).2.2.2.2.2.1.1 (by omega) ?_
        refine sw_p 1 (f' := (17, [some (2, p), some (2, 100 + b), some (3, 0), some (0, i), o4, o5], [(0, i), (2, 110 + b)])) rfl ?_
        refine sw_aal (pn := 18) (t := 3) (l := 4) rfl rfl rfl (by decide) (by omega) (hR.br b (by omega) (by omega)).2.2.2.2.2.1.2.1 (hR.br b (by omega) (by omega)).2.2.2.2.2.1.2.2 (by omega) (by omega) (fun h => absurd h (by rw [show ν1 (110 + b) i = -1 from ((hR.sl b i (by omega) (by omega) (by omega) (by omega)).1).trans (if_neg (by omega))]; omega)) (fun _ => ?_)
        refine sw_p 4 (f' := (54, [some (2, p), some (2, 100 + b), some (3, 0), some (0, i), some (3, 0), o5], [(2, 100 + b)])) rfl ?_
        refine sw_hA (pn := 57) (i := 5) (v := 120 + b) rfl rfl rfl rfl rfl (hR.br b (by omega) (by omega)).1 (hR.br b (by omega) (by omega)).2.2.2.2.2.2.1 (by omega) ?_
        refine sw_p 1 (f' := (58, [some (2, p), some (2, 100 + b), some (3, 0), some (0, i), some (3, 0), o5], [(0, i), (2, 120 + b)])) rfl ?_
        refine sw_aal (pn := 59) (t := 5) (l := 4) rfl rfl rfl (by decide) (by omega) (hR.br b (by omega) (by omega)).2.2.2.2.2.2.2.1 (hR.br b (by omega) (by omega)).2.2.2.2.2.2.2.2 (by omega) (by omega) (fun h => absurd h (by rw [show ν1 (120 + b) i = -1 from ((hR.sl b i (by omega) (by omega) (by omega) (by omega)).2).trans (if_neg (by omega))]; omega)) (fun _ => ?_)
        refine sw_p 5 (f' := (7, [some (2, p), some (2, 100 + b), some (3, 0), some (0, i + 1), some (3, 0), some (3, 0)], [])) rfl ?_
        exact ih (i + 1) g ν1 _ _ (by omega) (by omega) hfr hI2 (by omega) hM1
theorem st_ga_N (hI : iv_A ρ f) (hR0 : pt_R s ν ρ f) (hs : st_sh s p q r) (hd : p ≠ q ∧ p ≠ r ∧ q ≠ r) (hp : 55 ≤ p ∧ p ≤ 63 ∧ 55 ≤ q ∧ q ≤ 63 ∧ 55 ≤ r ∧ r ≤ 63) (hD : iv_D ρ) (hO : iv_O ρ) (hrg : iv_R ρ) (hb : 0 ≤ b ∧ b < ρ 0 1) (hA : ∀ i, 4 * b ≤ i → i < 4 * b + 4 → 100 ≤ ρ 2 i → ((1 ≤ ρ 15 (ρ 2 i - 100) ∧ ρ 15 (ρ 2 i - 100) ≤ 3) ↔ ρ 2 i ≠ w)) {j : Int} (hj : 0 ≤ j ∧ j < 4) (hjw : ρ 2 (4 * b + j) = w) (hw : 100 ≤ w) : sw_w E (d + 2) 35 (0, [some (2, p), some (2, 100 + b), some (3, 0), none, none, none], []) s ν (sw_vr (ga_P ν ρ p q r (oc_m ρ b w)) s) := by
  refine sw_p 2 (f' := (2, [some (2, p), some (2, 100 + b), some (3, 0), none, none, none], [(0, 0), (2, p)])) rfl ?_
  refine sw_pI (pn := 5) (i := 2) rfl rfl rfl rfl rfl (by omega) hs.1.2 ?_
  refine sw_p 2 (f' := (7, [some (2, p), some (2, 100 + b), some (3, 0), some (0, 0), none, none], [])) rfl ?_
  have h := st_ga_N_l (E := E) (d := d) hI hR0 hs hd hp hD hO hrg hb hA hj hjw hw 4 0 (fun _ => 0) (mm_u ν p 2 0) none none (by omega) (by omega) (fr_u (by simp)) ⟨by rw [mm_u_at]; omega, fun i h1 h2 => by rw [mm_u_at] at h2; omega, fun i j h1 h2 h3 => by rw [mm_u_at] at h3; omega, fun a => Or.inl rfl, fun a => ⟨fun h => absurd (show (0 : Int) = 1 from h) (by decide), fun ⟨i, h1, h2, _⟩ => by rw [mm_u_at] at h2; omega⟩⟩ (by rw [mm_u_at]; omega) (fun a h => absurd (show (0 : Int) = 1 from h) (by decide))
  rw [Int.add_zero] at h
  exact h
theorem st_ga_B_l (hI : iv_A ρ f) (hR0 : pt_R s ν ρ f) (hs : st_sh s p q r) (hd : p ≠ q ∧ p ≠ r ∧ q ≠ r) (hp : 55 ≤ p ∧ p ≤ 63 ∧ 55 ≤ q ∧ q ≤ 63 ∧ 55 ≤ r ∧ r ≤ 63) (hD : iv_D ρ) (hO : iv_O ρ) (hrg : iv_R ρ) (hb : 0 ≤ b ∧ b < ρ 0 1) (hA : ∀ i, 4 * b ≤ i → i < 4 * b + 4 → 100 ≤ ρ 2 i → ((1 ≤ ρ 15 (ρ 2 i - 100) ∧ ρ 15 (ρ 2 i - 100) ≤ 3) ↔ ρ 2 i ≠ w)) {j : Int} (hj : 0 ≤ j ∧ j < 4) (hjw : ρ 2 (4 * b + j) = w) (hw : 0 ≤ w ∧ w < ρ 0 1) : ∀ (n : Nat) (i : Int) (g : Int → Int) (ν1 : mm_T) (o4 o5 : Option mg_V), 0 ≤ i → i + n = 4 → fr_r [p, q, r] ν ν1 → st_I ν1 p q r g → (ν1 p 2 ≤ 3 * i ∧ (j < i → ν1 p 2 ≤ 3 * i - 3)) → iv_M ρ b i g → sw_w E (d + 2) 35 (7, [some (2, p), some (2, 100 + b), some (2, 100 + w), some (0, i), o4, o5], []) s ν1 (sw_vr (ga_P ν ρ p q r (mo_mks ρ w n (4 * b + i) g)) s) := by
  intro n
  induction n with
  | zero =>
    intro i g ν1 o4 o5 hi hn hfr hI2 hcn hM
    refine sw_p 2 (f' := (9, [some (2, p), some (2, 100 + b), some (2, 100 + w), some (0, i), o4, o5], [(0, 4), (0, i)])) rfl ?_
    refine sw_ge2 (pt := 86) (pn := 12) rfl rfl rfl (by omega) (by omega) (fun m1 => ?_) (fun h => absurd h (by omega))
    exact sw_retV rfl rfl rfl ⟨_, rfl, rfl, rfl, hfr, hI2, by omega⟩
  | succ n ih =>
    intro i g ν1 o4 o5 hi hn hfr hI2 hcn hM
    have hR := st_R hp hI hfr hR0
    have h8 := hI.1.1
    have h12 := hI.1.2.2.1
    have hsl := hI.1.2.2.2.2.2.2.2.1 (4 * b + i) (by omega) (by omega)
    have hsc := hI.2.1.1 (4 * b + i) (by omega) (by omega)
    have htr := hI.2.2.1.2.2 (4 * b + i) (by omega) (by omega)
    have hK := hI.2.2.2.2.2.2 (4 * b + i) (by omega) (by omega)
    have hA1 := hA (4 * b + i) (by omega) (by omega)
    have hM1 := iv_M_u (w := w) hsl.1 hi hM
    have e0 : mo_mks ρ w (n + 1) (4 * b + i) g = mo_mks ρ w n (4 * b + (i + 1)) (mo_mku ρ w (ρ 2 (4 * b + i)) g) := by
      show mo_mks ρ w n (4 * b + i + 1) _ = _
      rw [show 4 * b + i + 1 = 4 * b + (i + 1) by omega]
    rw [e0]
    by_cases h1 : 100 ≤ ρ 2 (4 * b + i)
    · have hA1 := hA1 h1
      obtain ⟨c, hc⟩ : ∃ c, ρ 2 (4 * b + i) = c + 100 := ⟨ρ 2 (4 * b + i) - 100, by omega⟩
      have hK := hK h1
      have hcd := hI.1.cd c (by omega) (by omega)
      rw [show ρ 2 (4 * b + i) - 100 = c by omega] at hA1
      by_cases hwu : ρ 2 (4 * b + i) = w
      · have hth : ¬ (1 ≤ ρ 15 c ∧ ρ 15 c ≤ 3) := fun h => hA1.mp h hwu
        rw [show mo_mku ρ w (ρ 2 (4 * b + i)) g = g from if_pos (Or.inl hwu)] at hM1 ⊢
        refine sw_p 2 (f' := (9, [some (2, p), some (2, 100 + b), some (2, 100 + w), some (0, i), o4, o5], [(0, 4), (0, i)])) rfl ?_
        refine sw_ge2 (pt := 86) (pn := 12) rfl rfl rfl (by omega) (by omega) (fun h => absurd h (by omega)) (fun m1 => ?_)
        refine sw_p 1 (f' := (13, [some (2, p), some (2, 100 + b), some (2, 100 + w), some (0, i), o4, o5], [(2, 100 + b)])) rfl ?_
        refine sw_hA (pn := 16) (i := 4) (v := 110 + b) rfl rfl rfl rfl rfl (hR.br b (by omega) (by omega)).1 (hR.br b (by omega) (by omega)).2.2.2.2.2.1.1 (by omega) ?_
        refine sw_p 1 (f' := (17, [some (2, p), some (2, 100 + b), some (2, 100 + w), some (0, i), o4, o5], [(0, i), (2, 110 + b)])) rfl ?_
        refine sw_aal (pn := 18) (t := 3) (l := 4) rfl rfl rfl (by decide) (by omega) (hR.br b (by omega) (by omega)).2.2.2.2.2.1.2.1 (hR.br b (by omega) (by omega)).2.2.2.2.2.1.2.2 (by omega) (by omega) (fun h => absurd h (by rw [show ν1 (110 + b) i = -1 from ((hR.sl b i (by omega) (by omega) (by omega) (by omega)).1).trans (if_neg (by omega))]; omega)) (fun _ => ?_)
        refine sw_p 4 (f' := (54, [some (2, p), some (2, 100 + b), some (2, 100 + w), some (0, i), some (3, 0), o5], [(2, 100 + b)])) rfl ?_
        refine sw_hA (pn := 57) (i := 5) (v := 120 + b) rfl rfl rfl rfl rfl (hR.br b (by omega) (by omega)).1 (hR.br b (by omega) (by omega)).2.2.2.2.2.2.1 (by omega) ?_
        refine sw_p 1 (f' := (58, [some (2, p), some (2, 100 + b), some (2, 100 + w), some (0, i), some (3, 0), o5], [(0, i), (2, 120 + b)])) rfl ?_
        refine sw_aal (pn := 59) (t := 5) (l := 4) rfl rfl rfl (by decide) (by omega) (hR.br b (by omega) (by omega)).2.2.2.2.2.2.2.1 (hR.br b (by omega) (by omega)).2.2.2.2.2.2.2.2 (by omega) (by omega) (fun _ => ?_) (fun h => absurd h (by rw [show ν1 (120 + b) i = 300 + c from (((hR.sl b i (by omega) (by omega) (by omega) (by omega)).2).trans (if_pos (by omega))).trans (by omega)]; omega))
        rw [show ν1 (120 + b) i = 300 + c from (((hR.sl b i (by omega) (by omega) (by omega) (by omega)).2).trans (if_pos (by omega))).trans (by omega)]
        refine sw_p 4 (f' := (68, [some (2, p), some (2, 100 + b), some (2, 100 + w), some (0, i), some (3, 0), some (2, 300 + c)], [(2, 300 + c)])) rfl ?_
        refine sw_cv1 (pn := 71) (q0 := mj_St_gather) (q := mj_Ca_isThere) (p := 300 + c) (as2 := []) (L2 := [some (2, 300 + c)]) (rest := []) (v := some (0, 0)) (s1 := s) (ν1 := ν1) rfl rfl rfl rfl rfl rfl rfl rfl rfl (hR.ca c (by omega) (by omega)).1 (cl_th0 hI hR (by omega) hth) ?_
        show sw_w E _ 35 (71, [some (2, p), some (2, 100 + b), some (2, 100 + w), some (0, i), some (3, 0), some (2, 300 + c)], [(0, 0)]) s ν1 _
        refine sw_eq1 (pt := 80) (pn := 74) rfl rfl rfl (by omega) (fun _ => ?_) (fun h => absurd h (by decide))
        refine sw_p 2 (f' := (7, [some (2, p), some (2, 100 + b), some (2, 100 + w), some (0, i + 1), some (3, 0), some (2, 300 + c)], [])) rfl ?_
        exact ih (i + 1) g ν1 _ _ (by omega) (by omega) hfr hI2 (by omega) hM1
      · have hij : i ≠ j := fun h => hwu (by rw [h]; exact hjw)
        have hth : 1 ≤ ρ 15 c ∧ ρ 15 c ≤ 3 := hA1.mpr hwu
        have hfk : ∀ k a, 0 ≤ k → k < 3 → 0 ≤ ρ 17 (3 * c + k) → ρ 17 (3 * c + k) ≤ a → a < ρ 17 (3 * c + k) + ρ 9 (3 * ρ 13 c + k) → g a = 0 ∧ ∀ l, 0 ≤ l → l < 3 → l ≠ k → 0 ≤ ρ 17 (3 * c + l) → ¬ (ρ 17 (3 * c + l) ≤ a ∧ a < ρ 17 (3 * c + l) + ρ 9 (3 * ρ 13 c + l)) := by
          intro k a k0 k1 hr0 ha1 ha2
          have hlk := iv_loc (k := k) hc (by omega) hr0
          refine ⟨iv_free hD hM hI2.2.2.2.1 (by omega) (by omega) ⟨k0, k1⟩ (by rw [hlk.1]; exact ha1) (by rw [hlk.2]; exact ha2), fun l l0 l1 hlk2 hr1 h3 => ?_⟩
          have hll := iv_loc (k := l) hc (by omega) hr1
          have := hD (4 * b + i) (4 * b + i) k l (by omega) (by omega) (by omega) (by omega) k0 k1 l0 l1 rfl (by omega) (by rw [hlk.1, hlk.2]; omega) (by rw [hll.1, hll.2]; omega)
          rw [hlk.1, hlk.2, hll.1, hll.2] at this
          omega
        rw [show mo_mku ρ w (ρ 2 (4 * b + i)) g = mo_mk1 ρ c 2 (mo_mk1 ρ c 1 (mo_mk1 ρ c 0 g)) by unfold mo_mku; rw [if_neg (by omega), if_neg (by omega), show ρ 2 (4 * b + i) - 100 = c by omega]] at hM1 ⊢
        refine sw_p 2 (f' := (9, [some (2, p), some (2, 100 + b), some (2, 100 + w), some (0, i), o4, o5], [(0, 4), (0, i)])) rfl ?_
        refine sw_ge2 (pt := 86) (pn := 12) rfl rfl rfl (by omega) (by omega) (fun h => absurd h (by omega)) (fun m1 => ?_)
        refine sw_p 1 (f' := (13, [some (2, p), some (2, 100 + b), some (2, 100 + w), some (0, i), o4, o5], [(2, 100 + b)])) rfl ?_
        refine sw_hA (pn := 16) (i := 4) (v := 110 + b) rfl rfl rfl rfl rfl (hR.br b (by omega) (by omega)).1 (hR.br b (by omega) (by omega)).2.2.2.2.2.1.1 (by omega) ?_
        refine sw_p 1 (f' := (17, [some (2, p), some (2, 100 + b), some (2, 100 + w), some (0, i), o4, o5], [(0, i), (2, 110 + b)])) rfl ?_
        refine sw_aal (pn := 18) (t := 3) (l := 4) rfl rfl rfl (by decide) (by omega) (hR.br b (by omega) (by omega)).2.2.2.2.2.1.2.1 (hR.br b (by omega) (by omega)).2.2.2.2.2.1.2.2 (by omega) (by omega) (fun h => absurd h (by rw [show ν1 (110 + b) i = -1 from ((hR.sl b i (by omega) (by omega) (by omega) (by omega)).1).trans (if_neg (by omega))]; omega)) (fun _ => ?_)
        refine sw_p 4 (f' := (54, [some (2, p), some (2, 100 + b), some (2, 100 + w), some (0, i), some (3, 0), o5], [(2, 100 + b)])) rfl ?_
        refine sw_hA (pn := 57) (i := 5) (v := 120 + b) rfl rfl rfl rfl rfl (hR.br b (by omega) (by omega)).1 (hR.br b (by omega) (by omega)).2.2.2.2.2.2.1 (by omega) ?_
        refine sw_p 1 (f' := (58, [some (2, p), some (2, 100 + b), some (2, 100 + w), some (0, i), some (3, 0), o5], [(0, i), (2, 120 + b)])) rfl ?_
        refine sw_aal (pn := 59) (t := 5) (l := 4) rfl rfl rfl (by decide) (by omega) (hR.br b (by omega) (by omega)).2.2.2.2.2.2.2.1 (hR.br b (by omega) (by omega)).2.2.2.2.2.2.2.2 (by omega) (by omega) (fun _ => ?_) (fun h => absurd h (by rw [show ν1 (120 + b) i = 300 + c from (((hR.sl b i (by omega) (by omega) (by omega) (by omega)).2).trans (if_pos (by omega))).trans (by omega)]; omega))
        rw [show ν1 (120 + b) i = 300 + c from (((hR.sl b i (by omega) (by omega) (by omega) (by omega)).2).trans (if_pos (by omega))).trans (by omega)]
        refine sw_p 4 (f' := (68, [some (2, p), some (2, 100 + b), some (2, 100 + w), some (0, i), some (3, 0), some (2, 300 + c)], [(2, 300 + c)])) rfl ?_
        refine sw_cv1 (pn := 71) (q0 := mj_St_gather) (q := mj_Ca_isThere) (p := 300 + c) (as2 := []) (L2 := [some (2, 300 + c)]) (rest := []) (v := some (0, 1)) (s1 := s) (ν1 := ν1) rfl rfl rfl rfl rfl rfl rfl rfl rfl (hR.ca c (by omega) (by omega)).1 (cl_th1 hI hR (by omega) hth) ?_
        show sw_w E _ 35 (71, [some (2, p), some (2, 100 + b), some (2, 100 + w), some (0, i), some (3, 0), some (2, 300 + c)], [(0, 1)]) s ν1 _
        refine sw_eq1 (pt := 80) (pn := 74) rfl rfl rfl (by omega) (fun h => absurd h (by decide)) (fun _ => ?_)
        refine sw_p 2 (f' := (77, [some (2, p), some (2, 100 + b), some (2, 100 + w), some (0, i), some (3, 0), some (2, 300 + c)], [(2, 300 + c), (2, p)])) rfl ?_
        refine sw_cv2 (pn := 80) (q0 := mj_St_gather) (q := mj_St_addRanges) (p := p) (as2 := [(2, 300 + c)]) (L2 := [some (2, p), some (2, 300 + c), none]) (rest := []) (s1 := s) rfl rfl rfl rfl rfl rfl rfl rfl rfl hs.1.2 (st_ar (g := g) (d := d) hI hR hs hd hp (by omega) hth hrg hI2 (by omega) hfk) (fun v ν2 hv => ?_)
        obtain ⟨rfl, hf2, hn2, hv⟩ := hv
        show sw_w E _ 35 (80, [some (2, p), some (2, 100 + b), some (2, 100 + w), some (0, i), some (3, 0), some (2, 300 + c)], []) s ν2 _
        refine sw_p 2 (f' := (7, [some (2, p), some (2, 100 + b), some (2, 100 + w), some (0, i + 1), some (3, 0), some (2, 300 + c)], [])) rfl ?_
        exact ih (i + 1) _ ν2 _ _ (by omega) (by omega) (fr_tr hfr hf2 (fun _ h => h) (fun _ h => h)) hv (by omega) hM1
    · by_cases h2 : 0 ≤ ρ 2 (4 * b + i)
      · have htr := htr h2 (by omega)
        have hob := hI.2.1.2.1 (ρ 2 (4 * b + i)) (by omega) (by omega)
        have hoo := hO.2 (ρ 2 (4 * b + i)) (by omega) (by omega)
        have hlb := iv_lob (i := 4 * b + i) ⟨h2, by omega⟩
        by_cases hwu : ρ 2 (4 * b + i) = w
        · rw [show mo_mku ρ w (ρ 2 (4 * b + i)) g = g from if_pos (Or.inl hwu)] at hM1 ⊢
          refine sw_p 2 (f' := (9, [some (2, p), some (2, 100 + b), some (2, 100 + w), some (0, i), o4, o5], [(0, 4), (0, i)])) rfl ?_
          refine sw_ge2 (pt := 86) (pn := 12) rfl rfl rfl (by omega) (by omega) (fun h => absurd h (by omega)) (fun m1 => ?_)
          refine sw_p 1 (f' := (13, [some (2, p), some (2, 100 + b), some (2, 100 + w), some (0, i), o4, o5], [(2, 100 + b)])) rfl ?_
          refine sw_hA (pn := 16) (i := 4) (v := 110 + b) rfl rfl rfl rfl rfl (hR.br b (by omega) (by omega)).1 (hR.br b (by omega) (by omega)).2.2.2.2.2.1.1 (by omega) ?_
          refine sw_p 1 (f' := (17, [some (2, p), some (2, 100 + b), some (2, 100 + w), some (0, i), o4, o5], [(0, i), (2, 110 + b)])) rfl ?_
          refine sw_aal (pn := 18) (t := 3) (l := 4) rfl rfl rfl (by decide) (by omega) (hR.br b (by omega) (by omega)).2.2.2.2.2.1.2.1 (hR.br b (by omega) (by omega)).2.2.2.2.2.1.2.2 (by omega) (by omega) (fun _ => ?_) (fun h => absurd h (by rw [show ν1 (110 + b) i = 100 + ρ 2 (4 * b + i) from ((hR.sl b i (by omega) (by omega) (by omega) (by omega)).1).trans (if_pos (by omega))]; omega))
          rw [show ν1 (110 + b) i = 100 + ρ 2 (4 * b + i) from ((hR.sl b i (by omega) (by omega) (by omega) (by omega)).1).trans (if_pos (by omega))]
          refine sw_p 5 (f' := (28, [some (2, p), some (2, 100 + b), some (2, 100 + w), some (0, i), some (2, 100 + ρ 2 (4 * b + i)), o5], [(2, 100 + w), (2, 100 + ρ 2 (4 * b + i))])) rfl ?_
          refine sw_acq (pt := 53) (pn := 31) rfl rfl rfl (by rw [(hR.br (ρ 2 (4 * b + i)) (by omega) (by omega)).1]; omega) (by rw [(hR.br w (by omega) (by omega)).1]; omega) (fun m2 => ?_) (fun h => absurd h (by omega))
          refine sw_p 1 (f' := (54, [some (2, p), some (2, 100 + b), some (2, 100 + w), some (0, i), some (2, 100 + ρ 2 (4 * b + i)), o5], [(2, 100 + b)])) rfl ?_
          refine sw_hA (pn := 57) (i := 5) (v := 120 + b) rfl rfl rfl rfl rfl (hR.br b (by omega) (by omega)).1 (hR.br b (by omega) (by omega)).2.2.2.2.2.2.1 (by omega) ?_
          refine sw_p 1 (f' := (58, [some (2, p), some (2, 100 + b), some (2, 100 + w), some (0, i), some (2, 100 + ρ 2 (4 * b + i)), o5], [(0, i), (2, 120 + b)])) rfl ?_
          refine sw_aal (pn := 59) (t := 5) (l := 4) rfl rfl rfl (by decide) (by omega) (hR.br b (by omega) (by omega)).2.2.2.2.2.2.2.1 (hR.br b (by omega) (by omega)).2.2.2.2.2.2.2.2 (by omega) (by omega) (fun h => absurd h (by rw [show ν1 (120 + b) i = -1 from ((hR.sl b i (by omega) (by omega) (by omega) (by omega)).2).trans (if_neg (by omega))]; omega)) (fun _ => ?_)
          refine sw_p 5 (f' := (7, [some (2, p), some (2, 100 + b), some (2, 100 + w), some (0, i + 1), some (2, 100 + ρ 2 (4 * b + i)), some (3, 0)], [])) rfl ?_
          exact ih (i + 1) g ν1 _ _ (by omega) (by omega) hfr hI2 (by omega) hM1
        · skip
          rw [show mo_mku ρ w (ρ 2 (4 * b + i)) g = mo_mkr (ρ 5 (ρ 2 (4 * b + i))) (ρ 6 (ρ 2 (4 * b + i))) g from (if_neg (by omega)).trans (if_pos (by omega))] at hM1 ⊢
          have hij : i ≠ j := fun h => by subst h; omega
          by_cases hcl : ρ 5 (ρ 2 (4 * b + i)) = ρ 6 (ρ 2 (4 * b + i))
          · rw [mo_wr_0 (by omega)] at hM1 ⊢
            refine sw_p 2 (f' := (9, [some (2, p), some (2, 100 + b), some (2, 100 + w), some (0, i), o4, o5], [(0, 4), (0, i)])) rfl ?_
            refine sw_ge2 (pt := 86) (pn := 12) rfl rfl rfl (by omega) (by omega) (fun h => absurd h (by omega)) (fun m1 => ?_)
            refine sw_p 1 (f' := (13, [some (2, p), some (2, 100 + b), some (2, 100 + w), some (0, i), o4, o5], [(2, 100 + b)])) rfl ?_
            refine sw_hA (pn := 16) (i := 4) (v := 110 + b) rfl rfl rfl rfl rfl (hR.br b (by omega) (by omega)).1 (hR.br b (by omega) (by omega)).2.2.2.2.2.1.1 (by omega) ?_
            refine sw_p 1 (f' := (17, [some (2, p), some (2, 100 + b), some (2, 100 + w), some (0, i), o4, o5], [(0, i), (2, 110 + b)])) rfl ?_
            refine sw_aal (pn := 18) (t := 3) (l := 4) rfl rfl rfl (by decide) (by omega) (hR.br b (by omega) (by omega)).2.2.2.2.2.1.2.1 (hR.br b (by omega) (by omega)).2.2.2.2.2.1.2.2 (by omega) (by omega) (fun _ => ?_) (fun h => absurd h (by rw [show ν1 (110 + b) i = 100 + ρ 2 (4 * b + i) from ((hR.sl b i (by omega) (by omega) (by omega) (by omega)).1).trans (if_pos (by omega))]; omega))
            rw [show ν1 (110 + b) i = 100 + ρ 2 (4 * b + i) from ((hR.sl b i (by omega) (by omega) (by omega) (by omega)).1).trans (if_pos (by omega))]
            refine sw_p 5 (f' := (28, [some (2, p), some (2, 100 + b), some (2, 100 + w), some (0, i), some (2, 100 + ρ 2 (4 * b + i)), o5], [(2, 100 + w), (2, 100 + ρ 2 (4 * b + i))])) rfl ?_
            refine sw_acq (pt := 53) (pn := 31) rfl rfl rfl (by rw [(hR.br (ρ 2 (4 * b + i)) (by omega) (by omega)).1]; omega) (by rw [(hR.br w (by omega) (by omega)).1]; omega) (fun h => absurd h (by omega)) (fun m2 => ?_)
            refine sw_p 1 (f' := (33, [some (2, p), some (2, 100 + b), some (2, 100 + w), some (0, i), some (2, 100 + ρ 2 (4 * b + i)), o5], [(2, 100 + ρ 2 (4 * b + i))])) rfl ?_
            refine sw_cv1 (pn := 36) (q0 := mj_St_gather) (q := mj_Br_isClosed) (p := 100 + ρ 2 (4 * b + i)) (as2 := []) (L2 := [some (2, 100 + ρ 2 (4 * b + i))]) (rest := []) (v := some (0, 1)) (s1 := s) (ν1 := ν1) rfl rfl rfl rfl rfl rfl rfl rfl rfl (hR.br (ρ 2 (4 * b + i)) (by omega) (by omega)).1 (by have h := pt_isClosed (E := E) (d := d + 1) (s := s) (ν := ν1) (p := 100 + ρ 2 (4 * b + i)) (by omega) (hR.br (ρ 2 (4 * b + i)) (by omega) (by omega)).1 (by rw [(hR.bn (ρ 2 (4 * b + i)) (by omega) (by omega)).2.1]; omega) (by rw [(hR.bn (ρ 2 (4 * b + i)) (by omega) (by omega)).2.2]; omega); rw [(hR.bn (ρ 2 (4 * b + i)) (by omega) (by omega)).2.1, (hR.bn (ρ 2 (4 * b + i)) (by omega) (by omega)).2.2, if_pos (by omega)] at h; exact h) ?_
            show sw_w E _ 35 (36, [some (2, p), some (2, 100 + b), some (2, 100 + w), some (0, i), some (2, 100 + ρ 2 (4 * b + i)), o5], [(0, 1)]) s ν1 _
            refine sw_ne1 (pt := 53) (pn := 39) rfl rfl rfl (by omega) (fun _ => ?_) (fun h => absurd h (by decide))
            refine sw_p 1 (f' := (54, [some (2, p), some (2, 100 + b), some (2, 100 + w), some (0, i), some (2, 100 + ρ 2 (4 * b + i)), o5], [(2, 100 + b)])) rfl ?_
            refine sw_hA (pn := 57) (i := 5) (v := 120 + b) rfl rfl rfl rfl rfl (hR.br b (by omega) (by omega)).1 (hR.br b (by omega) (by omega)).2.2.2.2.2.2.1 (by omega) ?_
            refine sw_p 1 (f' := (58, [some (2, p), some (2, 100 + b), some (2, 100 + w), some (0, i), some (2, 100 + ρ 2 (4 * b + i)), o5], [(0, i), (2, 120 + b)])) rfl ?_
            refine sw_aal (pn := 59) (t := 5) (l := 4) rfl rfl rfl (by decide) (by omega) (hR.br b (by omega) (by omega)).2.2.2.2.2.2.2.1 (hR.br b (by omega) (by omega)).2.2.2.2.2.2.2.2 (by omega) (by omega) (fun h => absurd h (by rw [show ν1 (120 + b) i = -1 from ((hR.sl b i (by omega) (by omega) (by omega) (by omega)).2).trans (if_neg (by omega))]; omega)) (fun _ => ?_)
            refine sw_p 5 (f' := (7, [some (2, p), some (2, 100 + b), some (2, 100 + w), some (0, i + 1), some (2, 100 + ρ 2 (4 * b + i)), some (3, 0)], [])) rfl ?_
            exact ih (i + 1) g ν1 _ _ (by omega) (by omega) hfr hI2 (by omega) hM1
          · skip
            refine sw_p 2 (f' := (9, [some (2, p), some (2, 100 + b), some (2, 100 + w), some (0, i), o4, o5], [(0, 4), (0, i)])) rfl ?_
            refine sw_ge2 (pt := 86) (pn := 12) rfl rfl rfl (by omega) (by omega) (fun h => absurd h (by omega)) (fun m1 => ?_)
            refine sw_p 1 (f' := (13, [some (2, p), some (2, 100 + b), some (2, 100 + w), some (0, i), o4, o5], [(2, 100 + b)])) rfl ?_
            refine sw_hA (pn := 16) (i := 4) (v := 110 + b) rfl rfl rfl rfl rfl (hR.br b (by omega) (by omega)).1 (hR.br b (by omega) (by omega)).2.2.2.2.2.1.1 (by omega) ?_
            refine sw_p 1 (f' := (17, [some (2, p), some (2, 100 + b), some (2, 100 + w), some (0, i), o4, o5], [(0, i), (2, 110 + b)])) rfl ?_
            refine sw_aal (pn := 18) (t := 3) (l := 4) rfl rfl rfl (by decide) (by omega) (hR.br b (by omega) (by omega)).2.2.2.2.2.1.2.1 (hR.br b (by omega) (by omega)).2.2.2.2.2.1.2.2 (by omega) (by omega) (fun _ => ?_) (fun h => absurd h (by rw [show ν1 (110 + b) i = 100 + ρ 2 (4 * b + i) from ((hR.sl b i (by omega) (by omega) (by omega) (by omega)).1).trans (if_pos (by omega))]; omega))
            rw [show ν1 (110 + b) i = 100 + ρ 2 (4 * b + i) from ((hR.sl b i (by omega) (by omega) (by omega) (by omega)).1).trans (if_pos (by omega))]
            refine sw_p 5 (f' := (28, [some (2, p), some (2, 100 + b), some (2, 100 + w), some (0, i), some (2, 100 + ρ 2 (4 * b + i)), o5], [(2, 100 + w), (2, 100 + ρ 2 (4 * b + i))])) rfl ?_
            refine sw_acq (pt := 53) (pn := 31) rfl rfl rfl (by rw [(hR.br (ρ 2 (4 * b + i)) (by omega) (by omega)).1]; omega) (by rw [(hR.br w (by omega) (by omega)).1]; omega) (fun h => absurd h (by omega)) (fun m2 => ?_)
            refine sw_p 1 (f' := (33, [some (2, p), some (2, 100 + b), some (2, 100 + w), some (0, i), some (2, 100 + ρ 2 (4 * b + i)), o5], [(2, 100 + ρ 2 (4 * b + i))])) rfl ?_
            refine sw_cv1 (pn := 36) (q0 := mj_St_gather) (q := mj_Br_isClosed) (p := 100 + ρ 2 (4 * b + i)) (as2 := []) (L2 := [some (2, 100 + ρ 2 (4 * b + i))]) (rest := []) (v := some (0, 0)) (s1 := s) (ν1 := ν1) rfl rfl rfl rfl rfl rfl rfl rfl rfl (hR.br (ρ 2 (4 * b + i)) (by omega) (by omega)).1 (by have h := pt_isClosed (E := E) (d := d + 1) (s := s) (ν := ν1) (p := 100 + ρ 2 (4 * b + i)) (by omega) (hR.br (ρ 2 (4 * b + i)) (by omega) (by omega)).1 (by rw [(hR.bn (ρ 2 (4 * b + i)) (by omega) (by omega)).2.1]; omega) (by rw [(hR.bn (ρ 2 (4 * b + i)) (by omega) (by omega)).2.2]; omega); rw [(hR.bn (ρ 2 (4 * b + i)) (by omega) (by omega)).2.1, (hR.bn (ρ 2 (4 * b + i)) (by omega) (by omega)).2.2, if_neg (by omega)] at h; exact h) ?_
            show sw_w E _ 35 (36, [some (2, p), some (2, 100 + b), some (2, 100 + w), some (0, i), some (2, 100 + ρ 2 (4 * b + i)), o5], [(0, 0)]) s ν1 _
            refine sw_ne1 (pt := 53) (pn := 39) rfl rfl rfl (by omega) (fun h => absurd h (by decide)) (fun _ => ?_)
            refine sw_p 2 (f' := (42, [some (2, p), some (2, 100 + b), some (2, 100 + w), some (0, i), some (2, 100 + ρ 2 (4 * b + i)), o5], [(2, 100 + ρ 2 (4 * b + i)), (2, p)])) rfl ?_
            refine sw_gI (pn := 45) (i := 6) rfl rfl rfl rfl rfl (by omega) (hR.br (ρ 2 (4 * b + i)) (by omega) (by omega)).1 ?_
            rw [show ν1 (100 + ρ 2 (4 * b + i)) 6 = ρ 5 (ρ 2 (4 * b + i)) from (hR.bn (ρ 2 (4 * b + i)) (by omega) (by omega)).2.1]
            refine sw_p 1 (f' := (47, [some (2, p), some (2, 100 + b), some (2, 100 + w), some (0, i), some (2, 100 + ρ 2 (4 * b + i)), o5], [(2, 100 + ρ 2 (4 * b + i)), (0, ρ 5 (ρ 2 (4 * b + i))), (2, p)])) rfl ?_
            refine sw_gI (pn := 50) (i := 7) rfl rfl rfl rfl rfl (by omega) (hR.br (ρ 2 (4 * b + i)) (by omega) (by omega)).1 ?_
            rw [show ν1 (100 + ρ 2 (4 * b + i)) 7 = ρ 6 (ρ 2 (4 * b + i)) from (hR.bn (ρ 2 (4 * b + i)) (by omega) (by omega)).2.2]
            refine sw_cv2 (pn := 53) (q0 := mj_St_gather) (q := mj_St_add) (p := p) (as2 := [(0, ρ 5 (ρ 2 (4 * b + i))), (0, ρ 6 (ρ 2 (4 * b + i)))]) (L2 := [some (2, p), some (0, ρ 5 (ρ 2 (4 * b + i))), some (0, ρ 6 (ρ 2 (4 * b + i))), none]) (rest := []) (s1 := s) rfl rfl rfl rfl rfl rfl rfl rfl rfl hs.1.2 (st_add (g := g) hs hd hI2 (by omega) (by omega) (fun a h3 h4 => iv_free hD hM hI2.2.2.2.1 (by omega) (by omega) (k := 0) (by omega) (by rw [hlb.1]; exact h3) (by rw [hlb.2]; exact h4))) (fun v ν2 hv => ?_)
            obtain ⟨rfl, hf2, hn2, hv⟩ := hv
            have hR := st_R hp hI hf2 hR
            show sw_w E _ 35 (53, [some (2, p), some (2, 100 + b), some (2, 100 + w), some (0, i), some (2, 100 + ρ 2 (4 * b + i)), o5], []) s ν2 _
            refine sw_p 1 (f' := (54, [some (2, p), some (2, 100 + b), some (2, 100 + w), some (0, i), some (2, 100 + ρ 2 (4 * b + i)), o5], [(2, 100 + b)])) rfl ?_
            refine sw_hA (pn := 57) (i := 5) (v := 120 + b) rfl rfl rfl rfl rfl (hR.br b (by omega) (by omega)).1 (hR.br b (by omega) (by omega)).2.2.2.2.2.2.1 (by omega) ?_
            refine sw_p 1 (f' := (58, [some (2, p), some (2, 100 + b), some (2, 100 + w), some (0, i), some (2, 100 + ρ 2 (4 * b + i)), o5], [(0, i), (2, 120 + b)])) rfl ?_
            refine sw_aal (pn := 59) (t := 5) (l := 4) rfl rfl rfl (by decide) (by omega) (hR.br b (by omega) (by omega)).2.2.2.2.2.2.2.1 (hR.br b (by omega) (by omega)).2.2.2.2.2.2.2.2 (by omega) (by omega) (fun h => absurd h (by rw [show ν2 (120 + b) i = -1 from ((hR.sl b i (by omega) (by omega) (by omega) (by omega)).2).trans (if_neg (by omega))]; omega)) (fun _ => ?_)
            refine sw_p 5 (f' := (7, [some (2, p), some (2, 100 + b), some (2, 100 + w), some (0, i + 1), some (2, 100 + ρ 2 (4 * b + i)), some (3, 0)], [])) rfl ?_
            exact ih (i + 1) _ ν2 _ _ (by omega) (by omega) (fr_tr hfr hf2 (fun _ h => h) (fun _ h => h)) hv (by omega) hM1
      · rw [show mo_mku ρ w (ρ 2 (4 * b + i)) g = g from if_pos (by omega)] at hM1 ⊢
        refine sw_p 2 (f' := (9, [some (2, p), some (2, 100 + b), some (2, 100 + w), some (0, i), o4, o5], [(0, 4), (0, i)])) rfl ?_
        refine sw_ge2 (pt := 86) (pn := 12) rfl rfl rfl (by omega) (by omega) (fun h => absurd h (by omega)) (fun m1 => ?_)
        refine sw_p 1 (f' := (13, [some (2, p), some (2, 100 + b), some (2, 100 + w), some (0, i), o4, o5], [(2, 100 + b)])) rfl ?_
        refine sw_hA (pn := 16) (i := 4) (v := 110 + b) rfl rfl rfl rfl rfl (hR.br b (by omega) (by omega)).1 (hR.br b (by omega) (by omega)).2.2.2.2.2.1.1 (by omega) ?_
        refine sw_p 1 (f' := (17, [some (2, p), some (2, 100 + b), some (2, 100 + w), some (0, i), o4, o5], [(0, i), (2, 110 + b)])) rfl ?_
        refine sw_aal (pn := 18) (t := 3) (l := 4) rfl rfl rfl (by decide) (by omega) (hR.br b (by omega) (by omega)).2.2.2.2.2.1.2.1 (hR.br b (by omega) (by omega)).2.2.2.2.2.1.2.2 (by omega) (by omega) (fun h => absurd h (by rw [show ν1 (110 + b) i = -1 from ((hR.sl b i (by omega) (by omega) (by omega) (by omega)).1).trans (if_neg (by omega))]; omega)) (fun _ => ?_)
        refine sw_p 4 (f' := (54, [some (2, p), some (2, 100 + b), some (2, 100 + w), some (0, i), some (3, 0), o5], [(2, 100 + b)])) rfl ?_
        refine sw_hA (pn := 57) (i := 5) (v := 120 + b) rfl rfl rfl rfl rfl (hR.br b (by omega) (by omega)).1 (hR.br b (by omega) (by omega)).2.2.2.2.2.2.1 (by omega) ?_
        refine sw_p 1 (f' := (58, [some (2, p), some (2, 100 + b), some (2, 100 + w), some (0, i), some (3, 0), o5], [(0, i), (2, 120 + b)])) rfl ?_
        refine sw_aal (pn := 59) (t := 5) (l := 4) rfl rfl rfl (by decide) (by omega) (hR.br b (by omega) (by omega)).2.2.2.2.2.2.2.1 (hR.br b (by omega) (by omega)).2.2.2.2.2.2.2.2 (by omega) (by omega) (fun h => absurd h (by rw [show ν1 (120 + b) i = -1 from ((hR.sl b i (by omega) (by omega) (by omega) (by omega)).2).trans (if_neg (by omega))]; omega)) (fun _ => ?_)
        refine sw_p 5 (f' := (7, [some (2, p), some (2, 100 + b), some (2, 100 + w), some (0, i + 1), some (3, 0), some (3, 0)], [])) rfl ?_
        exact ih (i + 1) g ν1 _ _ (by omega) (by omega) hfr hI2 (by omega) hM1
theorem st_ga_B (hI : iv_A ρ f) (hR0 : pt_R s ν ρ f) (hs : st_sh s p q r) (hd : p ≠ q ∧ p ≠ r ∧ q ≠ r) (hp : 55 ≤ p ∧ p ≤ 63 ∧ 55 ≤ q ∧ q ≤ 63 ∧ 55 ≤ r ∧ r ≤ 63) (hD : iv_D ρ) (hO : iv_O ρ) (hrg : iv_R ρ) (hb : 0 ≤ b ∧ b < ρ 0 1) (hA : ∀ i, 4 * b ≤ i → i < 4 * b + 4 → 100 ≤ ρ 2 i → ((1 ≤ ρ 15 (ρ 2 i - 100) ∧ ρ 15 (ρ 2 i - 100) ≤ 3) ↔ ρ 2 i ≠ w)) {j : Int} (hj : 0 ≤ j ∧ j < 4) (hjw : ρ 2 (4 * b + j) = w) (hw : 0 ≤ w ∧ w < ρ 0 1) : sw_w E (d + 2) 35 (0, [some (2, p), some (2, 100 + b), some (2, 100 + w), none, none, none], []) s ν (sw_vr (ga_P ν ρ p q r (oc_m ρ b w)) s) := by
  refine sw_p 2 (f' := (2, [some (2, p), some (2, 100 + b), some (2, 100 + w), none, none, none], [(0, 0), (2, p)])) rfl ?_
  refine sw_pI (pn := 5) (i := 2) rfl rfl rfl rfl rfl (by omega) hs.1.2 ?_
  refine sw_p 2 (f' := (7, [some (2, p), some (2, 100 + b), some (2, 100 + w), some (0, 0), none, none], [])) rfl ?_
  have h := st_ga_B_l (E := E) (d := d) hI hR0 hs hd hp hD hO hrg hb hA hj hjw hw 4 0 (fun _ => 0) (mm_u ν p 2 0) none none (by omega) (by omega) (fr_u (by simp)) ⟨by rw [mm_u_at]; omega, fun i h1 h2 => by rw [mm_u_at] at h2; omega, fun i j h1 h2 h3 => by rw [mm_u_at] at h3; omega, fun a => Or.inl rfl, fun a => ⟨fun h => absurd (show (0 : Int) = 1 from h) (by decide), fun ⟨i, h1, h2, _⟩ => by rw [mm_u_at] at h2; omega⟩⟩ (by rw [mm_u_at]; omega) (fun a h => absurd (show (0 : Int) = 1 from h) (by decide))
  rw [Int.add_zero] at h
  exact h
end ST5
