/-! the layout: all sizes, all bridges -/
/-- sizes of what is laid -/
def lv_ok (μ : mm_T) : Prop := ∀ i k, 0 ≤ i → i < 32 → 0 ≤ k → k < 3 → it_s μ i k ∈ (0 :: pn_l)
theorem lv_half : ∀ z ∈ pn_l, ∀ x ∈ ((0 : Int) :: pn_l), (z / 2 < x ↔ z ≤ x) := by decide
theorem lv_64 : ∀ z ∈ pn_l, 0 < z ∧ z ≤ 4096 ∧ (64 ≤ z → z % 64 = 0) := by decide
theorem lv_max : ∀ x ∈ ((0 : Int) :: pn_l), 0 ≤ x ∧ x ≤ 4096 := by decide
section LZ2
variable {μ : mm_T} {S : pn_S} {T : pn_T} {f : Int → Int} {b z m a i k j l u c x : Int}
theorem lz_n (hU : iv_U μ) (hb : 0 ≤ b ∧ b < 8) (hz : z ∈ pn_l) : ∀ (n : Nat) (m : Int) (S : pn_S), 0 ≤ m → m + n = 12 → lz_V μ b z m a S → lz_V μ b z 12 a (st_n μ z b n m S)
  | 0, m, S, h0, hn, h => by
    rw [show m = 12 by omega] at h
    exact h
  | n + 1, m, S, h0, hn, h => lz_n hU hb hz n (m + 1) _ (by omega) (by omega) (lz_st hU hb (by omega) (lv_64 z hz).1 (lv_64 z hz).2.2 h)
theorem lz_half (hL : lv_ok μ) (hb : 0 ≤ b ∧ b < 8) (hz : z ∈ pn_l) (h : lz_V μ b z 12 a S) : lz_V μ b (z / 2) 0 a S := by
  have h64 := lv_64 z hz
  have hp : ∀ i k, 0 ≤ i → i < 32 → 0 ≤ k → k < 3 → (pl_s μ b (z / 2) 0 i k ↔ pl_s μ b z 12 i k) := fun i k a1 a2 a3 a4 => by
    have h1 := lv_half z hz _ (hL i k a1 a2 a3 a4)
    constructor
    · intro ⟨p1, p2⟩
      refine ⟨p1, ?_⟩
      rcases p2 with p2 | ⟨p2, p3⟩
      · exact Or.inl p2
      · refine Or.inr ⟨p2, ?_⟩
        rcases p3 with p3 | p3
        · have := h1.mp p3
          by_cases he : it_s μ i k = z
          · exact Or.inr ⟨he, by omega⟩
          · exact Or.inl (by omega)
        · omega
    · intro ⟨p1, p2⟩
      refine ⟨p1, ?_⟩
      rcases p2 with p2 | ⟨p2, p3⟩
      · exact Or.inl p2
      · exact Or.inr ⟨p2, Or.inl (h1.mpr (by omega))⟩
  obtain ⟨h1, h2, h3, h4, h5⟩ := h
  refine ⟨fun i k a1 a2 a3 a4 a5 a6 => h1 i k a1 a2 a3 a4 a5 ((hp i k a1 a2 a3 a4).mp a6), fun i k j l a1 a2 a3 a4 a5 a6 a7 a8 a9 b1 b2 b3 => h2 i k j l a1 a2 a3 a4 a5 a6 a7 a8 a9 b1 ((hp i k a1 a2 a5 a6).mp b2) ((hp j l a3 a4 a7 a8).mp b3), ?_, fun h => h4 (by omega), fun i a1 a2 a3 a4 a5 => h5 i a1 a2 a3 ((hp i 0 a1 a2 (by omega) (by omega)).mp a4) a5⟩
  rw [h3]
  congr 1
  refine sm_c 12 (fun y y0 y1 => ?_)
  have hpy := hp (4 * b + y / 3) (y % 3) (by omega) (by omega) (by omega) (by omega)
  by_cases hh : pl_s μ b z 12 (4 * b + y / 3) (y % 3)
  · rw [if_pos hh, if_pos (hpy.mpr hh)]
  · rw [if_neg hh, if_neg (fun h => hh (hpy.mp h))]
theorem lz_1 (hU : iv_U μ) (hL : lv_ok μ) (hb : 0 ≤ b ∧ b < 8) (hz : z ∈ pn_l) (h : lz_V μ b z 0 a S) : lz_V μ b (z / 2) 0 a (pn_s μ z 4 (4 * b) S) := by
  rw [st_ns (lv_64 z hz).1]
  exact lz_half hL hb hz (lz_n hU hb hz 12 0 S (by omega) (by omega) h)
theorem lz_z (hU : iv_U μ) (hL : lv_ok μ) (hb : 0 ≤ b ∧ b < 8) (h : lz_V μ b 4096 0 a S) : lz_V μ b 0 0 a (pn_z μ b pn_l S) := by
  have h := lz_1 hU hL hb (by decide) h
  have h := lz_1 hU hL hb (z := 2048) (by decide) h
  have h := lz_1 hU hL hb (z := 1024) (by decide) h
  have h := lz_1 hU hL hb (z := 512) (by decide) h
  have h := lz_1 hU hL hb (z := 256) (by decide) h
  have h := lz_1 hU hL hb (z := 128) (by decide) h
  have h := lz_1 hU hL hb (z := 64) (by decide) h
  have h := lz_1 hU hL hb (z := 32) (by decide) h
  have h := lz_1 hU hL hb (z := 16) (by decide) h
  have h := lz_1 hU hL hb (z := 8) (by decide) h
  have h := lz_1 hU hL hb (z := 4) (by decide) h
  have h := lz_1 hU hL hb (z := 2) (by decide) h
  have h := lz_1 hU hL hb (z := 1) (by decide) h
  exact h
/-- what every step keeps is kept -/
theorem pz_i {P : pn_S → Prop} (hst : ∀ z m S, z ∈ pn_l → 0 ≤ m → m < 12 → P S → P (st_e μ z (4 * b + m / 3) (m % 3) S)) : ∀ (n : Nat) (z m : Int) (S : pn_S), z ∈ pn_l → 0 ≤ m → m + n = 12 → P S → P (st_n μ z b n m S)
  | 0, _, _, _, _, _, _, h => h
  | n + 1, z, m, S, hz, h0, hn, h => pz_i hst n z (m + 1) _ hz (by omega) (by omega) (hst z m S hz h0 (by omega) h)
theorem pz_l {P : pn_S → Prop} (hst : ∀ z m S, z ∈ pn_l → 0 ≤ m → m < 12 → P S → P (st_e μ z (4 * b + m / 3) (m % 3) S)) : ∀ (zs : List Int) (S : pn_S), (∀ z ∈ zs, z ∈ pn_l) → P S → P (pn_z μ b zs S)
  | [], _, _, h => h
  | z :: r, S, hz, h => by
    have hz1 := hz z (List.mem_cons_self ..)
    refine pz_l hst r _ (fun y hy => hz y (List.mem_cons_of_mem _ hy)) ?_
    rw [st_ns (lv_64 z hz1).1]
    exact pz_i hst 12 z 0 S hz1 (by omega) (by omega) h
theorem pz_z {P : pn_S → Prop} (hst : ∀ z m S, z ∈ pn_l → 0 ≤ m → m < 12 → P S → P (st_e μ z (4 * b + m / 3) (m % 3) S)) (h : P S) : P (pn_z μ b pn_l S) := pz_l hst pn_l S (fun _ h => h) h
/-- a step lays openings of bridges that hang under b alone -/
theorem st_ebg (hT : tr_I μ f) (hz : 0 < z) (hi : 4 * b ≤ i ∧ i < 4 * b + 4) (hb : 0 ≤ b ∧ b < 8) (hx : ¬ (1 ≤ x ∧ x < μ 0 1 ∧ μ 3 x = b)) : (st_e μ z i k S).2.1 x = S.2.1 x := by
  unfold st_e
  by_cases h1 : it_s μ i k = z
  · rw [if_pos h1]
    by_cases h3 : 100 ≤ μ 2 i
    · rw [if_pos h3]
    · rw [if_neg h3]
      by_cases h2 : 0 ≤ μ 2 i
      · have ht := hT.2.2 i (by omega) (by omega) h2 (by omega)
        exact if_neg (fun h => hx (by rw [h]; omega))
      · rw [it_n (by omega)] at h1; omega
  · rw [if_neg h1]
theorem sum_it (hI : iv_A μ f) (hb : 0 ≤ b ∧ b < 8) : sm_s (fun y => it_s μ (4 * b + y / 3) (y % 3)) 12 = mo_ld μ b := by
  have hu : ∀ i, 0 ≤ i → i < 32 → it_s μ i 0 + it_s μ i 1 + it_s μ i 2 = mo_ldu μ (μ 2 i) := fun i h1 h2 => by
    have hs := hI.1.2.2.2.2.2.2.2.1 i h1 h2
    have hc := hI.2.1.1 i h1 h2
    unfold mo_ldu
    by_cases h : 100 ≤ μ 2 i
    · rw [it_c h, it_c h, it_c h, if_pos h]
    · rw [if_neg h, it_0 (by omega) (k := 1) (by omega), it_0 (by omega) (k := 2) (by omega)]
      by_cases h3 : 0 ≤ μ 2 i
      · rw [it_b ⟨h3, by omega⟩, if_pos h3]; omega
      · rw [it_n (by omega), if_neg h3]; omega
  have e : sm_s (fun y => it_s μ (4 * b + y / 3) (y % 3)) 12 = it_s μ (4 * b + 0) 0 + it_s μ (4 * b + 0) 1 + it_s μ (4 * b + 0) 2 + it_s μ (4 * b + 1) 0 + it_s μ (4 * b + 1) 1 + it_s μ (4 * b + 1) 2 + it_s μ (4 * b + 2) 0 + it_s μ (4 * b + 2) 1 + it_s μ (4 * b + 2) 2 + it_s μ (4 * b + 3) 0 + it_s μ (4 * b + 3) 1 + it_s μ (4 * b + 3) 2 := by
    show (0 : Int) + it_s μ (4 * b + 0) 0 + it_s μ (4 * b + 0) 1 + it_s μ (4 * b + 0) 2 + it_s μ (4 * b + 1) 0 + it_s μ (4 * b + 1) 1 + it_s μ (4 * b + 1) 2 + it_s μ (4 * b + 2) 0 + it_s μ (4 * b + 2) 1 + it_s μ (4 * b + 2) 2 + it_s μ (4 * b + 3) 0 + it_s μ (4 * b + 3) 1 + it_s μ (4 * b + 3) 2 = _
    rw [Int.zero_add]
  have e2 : mo_ld μ b = mo_ldu μ (μ 2 (4 * b)) + (mo_ldu μ (μ 2 (4 * b + 1)) + (mo_ldu μ (μ 2 (4 * b + 1 + 1)) + (mo_ldu μ (μ 2 (4 * b + 1 + 1 + 1)) + 0))) := rfl
  rw [e, e2, show 4 * b + 1 + 1 = 4 * b + 2 by omega, show 4 * b + 2 + 1 = 4 * b + 3 by omega, ← hu (4 * b) (by omega) (by omega), ← hu (4 * b + 1) (by omega) (by omega), ← hu (4 * b + 2) (by omega) (by omega), ← hu (4 * b + 3) (by omega) (by omega), show 4 * b + (0 : Int) = 4 * b by omega]
  omega
end LZ2
