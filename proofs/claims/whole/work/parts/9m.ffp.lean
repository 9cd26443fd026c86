/-! places found: free, within, apart -/
theorem ff_nk {f : Int → Int} {x e k : Int} : ∀ (l : List (Int × Int)) (g q r : Int → Int), ff_s f x e l g q = some r → (∀ z, (z, k) ∉ l) → r k = q k
  | [], g, q, r, h, _ => by
    have h : q = r := Option.some.inj h
    rw [← h]
  | (z, j) :: l, g, q, r, h, hk => by
    have hj : k ≠ j := fun h => hk z (by rw [h]; exact List.mem_cons_self ..)
    have hl : ∀ z, (z, k) ∉ l := fun z hz => hk z (List.mem_cons_of_mem _ hz)
    unfold ff_s at h
    by_cases h1 : f j = z
    · rw [if_pos h1] at h
      by_cases h2 : ff_p g z x e < 0
      · rw [if_pos h2] at h; cases h
      · rw [if_neg h2] at h
        have := ff_nk l _ _ r h hl
        rw [this]
        exact if_neg hj
    · rw [if_neg h1] at h
      exact ff_nk l _ _ r h hl
theorem ff_pr {f : Int → Int} {x e : Int} : ∀ (ks : List Int) (g q r : Int → Int), ks.Nodup → (∀ k ∈ ks, 0 < f k) → ff_s f x e (ks.map fun k => (f k, k)) g q = some r → (∀ k ∈ ks, x ≤ r k ∧ r k + f k ≤ e ∧ ∀ a, r k ≤ a → a < r k + f k → g a = 0) ∧ (∀ k ∈ ks, ∀ l ∈ ks, k ≠ l → r k + f k ≤ r l ∨ r l + f l ≤ r k)
  | [], g, q, r, _, _, _ => ⟨fun k hk => absurd hk List.not_mem_nil, fun k hk => absurd hk List.not_mem_nil⟩
  | j :: ks, g, q, r, hn, hp, h => by
    rw [List.map_cons] at h
    unfold ff_s at h
    rw [if_pos rfl] at h
    have hpj := hp j (List.mem_cons_self ..)
    by_cases h2 : ff_p g (f j) x e < 0
    · rw [if_pos h2] at h; cases h
    · rw [if_neg h2] at h
      obtain ⟨hn1, hn2⟩ := List.nodup_cons.mp hn
      have hp2 : ∀ k ∈ ks, 0 < f k := fun k hk => hp k (List.mem_cons_of_mem _ hk)
      obtain ⟨i1, i2⟩ := ff_pr ks _ _ r hn2 hp2 h
      have hrj : r j = ff_p g (f j) x e := by
        have := ff_nk (k := j) _ _ _ r h (fun z hz => by
          obtain ⟨k, hk, e1⟩ := List.mem_map.mp hz
          have : k = j := congrArg Prod.snd e1
          rw [this] at hk
          exact hn1 hk)
        rw [this]
        exact if_pos rfl
      have hrg := ff_p_r (g := g) (x := x) (e := e) hpj
      have hfr := ff_p_f (g := g) (x := x) (e := e) hpj (by omega)
      have hks : ∀ k ∈ ks, x ≤ r k ∧ r k + f k ≤ e ∧ (∀ a, r k ≤ a → a < r k + f k → g a = 0) ∧ (r k + f k ≤ r j ∨ r j + f j ≤ r k) := fun k hk => by
        obtain ⟨q1, q2, q3⟩ := i1 k hk
        have hpk := hp2 k hk
        have q4 : ∀ a, r k ≤ a → a < r k + f k → ¬ (ff_p g (f j) x e ≤ a ∧ a < ff_p g (f j) x e + f j) ∧ g a = 0 := fun a h3 h4 => by
          have := q3 a h3 h4
          unfold mo_mkr at this
          split at this
          · omega
          · next h5 => exact ⟨h5, this⟩
        refine ⟨q1, q2, fun a h3 h4 => (q4 a h3 h4).2, ?_⟩
        rw [hrj]
        by_cases hc : r k + f k ≤ ff_p g (f j) x e
        · exact Or.inl hc
        · by_cases hc2 : ff_p g (f j) x e + f j ≤ r k
          · exact Or.inr hc2
          · by_cases hc3 : ff_p g (f j) x e ≤ r k
            · exact absurd ⟨hc3, by omega⟩ (q4 (r k) (by omega) (by omega)).1
            · exact absurd ⟨by omega, by omega⟩ (q4 (ff_p g (f j) x e) (by omega) (by omega)).1
      refine ⟨fun k hk => ?_, fun k hk l hl hkl => ?_⟩
      · rcases List.mem_cons.mp hk with hk | hk
        · rw [hk, hrj]
          exact ⟨by omega, by omega, hfr⟩
        · obtain ⟨q1, q2, q3, _⟩ := hks k hk
          exact ⟨q1, q2, q3⟩
      · rcases List.mem_cons.mp hk with hk | hk
        · rcases List.mem_cons.mp hl with hl | hl
          · exact absurd (hk.trans hl.symm) hkl
          · have := (hks l hl).2.2.2
            rw [hk]
            exact this.symm
        · rcases List.mem_cons.mp hl with hl | hl
          · rw [hl]
            exact (hks k hk).2.2.2
          · exact i2 k hk l hl hkl
def od_o3 (a b c : Int) : Bool := decide ((od_l (od_g a b c)).Nodup)
theorem od_all3 : (od_zs.all fun a => od_zs.all fun b => od_zs.all fun c => od_o3 a b c) = true := by decide +kernel
theorem od_nd {g : Int → Int} (h0 : g 0 = 0 ∨ st_pw (g 0)) (h1 : g 1 = 0 ∨ st_pw (g 1)) (h2 : g 2 = 0 ∨ st_pw (g 2)) : (od_l g).Nodup := by
  have h := List.all_eq_true.mp (List.all_eq_true.mp (List.all_eq_true.mp od_all3 _ (od_mem h0)) _ (od_mem h1)) _ (od_mem h2)
  exact of_decide_eq_true h
section FFP
variable {ρ : mm_T} {f : Int → Int} {a b c i j k l x e w : Int} {g q r : Int → Int}
theorem ffr_p (hB : mo_B ρ) (hc : 0 ≤ c ∧ c < 40) (hp : mo_p2s ρ) (h : ff_r ρ c x e (fun _ => 0) = some r) : (∀ k, 0 ≤ k → k < 3 → 0 < ρ 9 (3 * ρ 13 c + k) → x ≤ r k ∧ r k + ρ 9 (3 * ρ 13 c + k) ≤ e ∧ ∀ a, r k ≤ a → a < r k + ρ 9 (3 * ρ 13 c + k) → oc_m ρ (ρ 14 c) (100 + c) a = 0) ∧ (∀ k l, 0 ≤ k → k < 3 → 0 ≤ l → l < 3 → 0 < ρ 9 (3 * ρ 13 c + k) → 0 < ρ 9 (3 * ρ 13 c + l) → k ≠ l → r k + ρ 9 (3 * ρ 13 c + k) ≤ r l ∨ r l + ρ 9 (3 * ρ 13 c + l) ≤ r k) := by
  have hcd := hB.cd c hc.1 hc.2
  have h0 := hp (3 * ρ 13 c + 0) (by omega) (by omega)
  have h1 := hp (3 * ρ 13 c + 1) (by omega) (by omega)
  have h2 := hp (3 * ρ 13 c + 2) (by omega) (by omega)
  unfold ff_r at h
  rw [ff_flt, od_main (g := fun k => ρ 9 (3 * ρ 13 c + k)) h0 h1 h2] at h
  have hm : ∀ k, 0 ≤ k → k < 3 → 0 < ρ 9 (3 * ρ 13 c + k) → k ∈ (od_l fun k => ρ 9 (3 * ρ 13 c + k)).filter fun k => decide (0 < ρ 9 (3 * ρ 13 c + k)) := fun k k0 k1 hk => List.mem_filter.mpr ⟨od_in (g := fun k => ρ 9 (3 * ρ 13 c + k)) h0 h1 h2 ⟨k0, k1⟩ hk, by simpa using hk⟩
  have hh := ff_pr (f := fun k => ρ 9 (3 * ρ 13 c + k)) ((od_l fun k => ρ 9 (3 * ρ 13 c + k)).filter fun k => decide (0 < ρ 9 (3 * ρ 13 c + k))) _ _ r (List.Pairwise.filter _ (od_nd (g := fun k => ρ 9 (3 * ρ 13 c + k)) h0 h1 h2)) (fun k hk => by have := (List.mem_filter.mp hk).2; simpa using this) h
  exact ⟨fun k k0 k1 hk => hh.1 k (hm k k0 k1 hk), fun k l k0 k1 l0 l1 hk hl hkl => hh.2 k (hm k k0 k1 hk) l (hm l l0 l1 hl) hkl⟩
/-- marks stay -/
theorem mkr_1 {lo hi : Int} (h : g a = 1) : mo_mkr lo hi g a = 1 := by
  unfold mo_mkr
  split
  · rfl
  · exact h
theorem mk1_1 (h : g a = 1) : mo_mk1 ρ c k g a = 1 := by
  unfold mo_mk1
  split
  · exact h
  · exact mkr_1 h
theorem mku_1 {u : Int} (h : g a = 1) : mo_mku ρ w u g a = 1 := by
  unfold mo_mku
  split
  · exact h
  · split
    · exact mkr_1 h
    · exact mk1_1 (mk1_1 (mk1_1 h))
theorem mks_1 : ∀ (n : Nat) (i : Int) (g : Int → Int), g a = 1 → mo_mks ρ w n i g a = 1
  | 0, _, _, h => h
  | n + 1, i, g, h => by
    unfold mo_mks
    exact mks_1 n (i + 1) _ (mku_1 h)
/-- what is in a slot is marked -/
theorem mku_in (hs : -1 ≤ ρ 2 i) (hw : ρ 2 i ≠ w) (hk : 0 ≤ k ∧ k < 3) (h1 : iv_lo ρ i k ≤ a) (h2 : a < iv_hi ρ i k) : mo_mku ρ w (ρ 2 i) g a = 1 := by
  unfold iv_lo at h1
  unfold iv_hi at h2
  by_cases h100 : 100 ≤ ρ 2 i
  · rw [if_pos h100] at h1 h2
    unfold mo_mku
    rw [if_neg (by omega), if_neg (by omega)]
    have hin : ∀ g : Int → Int, mo_mk1 ρ (ρ 2 i - 100) k g a = 1 := fun g => by
      unfold mo_mk1
      by_cases hr : ρ 17 (3 * (ρ 2 i - 100) + k) < 0
      · rw [if_pos hr] at h1 h2; omega
      · rw [if_neg hr] at h1 h2 ⊢
        unfold mo_mkr
        exact if_pos ⟨h1, h2⟩
    have hk3 : k = 0 ∨ k = 1 ∨ k = 2 := by omega
    rcases hk3 with rfl | rfl | rfl
    · exact mk1_1 (mk1_1 (hin g))
    · exact mk1_1 (hin _)
    · exact hin _
  · rw [if_neg h100] at h1 h2
    by_cases hu : 0 ≤ ρ 2 i ∧ k = 0
    · rw [if_pos hu] at h1 h2
      unfold mo_mku
      rw [if_neg (by omega), if_pos (by omega)]
      unfold mo_mkr
      exact if_pos ⟨h1, h2⟩
    · rw [if_neg hu] at h1 h2; omega
theorem oc_in (hs : ∀ i, 0 ≤ i → i < 32 → -1 ≤ ρ 2 i) (hb : 0 ≤ b ∧ b < 8) (hi : 4 * b ≤ i ∧ i < 4 * b + 4) (hw : ρ 2 i ≠ w) (hk : 0 ≤ k ∧ k < 3) (h1 : iv_lo ρ i k ≤ a) (h2 : a < iv_hi ρ i k) : oc_m ρ b w a = 1 := by
  have hm := fun g => mku_in (g := g) (hs i (by omega) (by omega)) hw hk h1 h2
  show mo_mku ρ w (ρ 2 (4 * b + 1 + 1 + 1)) (mo_mku ρ w (ρ 2 (4 * b + 1 + 1)) (mo_mku ρ w (ρ 2 (4 * b + 1)) (mo_mku ρ w (ρ 2 (4 * b)) (fun _ => 0)))) a = 1
  have hi4 : i = 4 * b ∨ i = 4 * b + 1 ∨ i = 4 * b + 1 + 1 ∨ i = 4 * b + 1 + 1 + 1 := by omega
  rcases hi4 with rfl | rfl | rfl | rfl
  · exact mku_1 (mku_1 (mku_1 (hm _)))
  · exact mku_1 (mku_1 (hm _))
  · exact mku_1 (hm _)
  · exact hm _
theorem oc_M (hs : ∀ i, 0 ≤ i → i < 32 → -1 ≤ ρ 2 i) (hb : 0 ≤ b ∧ b < 8) : iv_M ρ b 4 (oc_m ρ b w) := by
  have h0 : iv_M ρ b 0 (fun _ => 0) := fun a h => absurd (show (0 : Int) = 1 from h) (by decide)
  have h1 := iv_M_u (w := w) (hs _ (by omega) (by omega)) (by omega) h0
  have h2 := iv_M_u (w := w) (hs _ (by omega) (by omega)) (by omega) h1
  have h3 := iv_M_u (w := w) (hs _ (by omega) (by omega)) (by omega) h2
  have h4 := iv_M_u (w := w) (hs _ (by omega) (by omega)) (by omega) h3
  have e : oc_m ρ b w = mo_mku ρ w (ρ 2 (4 * b + (0 + 1 + 1 + 1))) (mo_mku ρ w (ρ 2 (4 * b + (0 + 1 + 1))) (mo_mku ρ w (ρ 2 (4 * b + (0 + 1))) (mo_mku ρ w (ρ 2 (4 * b + 0)) (fun _ => 0)))) := by
    show mo_mku ρ w (ρ 2 (4 * b + 1 + 1 + 1)) (mo_mku ρ w (ρ 2 (4 * b + 1 + 1)) (mo_mku ρ w (ρ 2 (4 * b + 1)) (mo_mku ρ w (ρ 2 (4 * b)) (fun _ => 0)))) = _
    rw [show 4 * b + (0 + 1 + 1 + 1) = 4 * b + 1 + 1 + 1 by omega, show 4 * b + (0 + 1 + 1) = 4 * b + 1 + 1 by omega, show 4 * b + (0 + 1) = 4 * b + 1 by omega, show 4 * b + 0 = 4 * b by omega]
  rw [e]
  exact h4
end FFP
