/-! the reference: measure -/
/-- the smallest of x, 2 x, 4 x .. that holds m -/
def mo_bk : Nat → Int → Int → Int
  | 0, x, _ => x
  | n + 1, x, m => if x < m then mo_bk n (2 * x) m else x
def mo_bl (m : Int) : Int := if m = 0 then 0 else mo_bk 16 64 m
def mo_me : Nat → mm_T → mm_T
  | 0, ν => ν
  | n + 1, ν => mo_me n (mm_u ν 7 n (mo_bl (mo_ld ν n)))
theorem mm_uu {ν : mm_T} {p i y z : Int} : mm_u (mm_u ν p i y) p i z = mm_u ν p i z := by
  funext q k
  unfold mm_u
  by_cases h : q = p ∧ k = i
  · rw [if_pos h, if_pos h]
  · rw [if_neg h, if_neg h, if_neg h]
theorem mo_2p {x : Int} {n : Nat} : 2 * x * 2 ^ n = x * 2 ^ (n + 1) := by rw [Int.pow_succ, Int.mul_comm 2 x, Int.mul_assoc, Int.mul_comm 2 (2 ^ n)]
theorem mo_1p : ∀ (n : Nat), (1 : Int) ≤ 2 ^ n
  | 0 => by decide
  | n + 1 => by
    have := mo_1p n
    rw [Int.pow_succ]
    omega
theorem mo_xp {x : Int} (h : 0 ≤ x) (n : Nat) : x ≤ x * 2 ^ n := by
  have := Int.mul_le_mul_of_nonneg_left (mo_1p n) h
  omega
theorem mo_bk_le {m : Int} : ∀ (n : Nat) (x : Int) (j : Nat), 0 ≤ x → m ≤ x * 2 ^ j → mo_bk n x m ≤ x * 2 ^ j
  | 0, x, j, h0, _ => mo_xp h0 j
  | n + 1, x, j, h0, h => by
    unfold mo_bk
    split
    · next h1 =>
      cases j with
      | zero => rw [Int.pow_zero] at h; omega
      | succ i => rw [← mo_2p] at h ⊢; exact mo_bk_le n (2 * x) i (by omega) h
    · exact mo_xp h0 j
theorem mo_bk_ge {m : Int} : ∀ (n : Nat) (x : Int), m ≤ x * 2 ^ n → m ≤ mo_bk n x m
  | 0, x, h => by rw [Int.pow_zero] at h; unfold mo_bk; omega
  | n + 1, x, h => by
    unfold mo_bk
    split
    · exact mo_bk_ge n (2 * x) (by rw [mo_2p]; exact h)
    · omega
theorem mo_bk_0 {m : Int} : ∀ (n : Nat) (x : Int), 0 ≤ x → x ≤ mo_bk n x m
  | 0, x, _ => by unfold mo_bk; omega
  | n + 1, x, h => by
    unfold mo_bk
    split
    · have := mo_bk_0 (m := m) n (2 * x) (by omega); omega
    · omega
/-- how great blocks may be at a depth -/
def mo_bd (k : Int) : Int := if k = 4 then 16384 else if k = 3 then 65536 else if k = 2 then 262144 else if k = 1 then 1048576 else 4194304
theorem mo_bl_b {m k : Int} (h : 0 ≤ m) (h1 : m ≤ mo_bd k) : 0 ≤ mo_bl m ∧ m ≤ mo_bl m ∧ mo_bl m ≤ mo_bd k := by
  have hj : ∃ j : Nat, j ≤ 16 ∧ mo_bd k = 64 * 2 ^ j := by
    unfold mo_bd
    split
    · exact ⟨8, by omega, by decide⟩
    · split
      · exact ⟨10, by omega, by decide⟩
      · split
        · exact ⟨12, by omega, by decide⟩
        · split
          · exact ⟨14, by omega, by decide⟩
          · exact ⟨16, by omega, by decide⟩
  have hb : mo_bd k ≤ 4194304 ∧ 0 ≤ mo_bd k := by unfold mo_bd; split <;> (try split) <;> (try split) <;> (try split) <;> omega
  obtain ⟨j, hj, ej⟩ := hj
  unfold mo_bl
  split
  · omega
  · have e16 : (64 : Int) * 2 ^ 16 = 4194304 := by decide
    have g1 := mo_bk_le (m := m) 16 64 j (by omega) (by omega)
    have g2 := mo_bk_ge (m := m) 16 64 (by omega)
    have g3 := mo_bk_0 (m := m) 16 64 (by omega)
    omega
/-- the tree: depths, what is in the slots -/
def tr_I (ν : mm_T) (f : Int → Int) : Prop := f 0 = 0 ∧ (∀ u, 1 ≤ u → u < ν 0 1 → 0 ≤ ν 3 u ∧ ν 3 u < u ∧ f u = f (ν 3 u) + 1 ∧ 1 ≤ f u ∧ f u ≤ 4) ∧ (∀ i, 0 ≤ i → i < 32 → 0 ≤ ν 2 i → ν 2 i < 100 → 1 ≤ ν 2 i ∧ ν 2 i < ν 0 1 ∧ ν 3 (ν 2 i) = i / 4)
theorem tr_fr {ν ν' : mm_T} {f : Int → Int} (h0 : ν' 0 1 = ν 0 1) (h2 : ν' 2 = ν 2) (h3 : ν' 3 = ν 3) (h : tr_I ν f) : tr_I ν' f := by
  unfold tr_I at h ⊢
  rw [h0, h2, h3]
  exact h
section ME
variable {E : mv_E} {s ν : mm_T} {d : Nat} {b c x y e k z p i t l m : Int} {f : Int → Int} {o2 : Option mg_V} {Q : nm_O → mm_T → mm_T → Prop}
theorem ldu_b (hB : mo_B ν) (hC : mo_C ν) (hT : tr_I ν f) (hb : 0 ≤ b ∧ b < ν 0 1) (hm : ∀ u, b < u → u < ν 0 1 → 0 ≤ ν 7 u ∧ ν 7 u ≤ mo_bd (f u)) (hi : 4 * b ≤ i ∧ i < 4 * b + 4) : 0 ≤ mo_ldu ν (ν 2 i) ∧ 4 * mo_ldu ν (ν 2 i) ≤ mo_bd (f b) := by
  have h8 := hB.1
  have h1 := hB.2.2.2.2.2.2.2.1 i (by omega) (by omega)
  have h2 := hC.1 i (by omega) (by omega)
  have h3 := hT.2.2 i (by omega) (by omega)
  have hbd : 16384 ≤ mo_bd (f b) := by unfold mo_bd; split <;> (try split) <;> (try split) <;> (try split) <;> omega
  unfold mo_ldu
  by_cases hu : 100 ≤ ν 2 i
  · rw [if_pos hu]
    have hcd := hB.cd (ν 2 i - 100) (by omega) (by omega)
    have hz := fun k => hB.2.2.2.2.2.2.2.2.2.2.2.1 (3 * ν 13 (ν 2 i - 100) + k)
    have z0 := hz 0 (by omega) (by omega)
    have z1 := hz 1 (by omega) (by omega)
    have z2 := hz 2 (by omega) (by omega)
    omega
  · rw [if_neg hu]
    by_cases hu0 : 0 ≤ ν 2 i
    · rw [if_pos hu0]
      obtain ⟨g1, g2, g3⟩ := h3 hu0 (by omega)
      rw [show i / 4 = b by omega] at g3
      have g4 := hT.2.1 (ν 2 i) g1 g2
      rw [g3] at g4
      have g5 := hm (ν 2 i) (by omega) g2
      have g6 : f b ≤ 3 := by omega
      have g7 : 0 ≤ f b := by
        by_cases hb0 : b = 0
        · rw [hb0, hT.1]; omega
        · have := hT.2.1 b (by omega) (by omega); omega
      have g8 : 4 * mo_bd (f (ν 2 i)) ≤ mo_bd (f b) := by
        rw [g4.2.2.1]
        have : f b = 0 ∨ f b = 1 ∨ f b = 2 ∨ f b = 3 := by omega
        rcases this with h | h | h | h <;> rw [h] <;> decide
      omega
    · rw [if_neg hu0]; omega
theorem ld_b (hB : mo_B ν) (hC : mo_C ν) (hT : tr_I ν f) (hb : 0 ≤ b ∧ b < ν 0 1) (hm : ∀ u, b < u → u < ν 0 1 → 0 ≤ ν 7 u ∧ ν 7 u ≤ mo_bd (f u)) : 0 ≤ mo_ld ν b ∧ mo_ld ν b ≤ mo_bd (f b) := by
  have h0 := ldu_b hB hC hT hb hm (i := 4 * b) (by omega)
  have h1 := ldu_b hB hC hT hb hm (i := 4 * b + 1) (by omega)
  have h2 := ldu_b hB hC hT hb hm (i := 4 * b + 1 + 1) (by omega)
  have h3 := ldu_b hB hC hT hb hm (i := 4 * b + 1 + 1 + 1) (by omega)
  have e : mo_ld ν b = mo_ldu ν (ν 2 (4 * b)) + (mo_ldu ν (ν 2 (4 * b + 1)) + (mo_ldu ν (ν 2 (4 * b + 1 + 1)) + (mo_ldu ν (ν 2 (4 * b + 1 + 1 + 1)) + 0))) := rfl
  rw [e]
  omega

theorem mo_me_i (hs : mo_sh s) (hb : 0 ≤ b ∧ b < 8) (hm : 0 ≤ m ∧ m ≤ 4194304) : ∀ (n : Nat) (x : Int), 0 ≤ x ∧ x ≤ 8388608 → m ≤ x * 2 ^ n → sw_w E d 105 (60, [some (2, 0), some (0, b), some (0, m)], []) s (mm_u ν 7 b (mo_bk n x m)) Q → sw_w E d 105 (33, [some (2, 0), some (0, b), some (0, m)], []) s (mm_u ν 7 b x) Q := by
  intro n
  induction n with
  | zero =>
    intro x hx hn kk
    rw [Int.pow_zero] at hn
    refine sw_p 1 (f' := (34, [some (2, 0), some (0, b), some (0, m)], [(2, 0)])) rfl ?_
    refine sw_hA (pn := 37) (i := 7) (v := 7) rfl rfl rfl rfl rfl hs.1 (mo_s7 hs).1 (by omega) ?_
    refine sw_p 1 (f' := (38, [some (2, 0), some (0, b), some (0, m)], [(0, b), (2, 7)])) rfl ?_
    refine sw_ial (pn := 39) (l := 8) rfl rfl (by omega) (mo_s7 hs).2.1 (mo_s7 hs).2.2 (by omega) (by omega) ?_
    rw [show (mm_u ν 7 b x) 7 b = x from mm_u_at]
    refine sw_p 1 (f' := (40, [some (2, 0), some (0, b), some (0, m)], [(0, m), (0, x)])) rfl ?_
    refine sw_ge2 (pt := 60) (pn := 43) rfl rfl rfl (by omega) (by omega) (fun h1 => ?_) (fun h => absurd h (by omega))
    exact kk
  | succ n ih =>
    intro x hx hn kk
    unfold mo_bk at kk
    by_cases hxm : x < m
    · rw [if_pos hxm] at kk
      refine sw_p 1 (f' := (34, [some (2, 0), some (0, b), some (0, m)], [(2, 0)])) rfl ?_
      refine sw_hA (pn := 37) (i := 7) (v := 7) rfl rfl rfl rfl rfl hs.1 (mo_s7 hs).1 (by omega) ?_
      refine sw_p 1 (f' := (38, [some (2, 0), some (0, b), some (0, m)], [(0, b), (2, 7)])) rfl ?_
      refine sw_ial (pn := 39) (l := 8) rfl rfl (by omega) (mo_s7 hs).2.1 (mo_s7 hs).2.2 (by omega) (by omega) ?_
      rw [show (mm_u ν 7 b x) 7 b = x from mm_u_at]
      refine sw_p 1 (f' := (40, [some (2, 0), some (0, b), some (0, m)], [(0, m), (0, x)])) rfl ?_
      refine sw_ge2 (pt := 60) (pn := 43) rfl rfl rfl (by omega) (by omega) (fun h => absurd h (by omega)) (fun h1 => ?_)
      refine sw_p 1 (f' := (44, [some (2, 0), some (0, b), some (0, m)], [(2, 0)])) rfl ?_
      refine sw_hA (pn := 47) (i := 7) (v := 7) rfl rfl rfl rfl rfl hs.1 (mo_s7 hs).1 (by omega) ?_
      refine sw_p 3 (f' := (50, [some (2, 0), some (0, b), some (0, m)], [(2, 0), (0, 2), (0, b), (2, 7)])) rfl ?_
      refine sw_hA (pn := 53) (i := 7) (v := 7) rfl rfl rfl rfl rfl hs.1 (mo_s7 hs).1 (by omega) ?_
      refine sw_p 1 (f' := (54, [some (2, 0), some (0, b), some (0, m)], [(0, b), (2, 7), (0, 2), (0, b), (2, 7)])) rfl ?_
      refine sw_ial (pn := 55) (l := 8) rfl rfl (by omega) (mo_s7 hs).2.1 (mo_s7 hs).2.2 (by omega) (by omega) ?_
      rw [show (mm_u ν 7 b x) 7 b = x from mm_u_at]
      refine sw_p 1 (f' := (56, [some (2, 0), some (0, b), some (0, m)], [(0, 2 * x), (0, b), (2, 7)])) rfl ?_
      refine sw_ias (pn := 57) (l := 8) rfl rfl (by omega) (mo_s7 hs).2.1 (mo_s7 hs).2.2 (by omega) (by omega) ?_
      refine sw_p 1 (f' := (33, [some (2, 0), some (0, b), some (0, m)], [])) rfl ?_
      rw [mm_uu]
      exact ih (2 * x) (by omega) (by rw [mo_2p]; exact hn) kk
    · rw [if_neg hxm] at kk
      refine sw_p 1 (f' := (34, [some (2, 0), some (0, b), some (0, m)], [(2, 0)])) rfl ?_
      refine sw_hA (pn := 37) (i := 7) (v := 7) rfl rfl rfl rfl rfl hs.1 (mo_s7 hs).1 (by omega) ?_
      refine sw_p 1 (f' := (38, [some (2, 0), some (0, b), some (0, m)], [(0, b), (2, 7)])) rfl ?_
      refine sw_ial (pn := 39) (l := 8) rfl rfl (by omega) (mo_s7 hs).2.1 (mo_s7 hs).2.2 (by omega) (by omega) ?_
      rw [show (mm_u ν 7 b x) 7 b = x from mm_u_at]
      refine sw_p 1 (f' := (40, [some (2, 0), some (0, b), some (0, m)], [(0, m), (0, x)])) rfl ?_
      refine sw_ge2 (pt := 60) (pn := 43) rfl rfl rfl (by omega) (by omega) (fun h1 => ?_) (fun h => absurd h (by omega))
      exact kk
theorem mo_me_o (hs : mo_sh s) : ∀ (n : Nat) (b : Int) (ν : mm_T) (o2 : Option mg_V), b + 1 = n → mo_B ν → mo_C ν → tr_I ν f → b < ν 0 1 → (∀ u, b < u → u < ν 0 1 → 0 ≤ ν 7 u ∧ ν 7 u ≤ mo_bd (f u)) → sw_w E (d + 2) 105 (7, [some (2, 0), some (0, b), o2], []) s ν (sw_is none s (mo_me n ν)) := by
  intro n
  induction n with
  | zero =>
    intro b ν o2 hn hB hC hT hb hm
    refine sw_p 1 (f' := (8, [some (2, 0), some (0, b), o2], [(0, b)])) rfl ?_
    refine sw_lt1 (pt := 66) (pn := 11) rfl rfl rfl (by omega) (fun h1 => ?_) (fun h => absurd h (by omega))
    exact sw_retV rfl rfl rfl ⟨rfl, rfl, rfl⟩
  | succ n ih =>
    intro b ν o2 hn hB hC hT hb hm
    have h8 := hB.1
    have hld := ld_b hB hC hT (b := b) (by omega) hm
    have hbl := mo_bl_b hld.1 hld.2
    have hbb : mo_bd (f b) ≤ 4194304 := by unfold mo_bd; split <;> (try split) <;> (try split) <;> (try split) <;> omega
    have en : b = (n : Int) := by omega
    have again : sw_w E (d + 2) 105 (60, [some (2, 0), some (0, b), some (0, mo_ld ν b)], []) s (mm_u ν 7 b (mo_bl (mo_ld ν b))) (sw_is none s (mo_me (n + 1) ν)) := by
      have hfr : fr_r [7] ν (mm_u ν 7 b (mo_bl (mo_ld ν b))) := fr_u (by decide)
      have h0 := hfr 0 (by decide)
      have e7 : ∀ u, u ≠ b → mm_u ν 7 b (mo_bl (mo_ld ν b)) 7 u = ν 7 u := fun u hu => mm_u_ne (by omega)
      have e7b : mm_u ν 7 b (mo_bl (mo_ld ν b)) 7 b = mo_bl (mo_ld ν b) := mm_u_at
      refine sw_p 2 (f' := (7, [some (2, 0), some (0, b + (-1)), some (0, mo_ld ν b)], [])) rfl ?_
      rw [show mo_me (n + 1) ν = mo_me n (mm_u ν 7 b (mo_bl (mo_ld ν b))) by rw [en]; rfl]
      refine ih (b + -1) _ _ (by omega) (mo_B_fr (fr_w hfr (by decide)) hB) (mo_C_fr (hfr 2 (by decide)) (hfr 5 (by decide)) (hfr 6 (by decide)) (hfr 9 (by decide)) (hfr 13 (by decide)) (hfr 17 (by decide)) hC) (tr_fr (congrFun h0 1) (hfr 2 (by decide)) (hfr 3 (by decide)) hT) (by rw [h0]; omega) ?_
      intro u h1 h2
      rw [h0] at h2
      by_cases hu : u = b
      · rw [hu, e7b]; exact ⟨hbl.1, hbl.2.2⟩
      · rw [e7 u hu]; exact hm u (by omega) h2
    refine sw_p 1 (f' := (8, [some (2, 0), some (0, b), o2], [(0, b)])) rfl ?_
    refine sw_lt1 (pt := 66) (pn := 11) rfl rfl rfl (by omega) (fun h => absurd h (by omega)) (fun h1 => ?_)
    refine sw_p 2 (f' := (13, [some (2, 0), some (0, b), o2], [(0, b), (2, 0)])) rfl ?_
    refine sw_cv1 (pn := 16) (q0 := mj_Mo_measure) (q := mj_Mo_laidBy) (p := 0) (as2 := [(0, b)]) (L2 := [some (2, 0), some (0, b), none, none, none, none]) (rest := []) (v := some (0, mo_ld ν b)) (s1 := s) (ν1 := ν) rfl rfl rfl rfl rfl rfl rfl rfl rfl hs.1 (mo_laidBy hs hB hC (by omega)) ?_
    show sw_w E _ 105 (16, [some (2, 0), some (0, b), o2], [(0, mo_ld ν b)]) s ν _
    refine sw_p 2 (f' := (18, [some (2, 0), some (0, b), some (0, mo_ld ν b)], [(2, 0)])) rfl ?_
    refine sw_hA (pn := 21) (i := 7) (v := 7) rfl rfl rfl rfl rfl hs.1 (mo_s7 hs).1 (by omega) ?_
    refine sw_p 2 (f' := (23, [some (2, 0), some (0, b), some (0, mo_ld ν b)], [(0, mo_ld ν b), (0, b), (2, 7)])) rfl ?_
    refine sw_ne1 (pt := 30) (pn := 26) rfl rfl rfl (by omega) (fun h2 => ?_) (fun h2 => ?_)
    · skip
      refine sw_p 1 (f' := (32, [some (2, 0), some (0, b), some (0, mo_ld ν b)], [(0, 64), (0, b), (2, 7)])) rfl ?_
      refine sw_ias (pn := 33) (l := 8) rfl rfl (by omega) (mo_s7 hs).2.1 (mo_s7 hs).2.2 (by omega) (by omega) ?_
      have e16 : (64 : Int) * 2 ^ 16 = 4194304 := by decide
      refine mo_me_i hs (by omega) (by omega) 16 64 (by omega) (by omega) ?_
      rw [show mo_bk 16 64 (mo_ld ν b) = mo_bl (mo_ld ν b) from (if_neg (by omega)).symm]
      exact again
    · skip
      refine sw_p 2 (f' := (32, [some (2, 0), some (0, b), some (0, mo_ld ν b)], [(0, 0), (0, b), (2, 7)])) rfl ?_
      refine sw_ias (pn := 33) (l := 8) rfl rfl (by omega) (mo_s7 hs).2.1 (mo_s7 hs).2.2 (by omega) (by omega) ?_
      refine mo_me_i hs (by omega) (by omega) 16 0 (by omega) (by omega) ?_
      rw [show mo_bk 16 0 (mo_ld ν b) = mo_bl (mo_ld ν b) by rw [h2]; decide]
      exact again
theorem mo_measure (hs : mo_sh s) (hB : mo_B ν) (hC : mo_C ν) (hT : tr_I ν f) : sw_w E (d + 2) 105 (0, [some (2, 0), none, none], []) s ν (sw_is none s (mo_me (ν 0 1).toNat ν)) := by
  have h8 := hB.1
  refine sw_p 1 (f' := (1, [some (2, 0), none, none], [(2, 0)])) rfl ?_
  refine sw_gI (pn := 4) (i := 1) rfl rfl rfl rfl rfl (by omega) hs.1 ?_
  refine sw_p 3 (f' := (7, [some (2, 0), some (0, (ν 0 1) - 1), none], [])) rfl ?_
  exact mo_me_o hs (ν 0 1).toNat _ ν _ (by omega) hB hC hT (by omega) (fun u h1 h2 => by omega)
theorem me_fr : ∀ (n : Nat) (ν : mm_T), fr_r [7] ν (mo_me n ν)
  | 0, ν => fr_rfl
  | n + 1, ν => fr_tr (fr_u (ps := [7]) (by decide)) (me_fr n _) (by decide) (by decide)
theorem me_b : ∀ (n : Nat) (ν : mm_T), mo_B ν → mo_C ν → tr_I ν f → (n : Int) ≤ ν 0 1 → (∀ u, (n : Int) ≤ u → u < ν 0 1 → 0 ≤ ν 7 u ∧ ν 7 u ≤ mo_bd (f u)) → ∀ u, 0 ≤ u → u < ν 0 1 → 0 ≤ mo_me n ν 7 u ∧ mo_me n ν 7 u ≤ mo_bd (f u)
  | 0, ν, hB, hC, hT, hn, hm, u, h1, h2 => hm u (by omega) h2
  | n + 1, ν, hB, hC, hT, hn, hm, u, h1, h2 => by
    have hld := ld_b hB hC hT (b := n) (by omega) (fun u h3 h4 => hm u (by omega) h4)
    have hbl := mo_bl_b hld.1 hld.2
    have hfr : fr_r [7] ν (mm_u ν 7 n (mo_bl (mo_ld ν n))) := fr_u (by decide)
    have h0 := hfr 0 (by decide)
    refine me_b n (mm_u ν 7 n (mo_bl (mo_ld ν n))) (mo_B_fr (fr_w hfr (by decide)) hB) (mo_C_fr (hfr 2 (by decide)) (hfr 5 (by decide)) (hfr 6 (by decide)) (hfr 9 (by decide)) (hfr 13 (by decide)) (hfr 17 (by decide)) hC) (tr_fr (congrFun h0 1) (hfr 2 (by decide)) (hfr 3 (by decide)) hT) (by rw [h0]; omega) ?_ u h1 (by rw [h0]; exact h2)
    intro u h3 h4
    rw [h0] at h4
    by_cases hu : u = n
    · rw [hu, mm_u_at]; exact ⟨hbl.1, hbl.2.2⟩
    · rw [mm_u_ne (by omega)]; exact hm u (by omega) h4
end ME
