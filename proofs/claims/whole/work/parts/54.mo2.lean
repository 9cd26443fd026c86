/-! the reference: loops over bridges and cards -/
/-- how many bridges stand over: k, the one over k, and so on -/
def mo_cnt (ν : mm_T) : Nat → Int → Int
  | 0, _ => 0
  | f + 1, k => if k < 0 then 0 else 1 + mo_cnt ν f (ν 3 k)
/-- is b among k, the one over k, and so on -/
def mo_un (ν : mm_T) (b : Int) : Nat → Int → Int
  | 0, _ => 0
  | f + 1, k => if k < 0 then 0 else if k = b then 1 else mo_un ν b f (ν 3 k)
/-- over every bridge stands one with a lower number -/
def mo_ov (ν : mm_T) : Prop := ∀ k, 0 ≤ k → k < 8 → -1 ≤ ν 3 k ∧ ν 3 k < k
theorem mo_cnt_b (ν : mm_T) : ∀ (f : Nat) (k : Int), 0 ≤ mo_cnt ν f k ∧ mo_cnt ν f k ≤ f
  | 0, k => by simp [mo_cnt]
  | f + 1, k => by
    have := mo_cnt_b ν f (ν 3 k)
    unfold mo_cnt
    split <;> omega
theorem mo_un_b (ν : mm_T) (b : Int) : ∀ (f : Nat) (k : Int), mo_un ν b f k = 0 ∨ mo_un ν b f k = 1
  | 0, k => Or.inl rfl
  | f + 1, k => by
    have := mo_un_b ν b f (ν 3 k)
    unfold mo_un
    split
    · exact Or.inl rfl
    · split
      · exact Or.inr rfl
      · exact this
section MO2
variable {E : mv_E} {s ν : mm_T} {d : Nat} {b c : Int}
theorem mo_depthOf_l (hs : mo_sh s) (ho : mo_ov ν) : ∀ (f : Nat) (n k : Int), k < f → f ≤ 8 → 0 ≤ n ∧ n + f ≤ 100 → -1 ≤ k → sw_w E d 86 (9, [some (2, 0), some (0, b), some (0, n), some (0, k)], []) s ν (sw_is (some (0, n + mo_cnt ν f k)) s ν) := by
  intro f
  induction f with
  | zero =>
    intro n k hk hf hn hk0
    refine sw_p 1 (f' := (10, [some (2, 0), some (0, b), some (0, n), some (0, k)], [(0, k)])) rfl ?_
    refine sw_lt1 (pt := 26) (pn := 13) rfl rfl rfl (by omega) (fun h1 => ?_) (fun h1 => ?_)
    · skip
      refine sw_p 1 (f' := (27, [some (2, 0), some (0, b), some (0, n), some (0, k)], [(0, n)])) rfl ?_
      exact sw_retI rfl rfl rfl ⟨by simp [mo_cnt], rfl, rfl⟩
    · skip
      omega
  | succ f ih =>
    intro n k hk hf hn hk0
    have hov := ho k
    refine sw_p 1 (f' := (10, [some (2, 0), some (0, b), some (0, n), some (0, k)], [(0, k)])) rfl ?_
    refine sw_lt1 (pt := 26) (pn := 13) rfl rfl rfl (by omega) (fun h1 => ?_) (fun h1 => ?_)
    · skip
      refine sw_p 1 (f' := (27, [some (2, 0), some (0, b), some (0, n), some (0, k)], [(0, n)])) rfl ?_
      exact sw_retI rfl rfl rfl ⟨by unfold mo_cnt; rw [if_pos (by omega), Int.add_zero], rfl, rfl⟩
    · skip
      refine sw_p 2 (f' := (17, [some (2, 0), some (0, b), some (0, n + 1), some (0, k)], [(2, 0)])) rfl ?_
      refine sw_hA (pn := 20) (i := 3) (v := 3) rfl rfl rfl rfl rfl hs.1 (mo_s3 hs).1 (by omega) ?_
      refine sw_p 1 (f' := (21, [some (2, 0), some (0, b), some (0, n + 1), some (0, k)], [(0, k), (2, 3)])) rfl ?_
      refine sw_ial (pn := 22) (l := 8) rfl rfl (by omega) (mo_s3 hs).2.1 (mo_s3 hs).2.2 (by omega) (by omega) ?_
      refine sw_p 2 (f' := (9, [some (2, 0), some (0, b), some (0, n + 1), some (0, ν 3 k)], [])) rfl ?_
      have e : n + mo_cnt ν (f + 1) k = n + 1 + mo_cnt ν f (ν 3 k) := by rw [mo_cnt, if_neg (by omega)]; omega
      rw [e]
      exact ih (n + 1) (ν 3 k) (by omega) (by omega) (by omega) (by omega)
theorem mo_depthOf (hs : mo_sh s) (ho : mo_ov ν) (hb : 0 ≤ b ∧ b < 8) : sw_w E d 86 (0, [some (2, 0), some (0, b), none, none], []) s ν (sw_is (some (0, mo_cnt ν 8 (ν 3 b))) s ν) := by
  have hov := ho b
  refine sw_p 3 (f' := (3, [some (2, 0), some (0, b), some (0, 0), none], [(2, 0)])) rfl ?_
  refine sw_hA (pn := 6) (i := 3) (v := 3) rfl rfl rfl rfl rfl hs.1 (mo_s3 hs).1 (by omega) ?_
  refine sw_p 1 (f' := (7, [some (2, 0), some (0, b), some (0, 0), none], [(0, b), (2, 3)])) rfl ?_
  refine sw_ial (pn := 8) (l := 8) rfl rfl (by omega) (mo_s3 hs).2.1 (mo_s3 hs).2.2 (by omega) (by omega) ?_
  refine sw_p 1 (f' := (9, [some (2, 0), some (0, b), some (0, 0), some (0, ν 3 b)], [])) rfl ?_
  exact (by have h := mo_depthOf_l (E := E) (d := d) (b := b) hs ho 8 0 (ν 3 b) (by omega) (by omega) (by omega) (by omega); rw [Int.zero_add] at h; exact h)
theorem mo_hangs_l (hs : mo_sh s) (ho : mo_ov ν) (hb : 0 ≤ b ∧ b < 8) : ∀ (f : Nat) (k : Int), k < f → f ≤ 8 → -1 ≤ k → sw_w E d 95 (7, [some (2, 0), some (0, c), some (0, b), some (0, k)], []) s ν (sw_is (some (0, mo_un ν b f k)) s ν) := by
  intro f
  induction f with
  | zero =>
    intro k hk hf hk0
    refine sw_p 1 (f' := (8, [some (2, 0), some (0, c), some (0, b), some (0, k)], [(0, k)])) rfl ?_
    refine sw_lt1 (pt := 26) (pn := 11) rfl rfl rfl (by omega) (fun h1 => ?_) (fun h1 => ?_)
    · skip
      refine sw_p 1 (f' := (27, [some (2, 0), some (0, c), some (0, b), some (0, k)], [(0, k)])) rfl ?_
      refine sw_lt1 (pt := 34) (pn := 30) rfl rfl rfl (by omega) (fun h2 => ?_) (fun h2 => ?_)
      · skip
        refine sw_p 1 (f' := (35, [some (2, 0), some (0, c), some (0, b), some (0, k)], [(0, 0)])) rfl ?_
        exact sw_retZ rfl rfl rfl (by omega) ⟨by first | rfl | (exfalso; omega), rfl, rfl⟩
      · skip
        omega
    · skip
      omega
  | succ f ih =>
    intro k hk hf hk0
    have hov := ho k
    refine sw_p 1 (f' := (8, [some (2, 0), some (0, c), some (0, b), some (0, k)], [(0, k)])) rfl ?_
    refine sw_lt1 (pt := 26) (pn := 11) rfl rfl rfl (by omega) (fun h1 => ?_) (fun h1 => ?_)
    · skip
      refine sw_p 1 (f' := (27, [some (2, 0), some (0, c), some (0, b), some (0, k)], [(0, k)])) rfl ?_
      refine sw_lt1 (pt := 34) (pn := 30) rfl rfl rfl (by omega) (fun h2 => ?_) (fun h2 => ?_)
      · skip
        refine sw_p 1 (f' := (35, [some (2, 0), some (0, c), some (0, b), some (0, k)], [(0, 0)])) rfl ?_
        exact sw_retZ rfl rfl rfl (by omega) ⟨by unfold mo_un; first | (exfalso; omega) | rw [if_pos (by omega)] | rw [if_neg (by omega), if_pos (by omega)], rfl, rfl⟩
      · skip
        refine sw_p 2 (f' := (35, [some (2, 0), some (0, c), some (0, b), some (0, k)], [(0, 1)])) rfl ?_
        exact sw_retZ rfl rfl rfl (by omega) ⟨by unfold mo_un; first | (exfalso; omega) | rw [if_pos (by omega)] | rw [if_neg (by omega), if_pos (by omega)], rfl, rfl⟩
    · skip
      refine sw_p 2 (f' := (13, [some (2, 0), some (0, c), some (0, b), some (0, k)], [(0, b), (0, k)])) rfl ?_
      refine sw_eq2 (pt := 26) (pn := 16) rfl rfl rfl (by omega) (by omega) (fun h3 => ?_) (fun h3 => ?_)
      · skip
        refine sw_p 1 (f' := (27, [some (2, 0), some (0, c), some (0, b), some (0, k)], [(0, k)])) rfl ?_
        refine sw_lt1 (pt := 34) (pn := 30) rfl rfl rfl (by omega) (fun h4 => ?_) (fun h4 => ?_)
        · skip
          refine sw_p 1 (f' := (35, [some (2, 0), some (0, c), some (0, b), some (0, k)], [(0, 0)])) rfl ?_
          exact sw_retZ rfl rfl rfl (by omega) ⟨by unfold mo_un; first | (exfalso; omega) | rw [if_pos (by omega)] | rw [if_neg (by omega), if_pos (by omega)], rfl, rfl⟩
        · skip
          refine sw_p 2 (f' := (35, [some (2, 0), some (0, c), some (0, b), some (0, k)], [(0, 1)])) rfl ?_
          exact sw_retZ rfl rfl rfl (by omega) ⟨by unfold mo_un; first | (exfalso; omega) | rw [if_pos (by omega)] | rw [if_neg (by omega), if_pos (by omega)], rfl, rfl⟩
      · skip
        refine sw_p 1 (f' := (17, [some (2, 0), some (0, c), some (0, b), some (0, k)], [(2, 0)])) rfl ?_
        refine sw_hA (pn := 20) (i := 3) (v := 3) rfl rfl rfl rfl rfl hs.1 (mo_s3 hs).1 (by omega) ?_
        refine sw_p 1 (f' := (21, [some (2, 0), some (0, c), some (0, b), some (0, k)], [(0, k), (2, 3)])) rfl ?_
        refine sw_ial (pn := 22) (l := 8) rfl rfl (by omega) (mo_s3 hs).2.1 (mo_s3 hs).2.2 (by omega) (by omega) ?_
        refine sw_p 2 (f' := (7, [some (2, 0), some (0, c), some (0, b), some (0, ν 3 k)], [])) rfl ?_
        have e : mo_un ν b (f + 1) k = mo_un ν b f (ν 3 k) := by rw [mo_un, if_neg (by omega), if_neg (by omega)]
        rw [e]
        exact ih (ν 3 k) (by omega) (by omega) (by omega)
theorem mo_hangs (hs : mo_sh s) (ho : mo_ov ν) (hb : 0 ≤ b ∧ b < 8) (hc : 0 ≤ c ∧ c < 40) (h0 : 0 ≤ ν 14 c ∧ ν 14 c < 8) : sw_w E d 95 (0, [some (2, 0), some (0, c), some (0, b), none], []) s ν (sw_is (some (0, mo_un ν b 8 (ν 14 c))) s ν) := by
  refine sw_p 1 (f' := (1, [some (2, 0), some (0, c), some (0, b), none], [(2, 0)])) rfl ?_
  refine sw_hA (pn := 4) (i := 14) (v := 14) rfl rfl rfl rfl rfl hs.1 (mo_s14 hs).1 (by omega) ?_
  refine sw_p 1 (f' := (5, [some (2, 0), some (0, c), some (0, b), none], [(0, c), (2, 14)])) rfl ?_
  refine sw_ial (pn := 6) (l := 40) rfl rfl (by omega) (mo_s14 hs).2.1 (mo_s14 hs).2.2 (by omega) (by omega) ?_
  refine sw_p 1 (f' := (7, [some (2, 0), some (0, c), some (0, b), some (0, ν 14 c)], [])) rfl ?_
  exact mo_hangs_l hs ho hb 8 _ (by omega) (by omega) (by omega)
end MO2
