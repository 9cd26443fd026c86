/-! the reference: loops that write -/
/-- memory with the places lo .. hi - 1 of p given by g -/
def rg_m (ν : mm_T) (p lo hi : Int) (g : Int → Int) : mm_T := fun a k => if a = p ∧ lo ≤ k ∧ k < hi then g k else ν a k
section RG
variable {ν : mm_T} {p lo hi a k z : Int} {g g' : Int → Int}
theorem rg_at (h : lo ≤ k ∧ k < hi) : rg_m ν p lo hi g p k = g k := by unfold rg_m; rw [if_pos ⟨rfl, h⟩]
theorem rg_ne (h : ¬ (a = p ∧ lo ≤ k ∧ k < hi)) : rg_m ν p lo hi g a k = ν a k := by unfold rg_m; rw [if_neg h]
theorem rg_0 (h : hi ≤ lo) : rg_m ν p lo hi g = ν := by funext a k; exact rg_ne (by omega)
theorem rg_u (h : lo ≤ hi) (hz : z = g hi) : mm_u (rg_m ν p lo hi g) p hi z = rg_m ν p lo (hi + 1) g := by
  funext a k
  by_cases h1 : a = p ∧ k = hi
  · obtain ⟨rfl, rfl⟩ := h1
    rw [mm_u_at, rg_at (by omega), hz]
  · rw [mm_u_ne h1]
    by_cases h2 : a = p ∧ lo ≤ k ∧ k < hi
    · obtain ⟨rfl, h2⟩ := h2
      rw [rg_at h2, rg_at (by omega)]
    · rw [rg_ne h2, rg_ne (fun h3 => if hk : k = hi then h1 ⟨h3.1, hk⟩ else h2 ⟨h3.1, h3.2.1, by omega⟩)]
theorem rg_s (h : lo ≤ hi) (hz : ν p hi = g hi) : rg_m ν p lo (hi + 1) g = rg_m ν p lo hi g := by
  funext a k
  by_cases h2 : a = p ∧ lo ≤ k ∧ k < hi
  · obtain ⟨rfl, h2⟩ := h2
    rw [rg_at h2, rg_at (by omega)]
  · rw [rg_ne h2]
    by_cases h1 : a = p ∧ k = hi
    · obtain ⟨rfl, rfl⟩ := h1
      rw [rg_at (by omega), hz]
    · exact rg_ne (fun h3 => if hk : k = hi then h1 ⟨h3.1, hk⟩ else h2 ⟨h3.1, h3.2.1, by omega⟩)
end RG
/-- the states of all cards that are in one state turned to another -/
def mo_ch (ν : mm_T) (x y : Int) : mm_T := rg_m ν 15 0 (ν 0 12) (fun k => if ν 15 k = x then y else ν 15 k)
/-- what is lost of the requests of c, but for one -/
def mo_lsg (ν : mm_T) (c w t : Int) : Int := if ν 25 t = c ∧ ν 28 t = 1099511627776 ∧ t ≠ w then 2199023255552 else ν 28 t
def mo_lsn (ν : mm_T) (c w t : Int) : Int := if ν 25 t = c ∧ ν 28 t = 1099511627776 ∧ t ≠ w then 1 else 0
def mo_ls (ν : mm_T) (c w : Int) : mm_T := rg_m ν 28 0 (ν 0 24) (mo_lsg ν c w)
/-- a card taken out -/
def mo_rm1 (ν : mm_T) (c y : Int) : mm_T := mm_u (mm_u ν 15 c y) 19 c 0
def mo_rm2 (ν : mm_T) (c y : Int) : mm_T := rg_m (mo_rm1 ν c y) 17 (3 * c) (3 * c + 3) (fun _ => -1)
def mo_rm3 (ν : mm_T) (c y : Int) : mm_T := rg_m (mo_rm2 ν c y) 2 0 32 (fun k => if ν 2 k = 100 + c then -1 else ν 2 k)
def mo_rm (ν : mm_T) (c y : Int) : mm_T := mm_u (mo_rm3 ν c y) 0 21 (if ν 0 21 = c then -1 else ν 0 21)
section MO4
variable {E : mv_E} {s ν : mm_T} {d : Nat} {b c r x y w p f g : Int}
theorem mo_mark_l (hp : 0 ≤ p) (hk : s p (-1) = 1) (hl : s p (-2) = 4096) (hx : 0 ≤ x) (hy : y ≤ 4096) (hxb : x < 2147483648) (hyb : -2147483648 ≤ y) : ∀ (m : Nat) (i : Int), x ≤ i → i + m = y ∨ (m = 0 ∧ y ≤ i ∧ i = x) → sw_w E d 99 (2, [some (2, p), some (0, x), some (0, y), some (0, i)], []) s (rg_m ν p x i (fun _ => 1)) (sw_is none s (rg_m ν p x y (fun _ => 1))) := by
  intro m
  induction m with
  | zero =>
    intro i hi him
    refine sw_p 2 (f' := (4, [some (2, p), some (0, x), some (0, y), some (0, i)], [(0, y), (0, i)])) rfl ?_
    refine sw_ge2 (pt := 17) (pn := 7) rfl rfl rfl (by omega) (by omega) (fun h1 => ?_) (fun h1 => ?_)
    · skip
      exact sw_retV rfl rfl rfl ⟨rfl, rfl, by rcases him with h | h; (· rw [show i = y by omega]); (· rw [rg_0 (by omega), rg_0 (by omega)])⟩
    · skip
      omega
  | succ m ih =>
    intro i hi him
    refine sw_p 2 (f' := (4, [some (2, p), some (0, x), some (0, y), some (0, i)], [(0, y), (0, i)])) rfl ?_
    refine sw_ge2 (pt := 17) (pn := 7) rfl rfl rfl (by omega) (by omega) (fun h1 => ?_) (fun h1 => ?_)
    · skip
      exact sw_retV rfl rfl rfl (absurd him (by omega))
    · skip
      refine sw_p 3 (f' := (10, [some (2, p), some (0, x), some (0, y), some (0, i)], [(0, 1), (0, i), (2, p)])) rfl ?_
      refine sw_bas (pn := 11) (l := 4096) rfl rfl (by omega) (by omega) hk hl (by omega) (by omega) ?_
      refine sw_p 2 (f' := (2, [some (2, p), some (0, x), some (0, y), some (0, i + 1)], [])) rfl ?_
      rw [rg_u (g := fun _ => 1) (by omega) rfl]
      exact ih (i + 1) (by omega) (by omega)
theorem mo_mark (hp : 0 ≤ p) (hk : s p (-1) = 1) (hl : s p (-2) = 4096) (hx : 0 ≤ x) (hy : y ≤ 4096) (hxb : x < 2147483648) (hyb : -2147483648 ≤ y) : sw_w E d 99 (0, [some (2, p), some (0, x), some (0, y), none], []) s ν (sw_is none s (rg_m ν p x y (fun _ => 1))) := by
  refine sw_p 2 (f' := (2, [some (2, p), some (0, x), some (0, y), some (0, x)], [])) rfl ?_
  have h := mo_mark_l (E := E) (d := d) (ν := ν) hp hk hl hx hy hxb hyb (y - x).toNat x (by omega) (by omega)
  rw [rg_0 (by omega)] at h
  exact h
theorem mo_change_l (hs : mo_sh s) (hB : mo_B ν) (hx : 0 ≤ x ∧ x ≤ 5) : ∀ (m : Nat) (i : Int), 0 ≤ i → i + m = ν 0 12 → sw_w E d 107 (2, [some (2, 0), some (0, x), some (0, y), some (0, i)], []) s (rg_m ν 15 0 i (fun k => if ν 15 k = x then y else ν 15 k)) (sw_is none s (mo_ch ν x y)) := by
  intro m
  induction m with
  | zero =>
    intro i hi him
    have h12 := hB.2.2.1
    refine sw_p 2 (f' := (4, [some (2, 0), some (0, x), some (0, y), some (0, i)], [(2, 0), (0, i)])) rfl ?_
    refine sw_gI (pn := 7) (i := 12) rfl rfl rfl rfl rfl (by omega) hs.1 ?_
    rw [show (rg_m ν 15 0 i (fun k => if ν 15 k = x then y else ν 15 k)) 0 12 = ν 0 12 from rg_ne (by omega)]
    refine sw_ge2 (pt := 42) (pn := 10) rfl rfl rfl (by omega) (by omega) (fun h1 => ?_) (fun h1 => ?_)
    · skip
      exact sw_retV rfl rfl rfl ⟨rfl, rfl, by rw [show i = ν 0 12 by omega]; rfl⟩
    · skip
      omega
  | succ m ih =>
    intro i hi him
    have h12 := hB.2.2.1
    have hcd := hB.cd i hi (by omega)
    refine sw_p 2 (f' := (4, [some (2, 0), some (0, x), some (0, y), some (0, i)], [(2, 0), (0, i)])) rfl ?_
    refine sw_gI (pn := 7) (i := 12) rfl rfl rfl rfl rfl (by omega) hs.1 ?_
    rw [show (rg_m ν 15 0 i (fun k => if ν 15 k = x then y else ν 15 k)) 0 12 = ν 0 12 from rg_ne (by omega)]
    refine sw_ge2 (pt := 42) (pn := 10) rfl rfl rfl (by omega) (by omega) (fun h1 => ?_) (fun h1 => ?_)
    · skip
      exact sw_retV rfl rfl rfl (absurd him (by omega))
    · skip
      refine sw_p 1 (f' := (11, [some (2, 0), some (0, x), some (0, y), some (0, i)], [(2, 0)])) rfl ?_
      refine sw_hA (pn := 14) (i := 15) (v := 15) rfl rfl rfl rfl rfl hs.1 (mo_s15 hs).1 (by omega) ?_
      refine sw_p 2 (f' := (16, [some (2, 0), some (0, x), some (0, y), some (0, i)], [(2, 0), (0, i), (2, 15)])) rfl ?_
      refine sw_hA (pn := 19) (i := 15) (v := 15) rfl rfl rfl rfl rfl hs.1 (mo_s15 hs).1 (by omega) ?_
      refine sw_p 1 (f' := (20, [some (2, 0), some (0, x), some (0, y), some (0, i)], [(0, i), (2, 15), (0, i), (2, 15)])) rfl ?_
      refine sw_ial (pn := 21) (l := 40) rfl rfl (by omega) (mo_s15 hs).2.1 (mo_s15 hs).2.2 (by omega) (by omega) ?_
      rw [show (rg_m ν 15 0 i (fun k => if ν 15 k = x then y else ν 15 k)) 15 i = ν 15 i from rg_ne (by omega)]
      refine sw_p 1 (f' := (22, [some (2, 0), some (0, x), some (0, y), some (0, i)], [(0, x), (0, ν 15 i), (0, i), (2, 15)])) rfl ?_
      refine sw_ne2 (pt := 29) (pn := 25) rfl rfl rfl (by omega) (by omega) (fun h2 => ?_) (fun h2 => ?_)
      · skip
        refine sw_p 1 (f' := (30, [some (2, 0), some (0, x), some (0, y), some (0, i)], [(2, 0), (0, i), (2, 15)])) rfl ?_
        refine sw_hA (pn := 33) (i := 15) (v := 15) rfl rfl rfl rfl rfl hs.1 (mo_s15 hs).1 (by omega) ?_
        refine sw_p 1 (f' := (34, [some (2, 0), some (0, x), some (0, y), some (0, i)], [(0, i), (2, 15), (0, i), (2, 15)])) rfl ?_
        refine sw_ial (pn := 35) (l := 40) rfl rfl (by omega) (mo_s15 hs).2.1 (mo_s15 hs).2.2 (by omega) (by omega) ?_
        rw [show (rg_m ν 15 0 i (fun k => if ν 15 k = x then y else ν 15 k)) 15 i = ν 15 i from rg_ne (by omega)]
        refine sw_ias (pn := 36) (l := 40) rfl rfl (by omega) (mo_s15 hs).2.1 (mo_s15 hs).2.2 (by omega) (by omega) ?_
        refine sw_p 2 (f' := (2, [some (2, 0), some (0, x), some (0, y), some (0, i + 1)], [])) rfl ?_
        rw [rg_u (by omega) (by rw [if_neg (by omega)])]
        exact ih (i + 1) (by omega) (by omega)
      · skip
        refine sw_p 2 (f' := (35, [some (2, 0), some (0, x), some (0, y), some (0, i)], [(0, y), (0, i), (2, 15)])) rfl ?_
        refine sw_ias (pn := 36) (l := 40) rfl rfl (by omega) (mo_s15 hs).2.1 (mo_s15 hs).2.2 (by omega) (by omega) ?_
        refine sw_p 2 (f' := (2, [some (2, 0), some (0, x), some (0, y), some (0, i + 1)], [])) rfl ?_
        rw [rg_u (by omega) (by rw [if_pos (by omega)])]
        exact ih (i + 1) (by omega) (by omega)
theorem mo_change (hs : mo_sh s) (hB : mo_B ν) (hx : 0 ≤ x ∧ x ≤ 5) : sw_w E d 107 (0, [some (2, 0), some (0, x), some (0, y), none], []) s ν (sw_is none s (mo_ch ν x y)) := by
  have h12 := hB.2.2.1
  refine sw_p 2 (f' := (2, [some (2, 0), some (0, x), some (0, y), some (0, 0)], [])) rfl ?_
  have h := mo_change_l (E := E) (d := d) (x := x) (y := y) hs hB hx (ν 0 12).toNat 0 (by omega) (by omega)
  rw [rg_0 (by omega)] at h
  exact h
theorem mo_lose_l (hs : mo_sh s) (hB : mo_B ν) (hc : 0 ≤ c ∧ c < 40) (hw : -1 ≤ w ∧ w < 512) : ∀ (m : Nat) (i : Int), 0 ≤ i → i + m = ν 0 24 → sw_w E d 113 (5, [some (2, 0), some (0, c), some (0, w), some (0, sm_s (mo_lsn ν c w) i.toNat), some (0, i)], []) s (rg_m ν 28 0 i (mo_lsg ν c w)) (sw_is (some (0, sm_s (mo_lsn ν c w) (ν 0 24).toNat)) s (mo_ls ν c w)) := by
  intro m
  induction m with
  | zero =>
    intro i hi him
    have h12 := hB.2.2.2.2.2.1
    refine sw_p 2 (f' := (8, [some (2, 0), some (0, c), some (0, w), some (0, sm_s (mo_lsn ν c w) i.toNat), some (0, i)], [(2, 0), (0, i)])) rfl ?_
    refine sw_gI (pn := 11) (i := 24) rfl rfl rfl rfl rfl (by omega) hs.1 ?_
    rw [show (rg_m ν 28 0 i (mo_lsg ν c w)) 0 24 = ν 0 24 from rg_ne (by omega)]
    refine sw_ge2 (pt := 64) (pn := 14) rfl rfl rfl (by omega) (by omega) (fun h1 => ?_) (fun h1 => ?_)
    · skip
      refine sw_p 1 (f' := (65, [some (2, 0), some (0, c), some (0, w), some (0, sm_s (mo_lsn ν c w) i.toNat), some (0, i)], [(0, sm_s (mo_lsn ν c w) i.toNat)])) rfl ?_
      exact sw_retI rfl rfl rfl ⟨by rw [show i = ν 0 24 by omega], rfl, by rw [show i = ν 0 24 by omega]; rfl⟩
    · skip
      omega
  | succ m ih =>
    intro i hi him
    have h12 := hB.2.2.2.2.2.1
    have htk := hB.tk i hi (by omega)
    refine sw_p 2 (f' := (8, [some (2, 0), some (0, c), some (0, w), some (0, sm_s (mo_lsn ν c w) i.toNat), some (0, i)], [(2, 0), (0, i)])) rfl ?_
    refine sw_gI (pn := 11) (i := 24) rfl rfl rfl rfl rfl (by omega) hs.1 ?_
    rw [show (rg_m ν 28 0 i (mo_lsg ν c w)) 0 24 = ν 0 24 from rg_ne (by omega)]
    refine sw_ge2 (pt := 64) (pn := 14) rfl rfl rfl (by omega) (by omega) (fun h1 => ?_) (fun h1 => ?_)
    · skip
      refine sw_p 1 (f' := (65, [some (2, 0), some (0, c), some (0, w), some (0, sm_s (mo_lsn ν c w) i.toNat), some (0, i)], [(0, sm_s (mo_lsn ν c w) i.toNat)])) rfl ?_
      exact sw_retI rfl rfl rfl (absurd him (by omega))
    · skip
      refine sw_p 1 (f' := (15, [some (2, 0), some (0, c), some (0, w), some (0, sm_s (mo_lsn ν c w) i.toNat), some (0, i)], [(2, 0)])) rfl ?_
      refine sw_hA (pn := 18) (i := 25) (v := 25) rfl rfl rfl rfl rfl hs.1 (mo_s25 hs).1 (by omega) ?_
      refine sw_p 1 (f' := (20, [some (2, 0), some (0, c), some (0, w), some (0, sm_s (mo_lsn ν c w) i.toNat), some (0, i)], [(0, i), (2, 25)])) rfl ?_
      refine sw_ial (pn := 21) (l := 512) rfl rfl (by omega) (mo_s25 hs).2.1 (mo_s25 hs).2.2 (by omega) (by omega) ?_
      rw [show (rg_m ν 28 0 i (mo_lsg ν c w)) 25 i = ν 25 i from rg_ne (by omega)]
      refine sw_p 1 (f' := (22, [some (2, 0), some (0, c), some (0, w), some (0, sm_s (mo_lsn ν c w) i.toNat), some (0, i)], [(0, c), (0, ν 25 i)])) rfl ?_
      refine sw_ne2 (pt := 58) (pn := 25) rfl rfl rfl (by omega) (by omega) (fun h2 => ?_) (fun h2 => ?_)
      · skip
        refine sw_p 2 (f' := (5, [some (2, 0), some (0, c), some (0, w), some (0, sm_s (mo_lsn ν c w) i.toNat), some (0, i + 1)], [])) rfl ?_
        have e : sm_s (mo_lsn ν c w) (i + 1).toNat = sm_s (mo_lsn ν c w) i.toNat := by
          rw [sm_su hi]
          unfold mo_lsn
          rw [if_neg (by omega)]
          exact Int.add_zero _
        rw [← e, ← rg_s (by omega) (by unfold mo_lsg; rw [if_neg (by omega)])]
        exact ih (i + 1) (by omega) (by omega)
      · skip
        refine sw_p 1 (f' := (26, [some (2, 0), some (0, c), some (0, w), some (0, sm_s (mo_lsn ν c w) i.toNat), some (0, i)], [(2, 0)])) rfl ?_
        refine sw_hA (pn := 29) (i := 28) (v := 28) rfl rfl rfl rfl rfl hs.1 (mo_s28 hs).1 (by omega) ?_
        refine sw_p 1 (f' := (31, [some (2, 0), some (0, c), some (0, w), some (0, sm_s (mo_lsn ν c w) i.toNat), some (0, i)], [(0, i), (2, 28)])) rfl ?_
        refine sw_lal (pn := 32) (l := 512) rfl rfl (by omega) (mo_s28 hs).2.1 (mo_s28 hs).2.2 (by omega) (by omega) ?_
        rw [show (rg_m ν 28 0 i (mo_lsg ν c w)) 28 i = ν 28 i from rg_ne (by omega)]
        refine sw_p 1 (f' := (35, [some (2, 0), some (0, c), some (0, w), some (0, sm_s (mo_lsn ν c w) i.toNat), some (0, i)], [(1, 1099511627776), (1, ν 28 i)])) rfl ?_
        refine sw_lcn (pt := 58) (pn := 39) rfl rfl rfl rfl (by omega) (by omega) (fun h3 => ?_) (fun h3 => ?_)
        · skip
          refine sw_p 2 (f' := (5, [some (2, 0), some (0, c), some (0, w), some (0, sm_s (mo_lsn ν c w) i.toNat), some (0, i + 1)], [])) rfl ?_
          have e : sm_s (mo_lsn ν c w) (i + 1).toNat = sm_s (mo_lsn ν c w) i.toNat := by
            rw [sm_su hi]
            unfold mo_lsn
            rw [if_neg (by omega)]
            exact Int.add_zero _
          rw [← e, ← rg_s (by omega) (by unfold mo_lsg; rw [if_neg (by omega)])]
          exact ih (i + 1) (by omega) (by omega)
        · skip
          refine sw_p 2 (f' := (42, [some (2, 0), some (0, c), some (0, w), some (0, sm_s (mo_lsn ν c w) i.toNat), some (0, i)], [(0, w), (0, i)])) rfl ?_
          refine sw_eq2 (pt := 58) (pn := 45) rfl rfl rfl (by omega) (by omega) (fun h4 => ?_) (fun h4 => ?_)
          · skip
            refine sw_p 2 (f' := (5, [some (2, 0), some (0, c), some (0, w), some (0, sm_s (mo_lsn ν c w) i.toNat), some (0, i + 1)], [])) rfl ?_
            have e : sm_s (mo_lsn ν c w) (i + 1).toNat = sm_s (mo_lsn ν c w) i.toNat := by
              rw [sm_su hi]
              unfold mo_lsn
              rw [if_neg (by omega)]
              exact Int.add_zero _
            rw [← e, ← rg_s (by omega) (by unfold mo_lsg; rw [if_neg (by omega)])]
            exact ih (i + 1) (by omega) (by omega)
          · skip
            refine sw_p 1 (f' := (46, [some (2, 0), some (0, c), some (0, w), some (0, sm_s (mo_lsn ν c w) i.toNat), some (0, i)], [(2, 0)])) rfl ?_
            refine sw_hA (pn := 49) (i := 28) (v := 28) rfl rfl rfl rfl rfl hs.1 (mo_s28 hs).1 (by omega) ?_
            refine sw_p 2 (f' := (54, [some (2, 0), some (0, c), some (0, w), some (0, sm_s (mo_lsn ν c w) i.toNat), some (0, i)], [(1, 2199023255552), (0, i), (2, 28)])) rfl ?_
            refine sw_las (pn := 55) (l := 512) rfl rfl (by omega) (mo_s28 hs).2.1 (mo_s28 hs).2.2 (by omega) (by omega) ?_
            refine sw_p 3 (f' := (5, [some (2, 0), some (0, c), some (0, w), some (0, sm_s (mo_lsn ν c w) i.toNat + 1), some (0, i + 1)], [])) rfl ?_
            have e : sm_s (mo_lsn ν c w) (i + 1).toNat = sm_s (mo_lsn ν c w) i.toNat + 1 := by
              rw [sm_su hi]
              unfold mo_lsn
              rw [if_pos (by omega)]
            rw [← e, rg_u (by omega) (by unfold mo_lsg; rw [if_pos (by omega)])]
            exact ih (i + 1) (by omega) (by omega)
theorem mo_lose (hs : mo_sh s) (hB : mo_B ν) (hc : 0 ≤ c ∧ c < 40) (hw : -1 ≤ w ∧ w < 512) : sw_w E d 113 (0, [some (2, 0), some (0, c), some (0, w), none, none], []) s ν (sw_is (some (0, sm_s (mo_lsn ν c w) (ν 0 24).toNat)) s (mo_ls ν c w)) := by
  have h12 := hB.2.2.2.2.2.1
  refine sw_p 4 (f' := (5, [some (2, 0), some (0, c), some (0, w), some (0, 0), some (0, 0)], [])) rfl ?_
  have h := mo_lose_l (E := E) (d := d) hs hB hc hw (ν 0 24).toNat 0 (by omega) (by omega)
  rw [rg_0 (by omega)] at h
  exact h
end MO4
