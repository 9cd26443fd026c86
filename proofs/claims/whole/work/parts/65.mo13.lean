/-! the reference: placeFor -/
/-- the first place from a on that is marked, or the end of the n places -/
def mo_to (ν : mm_T) (p : Int) : Nat → Int → Int
  | 0, a => a
  | n + 1, a => if ν p a = 0 then mo_to ν p n (a + 1) else a
theorem mo_to_b (ν : mm_T) (p : Int) : ∀ (n : Nat) (a : Int), a ≤ mo_to ν p n a ∧ mo_to ν p n a ≤ a + n
  | 0, a => by simp [mo_to]
  | n + 1, a => by
    have := mo_to_b ν p n (a + 1)
    unfold mo_to
    split <;> omega
/-- the best place for z so far: from f on, b the best, l its stretch's length -/
def mo_pf (ν : mm_T) (z e : Int) : Nat → Int → Int → Int → Int
  | 0, _, b, _ => b
  | m + 1, f, b, l => if f < e then (if f + (-f) % z + z ≤ mo_to ν 29 (e - f).toNat f ∧ mo_to ν 29 (e - f).toNat f - f < l then mo_pf ν z e m (mo_to ν 29 (e - f).toNat f + 1) (f + (-f) % z) (mo_to ν 29 (e - f).toNat f - f) else mo_pf ν z e m (mo_to ν 29 (e - f).toNat f + 1) b l) else b
theorem mo_neg1 {a z : Int} {n : Nat} (hz : 0 < z) (h : (-a) % z = ((n + 1 : Nat) : Int)) : (-(a + 1)) % z = (n : Int) := by
  have h1 := Int.mul_ediv_add_emod (-a) z
  have h2 := Int.emod_lt_of_pos (-a) hz
  have e : -(a + 1) = (n : Int) + z * ((-a) / z) := by omega
  rw [e, Int.add_mul_emod_self_left, Int.emod_eq_of_lt (by omega) (by omega)]
theorem mo_neg0 {a z : Int} : a % z = 0 ↔ (-a) % z = 0 := by
  constructor
  · intro h
    exact Int.emod_eq_zero_of_dvd (Int.dvd_neg.mpr (Int.dvd_of_emod_eq_zero h))
  · intro h
    exact Int.emod_eq_zero_of_dvd (Int.dvd_neg.mp (Int.dvd_of_emod_eq_zero h))
section MO13
variable {E : mv_E} {s ν : mm_T} {d : Nat} {a b c r x y w p f g k t v lo hi l z e : Int} {Q : nm_O → mm_T → mm_T → Prop}
theorem mo_pf_t (hs : mo_sh s) (hb : mo_b1 ν 29) (he : e ≤ 4096) {o8 : Option mg_V} : ∀ (n : Nat) (t : Int), 0 ≤ t → t + n = e → sw_w E d 101 (43, [some (2, 0), some (0, z), some (0, x), some (0, e), some (0, b), some (0, l), some (0, f), some (0, mo_to ν 29 n t), o8], []) s ν Q → sw_w E d 101 (21, [some (2, 0), some (0, z), some (0, x), some (0, e), some (0, b), some (0, l), some (0, f), some (0, t), o8], []) s ν Q := by
  intro n
  induction n with
  | zero =>
    intro t ht hn kk
    refine sw_p 2 (f' := (24, [some (2, 0), some (0, z), some (0, x), some (0, e), some (0, b), some (0, l), some (0, f), some (0, t), o8], [(0, e), (0, t)])) rfl ?_
    refine sw_ge2 (pt := 43) (pn := 27) rfl rfl rfl (by omega) (by omega) (fun h1 => ?_) (fun h1 => ?_)
    · skip
      exact kk
    · skip
      omega
  | succ n ih =>
    intro t ht hn kk
    have hbi := hb t
    rw [mo_to] at kk
    refine sw_p 2 (f' := (24, [some (2, 0), some (0, z), some (0, x), some (0, e), some (0, b), some (0, l), some (0, f), some (0, t), o8], [(0, e), (0, t)])) rfl ?_
    refine sw_ge2 (pt := 43) (pn := 27) rfl rfl rfl (by omega) (by omega) (fun h1 => ?_) (fun h1 => ?_)
    · skip
      exact absurd hn (by omega)
    · skip
      refine sw_p 1 (f' := (28, [some (2, 0), some (0, z), some (0, x), some (0, e), some (0, b), some (0, l), some (0, f), some (0, t), o8], [(2, 0)])) rfl ?_
      refine sw_hA (pn := 31) (i := 29) (v := 29) rfl rfl rfl rfl rfl hs.1 (mo_s29 hs).1 (by omega) ?_
      refine sw_p 1 (f' := (33, [some (2, 0), some (0, z), some (0, x), some (0, e), some (0, b), some (0, l), some (0, f), some (0, t), o8], [(0, t), (2, 29)])) rfl ?_
      refine sw_bal (pn := 34) (l := 4096) rfl rfl (by omega) (mo_s29 hs).2.1 (mo_s29 hs).2.2 (by omega) (by omega) ?_
      refine sw_ne1 (pt := 43) (pn := 37) rfl rfl rfl (by omega) (fun h2 => ?_) (fun h2 => ?_)
      · skip
        rw [if_neg (by omega)] at kk
        exact kk
      · skip
        refine sw_p 2 (f' := (21, [some (2, 0), some (0, z), some (0, x), some (0, e), some (0, b), some (0, l), some (0, f), some (0, t + 1), o8], [])) rfl ?_
        rw [if_pos (by omega)] at kk
        exact ih (t + 1) (by omega) (by omega) kk
theorem mo_pf_a (hz : 0 < z ∧ z ≤ 1024) : ∀ (n : Nat) (a : Int), 0 ≤ a → a + n ≤ 10000 → (-a) % z = (n : Int) → sw_w E d 101 (60, [some (2, 0), some (0, z), some (0, x), some (0, e), some (0, b), some (0, l), some (0, f), some (0, t), some (0, a + n)], []) s ν Q → sw_w E d 101 (47, [some (2, 0), some (0, z), some (0, x), some (0, e), some (0, b), some (0, l), some (0, f), some (0, t), some (0, a)], []) s ν Q := by
  intro n
  induction n with
  | zero =>
    intro a ha hn hm kk
    have h0 : a % z = 0 := mo_neg0.mpr hm
    rw [show a + ((0 : Nat) : Int) = a by omega] at kk
    refine sw_p 2 (f' := (50, [some (2, 0), some (0, z), some (0, x), some (0, e), some (0, b), some (0, l), some (0, f), some (0, t), some (0, a)], [(0, z), (0, a)])) rfl ?_
    refine sw_irem (pn := 51) rfl rfl (by omega) (by omega) ?_
    refine sw_eq1 (pt := 60) (pn := 54) rfl rfl rfl (by omega) (fun h1 => ?_) (fun h1 => ?_)
    · skip
      exact kk
    · skip
      omega
  | succ n ih =>
    intro a ha hn hm kk
    have h0 : a % z ≠ 0 := fun h => by have := mo_neg0.mp h; omega
    have hlt := Int.emod_lt_of_pos a hz.1
    have hge := Int.emod_nonneg a (by omega : z ≠ 0)
    refine sw_p 2 (f' := (50, [some (2, 0), some (0, z), some (0, x), some (0, e), some (0, b), some (0, l), some (0, f), some (0, t), some (0, a)], [(0, z), (0, a)])) rfl ?_
    refine sw_irem (pn := 51) rfl rfl (by omega) (by omega) ?_
    refine sw_eq1 (pt := 60) (pn := 54) rfl rfl rfl (by omega) (fun h1 => ?_) (fun h1 => ?_)
    · skip
      omega
    · skip
      refine sw_p 2 (f' := (47, [some (2, 0), some (0, z), some (0, x), some (0, e), some (0, b), some (0, l), some (0, f), some (0, t), some (0, a + 1)], [])) rfl ?_
      refine ih (a + 1) (by omega) (by omega) (mo_neg1 hz.1 hm) ?_
      rw [show a + 1 + (n : Int) = a + ((n + 1 : Nat) : Int) by omega]
      exact kk
theorem mo_pf_o (hs : mo_sh s) (hb : mo_b1 ν 29) (he : 0 ≤ e ∧ e ≤ 4096) (hz : 0 < z ∧ z ≤ 1024) : ∀ (m : Nat) (f b l : Int) (o7 o8 : Option mg_V), 0 ≤ f → f ≤ 4097 → 0 ≤ l ∧ l ≤ 9999 → e ≤ f + m → sw_w E d 101 (11, [some (2, 0), some (0, z), some (0, x), some (0, e), some (0, b), some (0, l), some (0, f), o7, o8], []) s ν (sw_is (some (0, mo_pf ν z e m f b l)) s ν) := by
  intro m
  induction m with
  | zero =>
    intro f b l o7 o8 hf hf2 hl hm
    refine sw_p 2 (f' := (14, [some (2, 0), some (0, z), some (0, x), some (0, e), some (0, b), some (0, l), some (0, f), o7, o8], [(0, e), (0, f)])) rfl ?_
    refine sw_ge2 (pt := 99) (pn := 17) rfl rfl rfl (by omega) (by omega) (fun h1 => ?_) (fun h1 => ?_)
    · skip
      refine sw_p 1 (f' := (101, [some (2, 0), some (0, z), some (0, x), some (0, e), some (0, b), some (0, l), some (0, f), o7, o8], [(0, b)])) rfl ?_
      exact sw_retI rfl rfl rfl ⟨rfl, rfl, rfl⟩
    · skip
      omega
  | succ m ih =>
    intro f b l o7 o8 hf hf2 hl hm
    refine sw_p 2 (f' := (14, [some (2, 0), some (0, z), some (0, x), some (0, e), some (0, b), some (0, l), some (0, f), o7, o8], [(0, e), (0, f)])) rfl ?_
    refine sw_ge2 (pt := 99) (pn := 17) rfl rfl rfl (by omega) (by omega) (fun h1 => ?_) (fun h1 => ?_)
    · skip
      refine sw_p 1 (f' := (101, [some (2, 0), some (0, z), some (0, x), some (0, e), some (0, b), some (0, l), some (0, f), o7, o8], [(0, b)])) rfl ?_
      exact sw_retI rfl rfl rfl ⟨by rw [mo_pf, if_neg (by omega)], rfl, rfl⟩
    · skip
      refine sw_p 2 (f' := (21, [some (2, 0), some (0, z), some (0, x), some (0, e), some (0, b), some (0, l), some (0, f), some (0, f), o8], [])) rfl ?_
      have htb := mo_to_b ν 29 (e - f).toNat f
      refine mo_pf_t hs hb he.2 (e - f).toNat f (by omega) (by omega) ?_
      refine sw_p 2 (f' := (47, [some (2, 0), some (0, z), some (0, x), some (0, e), some (0, b), some (0, l), some (0, f), some (0, mo_to ν 29 (e - f).toNat f), some (0, f)], [])) rfl ?_
      have hmod := Int.emod_lt_of_pos (-f) hz.1
      have hmod0 := Int.emod_nonneg (-f) (by omega : z ≠ 0)
      refine mo_pf_a hz ((-f) % z).toNat f (by omega) (by omega) (by omega) ?_
      rw [show (((-f) % z).toNat : Int) = (-f) % z by omega]
      refine sw_p 4 (f' := (66, [some (2, 0), some (0, z), some (0, x), some (0, e), some (0, b), some (0, l), some (0, f), some (0, mo_to ν 29 (e - f).toNat f), some (0, f + (-f) % z)], [(0, mo_to ν 29 (e - f).toNat f), (0, (f + (-f) % z) + z)])) rfl ?_
      refine sw_gt2 (pt := 90) (pn := 69) rfl rfl rfl (by omega) (by omega) (fun g1 => ?_) (fun g1 => ?_)
      · skip
        refine sw_p 5 (f' := (11, [some (2, 0), some (0, z), some (0, x), some (0, e), some (0, b), some (0, l), some (0, (mo_to ν 29 (e - f).toNat f) + 1), some (0, mo_to ν 29 (e - f).toNat f), some (0, f + (-f) % z)], [])) rfl ?_
        rw [mo_pf, if_pos (by omega), if_neg (by omega)]
        exact ih _ _ _ _ _ (by omega) (by omega) (by omega) (by omega)
      · skip
        refine sw_p 4 (f' := (76, [some (2, 0), some (0, z), some (0, x), some (0, e), some (0, b), some (0, l), some (0, f), some (0, mo_to ν 29 (e - f).toNat f), some (0, f + (-f) % z)], [(0, l), (0, (mo_to ν 29 (e - f).toNat f) - f)])) rfl ?_
        refine sw_ge2 (pt := 90) (pn := 79) rfl rfl rfl (by omega) (by omega) (fun g2 => ?_) (fun g2 => ?_)
        · skip
          refine sw_p 5 (f' := (11, [some (2, 0), some (0, z), some (0, x), some (0, e), some (0, b), some (0, l), some (0, (mo_to ν 29 (e - f).toNat f) + 1), some (0, mo_to ν 29 (e - f).toNat f), some (0, f + (-f) % z)], [])) rfl ?_
          rw [mo_pf, if_pos (by omega), if_neg (by omega)]
          exact ih _ _ _ _ _ (by omega) (by omega) (by omega) (by omega)
        · skip
          refine sw_p 11 (f' := (11, [some (2, 0), some (0, z), some (0, x), some (0, e), some (0, f + (-f) % z), some (0, (mo_to ν 29 (e - f).toNat f) - f), some (0, (mo_to ν 29 (e - f).toNat f) + 1), some (0, mo_to ν 29 (e - f).toNat f), some (0, f + (-f) % z)], [])) rfl ?_
          rw [mo_pf, if_pos (by omega), if_pos (by omega)]
          exact ih _ _ _ _ _ (by omega) (by omega) (by omega) (by omega)
theorem mo_placeFor (hs : mo_sh s) (hb : mo_b1 ν 29) (he : 0 ≤ e ∧ e ≤ 4096) (hz : 0 < z ∧ z ≤ 1024) (hx : 0 ≤ x ∧ x ≤ 4096) : sw_w E d 101 (0, [some (2, 0), some (0, z), some (0, x), some (0, e), none, none, none, none, none], []) s ν (sw_is (some (0, mo_pf ν z e 4097 x (-1) 9999)) s ν) := by
  refine sw_p 6 (f' := (11, [some (2, 0), some (0, z), some (0, x), some (0, e), some (0, -1), some (0, 9999), some (0, x), none, none], [])) rfl ?_
  exact mo_pf_o hs hb he hz 4097 x (-1) 9999 _ _ (by omega) (by omega) (by omega) (by omega)
end MO13
