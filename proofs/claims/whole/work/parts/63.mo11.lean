/-! the reference: decode -/
/-- does the range k of c hold the address a -/
def mo_hit (ν : mm_T) (a c k : Int) : Int := if 0 ≤ ν 17 (3 * c + k) ∧ ν 17 (3 * c + k) ≤ a ∧ a < ν 17 (3 * c + k) + ν 9 (3 * ν 13 c + k) then 1 else 0
def mo_di (ν : mm_T) (a c : Int) : Nat → Int → Int
  | 0, r => r
  | n + 1, r => mo_di ν a c n (if mo_hit ν a c (2 - n) = 1 then c else r)
def mo_do (ν : mm_T) (a : Int) : Nat → Int → Int → Int
  | 0, _, r => r
  | n + 1, c, r => mo_do ν a n (c + 1) (mo_di ν a c 3 r)
section MO11
variable {E : mv_E} {s ν : mm_T} {d : Nat} {a b c r x y w p f g k t v lo hi l z : Int}
theorem mo_sizeOf_cd (hs : mo_sh s) (hB : mo_B ν) (hc : 0 ≤ c ∧ c < 40) (hk : 0 ≤ k ∧ k < 3) : sw_w E d 100 (0, [some (2, 0), some (0, c), some (0, k)], []) s (mo_cd ν z) (sw_is (some (0, ν 9 (3 * ν 13 c + k))) s (mo_cd ν z)) := by
  have hcd := hB.cd c hc.1 hc.2
  have h := mo_sizeOf (E := E) (d := d) (s := s) (ν := mo_cd ν z) (c := c) (k := k) hs hc hk (by rw [mo_cd_ne (by omega)]; omega)
  rw [show mo_cd ν z 13 c = ν 13 c from mo_cd_ne (by omega), show mo_cd ν z 9 (3 * ν 13 c + k) = ν 9 (3 * ν 13 c + k) from mo_cd_ne (by omega)] at h
  exact h
theorem mo_decode_i (hs : mo_sh s) (hB : mo_B ν) (ha : -2147483648 ≤ a ∧ a < 2147483648) (hc : 0 ≤ c ∧ c < ν 0 12) (R : Int → Int) (kk : ∀ (r : Int) (o5 : Option mg_V), sw_w E (d + 1) 123 (9, [some (2, 0), some (0, a), some (0, r), some (0, c + 1), some (0, 3), o5], []) s (mo_cd ν 0) (sw_is (some (0, R r)) s (mo_cd ν 0))) : ∀ (n : Nat) (r k : Int) (o5 : Option mg_V), 0 ≤ k → k + n = 3 → sw_w E (d + 1) 123 (20, [some (2, 0), some (0, a), some (0, r), some (0, c), some (0, k), o5], []) s (mo_cd ν 0) (sw_is (some (0, R (mo_di ν a c n r))) s (mo_cd ν 0)) := by
  intro n
  have hn := hB.2.2.1
  have hcd := hB.cd c (by omega) (by omega)
  induction n with
  | zero =>
    intro r k o5 hk0 hk
    have e : k = 3 := by omega
    subst e
    refine sw_p 2 (f' := (23, [some (2, 0), some (0, a), some (0, r), some (0, c), some (0, 3), o5], [(0, 3), (0, 3)])) rfl ?_
    refine sw_ge2 (pt := 76) (pn := 26) rfl rfl rfl (by omega) (by omega) (fun _ => ?_) (fun h => absurd h (by decide))
    refine sw_p 2 (f' := (9, [some (2, 0), some (0, a), some (0, r), some (0, c + 1), some (0, 3), o5], [])) rfl ?_
    exact kk r o5
  | succ n ih =>
    intro r k o5 hk0 hk
    have hrg := hB.2.2.2.2.2.2.2.2.2.2.2.2.1 (3 * c + k) (by omega) (by omega)
    have hsz := hB.2.2.2.2.2.2.2.2.2.2.2.1 (3 * ν 13 c + k) (by omega) (by omega)
    have ek : (2 : Int) - n = k := by omega
    refine sw_p 2 (f' := (23, [some (2, 0), some (0, a), some (0, r), some (0, c), some (0, k), o5], [(0, 3), (0, k)])) rfl ?_
    refine sw_ge2 (pt := 76) (pn := 26) rfl rfl rfl (by omega) (by omega) (fun h1 => ?_) (fun h1 => ?_)
    · skip
      omega
    · skip
      refine sw_p 1 (f' := (27, [some (2, 0), some (0, a), some (0, r), some (0, c), some (0, k), o5], [(2, 0)])) rfl ?_
      refine sw_hA (pn := 30) (i := 17) (v := 17) rfl rfl rfl rfl rfl hs.1 (mo_s17 hs).1 (by omega) ?_
      refine sw_p 5 (f' := (36, [some (2, 0), some (0, a), some (0, r), some (0, c), some (0, k), o5], [(0, (3 * c) + k), (2, 17)])) rfl ?_
      refine sw_ial (pn := 37) (l := 120) rfl rfl (by omega) (mo_s17 hs).2.1 (mo_s17 hs).2.2 (by omega) (by omega) ?_
      rw [show (mo_cd ν 0) 17 ((3 * c) + k) = ν 17 ((3 * c) + k) from mo_cd_ne (by omega)]
      refine sw_p 2 (f' := (41, [some (2, 0), some (0, a), some (0, r), some (0, c), some (0, k), some (0, ν 17 ((3 * c) + k))], [(0, ν 17 ((3 * c) + k))])) rfl ?_
      refine sw_lt1 (pt := 68) (pn := 44) rfl rfl rfl (by omega) (fun h2 => ?_) (fun h2 => ?_)
      · skip
        refine sw_p 4 (f' := (20, [some (2, 0), some (0, a), some (0, r), some (0, c), some (0, k + 1), some (0, ν 17 ((3 * c) + k))], [])) rfl ?_
        have e : mo_di ν a c (n + 1) r = mo_di ν a c n r := by
          rw [mo_di, ek]
          unfold mo_hit
          rw [if_neg (by omega)]
        rw [e]
        exact ih r (k + 1) _ (by omega) (by omega)
      · skip
        refine sw_p 2 (f' := (47, [some (2, 0), some (0, a), some (0, r), some (0, c), some (0, k), some (0, ν 17 ((3 * c) + k))], [(0, ν 17 ((3 * c) + k)), (0, a)])) rfl ?_
        refine sw_lt2 (pt := 68) (pn := 50) rfl rfl rfl (by omega) (by omega) (fun h3 => ?_) (fun h3 => ?_)
        · skip
          refine sw_p 4 (f' := (20, [some (2, 0), some (0, a), some (0, r), some (0, c), some (0, k + 1), some (0, ν 17 ((3 * c) + k))], [])) rfl ?_
          have e : mo_di ν a c (n + 1) r = mo_di ν a c n r := by
            rw [mo_di, ek]
            unfold mo_hit
            rw [if_neg (by omega)]
          rw [e]
          exact ih r (k + 1) _ (by omega) (by omega)
        · skip
          refine sw_p 5 (f' := (57, [some (2, 0), some (0, a), some (0, r), some (0, c), some (0, k), some (0, ν 17 ((3 * c) + k))], [(0, k), (0, c), (2, 0), (0, ν 17 ((3 * c) + k)), (0, a)])) rfl ?_
          refine sw_cv1 (pn := 60) (q0 := mj_Mo_decode) (q := mj_Mo_sizeOf) (p := 0) (as2 := [(0, c), (0, k)]) (L2 := [some (2, 0), some (0, c), some (0, k)]) (rest := [(0, ν 17 ((3 * c) + k)), (0, a)]) (v := some (0, ν 9 (3 * ν 13 c + k))) (s1 := s) (ν1 := (mo_cd ν 0)) rfl rfl rfl rfl rfl rfl rfl rfl rfl hs.1 (mo_sizeOf_cd hs hB (by omega) (by omega)) ?_
          show sw_w E _ 123 (60, [some (2, 0), some (0, a), some (0, r), some (0, c), some (0, k), some (0, ν 17 ((3 * c) + k))], [(0, ν 9 (3 * ν 13 c + k)), (0, ν 17 ((3 * c) + k)), (0, a)]) s (mo_cd ν 0) _
          refine sw_p 1 (f' := (61, [some (2, 0), some (0, a), some (0, r), some (0, c), some (0, k), some (0, ν 17 ((3 * c) + k))], [(0, (ν 17 ((3 * c) + k)) + (ν 9 (3 * ν 13 c + k))), (0, a)])) rfl ?_
          refine sw_ge2 (pt := 68) (pn := 64) rfl rfl rfl (by omega) (by omega) (fun h4 => ?_) (fun h4 => ?_)
          · skip
            refine sw_p 4 (f' := (20, [some (2, 0), some (0, a), some (0, r), some (0, c), some (0, k + 1), some (0, ν 17 ((3 * c) + k))], [])) rfl ?_
            have e : mo_di ν a c (n + 1) r = mo_di ν a c n r := by
              rw [mo_di, ek]
              unfold mo_hit
              rw [if_neg (by omega)]
            rw [e]
            exact ih r (k + 1) _ (by omega) (by omega)
          · skip
            refine sw_p 5 (f' := (20, [some (2, 0), some (0, a), some (0, c), some (0, c), some (0, k + 1), some (0, ν 17 ((3 * c) + k))], [])) rfl ?_
            have e : mo_di ν a c (n + 1) r = mo_di ν a c n c := by
              rw [mo_di, ek]
              unfold mo_hit
              rw [if_pos (by omega)]
            rw [e]
            exact ih c (k + 1) _ (by omega) (by omega)
theorem mo_decode_o (hs : mo_sh s) (hB : mo_B ν) (ha : -2147483648 ≤ a ∧ a < 2147483648) : ∀ (n : Nat) (r c : Int) (o4 o5 : Option mg_V), 0 ≤ c → c + n = ν 0 12 → sw_w E (d + 1) 123 (9, [some (2, 0), some (0, a), some (0, r), some (0, c), o4, o5], []) s (mo_cd ν 0) (sw_is (some (0, mo_do ν a n c r)) s (mo_cd ν 0)) := by
  intro n
  have hn := hB.2.2.1
  induction n with
  | zero =>
    intro r c o4 o5 hc hk
    refine sw_p 2 (f' := (11, [some (2, 0), some (0, a), some (0, r), some (0, c), o4, o5], [(2, 0), (0, c)])) rfl ?_
    refine sw_gI (pn := 14) (i := 12) rfl rfl rfl rfl rfl (by omega) hs.1 ?_
    rw [show (mo_cd ν 0) 0 12 = ν 0 12 from mo_cd_ne (by omega)]
    refine sw_ge2 (pt := 82) (pn := 17) rfl rfl rfl (by omega) (by omega) (fun h1 => ?_) (fun h1 => ?_)
    · skip
      refine sw_p 1 (f' := (83, [some (2, 0), some (0, a), some (0, r), some (0, c), o4, o5], [(0, r)])) rfl ?_
      exact sw_retI rfl rfl rfl ⟨rfl, rfl, rfl⟩
    · skip
      omega
  | succ n ih =>
    intro r c o4 o5 hc hk
    refine sw_p 2 (f' := (11, [some (2, 0), some (0, a), some (0, r), some (0, c), o4, o5], [(2, 0), (0, c)])) rfl ?_
    refine sw_gI (pn := 14) (i := 12) rfl rfl rfl rfl rfl (by omega) hs.1 ?_
    rw [show (mo_cd ν 0) 0 12 = ν 0 12 from mo_cd_ne (by omega)]
    refine sw_ge2 (pt := 82) (pn := 17) rfl rfl rfl (by omega) (by omega) (fun h1 => ?_) (fun h1 => ?_)
    · skip
      refine sw_p 1 (f' := (83, [some (2, 0), some (0, a), some (0, r), some (0, c), o4, o5], [(0, r)])) rfl ?_
      exact sw_retI rfl rfl rfl (absurd hk (by omega))
    · skip
      refine sw_p 2 (f' := (20, [some (2, 0), some (0, a), some (0, r), some (0, c), some (0, 0), o5], [])) rfl ?_
      exact mo_decode_i hs hB ha (by omega) (fun r => mo_do ν a n (c + 1) r) (fun r o5 => ih r (c + 1) _ o5 (by omega) (by omega)) 3 r 0 o5 (by omega) (by omega)
theorem mo_decode (hs : mo_sh s) (hB : mo_B ν) (ha : -2147483648 ≤ a ∧ a < 2147483648) : sw_w E (d + 1) 123 (0, [some (2, 0), some (0, a), none, none, none, none], []) s ν (sw_is (some (0, mo_do ν a (ν 0 12).toNat 0 (-1))) s (mo_cd ν 0)) := by
  have hn := hB.2.2.1
  refine sw_p 2 (f' := (2, [some (2, 0), some (0, a), none, none, none, none], [(0, 0), (2, 0)])) rfl ?_
  refine sw_pI (pn := 5) (i := 0) rfl rfl rfl rfl rfl (by omega) hs.1 ?_
  refine sw_p 4 (f' := (9, [some (2, 0), some (0, a), some (0, -1), some (0, 0), none, none], [])) rfl ?_
  exact mo_decode_o hs hB ha (ν 0 12).toNat (-1) 0 none none (by omega) (by omega)
end MO11
