/-! the reference: check -/
theorem sm_bn {g : Int → Int} {M : Int} : ∀ {n : Nat}, (∀ i : Int, 0 ≤ i → i < n → 0 ≤ g i ∧ g i ≤ M) → 0 ≤ sm_s g n ∧ sm_s g n ≤ M * n
  | 0, _ => by
    show (0 : Int) ≤ 0 ∧ (0 : Int) ≤ M * ((0 : Nat) : Int)
    rw [show ((0 : Nat) : Int) = 0 from rfl, Int.mul_zero]
    omega
  | n + 1, h => by
    have h1 := sm_bn (g := g) (M := M) (n := n) (fun i h1 h2 => h i h1 (by omega))
    have h2 := h n (by omega) (by omega)
    have h3 : sm_s g (n + 1) = sm_s g n + g n := rfl
    rw [h3, show ((n + 1 : Nat) : Int) = (n : Int) + 1 from rfl, Int.mul_add, Int.mul_one]
    omega
/-- is there power for the card c, from the bridge b up -/
def ck_p (ν : mm_T) (c : Int) : Nat → Int → Int → Int
  | 0, _, r => r
  | n + 1, b, r => if b < 0 then r else ck_p ν c n (ν 3 b) (if r ≠ 0 ∧ mo_pw ν b + ν 10 (ν 13 c) ≤ ν 4 b then 1 else 0)
/-- is there a card that can't pause -/
def ck_s (ν : mm_T) : Nat → Int → Int → Int
  | 0, _, r => r
  | n + 1, c, r => ck_s ν n (c + 1) (if r ≠ 0 ∨ ((1 ≤ ν 15 c ∧ ν 15 c ≤ 3) ∧ ν 11 (ν 13 c) = 0) then 1 else 0)
/-- the place of the coming card: in its bridge's opening, or in a greater one -/
def fg_r (ν : mm_T) (c : Int) : Option (Int × Int × (Int → Int)) := match ff_r ν c (ν 5 (ν 14 c)) (ν 6 (ν 14 c)) (fun _ => 0) with
  | some q => some (ν 5 (ν 14 c), ν 6 (ν 14 c), q)
  | none => gr_r ν c
def pl_f (ν : mm_T) (c x e : Int) (q : Int → Int) : mm_T := fun p i => if p = 17 then (if 3 * c ≤ i ∧ i < 3 * c + 3 then (if 0 < ν 9 (3 * ν 13 c + (i - 3 * c)) then q (i - 3 * c) else -1) else ν 17 i) else if p = 5 then (if i = ν 14 c then x else ν 5 i) else if p = 6 then (if i = ν 14 c then e else ν 6 i) else ν p i
/-- memories that are alike but for what is looked up anew before each use -/
def jk_r (ν ν' : mm_T) : Prop := fr_r [7, 18, 29, 30] ν ν'
theorem jk_u {ν ν' : mm_T} {p i z : Int} (h : jk_r ν ν') : jk_r (mm_u ν p i z) (mm_u ν' p i z) := fun q hq => by
  funext k
  unfold mm_u
  rw [h q hq]
theorem jk_rg {ν ν' : mm_T} {p lo hi : Int} {g : Int → Int} (h : jk_r ν ν') : jk_r (rg_m ν p lo hi g) (rg_m ν' p lo hi g) := fun q hq => by
  funext k
  unfold rg_m
  rw [h q hq]
theorem jk_rm {ν ν' : mm_T} {c y : Int} (h : jk_r ν ν') : jk_r (mo_rm ν c y) (mo_rm ν' c y) := by
  unfold mo_rm mo_rm3 mo_rm2 mo_rm1
  rw [h 0 (by decide), h 2 (by decide)]
  exact jk_u (jk_rg (jk_rg (jk_u (jk_u h))))
theorem jk_ch {ν ν' : mm_T} {x y : Int} (h : jk_r ν ν') : jk_r (mo_ch ν x y) (mo_ch ν' x y) := by
  unfold mo_ch
  rw [h 0 (by decide), h 15 (by decide)]
  exact jk_rg h
theorem jk_pl {ν ν' : mm_T} {c x e : Int} {q : Int → Int} {v : Option mg_V} (h : pl_P ν c (some (x, e, q)) v ν') : jk_r (pl_f ν c x e q) ν' := fun p hp => by
  obtain ⟨_, _, _, h1, h2, h3, h4⟩ := h
  funext i
  unfold pl_f
  by_cases e1 : p = 17
  · rw [if_pos e1, e1]; exact h2 i
  · rw [if_neg e1]
    by_cases e2 : p = 5
    · rw [if_pos e2, e2]; exact h3 i
    · rw [if_neg e2]
      by_cases e3 : p = 6
      · rw [if_pos e3, e3]; exact h4 i
      · rw [if_neg e3]
        exact congrFun (h1 p (fun hm => by
          simp only [List.mem_cons, List.not_mem_nil, or_false] at hm hp
          omega)) i
/-- what check makes of memory, but for what is looked up anew -/
def ck_f (ν : mm_T) : mm_T := if ck_p ν (ν 0 21) 8 (ν 14 (ν 0 21)) 1 = 0 then mo_rm (mm_u ν 16 (ν 0 21) 1) (ν 0 21) 5 else match fg_r ν (ν 0 21) with
  | some (x, e, q) => mm_u (mm_u (pl_f ν (ν 0 21) x e q) 15 (ν 0 21) 1) 0 21 (-1)
  | none => if ck_s ν (ν 0 12).toNat 0 0 ≠ 0 then mo_rm (mm_u ν 16 (ν 0 21) 2) (ν 0 21) 5 else if 4096 < mo_ld (mo_me (ν 0 1).toNat ν) 0 then mo_rm (mm_u ν 16 (ν 0 21) 3) (ν 0 21) 5 else mo_ch (mm_u ν 0 22 1) 1 2
theorem pl_P_fr {ν ν0 ν' : mm_T} {c : Int} {r : Option (Int × Int × (Int → Int))} {v : Option mg_V} (hf : fr_r [29, 18, 30] ν ν0) (h : pl_P ν0 c r v ν') : pl_P ν c r v ν' := by
  rcases r with _ | ⟨x, e, q⟩
  · obtain ⟨h1, h2, h3, h4⟩ := h
    exact ⟨h1, h2, h3, fr_tr hf h4 (by decide) (by decide)⟩
  · obtain ⟨h1, h2, g1, g2, g3, g4, g5⟩ := h
    rw [hf 5 (by decide)] at g4
    rw [hf 6 (by decide)] at g5
    rw [hf 14 (by decide)] at g4 g5
    rw [hf 17 (by decide), hf 9 (by decide), hf 13 (by decide)] at g3
    exact ⟨h1, h2, g1, fr_tr hf g2 (by decide) (by decide), g3, g4, g5⟩
theorem ft_up {ν ν' : mm_T} {c x e : Int} {q : Int → Int} {v : Option mg_V} (h30 : mo_b1 ν 30) (h : ft_P ν c x e (some q) v ν') : pl_P ν c (some (x, e, q)) v ν' := by
  obtain ⟨h1, g1, g2, g3, g4, g5⟩ := h
  exact ⟨h1, by unfold mo_b1; rw [g2 30 (by decide)]; exact h30, g1, fr_w g2 (by decide), g3, g4, g5⟩
theorem mo_ldu_c {ν ν' : mm_T} (h7 : ν' 7 = ν 7) (h9 : ν' 9 = ν 9) (h13 : ν' 13 = ν 13) {u : Int} : mo_ldu ν' u = mo_ldu ν u := by
  unfold mo_ldu
  rw [h7, h9, h13]
theorem mo_lds_c {ν ν' : mm_T} (h2 : ν' 2 = ν 2) (h7 : ν' 7 = ν 7) (h9 : ν' 9 = ν 9) (h13 : ν' 13 = ν 13) : ∀ (n : Nat) (i : Int), mo_lds ν' n i = mo_lds ν n i
  | 0, _ => rfl
  | n + 1, i => by
    unfold mo_lds
    rw [h2, mo_ldu_c h7 h9 h13, mo_lds_c h2 h7 h9 h13 n]
theorem mo_ld_c {ν ν' : mm_T} (h2 : ν' 2 = ν 2) (h7 : ν' 7 = ν 7) (h9 : ν' 9 = ν 9) (h13 : ν' 13 = ν 13) {b : Int} : mo_ld ν' b = mo_ld ν b := mo_lds_c h2 h7 h9 h13 _ _
theorem me_7 : ∀ (n : Nat) {ν ν' : mm_T}, ν' 2 = ν 2 → ν' 7 = ν 7 → ν' 9 = ν 9 → ν' 13 = ν 13 → mo_me n ν' 7 = mo_me n ν 7
  | 0, _, _, _, h7, _, _ => h7
  | n + 1, ν, ν', h2, h7, h9, h13 => by
    unfold mo_me
    rw [mo_ld_c h2 h7 h9 h13]
    refine me_7 n ?_ ?_ ?_ ?_
    · rw [fr_u (ps := [7]) (by decide) 2 (by decide), fr_u (ps := [7]) (by decide) 2 (by decide)]; exact h2
    · funext i; unfold mm_u; rw [h7]
    · rw [fr_u (ps := [7]) (by decide) 9 (by decide), fr_u (ps := [7]) (by decide) 9 (by decide)]; exact h9
    · rw [fr_u (ps := [7]) (by decide) 13 (by decide), fr_u (ps := [7]) (by decide) 13 (by decide)]; exact h13
theorem me_ld {ν ν' : mm_T} {n : Nat} (h2 : ν' 2 = ν 2) (h7 : ν' 7 = ν 7) (h9 : ν' 9 = ν 9) (h13 : ν' 13 = ν 13) {b : Int} : mo_ld (mo_me n ν') b = mo_ld (mo_me n ν) b := mo_ld_c (by rw [me_fr n ν' 2 (by decide), me_fr n ν 2 (by decide)]; exact h2) (me_7 n h2 h7 h9 h13) (by rw [me_fr n ν' 9 (by decide), me_fr n ν 9 (by decide)]; exact h9) (by rw [me_fr n ν' 13 (by decide), me_fr n ν 13 (by decide)]; exact h13)
section CK
variable {E : mv_E} {s ν : mm_T} {d : Nat} {b c x y e k z p i t l m a u r w : Int} {f : Int → Int} {o2 o3 : Option mg_V} {Q : nm_O → mm_T → mm_T → Prop}
theorem ck_p_01 : ∀ (n : Nat) (b r : Int), r = 0 ∨ r = 1 → ck_p ν c n b r = 0 ∨ ck_p ν c n b r = 1
  | 0, _, _, h => h
  | n + 1, b, r, h => by
    unfold ck_p
    split
    · exact h
    · exact ck_p_01 n _ _ (by split <;> omega)
theorem ck_s_01 : ∀ (n : Nat) (b r : Int), r = 0 ∨ r = 1 → ck_s ν n b r = 0 ∨ ck_s ν n b r = 1
  | 0, _, _, h => h
  | n + 1, b, r, h => by
    unfold ck_s
    exact ck_s_01 n _ _ (by split <;> omega)
theorem mo_pw_b (hB : mo_B ν) : 0 ≤ mo_pw ν b ∧ mo_pw ν b ≤ 40000 := by
  have h12 := hB.2.2.1
  have h := sm_bn (g := mo_pwc ν b) (M := 1000) (n := (ν 0 12).toNat) (fun i h1 h2 => by
    have hcd := hB.cd i h1 (by omega)
    have hp := hB.pw (ν 13 i) (by omega) (by omega)
    unfold mo_pwc
    split
    · omega
    · split <;> omega)
  unfold mo_pw
  omega
theorem ck_wp (hs : mo_sh s) (hB : mo_B ν) (hc0 : ν 0 21 = c) (hc : 0 ≤ c ∧ c < 40) : ∀ (n : Nat) (b r : Int), -1 ≤ b → b < n → n ≤ 8 → r = 0 ∨ r = 1 → (∀ o2, sw_w E (d + 2) 92 (65, [some (2, 0), some (0, ck_p ν c n b r), o2, o3], []) s ν Q) → sw_w E (d + 2) 92 (12, [some (2, 0), some (0, r), some (0, b), o3], []) s ν Q := by
  intro n
  induction n with
  | zero =>
    intro b r hb hn h8 hr kk
    refine sw_p 1 (f' := (13, [some (2, 0), some (0, r), some (0, b), o3], [(0, b)])) rfl ?_
    refine sw_lt1 (pt := 65) (pn := 16) rfl rfl rfl (by omega) (fun h1 => ?_) (fun h => absurd h (by omega))
    exact kk _
  | succ n ih =>
    intro b r hb hn h8 hr kk
    have hcd := hB.cd c hc.1 hc.2
    have hpw := hB.pw (ν 13 c) (by omega) (by omega)
    have hpb := mo_pw_b (b := b) hB
    by_cases hb0 : b < 0
    · rw [show ck_p ν c (n + 1) b r = r from if_pos hb0] at kk
      refine sw_p 1 (f' := (13, [some (2, 0), some (0, r), some (0, b), o3], [(0, b)])) rfl ?_
      refine sw_lt1 (pt := 65) (pn := 16) rfl rfl rfl (by omega) (fun h1 => ?_) (fun h => absurd h (by omega))
      exact kk _
    · have hov := hB.ov b (by omega) (by omega)
      have hlm := hB.2.2.2.2.2.2.2.2.1 b (by omega) (by omega)
      rw [show ck_p ν c (n + 1) b r = ck_p ν c n (ν 3 b) (if r ≠ 0 ∧ mo_pw ν b + ν 10 (ν 13 c) ≤ ν 4 b then 1 else 0) from if_neg hb0] at kk
      refine sw_p 1 (f' := (13, [some (2, 0), some (0, r), some (0, b), o3], [(0, b)])) rfl ?_
      refine sw_lt1 (pt := 65) (pn := 16) rfl rfl rfl (by omega) (fun h => absurd h (by omega)) (fun h1 => ?_)
      refine sw_p 1 (f' := (17, [some (2, 0), some (0, r), some (0, b), o3], [(0, r)])) rfl ?_
      refine sw_eq1 (pt := 53) (pn := 20) rfl rfl rfl (by omega) (fun h2 => ?_) (fun h2 => ?_)
      · skip
        refine sw_p 3 (f' := (56, [some (2, 0), some (0, 0), some (0, b), o3], [(2, 0)])) rfl ?_
        refine sw_hA (pn := 59) (i := 3) (v := 3) rfl rfl rfl rfl rfl hs.1 (mo_s3 hs).1 (by omega) ?_
        refine sw_p 1 (f' := (60, [some (2, 0), some (0, 0), some (0, b), o3], [(0, b), (2, 3)])) rfl ?_
        refine sw_ial (pn := 61) (l := 8) rfl rfl (by omega) (mo_s3 hs).2.1 (mo_s3 hs).2.2 (by omega) (by omega) ?_
        refine sw_p 2 (f' := (12, [some (2, 0), some (0, 0), some (0, ν 3 b), o3], [])) rfl ?_
        rw [if_neg (by omega)] at kk
        exact ih (ν 3 b) 0 (by omega) (by omega) (by omega) (by omega) kk
      · skip
        refine sw_p 2 (f' := (22, [some (2, 0), some (0, r), some (0, b), o3], [(0, b), (2, 0)])) rfl ?_
        refine sw_cv1 (pn := 25) (q0 := mj_Mo_check) (q := mj_Mo_powerOf) (p := 0) (as2 := [(0, b)]) (L2 := [some (2, 0), some (0, b), none, none]) (rest := []) (v := some (0, mo_pw ν b)) (s1 := s) (ν1 := ν) rfl rfl rfl rfl rfl rfl rfl rfl rfl hs.1 (mo_powerOf hs hB (by omega)) ?_
        show sw_w E _ 92 (25, [some (2, 0), some (0, r), some (0, b), o3], [(0, mo_pw ν b)]) s ν _
        refine sw_p 1 (f' := (26, [some (2, 0), some (0, r), some (0, b), o3], [(2, 0), (0, mo_pw ν b)])) rfl ?_
        refine sw_hA (pn := 29) (i := 10) (v := 10) rfl rfl rfl rfl rfl hs.1 (mo_s10 hs).1 (by omega) ?_
        refine sw_p 1 (f' := (30, [some (2, 0), some (0, r), some (0, b), o3], [(2, 0), (2, 10), (0, mo_pw ν b)])) rfl ?_
        refine sw_hA (pn := 33) (i := 13) (v := 13) rfl rfl rfl rfl rfl hs.1 (mo_s13 hs).1 (by omega) ?_
        refine sw_p 1 (f' := (34, [some (2, 0), some (0, r), some (0, b), o3], [(2, 0), (2, 13), (2, 10), (0, mo_pw ν b)])) rfl ?_
        refine sw_gI (pn := 37) (i := 21) rfl rfl rfl rfl rfl (by omega) hs.1 ?_
        rw [show ν 0 21 = c from hc0]
        refine sw_ial (pn := 38) (l := 40) rfl rfl (by omega) (mo_s13 hs).2.1 (mo_s13 hs).2.2 (by omega) (by omega) ?_
        refine sw_ial (pn := 39) (l := 16) rfl rfl (by omega) (mo_s10 hs).2.1 (mo_s10 hs).2.2 (by omega) (by omega) ?_
        refine sw_p 2 (f' := (41, [some (2, 0), some (0, r), some (0, b), o3], [(2, 0), (0, (mo_pw ν b) + (ν 10 (ν 13 c)))])) rfl ?_
        refine sw_hA (pn := 44) (i := 4) (v := 4) rfl rfl rfl rfl rfl hs.1 (mo_s4 hs).1 (by omega) ?_
        refine sw_p 1 (f' := (45, [some (2, 0), some (0, r), some (0, b), o3], [(0, b), (2, 4), (0, (mo_pw ν b) + (ν 10 (ν 13 c)))])) rfl ?_
        refine sw_ial (pn := 46) (l := 8) rfl rfl (by omega) (mo_s4 hs).2.1 (mo_s4 hs).2.2 (by omega) (by omega) ?_
        refine sw_gt2 (pt := 53) (pn := 49) rfl rfl rfl (by omega) (by omega) (fun h3 => ?_) (fun h3 => ?_)
        · skip
          refine sw_p 3 (f' := (56, [some (2, 0), some (0, 0), some (0, b), o3], [(2, 0)])) rfl ?_
          refine sw_hA (pn := 59) (i := 3) (v := 3) rfl rfl rfl rfl rfl hs.1 (mo_s3 hs).1 (by omega) ?_
          refine sw_p 1 (f' := (60, [some (2, 0), some (0, 0), some (0, b), o3], [(0, b), (2, 3)])) rfl ?_
          refine sw_ial (pn := 61) (l := 8) rfl rfl (by omega) (mo_s3 hs).2.1 (mo_s3 hs).2.2 (by omega) (by omega) ?_
          refine sw_p 2 (f' := (12, [some (2, 0), some (0, 0), some (0, ν 3 b), o3], [])) rfl ?_
          rw [if_neg (by omega)] at kk
          exact ih (ν 3 b) 0 (by omega) (by omega) (by omega) (by omega) kk
        · skip
          refine sw_p 4 (f' := (56, [some (2, 0), some (0, 1), some (0, b), o3], [(2, 0)])) rfl ?_
          refine sw_hA (pn := 59) (i := 3) (v := 3) rfl rfl rfl rfl rfl hs.1 (mo_s3 hs).1 (by omega) ?_
          refine sw_p 1 (f' := (60, [some (2, 0), some (0, 1), some (0, b), o3], [(0, b), (2, 3)])) rfl ?_
          refine sw_ial (pn := 61) (l := 8) rfl rfl (by omega) (mo_s3 hs).2.1 (mo_s3 hs).2.2 (by omega) (by omega) ?_
          refine sw_p 2 (f' := (12, [some (2, 0), some (0, 1), some (0, ν 3 b), o3], [])) rfl ?_
          rw [if_pos (by omega)] at kk
          exact ih (ν 3 b) 1 (by omega) (by omega) (by omega) (by omega) kk
theorem ck_ws (hs : mo_sh s) (hB : mo_B ν) (h11 : ∀ t, 0 ≤ t → t < 16 → ν 11 t = 0 ∨ ν 11 t = 1) : ∀ (n : Nat) (i r : Int), 0 ≤ i → i + n = ν 0 12 → r = 0 ∨ r = 1 → (∀ o3, sw_w E (d + 1) 92 (115, [some (2, 0), some (0, w), some (0, ck_s ν n i r), o3], []) s ν Q) → sw_w E (d + 1) 92 (69, [some (2, 0), some (0, w), some (0, r), some (0, i)], []) s ν Q := by
  intro n
  induction n with
  | zero =>
    intro i r hi hn hr kk
    have h12 := hB.2.2.1
    refine sw_p 2 (f' := (71, [some (2, 0), some (0, w), some (0, r), some (0, i)], [(2, 0), (0, i)])) rfl ?_
    refine sw_gI (pn := 74) (i := 12) rfl rfl rfl rfl rfl (by omega) hs.1 ?_
    refine sw_ge2 (pt := 115) (pn := 77) rfl rfl rfl (by omega) (by omega) (fun h1 => ?_) (fun h => absurd h (by omega))
    exact kk _
  | succ n ih =>
    intro i r hi hn hr kk
    have h12 := hB.2.2.1
    have hcd := hB.cd i hi (by omega)
    have hb := h11 (ν 13 i) (by omega) (by omega)
    unfold ck_s at kk
    by_cases hth : 1 ≤ ν 15 i ∧ ν 15 i ≤ 3
    · skip
      refine sw_p 2 (f' := (71, [some (2, 0), some (0, w), some (0, r), some (0, i)], [(2, 0), (0, i)])) rfl ?_
      refine sw_gI (pn := 74) (i := 12) rfl rfl rfl rfl rfl (by omega) hs.1 ?_
      refine sw_ge2 (pt := 115) (pn := 77) rfl rfl rfl (by omega) (by omega) (fun h => absurd h (by omega)) (fun h1 => ?_)
      refine sw_p 1 (f' := (78, [some (2, 0), some (0, w), some (0, r), some (0, i)], [(0, r)])) rfl ?_
      refine sw_ne1 (pt := 103) (pn := 81) rfl rfl rfl (by omega) (fun h2 => ?_) (fun h2 => ?_)
      · skip
        refine sw_p 5 (f' := (69, [some (2, 0), some (0, w), some (0, 1), some (0, i + 1)], [])) rfl ?_
        rw [if_pos (by omega)] at kk
        exact ih (i + 1) 1 (by omega) (by omega) (by omega) kk
      · skip
        refine sw_p 2 (f' := (83, [some (2, 0), some (0, w), some (0, r), some (0, i)], [(0, i), (2, 0)])) rfl ?_
        refine sw_cv1 (pn := 86) (q0 := mj_Mo_check) (q := mj_Mo_isThere) (p := 0) (as2 := [(0, i)]) (L2 := [some (2, 0), some (0, i)]) (rest := []) (v := some (0, 1)) (s1 := s) (ν1 := ν) rfl rfl rfl rfl rfl rfl rfl rfl rfl hs.1 (by have h := mo_isThere (E := E) (d := d) (s := s) (ν := ν) (c := i) hs (by omega) (by omega); rw [if_pos hth] at h; exact h) ?_
        show sw_w E _ 92 (86, [some (2, 0), some (0, w), some (0, r), some (0, i)], [(0, 1)]) s ν _
        refine sw_eq1 (pt := 107) (pn := 89) rfl rfl rfl (by omega) (fun h => absurd h (by decide)) (fun _ => ?_)
        refine sw_p 1 (f' := (90, [some (2, 0), some (0, w), some (0, r), some (0, i)], [(2, 0)])) rfl ?_
        refine sw_hA (pn := 93) (i := 11) (v := 11) rfl rfl rfl rfl rfl hs.1 (mo_s11 hs).1 (by omega) ?_
        refine sw_p 1 (f' := (94, [some (2, 0), some (0, w), some (0, r), some (0, i)], [(2, 0), (2, 11)])) rfl ?_
        refine sw_hA (pn := 97) (i := 13) (v := 13) rfl rfl rfl rfl rfl hs.1 (mo_s13 hs).1 (by omega) ?_
        refine sw_p 1 (f' := (98, [some (2, 0), some (0, w), some (0, r), some (0, i)], [(0, i), (2, 13), (2, 11)])) rfl ?_
        refine sw_ial (pn := 99) (l := 40) rfl rfl (by omega) (mo_s13 hs).2.1 (mo_s13 hs).2.2 (by omega) (by omega) ?_
        refine sw_bal (pn := 100) (l := 16) rfl rfl (by omega) (mo_s11 hs).2.1 (mo_s11 hs).2.2 (by omega) (by omega) ?_
        refine sw_ne1 (pt := 107) (pn := 103) rfl rfl rfl (by omega) (fun h4 => ?_) (fun h4 => ?_)
        · skip
          refine sw_p 4 (f' := (69, [some (2, 0), some (0, w), some (0, 0), some (0, i + 1)], [])) rfl ?_
          rw [if_neg (by omega)] at kk
          exact ih (i + 1) 0 (by omega) (by omega) (by omega) kk
        · skip
          refine sw_p 5 (f' := (69, [some (2, 0), some (0, w), some (0, 1), some (0, i + 1)], [])) rfl ?_
          rw [if_pos (by omega)] at kk
          exact ih (i + 1) 1 (by omega) (by omega) (by omega) kk
    · skip
      refine sw_p 2 (f' := (71, [some (2, 0), some (0, w), some (0, r), some (0, i)], [(2, 0), (0, i)])) rfl ?_
      refine sw_gI (pn := 74) (i := 12) rfl rfl rfl rfl rfl (by omega) hs.1 ?_
      refine sw_ge2 (pt := 115) (pn := 77) rfl rfl rfl (by omega) (by omega) (fun h => absurd h (by omega)) (fun h1 => ?_)
      refine sw_p 1 (f' := (78, [some (2, 0), some (0, w), some (0, r), some (0, i)], [(0, r)])) rfl ?_
      refine sw_ne1 (pt := 103) (pn := 81) rfl rfl rfl (by omega) (fun h2 => ?_) (fun h2 => ?_)
      · skip
        refine sw_p 5 (f' := (69, [some (2, 0), some (0, w), some (0, 1), some (0, i + 1)], [])) rfl ?_
        rw [if_pos (by omega)] at kk
        exact ih (i + 1) 1 (by omega) (by omega) (by omega) kk
      · skip
        refine sw_p 2 (f' := (83, [some (2, 0), some (0, w), some (0, r), some (0, i)], [(0, i), (2, 0)])) rfl ?_
        refine sw_cv1 (pn := 86) (q0 := mj_Mo_check) (q := mj_Mo_isThere) (p := 0) (as2 := [(0, i)]) (L2 := [some (2, 0), some (0, i)]) (rest := []) (v := some (0, 0)) (s1 := s) (ν1 := ν) rfl rfl rfl rfl rfl rfl rfl rfl rfl hs.1 (by have h := mo_isThere (E := E) (d := d) (s := s) (ν := ν) (c := i) hs (by omega) (by omega); rw [if_neg hth] at h; exact h) ?_
        show sw_w E _ 92 (86, [some (2, 0), some (0, w), some (0, r), some (0, i)], [(0, 0)]) s ν _
        refine sw_eq1 (pt := 107) (pn := 89) rfl rfl rfl (by omega) (fun _ => ?_) (fun h => absurd h (by decide))
        refine sw_p 4 (f' := (69, [some (2, 0), some (0, w), some (0, 0), some (0, i + 1)], [])) rfl ?_
        rw [if_neg (by omega)] at kk
        exact ih (i + 1) 0 (by omega) (by omega) (by omega) kk
/-- the ends of check -/
def ck_P (ν : mm_T) (v : Option mg_V) (ν' : mm_T) : Prop := v = none ∧ jk_r (ck_f ν) ν' ∧ mo_b1 ν' 29 ∧ mo_b1 ν' 30
theorem mo_check (hs : mo_sh s) (hB : mo_B ν) (hC : mo_C ν) (hT : tr_I ν f) (hp2 : mo_p2s ν) (h29 : mo_b1 ν 29) (h30 : mo_b1 ν 30) (h11 : ∀ t, 0 ≤ t → t < 16 → ν 11 t = 0 ∨ ν 11 t = 1) (hc0 : ν 0 21 = c) (hc : 0 ≤ c ∧ c < 40) (hin : 0 ≤ ν 3 (ν 14 c) → ν 5 (ν 14 c) < ν 6 (ν 14 c) → ν 5 (ν 3 (ν 14 c)) ≤ ν 6 (ν 14 c)) : sw_w E (d + 5) 92 (0, [some (2, 0), none, none, none], []) s ν (sw_vr (ck_P ν) s) := by
  have hcd := hB.cd c hc.1 hc.2
  have h12 := hB.2.2.1
  have h8 := hB.1
  have hob := hC.2.1 (ν 14 c) (by omega) (by omega)
  have hp01 := ck_p_01 (ν := ν) (c := c) 8 (ν 14 c) 1 (Or.inr rfl)
  have hs01 := ck_s_01 (ν := ν) (ν 0 12).toNat 0 0 (Or.inl rfl)
  have hb1r : ∀ (μ : mm_T) (y p : Int), p = 29 ∨ p = 30 → mo_b1 μ p → mo_b1 (mo_rm (mm_u μ 16 c y) c 5) p := fun μ y p hp h a h1 h2 => by
    unfold mo_rm mo_rm3 mo_rm2 mo_rm1
    rw [mm_u_ne (by omega), rg_ne (by omega), rg_ne (by omega), mm_u_ne (by omega), mm_u_ne (by omega), mm_u_ne (by omega)]
    exact h a h1 h2
  have K : ∀ o3 : Option mg_V, sw_w E (d + 5) 92 (115, [some (2, 0), some (0, ck_p ν c 8 (ν 14 c) 1), some (0, ck_s ν (ν 0 12).toNat 0 0), o3], []) s ν (sw_vr (ck_P ν) s) := by
    intro o3
    by_cases hp : ck_p ν c 8 (ν 14 c) 1 = 0
    · have ef : ck_f ν = mo_rm (mm_u ν 16 c 1) c 5 := by unfold ck_f; rw [hc0, if_pos hp]
      refine sw_p 1 (f' := (116, [some (2, 0), some (0, ck_p ν c 8 (ν 14 c) 1), some (0, ck_s ν (ν 0 12).toNat 0 0), o3], [(2, 0)])) rfl ?_
      refine sw_hA (pn := 119) (i := 14) (v := 14) rfl rfl rfl rfl rfl hs.1 (mo_s14 hs).1 (by omega) ?_
      refine sw_p 1 (f' := (120, [some (2, 0), some (0, ck_p ν c 8 (ν 14 c) 1), some (0, ck_s ν (ν 0 12).toNat 0 0), o3], [(2, 0), (2, 14)])) rfl ?_
      refine sw_gI (pn := 123) (i := 21) rfl rfl rfl rfl rfl (by omega) hs.1 ?_
      rw [show ν 0 21 = c from hc0]
      refine sw_ial (pn := 124) (l := 40) rfl rfl (by omega) (mo_s14 hs).2.1 (mo_s14 hs).2.2 (by omega) (by omega) ?_
      refine sw_p 2 (f' := (126, [some (2, 0), some (0, ck_p ν c 8 (ν 14 c) 1), some (0, ck_s ν (ν 0 12).toNat 0 0), some (0, ν 14 c)], [(0, ck_p ν c 8 (ν 14 c) 1)])) rfl ?_
      refine sw_ne1 (pt := 137) (pn := 129) rfl rfl rfl (by omega) (fun h => absurd h (by omega)) (fun h1 => ?_)
      refine sw_p 2 (f' := (131, [some (2, 0), some (0, ck_p ν c 8 (ν 14 c) 1), some (0, ck_s ν (ν 0 12).toNat 0 0), some (0, ν 14 c)], [(0, 1), (2, 0)])) rfl ?_
      refine sw_cv1 (pn := 134) (q0 := mj_Mo_check) (q := mj_Mo_refuse) (p := 0) (as2 := [(0, 1)]) (L2 := [some (2, 0), some (0, 1)]) (rest := []) (v := none) (s1 := s) (ν1 := (mo_rm (mm_u ν 16 c 1) c 5)) rfl rfl rfl rfl rfl rfl rfl rfl rfl hs.1 (by have h := mo_refuse (E := E) (d := d + 3) (s := s) (ν := ν) (y := 1) hs hB (mo_Bu_o hB (by omega)) (by rw [hc0]; omega); rw [hc0] at h; exact h) ?_
      show sw_w E _ 92 (134, [some (2, 0), some (0, ck_p ν c 8 (ν 14 c) 1), some (0, ck_s ν (ν 0 12).toNat 0 0), some (0, ν 14 c)], []) s (mo_rm (mm_u ν 16 c 1) c 5) _
      refine sw_p 1 (f' := (227, [some (2, 0), some (0, ck_p ν c 8 (ν 14 c) 1), some (0, ck_s ν (ν 0 12).toNat 0 0), some (0, ν 14 c)], [])) rfl ?_
      exact sw_retV rfl rfl rfl ⟨_, rfl, rfl, rfl, by rw [ef]; exact fr_rfl, hb1r _ _ _ (Or.inl rfl) h29, hb1r _ _ _ (Or.inr rfl) h30⟩
    · skip
      refine sw_p 1 (f' := (116, [some (2, 0), some (0, ck_p ν c 8 (ν 14 c) 1), some (0, ck_s ν (ν 0 12).toNat 0 0), o3], [(2, 0)])) rfl ?_
      refine sw_hA (pn := 119) (i := 14) (v := 14) rfl rfl rfl rfl rfl hs.1 (mo_s14 hs).1 (by omega) ?_
      refine sw_p 1 (f' := (120, [some (2, 0), some (0, ck_p ν c 8 (ν 14 c) 1), some (0, ck_s ν (ν 0 12).toNat 0 0), o3], [(2, 0), (2, 14)])) rfl ?_
      refine sw_gI (pn := 123) (i := 21) rfl rfl rfl rfl rfl (by omega) hs.1 ?_
      rw [show ν 0 21 = c from hc0]
      refine sw_ial (pn := 124) (l := 40) rfl rfl (by omega) (mo_s14 hs).2.1 (mo_s14 hs).2.2 (by omega) (by omega) ?_
      refine sw_p 2 (f' := (126, [some (2, 0), some (0, ck_p ν c 8 (ν 14 c) 1), some (0, ck_s ν (ν 0 12).toNat 0 0), some (0, ν 14 c)], [(0, ck_p ν c 8 (ν 14 c) 1)])) rfl ?_
      refine sw_ne1 (pt := 137) (pn := 129) rfl rfl rfl (by omega) (fun m1 => ?_) (fun h => absurd h (by omega))
      refine sw_p 2 (f' := (139, [some (2, 0), some (0, ck_p ν c 8 (ν 14 c) 1), some (0, ck_s ν (ν 0 12).toNat 0 0), some (0, ν 14 c)], [(2, 0), (2, 0)])) rfl ?_
      refine sw_hA (pn := 142) (i := 5) (v := 5) rfl rfl rfl rfl rfl hs.1 (mo_s5 hs).1 (by omega) ?_
      refine sw_p 1 (f' := (143, [some (2, 0), some (0, ck_p ν c 8 (ν 14 c) 1), some (0, ck_s ν (ν 0 12).toNat 0 0), some (0, ν 14 c)], [(0, ν 14 c), (2, 5), (2, 0)])) rfl ?_
      refine sw_ial (pn := 144) (l := 8) rfl rfl (by omega) (mo_s5 hs).2.1 (mo_s5 hs).2.2 (by omega) (by omega) ?_
      refine sw_p 1 (f' := (145, [some (2, 0), some (0, ck_p ν c 8 (ν 14 c) 1), some (0, ck_s ν (ν 0 12).toNat 0 0), some (0, ν 14 c)], [(2, 0), (0, ν 5 (ν 14 c)), (2, 0)])) rfl ?_
      refine sw_hA (pn := 148) (i := 6) (v := 6) rfl rfl rfl rfl rfl hs.1 (mo_s6 hs).1 (by omega) ?_
      refine sw_p 1 (f' := (149, [some (2, 0), some (0, ck_p ν c 8 (ν 14 c) 1), some (0, ck_s ν (ν 0 12).toNat 0 0), some (0, ν 14 c)], [(0, ν 14 c), (2, 6), (0, ν 5 (ν 14 c)), (2, 0)])) rfl ?_
      refine sw_ial (pn := 150) (l := 8) rfl rfl (by omega) (mo_s6 hs).2.1 (mo_s6 hs).2.2 (by omega) (by omega) ?_
      refine sw_cv2 (pn := 153) (q0 := mj_Mo_check) (q := mj_Mo_fits) (p := 0) (as2 := [(0, ν 5 (ν 14 c)), (0, ν 6 (ν 14 c))]) (L2 := [some (2, 0), some (0, ν 5 (ν 14 c)), some (0, ν 6 (ν 14 c)), none, none, none, none]) (rest := []) (s1 := s) rfl rfl rfl rfl rfl rfl rfl rfl rfl hs.1 (mo_fits (d := d + 2) hs hB hC h29 hc0 hc (by omega) (by omega)) (fun v ν1 hv => ?_)
      have hv := ft_P_q (q' := fun _ => 0) hB hc hp2 hv
      rcases hfr : ff_r ν c (ν 5 (ν 14 c)) (ν 6 (ν 14 c)) (fun _ => 0) with _ | q
      · skip
        rw [hfr] at hv
        obtain ⟨hb29, rfl, hf⟩ := hv
        have hf30 := hf 30 (by decide)
        have hf : fr_r [29, 18, 30] ν ν1 := fr_w hf (by decide)
        have hB1 : mo_B ν1 := mo_B_fr (fr_w hf (by decide)) hB
        have hC1 : mo_C ν1 := mo_C_fr (hf 2 (by decide)) (hf 5 (by decide)) (hf 6 (by decide)) (hf 9 (by decide)) (hf 13 (by decide)) (hf 17 (by decide)) hC
        have hp1 : mo_p2s ν1 := by unfold mo_p2s; rw [hf 9 (by decide)]; exact hp2
        have hc1 : ν1 0 21 = c := (congrFun (hf 0 (by decide)) _).trans hc0
        have hin1 : 0 ≤ ν1 3 (ν1 14 c) → ν1 5 (ν1 14 c) < ν1 6 (ν1 14 c) → ν1 5 (ν1 3 (ν1 14 c)) ≤ ν1 6 (ν1 14 c) := by rw [hf 3 (by decide), hf 5 (by decide), hf 6 (by decide), hf 14 (by decide)]; exact hin
        have hb30 : mo_b1 ν1 30 := by unfold mo_b1; rw [hf30]; exact h30
        show sw_w E _ 92 (153, [some (2, 0), some (0, ck_p ν c 8 (ν 14 c) 1), some (0, ck_s ν (ν 0 12).toNat 0 0), some (0, ν 14 c)], [(0, 0)]) s ν1 _
        refine sw_ne1 (pt := 163) (pn := 156) rfl rfl rfl (by omega) (fun h => absurd h (by decide)) (fun _ => ?_)
        refine sw_p 1 (f' := (157, [some (2, 0), some (0, ck_p ν c 8 (ν 14 c) 1), some (0, ck_s ν (ν 0 12).toNat 0 0), some (0, ν 14 c)], [(2, 0)])) rfl ?_
        refine sw_cv2 (pn := 160) (q0 := mj_Mo_check) (q := mj_Mo_grows) (p := 0) (as2 := []) (L2 := [some (2, 0), none, none, none]) (rest := []) (s1 := s) rfl rfl rfl rfl rfl rfl rfl rfl rfl hs.1 (mo_grows (d := d) hs hB1 hC1 hp1 hc1 hc hb29 hb30 hin1) (fun v ν2 hv => ?_)
        have hv := pl_P_fr hf hv
        rw [gr_r_fr (hf 2 (by decide)) (hf 3 (by decide)) (hf 5 (by decide)) (hf 6 (by decide)) (hf 9 (by decide)) (hf 13 (by decide)) (hf 14 (by decide)) (hf 17 (by decide))] at hv
        rcases hgr : gr_r ν c with _ | ⟨x1, e1, q1⟩
        · skip
          rw [hgr] at hv
          obtain ⟨hb2, hb3, rfl, hf2⟩ := hv
          have hB2 : mo_B ν2 := mo_B_fr (fr_w hf2 (by decide)) hB
          have hC2 : mo_C ν2 := mo_C_fr (hf2 2 (by decide)) (hf2 5 (by decide)) (hf2 6 (by decide)) (hf2 9 (by decide)) (hf2 13 (by decide)) (hf2 17 (by decide)) hC
          have hT2 : tr_I ν2 f := tr_fr (congrFun (hf2 0 (by decide)) _) (hf2 2 (by decide)) (hf2 3 (by decide)) hT
          have hc2 : ν2 0 21 = c := (congrFun (hf2 0 (by decide)) _).trans hc0
          have hj : jk_r ν ν2 := fr_w hf2 (by decide)
          have ef : ck_f ν = if ck_s ν (ν 0 12).toNat 0 0 ≠ 0 then mo_rm (mm_u ν 16 c 2) c 5 else if 4096 < mo_ld (mo_me (ν 0 1).toNat ν) 0 then mo_rm (mm_u ν 16 c 3) c 5 else mo_ch (mm_u ν 0 22 1) 1 2 := by unfold ck_f fg_r; rw [hc0, if_neg hp, hfr, hgr]
          show sw_w E _ 92 (160, [some (2, 0), some (0, ck_p ν c 8 (ν 14 c) 1), some (0, ck_s ν (ν 0 12).toNat 0 0), some (0, ν 14 c)], [(0, 0)]) s ν2 _
          refine sw_eq1 (pt := 181) (pn := 163) rfl rfl rfl (by omega) (fun _ => ?_) (fun h => absurd h (by decide))
          refine sw_p 1 (f' := (182, [some (2, 0), some (0, ck_p ν c 8 (ν 14 c) 1), some (0, ck_s ν (ν 0 12).toNat 0 0), some (0, ν 14 c)], [(0, ck_s ν (ν 0 12).toNat 0 0)])) rfl ?_
          refine sw_eq1 (pt := 193) (pn := 185) rfl rfl rfl (by omega) (fun m4 => ?_) (fun m4 => ?_)
          · skip
            have hme := mo_measure (E := E) (d := d + 2) hs hB2 hC2 hT2
            have hfm := me_fr (ν2 0 1).toNat ν2
            have eld : mo_ld (mo_me (ν2 0 1).toNat ν2) 0 = mo_ld (mo_me (ν 0 1).toNat ν) 0 := by rw [hf2 0 (by decide)]; exact me_ld (hf2 2 (by decide)) (hf2 7 (by decide)) (hf2 9 (by decide)) (hf2 13 (by decide))
            have hbdl := ld_b (b := 0) (mo_B_fr (fr_w hfm (by decide)) hB2) (mo_C_fr (hfm 2 (by decide)) (hfm 5 (by decide)) (hfm 6 (by decide)) (hfm 9 (by decide)) (hfm 13 (by decide)) (hfm 17 (by decide)) hC2) (tr_fr (congrFun (hfm 0 (by decide)) 1) (hfm 2 (by decide)) (hfm 3 (by decide)) hT2) (by rw [hfm 0 (by decide), hf2 0 (by decide)]; omega) (fun u h1 h2 => me_b (ν2 0 1).toNat ν2 hB2 hC2 hT2 (by rw [hf2 0 (by decide)]; omega) (fun u h3 h4 => by omega) u (by omega) (by rw [hfm 0 (by decide)] at h2; exact h2))
            have hbb : mo_bd (f 0) ≤ 4194304 := by unfold mo_bd; split <;> (try split) <;> (try split) <;> (try split) <;> omega
            obtain ⟨ν3, e3⟩ : ∃ ν3, ν3 = mo_me (ν2 0 1).toNat ν2 := ⟨_, rfl⟩
            rw [← e3] at hme hfm eld hbdl
            have hB3 : mo_B ν3 := mo_B_fr (fr_w hfm (by decide)) hB2
            have hC3 : mo_C ν3 := mo_C_fr (hfm 2 (by decide)) (hfm 5 (by decide)) (hfm 6 (by decide)) (hfm 9 (by decide)) (hfm 13 (by decide)) (hfm 17 (by decide)) hC2
            have hc3 : ν3 0 21 = c := (congrFun (hfm 0 (by decide)) _).trans hc2
            have hj3 : jk_r ν ν3 := fr_tr hj hfm (by decide) (by decide)
            have hb4 : mo_b1 ν3 29 := by unfold mo_b1; rw [hfm 29 (by decide)]; exact hb2
            have hb5 : mo_b1 ν3 30 := by unfold mo_b1; rw [hfm 30 (by decide)]; exact hb3
            refine sw_p 1 (f' := (194, [some (2, 0), some (0, ck_p ν c 8 (ν 14 c) 1), some (0, ck_s ν (ν 0 12).toNat 0 0), some (0, ν 14 c)], [(2, 0)])) rfl ?_
            refine sw_cv1 (pn := 197) (q0 := mj_Mo_check) (q := mj_Mo_measure) (p := 0) (as2 := []) (L2 := [some (2, 0), none, none]) (rest := []) (v := none) (s1 := s) (ν1 := ν3) rfl rfl rfl rfl rfl rfl rfl rfl rfl hs.1 hme ?_
            show sw_w E _ 92 (197, [some (2, 0), some (0, ck_p ν c 8 (ν 14 c) 1), some (0, ck_s ν (ν 0 12).toNat 0 0), some (0, ν 14 c)], []) s ν3 _
            refine sw_p 2 (f' := (199, [some (2, 0), some (0, ck_p ν c 8 (ν 14 c) 1), some (0, ck_s ν (ν 0 12).toNat 0 0), some (0, ν 14 c)], [(0, 0), (2, 0)])) rfl ?_
            refine sw_cv1 (pn := 202) (q0 := mj_Mo_check) (q := mj_Mo_laidBy) (p := 0) (as2 := [(0, 0)]) (L2 := [some (2, 0), some (0, 0), none, none, none, none]) (rest := []) (v := some (0, mo_ld ν3 0)) (s1 := s) (ν1 := ν3) rfl rfl rfl rfl rfl rfl rfl rfl rfl hs.1 (mo_laidBy hs hB3 hC3 (by omega)) ?_
            show sw_w E _ 92 (202, [some (2, 0), some (0, ck_p ν c 8 (ν 14 c) 1), some (0, ck_s ν (ν 0 12).toNat 0 0), some (0, ν 14 c)], [(0, mo_ld ν3 0)]) s ν3 _
            refine sw_p 1 (f' := (205, [some (2, 0), some (0, ck_p ν c 8 (ν 14 c) 1), some (0, ck_s ν (ν 0 12).toNat 0 0), some (0, ν 14 c)], [(0, 4096), (0, mo_ld ν3 0)])) rfl ?_
            refine sw_le2 (pt := 216) (pn := 208) rfl rfl rfl (by omega) (by omega) (fun m1 => ?_) (fun m1 => ?_)
            · skip
              refine sw_p 2 (f' := (218, [some (2, 0), some (0, ck_p ν c 8 (ν 14 c) 1), some (0, ck_s ν (ν 0 12).toNat 0 0), some (0, ν 14 c)], [(0, 1), (2, 0)])) rfl ?_
              refine sw_pZ (pn := 221) (i := 22) rfl rfl rfl rfl rfl (by omega) hs.1 (by omega) ?_
              refine sw_p 3 (f' := (224, [some (2, 0), some (0, ck_p ν c 8 (ν 14 c) 1), some (0, ck_s ν (ν 0 12).toNat 0 0), some (0, ν 14 c)], [(0, 2), (0, 1), (2, 0)])) rfl ?_
              refine sw_cv1 (pn := 227) (q0 := mj_Mo_check) (q := mj_Mo_change) (p := 0) (as2 := [(0, 1), (0, 2)]) (L2 := [some (2, 0), some (0, 1), some (0, 2), none]) (rest := []) (v := none) (s1 := s) (ν1 := (mo_ch (mm_u ν3 0 22 1) 1 2)) rfl rfl rfl rfl rfl rfl rfl rfl rfl hs.1 (mo_change hs (mo_Bs_22 hB3 (by omega)) (by omega)) ?_
              show sw_w E _ 92 (227, [some (2, 0), some (0, ck_p ν c 8 (ν 14 c) 1), some (0, ck_s ν (ν 0 12).toNat 0 0), some (0, ν 14 c)], []) s (mo_ch (mm_u ν3 0 22 1) 1 2) _
              exact sw_retV rfl rfl rfl ⟨_, rfl, rfl, rfl, by rw [ef, if_neg (by omega), if_neg (by omega)]; exact jk_ch (jk_u hj3), fun a h1 h2 => by unfold mo_ch; rw [rg_ne (by omega), mm_u_ne (by omega)]; exact hb4 a h1 h2, fun a h1 h2 => by unfold mo_ch; rw [rg_ne (by omega), mm_u_ne (by omega)]; exact hb5 a h1 h2⟩
            · skip
              refine sw_p 2 (f' := (210, [some (2, 0), some (0, ck_p ν c 8 (ν 14 c) 1), some (0, ck_s ν (ν 0 12).toNat 0 0), some (0, ν 14 c)], [(0, 3), (2, 0)])) rfl ?_
              refine sw_cv1 (pn := 213) (q0 := mj_Mo_check) (q := mj_Mo_refuse) (p := 0) (as2 := [(0, 3)]) (L2 := [some (2, 0), some (0, 3)]) (rest := []) (v := none) (s1 := s) (ν1 := (mo_rm (mm_u ν3 16 c 3) c 5)) rfl rfl rfl rfl rfl rfl rfl rfl rfl hs.1 (by have h := mo_refuse (E := E) (d := d + 3) (s := s) (ν := ν3) (y := 3) hs hB3 (mo_Bu_o hB3 (by omega)) (by rw [hc3]; omega); rw [hc3] at h; exact h) ?_
              show sw_w E _ 92 (213, [some (2, 0), some (0, ck_p ν c 8 (ν 14 c) 1), some (0, ck_s ν (ν 0 12).toNat 0 0), some (0, ν 14 c)], []) s (mo_rm (mm_u ν3 16 c 3) c 5) _
              refine sw_p 1 (f' := (227, [some (2, 0), some (0, ck_p ν c 8 (ν 14 c) 1), some (0, ck_s ν (ν 0 12).toNat 0 0), some (0, ν 14 c)], [])) rfl ?_
              exact sw_retV rfl rfl rfl ⟨_, rfl, rfl, rfl, by rw [ef, if_neg (by omega), if_pos (by omega)]; exact jk_rm (jk_u hj3), hb1r _ _ _ (Or.inl rfl) hb4, hb1r _ _ _ (Or.inr rfl) hb5⟩
          · skip
            refine sw_p 2 (f' := (187, [some (2, 0), some (0, ck_p ν c 8 (ν 14 c) 1), some (0, ck_s ν (ν 0 12).toNat 0 0), some (0, ν 14 c)], [(0, 2), (2, 0)])) rfl ?_
            refine sw_cv1 (pn := 190) (q0 := mj_Mo_check) (q := mj_Mo_refuse) (p := 0) (as2 := [(0, 2)]) (L2 := [some (2, 0), some (0, 2)]) (rest := []) (v := none) (s1 := s) (ν1 := (mo_rm (mm_u ν2 16 c 2) c 5)) rfl rfl rfl rfl rfl rfl rfl rfl rfl hs.1 (by have h := mo_refuse (E := E) (d := d + 3) (s := s) (ν := ν2) (y := 2) hs hB2 (mo_Bu_o hB2 (by omega)) (by rw [hc2]; omega); rw [hc2] at h; exact h) ?_
            show sw_w E _ 92 (190, [some (2, 0), some (0, ck_p ν c 8 (ν 14 c) 1), some (0, ck_s ν (ν 0 12).toNat 0 0), some (0, ν 14 c)], []) s (mo_rm (mm_u ν2 16 c 2) c 5) _
            refine sw_p 1 (f' := (227, [some (2, 0), some (0, ck_p ν c 8 (ν 14 c) 1), some (0, ck_s ν (ν 0 12).toNat 0 0), some (0, ν 14 c)], [])) rfl ?_
            exact sw_retV rfl rfl rfl ⟨_, rfl, rfl, rfl, by rw [ef, if_pos (by omega)]; exact jk_rm (jk_u hj), hb1r _ _ _ (Or.inl rfl) hb2, hb1r _ _ _ (Or.inr rfl) hb3⟩
        · skip
          rw [hgr] at hv
          have ef : ck_f ν = mm_u (mm_u (pl_f ν c x1 e1 q1) 15 c 1) 0 21 (-1) := by unfold ck_f fg_r; rw [hc0, if_neg hp, hfr, hgr]
          have hv0 := hv
          obtain ⟨hb2, hb3, rfl, hf2, _⟩ := hv0
          have hc2 : ν2 0 21 = c := (congrFun (hf2 0 (by decide)) _).trans hc0
          show sw_w E _ 92 (160, [some (2, 0), some (0, ck_p ν c 8 (ν 14 c) 1), some (0, ck_s ν (ν 0 12).toNat 0 0), some (0, ν 14 c)], [(0, 1)]) s ν2 _
          refine sw_eq1 (pt := 181) (pn := 163) rfl rfl rfl (by omega) (fun h => absurd h (by decide)) (fun _ => ?_)
          refine sw_p 1 (f' := (164, [some (2, 0), some (0, ck_p ν c 8 (ν 14 c) 1), some (0, ck_s ν (ν 0 12).toNat 0 0), some (0, ν 14 c)], [(2, 0)])) rfl ?_
          refine sw_hA (pn := 167) (i := 15) (v := 15) rfl rfl rfl rfl rfl hs.1 (mo_s15 hs).1 (by omega) ?_
          refine sw_p 1 (f' := (168, [some (2, 0), some (0, ck_p ν c 8 (ν 14 c) 1), some (0, ck_s ν (ν 0 12).toNat 0 0), some (0, ν 14 c)], [(2, 0), (2, 15)])) rfl ?_
          refine sw_gI (pn := 171) (i := 21) rfl rfl rfl rfl rfl (by omega) hs.1 ?_
          rw [show ν2 0 21 = c from hc2]
          refine sw_p 1 (f' := (172, [some (2, 0), some (0, ck_p ν c 8 (ν 14 c) 1), some (0, ck_s ν (ν 0 12).toNat 0 0), some (0, ν 14 c)], [(0, 1), (0, c), (2, 15)])) rfl ?_
          refine sw_ias (pn := 173) (l := 40) rfl rfl (by omega) (mo_s15 hs).2.1 (mo_s15 hs).2.2 (by omega) (by omega) ?_
          refine sw_p 2 (f' := (175, [some (2, 0), some (0, ck_p ν c 8 (ν 14 c) 1), some (0, ck_s ν (ν 0 12).toNat 0 0), some (0, ν 14 c)], [(0, -1), (2, 0)])) rfl ?_
          refine sw_pI (pn := 178) (i := 21) rfl rfl rfl rfl rfl (by omega) hs.1 ?_
          refine sw_p 1 (f' := (227, [some (2, 0), some (0, ck_p ν c 8 (ν 14 c) 1), some (0, ck_s ν (ν 0 12).toNat 0 0), some (0, ν 14 c)], [])) rfl ?_
          exact sw_retV rfl rfl rfl ⟨_, rfl, rfl, rfl, by rw [ef]; exact jk_u (jk_u (jk_pl hv)), fun a h1 h2 => by rw [mm_u_ne (by omega), mm_u_ne (by omega)]; exact hb2 a h1 h2, fun a h1 h2 => by rw [mm_u_ne (by omega), mm_u_ne (by omega)]; exact hb3 a h1 h2⟩
      · skip
        rw [hfr] at hv
        have hv := ft_up h30 hv
        have ef : ck_f ν = mm_u (mm_u (pl_f ν c (ν 5 (ν 14 c)) (ν 6 (ν 14 c)) q) 15 c 1) 0 21 (-1) := by unfold ck_f fg_r; rw [hc0, if_neg hp, hfr]
        have hv0 := hv
        obtain ⟨hb2, hb3, rfl, hf2, _⟩ := hv0
        have hc1 : ν1 0 21 = c := (congrFun (hf2 0 (by decide)) _).trans hc0
        show sw_w E _ 92 (153, [some (2, 0), some (0, ck_p ν c 8 (ν 14 c) 1), some (0, ck_s ν (ν 0 12).toNat 0 0), some (0, ν 14 c)], [(0, 1)]) s ν1 _
        refine sw_ne1 (pt := 163) (pn := 156) rfl rfl rfl (by omega) (fun _ => ?_) (fun h => absurd h (by decide))
        refine sw_p 1 (f' := (164, [some (2, 0), some (0, ck_p ν c 8 (ν 14 c) 1), some (0, ck_s ν (ν 0 12).toNat 0 0), some (0, ν 14 c)], [(2, 0)])) rfl ?_
        refine sw_hA (pn := 167) (i := 15) (v := 15) rfl rfl rfl rfl rfl hs.1 (mo_s15 hs).1 (by omega) ?_
        refine sw_p 1 (f' := (168, [some (2, 0), some (0, ck_p ν c 8 (ν 14 c) 1), some (0, ck_s ν (ν 0 12).toNat 0 0), some (0, ν 14 c)], [(2, 0), (2, 15)])) rfl ?_
        refine sw_gI (pn := 171) (i := 21) rfl rfl rfl rfl rfl (by omega) hs.1 ?_
        rw [show ν1 0 21 = c from hc1]
        refine sw_p 1 (f' := (172, [some (2, 0), some (0, ck_p ν c 8 (ν 14 c) 1), some (0, ck_s ν (ν 0 12).toNat 0 0), some (0, ν 14 c)], [(0, 1), (0, c), (2, 15)])) rfl ?_
        refine sw_ias (pn := 173) (l := 40) rfl rfl (by omega) (mo_s15 hs).2.1 (mo_s15 hs).2.2 (by omega) (by omega) ?_
        refine sw_p 2 (f' := (175, [some (2, 0), some (0, ck_p ν c 8 (ν 14 c) 1), some (0, ck_s ν (ν 0 12).toNat 0 0), some (0, ν 14 c)], [(0, -1), (2, 0)])) rfl ?_
        refine sw_pI (pn := 178) (i := 21) rfl rfl rfl rfl rfl (by omega) hs.1 ?_
        refine sw_p 1 (f' := (227, [some (2, 0), some (0, ck_p ν c 8 (ν 14 c) 1), some (0, ck_s ν (ν 0 12).toNat 0 0), some (0, ν 14 c)], [])) rfl ?_
        exact sw_retV rfl rfl rfl ⟨_, rfl, rfl, rfl, by rw [ef]; exact jk_u (jk_u (jk_pl hv)), fun a h1 h2 => by rw [mm_u_ne (by omega), mm_u_ne (by omega)]; exact hb2 a h1 h2, fun a h1 h2 => by rw [mm_u_ne (by omega), mm_u_ne (by omega)]; exact hb3 a h1 h2⟩
  refine sw_p 3 (f' := (3, [some (2, 0), some (0, 1), none, none], [(2, 0)])) rfl ?_
  refine sw_hA (pn := 6) (i := 14) (v := 14) rfl rfl rfl rfl rfl hs.1 (mo_s14 hs).1 (by omega) ?_
  refine sw_p 1 (f' := (7, [some (2, 0), some (0, 1), none, none], [(2, 0), (2, 14)])) rfl ?_
  refine sw_gI (pn := 10) (i := 21) rfl rfl rfl rfl rfl (by omega) hs.1 ?_
  rw [show ν 0 21 = c from hc0]
  refine sw_ial (pn := 11) (l := 40) rfl rfl (by omega) (mo_s14 hs).2.1 (mo_s14 hs).2.2 (by omega) (by omega) ?_
  refine sw_p 1 (f' := (12, [some (2, 0), some (0, 1), some (0, ν 14 c), none], [])) rfl ?_
  refine ck_wp (d := d + 3) hs hB hc0 hc 8 (ν 14 c) 1 (by omega) (by omega) (by omega) (by omega) (fun o2 => ?_)
  refine sw_p 4 (f' := (69, [some (2, 0), some (0, ck_p ν c 8 (ν 14 c) 1), some (0, 0), some (0, 0)], [])) rfl ?_
  exact ck_ws (d := d + 4) hs hB h11 (ν 0 12).toNat 0 0 (by omega) (by omega) (by omega) K
end CK
