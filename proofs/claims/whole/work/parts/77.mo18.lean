/-! ends that are relations; the reference: fits -/
def sw_vr (P : Option mg_V → mm_T → Prop) (s : mm_T) : nm_O → mm_T → mm_T → Prop := fun o s' ν' => ∃ v, o = .inl v ∧ s' = s ∧ P v ν'
section SWV
variable {E : mv_E} {s ν s1 : mm_T} {d j pc pn j2 : Nat} {L L2 : mg_L} {S rest as2 : List mg_V} {Q : nm_O → mm_T → mm_T → Prop} {P : Option mg_V → mm_T → Prop} {p : Int} {q0 q : mv_J}
theorem sw_cs2 (hr : mg_at j pc = some (3, .invokestatic j2)) (hn : pc + 3 = pn) (hq0 : mt_ms[j]? = some q0) (hh : mj_hr q0 = []) (hq : mt_ms[j2]? = some q) (hfit : (decide (mj_a q ≤ S.length) && decide (((mg_eS (S.drop (mj_a q))).map fun v => v.category).sum ≤ 8) && decide ((mg_ent (S.take (mj_a q)).reverse).length ≤ mj_n q)) = true) (hL : mg_in (mj_n q) (S.take (mj_a q)).reverse = L2) (hrest : S.drop (mj_a q) = rest)
    (w : sw_w E d j2 (0, L2, []) s ν (sw_vr P s1)) (k : ∀ v ν', P v ν' → sw_w E (d + 1) j (pn, L, v.toList ++ rest) s1 ν' Q) : sw_w E (d + 1) j (pc, L, S) s ν Q :=
  sw_cs hr hn hq0 hh hq hfit hL hrest w (fun _ _ _ h => by obtain ⟨v, h1, rfl, h3⟩ := h; cases h1; exact k _ _ h3) (fun _ _ _ h => by obtain ⟨v, h1, _⟩ := h; cases h1)
theorem sw_cv2 (hr : mg_at j pc = some (3, .invokevirtual j2)) (hn : pc + 3 = pn) (hq0 : mt_ms[j]? = some q0) (hh : mj_hr q0 = []) (hq : mt_ms[j2]? = some q) (hfit : (decide (mj_a q ≤ S.length) && decide (((mg_eS (S.drop (mj_a q))).map fun v => v.category).sum ≤ 8) && decide ((mg_ent (S.take (mj_a q)).reverse).length ≤ mj_n q)) = true) (has : (S.take (mj_a q)).reverse = (2, p) :: as2) (hL : mg_in (mj_n q) ((2, p) :: as2) = L2) (hrest : S.drop (mj_a q) = rest) (hc : s p (-1) = 100 + ((mj_k q : Nat) : Int))
    (w : sw_w E d j2 (0, L2, []) s ν (sw_vr P s1)) (k : ∀ v ν', P v ν' → sw_w E (d + 1) j (pn, L, v.toList ++ rest) s1 ν' Q) : sw_w E (d + 1) j (pc, L, S) s ν Q :=
  sw_cv hr hn hq0 hh hq hfit has hL hrest hc w (fun _ _ _ h => by obtain ⟨v, h1, rfl, h3⟩ := h; cases h1; exact k _ _ h3) (fun _ _ _ h => by obtain ⟨v, h1, _⟩ := h; cases h1)
end SWV
/-- the rows of ν' are those of ν, but for some -/
def fr_r (ps : List Int) (ν ν' : mm_T) : Prop := ∀ p, p ∉ ps → ν' p = ν p
theorem fr_rfl {ps : List Int} {ν : mm_T} : fr_r ps ν ν := fun _ _ => rfl
theorem fr_tr {ps qs rs : List Int} {ν ν' ν2 : mm_T} (h1 : fr_r ps ν ν') (h2 : fr_r qs ν' ν2) (e1 : ∀ p ∈ ps, p ∈ rs) (e2 : ∀ p ∈ qs, p ∈ rs) : fr_r rs ν ν2 := fun p hp => (h2 p (fun h => hp (e2 p h))).trans (h1 p (fun h => hp (e1 p h)))
theorem fr_w {ps rs : List Int} {ν ν' : mm_T} (h1 : fr_r ps ν ν') (e1 : ∀ p ∈ ps, p ∈ rs) : fr_r rs ν ν' := fun p hp => h1 p (fun h => hp (e1 p h))
theorem fr_u {ps : List Int} {ν : mm_T} {p i z : Int} (h : p ∈ ps) : fr_r ps ν (mm_u ν p i z) := fun q hq => by
  funext k
  exact mm_u_ne (fun e => hq (e.1 ▸ h))
theorem mo_B_fr {ν ν' : mm_T} (h : fr_r [5, 6, 7, 11, 16, 18, 20, 27, 29, 30] ν ν') (hB : mo_B ν) : mo_B ν' := by
  have e0 := h 0 (by decide)
  have e2 := h 2 (by decide)
  have e3 := h 3 (by decide)
  have e4 := h 4 (by decide)
  have e9 := h 9 (by decide)
  have e10 := h 10 (by decide)
  have e13 := h 13 (by decide)
  have e14 := h 14 (by decide)
  have e15 := h 15 (by decide)
  have e17 := h 17 (by decide)
  have e19 := h 19 (by decide)
  have e25 := h 25 (by decide)
  have e26 := h 26 (by decide)
  have e28 := h 28 (by decide)
  unfold mo_B at hB ⊢
  rw [e0, e2, e3, e4, e9, e10, e13, e14, e15, e17, e19, e25, e26, e28]
  exact hB
theorem mo_C_fr {ν ν' : mm_T} (h2 : ν' 2 = ν 2) (h5 : ν' 5 = ν 5) (h6 : ν' 6 = ν 6) (h9 : ν' 9 = ν 9) (h13 : ν' 13 = ν 13) (h17 : ν' 17 = ν 17) (hC : mo_C ν) : mo_C ν' := by
  unfold mo_C at hC ⊢
  rw [h2, h5, h6, h9, h13, h17]
  exact hC
/-! a place depends on the marks from begin to end alone -/
theorem mo_to_c {ν ν' : mm_T} {p : Int} : ∀ (n : Nat) (a : Int), (∀ k, a ≤ k → k < a + n → ν p k = ν' p k) → mo_to ν p n a = mo_to ν' p n a
  | 0, a, _ => rfl
  | n + 1, a, h => by
    unfold mo_to
    rw [h a (by omega) (by omega), mo_to_c n (a + 1) (fun k h1 h2 => h k (by omega) (by omega))]
theorem mo_pf_c {ν ν' : mm_T} {z e : Int} : ∀ (m : Nat) (f b l : Int), (∀ k, f ≤ k → k < e → ν 29 k = ν' 29 k) → mo_pf ν z e m f b l = mo_pf ν' z e m f b l
  | 0, _, _, _, _ => rfl
  | m + 1, f, b, l, h => by
    unfold mo_pf
    by_cases hf : f < e
    · rw [if_pos hf, if_pos hf, mo_to_c (ν := ν) (ν' := ν') (e - f).toNat f (fun k h1 h2 => h k h1 (by omega))]
      have hb := mo_to_b ν' 29 (e - f).toNat f
      rw [mo_pf_c m _ _ _ (fun k h1 h2 => h k (by omega) h2), mo_pf_c m _ _ _ (fun k h1 h2 => h k (by omega) h2)]
    · rw [if_neg hf, if_neg hf]
theorem mo_pf_r {ν : mm_T} {z e : Int} (hz : 0 < z) : ∀ (m : Nat) (f b l : Int), mo_pf ν z e m f b l = b ∨ (f ≤ mo_pf ν z e m f b l ∧ mo_pf ν z e m f b l + z ≤ e)
  | 0, _, _, _ => Or.inl rfl
  | m + 1, f, b, l => by
    unfold mo_pf
    have hb := mo_to_b ν 29 (e - f).toNat f
    have hm := Int.emod_nonneg (-f) (show z ≠ 0 by omega)
    by_cases hf : f < e
    · rw [if_pos hf]
      split
      · next h =>
        rcases mo_pf_r hz (ν := ν) (e := e) m (mo_to ν 29 (e - f).toNat f + 1) (f + (-f) % z) (mo_to ν 29 (e - f).toNat f - f) with h1 | h1
        · rw [h1]; exact Or.inr ⟨by omega, by omega⟩
        · exact Or.inr ⟨by omega, by omega⟩
      · rcases mo_pf_r hz (ν := ν) (e := e) m (mo_to ν 29 (e - f).toNat f + 1) b l with h1 | h1
        · exact Or.inl h1
        · exact Or.inr ⟨by omega, by omega⟩
    · rw [if_neg hf]; exact Or.inl rfl
/-- the place for a range of size z among the marks g, from x to e -/
def ff_p (g : Int → Int) (z x e : Int) : Int := mo_pf (fun _ => g) z e 4097 x (-1) 9999
/-- places for ranges, one after the other -/
def ff_s (f : Int → Int) (x e : Int) : List (Int × Int) → (Int → Int) → (Int → Int) → Option (Int → Int)
  | [], _, q => some q
  | (z, k) :: l, g, q => if f k = z then (if ff_p g z x e < 0 then none else ff_s f x e l (mo_mkr (ff_p g z x e) (ff_p g z x e + z) g) (fun i => if i = k then ff_p g z x e else q i)) else ff_s f x e l g q
def ff_l : List Int → List (Int × Int)
  | [] => []
  | z :: r => (z, 0) :: (z, 1) :: (z, 2) :: ff_l r
def ff_z : List Int := [1024, 512, 256, 128, 64, 32, 16, 8, 4, 2, 1]
/-- the marks of what lies directly in the opening of b, but for w -/
def oc_m (ν : mm_T) (b w : Int) : Int → Int := mo_mks ν w 4 (4 * b) (fun _ => 0)
/-- the places for the coming card's ranges from x to e -/
def ff_r (ν : mm_T) (c x e : Int) (q : Int → Int) : Option (Int → Int) := ff_s (fun k => ν 9 (3 * ν 13 c + k)) x e (ff_l ff_z) (oc_m ν (ν 14 c) (100 + c)) q
theorem ff_p_c {g g' : Int → Int} {z x e : Int} (h : ∀ k, x ≤ k → k < e → g k = g' k) : ff_p g z x e = ff_p g' z x e := mo_pf_c _ _ _ _ h
theorem ff_p_r {g : Int → Int} {z x e : Int} (hz : 0 < z) : ff_p g z x e = -1 ∨ (x ≤ ff_p g z x e ∧ ff_p g z x e + z ≤ e) := mo_pf_r hz _ _ _ _
theorem ff_s_c {f : Int → Int} {x e : Int} : ∀ (l : List (Int × Int)) (g g' q : Int → Int), (∀ k, x ≤ k → k < e → g k = g' k) → ff_s f x e l g q = ff_s f x e l g' q
  | [], _, _, _, _ => rfl
  | (z, k) :: l, g, g', q, h => by
    unfold ff_s
    rw [ff_p_c h, ff_s_c l g g' q h, ff_s_c l (mo_mkr (ff_p g' z x e) (ff_p g' z x e + z) g) (mo_mkr (ff_p g' z x e) (ff_p g' z x e + z) g') _ (fun i h1 h2 => by unfold mo_mkr; rw [h i h1 h2])]
theorem mo_mkr_p {lo hi k : Int} {g g' : Int → Int} (h : g k = g' k) : mo_mkr lo hi g k = mo_mkr lo hi g' k := by unfold mo_mkr; rw [h]
theorem mo_mk1_p {ν : mm_T} {c i k : Int} {g g' : Int → Int} (h : g k = g' k) : mo_mk1 ν c i g k = mo_mk1 ν c i g' k := by
  unfold mo_mk1
  split
  · exact h
  · exact mo_mkr_p h
theorem mo_mku_p {ν : mm_T} {w u k : Int} {g g' : Int → Int} (h : g k = g' k) : mo_mku ν w u g k = mo_mku ν w u g' k := by
  unfold mo_mku
  split
  · exact h
  · split
    · exact mo_mkr_p h
    · exact mo_mk1_p (mo_mk1_p (mo_mk1_p h))
theorem mo_mks_p {ν : mm_T} {w k : Int} : ∀ (n : Nat) (i : Int) (g g' : Int → Int), g k = g' k → mo_mks ν w n i g k = mo_mks ν w n i g' k
  | 0, _, _, _, h => h
  | n + 1, i, g, g', h => by
    unfold mo_mks
    exact mo_mks_p n (i + 1) _ _ (mo_mku_p h)
def mo_01 (g : Int → Int) : Prop := ∀ a, 0 ≤ a → a < 4096 → g a = 0 ∨ g a = 1
theorem mo_mkr_1 {lo hi : Int} {g : Int → Int} (h : mo_01 g) : mo_01 (mo_mkr lo hi g) := fun a h1 h2 => by
  unfold mo_mkr
  split
  · exact Or.inr rfl
  · exact h a h1 h2
theorem mo_mk1_1 {ν : mm_T} {c i : Int} {g : Int → Int} (h : mo_01 g) : mo_01 (mo_mk1 ν c i g) := by
  unfold mo_mk1
  split
  · exact h
  · exact mo_mkr_1 h
theorem mo_mku_1 {ν : mm_T} {w u : Int} {g : Int → Int} (h : mo_01 g) : mo_01 (mo_mku ν w u g) := by
  unfold mo_mku
  split
  · exact h
  · split
    · exact mo_mkr_1 h
    · exact mo_mk1_1 (mo_mk1_1 (mo_mk1_1 h))
theorem mo_mks_1 {ν : mm_T} {w : Int} : ∀ (n : Nat) (i : Int) (g : Int → Int), mo_01 g → mo_01 (mo_mks ν w n i g)
  | 0, _, _, h => h
  | n + 1, i, g, h => by
    unfold mo_mks
    exact mo_mks_1 n (i + 1) _ (mo_mku_1 h)
theorem mo_look_1 {ν : mm_T} {b x e w p : Int} (h : mo_b1 ν p) : mo_01 (mo_look ν b x e w p) := mo_mks_1 _ _ _ (fun a h1 h2 => by
  show (if x ≤ a ∧ a < e then (0 : Int) else ν p a) = 0 ∨ (if x ≤ a ∧ a < e then (0 : Int) else ν p a) = 1
  split
  · exact Or.inl rfl
  · exact h a h1 h2)
theorem mo_look_oc {ν : mm_T} {b x e w p k : Int} (h1 : x ≤ k) (h2 : k < e) : mo_look ν b x e w p k = oc_m ν b w k := mo_mks_p _ _ _ _ (if_pos ⟨h1, h2⟩)
theorem oc_1 {ν : mm_T} {b w : Int} : mo_01 (oc_m ν b w) := mo_mks_1 _ _ _ (fun _ _ _ => Or.inl rfl)
/-- memory while the places are looked for: marks g, plans q -/
def ft_m (ν : mm_T) (c : Int) (g q : Int → Int) : mm_T := fun p i => if p = 29 then g i else if p = 18 ∧ 3 * c ≤ i ∧ i < 3 * c + 3 then q (i - 3 * c) else ν p i
section FT
variable {E : mv_E} {s ν : mm_T} {d : Nat} {b c x y e k z p i lo hi v0 v1 v2 : Int} {g q : Int → Int} {o5 o6 : Option mg_V} {l : List (Int × Int)}
theorem ft_ne (h : p ≠ 29) (h2 : p ≠ 18) : ft_m ν c g q p i = ν p i := by unfold ft_m; rw [if_neg h, if_neg (fun h3 => h2 h3.1)]
theorem ft_29 : ft_m ν c g q 29 = g := by funext i; unfold ft_m; rw [if_pos rfl]
theorem ft_18 (hk : 0 ≤ k ∧ k < 3) : ft_m ν c g q 18 (3 * c + k) = q k := by unfold ft_m; rw [if_neg (by omega), if_pos (by omega), show 3 * c + k - 3 * c = k by omega]
theorem ft_fr : fr_r [29, 18] ν (ft_m ν c g q) := fun p hp => by
  funext i
  exact ft_ne (fun h => hp (by rw [h]; decide)) (fun h => hp (by rw [h]; decide))
theorem ft_b1 (h : mo_01 g) : mo_b1 (ft_m ν c g q) 29 := fun a h1 h2 => by rw [ft_29]; exact h a h1 h2
theorem ft_u (hk : 0 ≤ k ∧ k < 3) : mm_u (ft_m ν c g q) 18 (3 * c + k) z = ft_m ν c g (fun i => if i = k then z else q i) := by
  funext p i
  unfold mm_u ft_m
  by_cases h : p = 18 ∧ i = 3 * c + k
  · obtain ⟨rfl, rfl⟩ := h
    rw [if_pos ⟨rfl, rfl⟩, if_neg (by omega), if_pos (by omega)]
    exact (if_pos (by omega)).symm
  · rw [if_neg h]
    by_cases h2 : p = 29
    · rw [if_pos h2, if_pos h2]
    · rw [if_neg h2, if_neg h2]
      by_cases h3 : p = 18 ∧ 3 * c ≤ i ∧ i < 3 * c + 3
      · rw [if_pos h3, if_pos h3]
        exact (if_neg (fun h4 => h ⟨h3.1, by omega⟩)).symm
      · rw [if_neg h3, if_neg h3]
theorem ft_mk : rg_m (ft_m ν c g q) 29 lo hi (fun _ => 1) = ft_m ν c (mo_mkr lo hi g) q := by
  funext p i
  by_cases h : p = 29
  · subst h
    rw [ft_29]
    unfold mo_mkr rg_m
    rw [ft_29]
    by_cases h1 : lo ≤ i ∧ i < hi
    · rw [if_pos ⟨rfl, h1⟩, if_pos h1]
    · rw [if_neg (fun h2 => h1 h2.2), if_neg h1]
  · rw [rg_ne (fun h2 => h h2.1)]
    unfold ft_m
    rw [if_neg h, if_neg h]
theorem ft_0 : mo_wr ν 29 g = ft_m ν c g (fun k => ν 18 (3 * c + k)) := by
  funext p i
  unfold mo_wr ft_m
  by_cases h : p = 29
  · rw [if_pos h, if_pos h]
  · rw [if_neg h, if_neg h]
    by_cases h2 : p = 18 ∧ 3 * c ≤ i ∧ i < 3 * c + 3
    · rw [if_pos h2, h2.1]
      show ν 18 i = ν 18 (3 * c + (i - 3 * c))
      rw [show 3 * c + (i - 3 * c) = i by omega]
    · rw [if_neg h2]
theorem ft_mark (hs : mo_sh s) (hx : 0 ≤ x ∧ x < 2147483648) (hy : -2147483648 ≤ y ∧ y ≤ 4096) : sw_w E d 99 (0, [some (2, 29), some (0, x), some (0, y), none], []) s (ft_m ν c g q) (sw_is none s (ft_m ν c (mo_mkr x y g) q)) := by
  have h := mo_mark (E := E) (d := d) (ν := ft_m ν c g q) (p := 29) (by omega) (mo_s29 hs).2.1 (mo_s29 hs).2.2 hx.1 hy.2 hx.2 hy.1
  rwa [ft_mk] at h
theorem ft_size (hs : mo_sh s) (hB : mo_B ν) (hc : 0 ≤ c ∧ c < 40) (hk : 0 ≤ k ∧ k < 3) : sw_w E d 100 (0, [some (2, 0), some (0, c), some (0, k)], []) s (ft_m ν c g q) (sw_is (some (0, ν 9 (3 * ν 13 c + k))) s (ft_m ν c g q)) := by
  have hcd := hB.cd c hc.1 hc.2
  have h := mo_sizeOf (E := E) (d := d) (s := s) (ν := ft_m ν c g q) (c := c) (k := k) hs hc hk (by rw [ft_ne (by omega) (by omega)]; omega)
  rw [show ft_m ν c g q 13 c = ν 13 c from ft_ne (by omega) (by omega), show ft_m ν c g q 9 (3 * ν 13 c + k) = ν 9 (3 * ν 13 c + k) from ft_ne (by omega) (by omega)] at h
  exact h
theorem ft_place (hs : mo_sh s) (hg : mo_01 g) (he : 0 ≤ e ∧ e ≤ 4096) (hz : 0 < z ∧ z ≤ 1024) (hx : 0 ≤ x ∧ x ≤ 4096) : sw_w E d 101 (0, [some (2, 0), some (0, z), some (0, x), some (0, e), none, none, none, none, none], []) s (ft_m ν c g q) (sw_is (some (0, ff_p g z x e)) s (ft_m ν c g q)) := by
  have h := mo_placeFor (E := E) (d := d) (s := s) (ν := ft_m ν c g q) hs (ft_b1 hg) he hz hx
  rwa [show mo_pf (ft_m ν c g q) z e 4097 x (-1) 9999 = ff_p g z x e from mo_pf_c _ _ _ _ (fun k _ _ => by rw [ft_29])] at h
/-- the ends of fits -/
def ft_P (ν : mm_T) (c x e : Int) (r : Option (Int → Int)) (v : Option mg_V) (ν' : mm_T) : Prop := mo_b1 ν' 29 ∧ match r with
  | none => v = some (0, 0) ∧ fr_r [29, 18] ν ν'
  | some q => v = some (0, 1) ∧ fr_r [29, 18, 17, 5, 6] ν ν' ∧ (∀ i, ν' 17 i = if 3 * c ≤ i ∧ i < 3 * c + 3 then (if 0 < ν 9 (3 * ν 13 c + (i - 3 * c)) then q (i - 3 * c) else -1) else ν 17 i) ∧ (∀ i, ν' 5 i = if i = ν 14 c then x else ν 5 i) ∧ (∀ i, ν' 6 i = if i = ν 14 c then e else ν 6 i)
theorem ft_end (hg : mo_01 g) (h0 : v0 = if 0 < ν 9 (3 * ν 13 c + 0) then q 0 else -1) (h1 : v1 = if 0 < ν 9 (3 * ν 13 c + 1) then q 1 else -1) (h2 : v2 = if 0 < ν 9 (3 * ν 13 c + 2) then q 2 else -1) : sw_vr (ft_P ν c x e (some q)) s (.inl (some (0, 1))) s (mm_u (mm_u (mm_u (mm_u (mm_u (ft_m ν c g q) 17 (3 * c + 0) v0) 17 (3 * c + 1) v1) 17 (3 * c + 2) v2) 5 (ν 14 c) x) 6 (ν 14 c) e) := by
  refine ⟨_, rfl, rfl, ?_, rfl, ?_, ?_, ?_, ?_⟩
  · intro a h3 h4
    rw [mm_u_ne (by omega), mm_u_ne (by omega), mm_u_ne (by omega), mm_u_ne (by omega), mm_u_ne (by omega), ft_29]
    exact hg a h3 h4
  · exact fr_tr (fr_tr (fr_tr (fr_tr (fr_tr (ft_fr) (fr_u (ps := [17]) (by decide)) (rs := [29, 18, 17]) (by decide) (by decide)) (fr_u (ps := [17]) (by decide)) (rs := [29, 18, 17]) (by decide) (by decide)) (fr_u (ps := [17]) (by decide)) (rs := [29, 18, 17]) (by decide) (by decide)) (fr_u (ps := [5]) (by decide)) (rs := [29, 18, 17, 5]) (by decide) (by decide)) (fr_u (ps := [6]) (by decide)) (by decide) (by decide)
  · intro i
    rw [mm_u_ne (by omega), mm_u_ne (by omega)]
    by_cases e2 : i = 3 * c + 2
    · rw [e2, mm_u_at, if_pos (by omega), show 3 * c + 2 - 3 * c = 2 by omega]; exact h2
    · rw [mm_u_ne (by omega)]
      by_cases e1 : i = 3 * c + 1
      · rw [e1, mm_u_at, if_pos (by omega), show 3 * c + 1 - 3 * c = 1 by omega]; exact h1
      · rw [mm_u_ne (by omega)]
        by_cases e0 : i = 3 * c + 0
        · rw [e0, mm_u_at, if_pos (by omega), show 3 * c + 0 - 3 * c = 0 by omega]; exact h0
        · rw [mm_u_ne (by omega), ft_ne (by omega) (by omega), if_neg (by omega)]
  · intro i
    rw [mm_u_ne (by omega)]
    by_cases e2 : i = ν 14 c
    · rw [e2, mm_u_at, if_pos rfl]
    · rw [mm_u_ne (by omega), mm_u_ne (by omega), mm_u_ne (by omega), mm_u_ne (by omega), ft_ne (by omega) (by omega), if_neg e2]
  · intro i
    by_cases e2 : i = ν 14 c
    · rw [e2, mm_u_at, if_pos rfl]
    · rw [mm_u_ne (by omega), mm_u_ne (by omega), mm_u_ne (by omega), mm_u_ne (by omega), mm_u_ne (by omega), ft_ne (by omega) (by omega), if_neg e2]
theorem ft_k (hs : mo_sh s) (hB : mo_B ν) (hc : 0 ≤ c ∧ c < 40) (hx : 0 ≤ x ∧ x ≤ 4096) (he : 0 ≤ e ∧ e ≤ 4096) (hz : 0 < z ∧ z ≤ 1024) (hk : 0 ≤ k ∧ k < 3) (hg : mo_01 g) (kk : ∀ (g q : Int → Int) (o6 : Option mg_V), mo_01 g → sw_w E (d + 1) 97 (38, [some (2, 0), some (0, x), some (0, e), some (0, c), some (0, z), some (0, k + 1), o6], []) s (ft_m ν c g q) (sw_vr (ft_P ν c x e (ff_s (fun k => ν 9 (3 * ν 13 c + k)) x e l g q)) s)) : sw_w E (d + 1) 97 (38, [some (2, 0), some (0, x), some (0, e), some (0, c), some (0, z), some (0, k), o6], []) s (ft_m ν c g q) (sw_vr (ft_P ν c x e (ff_s (fun k => ν 9 (3 * ν 13 c + k)) x e ((z, k) :: l) g q)) s) := by
  have hcd := hB.cd c hc.1 hc.2
  have hsz := hB.2.2.2.2.2.2.2.2.2.2.2.1 (3 * ν 13 c + k) (by omega) (by omega)
  have hp := ff_p_r (g := g) (z := z) (x := x) (e := e) hz.1
  refine sw_p 2 (f' := (41, [some (2, 0), some (0, x), some (0, e), some (0, c), some (0, z), some (0, k), o6], [(0, 3), (0, k)])) rfl ?_
  refine sw_ge2 (pt := 106) (pn := 44) rfl rfl rfl (by omega) (by omega) (fun h => absurd h (by omega)) (fun h1 => ?_)
  refine sw_p 3 (f' := (48, [some (2, 0), some (0, x), some (0, e), some (0, c), some (0, z), some (0, k), o6], [(0, k), (0, c), (2, 0)])) rfl ?_
  refine sw_cv1 (pn := 51) (q0 := mj_Mo_fits) (q := mj_Mo_sizeOf) (p := 0) (as2 := [(0, c), (0, k)]) (L2 := [some (2, 0), some (0, c), some (0, k)]) (rest := []) (v := some (0, ν 9 (3 * ν 13 c + k))) (s1 := s) (ν1 := (ft_m ν c g q)) rfl rfl rfl rfl rfl rfl rfl rfl rfl hs.1 (ft_size hs hB hc hk) ?_
  show sw_w E _ 97 (51, [some (2, 0), some (0, x), some (0, e), some (0, c), some (0, z), some (0, k), o6], [(0, ν 9 (3 * ν 13 c + k))]) s (ft_m ν c g q) _
  refine sw_p 1 (f' := (53, [some (2, 0), some (0, x), some (0, e), some (0, c), some (0, z), some (0, k), o6], [(0, z), (0, ν 9 (3 * ν 13 c + k))])) rfl ?_
  refine sw_ne2 (pt := 100) (pn := 56) rfl rfl rfl (by omega) (by omega) (fun h2 => ?_) (fun h2 => ?_)
  · skip
    refine sw_p 2 (f' := (38, [some (2, 0), some (0, x), some (0, e), some (0, c), some (0, z), some (0, k + 1), o6], [])) rfl ?_
    rw [show ff_s (fun k => ν 9 (3 * ν 13 c + k)) x e ((z, k) :: l) g q = ff_s (fun k => ν 9 (3 * ν 13 c + k)) x e l g q from if_neg (by omega)]
    exact kk _ _ _ hg
  · skip
    refine sw_p 4 (f' := (61, [some (2, 0), some (0, x), some (0, e), some (0, c), some (0, z), some (0, k), o6], [(0, e), (0, x), (0, z), (2, 0)])) rfl ?_
    refine sw_cv1 (pn := 64) (q0 := mj_Mo_fits) (q := mj_Mo_placeFor) (p := 0) (as2 := [(0, z), (0, x), (0, e)]) (L2 := [some (2, 0), some (0, z), some (0, x), some (0, e), none, none, none, none, none]) (rest := []) (v := some (0, ff_p g z x e)) (s1 := s) (ν1 := (ft_m ν c g q)) rfl rfl rfl rfl rfl rfl rfl rfl rfl hs.1 (ft_place hs hg he hz hx) ?_
    show sw_w E _ 97 (64, [some (2, 0), some (0, x), some (0, e), some (0, c), some (0, z), some (0, k), o6], [(0, ff_p g z x e)]) s (ft_m ν c g q) _
    refine sw_p 2 (f' := (68, [some (2, 0), some (0, x), some (0, e), some (0, c), some (0, z), some (0, k), some (0, ff_p g z x e)], [(0, ff_p g z x e)])) rfl ?_
    refine sw_ge1 (pt := 73) (pn := 71) rfl rfl rfl (by omega) (fun h3 => ?_) (fun h3 => ?_)
    · skip
      refine sw_p 1 (f' := (74, [some (2, 0), some (0, x), some (0, e), some (0, c), some (0, z), some (0, k), some (0, ff_p g z x e)], [(2, 0)])) rfl ?_
      refine sw_hA (pn := 77) (i := 18) (v := 18) rfl rfl rfl rfl rfl hs.1 (mo_s18 hs).1 (by omega) ?_
      refine sw_p 6 (f' := (85, [some (2, 0), some (0, x), some (0, e), some (0, c), some (0, z), some (0, k), some (0, ff_p g z x e)], [(0, ff_p g z x e), (0, (3 * c) + k), (2, 18)])) rfl ?_
      refine sw_ias (pn := 86) (l := 120) rfl rfl (by omega) (mo_s18 hs).2.1 (mo_s18 hs).2.2 (by omega) (by omega) ?_
      rw [ft_u hk]
      refine sw_p 1 (f' := (87, [some (2, 0), some (0, x), some (0, e), some (0, c), some (0, z), some (0, k), some (0, ff_p g z x e)], [(2, 0)])) rfl ?_
      refine sw_hA (pn := 90) (i := 29) (v := 29) rfl rfl rfl rfl rfl hs.1 (mo_s29 hs).1 (by omega) ?_
      refine sw_p 4 (f' := (97, [some (2, 0), some (0, x), some (0, e), some (0, c), some (0, z), some (0, k), some (0, ff_p g z x e)], [(0, (ff_p g z x e) + z), (0, ff_p g z x e), (2, 29)])) rfl ?_
      refine sw_cs1 (pn := 100) (q0 := mj_Mo_fits) (q := mj_Mo_mark) (L2 := [some (2, 29), some (0, ff_p g z x e), some (0, (ff_p g z x e) + z), none]) (rest := []) (v := none) (s1 := s) (ν1 := (ft_m ν c (mo_mkr (ff_p g z x e) (ff_p g z x e + z) g) (fun i => if i = k then ff_p g z x e else q i))) rfl rfl rfl rfl rfl rfl rfl rfl (ft_mark hs (by omega) (by omega)) ?_
      show sw_w E _ 97 (100, [some (2, 0), some (0, x), some (0, e), some (0, c), some (0, z), some (0, k), some (0, ff_p g z x e)], []) s (ft_m ν c (mo_mkr (ff_p g z x e) (ff_p g z x e + z) g) (fun i => if i = k then ff_p g z x e else q i)) _
      refine sw_p 2 (f' := (38, [some (2, 0), some (0, x), some (0, e), some (0, c), some (0, z), some (0, k + 1), some (0, ff_p g z x e)], [])) rfl ?_
      rw [show ff_s (fun k => ν 9 (3 * ν 13 c + k)) x e ((z, k) :: l) g q = ff_s (fun k => ν 9 (3 * ν 13 c + k)) x e l (mo_mkr (ff_p g z x e) (ff_p g z x e + z) g) (fun i => if i = k then ff_p g z x e else q i) from (if_pos (by omega)).trans (if_neg (by omega))]
      exact kk _ _ _ (mo_mkr_1 hg)
    · skip
      refine sw_p 1 (f' := (72, [some (2, 0), some (0, x), some (0, e), some (0, c), some (0, z), some (0, k), some (0, ff_p g z x e)], [(0, 0)])) rfl ?_
      exact sw_retZ rfl rfl rfl (by omega) ⟨_, rfl, rfl, ft_b1 hg, by rw [show ff_s (fun k => ν 9 (3 * ν 13 c + k)) x e ((z, k) :: l) g q = none from (if_pos (by omega)).trans (if_pos (by omega))]; exact ⟨rfl, ft_fr⟩⟩
theorem ft_z (hs : mo_sh s) (hB : mo_B ν) (hc : 0 ≤ c ∧ c < 40) (hx : 0 ≤ x ∧ x ≤ 4096) (he : 0 ≤ e ∧ e ≤ 4096) (hz : 0 < z ∧ z ≤ 1024) (hg : mo_01 g) (kk : ∀ (g q : Int → Int) (o5 o6 : Option mg_V), mo_01 g → sw_w E (d + 1) 97 (30, [some (2, 0), some (0, x), some (0, e), some (0, c), some (0, z / 2), o5, o6], []) s (ft_m ν c g q) (sw_vr (ft_P ν c x e (ff_s (fun k => ν 9 (3 * ν 13 c + k)) x e l g q)) s)) : sw_w E (d + 1) 97 (30, [some (2, 0), some (0, x), some (0, e), some (0, c), some (0, z), o5, o6], []) s (ft_m ν c g q) (sw_vr (ft_P ν c x e (ff_s (fun k => ν 9 (3 * ν 13 c + k)) x e ((z, 0) :: (z, 1) :: (z, 2) :: l) g q)) s) := by
  refine sw_p 1 (f' := (32, [some (2, 0), some (0, x), some (0, e), some (0, c), some (0, z), o5, o6], [(0, z)])) rfl ?_
  refine sw_le1 (pt := 115) (pn := 35) rfl rfl rfl (by omega) (fun h => absurd h (by omega)) (fun h1 => ?_)
  refine sw_p 2 (f' := (38, [some (2, 0), some (0, x), some (0, e), some (0, c), some (0, z), some (0, 0), o6], [])) rfl ?_
  refine ft_k hs hB hc hx he hz (k := 0) (by omega) hg (fun g q o6 hg => ?_)
  refine ft_k hs hB hc hx he hz (k := 0 + 1) (by omega) hg (fun g q o6 hg => ?_)
  refine ft_k hs hB hc hx he hz (k := 0 + 1 + 1) (by omega) hg (fun g q o6 hg => ?_)
  show sw_w E (d + 1) 97 (38, [some (2, 0), some (0, x), some (0, e), some (0, c), some (0, z), some (0, 3), o6], []) s (ft_m ν c g q) _
  refine sw_p 2 (f' := (41, [some (2, 0), some (0, x), some (0, e), some (0, c), some (0, z), some (0, 3), o6], [(0, 3), (0, 3)])) rfl ?_
  refine sw_ge2 (pt := 106) (pn := 44) rfl rfl rfl (by omega) (by omega) (fun _ => ?_) (fun h => absurd h (by decide))
  refine sw_p 2 (f' := (109, [some (2, 0), some (0, x), some (0, e), some (0, c), some (0, z), some (0, 3), o6], [(0, 2), (0, z)])) rfl ?_
  refine sw_idiv (pn := 110) rfl rfl (by omega) (by omega) ?_
  refine sw_p 2 (f' := (30, [some (2, 0), some (0, x), some (0, e), some (0, c), some (0, z / 2), some (0, 3), o6], [])) rfl ?_
  exact kk _ _ _ _ hg
theorem ft_e (hs : mo_sh s) (hB : mo_B ν) (hc : 0 ≤ c ∧ c < 40) (hx : 0 ≤ x ∧ x ≤ 4096) (he : 0 ≤ e ∧ e ≤ 4096) (hg : mo_01 g) : sw_w E (d + 1) 97 (30, [some (2, 0), some (0, x), some (0, e), some (0, c), some (0, 0), o5, o6], []) s (ft_m ν c g q) (sw_vr (ft_P ν c x e (some q)) s) := by
  have hcd := hB.cd c hc.1 hc.2
  have hsz := fun k => hB.2.2.2.2.2.2.2.2.2.2.2.1 (3 * ν 13 c + k)
  have hs0 := hsz 0 (by omega) (by omega)
  have hs1 := hsz 1 (by omega) (by omega)
  have hs2 := hsz 2 (by omega) (by omega)
  refine sw_p 1 (f' := (32, [some (2, 0), some (0, x), some (0, e), some (0, c), some (0, 0), o5, o6], [(0, 0)])) rfl ?_
  refine sw_le1 (pt := 115) (pn := 35) rfl rfl rfl (by omega) (fun _ => ?_) (fun h => absurd h (by decide))
  refine sw_p 4 (f' := (121, [some (2, 0), some (0, x), some (0, e), some (0, c), some (0, 0), o5, o6], [(0, 3), (0, 0)])) rfl ?_
  refine sw_ge2 (pt := 166) (pn := 124) rfl rfl rfl (by omega) (by omega) (fun h => absurd h (by decide)) (fun _ => ?_)
  refine sw_p 1 (f' := (125, [some (2, 0), some (0, x), some (0, e), some (0, c), some (0, 0), o5, o6], [(2, 0)])) rfl ?_
  refine sw_hA (pn := 128) (i := 17) (v := 17) rfl rfl rfl rfl rfl hs.1 (mo_s17 hs).1 (by omega) ?_
  refine sw_p 8 (f' := (138, [some (2, 0), some (0, x), some (0, e), some (0, c), some (0, 0), o5, o6], [(0, 0), (0, c), (2, 0), (0, (3 * c) + 0), (2, 17)])) rfl ?_
  refine sw_cv1 (pn := 141) (q0 := mj_Mo_fits) (q := mj_Mo_sizeOf) (p := 0) (as2 := [(0, c), (0, 0)]) (L2 := [some (2, 0), some (0, c), some (0, 0)]) (rest := [(0, (3 * c) + 0), (2, 17)]) (v := some (0, ν 9 (3 * (ν 13 c) + 0))) (s1 := s) (ν1 := (ft_m ν c g q)) rfl rfl rfl rfl rfl rfl rfl rfl rfl hs.1 (by have h := mo_sizeOf (E := E) (d := d) (s := s) (ν := (ft_m ν c g q)) (c := c) (k := 0) hs (by omega) (by omega) (by rw [show (ft_m ν c g q) 13 c = ν 13 c from ft_ne (by omega) (by omega)]; omega); rw [show (ft_m ν c g q) 13 c = ν 13 c from ft_ne (by omega) (by omega), show (ft_m ν c g q) 9 (3 * (ν 13 c) + 0) = ν 9 (3 * (ν 13 c) + 0) from ft_ne (by omega) (by omega)] at h; exact h) ?_
  show sw_w E _ 97 (141, [some (2, 0), some (0, x), some (0, e), some (0, c), some (0, 0), o5, o6], [(0, ν 9 (3 * (ν 13 c) + 0)), (0, (3 * c) + 0), (2, 17)]) s (ft_m ν c g q) _
  refine sw_le1 (pt := 158) (pn := 144) rfl rfl rfl (by omega) (fun h3 => ?_) (fun h3 => ?_)
  · skip
    refine sw_p 1 (f' := (159, [some (2, 0), some (0, x), some (0, e), some (0, c), some (0, 0), o5, o6], [(0, -1), (0, (3 * c) + 0), (2, 17)])) rfl ?_
    refine sw_ias (pn := 160) (l := 120) rfl rfl (by omega) (mo_s17 hs).2.1 (mo_s17 hs).2.2 (by omega) (by omega) ?_
    refine sw_p 4 (f' := (121, [some (2, 0), some (0, x), some (0, e), some (0, c), some (0, 1), o5, o6], [(0, 3), (0, 1)])) rfl ?_
    refine sw_ge2 (pt := 166) (pn := 124) rfl rfl rfl (by omega) (by omega) (fun h => absurd h (by decide)) (fun _ => ?_)
    refine sw_p 1 (f' := (125, [some (2, 0), some (0, x), some (0, e), some (0, c), some (0, 1), o5, o6], [(2, 0)])) rfl ?_
    refine sw_hA (pn := 128) (i := 17) (v := 17) rfl rfl rfl rfl rfl hs.1 (mo_s17 hs).1 (by omega) ?_
    refine sw_p 8 (f' := (138, [some (2, 0), some (0, x), some (0, e), some (0, c), some (0, 1), o5, o6], [(0, 1), (0, c), (2, 0), (0, (3 * c) + 1), (2, 17)])) rfl ?_
    refine sw_cv1 (pn := 141) (q0 := mj_Mo_fits) (q := mj_Mo_sizeOf) (p := 0) (as2 := [(0, c), (0, 1)]) (L2 := [some (2, 0), some (0, c), some (0, 1)]) (rest := [(0, (3 * c) + 1), (2, 17)]) (v := some (0, ν 9 (3 * (ν 13 c) + 1))) (s1 := s) (ν1 := (mm_u (ft_m ν c g q) 17 ((3 * c) + 0) (-1))) rfl rfl rfl rfl rfl rfl rfl rfl rfl hs.1 (by have h := mo_sizeOf (E := E) (d := d) (s := s) (ν := (mm_u (ft_m ν c g q) 17 ((3 * c) + 0) (-1))) (c := c) (k := 1) hs (by omega) (by omega) (by rw [show (mm_u (ft_m ν c g q) 17 ((3 * c) + 0) (-1)) 13 c = ν 13 c from (mm_u_ne (by omega)).trans (ft_ne (by omega) (by omega))]; omega); rw [show (mm_u (ft_m ν c g q) 17 ((3 * c) + 0) (-1)) 13 c = ν 13 c from (mm_u_ne (by omega)).trans (ft_ne (by omega) (by omega)), show (mm_u (ft_m ν c g q) 17 ((3 * c) + 0) (-1)) 9 (3 * (ν 13 c) + 1) = ν 9 (3 * (ν 13 c) + 1) from (mm_u_ne (by omega)).trans (ft_ne (by omega) (by omega))] at h; exact h) ?_
    show sw_w E _ 97 (141, [some (2, 0), some (0, x), some (0, e), some (0, c), some (0, 1), o5, o6], [(0, ν 9 (3 * (ν 13 c) + 1)), (0, (3 * c) + 1), (2, 17)]) s (mm_u (ft_m ν c g q) 17 ((3 * c) + 0) (-1)) _
    refine sw_le1 (pt := 158) (pn := 144) rfl rfl rfl (by omega) (fun h5 => ?_) (fun h5 => ?_)
    · skip
      refine sw_p 1 (f' := (159, [some (2, 0), some (0, x), some (0, e), some (0, c), some (0, 1), o5, o6], [(0, -1), (0, (3 * c) + 1), (2, 17)])) rfl ?_
      refine sw_ias (pn := 160) (l := 120) rfl rfl (by omega) (mo_s17 hs).2.1 (mo_s17 hs).2.2 (by omega) (by omega) ?_
      refine sw_p 4 (f' := (121, [some (2, 0), some (0, x), some (0, e), some (0, c), some (0, 2), o5, o6], [(0, 3), (0, 2)])) rfl ?_
      refine sw_ge2 (pt := 166) (pn := 124) rfl rfl rfl (by omega) (by omega) (fun h => absurd h (by decide)) (fun _ => ?_)
      refine sw_p 1 (f' := (125, [some (2, 0), some (0, x), some (0, e), some (0, c), some (0, 2), o5, o6], [(2, 0)])) rfl ?_
      refine sw_hA (pn := 128) (i := 17) (v := 17) rfl rfl rfl rfl rfl hs.1 (mo_s17 hs).1 (by omega) ?_
      refine sw_p 8 (f' := (138, [some (2, 0), some (0, x), some (0, e), some (0, c), some (0, 2), o5, o6], [(0, 2), (0, c), (2, 0), (0, (3 * c) + 2), (2, 17)])) rfl ?_
      refine sw_cv1 (pn := 141) (q0 := mj_Mo_fits) (q := mj_Mo_sizeOf) (p := 0) (as2 := [(0, c), (0, 2)]) (L2 := [some (2, 0), some (0, c), some (0, 2)]) (rest := [(0, (3 * c) + 2), (2, 17)]) (v := some (0, ν 9 (3 * (ν 13 c) + 2))) (s1 := s) (ν1 := (mm_u (mm_u (ft_m ν c g q) 17 ((3 * c) + 0) (-1)) 17 ((3 * c) + 1) (-1))) rfl rfl rfl rfl rfl rfl rfl rfl rfl hs.1 (by have h := mo_sizeOf (E := E) (d := d) (s := s) (ν := (mm_u (mm_u (ft_m ν c g q) 17 ((3 * c) + 0) (-1)) 17 ((3 * c) + 1) (-1))) (c := c) (k := 2) hs (by omega) (by omega) (by rw [show (mm_u (mm_u (ft_m ν c g q) 17 ((3 * c) + 0) (-1)) 17 ((3 * c) + 1) (-1)) 13 c = ν 13 c from (mm_u_ne (by omega)).trans ((mm_u_ne (by omega)).trans (ft_ne (by omega) (by omega)))]; omega); rw [show (mm_u (mm_u (ft_m ν c g q) 17 ((3 * c) + 0) (-1)) 17 ((3 * c) + 1) (-1)) 13 c = ν 13 c from (mm_u_ne (by omega)).trans ((mm_u_ne (by omega)).trans (ft_ne (by omega) (by omega))), show (mm_u (mm_u (ft_m ν c g q) 17 ((3 * c) + 0) (-1)) 17 ((3 * c) + 1) (-1)) 9 (3 * (ν 13 c) + 2) = ν 9 (3 * (ν 13 c) + 2) from (mm_u_ne (by omega)).trans ((mm_u_ne (by omega)).trans (ft_ne (by omega) (by omega)))] at h; exact h) ?_
      show sw_w E _ 97 (141, [some (2, 0), some (0, x), some (0, e), some (0, c), some (0, 2), o5, o6], [(0, ν 9 (3 * (ν 13 c) + 2)), (0, (3 * c) + 2), (2, 17)]) s (mm_u (mm_u (ft_m ν c g q) 17 ((3 * c) + 0) (-1)) 17 ((3 * c) + 1) (-1)) _
      refine sw_le1 (pt := 158) (pn := 144) rfl rfl rfl (by omega) (fun h7 => ?_) (fun h7 => ?_)
      · skip
        refine sw_p 1 (f' := (159, [some (2, 0), some (0, x), some (0, e), some (0, c), some (0, 2), o5, o6], [(0, -1), (0, (3 * c) + 2), (2, 17)])) rfl ?_
        refine sw_ias (pn := 160) (l := 120) rfl rfl (by omega) (mo_s17 hs).2.1 (mo_s17 hs).2.2 (by omega) (by omega) ?_
        refine sw_p 4 (f' := (121, [some (2, 0), some (0, x), some (0, e), some (0, c), some (0, 3), o5, o6], [(0, 3), (0, 3)])) rfl ?_
        refine sw_ge2 (pt := 166) (pn := 124) rfl rfl rfl (by omega) (by omega) (fun _ => ?_) (fun h => absurd h (by decide))
        refine sw_p 1 (f' := (167, [some (2, 0), some (0, x), some (0, e), some (0, c), some (0, 3), o5, o6], [(2, 0)])) rfl ?_
        refine sw_hA (pn := 170) (i := 5) (v := 5) rfl rfl rfl rfl rfl hs.1 (mo_s5 hs).1 (by omega) ?_
        refine sw_p 1 (f' := (171, [some (2, 0), some (0, x), some (0, e), some (0, c), some (0, 3), o5, o6], [(2, 0), (2, 5)])) rfl ?_
        refine sw_hA (pn := 174) (i := 14) (v := 14) rfl rfl rfl rfl rfl hs.1 (mo_s14 hs).1 (by omega) ?_
        refine sw_p 1 (f' := (175, [some (2, 0), some (0, x), some (0, e), some (0, c), some (0, 3), o5, o6], [(0, c), (2, 14), (2, 5)])) rfl ?_
        refine sw_ial (pn := 176) (l := 40) rfl rfl (by omega) (mo_s14 hs).2.1 (mo_s14 hs).2.2 (by omega) (by omega) ?_
        rw [show (mm_u (mm_u (mm_u (ft_m ν c g q) 17 ((3 * c) + 0) (-1)) 17 ((3 * c) + 1) (-1)) 17 ((3 * c) + 2) (-1)) 14 c = ν 14 c from (mm_u_ne (by omega)).trans ((mm_u_ne (by omega)).trans ((mm_u_ne (by omega)).trans (ft_ne (by omega) (by omega))))]
        refine sw_p 1 (f' := (177, [some (2, 0), some (0, x), some (0, e), some (0, c), some (0, 3), o5, o6], [(0, x), (0, ν 14 c), (2, 5)])) rfl ?_
        refine sw_ias (pn := 178) (l := 8) rfl rfl (by omega) (mo_s5 hs).2.1 (mo_s5 hs).2.2 (by omega) (by omega) ?_
        refine sw_p 1 (f' := (179, [some (2, 0), some (0, x), some (0, e), some (0, c), some (0, 3), o5, o6], [(2, 0)])) rfl ?_
        refine sw_hA (pn := 182) (i := 6) (v := 6) rfl rfl rfl rfl rfl hs.1 (mo_s6 hs).1 (by omega) ?_
        refine sw_p 1 (f' := (183, [some (2, 0), some (0, x), some (0, e), some (0, c), some (0, 3), o5, o6], [(2, 0), (2, 6)])) rfl ?_
        refine sw_hA (pn := 186) (i := 14) (v := 14) rfl rfl rfl rfl rfl hs.1 (mo_s14 hs).1 (by omega) ?_
        refine sw_p 1 (f' := (187, [some (2, 0), some (0, x), some (0, e), some (0, c), some (0, 3), o5, o6], [(0, c), (2, 14), (2, 6)])) rfl ?_
        refine sw_ial (pn := 188) (l := 40) rfl rfl (by omega) (mo_s14 hs).2.1 (mo_s14 hs).2.2 (by omega) (by omega) ?_
        rw [show (mm_u (mm_u (mm_u (mm_u (ft_m ν c g q) 17 ((3 * c) + 0) (-1)) 17 ((3 * c) + 1) (-1)) 17 ((3 * c) + 2) (-1)) 5 (ν 14 c) x) 14 c = ν 14 c from (mm_u_ne (by omega)).trans ((mm_u_ne (by omega)).trans ((mm_u_ne (by omega)).trans ((mm_u_ne (by omega)).trans (ft_ne (by omega) (by omega)))))]
        refine sw_p 1 (f' := (189, [some (2, 0), some (0, x), some (0, e), some (0, c), some (0, 3), o5, o6], [(0, e), (0, ν 14 c), (2, 6)])) rfl ?_
        refine sw_ias (pn := 190) (l := 8) rfl rfl (by omega) (mo_s6 hs).2.1 (mo_s6 hs).2.2 (by omega) (by omega) ?_
        refine sw_p 1 (f' := (191, [some (2, 0), some (0, x), some (0, e), some (0, c), some (0, 3), o5, o6], [(0, 1)])) rfl ?_
        exact sw_retZ rfl rfl rfl (by omega) (ft_end hg (if_neg (by omega)).symm (if_neg (by omega)).symm (if_neg (by omega)).symm)
      · skip
        refine sw_p 1 (f' := (145, [some (2, 0), some (0, x), some (0, e), some (0, c), some (0, 2), o5, o6], [(2, 0), (0, (3 * c) + 2), (2, 17)])) rfl ?_
        refine sw_hA (pn := 148) (i := 18) (v := 18) rfl rfl rfl rfl rfl hs.1 (mo_s18 hs).1 (by omega) ?_
        refine sw_p 5 (f' := (154, [some (2, 0), some (0, x), some (0, e), some (0, c), some (0, 2), o5, o6], [(0, (3 * c) + 2), (2, 18), (0, (3 * c) + 2), (2, 17)])) rfl ?_
        refine sw_ial (pn := 155) (l := 120) rfl rfl (by omega) (mo_s18 hs).2.1 (mo_s18 hs).2.2 (by omega) (by omega) ?_
        rw [show (mm_u (mm_u (ft_m ν c g q) 17 ((3 * c) + 0) (-1)) 17 ((3 * c) + 1) (-1)) 18 ((3 * c) + 2) = q 2 from (mm_u_ne (by omega)).trans ((mm_u_ne (by omega)).trans (ft_18 (by omega)))]
        refine sw_p 1 (f' := (159, [some (2, 0), some (0, x), some (0, e), some (0, c), some (0, 2), o5, o6], [(0, q 2), (0, (3 * c) + 2), (2, 17)])) rfl ?_
        refine sw_ias (pn := 160) (l := 120) rfl rfl (by omega) (mo_s17 hs).2.1 (mo_s17 hs).2.2 (by omega) (by omega) ?_
        refine sw_p 4 (f' := (121, [some (2, 0), some (0, x), some (0, e), some (0, c), some (0, 3), o5, o6], [(0, 3), (0, 3)])) rfl ?_
        refine sw_ge2 (pt := 166) (pn := 124) rfl rfl rfl (by omega) (by omega) (fun _ => ?_) (fun h => absurd h (by decide))
        refine sw_p 1 (f' := (167, [some (2, 0), some (0, x), some (0, e), some (0, c), some (0, 3), o5, o6], [(2, 0)])) rfl ?_
        refine sw_hA (pn := 170) (i := 5) (v := 5) rfl rfl rfl rfl rfl hs.1 (mo_s5 hs).1 (by omega) ?_
        refine sw_p 1 (f' := (171, [some (2, 0), some (0, x), some (0, e), some (0, c), some (0, 3), o5, o6], [(2, 0), (2, 5)])) rfl ?_
        refine sw_hA (pn := 174) (i := 14) (v := 14) rfl rfl rfl rfl rfl hs.1 (mo_s14 hs).1 (by omega) ?_
        refine sw_p 1 (f' := (175, [some (2, 0), some (0, x), some (0, e), some (0, c), some (0, 3), o5, o6], [(0, c), (2, 14), (2, 5)])) rfl ?_
        refine sw_ial (pn := 176) (l := 40) rfl rfl (by omega) (mo_s14 hs).2.1 (mo_s14 hs).2.2 (by omega) (by omega) ?_
        rw [show (mm_u (mm_u (mm_u (ft_m ν c g q) 17 ((3 * c) + 0) (-1)) 17 ((3 * c) + 1) (-1)) 17 ((3 * c) + 2) (q 2)) 14 c = ν 14 c from (mm_u_ne (by omega)).trans ((mm_u_ne (by omega)).trans ((mm_u_ne (by omega)).trans (ft_ne (by omega) (by omega))))]
        refine sw_p 1 (f' := (177, [some (2, 0), some (0, x), some (0, e), some (0, c), some (0, 3), o5, o6], [(0, x), (0, ν 14 c), (2, 5)])) rfl ?_
        refine sw_ias (pn := 178) (l := 8) rfl rfl (by omega) (mo_s5 hs).2.1 (mo_s5 hs).2.2 (by omega) (by omega) ?_
        refine sw_p 1 (f' := (179, [some (2, 0), some (0, x), some (0, e), some (0, c), some (0, 3), o5, o6], [(2, 0)])) rfl ?_
        refine sw_hA (pn := 182) (i := 6) (v := 6) rfl rfl rfl rfl rfl hs.1 (mo_s6 hs).1 (by omega) ?_
        refine sw_p 1 (f' := (183, [some (2, 0), some (0, x), some (0, e), some (0, c), some (0, 3), o5, o6], [(2, 0), (2, 6)])) rfl ?_
        refine sw_hA (pn := 186) (i := 14) (v := 14) rfl rfl rfl rfl rfl hs.1 (mo_s14 hs).1 (by omega) ?_
        refine sw_p 1 (f' := (187, [some (2, 0), some (0, x), some (0, e), some (0, c), some (0, 3), o5, o6], [(0, c), (2, 14), (2, 6)])) rfl ?_
        refine sw_ial (pn := 188) (l := 40) rfl rfl (by omega) (mo_s14 hs).2.1 (mo_s14 hs).2.2 (by omega) (by omega) ?_
        rw [show (mm_u (mm_u (mm_u (mm_u (ft_m ν c g q) 17 ((3 * c) + 0) (-1)) 17 ((3 * c) + 1) (-1)) 17 ((3 * c) + 2) (q 2)) 5 (ν 14 c) x) 14 c = ν 14 c from (mm_u_ne (by omega)).trans ((mm_u_ne (by omega)).trans ((mm_u_ne (by omega)).trans ((mm_u_ne (by omega)).trans (ft_ne (by omega) (by omega)))))]
        refine sw_p 1 (f' := (189, [some (2, 0), some (0, x), some (0, e), some (0, c), some (0, 3), o5, o6], [(0, e), (0, ν 14 c), (2, 6)])) rfl ?_
        refine sw_ias (pn := 190) (l := 8) rfl rfl (by omega) (mo_s6 hs).2.1 (mo_s6 hs).2.2 (by omega) (by omega) ?_
        refine sw_p 1 (f' := (191, [some (2, 0), some (0, x), some (0, e), some (0, c), some (0, 3), o5, o6], [(0, 1)])) rfl ?_
        exact sw_retZ rfl rfl rfl (by omega) (ft_end hg (if_neg (by omega)).symm (if_neg (by omega)).symm (if_pos (by omega)).symm)
    · skip
      refine sw_p 1 (f' := (145, [some (2, 0), some (0, x), some (0, e), some (0, c), some (0, 1), o5, o6], [(2, 0), (0, (3 * c) + 1), (2, 17)])) rfl ?_
      refine sw_hA (pn := 148) (i := 18) (v := 18) rfl rfl rfl rfl rfl hs.1 (mo_s18 hs).1 (by omega) ?_
      refine sw_p 5 (f' := (154, [some (2, 0), some (0, x), some (0, e), some (0, c), some (0, 1), o5, o6], [(0, (3 * c) + 1), (2, 18), (0, (3 * c) + 1), (2, 17)])) rfl ?_
      refine sw_ial (pn := 155) (l := 120) rfl rfl (by omega) (mo_s18 hs).2.1 (mo_s18 hs).2.2 (by omega) (by omega) ?_
      rw [show (mm_u (ft_m ν c g q) 17 ((3 * c) + 0) (-1)) 18 ((3 * c) + 1) = q 1 from (mm_u_ne (by omega)).trans (ft_18 (by omega))]
      refine sw_p 1 (f' := (159, [some (2, 0), some (0, x), some (0, e), some (0, c), some (0, 1), o5, o6], [(0, q 1), (0, (3 * c) + 1), (2, 17)])) rfl ?_
      refine sw_ias (pn := 160) (l := 120) rfl rfl (by omega) (mo_s17 hs).2.1 (mo_s17 hs).2.2 (by omega) (by omega) ?_
      refine sw_p 4 (f' := (121, [some (2, 0), some (0, x), some (0, e), some (0, c), some (0, 2), o5, o6], [(0, 3), (0, 2)])) rfl ?_
      refine sw_ge2 (pt := 166) (pn := 124) rfl rfl rfl (by omega) (by omega) (fun h => absurd h (by decide)) (fun _ => ?_)
      refine sw_p 1 (f' := (125, [some (2, 0), some (0, x), some (0, e), some (0, c), some (0, 2), o5, o6], [(2, 0)])) rfl ?_
      refine sw_hA (pn := 128) (i := 17) (v := 17) rfl rfl rfl rfl rfl hs.1 (mo_s17 hs).1 (by omega) ?_
      refine sw_p 8 (f' := (138, [some (2, 0), some (0, x), some (0, e), some (0, c), some (0, 2), o5, o6], [(0, 2), (0, c), (2, 0), (0, (3 * c) + 2), (2, 17)])) rfl ?_
      refine sw_cv1 (pn := 141) (q0 := mj_Mo_fits) (q := mj_Mo_sizeOf) (p := 0) (as2 := [(0, c), (0, 2)]) (L2 := [some (2, 0), some (0, c), some (0, 2)]) (rest := [(0, (3 * c) + 2), (2, 17)]) (v := some (0, ν 9 (3 * (ν 13 c) + 2))) (s1 := s) (ν1 := (mm_u (mm_u (ft_m ν c g q) 17 ((3 * c) + 0) (-1)) 17 ((3 * c) + 1) (q 1))) rfl rfl rfl rfl rfl rfl rfl rfl rfl hs.1 (by have h := mo_sizeOf (E := E) (d := d) (s := s) (ν := (mm_u (mm_u (ft_m ν c g q) 17 ((3 * c) + 0) (-1)) 17 ((3 * c) + 1) (q 1))) (c := c) (k := 2) hs (by omega) (by omega) (by rw [show (mm_u (mm_u (ft_m ν c g q) 17 ((3 * c) + 0) (-1)) 17 ((3 * c) + 1) (q 1)) 13 c = ν 13 c from (mm_u_ne (by omega)).trans ((mm_u_ne (by omega)).trans (ft_ne (by omega) (by omega)))]; omega); rw [show (mm_u (mm_u (ft_m ν c g q) 17 ((3 * c) + 0) (-1)) 17 ((3 * c) + 1) (q 1)) 13 c = ν 13 c from (mm_u_ne (by omega)).trans ((mm_u_ne (by omega)).trans (ft_ne (by omega) (by omega))), show (mm_u (mm_u (ft_m ν c g q) 17 ((3 * c) + 0) (-1)) 17 ((3 * c) + 1) (q 1)) 9 (3 * (ν 13 c) + 2) = ν 9 (3 * (ν 13 c) + 2) from (mm_u_ne (by omega)).trans ((mm_u_ne (by omega)).trans (ft_ne (by omega) (by omega)))] at h; exact h) ?_
      show sw_w E _ 97 (141, [some (2, 0), some (0, x), some (0, e), some (0, c), some (0, 2), o5, o6], [(0, ν 9 (3 * (ν 13 c) + 2)), (0, (3 * c) + 2), (2, 17)]) s (mm_u (mm_u (ft_m ν c g q) 17 ((3 * c) + 0) (-1)) 17 ((3 * c) + 1) (q 1)) _
      refine sw_le1 (pt := 158) (pn := 144) rfl rfl rfl (by omega) (fun h11 => ?_) (fun h11 => ?_)
      · skip
        refine sw_p 1 (f' := (159, [some (2, 0), some (0, x), some (0, e), some (0, c), some (0, 2), o5, o6], [(0, -1), (0, (3 * c) + 2), (2, 17)])) rfl ?_
        refine sw_ias (pn := 160) (l := 120) rfl rfl (by omega) (mo_s17 hs).2.1 (mo_s17 hs).2.2 (by omega) (by omega) ?_
        refine sw_p 4 (f' := (121, [some (2, 0), some (0, x), some (0, e), some (0, c), some (0, 3), o5, o6], [(0, 3), (0, 3)])) rfl ?_
        refine sw_ge2 (pt := 166) (pn := 124) rfl rfl rfl (by omega) (by omega) (fun _ => ?_) (fun h => absurd h (by decide))
        refine sw_p 1 (f' := (167, [some (2, 0), some (0, x), some (0, e), some (0, c), some (0, 3), o5, o6], [(2, 0)])) rfl ?_
        refine sw_hA (pn := 170) (i := 5) (v := 5) rfl rfl rfl rfl rfl hs.1 (mo_s5 hs).1 (by omega) ?_
        refine sw_p 1 (f' := (171, [some (2, 0), some (0, x), some (0, e), some (0, c), some (0, 3), o5, o6], [(2, 0), (2, 5)])) rfl ?_
        refine sw_hA (pn := 174) (i := 14) (v := 14) rfl rfl rfl rfl rfl hs.1 (mo_s14 hs).1 (by omega) ?_
        refine sw_p 1 (f' := (175, [some (2, 0), some (0, x), some (0, e), some (0, c), some (0, 3), o5, o6], [(0, c), (2, 14), (2, 5)])) rfl ?_
        refine sw_ial (pn := 176) (l := 40) rfl rfl (by omega) (mo_s14 hs).2.1 (mo_s14 hs).2.2 (by omega) (by omega) ?_
        rw [show (mm_u (mm_u (mm_u (ft_m ν c g q) 17 ((3 * c) + 0) (-1)) 17 ((3 * c) + 1) (q 1)) 17 ((3 * c) + 2) (-1)) 14 c = ν 14 c from (mm_u_ne (by omega)).trans ((mm_u_ne (by omega)).trans ((mm_u_ne (by omega)).trans (ft_ne (by omega) (by omega))))]
        refine sw_p 1 (f' := (177, [some (2, 0), some (0, x), some (0, e), some (0, c), some (0, 3), o5, o6], [(0, x), (0, ν 14 c), (2, 5)])) rfl ?_
        refine sw_ias (pn := 178) (l := 8) rfl rfl (by omega) (mo_s5 hs).2.1 (mo_s5 hs).2.2 (by omega) (by omega) ?_
        refine sw_p 1 (f' := (179, [some (2, 0), some (0, x), some (0, e), some (0, c), some (0, 3), o5, o6], [(2, 0)])) rfl ?_
        refine sw_hA (pn := 182) (i := 6) (v := 6) rfl rfl rfl rfl rfl hs.1 (mo_s6 hs).1 (by omega) ?_
        refine sw_p 1 (f' := (183, [some (2, 0), some (0, x), some (0, e), some (0, c), some (0, 3), o5, o6], [(2, 0), (2, 6)])) rfl ?_
        refine sw_hA (pn := 186) (i := 14) (v := 14) rfl rfl rfl rfl rfl hs.1 (mo_s14 hs).1 (by omega) ?_
        refine sw_p 1 (f' := (187, [some (2, 0), some (0, x), some (0, e), some (0, c), some (0, 3), o5, o6], [(0, c), (2, 14), (2, 6)])) rfl ?_
        refine sw_ial (pn := 188) (l := 40) rfl rfl (by omega) (mo_s14 hs).2.1 (mo_s14 hs).2.2 (by omega) (by omega) ?_
        rw [show (mm_u (mm_u (mm_u (mm_u (ft_m ν c g q) 17 ((3 * c) + 0) (-1)) 17 ((3 * c) + 1) (q 1)) 17 ((3 * c) + 2) (-1)) 5 (ν 14 c) x) 14 c = ν 14 c from (mm_u_ne (by omega)).trans ((mm_u_ne (by omega)).trans ((mm_u_ne (by omega)).trans ((mm_u_ne (by omega)).trans (ft_ne (by omega) (by omega)))))]
        refine sw_p 1 (f' := (189, [some (2, 0), some (0, x), some (0, e), some (0, c), some (0, 3), o5, o6], [(0, e), (0, ν 14 c), (2, 6)])) rfl ?_
        refine sw_ias (pn := 190) (l := 8) rfl rfl (by omega) (mo_s6 hs).2.1 (mo_s6 hs).2.2 (by omega) (by omega) ?_
        refine sw_p 1 (f' := (191, [some (2, 0), some (0, x), some (0, e), some (0, c), some (0, 3), o5, o6], [(0, 1)])) rfl ?_
        exact sw_retZ rfl rfl rfl (by omega) (ft_end hg (if_neg (by omega)).symm (if_pos (by omega)).symm (if_neg (by omega)).symm)
      · skip
        refine sw_p 1 (f' := (145, [some (2, 0), some (0, x), some (0, e), some (0, c), some (0, 2), o5, o6], [(2, 0), (0, (3 * c) + 2), (2, 17)])) rfl ?_
        refine sw_hA (pn := 148) (i := 18) (v := 18) rfl rfl rfl rfl rfl hs.1 (mo_s18 hs).1 (by omega) ?_
        refine sw_p 5 (f' := (154, [some (2, 0), some (0, x), some (0, e), some (0, c), some (0, 2), o5, o6], [(0, (3 * c) + 2), (2, 18), (0, (3 * c) + 2), (2, 17)])) rfl ?_
        refine sw_ial (pn := 155) (l := 120) rfl rfl (by omega) (mo_s18 hs).2.1 (mo_s18 hs).2.2 (by omega) (by omega) ?_
        rw [show (mm_u (mm_u (ft_m ν c g q) 17 ((3 * c) + 0) (-1)) 17 ((3 * c) + 1) (q 1)) 18 ((3 * c) + 2) = q 2 from (mm_u_ne (by omega)).trans ((mm_u_ne (by omega)).trans (ft_18 (by omega)))]
        refine sw_p 1 (f' := (159, [some (2, 0), some (0, x), some (0, e), some (0, c), some (0, 2), o5, o6], [(0, q 2), (0, (3 * c) + 2), (2, 17)])) rfl ?_
        refine sw_ias (pn := 160) (l := 120) rfl rfl (by omega) (mo_s17 hs).2.1 (mo_s17 hs).2.2 (by omega) (by omega) ?_
        refine sw_p 4 (f' := (121, [some (2, 0), some (0, x), some (0, e), some (0, c), some (0, 3), o5, o6], [(0, 3), (0, 3)])) rfl ?_
        refine sw_ge2 (pt := 166) (pn := 124) rfl rfl rfl (by omega) (by omega) (fun _ => ?_) (fun h => absurd h (by decide))
        refine sw_p 1 (f' := (167, [some (2, 0), some (0, x), some (0, e), some (0, c), some (0, 3), o5, o6], [(2, 0)])) rfl ?_
        refine sw_hA (pn := 170) (i := 5) (v := 5) rfl rfl rfl rfl rfl hs.1 (mo_s5 hs).1 (by omega) ?_
        refine sw_p 1 (f' := (171, [some (2, 0), some (0, x), some (0, e), some (0, c), some (0, 3), o5, o6], [(2, 0), (2, 5)])) rfl ?_
        refine sw_hA (pn := 174) (i := 14) (v := 14) rfl rfl rfl rfl rfl hs.1 (mo_s14 hs).1 (by omega) ?_
        refine sw_p 1 (f' := (175, [some (2, 0), some (0, x), some (0, e), some (0, c), some (0, 3), o5, o6], [(0, c), (2, 14), (2, 5)])) rfl ?_
        refine sw_ial (pn := 176) (l := 40) rfl rfl (by omega) (mo_s14 hs).2.1 (mo_s14 hs).2.2 (by omega) (by omega) ?_
        rw [show (mm_u (mm_u (mm_u (ft_m ν c g q) 17 ((3 * c) + 0) (-1)) 17 ((3 * c) + 1) (q 1)) 17 ((3 * c) + 2) (q 2)) 14 c = ν 14 c from (mm_u_ne (by omega)).trans ((mm_u_ne (by omega)).trans ((mm_u_ne (by omega)).trans (ft_ne (by omega) (by omega))))]
        refine sw_p 1 (f' := (177, [some (2, 0), some (0, x), some (0, e), some (0, c), some (0, 3), o5, o6], [(0, x), (0, ν 14 c), (2, 5)])) rfl ?_
        refine sw_ias (pn := 178) (l := 8) rfl rfl (by omega) (mo_s5 hs).2.1 (mo_s5 hs).2.2 (by omega) (by omega) ?_
        refine sw_p 1 (f' := (179, [some (2, 0), some (0, x), some (0, e), some (0, c), some (0, 3), o5, o6], [(2, 0)])) rfl ?_
        refine sw_hA (pn := 182) (i := 6) (v := 6) rfl rfl rfl rfl rfl hs.1 (mo_s6 hs).1 (by omega) ?_
        refine sw_p 1 (f' := (183, [some (2, 0), some (0, x), some (0, e), some (0, c), some (0, 3), o5, o6], [(2, 0), (2, 6)])) rfl ?_
        refine sw_hA (pn := 186) (i := 14) (v := 14) rfl rfl rfl rfl rfl hs.1 (mo_s14 hs).1 (by omega) ?_
        refine sw_p 1 (f' := (187, [some (2, 0), some (0, x), some (0, e), some (0, c), some (0, 3), o5, o6], [(0, c), (2, 14), (2, 6)])) rfl ?_
        refine sw_ial (pn := 188) (l := 40) rfl rfl (by omega) (mo_s14 hs).2.1 (mo_s14 hs).2.2 (by omega) (by omega) ?_
        rw [show (mm_u (mm_u (mm_u (mm_u (ft_m ν c g q) 17 ((3 * c) + 0) (-1)) 17 ((3 * c) + 1) (q 1)) 17 ((3 * c) + 2) (q 2)) 5 (ν 14 c) x) 14 c = ν 14 c from (mm_u_ne (by omega)).trans ((mm_u_ne (by omega)).trans ((mm_u_ne (by omega)).trans ((mm_u_ne (by omega)).trans (ft_ne (by omega) (by omega)))))]
        refine sw_p 1 (f' := (189, [some (2, 0), some (0, x), some (0, e), some (0, c), some (0, 3), o5, o6], [(0, e), (0, ν 14 c), (2, 6)])) rfl ?_
        refine sw_ias (pn := 190) (l := 8) rfl rfl (by omega) (mo_s6 hs).2.1 (mo_s6 hs).2.2 (by omega) (by omega) ?_
        refine sw_p 1 (f' := (191, [some (2, 0), some (0, x), some (0, e), some (0, c), some (0, 3), o5, o6], [(0, 1)])) rfl ?_
        exact sw_retZ rfl rfl rfl (by omega) (ft_end hg (if_neg (by omega)).symm (if_pos (by omega)).symm (if_pos (by omega)).symm)
  · skip
    refine sw_p 1 (f' := (145, [some (2, 0), some (0, x), some (0, e), some (0, c), some (0, 0), o5, o6], [(2, 0), (0, (3 * c) + 0), (2, 17)])) rfl ?_
    refine sw_hA (pn := 148) (i := 18) (v := 18) rfl rfl rfl rfl rfl hs.1 (mo_s18 hs).1 (by omega) ?_
    refine sw_p 5 (f' := (154, [some (2, 0), some (0, x), some (0, e), some (0, c), some (0, 0), o5, o6], [(0, (3 * c) + 0), (2, 18), (0, (3 * c) + 0), (2, 17)])) rfl ?_
    refine sw_ial (pn := 155) (l := 120) rfl rfl (by omega) (mo_s18 hs).2.1 (mo_s18 hs).2.2 (by omega) (by omega) ?_
    rw [show (ft_m ν c g q) 18 ((3 * c) + 0) = q 0 from ft_18 (by omega)]
    refine sw_p 1 (f' := (159, [some (2, 0), some (0, x), some (0, e), some (0, c), some (0, 0), o5, o6], [(0, q 0), (0, (3 * c) + 0), (2, 17)])) rfl ?_
    refine sw_ias (pn := 160) (l := 120) rfl rfl (by omega) (mo_s17 hs).2.1 (mo_s17 hs).2.2 (by omega) (by omega) ?_
    refine sw_p 4 (f' := (121, [some (2, 0), some (0, x), some (0, e), some (0, c), some (0, 1), o5, o6], [(0, 3), (0, 1)])) rfl ?_
    refine sw_ge2 (pt := 166) (pn := 124) rfl rfl rfl (by omega) (by omega) (fun h => absurd h (by decide)) (fun _ => ?_)
    refine sw_p 1 (f' := (125, [some (2, 0), some (0, x), some (0, e), some (0, c), some (0, 1), o5, o6], [(2, 0)])) rfl ?_
    refine sw_hA (pn := 128) (i := 17) (v := 17) rfl rfl rfl rfl rfl hs.1 (mo_s17 hs).1 (by omega) ?_
    refine sw_p 8 (f' := (138, [some (2, 0), some (0, x), some (0, e), some (0, c), some (0, 1), o5, o6], [(0, 1), (0, c), (2, 0), (0, (3 * c) + 1), (2, 17)])) rfl ?_
    refine sw_cv1 (pn := 141) (q0 := mj_Mo_fits) (q := mj_Mo_sizeOf) (p := 0) (as2 := [(0, c), (0, 1)]) (L2 := [some (2, 0), some (0, c), some (0, 1)]) (rest := [(0, (3 * c) + 1), (2, 17)]) (v := some (0, ν 9 (3 * (ν 13 c) + 1))) (s1 := s) (ν1 := (mm_u (ft_m ν c g q) 17 ((3 * c) + 0) (q 0))) rfl rfl rfl rfl rfl rfl rfl rfl rfl hs.1 (by have h := mo_sizeOf (E := E) (d := d) (s := s) (ν := (mm_u (ft_m ν c g q) 17 ((3 * c) + 0) (q 0))) (c := c) (k := 1) hs (by omega) (by omega) (by rw [show (mm_u (ft_m ν c g q) 17 ((3 * c) + 0) (q 0)) 13 c = ν 13 c from (mm_u_ne (by omega)).trans (ft_ne (by omega) (by omega))]; omega); rw [show (mm_u (ft_m ν c g q) 17 ((3 * c) + 0) (q 0)) 13 c = ν 13 c from (mm_u_ne (by omega)).trans (ft_ne (by omega) (by omega)), show (mm_u (ft_m ν c g q) 17 ((3 * c) + 0) (q 0)) 9 (3 * (ν 13 c) + 1) = ν 9 (3 * (ν 13 c) + 1) from (mm_u_ne (by omega)).trans (ft_ne (by omega) (by omega))] at h; exact h) ?_
    show sw_w E _ 97 (141, [some (2, 0), some (0, x), some (0, e), some (0, c), some (0, 1), o5, o6], [(0, ν 9 (3 * (ν 13 c) + 1)), (0, (3 * c) + 1), (2, 17)]) s (mm_u (ft_m ν c g q) 17 ((3 * c) + 0) (q 0)) _
    refine sw_le1 (pt := 158) (pn := 144) rfl rfl rfl (by omega) (fun h15 => ?_) (fun h15 => ?_)
    · skip
      refine sw_p 1 (f' := (159, [some (2, 0), some (0, x), some (0, e), some (0, c), some (0, 1), o5, o6], [(0, -1), (0, (3 * c) + 1), (2, 17)])) rfl ?_
      refine sw_ias (pn := 160) (l := 120) rfl rfl (by omega) (mo_s17 hs).2.1 (mo_s17 hs).2.2 (by omega) (by omega) ?_
      refine sw_p 4 (f' := (121, [some (2, 0), some (0, x), some (0, e), some (0, c), some (0, 2), o5, o6], [(0, 3), (0, 2)])) rfl ?_
      refine sw_ge2 (pt := 166) (pn := 124) rfl rfl rfl (by omega) (by omega) (fun h => absurd h (by decide)) (fun _ => ?_)
      refine sw_p 1 (f' := (125, [some (2, 0), some (0, x), some (0, e), some (0, c), some (0, 2), o5, o6], [(2, 0)])) rfl ?_
      refine sw_hA (pn := 128) (i := 17) (v := 17) rfl rfl rfl rfl rfl hs.1 (mo_s17 hs).1 (by omega) ?_
      refine sw_p 8 (f' := (138, [some (2, 0), some (0, x), some (0, e), some (0, c), some (0, 2), o5, o6], [(0, 2), (0, c), (2, 0), (0, (3 * c) + 2), (2, 17)])) rfl ?_
      refine sw_cv1 (pn := 141) (q0 := mj_Mo_fits) (q := mj_Mo_sizeOf) (p := 0) (as2 := [(0, c), (0, 2)]) (L2 := [some (2, 0), some (0, c), some (0, 2)]) (rest := [(0, (3 * c) + 2), (2, 17)]) (v := some (0, ν 9 (3 * (ν 13 c) + 2))) (s1 := s) (ν1 := (mm_u (mm_u (ft_m ν c g q) 17 ((3 * c) + 0) (q 0)) 17 ((3 * c) + 1) (-1))) rfl rfl rfl rfl rfl rfl rfl rfl rfl hs.1 (by have h := mo_sizeOf (E := E) (d := d) (s := s) (ν := (mm_u (mm_u (ft_m ν c g q) 17 ((3 * c) + 0) (q 0)) 17 ((3 * c) + 1) (-1))) (c := c) (k := 2) hs (by omega) (by omega) (by rw [show (mm_u (mm_u (ft_m ν c g q) 17 ((3 * c) + 0) (q 0)) 17 ((3 * c) + 1) (-1)) 13 c = ν 13 c from (mm_u_ne (by omega)).trans ((mm_u_ne (by omega)).trans (ft_ne (by omega) (by omega)))]; omega); rw [show (mm_u (mm_u (ft_m ν c g q) 17 ((3 * c) + 0) (q 0)) 17 ((3 * c) + 1) (-1)) 13 c = ν 13 c from (mm_u_ne (by omega)).trans ((mm_u_ne (by omega)).trans (ft_ne (by omega) (by omega))), show (mm_u (mm_u (ft_m ν c g q) 17 ((3 * c) + 0) (q 0)) 17 ((3 * c) + 1) (-1)) 9 (3 * (ν 13 c) + 2) = ν 9 (3 * (ν 13 c) + 2) from (mm_u_ne (by omega)).trans ((mm_u_ne (by omega)).trans (ft_ne (by omega) (by omega)))] at h; exact h) ?_
      show sw_w E _ 97 (141, [some (2, 0), some (0, x), some (0, e), some (0, c), some (0, 2), o5, o6], [(0, ν 9 (3 * (ν 13 c) + 2)), (0, (3 * c) + 2), (2, 17)]) s (mm_u (mm_u (ft_m ν c g q) 17 ((3 * c) + 0) (q 0)) 17 ((3 * c) + 1) (-1)) _
      refine sw_le1 (pt := 158) (pn := 144) rfl rfl rfl (by omega) (fun h17 => ?_) (fun h17 => ?_)
      · skip
        refine sw_p 1 (f' := (159, [some (2, 0), some (0, x), some (0, e), some (0, c), some (0, 2), o5, o6], [(0, -1), (0, (3 * c) + 2), (2, 17)])) rfl ?_
        refine sw_ias (pn := 160) (l := 120) rfl rfl (by omega) (mo_s17 hs).2.1 (mo_s17 hs).2.2 (by omega) (by omega) ?_
        refine sw_p 4 (f' := (121, [some (2, 0), some (0, x), some (0, e), some (0, c), some (0, 3), o5, o6], [(0, 3), (0, 3)])) rfl ?_
        refine sw_ge2 (pt := 166) (pn := 124) rfl rfl rfl (by omega) (by omega) (fun _ => ?_) (fun h => absurd h (by decide))
        refine sw_p 1 (f' := (167, [some (2, 0), some (0, x), some (0, e), some (0, c), some (0, 3), o5, o6], [(2, 0)])) rfl ?_
        refine sw_hA (pn := 170) (i := 5) (v := 5) rfl rfl rfl rfl rfl hs.1 (mo_s5 hs).1 (by omega) ?_
        refine sw_p 1 (f' := (171, [some (2, 0), some (0, x), some (0, e), some (0, c), some (0, 3), o5, o6], [(2, 0), (2, 5)])) rfl ?_
        refine sw_hA (pn := 174) (i := 14) (v := 14) rfl rfl rfl rfl rfl hs.1 (mo_s14 hs).1 (by omega) ?_
        refine sw_p 1 (f' := (175, [some (2, 0), some (0, x), some (0, e), some (0, c), some (0, 3), o5, o6], [(0, c), (2, 14), (2, 5)])) rfl ?_
        refine sw_ial (pn := 176) (l := 40) rfl rfl (by omega) (mo_s14 hs).2.1 (mo_s14 hs).2.2 (by omega) (by omega) ?_
        rw [show (mm_u (mm_u (mm_u (ft_m ν c g q) 17 ((3 * c) + 0) (q 0)) 17 ((3 * c) + 1) (-1)) 17 ((3 * c) + 2) (-1)) 14 c = ν 14 c from (mm_u_ne (by omega)).trans ((mm_u_ne (by omega)).trans ((mm_u_ne (by omega)).trans (ft_ne (by omega) (by omega))))]
        refine sw_p 1 (f' := (177, [some (2, 0), some (0, x), some (0, e), some (0, c), some (0, 3), o5, o6], [(0, x), (0, ν 14 c), (2, 5)])) rfl ?_
        refine sw_ias (pn := 178) (l := 8) rfl rfl (by omega) (mo_s5 hs).2.1 (mo_s5 hs).2.2 (by omega) (by omega) ?_
        refine sw_p 1 (f' := (179, [some (2, 0), some (0, x), some (0, e), some (0, c), some (0, 3), o5, o6], [(2, 0)])) rfl ?_
        refine sw_hA (pn := 182) (i := 6) (v := 6) rfl rfl rfl rfl rfl hs.1 (mo_s6 hs).1 (by omega) ?_
        refine sw_p 1 (f' := (183, [some (2, 0), some (0, x), some (0, e), some (0, c), some (0, 3), o5, o6], [(2, 0), (2, 6)])) rfl ?_
        refine sw_hA (pn := 186) (i := 14) (v := 14) rfl rfl rfl rfl rfl hs.1 (mo_s14 hs).1 (by omega) ?_
        refine sw_p 1 (f' := (187, [some (2, 0), some (0, x), some (0, e), some (0, c), some (0, 3), o5, o6], [(0, c), (2, 14), (2, 6)])) rfl ?_
        refine sw_ial (pn := 188) (l := 40) rfl rfl (by omega) (mo_s14 hs).2.1 (mo_s14 hs).2.2 (by omega) (by omega) ?_
        rw [show (mm_u (mm_u (mm_u (mm_u (ft_m ν c g q) 17 ((3 * c) + 0) (q 0)) 17 ((3 * c) + 1) (-1)) 17 ((3 * c) + 2) (-1)) 5 (ν 14 c) x) 14 c = ν 14 c from (mm_u_ne (by omega)).trans ((mm_u_ne (by omega)).trans ((mm_u_ne (by omega)).trans ((mm_u_ne (by omega)).trans (ft_ne (by omega) (by omega)))))]
        refine sw_p 1 (f' := (189, [some (2, 0), some (0, x), some (0, e), some (0, c), some (0, 3), o5, o6], [(0, e), (0, ν 14 c), (2, 6)])) rfl ?_
        refine sw_ias (pn := 190) (l := 8) rfl rfl (by omega) (mo_s6 hs).2.1 (mo_s6 hs).2.2 (by omega) (by omega) ?_
        refine sw_p 1 (f' := (191, [some (2, 0), some (0, x), some (0, e), some (0, c), some (0, 3), o5, o6], [(0, 1)])) rfl ?_
        exact sw_retZ rfl rfl rfl (by omega) (ft_end hg (if_pos (by omega)).symm (if_neg (by omega)).symm (if_neg (by omega)).symm)
      · skip
        refine sw_p 1 (f' := (145, [some (2, 0), some (0, x), some (0, e), some (0, c), some (0, 2), o5, o6], [(2, 0), (0, (3 * c) + 2), (2, 17)])) rfl ?_
        refine sw_hA (pn := 148) (i := 18) (v := 18) rfl rfl rfl rfl rfl hs.1 (mo_s18 hs).1 (by omega) ?_
        refine sw_p 5 (f' := (154, [some (2, 0), some (0, x), some (0, e), some (0, c), some (0, 2), o5, o6], [(0, (3 * c) + 2), (2, 18), (0, (3 * c) + 2), (2, 17)])) rfl ?_
        refine sw_ial (pn := 155) (l := 120) rfl rfl (by omega) (mo_s18 hs).2.1 (mo_s18 hs).2.2 (by omega) (by omega) ?_
        rw [show (mm_u (mm_u (ft_m ν c g q) 17 ((3 * c) + 0) (q 0)) 17 ((3 * c) + 1) (-1)) 18 ((3 * c) + 2) = q 2 from (mm_u_ne (by omega)).trans ((mm_u_ne (by omega)).trans (ft_18 (by omega)))]
        refine sw_p 1 (f' := (159, [some (2, 0), some (0, x), some (0, e), some (0, c), some (0, 2), o5, o6], [(0, q 2), (0, (3 * c) + 2), (2, 17)])) rfl ?_
        refine sw_ias (pn := 160) (l := 120) rfl rfl (by omega) (mo_s17 hs).2.1 (mo_s17 hs).2.2 (by omega) (by omega) ?_
        refine sw_p 4 (f' := (121, [some (2, 0), some (0, x), some (0, e), some (0, c), some (0, 3), o5, o6], [(0, 3), (0, 3)])) rfl ?_
        refine sw_ge2 (pt := 166) (pn := 124) rfl rfl rfl (by omega) (by omega) (fun _ => ?_) (fun h => absurd h (by decide))
        refine sw_p 1 (f' := (167, [some (2, 0), some (0, x), some (0, e), some (0, c), some (0, 3), o5, o6], [(2, 0)])) rfl ?_
        refine sw_hA (pn := 170) (i := 5) (v := 5) rfl rfl rfl rfl rfl hs.1 (mo_s5 hs).1 (by omega) ?_
        refine sw_p 1 (f' := (171, [some (2, 0), some (0, x), some (0, e), some (0, c), some (0, 3), o5, o6], [(2, 0), (2, 5)])) rfl ?_
        refine sw_hA (pn := 174) (i := 14) (v := 14) rfl rfl rfl rfl rfl hs.1 (mo_s14 hs).1 (by omega) ?_
        refine sw_p 1 (f' := (175, [some (2, 0), some (0, x), some (0, e), some (0, c), some (0, 3), o5, o6], [(0, c), (2, 14), (2, 5)])) rfl ?_
        refine sw_ial (pn := 176) (l := 40) rfl rfl (by omega) (mo_s14 hs).2.1 (mo_s14 hs).2.2 (by omega) (by omega) ?_
        rw [show (mm_u (mm_u (mm_u (ft_m ν c g q) 17 ((3 * c) + 0) (q 0)) 17 ((3 * c) + 1) (-1)) 17 ((3 * c) + 2) (q 2)) 14 c = ν 14 c from (mm_u_ne (by omega)).trans ((mm_u_ne (by omega)).trans ((mm_u_ne (by omega)).trans (ft_ne (by omega) (by omega))))]
        refine sw_p 1 (f' := (177, [some (2, 0), some (0, x), some (0, e), some (0, c), some (0, 3), o5, o6], [(0, x), (0, ν 14 c), (2, 5)])) rfl ?_
        refine sw_ias (pn := 178) (l := 8) rfl rfl (by omega) (mo_s5 hs).2.1 (mo_s5 hs).2.2 (by omega) (by omega) ?_
        refine sw_p 1 (f' := (179, [some (2, 0), some (0, x), some (0, e), some (0, c), some (0, 3), o5, o6], [(2, 0)])) rfl ?_
        refine sw_hA (pn := 182) (i := 6) (v := 6) rfl rfl rfl rfl rfl hs.1 (mo_s6 hs).1 (by omega) ?_
        refine sw_p 1 (f' := (183, [some (2, 0), some (0, x), some (0, e), some (0, c), some (0, 3), o5, o6], [(2, 0), (2, 6)])) rfl ?_
        refine sw_hA (pn := 186) (i := 14) (v := 14) rfl rfl rfl rfl rfl hs.1 (mo_s14 hs).1 (by omega) ?_
        refine sw_p 1 (f' := (187, [some (2, 0), some (0, x), some (0, e), some (0, c), some (0, 3), o5, o6], [(0, c), (2, 14), (2, 6)])) rfl ?_
        refine sw_ial (pn := 188) (l := 40) rfl rfl (by omega) (mo_s14 hs).2.1 (mo_s14 hs).2.2 (by omega) (by omega) ?_
        rw [show (mm_u (mm_u (mm_u (mm_u (ft_m ν c g q) 17 ((3 * c) + 0) (q 0)) 17 ((3 * c) + 1) (-1)) 17 ((3 * c) + 2) (q 2)) 5 (ν 14 c) x) 14 c = ν 14 c from (mm_u_ne (by omega)).trans ((mm_u_ne (by omega)).trans ((mm_u_ne (by omega)).trans ((mm_u_ne (by omega)).trans (ft_ne (by omega) (by omega)))))]
        refine sw_p 1 (f' := (189, [some (2, 0), some (0, x), some (0, e), some (0, c), some (0, 3), o5, o6], [(0, e), (0, ν 14 c), (2, 6)])) rfl ?_
        refine sw_ias (pn := 190) (l := 8) rfl rfl (by omega) (mo_s6 hs).2.1 (mo_s6 hs).2.2 (by omega) (by omega) ?_
        refine sw_p 1 (f' := (191, [some (2, 0), some (0, x), some (0, e), some (0, c), some (0, 3), o5, o6], [(0, 1)])) rfl ?_
        exact sw_retZ rfl rfl rfl (by omega) (ft_end hg (if_pos (by omega)).symm (if_neg (by omega)).symm (if_pos (by omega)).symm)
    · skip
      refine sw_p 1 (f' := (145, [some (2, 0), some (0, x), some (0, e), some (0, c), some (0, 1), o5, o6], [(2, 0), (0, (3 * c) + 1), (2, 17)])) rfl ?_
      refine sw_hA (pn := 148) (i := 18) (v := 18) rfl rfl rfl rfl rfl hs.1 (mo_s18 hs).1 (by omega) ?_
      refine sw_p 5 (f' := (154, [some (2, 0), some (0, x), some (0, e), some (0, c), some (0, 1), o5, o6], [(0, (3 * c) + 1), (2, 18), (0, (3 * c) + 1), (2, 17)])) rfl ?_
      refine sw_ial (pn := 155) (l := 120) rfl rfl (by omega) (mo_s18 hs).2.1 (mo_s18 hs).2.2 (by omega) (by omega) ?_
      rw [show (mm_u (ft_m ν c g q) 17 ((3 * c) + 0) (q 0)) 18 ((3 * c) + 1) = q 1 from (mm_u_ne (by omega)).trans (ft_18 (by omega))]
      refine sw_p 1 (f' := (159, [some (2, 0), some (0, x), some (0, e), some (0, c), some (0, 1), o5, o6], [(0, q 1), (0, (3 * c) + 1), (2, 17)])) rfl ?_
      refine sw_ias (pn := 160) (l := 120) rfl rfl (by omega) (mo_s17 hs).2.1 (mo_s17 hs).2.2 (by omega) (by omega) ?_
      refine sw_p 4 (f' := (121, [some (2, 0), some (0, x), some (0, e), some (0, c), some (0, 2), o5, o6], [(0, 3), (0, 2)])) rfl ?_
      refine sw_ge2 (pt := 166) (pn := 124) rfl rfl rfl (by omega) (by omega) (fun h => absurd h (by decide)) (fun _ => ?_)
      refine sw_p 1 (f' := (125, [some (2, 0), some (0, x), some (0, e), some (0, c), some (0, 2), o5, o6], [(2, 0)])) rfl ?_
      refine sw_hA (pn := 128) (i := 17) (v := 17) rfl rfl rfl rfl rfl hs.1 (mo_s17 hs).1 (by omega) ?_
      refine sw_p 8 (f' := (138, [some (2, 0), some (0, x), some (0, e), some (0, c), some (0, 2), o5, o6], [(0, 2), (0, c), (2, 0), (0, (3 * c) + 2), (2, 17)])) rfl ?_
      refine sw_cv1 (pn := 141) (q0 := mj_Mo_fits) (q := mj_Mo_sizeOf) (p := 0) (as2 := [(0, c), (0, 2)]) (L2 := [some (2, 0), some (0, c), some (0, 2)]) (rest := [(0, (3 * c) + 2), (2, 17)]) (v := some (0, ν 9 (3 * (ν 13 c) + 2))) (s1 := s) (ν1 := (mm_u (mm_u (ft_m ν c g q) 17 ((3 * c) + 0) (q 0)) 17 ((3 * c) + 1) (q 1))) rfl rfl rfl rfl rfl rfl rfl rfl rfl hs.1 (by have h := mo_sizeOf (E := E) (d := d) (s := s) (ν := (mm_u (mm_u (ft_m ν c g q) 17 ((3 * c) + 0) (q 0)) 17 ((3 * c) + 1) (q 1))) (c := c) (k := 2) hs (by omega) (by omega) (by rw [show (mm_u (mm_u (ft_m ν c g q) 17 ((3 * c) + 0) (q 0)) 17 ((3 * c) + 1) (q 1)) 13 c = ν 13 c from (mm_u_ne (by omega)).trans ((mm_u_ne (by omega)).trans (ft_ne (by omega) (by omega)))]; omega); rw [show (mm_u (mm_u (ft_m ν c g q) 17 ((3 * c) + 0) (q 0)) 17 ((3 * c) + 1) (q 1)) 13 c = ν 13 c from (mm_u_ne (by omega)).trans ((mm_u_ne (by omega)).trans (ft_ne (by omega) (by omega))), show (mm_u (mm_u (ft_m ν c g q) 17 ((3 * c) + 0) (q 0)) 17 ((3 * c) + 1) (q 1)) 9 (3 * (ν 13 c) + 2) = ν 9 (3 * (ν 13 c) + 2) from (mm_u_ne (by omega)).trans ((mm_u_ne (by omega)).trans (ft_ne (by omega) (by omega)))] at h; exact h) ?_
      show sw_w E _ 97 (141, [some (2, 0), some (0, x), some (0, e), some (0, c), some (0, 2), o5, o6], [(0, ν 9 (3 * (ν 13 c) + 2)), (0, (3 * c) + 2), (2, 17)]) s (mm_u (mm_u (ft_m ν c g q) 17 ((3 * c) + 0) (q 0)) 17 ((3 * c) + 1) (q 1)) _
      refine sw_le1 (pt := 158) (pn := 144) rfl rfl rfl (by omega) (fun h21 => ?_) (fun h21 => ?_)
      · skip
        refine sw_p 1 (f' := (159, [some (2, 0), some (0, x), some (0, e), some (0, c), some (0, 2), o5, o6], [(0, -1), (0, (3 * c) + 2), (2, 17)])) rfl ?_
        refine sw_ias (pn := 160) (l := 120) rfl rfl (by omega) (mo_s17 hs).2.1 (mo_s17 hs).2.2 (by omega) (by omega) ?_
        refine sw_p 4 (f' := (121, [some (2, 0), some (0, x), some (0, e), some (0, c), some (0, 3), o5, o6], [(0, 3), (0, 3)])) rfl ?_
        refine sw_ge2 (pt := 166) (pn := 124) rfl rfl rfl (by omega) (by omega) (fun _ => ?_) (fun h => absurd h (by decide))
        refine sw_p 1 (f' := (167, [some (2, 0), some (0, x), some (0, e), some (0, c), some (0, 3), o5, o6], [(2, 0)])) rfl ?_
        refine sw_hA (pn := 170) (i := 5) (v := 5) rfl rfl rfl rfl rfl hs.1 (mo_s5 hs).1 (by omega) ?_
        refine sw_p 1 (f' := (171, [some (2, 0), some (0, x), some (0, e), some (0, c), some (0, 3), o5, o6], [(2, 0), (2, 5)])) rfl ?_
        refine sw_hA (pn := 174) (i := 14) (v := 14) rfl rfl rfl rfl rfl hs.1 (mo_s14 hs).1 (by omega) ?_
        refine sw_p 1 (f' := (175, [some (2, 0), some (0, x), some (0, e), some (0, c), some (0, 3), o5, o6], [(0, c), (2, 14), (2, 5)])) rfl ?_
        refine sw_ial (pn := 176) (l := 40) rfl rfl (by omega) (mo_s14 hs).2.1 (mo_s14 hs).2.2 (by omega) (by omega) ?_
        rw [show (mm_u (mm_u (mm_u (ft_m ν c g q) 17 ((3 * c) + 0) (q 0)) 17 ((3 * c) + 1) (q 1)) 17 ((3 * c) + 2) (-1)) 14 c = ν 14 c from (mm_u_ne (by omega)).trans ((mm_u_ne (by omega)).trans ((mm_u_ne (by omega)).trans (ft_ne (by omega) (by omega))))]
        refine sw_p 1 (f' := (177, [some (2, 0), some (0, x), some (0, e), some (0, c), some (0, 3), o5, o6], [(0, x), (0, ν 14 c), (2, 5)])) rfl ?_
        refine sw_ias (pn := 178) (l := 8) rfl rfl (by omega) (mo_s5 hs).2.1 (mo_s5 hs).2.2 (by omega) (by omega) ?_
        refine sw_p 1 (f' := (179, [some (2, 0), some (0, x), some (0, e), some (0, c), some (0, 3), o5, o6], [(2, 0)])) rfl ?_
        refine sw_hA (pn := 182) (i := 6) (v := 6) rfl rfl rfl rfl rfl hs.1 (mo_s6 hs).1 (by omega) ?_
        refine sw_p 1 (f' := (183, [some (2, 0), some (0, x), some (0, e), some (0, c), some (0, 3), o5, o6], [(2, 0), (2, 6)])) rfl ?_
        refine sw_hA (pn := 186) (i := 14) (v := 14) rfl rfl rfl rfl rfl hs.1 (mo_s14 hs).1 (by omega) ?_
        refine sw_p 1 (f' := (187, [some (2, 0), some (0, x), some (0, e), some (0, c), some (0, 3), o5, o6], [(0, c), (2, 14), (2, 6)])) rfl ?_
        refine sw_ial (pn := 188) (l := 40) rfl rfl (by omega) (mo_s14 hs).2.1 (mo_s14 hs).2.2 (by omega) (by omega) ?_
        rw [show (mm_u (mm_u (mm_u (mm_u (ft_m ν c g q) 17 ((3 * c) + 0) (q 0)) 17 ((3 * c) + 1) (q 1)) 17 ((3 * c) + 2) (-1)) 5 (ν 14 c) x) 14 c = ν 14 c from (mm_u_ne (by omega)).trans ((mm_u_ne (by omega)).trans ((mm_u_ne (by omega)).trans ((mm_u_ne (by omega)).trans (ft_ne (by omega) (by omega)))))]
        refine sw_p 1 (f' := (189, [some (2, 0), some (0, x), some (0, e), some (0, c), some (0, 3), o5, o6], [(0, e), (0, ν 14 c), (2, 6)])) rfl ?_
        refine sw_ias (pn := 190) (l := 8) rfl rfl (by omega) (mo_s6 hs).2.1 (mo_s6 hs).2.2 (by omega) (by omega) ?_
        refine sw_p 1 (f' := (191, [some (2, 0), some (0, x), some (0, e), some (0, c), some (0, 3), o5, o6], [(0, 1)])) rfl ?_
        exact sw_retZ rfl rfl rfl (by omega) (ft_end hg (if_pos (by omega)).symm (if_pos (by omega)).symm (if_neg (by omega)).symm)
      · skip
        refine sw_p 1 (f' := (145, [some (2, 0), some (0, x), some (0, e), some (0, c), some (0, 2), o5, o6], [(2, 0), (0, (3 * c) + 2), (2, 17)])) rfl ?_
        refine sw_hA (pn := 148) (i := 18) (v := 18) rfl rfl rfl rfl rfl hs.1 (mo_s18 hs).1 (by omega) ?_
        refine sw_p 5 (f' := (154, [some (2, 0), some (0, x), some (0, e), some (0, c), some (0, 2), o5, o6], [(0, (3 * c) + 2), (2, 18), (0, (3 * c) + 2), (2, 17)])) rfl ?_
        refine sw_ial (pn := 155) (l := 120) rfl rfl (by omega) (mo_s18 hs).2.1 (mo_s18 hs).2.2 (by omega) (by omega) ?_
        rw [show (mm_u (mm_u (ft_m ν c g q) 17 ((3 * c) + 0) (q 0)) 17 ((3 * c) + 1) (q 1)) 18 ((3 * c) + 2) = q 2 from (mm_u_ne (by omega)).trans ((mm_u_ne (by omega)).trans (ft_18 (by omega)))]
        refine sw_p 1 (f' := (159, [some (2, 0), some (0, x), some (0, e), some (0, c), some (0, 2), o5, o6], [(0, q 2), (0, (3 * c) + 2), (2, 17)])) rfl ?_
        refine sw_ias (pn := 160) (l := 120) rfl rfl (by omega) (mo_s17 hs).2.1 (mo_s17 hs).2.2 (by omega) (by omega) ?_
        refine sw_p 4 (f' := (121, [some (2, 0), some (0, x), some (0, e), some (0, c), some (0, 3), o5, o6], [(0, 3), (0, 3)])) rfl ?_
        refine sw_ge2 (pt := 166) (pn := 124) rfl rfl rfl (by omega) (by omega) (fun _ => ?_) (fun h => absurd h (by decide))
        refine sw_p 1 (f' := (167, [some (2, 0), some (0, x), some (0, e), some (0, c), some (0, 3), o5, o6], [(2, 0)])) rfl ?_
        refine sw_hA (pn := 170) (i := 5) (v := 5) rfl rfl rfl rfl rfl hs.1 (mo_s5 hs).1 (by omega) ?_
        refine sw_p 1 (f' := (171, [some (2, 0), some (0, x), some (0, e), some (0, c), some (0, 3), o5, o6], [(2, 0), (2, 5)])) rfl ?_
        refine sw_hA (pn := 174) (i := 14) (v := 14) rfl rfl rfl rfl rfl hs.1 (mo_s14 hs).1 (by omega) ?_
        refine sw_p 1 (f' := (175, [some (2, 0), some (0, x), some (0, e), some (0, c), some (0, 3), o5, o6], [(0, c), (2, 14), (2, 5)])) rfl ?_
        refine sw_ial (pn := 176) (l := 40) rfl rfl (by omega) (mo_s14 hs).2.1 (mo_s14 hs).2.2 (by omega) (by omega) ?_
        rw [show (mm_u (mm_u (mm_u (ft_m ν c g q) 17 ((3 * c) + 0) (q 0)) 17 ((3 * c) + 1) (q 1)) 17 ((3 * c) + 2) (q 2)) 14 c = ν 14 c from (mm_u_ne (by omega)).trans ((mm_u_ne (by omega)).trans ((mm_u_ne (by omega)).trans (ft_ne (by omega) (by omega))))]
        refine sw_p 1 (f' := (177, [some (2, 0), some (0, x), some (0, e), some (0, c), some (0, 3), o5, o6], [(0, x), (0, ν 14 c), (2, 5)])) rfl ?_
        refine sw_ias (pn := 178) (l := 8) rfl rfl (by omega) (mo_s5 hs).2.1 (mo_s5 hs).2.2 (by omega) (by omega) ?_
        refine sw_p 1 (f' := (179, [some (2, 0), some (0, x), some (0, e), some (0, c), some (0, 3), o5, o6], [(2, 0)])) rfl ?_
        refine sw_hA (pn := 182) (i := 6) (v := 6) rfl rfl rfl rfl rfl hs.1 (mo_s6 hs).1 (by omega) ?_
        refine sw_p 1 (f' := (183, [some (2, 0), some (0, x), some (0, e), some (0, c), some (0, 3), o5, o6], [(2, 0), (2, 6)])) rfl ?_
        refine sw_hA (pn := 186) (i := 14) (v := 14) rfl rfl rfl rfl rfl hs.1 (mo_s14 hs).1 (by omega) ?_
        refine sw_p 1 (f' := (187, [some (2, 0), some (0, x), some (0, e), some (0, c), some (0, 3), o5, o6], [(0, c), (2, 14), (2, 6)])) rfl ?_
        refine sw_ial (pn := 188) (l := 40) rfl rfl (by omega) (mo_s14 hs).2.1 (mo_s14 hs).2.2 (by omega) (by omega) ?_
        rw [show (mm_u (mm_u (mm_u (mm_u (ft_m ν c g q) 17 ((3 * c) + 0) (q 0)) 17 ((3 * c) + 1) (q 1)) 17 ((3 * c) + 2) (q 2)) 5 (ν 14 c) x) 14 c = ν 14 c from (mm_u_ne (by omega)).trans ((mm_u_ne (by omega)).trans ((mm_u_ne (by omega)).trans ((mm_u_ne (by omega)).trans (ft_ne (by omega) (by omega)))))]
        refine sw_p 1 (f' := (189, [some (2, 0), some (0, x), some (0, e), some (0, c), some (0, 3), o5, o6], [(0, e), (0, ν 14 c), (2, 6)])) rfl ?_
        refine sw_ias (pn := 190) (l := 8) rfl rfl (by omega) (mo_s6 hs).2.1 (mo_s6 hs).2.2 (by omega) (by omega) ?_
        refine sw_p 1 (f' := (191, [some (2, 0), some (0, x), some (0, e), some (0, c), some (0, 3), o5, o6], [(0, 1)])) rfl ?_
        exact sw_retZ rfl rfl rfl (by omega) (ft_end hg (if_pos (by omega)).symm (if_pos (by omega)).symm (if_pos (by omega)).symm)
theorem mo_fits (hs : mo_sh s) (hB : mo_B ν) (hC : mo_C ν) (h29 : mo_b1 ν 29) (hc0 : ν 0 21 = c) (hc : 0 ≤ c ∧ c < 40) (hx : 0 ≤ x ∧ x ≤ 4096) (he : 0 ≤ e ∧ e ≤ 4096) : sw_w E (d + 2) 97 (0, [some (2, 0), some (0, x), some (0, e), none, none, none, none], []) s ν (sw_vr (ft_P ν c x e (ff_r ν c x e (fun k => ν 18 (3 * c + k)))) s) := by
  have hcd := hB.cd c hc.1 hc.2
  rw [show ff_r ν c x e (fun k => ν 18 (3 * c + k)) = ff_s (fun k => ν 9 (3 * ν 13 c + k)) x e (ff_l ff_z) (mo_look ν (ν 14 c) x e (100 + c) 29) (fun k => ν 18 (3 * c + k)) from ff_s_c _ _ _ _ (fun k h1 h2 => (mo_look_oc h1 h2).symm)]
  refine sw_p 1 (f' := (1, [some (2, 0), some (0, x), some (0, e), none, none, none, none], [(2, 0)])) rfl ?_
  refine sw_gI (pn := 4) (i := 21) rfl rfl rfl rfl rfl (by omega) hs.1 ?_
  rw [show ν 0 21 = c from hc0]
  refine sw_p 3 (f' := (7, [some (2, 0), some (0, x), some (0, e), some (0, c), none, none, none], [(2, 0), (2, 0)])) rfl ?_
  refine sw_hA (pn := 10) (i := 14) (v := 14) rfl rfl rfl rfl rfl hs.1 (mo_s14 hs).1 (by omega) ?_
  refine sw_p 1 (f' := (11, [some (2, 0), some (0, x), some (0, e), some (0, c), none, none, none], [(0, c), (2, 14), (2, 0)])) rfl ?_
  refine sw_ial (pn := 12) (l := 40) rfl rfl (by omega) (mo_s14 hs).2.1 (mo_s14 hs).2.2 (by omega) (by omega) ?_
  refine sw_p 6 (f' := (19, [some (2, 0), some (0, x), some (0, e), some (0, c), none, none, none], [(2, 0), (0, 100 + c), (0, e), (0, x), (0, ν 14 c), (2, 0)])) rfl ?_
  refine sw_hA (pn := 22) (i := 29) (v := 29) rfl rfl rfl rfl rfl hs.1 (mo_s29 hs).1 (by omega) ?_
  refine sw_cv1 (pn := 25) (q0 := mj_Mo_fits) (q := mj_Mo_lookAt) (p := 0) (as2 := [(0, ν 14 c), (0, x), (0, e), (0, 100 + c), (2, 29)]) (L2 := [some (2, 0), some (0, ν 14 c), some (0, x), some (0, e), some (0, 100 + c), some (2, 29), none, none, none, none]) (rest := []) (v := none) (s1 := s) (ν1 := (mo_wr ν 29 (mo_look ν (ν 14 c) x e (100 + c) 29))) rfl rfl rfl rfl rfl rfl rfl rfl rfl hs.1 (mo_lookAt hs hB hC (Or.inl rfl) (mo_s29 hs).2.1 (mo_s29 hs).2.2 (by omega) (by omega) hx he) ?_
  show sw_w E _ 97 (25, [some (2, 0), some (0, x), some (0, e), some (0, c), none, none, none], []) s (mo_wr ν 29 (mo_look ν (ν 14 c) x e (100 + c) 29)) _
  refine sw_p 2 (f' := (30, [some (2, 0), some (0, x), some (0, e), some (0, c), some (0, 1024), none, none], [])) rfl ?_
  rw [ft_0 (c := c)]
  have hg := mo_look_1 (ν := ν) (b := ν 14 c) (x := x) (e := e) (w := 100 + c) h29
  refine ft_z (d := d + 1) (l := ff_l [512, 256, 128, 64, 32, 16, 8, 4, 2, 1]) hs hB hc hx he (by omega) hg (fun g q o5 o6 hg => ?_)
  rw [show (1024 : Int) / 2 = 512 by decide]
  refine ft_z (d := d + 1) (l := ff_l [256, 128, 64, 32, 16, 8, 4, 2, 1]) hs hB hc hx he (by omega) hg (fun g q o5 o6 hg => ?_)
  rw [show (512 : Int) / 2 = 256 by decide]
  refine ft_z (d := d + 1) (l := ff_l [128, 64, 32, 16, 8, 4, 2, 1]) hs hB hc hx he (by omega) hg (fun g q o5 o6 hg => ?_)
  rw [show (256 : Int) / 2 = 128 by decide]
  refine ft_z (d := d + 1) (l := ff_l [64, 32, 16, 8, 4, 2, 1]) hs hB hc hx he (by omega) hg (fun g q o5 o6 hg => ?_)
  rw [show (128 : Int) / 2 = 64 by decide]
  refine ft_z (d := d + 1) (l := ff_l [32, 16, 8, 4, 2, 1]) hs hB hc hx he (by omega) hg (fun g q o5 o6 hg => ?_)
  rw [show (64 : Int) / 2 = 32 by decide]
  refine ft_z (d := d + 1) (l := ff_l [16, 8, 4, 2, 1]) hs hB hc hx he (by omega) hg (fun g q o5 o6 hg => ?_)
  rw [show (32 : Int) / 2 = 16 by decide]
  refine ft_z (d := d + 1) (l := ff_l [8, 4, 2, 1]) hs hB hc hx he (by omega) hg (fun g q o5 o6 hg => ?_)
  rw [show (16 : Int) / 2 = 8 by decide]
  refine ft_z (d := d + 1) (l := ff_l [4, 2, 1]) hs hB hc hx he (by omega) hg (fun g q o5 o6 hg => ?_)
  rw [show (8 : Int) / 2 = 4 by decide]
  refine ft_z (d := d + 1) (l := ff_l [2, 1]) hs hB hc hx he (by omega) hg (fun g q o5 o6 hg => ?_)
  rw [show (4 : Int) / 2 = 2 by decide]
  refine ft_z (d := d + 1) (l := ff_l [1]) hs hB hc hx he (by omega) hg (fun g q o5 o6 hg => ?_)
  rw [show (2 : Int) / 2 = 1 by decide]
  refine ft_z (d := d + 1) (l := ff_l []) hs hB hc hx he (by omega) hg (fun g q o5 o6 hg => ?_)
  rw [show (1 : Int) / 2 = 0 by decide]
  exact ft_e hs hB hc hx he hg
end FT
