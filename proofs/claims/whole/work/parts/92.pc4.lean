/-! the class: fits -/
theorem to_free {ν : mm_T} {p : Int} : ∀ (n : Nat) (f k : Int), f ≤ k → k < mo_to ν p n f → ν p k = 0
  | 0, f, k, h1, h2 => by unfold mo_to at h2; omega
  | n + 1, f, k, h1, h2 => by
    unfold mo_to at h2
    by_cases h : ν p f = 0
    · rw [if_pos h] at h2
      by_cases hk : k = f
      · rw [hk]; exact h
      · exact to_free n (f + 1) k (by omega) h2
    · rw [if_neg h] at h2; omega
theorem pf_free {ν : mm_T} {z e : Int} (hz : 0 < z) : ∀ (m : Nat) (f b l : Int), mo_pf ν z e m f b l = b ∨ ∀ a, mo_pf ν z e m f b l ≤ a → a < mo_pf ν z e m f b l + z → ν 29 a = 0
  | 0, _, _, _ => Or.inl rfl
  | m + 1, f, b, l => by
    unfold mo_pf
    have hm := Int.emod_nonneg (-f) (show z ≠ 0 by omega)
    by_cases hf : f < e
    · rw [if_pos hf]
      split
      · next h =>
        rcases pf_free hz (ν := ν) (e := e) m (mo_to ν 29 (e - f).toNat f + 1) (f + (-f) % z) (mo_to ν 29 (e - f).toNat f - f) with h1 | h1
        · rw [h1]
          exact Or.inr (fun a h2 h3 => to_free (e - f).toNat f a (by omega) (by omega))
        · exact Or.inr h1
      · exact pf_free hz m _ b l
    · rw [if_neg hf]; exact Or.inl rfl
theorem ff_p_f {g : Int → Int} {z x e : Int} (hz : 0 < z) (h : 0 ≤ ff_p g z x e) : ∀ a, ff_p g z x e ≤ a → a < ff_p g z x e + z → g a = 0 := by
  rcases pf_free (ν := fun _ => g) (e := e) hz 4097 x (-1) 9999 with h1 | h1
  · unfold ff_p at h; omega
  · exact h1
theorem st_w_of {ν : mm_T} {p q r x e : Int} {g : Int → Int} (hI : st_I ν p q r g) (hg : ∀ a, g a = 1 → x ≤ a ∧ a < e) : ∀ i, 0 ≤ i → i < ν p 2 → x ≤ ν q i ∧ ν r i ≤ e := by
  intro i i0 i1
  have h1 := hI.2.1 i i0 i1
  have h2 := hg _ ((hI.2.2.2.2 (ν q i)).mpr ⟨i, i0, i1, by omega, by omega⟩)
  have h3 := hg _ ((hI.2.2.2.2 (ν r i - 1)).mpr ⟨i, i0, i1, by omega, by omega⟩)
  omega
/-- the ends of fits -/
def cf_P (ν : mm_T) (r : Option (Int → Int)) (v : Option mg_V) (ν' : mm_T) : Prop := match r with
  | none => v = some (0, 0) ∧ fr_r [61, 62, 63, 64] ν ν'
  | some q => v = some (0, 1) ∧ fr_r [61, 62, 63, 64] ν ν' ∧ ∀ k, 0 ≤ k → k < 3 → ν' 64 k = q k
section PC4
variable {E : mv_E} {s ν ρ : mm_T} {f : Int → Int} {d : Nat} {a b c e i k n o p q r t u w x y z : Int} {g : Int → Int} {Q : nm_O → mm_T → mm_T → Prop} {o4 o5 o6 o7 : Option mg_V} {l : List Int}
theorem cj_6 {ν' : mm_T} (h : fr_r [61, 62, 63, 64] ν ν') : cj_r ν ν' := fun o i h1 h2 h3 => congrFun (h o (by simp only [List.mem_cons, List.not_mem_nil, or_false]; omega)) i
theorem cl_fi_k (hI : iv_A ρ f) (hR0 : pt_R s ν ρ f) (hc : 0 ≤ c ∧ c < ρ 0 12) (hx : 0 ≤ x ∧ x ≤ e ∧ e ≤ 4096) (hi : 0 ≤ i ∧ i < 3) {ν1 : mm_T} (hf1 : fr_r [61, 62, 63, 64] ν ν1) (hJ : st_I ν1 61 62 63 g) (hg : ∀ a, g a = 1 → x ≤ a ∧ a < e) (hn : ν1 61 2 ≤ 9 + i) (kk : ∀ (g : Int → Int) (ν2 : mm_T) (o5 o6 o7 : Option mg_V), fr_r [61, 62, 63, 64] ν ν2 → st_I ν2 61 62 63 g → (∀ a, g a = 1 → x ≤ a ∧ a < e) → ν2 61 2 ≤ 9 + (i + 1) → sw_w E (d + 1) 48 (14, [some (2, 50), some (2, 300 + c), some (0, x), some (0, e), some (0, i + 1), o5, o6, o7], []) s ν2 (sw_vr (cf_P ν (cf_s (fun k => ρ 9 (3 * ρ 13 c + k)) x e l g (ν2 64))) s)) : sw_w E (d + 1) 48 (14, [some (2, 50), some (2, 300 + c), some (0, x), some (0, e), some (0, i), o5, o6, o7], []) s ν1 (sw_vr (cf_P ν (cf_s (fun k => ρ 9 (3 * ρ 13 c + k)) x e (od_k (fun k => ρ 9 (3 * ρ 13 c + k)) i :: l) g (ν1 64))) s) := by
  have hR := pt_R_fr hI.1 (cj_6 hf1) (fun _ _ => rfl) hR0
  have h12 := hI.1.2.2.1
  have hcd := hI.1.cd c hc.1 (by omega)
  have hK := hI.2.2.2.2.2.1 c hc.1 hc.2
  obtain ⟨k, hk⟩ : ∃ k, k = od_k (fun k => ρ 9 (3 * ρ 13 c + k)) i := ⟨_, rfl⟩
  have hk3 : k = 0 ∨ k = 1 ∨ k = 2 := by rw [hk]; exact od_k3 _ _
  rw [← hk]
  have hsz := hI.1.2.2.2.2.2.2.2.2.2.2.2.1 (3 * ρ 13 c + k) (by omega) (by omega)
  have hpw := hI.2.2.2.1 (3 * ρ 13 c + k) (by omega) (by omega)
  by_cases hz : 0 < ρ 9 (3 * ρ 13 c + k)
  · have hpw : st_pw (ρ 9 (3 * ρ 13 c + k)) := by rcases hpw with h | h; omega; exact h
    have hpr := ff_p_r (g := g) (x := x) (e := e) hz
    have hpf := ff_p_f (g := g) (x := x) (e := e) hz
    have hpl : sw_w E d 39 (0, [some (2, 61), some (0, ρ 9 (3 * ρ 13 c + k)), some (0, x), some (0, e), none, none, none, none, none, none], []) s ν1 (sw_is (some (0, ff_p g (ρ 9 (3 * ρ 13 c + k)) x e)) s ν1) := by
      have h := st_place (E := E) (d := d) (s := s) (ν := ν1) hR.sh.2.2.2.2.2.2.2.1.2 (st_I_B hJ) hpw (by omega : 0 ≤ x ∧ x ≤ 4096) (by omega : 0 ≤ e ∧ e ≤ 4096)
      rwa [st_pf hJ (st_w_of hJ hg) hz hx] at h
    refine sw_p 2 (f' := (17, [some (2, 50), some (2, 300 + c), some (0, x), some (0, e), some (0, i), o5, o6, o7], [(0, 3), (0, i)])) rfl ?_
    refine sw_ge2 (pt := 108) (pn := 20) rfl rfl rfl (by omega) (by omega) (fun h => absurd h (by omega)) (fun m1 => ?_)
    refine sw_p 1 (f' := (21, [some (2, 50), some (2, 300 + c), some (0, x), some (0, e), some (0, i), o5, o6, o7], [(2, 300 + c)])) rfl ?_
    refine sw_hA (pn := 24) (i := 2) (v := 200 + ρ 13 c) rfl rfl rfl rfl rfl (hR.ca c (by omega) (by omega)).1 (hR.ca c (by omega) (by omega)).2.2.2.1 (by omega) ?_
    refine sw_hA (pn := 27) (i := 1) (v := 240 + (ρ 13 c)) rfl rfl rfl rfl rfl (hR.ty (ρ 13 c) (by omega) (by omega)).1 (hR.ty (ρ 13 c) (by omega) (by omega)).2.2.1.1 (by omega) ?_
    refine sw_p 1 (f' := (29, [some (2, 50), some (2, 300 + c), some (0, x), some (0, e), some (0, i), o5, o6, o7], [(0, i), (2, 240 + (ρ 13 c))])) rfl ?_
    refine sw_ial (pn := 30) (l := 3) rfl rfl (by omega) (hR.ty (ρ 13 c) (by omega) (by omega)).2.2.1.2.1 (hR.ty (ρ 13 c) (by omega) (by omega)).2.2.1.2.2 (by omega) (by omega) ?_
    rw [show ν1 (240 + (ρ 13 c)) i = k from (((hR.tn (ρ 13 c) (by omega) (by omega)).2 i (by omega) (by omega)).2).trans hk.symm]
    refine sw_p 2 (f' := (33, [some (2, 50), some (2, 300 + c), some (0, x), some (0, e), some (0, i), some (0, k), o6, o7], [(2, 300 + c)])) rfl ?_
    refine sw_hA (pn := 36) (i := 2) (v := 200 + ρ 13 c) rfl rfl rfl rfl rfl (hR.ca c (by omega) (by omega)).1 (hR.ca c (by omega) (by omega)).2.2.2.1 (by omega) ?_
    refine sw_hA (pn := 39) (i := 0) (v := 220 + (ρ 13 c)) rfl rfl rfl rfl rfl (hR.ty (ρ 13 c) (by omega) (by omega)).1 (hR.ty (ρ 13 c) (by omega) (by omega)).2.1.1 (by omega) ?_
    refine sw_p 1 (f' := (41, [some (2, 50), some (2, 300 + c), some (0, x), some (0, e), some (0, i), some (0, k), o6, o7], [(0, k), (2, 220 + (ρ 13 c))])) rfl ?_
    refine sw_ial (pn := 42) (l := 3) rfl rfl (by omega) (hR.ty (ρ 13 c) (by omega) (by omega)).2.1.2.1 (hR.ty (ρ 13 c) (by omega) (by omega)).2.1.2.2 (by omega) (by omega) ?_
    rw [show ν1 (220 + (ρ 13 c)) k = ρ 9 (3 * (ρ 13 c) + k) from ((hR.tn (ρ 13 c) (by omega) (by omega)).2 k (by omega) (by omega)).1]
    refine sw_p 2 (f' := (46, [some (2, 50), some (2, 300 + c), some (0, x), some (0, e), some (0, i), some (0, k), some (0, ρ 9 (3 * (ρ 13 c) + k)), o7], [(0, ρ 9 (3 * (ρ 13 c) + k))])) rfl ?_
    refine sw_le1 (pt := 63) (pn := 49) rfl rfl rfl (by omega) (fun h => absurd h (by omega)) (fun m2 => ?_)
    refine sw_p 1 (f' := (50, [some (2, 50), some (2, 300 + c), some (0, x), some (0, e), some (0, i), some (0, k), some (0, ρ 9 (3 * (ρ 13 c) + k)), o7], [(2, 50)])) rfl ?_
    refine sw_hA (pn := 53) (i := 6) (v := 61) rfl rfl rfl rfl rfl hR.sh.1 hR.sh.2.2.2.2.2.2.2.1.1 (by omega) ?_
    refine sw_p 3 (f' := (57, [some (2, 50), some (2, 300 + c), some (0, x), some (0, e), some (0, i), some (0, k), some (0, ρ 9 (3 * (ρ 13 c) + k)), o7], [(0, e), (0, x), (0, ρ 9 (3 * (ρ 13 c) + k)), (2, 61)])) rfl ?_
    refine sw_cv1 (pn := 60) (q0 := mj_PT_fits) (q := mj_St_placeFor) (p := 61) (as2 := [(0, ρ 9 (3 * (ρ 13 c) + k)), (0, x), (0, e)]) (L2 := [some (2, 61), some (0, ρ 9 (3 * (ρ 13 c) + k)), some (0, x), some (0, e), none, none, none, none, none, none]) (rest := []) (v := some (0, ff_p g (ρ 9 (3 * ρ 13 c + k)) x e)) (s1 := s) (ν1 := ν1) rfl rfl rfl rfl rfl rfl rfl rfl rfl hR.sh.2.2.2.2.2.2.2.1.2.1.2 hpl ?_
    show sw_w E _ 48 (60, [some (2, 50), some (2, 300 + c), some (0, x), some (0, e), some (0, i), some (0, k), some (0, ρ 9 (3 * (ρ 13 c) + k)), o7], [(0, ff_p g (ρ 9 (3 * ρ 13 c + k)) x e)]) s ν1 _
    refine sw_p 4 (f' := (69, [some (2, 50), some (2, 300 + c), some (0, x), some (0, e), some (0, i), some (0, k), some (0, ρ 9 (3 * (ρ 13 c) + k)), some (0, ff_p g (ρ 9 (3 * ρ 13 c + k)) x e)], [(0, -1), (0, ff_p g (ρ 9 (3 * ρ 13 c + k)) x e)])) rfl ?_
    refine sw_ne2 (pt := 74) (pn := 72) rfl rfl rfl (by omega) (by omega) (fun m3 => ?_) (fun m3 => ?_)
    · skip
      refine sw_p 1 (f' := (75, [some (2, 50), some (2, 300 + c), some (0, x), some (0, e), some (0, i), some (0, k), some (0, ρ 9 (3 * (ρ 13 c) + k)), some (0, ff_p g (ρ 9 (3 * ρ 13 c + k)) x e)], [(2, 50)])) rfl ?_
      refine sw_hA (pn := 78) (i := 7) (v := 64) rfl rfl rfl rfl rfl hR.sh.1 hR.sh.2.2.2.2.2.2.2.2.1 (by omega) ?_
      refine sw_p 2 (f' := (82, [some (2, 50), some (2, 300 + c), some (0, x), some (0, e), some (0, i), some (0, k), some (0, ρ 9 (3 * (ρ 13 c) + k)), some (0, ff_p g (ρ 9 (3 * ρ 13 c + k)) x e)], [(0, ff_p g (ρ 9 (3 * ρ 13 c + k)) x e), (0, k), (2, 64)])) rfl ?_
      refine sw_ias (pn := 83) (l := 3) rfl rfl (by omega) hR.sh.2.2.2.2.2.2.2.2.2.1 hR.sh.2.2.2.2.2.2.2.2.2.2 (by omega) (by omega) ?_
      obtain ⟨ν2, e2⟩ : ∃ ν2, ν2 = (mm_u ν1 64 k (ff_p g (ρ 9 (3 * ρ 13 c + k)) x e)) := ⟨_, rfl⟩
      rw [← e2]
      have hf2 : fr_r [64] ν1 ν2 := by rw [e2]; exact fr_u (by decide)
      have hf12 : fr_r [61, 62, 63, 64] ν ν2 := fr_tr hf1 hf2 (by decide) (by decide)
      have e64 : ν2 64 = (fun i => if i = k then ff_p g (ρ 9 (3 * ρ 13 c + k)) x e else ν1 64 i) := by rw [e2]; funext i; unfold mm_u; by_cases hik : i = k; exact (if_pos ⟨rfl, hik⟩).trans (if_pos hik).symm; exact (if_neg (fun h => hik h.2)).trans (if_neg hik).symm
      have e61 : ν2 61 2 = ν1 61 2 := congrFun (hf2 61 (by decide)) 2
      have hJ2 : st_I ν2 61 62 63 g := by unfold st_I; rw [hf2 61 (by decide), hf2 62 (by decide), hf2 63 (by decide)]; exact hJ
      rw [show cf_s (fun k => ρ 9 (3 * ρ 13 c + k)) x e (k :: l) g (ν1 64) = cf_s (fun k => ρ 9 (3 * ρ 13 c + k)) x e l (mo_mkr (ff_p g (ρ 9 (3 * ρ 13 c + k)) x e) (ff_p g (ρ 9 (3 * ρ 13 c + k)) x e + ρ 9 (3 * ρ 13 c + k)) g) (ν2 64) by rw [e64]; exact (if_pos hz).trans (if_neg (show ¬ ff_p g (ρ 9 (3 * ρ 13 c + k)) x e < 0 by omega))]
      refine sw_p 1 (f' := (85, [some (2, 50), some (2, 300 + c), some (0, x), some (0, e), some (0, i), some (0, k), some (0, ρ 9 (3 * (ρ 13 c) + k)), some (0, ff_p g (ρ 9 (3 * ρ 13 c + k)) x e)], [(0, ρ 9 (3 * (ρ 13 c) + k))])) rfl ?_
      refine sw_le1 (pt := 102) (pn := 88) rfl rfl rfl (by omega) (fun h => absurd h (by omega)) (fun w1 => ?_)
      refine sw_p 1 (f' := (89, [some (2, 50), some (2, 300 + c), some (0, x), some (0, e), some (0, i), some (0, k), some (0, ρ 9 (3 * (ρ 13 c) + k)), some (0, ff_p g (ρ 9 (3 * ρ 13 c + k)) x e)], [(2, 50)])) rfl ?_
      refine sw_hA (pn := 92) (i := 6) (v := 61) rfl rfl rfl rfl rfl hR.sh.1 hR.sh.2.2.2.2.2.2.2.1.1 (by omega) ?_
      refine sw_p 4 (f' := (99, [some (2, 50), some (2, 300 + c), some (0, x), some (0, e), some (0, i), some (0, k), some (0, ρ 9 (3 * (ρ 13 c) + k)), some (0, ff_p g (ρ 9 (3 * ρ 13 c + k)) x e)], [(0, (ff_p g (ρ 9 (3 * ρ 13 c + k)) x e) + (ρ 9 (3 * (ρ 13 c) + k))), (0, ff_p g (ρ 9 (3 * ρ 13 c + k)) x e), (2, 61)])) rfl ?_
      refine sw_cv2 (pn := 102) (q0 := mj_PT_fits) (q := mj_St_add) (p := 61) (as2 := [(0, ff_p g (ρ 9 (3 * ρ 13 c + k)) x e), (0, (ff_p g (ρ 9 (3 * ρ 13 c + k)) x e) + (ρ 9 (3 * (ρ 13 c) + k)))]) (L2 := [some (2, 61), some (0, ff_p g (ρ 9 (3 * ρ 13 c + k)) x e), some (0, (ff_p g (ρ 9 (3 * ρ 13 c + k)) x e) + (ρ 9 (3 * (ρ 13 c) + k))), none]) (rest := []) (s1 := s) rfl rfl rfl rfl rfl rfl rfl rfl rfl hR.sh.2.2.2.2.2.2.2.1.2.1.2 (st_add (ν := ν2) (g := g) hR.sh.2.2.2.2.2.2.2.1.2 (by omega) hJ2 (by rw [e61]; omega) (by omega) (hpf (by omega))) (fun v ν3 hv => ?_)
      obtain ⟨rfl, hf3, hn3, hJ3⟩ := hv
      show sw_w E _ 48 (102, [some (2, 50), some (2, 300 + c), some (0, x), some (0, e), some (0, i), some (0, k), some (0, ρ 9 (3 * (ρ 13 c) + k)), some (0, ff_p g (ρ 9 (3 * ρ 13 c + k)) x e)], []) s ν3 _
      refine sw_p 2 (f' := (14, [some (2, 50), some (2, 300 + c), some (0, x), some (0, e), some (0, i + 1), some (0, k), some (0, ρ 9 (3 * (ρ 13 c) + k)), some (0, ff_p g (ρ 9 (3 * ρ 13 c + k)) x e)], [])) rfl ?_
      have hf13 : fr_r [61, 62, 63, 64] ν ν3 := fr_tr hf12 hf3 (by decide) (by decide)
      rw [show ν2 64 = ν3 64 from (hf3 64 (by decide)).symm]
      exact kk _ ν3 _ _ _ hf13 hJ3 (fun a ha => by unfold mo_mkr at ha; split at ha; omega; exact hg a ha) (by omega)
    · skip
      refine sw_p 1 (f' := (73, [some (2, 50), some (2, 300 + c), some (0, x), some (0, e), some (0, i), some (0, k), some (0, ρ 9 (3 * (ρ 13 c) + k)), some (0, ff_p g (ρ 9 (3 * ρ 13 c + k)) x e)], [(0, 0)])) rfl ?_
      exact sw_retZ rfl rfl rfl (by omega) ⟨_, rfl, rfl, by rw [show cf_s (fun k => ρ 9 (3 * ρ 13 c + k)) x e (k :: l) g (ν1 64) = none from (if_pos hz).trans (if_pos (show ff_p g (ρ 9 (3 * ρ 13 c + k)) x e < 0 by omega))]; exact ⟨rfl, hf1⟩⟩
  · skip
    refine sw_p 2 (f' := (17, [some (2, 50), some (2, 300 + c), some (0, x), some (0, e), some (0, i), o5, o6, o7], [(0, 3), (0, i)])) rfl ?_
    refine sw_ge2 (pt := 108) (pn := 20) rfl rfl rfl (by omega) (by omega) (fun h => absurd h (by omega)) (fun m1 => ?_)
    refine sw_p 1 (f' := (21, [some (2, 50), some (2, 300 + c), some (0, x), some (0, e), some (0, i), o5, o6, o7], [(2, 300 + c)])) rfl ?_
    refine sw_hA (pn := 24) (i := 2) (v := 200 + ρ 13 c) rfl rfl rfl rfl rfl (hR.ca c (by omega) (by omega)).1 (hR.ca c (by omega) (by omega)).2.2.2.1 (by omega) ?_
    refine sw_hA (pn := 27) (i := 1) (v := 240 + (ρ 13 c)) rfl rfl rfl rfl rfl (hR.ty (ρ 13 c) (by omega) (by omega)).1 (hR.ty (ρ 13 c) (by omega) (by omega)).2.2.1.1 (by omega) ?_
    refine sw_p 1 (f' := (29, [some (2, 50), some (2, 300 + c), some (0, x), some (0, e), some (0, i), o5, o6, o7], [(0, i), (2, 240 + (ρ 13 c))])) rfl ?_
    refine sw_ial (pn := 30) (l := 3) rfl rfl (by omega) (hR.ty (ρ 13 c) (by omega) (by omega)).2.2.1.2.1 (hR.ty (ρ 13 c) (by omega) (by omega)).2.2.1.2.2 (by omega) (by omega) ?_
    rw [show ν1 (240 + (ρ 13 c)) i = k from (((hR.tn (ρ 13 c) (by omega) (by omega)).2 i (by omega) (by omega)).2).trans hk.symm]
    refine sw_p 2 (f' := (33, [some (2, 50), some (2, 300 + c), some (0, x), some (0, e), some (0, i), some (0, k), o6, o7], [(2, 300 + c)])) rfl ?_
    refine sw_hA (pn := 36) (i := 2) (v := 200 + ρ 13 c) rfl rfl rfl rfl rfl (hR.ca c (by omega) (by omega)).1 (hR.ca c (by omega) (by omega)).2.2.2.1 (by omega) ?_
    refine sw_hA (pn := 39) (i := 0) (v := 220 + (ρ 13 c)) rfl rfl rfl rfl rfl (hR.ty (ρ 13 c) (by omega) (by omega)).1 (hR.ty (ρ 13 c) (by omega) (by omega)).2.1.1 (by omega) ?_
    refine sw_p 1 (f' := (41, [some (2, 50), some (2, 300 + c), some (0, x), some (0, e), some (0, i), some (0, k), o6, o7], [(0, k), (2, 220 + (ρ 13 c))])) rfl ?_
    refine sw_ial (pn := 42) (l := 3) rfl rfl (by omega) (hR.ty (ρ 13 c) (by omega) (by omega)).2.1.2.1 (hR.ty (ρ 13 c) (by omega) (by omega)).2.1.2.2 (by omega) (by omega) ?_
    rw [show ν1 (220 + (ρ 13 c)) k = ρ 9 (3 * (ρ 13 c) + k) from ((hR.tn (ρ 13 c) (by omega) (by omega)).2 k (by omega) (by omega)).1]
    refine sw_p 2 (f' := (46, [some (2, 50), some (2, 300 + c), some (0, x), some (0, e), some (0, i), some (0, k), some (0, ρ 9 (3 * (ρ 13 c) + k)), o7], [(0, ρ 9 (3 * (ρ 13 c) + k))])) rfl ?_
    refine sw_le1 (pt := 63) (pn := 49) rfl rfl rfl (by omega) (fun m2 => ?_) (fun h => absurd h (by omega))
    refine sw_p 4 (f' := (69, [some (2, 50), some (2, 300 + c), some (0, x), some (0, e), some (0, i), some (0, k), some (0, ρ 9 (3 * (ρ 13 c) + k)), some (0, 0)], [(0, -1), (0, 0)])) rfl ?_
    refine sw_ne2 (pt := 74) (pn := 72) rfl rfl rfl (by omega) (by omega) (fun _ => ?_) (fun h => absurd h (by decide))
    refine sw_p 1 (f' := (75, [some (2, 50), some (2, 300 + c), some (0, x), some (0, e), some (0, i), some (0, k), some (0, ρ 9 (3 * (ρ 13 c) + k)), some (0, 0)], [(2, 50)])) rfl ?_
    refine sw_hA (pn := 78) (i := 7) (v := 64) rfl rfl rfl rfl rfl hR.sh.1 hR.sh.2.2.2.2.2.2.2.2.1 (by omega) ?_
    refine sw_p 2 (f' := (82, [some (2, 50), some (2, 300 + c), some (0, x), some (0, e), some (0, i), some (0, k), some (0, ρ 9 (3 * (ρ 13 c) + k)), some (0, 0)], [(0, 0), (0, k), (2, 64)])) rfl ?_
    refine sw_ias (pn := 83) (l := 3) rfl rfl (by omega) hR.sh.2.2.2.2.2.2.2.2.2.1 hR.sh.2.2.2.2.2.2.2.2.2.2 (by omega) (by omega) ?_
    obtain ⟨ν2, e2⟩ : ∃ ν2, ν2 = (mm_u ν1 64 k 0) := ⟨_, rfl⟩
    rw [← e2]
    have hf2 : fr_r [64] ν1 ν2 := by rw [e2]; exact fr_u (by decide)
    have hf12 : fr_r [61, 62, 63, 64] ν ν2 := fr_tr hf1 hf2 (by decide) (by decide)
    have e64 : ν2 64 = (fun i => if i = k then 0 else ν1 64 i) := by rw [e2]; funext i; unfold mm_u; by_cases hik : i = k; exact (if_pos ⟨rfl, hik⟩).trans (if_pos hik).symm; exact (if_neg (fun h => hik h.2)).trans (if_neg hik).symm
    have e61 : ν2 61 2 = ν1 61 2 := congrFun (hf2 61 (by decide)) 2
    have hJ2 : st_I ν2 61 62 63 g := by unfold st_I; rw [hf2 61 (by decide), hf2 62 (by decide), hf2 63 (by decide)]; exact hJ
    rw [show cf_s (fun k => ρ 9 (3 * ρ 13 c + k)) x e (k :: l) g (ν1 64) = cf_s (fun k => ρ 9 (3 * ρ 13 c + k)) x e l g (ν2 64) by rw [e64]; exact if_neg hz]
    refine sw_p 1 (f' := (85, [some (2, 50), some (2, 300 + c), some (0, x), some (0, e), some (0, i), some (0, k), some (0, ρ 9 (3 * (ρ 13 c) + k)), some (0, 0)], [(0, ρ 9 (3 * (ρ 13 c) + k))])) rfl ?_
    refine sw_le1 (pt := 102) (pn := 88) rfl rfl rfl (by omega) (fun w1 => ?_) (fun h => absurd h (by omega))
    refine sw_p 2 (f' := (14, [some (2, 50), some (2, 300 + c), some (0, x), some (0, e), some (0, i + 1), some (0, k), some (0, ρ 9 (3 * (ρ 13 c) + k)), some (0, 0)], [])) rfl ?_
    exact kk _ ν2 _ _ _ hf12 hJ2 hg (by omega)
theorem cl_fits (hI : iv_A ρ f) (hR0 : pt_R s ν ρ f) (hc : 0 ≤ c ∧ c < ρ 0 12) (hx : 0 ≤ x ∧ x ≤ e ∧ e ≤ 4096) (hJ : st_I ν 55 56 57 g) (hn : ν 55 2 ≤ 9) (hg : ∀ a, g a = 1 → x ≤ a ∧ a < e) : ∃ q0, sw_w E (d + 1) 48 (0, [some (2, 50), some (2, 300 + c), some (0, x), some (0, e), none, none, none, none], []) s ν (sw_vr (cf_P ν (cf_s (fun k => ρ 9 (3 * ρ 13 c + k)) x e (od_l (fun k => ρ 9 (3 * ρ 13 c + k))) g q0)) s) := by
  have hR := hR0
  obtain ⟨ν1, e1⟩ : ∃ ν1, ν1 = st_bc ν 61 62 63 55 56 57 := ⟨_, rfl⟩
  have hf1 : fr_r [61, 62, 63, 64] ν ν1 := fun p hp => by
    simp only [List.mem_cons, List.not_mem_nil, or_false] at hp
    funext i
    rw [e1]
    unfold st_bc mm_cp
    rw [mm_u_ne (by omega), if_neg (by omega), if_neg (by omega)]
  have e61 : ν1 61 2 = ν 55 2 := by rw [e1]; exact mm_u_at
  have e62 : ∀ i, 0 ≤ i → i < 12 → ν1 62 i = ν 56 i := fun i h1 h2 => by
    rw [e1]
    unfold st_bc mm_cp
    rw [mm_u_ne (by omega), if_neg (by omega), if_pos (by omega), show 0 + (i - 0) = i by omega]
  have e63 : ∀ i, 0 ≤ i → i < 12 → ν1 63 i = ν 57 i := fun i h1 h2 => by
    rw [e1]
    unfold st_bc mm_cp
    rw [mm_u_ne (by omega), if_pos (by omega), show 0 + (i - 0) = i by omega, if_neg (by omega)]
  have hJ1 : st_I ν1 61 62 63 g := by
    obtain ⟨h1, h2, h3, h4, h5⟩ := hJ
    refine ⟨by rw [e61]; exact h1, fun i i0 i1 => ?_, fun i j i0 i1 i2 => ?_, h4, fun a => ?_⟩
    · rw [e61] at i1
      rw [e62 i i0 (by omega), e63 i i0 (by omega)]
      exact h2 i i0 i1
    · rw [e61] at i2
      rw [e63 i i0 (by omega), e62 j (by omega) (by omega)]
      exact h3 i j i0 i1 i2
    · rw [h5 a, e61]
      constructor
      · intro ⟨i, i0, i1, i2, i3⟩
        exact ⟨i, i0, i1, by rw [e62 i i0 (by omega)]; exact i2, by rw [e63 i i0 (by omega)]; exact i3⟩
      · intro ⟨i, i0, i1, i2, i3⟩
        rw [e62 i i0 (by omega)] at i2
        rw [e63 i i0 (by omega)] at i3
        exact ⟨i, i0, i1, i2, i3⟩
  have hbc := st_become (E := E) (d := d) (s := s) (ν := ν) (p := 61) (q := 62) (r := 63) (p2 := 55) (q2 := 56) (r2 := 57) hR.sh.2.2.2.2.2.2.2.1.2 hR.sh.2.2.2.2.2.1.2 (by omega)
  rw [← e1] at hbc
  refine ⟨ν1 64, ?_⟩
  refine sw_p 1 (f' := (1, [some (2, 50), some (2, 300 + c), some (0, x), some (0, e), none, none, none, none], [(2, 50)])) rfl ?_
  refine sw_hA (pn := 4) (i := 6) (v := 61) rfl rfl rfl rfl rfl hR.sh.1 hR.sh.2.2.2.2.2.2.2.1.1 (by omega) ?_
  refine sw_p 1 (f' := (5, [some (2, 50), some (2, 300 + c), some (0, x), some (0, e), none, none, none, none], [(2, 50), (2, 61)])) rfl ?_
  refine sw_hA (pn := 8) (i := 4) (v := 55) rfl rfl rfl rfl rfl hR.sh.1 hR.sh.2.2.2.2.2.1.1 (by omega) ?_
  refine sw_cv1 (pn := 11) (q0 := mj_PT_fits) (q := mj_St_become) (p := 61) (as2 := [(2, 55)]) (L2 := [some (2, 61), some (2, 55)]) (rest := []) (v := none) (s1 := s) (ν1 := ν1) rfl rfl rfl rfl rfl rfl rfl rfl rfl hR.sh.2.2.2.2.2.2.2.1.2.1.2 hbc ?_
  show sw_w E _ 48 (11, [some (2, 50), some (2, 300 + c), some (0, x), some (0, e), none, none, none, none], []) s ν1 _
  refine sw_p 2 (f' := (14, [some (2, 50), some (2, 300 + c), some (0, x), some (0, e), some (0, 0), none, none, none], [])) rfl ?_
  refine cl_fi_k (i := 0) hI hR0 hc hx (by omega) hf1 hJ1 hg (by rw [e61]; omega) (fun g ν2 o5 o6 o7 hf2 hJ2 hg2 hn2 => ?_)
  refine cl_fi_k (i := 0 + 1) hI hR0 hc hx (by omega) hf2 hJ2 hg2 hn2 (fun g ν3 o5 o6 o7 hf3 hJ3 hg3 hn3 => ?_)
  refine cl_fi_k (i := 0 + 1 + 1) hI hR0 hc hx (by omega) hf3 hJ3 hg3 hn3 (l := []) (fun g ν4 o5 o6 o7 hf4 hJ4 hg4 hn4 => ?_)
  show sw_w E (d + 1) 48 (14, [some (2, 50), some (2, 300 + c), some (0, x), some (0, e), some (0, 3), o5, o6, o7], []) s ν4 _
  refine sw_p 2 (f' := (17, [some (2, 50), some (2, 300 + c), some (0, x), some (0, e), some (0, 3), o5, o6, o7], [(0, 3), (0, 3)])) rfl ?_
  refine sw_ge2 (pt := 108) (pn := 20) rfl rfl rfl (by omega) (by omega) (fun _ => ?_) (fun h => absurd h (by decide))
  refine sw_p 1 (f' := (109, [some (2, 50), some (2, 300 + c), some (0, x), some (0, e), some (0, 3), o5, o6, o7], [(0, 1)])) rfl ?_
  exact sw_retZ rfl rfl rfl (by omega) ⟨_, rfl, rfl, rfl, hf4, fun k _ _ => rfl⟩
end PC4
