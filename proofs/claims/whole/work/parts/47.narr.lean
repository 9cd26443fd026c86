/-! arrays and what is made, over names -/
section NMC
variable {E : mv_E} {A A' A2 : Int → Int} {κ κ' κ2 μ μ' : mm_T} {d j pc pn pt : Nat} {L : mg_L} {S : List mg_V} {f f' : mg_F} {Q Q' : nm_O → mm_T → Prop} {x y z a v i k l p w : Int} {n t : Nat}
theorem nm_acq {t : Int} (hr : mg_at j pc = some (3, .if_acmp .eq t)) (ht : t.toNat = pt) (hn : pc + 3 = pn) (hx : nm_a κ x) (hy : nm_a κ y) (k1 : x = y → nm_w E d j (pt, L, S) κ Q) (k2 : x ≠ y → nm_w E d j (pn, L, S) κ Q) : nm_w E d j (pc, L, (2, y) :: (2, x) :: S) κ Q := fun A μ hR hk => mg_acq (L := nm_l A L) (S := nm_s A S) (x := A x) (y := A y) hr ht hn (nm_A0 hR (Or.inl hx)) (nm_A0 hR (Or.inl hy)) (fun h => k1 (hR.2.1 x y hx hy h) A μ hR (nm_kf2 hk)) (fun h => k2 (fun e => h (by rw [e])) A μ hR (nm_kf2 hk))
theorem nm_acn {t : Int} (hr : mg_at j pc = some (3, .if_acmp .ne t)) (ht : t.toNat = pt) (hn : pc + 3 = pn) (hx : nm_a κ x) (hy : nm_a κ y) (k1 : x ≠ y → nm_w E d j (pt, L, S) κ Q) (k2 : x = y → nm_w E d j (pn, L, S) κ Q) : nm_w E d j (pc, L, (2, y) :: (2, x) :: S) κ Q := fun A μ hR hk => mg_acn (L := nm_l A L) (S := nm_s A S) (x := A x) (y := A y) hr ht hn (nm_A0 hR (Or.inl hx)) (nm_A0 hR (Or.inl hy)) (fun h => k1 (fun e => h (by rw [e])) A μ hR (nm_kf2 hk)) (fun h => k2 (hR.2.1 x y hx hy h) A μ hR (nm_kf2 hk))
/-- a cell compared with itself -/
theorem nm_acqs {t : Int} (hr : mg_at j pc = some (3, .if_acmp .eq t)) (ht : t.toNat = pt) (k1 : nm_w E d j (pt, L, S) κ Q) : nm_w E d j (pc, L, (2, x) :: (2, x) :: S) κ Q := fun A μ hR hk => mg_acq (L := nm_l A L) (S := nm_s A S) (x := A x) (y := A x) hr ht rfl (nm_A0 hR (hk.2 (2, x) List.mem_cons_self rfl)) (nm_A0 hR (hk.2 (2, x) List.mem_cons_self rfl)) (fun h => k1 A μ hR (nm_kf2 hk)) (fun h => absurd rfl h)
theorem nm_acns {t : Int} (hr : mg_at j pc = some (3, .if_acmp .ne t)) (hn : pc + 3 = pn) (k1 : nm_w E d j (pn, L, S) κ Q) : nm_w E d j (pc, L, (2, x) :: (2, x) :: S) κ Q := fun A μ hR hk => mg_acn (L := nm_l A L) (S := nm_s A S) (x := A x) (y := A x) hr rfl hn (nm_A0 hR (hk.2 (2, x) List.mem_cons_self rfl)) (nm_A0 hR (hk.2 (2, x) List.mem_cons_self rfl)) (fun h => absurd rfl h) (fun h => k1 A μ hR (nm_kf2 hk))
theorem nm_acn0 {t : Int} (hr : mg_at j pc = some (3, .if_acmp .ne t)) (ht : t.toNat = pt) (hn : pc + 3 = pn) (k1 : nm_w E d j (pt, L, S) κ Q) : nm_w E d j (pc, L, (3, y) :: (2, x) :: S) κ Q := fun A μ hR hk => mg_acn0 (L := nm_l A L) (S := nm_s A S) (x := A x) hr ht hn (k1 A μ hR (nm_kf2 hk))
theorem nm_acq0 {t : Int} (hr : mg_at j pc = some (3, .if_acmp .eq t)) (ht : t.toNat = pt) (hn : pc + 3 = pn) (k1 : nm_w E d j (pn, L, S) κ Q) : nm_w E d j (pc, L, (3, y) :: (2, x) :: S) κ Q := fun A μ hR hk => mg_acq0 (L := nm_l A L) (S := nm_s A S) (x := A x) hr ht hn (k1 A μ hR (nm_kf2 hk))
theorem nm_ar (hR : nm_R E A κ μ) (hk : κ p (-1) = (t : Int)) : nm_a κ p ∧ mm_r E μ (A p) (t : Int) (κ p (-2)) := by
  have ha : nm_a κ p := by unfold nm_a; omega
  obtain ⟨h1, h2, h3⟩ := hR.1 p ha
  exact ⟨ha, h1, h2.trans hk, h3⟩
theorem nm_len (hr : mg_at j pc = some (1, .arraylength)) (hn : pc + 1 = pn) (hk : κ p (-1) = (t : Int)) (ht : (mt_ty[t]?).isSome = true) (ht2 : t < 100) (hl : κ p (-2) = l) (hl0 : 0 ≤ l) (kk : nm_w E d j (pn, L, (0, l) :: S) κ Q) : nm_w E d j (pc, L, (2, p) :: S) κ Q := fun A μ hR hf => mg_len (L := nm_l A L) (S := nm_s A S) hr hn ht ht2 hl0 (by rw [← hl]; exact (nm_ar hR hk).2) (kk A μ hR (nm_kf_cons (pc := 0) (nm_kv0 (by decide)) (nm_kf_tail hf)))
theorem nm_lenS (hr : mg_at j pc = some (1, .arraylength)) (hn : pc + 1 = pn) (h0 : E.2.1 < E.1) (kk : nm_w E d j (pn, L, (0, (E.2.2.1 : Int)) :: S) κ Q) : nm_w E d j (pc, L, (2, 9001) :: S) κ Q := fun A μ hR hf => by
  show mg_w E d j (pc, nm_l A L, (2, A 9001) :: nm_s A S) μ _
  rw [hR.2.2.2.2.1.1]
  exact mg_lenS hr hn h0 (kk A μ hR (nm_kf_cons (pc := 0) (nm_kv0 (by decide)) (nm_kf_tail hf)))
theorem nm_lenE (hr : mg_at j pc = some (1, .arraylength)) (hn : pc + 1 = pn) (h0 : E.2.2.2.2.1 < E.1) (h1 : E.2.2.2.2.1 ≠ E.2.1) (kk : nm_w E d j (pn, L, (0, 0) :: S) κ Q) : nm_w E d j (pc, L, (2, 9002) :: S) κ Q := fun A μ hR hf => by
  show mg_w E d j (pc, nm_l A L, (2, A 9002) :: nm_s A S) μ _
  rw [hR.2.2.2.2.1.2.1]
  exact mg_lenE hr hn h0 h1 (kk A μ hR (nm_kf_cons (pc := 0) (nm_kv0 (by decide)) (nm_kf_tail hf)))
theorem nm_rd (hR : nm_R E A κ μ) (ha : nm_a κ p) (hk : κ p (-1) < 3) (hi : 0 ≤ i) : μ (A p) i = κ p i := by
  have h4 := hR.2.2.1 p i ha hi
  have e : nm_rf (κ p (-1)) i = false := by unfold nm_rf; rw [if_pos (by omega)]; exact decide_eq_false (by omega)
  rw [e] at h4
  exact h4
theorem nm_ial (hr : mg_at j pc = some (1, .iaload)) (hn : pc + 1 = pn) (hk : κ p (-1) = 0) (hl : κ p (-2) = l) (hl2 : l ≤ 2147483648) (hi : 0 ≤ i ∧ i < l) (kk : nm_w E d j (pn, L, (0, κ p i) :: S) κ Q) : nm_w E d j (pc, L, (0, i) :: (2, p) :: S) κ Q := fun A μ hR hf => by
  obtain ⟨ha, hr2⟩ := nm_ar (t := 0) hR hk
  rw [hl] at hr2
  refine mg_ial (L := nm_l A L) (S := nm_s A S) hr hn hi hl2 hr2 ?_
  rw [nm_rd hR ha (by omega) hi.1]
  exact kk A μ hR (nm_kf_cons (pc := 0) (nm_kv0 (by decide)) (nm_kf2 hf))
theorem nm_ialS (hr : mg_at j pc = some (1, .iaload)) (hn : pc + 1 = pn) (h0 : E.2.1 < E.1) (hi : 0 ≤ i ∧ i < (E.2.2.1 : Int)) (hl : E.2.2.1 ≤ 3072) (kk : nm_w E d j (pn, L, (0, (E.2.2.2.1 i.toNat).toInt) :: S) κ Q) : nm_w E d j (pc, L, (0, i) :: (2, 9001) :: S) κ Q := fun A μ hR hf => by
  show mg_w E d j (pc, nm_l A L, (0, i) :: (2, A 9001) :: nm_s A S) μ _
  rw [hR.2.2.2.2.1.1]
  exact mg_ialS hr hn h0 hi hl (kk A μ hR (nm_kf_cons (pc := 0) (nm_kv0 (by decide)) (nm_kf2 hf)))
theorem nm_bal (hr : mg_at j pc = some (1, .baload)) (hn : pc + 1 = pn) (hk : κ p (-1) = 1) (hl : κ p (-2) = l) (hl2 : l ≤ 2147483648) (hi : 0 ≤ i ∧ i < l) (kk : nm_w E d j (pn, L, (0, κ p i) :: S) κ Q) : nm_w E d j (pc, L, (0, i) :: (2, p) :: S) κ Q := fun A μ hR hf => by
  obtain ⟨ha, hr2⟩ := nm_ar (t := 1) hR hk
  rw [hl] at hr2
  refine mg_bal (L := nm_l A L) (S := nm_s A S) hr hn hi hl2 hr2 ?_
  rw [nm_rd hR ha (by omega) hi.1]
  exact kk A μ hR (nm_kf_cons (pc := 0) (nm_kv0 (by decide)) (nm_kf2 hf))
theorem nm_lal (hr : mg_at j pc = some (1, .laload)) (hn : pc + 1 = pn) (hk : κ p (-1) = 2) (hl : κ p (-2) = l) (hl2 : l ≤ 2147483648) (hi : 0 ≤ i ∧ i < l) (kk : nm_w E d j (pn, L, (1, κ p i) :: S) κ Q) : nm_w E d j (pc, L, (0, i) :: (2, p) :: S) κ Q := fun A μ hR hf => by
  obtain ⟨ha, hr2⟩ := nm_ar (t := 2) hR hk
  rw [hl] at hr2
  refine mg_lal (L := nm_l A L) (S := nm_s A S) hr hn hi hl2 hr2 ?_
  rw [nm_rd hR ha (by omega) hi.1]
  exact kk A μ hR (nm_kf_cons (pc := 0) (nm_kv0 (by decide)) (nm_kf2 hf))
theorem mg_aA_3 (h : mg_aA t = true) : 3 ≤ t := by
  match t, h with
  | 0, h => cases h
  | 1, h => cases h
  | 2, h => cases h
  | t + 3, _ => omega
theorem nm_aal (hr : mg_at j pc = some (1, .aaload)) (hn : pc + 1 = pn) (ht : mg_aA t = true) (ht2 : t < 100) (hk : κ p (-1) = (t : Int)) (hl : κ p (-2) = l) (hl2 : l ≤ 2147483648) (hi : 0 ≤ i ∧ i < l) (k1 : 0 ≤ κ p i → nm_w E d j (pn, L, (2, κ p i) :: S) κ Q) (k2 : κ p i < 0 → nm_w E d j (pn, L, (3, 0) :: S) κ Q) : nm_w E d j (pc, L, (0, i) :: (2, p) :: S) κ Q := fun A μ hR hf => by
  obtain ⟨ha, hr2⟩ := nm_ar hR hk
  rw [hl] at hr2
  have h3 := mg_aA_3 ht
  have h4 := hR.2.2.1 p i ha hi.1
  have e : nm_rf (κ p (-1)) i = true := by unfold nm_rf; rw [if_pos (by omega)]; exact decide_eq_true (by omega)
  rw [e, if_pos rfl] at h4
  refine mg_aal (a := A p) (L := nm_l A L) (S := nm_s A S) hr hn ht ht2 hi hl2 hr2 (fun h0 => ?_) (fun h0 => ?_)
  · rcases h4 with ⟨h5, h6⟩ | ⟨h5, h6, h7, h8⟩
    · omega
    · rw [h8]
      exact k1 h6 A μ hR (nm_kf_cons (pc := 0) (fun _ => h5) (nm_kf2 hf))
  · rcases h4 with ⟨h5, h6⟩ | ⟨h5, h6, h7, h8⟩
    · exact k2 h5 A μ hR (nm_kf_cons (pc := 0) (nm_kv0 (by decide)) (nm_kf2 hf))
    · omega
theorem nm_kf3 {v1 v2 v3 : mg_V} {pc2 : Nat} (h : nm_kf κ (pc, L, v1 :: v2 :: v3 :: S)) : nm_kf κ (pc2, L, S) := nm_kf_tail (pc := 0) (nm_kf2 (pc2 := 0) h)
theorem nm_w3 (hk : κ p (-1) < 3) : nm_rf (κ p (-1)) i = false := by unfold nm_rf; rw [if_pos (by omega)]; exact decide_eq_false (by omega)
theorem nm_ias (hr : mg_at j pc = some (1, .iastore)) (hn : pc + 1 = pn) (hk : κ p (-1) = 0) (hl : κ p (-2) = l) (hl2 : l ≤ 2147483648) (hi : 0 ≤ i ∧ i < l) (kk : nm_w E d j (pn, L, S) (mm_u κ p i z) Q) : nm_w E d j (pc, L, (0, z) :: (0, i) :: (2, p) :: S) κ Q := fun A μ hR hf => by
  obtain ⟨ha, hr2⟩ := nm_ar (t := 0) hR hk
  rw [hl] at hr2
  refine mg_ias (L := nm_l A L) (S := nm_s A S) hr hn hi hl2 hr2 ?_
  exact nm_on (f := (pn, L, S)) (nm_R_u (p := p) hR ha hi.1 (by rw [nm_w3 (by omega)]; exact rfl)) (nm_x_u hi.1) (nm_kf_u hi.1 (nm_kf3 hf)) kk
theorem nm_bas (hr : mg_at j pc = some (1, .bastore)) (hn : pc + 1 = pn) (hz : z = 0 ∨ z = 1) (hk : κ p (-1) = 1) (hl : κ p (-2) = l) (hl2 : l ≤ 2147483648) (hi : 0 ≤ i ∧ i < l) (kk : nm_w E d j (pn, L, S) (mm_u κ p i z) Q) : nm_w E d j (pc, L, (0, z) :: (0, i) :: (2, p) :: S) κ Q := fun A μ hR hf => by
  obtain ⟨ha, hr2⟩ := nm_ar (t := 1) hR hk
  rw [hl] at hr2
  refine mg_bas (L := nm_l A L) (S := nm_s A S) hr hn hz hi hl2 hr2 ?_
  exact nm_on (f := (pn, L, S)) (nm_R_u (p := p) hR ha hi.1 (by rw [nm_w3 (by omega)]; exact rfl)) (nm_x_u hi.1) (nm_kf_u hi.1 (nm_kf3 hf)) kk
theorem nm_las (hr : mg_at j pc = some (1, .lastore)) (hn : pc + 1 = pn) (hk : κ p (-1) = 2) (hl : κ p (-2) = l) (hl2 : l ≤ 2147483648) (hi : 0 ≤ i ∧ i < l) (kk : nm_w E d j (pn, L, S) (mm_u κ p i z) Q) : nm_w E d j (pc, L, (1, z) :: (0, i) :: (2, p) :: S) κ Q := fun A μ hR hf => by
  obtain ⟨ha, hr2⟩ := nm_ar (t := 2) hR hk
  rw [hl] at hr2
  refine mg_las (L := nm_l A L) (S := nm_s A S) hr hn hi hl2 hr2 ?_
  exact nm_on (f := (pn, L, S)) (nm_R_u (p := p) hR ha hi.1 (by rw [nm_w3 (by omega)]; exact rfl)) (nm_x_u hi.1) (nm_kf_u hi.1 (nm_kf3 hf)) kk
theorem nm_wA (ht : mg_aA t = true) (ht2 : t < 100) (hk : κ p (-1) = (t : Int)) : nm_rf (κ p (-1)) i = true := by
  have h3 := mg_aA_3 ht
  unfold nm_rf
  rw [if_pos (by omega)]
  exact decide_eq_true (by omega)
theorem nm_aasN (hr : mg_at j pc = some (1, .aastore)) (hn : pc + 1 = pn) (ht : mg_aA t = true) (ht2 : t < 100) (hk : κ p (-1) = (t : Int)) (hl : κ p (-2) = l) (hl2 : l ≤ 2147483648) (hi : 0 ≤ i ∧ i < l) (kk : nm_w E d j (pn, L, S) (mm_u κ p i (-1)) Q) : nm_w E d j (pc, L, (3, 0) :: (0, i) :: (2, p) :: S) κ Q := fun A μ hR hf => by
  obtain ⟨ha, hr2⟩ := nm_ar hR hk
  rw [hl] at hr2
  refine mg_aasN (L := nm_l A L) (S := nm_s A S) hr hn ht ht2 hi hl2 hr2 ?_
  exact nm_on (f := (pn, L, S)) (nm_R_u (p := p) hR ha hi.1 (by rw [nm_wA ht ht2 hk, if_pos rfl]; exact Or.inl ⟨by omega, by omega⟩)) (nm_x_u hi.1) (nm_kf_u hi.1 (nm_kf3 hf)) kk
theorem nm_aas {c : Nat} (hr : mg_at j pc = some (1, .aastore)) (hn : pc + 1 = pn) (ht : mg_aA t = true) (ht2 : t < 100) (hct : mt_as.contains (c, t) = true) (hv : κ v (-1) = 100 + (c : Int)) (hk : κ p (-1) = (t : Int)) (hl : κ p (-2) = l) (hl2 : l ≤ 2147483648) (hi : 0 ≤ i ∧ i < l) (kk : nm_w E d j (pn, L, S) (mm_u κ p i v) Q) : nm_w E d j (pc, L, (2, v) :: (0, i) :: (2, p) :: S) κ Q := fun A μ hR hf => by
  obtain ⟨ha, hr2⟩ := nm_ar hR hk
  rw [hl] at hr2
  have hva : nm_a κ v := by unfold nm_a; omega
  obtain ⟨g1, g2, g3⟩ := hR.1 v hva
  refine mg_aas (L := nm_l A L) (S := nm_s A S) hr hn ht ht2 hv hct hi hl2 hr2 ⟨g1, g2⟩ ?_
  exact nm_on (f := (pn, L, S)) (nm_R_u (p := p) hR ha hi.1 (by rw [nm_wA ht ht2 hk, if_pos rfl]; exact Or.inr ⟨Or.inl hva, nm_pos hR hva, nm_A0 hR (Or.inl hva), rfl⟩)) (nm_x_u hi.1) (nm_kf_u hi.1 (nm_kf3 hf)) kk
theorem nm_cast (hr : mg_at j pc = some (3, .checkcast n)) (hn : pc + 3 = pn) (hc : κ p (-1) = 100 + (n : Int)) (kk : nm_w E d j (pn, L, (2, p) :: S) κ Q) : nm_w E d j (pc, L, (2, p) :: S) κ Q := fun A μ hR hf => by
  have ha : nm_a κ p := by unfold nm_a; omega
  obtain ⟨g1, g2, g3⟩ := hR.1 p ha
  exact mg_cast (L := nm_l A L) (S := nm_s A S) hr hn hc ⟨g1, g2⟩ (kk A μ hR hf)
theorem nm_cat : (mg_eS (nm_s A S)).map (fun v => v.category) = (mg_eS S).map fun v => v.category := by
  unfold mg_eS nm_s
  rw [List.map_map, List.map_map, List.map_map]
  congr 1
  funext v
  obtain ⟨t, z⟩ := v
  match t with
  | 0 => rfl
  | 1 => rfl
  | 2 => rfl
  | t + 3 => rfl
theorem nm_oi (hr : mg_at j pc = some (3, .monitorexit)) (hn : pc + 3 = pn) (hS : decide (((mg_eS S).map fun v => v.category).sum ≤ 24) = true) (kk : nm_w E d j (pn, L, S) κ Q) : nm_w E d j (pc, L, (2, p) :: S) κ Q := fun A μ hR hf => mg_oi (L := nm_l A L) (S := nm_s A S) hr hn (by rw [nm_cat]; exact hS) (kk A μ hR (nm_kf_tail hf))
/-! what is made: under a name that is not in use -/
def nm_up (A : Int → Int) (p a : Int) : Int → Int := fun q => if q = p then a else A q
theorem nm_up_at : nm_up A p a p = a := by simp [nm_up]
theorem nm_up_ne {q : Int} (h : q ≠ p) : nm_up A p a q = A q := by simp [nm_up, h]
def nm_al (κ : mm_T) (p k l sz : Int) (z0 : Int → Int) : mm_T := fun q i => if q = -1 ∧ i = 0 then κ (-1) 0 + 1 else if q = -1 ∧ i = 1 then κ (-1) 1 + sz else if q = p then (if i = -1 then k else if i = -2 then l else z0 i) else κ q i
theorem nm_al_ne {sz : Int} {z0 : Int → Int} {q : Int} (h : q ≠ p) (h1 : q ≠ -1) : nm_al κ p k l sz z0 q i = κ q i := by simp [nm_al, h, h1]
theorem mm_sz_al {z0 : Int → Int} (h0 : 0 ≤ μ (-1) 0) {c : mv_C} (hc : c = mm_c (mm_al E μ k l z0) (E.1 + μ (-1) 0)) : mv_sz mt_cl (mm_h E (mm_al E μ k l z0)) = mv_sz mt_cl (mm_h E μ) + mv_cz mt_cl c := by
  rw [← mm_push h0 hc, mv_sz_app]
theorem nm_R_al {z0 : Int → Int} {sz : Int} (hR : nm_R E A κ μ) (hp : 0 ≤ p) (hp2 : ¬ (9001 ≤ p ∧ p ≤ 9003)) (hpn : κ p (-1) < 0) (hk : 0 ≤ k) (hz : ∀ i, 0 ≤ i → nm_rf k i = true → z0 i < 0) (hsz : sz = (mv_cz mt_cl (mm_c (mm_al E μ k l z0) (E.1 + μ (-1) 0)) : Int)) : nm_R E (nm_up A p (E.1 + μ (-1) 0)) (nm_al κ p k l sz z0) (mm_al E μ k l z0) ∧ nm_x A (nm_up A p (E.1 + μ (-1) 0)) κ (nm_al κ p k l sz z0) := by
  obtain ⟨h1, h2, h3, h4, h5, h6⟩ := hR
  have e0 : mm_al E μ k l z0 (-1) 0 = μ (-1) 0 + 1 := by simp [mm_al]
  have hm : ∀ q i, nm_a κ q → mm_al E μ k l z0 (A q) i = μ (A q) i := by
    intro q i hq
    obtain ⟨g1, -, -⟩ := h1 q hq
    have := g1.1
    have := g1.2
    unfold mm_al
    rw [if_neg (by omega), if_neg (by omega)]
  have hq1 : ∀ q, nm_a κ q → q ≠ p ∧ q ≠ -1 := by
    intro q hq
    refine ⟨?_, fun e => h6 q (Or.inl (by omega)) hq⟩
    rintro rfl
    unfold nm_a at hq
    omega
  have ha : ∀ q, nm_a (nm_al κ p k l sz z0) q → q = p ∨ nm_a κ q := by
    intro q hq
    by_cases e : q = p
    · exact Or.inl e
    · right
      unfold nm_a at hq ⊢
      by_cases e1 : q = -1
      · subst e1
        simp [nm_al, e] at hq
        exact hq
      · rwa [nm_al_ne e e1] at hq
  have hb : ∀ q, nm_a κ q → nm_a (nm_al κ p k l sz z0) q := by
    intro q hq
    obtain ⟨g1, g2⟩ := hq1 q hq
    unfold nm_a at hq ⊢
    rw [nm_al_ne g1 g2]
    exact hq
  have hkk : ∀ q, nm_k κ q → nm_k (nm_al κ p k l sz z0) q := fun q hq => hq.imp (hb q) id
  have hkp : ∀ q, nm_k κ q → q ≠ p := by
    rintro q (hq | hq) e
    · exact (hq1 q hq).1 e
    · omega
  have hp1 : nm_al κ p k l sz z0 p (-1) = k := by
    unfold nm_al
    rw [if_neg (by omega), if_neg (by omega), if_pos rfl, if_pos rfl]
  have hp3 : nm_al κ p k l sz z0 p (-2) = l := by
    unfold nm_al
    rw [if_neg (by omega), if_neg (by omega), if_pos rfl, if_neg (by omega), if_pos rfl]
  have hp4 : ∀ i, 0 ≤ i → nm_al κ p k l sz z0 p i = z0 i := by
    intro i hi
    unfold nm_al
    rw [if_neg (by omega), if_neg (by omega), if_pos rfl, if_neg (by omega), if_neg (by omega)]
  refine ⟨⟨fun q hq => ?_, fun q r hq hr => ?_, fun q i hq hi => ?_, ⟨?_, ?_, ?_⟩, ?_, fun q hq hqa => ?_⟩, fun q hq => ⟨nm_up_ne (hkp q hq), hkk q hq⟩⟩
  · rcases ha q hq with rfl | hq'
    · rw [nm_up_at, hp1, hp3]
      refine ⟨⟨by have := h4.1; omega, by rw [e0]; omega⟩, ?_, ?_⟩
      · simp [mm_al]
      · simp [mm_al]
    · obtain ⟨g1, g2⟩ := hq1 q hq'
      obtain ⟨g3, g4, g5⟩ := h1 q hq'
      rw [nm_up_ne g1, hm q _ hq', hm q _ hq', nm_al_ne g1 g2, nm_al_ne g1 g2]
      exact ⟨⟨g3.1, by rw [e0]; have := g3.2; omega⟩, g4, g5⟩
  · rcases ha q hq with rfl | hq' <;> rcases ha r hr with rfl | hr'
    · intro _; rfl
    · rw [nm_up_at, nm_up_ne (hq1 r hr').1]
      intro e
      have := (h1 r hr').1.2
      omega
    · rw [nm_up_at, nm_up_ne (hq1 q hq').1]
      intro e
      have := (h1 q hq').1.2
      omega
    · rw [nm_up_ne (hq1 r hr').1, nm_up_ne (hq1 q hq').1]
      exact h2 q r hq' hr'
  · rcases ha q hq with rfl | hq'
    · rw [nm_up_at, hp1, hp4 i hi]
      have e3 : mm_al E μ k l z0 (E.1 + μ (-1) 0) i = z0 i := by
        unfold mm_al
        rw [if_neg (by have := h4.1; omega), if_pos rfl, if_neg (by omega), if_neg (by omega)]
      rw [e3]
      split
      · next hrf => exact Or.inl ⟨hz i hi hrf, hz i hi hrf⟩
      · rfl
    · obtain ⟨g1, g2⟩ := hq1 q hq'
      rw [nm_up_ne g1, hm q _ hq', nm_al_ne g1 g2, nm_al_ne g1 g2]
      have h7 := h3 q i hq' hi
      split at h7
      · next hrf =>
        rw [if_pos hrf]
        rcases h7 with h7 | ⟨g3, g4, g5, g6⟩
        · exact Or.inl h7
        · refine Or.inr ⟨hkk _ g3, g4, ?_, ?_⟩
          · rw [nm_up_ne (hkp _ g3)]; exact g5
          · rw [nm_up_ne (hkp _ g3)]; exact g6
      · next hrf =>
        rw [if_neg hrf]
        exact h7
  · rw [e0]; have := h4.1; omega
  · rw [e0]
    unfold nm_al
    rw [if_pos ⟨rfl, rfl⟩, h4.2.1]
  · have e9 : nm_al κ p k l sz z0 (-1) 1 = κ (-1) 1 + sz := by
      unfold nm_al
      rw [if_neg (by omega), if_pos ⟨rfl, rfl⟩]
    rw [e9, mm_sz_al h4.1 rfl, h4.2.2, hsz]
    omega
  · refine ⟨?_, ?_, ?_⟩
    · rw [nm_up_ne (by omega)]; exact h5.1
    · rw [nm_up_ne (by omega)]; exact h5.2.1
    · rw [nm_up_ne (by omega)]; exact h5.2.2
  · rcases ha q hqa with rfl | hq'
    · omega
    · exact h6 q hq hq'
/-- a frame over more memory -/
theorem nm_agree (hx : nm_x A A' κ κ') (hf : nm_kf κ f) : nm_f A' f = nm_f A f ∧ nm_kf κ' f := by
  have hv : ∀ v, nm_kv κ v → nm_v A' v = nm_v A v := by
    intro v hv
    unfold nm_v
    split
    · next h => rw [(hx v.2 (hv h)).1]
    · rfl
  refine ⟨?_, fun v h e => (hx _ (hf.1 v h e)).2, fun v h e => (hx _ (hf.2 v h e)).2⟩
  unfold nm_f nm_l nm_s
  congr 2
  · apply List.map_congr_left
    intro o ho
    cases o with
    | none => rfl
    | some v => show some (nm_v A' v) = some (nm_v A v); rw [hv v (hf.1 v ho)]
  · apply List.map_congr_left
    intro v h
    exact hv v (hf.2 v h)
end NMC
