/-! throwing, handlers, copies of arrays -/
def nm_cnt (κ : mm_T) (c s : Int) : mm_T := fun q i => if q = -1 ∧ i = 0 then κ (-1) 0 + c else if q = -1 ∧ i = 1 then κ (-1) 1 + s else κ q i
section NME
variable {E : mv_E} {A A' A2 : Int → Int} {κ κ' κ2 μ μ' : mm_T} {d j pc pn pt j2 : Nat} {L L2 : mg_L} {S rest as2 : List mg_V} {f f' : mg_F} {Q Q2 : nm_O → mm_T → Prop} {x y z a v i k l p w : Int} {n t : Nat} {q0 q : mv_J}
theorem nm_cnt_ne {c s q : Int} (h : q ≠ -1) : nm_cnt κ c s q i = κ q i := by simp [nm_cnt, h]
theorem nm_cnt_1 {c s : Int} : nm_cnt κ c s (-1) (-1) = κ (-1) (-1) := by simp [nm_cnt]
theorem nm_cnt_a {c s q : Int} : nm_a (nm_cnt κ c s) q ↔ nm_a κ q := by
  unfold nm_a
  by_cases h : q = -1
  · subst h; rw [nm_cnt_1]
  · rw [nm_cnt_ne h]
theorem nm_cnt_k {c s q : Int} : nm_k (nm_cnt κ c s) q ↔ nm_k κ q := by unfold nm_k; rw [nm_cnt_a]
theorem nm_R_cnt {K : mv_K} (hR : nm_R E A κ μ) (hK : mt_cl[n]? = some K) : nm_R E A (nm_cnt κ 1 (K.2.2.2.1 : Int)) (mm_al E μ (100 + (n : Int)) 0 (mm_z n)) := by
  obtain ⟨h1, h2, h3, h4, h5, h6⟩ := hR
  have e0 : mm_al E μ (100 + (n : Int)) 0 (mm_z n) (-1) 0 = μ (-1) 0 + 1 := by simp [mm_al]
  have e1 : mm_al E μ (100 + (n : Int)) 0 (mm_z n) (E.1 + μ (-1) 0) (-1) = 100 + (n : Int) := by simp [mm_al]
  have hm : ∀ q i, nm_a κ q → mm_al E μ (100 + (n : Int)) 0 (mm_z n) (A q) i = μ (A q) i := by
    intro q i hq
    obtain ⟨g1, -, -⟩ := h1 q hq
    have := g1.1
    have := g1.2
    unfold mm_al
    rw [if_neg (by omega), if_neg (by omega)]
  have hq1 : ∀ q, nm_a κ q → q ≠ -1 := fun q hq e => h6 q (Or.inl (by omega)) hq
  refine ⟨fun q hq => ?_, fun q r hq hr => h2 q r (nm_cnt_a.mp hq) (nm_cnt_a.mp hr), fun q i hq hi => ?_, ⟨?_, ?_, ?_⟩, h5, fun q hq hqa => h6 q hq (nm_cnt_a.mp hqa)⟩
  · have hq' := nm_cnt_a.mp hq
    obtain ⟨g1, g2, g3⟩ := h1 q hq'
    rw [hm q _ hq', hm q _ hq', nm_cnt_ne (hq1 q hq'), nm_cnt_ne (hq1 q hq')]
    exact ⟨⟨g1.1, by rw [e0]; have := g1.2; omega⟩, g2, g3⟩
  · have hq' := nm_cnt_a.mp hq
    rw [hm q _ hq', nm_cnt_ne (hq1 q hq'), nm_cnt_ne (hq1 q hq')]
    simp only [nm_cnt_k]
    exact h3 q i hq' hi
  · rw [e0]; have := h4.1; omega
  · rw [e0]
    unfold nm_cnt
    rw [if_pos ⟨rfl, rfl⟩, h4.2.1]
  · have e9 : nm_cnt κ 1 (K.2.2.2.1 : Int) (-1) 1 = κ (-1) 1 + (K.2.2.2.1 : Int) := by
      unfold nm_cnt
      rw [if_neg (by omega), if_pos ⟨rfl, rfl⟩]
    rw [e9, mm_sz_al h4.1 rfl, h4.2.2, mm_co e1]
    simp only [mv_cz, hK]
    omega
theorem nm_thr {K : mv_K} {sz : Int} (hr : mg_at j pc = some (3, .instanceof n)) (hK : mt_cl[n]? = some K) (hKf : K.2.2.2.2 = []) (hsz : (K.2.2.2.1 : Int) = sz) (hS : decide (((mg_eS S).map fun v => v.category).sum ≤ 24) = true) (hd : 5 ≤ d) (h : Q (.inr n) (nm_cnt κ 1 sz)) : nm_w E d j (pc, L, S) κ Q := fun A μ hR hf => by
  subst hsz
  refine mg_thr (L := nm_l A L) (S := nm_s A S) hr hK hKf (by rw [nm_cat]; exact hS) hd rfl hR.2.2.2.1.1 ?_
  have h0 := hR.2.2.2.1.1
  refine ⟨A, nm_cnt κ 1 (K.2.2.2.1 : Int), .inr n, nm_R_cnt hR hK, fun q hq => ⟨rfl, nm_cnt_k.mpr hq⟩, ⟨⟨by omega, ?_⟩, ?_⟩, h⟩
  · have e0 : mm_al E μ (100 + (n : Int)) 0 (mm_z n) (-1) 0 = μ (-1) 0 + 1 := by simp [mm_al]
    rw [e0]; omega
  · simp [mm_al]
/-- a method of an object, called where exceptions are caught; a handler puts the exception away and returns an int -/
theorem nm_cvh (hr : mg_at j pc = some (3, .invokevirtual j2)) (hn : pc + 3 = pn) (hq0 : mt_ms[j]? = some q0) (hh : mj_hr q0 ≠ []) (hq : mt_ms[j2]? = some q) (hfit : (decide (mj_a q ≤ S.length) && decide (((mg_eS (S.drop (mj_a q))).map fun v => v.category).sum ≤ 8) && decide ((mg_ent (S.take (mj_a q)).reverse).length ≤ mj_n q)) = true) (has : (S.take (mj_a q)).reverse = (2, p) :: as2) (hL : mg_in (mj_n q) ((2, p) :: as2) = L2) (hrest : S.drop (mj_a q) = rest) (hc : κ p (-1) = 100 + ((mj_k q : Nat) : Int))
    (w : nm_w E d j2 (0, L2, []) κ Q2) (k1 : ∀ (v : Option mg_V) (κ' : mm_T), Q2 (.inl v) κ' → nm_w E (d + 1) j (pn, L, v.toList ++ rest) κ' Q)
    (k2 : ∀ (c : Nat) (κ' : mm_T), Q2 (.inr c) κ' → ∃ (pc' pr : Nat) (z : Int), mv_seek mt_nc c pc (mj_hr q0) = some pc' ∧ (∀ (A : Int → Int) (a : Int), ∃ L3, mg_ps j 2 (pc', nm_l A L, [(2, a)]) = some (pr, L3, [(0, z)])) ∧ mg_at j pr = some (1, .ireturn) ∧ mj_r q0 = some .int ∧ Q (.inl (some (0, z))) κ') : nm_w E (d + 1) j (pc, L, S) κ Q := fun A μ hR hf => by
  have ha : nm_a κ p := by unfold nm_a; omega
  obtain ⟨h1, h2, h3⟩ := hR.1 p ha
  refine mg_cvh (a := A p) (as2 := nm_s A as2) (L := nm_l A L) (S := nm_s A S) (L2 := nm_l A L2) (rest := nm_s A rest) hr hn hq0 hh hq (nm_fit hfit) (by rw [nm_tk, has]; rfl) (by rw [← nm_v2, ← nm_s_cons, nm_in, hL]) (by rw [nm_dr, hrest]) hc ⟨h1, h2⟩ (w A μ hR (by rw [← hL, ← has]; exact nm_kin _ (nm_kS hf))) (fun v μ' h => nm_aft hf hrest k1 h) (fun a μ' h => ?_)
  obtain ⟨A', κ', o, g1, g2, g3, g4⟩ := h
  cases o with
  | inl w => cases w <;> exact g3.elim
  | inr c =>
    obtain ⟨pc', pr, z, e1, e2, e3, e4, e5⟩ := k2 c κ' g4
    obtain ⟨L3, e6⟩ := e2 A a
    exact ⟨c, pc', g3, e1, mg_p 2 e6 (mg_retI e3 hq0 e4 ⟨A', κ', .inl (some (0, z)), g1, g2, ⟨rfl, nm_kv0 (by decide)⟩, e5⟩)⟩
/-! copies -/
def mm_cp (μ : mm_T) (b dp a sp n : Int) : mm_T := fun q i => if q = b ∧ dp ≤ i ∧ i < dp + n then μ a (sp + (i - dp)) else μ q i
theorem mm_cp_h (h : mm_i E μ p) (hc : 0 ≤ y) {c : mv_C} (he : c = mm_c (mm_cp μ p y a x z) p) : mv_up E.1 (mm_h E μ) p.toNat c = mm_h E (mm_cp μ p y a x z) := by
  have hn : mm_cp μ p y a x z (-1) 0 = μ (-1) 0 := by unfold mm_cp; rw [if_neg (by have := h.1; omega)]
  obtain ⟨h0, h1⟩ := h
  apply List.ext_getElem?
  intro k
  unfold mv_up
  by_cases hk : k < (μ (-1) 0).toNat
  · have e2 : (mm_h E (mm_cp μ p y a x z))[k]? = some (mm_c (mm_cp μ p y a x z) ((E.1 : Int) + k)) := mm_h_at (by rw [hn]; exact hk)
    rw [e2]
    by_cases hka : p.toNat - E.1 = k
    · subst hka
      rw [List.getElem?_set_self (by rw [mm_h_len]; exact hk), he, show (E.1 : Int) + ((p.toNat - E.1 : Nat) : Int) = p by omega]
    · rw [List.getElem?_set_ne hka, mm_h_at hk]
      have hne : (E.1 : Int) + k ≠ p := by omega
      simp [mm_c, mm_cp, hne]
  · rw [List.getElem?_eq_none (by rw [List.length_set, mm_h_len]; omega), List.getElem?_eq_none (by rw [mm_h_len, hn]; omega)]
/-- ints copied from the array a to another, b -/
theorem nm_cpy {b la lb : Int} (hr : mg_at j pc = some (3, .monitorenter)) (hn : pc + 3 = pn) (hab : a ≠ b) (hk : κ a (-1) = 0) (hl : κ a (-2) = la) (hkb : κ b (-1) = 0) (hlb : κ b (-2) = lb) (hx : 0 ≤ x ∧ x < 2147483648) (hy : 0 ≤ y ∧ y < 2147483648) (hz : 0 ≤ z ∧ z < 2147483648) (h1 : x + z ≤ la) (h2 : y + z ≤ lb) (hS : decide (((mg_eS S).map fun v => v.category).sum ≤ 24) = true) (kk : nm_w E d j (pn, L, S) (mm_cp κ b y a x z) Q) : nm_w E d j (pc, L, (0, z) :: (0, y) :: (2, b) :: (0, x) :: (2, a) :: S) κ Q := fun A μ hR hf => by
  subst hn
  obtain ⟨ha, hra⟩ := nm_ar (t := 0) hR hk
  obtain ⟨hb, hrb⟩ := nm_ar (t := 0) hR hkb
  have hba := nm_pos hR hb
  have e8 : ∀ i, 0 ≤ i → μ (A a) i = κ a i := fun i hi => nm_rd hR ha (by omega) hi
  have hAne : A a ≠ A b := fun e => hab (hR.2.1 a b ha hb e)
  have hcb : nm_a (mm_cp κ b y a x z) = nm_a κ := by
    funext q
    unfold nm_a mm_cp
    rw [if_neg (by omega)]
  have hkb2 : nm_k (mm_cp κ b y a x z) = nm_k κ := by
    funext q
    unfold nm_k
    rw [hcb]
  have hR2 : nm_R E A (mm_cp κ b y a x z) (mm_cp μ (A b) y (A a) x z) := by
    obtain ⟨g1, g2, g3, g4, g5, g6⟩ := hR
    have hAb := (g1 b hb).1.pos
    have hneg : ∀ (q i : Int), i < 0 → mm_cp μ (A b) y (A a) x z q i = μ q i := fun q i hi => by unfold mm_cp; rw [if_neg (by omega)]
    have hnegk : ∀ (q i : Int), i < 0 → mm_cp κ b y a x z q i = κ q i := fun q i hi => by unfold mm_cp; rw [if_neg (by omega)]
    have hn0 : mm_cp μ (A b) y (A a) x z (-1) 0 = μ (-1) 0 := by unfold mm_cp; rw [if_neg (by omega)]
    rw [nm_R, hcb, hkb2]
    refine ⟨fun q hq => ?_, g2, fun q i hq hi => ?_, ⟨by rw [hn0]; exact g4.1, ?_, ?_⟩, g5, g6⟩
    · obtain ⟨r1, r2, r3⟩ := g1 q hq
      rw [hneg _ _ (by omega), hneg _ _ (by omega), hnegk _ _ (by omega), hnegk _ _ (by omega)]
      exact ⟨⟨r1.1, by rw [hn0]; exact r1.2⟩, r2, r3⟩
    · rw [hnegk q (-1) (by omega)]
      by_cases hqi : q = b ∧ y ≤ i ∧ i < y + z
      · obtain ⟨rfl, h3, h4⟩ := hqi
        have e1 : mm_cp κ q y a x z q i = κ a (x + (i - y)) := by unfold mm_cp; rw [if_pos ⟨rfl, h3, h4⟩]
        have e2 : mm_cp μ (A q) y (A a) x z (A q) i = μ (A a) (x + (i - y)) := by unfold mm_cp; rw [if_pos ⟨rfl, h3, h4⟩]
        rw [e1, e2, nm_w3 (by omega)]
        exact e8 _ (by omega)
      · have e1 : mm_cp κ b y a x z q i = κ q i := by unfold mm_cp; rw [if_neg hqi]
        have e2 : mm_cp μ (A b) y (A a) x z (A q) i = μ (A q) i := by unfold mm_cp; rw [if_neg (fun e => hqi ⟨g2 q b hq hb e.1, e.2⟩)]
        rw [e1, e2]
        exact g3 q i hq hi
    · rw [hn0]
      unfold mm_cp
      rw [if_neg (by omega)]
      exact g4.2.1
    · have e5 : mm_cp κ b y a x z (-1) 1 = κ (-1) 1 := by unfold mm_cp; rw [if_neg (by omega)]
      rw [e5, g4.2.2, ← mm_cp_h (g1 b hb).1 hy.1 rfl]
      congr 1
      refine (mv_up_sz mt_cl (mm_lk (g1 b hb).1) ?_).symm
      unfold mm_c
      rw [hneg _ _ (by omega), hneg _ _ (by omega)]
      split <;> rfl
  have hf5 : nm_kf κ (pc + 3, L, S) := nm_kf2 (pc := 0) (nm_kf3 (pc2 := 0) hf)
  refine mg_step (f' := (pc + 3, nm_l A L, nm_s A S)) (μ' := mm_cp μ (A b) y (A a) x z) hr rfl ?_ (nm_on (f := (pc + 3, L, S)) hR2 (fun q hq => ⟨rfl, by rw [hkb2]; exact hq⟩) ⟨fun v hv e => by rw [hkb2]; exact hf5.1 v hv e, fun v hv e => by rw [hkb2]; exact hf5.2 v hv e⟩ kk)
  show (match mv_lk E.1 (mm_h E μ) (A a).toNat, mv_lk E.1 (mm_h E μ) (A b).toNat with
      | some (.inl X), some (.inl Y) => if ¬ Int32.ofInt x < 0 ∧ ¬ Int32.ofInt y < 0 ∧ ¬ Int32.ofInt z < 0 ∧ (Int32.ofInt x).toNatClampNeg + (Int32.ofInt z).toNatClampNeg ≤ X.2.1 ∧ (Int32.ofInt y).toNatClampNeg + (Int32.ofInt z).toNatClampNeg ≤ Y.2.1 ∧ mt_ty[X.1]? = some FieldType.int ∧ mt_ty[Y.1]? = some FieldType.int ∧ (∀ k, k < (Int32.ofInt z).toNatClampNeg → mv_isI (X.2.2 ((Int32.ofInt x).toNatClampNeg + k)) = true) ∧ ((mg_eS (nm_s A S)).map fun v => Value.category v).sum ≤ 24 then some ((pc + 3, mg_eL (nm_l A L), mg_eS (nm_s A S)), mv_up E.1 (mm_h E μ) (A b).toNat (Sum.inl (Y.1, Y.2.1, va_cpy X.2.2 Y.2.2 (Int32.ofInt x).toNatClampNeg (Int32.ofInt y).toNatClampNeg (Int32.ofInt z).toNatClampNeg))) else none
      | _, _ => none) = _
  rw [mm_lk hra.1, mm_lk hrb.1, mm_ca hra.2.1 (by omega), mm_ca hrb.2.1 (by omega)]
  simp only []
  rw [mg_tn hx, mg_tn hy, mg_tn hz]
  have n1 : ∀ u : Int, 0 ≤ u ∧ u < 2147483648 → ¬ Int32.ofInt u < 0 := fun u hu h => by have := (mg_lt (x := u) (y := 0) (by omega) (by omega)).mp h; omega
  rw [if_pos ⟨n1 x hx, n1 y hy, n1 z hz, by rw [hra.2.2, hl]; omega, by rw [hrb.2.2, hlb]; omega, rfl, rfl, fun k hk => rfl, by rw [nm_cat]; exact of_decide_eq_true hS⟩]
  have e7 : mv_up E.1 (mm_h E μ) (A b).toNat (Sum.inl (0, (μ (A b) (-2)).toNat, va_cpy (fun i : Nat => md_a 0 (μ (A a) i)) (fun i : Nat => md_a 0 (μ (A b) i)) x.toNat y.toNat z.toNat)) = mm_h E (mm_cp μ (A b) y (A a) x z) := by
    refine mm_cp_h hrb.1 hy.1 ?_
    have hk2 : mm_cp μ (A b) y (A a) x z (A b) (-1) = ((0 : Nat) : Int) := by unfold mm_cp; rw [if_neg (by omega)]; exact hrb.2.1
    have hk3 : mm_cp μ (A b) y (A a) x z (A b) (-2) = μ (A b) (-2) := by unfold mm_cp; rw [if_neg (by omega)]
    rw [mm_ca hk2 (by omega), hk3]
    congr 3
    funext r
    unfold va_cpy mm_cp
    by_cases hr9 : y ≤ (r : Int) ∧ (r : Int) < y + z
    · rw [if_pos ⟨by omega, by omega⟩, if_pos ⟨rfl, hr9⟩]
      show md_a 0 (μ (A a) ((x.toNat + (r - y.toNat) : Nat) : Int)) = _
      rw [show ((x.toNat + (r - y.toNat) : Nat) : Int) = x + ((r : Int) - y) by omega]
    · rw [if_neg (by omega), if_neg (fun e => hr9 e.2)]
  rw [e7]
  rfl
end NME
