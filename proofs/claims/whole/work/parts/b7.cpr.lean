/-! copies of references, for the lists -/
section CPR
variable {E : mv_E} {A A' A2 : Int → Int} {κ κ' κ2 μ μ' s ν : mm_T} {d j pc pn pt j2 : Nat} {L L2 : mg_L} {S rest as2 : List mg_V} {f f' : mg_F} {Q Q2 : nm_O → mm_T → Prop} {Qs : nm_O → mm_T → mm_T → Prop} {x y z a v i k l p w : Int} {n t : Nat} {q0 q : mv_J}
theorem nm_cpR {b la lb : Int} (hr : mg_at j pc = some (3, .d2l)) (hn : pc + 3 = pn) (hab : a ≠ b) (hk : κ a (-1) = 7) (hl : κ a (-2) = la) (hkb : κ b (-1) = 7) (hlb : κ b (-2) = lb) (hx : 0 ≤ x ∧ x < 2147483648) (hy : 0 ≤ y ∧ y < 2147483648) (hz : 0 ≤ z ∧ z < 2147483648) (h1 : x + z ≤ la) (h2 : y + z ≤ lb) (hel : ∀ i, x ≤ i → i < x + z → 0 ≤ κ a i ∧ κ (κ a i) (-1) = 104) (hS : decide (((mg_eS S).map fun v => v.category).sum ≤ 24) = true) (kk : nm_w E d j (pn, L, S) (mm_cp κ b y a x z) Q) : nm_w E d j (pc, L, (0, z) :: (0, y) :: (2, b) :: (0, x) :: (2, a) :: S) κ Q := fun A μ hR hf => by
  subst hn
  obtain ⟨ha, hra⟩ := nm_ar (t := 7) hR hk
  obtain ⟨hb, hrb⟩ := nm_ar (t := 7) hR hkb
  have hba := nm_pos hR hb
  have e8 : ∀ i, 0 ≤ i → (κ a i < 0 ∧ μ (A a) i < 0) ∨ (nm_k κ (κ a i) ∧ 0 ≤ κ a i ∧ 0 ≤ A (κ a i) ∧ μ (A a) i = A (κ a i)) := fun i hi => by
    have h4 := hR.2.2.1 a i ha hi
    rw [nm_wA (t := 7) rfl (by decide) hk, if_pos rfl] at h4
    exact h4
  have e9 : ∀ i, x ≤ i → i < x + z → mv_elt mt_as E.1 (mm_h E μ) 7 (md_a 7 (μ (A a) i)) = true := fun i g1 g2 => by
    obtain ⟨g3, g4⟩ := hel i g1 g2
    have hva : nm_a κ (κ a i) := by unfold nm_a; omega
    obtain ⟨g5, g6, g7⟩ := hR.1 _ hva
    rcases e8 i (by omega) with h5 | ⟨h5, h6, h7, h8⟩
    · omega
    · rw [h8]
      have ec : mv_cof E.1 (mm_h E μ) (A (κ a i)).toNat = some 4 := mm_cof (c := 4) ⟨g5, g6.trans g4⟩
      show mv_elt mt_as E.1 (mm_h E μ) 7 (if A (κ a i) < 0 then Value.null else .ref (A (κ a i)).toNat) = true
      rw [if_neg (by omega)]
      show (match mv_cof E.1 (mm_h E μ) (A (κ a i)).toNat with | some ci => mt_as.contains (ci, 7) | none => false) = true
      rw [ec]
      rfl
  have hAne : A a ≠ A b := fun e => hab (hR.2.1 a b ha hb e)
  have hcb : nm_a (mm_cp κ b y a x z) = nm_a κ := by
    funext q
    unfold nm_a mm_cp
    rw [if_neg (by omega)]
  have hkb2 : nm_k (mm_cp κ b y a x z) = nm_k κ := by
    funext q
    unfold nm_k
    rw [hcb]
  have hR2 : nm_R E A (mm_cp κ b y a x z) (mm_cp μ (A b) y (A a) x z) := by
    obtain ⟨g1, g2, g3, g4, g5, g6⟩ := hR
    have hAb := (g1 b hb).1.pos
    have hneg : ∀ (q i : Int), i < 0 → mm_cp μ (A b) y (A a) x z q i = μ q i := fun q i hi => by unfold mm_cp; rw [if_neg (by omega)]
    have hnegk : ∀ (q i : Int), i < 0 → mm_cp κ b y a x z q i = κ q i := fun q i hi => by unfold mm_cp; rw [if_neg (by omega)]
    have hn0 : mm_cp μ (A b) y (A a) x z (-1) 0 = μ (-1) 0 := by unfold mm_cp; rw [if_neg (by omega)]
    rw [nm_R, hcb, hkb2]
    refine ⟨fun q hq => ?_, g2, fun q i hq hi => ?_, ⟨by rw [hn0]; exact g4.1, ?_, ?_⟩, g5, g6⟩
    · obtain ⟨r1, r2, r3⟩ := g1 q hq
      rw [hneg _ _ (by omega), hneg _ _ (by omega), hnegk _ _ (by omega), hnegk _ _ (by omega)]
      exact ⟨⟨r1.1, by rw [hn0]; exact r1.2⟩, r2, r3⟩
    · rw [hnegk q (-1) (by omega)]
      by_cases hqi : q = b ∧ y ≤ i ∧ i < y + z
      · obtain ⟨rfl, h3, h4⟩ := hqi
        have e1 : mm_cp κ q y a x z q i = κ a (x + (i - y)) := by unfold mm_cp; rw [if_pos ⟨rfl, h3, h4⟩]
        have e2 : mm_cp μ (A q) y (A a) x z (A q) i = μ (A a) (x + (i - y)) := by unfold mm_cp; rw [if_pos ⟨rfl, h3, h4⟩]
        rw [e1, e2, nm_wA (t := 7) rfl (by decide) hkb, if_pos rfl]
        exact e8 _ (by omega)
      · have e1 : mm_cp κ b y a x z q i = κ q i := by unfold mm_cp; rw [if_neg hqi]
        have e2 : mm_cp μ (A b) y (A a) x z (A q) i = μ (A q) i := by unfold mm_cp; rw [if_neg (fun e => hqi ⟨g2 q b hq hb e.1, e.2⟩)]
        rw [e1, e2]
        exact g3 q i hq hi
    · rw [hn0]
      unfold mm_cp
      rw [if_neg (by omega)]
      exact g4.2.1
    · have e5 : mm_cp κ b y a x z (-1) 1 = κ (-1) 1 := by unfold mm_cp; rw [if_neg (by omega)]
      rw [e5, g4.2.2, ← mm_cp_h (g1 b hb).1 hy.1 rfl]
      congr 1
      refine (mv_up_sz mt_cl (mm_lk (g1 b hb).1) ?_).symm
      unfold mm_c
      rw [hneg _ _ (by omega), hneg _ _ (by omega)]
      split <;> rfl
  have hf5 : nm_kf κ (pc + 3, L, S) := nm_kf2 (pc := 0) (nm_kf3 (pc2 := 0) hf)
  refine mg_step (f' := (pc + 3, nm_l A L, nm_s A S)) (μ' := mm_cp μ (A b) y (A a) x z) hr rfl ?_ (nm_on (f := (pc + 3, L, S)) hR2 (fun q hq => ⟨rfl, by rw [hkb2]; exact hq⟩) ⟨fun v hv e => by rw [hkb2]; exact hf5.1 v hv e, fun v hv e => by rw [hkb2]; exact hf5.2 v hv e⟩ kk)
  show (match mv_lk E.1 (mm_h E μ) (A a).toNat, mv_lk E.1 (mm_h E μ) (A b).toNat with
      | some (.inl X), some (.inl Y) => if ¬ Int32.ofInt x < 0 ∧ ¬ Int32.ofInt y < 0 ∧ ¬ Int32.ofInt z < 0 ∧ (Int32.ofInt x).toNatClampNeg + (Int32.ofInt z).toNatClampNeg ≤ X.2.1 ∧ (Int32.ofInt y).toNatClampNeg + (Int32.ofInt z).toNatClampNeg ≤ Y.2.1 ∧ mt_ty[X.1]? = some (FieldType.object "java/lang/Object") ∧ mt_ty[Y.1]? = some (FieldType.object "java/lang/Object") ∧ (∀ k, k < (Int32.ofInt z).toNatClampNeg → mv_elt mt_as E.1 (mm_h E μ) Y.1 (X.2.2 ((Int32.ofInt x).toNatClampNeg + k)) = true) ∧ ((mg_eS (nm_s A S)).map fun v => Value.category v).sum ≤ 24 then some ((pc + 3, mg_eL (nm_l A L), mg_eS (nm_s A S)), mv_up E.1 (mm_h E μ) (A b).toNat (Sum.inl (Y.1, Y.2.1, va_cpy X.2.2 Y.2.2 (Int32.ofInt x).toNatClampNeg (Int32.ofInt y).toNatClampNeg (Int32.ofInt z).toNatClampNeg))) else none
      | _, _ => none) = _
  rw [mm_lk hra.1, mm_lk hrb.1, mm_ca hra.2.1 (by omega), mm_ca hrb.2.1 (by omega)]
  simp only []
  rw [mg_tn hx, mg_tn hy, mg_tn hz]
  have n1 : ∀ u : Int, 0 ≤ u ∧ u < 2147483648 → ¬ Int32.ofInt u < 0 := fun u hu h => by have := (mg_lt (x := u) (y := 0) (by omega) (by omega)).mp h; omega
  rw [if_pos ⟨n1 x hx, n1 y hy, n1 z hz, by rw [hra.2.2, hl]; omega, by rw [hrb.2.2, hlb]; omega, rfl, rfl, fun k hk => e9 ((x.toNat + k : Nat) : Int) (by omega) (by omega), by rw [nm_cat]; exact of_decide_eq_true hS⟩]
  have e7 : mv_up E.1 (mm_h E μ) (A b).toNat (Sum.inl (7, (μ (A b) (-2)).toNat, va_cpy (fun i : Nat => md_a 7 (μ (A a) i)) (fun i : Nat => md_a 7 (μ (A b) i)) x.toNat y.toNat z.toNat)) = mm_h E (mm_cp μ (A b) y (A a) x z) := by
    refine mm_cp_h hrb.1 hy.1 ?_
    have hk2 : mm_cp μ (A b) y (A a) x z (A b) (-1) = ((7 : Nat) : Int) := by unfold mm_cp; rw [if_neg (by omega)]; exact hrb.2.1
    have hk3 : mm_cp μ (A b) y (A a) x z (A b) (-2) = μ (A b) (-2) := by unfold mm_cp; rw [if_neg (by omega)]
    rw [mm_ca hk2 (by omega), hk3]
    congr 3
    funext r
    unfold va_cpy mm_cp
    by_cases hr9 : y ≤ (r : Int) ∧ (r : Int) < y + z
    · rw [if_pos ⟨by omega, by omega⟩, if_pos ⟨rfl, hr9⟩]
      show md_a 7 (μ (A a) ((x.toNat + (r - y.toNat) : Nat) : Int)) = _
      rw [show ((x.toNat + (r - y.toNat) : Nat) : Int) = x + ((r : Int) - y) by omega]
    · rw [if_neg (by omega), if_neg (fun e => hr9 e.2)]
  rw [e7]
  rfl
theorem sw_cp7 {b : Int} (ha : 0 ≤ a) (hb : 0 ≤ b) (hka : s a (-1) = 7) (hkb : s b (-1) = 7) (hx : 0 ≤ x) (hy : 0 ≤ y) : mm_cp (sw_o ν s) b y a x z = sw_o (mm_cp ν b y a x z) s := by
  funext q r
  by_cases h : q = b ∧ y ≤ r ∧ r < y + z
  · obtain ⟨rfl, h1⟩ := h
    rw [mm_cp_at h1, sw_a ha (by omega) (by omega), sw_a hb (by omega) (by omega), mm_cp_at h1]
  · rw [mm_cp_ne h]
    unfold sw_o
    rw [mm_cp_ne h]
theorem sw_cpR {b la lb : Int} (hr : mg_at j pc = some (3, .d2l)) (hn : pc + 3 = pn) (hab : a ≠ b) (ha : 0 ≤ a) (hb : 0 ≤ b) (hk : s a (-1) = 7) (hl : s a (-2) = la) (hkb : s b (-1) = 7) (hlb : s b (-2) = lb) (hx : 0 ≤ x ∧ x < 2147483648) (hy : 0 ≤ y ∧ y < 2147483648) (hz : 0 ≤ z ∧ z < 2147483648) (h1 : x + z ≤ la) (h2 : y + z ≤ lb) (hel : ∀ i, x ≤ i → i < x + z → 0 ≤ ν a i ∧ s (ν a i) (-1) = 104) (hS : decide (((mg_eS S).map fun v => v.category).sum ≤ 24) = true) (kk : sw_w E d j (pn, L, S) s (mm_cp ν b y a x z) Qs) : sw_w E d j (pc, L, (0, z) :: (0, y) :: (2, b) :: (0, x) :: (2, a) :: S) s ν Qs := nm_cpR hr hn hab (by rw [sw_s (by omega)]; exact hk) (by rw [sw_s (by omega)]; exact hl) (by rw [sw_s (by omega)]; exact hkb) (by rw [sw_s (by omega)]; exact hlb) hx hy hz h1 h2 (fun i g1 g2 => by rw [sw_a ha (by omega) (by omega), sw_s (by omega)]; exact hel i g1 g2) hS (by rw [sw_cp7 ha hb hk hkb hx.1 hy.1]; exact kk)
end CPR
