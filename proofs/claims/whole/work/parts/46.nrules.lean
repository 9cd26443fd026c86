/-! the steps, over names -/
section NMB
variable {E : mv_E} {A A' A2 : Int → Int} {κ κ' κ2 μ μ' : mm_T} {d j pc pn pt : Nat} {L : mg_L} {S : List mg_V} {f f' : mg_F} {Q Q' : nm_O → mm_T → Prop} {x y z a v i k l p w : Int} {n t : Nat}
theorem nm_eq1 {t : Int} (hr : mg_at j pc = some (3, .ifCond .eq t)) (ht : t.toNat = pt) (hn : pc + 3 = pn) (hb : -2147483648 ≤ z ∧ z < 2147483648) (k1 : z = 0 → nm_w E d j (pt, L, S) κ Q) (k2 : z ≠ 0 → nm_w E d j (pn, L, S) κ Q) : nm_w E d j (pc, L, (0, z) :: S) κ Q := fun A μ hR hk => mg_eq1 (L := nm_l A L) (S := nm_s A S) hr ht hn hb (fun h => k1 h A μ hR (nm_kf_tail hk)) (fun h => k2 h A μ hR (nm_kf_tail hk))
theorem nm_ne1 {t : Int} (hr : mg_at j pc = some (3, .ifCond .ne t)) (ht : t.toNat = pt) (hn : pc + 3 = pn) (hb : -2147483648 ≤ z ∧ z < 2147483648) (k1 : z ≠ 0 → nm_w E d j (pt, L, S) κ Q) (k2 : z = 0 → nm_w E d j (pn, L, S) κ Q) : nm_w E d j (pc, L, (0, z) :: S) κ Q := fun A μ hR hk => mg_ne1 (L := nm_l A L) (S := nm_s A S) hr ht hn hb (fun h => k1 h A μ hR (nm_kf_tail hk)) (fun h => k2 h A μ hR (nm_kf_tail hk))
theorem nm_lt1 {t : Int} (hr : mg_at j pc = some (3, .ifCond .lt t)) (ht : t.toNat = pt) (hn : pc + 3 = pn) (hb : -2147483648 ≤ z ∧ z < 2147483648) (k1 : z < 0 → nm_w E d j (pt, L, S) κ Q) (k2 : 0 ≤ z → nm_w E d j (pn, L, S) κ Q) : nm_w E d j (pc, L, (0, z) :: S) κ Q := fun A μ hR hk => mg_lt1 (L := nm_l A L) (S := nm_s A S) hr ht hn hb (fun h => k1 h A μ hR (nm_kf_tail hk)) (fun h => k2 h A μ hR (nm_kf_tail hk))
theorem nm_ge1 {t : Int} (hr : mg_at j pc = some (3, .ifCond .ge t)) (ht : t.toNat = pt) (hn : pc + 3 = pn) (hb : -2147483648 ≤ z ∧ z < 2147483648) (k1 : 0 ≤ z → nm_w E d j (pt, L, S) κ Q) (k2 : z < 0 → nm_w E d j (pn, L, S) κ Q) : nm_w E d j (pc, L, (0, z) :: S) κ Q := fun A μ hR hk => mg_ge1 (L := nm_l A L) (S := nm_s A S) hr ht hn hb (fun h => k1 h A μ hR (nm_kf_tail hk)) (fun h => k2 h A μ hR (nm_kf_tail hk))
theorem nm_gt1 {t : Int} (hr : mg_at j pc = some (3, .ifCond .gt t)) (ht : t.toNat = pt) (hn : pc + 3 = pn) (hb : -2147483648 ≤ z ∧ z < 2147483648) (k1 : 0 < z → nm_w E d j (pt, L, S) κ Q) (k2 : z ≤ 0 → nm_w E d j (pn, L, S) κ Q) : nm_w E d j (pc, L, (0, z) :: S) κ Q := fun A μ hR hk => mg_gt1 (L := nm_l A L) (S := nm_s A S) hr ht hn hb (fun h => k1 h A μ hR (nm_kf_tail hk)) (fun h => k2 h A μ hR (nm_kf_tail hk))
theorem nm_le1 {t : Int} (hr : mg_at j pc = some (3, .ifCond .le t)) (ht : t.toNat = pt) (hn : pc + 3 = pn) (hb : -2147483648 ≤ z ∧ z < 2147483648) (k1 : z ≤ 0 → nm_w E d j (pt, L, S) κ Q) (k2 : 0 < z → nm_w E d j (pn, L, S) κ Q) : nm_w E d j (pc, L, (0, z) :: S) κ Q := fun A μ hR hk => mg_le1 (L := nm_l A L) (S := nm_s A S) hr ht hn hb (fun h => k1 h A μ hR (nm_kf_tail hk)) (fun h => k2 h A μ hR (nm_kf_tail hk))
theorem nm_kf2 {v1 v2 : mg_V} {pc2 : Nat} (h : nm_kf κ (pc, L, v1 :: v2 :: S)) : nm_kf κ (pc2, L, S) := nm_kf_tail (pc := 0) (nm_kf_tail (pc2 := 0) h)
theorem nm_eq2 {t : Int} (hr : mg_at j pc = some (3, .if_icmp .eq t)) (ht : t.toNat = pt) (hn : pc + 3 = pn) (hx : -2147483648 ≤ x ∧ x < 2147483648) (hy : -2147483648 ≤ y ∧ y < 2147483648) (k1 : x = y → nm_w E d j (pt, L, S) κ Q) (k2 : x ≠ y → nm_w E d j (pn, L, S) κ Q) : nm_w E d j (pc, L, (0, y) :: (0, x) :: S) κ Q := fun A μ hR hk => mg_eq2 (L := nm_l A L) (S := nm_s A S) hr ht hn hx hy (fun h => k1 h A μ hR (nm_kf2 hk)) (fun h => k2 h A μ hR (nm_kf2 hk))
theorem nm_ne2 {t : Int} (hr : mg_at j pc = some (3, .if_icmp .ne t)) (ht : t.toNat = pt) (hn : pc + 3 = pn) (hx : -2147483648 ≤ x ∧ x < 2147483648) (hy : -2147483648 ≤ y ∧ y < 2147483648) (k1 : x ≠ y → nm_w E d j (pt, L, S) κ Q) (k2 : x = y → nm_w E d j (pn, L, S) κ Q) : nm_w E d j (pc, L, (0, y) :: (0, x) :: S) κ Q := fun A μ hR hk => mg_ne2 (L := nm_l A L) (S := nm_s A S) hr ht hn hx hy (fun h => k1 h A μ hR (nm_kf2 hk)) (fun h => k2 h A μ hR (nm_kf2 hk))
theorem nm_lt2 {t : Int} (hr : mg_at j pc = some (3, .if_icmp .lt t)) (ht : t.toNat = pt) (hn : pc + 3 = pn) (hx : -2147483648 ≤ x ∧ x < 2147483648) (hy : -2147483648 ≤ y ∧ y < 2147483648) (k1 : x < y → nm_w E d j (pt, L, S) κ Q) (k2 : y ≤ x → nm_w E d j (pn, L, S) κ Q) : nm_w E d j (pc, L, (0, y) :: (0, x) :: S) κ Q := fun A μ hR hk => mg_lt2 (L := nm_l A L) (S := nm_s A S) hr ht hn hx hy (fun h => k1 h A μ hR (nm_kf2 hk)) (fun h => k2 h A μ hR (nm_kf2 hk))
theorem nm_ge2 {t : Int} (hr : mg_at j pc = some (3, .if_icmp .ge t)) (ht : t.toNat = pt) (hn : pc + 3 = pn) (hx : -2147483648 ≤ x ∧ x < 2147483648) (hy : -2147483648 ≤ y ∧ y < 2147483648) (k1 : y ≤ x → nm_w E d j (pt, L, S) κ Q) (k2 : x < y → nm_w E d j (pn, L, S) κ Q) : nm_w E d j (pc, L, (0, y) :: (0, x) :: S) κ Q := fun A μ hR hk => mg_ge2 (L := nm_l A L) (S := nm_s A S) hr ht hn hx hy (fun h => k1 h A μ hR (nm_kf2 hk)) (fun h => k2 h A μ hR (nm_kf2 hk))
theorem nm_gt2 {t : Int} (hr : mg_at j pc = some (3, .if_icmp .gt t)) (ht : t.toNat = pt) (hn : pc + 3 = pn) (hx : -2147483648 ≤ x ∧ x < 2147483648) (hy : -2147483648 ≤ y ∧ y < 2147483648) (k1 : y < x → nm_w E d j (pt, L, S) κ Q) (k2 : x ≤ y → nm_w E d j (pn, L, S) κ Q) : nm_w E d j (pc, L, (0, y) :: (0, x) :: S) κ Q := fun A μ hR hk => mg_gt2 (L := nm_l A L) (S := nm_s A S) hr ht hn hx hy (fun h => k1 h A μ hR (nm_kf2 hk)) (fun h => k2 h A μ hR (nm_kf2 hk))
theorem nm_le2 {t : Int} (hr : mg_at j pc = some (3, .if_icmp .le t)) (ht : t.toNat = pt) (hn : pc + 3 = pn) (hx : -2147483648 ≤ x ∧ x < 2147483648) (hy : -2147483648 ≤ y ∧ y < 2147483648) (k1 : x ≤ y → nm_w E d j (pt, L, S) κ Q) (k2 : y < x → nm_w E d j (pn, L, S) κ Q) : nm_w E d j (pc, L, (0, y) :: (0, x) :: S) κ Q := fun A μ hR hk => mg_le2 (L := nm_l A L) (S := nm_s A S) hr ht hn hx hy (fun h => k1 h A μ hR (nm_kf2 hk)) (fun h => k2 h A μ hR (nm_kf2 hk))
theorem nm_idiv (hr : mg_at j pc = some (1, .idiv)) (hn : pc + 1 = pn) (hx : 0 ≤ x ∧ x < 2147483648) (hy : 0 < y ∧ y < 2147483648) (k : nm_w E d j (pn, L, (0, x / y) :: S) κ Q) : nm_w E d j (pc, L, (0, y) :: (0, x) :: S) κ Q := fun A μ hR hk => mg_idiv (L := nm_l A L) (S := nm_s A S) hr hn hx hy (k A μ hR (nm_kf_cons (pc := 0) (nm_kv0 (by decide)) (nm_kf2 hk)))
theorem nm_irem (hr : mg_at j pc = some (1, .irem)) (hn : pc + 1 = pn) (hx : 0 ≤ x ∧ x < 2147483648) (hy : 0 < y ∧ y < 2147483648) (k : nm_w E d j (pn, L, (0, x % y) :: S) κ Q) : nm_w E d j (pc, L, (0, y) :: (0, x) :: S) κ Q := fun A μ hR hk => mg_irem (L := nm_l A L) (S := nm_s A S) hr hn hx hy (k A μ hR (nm_kf_cons (pc := 0) (nm_kv0 (by decide)) (nm_kf2 hk)))
theorem nm_iand (hr : mg_at j pc = some (1, .iand)) (hn : pc + 1 = pn) (hz : Int32.ofInt x &&& Int32.ofInt y = Int32.ofInt z) (k : nm_w E d j (pn, L, (0, z) :: S) κ Q) : nm_w E d j (pc, L, (0, y) :: (0, x) :: S) κ Q := fun A μ hR hk => mg_iand (L := nm_l A L) (S := nm_s A S) hr hn hz (k A μ hR (nm_kf_cons (pc := 0) (nm_kv0 (by decide)) (nm_kf2 hk)))
theorem nm_ishl (hr : mg_at j pc = some (1, .ishl)) (hn : pc + 1 = pn) (hz : Int32.ofInt x <<< (Int32.ofInt y &&& 31) = Int32.ofInt z) (k : nm_w E d j (pn, L, (0, z) :: S) κ Q) : nm_w E d j (pc, L, (0, y) :: (0, x) :: S) κ Q := fun A μ hR hk => mg_ishl (L := nm_l A L) (S := nm_s A S) hr hn hz (k A μ hR (nm_kf_cons (pc := 0) (nm_kv0 (by decide)) (nm_kf2 hk)))
theorem nm_ishr (hr : mg_at j pc = some (1, .ishr)) (hn : pc + 1 = pn) (hz : Int32.ofInt x >>> (Int32.ofInt y &&& 31) = Int32.ofInt z) (k : nm_w E d j (pn, L, (0, z) :: S) κ Q) : nm_w E d j (pc, L, (0, y) :: (0, x) :: S) κ Q := fun A μ hR hk => mg_ishr (L := nm_l A L) (S := nm_s A S) hr hn hz (k A μ hR (nm_kf_cons (pc := 0) (nm_kv0 (by decide)) (nm_kf2 hk)))
theorem nm_i2l (hr : mg_at j pc = some (1, .i2l)) (hn : pc + 1 = pn) (k : nm_w E d j (pn, L, (1, z.bmod 4294967296) :: S) κ Q) : nm_w E d j (pc, L, (0, z) :: S) κ Q := fun A μ hR hk => mg_i2l (L := nm_l A L) (S := nm_s A S) hr hn (k A μ hR (nm_kf_cons (pc := 0) (nm_kv0 (by decide)) (nm_kf_tail hk)))
theorem nm_tsw {w lo hi : Int} {ts : Array Int} {len : Nat} (hr : mg_at j pc = some (len, .tableswitch w lo hi ts)) (hb : -2147483648 ≤ z ∧ z < 2147483648) (k : nm_w E d j ((mv_sw z w lo hi ts.toList).toNat, L, S) κ Q) : nm_w E d j (pc, L, (0, z) :: S) κ Q := fun A μ hR hk => mg_tsw (L := nm_l A L) (S := nm_s A S) hr hb (k A μ hR (nm_kf_tail hk))
/-! fields -/
theorem nm_rf_f : nm_rf (100 + ((n / 64 : Nat) : Int)) ((n % 64 : Nat) : Int) = mg_fA n := by
  unfold nm_rf
  rw [if_neg (by omega), decide_eq_true (by omega : ((n % 64 : Nat) : Int) < 64), Bool.true_and, show 64 * ((100 + ((n / 64 : Nat) : Int) - 100).toNat) + (((n % 64 : Nat) : Int)).toNat = n by omega]
theorem mg_fI_A (h : mg_fI n = true) : mg_fA n = false := by
  unfold mg_fI at h
  unfold mg_fA
  split at h
  · next e => rw [e]
  · next e => rw [e]
  · cases h
theorem mg_fL_A (h : mg_fL n = true) : mg_fA n = false := by
  unfold mg_fL at h
  unfold mg_fA
  split at h
  · next e => rw [e]
  · cases h
theorem nm_al_of (hc : κ p (-1) = 100 + ((n / 64 : Nat) : Int)) : nm_a κ p := by unfold nm_a; omega
theorem nm_gI (hr : mg_at j pc = some (3, .getfield n)) (hn : pc + 3 = pn) (ht : mg_fI n = true) (hf : ((n % 64 : Nat) : Int) = i) (hc : κ p (-1) = 100 + ((n / 64 : Nat) : Int)) (kk : nm_w E d j (pn, L, (0, κ p i) :: S) κ Q) : nm_w E d j (pc, L, (2, p) :: S) κ Q := by
  intro A μ hR hk
  have ha : nm_a κ p := nm_al_of hc
  obtain ⟨h1, h2, h3⟩ := hR.1 p ha
  have hv : μ (A p) i = κ p i := by
    have h4 := hR.2.2.1 p i ha (by omega)
    rw [hc, ← hf, nm_rf_f, mg_fI_A ht] at h4
    rw [← hf]
    exact h4
  refine mg_gI (L := nm_l A L) (S := nm_s A S) hr hn ht hc hf ⟨h1, h2⟩ ?_
  rw [hv]
  exact kk A μ hR (nm_kf_cons (pc := 0) (nm_kv0 (by decide)) (nm_kf_tail hk))
theorem nm_gL (hr : mg_at j pc = some (3, .getfield n)) (hn : pc + 3 = pn) (ht : mg_fL n = true) (hf : ((n % 64 : Nat) : Int) = i) (hc : κ p (-1) = 100 + ((n / 64 : Nat) : Int)) (kk : nm_w E d j (pn, L, (1, κ p i) :: S) κ Q) : nm_w E d j (pc, L, (2, p) :: S) κ Q := by
  intro A μ hR hk
  have ha : nm_a κ p := nm_al_of hc
  obtain ⟨h1, h2, h3⟩ := hR.1 p ha
  have hv : μ (A p) i = κ p i := by
    have h4 := hR.2.2.1 p i ha (by omega)
    rw [hc, ← hf, nm_rf_f, mg_fL_A ht] at h4
    rw [← hf]
    exact h4
  refine mg_gL (L := nm_l A L) (S := nm_s A S) hr hn ht hc hf ⟨h1, h2⟩ ?_
  rw [hv]
  exact kk A μ hR (nm_kf_cons (pc := 0) (nm_kv0 (by decide)) (nm_kf_tail hk))
theorem nm_gA (hr : mg_at j pc = some (3, .getfield n)) (hn : pc + 3 = pn) (ht : mg_fA n = true) (hf : ((n % 64 : Nat) : Int) = i) (hc : κ p (-1) = 100 + ((n / 64 : Nat) : Int)) (k1 : 0 ≤ κ p i → nm_w E d j (pn, L, (2, κ p i) :: S) κ Q) (k2 : κ p i < 0 → nm_w E d j (pn, L, (3, 0) :: S) κ Q) : nm_w E d j (pc, L, (2, p) :: S) κ Q := by
  intro A μ hR hk
  have ha : nm_a κ p := nm_al_of hc
  obtain ⟨h1, h2, h3⟩ := hR.1 p ha
  have h4 := hR.2.2.1 p i ha (by omega)
  rw [hc, ← hf, nm_rf_f, ht, if_pos rfl, hf] at h4
  rcases h4 with ⟨h5, h6⟩ | ⟨h5, h6, h7, h8⟩
  · exact mg_gN (L := nm_l A L) (S := nm_s A S) hr hn ht hc hf ⟨h1, h2⟩ h6 (k2 h5 A μ hR (nm_kf_cons (pc := 0) (nm_kv0 (by decide)) (nm_kf_tail hk)))
  · refine mg_gR (L := nm_l A L) (S := nm_s A S) hr hn ht hc hf ⟨h1, h2⟩ (by rw [h8]; exact h7) ?_
    rw [h8]
    exact k1 h6 A μ hR (nm_kf_cons (pc := 0) (fun _ => h5) (nm_kf_tail hk))
theorem nm_gR (hr : mg_at j pc = some (3, .getfield n)) (hn : pc + 3 = pn) (ht : mg_fA n = true) (hf : ((n % 64 : Nat) : Int) = i) (hc : κ p (-1) = 100 + ((n / 64 : Nat) : Int)) (h0 : 0 ≤ κ p i) (k1 : nm_w E d j (pn, L, (2, κ p i) :: S) κ Q) : nm_w E d j (pc, L, (2, p) :: S) κ Q := nm_gA hr hn ht hf hc (fun _ => k1) (fun h => absurd h (by omega))
theorem nm_gN (hr : mg_at j pc = some (3, .getfield n)) (hn : pc + 3 = pn) (ht : mg_fA n = true) (hf : ((n % 64 : Nat) : Int) = i) (hc : κ p (-1) = 100 + ((n / 64 : Nat) : Int)) (h0 : κ p i < 0) (k2 : nm_w E d j (pn, L, (3, 0) :: S) κ Q) : nm_w E d j (pc, L, (2, p) :: S) κ Q := nm_gA hr hn ht hf hc (fun h => absurd h (by omega)) (fun _ => k2)
/-! writing -/
theorem nm_pos (hR : nm_R E A κ μ) (ha : nm_a κ p) : 0 ≤ p := by
  by_cases h : p < 0
  · exact absurd ha (hR.2.2.2.2.2 p (Or.inl h))
  · omega
theorem nm_a_u (hi : 0 ≤ i) {q : Int} : nm_a (mm_u κ p i z) q ↔ nm_a κ q := by
  unfold nm_a
  rw [mm_u_ne (by omega)]
theorem nm_k_u (hi : 0 ≤ i) {q : Int} : nm_k (mm_u κ p i z) q ↔ nm_k κ q := by
  unfold nm_k
  rw [nm_a_u hi]
theorem mm_sz_u (h : mm_i E μ a) (hi : 0 ≤ i) : mv_sz mt_cl (mm_h E (mm_u μ a i z)) = mv_sz mt_cl (mm_h E μ) := by
  rw [← mm_upd (i := i) (z := z) h rfl]
  refine mv_up_sz mt_cl (mm_lk h) ?_
  have e1 : mm_u μ a i z a (-1) = μ a (-1) := mm_u_ne (by omega)
  have e2 : mm_u μ a i z a (-2) = μ a (-2) := mm_u_ne (by omega)
  unfold mm_c
  rw [e1, e2]
  split <;> rfl
theorem nm_R_u (hR : nm_R E A κ μ) (ha : nm_a κ p) (hi : 0 ≤ i) (hw : if nm_rf (κ p (-1)) i = true then (z < 0 ∧ w < 0) ∨ (nm_k κ z ∧ 0 ≤ z ∧ 0 ≤ A z ∧ w = A z) else w = z) : nm_R E A (mm_u κ p i z) (mm_u μ (A p) i w) := by
  have hp := nm_pos hR ha
  obtain ⟨h1, h2, h3, h4, h5, h6⟩ := hR
  have hpi := (h1 p ha).1
  have hAp := hpi.pos
  have hn : mm_u μ (A p) i w (-1) 0 = μ (-1) 0 := mm_u_n hpi
  refine ⟨fun q hq => ?_, fun q r hq hr => ?_, fun q i' hq hi' => ?_, ⟨by rw [hn]; exact h4.1, ?_, ?_⟩, h5, fun q hq hqa => h6 q hq ((nm_a_u hi).mp hqa)⟩
  · have hq' := (nm_a_u hi).mp hq
    obtain ⟨g1, g2, g3⟩ := h1 q hq'
    refine ⟨⟨g1.1, by rw [hn]; exact g1.2⟩, ?_, ?_⟩
    · rw [mm_u_ne (by omega), mm_u_ne (by omega)]; exact g2
    · rw [mm_u_ne (by omega), mm_u_ne (by omega)]; exact g3
  · exact h2 q r ((nm_a_u hi).mp hq) ((nm_a_u hi).mp hr)
  · have hq' := (nm_a_u hi).mp hq
    rw [show mm_u κ p i z q (-1) = κ q (-1) from mm_u_ne (by omega)]
    by_cases hqi : q = p ∧ i' = i
    · obtain ⟨rfl, rfl⟩ := hqi
      rw [mm_u_at, mm_u_at]
      simp only [nm_k_u hi]
      exact hw
    · rw [mm_u_ne hqi, mm_u_ne (fun e => hqi ⟨h2 q p hq' ha e.1, e.2⟩)]
      simp only [nm_k_u hi]
      exact h3 q i' hq' hi'
  · rw [hn, mm_u_ne (by omega)]; exact h4.2.1
  · rw [mm_sz_u hpi hi, mm_u_ne (by omega)]; exact h4.2.2
theorem nm_x_u (hi : 0 ≤ i) : nm_x A A κ (mm_u κ p i z) := fun _ h => ⟨rfl, (nm_k_u hi).mpr h⟩
theorem nm_kf_u (hi : 0 ≤ i) (h : nm_kf κ f) : nm_kf (mm_u κ p i z) f := ⟨fun v hv e => (nm_k_u hi).mpr (h.1 v hv e), fun v hv e => (nm_k_u hi).mpr (h.2 v hv e)⟩
/-- from a memory on to one that knows more -/
theorem nm_on (hR : nm_R E A' κ' μ') (hx : nm_x A A' κ κ') (hk : nm_kf κ' f) (w : nm_w E d j f κ' Q) : mg_w E d j (nm_f A' f) μ' (fun r μ2 => ∃ A2 κ2 o, nm_R E A2 κ2 μ2 ∧ nm_x A A2 κ κ2 ∧ nm_res E A2 κ2 μ2 r o ∧ Q o κ2) :=
  mg_mono (w A' μ' hR hk) (fun _ _ ⟨A2, κ2, o, h1, h2, h3, h4⟩ => ⟨A2, κ2, o, h1, hx.trans h2, h3, h4⟩)
theorem nm_pI (hr : mg_at j pc = some (3, .putfield n)) (hn : pc + 3 = pn) (ht : mg_ty n = some .int) (hf : ((n % 64 : Nat) : Int) = i) (hc : κ p (-1) = 100 + ((n / 64 : Nat) : Int)) (kk : nm_w E d j (pn, L, S) (mm_u κ p i z) Q) : nm_w E d j (pc, L, (0, z) :: (2, p) :: S) κ Q := by
  intro A μ hR hk
  have ha : nm_a κ p := nm_al_of hc
  obtain ⟨h1, h2, h3⟩ := hR.1 p ha
  have hA : mg_fA n = false := by unfold mg_fA; rw [ht]
  refine mg_pI (L := nm_l A L) (S := nm_s A S) hr hn ht hc hf ⟨h1, h2⟩ ?_
  exact nm_on (f := (pn, L, S)) (nm_R_u hR ha (by omega) (by rw [hc, ← hf, nm_rf_f, hA]; exact rfl)) (nm_x_u (by omega)) (nm_kf_u (by omega) (nm_kf2 hk)) kk
theorem nm_pZ (hr : mg_at j pc = some (3, .putfield n)) (hn : pc + 3 = pn) (ht : mg_ty n = some .boolean) (hf : ((n % 64 : Nat) : Int) = i) (hc : κ p (-1) = 100 + ((n / 64 : Nat) : Int)) (hz : z = 0 ∨ z = 1) (kk : nm_w E d j (pn, L, S) (mm_u κ p i z) Q) : nm_w E d j (pc, L, (0, z) :: (2, p) :: S) κ Q := by
  intro A μ hR hk
  have ha : nm_a κ p := nm_al_of hc
  obtain ⟨h1, h2, h3⟩ := hR.1 p ha
  have hA : mg_fA n = false := by unfold mg_fA; rw [ht]
  refine mg_pZ (L := nm_l A L) (S := nm_s A S) hr hn ht hc hf ⟨h1, h2⟩ hz ?_
  exact nm_on (f := (pn, L, S)) (nm_R_u hR ha (by omega) (by rw [hc, ← hf, nm_rf_f, hA]; exact rfl)) (nm_x_u (by omega)) (nm_kf_u (by omega) (nm_kf2 hk)) kk
theorem nm_pL (hr : mg_at j pc = some (3, .putfield n)) (hn : pc + 3 = pn) (ht : mg_ty n = some .long) (hf : ((n % 64 : Nat) : Int) = i) (hc : κ p (-1) = 100 + ((n / 64 : Nat) : Int)) (kk : nm_w E d j (pn, L, S) (mm_u κ p i z) Q) : nm_w E d j (pc, L, (1, z) :: (2, p) :: S) κ Q := by
  intro A μ hR hk
  have ha : nm_a κ p := nm_al_of hc
  obtain ⟨h1, h2, h3⟩ := hR.1 p ha
  have hA : mg_fA n = false := by unfold mg_fA; rw [ht]
  refine mg_pL (L := nm_l A L) (S := nm_s A S) hr hn ht hc hf ⟨h1, h2⟩ ?_
  exact nm_on (f := (pn, L, S)) (nm_R_u hR ha (by omega) (by rw [hc, ← hf, nm_rf_f, hA]; exact rfl)) (nm_x_u (by omega)) (nm_kf_u (by omega) (nm_kf2 hk)) kk
/-- the address of what is known -/
theorem nm_A0 (hR : nm_R E A κ μ) (h : nm_k κ p) : 0 ≤ A p := by
  rcases h with h | rfl | rfl | rfl
  · exact (hR.1 p h).1.pos
  · rw [hR.2.2.2.2.1.1]; omega
  · rw [hR.2.2.2.2.1.2.1]; omega
  · rw [hR.2.2.2.2.1.2.2]; omega
theorem nm_k0 (hR : nm_R E A κ μ) (h : nm_k κ p) : 0 ≤ p := by
  rcases h with h | rfl | rfl | rfl
  · exact nm_pos hR h
  · omega
  · omega
  · omega
theorem nm_pA (hr : mg_at j pc = some (3, .putfield n)) (hn : pc + 3 = pn) (ht : mg_fA n = true) (hf : ((n % 64 : Nat) : Int) = i) (hc : κ p (-1) = 100 + ((n / 64 : Nat) : Int)) (kk : nm_w E d j (pn, L, S) (mm_u κ p i z) Q) : nm_w E d j (pc, L, (2, z) :: (2, p) :: S) κ Q := by
  intro A μ hR hk
  have ha : nm_a κ p := nm_al_of hc
  obtain ⟨h1, h2, h3⟩ := hR.1 p ha
  have hz : nm_k κ z := hk.2 (2, z) List.mem_cons_self rfl
  refine mg_pA (L := nm_l A L) (S := nm_s A S) hr hn ht hc hf ⟨h1, h2⟩ (nm_A0 hR hz) ?_
  exact nm_on (f := (pn, L, S)) (nm_R_u hR ha (by omega) (by rw [hc, ← hf, nm_rf_f, ht, if_pos rfl]; exact Or.inr ⟨hz, nm_k0 hR hz, nm_A0 hR hz, rfl⟩)) (nm_x_u (by omega)) (nm_kf_u (by omega) (nm_kf2 hk)) kk
theorem nm_pN (hr : mg_at j pc = some (3, .putfield n)) (hn : pc + 3 = pn) (ht : mg_fA n = true) (hf : ((n % 64 : Nat) : Int) = i) (hc : κ p (-1) = 100 + ((n / 64 : Nat) : Int)) (kk : nm_w E d j (pn, L, S) (mm_u κ p i (-1)) Q) : nm_w E d j (pc, L, (3, 0) :: (2, p) :: S) κ Q := by
  intro A μ hR hk
  have ha : nm_a κ p := nm_al_of hc
  obtain ⟨h1, h2, h3⟩ := hR.1 p ha
  refine mg_pN (L := nm_l A L) (S := nm_s A S) hr hn ht hc hf ⟨h1, h2⟩ ?_
  exact nm_on (f := (pn, L, S)) (nm_R_u hR ha (by omega) (by rw [hc, ← hf, nm_rf_f, ht, if_pos rfl]; exact Or.inl ⟨by omega, by omega⟩)) (nm_x_u (by omega)) (nm_kf_u (by omega) (nm_kf2 hk)) kk
end NMB
