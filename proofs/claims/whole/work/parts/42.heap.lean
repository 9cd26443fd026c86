/-! steps over memory; branches; sums -/
def mm_o (E : mv_E) (μ : mm_T) (a k : Int) : Prop := mm_i E μ a ∧ μ a (-1) = k
def mm_r (E : mv_E) (μ : mm_T) (a t l : Int) : Prop := mm_i E μ a ∧ μ a (-1) = t ∧ μ a (-2) = l
def mg_ty (n : Nat) : Option FieldType := match mt_cl[n / 64]? with
  | some K => K.2.2.2.2[n % 64]?
  | none => none
def mg_fI (n : Nat) : Bool := match mg_ty n with
  | some .int => true
  | some .boolean => true
  | _ => false
def mg_fN (n : Nat) : Bool := match mg_ty n with
  | some .int => true
  | _ => false
def mg_fZ (n : Nat) : Bool := match mg_ty n with
  | some .boolean => true
  | _ => false
def mg_fL (n : Nat) : Bool := match mg_ty n with
  | some .long => true
  | _ => false
def mg_fA (n : Nat) : Bool := match mg_ty n with
  | some (.object _) => true
  | some (.array _) => true
  | _ => false
def mg_aA (t : Nat) : Bool := match mt_ty[t]? with
  | some (.object _) => true
  | _ => false
section MGH
variable {E : mv_E} {d j pc pn pt : Nat} {L : mg_L} {S : List mg_V} {μ : mm_T} {Q : mg_R → mm_T → Prop} {x y z a v i k l : Int} {n : Nat}
theorem mm_o.u {b w u : Int} (h : mm_o E μ a k) (hw : 0 ≤ w) (hb : 0 ≤ b) : mm_o E (mm_u μ b w u) a k := by
  obtain ⟨⟨h1, h2⟩, h3⟩ := h
  refine ⟨⟨h1, ?_⟩, ?_⟩
  · rw [mm_u_ne (by omega)]; exact h2
  · rw [mm_u_ne (by omega)]; exact h3
theorem mm_r.u {b w u t : Int} (h : mm_r E μ a t l) (hw : 0 ≤ w) (hb : 0 ≤ b) : mm_r E (mm_u μ b w u) a t l := by
  obtain ⟨⟨h1, h2⟩, h3, h4⟩ := h
  refine ⟨⟨h1, ?_⟩, ?_, ?_⟩
  · rw [mm_u_ne (by omega)]; exact h2
  · rw [mm_u_ne (by omega)]; exact h3
  · rw [mm_u_ne (by omega)]; exact h4
theorem mm_i.pos (h : mm_i E μ a) : 0 ≤ a := by have := h.1; omega
theorem mg_ti (h : -2147483648 ≤ z ∧ z < 2147483648) : (Int32.ofInt z).toInt = z := Int32.toInt_ofInt_of_le (by omega) (by omega)
theorem mg_tn (h : 0 ≤ z ∧ z < 2147483648) : (Int32.ofInt z).toNatClampNeg = z.toNat := by
  show (Int32.ofInt z).toInt.toNat = z.toNat
  rw [mg_ti (by omega)]
theorem mg_lt (hx : -2147483648 ≤ x ∧ x < 2147483648) (hy : -2147483648 ≤ y ∧ y < 2147483648) : (Int32.ofInt x < Int32.ofInt y) ↔ x < y := by rw [Int32.lt_iff_toInt_lt, mg_ti hx, mg_ti hy]
theorem mg_le (hx : -2147483648 ≤ x ∧ x < 2147483648) (hy : -2147483648 ≤ y ∧ y < 2147483648) : (Int32.ofInt x ≤ Int32.ofInt y) ↔ x ≤ y := by rw [Int32.le_iff_toInt_le, mg_ti hx, mg_ti hy]
theorem mg_eq (hx : -2147483648 ≤ x ∧ x < 2147483648) (hy : -2147483648 ≤ y ∧ y < 2147483648) : (Int32.ofInt x = Int32.ofInt y) ↔ x = y := by rw [← Int32.toInt_inj, mg_ti hx, mg_ti hy]
theorem mg_0 : (0 : Int32) = Int32.ofInt 0 := rfl
theorem mg_b1 {c : ClassFile.Cond} {t : Int} (hr : mg_at j pc = some (3, .ifCond c t)) (k1 : mv_c1 c (Int32.ofInt z) = true → mg_w E d j (t.toNat, L, S) μ Q) (k2 : mv_c1 c (Int32.ofInt z) = false → mg_w E d j (pc + 3, L, S) μ Q) : mg_w E d j (pc, L, (0, z) :: S) μ Q := by
  have e : mv_step E mt_cl mt_ty mt_as (.ifCond c t) (pc + 3) (mg_eL L) (mg_eS ((0, z) :: S)) (mm_h E μ) = some (mv_go (mv_c1 c (Int32.ofInt z)) t (pc + 3) (mg_eL L) (mg_eS S), mm_h E μ) := rfl
  cases h : mv_c1 c (Int32.ofInt z) with
  | true => exact mg_step (f' := (t.toNat, L, S)) hr rfl (by rw [e, h]; rfl) (k1 h)
  | false => exact mg_step (f' := (pc + 3, L, S)) hr rfl (by rw [e, h]; rfl) (k2 h)
theorem mg_b2 {c : ClassFile.Cond} {t : Int} (hr : mg_at j pc = some (3, .if_icmp c t)) (k1 : mv_c2 c (Int32.ofInt x) (Int32.ofInt y) = true → mg_w E d j (t.toNat, L, S) μ Q) (k2 : mv_c2 c (Int32.ofInt x) (Int32.ofInt y) = false → mg_w E d j (pc + 3, L, S) μ Q) : mg_w E d j (pc, L, (0, y) :: (0, x) :: S) μ Q := by
  have e : mv_step E mt_cl mt_ty mt_as (.if_icmp c t) (pc + 3) (mg_eL L) (mg_eS ((0, y) :: (0, x) :: S)) (mm_h E μ) = some (mv_go (mv_c2 c (Int32.ofInt x) (Int32.ofInt y)) t (pc + 3) (mg_eL L) (mg_eS S), mm_h E μ) := rfl
  cases h : mv_c2 c (Int32.ofInt x) (Int32.ofInt y) with
  | true => exact mg_step (f' := (t.toNat, L, S)) hr rfl (by rw [e, h]; rfl) (k1 h)
  | false => exact mg_step (f' := (pc + 3, L, S)) hr rfl (by rw [e, h]; rfl) (k2 h)
theorem mg_eq1 {t : Int} (hr : mg_at j pc = some (3, .ifCond .eq t)) (ht : t.toNat = pt) (hn : pc + 3 = pn) (hb : -2147483648 ≤ z ∧ z < 2147483648) (k1 : z = 0 → mg_w E d j (pt, L, S) μ Q) (k2 : z ≠ 0 → mg_w E d j (pn, L, S) μ Q) : mg_w E d j (pc, L, (0, z) :: S) μ Q := by
  subst ht hn
  exact mg_b1 hr (fun h => k1 ((mg_eq hb (by omega)).mp (of_decide_eq_true h))) (fun h => k2 (fun e => of_decide_eq_false h ((mg_eq hb (by omega)).mpr e)))
theorem mg_ne1 {t : Int} (hr : mg_at j pc = some (3, .ifCond .ne t)) (ht : t.toNat = pt) (hn : pc + 3 = pn) (hb : -2147483648 ≤ z ∧ z < 2147483648) (k1 : z ≠ 0 → mg_w E d j (pt, L, S) μ Q) (k2 : z = 0 → mg_w E d j (pn, L, S) μ Q) : mg_w E d j (pc, L, (0, z) :: S) μ Q := by
  subst ht hn
  refine mg_b1 hr (fun h => k1 (fun e => of_decide_eq_true h ((mg_eq hb (by omega)).mpr e))) (fun h => k2 ?_)
  exact (mg_eq hb (by omega)).mp (Decidable.not_not.mp (of_decide_eq_false h))
theorem mg_lt1 {t : Int} (hr : mg_at j pc = some (3, .ifCond .lt t)) (ht : t.toNat = pt) (hn : pc + 3 = pn) (hb : -2147483648 ≤ z ∧ z < 2147483648) (k1 : z < 0 → mg_w E d j (pt, L, S) μ Q) (k2 : 0 ≤ z → mg_w E d j (pn, L, S) μ Q) : mg_w E d j (pc, L, (0, z) :: S) μ Q := by
  subst ht hn
  exact mg_b1 hr (fun h => k1 ((mg_lt hb (by omega)).mp (of_decide_eq_true h))) (fun h => k2 (Int.not_lt.mp fun e => of_decide_eq_false h ((mg_lt hb (by omega)).mpr e)))
theorem mg_ge1 {t : Int} (hr : mg_at j pc = some (3, .ifCond .ge t)) (ht : t.toNat = pt) (hn : pc + 3 = pn) (hb : -2147483648 ≤ z ∧ z < 2147483648) (k1 : 0 ≤ z → mg_w E d j (pt, L, S) μ Q) (k2 : z < 0 → mg_w E d j (pn, L, S) μ Q) : mg_w E d j (pc, L, (0, z) :: S) μ Q := by
  subst ht hn
  exact mg_b1 hr (fun h => k1 ((mg_le (by omega) hb).mp (of_decide_eq_true h))) (fun h => k2 (Int.not_le.mp fun e => of_decide_eq_false h ((mg_le (by omega) hb).mpr e)))
theorem mg_gt1 {t : Int} (hr : mg_at j pc = some (3, .ifCond .gt t)) (ht : t.toNat = pt) (hn : pc + 3 = pn) (hb : -2147483648 ≤ z ∧ z < 2147483648) (k1 : 0 < z → mg_w E d j (pt, L, S) μ Q) (k2 : z ≤ 0 → mg_w E d j (pn, L, S) μ Q) : mg_w E d j (pc, L, (0, z) :: S) μ Q := by
  subst ht hn
  exact mg_b1 hr (fun h => k1 ((mg_lt (by omega) hb).mp (of_decide_eq_true h))) (fun h => k2 (Int.not_lt.mp fun e => of_decide_eq_false h ((mg_lt (by omega) hb).mpr e)))
theorem mg_le1 {t : Int} (hr : mg_at j pc = some (3, .ifCond .le t)) (ht : t.toNat = pt) (hn : pc + 3 = pn) (hb : -2147483648 ≤ z ∧ z < 2147483648) (k1 : z ≤ 0 → mg_w E d j (pt, L, S) μ Q) (k2 : 0 < z → mg_w E d j (pn, L, S) μ Q) : mg_w E d j (pc, L, (0, z) :: S) μ Q := by
  subst ht hn
  exact mg_b1 hr (fun h => k1 ((mg_le hb (by omega)).mp (of_decide_eq_true h))) (fun h => k2 (Int.not_le.mp fun e => of_decide_eq_false h ((mg_le hb (by omega)).mpr e)))
theorem mg_eq2 {t : Int} (hr : mg_at j pc = some (3, .if_icmp .eq t)) (ht : t.toNat = pt) (hn : pc + 3 = pn) (hx : -2147483648 ≤ x ∧ x < 2147483648) (hy : -2147483648 ≤ y ∧ y < 2147483648) (k1 : x = y → mg_w E d j (pt, L, S) μ Q) (k2 : x ≠ y → mg_w E d j (pn, L, S) μ Q) : mg_w E d j (pc, L, (0, y) :: (0, x) :: S) μ Q := by
  subst ht hn
  exact mg_b2 hr (fun h => k1 ((mg_eq hx hy).mp (of_decide_eq_true h))) (fun h => k2 (fun e => of_decide_eq_false h ((mg_eq hx hy).mpr e)))
theorem mg_ne2 {t : Int} (hr : mg_at j pc = some (3, .if_icmp .ne t)) (ht : t.toNat = pt) (hn : pc + 3 = pn) (hx : -2147483648 ≤ x ∧ x < 2147483648) (hy : -2147483648 ≤ y ∧ y < 2147483648) (k1 : x ≠ y → mg_w E d j (pt, L, S) μ Q) (k2 : x = y → mg_w E d j (pn, L, S) μ Q) : mg_w E d j (pc, L, (0, y) :: (0, x) :: S) μ Q := by
  subst ht hn
  refine mg_b2 hr (fun h => k1 (fun e => of_decide_eq_true h ((mg_eq hx hy).mpr e))) (fun h => k2 ?_)
  exact (mg_eq hx hy).mp (Decidable.not_not.mp (of_decide_eq_false h))
theorem mg_lt2 {t : Int} (hr : mg_at j pc = some (3, .if_icmp .lt t)) (ht : t.toNat = pt) (hn : pc + 3 = pn) (hx : -2147483648 ≤ x ∧ x < 2147483648) (hy : -2147483648 ≤ y ∧ y < 2147483648) (k1 : x < y → mg_w E d j (pt, L, S) μ Q) (k2 : y ≤ x → mg_w E d j (pn, L, S) μ Q) : mg_w E d j (pc, L, (0, y) :: (0, x) :: S) μ Q := by
  subst ht hn
  exact mg_b2 hr (fun h => k1 ((mg_lt hx hy).mp (of_decide_eq_true h))) (fun h => k2 (Int.not_lt.mp fun e => of_decide_eq_false h ((mg_lt hx hy).mpr e)))
theorem mg_ge2 {t : Int} (hr : mg_at j pc = some (3, .if_icmp .ge t)) (ht : t.toNat = pt) (hn : pc + 3 = pn) (hx : -2147483648 ≤ x ∧ x < 2147483648) (hy : -2147483648 ≤ y ∧ y < 2147483648) (k1 : y ≤ x → mg_w E d j (pt, L, S) μ Q) (k2 : x < y → mg_w E d j (pn, L, S) μ Q) : mg_w E d j (pc, L, (0, y) :: (0, x) :: S) μ Q := by
  subst ht hn
  exact mg_b2 hr (fun h => k1 ((mg_le hy hx).mp (of_decide_eq_true h))) (fun h => k2 (Int.not_le.mp fun e => of_decide_eq_false h ((mg_le hy hx).mpr e)))
theorem mg_gt2 {t : Int} (hr : mg_at j pc = some (3, .if_icmp .gt t)) (ht : t.toNat = pt) (hn : pc + 3 = pn) (hx : -2147483648 ≤ x ∧ x < 2147483648) (hy : -2147483648 ≤ y ∧ y < 2147483648) (k1 : y < x → mg_w E d j (pt, L, S) μ Q) (k2 : x ≤ y → mg_w E d j (pn, L, S) μ Q) : mg_w E d j (pc, L, (0, y) :: (0, x) :: S) μ Q := by
  subst ht hn
  exact mg_b2 hr (fun h => k1 ((mg_lt hy hx).mp (of_decide_eq_true h))) (fun h => k2 (Int.not_lt.mp fun e => of_decide_eq_false h ((mg_lt hy hx).mpr e)))
theorem mg_le2 {t : Int} (hr : mg_at j pc = some (3, .if_icmp .le t)) (ht : t.toNat = pt) (hn : pc + 3 = pn) (hx : -2147483648 ≤ x ∧ x < 2147483648) (hy : -2147483648 ≤ y ∧ y < 2147483648) (k1 : x ≤ y → mg_w E d j (pt, L, S) μ Q) (k2 : y < x → mg_w E d j (pn, L, S) μ Q) : mg_w E d j (pc, L, (0, y) :: (0, x) :: S) μ Q := by
  subst ht hn
  exact mg_b2 hr (fun h => k1 ((mg_le hx hy).mp (of_decide_eq_true h))) (fun h => k2 (Int.not_le.mp fun e => of_decide_eq_false h ((mg_le hx hy).mpr e)))
/-- two references compared -/
theorem mg_acq {t : Int} (hr : mg_at j pc = some (3, .if_acmp .eq t)) (ht : t.toNat = pt) (hn : pc + 3 = pn) (hx : 0 ≤ x) (hy : 0 ≤ y) (k1 : x = y → mg_w E d j (pt, L, S) μ Q) (k2 : x ≠ y → mg_w E d j (pn, L, S) μ Q) : mg_w E d j (pc, L, (2, y) :: (2, x) :: S) μ Q := by
  subst ht hn
  have e : mv_step E mt_cl mt_ty mt_as (.if_acmp .eq t) (pc + 3) (mg_eL L) (mg_eS ((2, y) :: (2, x) :: S)) (mm_h E μ) = some (mv_go (decide (x.toNat = y.toNat)) t (pc + 3) (mg_eL L) (mg_eS S), mm_h E μ) := rfl
  by_cases h : x = y
  · exact mg_step (f' := (t.toNat, L, S)) hr rfl (by rw [e, decide_eq_true (by omega)]; rfl) (k1 h)
  · exact mg_step (f' := (pc + 3, L, S)) hr rfl (by rw [e, decide_eq_false (by omega)]; rfl) (k2 h)
theorem mg_acn {t : Int} (hr : mg_at j pc = some (3, .if_acmp .ne t)) (ht : t.toNat = pt) (hn : pc + 3 = pn) (hx : 0 ≤ x) (hy : 0 ≤ y) (k1 : x ≠ y → mg_w E d j (pt, L, S) μ Q) (k2 : x = y → mg_w E d j (pn, L, S) μ Q) : mg_w E d j (pc, L, (2, y) :: (2, x) :: S) μ Q := by
  subst ht hn
  have e : mv_step E mt_cl mt_ty mt_as (.if_acmp .ne t) (pc + 3) (mg_eL L) (mg_eS ((2, y) :: (2, x) :: S)) (mm_h E μ) = some (mv_go (!decide (x.toNat = y.toNat)) t (pc + 3) (mg_eL L) (mg_eS S), mm_h E μ) := rfl
  by_cases h : x = y
  · exact mg_step (f' := (pc + 3, L, S)) hr rfl (by rw [e, decide_eq_true (by omega)]; rfl) (k2 h)
  · exact mg_step (f' := (t.toNat, L, S)) hr rfl (by rw [e, decide_eq_false (by omega)]; rfl) (k1 h)
/-- a reference and null compared -/
theorem mg_acn0 {t : Int} (hr : mg_at j pc = some (3, .if_acmp .ne t)) (ht : t.toNat = pt) (hn : pc + 3 = pn) (k1 : mg_w E d j (pt, L, S) μ Q) : mg_w E d j (pc, L, (3, y) :: (2, x) :: S) μ Q := by
  subst ht hn
  exact mg_step (f' := (t.toNat, L, S)) hr rfl rfl k1
theorem mg_acq0 {t : Int} (hr : mg_at j pc = some (3, .if_acmp .eq t)) (ht : t.toNat = pt) (hn : pc + 3 = pn) (k1 : mg_w E d j (pn, L, S) μ Q) : mg_w E d j (pc, L, (3, y) :: (2, x) :: S) μ Q := by
  subst ht hn
  exact mg_step (f' := (pc + 3, L, S)) hr rfl rfl k1
theorem mg_idiv (hr : mg_at j pc = some (1, .idiv)) (hn : pc + 1 = pn) (hx : 0 ≤ x ∧ x < 2147483648) (hy : 0 < y ∧ y < 2147483648) (k : mg_w E d j (pn, L, (0, x / y) :: S) μ Q) : mg_w E d j (pc, L, (0, y) :: (0, x) :: S) μ Q := by
  subst hn
  have h0 : ¬ Int32.ofInt y = 0 := fun e => by have := (mg_eq (x := y) (y := 0) (by omega) (by omega)).mp e; omega
  have hd : Int32.ofInt x / Int32.ofInt y = Int32.ofInt (x / y) := by
    apply Int32.toInt_inj.mp
    have h1 : x / y ≤ x := Int.ediv_le_self y hx.1
    have h2 : 0 ≤ x / y := Int.ediv_nonneg hx.1 (by omega)
    rw [Int32.toInt_div_of_ne_left _ _ (fun e => by
      have := congrArg Int32.toInt e
      rw [mg_ti (by omega)] at this
      have h9 : Int32.minValue.toInt = -2147483648 := rfl
      omega), mg_ti (by omega), mg_ti (by omega), mg_ti (by omega), Int.tdiv_eq_ediv_of_nonneg hx.1]
  have e : mv_step E mt_cl mt_ty mt_as .idiv (pc + 1) (mg_eL L) (mg_eS ((0, y) :: (0, x) :: S)) (mm_h E μ) = (match (if Int32.ofInt y = 0 then none else some (pc + 1, mg_eL L, Value.int (Int32.ofInt x / Int32.ofInt y) :: mg_eS S)) with | some f => some (f, mm_h E μ) | none => none) := rfl
  exact mg_step (f' := (pc + 1, L, (0, x / y) :: S)) hr rfl (by rw [e, if_neg h0, hd]; rfl) k
theorem mg_irem (hr : mg_at j pc = some (1, .irem)) (hn : pc + 1 = pn) (hx : 0 ≤ x ∧ x < 2147483648) (hy : 0 < y ∧ y < 2147483648) (k : mg_w E d j (pn, L, (0, x % y) :: S) μ Q) : mg_w E d j (pc, L, (0, y) :: (0, x) :: S) μ Q := by
  subst hn
  have h0 : ¬ Int32.ofInt y = 0 := fun e => by have := (mg_eq (x := y) (y := 0) (by omega) (by omega)).mp e; omega
  have hd : Int32.ofInt x / Int32.ofInt y = Int32.ofInt (x / y) := by
    apply Int32.toInt_inj.mp
    have h1 : x / y ≤ x := Int.ediv_le_self y hx.1
    have h2 : 0 ≤ x / y := Int.ediv_nonneg hx.1 (by omega)
    rw [Int32.toInt_div_of_ne_left _ _ (fun e => by
      have := congrArg Int32.toInt e
      rw [mg_ti (by omega)] at this
      have h9 : Int32.minValue.toInt = -2147483648 := rfl
      omega), mg_ti (by omega), mg_ti (by omega), mg_ti (by omega), Int.tdiv_eq_ediv_of_nonneg hx.1]
  have hm : Int32.ofInt x - Int32.ofInt x / Int32.ofInt y * Int32.ofInt y = Int32.ofInt (x % y) := by
    rw [hd, ← Int32.ofInt_mul, ← Int32.ofInt_sub, Int.emod_def, Int.mul_comm]
  have e : mv_step E mt_cl mt_ty mt_as .irem (pc + 1) (mg_eL L) (mg_eS ((0, y) :: (0, x) :: S)) (mm_h E μ) = (match (if Int32.ofInt y = 0 then none else some (pc + 1, mg_eL L, Value.int (Int32.ofInt x - Int32.ofInt x / Int32.ofInt y * Int32.ofInt y) :: mg_eS S)) with | some f => some (f, mm_h E μ) | none => none) := rfl
  exact mg_step (f' := (pc + 1, L, (0, x % y) :: S)) hr rfl (by rw [e, if_neg h0, hm]; rfl) k
theorem mg_iand (hr : mg_at j pc = some (1, .iand)) (hn : pc + 1 = pn) (hz : Int32.ofInt x &&& Int32.ofInt y = Int32.ofInt z) (k : mg_w E d j (pn, L, (0, z) :: S) μ Q) : mg_w E d j (pc, L, (0, y) :: (0, x) :: S) μ Q := by
  subst hn
  have e : mv_step E mt_cl mt_ty mt_as .iand (pc + 1) (mg_eL L) (mg_eS ((0, y) :: (0, x) :: S)) (mm_h E μ) = some ((pc + 1, mg_eL L, Value.int (Int32.ofInt x &&& Int32.ofInt y) :: mg_eS S), mm_h E μ) := rfl
  exact mg_step (f' := (pc + 1, L, (0, z) :: S)) hr rfl (by rw [e, hz]; rfl) k
theorem mg_ishl (hr : mg_at j pc = some (1, .ishl)) (hn : pc + 1 = pn) (hz : Int32.ofInt x <<< (Int32.ofInt y &&& 31) = Int32.ofInt z) (k : mg_w E d j (pn, L, (0, z) :: S) μ Q) : mg_w E d j (pc, L, (0, y) :: (0, x) :: S) μ Q := by
  subst hn
  have e : mv_step E mt_cl mt_ty mt_as .ishl (pc + 1) (mg_eL L) (mg_eS ((0, y) :: (0, x) :: S)) (mm_h E μ) = some ((pc + 1, mg_eL L, Value.int (Int32.ofInt x <<< (Int32.ofInt y &&& 31)) :: mg_eS S), mm_h E μ) := rfl
  exact mg_step (f' := (pc + 1, L, (0, z) :: S)) hr rfl (by rw [e, hz]; rfl) k
theorem mg_ishr (hr : mg_at j pc = some (1, .ishr)) (hn : pc + 1 = pn) (hz : Int32.ofInt x >>> (Int32.ofInt y &&& 31) = Int32.ofInt z) (k : mg_w E d j (pn, L, (0, z) :: S) μ Q) : mg_w E d j (pc, L, (0, y) :: (0, x) :: S) μ Q := by
  subst hn
  have e : mv_step E mt_cl mt_ty mt_as .ishr (pc + 1) (mg_eL L) (mg_eS ((0, y) :: (0, x) :: S)) (mm_h E μ) = some ((pc + 1, mg_eL L, Value.int (Int32.ofInt x >>> (Int32.ofInt y &&& 31)) :: mg_eS S), mm_h E μ) := rfl
  exact mg_step (f' := (pc + 1, L, (0, z) :: S)) hr rfl (by rw [e, hz]; rfl) k
theorem mg_i2l (hr : mg_at j pc = some (1, .i2l)) (hn : pc + 1 = pn) (k : mg_w E d j (pn, L, (1, z.bmod 4294967296) :: S) μ Q) : mg_w E d j (pc, L, (0, z) :: S) μ Q := by
  subst hn
  have e : mv_step E mt_cl mt_ty mt_as .i2l (pc + 1) (mg_eL L) (mg_eS ((0, z) :: S)) (mm_h E μ) = some ((pc + 1, mg_eL L, Value.long (Int32.ofInt z).toInt64 :: mg_eS S), mm_h E μ) := rfl
  have h1 : (Int32.ofInt z).toInt64 = Int64.ofInt (z.bmod 4294967296) := by
    rw [← Int64.ofInt_int32ToInt, Int32.toInt_ofInt]
  exact mg_step (f' := (pc + 1, L, (1, z.bmod 4294967296) :: S)) hr rfl (by rw [e, h1]; rfl) k
theorem mg_tsw {w lo hi : Int} {ts : Array Int} {len : Nat} (hr : mg_at j pc = some (len, .tableswitch w lo hi ts)) (hb : -2147483648 ≤ z ∧ z < 2147483648) (k : mg_w E d j ((mv_sw z w lo hi ts.toList).toNat, L, S) μ Q) : mg_w E d j (pc, L, (0, z) :: S) μ Q := by
  have e : mv_step E mt_cl mt_ty mt_as (.tableswitch w lo hi ts) (pc + len) (mg_eL L) (mg_eS ((0, z) :: S)) (mm_h E μ) = some (((mv_sw (Int32.ofInt z).toInt w lo hi ts.toList).toNat, mg_eL L, mg_eS S), mm_h E μ) := rfl
  exact mg_step (f' := ((mv_sw z w lo hi ts.toList).toNat, L, S)) hr rfl (by rw [e, mg_ti hb]; rfl) k
/-! objects -/
theorem mm_co {c : Nat} (hk : μ a (-1) = 100 + (c : Int)) : mm_c μ a = .inr (c, fun i => md_f c i (μ a i)) := by
  unfold mm_c
  rw [if_neg (by omega), show (μ a (-1) - 100).toNat = c by omega]
theorem mm_ca {t : Nat} (hk : μ a (-1) = (t : Int)) (ht : t < 100) : mm_c μ a = .inl (t, (μ a (-2)).toNat, fun i => md_a t (μ a i)) := by
  unfold mm_c
  rw [if_pos (by omega), show (μ a (-1)).toNat = t by omega]
theorem mg_ty_f {ty : FieldType} (h : mg_ty n = some ty) : md_f (n / 64) (n % 64) z = md_t ty z := by
  unfold mg_ty at h
  unfold md_f
  split at h
  · next K hK => simp only [hK, h]
  · cases h
theorem mg_gf0 {w : mg_V} (hr : mg_at j pc = some (3, .getfield n)) (ho : mm_o E μ a k) (hc : k = 100 + ((n / 64 : Nat) : Int)) (hw : md_f (n / 64) (n % 64) (μ a ((n % 64 : Nat) : Int)) = mg_e w) (kk : mg_w E d j (pc + 3, L, w :: S) μ Q) : mg_w E d j (pc, L, (2, a) :: S) μ Q := by
  subst hc
  refine mg_step (f' := (pc + 3, L, w :: S)) hr rfl ?_ kk
  show (match mv_lk E.1 (mm_h E μ) a.toNat with | some (.inr y) => if y.1 = n / 64 then some ((pc + 3, mg_eL L, y.2 (n % 64) :: mg_eS S), mm_h E μ) else none | _ => none) = _
  rw [mm_lk ho.1, mm_co ho.2]
  simp only [if_true]
  rw [hw]
  rfl
theorem mg_gI (hr : mg_at j pc = some (3, .getfield n)) (hn : pc + 3 = pn) (ht : mg_fI n = true) (hc : k = 100 + ((n / 64 : Nat) : Int)) (hf : ((n % 64 : Nat) : Int) = i) (ho : mm_o E μ a k) (kk : mg_w E d j (pn, L, (0, μ a i) :: S) μ Q) : mg_w E d j (pc, L, (2, a) :: S) μ Q := by
  subst hn hf
  refine mg_gf0 (w := (0, μ a ((n % 64 : Nat) : Int))) hr ho hc ?_ kk
  unfold mg_fI at ht
  split at ht
  · next h => rw [mg_ty_f h]; rfl
  · next h => rw [mg_ty_f h]; rfl
  · cases ht
theorem mg_gL (hr : mg_at j pc = some (3, .getfield n)) (hn : pc + 3 = pn) (ht : mg_fL n = true) (hc : k = 100 + ((n / 64 : Nat) : Int)) (hf : ((n % 64 : Nat) : Int) = i) (ho : mm_o E μ a k) (kk : mg_w E d j (pn, L, (1, μ a i) :: S) μ Q) : mg_w E d j (pc, L, (2, a) :: S) μ Q := by
  subst hn hf
  refine mg_gf0 (w := (1, μ a ((n % 64 : Nat) : Int))) hr ho hc ?_ kk
  unfold mg_fL at ht
  split at ht
  · next h => rw [mg_ty_f h]; rfl
  · cases ht
theorem mg_fA_of (ht : mg_fA n = true) : md_f (n / 64) (n % 64) z = if z < 0 then .null else .ref z.toNat := by
  unfold mg_fA at ht
  split at ht
  · next h => rw [mg_ty_f h]; rfl
  · next h => rw [mg_ty_f h]; rfl
  · cases ht
theorem mg_gR (hr : mg_at j pc = some (3, .getfield n)) (hn : pc + 3 = pn) (ht : mg_fA n = true) (hc : k = 100 + ((n / 64 : Nat) : Int)) (hf : ((n % 64 : Nat) : Int) = i) (ho : mm_o E μ a k) (h0 : 0 ≤ μ a i) (kk : mg_w E d j (pn, L, (2, μ a i) :: S) μ Q) : mg_w E d j (pc, L, (2, a) :: S) μ Q := by
  subst hn hf
  refine mg_gf0 (w := (2, μ a ((n % 64 : Nat) : Int))) hr ho hc ?_ kk
  rw [mg_fA_of ht, if_neg (by omega)]
  rfl
theorem mg_gN (hr : mg_at j pc = some (3, .getfield n)) (hn : pc + 3 = pn) (ht : mg_fA n = true) (hc : k = 100 + ((n / 64 : Nat) : Int)) (hf : ((n % 64 : Nat) : Int) = i) (ho : mm_o E μ a k) (h0 : μ a i < 0) (kk : mg_w E d j (pn, L, (3, 0) :: S) μ Q) : mg_w E d j (pc, L, (2, a) :: S) μ Q := by
  subst hn hf
  refine mg_gf0 (w := (3, 0)) hr ho hc ?_ kk
  rw [mg_fA_of ht, if_pos h0]
  rfl
theorem mg_gA (hr : mg_at j pc = some (3, .getfield n)) (hn : pc + 3 = pn) (ht : mg_fA n = true) (hc : k = 100 + ((n / 64 : Nat) : Int)) (hf : ((n % 64 : Nat) : Int) = i) (ho : mm_o E μ a k) (k1 : 0 ≤ μ a i → mg_w E d j (pn, L, (2, μ a i) :: S) μ Q) (k2 : μ a i < 0 → mg_w E d j (pn, L, (3, 0) :: S) μ Q) : mg_w E d j (pc, L, (2, a) :: S) μ Q := by
  by_cases h0 : μ a i < 0
  · exact mg_gN hr hn ht hc hf ho h0 (k2 h0)
  · exact mg_gR hr hn ht hc hf ho (by omega) (k1 (by omega))
theorem mg_pf0 {w : mg_V} {u : Int} {ty : FieldType} (hr : mg_at j pc = some (3, .putfield n)) (hty : mg_ty n = some ty) (ho : mm_o E μ a k) (hc : k = 100 + ((n / 64 : Nat) : Int)) (hw : md_t ty u = mg_e w) (hfit : fits ty (mg_e w) = true) (hs : mv_tS ty = true) (kk : mg_w E d j (pc + 3, L, S) (mm_u μ a ((n % 64 : Nat) : Int) u) Q) : mg_w E d j (pc, L, w :: (2, a) :: S) μ Q := by
  subst hc
  refine mg_step (f' := (pc + 3, L, S)) hr rfl ?_ kk
  have hty2 : ∃ K, mt_cl[n / 64]? = some K ∧ K.2.2.2.2[n % 64]? = some ty := by
    unfold mg_ty at hty
    split at hty
    · next K hK => exact ⟨K, hK, hty⟩
    · cases hty
  obtain ⟨K, hK, hKt⟩ := hty2
  show (match mv_lk E.1 (mm_h E μ) a.toNat with | some (.inr y) => (match mt_cl[n / 64]? with | some K => (match K.2.2.2.2[n % 64]? with | some ty => if y.1 = n / 64 ∧ fits ty (mg_e w) = true ∧ mv_tS ty = true then some ((pc + 3, mg_eL L, mg_eS S), mv_up E.1 (mm_h E μ) a.toNat (.inr (n / 64, updV y.2 (n % 64) (mg_e w)))) else none | none => none) | none => none) | _ => none) = _
  rw [mm_lk ho.1, mm_co ho.2]
  simp only [hK, hKt]
  rw [if_pos ⟨trivial, hfit, hs⟩]
  have hup : mv_up E.1 (mm_h E μ) a.toNat (.inr (n / 64, updV (fun i => md_f (n / 64) i (μ a i)) (n % 64) (mg_e w))) = mm_h E (mm_u μ a ((n % 64 : Nat) : Int) u) := by
    refine mm_upd ho.1 ?_
    rw [mm_co (c := n / 64) (by rw [mm_u_ne (by omega)]; exact ho.2)]
    congr 2
    funext q
    by_cases hq : q = n % 64
    · subst hq
      simp only [updV, if_true, mm_u_at]
      rw [mg_ty_f hty, hw]
    · rw [mm_u_ne (by omega)]
      simp [updV, hq]
  rw [hup]
  rfl
theorem mg_pI (hr : mg_at j pc = some (3, .putfield n)) (hn : pc + 3 = pn) (ht : mg_ty n = some .int) (hc : k = 100 + ((n / 64 : Nat) : Int)) (hf : ((n % 64 : Nat) : Int) = i) (ho : mm_o E μ a k) (kk : mg_w E d j (pn, L, S) (mm_u μ a i z) Q) : mg_w E d j (pc, L, (0, z) :: (2, a) :: S) μ Q := by
  subst hn hf
  exact mg_pf0 hr ht ho hc rfl rfl rfl kk
theorem mg_pZ (hr : mg_at j pc = some (3, .putfield n)) (hn : pc + 3 = pn) (ht : mg_ty n = some .boolean) (hc : k = 100 + ((n / 64 : Nat) : Int)) (hf : ((n % 64 : Nat) : Int) = i) (ho : mm_o E μ a k) (hz : z = 0 ∨ z = 1) (kk : mg_w E d j (pn, L, S) (mm_u μ a i z) Q) : mg_w E d j (pc, L, (0, z) :: (2, a) :: S) μ Q := by
  subst hn hf
  refine mg_pf0 hr ht ho hc rfl ?_ rfl kk
  rcases hz with rfl | rfl <;> rfl
theorem mg_pL (hr : mg_at j pc = some (3, .putfield n)) (hn : pc + 3 = pn) (ht : mg_ty n = some .long) (hc : k = 100 + ((n / 64 : Nat) : Int)) (hf : ((n % 64 : Nat) : Int) = i) (ho : mm_o E μ a k) (kk : mg_w E d j (pn, L, S) (mm_u μ a i z) Q) : mg_w E d j (pc, L, (1, z) :: (2, a) :: S) μ Q := by
  subst hn hf
  exact mg_pf0 hr ht ho hc rfl rfl rfl kk
theorem mg_pA (hr : mg_at j pc = some (3, .putfield n)) (hn : pc + 3 = pn) (ht : mg_fA n = true) (hc : k = 100 + ((n / 64 : Nat) : Int)) (hf : ((n % 64 : Nat) : Int) = i) (ho : mm_o E μ a k) (hz : 0 ≤ z) (kk : mg_w E d j (pn, L, S) (mm_u μ a i z) Q) : mg_w E d j (pc, L, (2, z) :: (2, a) :: S) μ Q := by
  subst hn hf
  unfold mg_fA at ht
  split at ht
  · next h => exact mg_pf0 (u := z) hr h ho hc (by show (if z < 0 then Value.null else .ref z.toNat) = _; rw [if_neg (by omega)]; rfl) rfl rfl kk
  · next h => exact mg_pf0 (u := z) hr h ho hc (by show (if z < 0 then Value.null else .ref z.toNat) = _; rw [if_neg (by omega)]; rfl) rfl rfl kk
  · cases ht
theorem mg_pN (hr : mg_at j pc = some (3, .putfield n)) (hn : pc + 3 = pn) (ht : mg_fA n = true) (hc : k = 100 + ((n / 64 : Nat) : Int)) (hf : ((n % 64 : Nat) : Int) = i) (ho : mm_o E μ a k) (kk : mg_w E d j (pn, L, S) (mm_u μ a i (-1)) Q) : mg_w E d j (pc, L, (3, 0) :: (2, a) :: S) μ Q := by
  subst hn hf
  unfold mg_fA at ht
  split at ht
  · next h => exact mg_pf0 (u := -1) hr h ho hc rfl rfl rfl kk
  · next h => exact mg_pf0 (u := -1) hr h ho hc rfl rfl rfl kk
  · cases ht
end MGH
