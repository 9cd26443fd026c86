/-! arrays; what is made -/
section MGA2
variable {E : mv_E} {d j pc pn pt : Nat} {L : mg_L} {S : List mg_V} {μ : mm_T} {Q : mg_R → mm_T → Prop} {x y z a v i k l : Int} {n t : Nat}
theorem mg_len (hr : mg_at j pc = some (1, .arraylength)) (hn : pc + 1 = pn) (ht : (mt_ty[t]?).isSome = true) (ht2 : t < 100) (hl : 0 ≤ l) (ho : mm_r E μ a (t : Int) l) (kk : mg_w E d j (pn, L, (0, l) :: S) μ Q) : mg_w E d j (pc, L, (2, a) :: S) μ Q := by
  subst hn
  refine mg_step (f' := (pc + 1, L, (0, l) :: S)) hr rfl ?_ kk
  obtain ⟨ty, hty⟩ := Option.isSome_iff_exists.mp ht
  show (match mv_lk E.1 (mm_h E μ) a.toNat with | some (.inl y) => (match mt_ty[y.1]? with | some _ => some ((pc + 1, mg_eL L, Value.int (Int32.ofNat y.2.1) :: mg_eS S), mm_h E μ) | none => none) | some (.inr _) => none | none => if a.toNat = E.2.1 then some ((pc + 1, mg_eL L, Value.int (Int32.ofNat E.2.2.1) :: mg_eS S), mm_h E μ) else if a.toNat = E.2.2.2.2.1 then some ((pc + 1, mg_eL L, Value.int 0 :: mg_eS S), mm_h E μ) else none) = _
  rw [mm_lk ho.1, mm_ca ho.2.1 ht2]
  simp only [hty, ho.2.2]
  rw [show Int32.ofNat l.toNat = Int32.ofInt l by rw [show Int32.ofNat l.toNat = Int32.ofInt (l.toNat : Int) from rfl, Int.toNat_of_nonneg hl]]
  rfl
/-- the script's length -/
theorem mg_lenS (hr : mg_at j pc = some (1, .arraylength)) (hn : pc + 1 = pn) (h0 : E.2.1 < E.1) (kk : mg_w E d j (pn, L, (0, (E.2.2.1 : Int)) :: S) μ Q) : mg_w E d j (pc, L, (2, (E.2.1 : Int)) :: S) μ Q := by
  subst hn
  refine mg_step (f' := (pc + 1, L, (0, (E.2.2.1 : Int)) :: S)) hr rfl ?_ kk
  show (match mv_lk E.1 (mm_h E μ) (E.2.1 : Int).toNat with | some (.inl y) => (match mt_ty[y.1]? with | some _ => some ((pc + 1, mg_eL L, Value.int (Int32.ofNat y.2.1) :: mg_eS S), mm_h E μ) | none => none) | some (.inr _) => none | none => if (E.2.1 : Int).toNat = E.2.1 then some ((pc + 1, mg_eL L, Value.int (Int32.ofNat E.2.2.1) :: mg_eS S), mm_h E μ) else if (E.2.1 : Int).toNat = E.2.2.2.2.1 then some ((pc + 1, mg_eL L, Value.int 0 :: mg_eS S), mm_h E μ) else none) = _
  rw [mm_lkn (by omega) (by omega)]
  simp only [Int.toNat_natCast, if_true]
  rfl
/-- the length of the lists' empty array -/
theorem mg_lenE (hr : mg_at j pc = some (1, .arraylength)) (hn : pc + 1 = pn) (h0 : E.2.2.2.2.1 < E.1) (h1 : E.2.2.2.2.1 ≠ E.2.1) (kk : mg_w E d j (pn, L, (0, 0) :: S) μ Q) : mg_w E d j (pc, L, (2, (E.2.2.2.2.1 : Int)) :: S) μ Q := by
  subst hn
  refine mg_step (f' := (pc + 1, L, (0, 0) :: S)) hr rfl ?_ kk
  show (match mv_lk E.1 (mm_h E μ) (E.2.2.2.2.1 : Int).toNat with | some (.inl y) => (match mt_ty[y.1]? with | some _ => some ((pc + 1, mg_eL L, Value.int (Int32.ofNat y.2.1) :: mg_eS S), mm_h E μ) | none => none) | some (.inr _) => none | none => if (E.2.2.2.2.1 : Int).toNat = E.2.1 then some ((pc + 1, mg_eL L, Value.int (Int32.ofNat E.2.2.1) :: mg_eS S), mm_h E μ) else if (E.2.2.2.2.1 : Int).toNat = E.2.2.2.2.1 then some ((pc + 1, mg_eL L, Value.int 0 :: mg_eS S), mm_h E μ) else none) = _
  rw [mm_lkn (by omega) (by omega)]
  simp only [Int.toNat_natCast, if_true]
  rw [if_neg h1]
  rfl
theorem mg_rd0 {w : mg_V} {want : FieldType → Bool} {ty : FieldType} (hty : mt_ty[t]? = some ty) (hw : want ty = true) (ht2 : t < 100) (ho : mm_r E μ a (t : Int) l) (hi : 0 ≤ i ∧ i < l) (hl : l ≤ 2147483648) (he : md_t ty (μ a i) = mg_e w) : mv_rd E.1 mt_ty want (mm_h E μ) a.toNat (Int32.ofInt i) = some (mg_e w) := by
  unfold mv_rd
  rw [mm_lk ho.1, mm_ca ho.2.1 ht2]
  simp only [hty]
  have h0 : ¬ (Int32.ofInt i < 0 ∨ (μ a (-2)).toNat ≤ (Int32.ofInt i).toNatClampNeg) := by
    rw [mg_tn (by omega), ho.2.2]
    rintro (h | h)
    · have := (mg_lt (x := i) (y := 0) (by omega) (by omega)).mp h
      omega
    · omega
  rw [if_pos ⟨hw, h0⟩, mg_tn (by omega)]
  simp only [md_a, hty]
  rw [show ((i.toNat : Nat) : Int) = i by omega, he]
theorem mg_ial (hr : mg_at j pc = some (1, .iaload)) (hn : pc + 1 = pn) (hi : 0 ≤ i ∧ i < l) (hl : l ≤ 2147483648) (ho : mm_r E μ a 0 l) (kk : mg_w E d j (pn, L, (0, μ a i) :: S) μ Q) : mg_w E d j (pc, L, (0, i) :: (2, a) :: S) μ Q := by
  subst hn
  refine mg_step (f' := (pc + 1, L, (0, μ a i) :: S)) hr rfl ?_ kk
  have e := mg_rd0 (t := 0) (w := (0, μ a i)) (want := mv_tI) (ty := .int) rfl rfl (by omega) ho hi hl rfl
  show (match mv_lk E.1 (mm_h E μ) a.toNat with | some _ => mv_at_ (pc + 1) (mg_eL L) (mg_eS S) (mm_h E μ) (mv_rd E.1 mt_ty mv_tI (mm_h E μ) a.toNat (Int32.ofInt i)) | none => _) = _
  rw [mm_lk ho.1, e]
  rfl
/-- an int of the script -/
theorem mg_ialS (hr : mg_at j pc = some (1, .iaload)) (hn : pc + 1 = pn) (h0 : E.2.1 < E.1) (hi : 0 ≤ i ∧ i < (E.2.2.1 : Int)) (hl : E.2.2.1 ≤ 3072) (kk : mg_w E d j (pn, L, (0, (E.2.2.2.1 i.toNat).toInt) :: S) μ Q) : mg_w E d j (pc, L, (0, i) :: (2, (E.2.1 : Int)) :: S) μ Q := by
  subst hn
  refine mg_step (f' := (pc + 1, L, (0, (E.2.2.2.1 i.toNat).toInt) :: S)) hr rfl ?_ kk
  show (match mv_lk E.1 (mm_h E μ) (E.2.1 : Int).toNat with | some _ => mv_at_ (pc + 1) (mg_eL L) (mg_eS S) (mm_h E μ) (mv_rd E.1 mt_ty mv_tI (mm_h E μ) (E.2.1 : Int).toNat (Int32.ofInt i)) | none => if (E.2.1 : Int).toNat = E.2.1 ∧ ¬ (Int32.ofInt i < 0 ∨ E.2.2.1 ≤ (Int32.ofInt i).toNatClampNeg) then some ((pc + 1, mg_eL L, Value.int (E.2.2.2.1 (Int32.ofInt i).toNatClampNeg) :: mg_eS S), mm_h E μ) else none) = _
  rw [mm_lkn (by omega) (by omega)]
  have h1 : ¬ (Int32.ofInt i < 0 ∨ E.2.2.1 ≤ (Int32.ofInt i).toNatClampNeg) := by
    rw [mg_tn (by omega)]
    rintro (h | h)
    · have := (mg_lt (x := i) (y := 0) (by omega) (by omega)).mp h
      omega
    · omega
  simp only []
  rw [if_pos ⟨by omega, h1⟩, mg_tn (by omega)]
  show some ((pc + 1, mg_eL L, Value.int (E.2.2.2.1 i.toNat) :: mg_eS S), mm_h E μ) = some ((pc + 1, mg_eL L, Value.int (Int32.ofInt (E.2.2.2.1 i.toNat).toInt) :: mg_eS S), mm_h E μ)
  rw [Int32.ofInt_toInt]
theorem mg_bal (hr : mg_at j pc = some (1, .baload)) (hn : pc + 1 = pn) (hi : 0 ≤ i ∧ i < l) (hl : l ≤ 2147483648) (ho : mm_r E μ a 1 l) (kk : mg_w E d j (pn, L, (0, μ a i) :: S) μ Q) : mg_w E d j (pc, L, (0, i) :: (2, a) :: S) μ Q := by
  subst hn
  refine mg_step (f' := (pc + 1, L, (0, μ a i) :: S)) hr rfl ?_ kk
  have e := mg_rd0 (t := 1) (w := (0, μ a i)) (want := mv_tZ) (ty := .boolean) rfl rfl (by omega) ho hi hl rfl
  show mv_at_ (pc + 1) (mg_eL L) (mg_eS S) (mm_h E μ) (mv_rd E.1 mt_ty mv_tZ (mm_h E μ) a.toNat (Int32.ofInt i)) = _
  rw [e]
  rfl
theorem mg_lal (hr : mg_at j pc = some (1, .laload)) (hn : pc + 1 = pn) (hi : 0 ≤ i ∧ i < l) (hl : l ≤ 2147483648) (ho : mm_r E μ a 2 l) (kk : mg_w E d j (pn, L, (1, μ a i) :: S) μ Q) : mg_w E d j (pc, L, (0, i) :: (2, a) :: S) μ Q := by
  subst hn
  refine mg_step (f' := (pc + 1, L, (1, μ a i) :: S)) hr rfl ?_ kk
  have e := mg_rd0 (t := 2) (w := (1, μ a i)) (want := mv_tL) (ty := .long) rfl rfl (by omega) ho hi hl rfl
  show mv_at_ (pc + 1) (mg_eL L) (mg_eS S) (mm_h E μ) (mv_rd E.1 mt_ty mv_tL (mm_h E μ) a.toNat (Int32.ofInt i)) = _
  rw [e]
  rfl
theorem mg_aA_of (h : mg_aA t = true) : ∃ C, mt_ty[t]? = some (.object C) := by
  unfold mg_aA at h
  split at h
  · next C hC => exact ⟨C, hC⟩
  · cases h
theorem mg_aal (hr : mg_at j pc = some (1, .aaload)) (hn : pc + 1 = pn) (ht : mg_aA t = true) (ht2 : t < 100) (hi : 0 ≤ i ∧ i < l) (hl : l ≤ 2147483648) (ho : mm_r E μ a (t : Int) l) (k1 : 0 ≤ μ a i → mg_w E d j (pn, L, (2, μ a i) :: S) μ Q) (k2 : μ a i < 0 → mg_w E d j (pn, L, (3, 0) :: S) μ Q) : mg_w E d j (pc, L, (0, i) :: (2, a) :: S) μ Q := by
  subst hn
  obtain ⟨C, hC⟩ := mg_aA_of ht
  by_cases h0 : μ a i < 0
  · refine mg_step (f' := (pc + 1, L, (3, 0) :: S)) hr rfl ?_ (k2 h0)
    have e := mg_rd0 (w := (3, 0)) (want := mv_tA) (ty := .object C) hC rfl ht2 ho hi hl (by show (if μ a i < 0 then Value.null else _) = _; rw [if_pos h0]; rfl)
    show mv_at_ (pc + 1) (mg_eL L) (mg_eS S) (mm_h E μ) (mv_rd E.1 mt_ty mv_tA (mm_h E μ) a.toNat (Int32.ofInt i)) = _
    rw [e]
    rfl
  · refine mg_step (f' := (pc + 1, L, (2, μ a i) :: S)) hr rfl ?_ (k1 (by omega))
    have e := mg_rd0 (w := (2, μ a i)) (want := mv_tA) (ty := .object C) hC rfl ht2 ho hi hl (by show (if μ a i < 0 then Value.null else _) = _; rw [if_neg h0]; rfl)
    show mv_at_ (pc + 1) (mg_eL L) (mg_eS S) (mm_h E μ) (mv_rd E.1 mt_ty mv_tA (mm_h E μ) a.toNat (Int32.ofInt i)) = _
    rw [e]
    rfl
theorem mg_wr0 {w : Value} {want : FieldType → Bool} {ty : FieldType} (hty : mt_ty[t]? = some ty) (hw : want ty = true) (ht2 : t < 100) (ho : mm_r E μ a (t : Int) l) (hi : 0 ≤ i ∧ i < l) (hl : l ≤ 2147483648) (he : md_t ty z = w) : mv_wr E.1 mt_ty want (mm_h E μ) a.toNat (Int32.ofInt i) w = some (mm_h E (mm_u μ a i z)) := by
  unfold mv_wr
  rw [mm_lk ho.1, mm_ca ho.2.1 ht2]
  simp only [hty]
  have h0 : ¬ (Int32.ofInt i < 0 ∨ (μ a (-2)).toNat ≤ (Int32.ofInt i).toNatClampNeg) := by
    rw [mg_tn (by omega), ho.2.2]
    rintro (h | h)
    · have := (mg_lt (x := i) (y := 0) (by omega) (by omega)).mp h
      omega
    · omega
  rw [if_pos ⟨hw, h0⟩, mg_tn (by omega)]
  congr 1
  refine mm_upd ho.1 ?_
  rw [mm_ca (t := t) (by rw [mm_u_ne (by omega)]; exact ho.2.1) ht2, mm_u_ne (by omega)]
  congr 3
  funext q
  by_cases hq : q = i.toNat
  · subst hq
    simp only [updV, if_true]
    rw [show ((i.toNat : Nat) : Int) = i by omega, mm_u_at]
    simp only [md_a, hty]
    exact he.symm
  · rw [mm_u_ne (by omega)]
    simp [updV, hq]
theorem mg_ias (hr : mg_at j pc = some (1, .iastore)) (hn : pc + 1 = pn) (hi : 0 ≤ i ∧ i < l) (hl : l ≤ 2147483648) (ho : mm_r E μ a 0 l) (kk : mg_w E d j (pn, L, S) (mm_u μ a i z) Q) : mg_w E d j (pc, L, (0, z) :: (0, i) :: (2, a) :: S) μ Q := by
  subst hn
  refine mg_step (f' := (pc + 1, L, S)) hr rfl ?_ kk
  have e := mg_wr0 (t := 0) (z := z) (want := mv_tI) (ty := .int) rfl rfl (by omega) ho hi hl rfl
  show mv_to_ (pc + 1) (mg_eL L) (mg_eS S) (mv_wr E.1 mt_ty mv_tI (mm_h E μ) a.toNat (Int32.ofInt i) (md_t .int z)) = _
  rw [e]
  rfl
theorem mg_bas (hr : mg_at j pc = some (1, .bastore)) (hn : pc + 1 = pn) (hz : z = 0 ∨ z = 1) (hi : 0 ≤ i ∧ i < l) (hl : l ≤ 2147483648) (ho : mm_r E μ a 1 l) (kk : mg_w E d j (pn, L, S) (mm_u μ a i z) Q) : mg_w E d j (pc, L, (0, z) :: (0, i) :: (2, a) :: S) μ Q := by
  subst hn
  refine mg_step (f' := (pc + 1, L, S)) hr rfl ?_ kk
  have e := mg_wr0 (t := 1) (z := z) (w := narrow .boolean (.int (Int32.ofInt z))) (want := mv_tZ) (ty := .boolean) rfl rfl (by omega) ho hi hl (by rcases hz with rfl | rfl <;> rfl)
  show mv_to_ (pc + 1) (mg_eL L) (mg_eS S) (mv_wr E.1 mt_ty mv_tZ (mm_h E μ) a.toNat (Int32.ofInt i) (narrow .boolean (.int (Int32.ofInt z)))) = _
  rw [e]
  rfl
theorem mg_las (hr : mg_at j pc = some (1, .lastore)) (hn : pc + 1 = pn) (hi : 0 ≤ i ∧ i < l) (hl : l ≤ 2147483648) (ho : mm_r E μ a 2 l) (kk : mg_w E d j (pn, L, S) (mm_u μ a i z) Q) : mg_w E d j (pc, L, (1, z) :: (0, i) :: (2, a) :: S) μ Q := by
  subst hn
  refine mg_step (f' := (pc + 1, L, S)) hr rfl ?_ kk
  have e := mg_wr0 (t := 2) (z := z) (want := mv_tL) (ty := .long) rfl rfl (by omega) ho hi hl rfl
  show mv_to_ (pc + 1) (mg_eL L) (mg_eS S) (mv_wr E.1 mt_ty mv_tL (mm_h E μ) a.toNat (Int32.ofInt i) (md_t .long z)) = _
  rw [e]
  rfl
theorem mg_aasN (hr : mg_at j pc = some (1, .aastore)) (hn : pc + 1 = pn) (ht : mg_aA t = true) (ht2 : t < 100) (hi : 0 ≤ i ∧ i < l) (hl : l ≤ 2147483648) (ho : mm_r E μ a (t : Int) l) (kk : mg_w E d j (pn, L, S) (mm_u μ a i (-1)) Q) : mg_w E d j (pc, L, (3, 0) :: (0, i) :: (2, a) :: S) μ Q := by
  subst hn
  obtain ⟨C, hC⟩ := mg_aA_of ht
  refine mg_step (f' := (pc + 1, L, S)) hr rfl ?_ kk
  have e := mg_wr0 (z := -1) (w := .null) (want := mv_tA) (ty := .object C) hC rfl ht2 ho hi hl rfl
  show mv_to_ (pc + 1) (mg_eL L) (mg_eS S) (mv_wr E.1 mt_ty mv_tA (mm_h E μ) a.toNat (Int32.ofInt i) .null) = _
  rw [e]
  rfl
theorem mm_cof {c : Nat} (ho : mm_o E μ a (100 + (c : Int))) : mv_cof E.1 (mm_h E μ) a.toNat = some c := by
  unfold mv_cof
  rw [mm_lk ho.1, mm_co ho.2]
theorem mm_kof (ht2 : t < 100) (ho : mm_r E μ a (t : Int) l) : mv_kof E.1 (mm_h E μ) a.toNat = some t := by
  unfold mv_kof
  rw [mm_lk ho.1, mm_ca ho.2.1 ht2]
theorem mg_aas {c : Nat} (hr : mg_at j pc = some (1, .aastore)) (hn : pc + 1 = pn) (ht : mg_aA t = true) (ht2 : t < 100) (hc : k = 100 + (c : Int)) (hct : mt_as.contains (c, t) = true) (hi : 0 ≤ i ∧ i < l) (hl : l ≤ 2147483648) (ho : mm_r E μ a (t : Int) l) (hv : mm_o E μ v k) (kk : mg_w E d j (pn, L, S) (mm_u μ a i v) Q) : mg_w E d j (pc, L, (2, v) :: (0, i) :: (2, a) :: S) μ Q := by
  subst hn hc
  obtain ⟨C, hC⟩ := mg_aA_of ht
  refine mg_step (f' := (pc + 1, L, S)) hr rfl ?_ kk
  have h0 : 0 ≤ v := hv.1.pos
  have e := mg_wr0 (z := v) (w := .ref v.toNat) (want := mv_tA) (ty := .object C) hC rfl ht2 ho hi hl (by show (if v < 0 then Value.null else _) = _; rw [if_neg (by omega)])
  show (match mv_cof E.1 (mm_h E μ) v.toNat, mv_kof E.1 (mm_h E μ) a.toNat with | some ci, some t => if mt_as.contains (ci, t) = true then mv_to_ (pc + 1) (mg_eL L) (mg_eS S) (mv_wr E.1 mt_ty mv_tA (mm_h E μ) a.toNat (Int32.ofInt i) (.ref v.toNat)) else none | _, _ => none) = _
  rw [mm_cof hv, mm_kof ht2 ho]
  simp only [hct, if_true]
  rw [e]
  rfl
theorem mg_cast (hr : mg_at j pc = some (3, .checkcast n)) (hn : pc + 3 = pn) (hc : k = 100 + (n : Int)) (ho : mm_o E μ a k) (kk : mg_w E d j (pn, L, (2, a) :: S) μ Q) : mg_w E d j (pc, L, (2, a) :: S) μ Q := by
  subst hn hc
  refine mg_step (f' := (pc + 3, L, (2, a) :: S)) hr rfl ?_ kk
  show (if mv_cof E.1 (mm_h E μ) a.toNat = some n then some ((pc + 3, mg_eL L, Value.ref a.toNat :: mg_eS S), mm_h E μ) else none) = _
  rw [mm_cof ho, if_pos rfl]
  rfl
theorem mg_oi (hr : mg_at j pc = some (3, .monitorexit)) (hn : pc + 3 = pn) (hS : decide (((mg_eS S).map fun v => v.category).sum ≤ 24) = true) (kk : mg_w E d j (pn, L, S) μ Q) : mg_w E d j (pc, L, (2, a) :: S) μ Q := by
  subst hn
  refine mg_step (f' := (pc + 3, L, S)) hr rfl ?_ kk
  show (if ((mg_eS S).map fun v => v.category).sum ≤ 24 then some ((pc + 3, mg_eL L, mg_eS S), mm_h E μ) else none) = _
  rw [if_pos (of_decide_eq_true hS)]
  rfl
/-- what an object's fields hold when it is made -/
def mm_z (c : Nat) (i : Int) : Int := match mt_cl[c]? with
  | some K => (match K.2.2.2.2[i.toNat]? with
    | some (.object _) => -1
    | some (.array _) => -1
    | _ => 0)
  | none => 0
theorem mm_z_ok (c q : Nat) {K : mv_K} (hK : mt_cl[c]? = some K) (hs : K.2.2.2.2.all (fun ty => match ty with | .int => true | .boolean => true | .long => true | .object _ => true | .array _ => true | _ => false) = true) : md_f c q (mm_z c (q : Int)) = mv_def K q := by
  unfold md_f mm_z mv_def
  simp only [hK, Int.toNat_natCast]
  cases h : K.2.2.2.2[q]? with
  | none => rfl
  | some ty =>
    have := List.all_eq_true.mp hs ty (List.mem_of_getElem? h)
    cases ty <;> first | rfl | cases this
theorem mg_new {K : mv_K} (hr : mg_at j pc = some (3, .new n)) (hn : pc + 3 = pn) (hK : mt_cl[n]? = some K) (hs : K.2.2.2.2.all (fun ty => match ty with | .int => true | .boolean => true | .long => true | .object _ => true | .array _ => true | _ => false) = true) (hk : 100 + (n : Int) = k) (h0 : 0 ≤ μ (-1) 0) (kk : mg_w E d j (pn, L, (2, E.1 + μ (-1) 0) :: S) (mm_al E μ k 0 (mm_z n)) Q) : mg_w E d j (pc, L, S) μ Q := by
  subst hn hk
  refine mg_step (f' := (pc + 3, L, (2, E.1 + μ (-1) 0) :: S)) hr rfl ?_ kk
  show (match mt_cl[n]? with | some K => some ((pc + 3, mg_eL L, Value.ref (E.1 + (mm_h E μ).length) :: mg_eS S), mm_h E μ ++ [(Sum.inr (n, mv_def K) : mv_C)]) | none => none) = _
  simp only [hK]
  rw [mm_push (k := 100 + (n : Int)) (l := 0) (z0 := mm_z n) h0 ?_, mm_h_len]
  · show _ = some ((pc + 3, mg_eL L, Value.ref ((E.1 : Int) + μ (-1) 0).toNat :: mg_eS S), _)
    rw [show ((E.1 : Int) + μ (-1) 0).toNat = E.1 + (μ (-1) 0).toNat by omega]
  · have e1 : mm_al E μ (100 + (n : Int)) 0 (mm_z n) (E.1 + μ (-1) 0) (-1) = 100 + (n : Int) := by
      have : ¬ ((E.1 : Int) + μ (-1) 0 = -1 ∧ (-1 : Int) = 0) := by omega
      simp [mm_al]
    rw [mm_co e1]
    congr 2
    funext q
    have e2 : mm_al E μ (100 + (n : Int)) 0 (mm_z n) (E.1 + μ (-1) 0) (q : Int) = mm_z n q := by
      have h1 : ¬ ((E.1 : Int) + μ (-1) 0 = -1 ∧ (q : Int) = 0) := by omega
      have h2 : ¬ ((q : Int) = -1) := by omega
      have h3 : ¬ ((q : Int) = -2) := by omega
      unfold mm_al
      rw [if_neg h1, if_pos rfl, if_neg h2, if_neg h3]
    rw [e2, mm_z_ok n q hK hs]
theorem mg_mk0 {ty : FieldType} {u : Int} (hty : mt_ty[t]? = some ty) (ht2 : t < 100) (h0 : 0 ≤ μ (-1) 0) (hl : 0 ≤ l) {w : Value} (hw : md_t ty u = w) : mm_h E μ ++ [.inl (t, l.toNat, fun _ => w)] = mm_h E (mm_al E μ (t : Int) l (fun _ => u)) := by
  refine mm_push h0 ?_
  have e1 : mm_al E μ (t : Int) l (fun _ => u) (E.1 + μ (-1) 0) (-1) = (t : Int) := by simp [mm_al]
  have e2 : mm_al E μ (t : Int) l (fun _ => u) (E.1 + μ (-1) 0) (-2) = l := by simp [mm_al]
  rw [mm_ca e1 ht2, e2]
  congr 3
  funext q
  have e3 : mm_al E μ (t : Int) l (fun _ => u) (E.1 + μ (-1) 0) (q : Int) = u := by
    have h1 : ¬ ((E.1 : Int) + μ (-1) 0 = -1 ∧ (q : Int) = 0) := by omega
    have h2 : ¬ ((q : Int) = -1) := by omega
    have h3 : ¬ ((q : Int) = -2) := by omega
    unfold mm_al
    rw [if_neg h1, if_pos rfl, if_neg h2, if_neg h3]
  rw [e3]
  simp only [md_a, hty]
  exact hw.symm
theorem mg_na {at_ : ArrayType} (hr : mg_at j pc = some (2, .newarray at_)) (hn : pc + 2 = pn) (ht : mv_kd at_ = t) (hok : at_ = .int ∨ at_ = .boolean ∨ at_ = .long) (hl : 0 ≤ l ∧ l ≤ 60000000) (h0 : 0 ≤ μ (-1) 0) (kk : mg_w E d j (pn, L, (2, E.1 + μ (-1) 0) :: S) (mm_al E μ (t : Int) l (fun _ => 0)) Q) : mg_w E d j (pc, L, (0, l) :: S) μ Q := by
  subst hn ht
  refine mg_step (f' := (pc + 2, L, (2, E.1 + μ (-1) 0) :: S)) hr rfl ?_ kk
  show (if ¬ Int32.ofInt l < 0 ∧ (Int32.ofInt l).toNatClampNeg ≤ 60000000 then some ((pc + 2, mg_eL L, Value.ref (E.1 + (mm_h E μ).length) :: mg_eS S), mm_h E μ ++ [(Sum.inl (mv_kd at_, (Int32.ofInt l).toNatClampNeg, fun _ => defaultValue (newarray.typeOf at_)) : mv_C)]) else none) = _
  have h1 : ¬ Int32.ofInt l < 0 := fun h => by have := (mg_lt (x := l) (y := 0) (by omega) (by omega)).mp h; omega
  rw [mg_tn (by omega), if_pos ⟨h1, by omega⟩, mm_h_len]
  have e : mm_h E μ ++ [(Sum.inl (mv_kd at_, l.toNat, fun _ => defaultValue (newarray.typeOf at_)) : mv_C)] = mm_h E (mm_al E μ ((mv_kd at_ : Nat) : Int) l (fun _ => 0)) := by
    rcases hok with rfl | rfl | rfl
    · exact mg_mk0 (ty := .int) rfl (by decide) h0 hl.1 rfl
    · exact mg_mk0 (ty := .boolean) rfl (by decide) h0 hl.1 rfl
    · exact mg_mk0 (ty := .long) rfl (by decide) h0 hl.1 rfl
  rw [e]
  show _ = some ((pc + 2, mg_eL L, Value.ref ((E.1 : Int) + μ (-1) 0).toNat :: mg_eS S), _)
  rw [show ((E.1 : Int) + μ (-1) 0).toNat = E.1 + (μ (-1) 0).toNat by omega]
theorem mg_an (hr : mg_at j pc = some (3, .anewarray t)) (hn : pc + 3 = pn) (ht : mg_aA t = true) (ht2 : t < 100) (hl : 0 ≤ l ∧ l ≤ 60000000) (h0 : 0 ≤ μ (-1) 0) (kk : mg_w E d j (pn, L, (2, E.1 + μ (-1) 0) :: S) (mm_al E μ (t : Int) l (fun _ => -1)) Q) : mg_w E d j (pc, L, (0, l) :: S) μ Q := by
  subst hn
  obtain ⟨C, hC⟩ := mg_aA_of ht
  refine mg_step (f' := (pc + 3, L, (2, E.1 + μ (-1) 0) :: S)) hr rfl ?_ kk
  show (if ¬ Int32.ofInt l < 0 ∧ (Int32.ofInt l).toNatClampNeg ≤ 60000000 then some ((pc + 3, mg_eL L, Value.ref (E.1 + (mm_h E μ).length) :: mg_eS S), mm_h E μ ++ [(Sum.inl (t, (Int32.ofInt l).toNatClampNeg, fun _ => Value.null) : mv_C)]) else none) = _
  have h1 : ¬ Int32.ofInt l < 0 := fun h => by have := (mg_lt (x := l) (y := 0) (by omega) (by omega)).mp h; omega
  rw [mg_tn (by omega), if_pos ⟨h1, by omega⟩, mm_h_len, mg_mk0 (ty := .object C) (u := -1) (w := Value.null) hC ht2 h0 hl.1 rfl]
  show _ = some ((pc + 3, mg_eL L, Value.ref ((E.1 : Int) + μ (-1) 0).toNat :: mg_eS S), _)
  rw [show ((E.1 : Int) + μ (-1) 0).toNat = E.1 + (μ (-1) 0).toNat by omega]
end MGA2
