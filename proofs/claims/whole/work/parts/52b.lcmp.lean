/-! longs compared -/
section LCM
variable {E : mv_E} {d j pc pn pt : Nat} {L : mg_L} {S : List mg_V} {s ν μ : mm_T} {Q : nm_O → mm_T → mm_T → Prop} {Qm : mg_R → mm_T → Prop} {x y : Int}
theorem mg_tl (h : -9223372036854775808 ≤ x ∧ x < 9223372036854775808) : (Int64.ofInt x).toInt = x := Int64.toInt_ofInt_of_le (by omega) (by omega)
theorem mg_eql (hx : -9223372036854775808 ≤ x ∧ x < 9223372036854775808) (hy : -9223372036854775808 ≤ y ∧ y < 9223372036854775808) : (Int64.ofInt x = Int64.ofInt y) ↔ x = y := by rw [← Int64.toInt_inj, mg_tl hx, mg_tl hy]
def mg_cm (x y : Int) : Int := if x < y then -1 else if x = y then 0 else 1
theorem mg_cm_ok (hx : -9223372036854775808 ≤ x ∧ x < 9223372036854775808) (hy : -9223372036854775808 ≤ y ∧ y < 9223372036854775808) : lg_cmp (Int64.ofInt x) (Int64.ofInt y) = Int32.ofInt (mg_cm x y) := by
  have h1 : Int64.ofInt x > Int64.ofInt y ↔ y < x := by rw [gt_iff_lt, Int64.lt_iff_toInt_lt, mg_tl hx, mg_tl hy]
  have h2 := mg_eql hx hy
  unfold lg_cmp mg_cm
  by_cases a : y < x
  · rw [if_pos (h1.mpr a), if_neg (by omega), if_neg (by omega)]
    rfl
  · rw [if_neg (fun h => a (h1.mp h))]
    by_cases e : x = y
    · rw [if_pos (h2.mpr e), if_neg (by omega), if_pos e]
      rfl
    · rw [if_neg (fun h => e (h2.mp h)), if_pos (by omega)]
      rfl
theorem mg_lcmp (hr : mg_at j pc = some (1, .lcmp)) (hn : pc + 1 = pn) (hx : -9223372036854775808 ≤ x ∧ x < 9223372036854775808) (hy : -9223372036854775808 ≤ y ∧ y < 9223372036854775808) (k : mg_w E d j (pn, L, (0, mg_cm x y) :: S) μ Qm) : mg_w E d j (pc, L, (1, y) :: (1, x) :: S) μ Qm := by
  subst hn
  have e : mv_step E mt_cl mt_ty mt_as .lcmp (pc + 1) (mg_eL L) (mg_eS ((1, y) :: (1, x) :: S)) (mm_h E μ) = some ((pc + 1, mg_eL L, Value.int (lg_cmp (Int64.ofInt x) (Int64.ofInt y)) :: mg_eS S), mm_h E μ) := rfl
  exact mg_step (f' := (pc + 1, L, (0, mg_cm x y) :: S)) hr rfl (by rw [e, mg_cm_ok hx hy]; rfl) k
theorem sw_lcmp (hr : mg_at j pc = some (1, .lcmp)) (hn : pc + 1 = pn) (hx : -9223372036854775808 ≤ x ∧ x < 9223372036854775808) (hy : -9223372036854775808 ≤ y ∧ y < 9223372036854775808) (k : sw_w E d j (pn, L, (0, mg_cm x y) :: S) s ν Q) : sw_w E d j (pc, L, (1, y) :: (1, x) :: S) s ν Q := fun A μ hR hk => mg_lcmp (L := nm_l A L) (S := nm_s A S) hr hn hx hy (k A μ hR (nm_kf_cons (pc := 0) (nm_kv0 (by decide)) (nm_kf2 hk)))
theorem mg_cm_b : -1 ≤ mg_cm x y ∧ mg_cm x y ≤ 1 := by
  unfold mg_cm
  split
  · omega
  · split <;> omega
theorem mg_cm_0 : mg_cm x y = 0 ↔ x = y := by
  unfold mg_cm
  split
  · omega
  · split <;> omega
/-- compared, and gone on where they differ -/
theorem sw_lcn {t : Int} (hr : mg_at j pc = some (1, .lcmp)) (hr2 : mg_at j (pc + 1) = some (3, .ifCond .ne t)) (ht : t.toNat = pt) (hn : pc + 1 + 3 = pn) (hx : -9223372036854775808 ≤ x ∧ x < 9223372036854775808) (hy : -9223372036854775808 ≤ y ∧ y < 9223372036854775808) (k1 : x ≠ y → sw_w E d j (pt, L, S) s ν Q) (k2 : x = y → sw_w E d j (pn, L, S) s ν Q) : sw_w E d j (pc, L, (1, y) :: (1, x) :: S) s ν Q :=
  sw_lcmp hr rfl hx hy (sw_ne1 hr2 ht hn (by have := mg_cm_b (x := x) (y := y); omega) (fun h => k1 (fun e => h (mg_cm_0.mpr e))) (fun h => k2 (mg_cm_0.mp h)))
theorem sw_lcq {t : Int} (hr : mg_at j pc = some (1, .lcmp)) (hr2 : mg_at j (pc + 1) = some (3, .ifCond .eq t)) (ht : t.toNat = pt) (hn : pc + 1 + 3 = pn) (hx : -9223372036854775808 ≤ x ∧ x < 9223372036854775808) (hy : -9223372036854775808 ≤ y ∧ y < 9223372036854775808) (k1 : x = y → sw_w E d j (pt, L, S) s ν Q) (k2 : x ≠ y → sw_w E d j (pn, L, S) s ν Q) : sw_w E d j (pc, L, (1, y) :: (1, x) :: S) s ν Q :=
  sw_lcmp hr rfl hx hy (sw_eq1 hr2 ht hn (by have := mg_cm_b (x := x) (y := y); omega) (fun h => k1 (mg_cm_0.mp h)) (fun h => k2 (fun e => h (mg_cm_0.mpr e))))
end LCM
/-! sums -/
def sm_s (g : Int → Int) : Nat → Int
  | 0 => 0
  | n + 1 => sm_s g n + g n
theorem sm_su {g : Int → Int} {i : Int} (h : 0 ≤ i) : sm_s g (i + 1).toNat = sm_s g i.toNat + g i := by
  rw [show (i + 1).toNat = i.toNat + 1 by omega, sm_s, show ((i.toNat : Nat) : Int) = i by omega]
theorem sm_b {g : Int → Int} {M : Int} (h : ∀ i, 0 ≤ i → 0 ≤ g i ∧ g i ≤ M) : ∀ n : Nat, 0 ≤ sm_s g n ∧ sm_s g n ≤ M * n
  | 0 => by simp [sm_s]
  | n + 1 => by
    have h1 := sm_b h n
    have h2 := h n (by omega)
    rw [sm_s]
    refine ⟨by omega, ?_⟩
    have e : M * ((n + 1 : Nat) : Int) = M * (n : Int) + M := by rw [Int.natCast_succ, Int.mul_add, Int.mul_one]
    omega
theorem sm_c {g g' : Int → Int} : ∀ n : Nat, (∀ i : Int, 0 ≤ i → i < n → g i = g' i) → sm_s g n = sm_s g' n
  | 0, _ => rfl
  | n + 1, h => by rw [sm_s, sm_s, sm_c n (fun i h1 h2 => h i h1 (by omega)), h n (by omega) (by omega)]
