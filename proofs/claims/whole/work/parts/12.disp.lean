section MVD
variable {p : Program} {l : Launch} {e : Env} {R : Room} {s : State} {m : MethodId} {args : Array Value} {below : List Frame} {meth : Method} {c : Code} {H : Heap} {locs : List Loc} {cells slots : Nat} {Q : State → Prop}
variable {cc : ByteArray} {pc : Nat} {ls : Array Slot} {n : Nat} {L : mv_L} {S : List Value}
def mv_lok (i : Instr) (len : Nat) : Bool := match i with
  | .tableswitch _ _ _ _ => true
  | i => len == mv_ln i
theorem mv_ld_of {i nx : Nat} {ok : Value → Bool} {f : mv_F} (h : mv_ld L i nx S ok = some f) : ∃ v, L[i]? = some (some v) ∧ ok v = true ∧ f = (nx, L, v :: S) := by
  unfold mv_ld at h
  split at h
  · next v hv =>
    split at h
    · next hk => cases h; exact ⟨v, mv_get_at hv, hk, rfl⟩
    · cases h
  · cases h
theorem mv_st_of {i nx : Nat} {ok : Value → Bool} {f : mv_F} (h : mv_st L i nx S ok = some f) : ∃ v r L', S = v :: r ∧ ok v = true ∧ mv_set1 L i v = some L' ∧ f = (nx, L', r) := by
  unfold mv_st at h
  split at h
  · next v r =>
    split at h
    · next hk =>
      split at h
      · next L' hL => cases h; exact ⟨v, r, L', rfl, hk, hL, rfl⟩
      · cases h
    · cases h
  · cases h
theorem mv_stL_of {i nx : Nat} {f : mv_F} (h : mv_stL L i nx S = some f) : ∃ x r L', S = .long x :: r ∧ mv_set2 L i (.long x) = some L' ∧ f = (nx, L', r) := by
  unfold mv_stL at h
  split at h
  · next x r =>
    split at h
    · next L' hL => cases h; exact ⟨x, r, L', rfl, hL, rfl⟩
    · cases h
  · cases h
theorem mv_i2_of {nx : Nat} {g : Int32 → Int32 → Int32} {f : mv_F} (h : mv_nx nx L (mv_i2 S g) = some f) : ∃ x y r, S = .int y :: .int x :: r ∧ f = (nx, L, .int (g x y) :: r) := by
  unfold mv_i2 at h
  split at h
  · next y x r => cases h; exact ⟨x, y, r, rfl, rfl⟩
  · cases h
theorem mv_isI_of {v : Value} (h : mv_isI v = true) : ∃ x, v = .int x := by
  cases v with
  | int x => exact ⟨x, rfl⟩
  | _ => cases h
theorem mv_isL_of {v : Value} (h : mv_isL v = true) : ∃ x, v = .long x := by
  cases v with
  | long x => exact ⟨x, rfl⟩
  | _ => cases h
theorem mv_go_t {q : Bool} {t : Int} {nx : Nat} {L : mv_L} {S : List Value} (h : q = true) : mv_go q t nx L S = (t.toNat, L, S) := if_pos h
theorem mv_go_f {q : Bool} {t : Int} {nx : Nat} {L : mv_L} {S : List Value} (h : q = false) : mv_go q t nx L S = (nx, L, S) := if_neg (by rw [h]; decide)
theorem mv_tn {t : Int} (h : decide (0 ≤ t) = true) : t = (t.toNat : Int) := (Int.toNat_of_nonneg (of_decide_eq_true h)).symm

theorem mw_if_eq (hx : p.tables.exec = Jvm.exec) (hb : c.code = cc) {x : Int32} {off : Int} (hd : decode cc pc = .ok (.ifCond .eq off, 3)) (hn : decide (0 ≤ (pc : Int) + off) = true)
    (k : W p l e R s m args below meth c H locs cells slots Q (F0 m (mv_go (mv_c1 .eq x) ((pc : Int) + off) (pc + 3) L S).1 ls (mv_go (mv_c1 .eq x) ((pc : Int) + off) (pc + 3) L S).2.2)) : W p l e R s m args below meth c H locs cells slots Q (F0 m pc ls (.int x :: S)) := by
  refine lv_if_eq hx hb hd (mv_tn hn) (fun h => ?_) (fun h => ?_)
  · rw [mv_go_t (show mv_c1 .eq x = true from decide_eq_true h)] at k; exact k
  · rw [mv_go_f (show mv_c1 .eq x = false from decide_eq_false h)] at k; exact k
theorem mw_ic_eq (hx : p.tables.exec = Jvm.exec) (hb : c.code = cc) {x y : Int32} {off : Int} (hd : decode cc pc = .ok (.if_icmp .eq off, 3)) (hn : decide (0 ≤ (pc : Int) + off) = true)
    (k : W p l e R s m args below meth c H locs cells slots Q (F0 m (mv_go (mv_c2 .eq x y) ((pc : Int) + off) (pc + 3) L S).1 ls (mv_go (mv_c2 .eq x y) ((pc : Int) + off) (pc + 3) L S).2.2)) : W p l e R s m args below meth c H locs cells slots Q (F0 m pc ls (.int y :: .int x :: S)) := by
  refine lv_icmp_eq hx hb hd (mv_tn hn) (fun h => ?_) (fun h => ?_)
  · rw [mv_go_t (show mv_c2 .eq x y = true from decide_eq_true h)] at k; exact k
  · rw [mv_go_f (show mv_c2 .eq x y = false from decide_eq_false h)] at k; exact k
theorem mw_if_ne (hx : p.tables.exec = Jvm.exec) (hb : c.code = cc) {x : Int32} {off : Int} (hd : decode cc pc = .ok (.ifCond .ne off, 3)) (hn : decide (0 ≤ (pc : Int) + off) = true)
    (k : W p l e R s m args below meth c H locs cells slots Q (F0 m (mv_go (mv_c1 .ne x) ((pc : Int) + off) (pc + 3) L S).1 ls (mv_go (mv_c1 .ne x) ((pc : Int) + off) (pc + 3) L S).2.2)) : W p l e R s m args below meth c H locs cells slots Q (F0 m pc ls (.int x :: S)) := by
  refine lv_if_ne hx hb hd (mv_tn hn) (fun h => ?_) (fun h => ?_)
  · rw [mv_go_t (show mv_c1 .ne x = true from decide_eq_true h)] at k; exact k
  · rw [mv_go_f (show mv_c1 .ne x = false from decide_eq_false (fun q => q h))] at k; exact k
theorem mw_ic_ne (hx : p.tables.exec = Jvm.exec) (hb : c.code = cc) {x y : Int32} {off : Int} (hd : decode cc pc = .ok (.if_icmp .ne off, 3)) (hn : decide (0 ≤ (pc : Int) + off) = true)
    (k : W p l e R s m args below meth c H locs cells slots Q (F0 m (mv_go (mv_c2 .ne x y) ((pc : Int) + off) (pc + 3) L S).1 ls (mv_go (mv_c2 .ne x y) ((pc : Int) + off) (pc + 3) L S).2.2)) : W p l e R s m args below meth c H locs cells slots Q (F0 m pc ls (.int y :: .int x :: S)) := by
  refine lv_icmp_ne hx hb hd (mv_tn hn) (fun h => ?_) (fun h => ?_)
  · rw [mv_go_t (show mv_c2 .ne x y = true from decide_eq_true h)] at k; exact k
  · rw [mv_go_f (show mv_c2 .ne x y = false from decide_eq_false (fun q => q h))] at k; exact k
theorem mw_if_lt (hx : p.tables.exec = Jvm.exec) (hb : c.code = cc) {x : Int32} {off : Int} (hd : decode cc pc = .ok (.ifCond .lt off, 3)) (hn : decide (0 ≤ (pc : Int) + off) = true)
    (k : W p l e R s m args below meth c H locs cells slots Q (F0 m (mv_go (mv_c1 .lt x) ((pc : Int) + off) (pc + 3) L S).1 ls (mv_go (mv_c1 .lt x) ((pc : Int) + off) (pc + 3) L S).2.2)) : W p l e R s m args below meth c H locs cells slots Q (F0 m pc ls (.int x :: S)) := by
  refine lv_if_lt hx hb hd (mv_tn hn) (fun h => ?_) (fun h => ?_)
  · rw [mv_go_t (show mv_c1 .lt x = true from decide_eq_true h)] at k; exact k
  · rw [mv_go_f (show mv_c1 .lt x = false from decide_eq_false h)] at k; exact k
theorem mw_ic_lt (hx : p.tables.exec = Jvm.exec) (hb : c.code = cc) {x y : Int32} {off : Int} (hd : decode cc pc = .ok (.if_icmp .lt off, 3)) (hn : decide (0 ≤ (pc : Int) + off) = true)
    (k : W p l e R s m args below meth c H locs cells slots Q (F0 m (mv_go (mv_c2 .lt x y) ((pc : Int) + off) (pc + 3) L S).1 ls (mv_go (mv_c2 .lt x y) ((pc : Int) + off) (pc + 3) L S).2.2)) : W p l e R s m args below meth c H locs cells slots Q (F0 m pc ls (.int y :: .int x :: S)) := by
  refine lv_icmp_lt hx hb hd (mv_tn hn) (fun h => ?_) (fun h => ?_)
  · rw [mv_go_t (show mv_c2 .lt x y = true from decide_eq_true h)] at k; exact k
  · rw [mv_go_f (show mv_c2 .lt x y = false from decide_eq_false h)] at k; exact k
theorem mw_if_ge (hx : p.tables.exec = Jvm.exec) (hb : c.code = cc) {x : Int32} {off : Int} (hd : decode cc pc = .ok (.ifCond .ge off, 3)) (hn : decide (0 ≤ (pc : Int) + off) = true)
    (k : W p l e R s m args below meth c H locs cells slots Q (F0 m (mv_go (mv_c1 .ge x) ((pc : Int) + off) (pc + 3) L S).1 ls (mv_go (mv_c1 .ge x) ((pc : Int) + off) (pc + 3) L S).2.2)) : W p l e R s m args below meth c H locs cells slots Q (F0 m pc ls (.int x :: S)) := by
  refine lv_if_ge hx hb hd (mv_tn hn) (fun h => ?_) (fun h => ?_)
  · rw [mv_go_t (show mv_c1 .ge x = true from decide_eq_true h)] at k; exact k
  · rw [mv_go_f (show mv_c1 .ge x = false from decide_eq_false h)] at k; exact k
theorem mw_ic_ge (hx : p.tables.exec = Jvm.exec) (hb : c.code = cc) {x y : Int32} {off : Int} (hd : decode cc pc = .ok (.if_icmp .ge off, 3)) (hn : decide (0 ≤ (pc : Int) + off) = true)
    (k : W p l e R s m args below meth c H locs cells slots Q (F0 m (mv_go (mv_c2 .ge x y) ((pc : Int) + off) (pc + 3) L S).1 ls (mv_go (mv_c2 .ge x y) ((pc : Int) + off) (pc + 3) L S).2.2)) : W p l e R s m args below meth c H locs cells slots Q (F0 m pc ls (.int y :: .int x :: S)) := by
  refine lv_icmp_ge hx hb hd (mv_tn hn) (fun h => ?_) (fun h => ?_)
  · rw [mv_go_t (show mv_c2 .ge x y = true from decide_eq_true h)] at k; exact k
  · rw [mv_go_f (show mv_c2 .ge x y = false from decide_eq_false h)] at k; exact k
theorem mw_if_gt (hx : p.tables.exec = Jvm.exec) (hb : c.code = cc) {x : Int32} {off : Int} (hd : decode cc pc = .ok (.ifCond .gt off, 3)) (hn : decide (0 ≤ (pc : Int) + off) = true)
    (k : W p l e R s m args below meth c H locs cells slots Q (F0 m (mv_go (mv_c1 .gt x) ((pc : Int) + off) (pc + 3) L S).1 ls (mv_go (mv_c1 .gt x) ((pc : Int) + off) (pc + 3) L S).2.2)) : W p l e R s m args below meth c H locs cells slots Q (F0 m pc ls (.int x :: S)) := by
  refine lv_if_gt hx hb hd (mv_tn hn) (fun h => ?_) (fun h => ?_)
  · rw [mv_go_t (show mv_c1 .gt x = true from decide_eq_true h)] at k; exact k
  · rw [mv_go_f (show mv_c1 .gt x = false from decide_eq_false h)] at k; exact k
theorem mw_ic_gt (hx : p.tables.exec = Jvm.exec) (hb : c.code = cc) {x y : Int32} {off : Int} (hd : decode cc pc = .ok (.if_icmp .gt off, 3)) (hn : decide (0 ≤ (pc : Int) + off) = true)
    (k : W p l e R s m args below meth c H locs cells slots Q (F0 m (mv_go (mv_c2 .gt x y) ((pc : Int) + off) (pc + 3) L S).1 ls (mv_go (mv_c2 .gt x y) ((pc : Int) + off) (pc + 3) L S).2.2)) : W p l e R s m args below meth c H locs cells slots Q (F0 m pc ls (.int y :: .int x :: S)) := by
  refine lv_icmp_gt hx hb hd (mv_tn hn) (fun h => ?_) (fun h => ?_)
  · rw [mv_go_t (show mv_c2 .gt x y = true from decide_eq_true h)] at k; exact k
  · rw [mv_go_f (show mv_c2 .gt x y = false from decide_eq_false h)] at k; exact k
theorem mw_if_le (hx : p.tables.exec = Jvm.exec) (hb : c.code = cc) {x : Int32} {off : Int} (hd : decode cc pc = .ok (.ifCond .le off, 3)) (hn : decide (0 ≤ (pc : Int) + off) = true)
    (k : W p l e R s m args below meth c H locs cells slots Q (F0 m (mv_go (mv_c1 .le x) ((pc : Int) + off) (pc + 3) L S).1 ls (mv_go (mv_c1 .le x) ((pc : Int) + off) (pc + 3) L S).2.2)) : W p l e R s m args below meth c H locs cells slots Q (F0 m pc ls (.int x :: S)) := by
  refine lv_if_le hx hb hd (mv_tn hn) (fun h => ?_) (fun h => ?_)
  · rw [mv_go_t (show mv_c1 .le x = true from decide_eq_true h)] at k; exact k
  · rw [mv_go_f (show mv_c1 .le x = false from decide_eq_false h)] at k; exact k
theorem mw_ic_le (hx : p.tables.exec = Jvm.exec) (hb : c.code = cc) {x y : Int32} {off : Int} (hd : decode cc pc = .ok (.if_icmp .le off, 3)) (hn : decide (0 ≤ (pc : Int) + off) = true)
    (k : W p l e R s m args below meth c H locs cells slots Q (F0 m (mv_go (mv_c2 .le x y) ((pc : Int) + off) (pc + 3) L S).1 ls (mv_go (mv_c2 .le x y) ((pc : Int) + off) (pc + 3) L S).2.2)) : W p l e R s m args below meth c H locs cells slots Q (F0 m pc ls (.int y :: .int x :: S)) := by
  refine lv_icmp_le hx hb hd (mv_tn hn) (fun h => ?_) (fun h => ?_)
  · rw [mv_go_t (show mv_c2 .le x y = true from decide_eq_true h)] at k; exact k
  · rw [mv_go_f (show mv_c2 .le x y = false from decide_eq_false h)] at k; exact k
theorem mv_go_L {q : Bool} {t : Int} {nx : Nat} {L : mv_L} {S : List Value} : (mv_go q t nx L S).2.1 = L := by
  unfold mv_go; split <;> rfl
theorem mv_same_rf {v w : Value} {q : Bool} (h : mv_same v w = some q) : ∃ rx ry, v = va_rf rx ∧ w = va_rf ry ∧ (q = true ↔ rx = ry) := by
  cases v with
  | null =>
    cases w with
    | null => cases h; exact ⟨none, none, rfl, rfl, by simp⟩
    | ref b => cases h; exact ⟨none, some b, rfl, rfl, by simp⟩
    | _ => cases h
  | ref a =>
    cases w with
    | null => cases h; exact ⟨some a, none, rfl, rfl, by simp⟩
    | ref b => cases h; exact ⟨some a, some b, rfl, rfl, by simp⟩
    | _ => cases h
  | _ => cases w <;> cases h
theorem mw_ac_eq (hx : p.tables.exec = Jvm.exec) (hb : c.code = cc) {v w : Value} {q : Bool} {off : Int} (hd : decode cc pc = .ok (.if_acmp .eq off, 3)) (hn : decide (0 ≤ (pc : Int) + off) = true) (hq : mv_same v w = some q)
    (k : W p l e R s m args below meth c H locs cells slots Q (F0 m (mv_go q ((pc : Int) + off) (pc + 3) L S).1 ls (mv_go q ((pc : Int) + off) (pc + 3) L S).2.2)) : W p l e R s m args below meth c H locs cells slots Q (F0 m pc ls (w :: v :: S)) := by
  obtain ⟨rx, ry, rfl, rfl, hi⟩ := mv_same_rf hq
  refine lv_acmp_eq hx hb hd (mv_tn hn) (fun h => ?_) (fun h => ?_)
  · rw [mv_go_t (hi.mpr h)] at k; exact k
  · rw [mv_go_f (by cases q with | false => rfl | true => exact absurd (hi.mp rfl) h)] at k; exact k
theorem mw_ac_ne (hx : p.tables.exec = Jvm.exec) (hb : c.code = cc) {v w : Value} {q : Bool} {off : Int} (hd : decode cc pc = .ok (.if_acmp .ne off, 3)) (hn : decide (0 ≤ (pc : Int) + off) = true) (hq : mv_same v w = some q)
    (k : W p l e R s m args below meth c H locs cells slots Q (F0 m (mv_go (!q) ((pc : Int) + off) (pc + 3) L S).1 ls (mv_go (!q) ((pc : Int) + off) (pc + 3) L S).2.2)) : W p l e R s m args below meth c H locs cells slots Q (F0 m pc ls (w :: v :: S)) := by
  obtain ⟨rx, ry, rfl, rfl, hi⟩ := mv_same_rf hq
  refine lv_acmp_ne hx hb hd (mv_tn hn) (fun h => ?_) (fun h => ?_)
  · rw [mv_go_t (by cases q with | false => rfl | true => exact absurd (hi.mp rfl) h)] at k; exact k
  · rw [mv_go_f (by rw [hi.mpr h]; rfl)] at k; exact k
theorem mw_table (hx : p.tables.exec = Jvm.exec) (hb : c.code = cc) {d lo hi : Int} {os : Array Int} {len : Nat} {x : Int32} (hd : decode cc pc = .ok (.tableswitch d lo hi os, len)) (hn : mv_nn (mv_abs pc (.tableswitch d lo hi os)) = true)
    (k : W p l e R s m args below meth c H locs cells slots Q (F0 m (mv_sw x.toInt ((pc : Int) + d) lo hi (os.map fun o => (pc : Int) + o).toList).toNat ls S)) : W p l e R s m args below meth c H locs cells slots Q (F0 m pc ls (.int x :: S)) := by
  simp only [mv_abs, mv_nn, Bool.and_eq_true, Array.toList_map, List.all_eq_true, List.mem_map, forall_exists_index, and_imp, Array.size_map, decide_eq_true_eq] at hn
  obtain ⟨⟨⟨h0, h1⟩, h2⟩, h3⟩ := hn
  by_cases hc : x.toInt < lo ∨ hi < x.toInt
  · refine lv_tableOut hx hb hd hc (mv_tn (decide_eq_true h0)) ?_
    rw [mv_sw, if_pos hc] at k
    exact k
  · have c1 : ¬ x.toInt < lo := fun q => hc (Or.inl q)
    have c2 : ¬ hi < x.toInt := fun q => hc (Or.inr q)
    have hlt : (x.toInt - lo).toNat < os.size := by omega
    have ho : os[(x.toInt - lo).toNat]? = some os[(x.toInt - lo).toNat] := Array.getElem?_eq_getElem hlt
    have hpos : (0 : Int) ≤ (pc : Int) + os[(x.toInt - lo).toNat] := h1 _ _ (Array.getElem_mem_toList hlt) rfl
    refine lv_tableIn hx hb hd c1 c2 ho (mv_tn (decide_eq_true hpos)) ?_
    rw [mv_sw, if_neg hc] at k
    have e9 : (os.map fun o => (pc : Int) + o).toList.getD (x.toInt - lo).toNat ((pc : Int) + d) = (pc : Int) + os[(x.toInt - lo).toNat] := by
      rw [List.getD_eq_getElem?_getD, Array.toList_map, List.getElem?_map, Array.getElem?_toList, ho]
      rfl
    rw [e9] at k
    exact k
set_option maxHeartbeats 4000000 in
theorem mv_pure_w (hx : p.tables.exec = Jvm.exec) (hb : c.code = cc) {real : Instr} {len : Nat} (hd : decode cc pc = .ok (real, len)) (hlen : mv_lok real len = true) (hnn : mv_nn (mv_abs pc real) = true) {f : mv_F} (hp : mv_pure (mv_abs pc real) (pc + len) L S = some f) (hl : mv_lrel ls n L)
    (k : ∀ ls' : Array Slot, mv_lrel ls' n f.2.1 → W p l e R s m args below meth c H locs cells slots Q (F0 m f.1 ls' f.2.2)) : W p l e R s m args below meth c H locs cells slots Q (F0 m pc ls S) := by
  cases real with
  | aconst_null =>
    obtain rfl : len = 1 := by simpa [mv_lok, mv_ln] using hlen
    cases hp
    exact lv_null hx hb hd (k ls hl)
  | iconst v =>
    obtain rfl : len = 1 := by simpa [mv_lok, mv_ln] using hlen
    cases hp
    exact lv_iconst hx hb hd rfl (k ls hl)
  | bipush v =>
    obtain rfl : len = 2 := by simpa [mv_lok, mv_ln] using hlen
    cases hp
    exact lv_bipush hx hb hd rfl (k ls hl)
  | sipush v =>
    obtain rfl : len = 3 := by simpa [mv_lok, mv_ln] using hlen
    cases hp
    exact lv_sipush hx hb hd rfl (k ls hl)
  | lconst v =>
    obtain rfl : len = 1 := by simpa [mv_lok, mv_ln] using hlen
    cases hp
    exact lv_lconst hx hb hd rfl (k ls hl)
  | aload i =>
    obtain rfl : len = 2 := by simpa [mv_lok, mv_ln] using hlen
    obtain ⟨v, h1, h2, rfl⟩ := mv_ld_of hp
    exact mw_aload hx hb hd (hl.2.2.2 _ _ h1) (mv_ref_cat h2).2.1 (k ls hl)
  | aload_n i =>
    obtain rfl : len = 1 := by simpa [mv_lok, mv_ln] using hlen
    obtain ⟨v, h1, h2, rfl⟩ := mv_ld_of hp
    exact mw_aload_n hx hb hd (hl.2.2.2 _ _ h1) (mv_ref_cat h2).2.1 (k ls hl)
  | iload i =>
    obtain rfl : len = 2 := by simpa [mv_lok, mv_ln] using hlen
    obtain ⟨v, h1, h2, rfl⟩ := mv_ld_of hp
    obtain ⟨x, rfl⟩ := mv_isI_of h2
    exact lv_iload hx hb hd (hl.2.2.2 _ _ h1) (k ls hl)
  | iload_n i =>
    obtain rfl : len = 1 := by simpa [mv_lok, mv_ln] using hlen
    obtain ⟨v, h1, h2, rfl⟩ := mv_ld_of hp
    obtain ⟨x, rfl⟩ := mv_isI_of h2
    exact lv_iload_n hx hb hd rfl (hl.2.2.2 _ _ h1) (k ls hl)
  | lload i =>
    obtain rfl : len = 2 := by simpa [mv_lok, mv_ln] using hlen
    obtain ⟨v, h1, h2, rfl⟩ := mv_ld_of hp
    obtain ⟨x, rfl⟩ := mv_isL_of h2
    exact lv_lload hx hb hd (hl.2.2.2 _ _ h1) (k ls hl)
  | lload_n i =>
    obtain rfl : len = 1 := by simpa [mv_lok, mv_ln] using hlen
    obtain ⟨v, h1, h2, rfl⟩ := mv_ld_of hp
    obtain ⟨x, rfl⟩ := mv_isL_of h2
    exact lv_lload_n hx hb hd rfl (hl.2.2.2 _ _ h1) (k ls hl)
  | astore i =>
    obtain rfl : len = 2 := by simpa [mv_lok, mv_ln] using hlen
    obtain ⟨v, r, L2, rfl, h2, h3, rfl⟩ := mv_st_of hp
    obtain ⟨h4, -, r9, rfl⟩ := mv_ref_cat h2
    obtain ⟨ls2, e2, h5⟩ := mv_store1 hl h4 h3
    exact mw_astore hx hb hd e2 (k ls2 h5)
  | astore_n i =>
    obtain rfl : len = 1 := by simpa [mv_lok, mv_ln] using hlen
    obtain ⟨v, r, L2, rfl, h2, h3, rfl⟩ := mv_st_of hp
    obtain ⟨h4, -, r9, rfl⟩ := mv_ref_cat h2
    obtain ⟨ls2, e2, h5⟩ := mv_store1 hl h4 h3
    exact mw_astore_n hx hb hd e2 (k ls2 h5)
  | istore i =>
    obtain rfl : len = 2 := by simpa [mv_lok, mv_ln] using hlen
    obtain ⟨v, r, L2, rfl, h2, h3, rfl⟩ := mv_st_of hp
    obtain ⟨x, rfl⟩ := mv_isI_of h2
    obtain ⟨ls2, e2, h5⟩ := mv_store1 hl rfl h3
    exact mw_istore hx hb hd e2 (k ls2 h5)
  | istore_n i =>
    obtain rfl : len = 1 := by simpa [mv_lok, mv_ln] using hlen
    obtain ⟨v, r, L2, rfl, h2, h3, rfl⟩ := mv_st_of hp
    obtain ⟨x, rfl⟩ := mv_isI_of h2
    obtain ⟨ls2, e2, h5⟩ := mv_store1 hl rfl h3
    exact mw_istore_n hx hb hd e2 (k ls2 h5)
  | lstore i =>
    obtain rfl : len = 2 := by simpa [mv_lok, mv_ln] using hlen
    obtain ⟨x, r, L2, rfl, h3, rfl⟩ := mv_stL_of hp
    obtain ⟨ls2, e2, h5⟩ := mv_store2 hl rfl h3
    exact mw_lstore hx hb hd e2 (k ls2 h5)
  | lstore_n i =>
    obtain rfl : len = 1 := by simpa [mv_lok, mv_ln] using hlen
    obtain ⟨x, r, L2, rfl, h3, rfl⟩ := mv_stL_of hp
    obtain ⟨ls2, e2, h5⟩ := mv_store2 hl rfl h3
    exact mw_lstore_n hx hb hd e2 (k ls2 h5)
  | iinc i v =>
    obtain rfl : len = 3 := by simpa [mv_lok, mv_ln] using hlen
    simp only [mv_abs, mv_pure] at hp
    split at hp
    · next x hx1 =>
      split at hp
      · next L2 h3 =>
        cases hp
        obtain ⟨ls2, e2, h5⟩ := mv_store1 hl rfl h3
        exact mw_iinc hx hb hd (hl.2.2.2 _ _ (mv_get_at hx1)) e2 (k ls2 h5)
      · cases hp
    · cases hp
  | dup =>
    obtain rfl : len = 1 := by simpa [mv_lok, mv_ln] using hlen
    simp only [mv_abs, mv_pure] at hp
    split at hp
    · next v r =>
      split at hp
      · next h1 => cases hp; exact lv_dup hx hb hd h1 (k ls hl)
      · cases hp
    · cases hp
  | pop =>
    obtain rfl : len = 1 := by simpa [mv_lok, mv_ln] using hlen
    simp only [mv_abs, mv_pure] at hp
    split at hp
    · next v r =>
      split at hp
      · next h1 => cases hp; exact lv_pop hx hb hd h1 (k ls hl)
      · cases hp
    · cases hp
  | dup_x1 =>
    obtain rfl : len = 1 := by simpa [mv_lok, mv_ln] using hlen
    simp only [mv_abs, mv_pure] at hp
    split at hp
    · next v w r =>
      split at hp
      · next h1 => cases hp; exact lv_dup_x1 hx hb hd h1.1 h1.2 (k ls hl)
      · cases hp
    · cases hp
  | dup_x2 =>
    obtain rfl : len = 1 := by simpa [mv_lok, mv_ln] using hlen
    simp only [mv_abs, mv_pure] at hp
    split at hp
    · next v w u r =>
      split at hp
      · next h1 => cases hp; exact lv_dup_x2 hx hb hd h1.1 h1.2.1 h1.2.2 (k ls hl)
      · cases hp
    · cases hp
  | dup2 =>
    obtain rfl : len = 1 := by simpa [mv_lok, mv_ln] using hlen
    simp only [mv_abs, mv_pure] at hp
    split at hp
    · next v w r =>
      split at hp
      · next h1 => cases hp; exact lv_dup2_11 hx hb hd h1.1 h1.2 (k ls hl)
      · cases hp
    · cases hp
  | iadd =>
    obtain rfl : len = 1 := by simpa [mv_lok, mv_ln] using hlen
    obtain ⟨x, y, r, rfl, rfl⟩ := mv_i2_of hp
    exact lv_iadd hx hb hd (k ls hl)
  | isub =>
    obtain rfl : len = 1 := by simpa [mv_lok, mv_ln] using hlen
    obtain ⟨x, y, r, rfl, rfl⟩ := mv_i2_of hp
    exact lv_isub hx hb hd (k ls hl)
  | imul =>
    obtain rfl : len = 1 := by simpa [mv_lok, mv_ln] using hlen
    obtain ⟨x, y, r, rfl, rfl⟩ := mv_i2_of hp
    exact lv_imul hx hb hd (k ls hl)
  | iand =>
    obtain rfl : len = 1 := by simpa [mv_lok, mv_ln] using hlen
    obtain ⟨x, y, r, rfl, rfl⟩ := mv_i2_of hp
    exact lv_iand hx hb hd (k ls hl)
  | ior =>
    obtain rfl : len = 1 := by simpa [mv_lok, mv_ln] using hlen
    obtain ⟨x, y, r, rfl, rfl⟩ := mv_i2_of hp
    exact lv_ior hx hb hd (k ls hl)
  | ishl =>
    obtain rfl : len = 1 := by simpa [mv_lok, mv_ln] using hlen
    obtain ⟨x, y, r, rfl, rfl⟩ := mv_i2_of hp
    exact lv_ishl hx hb hd (k ls hl)
  | ishr =>
    obtain rfl : len = 1 := by simpa [mv_lok, mv_ln] using hlen
    obtain ⟨x, y, r, rfl, rfl⟩ := mv_i2_of hp
    exact lv_ishr hx hb hd (k ls hl)
  | idiv =>
    obtain rfl : len = 1 := by simpa [mv_lok, mv_ln] using hlen
    simp only [mv_abs, mv_pure] at hp
    split at hp
    · next y x r =>
      split at hp
      · cases hp
      · next h1 => cases hp; exact lv_idiv hx hb hd h1 (k ls hl)
    · cases hp
  | irem =>
    obtain rfl : len = 1 := by simpa [mv_lok, mv_ln] using hlen
    simp only [mv_abs, mv_pure] at hp
    split at hp
    · next y x r =>
      split at hp
      · cases hp
      · next h1 => cases hp; exact lv_irem hx hb hd h1 (k ls hl)
    · cases hp
  | ineg =>
    obtain rfl : len = 1 := by simpa [mv_lok, mv_ln] using hlen
    simp only [mv_abs, mv_pure] at hp
    split at hp
    · next x r => cases hp; exact lv_ineg hx hb hd (k ls hl)
    · cases hp
  | i2l =>
    obtain rfl : len = 1 := by simpa [mv_lok, mv_ln] using hlen
    simp only [mv_abs, mv_pure] at hp
    split at hp
    · next x r => cases hp; exact lv_i2l hx hb hd rfl (k ls hl)
    · cases hp
  | lcmp =>
    obtain rfl : len = 1 := by simpa [mv_lok, mv_ln] using hlen
    simp only [mv_abs, mv_pure] at hp
    split at hp
    · next y x r => cases hp; exact W.lcmp hx hb hd (k ls hl)
    · cases hp
  | goto o =>
    obtain rfl : len = 3 := by simpa [mv_lok, mv_ln] using hlen
    cases hp
    exact lv_goto hx hb hd (mv_tn hnn) (k ls hl)
  | ifCond cnd o =>
    obtain rfl : len = 3 := by simpa [mv_lok, mv_ln] using hlen
    simp only [mv_abs, mv_pure] at hp
    split at hp
    · next x r =>
      cases hp
      have k2 := k ls (by rw [mv_go_L]; exact hl)
      cases cnd with
      | eq => exact mw_if_eq (L := L) hx hb hd hnn k2
      | ne => exact mw_if_ne (L := L) hx hb hd hnn k2
      | lt => exact mw_if_lt (L := L) hx hb hd hnn k2
      | ge => exact mw_if_ge (L := L) hx hb hd hnn k2
      | gt => exact mw_if_gt (L := L) hx hb hd hnn k2
      | le => exact mw_if_le (L := L) hx hb hd hnn k2
    · cases hp
  | if_icmp cnd o =>
    obtain rfl : len = 3 := by simpa [mv_lok, mv_ln] using hlen
    simp only [mv_abs, mv_pure] at hp
    split at hp
    · next y x r =>
      cases hp
      have k2 := k ls (by rw [mv_go_L]; exact hl)
      cases cnd with
      | eq => exact mw_ic_eq (L := L) hx hb hd hnn k2
      | ne => exact mw_ic_ne (L := L) hx hb hd hnn k2
      | lt => exact mw_ic_lt (L := L) hx hb hd hnn k2
      | ge => exact mw_ic_ge (L := L) hx hb hd hnn k2
      | gt => exact mw_ic_gt (L := L) hx hb hd hnn k2
      | le => exact mw_ic_le (L := L) hx hb hd hnn k2
    · cases hp
  | if_acmp cnd o =>
    obtain rfl : len = 3 := by simpa [mv_lok, mv_ln] using hlen
    simp only [mv_abs, mv_pure] at hp
    split at hp
    · next w v r =>
      split at hp
      · next q hq =>
        cases hp
        have k2 := k ls (by rw [mv_go_L]; exact hl)
        cases cnd with
        | eq => exact mw_ac_eq (L := L) hx hb hd hnn hq k2
        | ne => exact mw_ac_ne (L := L) hx hb hd hnn hq k2
      · cases hp
    · cases hp
  | ifnull o =>
    obtain rfl : len = 3 := by simpa [mv_lok, mv_ln] using hlen
    simp only [mv_abs, mv_pure] at hp
    split at hp
    · next r => cases hp; exact lv_ifnullN hx hb hd (mv_tn hnn) (k ls hl)
    · next a r => cases hp; exact lv_ifnull hx hb hd (k ls hl)
    · cases hp
  | ifnonnull o =>
    obtain rfl : len = 3 := by simpa [mv_lok, mv_ln] using hlen
    simp only [mv_abs, mv_pure] at hp
    split at hp
    · next a r => cases hp; exact lv_ifnonnull hx hb hd (mv_tn hnn) (k ls hl)
    · next r => cases hp; exact lv_ifnonnullN hx hb hd (k ls hl)
    · cases hp
  | tableswitch d lo hi os =>
    simp only [mv_abs, mv_pure] at hp
    split at hp
    · next x r => cases hp; exact mw_table hx hb hd hnn (k ls hl)
    · cases hp
  | _ => exact absurd hp (by simp [mv_abs, mv_pure])
end MVD
