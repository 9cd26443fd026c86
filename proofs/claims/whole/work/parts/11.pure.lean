/-! the small machine's instructions that see no heap stand for the machine's -/
def mv_lrel (ls : Array Slot) (n : Nat) (L : mv_L) : Prop := ls.size = n ∧ L.length = n ∧ lv_wf ls ∧ ∀ (i : Nat) (v : Value), L[i]? = some (some v) → ls[i]? = some (.val v)
def mv_ls (L : mv_L) : List (Nat × Value) := (List.range L.length).filterMap fun i => match L[i]? with
  | some (some v) => some (i, v)
  | _ => none
theorem mv_ls_mem {L : mv_L} {i : Nat} {v : Value} (h : L[i]? = some (some v)) : (i, v) ∈ mv_ls L := by
  have hi : i < L.length := (List.getElem?_eq_some_iff.mp h).1
  exact List.mem_filterMap.mpr ⟨i, List.mem_range.mpr hi, by simp only [h]⟩
theorem mv_ls_of {L : mv_L} {q : Nat × Value} (h : q ∈ mv_ls L) : L[q.1]? = some (some q.2) := by
  obtain ⟨i, -, hi⟩ := List.mem_filterMap.mp h
  cases hx : L[i]? with
  | none => rw [hx] at hi; cases hi
  | some o =>
    rw [hx] at hi
    cases o with
    | none => cases hi
    | some v => cases hi; exact hx
theorem mv_lrel.has {ls : Array Slot} {n : Nat} {L : mv_L} (h : mv_lrel ls n L) : lv_has ls n (mv_ls L) := ⟨h.1, h.2.2.1, fun q hq => h.2.2.2 q.1 q.2 (mv_ls_of hq)⟩
theorem mv_get_at {L : mv_L} {i : Nat} {v : Value} (h : mv_get L i = some v) : L[i]? = some (some v) := by
  unfold mv_get at h
  split at h
  next x hx => rw [hx]; cases h; rfl
  next => cases h
theorem mv_kill_len (L : mv_L) (i : Nat) : (mv_kill L i).length = L.length := by
  unfold mv_kill
  split
  · rfl
  · split <;> simp
theorem mv_kill_at {L : mv_L} {i j : Nat} {w : Value} (hj : j ≠ i) (h : (mv_kill L i)[j]? = some (some w)) : L[j]? = some (some w) ∧ ¬ (j + 1 = i ∧ w.category = 2) := by
  unfold mv_kill at h
  split at h
  · exact ⟨h, by omega⟩
  · next k =>
    split at h
    · next x hx =>
      by_cases hk : k = j
      · subst hk
        rw [List.getElem?_set_self (List.getElem?_eq_some_iff.mp hx).1] at h
        cases h
      · rw [List.getElem?_set_ne hk] at h
        exact ⟨h, by omega⟩
    · next x hx =>
      by_cases hk : k = j
      · subst hk
        rw [List.getElem?_set_self (List.getElem?_eq_some_iff.mp hx).1] at h
        cases h
      · rw [List.getElem?_set_ne hk] at h
        exact ⟨h, by omega⟩
    · next n1 n2 =>
      refine ⟨h, fun q => ?_⟩
      obtain ⟨q1, q2⟩ := q
      have hk : j = k := by omega
      subst hk
      cases w with
      | long x => exact n1 x h
      | double x => exact n2 x h
      | _ => simp [Value.category] at q2
theorem mv_store1 {ls : Array Slot} {n : Nat} {L L' : mv_L} {i : Nat} {v : Value} (h : mv_lrel ls n L) (hc : v.category = 1) (hs : mv_set1 L i v = some L') : ∃ ls', storeLocals ls i v = some ls' ∧ mv_lrel ls' n L' := by
  unfold mv_set1 at hs
  split at hs
  · next hi =>
    have hi' : i < n := by rw [← h.2.1]; exact hi
    obtain ⟨ls', e', h'⟩ := lv_store1 h.has hi' hc
    refine ⟨ls', e', h'.1, ?_, h'.2.1, fun j w hj => ?_⟩
    · cases hs
      rw [List.length_set, mv_kill_len]; exact h.2.1
    · cases hs
      by_cases hij : i = j
      · subst hij
        rw [List.getElem?_set_self (by rw [mv_kill_len]; exact hi)] at hj
        cases hj
        exact h'.2.2 (i, v) List.mem_cons_self
      · rw [List.getElem?_set_ne hij] at hj
        obtain ⟨hj1, hj2⟩ := mv_kill_at (Ne.symm hij) hj
        refine h'.2.2 (j, w) (List.mem_cons_of_mem _ (List.mem_filter.mpr ⟨mv_ls_mem hj1, ?_⟩))
        have e1 : (j == i) = false := by simpa using Ne.symm hij
        by_cases e2 : j + 1 = i
        · have e3 : ¬ w.category = 2 := fun q => hj2 ⟨e2, q⟩
          simp [e1, e3]
        · simp [e1, e2]
  · cases hs
theorem mv_store2 {ls : Array Slot} {n : Nat} {L L' : mv_L} {i : Nat} {v : Value} (h : mv_lrel ls n L) (hc : v.category = 2) (hs : mv_set2 L i v = some L') : ∃ ls', storeLocals ls i v = some ls' ∧ mv_lrel ls' n L' := by
  unfold mv_set2 at hs
  split at hs
  · next hi =>
    have hi' : i + 1 < n := by rw [← h.2.1]; exact hi
    obtain ⟨ls', e', h'⟩ := lv_store2 h.has hi' hc
    refine ⟨ls', e', h'.1, ?_, h'.2.1, fun j w hj => ?_⟩
    · cases hs
      rw [List.length_set, List.length_set, mv_kill_len]; exact h.2.1
    · cases hs
      by_cases hij2 : i + 1 = j
      · subst hij2
        rw [List.getElem?_set_self (by rw [List.length_set, mv_kill_len]; exact hi)] at hj
        cases hj
      · rw [List.getElem?_set_ne hij2] at hj
        by_cases hij : i = j
        · subst hij
          rw [List.getElem?_set_self (by rw [mv_kill_len]; omega)] at hj
          cases hj
          exact h'.2.2 (i, v) List.mem_cons_self
        · rw [List.getElem?_set_ne hij] at hj
          obtain ⟨hj1, hj2⟩ := mv_kill_at (Ne.symm hij) hj
          refine h'.2.2 (j, w) (List.mem_cons_of_mem _ (List.mem_filter.mpr ⟨mv_ls_mem hj1, ?_⟩))
          have e1 : (j == i) = false := by simpa using Ne.symm hij
          have e0 : (j == i + 1) = false := by simpa using Ne.symm hij2
          by_cases e2 : j + 1 = i
          · have e3 : ¬ w.category = 2 := fun q => hj2 ⟨e2, q⟩
            simp [e0, e1, e3]
          · simp [e0, e1, e2]
  · cases hs
theorem mv_ref_cat {v : Value} (h : mv_ref v = true) : v.category = 1 ∧ v.isRef = true ∧ ∃ r, v = va_rf r := by
  cases v with
  | null => exact ⟨rfl, rfl, none, rfl⟩
  | ref a => exact ⟨rfl, rfl, some a, rfl⟩
  | _ => cases h
/-- the instruction with its jumps' places in the code -/
def mv_abs (pc : Nat) (i : Instr) : Instr := match i with
  | .goto o => .goto ((pc : Int) + o)
  | .ifCond c o => .ifCond c ((pc : Int) + o)
  | .if_icmp c o => .if_icmp c ((pc : Int) + o)
  | .if_acmp c o => .if_acmp c ((pc : Int) + o)
  | .ifnull o => .ifnull ((pc : Int) + o)
  | .ifnonnull o => .ifnonnull ((pc : Int) + o)
  | .tableswitch d lo hi os => .tableswitch ((pc : Int) + d) lo hi (os.map fun o => (pc : Int) + o)
  | i => i
def mv_nn (i : Instr) : Bool := match i with
  | .goto t => decide (0 ≤ t)
  | .ifCond _ t => decide (0 ≤ t)
  | .if_icmp _ t => decide (0 ≤ t)
  | .if_acmp _ t => decide (0 ≤ t)
  | .ifnull t => decide (0 ≤ t)
  | .ifnonnull t => decide (0 ≤ t)
  | .tableswitch d lo hi ts => decide (0 ≤ d) && ts.toList.all (fun t => decide (0 ≤ t)) && decide (lo ≤ hi) && decide ((ts.size : Int) = hi - lo + 1)
  | _ => true
/-- an instruction's length -/
def mv_ln (i : Instr) : Nat := match i with
  | .aload _ => 2
  | .astore _ => 2
  | .iload _ => 2
  | .istore _ => 2
  | .lload _ => 2
  | .lstore _ => 2
  | .bipush _ => 2
  | .sipush _ => 3
  | .iinc _ _ => 3
  | .goto _ => 3
  | .ifCond _ _ => 3
  | .if_icmp _ _ => 3
  | .if_acmp _ _ => 3
  | .ifnull _ => 3
  | .ifnonnull _ => 3
  | .tableswitch _ _ _ _ => 0
  | _ => 1
section MVP
variable {p : Program} {l : Launch} {e : Env} {R : Room} {s : State} {m : MethodId} {args : Array Value} {below : List Frame} {meth : Method} {c : Code} {H : Heap} {locs : List Loc} {cells slots : Nat} {Q : State → Prop}
variable {cc : ByteArray} {pc : Nat} {ls : Array Slot} {rest : List Value} {n : Nat} {L L' : mv_L} {S : List Value}
theorem mw_aload_n (hexec : p.tables.exec = Jvm.exec) (hb : c.code = cc) {k : Fin 4} {v : Value} (hdg : decode cc pc = .ok (.aload_n k, 1)) (hl : ls[(k : Nat)]? = some (.val v)) (hv : v.isRef = true)
    (k : W p l e R s m args below meth c H locs cells slots Q (F0 m (pc + 1) ls (v :: rest))) : W p l e R s m args below meth c H locs cells slots Q (F0 m pc ls (rest)) := by
  intro T hT X
  obtain ⟨t, a, b⟩ := k T hT X
  refine ⟨t, ?_, b⟩
  jvm_step X.here [X.here.top, hexec, hb, hdg, hl, hv]
  exact a
theorem mw_aload (hexec : p.tables.exec = Jvm.exec) (hb : c.code = cc) {k : Nat} {v : Value} (hdg : decode cc pc = .ok (.aload k, 2)) (hl : ls[k]? = some (.val v)) (hv : v.isRef = true)
    (k : W p l e R s m args below meth c H locs cells slots Q (F0 m (pc + 2) ls (v :: rest))) : W p l e R s m args below meth c H locs cells slots Q (F0 m pc ls (rest)) := by
  intro T hT X
  obtain ⟨t, a, b⟩ := k T hT X
  refine ⟨t, ?_, b⟩
  jvm_step X.here [X.here.top, hexec, hb, hdg, hl, hv]
  exact a
theorem mw_istore_n (hexec : p.tables.exec = Jvm.exec) (hb : c.code = cc) {k : Fin 4} {x : Int32} {ls' : Array Slot} (hdg : decode cc pc = .ok (.istore_n k, 1)) (e' : storeLocals ls (k : Nat) (.int x) = some ls')
    (kk : W p l e R s m args below meth c H locs cells slots Q (F0 m (pc + 1) ls' rest)) : W p l e R s m args below meth c H locs cells slots Q (F0 m pc ls (.int x :: rest)) := by
  intro T hT X
  obtain ⟨t, a, b⟩ := kk T hT X
  refine ⟨t, ?_, b⟩
  jvm_step X.here [X.here.top, ↓top_set X.here.top, hexec, hb, hdg, e']
  exact a
theorem mw_istore (hexec : p.tables.exec = Jvm.exec) (hb : c.code = cc) {k : Nat} {x : Int32} {ls' : Array Slot} (hdg : decode cc pc = .ok (.istore k, 2)) (e' : storeLocals ls k (.int x) = some ls')
    (kk : W p l e R s m args below meth c H locs cells slots Q (F0 m (pc + 2) ls' rest)) : W p l e R s m args below meth c H locs cells slots Q (F0 m pc ls (.int x :: rest)) := by
  intro T hT X
  obtain ⟨t, a, b⟩ := kk T hT X
  refine ⟨t, ?_, b⟩
  jvm_step X.here [X.here.top, ↓top_set X.here.top, hexec, hb, hdg, e']
  exact a
theorem mw_lstore_n (hexec : p.tables.exec = Jvm.exec) (hb : c.code = cc) {k : Fin 4} {x : Int64} {ls' : Array Slot} (hdg : decode cc pc = .ok (.lstore_n k, 1)) (e' : storeLocals ls (k : Nat) (.long x) = some ls')
    (kk : W p l e R s m args below meth c H locs cells slots Q (F0 m (pc + 1) ls' rest)) : W p l e R s m args below meth c H locs cells slots Q (F0 m pc ls (.long x :: rest)) := by
  intro T hT X
  obtain ⟨t, a, b⟩ := kk T hT X
  refine ⟨t, ?_, b⟩
  jvm_step X.here [X.here.top, ↓top_set X.here.top, hexec, hb, hdg, e']
  exact a
theorem mw_lstore (hexec : p.tables.exec = Jvm.exec) (hb : c.code = cc) {k : Nat} {x : Int64} {ls' : Array Slot} (hdg : decode cc pc = .ok (.lstore k, 2)) (e' : storeLocals ls k (.long x) = some ls')
    (kk : W p l e R s m args below meth c H locs cells slots Q (F0 m (pc + 2) ls' rest)) : W p l e R s m args below meth c H locs cells slots Q (F0 m pc ls (.long x :: rest)) := by
  intro T hT X
  obtain ⟨t, a, b⟩ := kk T hT X
  refine ⟨t, ?_, b⟩
  jvm_step X.here [X.here.top, ↓top_set X.here.top, hexec, hb, hdg, e']
  exact a
theorem mw_astore_n (hexec : p.tables.exec = Jvm.exec) (hb : c.code = cc) {k : Fin 4} {r : Option Nat} {ls' : Array Slot} (hdg : decode cc pc = .ok (.astore_n k, 1)) (e' : storeLocals ls (k : Nat) (va_rf r) = some ls')
    (kk : W p l e R s m args below meth c H locs cells slots Q (F0 m (pc + 1) ls' rest)) : W p l e R s m args below meth c H locs cells slots Q (F0 m pc ls (va_rf r :: rest)) := by
  intro T hT X
  obtain ⟨t, a, b⟩ := kk T hT X
  refine ⟨t, ?_, b⟩
  cases r with
  | none =>
    have e2 : storeLocals ls (k : Nat) .null = some ls' := e'
    show Steps p.tables e below (T.setTop (F0 m pc ls (.null :: rest))) t
    jvm_step X.here [X.here.top, ↓top_set X.here.top, hexec, hb, hdg, e2, Value.isRef]
    exact a
  | some x =>
    have e2 : storeLocals ls (k : Nat) (.ref x) = some ls' := e'
    show Steps p.tables e below (T.setTop (F0 m pc ls (.ref x :: rest))) t
    jvm_step X.here [X.here.top, ↓top_set X.here.top, hexec, hb, hdg, e2, Value.isRef]
    exact a
theorem mw_astore (hexec : p.tables.exec = Jvm.exec) (hb : c.code = cc) {k : Nat} {r : Option Nat} {ls' : Array Slot} (hdg : decode cc pc = .ok (.astore k, 2)) (e' : storeLocals ls k (va_rf r) = some ls')
    (kk : W p l e R s m args below meth c H locs cells slots Q (F0 m (pc + 2) ls' rest)) : W p l e R s m args below meth c H locs cells slots Q (F0 m pc ls (va_rf r :: rest)) := by
  intro T hT X
  obtain ⟨t, a, b⟩ := kk T hT X
  refine ⟨t, ?_, b⟩
  cases r with
  | none =>
    have e2 : storeLocals ls k .null = some ls' := e'
    show Steps p.tables e below (T.setTop (F0 m pc ls (.null :: rest))) t
    jvm_step X.here [X.here.top, ↓top_set X.here.top, hexec, hb, hdg, e2, Value.isRef]
    exact a
  | some x =>
    have e2 : storeLocals ls k (.ref x) = some ls' := e'
    show Steps p.tables e below (T.setTop (F0 m pc ls (.ref x :: rest))) t
    jvm_step X.here [X.here.top, ↓top_set X.here.top, hexec, hb, hdg, e2, Value.isRef]
    exact a
theorem mw_iinc (hexec : p.tables.exec = Jvm.exec) (hb : c.code = cc) {i : Nat} {n : Int} {x : Int32} {ls' : Array Slot} (hdg : decode cc pc = .ok (.iinc i n, 3)) (hg : ls[i]? = some (.val (.int x))) (e' : storeLocals ls i (.int (x + Int32.ofInt n)) = some ls')
    (kk : W p l e R s m args below meth c H locs cells slots Q (F0 m (pc + 3) ls' rest)) : W p l e R s m args below meth c H locs cells slots Q (F0 m pc ls rest) := by
  intro T hT X
  obtain ⟨t, a, b⟩ := kk T hT X
  refine ⟨t, ?_, b⟩
  jvm_step X.here [X.here.top, ↓top_set X.here.top, hexec, hb, hdg, hg, e']
  exact a
end MVP
