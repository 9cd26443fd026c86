/-! the small machine's runs are the machine's -/
/-- the two static fields that a new exception reads -/
def mv_lst (b : Nat) (C n d : String) (U : State) (H : Heap) : Prop := ∃ (c : ClassId) (k : Class) (i : Nat) (f : Field) (a : Nat) (cell : Cell), U.vm.findClass C = some c ∧ U.fieldFound? C n d = some (c, k, i, f) ∧ f.isStatic = true ∧ k.statics = some a ∧ H[a]? = some cell ∧ cell.vm.isStatics = true ∧ cell.cls = c ∧ f.slot < cell.slots.size ∧ k.staticTypes[f.slot]? = some f.type ∧ a < b
theorem mv_lst.moved {b : Nat} {C n d : String} {u U : State} {H H1 : Heap} (hvm : u.vm.Alike U.vm) (hq : ∀ q : Nat, q < b → H1[q]? = H[q]?) (h : mv_lst b C n d u H) : mv_lst b C n d U H1 := by
  obtain ⟨c, k, i, f, a, cell, hc, hi, hst, ha, hcell, hs, hcls, hlt, hty, hab⟩ := h
  obtain ⟨k', hi', hek⟩ := State.fieldFound?_setVm hvm hi
  exact ⟨c, k', i, f, a, cell, by rw [hvm.findClass]; exact hc, hi', hst, by rw [hek]; exact ha, by rw [hq a hab]; exact hcell, hs, hcls, hlt, by rw [hek]; exact hty, hab⟩
theorem mv_lst.word {b : Nat} {C n d : String} {U : State} {args : Array Value} (h : mv_lst b C n d U U.heap) : (Cond.laysStatic C n d).before args U = true := by
  obtain ⟨c, k, i, f, a, cell, hc, hi, hst, ha, hcell, hs, hcls, hlt, hty, hab⟩ := h
  exact Cond.laysStatic_of hc hi hst ha hcell hs hcls hlt hty
def mv_zs (E : mv_E) (U : State) (H : Heap) : Prop := (mv_js E U H ∧ mv_lst E.1 Bundle.tN "UNASSIGNED_STACK" Bundle.steD U H ∧ mv_lst E.1 Bundle.tN "SUPPRESSED_SENTINEL" Bundle.listD U H) ∧ (∃ v, mv_ref v = true ∧ va_Z Bundle.tN "UNASSIGNED_STACK" Bundle.steD v (fun q => E.1 ≤ q) U H) ∧ ∃ v, mv_ref v = true ∧ va_Z Bundle.tN "SUPPRESSED_SENTINEL" Bundle.listD v (fun q => E.1 ≤ q) U H
theorem mv_zs.moved {E : mv_E} {u U : State} {H H1 : Heap} (hvm : u.vm.Alike U.vm) (hq : ∀ q : Nat, q < E.1 → H1[q]? = H[q]?) (h : mv_zs E u H) : mv_zs E U H1 := by
  obtain ⟨h0, ⟨v, hv, h1⟩, w, hw, h2⟩ := h
  have key : ∀ {C n d : String} {v : Value}, va_Z C n d v (fun q => E.1 ≤ q) u H → va_Z C n d v (fun q => E.1 ≤ q) U H1 := fun z => (z.moved hvm).kept (fun a _ ha => hq a (Nat.not_le.mp ha))
  exact ⟨⟨h0.1.moved hvm hq, h0.2.1.moved hvm hq, h0.2.2.moved hvm hq⟩, ⟨v, hv, key h1⟩, w, hw, key h2⟩
/-- the classes that the other isn't of -/
def mv_nk (nc : List (Nat × Nat)) (cl : List mv_K) (U : State) : Prop := ∀ x y, (x, y) ∈ nc → ∃ rx ry, cl[x]? = some rx ∧ cl[y]? = some ry ∧ va_Nc rx.1 ry.1 U
theorem mv_nk.moved {nc : List (Nat × Nat)} {cl : List mv_K} {u U : State} (hvm : u.vm.Alike U.vm) (h : mv_nk nc cl u) : mv_nk nc cl U := fun x y hxy => by
  obtain ⟨rx, ry, h1, h2, h3⟩ := h x y hxy
  exact ⟨rx, ry, h1, h2, h3.moved hvm⟩
def mv_ctx (cl : List mv_K) (tys : List FieldType) (G : List Cond) (g : mv_G) (E : mv_E) (d : Nat) (q : mv_J) (p : Program) (e : Env) (R : Room) (s : State) (m : MethodId) (args : Array Value) (meth : Method) (c : Code) : Prop :=
  p.tables.exec = Jvm.exec ∧ e.platform.stackTraces = false ∧ (∀ w ∈ G, w.before args s = true) ∧ mv_kn cl tys g s ∧ va_X E.2.1 E.2.2.1 E.2.2.2.1 s s.heap ∧ E.2.1 < E.1 ∧ mv_zs E s s.heap ∧ s.methodNamed? (mj_y q) = some m ∧ s.vm.method? m = some meth ∧ c.code = mj_b q ∧ c.maxLocals = mj_n q ∧ meth.sig.returnType = mj_r q ∧ meth.locks = false ∧ c.exceptionTable.toList = tableOf (mj_hh q) ∧ d + 1 ≤ R.frames ∧ 34 * d + 56 ≤ R.locals
section MVS
variable {p : Program} {l : Launch} {e : Env} {R : Room} {s : State} {m : MethodId} {args : Array Value} {below : List Frame} {meth : Method} {c : Code} {H : Heap} {locs : List Loc}
variable {G : List Cond} {cl : List mv_K} {tys : List FieldType} {asg nc : List (Nat × Nat)} {M : List mv_J} {g : mv_G} {E : mv_E} {q : mv_J} {h : mv_H}
theorem mv_ent_len : ∀ (as : List Value), (mv_ent as).length = (lg_sl as).length
  | [] => rfl
  | v :: r => by
    have ih := mv_ent_len r
    unfold mv_ent lg_sl
    rw [List.flatMap_cons]
    split <;> simp_all [lg_sl]
theorem mv_ent_at : ∀ (as : List Value) (k i : Nat) (v : Value), (mv_ent as)[i]? = some (some v) → (k + i, v) ∈ lv_args k as
  | [], k, i, v, h => by simp [mv_ent] at h
  | w :: r, k, i, v, h => by
    unfold mv_ent at h
    unfold lv_args
    split at h
    · next hw =>
      cases i with
      | zero => simp at h; subst h; simp
      | succ i =>
        cases i with
        | zero => simp at h
        | succ i =>
          simp only [List.getElem?_cons_succ] at h
          have ih := mv_ent_at r (k + 2) i v h
          rw [if_pos hw]
          rw [show k + (i + 1 + 1) = k + 2 + i by omega]
          exact List.mem_cons_of_mem _ ih
    · next hw =>
      cases i with
      | zero => simp at h; subst h; simp
      | succ i =>
        simp only [List.getElem?_cons_succ] at h
        have ih := mv_ent_at r (k + 1) i v h
        rw [if_neg hw]
        rw [show k + (i + 1) = k + 1 + i by omega]
        exact List.mem_cons_of_mem _ ih
theorem mv_in_rel {as : List Value} {n : Nat} (hn : (mv_ent as).length ≤ n) : mv_lrel ((lg_sl as ++ List.replicate (n - (lg_sl as).length) Slot.unset).toArray) n (mv_in n as) := by
  have h1 := lv_entry as (n := n) (by rw [← mv_ent_len]; exact hn)
  refine ⟨h1.1, by unfold mv_in; rw [List.length_append, List.length_replicate]; omega, h1.2.1, fun i v hi => ?_⟩
  have hi2 : (mv_ent as)[i]? = some (some v) := by
    unfold mv_in at hi
    by_cases hl : i < (mv_ent as).length
    · rwa [List.getElem?_append_left hl] at hi
    · rw [List.getElem?_append_right (by omega)] at hi
      have := List.eq_of_mem_replicate (List.mem_of_getElem? hi)
      cases this
  have h2 := mv_ent_at as 0 i v hi2
  rw [Nat.zero_add] at h2
  exact h1.2.2 (i, v) h2
theorem mv_inv_of {b : Nat} {i : Instr} {S : List Value} {u : Nat × mv_J × List Value × List Value} (hu : mv_inv b M i S h = some u) : M[u.1]? = some u.2.1 ∧ S = u.2.2.1.reverse ++ u.2.2.2 ∧ u.2.2.1.length = mj_a u.2.1 ∧ (u.2.2.2.map fun v => v.category).sum ≤ 8 ∧ (mv_ent u.2.2.1).length ≤ mj_n u.2.1 ∧ (i = .invokestatic u.1 ∨ (∃ a as, u.2.2.1 = .ref a :: as ∧ i = .invokevirtual u.1 ∧ mv_cof b h a = some (mj_k u.2.1)) ∨ ∃ a as, u.2.2.1 = .ref a :: as ∧ i = .invokespecial u.1) := by
  have fitS : ∀ {q : mv_J}, mv_fitS q S = true → S = ((S.take (mj_a q)).reverse).reverse ++ S.drop (mj_a q) ∧ ((S.take (mj_a q)).reverse).length = mj_a q ∧ ((S.drop (mj_a q)).map fun v => v.category).sum ≤ 8 ∧ (mv_ent (S.take (mj_a q)).reverse).length ≤ mj_n q := by
    intro q hf
    simp only [mv_fitS, Bool.and_eq_true, decide_eq_true_eq] at hf
    exact ⟨by rw [List.reverse_reverse, List.take_append_drop], by rw [List.length_reverse, List.length_take]; omega, hf.1.2, hf.2⟩
  unfold mv_inv at hu
  split at hu
  · next j =>
    split at hu
    · next q2 hq2 =>
      split at hu
      · next hf =>
        cases hu
        obtain ⟨a1, a2, a3, a4⟩ := fitS hf
        exact ⟨hq2, a1, a2, a3, a4, Or.inl rfl⟩
      · cases hu
    · cases hu
  · next j =>
    split at hu
    · next q2 hq2 =>
      split at hu
      · next a as has =>
        split at hu
        · next hf =>
          cases hu
          obtain ⟨a1, a2, a3, a4⟩ := fitS hf.1
          rw [has] at a1 a2 a4
          exact ⟨hq2, a1, a2, a3, a4, Or.inr (Or.inl ⟨a, as, rfl, rfl, hf.2⟩)⟩
        · cases hu
      · cases hu
    · cases hu
  · next j =>
    split at hu
    · next q2 hq2 =>
      split at hu
      · next a as has =>
        split at hu
        · next hf =>
          cases hu
          obtain ⟨a1, a2, a3, a4⟩ := fitS hf
          rw [has] at a1 a2 a4
          exact ⟨hq2, a1, a2, a3, a4, Or.inr (Or.inr ⟨a, as, rfl, rfl⟩)⟩
        · cases hu
      · cases hu
    · cases hu
  · cases hu
/-- the step of a call -/
theorem mc_any {T : State} {cells slots : Nat} (hok : mv_OK cl tys asg M G) (X : Stand p l e R s m args below meth c T locs cells slots) (hx : p.tables.exec = Jvm.exec) (hts : ∀ w ∈ G, w.before args s = true) (hK : mv_kn cl tys g s) {b : Nat} (hR : mv_rel cl g b h T.heap) (hown : s.vm.findClass (mj_y q).cls = some m.cls) {pc len : Nat} {ls : Array Slot} {S : List Value} {real i : Instr}
    (hd : decode c.code pc = .ok (real, len)) (hrow : mv_row cl tys G M q pc len real i) {u : Nat × mv_J × List Value × List Value} (hu : mv_inv b M i S h = some u) :
    len = 3 ∧ ∃ vm₁ mk, Stand p l e R s m args below meth c (T.setVm vm₁) locs cells slots ∧ s.methodNamed? (mj_y u.2.1) = some mk ∧ ∀ target, (∀ acts, Steps p.tables e below (doInvoke e ((T.setVm vm₁).setTop (F0 m pc ls u.2.2.2)) acts mk u.2.2.1.toArray).1 target) → Steps p.tables e below (T.setTop (F0 m pc ls S)) target := by
  obtain ⟨a1, a2, a3, a4, a5, a6⟩ := mv_inv_of hu
  have hj := (hok.2.2 _ _ a1).1
  rcases a6 with rfl | ⟨a, as, has, rfl, hco⟩ | ⟨a, as, has, rfl⟩
  · obtain ⟨idx, q2, rfl, rfl, b1, b2, b3, b4⟩ := hrow
    cases Option.some.inj (a1.symm.trans b1)
    exact ⟨rfl, mc_static X hx hts hown hj b2 b3 b4 (f := F0 m pc ls S) rfl a3 a2 hd⟩
  · obtain ⟨idx, q2, r, rfl, rfl, b1, b2, b3, b4, b5, b6, b7⟩ := hrow
    cases Option.some.inj (a1.symm.trans b1)
    obtain ⟨V, hlk⟩ := mv_cof_of hco
    obtain ⟨r2, hr2, cell, q1, q2, q3, -⟩ := hR.at hlk
    rw [has] at a2 a3 ⊢
    have hKn := (hK.1 _ _ b5).2
    refine ⟨rfl, mc_virtual X hx hts hown hj b2 b3 b4 b7 q1 (by rw [q3]; rfl) (by rw [q2, ← b6]; exact hKn.1) (f := F0 m pc ls S) rfl (by simpa using a3) (by simpa using a2) hd⟩
  · obtain ⟨idx, q2, rfl, rfl, b1, b2, b3, b4, b5, b6⟩ := hrow
    cases Option.some.inj (a1.symm.trans b1)
    rw [has] at a2 a3 ⊢
    exact ⟨rfl, mc_special X hx hts hown hj b2 b3 b4 b5 b6 (f := F0 m pc ls S) rfl (by simpa using a3) (by simpa using a2) hd⟩
end MVS
