/-! calls, returns, throws -/
theorem mv_run_le {E : mv_E} {cl : List mv_K} {tys : List FieldType} {asg nc : List (Nat × Nat)} {M : List mv_J} : ∀ (n : Nat) {m d j : Nat} {f : mv_F} {h : mv_H} {z : mv_R × mv_H}, mv_run E cl tys asg nc M n d j f h = some z → n ≤ m → mv_run E cl tys asg nc M m d j f h = some z := by
  intro n
  induction n with
  | zero => intro m d j f h z hr _; cases hr
  | succ n ih =>
    intro m d j f h z hr hm
    cases m with
    | zero => omega
    | succ m =>
      have hm' : n ≤ m := by omega
      rw [mv_run] at hr
      rw [mv_run]
      cases hq : M[j]? with
      | none => rw [hq] at hr; cases hr
      | some q =>
        rw [hq] at hr
        simp only [] at hr ⊢
        cases hx : mv_at q f.1 with
        | none => rw [hx] at hr; cases hr
        | some x =>
          rw [hx] at hr
          simp only [] at hr ⊢
          cases hv : mv_ret (mj_r q) x.2.2 f.2.2 with
          | some v => rw [hv] at hr; exact hr
          | none =>
            rw [hv] at hr
            simp only [] at hr ⊢
            cases hw : mv_thr E.1 cl x.2.2 f.2.2 h with
            | some w => rw [hw] at hr; exact hr
            | none =>
              rw [hw] at hr
              simp only [] at hr ⊢
              cases hu : mv_inv E.1 M x.2.2 f.2.2 h with
              | some u =>
                rw [hu] at hr
                simp only [] at hr ⊢
                cases d with
                | zero => cases hr
                | succ d' =>
                  simp only [] at hr ⊢
                  cases h1e : mv_run E cl tys asg nc M n d' u.1 (0, mv_in (mj_n u.2.1) u.2.2.1, []) h with
                  | none => rw [h1e] at hr; cases hr
                  | some w =>
                    rw [h1e] at hr
                    rw [ih h1e hm']
                    obtain ⟨r1, h1⟩ := w
                    cases r1 with
                    | inl v => exact ih hr hm'
                    | inr a =>
                      simp only [] at hr ⊢
                      cases hh : mj_hr q with
                      | nil => rw [hh] at hr; exact hr
                      | cons y ys =>
                        rw [hh] at hr
                        simp only [] at hr ⊢
                        cases hf : mv_find nc E.1 q f.1 h1 a with
                        | none => rw [hf] at hr; cases hr
                        | some pc' =>
                          rw [hf] at hr
                          exact ih hr hm'
              | none =>
                rw [hu] at hr
                simp only [] at hr ⊢
                cases hy : mv_step E cl tys asg x.2.2 (f.1 + x.1) f.2.1 f.2.2 h with
                | none => rw [hy] at hr; cases hr
                | some y =>
                  rw [hy] at hr
                  exact ih hr hm'
def mg_ent (as : List mg_V) : mg_L := match as with
  | [] => []
  | v :: r => if v.1 = 1 then some v :: none :: mg_ent r else some v :: mg_ent r
def mg_in (n : Nat) (as : List mg_V) : mg_L := mg_ent as ++ List.replicate (n - (mg_ent as).length) none
theorem mg_e_cat (v : mg_V) : (mg_e v).category = 2 ↔ v.1 = 1 := by
  obtain ⟨t, z⟩ := v
  match t with
  | 0 => exact ⟨fun h => (by cases h), fun h => (by cases h)⟩
  | 1 => exact ⟨fun _ => rfl, fun _ => rfl⟩
  | 2 => exact ⟨fun h => (by cases h), fun h => (by cases h)⟩
  | t + 3 => exact ⟨fun h => (by cases h), fun h => (by simp at h)⟩
theorem mg_ent_ok : ∀ (as : List mg_V), mv_ent (mg_eS as) = mg_eL (mg_ent as)
  | [] => rfl
  | v :: r => by
    have ih := mg_ent_ok r
    rw [mg_eS_cons]
    unfold mv_ent mg_ent
    by_cases h : v.1 = 1
    · rw [if_pos ((mg_e_cat v).mpr h), if_pos h, ih]
      rfl
    · rw [if_neg (fun e => h ((mg_e_cat v).mp e)), if_neg h, ih]
      rfl
theorem mg_in_ok (n : Nat) (as : List mg_V) : mv_in n (mg_eS as) = mg_eL (mg_in n as) := by
  unfold mv_in mg_in
  rw [mg_ent_ok, mg_eL_len]
  simp [mg_eL]
section MGC
variable {E : mv_E} {d j pc pn j2 : Nat} {L L2 : mg_L} {as S rest : List mg_V} {μ : mm_T} {Q Q2 : mg_R → mm_T → Prop} {x y z a v i k l : Int} {n : Nat} {q0 q : mv_J}
theorem mg_call0 {len : Nat} {ins : Instr} (hr : mg_at j pc = some (len, ins)) (hq0 : mt_ms[j]? = some q0) (hret : mv_ret (mj_r q0) ins (mg_eS S) = none) (hthr : mv_thr E.1 mt_cl ins (mg_eS S) (mm_h E μ) = none) (hinv : mv_inv E.1 mt_ms ins (mg_eS S) (mm_h E μ) = some (j2, q, mg_eS as, mg_eS rest)) (hL : mg_in (mj_n q) as = L2)
    (w : mg_w E d j2 (0, L2, []) μ Q2) (k1 : ∀ (v : Option mg_V) (μ' : mm_T), Q2 (.inl v) μ' → mg_w E (d + 1) j (pc + len, L, v.toList ++ rest) μ' Q)
    (k2 : ∀ (a : Int) (μ' : mm_T), Q2 (.inr a) μ' → (mj_hr q0 = [] ∧ Q (.inr a) μ') ∨ (mj_hr q0 ≠ [] ∧ ∃ (ci pc' : Nat), mm_o E μ' a (100 + (ci : Int)) ∧ mv_seek mt_nc ci pc (mj_hr q0) = some pc' ∧ mg_w E (d + 1) j (pc', L, [(2, a)]) μ' Q)) : mg_w E (d + 1) j (pc, L, S) μ Q := by
  obtain ⟨q1, real, hq, hx⟩ := mg_at_of hr
  cases Option.some.inj (hq.symm.trans hq0)
  obtain ⟨n1, r1, μ1, h1, h2⟩ := w
  have e0 : mg_eF (0, L2, []) = (0, mv_in (mj_n q) (mg_eS as), []) := by rw [mg_in_ok, hL]; rfl
  rw [e0] at h1
  have key : ∀ (m : Nat), mt_run E (m + 1) (d + 1) j (mg_eF (pc, L, S)) (mm_h E μ) = (match mt_run E m d j2 (0, mv_in (mj_n q) (mg_eS as), []) (mm_h E μ) with
      | none => none
      | some (.inl v, h1) => mt_run E m (d + 1) j (pc + len, mg_eL L, v.toList ++ mg_eS rest) h1
      | some (.inr a, h1) => match mj_hr q0 with
        | [] => some (.inr a, h1)
        | _ :: _ => match mv_find mt_nc E.1 q0 pc h1 a with
          | some pc' => mt_run E m (d + 1) j (pc', mg_eL L, [.ref a]) h1
          | none => none) := by
    intro m
    show mv_run E mt_cl mt_ty mt_as mt_nc mt_ms (m + 1) (d + 1) j (pc, mg_eL L, mg_eS S) (mm_h E μ) = _
    rw [mv_run]
    simp only [hq0, hx, hret, hthr, hinv]
    rfl
  cases r1 with
  | inl v =>
    obtain ⟨n2, r2, μ2, h3, h4⟩ := k1 v μ1 h2
    refine ⟨max n1 n2 + 1, r2, μ2, ?_, h4⟩
    rw [key, show mt_run E (max n1 n2) d j2 (0, mv_in (mj_n q) (mg_eS as), []) (mm_h E μ) = _ from mv_run_le n1 h1 (Nat.le_max_left _ _)]
    have e1 : mg_eF (pc + len, L, v.toList ++ rest) = (pc + len, mg_eL L, (v.map mg_e).toList ++ mg_eS rest) := by cases v <;> rfl
    rw [e1] at h3
    exact mv_run_le n2 h3 (Nat.le_max_right _ _)
  | inr a =>
    rcases k2 a μ1 h2 with ⟨hh, hQ⟩ | ⟨hh, ci, pc', ho, hs, w2⟩
    · refine ⟨n1 + 1, .inr a, μ1, ?_, hQ⟩
      rw [key, h1]
      simp only [mg_eR, hh]
    · obtain ⟨n2, r2, μ2, h3, h4⟩ := w2
      refine ⟨max n1 n2 + 1, r2, μ2, ?_, h4⟩
      rw [key, show mt_run E (max n1 n2) d j2 (0, mv_in (mj_n q) (mg_eS as), []) (mm_h E μ) = _ from mv_run_le n1 h1 (Nat.le_max_left _ _)]
      simp only [mg_eR]
      cases hhr : mj_hr q0 with
      | nil => exact absurd hhr hh
      | cons y ys =>
        simp only []
        have e1 : mv_find mt_nc E.1 q0 pc (mm_h E μ1) a.toNat = some pc' := by
          unfold mv_find
          rw [mm_cof ho]
          exact hs
        simp only [e1]
        exact mv_run_le n2 h3 (Nat.le_max_right _ _)
theorem mg_fit (h : (decide (mj_a q ≤ S.length) && decide (((mg_eS (S.drop (mj_a q))).map fun v => v.category).sum ≤ 8) && decide ((mg_ent (S.take (mj_a q)).reverse).length ≤ mj_n q)) = true) : mv_fitS q (mg_eS S) = true := by
  unfold mv_fitS
  have e1 : (mg_eS S).length = S.length := by simp [mg_eS]
  have e2 : (mg_eS S).drop (mj_a q) = mg_eS (S.drop (mj_a q)) := by simp [mg_eS, List.map_drop]
  have e3 : ((mg_eS S).take (mj_a q)).reverse = mg_eS (S.take (mj_a q)).reverse := by simp [mg_eS, List.map_take]
  rw [e1, e2, e3, mg_ent_ok, mg_eL_len]
  exact h
theorem mg_take : ((mg_eS S).take n).reverse = mg_eS (S.take n).reverse := by simp [mg_eS, List.map_take]
theorem mg_drop : (mg_eS S).drop n = mg_eS (S.drop n) := by simp [mg_eS, List.map_drop]
/-- a static method; what it throws goes on -/
theorem mg_cs (hr : mg_at j pc = some (3, .invokestatic j2)) (hn : pc + 3 = pn) (hq0 : mt_ms[j]? = some q0) (hh : mj_hr q0 = []) (hq : mt_ms[j2]? = some q) (hfit : (decide (mj_a q ≤ S.length) && decide (((mg_eS (S.drop (mj_a q))).map fun v => v.category).sum ≤ 8) && decide ((mg_ent (S.take (mj_a q)).reverse).length ≤ mj_n q)) = true) (hL : mg_in (mj_n q) (S.take (mj_a q)).reverse = L2) (hrest : S.drop (mj_a q) = rest)
    (w : mg_w E d j2 (0, L2, []) μ Q2) (k1 : ∀ (v : Option mg_V) (μ' : mm_T), Q2 (.inl v) μ' → mg_w E (d + 1) j (pn, L, v.toList ++ rest) μ' Q) (k2 : ∀ (a : Int) (μ' : mm_T), Q2 (.inr a) μ' → Q (.inr a) μ') : mg_w E (d + 1) j (pc, L, S) μ Q := by
  subst hn hrest
  refine mg_call0 (q := q) (rest := S.drop (mj_a q)) hr hq0 rfl rfl ?_ hL w k1 (fun a μ' h => Or.inl ⟨hh, k2 a μ' h⟩)
  simp only [mv_inv, hq]
  rw [if_pos (mg_fit hfit), mg_take, mg_drop]
/-- a method of an object of the class that the method names -/
theorem mg_cv {as2 : List mg_V} (hr : mg_at j pc = some (3, .invokevirtual j2)) (hn : pc + 3 = pn) (hq0 : mt_ms[j]? = some q0) (hh : mj_hr q0 = []) (hq : mt_ms[j2]? = some q) (hfit : (decide (mj_a q ≤ S.length) && decide (((mg_eS (S.drop (mj_a q))).map fun v => v.category).sum ≤ 8) && decide ((mg_ent (S.take (mj_a q)).reverse).length ≤ mj_n q)) = true) (has : (S.take (mj_a q)).reverse = (2, a) :: as2) (hL : mg_in (mj_n q) ((2, a) :: as2) = L2) (hrest : S.drop (mj_a q) = rest) (hc : k = 100 + ((mj_k q : Nat) : Int)) (ho : mm_o E μ a k)
    (w : mg_w E d j2 (0, L2, []) μ Q2) (k1 : ∀ (v : Option mg_V) (μ' : mm_T), Q2 (.inl v) μ' → mg_w E (d + 1) j (pn, L, v.toList ++ rest) μ' Q) (k2 : ∀ (a : Int) (μ' : mm_T), Q2 (.inr a) μ' → Q (.inr a) μ') : mg_w E (d + 1) j (pc, L, S) μ Q := by
  subst hn hrest hc
  refine mg_call0 (q := q) (as := (2, a) :: as2) (rest := S.drop (mj_a q)) hr hq0 rfl rfl ?_ hL w k1 (fun a μ' h => Or.inl ⟨hh, k2 a μ' h⟩)
  simp only [mv_inv, hq]
  rw [mg_take, has, mg_eS_cons]
  show (if mv_fitS q (mg_eS S) = true ∧ mv_cof E.1 (mm_h E μ) a.toNat = some (mj_k q) then some (j2, q, Value.ref a.toNat :: mg_eS as2, (mg_eS S).drop (mj_a q)) else none) = _
  rw [if_pos ⟨mg_fit hfit, mm_cof ho⟩, mg_drop]
  rfl
/-- a constructor -/
theorem mg_ci {as2 : List mg_V} (hr : mg_at j pc = some (3, .invokespecial j2)) (hn : pc + 3 = pn) (hq0 : mt_ms[j]? = some q0) (hh : mj_hr q0 = []) (hq : mt_ms[j2]? = some q) (hfit : (decide (mj_a q ≤ S.length) && decide (((mg_eS (S.drop (mj_a q))).map fun v => v.category).sum ≤ 8) && decide ((mg_ent (S.take (mj_a q)).reverse).length ≤ mj_n q)) = true) (has : (S.take (mj_a q)).reverse = (2, a) :: as2) (hL : mg_in (mj_n q) ((2, a) :: as2) = L2) (hrest : S.drop (mj_a q) = rest)
    (w : mg_w E d j2 (0, L2, []) μ Q2) (k1 : ∀ (v : Option mg_V) (μ' : mm_T), Q2 (.inl v) μ' → mg_w E (d + 1) j (pn, L, v.toList ++ rest) μ' Q) (k2 : ∀ (a : Int) (μ' : mm_T), Q2 (.inr a) μ' → Q (.inr a) μ') : mg_w E (d + 1) j (pc, L, S) μ Q := by
  subst hn hrest
  refine mg_call0 (q := q) (as := (2, a) :: as2) (rest := S.drop (mj_a q)) hr hq0 rfl rfl ?_ hL w k1 (fun a μ' h => Or.inl ⟨hh, k2 a μ' h⟩)
  simp only [mv_inv, hq]
  rw [mg_take, has, mg_eS_cons]
  show (if mv_fitS q (mg_eS S) = true then some (j2, q, Value.ref a.toNat :: mg_eS as2, (mg_eS S).drop (mj_a q)) else none) = _
  rw [if_pos (mg_fit hfit), mg_drop]
  rfl
/-- a method of an object, with handlers around the call -/
theorem mg_cvh {as2 : List mg_V} (hr : mg_at j pc = some (3, .invokevirtual j2)) (hn : pc + 3 = pn) (hq0 : mt_ms[j]? = some q0) (hh : mj_hr q0 ≠ []) (hq : mt_ms[j2]? = some q) (hfit : (decide (mj_a q ≤ S.length) && decide (((mg_eS (S.drop (mj_a q))).map fun v => v.category).sum ≤ 8) && decide ((mg_ent (S.take (mj_a q)).reverse).length ≤ mj_n q)) = true) (has : (S.take (mj_a q)).reverse = (2, a) :: as2) (hL : mg_in (mj_n q) ((2, a) :: as2) = L2) (hrest : S.drop (mj_a q) = rest) (hc : k = 100 + ((mj_k q : Nat) : Int)) (ho : mm_o E μ a k)
    (w : mg_w E d j2 (0, L2, []) μ Q2) (k1 : ∀ (v : Option mg_V) (μ' : mm_T), Q2 (.inl v) μ' → mg_w E (d + 1) j (pn, L, v.toList ++ rest) μ' Q) (k2 : ∀ (a : Int) (μ' : mm_T), Q2 (.inr a) μ' → ∃ (ci pc' : Nat), mm_o E μ' a (100 + (ci : Int)) ∧ mv_seek mt_nc ci pc (mj_hr q0) = some pc' ∧ mg_w E (d + 1) j (pc', L, [(2, a)]) μ' Q) : mg_w E (d + 1) j (pc, L, S) μ Q := by
  subst hn hrest hc
  refine mg_call0 (q := q) (as := (2, a) :: as2) (rest := S.drop (mj_a q)) hr hq0 rfl rfl ?_ hL w k1 (fun a μ' h => Or.inr ⟨hh, k2 a μ' h⟩)
  simp only [mv_inv, hq]
  rw [mg_take, has, mg_eS_cons]
  show (if mv_fitS q (mg_eS S) = true ∧ mv_cof E.1 (mm_h E μ) a.toNat = some (mj_k q) then some (j2, q, Value.ref a.toNat :: mg_eS as2, (mg_eS S).drop (mj_a q)) else none) = _
  rw [if_pos ⟨mg_fit hfit, mm_cof ho⟩, mg_drop]
  rfl
theorem mg_ret0 {len : Nat} {ins : Instr} {v : Option mg_V} (hr : mg_at j pc = some (len, ins)) (hq0 : mt_ms[j]? = some q0) (hret : mv_ret (mj_r q0) ins (mg_eS S) = some (v.map mg_e)) (h : Q (.inl v) μ) : mg_w E d j (pc, L, S) μ Q := by
  obtain ⟨q1, real, hq, hx⟩ := mg_at_of hr
  cases Option.some.inj (hq.symm.trans hq0)
  refine ⟨1, .inl v, μ, ?_, h⟩
  show mv_run E mt_cl mt_ty mt_as mt_nc mt_ms 1 d j (pc, mg_eL L, mg_eS S) (mm_h E μ) = _
  rw [mv_run]
  simp only [hq0, hx, hret]
  rfl
theorem mg_retV (hr : mg_at j pc = some (1, .return_)) (hq0 : mt_ms[j]? = some q0) (ht : mj_r q0 = none) (h : Q (.inl none) μ) : mg_w E d j (pc, L, []) μ Q :=
  mg_ret0 (v := none) hr hq0 (by rw [ht]; rfl) h
theorem mg_retI (hr : mg_at j pc = some (1, .ireturn)) (hq0 : mt_ms[j]? = some q0) (ht : mj_r q0 = some .int) (h : Q (.inl (some (0, z))) μ) : mg_w E d j (pc, L, [(0, z)]) μ Q :=
  mg_ret0 (v := some (0, z)) hr hq0 (by rw [ht]; rfl) h
theorem mg_retZ (hr : mg_at j pc = some (1, .ireturn)) (hq0 : mt_ms[j]? = some q0) (ht : mj_r q0 = some .boolean) (hz : z = 0 ∨ z = 1) (h : Q (.inl (some (0, z))) μ) : mg_w E d j (pc, L, [(0, z)]) μ Q :=
  mg_ret0 (v := some (0, z)) hr hq0 (by rw [ht]; rcases hz with rfl | rfl <;> rfl) h
theorem mg_retL (hr : mg_at j pc = some (1, .lreturn)) (hq0 : mt_ms[j]? = some q0) (ht : mj_r q0 = some .long) (h : Q (.inl (some (1, z))) μ) : mg_w E d j (pc, L, [(1, z)]) μ Q :=
  mg_ret0 (v := some (1, z)) hr hq0 (by rw [ht]; rfl) h
theorem mg_retA {C : String} (hr : mg_at j pc = some (1, .areturn)) (hq0 : mt_ms[j]? = some q0) (ht : mj_r q0 = some (.object C)) (h : Q (.inl (some (2, z))) μ) : mg_w E d j (pc, L, [(2, z)]) μ Q :=
  mg_ret0 (v := some (2, z)) hr hq0 (by rw [ht]; rfl) h
theorem mg_retR {ty : FieldType} (hr : mg_at j pc = some (1, .areturn)) (hq0 : mt_ms[j]? = some q0) (ht : mj_r q0 = some (.array ty)) (h : Q (.inl (some (2, z))) μ) : mg_w E d j (pc, L, [(2, z)]) μ Q :=
  mg_ret0 (v := some (2, z)) hr hq0 (by rw [ht]; rfl) h
/-- a new exception is thrown -/
theorem mg_thr {K : mv_K} (hr : mg_at j pc = some (3, .instanceof n)) (hK : mt_cl[n]? = some K) (hKf : K.2.2.2.2 = []) (hS : decide (((mg_eS S).map fun v => v.category).sum ≤ 24) = true) (hd : 5 ≤ d) (hk : 100 + (n : Int) = k) (h0 : 0 ≤ μ (-1) 0) (h : Q (.inr (E.1 + μ (-1) 0)) (mm_al E μ k 0 (mm_z n))) : mg_w E d j (pc, L, S) μ Q := by
  subst hk
  obtain ⟨q0, real, hq0, hx⟩ := mg_at_of hr
  refine ⟨1, .inr (E.1 + μ (-1) 0), _, ?_, h⟩
  show mv_run E mt_cl mt_ty mt_as mt_nc mt_ms 1 d j (pc, mg_eL L, mg_eS S) (mm_h E μ) = _
  rw [mv_run]
  have e1 : mv_ret (mj_r q0) (.instanceof n) (mg_eS S) = none := rfl
  have e2 : mv_thr E.1 mt_cl (.instanceof n) (mg_eS S) (mm_h E μ) = some (E.1 + (mm_h E μ).length, mm_h E μ ++ [.inr (n, mv_def K)]) := by
    show (match mt_cl[n]? with | some K => if ((mg_eS S).map fun v => Value.category v).sum ≤ 24 then some (E.1 + (mm_h E μ).length, mm_h E μ ++ [(Sum.inr (n, mv_def K) : mv_C)]) else none | none => none) = _
    simp only [hK]
    rw [if_pos (of_decide_eq_true hS)]
  simp only [hq0, hx, e1, e2]
  rw [if_pos hd, mm_h_len]
  have e3 : mm_h E μ ++ [(Sum.inr (n, mv_def K) : mv_C)] = mm_h E (mm_al E μ (100 + (n : Int)) 0 (mm_z n)) := by
    refine mm_push h0 ?_
    have e1 : mm_al E μ (100 + (n : Int)) 0 (mm_z n) (E.1 + μ (-1) 0) (-1) = 100 + (n : Int) := by simp [mm_al]
    rw [mm_co e1]
    congr 2
    funext q
    have e2 : mm_al E μ (100 + (n : Int)) 0 (mm_z n) (E.1 + μ (-1) 0) (q : Int) = mm_z n q := by
      have h1 : ¬ ((E.1 : Int) + μ (-1) 0 = -1 ∧ (q : Int) = 0) := by omega
      have h2 : ¬ ((q : Int) = -1) := by omega
      have h3 : ¬ ((q : Int) = -2) := by omega
      unfold mm_al
      rw [if_neg h1, if_pos rfl, if_neg h2, if_neg h3]
    rw [e2, mm_z_ok n q hK (by rw [hKf]; rfl)]
  rw [e3]
  show some (Sum.inr (E.1 + (μ (-1) 0).toNat), _) = some (Sum.inr ((E.1 : Int) + μ (-1) 0).toNat, _)
  rw [show ((E.1 : Int) + μ (-1) 0).toNat = E.1 + (μ (-1) 0).toNat by omega]
end MGC
