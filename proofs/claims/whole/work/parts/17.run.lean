/-! a run -/
def mv_at (q : mv_J) (pc : Nat) : Option (Nat × Instr × Instr) := match (mj_c q)[pc]? with
  | some (some x) => some (x.1, x.2.1, x.2.2.1)
  | _ => none
def mv_ret (ty : Option FieldType) (i : Instr) (S : List Value) : Option (Option Value) := match i with
  | .return_ => (match S with
    | [] => (match ty with
      | none => some none
      | some _ => none)
    | _ => none)
  | .ireturn => (match S with
    | [.int v] => (match ty with
      | some .int => some (some (.int v))
      | some .boolean => if fits .boolean (.int v) = true then some (some (.int v)) else none
      | _ => none)
    | _ => none)
  | .lreturn => (match S with
    | [.long v] => (match ty with
      | some .long => some (some (.long v))
      | _ => none)
    | _ => none)
  | .areturn => (match S with
    | [v] => (match ty with
      | some (.object _) => if mv_ref v = true then some (some v) else none
      | some (.array _) => if mv_ref v = true then some (some v) else none
      | _ => none)
    | _ => none)
  | _ => none
/-- what is thrown here: a new exception of the class ci (new, dup, its constructor, athrow) -/
def mv_thr (b : Nat) (cl : List mv_K) (i : Instr) (S : List Value) (h : mv_H) : Option (Nat × mv_H) := match i with
  | .instanceof ci => (match cl[ci]? with
    | some K => if (S.map fun v => v.category).sum ≤ 24 then some (b + h.length, h ++ [.inr (ci, mv_def K)]) else none
    | none => none)
  | _ => none
def mv_fitS (q : mv_J) (S : List Value) : Bool := decide (mj_a q ≤ S.length) && decide (((S.drop (mj_a q)).map fun v => v.category).sum ≤ 8) && decide ((mv_ent (S.take (mj_a q)).reverse).length ≤ mj_n q)
def mv_inv (b : Nat) (M : List mv_J) (i : Instr) (S : List Value) (h : mv_H) : Option (Nat × mv_J × List Value × List Value) := match i with
  | .invokestatic j => (match M[j]? with
    | some q => if mv_fitS q S = true then some (j, q, (S.take (mj_a q)).reverse, S.drop (mj_a q)) else none
    | none => none)
  | .invokevirtual j => (match M[j]? with
    | some q => (match (S.take (mj_a q)).reverse with
      | .ref a :: as => if mv_fitS q S = true ∧ mv_cof b h a = some (mj_k q) then some (j, q, .ref a :: as, S.drop (mj_a q)) else none
      | _ => none)
    | none => none)
  | .invokespecial j => (match M[j]? with
    | some q => (match (S.take (mj_a q)).reverse with
      | .ref a :: as => if mv_fitS q S = true then some (j, q, .ref a :: as, S.drop (mj_a q)) else none
      | _ => none)
    | none => none)
  | _ => none
/-- the handler that takes an exception of the class ci: the first that covers pc and names it; the ones before it that cover pc name classes that ci isn't of -/
def mv_seek (nc : List (Nat × Nat)) (ci pc : Nat) : List (Nat × Nat × Nat × Nat) → Option Nat
  | [] => none
  | x :: r => if x.1 ≤ pc ∧ pc < x.2.1 then (if x.2.2.2 = ci then some x.2.2.1 else if nc.contains (ci, x.2.2.2) = true then mv_seek nc ci pc r else none) else mv_seek nc ci pc r
def mv_find (nc : List (Nat × Nat)) (b : Nat) (q : mv_J) (pc : Nat) (h : mv_H) (a : Nat) : Option Nat := match mv_cof b h a with
  | some ci => mv_seek nc ci pc (mj_hr q)
  | none => none
abbrev mv_R : Type := Option Value ⊕ Nat
def mv_run (E : mv_E) (cl : List mv_K) (tys : List FieldType) (asg nc : List (Nat × Nat)) (M : List mv_J) : Nat → Nat → Nat → mv_F → mv_H → Option (mv_R × mv_H)
  | 0, _, _, _, _ => none
  | n + 1, d, j, f, h => match M[j]? with
    | none => none
    | some q => match mv_at q f.1 with
      | none => none
      | some x => match mv_ret (mj_r q) x.2.2 f.2.2 with
        | some v => some (.inl v, h)
        | none => match mv_thr E.1 cl x.2.2 f.2.2 h with
          | some z => if 5 ≤ d then some (.inr z.1, z.2) else none
          | none => match mv_inv E.1 M x.2.2 f.2.2 h with
            | some u => match d with
              | 0 => none
              | d' + 1 => match mv_run E cl tys asg nc M n d' u.1 (0, mv_in (mj_n u.2.1) u.2.2.1, []) h with
                | none => none
                | some (.inl v, h1) => mv_run E cl tys asg nc M n (d' + 1) j (f.1 + x.1, f.2.1, v.toList ++ u.2.2.2) h1
                | some (.inr a, h1) => match mj_hr q with
                  | [] => some (.inr a, h1)
                  | _ :: _ => match mv_find nc E.1 q f.1 h1 a with
                    | some pc' => mv_run E cl tys asg nc M n (d' + 1) j (pc', f.2.1, [.ref a]) h1
                    | none => none
            | none => match mv_step E cl tys asg x.2.2 (f.1 + x.1) f.2.1 f.2.2 h with
              | some z => mv_run E cl tys asg nc M n d j z.1 z.2
              | none => none
/-! heaps grow -/
theorem mv_step_mono {E : mv_E} {cl : List mv_K} {tys : List FieldType} {asg : List (Nat × Nat)} {i : Instr} {nx : Nat} {L : mv_L} {S : List Value} {h h' : mv_H} {f : mv_F} (hs : mv_step E cl tys asg i nx L S h = some (f, h')) : h.length ≤ h'.length ∧ mv_sz cl h ≤ mv_sz cl h' := by
  have up : ∀ {a : Nat} {x y : mv_C}, mv_lk E.1 h a = some x → mv_cz cl y = mv_cz cl x → h.length ≤ (mv_up E.1 h a y).length ∧ mv_sz cl h ≤ mv_sz cl (mv_up E.1 h a y) := fun hl he => ⟨by rw [mv_up_len]; exact Nat.le_refl _, by rw [mv_up_sz cl hl he]; exact Nat.le_refl _⟩
  have pu : ∀ (x : mv_C), h.length ≤ (h ++ [x]).length ∧ mv_sz cl h ≤ mv_sz cl (h ++ [x]) := fun x => ⟨by rw [List.length_append]; omega, by rw [mv_sz_app]; omega⟩
  have wr : ∀ {want : FieldType → Bool} {a : Nat} {k : Int32} {v : Value} {r : List Value}, mv_to_ nx L r (mv_wr E.1 tys want h a k v) = some (f, h') → h.length ≤ h'.length ∧ mv_sz cl h ≤ mv_sz cl h' := by
    intro want a k v r hz
    obtain ⟨w, hw, hz⟩ := mv_to_of hz
    cases hz
    obtain ⟨t, N, f2, ty, e1, e2, e3, e4, rfl⟩ := mv_wr_of hw
    exact up e1 rfl
  have rd : ∀ {want : FieldType → Bool} {a : Nat} {k : Int32} {r : List Value}, mv_at_ nx L r h (mv_rd E.1 tys want h a k) = some (f, h') → h.length ≤ h'.length ∧ mv_sz cl h ≤ mv_sz cl h' := by
    intro want a k r hz
    obtain ⟨w, hw, hz⟩ := mv_at_of hz
    cases hz
    exact ⟨Nat.le_refl _, Nat.le_refl _⟩
  have pr : (match mv_pure i nx L S with | some f => some (f, h) | none => none) = some (f, h') → h.length ≤ h'.length ∧ mv_sz cl h ≤ mv_sz cl h' := by
    intro e4
    split at e4
    · cases e4; exact ⟨Nat.le_refl _, Nat.le_refl _⟩
    · cases e4
  cases i with
  | getfield w =>
    simp only [mv_step] at hs
    repeat' (split at hs)
    all_goals first | (cases hs; done) | (cases hs; exact ⟨Nat.le_refl _, Nat.le_refl _⟩)
  | putfield w =>
    simp only [mv_step] at hs
    split at hs
    · split at hs
      · next hy2 =>
        split at hs
        · split at hs
          · split at hs
            · next hc => cases hs; exact up hy2 (by simp only [mv_cz, hc.1])
            · cases hs
          · cases hs
        · cases hs
      · cases hs
    · cases hs
  | new ci =>
    simp only [mv_step] at hs
    split at hs
    · cases hs; exact pu _
    · cases hs
  | newarray at_ =>
    simp only [mv_step] at hs
    split at hs
    · split at hs
      · cases hs; exact pu _
      · cases hs
    · cases hs
  | anewarray t =>
    simp only [mv_step] at hs
    split at hs
    · split at hs
      · cases hs; exact pu _
      · cases hs
    · cases hs
  | arraylength =>
    simp only [mv_step] at hs
    repeat' (split at hs)
    all_goals first | (cases hs; done) | (cases hs; exact ⟨Nat.le_refl _, Nat.le_refl _⟩)
  | iaload =>
    simp only [mv_step] at hs
    split at hs
    · split at hs
      · exact rd hs
      · split at hs
        · cases hs; exact ⟨Nat.le_refl _, Nat.le_refl _⟩
        · cases hs
    · cases hs
  | baload =>
    simp only [mv_step] at hs
    split at hs
    · exact rd hs
    · cases hs
  | laload =>
    simp only [mv_step] at hs
    split at hs
    · exact rd hs
    · cases hs
  | aaload =>
    simp only [mv_step] at hs
    split at hs
    · exact rd hs
    · cases hs
  | iastore =>
    simp only [mv_step] at hs
    split at hs
    · exact wr hs
    · cases hs
  | bastore =>
    simp only [mv_step] at hs
    split at hs
    · exact wr hs
    · cases hs
  | lastore =>
    simp only [mv_step] at hs
    split at hs
    · exact wr hs
    · cases hs
  | aastore =>
    simp only [mv_step] at hs
    split at hs
    · exact wr hs
    · split at hs
      · split at hs
        · exact wr hs
        · cases hs
      · cases hs
    · cases hs
  | checkcast ci =>
    simp only [mv_step] at hs
    split at hs
    · split at hs
      · cases hs; exact ⟨Nat.le_refl _, Nat.le_refl _⟩
      · cases hs
    · cases hs
  | ldc_w v => cases hs; exact ⟨Nat.le_refl _, Nat.le_refl _⟩
  | ldc2_w v => cases hs; exact ⟨Nat.le_refl _, Nat.le_refl _⟩
  | monitorexit =>
    simp only [mv_step] at hs
    split at hs
    · split at hs
      · cases hs; exact ⟨Nat.le_refl _, Nat.le_refl _⟩
      · cases hs
    · cases hs
  | monitorenter =>
    simp only [mv_step] at hs
    split at hs
    · split at hs
      · next hx2 hy2 =>
        split at hs
        · cases hs; exact up hy2 rfl
        · cases hs
      · cases hs
    · cases hs
  | d2l =>
    simp only [mv_step] at hs
    split at hs
    · split at hs
      · next hx2 hy2 =>
        split at hs
        · cases hs; exact up hy2 rfl
        · cases hs
      · cases hs
    · cases hs
  | getstatic v => cases hs; exact ⟨Nat.le_refl _, Nat.le_refl _⟩
  | ldc v => cases hs; exact ⟨Nat.le_refl _, Nat.le_refl _⟩
  | d2i =>
    simp only [mv_step] at hs
    repeat' (split at hs)
    all_goals first | (cases hs; done) | (cases hs; exact ⟨Nat.le_refl _, Nat.le_refl _⟩)
  | _ => exact pr hs
theorem mv_run_mono {E : mv_E} {cl : List mv_K} {tys : List FieldType} {asg nc : List (Nat × Nat)} {M : List mv_J} : ∀ (n d j : Nat) (f : mv_F) (h : mv_H) (r : mv_R) (h' : mv_H), mv_run E cl tys asg nc M n d j f h = some (r, h') → h.length ≤ h'.length ∧ mv_sz cl h ≤ mv_sz cl h' := by
  intro n
  induction n with
  | zero => intro d j f h r h' hr; cases hr
  | succ n ih =>
    intro d j f h r h' hr
    rw [mv_run] at hr
    split at hr
    · cases hr
    split at hr
    · cases hr
    split at hr
    · cases hr; exact ⟨Nat.le_refl _, Nat.le_refl _⟩
    split at hr
    · next z hz =>
      split at hr
      · cases hr
        unfold mv_thr at hz
        split at hz
        · split at hz
          · split at hz
            · cases hz; exact ⟨by rw [List.length_append]; omega, by rw [mv_sz_app]; omega⟩
            · cases hz
          · cases hz
        · cases hz
      · cases hr
    split at hr
    · next u hu =>
      split at hr
      · cases hr
      · next d' =>
        split at hr
        · cases hr
        · next v h1 h1e =>
          have a1 := ih _ _ _ _ _ _ h1e
          have a2 := ih _ _ _ _ _ _ hr
          exact ⟨by omega, by omega⟩
        · next a h1 h1e =>
          have a1 := ih _ _ _ _ _ _ h1e
          split at hr
          · cases hr; exact a1
          · split at hr
            · have a2 := ih _ _ _ _ _ _ hr
              exact ⟨by omega, by omega⟩
            · cases hr
    · split at hr
      · next z hz =>
        have a1 := mv_step_mono hz
        have a2 := ih _ _ _ _ _ _ hr
        exact ⟨by omega, by omega⟩
      · cases hr
