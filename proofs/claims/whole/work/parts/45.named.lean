/-! NAMES: memory with cells called by names of our choosing: κ p i is what stands at the place i of the cell named p, references as names; A p is the cell's address. A name p is in use when 0 ≤ κ p (-1). At (-1, 0) stands how many cells there are, at (-1, 1) how many slots they have. Names 9001, 9002, 9003: the script, the lists' empty array, the class object of their arrays. -/
def nm_a (κ : mm_T) (p : Int) : Prop := 0 ≤ κ p (-1)
def nm_k (κ : mm_T) (p : Int) : Prop := nm_a κ p ∨ p = 9001 ∨ p = 9002 ∨ p = 9003
def nm_rf (k i : Int) : Bool := if k < 100 then decide (3 ≤ k) else (decide (i < 64) && mg_fA (64 * (k - 100).toNat + i.toNat))
def nm_R (E : mv_E) (A : Int → Int) (κ μ : mm_T) : Prop :=
  (∀ p, nm_a κ p → mm_i E μ (A p) ∧ μ (A p) (-1) = κ p (-1) ∧ μ (A p) (-2) = κ p (-2)) ∧
  (∀ p q, nm_a κ p → nm_a κ q → A p = A q → p = q) ∧
  (∀ p i, nm_a κ p → 0 ≤ i → if nm_rf (κ p (-1)) i = true then (κ p i < 0 ∧ μ (A p) i < 0) ∨ (nm_k κ (κ p i) ∧ 0 ≤ κ p i ∧ 0 ≤ A (κ p i) ∧ μ (A p) i = A (κ p i)) else μ (A p) i = κ p i) ∧
  (0 ≤ μ (-1) 0 ∧ κ (-1) 0 = μ (-1) 0 ∧ κ (-1) 1 = (mv_sz mt_cl (mm_h E μ) : Int)) ∧
  (A 9001 = E.2.1 ∧ A 9002 = E.2.2.2.2.1 ∧ A 9003 = E.2.2.2.2.2) ∧
  (∀ p, p < 0 ∨ (9001 ≤ p ∧ p ≤ 9003) → ¬ nm_a κ p)
def nm_v (A : Int → Int) (v : mg_V) : mg_V := if v.1 = 2 then (2, A v.2) else v
def nm_l (A : Int → Int) (L : mg_L) : mg_L := L.map (Option.map (nm_v A))
def nm_s (A : Int → Int) (S : List mg_V) : List mg_V := S.map (nm_v A)
def nm_f (A : Int → Int) (f : mg_F) : mg_F := (f.1, nm_l A f.2.1, nm_s A f.2.2)
def nm_kv (κ : mm_T) (v : mg_V) : Prop := v.1 = 2 → nm_k κ v.2
def nm_kf (κ : mm_T) (f : mg_F) : Prop := (∀ v, some v ∈ f.2.1 → nm_kv κ v) ∧ ∀ v ∈ f.2.2, nm_kv κ v
abbrev nm_O : Type := Option mg_V ⊕ Nat
def nm_res (E : mv_E) (A : Int → Int) (κ μ : mm_T) (r : mg_R) (o : nm_O) : Prop := match r, o with
  | .inl none, .inl none => True
  | .inl (some v), .inl (some w) => v = nm_v A w ∧ nm_kv κ w
  | .inr a, .inr c => mm_o E μ a (100 + (c : Int))
  | _, _ => False
/-- what was known stays known, at its address -/
def nm_x (A A' : Int → Int) (κ κ' : mm_T) : Prop := ∀ p, nm_k κ p → A' p = A p ∧ nm_k κ' p
def nm_w (E : mv_E) (d j : Nat) (f : mg_F) (κ : mm_T) (Q : nm_O → mm_T → Prop) : Prop := ∀ A μ, nm_R E A κ μ → nm_kf κ f → mg_w E d j (nm_f A f) μ (fun r μ' => ∃ A' κ' o, nm_R E A' κ' μ' ∧ nm_x A A' κ κ' ∧ nm_res E A' κ' μ' r o ∧ Q o κ')
section NMA
variable {E : mv_E} {A A' A2 : Int → Int} {κ κ' κ2 μ μ' : mm_T} {d j pc pn pt : Nat} {L : mg_L} {S : List mg_V} {f f' : mg_F} {Q Q' : nm_O → mm_T → Prop} {x y z a v i k l p : Int} {n t : Nat}
theorem nm_x.refl : nm_x A A κ κ := fun _ h => ⟨rfl, h⟩
theorem nm_x.trans (h1 : nm_x A A' κ κ') (h2 : nm_x A' A2 κ' κ2) : nm_x A A2 κ κ2 := fun p hp => ⟨(h2 p (h1 p hp).2).1.trans (h1 p hp).1, (h2 p (h1 p hp).2).2⟩
theorem nm_mono (h : nm_w E d j f κ Q) (hq : ∀ o κ', Q o κ' → Q' o κ') : nm_w E d j f κ Q' := fun A μ hR hk => mg_mono (h A μ hR hk) (fun _ _ ⟨A', κ', o, h1, h2, h3, h4⟩ => ⟨A', κ', o, h1, h2, h3, hq _ _ h4⟩)
/-- a step that leaves memory as it was -/
theorem nm_same (hk : nm_kf κ f → nm_kf κ f') (h : ∀ A μ, nm_R E A κ μ → nm_kf κ f → ∀ Q2, mg_w E d j (nm_f A f') μ Q2 → mg_w E d j (nm_f A f) μ Q2) (w : nm_w E d j f' κ Q) : nm_w E d j f κ Q := fun A μ hR hf => h A μ hR hf _ (w A μ hR (hk hf))
theorem nm_kf_tail {v : mg_V} {pc2 : Nat} (h : nm_kf κ (pc, L, v :: S)) : nm_kf κ (pc2, L, S) := ⟨h.1, fun w hw => h.2 w (List.mem_cons_of_mem _ hw)⟩
theorem nm_kf_cons {v : mg_V} {pc2 : Nat} (hv : nm_kv κ v) (h : nm_kf κ (pc, L, S)) : nm_kf κ (pc2, L, v :: S) := ⟨h.1, fun w hw => by
  rcases List.mem_cons.mp hw with rfl | hw
  · exact hv
  · exact h.2 w hw⟩
theorem nm_kv0 {t : Nat} (h : t ≠ 2) : nm_kv κ (t, z) := fun e => absurd e h
theorem nm_s_cons {v : mg_V} : nm_s A (v :: S) = nm_v A v :: nm_s A S := rfl
theorem nm_v2 : nm_v A (2, z) = (2, A z) := rfl
theorem nm_l_at {k : Nat} : (nm_l A L)[k]? = (L[k]?).map (Option.map (nm_v A)) := by simp [nm_l]
theorem nm_l_set {k : Nat} (v : Option mg_V) : (nm_l A L).set k (v.map (nm_v A)) = nm_l A (L.set k v) := by simp [nm_l, List.map_set]
theorem nm_l_len : (nm_l A L).length = L.length := by simp [nm_l]
theorem nm_v1 (v : mg_V) : (nm_v A v).1 = v.1 := by
  unfold nm_v
  split
  · next h => exact h.symm
  · rfl
theorem nm_mk (i : Nat) : mg_k (nm_l A L) i = nm_l A (mg_k L i) := by
  cases i with
  | zero => rfl
  | succ k =>
    unfold mg_k
    simp only [nm_l_at]
    cases hL : L[k]? with
    | none => rfl
    | some o =>
      cases o with
      | none => rfl
      | some v =>
        obtain ⟨t, z⟩ := v
        match t with
        | 0 => rfl
        | 1 =>
          show (nm_l A L).set k none = nm_l A (L.set k none)
          exact nm_l_set none
        | 2 => rfl
        | t + 3 => rfl
theorem nm_ld {k nx : Nat} {ok : Nat → Bool} (h : mg_ld L k nx S ok = some f') : mg_ld (nm_l A L) k nx (nm_s A S) ok = some (nm_f A f') := by
  unfold mg_ld at h ⊢
  rw [nm_l_at]
  split at h
  · next v hv =>
    rw [hv]
    simp only [Option.map_some]
    split at h
    · next hk =>
      cases h
      rw [if_pos (by rw [nm_v1]; exact hk)]
      rfl
    · cases h
  · cases h
theorem nm_st {k nx : Nat} {ok : Nat → Bool} (h : mg_st L k nx S ok = some f') : mg_st (nm_l A L) k nx (nm_s A S) ok = some (nm_f A f') := by
  unfold mg_st at h ⊢
  split at h
  · next v r =>
    rw [nm_s_cons]
    simp only []
    split at h
    · next hk =>
      split at h
      · next hl =>
        cases h
        rw [if_pos (by rw [nm_v1]; exact hk), nm_l_len, if_pos hl, nm_mk, show (some (nm_v A v)) = (some v).map (nm_v A) from rfl, nm_l_set]
        rfl
      · cases h
    · cases h
  · cases h
theorem nm_ld_k {k nx : Nat} {ok : Nat → Bool} (h : mg_ld L k nx S ok = some f') (hf : nm_kf κ (pc, L, S)) : nm_kf κ f' := by
  unfold mg_ld at h
  split at h
  · next v hv =>
    split at h
    · cases h
      exact nm_kf_cons (hf.1 v (List.mem_of_getElem? hv)) hf
    · cases h
  · cases h
theorem nm_mem_k {i : Nat} {v : mg_V} (h : some v ∈ mg_k L i) : some v ∈ L := by
  unfold mg_k at h
  split at h
  · exact h
  · split at h
    · rcases List.mem_or_eq_of_mem_set h with h | h
      · exact h
      · cases h
    · exact h
theorem nm_st_k {k nx : Nat} {ok : Nat → Bool} (h : mg_st L k nx S ok = some f') (hf : nm_kf κ (pc, L, S)) : nm_kf κ f' := by
  unfold mg_st at h
  split at h
  · next v r =>
    split at h
    · split at h
      · cases h
        refine ⟨fun w hw => ?_, fun w hw => hf.2 w (List.mem_cons_of_mem _ hw)⟩
        rcases List.mem_or_eq_of_mem_set hw with h | h
        · exact hf.1 w (nm_mem_k h)
        · cases h
          exact hf.2 v (List.mem_cons_self)
      · cases h
    · cases h
  · cases h
set_option maxHeartbeats 2000000 in
theorem nm_pv {ins : Instr} {nx : Nat} (h : mg_pv ins nx L S = some f') : mg_pv ins nx (nm_l A L) (nm_s A S) = some (nm_f A f') ∧ ∀ pc, nm_kf κ (pc, L, S) → nm_kf κ f' := by
  have c : ∀ {v : mg_V} {nx : Nat}, v.1 ≠ 2 → ∀ pc, nm_kf κ (pc, L, S) → nm_kf κ (nx, L, v :: S) := fun hv pc hf => nm_kf_cons (fun e => absurd e hv) hf
  cases ins with
  | aconst_null => cases h; exact ⟨rfl, c (by decide)⟩
  | iconst n => cases h; exact ⟨rfl, c (by show (0 : Nat) ≠ 2; decide)⟩
  | bipush n =>
    simp only [mg_pv] at h ⊢
    split at h
    · next hn => cases h; rw [if_pos hn]; exact ⟨rfl, c (by show (0 : Nat) ≠ 2; decide)⟩
    · cases h
  | sipush n =>
    simp only [mg_pv] at h ⊢
    split at h
    · next hn => cases h; rw [if_pos hn]; exact ⟨rfl, c (by show (0 : Nat) ≠ 2; decide)⟩
    · cases h
  | lconst n => cases h; exact ⟨rfl, c (by show (1 : Nat) ≠ 2; decide)⟩
  | aload k => exact ⟨nm_ld h, fun pc hf => nm_ld_k h hf⟩
  | aload_n k => exact ⟨nm_ld h, fun pc hf => nm_ld_k h hf⟩
  | iload k => exact ⟨nm_ld h, fun pc hf => nm_ld_k h hf⟩
  | iload_n k => exact ⟨nm_ld h, fun pc hf => nm_ld_k h hf⟩
  | lload k => exact ⟨nm_ld h, fun pc hf => nm_ld_k h hf⟩
  | lload_n k => exact ⟨nm_ld h, fun pc hf => nm_ld_k h hf⟩
  | astore k => exact ⟨nm_st h, fun pc hf => nm_st_k h hf⟩
  | astore_n k => exact ⟨nm_st h, fun pc hf => nm_st_k h hf⟩
  | istore k => exact ⟨nm_st h, fun pc hf => nm_st_k h hf⟩
  | istore_n k => exact ⟨nm_st h, fun pc hf => nm_st_k h hf⟩
  | lstore k =>
    simp only [mg_pv] at h ⊢
    split at h
    · next z r =>
      split at h
      · next hl =>
        cases h
        refine ⟨?_, fun pc hf => ⟨fun w hw => ?_, fun w hw => hf.2 w (List.mem_cons_of_mem _ hw)⟩⟩
        · show (if k + 1 < (nm_l A L).length then some (nx, ((mg_k (nm_l A L) k).set k (some (1, z))).set (k + 1) none, nm_s A r) else none) = _
          rw [nm_l_len, if_pos hl, nm_mk, show (some ((1, z) : mg_V)) = (some ((1, z) : mg_V)).map (nm_v A) from rfl, nm_l_set, show (none : Option mg_V) = (none : Option mg_V).map (nm_v A) from rfl, nm_l_set]
          rfl
        · rcases List.mem_or_eq_of_mem_set hw with h | h
          · rcases List.mem_or_eq_of_mem_set h with h | h
            · exact hf.1 w (nm_mem_k h)
            · cases h
              exact fun e => by cases e
          · cases h
      · cases h
    · cases h
  | iinc k n =>
    simp only [mg_pv] at h ⊢
    split at h
    · next z hz =>
      split at h
      · next hl =>
        cases h
        refine ⟨?_, fun pc hf => ⟨fun w hw => ?_, hf.2⟩⟩
        · rw [nm_l_at, hz]
          show (if k < (nm_l A L).length then some (nx, (mg_k (nm_l A L) k).set k (some (0, z + n)), nm_s A S) else none) = _
          rw [nm_l_len, if_pos hl, nm_mk, show (some ((0, z + n) : mg_V)) = (some ((0, z + n) : mg_V)).map (nm_v A) from rfl, nm_l_set]
          rfl
        · rcases List.mem_or_eq_of_mem_set hw with h | h
          · exact hf.1 w (nm_mem_k h)
          · cases h
            exact fun e => by cases e
      · cases h
    · cases h
  | dup =>
    simp only [mg_pv] at h ⊢
    split at h
    · cases h; exact ⟨rfl, fun pc hf => nm_kf_cons (hf.2 _ List.mem_cons_self) hf⟩
    · cases h; exact ⟨rfl, fun pc hf => nm_kf_cons (hf.2 _ List.mem_cons_self) hf⟩
    · cases h
  | pop =>
    simp only [mg_pv] at h ⊢
    split at h
    · cases h; exact ⟨rfl, fun pc hf => nm_kf_tail hf⟩
    · cases h; exact ⟨rfl, fun pc hf => nm_kf_tail hf⟩
    · cases h
  | dup_x1 =>
    simp only [mg_pv] at h ⊢
    split at h
    · cases h; exact ⟨rfl, fun pc hf => ⟨hf.1, fun w hw => hf.2 w (by simp at hw ⊢; grind)⟩⟩
    · cases h; exact ⟨rfl, fun pc hf => ⟨hf.1, fun w hw => hf.2 w (by simp at hw ⊢; grind)⟩⟩
    · cases h
  | dup_x2 =>
    simp only [mg_pv] at h ⊢
    split at h
    · cases h; exact ⟨rfl, fun pc hf => ⟨hf.1, fun w hw => hf.2 w (by simp at hw ⊢; grind)⟩⟩
    · cases h
  | dup2 =>
    simp only [mg_pv] at h ⊢
    split at h
    · cases h; exact ⟨rfl, fun pc hf => ⟨hf.1, fun w hw => hf.2 w (by simp at hw ⊢; grind)⟩⟩
    · cases h
  | iadd =>
    simp only [mg_pv] at h ⊢
    split at h
    · cases h; exact ⟨rfl, fun pc hf => nm_kf_cons (fun e => by cases e) (nm_kf_tail (pc2 := 0) (nm_kf_tail (pc2 := 0) hf))⟩
    · cases h
  | isub =>
    simp only [mg_pv] at h ⊢
    split at h
    · cases h; exact ⟨rfl, fun pc hf => nm_kf_cons (fun e => by cases e) (nm_kf_tail (pc2 := 0) (nm_kf_tail (pc2 := 0) hf))⟩
    · cases h
  | imul =>
    simp only [mg_pv] at h ⊢
    split at h
    · cases h; exact ⟨rfl, fun pc hf => nm_kf_cons (fun e => by cases e) (nm_kf_tail (pc2 := 0) (nm_kf_tail (pc2 := 0) hf))⟩
    · cases h
  | ineg =>
    simp only [mg_pv] at h ⊢
    split at h
    · cases h; exact ⟨rfl, fun pc hf => nm_kf_cons (fun e => by cases e) (nm_kf_tail (pc2 := 0) hf)⟩
    · cases h
  | goto t => cases h; exact ⟨rfl, fun pc hf => hf⟩
  | ifnull t =>
    simp only [mg_pv] at h ⊢
    split at h
    · cases h; exact ⟨rfl, fun pc hf => nm_kf_tail hf⟩
    · cases h; exact ⟨rfl, fun pc hf => nm_kf_tail hf⟩
    · cases h
  | ifnonnull t =>
    simp only [mg_pv] at h ⊢
    split at h
    · cases h; exact ⟨rfl, fun pc hf => nm_kf_tail hf⟩
    · cases h; exact ⟨rfl, fun pc hf => nm_kf_tail hf⟩
    · cases h
  | ldc_w n =>
    simp only [mg_pv] at h ⊢
    split at h
    · next hn => cases h; rw [if_pos hn]; exact ⟨rfl, c (by show (0 : Nat) ≠ 2; decide)⟩
    · cases h
  | ldc2_w n => cases h; exact ⟨rfl, c (by show (1 : Nat) ≠ 2; decide)⟩
  | _ => cases h
theorem nm_ps : ∀ (k : Nat) {f f' : mg_F}, mg_ps j k f = some f' → mg_ps j k (nm_f A f) = some (nm_f A f') ∧ (nm_kf κ f → nm_kf κ f')
  | 0, f, f', h => by cases h; exact ⟨rfl, id⟩
  | k + 1, f, f', h => by
    rw [mg_ps] at h
    rw [mg_ps]
    show (match mg_at j f.1 with | some x => (match mg_pv x.2 (f.1 + x.1) (nm_l A f.2.1) (nm_s A f.2.2) with | some f' => mg_ps j k f' | none => none) | none => none) = _ ∧ _
    cases hx : mg_at j f.1 with
    | none => rw [hx] at h; cases h
    | some x =>
      rw [hx] at h
      simp only [] at h ⊢
      cases hf : mg_pv x.2 (f.1 + x.1) f.2.1 f.2.2 with
      | none => rw [hf] at h; cases h
      | some f2 =>
        rw [hf] at h
        have h1 := nm_pv (A := A) (κ := κ) hf
        have h2 := nm_ps k h
        rw [h1.1]
        exact ⟨h2.1, fun hk => h2.2 (h1.2 f.1 hk)⟩
/-- k pure steps -/
theorem nm_p (k : Nat) (h : mg_ps j k f = some f') (w : nm_w E d j f' κ Q) : nm_w E d j f κ Q := nm_same (nm_ps (A := id) k h).2 (fun A μ _ _ Q2 w2 => mg_p k (nm_ps (A := A) (κ := κ) k h).1 w2) w
end NMA
