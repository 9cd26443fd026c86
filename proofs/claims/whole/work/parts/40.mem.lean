/-! MEMORY: the heap as a function of whole numbers: μ a i is what stands at the place i of the cell a; at -1 its kind (an array's kind; 100 and more: an object's class), at -2 an array's length; at (-1, 0) how many cells there are -/
abbrev mm_T : Type := Int → Int → Int
def md_t (ty : FieldType) (z : Int) : Value := match ty with
  | .int => .int (Int32.ofInt z)
  | .boolean => .int (Int32.ofInt z)
  | .long => .long (Int64.ofInt z)
  | _ => if z < 0 then .null else .ref z.toNat
def md_a (k : Nat) (z : Int) : Value := match mt_ty[k]? with
  | some ty => md_t ty z
  | none => .null
def md_f (c i : Nat) (z : Int) : Value := match mt_cl[c]? with
  | some K => (match K.2.2.2.2[i]? with
    | some ty => md_t ty z
    | none => .null)
  | none => .null
def mm_c (μ : mm_T) (a : Int) : mv_C := if μ a (-1) < 100 then .inl ((μ a (-1)).toNat, (μ a (-2)).toNat, fun i => md_a (μ a (-1)).toNat (μ a i)) else .inr ((μ a (-1) - 100).toNat, fun i => md_f (μ a (-1) - 100).toNat i (μ a i))
def mm_h (E : mv_E) (μ : mm_T) : mv_H := (List.range (μ (-1) 0).toNat).map fun (i : Nat) => mm_c μ ((E.1 : Int) + (i : Int))
def mm_u (μ : mm_T) (a i z : Int) : mm_T := fun a' i' => if a' = a ∧ i' = i then z else μ a' i'
def mm_al (E : mv_E) (μ : mm_T) (k l : Int) (z0 : Int → Int) : mm_T := fun a i => if a = -1 ∧ i = 0 then μ (-1) 0 + 1 else if a = E.1 + μ (-1) 0 then (if i = -1 then k else if i = -2 then l else z0 i) else μ a i
def mm_i (E : mv_E) (μ : mm_T) (a : Int) : Prop := (E.1 : Int) ≤ a ∧ a < E.1 + μ (-1) 0
section MMA
variable {E : mv_E} {μ : mm_T} {a a' i z : Int}
theorem mm_h_len : (mm_h E μ).length = (μ (-1) 0).toNat := by simp [mm_h]
theorem mm_h_at {k : Nat} (hk : k < (μ (-1) 0).toNat) : (mm_h E μ)[k]? = some (mm_c μ ((E.1 : Int) + k)) := by
  unfold mm_h
  rw [List.getElem?_map, List.getElem?_range hk]
  rfl
theorem mm_lk (h : mm_i E μ a) : mv_lk E.1 (mm_h E μ) a.toNat = some (mm_c μ a) := by
  obtain ⟨h0, h1⟩ := h
  have h2 : E.1 ≤ a.toNat := by omega
  have h3 : a.toNat - E.1 < (μ (-1) 0).toNat := by omega
  unfold mv_lk
  rw [if_pos h2, mm_h_at h3]
  rw [show (E.1 : Int) + ((a.toNat - E.1 : Nat) : Int) = a by omega]
theorem mm_lkn (h : a < E.1) (h0 : 0 ≤ a) : mv_lk E.1 (mm_h E μ) a.toNat = none := by
  unfold mv_lk
  rw [if_neg (by omega)]
theorem mm_u_at : mm_u μ a i z a i = z := by simp [mm_u]
theorem mm_u_ne {i' : Int} (h : ¬ (a' = a ∧ i' = i)) : mm_u μ a i z a' i' = μ a' i' := by simp [mm_u, h]
theorem mm_u_c (h : a' ≠ a) : mm_c (mm_u μ a i z) a' = mm_c μ a' := by simp [mm_c, mm_u, h]
theorem mm_u_n (h : mm_i E μ a) : mm_u μ a i z (-1) 0 = μ (-1) 0 := mm_u_ne (by have := h.1; omega)
theorem mm_upd (h : mm_i E μ a) {c : mv_C} (hc : c = mm_c (mm_u μ a i z) a) : mv_up E.1 (mm_h E μ) a.toNat c = mm_h E (mm_u μ a i z) := by
  have hn : mm_u μ a i z (-1) 0 = μ (-1) 0 := mm_u_n h
  obtain ⟨h0, h1⟩ := h
  apply List.ext_getElem?
  intro k
  unfold mv_up
  by_cases hk : k < (μ (-1) 0).toNat
  · have e2 : (mm_h E (mm_u μ a i z))[k]? = some (mm_c (mm_u μ a i z) ((E.1 : Int) + k)) := mm_h_at (by rw [hn]; exact hk)
    rw [e2]
    by_cases hka : a.toNat - E.1 = k
    · subst hka
      rw [List.getElem?_set_self (by rw [mm_h_len]; exact hk), hc, show (E.1 : Int) + ((a.toNat - E.1 : Nat) : Int) = a by omega]
    · rw [List.getElem?_set_ne hka, mm_h_at hk, mm_u_c (by omega)]
  · rw [List.getElem?_eq_none (by rw [List.length_set, mm_h_len]; omega), List.getElem?_eq_none (by rw [mm_h_len, hn]; omega)]
theorem mm_push {k l : Int} {z0 : Int → Int} (hn : 0 ≤ μ (-1) 0) {c : mv_C} (hc : c = mm_c (mm_al E μ k l z0) (E.1 + μ (-1) 0)) : mm_h E μ ++ [c] = mm_h E (mm_al E μ k l z0) := by
  have e0 : mm_al E μ k l z0 (-1) 0 = μ (-1) 0 + 1 := by simp [mm_al]
  apply List.ext_getElem?
  intro j
  by_cases hj : j < (μ (-1) 0).toNat
  · rw [List.getElem?_append_left (by rw [mm_h_len]; exact hj), mm_h_at hj, mm_h_at (by rw [e0]; omega)]
    congr 1
    have h1 : (E.1 : Int) + j ≠ -1 := by omega
    have h2 : (E.1 : Int) + j ≠ E.1 + μ (-1) 0 := by omega
    simp [mm_c, mm_al, h1, h2]
  · by_cases hj2 : j = (μ (-1) 0).toNat
    · rw [List.getElem?_append_right (by rw [mm_h_len]; omega), mm_h_len, hj2, Nat.sub_self, mm_h_at (by rw [e0]; omega)]
      rw [hc, show (E.1 : Int) + ((μ (-1) 0).toNat : Int) = E.1 + μ (-1) 0 by omega]
      rfl
    · rw [List.getElem?_eq_none (by simp [mm_h_len]; omega), List.getElem?_eq_none (by rw [mm_h_len, e0]; omega)]
end MMA
/-! values: (0, z) an int, (1, z) a long, (2, z) the cell z, (3, 0) null -/
abbrev mg_V : Type := Nat × Int
def mg_e (v : mg_V) : Value := match v.1 with
  | 0 => .int (Int32.ofInt v.2)
  | 1 => .long (Int64.ofInt v.2)
  | 2 => .ref v.2.toNat
  | _ => .null
abbrev mg_L : Type := List (Option mg_V)
abbrev mg_F : Type := Nat × mg_L × List mg_V
def mg_eL (L : mg_L) : mv_L := L.map (Option.map mg_e)
def mg_eS (S : List mg_V) : List Value := S.map mg_e
def mg_eF (f : mg_F) : mv_F := (f.1, mg_eL f.2.1, mg_eS f.2.2)
abbrev mg_R : Type := Option mg_V ⊕ Int
def mg_eR (r : mg_R) : mv_R := match r with
  | .inl v => .inl (v.map mg_e)
  | .inr a => .inr a.toNat
def mg_w (E : mv_E) (d j : Nat) (f : mg_F) (μ : mm_T) (Q : mg_R → mm_T → Prop) : Prop := ∃ n r μ', mt_run E n d j (mg_eF f) (mm_h E μ) = some (mg_eR r, mm_h E μ') ∧ Q r μ'
def mg_at (j pc : Nat) : Option (Nat × Instr) := match mt_ms[j]? with
  | some q => (match mv_at q pc with
    | some x => some (x.1, x.2.2)
    | none => none)
  | none => none
def mg_pl (i : Instr) : Bool := match i with
  | .return_ => false
  | .ireturn => false
  | .lreturn => false
  | .areturn => false
  | .instanceof _ => false
  | .invokestatic _ => false
  | .invokevirtual _ => false
  | .invokespecial _ => false
  | _ => true
theorem mg_pl_ret {i : Instr} {ty : Option FieldType} {S : List Value} (h : mg_pl i = true) : mv_ret ty i S = none := by
  cases i <;> first | rfl | cases h
theorem mg_pl_thr {i : Instr} {b : Nat} {cl : List mv_K} {S : List Value} {H : mv_H} (h : mg_pl i = true) : mv_thr b cl i S H = none := by
  cases i <;> first | rfl | cases h
theorem mg_pl_inv {i : Instr} {b : Nat} {M : List mv_J} {S : List Value} {H : mv_H} (h : mg_pl i = true) : mv_inv b M i S H = none := by
  cases i <;> first | rfl | cases h
section MGA
variable {E : mv_E} {d j : Nat} {f f' : mg_F} {μ μ' : mm_T} {Q Q' : mg_R → mm_T → Prop}
theorem mg_mono (h : mg_w E d j f μ Q) (hq : ∀ r μ', Q r μ' → Q' r μ') : mg_w E d j f μ Q' := by
  obtain ⟨n, r, μ2, h1, h2⟩ := h
  exact ⟨n, r, μ2, h1, hq _ _ h2⟩
theorem mg_at_of {pc len : Nat} {i : Instr} (hr : mg_at j pc = some (len, i)) : ∃ q real, mt_ms[j]? = some q ∧ mv_at q pc = some (len, real, i) := by
  unfold mg_at at hr
  split at hr
  · next q hq =>
    split at hr
    · next x hx =>
      cases hr
      exact ⟨q, x.2.1, hq, hx⟩
    · cases hr
  · cases hr
theorem mg_step {len : Nat} {i : Instr} (hr : mg_at j f.1 = some (len, i)) (hp : mg_pl i = true) (hs : mv_step E mt_cl mt_ty mt_as i (f.1 + len) (mg_eL f.2.1) (mg_eS f.2.2) (mm_h E μ) = some (mg_eF f', mm_h E μ')) (k : mg_w E d j f' μ' Q) : mg_w E d j f μ Q := by
  obtain ⟨n, r, μ2, h1, h2⟩ := k
  refine ⟨n + 1, r, μ2, ?_, h2⟩
  obtain ⟨q, real, hq, hx⟩ := mg_at_of hr
  rw [← h1]
  show mv_run E mt_cl mt_ty mt_as mt_nc mt_ms (n + 1) d j (mg_eF f) (mm_h E μ) = mv_run E mt_cl mt_ty mt_as mt_nc mt_ms n d j (mg_eF f') (mm_h E μ')
  rw [mv_run]
  simp only [hq]
  rw [show (mg_eF f).1 = f.1 from rfl, hx]
  simp only [mg_pl_ret hp, mg_pl_thr hp, mg_pl_inv hp]
  rw [show (mg_eF f).2.1 = mg_eL f.2.1 from rfl, show (mg_eF f).2.2 = mg_eS f.2.2 from rfl, hs]
end MGA
