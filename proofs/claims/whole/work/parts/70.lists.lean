/-! what the lists' methods need beside: the empty array, class objects -/
section LST
variable {E : mv_E} {κ : mm_T} {d j pc pn : Nat} {L : mg_L} {S : List mg_V} {Q : nm_O → mm_T → Prop} {Qs : nm_O → mm_T → mm_T → Prop} {s ν : mm_T} {p l : Int} {n : Nat}
theorem nm_gets (hr : mg_at j pc = some (3, .getstatic n)) (hn : pc + 3 = pn) (kk : nm_w E d j (pn, L, (2, 9002) :: S) κ Q) : nm_w E d j (pc, L, S) κ Q := fun A μ hR hk => by
  subst hn
  refine mg_step (f' := (pc + 3, nm_l A L, (2, A 9002) :: nm_s A S)) (μ' := μ) hr rfl ?_ (kk A μ hR (nm_kf_cons (pc := 0) (fun _ => Or.inr (Or.inr (Or.inl rfl))) hk))
  show some ((pc + 3, mg_eL (nm_l A L), Value.ref E.2.2.2.2.1 :: mg_eS (nm_s A S)), mm_h E μ) = some ((pc + 3, mg_eL (nm_l A L), Value.ref (A 9002).toNat :: mg_eS (nm_s A S)), mm_h E μ)
  rw [hR.2.2.2.2.1.2.1, Int.toNat_natCast]
theorem nm_ldcM (hr : mg_at j pc = some (2, .ldc n)) (hn : pc + 2 = pn) (kk : nm_w E d j (pn, L, (2, 9003) :: S) κ Q) : nm_w E d j (pc, L, S) κ Q := fun A μ hR hk => by
  subst hn
  refine mg_step (f' := (pc + 2, nm_l A L, (2, A 9003) :: nm_s A S)) (μ' := μ) hr rfl ?_ (kk A μ hR (nm_kf_cons (pc := 0) (fun _ => Or.inr (Or.inr (Or.inr rfl))) hk))
  show some ((pc + 2, mg_eL (nm_l A L), Value.ref E.2.2.2.2.2 :: mg_eS (nm_s A S)), mm_h E μ) = some ((pc + 2, mg_eL (nm_l A L), Value.ref (A 9003).toNat :: mg_eS (nm_s A S)), mm_h E μ)
  rw [hR.2.2.2.2.1.2.2, Int.toNat_natCast]
theorem nm_getC (hr : mg_at j pc = some (3, .d2i)) (hn : pc + 3 = pn) (hk7 : κ p (-1) = 7) (hS : decide (((mg_eS S).map fun v => v.category).sum ≤ 24) = true) (kk : nm_w E d j (pn, L, (2, 9003) :: S) κ Q) : nm_w E d j (pc, L, (2, p) :: S) κ Q := fun A μ hR hk => by
  subst hn
  obtain ⟨ha, hr2⟩ := nm_ar (t := 7) hR hk7
  refine mg_step (f' := (pc + 3, nm_l A L, (2, A 9003) :: nm_s A S)) (μ' := μ) hr rfl ?_ (kk A μ hR (nm_kf_cons (pc := 0) (fun _ => Or.inr (Or.inr (Or.inr rfl))) (nm_kf_tail hk)))
  show (match mv_kof E.1 (mm_h E μ) (A p).toNat with | some t => if mt_ty[t]? = some (FieldType.object "java/lang/Object") ∧ ((mg_eS (nm_s A S)).map fun v => Value.category v).sum ≤ 24 then some ((pc + 3, mg_eL (nm_l A L), Value.ref E.2.2.2.2.2 :: mg_eS (nm_s A S)), mm_h E μ) else none | none => none) = some ((pc + 3, mg_eL (nm_l A L), Value.ref (A 9003).toNat :: mg_eS (nm_s A S)), mm_h E μ)
  rw [mm_kof (t := 7) (by omega) hr2]
  simp only []
  rw [if_pos ⟨rfl, by rw [nm_cat]; exact of_decide_eq_true hS⟩, hR.2.2.2.2.1.2.2, Int.toNat_natCast]
theorem sw_gets (hr : mg_at j pc = some (3, .getstatic n)) (hn : pc + 3 = pn) (kk : sw_w E d j (pn, L, (2, 9002) :: S) s ν Qs) : sw_w E d j (pc, L, S) s ν Qs := nm_gets hr hn kk
theorem sw_ldcM (hr : mg_at j pc = some (2, .ldc n)) (hn : pc + 2 = pn) (kk : sw_w E d j (pn, L, (2, 9003) :: S) s ν Qs) : sw_w E d j (pc, L, S) s ν Qs := nm_ldcM hr hn kk
theorem sw_getC (hr : mg_at j pc = some (3, .d2i)) (hn : pc + 3 = pn) (hk7 : s p (-1) = 7) (hS : decide (((mg_eS S).map fun v => v.category).sum ≤ 24) = true) (kk : sw_w E d j (pn, L, (2, 9003) :: S) s ν Qs) : sw_w E d j (pc, L, (2, p) :: S) s ν Qs := nm_getC hr hn (by rw [sw_s (by omega)]; exact hk7) hS kk
end LST
