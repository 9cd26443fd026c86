/-! the tables are told truly; the claim out of a run of the small machine -/
def mt_G : List Cond := mt_tb.filter mv_gw
def mt_P (q : mv_J) : Prop := mv_jok mt_cl mt_G q ∧ ∀ pc len real i, mv_at q pc = some (len, real, i) → decode (mj_b q) pc = .ok (real, len) ∧ mv_row mt_cl mt_ty mt_G mt_ms q pc len real i
theorem mt_lw : mt_P mj_Lw_law := by
  have hG : mt_G = mt_tb.filter mv_gw := rfl
  refine ⟨⟨Or.inl ⟨rfl, List.mem_filter.mpr ⟨List.mem_append_right _ (List.mem_singleton.mpr rfl), rfl⟩⟩, mb_mem mt_lini, by decide +kernel, ⟨by decide +kernel, by decide +kernel⟩, by decide, rfl, fun i a b h _ => ?_⟩, fun pc len real i hat => ?_⟩
  · exact absurd h (by show ¬ (([] : List (Nat × Nat × Nat × Nat))[i]? = some a); simp)
  · unfold mv_at at hat
    split at hat
    · next x hx =>
      cases hat
      have := mb_rows_ok _ _ mt_lrows pc x hx
      rwa [Nat.zero_add] at this
    · cases hat
set_option maxRecDepth 100000 in
theorem mt_all : ∀ q ∈ mt_ms, mt_P q := List.forall_mem_cons.mpr ⟨mb_meth_ok mt_m_0, List.forall_mem_cons.mpr ⟨mb_meth_ok mt_m_1, List.forall_mem_cons.mpr ⟨mb_meth_ok mt_m_2, List.forall_mem_cons.mpr ⟨mb_meth_ok mt_m_3, List.forall_mem_cons.mpr ⟨mb_meth_ok mt_m_4, List.forall_mem_cons.mpr ⟨mb_meth_ok mt_m_5, List.forall_mem_cons.mpr ⟨mb_meth_ok mt_m_6, List.forall_mem_cons.mpr ⟨mb_meth_ok mt_m_7, List.forall_mem_cons.mpr ⟨mb_meth_ok mt_m_8, List.forall_mem_cons.mpr ⟨mb_meth_ok mt_m_9, List.forall_mem_cons.mpr ⟨mb_meth_ok mt_m_10, List.forall_mem_cons.mpr ⟨mb_meth_ok mt_m_11, List.forall_mem_cons.mpr ⟨mb_meth_ok mt_m_12, List.forall_mem_cons.mpr ⟨mb_meth_ok mt_m_13, List.forall_mem_cons.mpr ⟨mb_meth_ok mt_m_14, List.forall_mem_cons.mpr ⟨mb_meth_ok mt_m_15, List.forall_mem_cons.mpr ⟨mb_meth_ok mt_m_16, List.forall_mem_cons.mpr ⟨mb_meth_ok mt_m_17, List.forall_mem_cons.mpr ⟨mb_meth_ok mt_m_18, List.forall_mem_cons.mpr ⟨mb_meth_ok mt_m_19, List.forall_mem_cons.mpr ⟨mb_meth_ok mt_m_20, List.forall_mem_cons.mpr ⟨mb_meth_ok mt_m_21, List.forall_mem_cons.mpr ⟨mb_meth_ok mt_m_22, List.forall_mem_cons.mpr ⟨mb_meth_ok mt_m_23, List.forall_mem_cons.mpr ⟨mb_meth_ok mt_m_24, List.forall_mem_cons.mpr ⟨mb_meth_ok mt_m_25, List.forall_mem_cons.mpr ⟨mb_meth_ok mt_m_26, List.forall_mem_cons.mpr ⟨mb_meth_ok mt_m_27, List.forall_mem_cons.mpr ⟨mb_meth_ok mt_m_28, List.forall_mem_cons.mpr ⟨mb_meth_ok mt_m_29, List.forall_mem_cons.mpr ⟨mb_meth_ok mt_m_30, List.forall_mem_cons.mpr ⟨mb_meth_ok mt_m_31, List.forall_mem_cons.mpr ⟨mb_meth_ok mt_m_32, List.forall_mem_cons.mpr ⟨mb_meth_ok mt_m_33, List.forall_mem_cons.mpr ⟨mb_meth_ok mt_m_34, List.forall_mem_cons.mpr ⟨mb_meth_ok mt_m_35, List.forall_mem_cons.mpr ⟨mb_meth_ok mt_m_36, List.forall_mem_cons.mpr ⟨mb_meth_ok mt_m_37, List.forall_mem_cons.mpr ⟨mb_meth_ok mt_m_38, List.forall_mem_cons.mpr ⟨mb_meth_ok mt_m_39, List.forall_mem_cons.mpr ⟨mb_meth_ok mt_m_40, List.forall_mem_cons.mpr ⟨mb_meth_ok mt_m_41, List.forall_mem_cons.mpr ⟨mb_meth_ok mt_m_42, List.forall_mem_cons.mpr ⟨mb_meth_ok mt_m_43, List.forall_mem_cons.mpr ⟨mb_meth_ok mt_m_44, List.forall_mem_cons.mpr ⟨mb_meth_ok mt_m_45, List.forall_mem_cons.mpr ⟨mb_meth_ok mt_m_46, List.forall_mem_cons.mpr ⟨mb_meth_ok mt_m_47, List.forall_mem_cons.mpr ⟨mb_meth_ok mt_m_48, List.forall_mem_cons.mpr ⟨mb_meth_ok mt_m_49, List.forall_mem_cons.mpr ⟨mb_meth_ok mt_m_50, List.forall_mem_cons.mpr ⟨mb_meth_ok mt_m_51, List.forall_mem_cons.mpr ⟨mb_meth_ok mt_m_52, List.forall_mem_cons.mpr ⟨mb_meth_ok mt_m_53, List.forall_mem_cons.mpr ⟨mb_meth_ok mt_m_54, List.forall_mem_cons.mpr ⟨mb_meth_ok mt_m_55, List.forall_mem_cons.mpr ⟨mb_meth_ok mt_m_56, List.forall_mem_cons.mpr ⟨mb_meth_ok mt_m_57, List.forall_mem_cons.mpr ⟨mb_meth_ok mt_m_58, List.forall_mem_cons.mpr ⟨mb_meth_ok mt_m_59, List.forall_mem_cons.mpr ⟨mb_meth_ok mt_m_60, List.forall_mem_cons.mpr ⟨mb_meth_ok mt_m_61, List.forall_mem_cons.mpr ⟨mb_meth_ok mt_m_62, List.forall_mem_cons.mpr ⟨mb_meth_ok mt_m_63, List.forall_mem_cons.mpr ⟨mb_meth_ok mt_m_64, List.forall_mem_cons.mpr ⟨mb_meth_ok mt_m_65, List.forall_mem_cons.mpr ⟨mb_meth_ok mt_m_66, List.forall_mem_cons.mpr ⟨mb_meth_ok mt_m_67, List.forall_mem_cons.mpr ⟨mb_meth_ok mt_m_68, List.forall_mem_cons.mpr ⟨mb_meth_ok mt_m_69, List.forall_mem_cons.mpr ⟨mb_meth_ok mt_m_70, List.forall_mem_cons.mpr ⟨mb_meth_ok mt_m_71, List.forall_mem_cons.mpr ⟨mb_meth_ok mt_m_72, List.forall_mem_cons.mpr ⟨mb_meth_ok mt_m_73, List.forall_mem_cons.mpr ⟨mb_meth_ok mt_m_74, List.forall_mem_cons.mpr ⟨mb_meth_ok mt_m_75, List.forall_mem_cons.mpr ⟨mb_meth_ok mt_m_76, List.forall_mem_cons.mpr ⟨mb_meth_ok mt_m_77, List.forall_mem_cons.mpr ⟨mb_meth_ok mt_m_78, List.forall_mem_cons.mpr ⟨mb_meth_ok mt_m_79, List.forall_mem_cons.mpr ⟨mb_meth_ok mt_m_80, List.forall_mem_cons.mpr ⟨mb_meth_ok mt_m_81, List.forall_mem_cons.mpr ⟨mb_meth_ok mt_m_82, List.forall_mem_cons.mpr ⟨mb_meth_ok mt_m_83, List.forall_mem_cons.mpr ⟨mb_meth_ok mt_m_84, List.forall_mem_cons.mpr ⟨mb_meth_ok mt_m_85, List.forall_mem_cons.mpr ⟨mb_meth_ok mt_m_86, List.forall_mem_cons.mpr ⟨mb_meth_ok mt_m_87, List.forall_mem_cons.mpr ⟨mb_meth_ok mt_m_88, List.forall_mem_cons.mpr ⟨mb_meth_ok mt_m_89, List.forall_mem_cons.mpr ⟨mb_meth_ok mt_m_90, List.forall_mem_cons.mpr ⟨mb_meth_ok mt_m_91, List.forall_mem_cons.mpr ⟨mb_meth_ok mt_m_92, List.forall_mem_cons.mpr ⟨mb_meth_ok mt_m_93, List.forall_mem_cons.mpr ⟨mb_meth_ok mt_m_94, List.forall_mem_cons.mpr ⟨mb_meth_ok mt_m_95, List.forall_mem_cons.mpr ⟨mb_meth_ok mt_m_96, List.forall_mem_cons.mpr ⟨mb_meth_ok mt_m_97, List.forall_mem_cons.mpr ⟨mb_meth_ok mt_m_98, List.forall_mem_cons.mpr ⟨mb_meth_ok mt_m_99, List.forall_mem_cons.mpr ⟨mb_meth_ok mt_m_100, List.forall_mem_cons.mpr ⟨mb_meth_ok mt_m_101, List.forall_mem_cons.mpr ⟨mb_meth_ok mt_m_102, List.forall_mem_cons.mpr ⟨mb_meth_ok mt_m_103, List.forall_mem_cons.mpr ⟨mb_meth_ok mt_m_104, List.forall_mem_cons.mpr ⟨mb_meth_ok mt_m_105, List.forall_mem_cons.mpr ⟨mb_meth_ok mt_m_106, List.forall_mem_cons.mpr ⟨mb_meth_ok mt_m_107, List.forall_mem_cons.mpr ⟨mb_meth_ok mt_m_108, List.forall_mem_cons.mpr ⟨mb_meth_ok mt_m_109, List.forall_mem_cons.mpr ⟨mb_meth_ok mt_m_110, List.forall_mem_cons.mpr ⟨mb_meth_ok mt_m_111, List.forall_mem_cons.mpr ⟨mb_meth_ok mt_m_112, List.forall_mem_cons.mpr ⟨mb_meth_ok mt_m_113, List.forall_mem_cons.mpr ⟨mb_meth_ok mt_m_114, List.forall_mem_cons.mpr ⟨mb_meth_ok mt_m_115, List.forall_mem_cons.mpr ⟨mb_meth_ok mt_m_116, List.forall_mem_cons.mpr ⟨mb_meth_ok mt_m_117, List.forall_mem_cons.mpr ⟨mb_meth_ok mt_m_118, List.forall_mem_cons.mpr ⟨mb_meth_ok mt_m_119, List.forall_mem_cons.mpr ⟨mb_meth_ok mt_m_120, List.forall_mem_cons.mpr ⟨mb_meth_ok mt_m_121, List.forall_mem_cons.mpr ⟨mb_meth_ok mt_m_122, List.forall_mem_cons.mpr ⟨mb_meth_ok mt_m_123, List.forall_mem_cons.mpr ⟨mb_meth_ok mt_m_124, List.forall_mem_cons.mpr ⟨mb_meth_ok mt_m_125, List.forall_mem_cons.mpr ⟨mb_meth_ok mt_m_126, List.forall_mem_cons.mpr ⟨mb_meth_ok mt_m_127, List.forall_mem_cons.mpr ⟨mb_meth_ok mt_m_128, List.forall_mem_cons.mpr ⟨mb_meth_ok mt_m_129, List.forall_mem_cons.mpr ⟨mb_meth_ok mt_m_130, List.forall_mem_cons.mpr ⟨mb_meth_ok mt_m_131, List.forall_mem_cons.mpr ⟨mb_meth_ok mt_m_132, List.forall_mem_cons.mpr ⟨mb_meth_ok mt_m_133, List.forall_mem_cons.mpr ⟨mb_meth_ok mt_m_134, List.forall_mem_cons.mpr ⟨mb_meth_ok mt_m_135, List.forall_mem_cons.mpr ⟨mb_meth_ok mt_m_136, List.forall_mem_cons.mpr ⟨mb_meth_ok mt_m_137, List.forall_mem_cons.mpr ⟨mb_meth_ok mt_m_138, List.forall_mem_cons.mpr ⟨mb_meth_ok mt_m_139, List.forall_mem_cons.mpr ⟨mt_lw, fun _ h => absurd h List.not_mem_nil⟩⟩⟩⟩⟩⟩⟩⟩⟩⟩⟩⟩⟩⟩⟩⟩⟩⟩⟩⟩⟩⟩⟩⟩⟩⟩⟩⟩⟩⟩⟩⟩⟩⟩⟩⟩⟩⟩⟩⟩⟩⟩⟩⟩⟩⟩⟩⟩⟩⟩⟩⟩⟩⟩⟩⟩⟩⟩⟩⟩⟩⟩⟩⟩⟩⟩⟩⟩⟩⟩⟩⟩⟩⟩⟩⟩⟩⟩⟩⟩⟩⟩⟩⟩⟩⟩⟩⟩⟩⟩⟩⟩⟩⟩⟩⟩⟩⟩⟩⟩⟩⟩⟩⟩⟩⟩⟩⟩⟩⟩⟩⟩⟩⟩⟩⟩⟩⟩⟩⟩⟩⟩⟩⟩⟩⟩⟩⟩⟩⟩⟩⟩⟩⟩⟩⟩⟩⟩⟩⟩⟩
theorem mt_cok : mv_cok mt_cl mt_ty mt_as mt_G := by
  refine ⟨fun ci r hr => ?_, fun ci t ht => ?_⟩
  · have hm : r ∈ mt_cl := List.mem_of_getElem? hr
    simp only [mt_cl, List.mem_cons, List.not_mem_nil, or_false] at hm
    rcases hm with rfl | rfl | rfl | rfl | rfl | rfl | rfl | rfl | rfl | rfl
    · exact mb_cl_ok mt_c_PT
    · exact mb_cl_ok mt_c_Br
    · exact mb_cl_ok mt_c_Ty
    · exact mb_cl_ok mt_c_Ca
    · exact mb_cl_ok mt_c_Rq
    · exact mb_cl_ok mt_c_St
    · exact mb_cl_ok mt_c_Mo
    · exact mb_cl_ok mt_c_Al
    · exact mb_cl_ok mt_c_Ia
    · exact mb_cl_ok mt_c_Is
  · simp only [mt_as, List.mem_cons, List.not_mem_nil, or_false, Prod.mk.injEq] at ht
    rcases ht with ⟨rfl, rfl⟩ | ⟨rfl, rfl⟩ | ⟨rfl, rfl⟩ | ⟨rfl, rfl⟩ | ⟨rfl, rfl⟩
    · exact ⟨mk_Br, _, rfl, rfl, Or.inl rfl⟩
    · exact ⟨mk_Ty, _, rfl, rfl, Or.inl rfl⟩
    · exact ⟨mk_Ca, _, rfl, rfl, Or.inl rfl⟩
    · exact ⟨mk_Rq, _, rfl, rfl, Or.inl rfl⟩
    · exact ⟨mk_Rq, _, rfl, rfl, Or.inr (mb_mem mt_cast)⟩
theorem mt_OK : mv_OK mt_cl mt_ty mt_as mt_ms mt_G := ⟨mt_cok, fun w hw => (List.mem_filter.mp hw).2, fun j q hj => mt_all q (List.mem_of_getElem? hj)⟩
/-- the small machine's run of the law -/
abbrev mt_run (E : mv_E) : Nat → Nat → Nat → mv_F → mv_H → Option (mv_R × mv_H) := mv_run E mt_cl mt_ty mt_as mt_nc mt_ms
/-- what is left to be shown: the law's run comes to its end with 1, in its room -/
def mt_goal : Prop := ∀ (E : mv_E), E.2.2.1 ≤ 3072 → E.2.1 < E.1 → E.2.2.2.2.1 < E.1 → E.2.2.2.2.1 ≠ E.2.1 → ∃ (n : Nat) (h' : mv_H), mt_run E n 11 140 (0, mv_in 8 [.ref E.2.1], []) [] = some (.inl (some (.int 1)), h') ∧ h'.length ≤ 600000 ∧ mv_sz mt_cl h' ≤ 7000000
theorem mt_in {k : Nat} {w : Cond} (h : mb_at mt_tb k w = true) : w ∈ mt_G := mb_mem h
theorem mt_inst : ∀ (ci : Nat) (r : mv_K), mt_cl[ci]? = some r → Cond.instantiable r.1 r.2.2.2.1 ∈ mt_G := by
  intro ci r hr
  have hm : r ∈ mt_cl := List.mem_of_getElem? hr
  simp only [mt_cl, List.mem_cons, List.not_mem_nil, or_false] at hm
  rcases hm with rfl | rfl | rfl | rfl | rfl | rfl | rfl | rfl | rfl | rfl
  · exact mt_in (k := 70) (by decide +kernel)
  · exact mt_in (k := 126) (by decide +kernel)
  · exact mt_in (k := 472) (by decide +kernel)
  · exact mt_in (k := 509) (by decide +kernel)
  · exact mt_in (k := 595) (by decide +kernel)
  · exact mt_in (k := 110) (by decide +kernel)
  · exact mt_in (k := 742) (by decide +kernel)
  · exact mt_in (k := 84) (by decide +kernel)
  · exact mt_in (k := 382) (by decide +kernel)
  · exact mt_in (k := 451) (by decide +kernel)
section MTK
variable {args : Array Value} {s : State}
theorem mt_arrP {ty : FieldType} (hp : va_RA s 0 ty = (s.vm.findClass ("[" ++ ty.toString) = some 0)) (hc : ∀ c, va_RA s c ty = (s.vm.findClass ("[" ++ ty.toString) = some c)) (h : (Cond.arrayClass ty).before args s = true) : ∃ cA : ClassId, ArrOfT s cA ty ∧ va_RA s cA ty := by
  obtain ⟨c, k, comp, h1, h2, h3⟩ := Cond.arrayClass_spec h
  exact ⟨c, fun n z => ⟨fun k h => (by cases h), k, h2, comp, h3⟩, by rw [hc]; exact h1⟩
theorem mt_arrO {C : String} (h : (Cond.arrayOver (.object C)).before args s = true) : ∃ cA : ClassId, ArrOfT s cA (.object C) ∧ va_RA s cA (.object C) := by
  obtain ⟨comp, c, k, h1, h2, h3, h4, h5⟩ := Cond.arrayOver_spec h
  exact ⟨c, fun n z => ⟨fun k h => (by cases h), k, h3, comp, h4⟩, k, comp, h3, h4, h1, h5⟩
theorem mt_kn (hts : ∀ w ∈ mt_G, w.before args s = true) : ∃ g : mv_G, mv_kn mt_cl mt_ty g s := by
  have h1 : ∀ ci : Nat, ∃ (x : ClassId × (Nat → Nat)), ∀ r, mt_cl[ci]? = some r → u_Kn s r.1 r.2.1 r.2.2.1 x.1 x.2 := by
    intro ci
    cases hr : mt_cl[ci]? with
    | none => exact ⟨(0, fun _ => 0), fun r h => by cases h⟩
    | some r =>
      obtain ⟨cC, iS, h⟩ := u_known hts (mt_cok.1 ci r hr).1 (hts _ (mt_inst ci r hr))
      exact ⟨(cC, iS), fun r' h' => by cases h'; exact h⟩
  have h2 : ∀ t : Nat, ∃ (cA : ClassId), ∀ ty, mt_ty[t]? = some ty → ArrOfT s cA ty ∧ va_RA s cA ty := by
    intro t
    cases ht : mt_ty[t]? with
    | none => exact ⟨0, fun r h => by cases h⟩
    | some ty =>
      have hm : ty ∈ mt_ty := List.mem_of_getElem? ht
      have h3 : ∃ cA : ClassId, ArrOfT s cA ty ∧ va_RA s cA ty := by
        simp only [mt_ty, List.mem_cons, List.not_mem_nil, or_false] at hm
        rcases hm with rfl | rfl | rfl | rfl | rfl | rfl | rfl | rfl
        · exact mt_arrP rfl (fun _ => rfl) (hts _ (mt_in (k := 125) (by decide +kernel)))
        · exact mt_arrP rfl (fun _ => rfl) (hts _ (mt_in (k := 841) (by decide +kernel)))
        · exact mt_arrP rfl (fun _ => rfl) (hts _ (mt_in (k := 842) (by decide +kernel)))
        · exact mt_arrO (hts _ (mt_in (k := 78) (by decide +kernel)))
        · exact mt_arrO (hts _ (mt_in (k := 80) (by decide +kernel)))
        · exact mt_arrO (hts _ (mt_in (k := 82) (by decide +kernel)))
        · exact mt_arrO (hts _ (mt_in (k := 515) (by decide +kernel)))
        · exact mt_arrO (hts _ (mt_in (k := 662) (by decide +kernel)))
      obtain ⟨cA, h4⟩ := h3
      exact ⟨cA, fun ty' h' => by cases h'; exact h4⟩
  refine ⟨(fun ci => (h1 ci).choose.1, fun ci => (h1 ci).choose.2, fun t => (h2 t).choose), fun ci r hr => (h1 ci).choose_spec r hr, fun t ty ht => (h2 t).choose_spec ty ht⟩
theorem mt_lst {C n d : String} (h : (Cond.laysStatic C n d).before args s = true) : mv_lst s.heap.size C n d s s.heap := by
  obtain ⟨c, k, i, f, a, cell, hc, hi, hst, ha, hcell, hs, hcls, hlt, hty⟩ := Cond.laysStatic_spec h
  exact ⟨c, k, i, f, a, cell, hc, hi, hst, ha, hcell, hs, hcls, hlt, hty, (Array.getElem?_eq_some_iff.mp hcell).1⟩
theorem mt_zr {C n d : String} (hl : (Cond.laysStatic C n d).before args s = true) (hini : (Cond.initialized C).before args s = true) (hr : (Cond.isRef (.static C n d)).before args s = true) : ∃ v, mv_ref v = true ∧ va_Z C n d v (fun q => s.heap.size ≤ q) s s.heap := by
  obtain ⟨v, hv, h2⟩ := Cond.isRef_spec hr
  refine ⟨v, ?_, va_Zof hl hini hv (fun a ha hq => absurd hq (Nat.not_le.mpr ha))⟩
  cases v <;> first | rfl | cases h2
end MTK
