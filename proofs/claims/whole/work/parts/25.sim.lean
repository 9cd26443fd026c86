section MVS2
variable {G : List Cond} {cl : List mv_K} {tys : List FieldType} {asg nc : List (Nat × Nat)} {M : List mv_J} {g : mv_G} {E : mv_E}
set_option maxHeartbeats 8000000 in
theorem mv_sim (hok : mv_OK cl tys asg M G) : ∀ (n d j : Nat) (f : mv_F) (h : mv_H) (r : mv_R) (h' : mv_H), mv_run E cl tys asg nc M n d j f h = some (r, h') → ∀ {q : mv_J}, M[j]? = some q → ∀ {p : Program} {l : Launch} {e : Env} {R : Room} {s : State} {m : MethodId} {args : Array Value} {below : List Frame} {meth : Method} {c : Code} {H : Heap} {locs : List Loc} {ls : Array Slot} {n0 z0 : Nat},
    mv_ctx cl tys G g E d q p e R s m args meth c → mv_nk nc cl s → mv_rel cl g E.1 h H → mv_fr E.1 s.heap H locs → mv_lrel ls (mj_n q) f.2.1 → n0 ≤ h.length → z0 ≤ mv_sz cl h → h'.length - n0 ≤ R.cells → mv_sz cl h' - z0 ≤ R.slots →
    W p l e R s m args below meth c H locs (h.length - n0) (mv_sz cl h - z0) (mv_End cl g E.1 h' s below (h'.length - n0) (mv_sz cl h' - z0) r) (F0 m f.1 ls f.2.2) := by
  intro n
  induction n with
  | zero => intro d j f h r h' hr; cases hr
  | succ n ih =>
    intro d j f h r h' hr q hq p l e R s m args below meth c H locs ls n0 z0 C hN hR hF hl hn0 hz0 hr1 hr2
    obtain ⟨hx, htr, hts, hK, hX, hsb, hZ, hnm, hmeth, hcode, hml, hret, hlocks, htab, hfr, hlo⟩ := id C
    have hown := findClass_of_methodNamed hnm
    have hin : meth.name = (mj_y q).name := (name_of_methodNamed hnm hmeth).1
    rw [mv_run] at hr
    simp only [hq] at hr
    split at hr
    · cases hr
    next x hx1 =>
    obtain ⟨len, real, i⟩ := x
    obtain ⟨hdec, hrow⟩ := (hok.2.2 _ _ hq).2 _ _ _ _ hx1
    have hjok := (hok.2.2 _ _ hq).1
    dsimp only at hr
    split at hr
    · next v hv =>
      cases hr
      have hd1 : decode (mj_b q) f.1 = .ok (i, 1) := by
        cases i with
        | return_ =>
          obtain ⟨e1, e2, -⟩ := hrow
          obtain ⟨rfl, rfl⟩ := mv_abs_ret e1 e2 (by simp)
          exact hdec
        | ireturn =>
          obtain ⟨e1, e2, -⟩ := hrow
          obtain ⟨rfl, rfl⟩ := mv_abs_ret e1 e2 (by simp)
          exact hdec
        | lreturn =>
          obtain ⟨e1, e2, -⟩ := hrow
          obtain ⟨rfl, rfl⟩ := mv_abs_ret e1 e2 (by simp)
          exact hdec
        | areturn =>
          obtain ⟨e1, e2, -⟩ := hrow
          obtain ⟨rfl, rfl⟩ := mv_abs_ret e1 e2 (by simp)
          exact hdec
        | _ => exact absurd hv (by simp [mv_ret])
      exact mv_ret_w hx hcode hret hlocks hd1 hv hR hF
    split at hr
    · next z hz =>
      split at hr
      rotate_left
      · cases hr
      next hd5 =>
      cases hr
      unfold mv_thr at hz
      split at hz
      · next ci hvv =>
        split at hz
        · next K hK1 =>
          split at hz
          · next hS =>
            cases hz
            obtain ⟨_, _, r6, _, _, _, g3, g4, _⟩ := id hrow
            cases Option.some.inj (g3.symm.trans hK1)
            have e1 : mv_cz cl (Sum.inr (ci, mv_def K) : mv_C) = 6 := by simp only [mv_cz, hK1, g4]
            rw [List.length_append, List.length_singleton] at hr1 ⊢
            rw [mv_sz_app, e1] at hr2 ⊢
            exact mw_throw hok C hR hF hl.1 hd5 hn0 hz0 hK1 hr1 hr2 hS hdec hrow
          · cases hz
        · cases hz
      · cases hz
    split at hr
    · next u hu =>
      split at hr
      · cases hr
      · next d' =>
        obtain ⟨a1, a2, a3, a4, a5, a6⟩ := mv_inv_of hu
        have hj' := (hok.2.2 _ _ a1).1
        split at hr
        · cases hr
        · next v h1 h1e =>
          have mo1 := mv_run_mono _ _ _ _ _ _ _ h1e
          have mo2 := mv_run_mono _ _ _ _ _ _ _ hr
          intro T hT X
          have hR' : mv_rel cl g E.1 h T.heap := by rw [hT]; exact hR
          have hF' : mv_fr E.1 s.heap T.heap locs := by rw [hT]; exact hF
          obtain ⟨vm₁, mk, t, X₁, q9, st9⟩ := mv_enter hok C hN hR' hF' hl.1 hn0 hz0 mo1.1 mo1.2 (by omega) (by omega) hdec hrow hu X (fun C2 N2 R2 F2 L2 i1 i2 i3 i4 => ih _ _ _ _ _ _ h1e a1 C2 N2 R2 F2 L2 i1 i2 i3 i4)
          obtain ⟨T1, locs1, X1, hR1, hF1, rfl⟩ := mc_back X₁ (f := F0 m f.1 ls u.2.2.2) rfl (by rw [hcode]; exact hdec) hF' q9
          have X1' : Stand p l e R s m args below meth c T1 locs1 (h1.length - n0) (mv_sz cl h1 - z0) := by
            rw [show h1.length - n0 = h.length - n0 + (h1.length - h.length) by omega, show mv_sz cl h1 - z0 = mv_sz cl h - z0 + (mv_sz cl h1 - mv_sz cl h) by omega]
            exact X1
          obtain ⟨t2, st2, q2⟩ := ih _ _ _ _ _ _ hr hq C hN hR1 hF1 hl (by omega) (by omega) hr1 hr2 T1 rfl X1'
          exact ⟨t2, st9 t2 st2, q2⟩
        · next a h1 h1e =>
          have mo1 := mv_run_mono _ _ _ _ _ _ _ h1e
          have mo2 : h1.length ≤ h'.length ∧ mv_sz cl h1 ≤ mv_sz cl h' := by
            split at hr
            · cases hr; exact ⟨Nat.le_refl _, Nat.le_refl _⟩
            · split at hr
              · exact mv_run_mono _ _ _ _ _ _ _ hr
              · cases hr
          intro T hT X
          have hR' : mv_rel cl g E.1 h T.heap := by rw [hT]; exact hR
          have hF' : mv_fr E.1 s.heap T.heap locs := by rw [hT]; exact hF
          obtain ⟨vm₁, mk, t, X₁, q9, st9⟩ := mv_enter hok C hN hR' hF' hl.1 hn0 hz0 mo1.1 mo1.2 (by omega) (by omega) hdec hrow hu X (fun C2 N2 R2 F2 L2 i1 i2 i3 i4 => ih _ _ _ _ _ _ h1e a1 C2 N2 R2 F2 L2 i1 i2 i3 i4)
          obtain ⟨T1, locs1, X1, hR1, hF1, rfl⟩ := mc_thrown X₁ (f := F0 m f.1 ls u.2.2.2) rfl hF' q9
          have X1' : Stand p l e R s m args below meth c T1 locs1 (h1.length - n0) (mv_sz cl h1 - z0) := by
            rw [show h1.length - n0 = h.length - n0 + (h1.length - h.length) by omega, show mv_sz cl h1 - z0 = mv_sz cl h - z0 + (mv_sz cl h1 - mv_sz cl h) by omega]
            exact X1
          split at hr
          · next hnil =>
            cases hr
            have hh0 : mj_hh q = [] := List.eq_nil_of_length_eq_zero (by rw [hjok.2.2.2.2.2.1, hnil]; rfl)
            obtain ⟨t2, st2, q2⟩ := mc_leave X1' a (f := F0 m f.1 ls u.2.2.2) rfl rfl rfl hlocks (fun z hz => by rw [htab, hh0] at hz; cases hz) hR1 hF1
            exact ⟨t2, st9 t2 st2, q2⟩
          · split at hr
            · next pc' hpc =>
              obtain ⟨T2, hT2, X2, st2⟩ := mw_catch hok hjok hN C X1' hR1 (f := F0 m f.1 ls u.2.2.2) rfl hpc
              obtain ⟨t3, st3, q3⟩ := ih _ _ _ _ _ _ hr hq C hN (H := T2.heap) (by rw [hT2]; exact hR1) (by rw [hT2]; exact hF1) hl (by omega) (by omega) hr1 hr2 T2 rfl X2
              exact ⟨t3, st9 t3 (st2 t3 st3), q3⟩
            · cases hr
    · split at hr
      · next z hz =>
        obtain ⟨f2, h2⟩ := z
        dsimp only at hr hz
        have mo1 := mv_step_mono hz
        have mo2 := mv_run_mono _ _ _ _ _ _ _ hr
        have hrow2 : mv_lnk cl tys G (mj_y q) f.1 len real i := by
          cases i with
          | invokestatic j2 => exact absurd hz (by simp [mv_step, mv_pure])
          | invokevirtual j2 => exact absurd hz (by simp [mv_step, mv_pure])
          | invokespecial j2 => exact absurd hz (by simp [mv_step, mv_pure])
          | instanceof j2 => exact absurd hz (by simp [mv_step, mv_pure])
          | _ => exact hrow
        refine mv_step_w hx hcode hml hts hok.1 hown hin hK hX hZ.1.1 hsb (by omega) (by omega) hdec hrow2 hz hl hn0 hz0 (by omega) (by omega) hR hF (fun H1 locs1 ls1 hR1 hF1 hl1 => ?_)
        exact ih _ _ _ _ _ _ hr hq C hN hR1 hF1 hl1 (by omega) (by omega) hr1 hr2
      · cases hr
end MVS2
