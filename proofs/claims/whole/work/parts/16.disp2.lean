section MVX
variable {p : Program} {l : Launch} {e : Env} {R : Room} {s : State} {m : MethodId} {args : Array Value} {below : List Frame} {meth : Method} {c : Code} {H H0 : Heap} {locs : List Loc} {Q : State → Prop}
variable {cc : ByteArray} {pc n : Nat} {ls : Array Slot} {G : List Cond} {cl : List mv_K} {tys : List FieldType} {asg : List (Nat × Nat)} {g : mv_G} {E : mv_E} {h h' : mv_H} {L : mv_L} {S : List Value} {y : MethodName}
/-- what is told of the tables' constants -/
def mv_cok (cl : List mv_K) (tys : List FieldType) (asg : List (Nat × Nat)) (G : List Cond) : Prop := (∀ (ci : Nat) (r : mv_K), cl[ci]? = some r → mv_clok G r) ∧ ∀ ci t, (ci, t) ∈ asg → ∃ r C, cl[ci]? = some r ∧ tys[t]? = some (.object C) ∧ (r.1 = C ∨ Cond.castable r.1 C ∈ G)
theorem mv_cof_of {b : Nat} {h : mv_H} {a ci : Nat} (hc : mv_cof b h a = some ci) : ∃ V, mv_lk b h a = some (.inr (ci, V)) := by
  unfold mv_cof at hc
  split at hc
  · next y hy => cases hc; exact ⟨y.2, hy⟩
  · cases hc
theorem mv_kof_of {b : Nat} {h : mv_H} {a t : Nat} (hc : mv_kof b h a = some t) : ∃ N f, mv_lk b h a = some (.inl (t, N, f)) := by
  unfold mv_kof at hc
  split at hc
  · next y hy => cases hc; exact ⟨y.2.1, y.2.2, hy⟩
  · cases hc
set_option maxHeartbeats 8000000 in
theorem mv_step_w (hx : p.tables.exec = Jvm.exec) (hb : c.code = cc) (hml : c.maxLocals = n) (hts : ∀ w ∈ G, w.before args s = true) (hcok : mv_cok cl tys asg G) (hown : s.vm.findClass y.cls = some m.cls) (hin : meth.name = y.name) (hK : mv_kn cl tys g s) (hX : va_X E.2.1 E.2.2.1 E.2.2.2.1 s H0) (hJ : mv_js E s H0) (hsb : E.2.1 < E.1)
    (hfr : 1 ≤ R.frames) (hlo : 56 ≤ R.locals)
    {real i : Instr} {len : Nat} (hd : decode cc pc = .ok (real, len)) (hlk : mv_lnk cl tys G y pc len real i) {f : mv_F} (hst : mv_step E cl tys asg i (pc + len) L S h = some (f, h')) (hl : mv_lrel ls n L)
    {n0 z0 : Nat} (hn0 : n0 ≤ h.length) (hz0 : z0 ≤ mv_sz cl h) (hr1 : h'.length - n0 ≤ R.cells) (hr2 : mv_sz cl h' - z0 ≤ R.slots) (hR : mv_rel cl g E.1 h H) (hF : mv_fr E.1 H0 H locs)
    (k : ∀ (H1 : Heap) (locs1 : List Loc) (ls' : Array Slot), mv_rel cl g E.1 h' H1 → mv_fr E.1 H0 H1 locs1 → mv_lrel ls' n f.2.1 → W p l e R s m args below meth c H1 locs1 (h'.length - n0) (mv_sz cl h' - z0) Q (F0 m f.1 ls' f.2.2)) : W p l e R s m args below meth c H locs (h.length - n0) (mv_sz cl h - z0) Q (F0 m pc ls S) := by
  have hcl := hcok.1
  have pure_case : ∀ {i : Instr}, i = mv_abs pc real → mv_lok real len = true → mv_nn i = true → (match mv_pure i (pc + len) L S with | some f => some (f, h) | none => none) = some (f, h') → W p l e R s m args below meth c H locs (h.length - n0) (mv_sz cl h - z0) Q (F0 m pc ls S) := by
    intro i e1 e2 e3 e4
    subst e1
    split at e4
    · next f2 hf2 =>
      cases e4
      exact mv_pure_w hx hb hd e2 e3 hf2 hl (fun ls' hl' => k H locs ls' hR hF hl')
    · cases e4
  cases i with
  | getfield w =>
    obtain ⟨idx, rfl, rfl, hf⟩ := hlk
    simp only [mv_step] at hst
    split at hst
    · next a r =>
      split at hst
      · next y2 hy2 =>
        split at hst
        · next hc =>
          cases hst
          obtain ⟨ci, V⟩ := y2
          obtain rfl : ci = w / 64 := hc
          exact mh_get hx hb hts hcl hown hK hR hf hy2 hd (k H locs ls hR hF hl)
        · cases hst
      · cases hst
    · cases hst
  | putfield w =>
    obtain ⟨idx, rfl, rfl, hf, hfin⟩ := hlk
    simp only [mv_step] at hst
    split at hst
    · next v a r =>
      split at hst
      · next y2 hy2 =>
        split at hst
        · next K hKc =>
          split at hst
          · next ty hty =>
            split at hst
            · next hc =>
              cases hst
              obtain ⟨ci, V⟩ := y2
              obtain ⟨rfl, h2, h3⟩ : ci = w / 64 ∧ fits ty v = true ∧ mv_tS ty = true := hc
              refine mh_put hx hb hts hcl hown hK hR hF hf hKc hty h2 (mv_tS_of h3) (fun q => ?_) hy2 hd (fun H1 locs1 hR1 hF1 => ?_)
              · obtain ⟨q1, q2⟩ := hfin K hKc q
                exact ⟨hin.trans q1, q2⟩
              · have k2 := k H1 locs1 ls hR1 hF1 hl
                rw [mv_up_len, mv_up_szO cl hy2] at k2
                exact k2
            · cases hst
          · cases hst
        · cases hst
      · cases hst
    · cases hst
  | new ci =>
    obtain ⟨idx, r, rfl, rfl, hr, w1, w2, w3⟩ := hlk
    simp only [mv_step, hr] at hst
    cases hst
    have e1 : mv_cz cl (Sum.inr (ci, mv_def r) : mv_C) = r.2.2.2.1 := by simp only [mv_cz, hr]
    rw [List.length_append, List.length_singleton] at hr1
    rw [mv_sz_app, e1] at hr2
    refine mh_new hx hb hts hcl hown hK hR hF hr w1 w2 w3 (by omega) (by omega) hd (fun H1 hR1 hF1 => ?_)
    have k2 := k H1 locs ls hR1 hF1 hl
    rw [List.length_append, List.length_singleton, mv_sz_app, e1] at k2
    rw [show h.length - n0 + 1 = h.length + 1 - n0 by omega, show mv_sz cl h - z0 + r.2.2.2.1 = mv_sz cl h + r.2.2.2.1 - z0 by omega]
    exact k2
  | newarray at_ =>
    obtain ⟨rfl, rfl, ht, w1⟩ := hlk
    simp only [mv_step] at hst
    split at hst
    · next x r =>
      split at hst
      · next hc =>
        cases hst
        rw [List.length_append, List.length_singleton] at hr1
        rw [mv_sz_app] at hr2
        simp only [mv_cz] at hr2
        refine mh_newa hx hb hts hK hR hF ht w1 hc.1 hc.2 (by omega) (by omega) hd (fun H1 hR1 hF1 => ?_)
        have k2 := k H1 locs ls hR1 hF1 hl
        rw [List.length_append, List.length_singleton, mv_sz_app] at k2
        simp only [mv_cz] at k2
        rw [show h.length - n0 + 1 = h.length + 1 - n0 by omega, show mv_sz cl h - z0 + x.toNatClampNeg = mv_sz cl h + x.toNatClampNeg - z0 by omega]
        exact k2
      · cases hst
    · cases hst
  | anewarray t =>
    obtain ⟨idx, C, rfl, rfl, ht, w1, w2⟩ := hlk
    simp only [mv_step] at hst
    split at hst
    · next x r =>
      split at hst
      · next hc =>
        cases hst
        rw [List.length_append, List.length_singleton] at hr1
        rw [mv_sz_app] at hr2
        simp only [mv_cz] at hr2
        refine mh_newq hx hb hts hown hK hR hF ht w1 w2 hc.1 hc.2 (by omega) (by omega) hd (fun H1 hR1 hF1 => ?_)
        have k2 := k H1 locs ls hR1 hF1 hl
        rw [List.length_append, List.length_singleton, mv_sz_app] at k2
        simp only [mv_cz] at k2
        rw [show h.length - n0 + 1 = h.length + 1 - n0 by omega, show mv_sz cl h - z0 + x.toNatClampNeg = mv_sz cl h + x.toNatClampNeg - z0 by omega]
        exact k2
      · cases hst
    · cases hst
  | arraylength =>
    obtain ⟨rfl, rfl⟩ := hlk
    simp only [mv_step] at hst
    split at hst
    · next a r =>
      split at hst
      · next y2 hy2 =>
        split at hst
        · next ty hty =>
          cases hst
          exact mh_alen hx hb hK hR hty hy2 hd (k H locs ls hR hF hl)
        · cases hst
      · cases hst
      · split at hst
        · next hc =>
          cases hst
          subst hc
          exact mh_slen hx hb hX hsb hF hd (k H locs ls hR hF hl)
        · split at hst
          · next hc =>
            cases hst
            subst hc
            exact mh_elen hx hb hJ hF hd (k H locs ls hR hF hl)
          · cases hst
    · cases hst
  | iaload =>
    obtain ⟨rfl, rfl⟩ := hlk
    simp only [mv_step] at hst
    split at hst
    · next j a r =>
      split at hst
      · obtain ⟨w, hw, hz⟩ := mv_at_of hst
        cases hz
        obtain ⟨t, N, f2, ty, e1, e2, e3, e4, rfl⟩ := mv_rd_of hw
        obtain rfl := mv_tI_of e3
        exact mh_iald hx hb hK hR e2 e1 e4 hd (k H locs ls hR hF hl)
      · split at hst
        · next hc =>
          cases hst
          obtain ⟨rfl, hc2⟩ := hc
          exact mh_sld hx hb hX hsb hF hc2 hd (k H locs ls hR hF hl)
        · cases hst
    · cases hst
  | baload =>
    obtain ⟨rfl, rfl⟩ := hlk
    simp only [mv_step] at hst
    split at hst
    · next j a r =>
      obtain ⟨w, hw, hz⟩ := mv_at_of hst
      cases hz
      obtain ⟨t, N, f2, ty, e1, e2, e3, e4, rfl⟩ := mv_rd_of hw
      obtain rfl := mv_tZ_of e3
      exact mh_zald hx hb hK hR e2 e1 e4 hd (k H locs ls hR hF hl)
    · cases hst
  | laload =>
    obtain ⟨rfl, rfl⟩ := hlk
    simp only [mv_step] at hst
    split at hst
    · next j a r =>
      obtain ⟨w, hw, hz⟩ := mv_at_of hst
      cases hz
      obtain ⟨t, N, f2, ty, e1, e2, e3, e4, rfl⟩ := mv_rd_of hw
      obtain rfl := mv_tL_of e3
      exact mh_lald hx hb hK hR e2 e1 e4 hd (k H locs ls hR hF hl)
    · cases hst
  | aaload =>
    obtain ⟨rfl, rfl⟩ := hlk
    simp only [mv_step] at hst
    split at hst
    · next j a r =>
      obtain ⟨w, hw, hz⟩ := mv_at_of hst
      cases hz
      obtain ⟨t, N, f2, ty, e1, e2, e3, e4, rfl⟩ := mv_rd_of hw
      obtain ⟨C, rfl⟩ := mv_tA_of e3
      exact mh_aald hx hb hK hR e2 e1 e4 hd (k H locs ls hR hF hl)
    · cases hst
  | iastore =>
    obtain ⟨rfl, rfl⟩ := hlk
    simp only [mv_step] at hst
    split at hst
    · next x j a r =>
      obtain ⟨w, hw, hz⟩ := mv_to_of hst
      cases hz
      obtain ⟨t, N, f2, ty, e1, e2, e3, e4, rfl⟩ := mv_wr_of hw
      obtain rfl := mv_tI_of e3
      refine mh_iast hx hb hK hR hF e2 e1 e4 hd (fun H1 locs1 hR1 hF1 => ?_)
      have k2 := k H1 locs1 ls hR1 hF1 hl
      rw [mv_up_len, mv_up_szA cl e1] at k2
      exact k2
    · cases hst
  | bastore =>
    obtain ⟨rfl, rfl⟩ := hlk
    simp only [mv_step] at hst
    split at hst
    · next x j a r =>
      obtain ⟨w, hw, hz⟩ := mv_to_of hst
      cases hz
      obtain ⟨t, N, f2, ty, e1, e2, e3, e4, rfl⟩ := mv_wr_of hw
      obtain rfl := mv_tZ_of e3
      refine mh_zast hx hb hK hR hF e2 e1 e4 hd (fun H1 locs1 hR1 hF1 => ?_)
      have k2 := k H1 locs1 ls hR1 hF1 hl
      rw [mv_up_len, mv_up_szA cl e1] at k2
      exact k2
    · cases hst
  | lastore =>
    obtain ⟨rfl, rfl⟩ := hlk
    simp only [mv_step] at hst
    split at hst
    · next x j a r =>
      obtain ⟨w, hw, hz⟩ := mv_to_of hst
      cases hz
      obtain ⟨t, N, f2, ty, e1, e2, e3, e4, rfl⟩ := mv_wr_of hw
      obtain rfl := mv_tL_of e3
      refine mh_last hx hb hK hR hF e2 e1 e4 hd (fun H1 locs1 hR1 hF1 => ?_)
      have k2 := k H1 locs1 ls hR1 hF1 hl
      rw [mv_up_len, mv_up_szA cl e1] at k2
      exact k2
    · cases hst
  | aastore =>
    obtain ⟨rfl, rfl⟩ := hlk
    simp only [mv_step] at hst
    split at hst
    · next j a r =>
      obtain ⟨w, hw, hz⟩ := mv_to_of hst
      cases hz
      obtain ⟨t, N, f2, ty, e1, e2, e3, e4, rfl⟩ := mv_wr_of hw
      obtain ⟨C, rfl⟩ := mv_tA_of e3
      refine mh_aastN hx hb hK hR hF e2 e1 e4 hd (fun H1 locs1 hR1 hF1 => ?_)
      have k2 := k H1 locs1 ls hR1 hF1 hl
      rw [mv_up_len, mv_up_szA cl e1] at k2
      exact k2
    · next v j a r =>
      split at hst
      · next ci t hci ht =>
        split at hst
        · next hc =>
          obtain ⟨w, hw, hz⟩ := mv_to_of hst
          cases hz
          obtain ⟨t2, N, f2, ty, e1, e2, e3, e4, rfl⟩ := mv_wr_of hw
          obtain ⟨N3, f3, e5⟩ := mv_kof_of ht
          cases e1.symm.trans e5
          obtain ⟨V, e6⟩ := mv_cof_of hci
          obtain ⟨r2, C2, g1, g2, g3⟩ := hcok.2 ci t (List.contains_iff_mem.mp hc)
          refine mh_aast hx hb hts hK hR hF g2 e1 e6 g1 g3 e4 hd (fun H1 locs1 hR1 hF1 => ?_)
          have k2 := k H1 locs1 ls hR1 hF1 hl
          rw [mv_up_len, mv_up_szA cl e1] at k2
          exact k2
        · cases hst
      · cases hst
    · cases hst
  | checkcast ci =>
    obtain ⟨idx, r, rfl, rfl, hr, w1⟩ := hlk
    simp only [mv_step] at hst
    split at hst
    · next a r2 =>
      split at hst
      · next hc =>
        cases hst
        obtain ⟨V, e6⟩ := mv_cof_of hc
        exact mh_cast hx hb hts hown hK hR hr w1 e6 hd (k H locs ls hR hF hl)
      · cases hst
    · cases hst
  | ldc_w v =>
    rcases hlk with ⟨idx, rfl, rfl, w1⟩ | ⟨idx, rfl, rfl, w1⟩
    · cases hst
      exact W.ldc hx hb hown (hts _ w1) rfl hd (k H locs ls hR hF hl)
    · cases hst
      exact lv_ldcw hx hb hown (hts _ w1) hd (k H locs ls hR hF hl)
  | getstatic v =>
    obtain ⟨idx, rfl, rfl, w1⟩ := hlk
    cases hst
    exact mh_gets hx hb hts hown hJ hF w1 hd (k H locs ls hR hF hl)
  | ldc v =>
    obtain ⟨idx, rfl, rfl, w1⟩ := hlk
    cases hst
    exact va_ldcM hx hb hown (hts _ w1) hJ.2.2 hd (k H locs ls hR hF hl)
  | d2i =>
    obtain ⟨idx, rfl, rfl, w1, w2, w3, w4, w5⟩ := hlk
    simp only [mv_step] at hst
    split at hst
    · next a r =>
      split at hst
      · next t ht =>
        split at hst
        · next hc =>
          cases hst
          obtain ⟨N, f2, e5⟩ := mv_kof_of ht
          have hcell : H[a]? = some (arrV (g.2.2 t) N f2) := hR.at e5
          exact va_getC hx hb (by rw [hml]; exact hl.1.symm) hown (hts _ w1) (hts _ w2) (hts _ w3) (hts _ w4) (hts _ w5) hJ.2.2 ⟨_, hcell, rfl, va_nmO (hK.2 _ _ hc.1).2 rfl⟩ hfr (by omega) hd (k H locs ls hR hF hl)
        · cases hst
      · cases hst
    · cases hst
  | d2l =>
    obtain ⟨idx, rfl, rfl, w1, w2, w3, w4⟩ := hlk
    simp only [mv_step] at hst
    split at hst
    · next v dp d sp a r =>
      split at hst
      · next x y2 hx2 hy2 =>
        split at hst
        · next hc =>
          cases hst
          obtain ⟨c1, c2, c3, c4, c5, c6, c7, c8, e9⟩ := hc
          have e8 : nativeFrameWords "java/lang/System" "arraycopy" 5 ≤ 12 := by decide +kernel
          obtain ⟨x1, x2, x3⟩ := x
          obtain ⟨y1, y2, y3⟩ := y2
          refine mh_copyR hx hb (by rw [hml]; exact hl.1.symm) hts hown hK hR hF w1 w2 w3 w4 hx2 hy2 c6 c7 c1 c2 c3 c4 c5 (fun i hi => ?_) hfr (by omega) hd (fun H1 locs1 hR1 hF1 => ?_)
          · have h9 := c8 i hi
            unfold mv_elt at h9
            split at h9
            · next hv => exact Or.inl hv
            · next y hv =>
              split at h9
              · next ci hci =>
                obtain ⟨V, e6⟩ := mv_cof_of hci
                obtain ⟨r2, C2, g1, g2, g3⟩ := hcok.2 ci y1 (List.contains_iff_mem.mp h9)
                cases g2.symm.trans c7
                exact Or.inr ⟨y, ci, V, r2, hv, e6, g1, g3⟩
              · cases h9
            · cases h9
          have k2 := k H1 locs1 ls hR1 hF1 hl
          rw [mv_up_len, mv_up_szA cl hy2] at k2
          exact k2
        · cases hst
      · cases hst
    · cases hst
  | ldc2_w v =>
    obtain ⟨idx, rfl, rfl, w1⟩ := hlk
    cases hst
    exact lv_ldc2 hx hb hown (hts _ w1) hd (k H locs ls hR hF hl)
  | monitorexit =>
    obtain ⟨idx, rfl, rfl, w1, w2, w3⟩ := hlk
    simp only [mv_step] at hst
    split at hst
    · next a r =>
      split at hst
      · next hrest =>
        cases hst
        exact W.objInit hx hb hown (hts _ w1) (hts _ w2) (hts _ w3) rfl (by rw [hml]; exact hl.1) rfl hd hfr (by show 2 * 0 + _ + 12 ≤ _; omega) (k H locs ls hR hF hl)
      · cases hst
    · cases hst
  | monitorenter =>
    obtain ⟨idx, rfl, rfl, w1, w2, w3, w4⟩ := hlk
    simp only [mv_step] at hst
    split at hst
    · next v dp d sp a r =>
      split at hst
      · next x y2 hx2 hy2 =>
        split at hst
        · next hc =>
          cases hst
          obtain ⟨c1, c2, c3, c4, c5, c6, c7, c8, e9⟩ := hc
          have e8 : nativeFrameWords "java/lang/System" "arraycopy" 5 ≤ 12 := by decide +kernel
          obtain ⟨x1, x2, x3⟩ := x
          obtain ⟨y1, y2, y3⟩ := y2
          refine mh_copy hx hb (by rw [hml]; exact hl.1.symm) hts hown hK hR hF w1 w2 w3 w4 hx2 hy2 c6 c7 c1 c2 c3 c4 c5 c8 hfr (by omega) hd (fun H1 locs1 hR1 hF1 => ?_)
          have k2 := k H1 locs1 ls hR1 hF1 hl
          rw [mv_up_len, mv_up_szA cl hy2] at k2
          exact k2
        · cases hst
      · cases hst
    · cases hst
  | _ => exact pure_case hlk.1 hlk.2.1 hlk.2.2 hst
end MVX
