section MVN
variable {G : List Cond} {cl : List mv_K} {tys : List FieldType} {asg nc : List (Nat × Nat)} {M : List mv_J} {g : mv_G} {E : mv_E}
set_option maxHeartbeats 4000000 in
/-- into a callee, by its own run, and to its end -/
theorem mv_enter (hok : mv_OK cl tys asg M G) {p : Program} {l : Launch} {e : Env} {R : Room} {s : State} {m : MethodId} {args : Array Value} {below : List Frame} {meth : Method} {c : Code} {locs : List Loc} {ls : Array Slot} {n0 z0 d' pc len : Nat} {q : mv_J} {h h1 : mv_H} {r1 : mv_R} {S : List Value} {real i : Instr} {u : Nat × mv_J × List Value × List Value} {T : State}
    (C : mv_ctx cl tys G g E (d' + 1) q p e R s m args meth c) (hN : mv_nk nc cl s) (hR : mv_rel cl g E.1 h T.heap) (hF : mv_fr E.1 s.heap T.heap locs) (hls : ls.size = mj_n q) (hn0 : n0 ≤ h.length) (hz0 : z0 ≤ mv_sz cl h) (hm1 : h.length ≤ h1.length) (hm2 : mv_sz cl h ≤ mv_sz cl h1) (hr1 : h1.length - n0 ≤ R.cells) (hr2 : mv_sz cl h1 - z0 ≤ R.slots)
    (hd : decode (mj_b q) pc = .ok (real, len)) (hrow : mv_row cl tys G M q pc len real i) (hu : mv_inv E.1 M i S h = some u) (X : Stand p l e R s m args below meth c T locs (h.length - n0) (mv_sz cl h - z0))
    (ihs : ∀ {p : Program} {l : Launch} {e : Env} {R : Room} {s : State} {m : MethodId} {args : Array Value} {below : List Frame} {meth : Method} {c : Code} {H : Heap} {locs : List Loc} {ls : Array Slot} {n0 z0 : Nat}, mv_ctx cl tys G g E d' u.2.1 p e R s m args meth c → mv_nk nc cl s → mv_rel cl g E.1 h H → mv_fr E.1 s.heap H locs → mv_lrel ls (mj_n u.2.1) (mv_in (mj_n u.2.1) u.2.2.1) → n0 ≤ h.length → z0 ≤ mv_sz cl h → h1.length - n0 ≤ R.cells → mv_sz cl h1 - z0 ≤ R.slots →
      W p l e R s m args below meth c H locs (h.length - n0) (mv_sz cl h - z0) (mv_End cl g E.1 h1 s below (h1.length - n0) (mv_sz cl h1 - z0) r1) (F0 m 0 ls [])) :
    ∃ vm₁ mk t, Stand p l e R s m args below meth c (T.setVm vm₁) locs (h.length - n0) (mv_sz cl h - z0) ∧ mv_End cl g E.1 h1 ((T.setVm vm₁).calling (F0 m pc ls u.2.2.2) mk u.2.2.1.toArray) (.java (F0 m pc ls u.2.2.2) :: below) (h1.length - h.length) (mv_sz cl h1 - mv_sz cl h) r1 t ∧ ∀ target, Steps p.tables e below t target → Steps p.tables e below (T.setTop (F0 m pc ls S)) target := by
  obtain ⟨hx, htr, hts, hK, hX, hsb, hZ, hnm, hmeth, hcode, hml, hret, hlocks, htab, hfr, hlo⟩ := id C
  have hown := findClass_of_methodNamed hnm
  obtain ⟨hlen3, vm₁, mk, X₁, hnamed, hstep⟩ := mc_any hok X hx hts hK hR hown (ls := ls) (by rw [hcode]; exact hd) hrow hu
  obtain ⟨a1, a2, a3, a4, a5, a6⟩ := mv_inv_of hu
  have hj := (hok.2.2 _ _ a1).1
  obtain ⟨mk2, methk, ck, g1, g2, g3, g4, g5, g6, g7, g8, g9⟩ := mj_spec hts hj
  cases Option.some.inj (hnamed.symm.trans g1)
  have hW : s.WarmedH (T.setVm vm₁).vm := X₁.warmed
  have hvm : ((T.setVm vm₁).calling (F0 m pc ls u.2.2.2) mk u.2.2.1.toArray).vm = (T.setVm vm₁).vm := by simp [State.calling, State.pushFrame, State.setFrames, State.setTop, State.modifyTopJava]
  have hhp : ((T.setVm vm₁).calling (F0 m pc ls u.2.2.2) mk u.2.2.1.toArray).heap = T.heap := by simp [State.calling, State.pushFrame, State.setFrames, State.setTop, State.modifyTopJava, State.setVm]
  have hal : s.vm.Alike ((T.setVm vm₁).calling (F0 m pc ls u.2.2.2) mk u.2.2.1.toArray).vm := by rw [hvm]; exact hW.alike
  have hW' : s.WarmedH ((T.setVm vm₁).calling (F0 m pc ls u.2.2.2) mk u.2.2.1.toArray).vm := by rw [hvm]; exact hW
  have hn15 : mj_n u.2.1 ≤ 15 := hj.2.2.2.2.1
  have C' : mv_ctx cl tys G g E d' u.2.1 p e { frames := R.frames - 1, cells := R.cells - (h.length - n0), slots := R.slots - (mv_sz cl h - z0), locals := R.locals - 34 } ((T.setVm vm₁).calling (F0 m pc ls u.2.2.2) mk u.2.2.1.toArray) mk u.2.2.1.toArray methk ck := by
    refine ⟨hx, htr, fun w hw => mv_word_at hW' (hok.2.1 w hw) (hts w hw), hK.moved hal, ?_, hsb, ?_, ?_, ?_, g4, g5, g6, g7, g8, ?_, ?_⟩
    · rw [hhp]
      exact (hX.moved hal).kept (hF.1 _ hsb)
    · rw [hhp]
      exact hZ.moved hal hF.1
    · have h9 := X₁.named hnamed
      simpa [State.calling, State.pushFrame, State.setFrames, State.setTop, State.modifyTopJava, State.methodNamed?] using h9
    · rw [hal.method?]; exact g2
    · show d' + 1 ≤ R.frames - 1
      omega
    · show 34 * d' + 56 ≤ R.locals - 34
      omega
  have hpk : (T.setVm vm₁).plainMethod mk := State.plainMethod.of_named hj.2.2.1 (X₁.named hnamed) (by rw [hW.alike.method?]; exact g2)
  have w := ihs (below := .java (F0 m pc ls u.2.2.2) :: below) (n0 := h.length) (z0 := mv_sz cl h) (l := l) C' (hN.moved hal) (H := T.heap) (locs := []) (by exact hR) ⟨fun q hq => by rw [hhp], fun q hq => by cases hq⟩ (mv_in_rel a5) (Nat.le_refl _) (Nat.le_refl _) (by show h1.length - h.length ≤ R.cells - (h.length - n0); omega) (by show mv_sz cl h1 - mv_sz cl h ≤ R.slots - (mv_sz cl h - z0); omega)
  rw [Nat.sub_self, Nat.sub_self, ← lg_entry_eq, ← g5] at w
  obtain ⟨t, st, q9⟩ := mc_in X₁ (f := F0 m pc ls u.2.2.2) rfl (by rw [hml]; exact hls) (by rw [hcode]; exact hd) u.2.2.1.toArray (by rw [hW.alike.method?]; exact g2) g3 g7 hpk (by show R.frames - 1 + 1 ≤ R.frames; omega) (by show 2 * 0 + (u.2.2.2.map fun v => v.category).sum + (ck.maxLocals + 11) + (R.locals - 34) ≤ R.locals; rw [g5]; omega) (by show h.length - n0 + (R.cells - (h.length - n0)) ≤ R.cells; omega) (by show mv_sz cl h - z0 + (R.slots - (mv_sz cl h - z0)) ≤ R.slots; omega) w
  exact ⟨vm₁, mk, t, X₁, q9, fun target hs => hstep target (fun acts => (st acts).trans hs)⟩
end MVN
