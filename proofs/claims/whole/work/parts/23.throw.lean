section MVO
variable {G : List Cond} {cl : List mv_K} {tys : List FieldType} {asg nc : List (Nat × Nat)} {M : List mv_J} {g : mv_G} {E : mv_E}
theorem mv_chain_no (t : Term) : ∀ (names : List String) (X : String), Cond.isRef t ∉ Bundle.chain0Atoms X names
  | [], X => by simp [Bundle.chain0Atoms, Bundle.passAtoms]
  | Y :: r, X => by
    have ih := mv_chain_no t r Y
    simp only [Bundle.chain0Atoms, List.mem_append, not_or]
    exact ⟨by simp [Bundle.passAtoms], ih⟩
theorem mv_chain_no2 (x y z : String) : ∀ (names : List String) (X : String), Cond.laysStatic x y z ∉ Bundle.chain0Atoms X names
  | [], X => by simp [Bundle.chain0Atoms, Bundle.passAtoms]
  | Y :: r, X => by
    have ih := mv_chain_no2 x y z r Y
    simp only [Bundle.chain0Atoms, List.mem_append, not_or]
    exact ⟨by simp [Bundle.passAtoms], ih⟩
theorem mv_atoms_or {own : String} {ic : Nat} {X : String} {names : List String} {a : Cond} (ha : a ∈ Bundle.ownAtoms0 own ic X names) : a ∈ mv_atoms own ic X names ∨ a = .isRef (.static Bundle.tN "UNASSIGNED_STACK" Bundle.steD) ∨ a = .isRef (.static Bundle.tN "SUPPRESSED_SENTINEL" Bundle.listD) ∨ a = .laysStatic Bundle.tN "UNASSIGNED_STACK" Bundle.steD ∨ a = .laysStatic Bundle.tN "SUPPRESSED_SENTINEL" Bundle.listD := by
  cases a with
  | isRef t =>
    right
    simp only [Bundle.ownAtoms0, List.mem_append] at ha
    rcases ha with (h1 | h1) | h1
    · simp [Bundle.throwableAtoms] at h1
    · exact absurd h1 (mv_chain_no t names X)
    · simp at h1
      rcases h1 with h1 | h1 <;> simp [h1]
  | laysStatic x y z =>
    right
    simp only [Bundle.ownAtoms0, List.mem_append] at ha
    rcases ha with (h1 | h1) | h1
    · simp [Bundle.throwableAtoms] at h1
      rcases h1 with ⟨rfl, rfl, rfl⟩ | ⟨rfl, rfl, rfl⟩ <;> simp
    · exact absurd h1 (mv_chain_no2 x y z names X)
    · simp at h1
  | _ => exact Or.inl (List.mem_filter.mpr ⟨ha, rfl⟩)
theorem mv_z_word {C n d : String} {v : Value} {A : Nat → Prop} {args : Array Value} {U : State} (hv : mv_ref v = true) (h : va_Z C n d v A U U.heap) : (Cond.isRef (.static C n d)).before args U = true := by
  obtain ⟨cf, kf, fi, f, a, cell, h1, h2, h3, h4, h5, h6, h7, h8⟩ := h
  have he : ∀ o, (Term.static C n d).eval args U o [] U = some v := by
    intro o
    simp [Term.eval, State.fieldNamed?, h1, h2, h4, h5, h6, h7]
  simp only [Cond.before, Cond.holds, Cond.value, he]
  cases v <;> first | rfl | cases hv
theorem mv_same_old {s' U : State} {k n q : Nat} (hsame : s'.sameButNew ({ U with vm := s'.vm } : State) [] k n) (hq : q < s'.heap.size) : U.heap[q]? = s'.heap[q]? := by
  have h0 : s'.heap[q]? = some s'.heap[q] := Array.getElem?_eq_getElem hq
  obtain ⟨c', h1, h2, h3, h4⟩ := hsame.2.2.2.2.2 q _ h0
  have h1' : U.heap[q]? = some c' := h1
  rw [h1', h0, h2]
  congr 1
  have hsl : c'.slots = s'.heap[q].slots := Array.ext_getElem? (fun i => h4 i (by simp))
  rw [hsl]
set_option maxHeartbeats 4000000 in
/-- a new exception is made and thrown; nothing here takes it -/
theorem mw_throw {p : Program} {l : Launch} {e : Env} {R : Room} {s : State} {m : MethodId} {args : Array Value} {below : List Frame} {meth : Method} {c : Code} {H : Heap} {locs : List Loc} {ls : Array Slot} {d n0 z0 pc len ci : Nat} {S : List Value} {q : mv_J} {h : mv_H} {real : Instr} {K : mv_K} (hok : mv_OK cl tys asg M G) (C : mv_ctx cl tys G g E d q p e R s m args meth c) (hR : mv_rel cl g E.1 h H) (hF : mv_fr E.1 s.heap H locs) (hls : ls.size = mj_n q) (hd5 : 5 ≤ d)
    (hn0 : n0 ≤ h.length) (hz0 : z0 ≤ mv_sz cl h) (hK : cl[ci]? = some K) (hr1 : h.length + 1 - n0 ≤ R.cells) (hr2 : mv_sz cl h + 6 - z0 ≤ R.slots) (hS : (S.map fun v => v.category).sum ≤ 24) (hdec : decode (mj_b q) pc = .ok (real, len)) (hrow : mv_row cl tys G M q pc len real (.instanceof ci)) :
    W p l e R s m args below meth c H locs (h.length - n0) (mv_sz cl h - z0) (mv_End cl g E.1 (h ++ [.inr (ci, mv_def K)]) s below (h.length + 1 - n0) (mv_sz cl h + 6 - z0) (.inr (E.1 + h.length))) (F0 m pc ls S) := by
  obtain ⟨hx, htr, hts, hKn, hX, hsb, hZ, hnm, hmeth, hcode, hml, hret, hlocks, htab, hfr, hlo⟩ := id C
  obtain ⟨idx, ic, r, names, rfl, rfl, hr, hr6, hr0, hh0, hd3, hd4, hd7, w1, w2, hnl, hft, hfts, hat⟩ := hrow
  cases Option.some.inj (hr.symm.trans hK)
  have hown := findClass_of_methodNamed hnm
  intro T hT X
  have X0 := mv_rebase X (by omega) (by omega)
  have hal : s.vm.Alike (T.setFrames (.invoking m args :: below)).vm := X.warmed.alike
  have hts' : ∀ w ∈ G, w.before args (T.setFrames (.invoking m args :: below)) = true := fun w hw => mv_word_at (U := T.setFrames (.invoking m args :: below)) X.warmed (hok.2.1 w hw) (hts w hw)
  have hown' : (T.setFrames (.invoking m args :: below)).vm.findClass (mj_y q).cls = some m.cls := by rw [hal.findClass]; exact hown
  have hZ' : mv_zs E (T.setFrames (.invoking m args :: below)) T.heap := hZ.moved hal (fun z hz => by rw [hT]; exact hF.1 z hz)
  have hatoms : ∀ a ∈ Bundle.ownAtoms0 (mj_y q).cls ic K.1 names, a.before args (T.setFrames (.invoking m args :: below)) = true := by
    intro a ha
    rcases mv_atoms_or ha with h1 | rfl | rfl | rfl | rfl
    · exact hts' a (hat a h1)
    · obtain ⟨-, ⟨v, hv, z1⟩, -⟩ := hZ'
      exact mv_z_word hv z1
    · obtain ⟨-, -, v, hv, z1⟩ := hZ'
      exact mv_z_word hv z1
    · exact hZ'.1.2.1.word
    · exact hZ'.1.2.2.word
  have hins : (Cond.instantiable K.1 6).before args (T.setFrames (.invoking m args :: below)) = true := hatoms _ (by simp [Bundle.ownAtoms0])
  have hKn' := (hKn.1 _ _ hr).2.1
  have w : W p l e { frames := R.frames, cells := R.cells - (h.length - n0), slots := R.slots - (mv_sz cl h - z0), locals := R.locals } (T.setFrames (.invoking m args :: below)) m args below meth c T.heap [] 0 0 (fun U => U.status = .running ∧ Ended U below (.threw T.heap.size) ∧ (T.setFrames (.invoking m args :: below)).WarmedH U.vm ∧ (T.setFrames (.invoking m args :: below)).sameButNew ({ U with vm := (T.setFrames (.invoking m args :: below)).vm } : State) [] 1 6 ∧ ∃ ce, U.heap[T.heap.size]? = some ce ∧ (T.setFrames (.invoking m args :: below)).vm.findClass K.1 = some ce.cls ∧ ce.vm = .none) (F0 m pc ls S) := by
    refine W.newc hx hcode hown' (hts' _ w1) hins (hts' _ w2) rfl hdec (by show 0 + 1 ≤ R.cells - (h.length - n0); omega) (by show 0 + 6 ≤ R.slots - (mv_sz cl h - z0); omega) (fun cC kC g1 g2 g3 g4 => ?_)
    refine W.eq (g2 := F0 m (pc + 3) ls (.ref T.heap.size :: S)) rfl ?_
    refine lv_dup hx hcode hd3 rfl ?_
    intro T1 hT1 X1
    obtain ⟨U, st, hrun, hend, hWU, hsame, ce, hce, hoc⟩ := X1.ctorThrow0 hx htr (own := (mj_y q).cls) (cls := K.1) (names := names) (ic := ic) hown' hft hfts hatoms (fun x hx => by cases hx) g1 g2 (a := T.heap.size) (by rw [hT1]; simp) (Nat.le_refl _) (g := F0 m (pc + 4) ls (.ref T.heap.size :: .ref T.heap.size :: S)) rfl (by rw [hml]; exact hls) rfl rfl (rest := S) rfl (by rw [hcode]; exact hd4) (by rw [hcode]; exact hd7) (fun z hz => by rw [htab, hh0] at hz; cases hz) (by show names.length + 3 < R.frames; omega) (by show 2 * 0 + ((Value.ref T.heap.size :: S).map fun v => v.category).sum + (13 * (names.length + 1) + 41) ≤ R.locals; rw [List.map_cons, List.sum_cons, show (Value.ref T.heap.size).category = 1 from rfl]; omega) hlocks
    exact ⟨U, st, hrun, hend, hWU, hsame, ce, hce, hoc.cls, hoc.vm⟩
  obtain ⟨U, st, hrun, hend, hWU, hsame, ce, hce, hcc, hcv⟩ := w T rfl X0
  refine ⟨U, st, locs, ?_, ?_, hrun, ?_, State.WarmedH.trans X.warmed hWU, ?_⟩
  · have hRT : mv_rel cl g E.1 h T.heap := by rw [hT]; exact hR
    have hsz1 : T.heap.size ≤ U.heap.size ∧ U.heap.size ≤ T.heap.size + 1 := ⟨hsame.2.1, hsame.2.2.1⟩
    have hsz2 : T.heap.size < U.heap.size := (Array.getElem?_eq_some_iff.mp hce).1
    refine hRT.push ⟨K, hr, ce, hce, ?_, hcv, fun k hk => by rw [hr0] at hk; omega⟩ (by omega) (fun z hz => mv_same_old (s' := T.setFrames (.invoking m args :: below)) hsame hz)
    rw [hal.findClass] at hcc
    exact (Option.some.inj (hKn'.symm.trans hcc)).symm
  · refine ⟨fun z hz => ?_, hF.2⟩
    have hzT : z < T.heap.size := by rw [hT, hR.1]; omega
    rw [mv_same_old (s' := T.setFrames (.invoking m args :: below)) hsame hzT]
    show T.heap[z]? = _
    rw [hT]
    exact hF.1 z hz
  · have e9 : T.heap.size = E.1 + h.length := by rw [hT]; exact hR.1
    rw [← e9]
    exact hend
  · have h7 : T.sameButNew (U.setVm T.vm) [] 1 6 := by
      obtain ⟨q1, q2, q3, q4, q5, q6⟩ := hsame
      refine ⟨?_, q2, q3, q4, q5, q6⟩
      rw [State.setFrames_setFrames] at q1
      exact q1
    have h8 := X.same.trans (h7.setVm s.vm)
    rw [List.append_nil] at h8
    rw [show h.length + 1 - n0 = h.length - n0 + 1 by omega, show mv_sz cl h + 6 - z0 = mv_sz cl h - z0 + 6 by omega]
    exact h8
end MVO
