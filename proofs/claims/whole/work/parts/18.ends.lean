/-! ends and calls, on the machine's side -/
def mv_oc (r : mv_R) : Outcome := match r with
  | .inl v => .returned v
  | .inr a => .threw a
def mv_End (cl : List mv_K) (g : mv_G) (b : Nat) (h : mv_H) (s : State) (below : List Frame) (nC nS : Nat) (r : mv_R) (t : State) : Prop := ∃ locs : List Loc, mv_rel cl g b h t.heap ∧ mv_fr b s.heap t.heap locs ∧ t.status = .running ∧ Ended t below (mv_oc r) ∧ s.WarmedH t.vm ∧ s.sameButNew ({ t with vm := s.vm } : State) locs nC nS
section MVE
variable {p : Program} {l : Launch} {e : Env} {R : Room} {s : State} {m : MethodId} {args : Array Value} {below : List Frame} {meth : Method} {c : Code} {H H0 : Heap} {locs : List Loc} {cells slots : Nat} {Q Q1 : State → Prop}
variable {cc : ByteArray} {pc n : Nat} {ls : Array Slot} {G : List Cond} {cl : List mv_K} {tys : List FieldType} {g : mv_G} {b : Nat} {h : mv_H} {S : List Value}
theorem mv_Wm {fr : JFrame} (hq : ∀ t, Q1 t → Q t) (w : W p l e R s m args below meth c H locs cells slots Q1 fr) : W p l e R s m args below meth c H locs cells slots Q fr := fun T hT X => by
  obtain ⟨t, a, b⟩ := w T hT X
  exact ⟨t, a, hq t b⟩
theorem mv_MQ {v : Option Value} (hR : mv_rel cl g b h H) (hF : mv_fr b s.heap H locs) : ∀ t, MQ below (fun _ _ o t => o = .returned v ∧ t.heap = H) args s cells slots (fun q => b ≤ q) t → mv_End cl g b h s below cells slots (.inl v) t := by
  intro t ⟨o, h1, h2, ⟨h3, h4⟩, L, ⟨_, h5, h6⟩, h7⟩
  subst h3
  exact ⟨L, by rw [h4]; exact hR, ⟨fun q hq => by rw [h4]; exact hF.1 q hq, h7⟩, h1, h2, h5, h6⟩
theorem mv_abs_ret {i real : Instr} {len : Nat} (hi : i = mv_abs pc real) (hl : mv_lok real len = true) (hk : i = .ireturn ∨ i = .lreturn ∨ i = .areturn ∨ i = .return_) : real = i ∧ len = 1 := by
  subst hi
  cases real <;> simp_all [mv_abs, mv_lok, mv_ln]
theorem mv_ret_w (hx : p.tables.exec = Jvm.exec) (hb : c.code = cc) {ty : Option FieldType} (hr : meth.sig.returnType = ty) (hlocks : meth.locks = false) {i : Instr} {v : Option Value} (hd : decode cc pc = .ok (i, 1)) (hv : mv_ret ty i S = some v) (hR : mv_rel cl g b h H) (hF : mv_fr b s.heap H locs) :
    W p l e R s m args below meth c H locs cells slots (mv_End cl g b h s below cells slots (.inl v)) (F0 m pc ls S) := by
  refine mv_Wm (mv_MQ (args := args) hR hF) ?_
  cases i with
  | return_ =>
    simp only [mv_ret] at hv
    split at hv
    · split at hv
      · cases hv
        exact W.vret hx hb hr (fun t ht _ => ⟨rfl, ht⟩) hF.2 hd
      · cases hv
    · cases hv
  | ireturn =>
    simp only [mv_ret] at hv
    split at hv
    · next x =>
      split at hv
      · cases hv
        exact W.iret hx hb hr (fun t ht _ => ⟨rfl, ht⟩) hF.2 hd
      · split at hv
        · next hfit =>
          cases hv
          exact W.zret (ty := .boolean) hx hb hr (mv_narrow hfit ⟨by decide, by decide, by decide⟩) (fun t ht _ => ⟨rfl, ht⟩) hF.2 hd
        · cases hv
      · cases hv
    · cases hv
  | lreturn =>
    simp only [mv_ret] at hv
    split at hv
    · split at hv
      · cases hv
        exact W.lret hx hb hr (fun t ht _ => ⟨rfl, ht⟩) hF.2 hd
      · cases hv
    · cases hv
  | areturn =>
    simp only [mv_ret] at hv
    split at hv
    · next x =>
      split at hv
      · next C =>
        split at hv
        · next hx1 =>
          cases hv
          refine W.aret (rt := .object C) hx hb hr (Or.inl ⟨C, rfl⟩) ?_ (fun t ht _ => ⟨rfl, ht⟩) hF.2 hd
          cases x <;> first | exact Or.inl rfl | exact Or.inr ⟨_, rfl⟩ | cases hx1
        · cases hv
      · next C =>
        split at hv
        · next hx1 =>
          cases hv
          refine W.aret (rt := .array C) hx hb hr (Or.inr ⟨C, rfl⟩) ?_ (fun t ht _ => ⟨rfl, ht⟩) hF.2 hd
          cases x <;> first | exact Or.inl rfl | exact Or.inr ⟨_, rfl⟩ | cases hx1
        · cases hv
      · cases hv
    · cases hv
  | _ => cases hv
theorem mv_weak {tb : Tables} {mid : List Frame} {x y : State} (hs : Steps tb e (mid ++ below) x y) : Steps tb e below x y := by
  obtain ⟨k, hk, w⟩ := hs
  exact ⟨k, hk, fun i hi => (w i hi).weaken⟩
/-- into a callee and to its end -/
theorem mc_in {T : State} (X : Stand p l e R s m args below meth c T locs cells slots) {f : JFrame} (hg : f.method = m) (hsize : f.locals.size = c.maxLocals) {ig : Instr} {len : Nat} (hdg : decode c.code f.pc = .ok (ig, len))
    {mk : MethodId} {methk : Method} {ck : Code} (a : Array Value) {R' : Room} (hmk : T.vm.method? mk = some methk) (hck : methk.code = some ck) (hlk : methk.locks = false) (hpk : T.plainMethod mk)
    (hframes : R'.frames + 1 ≤ R.frames) (hlocals : 2 * f.monitorRoom + (f.stack.map fun v => v.category).sum + (ck.maxLocals + 11) + R'.locals ≤ R.locals) (hcells : cells + R'.cells ≤ R.cells) (hslots : slots + R'.slots ≤ R.slots)
    (w : W p l e R' (T.calling f mk a) mk a (.java f :: below) methk ck T.heap [] 0 0 Q (entryFrame mk a ck.maxLocals)) : ∃ t, (∀ acts, Steps p.tables e below (doInvoke e (T.setTop f) acts mk a).1 t) ∧ Q t := by
  obtain ⟨Y₀, hin⟩ := X.into hg hsize hdg a (R' := R') hmk hck hlk hpk hframes hlocals hcells hslots
  obtain ⟨t, st, q⟩ := w _ (by simp [State.pushFrame, State.setFrames, State.setTop, State.modifyTopJava]) Y₀
  exact ⟨t, fun acts => by rw [hin acts]; exact mv_weak (mid := [.java f]) st, q⟩
/-- it returned -/
theorem mc_back {T : State} (X : Stand p l e R s m args below meth c T locs cells slots) {f : JFrame} (hg : f.method = m) {ig : Instr} {len : Nat} (hdg : decode c.code f.pc = .ok (ig, len)) {mk : MethodId} {a : Array Value} {v : Option Value} {h1 : mv_H} {kC kS : Nat} (hF : mv_fr b s.heap T.heap locs) {t : State} (ht : mv_End cl g b h1 (T.calling f mk a) (.java f :: below) kC kS (.inl v) t) :
    ∃ (T' : State) (locs' : List Loc), Stand p l e R s m args below meth c T' locs' (cells + kC) (slots + kS) ∧ mv_rel cl g b h1 T'.heap ∧ mv_fr b s.heap T'.heap locs' ∧ t = T'.setTop { f with pc := f.pc + len, stack := v.toList ++ f.stack } := by
  obtain ⟨L, e1, e2, e3, e4, e5, e6⟩ := ht
  obtain ⟨T', X', -, -, rfl⟩ := X.outOf hg hdg e4 e5 e6
  have hh : (T'.setTop { f with pc := f.pc + len, stack := v.toList ++ f.stack }).heap = T'.heap := by simp [State.setTop, State.modifyTopJava]
  have hh2 : (T.calling f mk a).heap = T.heap := by simp [State.calling, State.pushFrame, State.setFrames, State.setTop, State.modifyTopJava]
  rw [hh] at e1 e2
  rw [hh2] at e2
  refine ⟨T', locs ++ L, X', e1, ⟨fun q hq => (e2.1 q hq).trans (hF.1 q hq), fun q hq => ?_⟩, rfl⟩
  rcases List.mem_append.mp hq with h9 | h9
  · exact hF.2 q h9
  · exact e2.2 q h9
/-- it threw -/
theorem mc_thrown {T : State} (X : Stand p l e R s m args below meth c T locs cells slots) {f : JFrame} (hg : f.method = m) {mk : MethodId} {a : Array Value} {x : Nat} {h1 : mv_H} {kC kS : Nat} (hF : mv_fr b s.heap T.heap locs) {t : State} (ht : mv_End cl g b h1 (T.calling f mk a) (.java f :: below) kC kS (.inr x) t) :
    ∃ (T' : State) (locs' : List Loc), Stand p l e R s m args below meth c T' locs' (cells + kC) (slots + kS) ∧ mv_rel cl g b h1 T'.heap ∧ mv_fr b s.heap T'.heap locs' ∧ t = (T'.setTop f).pushFrame (.throwing x) := by
  obtain ⟨L, e1, e2, e3, e4, e5, e6⟩ := ht
  obtain ⟨T', X', -, -, rfl⟩ := X.outOfThrown hg e4 e5 e6
  have hh : ((T'.setTop f).pushFrame (.throwing x)).heap = T'.heap := by simp [State.pushFrame, State.setFrames, State.setTop, State.modifyTopJava]
  have hh2 : (T.calling f mk a).heap = T.heap := by simp [State.calling, State.pushFrame, State.setFrames, State.setTop, State.modifyTopJava]
  rw [hh] at e1 e2
  rw [hh2] at e2
  refine ⟨T', locs ++ L, X', e1, ⟨fun q hq => (e2.1 q hq).trans (hF.1 q hq), fun q hq => ?_⟩, rfl⟩
  rcases List.mem_append.mp hq with h9 | h9
  · exact hF.2 q h9
  · exact e2.2 q h9
/-- nothing here takes it: the method ends -/
theorem mc_leave {T : State} (X : Stand p l e R s m args below meth c T locs cells slots) (x : Nat) {f : JFrame} (hg : f.method = m) (hlocked : f.locked = none) (hent : f.entered = []) (hlocks : meth.locks = false) (hout : ∀ z ∈ c.exceptionTable.toList, covers z f.pc = false) (hR : mv_rel cl g b h T.heap) (hF : mv_fr b s.heap T.heap locs) :
    ∃ t, Steps p.tables e below ((T.setTop f).pushFrame (.throwing x)) t ∧ mv_End cl g b h s below cells slots (.inr x) t := by
  obtain ⟨a1, a2, a3, a4, a5⟩ := X.leaveThrown x hg hlocked hent hout hlocks
  have hh : (T.setFrames (.throwing x :: below)).heap = T.heap := by simp [State.setFrames]
  exact ⟨_, a1, locs, by rw [hh]; exact hR, by rw [hh]; exact hF, a2, a3, a4, a5⟩
end MVE
