/-! what is told of the methods; calls -/
/-- a word that stays under warmer tables -/
def mv_gw (w : Cond) : Bool := match w with
  | .arrayOver _ => true
  | .declares _ => true
  | .castable _ _ => true
  | .methodLinkNest _ _ _ _ => true
  | w => goodWord w
theorem mv_word_at {args a' : Array Value} {s U : State} (hW : s.WarmedH U.vm) {w : Cond} (hc : mv_gw w = true) (h : w.before args s = true) : w.before a' U = true := by
  cases w with
  | arrayOver ty =>
    have h1 : (Cond.arrayOver ty).before args (s.setVm U.vm) = true := Cond.overAtom_setVm (State.Shifted.of_warmed hW).1 _ rfl h
    exact h1
  | declares x =>
    have h1 : (Cond.declares x).before args (s.setVm U.vm) = true := Cond.faceAtom_setVm (State.Shifted.of_warmed hW).1 _ rfl h
    rwa [Cond.onTables_vm (A' := a') (U' := U) U.vm (.declares x) rfl, State.setVm_self] at h1
  | castable x y =>
    have h1 : (Cond.castable x y).before args (s.setVm U.vm) = true := Cond.faceAtom_setVm (State.Shifted.of_warmed hW).1 _ rfl h
    rwa [Cond.onTables_vm (A' := a') (U' := U) U.vm (.castable x y) rfl, State.setVm_self] at h1
  | methodLinkNest x y z u =>
    have h1 := Cond.onTables_warmH (T := U) (args' := a') hW (c := .methodLinkNest x y z u) rfl rfl h
    rwa [State.setVm_self] at h1
  | _ => exact word_at hW (good_of_word hc) h
/-- the atoms that the throwing of a new exception of the class X leans on, but for two that speak of static fields -/
def mv_atoms (own : String) (ic : Nat) (X : String) (names : List String) : List Cond := (Bundle.ownAtoms0 own ic X names).filter fun w => match w with
  | .isRef _ => false
  | .laysStatic _ _ _ => false
  | _ => true
def mv_row (cl : List mv_K) (tys : List FieldType) (G : List Cond) (M : List mv_J) (q : mv_J) (pc len : Nat) (real i : Instr) : Prop := match i with
  | .invokestatic j => ∃ idx q', real = .invokestatic idx ∧ len = 3 ∧ M[j]? = some q' ∧ Cond.methodLink (mj_y q).cls idx (mj_y q') ∈ G ∧ Cond.static (mj_y q') ∈ G ∧ (parseMethodDescriptor (mj_y q').desc).map (fun d => d.parameters.length) = some (mj_a q')
  | .invokevirtual j => ∃ idx q' r, real = .invokevirtual idx ∧ len = 3 ∧ M[j]? = some q' ∧ Cond.methodLink (mj_y q).cls idx (mj_y q') ∈ G ∧ Cond.instanceMethod (mj_y q') ∈ G ∧ Cond.selects (mj_y q').cls (mj_y q') (mj_y q') ∈ G ∧ cl[mj_k q']? = some r ∧ r.1 = (mj_y q').cls ∧ (parseMethodDescriptor (mj_y q').desc).map (fun d => d.parameters.length + 1) = some (mj_a q')
  | .invokespecial j => ∃ idx q', real = .invokespecial idx ∧ len = 3 ∧ M[j]? = some q' ∧ (Cond.methodLink (mj_y q).cls idx (mj_y q') ∈ G ∨ ∃ host, Cond.methodLinkNest (mj_y q).cls idx (mj_y q') host ∈ G) ∧ Cond.instanceMethod (mj_y q') ∈ G ∧ (mj_y q').name = "<init>" ∧ Cond.code (mj_y q') (mj_b q') (mj_n q') none ∈ G ∧ (parseMethodDescriptor (mj_y q').desc).map (fun d => d.parameters.length + 1) = some (mj_a q')
  | .instanceof ci => ∃ idx ic r names, real = .new idx ∧ len = 3 ∧ cl[ci]? = some r ∧ r.2.2.2.1 = 6 ∧ r.2.2.1 = 0 ∧ mj_hh q = [] ∧ decode (mj_b q) (pc + 3) = .ok (.dup, 1) ∧ decode (mj_b q) (pc + 4) = .ok (.invokespecial ic, 3) ∧ decode (mj_b q) (pc + 7) = .ok (.athrow, 1) ∧ Cond.classLink (mj_y q).cls idx r.1 ∈ G ∧ Cond.initialized r.1 ∈ G ∧ names.length ≤ 2 ∧ Bundle.fit r.1 = true ∧ (∀ n ∈ names, Bundle.fit n = true) ∧ ∀ w ∈ mv_atoms (mj_y q).cls ic r.1 names, w ∈ G
  | i => mv_lnk cl tys G (mj_y q) pc len real i
def mv_hok (cl : List mv_K) (G : List Cond) (own : String) (a b : Nat × Nat × Nat × Nat) : Prop := a.1 = b.1 ∧ a.2.1 = b.2.1 ∧ a.2.2.1 = b.2.2.1 ∧ a.2.2.2 ≠ 0 ∧ ∃ r, cl[b.2.2.2]? = some r ∧ Cond.classLink own a.2.2.2 r.1 ∈ G
def mv_jok (cl : List mv_K) (G : List Cond) (q : mv_J) : Prop := (mj_hh q = [] ∧ Cond.code (mj_y q) (mj_b q) (mj_n q) (mj_r q) ∈ G ∨ Cond.codeWith (mj_y q) (mj_b q) (mj_n q) (mj_r q) (mj_hh q) ∈ G) ∧ Cond.initialized (mj_y q).cls ∈ G ∧ plainFor (mj_y q) = true ∧ ((mj_y q).cls ≠ "java/lang/invoke/MethodHandle" ∧ (mj_y q).cls ≠ "java/lang/invoke/VarHandle") ∧ mj_n q ≤ 15 ∧ (mj_hh q).length = (mj_hr q).length ∧ ∀ (i : Nat) (a b : Nat × Nat × Nat × Nat), (mj_hh q)[i]? = some a → (mj_hr q)[i]? = some b → mv_hok cl G (mj_y q).cls a b
def mv_OK (cl : List mv_K) (tys : List FieldType) (asg : List (Nat × Nat)) (M : List mv_J) (G : List Cond) : Prop := mv_cok cl tys asg G ∧ (∀ w ∈ G, mv_gw w = true) ∧ ∀ (j : Nat) (q : mv_J), M[j]? = some q → mv_jok cl G q ∧ ∀ pc len real i, mv_at q pc = some (len, real, i) → decode (mj_b q) pc = .ok (real, len) ∧ mv_row cl tys G M q pc len real i
section MVM
variable {p : Program} {l : Launch} {e : Env} {R : Room} {s : State} {m : MethodId} {args : Array Value} {below : List Frame} {meth : Method} {c : Code} {locs : List Loc} {cells slots : Nat}
variable {G : List Cond} {cl : List mv_K} {tys : List FieldType} {asg : List (Nat × Nat)} {M : List mv_J} {q : mv_J}
theorem mj_spec (hts : ∀ w ∈ G, w.before args s = true) (hj : mv_jok cl G q) : ∃ mk meth c, s.methodNamed? (mj_y q) = some mk ∧ s.vm.method? mk = some meth ∧ meth.code = some c ∧ c.code = mj_b q ∧ c.maxLocals = mj_n q ∧ meth.sig.returnType = mj_r q ∧ meth.locks = false ∧ c.exceptionTable.toList = tableOf (mj_hh q) ∧ parseMethodDescriptor (mj_y q).desc = some meth.sig := by
  rcases hj.1 with ⟨hh, hw⟩ | hw
  · obtain ⟨mk, hn⟩ := Cond.code_named (hts _ hw)
    obtain ⟨meth, c, h1, h2, h3, h4, h5, h6, h7, h8⟩ := Cond.code_spec hn (hts _ hw)
    refine ⟨mk, meth, c, hn, h1, h2, h3, h4, h5, h6, ?_, h8⟩
    have h0 : c.exceptionTable.size = 0 := by simpa [Array.isEmpty] using h7
    have h1' : c.exceptionTable.toList = [] := List.eq_nil_of_length_eq_zero (by simpa using h0)
    rw [hh, h1']
    rfl
  · obtain ⟨mk, meth, c, hn, h1, h2, h3, h4, h5, h6, h7, h8⟩ := Cond.codeWith_spec (hts _ hw)
    exact ⟨mk, meth, c, hn, h1, h2, h3, h4, h6, h7, by rw [← h5, table_eq], h8⟩
theorem mj_n_of {d : MethodDescriptor} {k : Nat} {D : String} (h : (parseMethodDescriptor D).map (fun d => d.parameters.length) = some k) (hd : parseMethodDescriptor D = some d) : d.parameters.length = k := by
  rw [hd] at h
  exact Option.some.inj h
theorem mj_n1_of {d : MethodDescriptor} {k : Nat} {D : String} (h : (parseMethodDescriptor D).map (fun d => d.parameters.length + 1) = some k) (hd : parseMethodDescriptor D = some d) : d.parameters.length + 1 = k := by
  rw [hd] at h
  exact Option.some.inj h
theorem mc_static {T : State} (X : Stand p l e R s m args below meth c T locs cells slots) (hx : p.tables.exec = Jvm.exec) (hts : ∀ w ∈ G, w.before args s = true) {own : String} (hown : s.vm.findClass own = some m.cls) {q' : mv_J} (hj : mv_jok cl G q') {idx : Nat} (w1 : Cond.methodLink own idx (mj_y q') ∈ G) (w2 : Cond.static (mj_y q') ∈ G) (hn : (parseMethodDescriptor (mj_y q').desc).map (fun d => d.parameters.length) = some (mj_a q'))
    {f : JFrame} (hg : f.method = m) {as rest : List Value} (hlen : as.length = mj_a q') (hstack : f.stack = as.reverse ++ rest) (hdg : decode c.code f.pc = .ok (.invokestatic idx, 3)) :
    ∃ vm₁ mk, Stand p l e R s m args below meth c (T.setVm vm₁) locs cells slots ∧ s.methodNamed? (mj_y q') = some mk ∧ ∀ target, (∀ acts, Steps p.tables e below (doInvoke e ((T.setVm vm₁).setTop { f with stack := rest }) acts mk as.toArray).1 target) → Steps p.tables e below (T.setTop f) target := by
  obtain ⟨mk, methM, cM, hnamed, hmethM, -, -, -, -, -, -, hsigM⟩ := mj_spec hts hj
  have hstatic : methM.isStatic = true := Cond.static_spec hnamed hmethM (hts _ w2)
  obtain ⟨kP, hkP, -⟩ := className_of_methodNamed hnamed
  have hinitP : kP.init = .initialized := Cond.initialized_spec (findClass_of_methodNamed hnamed) hkP (hts _ hj.2.1)
  obtain ⟨vm₁, X₁, hstep₁⟩ := X.invokestatic hx hown (hts _ w1) hnamed hmethM hstatic hkP hinitP hj.2.2.2.1 (g := f) hg (argsL := as) (rest := rest) (by rw [hlen, mj_n_of hn hsigM]) hstack hdg
  exact ⟨vm₁, mk, X₁, hnamed, hstep₁⟩
theorem mc_virtual {T : State} (X : Stand p l e R s m args below meth c T locs cells slots) (hx : p.tables.exec = Jvm.exec) (hts : ∀ w ∈ G, w.before args s = true) {own : String} (hown : s.vm.findClass own = some m.cls) {q' : mv_J} (hj : mv_jok cl G q') {idx : Nat} (w1 : Cond.methodLink own idx (mj_y q') ∈ G) (w2 : Cond.instanceMethod (mj_y q') ∈ G) (w3 : Cond.selects (mj_y q').cls (mj_y q') (mj_y q') ∈ G) (hn : (parseMethodDescriptor (mj_y q').desc).map (fun d => d.parameters.length + 1) = some (mj_a q'))
    {b : Nat} {cellB : Cell} (hcell : T.heap[b]? = some cellB) (hobj : cellB.vm.isStatics = false) (hcls : s.vm.findClass (mj_y q').cls = some cellB.cls)
    {f : JFrame} (hg : f.method = m) {as rest : List Value} (hlen : as.length + 1 = mj_a q') (hstack : f.stack = as.reverse ++ .ref b :: rest) (hdg : decode c.code f.pc = .ok (.invokevirtual idx, 3)) :
    ∃ vm₁ mk, Stand p l e R s m args below meth c (T.setVm vm₁) locs cells slots ∧ s.methodNamed? (mj_y q') = some mk ∧ ∀ target, (∀ acts, Steps p.tables e below (doInvoke e ((T.setVm vm₁).setTop { f with stack := rest }) acts mk (Value.ref b :: as).toArray).1 target) → Steps p.tables e below (T.setTop f) target := by
  obtain ⟨mk, methM, hnamed, hmethM, hstM, habM⟩ := Cond.instanceMethod_spec (hts _ w2)
  obtain ⟨mk2, methM2, cM, hnamed2, hmethM2, -, -, -, -, -, -, hsigM⟩ := mj_spec hts hj
  cases Option.some.inj (hnamed.symm.trans hnamed2)
  cases Option.some.inj (hmethM.symm.trans hmethM2)
  have hy := hj.2.2.2.1
  obtain ⟨c2, r2, m2, q1, q2, q3, q4, kP, hkP, hkPi⟩ := Cond.selects_spec (hts _ w3)
  cases hcls.symm.trans q1
  cases (State.methodFound?_of_named hnamed hy).symm.trans q2
  cases hnamed.symm.trans q3
  have hselP : selectMethod e.platform s.vm cellB.cls mk = .method mk := by rw [Launch.admits_selectMethod X.admits]; exact q4
  have hl2 := mj_n1_of hn hsigM
  obtain ⟨vm₁, X₁, hstep₁⟩ := X.invokevirtual hx hown (hts _ w1) hnamed hmethM hstM hkP hkPi hy (a := b) (cell := cellB) hcell
    (fun z h => by rw [h] at hobj; cases hobj) hselP hmethM habM hkP hkPi (g := f) hg (argsL := as) (rest := rest) (by omega) hstack hdg
  exact ⟨vm₁, mk, X₁, hnamed, hstep₁⟩
theorem mc_special {T : State} (X : Stand p l e R s m args below meth c T locs cells slots) (hx : p.tables.exec = Jvm.exec) (hts : ∀ w ∈ G, w.before args s = true) {own : String} (hown : s.vm.findClass own = some m.cls) {q' : mv_J} (hj : mv_jok cl G q') {idx : Nat} (w1 : Cond.methodLink own idx (mj_y q') ∈ G ∨ ∃ host, Cond.methodLinkNest own idx (mj_y q') host ∈ G) (w2 : Cond.instanceMethod (mj_y q') ∈ G) (hnm : (mj_y q').name = "<init>") (w3 : Cond.code (mj_y q') (mj_b q') (mj_n q') none ∈ G) (hn : (parseMethodDescriptor (mj_y q').desc).map (fun d => d.parameters.length + 1) = some (mj_a q'))
    {b : Nat} {f : JFrame} (hg : f.method = m) {as rest : List Value} (hlen : as.length + 1 = mj_a q') (hstack : f.stack = as.reverse ++ .ref b :: rest) (hdg : decode c.code f.pc = .ok (.invokespecial idx, 3)) :
    ∃ vm₁ mk, Stand p l e R s m args below meth c (T.setVm vm₁) locs cells slots ∧ s.methodNamed? (mj_y q') = some mk ∧ ∀ target, (∀ acts, Steps p.tables e below (doInvoke e ((T.setVm vm₁).setTop { f with stack := rest }) acts mk (Value.ref b :: as).toArray).1 target) → Steps p.tables e below (T.setTop f) target := by
  subst hg
  have hpl : e.platform.magicAccessors = ({} : Platform).magicAccessors := by rw [X.admits.platform]
  rcases w1 with w1 | ⟨host, w1⟩
  · obtain ⟨mk, methM, cM, kP, vm₁, hnamed, hmethM, hcodeM, -, hlocalsM, -, hkP, -, hW₁, hstep₁⟩ := Steps.initColdArgs (e := e) X.here hx X.warmed hpl hown hnm hj.2.2.2.1 (hts _ w1) (hts _ w2) (hts _ w3) (f := f) rfl (fun sig hs => by have := mj_n1_of hn hs; omega) hstack hdg
    exact ⟨vm₁, mk, X.noted hW₁, hnamed, hstep₁⟩
  · obtain ⟨mk, methM, cM, kP, vm₁, hnamed, hmethM, hcodeM, -, hlocalsM, -, hkP, -, hW₁, hstep₁⟩ := Steps.initColdArgsNest (e := e) X.here hx X.warmed hpl hown hnm hj.2.2.2.1 (hts _ w1) (hts _ w2) (hts _ w3) (f := f) rfl (fun sig hs => by have := mj_n1_of hn hs; omega) hstack hdg
    exact ⟨vm₁, mk, X.noted hW₁, hnamed, hstep₁⟩
end MVM
