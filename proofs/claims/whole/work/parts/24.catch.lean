section MVC
variable {G : List Cond} {cl : List mv_K} {tys : List FieldType} {asg nc : List (Nat × Nat)} {M : List mv_J} {g : mv_G} {E : mv_E}
section
variable {e : Env} {s : State} {f : JFrame} {a : Addr} {d : Bool} {acts : List Action} {Q : Handler → Pre} {P : CtlPost}
/-- a clause's class is looked up, cold or warm -/
theorem mf_class {x : ExceptionTableEntry} {t : List ExceptionTableEntry} {c : ClassId} {cell : Cell} {vm' : Vm} (hx : covers x f.pc = true) (h0 : x.catchType ≠ 0) (hg : (Jvm.resolveClass f.method.cls x.catchType).Gives e.toSetting s.vm (.ok c) vm') (hsz : vm'.classes.size ≤ s.vm.classes.size)
    (hcell : s.heap[a]? = some cell) (hobj : ∀ k, cell.vm ≠ .statics k) (hk : ∃ k, vm'.classes[cell.cls]? = some k) (hc : ∃ k, vm'.classes[c]? = some k) :
    wp (findHandler.go f a (x :: t)) Q P e d acts s ↔ if vm'.assignable cell.cls c = true then Q (.found x.handlerPc) d acts (s.setVm vm') else wp (findHandler.go f a t) Q P e d acts (s.setVm vm') := by
  simp only [covers] at hx
  obtain ⟨ha, ht⟩ := hg.op (op := VmOp.resolveClass f.method.cls x.catchType) rfl
  cases hfit : vm'.assignable cell.cls c <;>
    simp [findHandler.go, hx, h0, ha, ht, hsz, hcell, hobj, hk, hc, hfit, VmOp.dirties, VmOp.acts]
end
/-- into a handler; the clauses' classes have been looked up on the way -/
theorem mv_caught {tb : Tables} {e : Env} {s target : State} {f : JFrame} {c : Code} {below : List Frame} {a : Addr} {vm' : Vm} {pc : Nat} (h : At s f.method c below)
    (hfind : ∀ (Q : Handler → Pre) (P : CtlPost) (d : Bool) (acts : List Action), wp (findHandler f a) Q P e d acts ((s.setTop f).pushFrame (.throwing a)) ↔ Q (.found pc) d acts (((s.setTop f).pushFrame (.throwing a)).setVm vm'))
    (hrest : Steps tb e below ((s.setVm vm').setTop { f with pc := pc, stack := [.ref a] }) target) : Steps tb e below ((s.setTop f).pushFrame (.throwing a)) target := by
  obtain ⟨hgo, hw⟩ := h.throwing a
  refine Steps.head hgo hw ?_
  have h1 : (stepThrowing e ((s.setTop f).pushFrame (.throwing a)) a (.java f :: s.frames.tail)).Is ((((s.setTop f).pushFrame (.throwing a)).setVm vm').setFrames (.java { f with pc := pc, stack := [.ref a] } :: s.frames.tail)) [] := by
    simp only [stepThrowing, searchFrame, vmDo]
    generalize hr : Sem.go _ e false [] ((s.setTop f).pushFrame (.throwing a)) = res
    obtain ⟨as, rfl, ha⟩ := Sem.eq_ok_of hr (a := Handler.found pc) (s' := ((s.setTop f).pushFrame (.throwing a)).setVm vm') (acts' := []) (by simp [hfind])
    exact ⟨rfl, ha⟩
  rw [stepThread_throwing (frames_entered h.top _), h1.1]
  obtain ⟨g₀, hg⟩ := Option.isSome_iff_exists.mp h.top
  obtain ⟨r, hr⟩ := State.topJava?_eq_some.mp hg
  have hr' : (s.setVm vm').frames = .java g₀ :: r := hr
  rw [State.setTop_of_frames _ hr'] at hrest
  rw [State.pushFrame, State.setTop_of_frames _ hr, State.setFrames_setFrames, hr]
  have e9 : ∀ X : List Frame, (s.setFrames X).setVm vm' = (s.setVm vm').setFrames X := fun _ => rfl
  rw [e9, State.setFrames_setFrames]
  exact hrest
theorem mv_seek_w {e : Env} {f : JFrame} {a : Addr} {s : State} {args : Array Value} {own : String} {ci pc' : Nat} {r0 : mv_K} {cell : Cell} (hN : mv_nk nc cl s) (hKn : mv_kn cl tys g s) (hts : ∀ w ∈ G, w.before args s = true) (hpl : e.platform.magicAccessors = ({} : Platform).magicAccessors) (hown : s.vm.findClass own = some f.method.cls) (hr0 : cl[ci]? = some r0) (hcls : cell.cls = g.1 ci) (hobj : cell.vm.isStatics = false) :
    ∀ (hh hr : List (Nat × Nat × Nat × Nat)), hh.length = hr.length → (∀ (i : Nat) (x y : Nat × Nat × Nat × Nat), hh[i]? = some x → hr[i]? = some y → mv_hok cl G own x y) → mv_seek nc ci f.pc hr = some pc' → ∀ (U : State), s.WarmedH U.vm → U.heap[a]? = some cell →
      ∃ vm', s.WarmedH vm' ∧ ∀ (Q : Handler → Pre) (P : CtlPost) (d : Bool) (acts : List Action), wp (findHandler.go f a (tableOf hh)) Q P e d acts U ↔ Q (.found pc') d acts (U.setVm vm') := by
  intro hh
  induction hh with
  | nil =>
    intro hr hlen hok hs U hW hc
    cases hr with
    | nil => cases hs
    | cons y r => simp at hlen
  | cons x t ih =>
    intro hr hlen hok hs U hW hc
    cases hr with
    | nil => simp at hlen
    | cons y r =>
      have hlen' : t.length = r.length := by simpa using hlen
      have hok' : ∀ (i : Nat) (x y : Nat × Nat × Nat × Nat), t[i]? = some x → r[i]? = some y → mv_hok cl G own x y := fun i x y h1 h2 => hok (i + 1) x y (by simpa using h1) (by simpa using h2)
      obtain ⟨o1, o2, o3, o4, ry, hry, hw⟩ := hok 0 x y rfl rfl
      have htab : tableOf (x :: t) = ⟨x.1, x.2.1, x.2.2.1, x.2.2.2⟩ :: tableOf t := rfl
      rw [htab]
      unfold mv_seek at hs
      split at hs
      · next hcov =>
        have hcv : covers (⟨x.1, x.2.1, x.2.2.1, x.2.2.2⟩ : ExceptionTableEntry) f.pc = true := by
          simp only [covers, Bool.and_eq_true, decide_eq_true_eq]
          rw [o1, o2]; exact hcov
        obtain ⟨c', hc', hcl⟩ := Cond.classLink_spec hown (hts _ hw) e.platform hpl
        have hcl₀ := hW.classLinks hcl
        obtain ⟨dk, _, _, kt, hd, _, _, _, _, hkt, _, hopen⟩ := hcl.here
        have hW' : s.WarmedH (U.vm.noted f.method.cls x.2.2.2 (.cls c')) := hW.noted hd hopen (State.rightAt_cls hcl)
        have hyC := (hKn.1 _ _ hry).2.1
        have h0C := (hKn.1 _ _ hr0).2
        cases Option.some.inj (hc'.symm.trans hyC)
        obtain ⟨k0, hk0, -⟩ := h0C.2
        obtain ⟨k0', hk0', -⟩ := hW'.alike.2.2 _ _ hk0
        obtain ⟨kt', hkt', -⟩ := hW'.alike.2.2 _ _ hkt
        have key := fun (Q : Handler → Pre) (P : CtlPost) (d : Bool) (acts : List Action) => mf_class (e := e) (s := U) (f := f) (a := a) (d := d) (acts := acts) (Q := Q) (P := P) (t := tableOf t) hcv o4 (resolveClass_links e.toSetting hcl₀) (by no_record) hc (VmData.noStatics_of hobj) ⟨k0', by rw [hcls]; exact hk0'⟩ ⟨kt', hkt'⟩
        split at hs
        · next heq =>
          cases hs
          refine ⟨_, hW', fun Q P d acts => ?_⟩
          rw [key, if_pos (by
            rw [hW'.alike.assignable, hcls, heq]
            exact va_assign h0C)]
          rw [o3]
        · split at hs
          · next hne hnc =>
            obtain ⟨rx, ry2, n1, n2, n3⟩ := hN ci y.2.2.2 (List.contains_iff_mem.mp hnc)
            cases Option.some.inj (n1.symm.trans hr0)
            cases Option.some.inj (n2.symm.trans hry)
            obtain ⟨cc, ct, f1, f2, f3⟩ := n3
            cases Option.some.inj (f1.symm.trans h0C.1)
            cases Option.some.inj (f2.symm.trans hyC)
            obtain ⟨vm2, hW2, hgo⟩ := ih r hlen' hok' hs (U.setVm (U.vm.noted f.method.cls x.2.2.2 (.cls (g.1 y.2.2.2)))) hW' hc
            refine ⟨vm2, hW2, fun Q P d acts => ?_⟩
            rw [key, if_neg (by rw [hW'.alike.assignable, hcls, f3]; decide), hgo]
            rfl
          · cases hs
      · next hcov =>
        have hcv : covers (⟨x.1, x.2.1, x.2.2.1, x.2.2.2⟩ : ExceptionTableEntry) f.pc = false := by
          cases h9 : covers (⟨x.1, x.2.1, x.2.2.1, x.2.2.2⟩ : ExceptionTableEntry) f.pc with
          | false => rfl
          | true =>
            simp only [covers, Bool.and_eq_true, decide_eq_true_eq] at h9
            rw [o1, o2] at h9
            exact absurd h9 hcov
        obtain ⟨vm2, hW2, hgo⟩ := ih r hlen' hok' hs U hW hc
        exact ⟨vm2, hW2, fun Q P d acts => by rw [W.findHandler_go_skip hcv, hgo]⟩
/-- the handler -/
theorem mw_catch {p : Program} {l : Launch} {e : Env} {R : Room} {s : State} {m : MethodId} {args : Array Value} {below : List Frame} {meth : Method} {c : Code} {T : State} {locs : List Loc} {cells slots d pc' a : Nat} {q : mv_J} {h : mv_H} {f : JFrame} (hok : mv_OK cl tys asg M G) (hj : mv_jok cl G q) (hN : mv_nk nc cl s) (C : mv_ctx cl tys G g E d q p e R s m args meth c) (X : Stand p l e R s m args below meth c T locs cells slots) (hR : mv_rel cl g E.1 h T.heap) (hg : f.method = m) (hfind : mv_find nc E.1 q f.pc h a = some pc') :
    ∃ T' : State, T'.heap = T.heap ∧ Stand p l e R s m args below meth c T' locs cells slots ∧ ∀ target, Steps p.tables e below (T'.setTop { f with pc := pc', stack := [.ref a] }) target → Steps p.tables e below ((T.setTop f).pushFrame (.throwing a)) target := by
  obtain ⟨hx, htr, hts, hKn, hX, hsb, hZ, hnm, hmeth, hcode, hml, hret, hlocks, htab, hfr, hlo⟩ := id C
  have hown := findClass_of_methodNamed hnm
  have hpl : e.platform.magicAccessors = ({} : Platform).magicAccessors := by rw [X.admits.platform]
  unfold mv_find at hfind
  split at hfind
  · next ci hci =>
    obtain ⟨V, hlk⟩ := mv_cof_of hci
    obtain ⟨r0, hr0, cell, c1, c2, c3, -⟩ := hR.at hlk
    obtain ⟨vm', hW', hgo⟩ := mv_seek_w (e := e) (f := f) (a := a) (s := s) hN hKn hts hpl (by rw [hg]; exact hown) hr0 c2 (by rw [c3]; rfl) (mj_hh q) (mj_hr q) hj.2.2.2.2.2.1 hj.2.2.2.2.2.2 hfind ((T.setTop f).pushFrame (.throwing a)) (by rw [Stand.throwing_vm]; exact X.warmed) (by rw [Stand.throwing_heap]; exact c1)
    have X' : Stand p l e R s m args below meth c (T.setVm vm') locs cells slots := X.noted hW'
    refine ⟨T.setVm vm', rfl, X', fun target hs => ?_⟩
    subst hg
    refine mv_caught X.here (vm' := vm') ?_ hs
    intro Q E d acts
    rw [W.findHandler_eq (meth := meth) (code := c) (by rw [Stand.throwing_vm]; exact X.method') X.code, htab]
    exact hgo Q E d acts
  · cases hfind
end MVC
