/-! THE CLAIM OUT OF THE LAW'S RUN ON THE SMALL MACHINE -/
def R_law : String := "PlugTreeLaw"
def lw_P (b : Addr) (xs : List Int32) (args : Array Value) (s : State) : Prop := args = #[.ref b] ∧ s.IntsAt b xs ∧ xs.length ≤ 3072 ∧ (Jvm.Cond.and given_1 narrow_1).before args s = true
theorem lw_rc : 600000 ≤ room_1.cells := by decide
theorem lw_rs : 7000000 ≤ room_1.slots := by decide
def lw_Q (_ : Array Value) (s : State) (o : Outcome) (t : State) : Prop := o = .returned (some (.int 1)) ∧ Framed s o t [] room_1.cells room_1.slots
def lw_Z (below : List Frame) (a : Array Value) (s : State) : State → Prop := fun t => ∃ o, t.status = .running ∧ Ended t below o ∧ lw_Q a s o t
theorem mt_same {s t : State} {locs : List Loc} {k n K N : Nat} (h : s.sameButNew t locs k n) (hk : k ≤ K) (hn : n ≤ N) (hl : ∀ q ∈ locs, s.heap.size ≤ q.base) : s.sameButNew t [] K N := by
  obtain ⟨h1, h2, h3, h4, h5, h6⟩ := h
  refine ⟨h1, h2, Nat.le_trans h3 (by omega), h4, Nat.le_trans h5 hn, fun a c ha => ?_⟩
  obtain ⟨c', g1, g2, g3, g4⟩ := h6 a c ha
  refine ⟨c', g1, g2, g3, fun i _ => g4 i (fun hm => ?_)⟩
  have := hl _ hm
  have h7 := (Array.getElem?_eq_some_iff.mp ha).1
  exact absurd this (Nat.not_le.mpr h7)
theorem mt_start (hgoal : mt_goal) {p : Program} {e : Env} {s : State} {m : MethodId} {below : List Frame} {meth : Method} {c : Code} (l : Launch) {b L : Nat} {xs : Nat → Int32} (hL : L ≤ 3072) (hx : p.tables.exec = Jvm.exec) (hcode : c.code = code) (hret : meth.sig.returnType = ret) (hml : c.maxLocals = 8) (hnamed : s.methodNamed? x = some m) (hmeth : s.vm.method? m = some meth) (htab : c.exceptionTable.toList = []) (htr : e.platform.stackTraces = false)
    (hts : ∀ w ∈ mt_tb, w.before #[Value.ref b] s = true) (hst : ∀ w ∈ tables_1, w.before #[Value.ref b] s = true) (hX : va_X b L xs s s.heap) (hbl : b < s.heap.size) (hlocks : meth.locks = false) (hgv : (Jvm.Cond.and given_1 narrow_1).before #[Value.ref b] s = true) :
    W p l e room_1 s m #[Value.ref b] below meth c s.heap [] 0 0 (lw_Z below #[Value.ref b] s) (entryFrame m ([Value.ref b] : List Value).toArray 8) := by
  have hG : ∀ w ∈ mt_G, w.before #[Value.ref b] s = true := fun w hw => hts w (List.mem_filter.mp hw).1
  have hs := flat_of_before _ hgv
  obtain ⟨g, hK⟩ := mt_kn hG
  obtain ⟨mi, hMi⟩ := va_Mi.of (hs (.isRef (.mirror "[Ljava/lang/Object;")) (by decide +kernel))
  obtain ⟨eA, hev, hT⟩ := va_Tof (N := 0) (f := fun _ => .null) (A := fun q => s.heap.size ≤ q) (by decide) (hs (.arrayOf (.static "java/util/ArrayList" "DEFAULTCAPACITY_EMPTY_ELEMENTDATA" "[Ljava/lang/Object;") (.object "java/lang/Object")) (by decide +kernel)) (va_eqt (hs (.eq (.length (.static "java/util/ArrayList" "DEFAULTCAPACITY_EMPTY_ELEMENTDATA" "[Ljava/lang/Object;")) (.int 0)) (by decide +kernel))) (fun j hj => absurd hj (Nat.not_lt_zero j)) (fun a ha hq => absurd hq (Nat.not_le.mpr ha))
  have hZ := va_Zof (v := .ref eA) (A := fun q => s.heap.size ≤ q) (hst (.laysStatic "java/util/ArrayList" "DEFAULTCAPACITY_EMPTY_ELEMENTDATA" "[Ljava/lang/Object;") (by decide +kernel)) (hst (.initialized "java/util/ArrayList") (by decide +kernel)) hev (fun a ha hq => absurd hq (Nat.not_le.mpr ha))
  have heA : eA < s.heap.size := by
    obtain ⟨cell, h1, -⟩ := hT
    exact (Array.getElem?_eq_some_iff.mp h1).1
  have hne : eA ≠ b := by
    rintro rfl
    obtain ⟨cell, h1, h2, -⟩ := hT
    obtain ⟨scr, h3, h4, -⟩ := hX
    cases h1.symm.trans h3
    obtain ⟨-, k1, hk1, c1, e1⟩ := h2
    obtain ⟨-, k2, hk2, c2, e2⟩ := h4
    cases hk1.symm.trans hk2
    rw [e1] at e2
    cases e2
  obtain ⟨n, h', hrun, hc1, hc2⟩ := hgoal (s.heap.size, b, L, xs, eA, mi) hL hbl heA hne
  have hq : mt_ms[140]? = some mj_Lw_law := rfl
  have C : mv_ctx mt_cl mt_ty mt_G g (s.heap.size, b, L, xs, eA, mi) 11 mj_Lw_law p e room_1 s m #[Value.ref b] meth c := by
    refine ⟨hx, htr, hG, hK, hX, hbl, ⟨⟨⟨hZ, hT, hMi⟩, mt_lst (hst _ (by decide +kernel)), mt_lst (hst _ (by decide +kernel))⟩, mt_zr (hst _ (by decide +kernel)) (hst _ (by decide +kernel)) (hs _ (by decide +kernel)), mt_zr (hst _ (by decide +kernel)) (hst _ (by decide +kernel)) (hs _ (by decide +kernel))⟩, hnamed, hmeth, hcode, hml, hret, hlocks, htab, by decide, by decide⟩
  have hN : mv_nk mt_nc mt_cl s := by
    intro x y hxy
    simp only [mt_nc, List.mem_cons, List.not_mem_nil, or_false, Prod.mk.injEq] at hxy
    rcases hxy with ⟨rfl, rfl⟩ | ⟨rfl, rfl⟩
    · exact ⟨_, _, rfl, rfl, va_Nc.of (hs (.not (.castable "java/lang/IllegalStateException" "java/lang/IllegalArgumentException")) (by decide +kernel))⟩
    · exact ⟨_, _, rfl, rfl, va_Nc.of (hs (.not (.castable "java/lang/IllegalArgumentException" "java/lang/IllegalStateException")) (by decide +kernel))⟩
  have w := mv_sim mt_OK n 11 140 _ _ _ _ hrun hq (p := p) (l := l) (below := below) (H := s.heap) (locs := []) (n0 := 0) (z0 := 0) C hN ⟨rfl, fun i z hi => by simp at hi⟩ ⟨fun _ _ => rfl, fun q hq => by cases hq⟩ (mv_in_rel (as := [.ref b]) (n := 8) (by show 1 ≤ 8; omega)) (Nat.le_refl _) (Nat.le_refl _) (Nat.le_trans (Nat.sub_le _ _) (Nat.le_trans hc1 lw_rc)) (Nat.le_trans (Nat.sub_le _ _) (Nat.le_trans hc2 lw_rs))
  rw [← lg_entry_eq] at w
  refine mv_Wm (fun t ht => ?_) w
  obtain ⟨locs, q1, q2, q3, q4, q5, q6⟩ := ht
  exact ⟨_, q3, q4, rfl, ⟨_, rfl⟩, q5, mt_same q6 (by have := lw_rc; omega) (by have := lw_rs; omega) q2.2⟩
set_option maxHeartbeats 4000000 in
theorem lw_walk (hgoal : mt_goal) (l : Launch) (hfl : l.flags = flags0) (b : Addr) (xs : List Int32) : MetFree l x (headSpec (Jvm.Cond.code x code maxLocals ret :: tables_1) room_1) (lw_P b xs) (fun _ _ _ _ _ => True) lw_Q := by
  refine MetFree.of_bodyS (code := code) (maxLocals := maxLocals) (ret := ret) (by decide) ?_ ?_
  · intro args s m h hn
    obtain ⟨meth, c, h1, h2, h3, h4, h5, h6, -, -⟩ := Cond.code_spec hn (atoms_spec (ws := Jvm.Cond.code x code maxLocals ret :: tables_1) h _ List.mem_cons_self)
    exact ⟨meth, c, h1, h2, h3, h4, h5, h6⟩
  · intro p e s m args below meth c s₁ B hml0 hP _
    obtain ⟨rfl, hx, hbd, hgv⟩ := hP
    obtain ⟨scr, harrAt, hlist, hof, hsmall⟩ := hx
    obtain ⟨hcb, hkn, -, -⟩ := State.arrayAt?_spec harrAt
    have hown : s.vm.findClass R_law = some m.cls := findClass_of_methodNamed B.named
    have hts0 : ∀ c ∈ (Jvm.Cond.code x code maxLocals ret :: tables_1), c.before #[Value.ref b] s = true := atoms_spec (ws := Jvm.Cond.code x code maxLocals ret :: tables_1) B.pre
    have hts : ∀ w ∈ lw_tbl, w.before #[Value.ref b] s = true := k2_hts_sels lw_privs (fun w hw => hts0 w (List.mem_cons_of_mem _ hw)) lw_privs_ok
    have htsb : ∀ w ∈ mt_tb, w.before #[Value.ref b] s = true := fun w hw => by
      rcases List.mem_append.mp hw with h9 | h9
      · exact hts w h9
      · rw [List.mem_singleton.mp h9]
        exact hts0 _ List.mem_cons_self
    have hml : c.maxLocals = 8 := B.maxLocals_eq (hts0 _ List.mem_cons_self)
    have X₀ : Stand p l e room_1 s m #[Value.ref b] below meth c s₁ [] 0 0 := Stand.of_body B
    have hh0 : s₁.heap = s.heap := by rw [B.state]; rfl
    have hsz : scr.slots.size = xs.length := by rw [← Array.length_toList, hlist, List.length_map]
    have hval : ∀ j : Nat, j < xs.length → scr.slots[j]? = some (.int (xs.getD j 0)) := fun j hj => by
      rw [← Array.getElem?_toList, hlist]
      simp [hj]
    have hbl : b < s.heap.size := (Array.getElem?_eq_some_iff.mp hcb).1
    have hX : va_X b xs.length (fun j => xs.getD j 0) s s.heap := ⟨scr, hcb, hof, hkn, hsz, hval⟩
    have htr : e.platform.stackTraces = false := by
      rw [show e.platform.stackTraces = l.stackTraces by rw [X₀.admits.platform]]
      rw [Launch.stackTraces, hfl]
      decide +kernel
    obtain ⟨meth2, c2, g1, g2, g3, g4, g5, g6, g7, g8⟩ := Cond.code_spec B.named (hts0 _ List.mem_cons_self)
    have K : W p l e room_1 s m #[Value.ref b] below meth c s₁.heap [] 0 0 (lw_Z below #[Value.ref b] s) (entryFrame m ([Value.ref b] : List Value).toArray 8) := by
      rw [hh0]
      have e1 : meth2 = meth := Option.some.inj (g1.symm.trans B.method)
      subst e1
      have e2 : c2 = c := Option.some.inj (g2.symm.trans X₀.code)
      subst e2
      have h0 : c2.exceptionTable.size = 0 := by simpa [Array.isEmpty] using g7
      exact mt_start hgoal l hbd B.exec B.bytes B.returns hml B.named B.method (List.eq_nil_of_length_eq_zero (by simpa using h0)) htr htsb (fun w hw => hts0 w (List.mem_cons_of_mem _ hw)) hX hbl B.notSynchronized hgv
    obtain ⟨t, a1, o, b1, b2, b3⟩ := K s₁ rfl X₀
    exact ⟨t, o, a1, b1, b2, b3⟩
theorem lw_pre_spec {args : Array Value} {s : State} (h : (Jvm.Cond.and given_1 narrow_1).before args s = true) (hr : rest_1_c.before args s = true) : ∃ (b : Addr) (xs : List Int32), lw_P b xs args s := by
  have hs := flat_of_before _ h
  have hq := flat_of_before _ hr
  have hc : (Cond.count 1).before args s = true := hs _ (by decide +kernel)
  have harr : (Cond.arrayOf (.arg 0) .int).before args s = true := hs _ (by decide +kernel)
  have hle : (Cond.le (.length (.arg 0)) (.int 3072)).before args s = true := hs _ (by decide +kernel)
  have hlen : (Cond.isInt (.length (.arg 0))).before args s = true := hq _ (by decide +kernel)
  have hall : (Cond.all (.arg 0) (.isInt (.elem (.arg 0) (.index 0)))).before args s = true := hq _ (by decide +kernel)
  obtain ⟨b, xs, hb, hx⟩ := State.ints_of_pre rfl harr hlen hall
  have hsm : xs.length < 2 ^ 31 := hx.choose_spec.2.2.2
  have hev : (Term.length (.arg 0)).eval args s none [] s = some (.int xs.length.toInt32) := hx.length_eval hb
  have hv := Cond.le_ints hev (show (Term.int 3072).eval args s none [] s = some (.int 3072) from rfl)
  have hd : xs.length.toInt32 ≤ 3072 := by
    simpa [Cond.before, Cond.holds, hv] using hle
  have hN : xs.length ≤ 3072 := (Int32.ofNat_le_ofNat hsm (by decide)).mp (show Int32.ofNat xs.length ≤ Int32.ofNat 3072 from hd)
  exact ⟨b, xs, Cond.one_arg hc (show args[0]? = some (.ref b) from hb), hx, hN, h⟩
theorem lw_comes (hgoal : mt_goal) (l : Launch) (hfl : l.flags = flags0) : Comes l x (Jvm.Cond.code x code maxLocals ret :: tables_1) room_1 (fun tb e args s => Calls_1 tb e args s ∧ rest_1 tb e args s ∧ Pre_1 tb e args s)
    (fun _ _ args s o t => lw_Q args s o t) := by
  intro p e ha hc hk s m args below hf hfit hheap happ hpre
  obtain ⟨b, xs, hP⟩ := lw_pre_spec hpre.2.2 hpre.2.1
  obtain ⟨k, o, h1, h2, h3, hQ⟩ := lw_walk hgoal l hfl b xs p e ha hc hk s m args below hf ((Spec.applies_iff_loose hf).mp happ).1 hP trivial
  exact ⟨k, o, h1, h2, h3, hQ⟩
theorem lw_frame {s t : State} {o : Outcome} {args : Array Value} (h : Framed s o t [] room_1.cells room_1.slots) :
    Framed s o t (fieldLocs frame_1_writes args s ++ arrayLocs frame_1_arrays args s ++ staticLocs frame_1_statics s) room_1.cells room_1.slots := h
theorem lw_limb (hgoal : mt_goal) (L : Cond) (hL : ∀ (args : Array Value) (s t : State), L.after args s (.returned (some (.int 1))) t = true) :
    ArmFor flags0 classFile x code maxLocals ret World_1 tables_1 room_1 Calls_1 rest_1 Pre_1
      (fun tb e a s o t => postC L tb e a s o t ∧ Framed s o t (fieldLocs frame_1_writes a s ++ arrayLocs frame_1_arrays a s ++ staticLocs frame_1_statics s) room_1.cells room_1.slots) := by
  intro l hfl _ _ p e ha hc hk s m args below hf hfit hheap happ hpre
  obtain ⟨k, o, h1, h2, h3, rfl, hF⟩ := lw_comes hgoal l hfl p e ha hc hk s m args below hf hfit hheap happ hpre
  exact ⟨k, _, h1, h2, h3, hL args s _, lw_frame hF⟩
theorem mt_vc (hgoal : mt_goal) : Claimed_1_1 ∧ Claimed_1_2 := ⟨lw_limb hgoal limb_1_1 (fun args s t => by simp [limb_1_1, Cond.after, Cond.holds, Cond.value]), lw_limb hgoal limb_1_2 (fun args s t => Cond.after_iff.mpr (by
  first | (rw [show limb_1_2 = Cond.eq .result (.int 1) from rfl, Cond.eq_ints (x := 1) (y := 1) rfl rfl]; simp; done) | (simp [limb_1_2, Cond.value, Term.eval]; done)))⟩
