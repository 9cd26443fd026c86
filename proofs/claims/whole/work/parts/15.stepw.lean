/-! a step of the small machine stands for one of the machine -/
section MVW
variable {p : Program} {l : Launch} {e : Env} {R : Room} {s : State} {m : MethodId} {args : Array Value} {below : List Frame} {meth : Method} {c : Code} {H H0 : Heap} {locs : List Loc} {cells slots : Nat} {Q : State → Prop}
variable {cc : ByteArray} {pc : Nat} {ls : Array Slot} {rest : List Value} {G : List Cond} {cl : List mv_K} {tys : List FieldType} {asg : List (Nat × Nat)} {g : mv_G} {b a : Nat} {h : mv_H} {own : String}
theorem mh_sld (hx : p.tables.exec = Jvm.exec) (hb : c.code = cc) {sb Ln : Nat} {xs : Nat → Int32} (hX : va_X sb Ln xs s H0) (hsb : sb < b) (hF : mv_fr b H0 H locs) {i : Int32} (hin : ¬ (i < 0 ∨ Ln ≤ i.toNatClampNeg)) (hdg : decode cc pc = .ok (.iaload, 1))
    (kk : W p l e R s m args below meth c H locs cells slots Q (F0 m (pc + 1) ls (.int (xs i.toNatClampNeg) :: rest))) : W p l e R s m args below meth c H locs cells slots Q (F0 m pc ls (.int i :: .ref sb :: rest)) := by
  obtain ⟨scr, h1, h2, h3, h4, h5⟩ := hX
  exact W.iald (v := .int (xs i.toNatClampNeg)) hx hb (by rw [hF.1 sb hsb]; exact h1) h2 h3 (by rw [h4]; exact hin) (h5 _ (Nat.not_le.mp fun q => hin (Or.inr q))) rfl rfl hdg kk
theorem mh_slen (hx : p.tables.exec = Jvm.exec) (hb : c.code = cc) {sb Ln : Nat} {xs : Nat → Int32} (hX : va_X sb Ln xs s H0) (hsb : sb < b) (hF : mv_fr b H0 H locs) (hdg : decode cc pc = .ok (.arraylength, 1))
    (kk : W p l e R s m args below meth c H locs cells slots Q (F0 m (pc + 1) ls (.int (Int32.ofNat Ln) :: rest))) : W p l e R s m args below meth c H locs cells slots Q (F0 m pc ls (.ref sb :: rest)) := by
  obtain ⟨scr, h1, h2, h3, h4, h5⟩ := hX
  exact W.alen (n := Int32.ofNat Ln) hx hb (by rw [hF.1 sb hsb]; exact h1) h2 (by rw [h4]) rfl rfl hdg kk
theorem mh_cast (hx : p.tables.exec = Jvm.exec) (hb : c.code = cc) (hts : ∀ w ∈ G, w.before args s = true) (hown : s.vm.findClass own = some m.cls) (hK : mv_kn cl tys g s) (hR : mv_rel cl g b h H) {idx ci : Nat} {r : mv_K} {V : Nat → Value} (hr : cl[ci]? = some r) (w1 : Cond.classLink own idx r.1 ∈ G) (hlk : mv_lk b h a = some (.inr (ci, V))) (hdg : decode cc pc = .ok (.checkcast idx, 3))
    (kk : W p l e R s m args below meth c H locs cells slots Q (F0 m (pc + 3) ls (.ref a :: rest))) : W p l e R s m args below meth c H locs cells slots Q (F0 m pc ls (.ref a :: rest)) := by
  obtain ⟨r', hr', cell, q1, q2, q3, q4⟩ := hR.at hlk
  have hKn := (hK.1 _ _ hr).2
  exact va_castS hx hb hown (hts _ w1) hKn ⟨cell, q1, by rw [q3]; rfl, by rw [q2]; exact hKn.1⟩ hdg kk
theorem mh_copy (hx : p.tables.exec = Jvm.exec) (hb : c.code = cc) (hml : c.maxLocals = ls.size) (hts : ∀ w ∈ G, w.before args s = true) (hown : s.vm.findClass own = some m.cls) (hK : mv_kn cl tys g s) (hR : mv_rel cl g b h H) (hF : mv_fr b H0 H locs) {idx : Nat}
    (w1 : Cond.methodLink own idx arraycopyName ∈ G) (w2 : Cond.native arraycopyName ∈ G) (w3 : Cond.static arraycopyName ∈ G) (w4 : Cond.initialized "java/lang/System" ∈ G)
    {d t0 t1 n0 n1 : Nat} {f k : Nat → Value} (hl0 : mv_lk b h a = some (.inl (t0, n0, f))) (hl1 : mv_lk b h d = some (.inl (t1, n1, k))) (ht0 : tys[t0]? = some .int) (ht1 : tys[t1]? = some .int)
    {sp dp n : Int32} (h1 : ¬ sp < 0) (h2 : ¬ dp < 0) (h3 : ¬ n < 0) (h4 : sp.toNatClampNeg + n.toNatClampNeg ≤ n0) (h5 : dp.toNatClampNeg + n.toNatClampNeg ≤ n1) (hfit : ∀ i, i < n.toNatClampNeg → mv_isI (f (sp.toNatClampNeg + i)) = true)
    (hframes : 1 ≤ R.frames) (hlocals : (rest.map fun v => v.category).sum + (nativeFrameWords "java/lang/System" "arraycopy" 5 + 11) ≤ R.locals) (hdg : decode cc pc = .ok (.invokestatic idx, 3))
    (kk : ∀ (H1 : Heap) (locs1 : List Loc), mv_rel cl g b (mv_up b h d (.inl (t1, n1, va_cpy f k sp.toNatClampNeg dp.toNatClampNeg n.toNatClampNeg))) H1 → mv_fr b H0 H1 locs1 → W p l e R s m args below meth c H1 locs1 cells slots Q (F0 m (pc + 3) ls rest)) : W p l e R s m args below meth c H locs cells slots Q (F0 m pc ls (.int n :: .int dp :: .ref d :: .int sp :: .ref a :: rest)) := by
  have nn : ∀ z : Int32, ¬ z < 0 → z.toInt = (z.toNatClampNeg : Int) := by
    intro z hz
    have hz0 : (0 : Int) ≤ z.toInt := by
      have := Int32.not_lt.mp hz
      simpa using Int32.le_iff_toInt_le.mp this
    show z.toInt = ((z.toInt.toNat : Nat) : Int)
    omega
  intro T hT X
  have hc0 : H[a]? = some (arrV (g.2.2 t0) n0 f) := hR.at hl0
  have hc1 : H[d]? = some (arrV (g.2.2 t1) n1 k) := hR.at hl1
  obtain ⟨-, k0, hk0, cm0, hkk0⟩ := (hK.2 _ _ ht0).1 n0 f
  obtain ⟨-, k1, hk1, cm1, hkk1⟩ := (hK.2 _ _ ht1).1 n1 k
  obtain ⟨vm', X', step⟩ := X.arraycopy hx hown (hts _ w1) (hts _ w2) (hts _ w3) (hts _ w4) (src := a) (dst := d) (cs := arrV (g.2.2 t0) n0 f) (cd := arrV (g.2.2 t1) n1 k) (srcPos := sp) (destPos := dp) (n := n) (by rw [hT]; exact hc0) (by rw [hT]; exact hc1)
    (fun _ h => by cases h) (fun _ h => by cases h) (fun h => by cases h) (fun h => by cases h) hk0 hk1 hkk0 hkk1 (by decide) h1 h2 h3
    (by rw [nn sp h1, nn n h3, arrV_size]; omega)
    (by rw [nn dp h2, nn n h3, arrV_size]; omega)
    (fun vm₁ _ i hi => by
      have e0 : (arrV (g.2.2 t0) n0 f).slots.getD (sp.toNatClampNeg + i) .null = f (sp.toNatClampNeg + i) := by
        rw [Array.getD_eq_getD_getElem?, arrV_read _ _ (by omega)]
        rfl
      obtain ⟨z, hz⟩ := mv_isI_of (hfit i hi)
      refine ⟨?_, ?_⟩
      · rw [e0, hz]; rfl
      · rw [e0, hz]; exact trivial)
    (g := F0 m pc ls (.int n :: .int dp :: .ref d :: .int sp :: .ref a :: rest)) rfl (by rw [hml]) (rest := rest) rfl (by rw [hb]; exact hdg) hframes (by show 2 * 0 + _ + _ ≤ _; omega)
  have e1 : copied (arrV (g.2.2 t0) n0 f) (arrV (g.2.2 t1) n1 k) sp dp n = arrV (g.2.2 t1) n1 (va_cpy f k sp.toNatClampNeg dp.toNatClampNeg n.toNatClampNeg) := va_copied (fun z => z) (g.2.2 t0) (g.2.2 t1) f k h4
  rw [e1] at X' step
  have hl : d < T.heap.size := by rw [hT]; exact (Array.getElem?_eq_some_iff.mp hc1).1
  have hdb : b ≤ d := (mv_lk_of hl1).1
  obtain ⟨t, a1, b1⟩ := kk _ _ (hR.put hl1 (heapAt_setCell_self (s := T.setVm vm') (arrV (g.2.2 t1) n1 (va_cpy f k sp.toNatClampNeg dp.toNatClampNeg n.toNatClampNeg)) hl) (by rw [size_setCell]; show T.heap.size = _; rw [hT]) (fun q hq => by rw [heapAt_setCell_ne _ (Ne.symm hq)]; show T.heap[q]? = _; rw [hT]))
    ⟨fun q hq => by rw [heapAt_setCell_ne _ (show d ≠ q by omega)]; show T.heap[q]? = _; rw [hT]; exact hF.1 q hq, fun q hq => by
      rcases List.mem_append.mp hq with h9 | h9
      · exact hF.2 q h9
      · obtain ⟨z, -, hz⟩ := List.mem_map.mp h9
        rw [← hz]
        exact hdb⟩ _ rfl X'
  exact ⟨t, step t a1, b1⟩
theorem mh_copyR (hx : p.tables.exec = Jvm.exec) (hb : c.code = cc) (hml : c.maxLocals = ls.size) (hts : ∀ w ∈ G, w.before args s = true) (hown : s.vm.findClass own = some m.cls) (hK : mv_kn cl tys g s) (hR : mv_rel cl g b h H) (hF : mv_fr b H0 H locs) {idx : Nat}
    (w1 : Cond.methodLink own idx arraycopyName ∈ G) (w2 : Cond.native arraycopyName ∈ G) (w3 : Cond.static arraycopyName ∈ G) (w4 : Cond.initialized "java/lang/System" ∈ G)
    {d t0 t1 n0 n1 : Nat} {f k : Nat → Value} (hl0 : mv_lk b h a = some (.inl (t0, n0, f))) (hl1 : mv_lk b h d = some (.inl (t1, n1, k))) {C0 C : String} (ht0 : tys[t0]? = some (.object C0)) (ht1 : tys[t1]? = some (.object C))
    {sp dp n : Int32} (h1 : ¬ sp < 0) (h2 : ¬ dp < 0) (h3 : ¬ n < 0) (h4 : sp.toNatClampNeg + n.toNatClampNeg ≤ n0) (h5 : dp.toNatClampNeg + n.toNatClampNeg ≤ n1) (hfit : ∀ i, i < n.toNatClampNeg → f (sp.toNatClampNeg + i) = .null ∨ ∃ (y ci : Nat) (V : Nat → Value) (r : mv_K), f (sp.toNatClampNeg + i) = .ref y ∧ mv_lk b h y = some (.inr (ci, V)) ∧ cl[ci]? = some r ∧ (r.1 = C ∨ Cond.castable r.1 C ∈ G))
    (hframes : 1 ≤ R.frames) (hlocals : (rest.map fun v => v.category).sum + (nativeFrameWords "java/lang/System" "arraycopy" 5 + 11) ≤ R.locals) (hdg : decode cc pc = .ok (.invokestatic idx, 3))
    (kk : ∀ (H1 : Heap) (locs1 : List Loc), mv_rel cl g b (mv_up b h d (.inl (t1, n1, va_cpy f k sp.toNatClampNeg dp.toNatClampNeg n.toNatClampNeg))) H1 → mv_fr b H0 H1 locs1 → W p l e R s m args below meth c H1 locs1 cells slots Q (F0 m (pc + 3) ls rest)) : W p l e R s m args below meth c H locs cells slots Q (F0 m pc ls (.int n :: .int dp :: .ref d :: .int sp :: .ref a :: rest)) := by
  have nn : ∀ z : Int32, ¬ z < 0 → z.toInt = (z.toNatClampNeg : Int) := by
    intro z hz
    have hz0 : (0 : Int) ≤ z.toInt := by
      have := Int32.not_lt.mp hz
      simpa using Int32.le_iff_toInt_le.mp this
    show z.toInt = ((z.toInt.toNat : Nat) : Int)
    omega
  intro T hT X
  have hc0 : H[a]? = some (arrV (g.2.2 t0) n0 f) := hR.at hl0
  have hc1 : H[d]? = some (arrV (g.2.2 t1) n1 k) := hR.at hl1
  obtain ⟨-, k0, hk0, cm0, hkk0⟩ := (hK.2 _ _ ht0).1 n0 f
  obtain ⟨-, k1, hk1, cm1, hkk1⟩ := (hK.2 _ _ ht1).1 n1 k
  obtain ⟨vm', X', step⟩ := X.arraycopy hx hown (hts _ w1) (hts _ w2) (hts _ w3) (hts _ w4) (src := a) (dst := d) (cs := arrV (g.2.2 t0) n0 f) (cd := arrV (g.2.2 t1) n1 k) (srcPos := sp) (destPos := dp) (n := n) (by rw [hT]; exact hc0) (by rw [hT]; exact hc1)
    (fun _ h => by cases h) (fun _ h => by cases h) (fun h => by cases h) (fun h => by cases h) hk0 hk1 hkk0 hkk1 rfl h1 h2 h3
    (by rw [nn sp h1, nn n h3, arrV_size]; omega)
    (by rw [nn dp h2, nn n h3, arrV_size]; omega)
    (fun vm₁ hal i hi => by
      have e0 : (arrV (g.2.2 t0) n0 f).slots.getD (sp.toNatClampNeg + i) .null = f (sp.toNatClampNeg + i) := by
        rw [Array.getD_eq_getD_getElem?, arrV_read _ _ (by omega)]
        rfl
      rw [e0]
      rcases hfit i hi with hz | ⟨y, ci, V, r, hz, hly, hr, hc⟩
      · rw [hz]; exact ⟨rfl, trivial⟩
      · rw [hz]
        obtain ⟨r', hr', cellV, g1, g2, g3, -⟩ := hR.at hly
        have hcls := (hK.1 ci r hr).2
        obtain ⟨kA, comp, r1, r2, r3, -⟩ := (hK.2 _ _ ht1).2
        cases hk1.symm.trans r1
        cases hkk1.symm.trans r2
        obtain ⟨kC, hkC, -⟩ := hcls.2
        obtain ⟨kE, hkE, -⟩ := Vm.findClass_spec r3
        obtain ⟨kC', hkC', -⟩ := hal.2.2 _ _ hkC
        obtain ⟨kE', hkE', -⟩ := hal.2.2 _ _ hkE
        have hass : s.vm.assignable (g.1 ci) cm1 = true := by
          rcases hc with rfl | hw
          · have hcomp : cm1 = g.1 ci := Option.some.inj (r3.symm.trans hcls.1)
            rw [hcomp]
            exact va_assign hcls
          · obtain ⟨c3, t3, w1, w2, w3⟩ := Cond.castable_spec (hts _ hw)
            cases Option.some.inj (w1.symm.trans hcls.1)
            cases Option.some.inj (w2.symm.trans r3)
            exact w3
        refine ⟨rfl, cellV, (show T.heap[y]? = some cellV by rw [hT]; exact g1), (fun q h => by rw [g3] at h; cases h), ⟨kC', by rw [g2]; exact hkC'⟩, ⟨kE', hkE'⟩, ?_⟩
        show vm₁.assignable _ _ = true
        rw [hal.assignable, g2]
        exact hass)
    (g := F0 m pc ls (.int n :: .int dp :: .ref d :: .int sp :: .ref a :: rest)) rfl (by rw [hml]) (rest := rest) rfl (by rw [hb]; exact hdg) hframes (by show 2 * 0 + _ + _ ≤ _; omega)
  have e1 : copied (arrV (g.2.2 t0) n0 f) (arrV (g.2.2 t1) n1 k) sp dp n = arrV (g.2.2 t1) n1 (va_cpy f k sp.toNatClampNeg dp.toNatClampNeg n.toNatClampNeg) := va_copied (fun z => z) (g.2.2 t0) (g.2.2 t1) f k h4
  rw [e1] at X' step
  have hl : d < T.heap.size := by rw [hT]; exact (Array.getElem?_eq_some_iff.mp hc1).1
  have hdb : b ≤ d := (mv_lk_of hl1).1
  obtain ⟨t, a1, b1⟩ := kk _ _ (hR.put hl1 (heapAt_setCell_self (s := T.setVm vm') (arrV (g.2.2 t1) n1 (va_cpy f k sp.toNatClampNeg dp.toNatClampNeg n.toNatClampNeg)) hl) (by rw [size_setCell]; show T.heap.size = _; rw [hT]) (fun q hq => by rw [heapAt_setCell_ne _ (Ne.symm hq)]; show T.heap[q]? = _; rw [hT]))
    ⟨fun q hq => by rw [heapAt_setCell_ne _ (show d ≠ q by omega)]; show T.heap[q]? = _; rw [hT]; exact hF.1 q hq, fun q hq => by
      rcases List.mem_append.mp hq with h9 | h9
      · exact hF.2 q h9
      · obtain ⟨z, -, hz⟩ := List.mem_map.mp h9
        rw [← hz]
        exact hdb⟩ _ rfl X'
  exact ⟨t, step t a1, b1⟩
theorem mh_gets (hx : p.tables.exec = Jvm.exec) (hb : c.code = cc) (hts : ∀ w ∈ G, w.before args s = true) (hown : s.vm.findClass own = some m.cls) {E : mv_E} (hJ : mv_js E s H0) (hF : mv_fr E.1 H0 H locs) {idx : Nat} (w1 : Cond.fieldLink own idx "java/util/ArrayList" "DEFAULTCAPACITY_EMPTY_ELEMENTDATA" "[Ljava/lang/Object;" ∈ G) (hdg : decode cc pc = .ok (.getstatic idx, 3))
    (kk : W p l e R s m args below meth c H locs cells slots Q (F0 m (pc + 3) ls (.ref E.2.2.2.2.1 :: rest))) : W p l e R s m args below meth c H locs cells slots Q (F0 m pc ls rest) := by
  obtain ⟨⟨cf, kf, fi, f, a, cell, h1, h2, h3, h4, h5, h6, h7, h8⟩, -, -⟩ := hJ
  exact W.gets hx hb hown (hts _ w1) h1 h2 h3 h4 (by rw [hF.1 a (Nat.not_le.mp h8)]; exact h5) (fun e => by rw [e] at h6; cases h6) h7 rfl hdg kk
theorem mh_elen (hx : p.tables.exec = Jvm.exec) (hb : c.code = cc) {E : mv_E} (hJ : mv_js E s H0) (hF : mv_fr E.1 H0 H locs) (hdg : decode cc pc = .ok (.arraylength, 1))
    (kk : W p l e R s m args below meth c H locs cells slots Q (F0 m (pc + 1) ls (.int 0 :: rest))) : W p l e R s m args below meth c H locs cells slots Q (F0 m pc ls (.ref E.2.2.2.2.1 :: rest)) := by
  obtain ⟨-, ⟨cell, h1, h2, h3, h4, h5, h6, h7⟩, -⟩ := hJ
  exact W.alen (n := 0) hx hb (by rw [hF.1 _ (Nat.not_le.mp h7)]; exact h1) h2 h5 rfl rfl hdg kk
end MVW
