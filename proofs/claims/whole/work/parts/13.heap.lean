/-! the heap -/
abbrev mv_G : Type := (Nat → ClassId) × (Nat → Nat → Nat) × (Nat → ClassId)
def mv_cell (cl : List mv_K) (g : mv_G) (a : Nat) (x : mv_C) (H : Heap) : Prop := match x with
  | .inl y => H[a]? = some (arrV (g.2.2 y.1) y.2.1 y.2.2)
  | .inr y => ∃ r : mv_K, cl[y.1]? = some r ∧ t_OB a (g.1 y.1) r.2.2.1 (g.2.1 y.1) H y.2
def mv_rel (cl : List mv_K) (g : mv_G) (b : Nat) (h : mv_H) (H : Heap) : Prop := H.size = b + h.length ∧ ∀ (i : Nat) (x : mv_C), h[i]? = some x → mv_cell cl g (b + i) x H
def mv_kn (cl : List mv_K) (tys : List FieldType) (g : mv_G) (U : State) : Prop := (∀ (ci : Nat) (r : mv_K), cl[ci]? = some r → u_Kn U r.1 r.2.1 r.2.2.1 (g.1 ci) (g.2.1 ci)) ∧ ∀ (t : Nat) (ty : FieldType), tys[t]? = some ty → ArrOfT U (g.2.2 t) ty ∧ va_RA U (g.2.2 t) ty
def mv_fr (b : Nat) (H0 H : Heap) (locs : List Loc) : Prop := (∀ q : Nat, q < b → H[q]? = H0[q]?) ∧ ∀ q ∈ locs, b ≤ q.base
theorem mv_kn.moved {cl : List mv_K} {tys : List FieldType} {g : mv_G} {u U : State} (hvm : u.vm.Alike U.vm) (h : mv_kn cl tys g u) : mv_kn cl tys g U := ⟨fun ci r hr => u_Kn_moved hvm (h.1 ci r hr), fun t ty ht => ⟨arrOfT_moved hvm (h.2 t ty ht).1, (h.2 t ty ht).2.moved hvm⟩⟩
theorem mv_cell.kept {cl : List mv_K} {g : mv_G} {a : Nat} {x : mv_C} {H H1 : Heap} (h : mv_cell cl g a x H) (hq : H1[a]? = H[a]?) : mv_cell cl g a x H1 := by
  cases x with
  | inl y => exact hq.trans h
  | inr y =>
    obtain ⟨r, h1, h2⟩ := h
    exact ⟨r, h1, h2.kept hq⟩
theorem mv_cell.lt {cl : List mv_K} {g : mv_G} {a : Nat} {x : mv_C} {H : Heap} (h : mv_cell cl g a x H) : a < H.size := by
  cases x with
  | inl y => exact (Array.getElem?_eq_some_iff.mp h).1
  | inr y =>
    obtain ⟨r, h1, cell, h2, -⟩ := h
    exact (Array.getElem?_eq_some_iff.mp h2).1
theorem mv_lk_of {b : Nat} {h : mv_H} {a : Nat} {x : mv_C} (hl : mv_lk b h a = some x) : b ≤ a ∧ h[a - b]? = some x := by
  unfold mv_lk at hl
  split at hl
  · next hb => exact ⟨hb, hl⟩
  · cases hl
theorem mv_rel.at {cl : List mv_K} {g : mv_G} {b : Nat} {h : mv_H} {H : Heap} {a : Nat} {x : mv_C} (hR : mv_rel cl g b h H) (hl : mv_lk b h a = some x) : mv_cell cl g a x H := by
  obtain ⟨h1, h2⟩ := mv_lk_of hl
  have h3 := hR.2 _ _ h2
  rwa [Nat.add_sub_cancel' h1] at h3
theorem mv_rel.put {cl : List mv_K} {g : mv_G} {b : Nat} {h : mv_H} {H H1 : Heap} {a : Nat} {x y : mv_C} (hR : mv_rel cl g b h H) (hl : mv_lk b h a = some x) (hy : mv_cell cl g a y H1) (hz : H1.size = H.size) (oq : ∀ q : Nat, q ≠ a → H1[q]? = H[q]?) : mv_rel cl g b (mv_up b h a y) H1 := by
  obtain ⟨h1, h2⟩ := mv_lk_of hl
  have hlt : a - b < h.length := (List.getElem?_eq_some_iff.mp h2).1
  refine ⟨by rw [hz, hR.1, mv_up, List.length_set], fun i z hi => ?_⟩
  by_cases hia : a - b = i
  · subst hia
    rw [mv_up, List.getElem?_set_self hlt] at hi
    cases hi
    rwa [Nat.add_sub_cancel' h1]
  · rw [mv_up, List.getElem?_set_ne hia] at hi
    exact (hR.2 i z hi).kept (oq _ (by omega))
theorem mv_rel.push {cl : List mv_K} {g : mv_G} {b : Nat} {h : mv_H} {H H1 : Heap} {y : mv_C} (hR : mv_rel cl g b h H) (hy : mv_cell cl g H.size y H1) (hz : H1.size = H.size + 1) (oq : ∀ q : Nat, q < H.size → H1[q]? = H[q]?) : mv_rel cl g b (h ++ [y]) H1 := by
  refine ⟨by rw [hz, hR.1, List.length_append]; simp; omega, fun i z hi => ?_⟩
  by_cases hl : i < h.length
  · rw [List.getElem?_append_left hl] at hi
    exact (hR.2 i z hi).kept (oq _ (by rw [hR.1]; omega))
  · rw [List.getElem?_append_right (by omega)] at hi
    have hz0 : i - h.length < 1 := (List.getElem?_eq_some_iff.mp hi).1
    have hi0 : i = h.length := by omega
    subst hi0
    rw [Nat.sub_self] at hi
    cases hi
    rw [← hR.1]
    exact hy
theorem mv_fr.put {b : Nat} {H0 H H1 : Heap} {locs : List Loc} {a k : Nat} (h : mv_fr b H0 H locs) (oq : ∀ q : Nat, q ≠ a → H1[q]? = H[q]?) (ha : b ≤ a) : mv_fr b H0 H1 (locs ++ [⟨a, k⟩]) := by
  refine ⟨fun q hq => (oq q (by omega)).trans (h.1 q hq), fun q hq => ?_⟩
  rcases List.mem_append.mp hq with h1 | h1
  · exact h.2 q h1
  · rw [List.mem_singleton.mp h1]
    exact ha
theorem mv_fr.push {b : Nat} {H0 H H1 : Heap} {locs : List Loc} (h : mv_fr b H0 H locs) (oq : ∀ q : Nat, q < H.size → H1[q]? = H[q]?) (hb : b ≤ H.size) : mv_fr b H0 H1 locs :=
  ⟨fun q hq => (oq q (by omega)).trans (h.1 q hq), h.2⟩
theorem mv_sz_app (cl : List mv_K) (h : mv_H) (x : mv_C) : mv_sz cl (h ++ [x]) = mv_sz cl h + mv_cz cl x := by
  induction h with
  | nil => simp [mv_sz]
  | cons y h ih => simp only [List.cons_append, mv_sz, ih]; omega
theorem mv_sz_set (cl : List mv_K) {h : mv_H} {i : Nat} {x y : mv_C} (hx : h[i]? = some x) (he : mv_cz cl y = mv_cz cl x) : mv_sz cl (h.set i y) = mv_sz cl h := by
  induction h generalizing i with
  | nil => simp at hx
  | cons z h ih =>
    cases i with
    | zero =>
      simp only [List.getElem?_cons_zero, Option.some.injEq] at hx
      subst hx
      simp only [List.set_cons_zero, mv_sz, he]
    | succ i =>
      simp only [List.getElem?_cons_succ] at hx
      simp only [List.set_cons_succ, mv_sz, ih hx]
theorem mv_up_len (b : Nat) (h : mv_H) (a : Nat) (y : mv_C) : (mv_up b h a y).length = h.length := by rw [mv_up, List.length_set]
theorem mv_up_sz (cl : List mv_K) {b : Nat} {h : mv_H} {a : Nat} {x y : mv_C} (hl : mv_lk b h a = some x) (he : mv_cz cl y = mv_cz cl x) : mv_sz cl (mv_up b h a y) = mv_sz cl h := mv_sz_set cl (mv_lk_of hl).2 he
theorem mv_up_szA (cl : List mv_K) {b : Nat} {h : mv_H} {a t N : Nat} {f f' : Nat → Value} (hl : mv_lk b h a = some (.inl (t, N, f))) : mv_sz cl (mv_up b h a (.inl (t, N, f'))) = mv_sz cl h := mv_up_sz cl hl rfl
theorem mv_up_szO (cl : List mv_K) {b : Nat} {h : mv_H} {a ci : Nat} {f f' : Nat → Value} (hl : mv_lk b h a = some (.inr (ci, f))) : mv_sz cl (mv_up b h a (.inr (ci, f'))) = mv_sz cl h := mv_up_sz cl hl rfl
/-- what is told of a class in the tables -/
def mv_clok (G : List Cond) (r : mv_K) : Prop := (∀ w ∈ u_ws r.1 r.2.1 r.2.2.1, w ∈ G) ∧ (∀ k, k < r.2.2.1 → ∃ ty, r.2.2.2.2[k]? = some ty ∧ parseFieldDescriptor (r.2.1 k).2.2.1 = some ty) ∧ (∀ a, a < r.2.2.1 → ∀ b, b < r.2.2.1 → a ≠ b → (r.2.1 a).2.1 ≠ (r.2.1 b).2.1)
/-- a field's link: index of the class own's pool, our number 64 * class + field -/
def mv_fl (cl : List mv_K) (G : List Cond) (own : String) (idx n : Nat) : Prop := ∃ r : mv_K, cl[n / 64]? = some r ∧ n % 64 < r.2.2.1 ∧ ∃ ref : String, Cond.fieldLink own idx ref (r.2.1 (n % 64)).2.1 (r.2.1 (n % 64)).2.2.1 ∈ G ∧ (ref = (r.2.1 (n % 64)).1 ∨ Cond.sameField ref (r.2.1 (n % 64)).1 (r.2.1 (n % 64)).2.1 (r.2.1 (n % 64)).2.2.1 ∈ G)
theorem mv_narrow {ty : FieldType} {v : Value} (h : fits ty v = true) (ht : ty ≠ .byte ∧ ty ≠ .short ∧ ty ≠ .char) : narrow ty v = v := by
  obtain ⟨h1, h2, h3⟩ := ht
  cases ty with
  | byte => exact absurd rfl h1
  | short => exact absurd rfl h2
  | char => exact absurd rfl h3
  | boolean =>
    cases v with
    | int x =>
      simp only [fits, Bool.or_eq_true, beq_iff_eq] at h
      rcases h with rfl | rfl <;> rfl
    | _ => cases h
  | _ => cases v <;> first | rfl | cases h
section MVH
variable {p : Program} {l : Launch} {e : Env} {R : Room} {s : State} {m : MethodId} {args : Array Value} {below : List Frame} {meth : Method} {c : Code} {H H0 : Heap} {locs : List Loc} {cells slots : Nat} {Q : State → Prop}
variable {cc : ByteArray} {pc : Nat} {ls : Array Slot} {rest : List Value} {G : List Cond} {cl : List mv_K} {tys : List FieldType} {g : mv_G} {b a : Nat} {h : mv_H} {own : String}
theorem mh_get (hx : p.tables.exec = Jvm.exec) (hb : c.code = cc) (hts : ∀ w ∈ G, w.before args s = true) (hcl : ∀ (ci : Nat) (r : mv_K), cl[ci]? = some r → mv_clok G r) (hown : s.vm.findClass own = some m.cls) (hK : mv_kn cl tys g s) (hR : mv_rel cl g b h H)
    {idx n : Nat} {V : Nat → Value} (hf : mv_fl cl G own idx n) (hlk : mv_lk b h a = some (.inr (n / 64, V))) (hdg : decode cc pc = .ok (.getfield idx, 3))
    (kk : W p l e R s m args below meth c H locs cells slots Q (F0 m (pc + 3) ls (V (n % 64) :: rest))) : W p l e R s m args below meth c H locs cells slots Q (F0 m pc ls (.ref a :: rest)) := by
  obtain ⟨r, hr, hk, ref, hlink, hsame⟩ := hf
  obtain ⟨r', hr', cell, q1, q2, q3, q4⟩ := hR.at hlk
  have hrr : r' = r := Option.some.inj (hr'.symm.trans hr)
  subst hrr
  obtain ⟨hin, hty, hnm⟩ := hcl _ _ hr
  obtain ⟨hS, hfc, kC, hkC, hkind⟩ := hK.1 _ _ hr
  obtain ⟨cf, kf, fi, f, hi, hsl⟩ := hS _ hk
  have hi2 : s.fieldFound? ref (r'.2.1 (n % 64)).2.1 (r'.2.1 (n % 64)).2.2.1 = some (cf, kf, fi, f) := by
    rcases hsame with rfl | hsm
    · exact hi
    · exact u_same (hts _ hsm) _ hi
  refine W.getf hx hb hown (hts _ hlink) hi2 (u_facts hfc hkC (u_lays hts hin hk) hi).1 q1 (by rw [q3]; exact fun h => by cases h) (v := V (n % 64)) ?_ rfl rfl hdg kk
  rw [hsl, q4 _ hk]
theorem mh_apart (hts : ∀ w ∈ G, w.before args s = true) {r : mv_K} {cC : ClassId} {iS : Nat → Nat} (hc : mv_clok G r) (hK : u_Kn s r.1 r.2.1 r.2.2.1 cC iS) : ∀ x y, x < r.2.2.1 → y < r.2.2.1 → x ≠ y → iS x ≠ iS y := by
  intro x y hx hy hne
  obtain ⟨hin, hty, hnm⟩ := hc
  obtain ⟨hS, -⟩ := hK
  obtain ⟨_, _, _, fa, hia, ea⟩ := hS x hx
  obtain ⟨_, _, _, fb, hib, eb⟩ := hS y hy
  obtain ⟨tx, -, htx⟩ := hty x hx
  obtain ⟨t2, -, ht2⟩ := hty y hy
  rw [← ea, ← eb]
  refine u_apart (u_lays hts hin hx) (u_lays hts hin hy) hia hib ?_
  rw [(State.fieldFound?_type hia htx).1, (State.fieldFound?_type hib ht2).1]
  exact hnm x hx y hy hne
theorem mh_put (hx : p.tables.exec = Jvm.exec) (hb : c.code = cc) (hts : ∀ w ∈ G, w.before args s = true) (hcl : ∀ (ci : Nat) (r : mv_K), cl[ci]? = some r → mv_clok G r) (hown : s.vm.findClass own = some m.cls) (hK : mv_kn cl tys g s) (hR : mv_rel cl g b h H) (hF : mv_fr b H0 H locs)
    {idx n : Nat} {V : Nat → Value} {v : Value} {r : mv_K} {ty : FieldType} (hf : mv_fl cl G own idx n) (hr : cl[n / 64]? = some r) (hty : r.2.2.2.2[n % 64]? = some ty) (hfit : fits ty v = true) (hnt : ty ≠ .byte ∧ ty ≠ .short ∧ ty ≠ .char)
    (hfin : (r.2.1 (n % 64)).2.2.2 = true → meth.name = "<init>" ∧ (r.2.1 (n % 64)).1 = own) (hlk : mv_lk b h a = some (.inr (n / 64, V))) (hdg : decode cc pc = .ok (.putfield idx, 3))
    (kk : ∀ (H1 : Heap) (locs1 : List Loc), mv_rel cl g b (mv_up b h a (.inr (n / 64, updV V (n % 64) v))) H1 → mv_fr b H0 H1 locs1 → W p l e R s m args below meth c H1 locs1 cells slots Q (F0 m (pc + 3) ls rest)) : W p l e R s m args below meth c H locs cells slots Q (F0 m pc ls (v :: .ref a :: rest)) := by
  obtain ⟨r2, hr2, hk, ref, hlink, hsame⟩ := hf
  cases Option.some.inj (hr2.symm.trans hr)
  obtain ⟨r', hr', cell, q1, q2, q3, q4⟩ := hR.at hlk
  cases Option.some.inj (hr'.symm.trans hr)
  obtain ⟨hin, htys, hnm⟩ := hcl _ _ hr
  have hKn := hK.1 _ _ hr
  have hap := mh_apart hts (hcl _ _ hr) hKn
  obtain ⟨hS, hfc, kC, hkC, hkind⟩ := hKn
  obtain ⟨cf, kf, fi, f, hi, hsl⟩ := hS _ hk
  obtain ⟨ty2, ht2, hd⟩ := htys _ hk
  cases Option.some.inj (ht2.symm.trans hty)
  have hn : narrow ty v = v := mv_narrow hfit hnt
  have hi2 : s.fieldFound? ref (r.2.1 (n % 64)).2.1 (r.2.1 (n % 64)).2.2.1 = some (cf, kf, fi, f) := by
    rcases hsame with rfl | hsm
    · exact hi
    · exact u_same (hts _ hsm) _ hi
  have hst := (u_facts hfc hkC (u_lays hts hin hk) hi).1
  have hab : b ≤ a := (mv_lk_of hlk).1
  have hlay := hts _ (hin _ (u_in_lay hk))
  unfold u_lay at hlay
  cases hfb : (r.2.1 (n % 64)).2.2.2 with
  | false =>
    rw [if_neg (by rw [hfb]; decide)] at hlay
    have h6 := u_store hfc hkC hkind hlay hi hd hn hfit
    refine W.putK hx hb (f := f) ⟨hown, hts _ hlink, ⟨_, _, _, hi2⟩, hst⟩ (by rw [q2]; exact h6) q1 q3 (by rw [hsl]; exact k2_hasslot (q4 _ hk)) rfl rfl hdg fun H' e1 e2 e3 => ?_
    rw [hsl] at e1
    exact kk H' _ (hR.put hlk ⟨_, hr, _, e1, q2, q3, t_set q4 hap hk v⟩ e2 e3) (hF.put e3 hab)
  | true =>
    rw [if_pos hfb] at hlay
    obtain ⟨hin2, hdecl⟩ := hfin hfb
    have hcf : m.cls = cf := by
      obtain ⟨_, _, c', _, _, _, -, -, hf', -, -, -, hown2, -⟩ := Cond.laysFinal_spec hlay
      have e1 : c' = cf := by have := hi.symm.trans hf'; simp at this; exact this.1.symm
      rw [hdecl] at hown2
      rw [← e1]; exact Option.some.inj (hown.symm.trans hown2)
    have h6 := u_fits hfc hkC hkind (Or.inr hlay) hi hd hn hfit
    refine W.putFinK hx hb hown (hts _ hlink) hi2 hst hcf hin2 (by rw [q2]; exact h6) q1 q3 (by rw [hsl]; exact k2_hasslot (q4 _ hk)) rfl rfl hdg fun H' e1 e2 e3 => ?_
    rw [hsl] at e1
    exact kk H' _ (hR.put hlk ⟨_, hr, _, e1, q2, q3, t_set q4 hap hk v⟩ e2 e3) (hF.put e3 hab)
/-- an object's fields when it is made -/
def mv_def (r : mv_K) (k : Nat) : Value := match r.2.2.2.2[k]? with
  | some ty => defaultValue ty
  | none => .null
theorem mh_new (hx : p.tables.exec = Jvm.exec) (hb : c.code = cc) (hts : ∀ w ∈ G, w.before args s = true) (hcl : ∀ (ci : Nat) (r : mv_K), cl[ci]? = some r → mv_clok G r) (hown : s.vm.findClass own = some m.cls) (hK : mv_kn cl tys g s) (hR : mv_rel cl g b h H) (hF : mv_fr b H0 H locs)
    {idx ci : Nat} {r : mv_K} (hr : cl[ci]? = some r) (w1 : Cond.classLink own idx r.1 ∈ G) (w2 : Cond.instantiable r.1 r.2.2.2.1 ∈ G) (w3 : Cond.initialized r.1 ∈ G) (hcells : cells + 1 ≤ R.cells) (hslots : slots + r.2.2.2.1 ≤ R.slots) (hdg : decode cc pc = .ok (.new idx, 3))
    (kk : ∀ (H1 : Heap), mv_rel cl g b (h ++ [.inr (ci, mv_def r)]) H1 → mv_fr b H0 H1 locs → W p l e R s m args below meth c H1 locs (cells + 1) (slots + r.2.2.2.1) Q (F0 m (pc + 3) ls (.ref (b + h.length) :: rest))) : W p l e R s m args below meth c H locs cells slots Q (F0 m pc ls rest) := by
  have hKn := hK.1 _ _ hr
  obtain ⟨hin, hty, -⟩ := hcl _ _ hr
  refine W.newcK hx hb hown (hts _ w1) (hts _ w2) (hts _ w3) rfl hdg hcells hslots hKn.2.1 rfl fun H1 kC hkC e1 z1 o1 => ?_
  rw [hR.1]
  refine kk H1 (hR.push ⟨r, hr, ?_⟩ z1 o1) (hF.push o1 (by rw [hR.1]; omega))
  have h9 : ∀ k, k < r.2.2.1 → parseFieldDescriptor (r.2.1 k).2.2.1 = some ((r.2.2.2.2[k]?).getD .int) := fun k hk => by
    obtain ⟨ty, h1, h2⟩ := hty k hk
    rw [h1]; exact h2
  refine (u_born (fun k => (r.2.2.2.2[k]?).getD .int) hts hin hKn hkC e1 h9).to (fun k hk => ?_)
  obtain ⟨ty, h1, h2⟩ := hty k hk
  simp [mv_def, h1]
theorem mh_newa (hx : p.tables.exec = Jvm.exec) (hb : c.code = cc) (hts : ∀ w ∈ G, w.before args s = true) (hK : mv_kn cl tys g s) (hR : mv_rel cl g b h H) (hF : mv_fr b H0 H locs)
    {t : Nat} {at_ : ArrayType} (ht : tys[t]? = some (newarray.typeOf at_)) (w1 : Cond.arrayClass (newarray.typeOf at_) ∈ G) {x : Int32} (hn : ¬ x < 0) (hbytes : x.toNatClampNeg ≤ 60000000) (hcells : cells + 1 ≤ R.cells) (hslots : slots + x.toNatClampNeg ≤ R.slots) (hdg : decode cc pc = .ok (.newarray at_, 2))
    (kk : ∀ (H1 : Heap), mv_rel cl g b (h ++ [.inl (t, x.toNatClampNeg, fun _ => defaultValue (newarray.typeOf at_))]) H1 → mv_fr b H0 H1 locs → W p l e R s m args below meth c H1 locs (cells + 1) (slots + x.toNatClampNeg) Q (F0 m (pc + 2) ls (.ref (b + h.length) :: rest))) : W p l e R s m args below meth c H locs cells slots Q (F0 m pc ls (.int x :: rest)) := by
  refine va_newaK hx hb (hts _ w1) rfl hdg rfl hn rfl (by cases at_ <;> simp [newarray.typeOf, componentBytes] <;> omega) hcells hslots rfl fun H1 cA e1 z1 o1 hAr hNm => ?_
  have hcA : cA = g.2.2 t := by
    have h2 := (hK.2 _ _ ht).2
    have h3 : s.vm.findClass ("[" ++ (newarray.typeOf at_).toString) = some (g.2.2 t) := by cases at_ <;> exact h2
    exact Option.some.inj (hNm.symm.trans h3)
  subst hcA
  rw [hR.1]
  exact kk H1 (hR.push e1 z1 o1) (hF.push o1 (by rw [hR.1]; omega))
theorem mh_newq (hx : p.tables.exec = Jvm.exec) (hb : c.code = cc) (hts : ∀ w ∈ G, w.before args s = true) (hown : s.vm.findClass own = some m.cls) (hK : mv_kn cl tys g s) (hR : mv_rel cl g b h H) (hF : mv_fr b H0 H locs)
    {idx t : Nat} {C : String} (ht : tys[t]? = some (.object C)) (w1 : Cond.classLink own idx C ∈ G) (w2 : Cond.arrayOver (.object C) ∈ G) {x : Int32} (hn : ¬ x < 0) (hbytes : x.toNatClampNeg ≤ 60000000) (hcells : cells + 1 ≤ R.cells) (hslots : slots + x.toNatClampNeg ≤ R.slots) (hdg : decode cc pc = .ok (.anewarray idx, 3))
    (kk : ∀ (H1 : Heap), mv_rel cl g b (h ++ [.inl (t, x.toNatClampNeg, fun _ => .null)]) H1 → mv_fr b H0 H1 locs → W p l e R s m args below meth c H1 locs (cells + 1) (slots + x.toNatClampNeg) Q (F0 m (pc + 3) ls (.ref (b + h.length) :: rest))) : W p l e R s m args below meth c H locs cells slots Q (F0 m pc ls (.int x :: rest)) := by
  refine W.anew hx hb hown (hts _ w1) (hts _ w2) rfl hdg rfl hn (by omega) hcells hslots fun cA kA comp f1 f2 f3 f4 => ?_
  generalize hH1 : H.push ({ cls := cA, slots := Array.replicate x.toNatClampNeg .null, vm := .none } : Cell) = H1
  have z1 : H1.size = H.size + 1 := by rw [← hH1, Array.size_push]
  have e1 : H1[H.size]? = some (arrV cA x.toNatClampNeg (fun _ => .null)) := by rw [← hH1, Array.getElem?_push_size, ← arrV_new]
  have o1 : ∀ q : Nat, q < H.size → H1[q]? = H[q]? := fun q hq => by rw [← hH1, Array.getElem?_push, if_neg (Nat.ne_of_lt hq)]
  have hcA : cA = g.2.2 t := by
    obtain ⟨kA2, comp2, -, -, -, g4⟩ := (hK.2 _ _ ht).2
    exact Option.some.inj (f1.symm.trans g4)
  subst hcA
  rw [hR.1]
  exact kk H1 (hR.push e1 z1 o1) (hF.push o1 (by rw [hR.1]; omega))
theorem mh_alen (hx : p.tables.exec = Jvm.exec) (hb : c.code = cc) (hK : mv_kn cl tys g s) (hR : mv_rel cl g b h H) {t N : Nat} {f : Nat → Value} {ty : FieldType} (ht : tys[t]? = some ty) (hlk : mv_lk b h a = some (.inl (t, N, f))) (hdg : decode cc pc = .ok (.arraylength, 1))
    (kk : W p l e R s m args below meth c H locs cells slots Q (F0 m (pc + 1) ls (.int (Int32.ofNat N) :: rest))) : W p l e R s m args below meth c H locs cells slots Q (F0 m pc ls (.ref a :: rest)) :=
  W.alen hx hb (hR.at hlk) ((hK.2 _ _ ht).1 N f) (by show (arrV _ _ _).slots.size.toInt32 = _; rw [arrV_size]) rfl rfl hdg kk
theorem mh_in {i : Int32} {N : Nat} {cA : ClassId} {f : Nat → Value} (hin : ¬ (i < 0 ∨ N ≤ i.toNatClampNeg)) : ¬ (i < 0 ∨ (arrV cA N f).slots.size ≤ i.toNatClampNeg) ∧ (arrV cA N f).slots[i.toNatClampNeg]? = some (f i.toNatClampNeg) :=
  ⟨by rw [arrV_size]; exact hin, arrV_read _ _ (Nat.not_le.mp fun q => hin (Or.inr q))⟩
theorem mh_iald (hx : p.tables.exec = Jvm.exec) (hb : c.code = cc) (hK : mv_kn cl tys g s) (hR : mv_rel cl g b h H) {t N : Nat} {f : Nat → Value} {i : Int32} (ht : tys[t]? = some .int) (hlk : mv_lk b h a = some (.inl (t, N, f))) (hin : ¬ (i < 0 ∨ N ≤ i.toNatClampNeg)) (hdg : decode cc pc = .ok (.iaload, 1))
    (kk : W p l e R s m args below meth c H locs cells slots Q (F0 m (pc + 1) ls (f i.toNatClampNeg :: rest))) : W p l e R s m args below meth c H locs cells slots Q (F0 m pc ls (.int i :: .ref a :: rest)) :=
  W.iald hx hb (hR.at hlk) ((hK.2 _ _ ht).1 N f) (fun q => by cases q) (mh_in hin).1 (mh_in hin).2 rfl rfl hdg kk
theorem mh_zald (hx : p.tables.exec = Jvm.exec) (hb : c.code = cc) (hK : mv_kn cl tys g s) (hR : mv_rel cl g b h H) {t N : Nat} {f : Nat → Value} {i : Int32} (ht : tys[t]? = some .boolean) (hlk : mv_lk b h a = some (.inl (t, N, f))) (hin : ¬ (i < 0 ∨ N ≤ i.toNatClampNeg)) (hdg : decode cc pc = .ok (.baload, 1))
    (kk : W p l e R s m args below meth c H locs cells slots Q (F0 m (pc + 1) ls (f i.toNatClampNeg :: rest))) : W p l e R s m args below meth c H locs cells slots Q (F0 m pc ls (.int i :: .ref a :: rest)) :=
  W.zald hx hb (hR.at hlk) ((hK.2 _ _ ht).1 N f) (fun q => by cases q) (mh_in hin).1 (mh_in hin).2 rfl rfl hdg kk
theorem mh_lald (hx : p.tables.exec = Jvm.exec) (hb : c.code = cc) (hK : mv_kn cl tys g s) (hR : mv_rel cl g b h H) {t N : Nat} {f : Nat → Value} {i : Int32} (ht : tys[t]? = some .long) (hlk : mv_lk b h a = some (.inl (t, N, f))) (hin : ¬ (i < 0 ∨ N ≤ i.toNatClampNeg)) (hdg : decode cc pc = .ok (.laload, 1))
    (kk : W p l e R s m args below meth c H locs cells slots Q (F0 m (pc + 1) ls (f i.toNatClampNeg :: rest))) : W p l e R s m args below meth c H locs cells slots Q (F0 m pc ls (.int i :: .ref a :: rest)) :=
  W.lald hx hb (hR.at hlk) ((hK.2 _ _ ht).1 N f) (fun q => by cases q) (mh_in hin).1 (mh_in hin).2 rfl rfl hdg kk
theorem mh_aald (hx : p.tables.exec = Jvm.exec) (hb : c.code = cc) (hK : mv_kn cl tys g s) (hR : mv_rel cl g b h H) {t N : Nat} {f : Nat → Value} {i : Int32} {C : String} (ht : tys[t]? = some (.object C)) (hlk : mv_lk b h a = some (.inl (t, N, f))) (hin : ¬ (i < 0 ∨ N ≤ i.toNatClampNeg)) (hdg : decode cc pc = .ok (.aaload, 1))
    (kk : W p l e R s m args below meth c H locs cells slots Q (F0 m (pc + 1) ls (f i.toNatClampNeg :: rest))) : W p l e R s m args below meth c H locs cells slots Q (F0 m pc ls (.int i :: .ref a :: rest)) :=
  W.aald (ty := .object C) hx hb (hR.at hlk) ((hK.2 _ _ ht).1 N f) rfl (fun q => by cases q) (mh_in hin).1 (mh_in hin).2 rfl rfl hdg kk
theorem mh_iast (hx : p.tables.exec = Jvm.exec) (hb : c.code = cc) (hK : mv_kn cl tys g s) (hR : mv_rel cl g b h H) (hF : mv_fr b H0 H locs) {t N : Nat} {f : Nat → Value} {i x : Int32} (ht : tys[t]? = some .int) (hlk : mv_lk b h a = some (.inl (t, N, f))) (hin : ¬ (i < 0 ∨ N ≤ i.toNatClampNeg)) (hdg : decode cc pc = .ok (.iastore, 1))
    (kk : ∀ (H1 : Heap) (locs1 : List Loc), mv_rel cl g b (mv_up b h a (.inl (t, N, updV f i.toNatClampNeg (.int x)))) H1 → mv_fr b H0 H1 locs1 → W p l e R s m args below meth c H1 locs1 cells slots Q (F0 m (pc + 1) ls rest)) : W p l e R s m args below meth c H locs cells slots Q (F0 m pc ls (.int x :: .int i :: .ref a :: rest)) := by
  refine W.iast hx hb (hR.at hlk) ((hK.2 _ _ ht).1 N f) (fun q => by cases q) (mh_in hin).1 rfl rfl hdg fun H1 e1 z1 o1 => ?_
  rw [arrV_store] at e1
  exact kk H1 _ (hR.put hlk e1 z1 o1) (hF.put o1 (mv_lk_of hlk).1)
theorem mh_zast (hx : p.tables.exec = Jvm.exec) (hb : c.code = cc) (hK : mv_kn cl tys g s) (hR : mv_rel cl g b h H) (hF : mv_fr b H0 H locs) {t N : Nat} {f : Nat → Value} {i x : Int32} (ht : tys[t]? = some .boolean) (hlk : mv_lk b h a = some (.inl (t, N, f))) (hin : ¬ (i < 0 ∨ N ≤ i.toNatClampNeg)) (hdg : decode cc pc = .ok (.bastore, 1))
    (kk : ∀ (H1 : Heap) (locs1 : List Loc), mv_rel cl g b (mv_up b h a (.inl (t, N, updV f i.toNatClampNeg (narrow .boolean (.int x))))) H1 → mv_fr b H0 H1 locs1 → W p l e R s m args below meth c H1 locs1 cells slots Q (F0 m (pc + 1) ls rest)) : W p l e R s m args below meth c H locs cells slots Q (F0 m pc ls (.int x :: .int i :: .ref a :: rest)) := by
  refine W.zast hx hb (hR.at hlk) ((hK.2 _ _ ht).1 N f) (fun q => by cases q) (mh_in hin).1 rfl rfl hdg fun H1 e1 z1 o1 => ?_
  rw [arrV_store] at e1
  exact kk H1 _ (hR.put hlk e1 z1 o1) (hF.put o1 (mv_lk_of hlk).1)
theorem mh_last (hx : p.tables.exec = Jvm.exec) (hb : c.code = cc) (hK : mv_kn cl tys g s) (hR : mv_rel cl g b h H) (hF : mv_fr b H0 H locs) {t N : Nat} {f : Nat → Value} {i : Int32} {x : Int64} (ht : tys[t]? = some .long) (hlk : mv_lk b h a = some (.inl (t, N, f))) (hin : ¬ (i < 0 ∨ N ≤ i.toNatClampNeg)) (hdg : decode cc pc = .ok (.lastore, 1))
    (kk : ∀ (H1 : Heap) (locs1 : List Loc), mv_rel cl g b (mv_up b h a (.inl (t, N, updV f i.toNatClampNeg (.long x)))) H1 → mv_fr b H0 H1 locs1 → W p l e R s m args below meth c H1 locs1 cells slots Q (F0 m (pc + 1) ls rest)) : W p l e R s m args below meth c H locs cells slots Q (F0 m pc ls (.long x :: .int i :: .ref a :: rest)) := by
  refine W.last hx hb (hR.at hlk) ((hK.2 _ _ ht).1 N f) (fun q => by cases q) (mh_in hin).1 rfl rfl hdg fun H1 e1 z1 o1 => ?_
  rw [arrV_store] at e1
  exact kk H1 _ (hR.put hlk e1 z1 o1) (hF.put o1 (mv_lk_of hlk).1)
theorem mh_aastN (hx : p.tables.exec = Jvm.exec) (hb : c.code = cc) (hK : mv_kn cl tys g s) (hR : mv_rel cl g b h H) (hF : mv_fr b H0 H locs) {t N : Nat} {f : Nat → Value} {i : Int32} {C : String} (ht : tys[t]? = some (.object C)) (hlk : mv_lk b h a = some (.inl (t, N, f))) (hin : ¬ (i < 0 ∨ N ≤ i.toNatClampNeg)) (hdg : decode cc pc = .ok (.aastore, 1))
    (kk : ∀ (H1 : Heap) (locs1 : List Loc), mv_rel cl g b (mv_up b h a (.inl (t, N, updV f i.toNatClampNeg .null))) H1 → mv_fr b H0 H1 locs1 → W p l e R s m args below meth c H1 locs1 cells slots Q (F0 m (pc + 1) ls rest)) : W p l e R s m args below meth c H locs cells slots Q (F0 m pc ls (.null :: .int i :: .ref a :: rest)) := by
  refine va_WaastN (C := C) hx hb (hR.at hlk) ((hK.2 _ _ ht).1 N f) (fun q => by cases q) (mh_in hin).1 rfl rfl hdg fun H1 e1 z1 o1 => ?_
  rw [arrV_store] at e1
  exact kk H1 _ (hR.put hlk e1 z1 o1) (hF.put o1 (mv_lk_of hlk).1)
theorem mh_aast (hx : p.tables.exec = Jvm.exec) (hb : c.code = cc) (hts : ∀ w ∈ G, w.before args s = true) (hK : mv_kn cl tys g s) (hR : mv_rel cl g b h H) (hF : mv_fr b H0 H locs) {t N ci v : Nat} {f V : Nat → Value} {i : Int32} {C : String} {r : mv_K} (ht : tys[t]? = some (.object C)) (hlk : mv_lk b h a = some (.inl (t, N, f))) (hlv : mv_lk b h v = some (.inr (ci, V))) (hr : cl[ci]? = some r)
    (hc : r.1 = C ∨ Cond.castable r.1 C ∈ G) (hin : ¬ (i < 0 ∨ N ≤ i.toNatClampNeg)) (hdg : decode cc pc = .ok (.aastore, 1))
    (kk : ∀ (H1 : Heap) (locs1 : List Loc), mv_rel cl g b (mv_up b h a (.inl (t, N, updV f i.toNatClampNeg (.ref v)))) H1 → mv_fr b H0 H1 locs1 → W p l e R s m args below meth c H1 locs1 cells slots Q (F0 m (pc + 1) ls rest)) : W p l e R s m args below meth c H locs cells slots Q (F0 m pc ls (.ref v :: .int i :: .ref a :: rest)) := by
  have hlt : i.toNatClampNeg < N := Nat.not_le.mp fun q => hin (Or.inr q)
  have h0 : ¬ i < 0 := fun q => hin (Or.inl q)
  obtain ⟨r', hr', cellV, g1, g2, g3, -⟩ := hR.at hlv
  have hcls := (hK.1 ci r hr).2
  obtain ⟨kA, comp, k1, k2, k3, -⟩ := (hK.2 _ _ ht).2
  obtain ⟨kC, hkC, -⟩ := hcls.2
  obtain ⟨kcomp, hkcomp, -⟩ := Vm.findClass_spec k3
  have hass : s.vm.assignable (g.1 ci) comp = true := by
    rcases hc with rfl | hw
    · have hcomp : comp = g.1 ci := Option.some.inj (k3.symm.trans hcls.1)
      rw [hcomp]
      exact va_assign hcls
    · obtain ⟨c3, t3, w1, w2, w3⟩ := Cond.castable_spec (hts _ hw)
      cases Option.some.inj (w1.symm.trans hcls.1)
      cases Option.some.inj (w2.symm.trans k3)
      exact w3
  refine W.aast hx hb (hR.at hlk) (fun q h => by cases h) (fun h => by cases h) k1 k2 rfl hkcomp ⟨h0, by show _ < (arrV _ _ _).slots.size; rw [arrV_size]; exact hlt⟩ g1 (fun q h => by rw [g3] at h; cases h) (by rw [g2]; exact hkC) (by rw [g2]; exact hass) rfl rfl hdg fun H1 e1 z1 o1 => ?_
  rw [arrV_store] at e1
  exact kk H1 _ (hR.put hlk e1 z1 o1) (hF.put o1 (mv_lk_of hlk).1)
end MVH
