/-! the tables are checked by a program; what it says is enough -/
section MVB
variable {cl : List mv_K} {tys : List FieldType} {asg : List (Nat × Nat)} {M : List mv_J} {Tb : List Cond}
def mb_at (Tb : List Cond) (k : Nat) (w : Cond) : Bool := decide (Tb[k]? = some w) && mv_gw w
theorem mb_mem {k : Nat} {w : Cond} (h : mb_at Tb k w = true) : w ∈ Tb.filter mv_gw := by
  simp only [mb_at, Bool.and_eq_true, decide_eq_true_eq] at h
  exact List.mem_filter.mpr ⟨List.mem_of_getElem? h.1, h.2⟩
def mb_all (Tb : List Cond) : List Nat → List Cond → Bool
  | k :: ks, w :: ws => mb_at Tb k w && mb_all Tb ks ws
  | _, [] => true
  | [], _ :: _ => false
theorem mb_all_mem : ∀ {ks : List Nat} {ws : List Cond}, mb_all Tb ks ws = true → ∀ w ∈ ws, w ∈ Tb.filter mv_gw
  | k :: ks, v :: ws, h, w, hw => by
    simp only [mb_all, Bool.and_eq_true] at h
    rcases List.mem_cons.mp hw with rfl | hw
    · exact mb_mem h.1
    · exact mb_all_mem h.2 w hw
  | _, [], _, w, hw => by cases hw
  | [], v :: ws, h, _, _ => by cases h
/-- where a field's link stands, and where it is said that two names are one field -/
def mb_fl (cl : List mv_K) (Tb : List Cond) (own : String) (idx n : Nat) (ks : List Nat) : Bool := match cl[n / 64]? with
  | some r => decide (n % 64 < r.2.2.1) && (match ks with
    | [k1] => mb_at Tb k1 (.fieldLink own idx (r.2.1 (n % 64)).1 (r.2.1 (n % 64)).2.1 (r.2.1 (n % 64)).2.2.1)
    | [k1, k2] => (match Tb[k2]? with
      | some (.sameField ref o nm ds) => mb_at Tb k1 (.fieldLink own idx ref (r.2.1 (n % 64)).2.1 (r.2.1 (n % 64)).2.2.1) && mb_at Tb k2 (.sameField ref (r.2.1 (n % 64)).1 (r.2.1 (n % 64)).2.1 (r.2.1 (n % 64)).2.2.1)
      | _ => false)
    | _ => false)
  | none => false
theorem mb_fl_ok {own : String} {idx n : Nat} {ks : List Nat} (h : mb_fl cl Tb own idx n ks = true) : mv_fl cl (Tb.filter mv_gw) own idx n := by
  unfold mb_fl at h
  split at h
  · next r hr =>
    rw [Bool.and_eq_true, decide_eq_true_eq] at h
    obtain ⟨h1, h2⟩ := h
    split at h2
    · exact ⟨r, hr, h1, _, mb_mem h2, Or.inl rfl⟩
    · split at h2
      · rw [Bool.and_eq_true] at h2
        exact ⟨r, hr, h1, _, mb_mem h2.1, Or.inr (mb_mem h2.2)⟩
      · cases h2
    · cases h2
  · cases h
def mb_nm : List String := ["java/lang/RuntimeException", "java/lang/Exception"]
def mb_row (cl : List mv_K) (tys : List FieldType) (Tb : List Cond) (M : List mv_J) (q : mv_J) (pc len : Nat) (real i : Instr) (ks : List Nat) : Bool := match i with
  | .getfield n => (match real with
    | .getfield idx => decide (len = 3) && mb_fl cl Tb (mj_y q).cls idx n ks
    | _ => false)
  | .putfield n => (match real with
    | .putfield idx => decide (len = 3) && mb_fl cl Tb (mj_y q).cls idx n ks && (match cl[n / 64]? with
      | some r => !(r.2.1 (n % 64)).2.2.2 || (decide ((mj_y q).name = "<init>") && decide ((r.2.1 (n % 64)).1 = (mj_y q).cls))
      | none => false)
    | _ => false)
  | .new ci => (match real, cl[ci]? with
    | .new idx, some r => decide (len = 3) && mb_all Tb ks [.classLink (mj_y q).cls idx r.1, .instantiable r.1 r.2.2.2.1, .initialized r.1]
    | _, _ => false)
  | .newarray at_ => decide (real = .newarray at_) && decide (len = 2) && decide (tys[mv_kd at_]? = some (newarray.typeOf at_)) && mb_all Tb ks [.arrayClass (newarray.typeOf at_)]
  | .anewarray t => (match real, tys[t]? with
    | .anewarray idx, some (.object C) => decide (len = 3) && mb_all Tb ks [.classLink (mj_y q).cls idx C, .arrayOver (.object C)]
    | _, _ => false)
  | .arraylength => decide (real = .arraylength) && decide (len = 1)
  | .iaload => decide (real = .iaload) && decide (len = 1)
  | .baload => decide (real = .baload) && decide (len = 1)
  | .laload => decide (real = .laload) && decide (len = 1)
  | .aaload => decide (real = .aaload) && decide (len = 1)
  | .iastore => decide (real = .iastore) && decide (len = 1)
  | .bastore => decide (real = .bastore) && decide (len = 1)
  | .lastore => decide (real = .lastore) && decide (len = 1)
  | .aastore => decide (real = .aastore) && decide (len = 1)
  | .checkcast ci => (match real, cl[ci]? with
    | .checkcast idx, some r => decide (len = 3) && mb_all Tb ks [.classLink (mj_y q).cls idx r.1]
    | _, _ => false)
  | .ldc_w n => (match real with
    | .ldc idx => decide (len = 2) && mb_all Tb ks [.constant (mj_y q).cls idx (Int32.ofNat n)]
    | .ldc_w idx => decide (len = 3) && mb_all Tb ks [.constant (mj_y q).cls idx (Int32.ofNat n)]
    | _ => false)
  | .getstatic _ => (match real with
    | .getstatic idx => decide (len = 3) && mb_all Tb ks [.fieldLink (mj_y q).cls idx "java/util/ArrayList" "DEFAULTCAPACITY_EMPTY_ELEMENTDATA" "[Ljava/lang/Object;"]
    | _ => false)
  | .ldc _ => (match real with
    | .ldc idx => decide (len = 2) && mb_all Tb ks [.classLink (mj_y q).cls idx "[Ljava/lang/Object;"]
    | _ => false)
  | .d2i => (match real with
    | .invokevirtual idx => decide (len = 3) && mb_all Tb ks [.methodLink (mj_y q).cls idx mv_gc, .declares mv_gc, .selects "[Ljava/lang/Object;" mv_gc mv_gc, .instanceMethod mv_gc, .native mv_gc]
    | _ => false)
  | .d2l => (match real with
    | .invokestatic idx => decide (len = 3) && mb_all Tb ks [.methodLink (mj_y q).cls idx arraycopyName, .native arraycopyName, .static arraycopyName, .initialized "java/lang/System"]
    | _ => false)
  | .ldc2_w n => (match real with
    | .ldc2_w idx => decide (len = 3) && mb_all Tb ks [.constantLong (mj_y q).cls idx (Int64.ofNat n)]
    | _ => false)
  | .monitorexit => (match real with
    | .invokespecial idx => decide (len = 3) && mb_all Tb ks [.methodLink (mj_y q).cls idx Lib.objectInit, .instanceMethod Lib.objectInit, .code Lib.objectInit ⟨#[0xb1]⟩ 1 none]
    | _ => false)
  | .monitorenter => (match real with
    | .invokestatic idx => decide (len = 3) && mb_all Tb ks [.methodLink (mj_y q).cls idx arraycopyName, .native arraycopyName, .static arraycopyName, .initialized "java/lang/System"]
    | _ => false)
  | .invokestatic j => (match real, M[j]? with
    | .invokestatic idx, some q' => decide (len = 3) && mb_all Tb ks [.methodLink (mj_y q).cls idx (mj_y q'), .static (mj_y q')] && decide ((parseMethodDescriptor (mj_y q').desc).map (fun d => d.parameters.length) = some (mj_a q'))
    | _, _ => false)
  | .invokevirtual j => (match real, M[j]? with
    | .invokevirtual idx, some q' => decide (len = 3) && mb_all Tb ks [.methodLink (mj_y q).cls idx (mj_y q'), .instanceMethod (mj_y q'), .selects (mj_y q').cls (mj_y q') (mj_y q')] && (match cl[mj_k q']? with
      | some r => decide (r.1 = (mj_y q').cls)
      | none => false) && decide ((parseMethodDescriptor (mj_y q').desc).map (fun d => d.parameters.length + 1) = some (mj_a q'))
    | _, _ => false)
  | .invokespecial j => (match real, M[j]? with
    | .invokespecial idx, some q' => decide (len = 3) && (match ks with
      | k :: _ => mb_at Tb k (.methodLink (mj_y q).cls idx (mj_y q')) || mb_at Tb k (.methodLinkNest (mj_y q).cls idx (mj_y q') "PlugTree")
      | [] => false) && mb_all Tb (ks.drop 1) [.instanceMethod (mj_y q'), .code (mj_y q') (mj_b q') (mj_n q') none] && decide ((mj_y q').name = "<init>") && decide ((parseMethodDescriptor (mj_y q').desc).map (fun d => d.parameters.length + 1) = some (mj_a q'))
    | _, _ => false)
  | .instanceof ci => (match real, cl[ci]?, decode (mj_b q) (pc + 4) with
    | .new idx, some r, .ok (.invokespecial ic, 3) => decide (len = 3) && decide (r.2.2.2.1 = 6) && decide (r.2.2.1 = 0) && decide (mj_hh q = []) && decide (decode (mj_b q) (pc + 3) = .ok (.dup, 1)) && decide (decode (mj_b q) (pc + 7) = .ok (.athrow, 1)) && mb_all Tb ks (.classLink (mj_y q).cls idx r.1 :: .initialized r.1 :: mv_atoms (mj_y q).cls ic r.1 mb_nm) && Bundle.fit r.1 && mb_nm.all Bundle.fit
    | _, _, _ => false)
  | i => decide (i = mv_abs pc real) && mv_lok real len && mv_nn i
set_option maxHeartbeats 4000000 in
theorem mb_row_ok {q : mv_J} {pc len : Nat} {real i : Instr} {ks : List Nat} (h : mb_row cl tys Tb M q pc len real i ks = true) : mv_row cl tys (Tb.filter mv_gw) M q pc len real i := by
  have two : ∀ {a b : Prop} [Decidable a] [Decidable b], (decide a && decide b) = true → a ∧ b := by
    intro a b _ _ h
    simpa using h
  cases i with
  | getfield n =>
    simp only [mb_row] at h
    split at h
    · next idx =>
      rw [Bool.and_eq_true, decide_eq_true_eq] at h
      exact ⟨idx, rfl, h.1, mb_fl_ok h.2⟩
    · cases h
  | putfield n =>
    simp only [mb_row] at h
    split at h
    · next idx =>
      simp only [Bool.and_eq_true, decide_eq_true_eq] at h
      obtain ⟨⟨h1, h2⟩, h3⟩ := h
      refine ⟨idx, rfl, h1, mb_fl_ok h2, fun r hr hf => ?_⟩
      rw [hr] at h3
      simp only [hf, Bool.not_true, Bool.false_or, Bool.and_eq_true, decide_eq_true_eq] at h3
      exact h3
    · cases h
  | new ci =>
    simp only [mb_row] at h
    split at h
    · next idx r hr =>
      rw [Bool.and_eq_true, decide_eq_true_eq] at h
      have hm := mb_all_mem h.2
      exact ⟨idx, r, rfl, h.1, hr, hm _ (by simp), hm _ (by simp), hm _ (by simp)⟩
    · cases h
  | newarray at_ =>
    simp only [mb_row, Bool.and_eq_true, decide_eq_true_eq] at h
    obtain ⟨⟨⟨h1, h2⟩, h3⟩, h4⟩ := h
    exact ⟨h1, h2, h3, mb_all_mem h4 _ (by simp)⟩
  | anewarray t =>
    simp only [mb_row] at h
    split at h
    · next idx C hC =>
      rw [Bool.and_eq_true, decide_eq_true_eq] at h
      have hm := mb_all_mem h.2
      exact ⟨idx, C, rfl, h.1, hC, hm _ (by simp), hm _ (by simp)⟩
    · cases h
  | arraylength => exact two h
  | iaload => exact two h
  | baload => exact two h
  | laload => exact two h
  | aaload => exact two h
  | iastore => exact two h
  | bastore => exact two h
  | lastore => exact two h
  | aastore => exact two h
  | checkcast ci =>
    simp only [mb_row] at h
    split at h
    · next idx r hr =>
      rw [Bool.and_eq_true, decide_eq_true_eq] at h
      exact ⟨idx, r, rfl, h.1, hr, mb_all_mem h.2 _ (by simp)⟩
    · cases h
  | ldc_w n =>
    simp only [mb_row] at h
    split at h
    · next idx =>
      rw [Bool.and_eq_true, decide_eq_true_eq] at h
      exact Or.inl ⟨idx, rfl, h.1, mb_all_mem h.2 _ (by simp)⟩
    · next idx =>
      rw [Bool.and_eq_true, decide_eq_true_eq] at h
      exact Or.inr ⟨idx, rfl, h.1, mb_all_mem h.2 _ (by simp)⟩
    · cases h
  | getstatic n =>
    simp only [mb_row] at h
    split at h
    · next idx =>
      rw [Bool.and_eq_true, decide_eq_true_eq] at h
      exact ⟨idx, rfl, h.1, mb_all_mem h.2 _ (by simp)⟩
    · cases h
  | ldc n =>
    simp only [mb_row] at h
    split at h
    · next idx =>
      rw [Bool.and_eq_true, decide_eq_true_eq] at h
      exact ⟨idx, rfl, h.1, mb_all_mem h.2 _ (by simp)⟩
    · cases h
  | d2i =>
    simp only [mb_row] at h
    split at h
    · next idx =>
      rw [Bool.and_eq_true, decide_eq_true_eq] at h
      have hm := mb_all_mem h.2
      exact ⟨idx, rfl, h.1, hm _ (by simp), hm _ (by simp), hm _ (by simp), hm _ (by simp), hm _ (by simp)⟩
    · cases h
  | d2l =>
    simp only [mb_row] at h
    split at h
    · next idx =>
      rw [Bool.and_eq_true, decide_eq_true_eq] at h
      have hm := mb_all_mem h.2
      exact ⟨idx, rfl, h.1, hm _ (by simp), hm _ (by simp), hm _ (by simp), hm _ (by simp)⟩
    · cases h
  | ldc2_w n =>
    simp only [mb_row] at h
    split at h
    · next idx =>
      rw [Bool.and_eq_true, decide_eq_true_eq] at h
      exact ⟨idx, rfl, h.1, mb_all_mem h.2 _ (by simp)⟩
    · cases h
  | monitorexit =>
    simp only [mb_row] at h
    split at h
    · next idx =>
      rw [Bool.and_eq_true, decide_eq_true_eq] at h
      have hm := mb_all_mem h.2
      exact ⟨idx, rfl, h.1, hm _ (by simp), hm _ (by simp), hm _ (by simp)⟩
    · cases h
  | monitorenter =>
    simp only [mb_row] at h
    split at h
    · next idx =>
      rw [Bool.and_eq_true, decide_eq_true_eq] at h
      have hm := mb_all_mem h.2
      exact ⟨idx, rfl, h.1, hm _ (by simp), hm _ (by simp), hm _ (by simp), hm _ (by simp)⟩
    · cases h
  | invokestatic j =>
    simp only [mb_row] at h
    split at h
    · next idx q' hq' =>
      simp only [Bool.and_eq_true, decide_eq_true_eq] at h
      have hm := mb_all_mem h.1.2
      exact ⟨idx, q', rfl, h.1.1, hq', hm _ (by simp), hm _ (by simp), h.2⟩
    · cases h
  | invokevirtual j =>
    simp only [mb_row] at h
    split at h
    · next idx q' hq' =>
      simp only [Bool.and_eq_true, decide_eq_true_eq] at h
      obtain ⟨⟨⟨h1, h2⟩, h3⟩, h4⟩ := h
      have hm := mb_all_mem h2
      split at h3
      · next r hr => exact ⟨idx, q', r, rfl, h1, hq', hm _ (by simp), hm _ (by simp), hm _ (by simp), hr, of_decide_eq_true h3, h4⟩
      · cases h3
    · cases h
  | invokespecial j =>
    simp only [mb_row] at h
    split at h
    · next idx q' hq' =>
      simp only [Bool.and_eq_true, decide_eq_true_eq] at h
      obtain ⟨⟨⟨⟨h1, h0⟩, h2⟩, h3⟩, h4⟩ := h
      have hm := mb_all_mem h2
      refine ⟨idx, q', rfl, h1, hq', ?_, hm _ (by simp), h3, hm _ (by simp), h4⟩
      split at h0
      · rw [Bool.or_eq_true] at h0
        rcases h0 with h0 | h0
        · exact Or.inl (mb_mem h0)
        · exact Or.inr ⟨_, mb_mem h0⟩
      · cases h0
    · cases h
  | instanceof ci =>
    simp only [mb_row] at h
    split at h
    · next idx r ic hr hic =>
      simp only [Bool.and_eq_true, decide_eq_true_eq] at h
      obtain ⟨⟨⟨⟨⟨⟨⟨⟨h1, h2⟩, h3⟩, h4⟩, h5⟩, h6⟩, h7⟩, h8⟩, h9⟩ := h
      have hm := mb_all_mem h7
      exact ⟨idx, ic, r, mb_nm, rfl, h1, hr, h2, h3, h4, h5, hic, h6, hm _ (by simp), hm _ (by simp), by decide, h8, fun n hn => List.all_eq_true.mp h9 n hn, fun w hw => hm w (List.mem_cons_of_mem _ (List.mem_cons_of_mem _ hw))⟩
    · cases h
  | _ =>
    simp only [mb_row, Bool.and_eq_true, decide_eq_true_eq] at h
    exact ⟨h.1.1, h.1.2, h.2⟩
def mb_rows (cl : List mv_K) (tys : List FieldType) (Tb : List Cond) (M : List mv_J) (q : mv_J) : Nat → List (Option (Nat × Instr × Instr × List Nat)) → Bool
  | _, [] => true
  | pc, none :: r => mb_rows cl tys Tb M q (pc + 1) r
  | pc, some x :: r => decide (decode (mj_b q) pc = .ok (x.2.1, x.1)) && mb_row cl tys Tb M q pc x.1 x.2.1 x.2.2.1 x.2.2.2 && mb_rows cl tys Tb M q (pc + 1) r
theorem mb_rows_ok {q : mv_J} : ∀ (rs : List (Option (Nat × Instr × Instr × List Nat))) (pc : Nat), mb_rows cl tys Tb M q pc rs = true → ∀ (k : Nat) (x : Nat × Instr × Instr × List Nat), rs[k]? = some (some x) → decode (mj_b q) (pc + k) = .ok (x.2.1, x.1) ∧ mv_row cl tys (Tb.filter mv_gw) M q (pc + k) x.1 x.2.1 x.2.2.1
  | [], pc, h, k, x, hx => by simp at hx
  | none :: r, pc, h, k, x, hx => by
    cases k with
    | zero => simp at hx
    | succ k =>
      have := mb_rows_ok r (pc + 1) h k x (by simpa using hx)
      rwa [show pc + (k + 1) = pc + 1 + k by omega]
  | some y :: r, pc, h, k, x, hx => by
    simp only [mb_rows, Bool.and_eq_true, decide_eq_true_eq] at h
    cases k with
    | zero =>
      simp only [List.getElem?_cons_zero, Option.some.injEq] at hx
      subst hx
      exact ⟨h.1.1, mb_row_ok h.1.2⟩
    | succ k =>
      have := mb_rows_ok r (pc + 1) h.2 k x (by simpa using hx)
      rwa [show pc + (k + 1) = pc + 1 + k by omega]
def mb_hs (cl : List mv_K) (Tb : List Cond) (own : String) : List (Nat × Nat × Nat × Nat) → List (Nat × Nat × Nat × Nat) → List Nat → Bool
  | [], [], _ => true
  | a :: r, b :: t, k :: ks => decide (a.1 = b.1) && decide (a.2.1 = b.2.1) && decide (a.2.2.1 = b.2.2.1) && decide (a.2.2.2 ≠ 0) && (match cl[b.2.2.2]? with
    | some K => mb_at Tb k (.classLink own a.2.2.2 K.1)
    | none => false) && mb_hs cl Tb own r t ks
  | _, _, _ => false
theorem mb_hs_ok {own : String} : ∀ {hh hr : List (Nat × Nat × Nat × Nat)} {ks : List Nat}, mb_hs cl Tb own hh hr ks = true → hh.length = hr.length ∧ ∀ (i : Nat) (a b : Nat × Nat × Nat × Nat), hh[i]? = some a → hr[i]? = some b → mv_hok cl (Tb.filter mv_gw) own a b
  | [], [], ks, _ => ⟨rfl, fun i a b h _ => by simp at h⟩
  | a :: r, b :: t, k :: ks, h => by
    simp only [mb_hs, Bool.and_eq_true, decide_eq_true_eq] at h
    obtain ⟨⟨⟨⟨⟨h1, h2⟩, h3⟩, h4⟩, h5⟩, h6⟩ := h
    obtain ⟨i1, i2⟩ := mb_hs_ok h6
    refine ⟨by simp [i1], fun i x y hx hy => ?_⟩
    cases i with
    | zero =>
      simp only [List.getElem?_cons_zero, Option.some.injEq] at hx hy
      subst hx; subst hy
      split at h5
      · next K hK => exact ⟨h1, h2, h3, h4, K, hK, mb_mem h5⟩
      · cases h5
    | succ i => exact i2 i x y (by simpa using hx) (by simpa using hy)
  | [], b :: t, ks, h => by cases ks <;> cases h
  | a :: r, [], ks, h => by cases ks <;> cases h
  | a :: r, b :: t, [], h => by cases h
def mb_meth (cl : List mv_K) (tys : List FieldType) (Tb : List Cond) (M : List mv_J) (q : mv_J) (kc ki : Nat) (kh : List Nat) : Bool :=
  (if mj_hh q = [] then mb_at Tb kc (.code (mj_y q) (mj_b q) (mj_n q) (mj_r q)) else mb_at Tb kc (.codeWith (mj_y q) (mj_b q) (mj_n q) (mj_r q) (mj_hh q))) && mb_at Tb ki (.initialized (mj_y q).cls) && plainFor (mj_y q) && decide ((mj_y q).cls ≠ "java/lang/invoke/MethodHandle") && decide ((mj_y q).cls ≠ "java/lang/invoke/VarHandle") && decide (mj_n q ≤ 15) && mb_hs cl Tb (mj_y q).cls (mj_hh q) (mj_hr q) kh && mb_rows cl tys Tb M q 0 (mj_c q)
theorem mb_split {q : mv_J} : ∀ (k : Nat) (rs : List (Option (Nat × Instr × Instr × List Nat))) (pc : Nat), mb_rows cl tys Tb M q pc (rs.take k) = true → mb_rows cl tys Tb M q (pc + k) (rs.drop k) = true → mb_rows cl tys Tb M q pc rs = true
  | 0, rs, pc, _, h => h
  | k + 1, [], pc, _, _ => rfl
  | k + 1, none :: r, pc, h1, h2 => mb_split k r (pc + 1) h1 (by rwa [show pc + 1 + k = pc + (k + 1) by omega])
  | k + 1, some x :: r, pc, h1, h2 => by
    simp only [List.take_succ_cons, mb_rows, Bool.and_eq_true] at h1
    simp only [mb_rows, Bool.and_eq_true]
    exact ⟨h1.1, mb_split k r (pc + 1) h1.2 (by rwa [show pc + 1 + k = pc + (k + 1) by omega])⟩
def mb_meth0 (cl : List mv_K) (Tb : List Cond) (q : mv_J) (kc ki : Nat) (kh : List Nat) : Bool :=
  (if mj_hh q = [] then mb_at Tb kc (.code (mj_y q) (mj_b q) (mj_n q) (mj_r q)) else mb_at Tb kc (.codeWith (mj_y q) (mj_b q) (mj_n q) (mj_r q) (mj_hh q))) && mb_at Tb ki (.initialized (mj_y q).cls) && plainFor (mj_y q) && decide ((mj_y q).cls ≠ "java/lang/invoke/MethodHandle") && decide ((mj_y q).cls ≠ "java/lang/invoke/VarHandle") && decide (mj_n q ≤ 15) && mb_hs cl Tb (mj_y q).cls (mj_hh q) (mj_hr q) kh
theorem mb_meth_of {q : mv_J} {kc ki : Nat} {kh : List Nat} (h0 : mb_meth0 cl Tb q kc ki kh = true) (h1 : mb_rows cl tys Tb M q 0 (mj_c q) = true) : mb_meth cl tys Tb M q kc ki kh = true := by
  have e : mb_meth cl tys Tb M q kc ki kh = (mb_meth0 cl Tb q kc ki kh && mb_rows cl tys Tb M q 0 (mj_c q)) := rfl
  rw [e, h0, h1]
  rfl
theorem mb_meth_ok {q : mv_J} {kc ki : Nat} {kh : List Nat} (h : mb_meth cl tys Tb M q kc ki kh = true) : mv_jok cl (Tb.filter mv_gw) q ∧ ∀ pc len real i, mv_at q pc = some (len, real, i) → decode (mj_b q) pc = .ok (real, len) ∧ mv_row cl tys (Tb.filter mv_gw) M q pc len real i := by
  simp only [mb_meth, Bool.and_eq_true, decide_eq_true_eq] at h
  obtain ⟨⟨⟨⟨⟨⟨⟨h1, h2⟩, h3⟩, h4⟩, h5⟩, h6⟩, h7⟩, h8⟩ := h
  obtain ⟨i1, i2⟩ := mb_hs_ok h7
  refine ⟨⟨?_, mb_mem h2, h3, ⟨h4, h5⟩, h6, i1, i2⟩, fun pc len real i hat => ?_⟩
  · split at h1
    · next hn => exact Or.inl ⟨hn, mb_mem h1⟩
    · exact Or.inr (mb_mem h1)
  · unfold mv_at at hat
    split at hat
    · next x hx =>
      cases hat
      have := mb_rows_ok _ _ h8 pc x hx
      rwa [Nat.zero_add] at this
    · cases hat
def mb_cl (Tb : List Cond) (r : mv_K) (ks : List Nat) : Bool := mb_all Tb ks (u_ws r.1 r.2.1 r.2.2.1) && (List.range r.2.2.1).all (fun k => match r.2.2.2.2[k]? with
  | some ty => decide (parseFieldDescriptor (r.2.1 k).2.2.1 = some ty)
  | none => false) && (List.range r.2.2.1).all (fun a => (List.range r.2.2.1).all fun b => decide (a = b) || decide ((r.2.1 a).2.1 ≠ (r.2.1 b).2.1))
theorem mb_cl_ok {r : mv_K} {ks : List Nat} (h : mb_cl Tb r ks = true) : mv_clok (Tb.filter mv_gw) r := by
  simp only [mb_cl, Bool.and_eq_true, List.all_eq_true, List.mem_range, Bool.or_eq_true, decide_eq_true_eq] at h
  obtain ⟨⟨h1, h2⟩, h3⟩ := h
  refine ⟨mb_all_mem h1, fun k hk => ?_, fun a ha b hb hne => ?_⟩
  · have := h2 k hk
    split at this
    · next ty hty => exact ⟨ty, hty, of_decide_eq_true this⟩
    · cases this
  · rcases h3 a ha b hb with h | h
    · exact absurd h hne
    · exact h
end MVB
