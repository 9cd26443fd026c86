/-! one step that calls nothing and ends nothing -/
def mv_tI (ty : FieldType) : Bool := match ty with
  | .int => true
  | _ => false
def mv_tZ (ty : FieldType) : Bool := match ty with
  | .boolean => true
  | _ => false
def mv_tL (ty : FieldType) : Bool := match ty with
  | .long => true
  | _ => false
def mv_tA (ty : FieldType) : Bool := match ty with
  | .object _ => true
  | _ => false
def mv_tS (ty : FieldType) : Bool := match ty with
  | .byte => false
  | .short => false
  | .char => false
  | _ => true
def mv_kd (a : ArrayType) : Nat := match a with
  | .int => 0
  | .boolean => 1
  | .long => 2
  | _ => 1000
/-- an element of an array of ours -/
def mv_rd (b : Nat) (tys : List FieldType) (want : FieldType → Bool) (h : mv_H) (a : Nat) (i : Int32) : Option Value := match mv_lk b h a with
  | some (.inl y) => (match tys[y.1]? with
    | some ty => if want ty = true ∧ ¬ (i < 0 ∨ y.2.1 ≤ i.toNatClampNeg) then some (y.2.2 i.toNatClampNeg) else none
    | none => none)
  | _ => none
/-- the heap with an element put -/
def mv_wr (b : Nat) (tys : List FieldType) (want : FieldType → Bool) (h : mv_H) (a : Nat) (i : Int32) (v : Value) : Option mv_H := match mv_lk b h a with
  | some (.inl y) => (match tys[y.1]? with
    | some ty => if want ty = true ∧ ¬ (i < 0 ∨ y.2.1 ≤ i.toNatClampNeg) then some (mv_up b h a (.inl (y.1, y.2.1, updV y.2.2 i.toNatClampNeg v))) else none
    | none => none)
  | _ => none
def mv_at_ (nx : Nat) (L : mv_L) (r : List Value) (h : mv_H) (v : Option Value) : Option (mv_F × mv_H) := match v with
  | some v => some ((nx, L, v :: r), h)
  | none => none
def mv_to_ (nx : Nat) (L : mv_L) (r : List Value) (h : Option mv_H) : Option (mv_F × mv_H) := match h with
  | some h => some ((nx, L, r), h)
  | none => none
def mv_kof (b : Nat) (h : mv_H) (a : Nat) : Option Nat := match mv_lk b h a with
  | some (.inl y) => some y.1
  | _ => none
def mv_cof (b : Nat) (h : mv_H) (a : Nat) : Option Nat := match mv_lk b h a with
  | some (.inr y) => some y.1
  | _ => none
/-- what may stand in an array of the kind t -/
def mv_elt (asg : List (Nat × Nat)) (b : Nat) (h : mv_H) (t : Nat) (v : Value) : Bool := match v with
  | .null => true
  | .ref a => (match mv_cof b h a with
    | some ci => asg.contains (ci, t)
    | none => false)
  | _ => false
abbrev mv_gc : MethodName := ⟨"java/lang/Object", "getClass", "()Ljava/lang/Class;"⟩
def mv_step (E : mv_E) (cl : List mv_K) (tys : List FieldType) (asg : List (Nat × Nat)) (i : Instr) (nx : Nat) (L : mv_L) (S : List Value) (h : mv_H) : Option (mv_F × mv_H) := match i with
  | .getfield n => (match S with
    | .ref a :: r => (match mv_lk E.1 h a with
      | some (.inr y) => if y.1 = n / 64 then some ((nx, L, y.2 (n % 64) :: r), h) else none
      | _ => none)
    | _ => none)
  | .putfield n => (match S with
    | v :: .ref a :: r => (match mv_lk E.1 h a with
      | some (.inr y) => (match cl[n / 64]? with
        | some K => (match K.2.2.2.2[n % 64]? with
          | some ty => if y.1 = n / 64 ∧ fits ty v = true ∧ mv_tS ty = true then some ((nx, L, r), mv_up E.1 h a (.inr (n / 64, updV y.2 (n % 64) v))) else none
          | none => none)
        | none => none)
      | _ => none)
    | _ => none)
  | .new ci => (match cl[ci]? with
    | some K => some ((nx, L, .ref (E.1 + h.length) :: S), h ++ [.inr (ci, mv_def K)])
    | none => none)
  | .newarray at_ => (match S with
    | .int x :: r => if ¬ x < 0 ∧ x.toNatClampNeg ≤ 60000000 then some ((nx, L, .ref (E.1 + h.length) :: r), h ++ [.inl (mv_kd at_, x.toNatClampNeg, fun _ => defaultValue (newarray.typeOf at_))]) else none
    | _ => none)
  | .anewarray t => (match S with
    | .int x :: r => if ¬ x < 0 ∧ x.toNatClampNeg ≤ 60000000 then some ((nx, L, .ref (E.1 + h.length) :: r), h ++ [.inl (t, x.toNatClampNeg, fun _ => .null)]) else none
    | _ => none)
  | .arraylength => (match S with
    | .ref a :: r => (match mv_lk E.1 h a with
      | some (.inl y) => (match tys[y.1]? with
        | some _ => some ((nx, L, .int (Int32.ofNat y.2.1) :: r), h)
        | none => none)
      | some (.inr _) => none
      | none => if a = E.2.1 then some ((nx, L, .int (Int32.ofNat E.2.2.1) :: r), h) else if a = E.2.2.2.2.1 then some ((nx, L, .int 0 :: r), h) else none)
    | _ => none)
  | .iaload => (match S with
    | .int k :: .ref a :: r => (match mv_lk E.1 h a with
      | some _ => mv_at_ nx L r h (mv_rd E.1 tys mv_tI h a k)
      | none => if a = E.2.1 ∧ ¬ (k < 0 ∨ E.2.2.1 ≤ k.toNatClampNeg) then some ((nx, L, .int (E.2.2.2.1 k.toNatClampNeg) :: r), h) else none)
    | _ => none)
  | .baload => (match S with
    | .int k :: .ref a :: r => mv_at_ nx L r h (mv_rd E.1 tys mv_tZ h a k)
    | _ => none)
  | .laload => (match S with
    | .int k :: .ref a :: r => mv_at_ nx L r h (mv_rd E.1 tys mv_tL h a k)
    | _ => none)
  | .aaload => (match S with
    | .int k :: .ref a :: r => mv_at_ nx L r h (mv_rd E.1 tys mv_tA h a k)
    | _ => none)
  | .iastore => (match S with
    | .int x :: .int k :: .ref a :: r => mv_to_ nx L r (mv_wr E.1 tys mv_tI h a k (.int x))
    | _ => none)
  | .bastore => (match S with
    | .int x :: .int k :: .ref a :: r => mv_to_ nx L r (mv_wr E.1 tys mv_tZ h a k (narrow .boolean (.int x)))
    | _ => none)
  | .lastore => (match S with
    | .long x :: .int k :: .ref a :: r => mv_to_ nx L r (mv_wr E.1 tys mv_tL h a k (.long x))
    | _ => none)
  | .aastore => (match S with
    | .null :: .int k :: .ref a :: r => mv_to_ nx L r (mv_wr E.1 tys mv_tA h a k .null)
    | .ref v :: .int k :: .ref a :: r => (match mv_cof E.1 h v, mv_kof E.1 h a with
      | some ci, some t => if asg.contains (ci, t) = true then mv_to_ nx L r (mv_wr E.1 tys mv_tA h a k (.ref v)) else none
      | _, _ => none)
    | _ => none)
  | .checkcast ci => (match S with
    | .ref a :: r => if mv_cof E.1 h a = some ci then some ((nx, L, .ref a :: r), h) else none
    | _ => none)
  | .ldc_w n => some ((nx, L, .int (Int32.ofNat n) :: S), h)
  | .ldc2_w n => some ((nx, L, .long (Int64.ofNat n) :: S), h)
  | .monitorexit => (match S with
    | .ref _ :: r => if (r.map fun v => v.category).sum ≤ 24 then some ((nx, L, r), h) else none
    | _ => none)
  | .monitorenter => (match S with
    | .int n :: .int dp :: .ref d :: .int sp :: .ref a :: r => (match mv_lk E.1 h a, mv_lk E.1 h d with
      | some (.inl x), some (.inl y) => if ¬ sp < 0 ∧ ¬ dp < 0 ∧ ¬ n < 0 ∧ sp.toNatClampNeg + n.toNatClampNeg ≤ x.2.1 ∧ dp.toNatClampNeg + n.toNatClampNeg ≤ y.2.1 ∧ tys[x.1]? = some .int ∧ tys[y.1]? = some .int ∧ (∀ k, k < n.toNatClampNeg → mv_isI (x.2.2 (sp.toNatClampNeg + k)) = true) ∧ (r.map fun v => v.category).sum ≤ 24 then some ((nx, L, r), mv_up E.1 h d (.inl (y.1, y.2.1, va_cpy x.2.2 y.2.2 sp.toNatClampNeg dp.toNatClampNeg n.toNatClampNeg))) else none
      | _, _ => none)
    | _ => none)
  | .getstatic _ => some ((nx, L, .ref E.2.2.2.2.1 :: S), h)
  | .ldc _ => some ((nx, L, .ref E.2.2.2.2.2 :: S), h)
  | .d2i => (match S with
    | .ref a :: r => (match mv_kof E.1 h a with
      | some t => if tys[t]? = some (.object "java/lang/Object") ∧ (r.map fun v => v.category).sum ≤ 24 then some ((nx, L, .ref E.2.2.2.2.2 :: r), h) else none
      | none => none)
    | _ => none)
  | .d2l => (match S with
    | .int n :: .int dp :: .ref d :: .int sp :: .ref a :: r => (match mv_lk E.1 h a, mv_lk E.1 h d with
      | some (.inl x), some (.inl y) => if ¬ sp < 0 ∧ ¬ dp < 0 ∧ ¬ n < 0 ∧ sp.toNatClampNeg + n.toNatClampNeg ≤ x.2.1 ∧ dp.toNatClampNeg + n.toNatClampNeg ≤ y.2.1 ∧ tys[x.1]? = some (.object "java/lang/Object") ∧ tys[y.1]? = some (.object "java/lang/Object") ∧ (∀ k, k < n.toNatClampNeg → mv_elt asg E.1 h y.1 (x.2.2 (sp.toNatClampNeg + k)) = true) ∧ (r.map fun v => v.category).sum ≤ 24 then some ((nx, L, r), mv_up E.1 h d (.inl (y.1, y.2.1, va_cpy x.2.2 y.2.2 sp.toNatClampNeg dp.toNatClampNeg n.toNatClampNeg))) else none
      | _, _ => none)
    | _ => none)
  | i => (match mv_pure i nx L S with
    | some f => some (f, h)
    | none => none)
/-- what is told of the lists' empty array and of their arrays' class object -/
def mv_js (E : mv_E) (U : State) (H : Heap) : Prop := va_Z "java/util/ArrayList" "DEFAULTCAPACITY_EMPTY_ELEMENTDATA" "[Ljava/lang/Object;" (.ref E.2.2.2.2.1) (fun q => E.1 ≤ q) U H ∧ va_T (.object "java/lang/Object") E.2.2.2.2.1 0 (fun _ => .null) (fun q => E.1 ≤ q) U H ∧ va_Mi "[Ljava/lang/Object;" E.2.2.2.2.2 U
theorem mv_js.moved {E : mv_E} {u U : State} {H H1 : Heap} (hvm : u.vm.Alike U.vm) (hq : ∀ q : Nat, q < E.1 → H1[q]? = H[q]?) (h : mv_js E u H) : mv_js E U H1 :=
  ⟨(h.1.moved hvm).kept (fun a _ ha => hq a (Nat.not_le.mp ha)), (h.2.1.moved hvm).kept (fun a _ ha => hq a (Nat.not_le.mp ha)), h.2.2.moved hvm⟩
/-- what ties an instruction with our numbers to the one in the class file -/
def mv_lnk (cl : List mv_K) (tys : List FieldType) (G : List Cond) (y : MethodName) (pc len : Nat) (real i : Instr) : Prop := match i with
  | .getfield n => ∃ idx, real = .getfield idx ∧ len = 3 ∧ mv_fl cl G y.cls idx n
  | .putfield n => ∃ idx, real = .putfield idx ∧ len = 3 ∧ mv_fl cl G y.cls idx n ∧ ∀ r, cl[n / 64]? = some r → (r.2.1 (n % 64)).2.2.2 = true → y.name = "<init>" ∧ (r.2.1 (n % 64)).1 = y.cls
  | .new ci => ∃ idx r, real = .new idx ∧ len = 3 ∧ cl[ci]? = some r ∧ Cond.classLink y.cls idx r.1 ∈ G ∧ Cond.instantiable r.1 r.2.2.2.1 ∈ G ∧ Cond.initialized r.1 ∈ G
  | .newarray at_ => real = .newarray at_ ∧ len = 2 ∧ tys[mv_kd at_]? = some (newarray.typeOf at_) ∧ Cond.arrayClass (newarray.typeOf at_) ∈ G
  | .anewarray t => ∃ idx C, real = .anewarray idx ∧ len = 3 ∧ tys[t]? = some (.object C) ∧ Cond.classLink y.cls idx C ∈ G ∧ Cond.arrayOver (.object C) ∈ G
  | .arraylength => real = .arraylength ∧ len = 1
  | .iaload => real = .iaload ∧ len = 1
  | .baload => real = .baload ∧ len = 1
  | .laload => real = .laload ∧ len = 1
  | .aaload => real = .aaload ∧ len = 1
  | .iastore => real = .iastore ∧ len = 1
  | .bastore => real = .bastore ∧ len = 1
  | .lastore => real = .lastore ∧ len = 1
  | .aastore => real = .aastore ∧ len = 1
  | .checkcast ci => ∃ idx r, real = .checkcast idx ∧ len = 3 ∧ cl[ci]? = some r ∧ Cond.classLink y.cls idx r.1 ∈ G
  | .ldc_w n => (∃ idx, real = .ldc idx ∧ len = 2 ∧ Cond.constant y.cls idx (Int32.ofNat n) ∈ G) ∨ ∃ idx, real = .ldc_w idx ∧ len = 3 ∧ Cond.constant y.cls idx (Int32.ofNat n) ∈ G
  | .getstatic _ => ∃ idx, real = .getstatic idx ∧ len = 3 ∧ Cond.fieldLink y.cls idx "java/util/ArrayList" "DEFAULTCAPACITY_EMPTY_ELEMENTDATA" "[Ljava/lang/Object;" ∈ G
  | .ldc _ => ∃ idx, real = .ldc idx ∧ len = 2 ∧ Cond.classLink y.cls idx "[Ljava/lang/Object;" ∈ G
  | .d2i => ∃ idx, real = .invokevirtual idx ∧ len = 3 ∧ Cond.methodLink y.cls idx mv_gc ∈ G ∧ Cond.declares mv_gc ∈ G ∧ Cond.selects "[Ljava/lang/Object;" mv_gc mv_gc ∈ G ∧ Cond.instanceMethod mv_gc ∈ G ∧ Cond.native mv_gc ∈ G
  | .d2l => ∃ idx, real = .invokestatic idx ∧ len = 3 ∧ Cond.methodLink y.cls idx arraycopyName ∈ G ∧ Cond.native arraycopyName ∈ G ∧ Cond.static arraycopyName ∈ G ∧ Cond.initialized "java/lang/System" ∈ G
  | .ldc2_w n => ∃ idx, real = .ldc2_w idx ∧ len = 3 ∧ Cond.constantLong y.cls idx (Int64.ofNat n) ∈ G
  | .monitorexit => ∃ idx, real = .invokespecial idx ∧ len = 3 ∧ Cond.methodLink y.cls idx Lib.objectInit ∈ G ∧ Cond.instanceMethod Lib.objectInit ∈ G ∧ Cond.code Lib.objectInit ⟨#[0xb1]⟩ 1 none ∈ G
  | .monitorenter => ∃ idx, real = .invokestatic idx ∧ len = 3 ∧ Cond.methodLink y.cls idx arraycopyName ∈ G ∧ Cond.native arraycopyName ∈ G ∧ Cond.static arraycopyName ∈ G ∧ Cond.initialized "java/lang/System" ∈ G
  | i => i = mv_abs pc real ∧ mv_lok real len = true ∧ mv_nn i = true
theorem mv_rd_of {b : Nat} {tys : List FieldType} {want : FieldType → Bool} {h : mv_H} {a : Nat} {i : Int32} {v : Value} (hv : mv_rd b tys want h a i = some v) : ∃ t N f ty, mv_lk b h a = some (.inl (t, N, f)) ∧ tys[t]? = some ty ∧ want ty = true ∧ ¬ (i < 0 ∨ N ≤ i.toNatClampNeg) ∧ v = f i.toNatClampNeg := by
  unfold mv_rd at hv
  split at hv
  · next y hy =>
    split at hv
    · next ty ht =>
      split at hv
      · next hc => cases hv; exact ⟨y.1, y.2.1, y.2.2, ty, hy, ht, hc.1, hc.2, rfl⟩
      · cases hv
    · cases hv
  · cases hv
theorem mv_wr_of {b : Nat} {tys : List FieldType} {want : FieldType → Bool} {h h' : mv_H} {a : Nat} {i : Int32} {v : Value} (hv : mv_wr b tys want h a i v = some h') : ∃ t N f ty, mv_lk b h a = some (.inl (t, N, f)) ∧ tys[t]? = some ty ∧ want ty = true ∧ ¬ (i < 0 ∨ N ≤ i.toNatClampNeg) ∧ h' = mv_up b h a (.inl (t, N, updV f i.toNatClampNeg v)) := by
  unfold mv_wr at hv
  split at hv
  · next y hy =>
    split at hv
    · next ty ht =>
      split at hv
      · next hc => cases hv; exact ⟨y.1, y.2.1, y.2.2, ty, hy, ht, hc.1, hc.2, rfl⟩
      · cases hv
    · cases hv
  · cases hv
theorem mv_at_of {nx : Nat} {L : mv_L} {r : List Value} {h : mv_H} {v : Option Value} {z : mv_F × mv_H} (hz : mv_at_ nx L r h v = some z) : ∃ w, v = some w ∧ z = ((nx, L, w :: r), h) := by
  cases v with
  | none => cases hz
  | some w => cases hz; exact ⟨w, rfl, rfl⟩
theorem mv_to_of {nx : Nat} {L : mv_L} {r : List Value} {h : Option mv_H} {z : mv_F × mv_H} (hz : mv_to_ nx L r h = some z) : ∃ w, h = some w ∧ z = ((nx, L, r), w) := by
  cases h with
  | none => cases hz
  | some w => cases hz; exact ⟨w, rfl, rfl⟩
theorem mv_tI_of {ty : FieldType} (h : mv_tI ty = true) : ty = .int := by cases ty <;> first | rfl | cases h
theorem mv_tZ_of {ty : FieldType} (h : mv_tZ ty = true) : ty = .boolean := by cases ty <;> first | rfl | cases h
theorem mv_tL_of {ty : FieldType} (h : mv_tL ty = true) : ty = .long := by cases ty <;> first | rfl | cases h
theorem mv_tA_of {ty : FieldType} (h : mv_tA ty = true) : ∃ C, ty = .object C := by
  cases ty with
  | object C => exact ⟨C, rfl⟩
  | _ => cases h
theorem mv_tS_of {ty : FieldType} (h : mv_tS ty = true) : ty ≠ .byte ∧ ty ≠ .short ∧ ty ≠ .char := by
  refine ⟨?_, ?_, ?_⟩ <;> (rintro rfl; cases h)
