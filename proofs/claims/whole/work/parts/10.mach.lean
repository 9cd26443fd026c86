/-! THE SMALL MACHINE: what a method does, as a function on small states: a heap of cells (all that were made since the law began, in the order of their making), local variables, a stack. Its steps stand for the machine's own by the theorems of the next parts; behind those nothing of the machine is seen. -/
/-- a cell: an array (its kind's number, length, contents) or an object (its class's number, fields) -/
abbrev mv_C : Type := (Nat × Nat × (Nat → Value)) ⊕ (Nat × (Nat → Value))
abbrev mv_H : Type := List mv_C
/-- local variables: what is known of each place -/
abbrev mv_L : Type := List (Option Value)
/-- a frame: pc, local variables, stack -/
abbrev mv_F : Type := Nat × mv_L × List Value
/-- a class: name, fields (declarer, name, descriptor, final), how many are told, slots of an object, types of the told fields -/
abbrev mv_K : Type := String × u_T × Nat × Nat × List FieldType
/-- a method: name, code, maxLocals, what it returns, handlers as the class file has them, the same with classes' numbers, arguments, the class's number, rows by pc (length, the instruction, the instruction with our numbers, where its words stand) -/
abbrev mv_J : Type := MethodName × ByteArray × Nat × Option FieldType × List (Nat × Nat × Nat × Nat) × List (Nat × Nat × Nat × Nat) × Nat × Nat × List (Option (Nat × Instr × Instr × List Nat))
abbrev mj_y (q : mv_J) : MethodName := q.1
abbrev mj_b (q : mv_J) : ByteArray := q.2.1
abbrev mj_n (q : mv_J) : Nat := q.2.2.1
abbrev mj_r (q : mv_J) : Option FieldType := q.2.2.2.1
abbrev mj_hh (q : mv_J) : List (Nat × Nat × Nat × Nat) := q.2.2.2.2.1
abbrev mj_hr (q : mv_J) : List (Nat × Nat × Nat × Nat) := q.2.2.2.2.2.1
abbrev mj_a (q : mv_J) : Nat := q.2.2.2.2.2.2.1
abbrev mj_k (q : mv_J) : Nat := q.2.2.2.2.2.2.2.1
abbrev mj_c (q : mv_J) : List (Option (Nat × Instr × Instr × List Nat)) := q.2.2.2.2.2.2.2.2
/-- the places: where our cells begin, the script's cell, its length, its ints, the empty array of the lists, the array class's own object -/
abbrev mv_E : Type := Nat × Nat × Nat × (Nat → Int32) × Nat × Nat
/-- the tables: classes, kinds of arrays, which classes' objects go into which arrays, methods -/
abbrev mv_T : Type := List mv_K × List FieldType × List (Nat × Nat) × List mv_J
def mv_lk (b : Nat) (h : mv_H) (a : Nat) : Option mv_C := if b ≤ a then h[a - b]? else none
def mv_up (b : Nat) (h : mv_H) (a : Nat) (x : mv_C) : mv_H := h.set (a - b) x
def mv_cz (cl : List mv_K) (x : mv_C) : Nat := match x with
  | .inl y => y.2.1
  | .inr y => match cl[y.1]? with
    | some r => r.2.2.2.1
    | none => 0
def mv_sz (cl : List mv_K) : mv_H → Nat
  | [] => 0
  | x :: h => mv_cz cl x + mv_sz cl h
/-! local variables -/
def mv_get (L : mv_L) (i : Nat) : Option Value := match L[i]? with
  | some (some v) => some v
  | _ => none
def mv_kill (L : mv_L) (i : Nat) : mv_L := match i with
  | 0 => L
  | k + 1 => match L[k]? with
    | some (some (.long _)) => L.set k none
    | some (some (.double _)) => L.set k none
    | _ => L
def mv_set1 (L : mv_L) (i : Nat) (v : Value) : Option mv_L := if i < L.length then some ((mv_kill L i).set i (some v)) else none
def mv_set2 (L : mv_L) (i : Nat) (v : Value) : Option mv_L := if i + 1 < L.length then some (((mv_kill L i).set i (some v)).set (i + 1) none) else none
def mv_ent (as : List Value) : mv_L := match as with
  | [] => []
  | v :: r => if v.category = 2 then some v :: none :: mv_ent r else some v :: mv_ent r
/-- the local variables with which a method begins -/
def mv_in (n : Nat) (as : List Value) : mv_L := mv_ent as ++ List.replicate (n - (mv_ent as).length) none
/-! instructions that see no heap; a jump's operand is the place where it goes -/
def mv_ref (v : Value) : Bool := match v with
  | .null => true
  | .ref _ => true
  | _ => false
def mv_ld (L : mv_L) (i nx : Nat) (S : List Value) (ok : Value → Bool) : Option mv_F := match mv_get L i with
  | some v => if ok v = true then some (nx, L, v :: S) else none
  | none => none
def mv_isI (v : Value) : Bool := match v with
  | .int _ => true
  | _ => false
def mv_isL (v : Value) : Bool := match v with
  | .long _ => true
  | _ => false
def mv_st (L : mv_L) (i nx : Nat) (S : List Value) (ok : Value → Bool) : Option mv_F := match S with
  | v :: r => if ok v = true then (match mv_set1 L i v with
    | some L' => some (nx, L', r)
    | none => none) else none
  | _ => none
def mv_stL (L : mv_L) (i nx : Nat) (S : List Value) : Option mv_F := match S with
  | .long x :: r => (match mv_set2 L i (.long x) with
    | some L' => some (nx, L', r)
    | none => none)
  | _ => none
def mv_i2 (S : List Value) (f : Int32 → Int32 → Int32) : Option (List Value) := match S with
  | .int y :: .int x :: r => some (.int (f x y) :: r)
  | _ => none
def mv_nx (nx : Nat) (L : mv_L) (S : Option (List Value)) : Option mv_F := match S with
  | some S' => some (nx, L, S')
  | none => none
def mv_c1 (c : ClassFile.Cond) (x : Int32) : Bool := match c with
  | .eq => decide (x = 0)
  | .ne => decide (¬ x = 0)
  | .lt => decide (x < 0)
  | .ge => decide (0 ≤ x)
  | .gt => decide (0 < x)
  | .le => decide (x ≤ 0)
def mv_c2 (c : ClassFile.Cond) (x y : Int32) : Bool := match c with
  | .eq => decide (x = y)
  | .ne => decide (¬ x = y)
  | .lt => decide (x < y)
  | .ge => decide (y ≤ x)
  | .gt => decide (y < x)
  | .le => decide (x ≤ y)
def mv_same (v w : Value) : Option Bool := match v, w with
  | .null, .null => some true
  | .ref _, .null => some false
  | .null, .ref _ => some false
  | .ref a, .ref b => some (decide (a = b))
  | _, _ => none
def mv_ac (c : ClassFile.ACond) (q : Bool) : Bool := match c with
  | .eq => q
  | .ne => !q
def mv_go (q : Bool) (t : Int) (nx : Nat) (L : mv_L) (S : List Value) : mv_F := if q = true then (t.toNat, L, S) else (nx, L, S)
def mv_sw (x : Int) (dflt lo hi : Int) (ts : List Int) : Int := if x < lo ∨ hi < x then dflt else ts.getD (x - lo).toNat dflt
def mv_pure (i : Instr) (nx : Nat) (L : mv_L) (S : List Value) : Option mv_F := match i with
  | .aconst_null => some (nx, L, .null :: S)
  | .iconst n => some (nx, L, .int (Int32.ofInt n) :: S)
  | .bipush n => some (nx, L, .int (Int8.ofInt n).toInt32 :: S)
  | .sipush n => some (nx, L, .int (Int16.ofInt n).toInt32 :: S)
  | .lconst n => some (nx, L, .long (Int64.ofNat (n : Nat)) :: S)
  | .aload k => mv_ld L k nx S mv_ref
  | .aload_n k => mv_ld L k nx S mv_ref
  | .iload k => mv_ld L k nx S mv_isI
  | .iload_n k => mv_ld L k nx S mv_isI
  | .lload k => mv_ld L k nx S mv_isL
  | .lload_n k => mv_ld L k nx S mv_isL
  | .astore k => mv_st L k nx S mv_ref
  | .astore_n k => mv_st L k nx S mv_ref
  | .istore k => mv_st L k nx S mv_isI
  | .istore_n k => mv_st L k nx S mv_isI
  | .lstore k => mv_stL L k nx S
  | .lstore_n k => mv_stL L k nx S
  | .iinc k n => (match mv_get L k with
    | some (.int x) => (match mv_set1 L k (.int (x + Int32.ofInt n)) with
      | some L' => some (nx, L', S)
      | none => none)
    | _ => none)
  | .dup => (match S with
    | v :: r => if v.category = 1 then some (nx, L, v :: v :: r) else none
    | _ => none)
  | .pop => (match S with
    | v :: r => if v.category = 1 then some (nx, L, r) else none
    | _ => none)
  | .dup_x1 => (match S with
    | v :: w :: r => if v.category = 1 ∧ w.category = 1 then some (nx, L, v :: w :: v :: r) else none
    | _ => none)
  | .dup_x2 => (match S with
    | v :: w :: u :: r => if v.category = 1 ∧ w.category = 1 ∧ u.category = 1 then some (nx, L, v :: w :: u :: v :: r) else none
    | _ => none)
  | .dup2 => (match S with
    | v :: w :: r => if v.category = 1 ∧ w.category = 1 then some (nx, L, v :: w :: v :: w :: r) else none
    | _ => none)
  | .iadd => mv_nx nx L (mv_i2 S fun x y => x + y)
  | .isub => mv_nx nx L (mv_i2 S fun x y => x - y)
  | .imul => mv_nx nx L (mv_i2 S fun x y => x * y)
  | .iand => mv_nx nx L (mv_i2 S fun x y => x &&& y)
  | .ior => mv_nx nx L (mv_i2 S fun x y => x ||| y)
  | .ishl => mv_nx nx L (mv_i2 S fun x y => x <<< (y &&& 31))
  | .ishr => mv_nx nx L (mv_i2 S fun x y => x >>> (y &&& 31))
  | .idiv => (match S with
    | .int y :: .int x :: r => if y = 0 then none else some (nx, L, .int (x / y) :: r)
    | _ => none)
  | .irem => (match S with
    | .int y :: .int x :: r => if y = 0 then none else some (nx, L, .int (x - x / y * y) :: r)
    | _ => none)
  | .ineg => (match S with
    | .int x :: r => some (nx, L, .int (-x) :: r)
    | _ => none)
  | .i2l => (match S with
    | .int x :: r => some (nx, L, .long x.toInt64 :: r)
    | _ => none)
  | .lcmp => (match S with
    | .long y :: .long x :: r => some (nx, L, .int (lg_cmp x y) :: r)
    | _ => none)
  | .goto t => some (t.toNat, L, S)
  | .ifCond c t => (match S with
    | .int x :: r => some (mv_go (mv_c1 c x) t nx L r)
    | _ => none)
  | .if_icmp c t => (match S with
    | .int y :: .int x :: r => some (mv_go (mv_c2 c x y) t nx L r)
    | _ => none)
  | .if_acmp c t => (match S with
    | w :: v :: r => (match mv_same v w with
      | some q => some (mv_go (mv_ac c q) t nx L r)
      | none => none)
    | _ => none)
  | .ifnull t => (match S with
    | .null :: r => some (t.toNat, L, r)
    | .ref _ :: r => some (nx, L, r)
    | _ => none)
  | .ifnonnull t => (match S with
    | .ref _ :: r => some (t.toNat, L, r)
    | .null :: r => some (nx, L, r)
    | _ => none)
  | .tableswitch d lo hi ts => (match S with
    | .int x :: r => some ((mv_sw x.toInt d lo hi ts.toList).toNat, L, r)
    | _ => none)
  | _ => none
