/-! steps that see no memory, many at a time -/
def mg_k (L : mg_L) (i : Nat) : mg_L := match i with
  | 0 => L
  | k + 1 => match L[k]? with
    | some (some (1, _)) => L.set k none
    | _ => L
def mg_ld (L : mg_L) (k nx : Nat) (S : List mg_V) (ok : Nat → Bool) : Option mg_F := match L[k]? with
  | some (some v) => if ok v.1 = true then some (nx, L, v :: S) else none
  | _ => none
def mg_st (L : mg_L) (k nx : Nat) (S : List mg_V) (ok : Nat → Bool) : Option mg_F := match S with
  | v :: r => if ok v.1 = true then (if k < L.length then some (nx, (mg_k L k).set k (some v), r) else none) else none
  | _ => none
def mg_tI (t : Nat) : Bool := match t with
  | 0 => true
  | _ => false
def mg_tL (t : Nat) : Bool := match t with
  | 1 => true
  | _ => false
def mg_tA (t : Nat) : Bool := match t with
  | 2 => true
  | 3 => true
  | _ => false
def mg_pv (i : Instr) (nx : Nat) (L : mg_L) (S : List mg_V) : Option mg_F := match i with
  | .aconst_null => some (nx, L, (3, 0) :: S)
  | .iconst n => some (nx, L, (0, n) :: S)
  | .bipush n => if -128 ≤ n ∧ n < 128 then some (nx, L, (0, n) :: S) else none
  | .sipush n => if -32768 ≤ n ∧ n < 32768 then some (nx, L, (0, n) :: S) else none
  | .lconst n => some (nx, L, (1, ((n : Nat) : Int)) :: S)
  | .aload k => mg_ld L k nx S mg_tA
  | .aload_n k => mg_ld L k nx S mg_tA
  | .iload k => mg_ld L k nx S mg_tI
  | .iload_n k => mg_ld L k nx S mg_tI
  | .lload k => mg_ld L k nx S mg_tL
  | .lload_n k => mg_ld L k nx S mg_tL
  | .astore k => mg_st L k nx S mg_tA
  | .astore_n k => mg_st L k nx S mg_tA
  | .istore k => mg_st L k nx S mg_tI
  | .istore_n k => mg_st L k nx S mg_tI
  | .lstore k => (match S with
    | (1, z) :: r => if k + 1 < L.length then some (nx, ((mg_k L k).set k (some (1, z))).set (k + 1) none, r) else none
    | _ => none)
  | .iinc k n => (match L[k]? with
    | some (some (0, z)) => if k < L.length then some (nx, (mg_k L k).set k (some (0, z + n)), S) else none
    | _ => none)
  | .dup => (match S with
    | (0, z) :: r => some (nx, L, (0, z) :: (0, z) :: r)
    | (2, z) :: r => some (nx, L, (2, z) :: (2, z) :: r)
    | _ => none)
  | .pop => (match S with
    | (0, _) :: r => some (nx, L, r)
    | (2, _) :: r => some (nx, L, r)
    | _ => none)
  | .dup_x1 => (match S with
    | (0, z) :: (2, y) :: r => some (nx, L, (0, z) :: (2, y) :: (0, z) :: r)
    | (2, z) :: (2, y) :: r => some (nx, L, (2, z) :: (2, y) :: (2, z) :: r)
    | _ => none)
  | .dup_x2 => (match S with
    | (0, z) :: (0, y) :: (2, x) :: r => some (nx, L, (0, z) :: (0, y) :: (2, x) :: (0, z) :: r)
    | _ => none)
  | .dup2 => (match S with
    | (0, z) :: (2, y) :: r => some (nx, L, (0, z) :: (2, y) :: (0, z) :: (2, y) :: r)
    | _ => none)
  | .iadd => (match S with
    | (0, y) :: (0, x) :: r => some (nx, L, (0, x + y) :: r)
    | _ => none)
  | .isub => (match S with
    | (0, y) :: (0, x) :: r => some (nx, L, (0, x - y) :: r)
    | _ => none)
  | .imul => (match S with
    | (0, y) :: (0, x) :: r => some (nx, L, (0, x * y) :: r)
    | _ => none)
  | .ineg => (match S with
    | (0, x) :: r => some (nx, L, (0, -x) :: r)
    | _ => none)
  | .goto t => some (t.toNat, L, S)
  | .ifnull t => (match S with
    | (3, _) :: r => some (t.toNat, L, r)
    | (2, _) :: r => some (nx, L, r)
    | _ => none)
  | .ifnonnull t => (match S with
    | (2, _) :: r => some (t.toNat, L, r)
    | (3, _) :: r => some (nx, L, r)
    | _ => none)
  | .ldc_w n => if n < 2147483648 then some (nx, L, (0, (n : Int)) :: S) else none
  | .ldc2_w n => some (nx, L, (1, (n : Int)) :: S)
  | _ => none
section MGP
variable {L : mg_L} {S : List mg_V} {k nx : Nat}
theorem mg_eL_at : (mg_eL L)[k]? = (L[k]?).map (Option.map mg_e) := by simp [mg_eL]
theorem mg_eL_set (v : Option mg_V) : (mg_eL L).set k (v.map mg_e) = mg_eL (L.set k v) := by simp [mg_eL, List.map_set]
theorem mg_eL_len : (mg_eL L).length = L.length := by simp [mg_eL]
theorem mg_eS_cons (v : mg_V) : mg_eS (v :: S) = mg_e v :: mg_eS S := rfl
theorem mg_k_ok (i : Nat) : mv_kill (mg_eL L) i = mg_eL (mg_k L i) := by
  cases i with
  | zero => rfl
  | succ k =>
    unfold mv_kill mg_k
    simp only [mg_eL_at]
    cases hL : L[k]? with
    | none => rfl
    | some o =>
      cases o with
      | none => rfl
      | some v =>
        obtain ⟨t, z⟩ := v
        match t with
        | 0 => rfl
        | 1 =>
          show (mg_eL L).set k none = mg_eL (L.set k none)
          exact mg_eL_set none
        | 2 => rfl
        | t + 3 => rfl
theorem mg_ld_ok {ok : Nat → Bool} {ok2 : Value → Bool} {f' : mg_F} (hok : ∀ v : mg_V, ok v.1 = true → ok2 (mg_e v) = true) (h : mg_ld L k nx S ok = some f') : mv_ld (mg_eL L) k nx (mg_eS S) ok2 = some (mg_eF f') := by
  unfold mg_ld at h
  split at h
  · next v hv =>
    split at h
    · next hk =>
      cases h
      unfold mv_ld mv_get
      rw [mg_eL_at, hv]
      simp only [Option.map_some]
      rw [if_pos (hok v hk)]
      rfl
    · cases h
  · cases h
theorem mg_st_ok {ok : Nat → Bool} {ok2 : Value → Bool} {f' : mg_F} (hok : ∀ v : mg_V, ok v.1 = true → ok2 (mg_e v) = true) (h : mg_st L k nx S ok = some f') : mv_st (mg_eL L) k nx (mg_eS S) ok2 = some (mg_eF f') := by
  unfold mg_st at h
  split at h
  · next v r =>
    split at h
    · next hk =>
      split at h
      · next hl =>
        cases h
        unfold mv_st mv_set1
        simp only [mg_eS_cons]
        rw [if_pos (hok v hk), mg_eL_len, if_pos hl, mg_k_ok, show (some (mg_e v)) = (some v).map mg_e from rfl, mg_eL_set]
        rfl
      · cases h
    · cases h
  · cases h
theorem mg_tI_ok (v : mg_V) (h : mg_tI v.1 = true) : mv_isI (mg_e v) = true := by
  obtain ⟨t, z⟩ := v
  match t, h with
  | 0, _ => rfl
theorem mg_tL_ok (v : mg_V) (h : mg_tL v.1 = true) : mv_isL (mg_e v) = true := by
  obtain ⟨t, z⟩ := v
  match t, h with
  | 1, _ => rfl
theorem mg_tA_ok (v : mg_V) (h : mg_tA v.1 = true) : mv_ref (mg_e v) = true := by
  obtain ⟨t, z⟩ := v
  match t, h with
  | 2, _ => rfl
  | 3, _ => rfl
theorem mg_bi {n : Int} (h : -128 ≤ n ∧ n < 128) : (Int8.ofInt n).toInt32 = Int32.ofInt n := by
  apply Int32.toInt_inj.mp
  rw [Int8.toInt_toInt32, Int8.toInt_ofInt_of_le (by omega) (by omega), Int32.toInt_ofInt_of_le (by omega) (by omega)]
theorem mg_si {n : Int} (h : -32768 ≤ n ∧ n < 32768) : (Int16.ofInt n).toInt32 = Int32.ofInt n := by
  apply Int32.toInt_inj.mp
  rw [Int16.toInt_toInt32, Int16.toInt_ofInt_of_le (by omega) (by omega), Int32.toInt_ofInt_of_le (by omega) (by omega)]
set_option maxHeartbeats 2000000 in
theorem mg_pv_ok {E : mv_E} {i : Instr} {f' : mg_F} {h : mv_H} (hv : mg_pv i nx L S = some f') : mg_pl i = true ∧ mv_step E mt_cl mt_ty mt_as i nx (mg_eL L) (mg_eS S) h = some (mg_eF f', h) := by
  have lift : ∀ {i : Instr} {g : Option mv_F}, mv_pure i nx (mg_eL L) (mg_eS S) = g → g = some (mg_eF f') → (match mv_pure i nx (mg_eL L) (mg_eS S) with | some f => some (f, h) | none => none) = some (mg_eF f', h) := by
    intro i g h1 h2
    rw [h1, h2]
  cases i with
  | aconst_null => cases hv; exact ⟨rfl, rfl⟩
  | iconst n => cases hv; exact ⟨rfl, rfl⟩
  | bipush n =>
    simp only [mg_pv] at hv
    split at hv
    · next hn =>
      cases hv
      refine ⟨rfl, ?_⟩
      show some ((nx, mg_eL L, Value.int (Int8.ofInt n).toInt32 :: mg_eS S), h) = _
      rw [mg_bi hn]
      rfl
    · cases hv
  | sipush n =>
    simp only [mg_pv] at hv
    split at hv
    · next hn =>
      cases hv
      refine ⟨rfl, ?_⟩
      show some ((nx, mg_eL L, Value.int (Int16.ofInt n).toInt32 :: mg_eS S), h) = _
      rw [mg_si hn]
      rfl
    · cases hv
  | lconst n => cases hv; exact ⟨rfl, rfl⟩
  | aload k => exact ⟨rfl, lift rfl (mg_ld_ok mg_tA_ok hv)⟩
  | aload_n k => exact ⟨rfl, lift rfl (mg_ld_ok mg_tA_ok hv)⟩
  | iload k => exact ⟨rfl, lift rfl (mg_ld_ok mg_tI_ok hv)⟩
  | iload_n k => exact ⟨rfl, lift rfl (mg_ld_ok mg_tI_ok hv)⟩
  | lload k => exact ⟨rfl, lift rfl (mg_ld_ok mg_tL_ok hv)⟩
  | lload_n k => exact ⟨rfl, lift rfl (mg_ld_ok mg_tL_ok hv)⟩
  | astore k => exact ⟨rfl, lift rfl (mg_st_ok mg_tA_ok hv)⟩
  | astore_n k => exact ⟨rfl, lift rfl (mg_st_ok mg_tA_ok hv)⟩
  | istore k => exact ⟨rfl, lift rfl (mg_st_ok mg_tI_ok hv)⟩
  | istore_n k => exact ⟨rfl, lift rfl (mg_st_ok mg_tI_ok hv)⟩
  | lstore k =>
    simp only [mg_pv] at hv
    split at hv
    · next z r =>
      split at hv
      · next hl =>
        cases hv
        refine ⟨rfl, lift rfl ?_⟩
        show mv_stL (mg_eL L) k nx (mg_eS ((1, z) :: r)) = _
        unfold mv_stL mv_set2
        simp only [mg_eS_cons]
        show (match (if k + 1 < (mg_eL L).length then some (((mv_kill (mg_eL L) k).set k (some (Value.long (Int64.ofInt z)))).set (k + 1) none) else none) with | some L' => some (nx, L', mg_eS r) | none => none) = _
        rw [mg_eL_len, if_pos hl, mg_k_ok, show (some (Value.long (Int64.ofInt z))) = (some ((1, z) : mg_V)).map mg_e from rfl, mg_eL_set, show (none : Option Value) = (none : Option mg_V).map mg_e from rfl, mg_eL_set]
        rfl
      · cases hv
    · cases hv
  | iinc k n =>
    simp only [mg_pv] at hv
    split at hv
    · next z hz =>
      split at hv
      · next hl =>
        cases hv
        refine ⟨rfl, lift rfl ?_⟩
        show (match mv_get (mg_eL L) k with | some (.int x) => (match mv_set1 (mg_eL L) k (.int (x + Int32.ofInt n)) with | some L' => some (nx, L', mg_eS S) | none => none) | _ => none) = _
        have e1 : mv_get (mg_eL L) k = some (.int (Int32.ofInt z)) := by
          unfold mv_get
          rw [mg_eL_at, hz]
          rfl
        rw [e1]
        simp only []
        unfold mv_set1
        rw [mg_eL_len, if_pos hl, mg_k_ok, ← Int32.ofInt_add, show (some (Value.int (Int32.ofInt (z + n)))) = (some ((0, z + n) : mg_V)).map mg_e from rfl, mg_eL_set]
        rfl
      · cases hv
    · cases hv
  | dup =>
    simp only [mg_pv] at hv
    split at hv
    · cases hv; exact ⟨rfl, rfl⟩
    · cases hv; exact ⟨rfl, rfl⟩
    · cases hv
  | pop =>
    simp only [mg_pv] at hv
    split at hv
    · cases hv; exact ⟨rfl, rfl⟩
    · cases hv; exact ⟨rfl, rfl⟩
    · cases hv
  | dup_x1 =>
    simp only [mg_pv] at hv
    split at hv
    · cases hv; exact ⟨rfl, rfl⟩
    · cases hv; exact ⟨rfl, rfl⟩
    · cases hv
  | dup_x2 =>
    simp only [mg_pv] at hv
    split at hv
    · cases hv; exact ⟨rfl, rfl⟩
    · cases hv
  | dup2 =>
    simp only [mg_pv] at hv
    split at hv
    · cases hv; exact ⟨rfl, rfl⟩
    · cases hv
  | iadd =>
    simp only [mg_pv] at hv
    split at hv
    · next y x r =>
      cases hv
      refine ⟨rfl, ?_⟩
      show some ((nx, mg_eL L, Value.int (Int32.ofInt x + Int32.ofInt y) :: mg_eS r), h) = _
      rw [← Int32.ofInt_add]
      rfl
    · cases hv
  | isub =>
    simp only [mg_pv] at hv
    split at hv
    · next y x r =>
      cases hv
      refine ⟨rfl, ?_⟩
      show some ((nx, mg_eL L, Value.int (Int32.ofInt x - Int32.ofInt y) :: mg_eS r), h) = _
      rw [← Int32.ofInt_sub]
      rfl
    · cases hv
  | imul =>
    simp only [mg_pv] at hv
    split at hv
    · next y x r =>
      cases hv
      refine ⟨rfl, ?_⟩
      show some ((nx, mg_eL L, Value.int (Int32.ofInt x * Int32.ofInt y) :: mg_eS r), h) = _
      rw [← Int32.ofInt_mul]
      rfl
    · cases hv
  | ineg =>
    simp only [mg_pv] at hv
    split at hv
    · next x r =>
      cases hv
      refine ⟨rfl, ?_⟩
      show some ((nx, mg_eL L, Value.int (-Int32.ofInt x) :: mg_eS r), h) = _
      rw [← Int32.ofInt_neg]
      rfl
    · cases hv
  | goto t => cases hv; exact ⟨rfl, rfl⟩
  | ifnull t =>
    simp only [mg_pv] at hv
    split at hv
    · cases hv; exact ⟨rfl, rfl⟩
    · cases hv; exact ⟨rfl, rfl⟩
    · cases hv
  | ifnonnull t =>
    simp only [mg_pv] at hv
    split at hv
    · cases hv; exact ⟨rfl, rfl⟩
    · cases hv; exact ⟨rfl, rfl⟩
    · cases hv
  | ldc_w n =>
    simp only [mg_pv] at hv
    split at hv
    · cases hv
      exact ⟨rfl, rfl⟩
    · cases hv
  | ldc2_w n => cases hv; exact ⟨rfl, rfl⟩
  | _ => cases hv
end MGP
def mg_ps (j : Nat) : Nat → mg_F → Option mg_F
  | 0, f => some f
  | k + 1, f => match mg_at j f.1 with
    | some x => (match mg_pv x.2 (f.1 + x.1) f.2.1 f.2.2 with
      | some f' => mg_ps j k f'
      | none => none)
    | none => none
theorem mg_p {E : mv_E} {d j : Nat} {μ : mm_T} {Q : mg_R → mm_T → Prop} : ∀ (k : Nat) {f f' : mg_F}, mg_ps j k f = some f' → mg_w E d j f' μ Q → mg_w E d j f μ Q
  | 0, f, f', h, w => by cases h; exact w
  | k + 1, f, f', h, w => by
    rw [mg_ps] at h
    split at h
    · next x hx =>
      split at h
      · next f2 hf2 =>
        obtain ⟨h1, h2⟩ := mg_pv_ok (E := E) (h := mm_h E μ) hf2
        exact mg_step (len := x.1) (i := x.2) hx h1 h2 (mg_p k h w)
      · cases h
    · cases h
