/-! making, calling, ending, with memory in two -/
def sw_nw (ν : mm_T) (p : Int) (z0 : Int → Int) : mm_T := fun q i => if q = p then z0 i else ν q i
section SWB
variable {E : mv_E} {s ν s' ν' : mm_T} {d j pc pn pt j2 : Nat} {L L2 : mg_L} {S rest as2 : List mg_V} {f f' : mg_F} {Q Q2 : nm_O → mm_T → mm_T → Prop} {x y z a v i k l p w : Int} {n t : Nat} {q0 q : mv_J}
theorem sw_al {sz : Int} {z0 : Int → Int} (hp : 0 ≤ p) : nm_al (sw_o ν s) p k l sz z0 = sw_o (sw_nw ν p z0) (nm_al s p k l sz z0) := by
  funext q r
  by_cases hq : q = p
  · subst hq
    by_cases hr : r < 0
    · rw [sw_s hr]
      have e : ∀ κ : mm_T, nm_al κ q k l sz z0 q r = (if r = -1 then k else if r = -2 then l else z0 r) := fun κ => by
        unfold nm_al
        rw [if_neg (by omega), if_neg (by omega), if_pos rfl]
      rw [e, e]
    · have e1 : nm_al (sw_o ν s) q k l sz z0 q r = z0 r := by
        unfold nm_al
        rw [if_neg (by omega), if_neg (by omega), if_pos rfl, if_neg (by omega), if_neg (by omega)]
      have e2 : nm_al s q k l sz z0 q r = z0 r := by
        unfold nm_al
        rw [if_neg (by omega), if_neg (by omega), if_pos rfl, if_neg (by omega), if_neg (by omega)]
      rw [e1]
      unfold sw_o sw_nw
      rw [e2, if_pos rfl]
      split <;> rfl
  · by_cases h1 : q = -1
    · subst h1
      rw [sw_n (by omega)]
      unfold nm_al
      rw [sw_n (by omega), sw_n (by omega), sw_n (by omega)]
    · rw [nm_al_ne hq h1]
      unfold sw_o sw_nw
      rw [nm_al_ne hq h1, nm_al_ne hq h1, if_neg hq]
theorem sw_new {K : mv_K} {sz : Int} (p : Int) (hr : mg_at j pc = some (3, .new n)) (hn : pc + 3 = pn) (hK : mt_cl[n]? = some K) (hs : K.2.2.2.2.all (fun ty => match ty with | .int => true | .boolean => true | .long => true | .object _ => true | .array _ => true | _ => false) = true) (hk : 100 + (n : Int) = k) (hsz : (K.2.2.2.1 : Int) = sz) (hp : 0 ≤ p ∧ p ≤ 9000) (hpn : s p (-1) < 0) (kk : sw_w E d j (pn, L, (2, p) :: S) (nm_al s p k 0 sz (mm_z n)) (sw_nw ν p (mm_z n)) Q) : sw_w E d j (pc, L, S) s ν Q := nm_new p hr hn hK hs hk hsz hp (by rw [sw_s (by omega)]; exact hpn) (by rw [sw_al hp.1]; exact kk)
theorem sw_na {at_ : ArrayType} (p : Int) (hr : mg_at j pc = some (2, .newarray at_)) (hn : pc + 2 = pn) (ht : mv_kd at_ = t) (hok : at_ = .int ∨ at_ = .boolean ∨ at_ = .long) (hl : 0 ≤ l ∧ l ≤ 60000000) (hp : 0 ≤ p ∧ p ≤ 9000) (hpn : s p (-1) < 0) (kk : sw_w E d j (pn, L, (2, p) :: S) (nm_al s p (t : Int) l l (fun _ => 0)) (sw_nw ν p (fun _ => 0)) Q) : sw_w E d j (pc, L, (0, l) :: S) s ν Q := nm_na p hr hn ht hok hl hp (by rw [sw_s (by omega)]; exact hpn) (by rw [sw_al hp.1]; exact kk)
theorem sw_an (p : Int) (hr : mg_at j pc = some (3, .anewarray t)) (hn : pc + 3 = pn) (ht : mg_aA t = true) (ht2 : t < 100) (hl : 0 ≤ l ∧ l ≤ 60000000) (hp : 0 ≤ p ∧ p ≤ 9000) (hpn : s p (-1) < 0) (kk : sw_w E d j (pn, L, (2, p) :: S) (nm_al s p (t : Int) l l (fun _ => -1)) (sw_nw ν p (fun _ => -1)) Q) : sw_w E d j (pc, L, (0, l) :: S) s ν Q := nm_an p hr hn ht ht2 hl hp (by rw [sw_s (by omega)]; exact hpn) (by rw [sw_al hp.1]; exact kk)
theorem sw_cs (hr : mg_at j pc = some (3, .invokestatic j2)) (hn : pc + 3 = pn) (hq0 : mt_ms[j]? = some q0) (hh : mj_hr q0 = []) (hq : mt_ms[j2]? = some q) (hfit : (decide (mj_a q ≤ S.length) && decide (((mg_eS (S.drop (mj_a q))).map fun v => v.category).sum ≤ 8) && decide ((mg_ent (S.take (mj_a q)).reverse).length ≤ mj_n q)) = true) (hL : mg_in (mj_n q) (S.take (mj_a q)).reverse = L2) (hrest : S.drop (mj_a q) = rest)
    (w : sw_w E d j2 (0, L2, []) s ν Q2) (k1 : ∀ (v : Option mg_V) (s' ν' : mm_T), Q2 (.inl v) s' ν' → sw_w E (d + 1) j (pn, L, v.toList ++ rest) s' ν' Q) (k2 : ∀ (c : Nat) (s' ν' : mm_T), Q2 (.inr c) s' ν' → Q (.inr c) s' ν') : sw_w E (d + 1) j (pc, L, S) s ν Q :=
  nm_cs hr hn hq0 hh hq hfit hL hrest w (fun v κ' ⟨s', ν', h1, h2⟩ => by subst h1; exact k1 v s' ν' h2) (fun c κ' ⟨s', ν', h1, h2⟩ => ⟨s', ν', h1, k2 c s' ν' h2⟩)
theorem sw_cv (hr : mg_at j pc = some (3, .invokevirtual j2)) (hn : pc + 3 = pn) (hq0 : mt_ms[j]? = some q0) (hh : mj_hr q0 = []) (hq : mt_ms[j2]? = some q) (hfit : (decide (mj_a q ≤ S.length) && decide (((mg_eS (S.drop (mj_a q))).map fun v => v.category).sum ≤ 8) && decide ((mg_ent (S.take (mj_a q)).reverse).length ≤ mj_n q)) = true) (has : (S.take (mj_a q)).reverse = (2, p) :: as2) (hL : mg_in (mj_n q) ((2, p) :: as2) = L2) (hrest : S.drop (mj_a q) = rest) (hc : s p (-1) = 100 + ((mj_k q : Nat) : Int))
    (w : sw_w E d j2 (0, L2, []) s ν Q2) (k1 : ∀ (v : Option mg_V) (s' ν' : mm_T), Q2 (.inl v) s' ν' → sw_w E (d + 1) j (pn, L, v.toList ++ rest) s' ν' Q) (k2 : ∀ (c : Nat) (s' ν' : mm_T), Q2 (.inr c) s' ν' → Q (.inr c) s' ν') : sw_w E (d + 1) j (pc, L, S) s ν Q :=
  nm_cv hr hn hq0 hh hq hfit has hL hrest (by rw [sw_s (by omega)]; exact hc) w (fun v κ' ⟨s', ν', h1, h2⟩ => by subst h1; exact k1 v s' ν' h2) (fun c κ' ⟨s', ν', h1, h2⟩ => ⟨s', ν', h1, k2 c s' ν' h2⟩)
theorem sw_ci (hr : mg_at j pc = some (3, .invokespecial j2)) (hn : pc + 3 = pn) (hq0 : mt_ms[j]? = some q0) (hh : mj_hr q0 = []) (hq : mt_ms[j2]? = some q) (hfit : (decide (mj_a q ≤ S.length) && decide (((mg_eS (S.drop (mj_a q))).map fun v => v.category).sum ≤ 8) && decide ((mg_ent (S.take (mj_a q)).reverse).length ≤ mj_n q)) = true) (has : (S.take (mj_a q)).reverse = (2, p) :: as2) (hL : mg_in (mj_n q) ((2, p) :: as2) = L2) (hrest : S.drop (mj_a q) = rest)
    (w : sw_w E d j2 (0, L2, []) s ν Q2) (k1 : ∀ (v : Option mg_V) (s' ν' : mm_T), Q2 (.inl v) s' ν' → sw_w E (d + 1) j (pn, L, v.toList ++ rest) s' ν' Q) (k2 : ∀ (c : Nat) (s' ν' : mm_T), Q2 (.inr c) s' ν' → Q (.inr c) s' ν') : sw_w E (d + 1) j (pc, L, S) s ν Q :=
  nm_ci hr hn hq0 hh hq hfit has hL hrest w (fun v κ' ⟨s', ν', h1, h2⟩ => by subst h1; exact k1 v s' ν' h2) (fun c κ' ⟨s', ν', h1, h2⟩ => ⟨s', ν', h1, k2 c s' ν' h2⟩)
theorem sw_cvh (hr : mg_at j pc = some (3, .invokevirtual j2)) (hn : pc + 3 = pn) (hq0 : mt_ms[j]? = some q0) (hh : mj_hr q0 ≠ []) (hq : mt_ms[j2]? = some q) (hfit : (decide (mj_a q ≤ S.length) && decide (((mg_eS (S.drop (mj_a q))).map fun v => v.category).sum ≤ 8) && decide ((mg_ent (S.take (mj_a q)).reverse).length ≤ mj_n q)) = true) (has : (S.take (mj_a q)).reverse = (2, p) :: as2) (hL : mg_in (mj_n q) ((2, p) :: as2) = L2) (hrest : S.drop (mj_a q) = rest) (hc : s p (-1) = 100 + ((mj_k q : Nat) : Int))
    (w : sw_w E d j2 (0, L2, []) s ν Q2) (k1 : ∀ (v : Option mg_V) (s' ν' : mm_T), Q2 (.inl v) s' ν' → sw_w E (d + 1) j (pn, L, v.toList ++ rest) s' ν' Q)
    (k2 : ∀ (c : Nat) (s' ν' : mm_T), Q2 (.inr c) s' ν' → ∃ (pc' pr : Nat) (z : Int), mv_seek mt_nc c pc (mj_hr q0) = some pc' ∧ (∀ (A : Int → Int) (a : Int), ∃ L3, mg_ps j 2 (pc', nm_l A L, [(2, a)]) = some (pr, L3, [(0, z)])) ∧ mg_at j pr = some (1, .ireturn) ∧ mj_r q0 = some .int ∧ Q (.inl (some (0, z))) s' ν') : sw_w E (d + 1) j (pc, L, S) s ν Q :=
  nm_cvh hr hn hq0 hh hq hfit has hL hrest (by rw [sw_s (by omega)]; exact hc) w (fun v κ' ⟨s', ν', h1, h2⟩ => by subst h1; exact k1 v s' ν' h2) (fun c κ' ⟨s', ν', h1, h2⟩ => by
    obtain ⟨pc', pr, z, e1, e2, e3, e4, e5⟩ := k2 c s' ν' h2
    exact ⟨pc', pr, z, e1, e2, e3, e4, s', ν', h1, e5⟩)
theorem sw_retV (hr : mg_at j pc = some (1, .return_)) (hq0 : mt_ms[j]? = some q0) (ht : mj_r q0 = none) (h : Q (.inl none) s ν) : sw_w E d j (pc, L, []) s ν Q := nm_retV hr hq0 ht ⟨s, ν, rfl, h⟩
theorem sw_retI (hr : mg_at j pc = some (1, .ireturn)) (hq0 : mt_ms[j]? = some q0) (ht : mj_r q0 = some .int) (h : Q (.inl (some (0, z))) s ν) : sw_w E d j (pc, L, [(0, z)]) s ν Q := nm_retI hr hq0 ht ⟨s, ν, rfl, h⟩
theorem sw_retZ (hr : mg_at j pc = some (1, .ireturn)) (hq0 : mt_ms[j]? = some q0) (ht : mj_r q0 = some .boolean) (hz : z = 0 ∨ z = 1) (h : Q (.inl (some (0, z))) s ν) : sw_w E d j (pc, L, [(0, z)]) s ν Q := nm_retZ hr hq0 ht hz ⟨s, ν, rfl, h⟩
theorem sw_retL (hr : mg_at j pc = some (1, .lreturn)) (hq0 : mt_ms[j]? = some q0) (ht : mj_r q0 = some .long) (h : Q (.inl (some (1, z))) s ν) : sw_w E d j (pc, L, [(1, z)]) s ν Q := nm_retL hr hq0 ht ⟨s, ν, rfl, h⟩
theorem sw_retA {C : String} (hr : mg_at j pc = some (1, .areturn)) (hq0 : mt_ms[j]? = some q0) (ht : mj_r q0 = some (.object C)) (h : Q (.inl (some (2, z))) s ν) : sw_w E d j (pc, L, [(2, z)]) s ν Q := nm_retA hr hq0 ht ⟨s, ν, rfl, h⟩
theorem sw_retR {ty : FieldType} (hr : mg_at j pc = some (1, .areturn)) (hq0 : mt_ms[j]? = some q0) (ht : mj_r q0 = some (.array ty)) (h : Q (.inl (some (2, z))) s ν) : sw_w E d j (pc, L, [(2, z)]) s ν Q := nm_retR hr hq0 ht ⟨s, ν, rfl, h⟩
theorem sw_cnt {c r : Int} : nm_cnt (sw_o ν s) c r = sw_o ν (nm_cnt s c r) := by
  funext q i
  by_cases hq : q = -1
  · subst hq
    rw [sw_n (by omega)]
    unfold nm_cnt
    rw [sw_n (by omega), sw_n (by omega), sw_n (by omega)]
  · rw [nm_cnt_ne hq]
    unfold sw_o
    rw [nm_cnt_ne hq, nm_cnt_ne hq]
theorem sw_thr {K : mv_K} {sz : Int} (hr : mg_at j pc = some (3, .instanceof n)) (hK : mt_cl[n]? = some K) (hKf : K.2.2.2.2 = []) (hsz : (K.2.2.2.1 : Int) = sz) (hS : decide (((mg_eS S).map fun v => v.category).sum ≤ 24) = true) (hd : 5 ≤ d) (h : Q (.inr n) (nm_cnt s 1 sz) ν) : sw_w E d j (pc, L, S) s ν Q := nm_thr hr hK hKf hsz hS hd ⟨nm_cnt s 1 sz, ν, sw_cnt, h⟩
theorem mm_cp_ne {μ : mm_T} {b q r : Int} (h : ¬ (q = b ∧ y ≤ r ∧ r < y + z)) : mm_cp μ b y a x z q r = μ q r := by unfold mm_cp; rw [if_neg h]
theorem mm_cp_at {μ : mm_T} {b r : Int} (h : y ≤ r ∧ r < y + z) : mm_cp μ b y a x z b r = μ a (x + (r - y)) := by unfold mm_cp; rw [if_pos ⟨rfl, h⟩]
theorem sw_cp {b : Int} (ha : 0 ≤ a) (hb : 0 ≤ b) (hka : s a (-1) = 0) (hkb : s b (-1) = 0) (hx : 0 ≤ x) (hy : 0 ≤ y) : mm_cp (sw_o ν s) b y a x z = sw_o (mm_cp ν b y a x z) s := by
  funext q r
  by_cases h : q = b ∧ y ≤ r ∧ r < y + z
  · obtain ⟨rfl, h1⟩ := h
    rw [mm_cp_at h1, sw_a ha (by omega) (by omega), sw_a hb (by omega) (by omega), mm_cp_at h1]
  · rw [mm_cp_ne h]
    unfold sw_o
    rw [mm_cp_ne h]
theorem sw_cpy {b la lb : Int} (hr : mg_at j pc = some (3, .monitorenter)) (hn : pc + 3 = pn) (hab : a ≠ b) (ha : 0 ≤ a) (hb : 0 ≤ b) (hk : s a (-1) = 0) (hl : s a (-2) = la) (hkb : s b (-1) = 0) (hlb : s b (-2) = lb) (hx : 0 ≤ x ∧ x < 2147483648) (hy : 0 ≤ y ∧ y < 2147483648) (hz : 0 ≤ z ∧ z < 2147483648) (h1 : x + z ≤ la) (h2 : y + z ≤ lb) (hS : decide (((mg_eS S).map fun v => v.category).sum ≤ 24) = true) (kk : sw_w E d j (pn, L, S) s (mm_cp ν b y a x z) Q) : sw_w E d j (pc, L, (0, z) :: (0, y) :: (2, b) :: (0, x) :: (2, a) :: S) s ν Q := nm_cpy hr hn hab (by rw [sw_s (by omega)]; exact hk) (by rw [sw_s (by omega)]; exact hl) (by rw [sw_s (by omega)]; exact hkb) (by rw [sw_s (by omega)]; exact hlb) hx hy hz h1 h2 hS (by rw [sw_cp ha hb hk hkb hx.1 hy.1]; exact kk)
end SWB
