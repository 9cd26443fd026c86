/-! making, calling, ending, over names -/
section NMD
variable {E : mv_E} {A A' A2 : Int → Int} {κ κ' κ2 μ μ' : mm_T} {d j pc pn pt j2 : Nat} {L L2 : mg_L} {S rest as2 : List mg_V} {f f' : mg_F} {Q Q2 : nm_O → mm_T → Prop} {x y z a v i k l p w : Int} {n t : Nat} {q0 q : mv_J}
theorem mm_z_neg {K : mv_K} (hK : mt_cl[n]? = some K) (hi : 0 ≤ i) (h : nm_rf (100 + (n : Int)) i = true) : mm_z n i < 0 := by
  unfold nm_rf at h
  rw [if_neg (by omega), Bool.and_eq_true, decide_eq_true_eq] at h
  obtain ⟨h1, h2⟩ := h
  unfold mg_fA mg_ty at h2
  rw [show (64 * (100 + (n : Int) - 100).toNat + i.toNat) / 64 = n by omega, show (64 * (100 + (n : Int) - 100).toNat + i.toNat) % 64 = i.toNat by omega] at h2
  unfold mm_z
  simp only [hK] at h2 ⊢
  split at h2
  · next C e => rw [e]; show (-1 : Int) < 0; decide
  · next ty e => rw [e]; show (-1 : Int) < 0; decide
  · cases h2
theorem nm_made {sz : Int} {z0 : Int → Int} (hR : nm_R E A κ μ) (hf : nm_kf κ (pc, L, S)) (hR2 : nm_R E (nm_up A p (E.1 + μ (-1) 0)) κ' μ' ∧ nm_x A (nm_up A p (E.1 + μ (-1) 0)) κ κ') (hp : nm_a κ' p) (kk : nm_w E d j (pn, L, (2, p) :: S) κ' Q) : mg_w E d j (pn, nm_l A L, (2, E.1 + μ (-1) 0) :: nm_s A S) μ' (fun r μ2 => ∃ A2 κ2 o, nm_R E A2 κ2 μ2 ∧ nm_x A A2 κ κ2 ∧ nm_res E A2 κ2 μ2 r o ∧ Q o κ2) := by
  obtain ⟨h1, h2⟩ := nm_agree hR2.2 hf
  have h3 := nm_on (f := (pn, L, (2, p) :: S)) hR2.1 hR2.2 (nm_kf_cons (pc := pc) (fun _ => Or.inl hp) h2) kk
  have e : nm_f (nm_up A p (E.1 + μ (-1) 0)) (pn, L, (2, p) :: S) = (pn, nm_l A L, (2, E.1 + μ (-1) 0) :: nm_s A S) := by
    have e1 : nm_l (nm_up A p (E.1 + μ (-1) 0)) L = nm_l A L := congrArg (fun g => g.2.1) h1
    have e2 : nm_s (nm_up A p (E.1 + μ (-1) 0)) S = nm_s A S := congrArg (fun g => g.2.2) h1
    show (pn, nm_l (nm_up A p (E.1 + μ (-1) 0)) L, (2, nm_up A p (E.1 + μ (-1) 0) p) :: nm_s (nm_up A p (E.1 + μ (-1) 0)) S) = _
    rw [e1, e2, nm_up_at]
  rwa [e] at h3
theorem nm_al_a {sz : Int} {z0 : Int → Int} (hp : 0 ≤ p) (hk : 0 ≤ k) : nm_a (nm_al κ p k l sz z0) p := by
  unfold nm_a nm_al
  rw [if_neg (by omega), if_neg (by omega), if_pos rfl, if_pos rfl]
  exact hk
theorem nm_new {K : mv_K} {sz : Int} (p : Int) (hr : mg_at j pc = some (3, .new n)) (hn : pc + 3 = pn) (hK : mt_cl[n]? = some K) (hs : K.2.2.2.2.all (fun ty => match ty with | .int => true | .boolean => true | .long => true | .object _ => true | .array _ => true | _ => false) = true) (hk : 100 + (n : Int) = k) (hsz : (K.2.2.2.1 : Int) = sz) (hp : 0 ≤ p ∧ p ≤ 9000) (hpn : κ p (-1) < 0) (kk : nm_w E d j (pn, L, (2, p) :: S) (nm_al κ p k 0 sz (mm_z n)) Q) : nm_w E d j (pc, L, S) κ Q := fun A μ hR hf => by
  subst hk
  refine mg_new (L := nm_l A L) (S := nm_s A S) hr hn hK hs rfl hR.2.2.2.1.1 ?_
  have e1 : mm_al E μ (100 + (n : Int)) 0 (mm_z n) (E.1 + μ (-1) 0) (-1) = 100 + (n : Int) := by simp [mm_al]
  refine nm_made (sz := sz) (z0 := mm_z n) hR hf (nm_R_al hR hp.1 (by omega) hpn (by omega) (fun i hi h => mm_z_neg hK hi h) ?_) (nm_al_a hp.1 (by omega)) kk
  rw [mm_co e1]
  simp only [mv_cz, hK]
  exact hsz.symm
theorem nm_na {at_ : ArrayType} (p : Int) (hr : mg_at j pc = some (2, .newarray at_)) (hn : pc + 2 = pn) (ht : mv_kd at_ = t) (hok : at_ = .int ∨ at_ = .boolean ∨ at_ = .long) (hl : 0 ≤ l ∧ l ≤ 60000000) (hp : 0 ≤ p ∧ p ≤ 9000) (hpn : κ p (-1) < 0) (kk : nm_w E d j (pn, L, (2, p) :: S) (nm_al κ p (t : Int) l l (fun _ => 0)) Q) : nm_w E d j (pc, L, (0, l) :: S) κ Q := fun A μ hR hf => by
  refine mg_na (L := nm_l A L) (S := nm_s A S) hr hn ht hok hl hR.2.2.2.1.1 ?_
  have ht3 : (t : Int) < 3 := by rcases hok with rfl | rfl | rfl <;> (rw [← ht]; decide)
  have e1 : mm_al E μ (t : Int) l (fun _ => 0) (E.1 + μ (-1) 0) (-1) = (t : Int) := by simp [mm_al]
  have e2 : mm_al E μ (t : Int) l (fun _ => 0) (E.1 + μ (-1) 0) (-2) = l := by simp [mm_al]
  refine nm_made (sz := l) (z0 := fun _ => 0) hR (nm_kf_tail (pc2 := pc) hf) (nm_R_al hR hp.1 (by omega) hpn (by omega) (fun i hi h => ?_) ?_) (nm_al_a hp.1 (by omega)) kk
  · unfold nm_rf at h
    rw [if_pos (by omega)] at h
    have := of_decide_eq_true h
    omega
  · rw [mm_ca e1 (by omega), e2]
    show l = (l.toNat : Int)
    omega
theorem nm_an (p : Int) (hr : mg_at j pc = some (3, .anewarray t)) (hn : pc + 3 = pn) (ht : mg_aA t = true) (ht2 : t < 100) (hl : 0 ≤ l ∧ l ≤ 60000000) (hp : 0 ≤ p ∧ p ≤ 9000) (hpn : κ p (-1) < 0) (kk : nm_w E d j (pn, L, (2, p) :: S) (nm_al κ p (t : Int) l l (fun _ => -1)) Q) : nm_w E d j (pc, L, (0, l) :: S) κ Q := fun A μ hR hf => by
  refine mg_an (L := nm_l A L) (S := nm_s A S) hr hn ht ht2 hl hR.2.2.2.1.1 ?_
  have e1 : mm_al E μ (t : Int) l (fun _ => -1) (E.1 + μ (-1) 0) (-1) = (t : Int) := by simp [mm_al]
  have e2 : mm_al E μ (t : Int) l (fun _ => -1) (E.1 + μ (-1) 0) (-2) = l := by simp [mm_al]
  refine nm_made (sz := l) (z0 := fun _ => -1) hR (nm_kf_tail (pc2 := pc) hf) (nm_R_al hR hp.1 (by omega) hpn (by omega) (fun i hi h => by show (-1 : Int) < 0; omega) ?_) (nm_al_a hp.1 (by omega)) kk
  rw [mm_ca e1 (by omega), e2]
  show l = (l.toNat : Int)
  omega
/-! calls -/
theorem nm_ent (as : List mg_V) : mg_ent (nm_s A as) = nm_l A (mg_ent as) := by
  induction as with
  | nil => rfl
  | cons v r ih =>
    rw [nm_s_cons]
    unfold mg_ent
    rw [nm_v1, ih]
    split <;> rfl
theorem nm_in (as : List mg_V) : mg_in n (nm_s A as) = nm_l A (mg_in n as) := by
  unfold mg_in
  rw [nm_ent, nm_l_len]
  simp [nm_l]
theorem nm_fit (h : (decide (mj_a q ≤ S.length) && decide (((mg_eS (S.drop (mj_a q))).map fun v => v.category).sum ≤ 8) && decide ((mg_ent (S.take (mj_a q)).reverse).length ≤ mj_n q)) = true) : (decide (mj_a q ≤ (nm_s A S).length) && decide (((mg_eS ((nm_s A S).drop (mj_a q))).map fun v => v.category).sum ≤ 8) && decide ((mg_ent ((nm_s A S).take (mj_a q)).reverse).length ≤ mj_n q)) = true := by
  have e1 : (nm_s A S).length = S.length := by simp [nm_s]
  have e2 : (nm_s A S).drop (mj_a q) = nm_s A (S.drop (mj_a q)) := by simp [nm_s, List.map_drop]
  have e3 : ((nm_s A S).take (mj_a q)).reverse = nm_s A (S.take (mj_a q)).reverse := by simp [nm_s, List.map_take]
  rw [e1, e2, e3, nm_ent, nm_l_len, nm_cat]
  exact h
theorem nm_tk : ((nm_s A S).take n).reverse = nm_s A (S.take n).reverse := by simp [nm_s, List.map_take]
theorem nm_dr : (nm_s A S).drop n = nm_s A (S.drop n) := by simp [nm_s, List.map_drop]
theorem nm_kin (as : List mg_V) (h : ∀ v ∈ as, nm_kv κ v) : nm_kf κ (0, mg_in n as, []) := by
  refine ⟨fun v hv => ?_, fun v hv => by cases hv⟩
  have hv2 : some v ∈ mg_ent as := by
    unfold mg_in at hv
    rcases List.mem_append.mp hv with h1 | h1
    · exact h1
    · exact absurd (List.eq_of_mem_replicate h1) (by simp)
  clear hv
  induction as with
  | nil => cases hv2
  | cons w r ih =>
    unfold mg_ent at hv2
    split at hv2
    · simp only [List.mem_cons] at hv2
      rcases hv2 with h1 | h1 | h1
      · cases h1; exact h _ List.mem_cons_self
      · cases h1
      · exact ih (fun v hv => h v (List.mem_cons_of_mem _ hv)) h1
    · simp only [List.mem_cons] at hv2
      rcases hv2 with h1 | h1
      · cases h1; exact h _ List.mem_cons_self
      · exact ih (fun v hv => h v (List.mem_cons_of_mem _ hv)) h1
/-- what comes after a call -/
theorem nm_aft (hf : nm_kf κ (pc, L, S)) (hrest : S.drop n = rest) (k1 : ∀ (v : Option mg_V) (κ' : mm_T), Q2 (.inl v) κ' → nm_w E (d + 1) j (pn, L, v.toList ++ rest) κ' Q) {v : Option mg_V} {μ' : mm_T} (h : ∃ A' κ' o, nm_R E A' κ' μ' ∧ nm_x A A' κ κ' ∧ nm_res E A' κ' μ' (.inl v) o ∧ Q2 o κ') : mg_w E (d + 1) j (pn, nm_l A L, v.toList ++ nm_s A rest) μ' (fun r μ2 => ∃ A2 κ2 o, nm_R E A2 κ2 μ2 ∧ nm_x A A2 κ κ2 ∧ nm_res E A2 κ2 μ2 r o ∧ Q o κ2) := by
  obtain ⟨A', κ', o, h1, h2, h3, h4⟩ := h
  have hf2 : nm_kf κ (pn, L, rest) := ⟨hf.1, fun w hw => hf.2 w (by rw [← hrest] at hw; exact List.mem_of_mem_drop hw)⟩
  obtain ⟨g1, g2⟩ := nm_agree h2 hf2
  have e1 : nm_l A' L = nm_l A L := congrArg (fun g => g.2.1) g1
  have e2 : nm_s A' rest = nm_s A rest := congrArg (fun g => g.2.2) g1
  cases v with
  | none =>
    cases o with
    | inr c => exact h3.elim
    | inl w =>
      cases w with
      | some w => exact h3.elim
      | none =>
        have h5 := nm_on (f := (pn, L, rest)) h1 h2 g2 (k1 none κ' h4)
        rw [show nm_f A' (pn, L, rest) = (pn, nm_l A L, nm_s A rest) by show (pn, nm_l A' L, nm_s A' rest) = _; rw [e1, e2]] at h5
        exact h5
  | some v =>
    cases o with
    | inr c => exact h3.elim
    | inl w =>
      cases w with
      | none => exact h3.elim
      | some w =>
        obtain ⟨rfl, h6⟩ := h3
        have h5 := nm_on (f := (pn, L, w :: rest)) h1 h2 (nm_kf_cons (pc := pn) h6 g2) (k1 (some w) κ' h4)
        rw [show nm_f A' (pn, L, w :: rest) = (pn, nm_l A L, nm_v A' w :: nm_s A rest) by show (pn, nm_l A' L, nm_v A' w :: nm_s A' rest) = _; rw [e1, e2]] at h5
        exact h5
theorem nm_thru (k2 : ∀ (c : Nat) (κ' : mm_T), Q2 (.inr c) κ' → Q (.inr c) κ') {a : Int} {μ' : mm_T} (h : ∃ A' κ' o, nm_R E A' κ' μ' ∧ nm_x A A' κ κ' ∧ nm_res E A' κ' μ' (.inr a) o ∧ Q2 o κ') : ∃ A' κ' o, nm_R E A' κ' μ' ∧ nm_x A A' κ κ' ∧ nm_res E A' κ' μ' (.inr a) o ∧ Q o κ' := by
  obtain ⟨A', κ', o, h1, h2, h3, h4⟩ := h
  cases o with
  | inl w => cases w <;> exact h3.elim
  | inr c => exact ⟨A', κ', .inr c, h1, h2, h3, k2 c κ' h4⟩
theorem nm_kS (hf : nm_kf κ (pc, L, S)) : ∀ v ∈ (S.take n).reverse, nm_kv κ v := fun v hv => hf.2 v (List.mem_of_mem_take (List.mem_reverse.mp hv))
/-- a static method; what it throws goes on -/
theorem nm_cs (hr : mg_at j pc = some (3, .invokestatic j2)) (hn : pc + 3 = pn) (hq0 : mt_ms[j]? = some q0) (hh : mj_hr q0 = []) (hq : mt_ms[j2]? = some q) (hfit : (decide (mj_a q ≤ S.length) && decide (((mg_eS (S.drop (mj_a q))).map fun v => v.category).sum ≤ 8) && decide ((mg_ent (S.take (mj_a q)).reverse).length ≤ mj_n q)) = true) (hL : mg_in (mj_n q) (S.take (mj_a q)).reverse = L2) (hrest : S.drop (mj_a q) = rest)
    (w : nm_w E d j2 (0, L2, []) κ Q2) (k1 : ∀ (v : Option mg_V) (κ' : mm_T), Q2 (.inl v) κ' → nm_w E (d + 1) j (pn, L, v.toList ++ rest) κ' Q) (k2 : ∀ (c : Nat) (κ' : mm_T), Q2 (.inr c) κ' → Q (.inr c) κ') : nm_w E (d + 1) j (pc, L, S) κ Q := fun A μ hR hf => by
  refine mg_cs (L := nm_l A L) (S := nm_s A S) (L2 := nm_l A L2) (rest := nm_s A rest) hr hn hq0 hh hq (nm_fit hfit) (by rw [nm_tk, nm_in, hL]) (by rw [nm_dr, hrest]) (w A μ hR (by rw [← hL]; exact nm_kin _ (nm_kS hf))) (fun v μ' h => nm_aft hf hrest k1 h) (fun a μ' h => nm_thru k2 h)
/-- a method of an object -/
theorem nm_cv (hr : mg_at j pc = some (3, .invokevirtual j2)) (hn : pc + 3 = pn) (hq0 : mt_ms[j]? = some q0) (hh : mj_hr q0 = []) (hq : mt_ms[j2]? = some q) (hfit : (decide (mj_a q ≤ S.length) && decide (((mg_eS (S.drop (mj_a q))).map fun v => v.category).sum ≤ 8) && decide ((mg_ent (S.take (mj_a q)).reverse).length ≤ mj_n q)) = true) (has : (S.take (mj_a q)).reverse = (2, p) :: as2) (hL : mg_in (mj_n q) ((2, p) :: as2) = L2) (hrest : S.drop (mj_a q) = rest) (hc : κ p (-1) = 100 + ((mj_k q : Nat) : Int))
    (w : nm_w E d j2 (0, L2, []) κ Q2) (k1 : ∀ (v : Option mg_V) (κ' : mm_T), Q2 (.inl v) κ' → nm_w E (d + 1) j (pn, L, v.toList ++ rest) κ' Q) (k2 : ∀ (c : Nat) (κ' : mm_T), Q2 (.inr c) κ' → Q (.inr c) κ') : nm_w E (d + 1) j (pc, L, S) κ Q := fun A μ hR hf => by
  have ha : nm_a κ p := by unfold nm_a; omega
  obtain ⟨h1, h2, h3⟩ := hR.1 p ha
  exact mg_cv (a := A p) (as2 := nm_s A as2) (L := nm_l A L) (S := nm_s A S) (L2 := nm_l A L2) (rest := nm_s A rest) hr hn hq0 hh hq (nm_fit hfit) (by rw [nm_tk, has]; rfl) (by rw [← nm_v2, ← nm_s_cons, nm_in, hL]) (by rw [nm_dr, hrest]) hc ⟨h1, h2⟩ (w A μ hR (by rw [← hL, ← has]; exact nm_kin _ (nm_kS hf))) (fun v μ' h => nm_aft hf hrest k1 h) (fun a μ' h => nm_thru k2 h)
/-- a constructor -/
theorem nm_ci (hr : mg_at j pc = some (3, .invokespecial j2)) (hn : pc + 3 = pn) (hq0 : mt_ms[j]? = some q0) (hh : mj_hr q0 = []) (hq : mt_ms[j2]? = some q) (hfit : (decide (mj_a q ≤ S.length) && decide (((mg_eS (S.drop (mj_a q))).map fun v => v.category).sum ≤ 8) && decide ((mg_ent (S.take (mj_a q)).reverse).length ≤ mj_n q)) = true) (has : (S.take (mj_a q)).reverse = (2, p) :: as2) (hL : mg_in (mj_n q) ((2, p) :: as2) = L2) (hrest : S.drop (mj_a q) = rest)
    (w : nm_w E d j2 (0, L2, []) κ Q2) (k1 : ∀ (v : Option mg_V) (κ' : mm_T), Q2 (.inl v) κ' → nm_w E (d + 1) j (pn, L, v.toList ++ rest) κ' Q) (k2 : ∀ (c : Nat) (κ' : mm_T), Q2 (.inr c) κ' → Q (.inr c) κ') : nm_w E (d + 1) j (pc, L, S) κ Q := fun A μ hR hf => by
  exact mg_ci (a := A p) (as2 := nm_s A as2) (L := nm_l A L) (S := nm_s A S) (L2 := nm_l A L2) (rest := nm_s A rest) hr hn hq0 hh hq (nm_fit hfit) (by rw [nm_tk, has]; rfl) (by rw [← nm_v2, ← nm_s_cons, nm_in, hL]) (by rw [nm_dr, hrest]) (w A μ hR (by rw [← hL, ← has]; exact nm_kin _ (nm_kS hf))) (fun v μ' h => nm_aft hf hrest k1 h) (fun a μ' h => nm_thru k2 h)
/-! ends -/
theorem nm_retV (hr : mg_at j pc = some (1, .return_)) (hq0 : mt_ms[j]? = some q0) (ht : mj_r q0 = none) (h : Q (.inl none) κ) : nm_w E d j (pc, L, []) κ Q := fun A μ hR hf => mg_retV (L := nm_l A L) hr hq0 ht ⟨A, κ, .inl none, hR, nm_x.refl, trivial, h⟩
theorem nm_retI (hr : mg_at j pc = some (1, .ireturn)) (hq0 : mt_ms[j]? = some q0) (ht : mj_r q0 = some .int) (h : Q (.inl (some (0, z))) κ) : nm_w E d j (pc, L, [(0, z)]) κ Q := fun A μ hR hf => mg_retI (L := nm_l A L) hr hq0 ht ⟨A, κ, .inl (some (0, z)), hR, nm_x.refl, ⟨rfl, nm_kv0 (by decide)⟩, h⟩
theorem nm_retZ (hr : mg_at j pc = some (1, .ireturn)) (hq0 : mt_ms[j]? = some q0) (ht : mj_r q0 = some .boolean) (hz : z = 0 ∨ z = 1) (h : Q (.inl (some (0, z))) κ) : nm_w E d j (pc, L, [(0, z)]) κ Q := fun A μ hR hf => mg_retZ (L := nm_l A L) hr hq0 ht hz ⟨A, κ, .inl (some (0, z)), hR, nm_x.refl, ⟨rfl, nm_kv0 (by decide)⟩, h⟩
theorem nm_retL (hr : mg_at j pc = some (1, .lreturn)) (hq0 : mt_ms[j]? = some q0) (ht : mj_r q0 = some .long) (h : Q (.inl (some (1, z))) κ) : nm_w E d j (pc, L, [(1, z)]) κ Q := fun A μ hR hf => mg_retL (L := nm_l A L) hr hq0 ht ⟨A, κ, .inl (some (1, z)), hR, nm_x.refl, ⟨rfl, nm_kv0 (by decide)⟩, h⟩
theorem nm_retA {C : String} (hr : mg_at j pc = some (1, .areturn)) (hq0 : mt_ms[j]? = some q0) (ht : mj_r q0 = some (.object C)) (h : Q (.inl (some (2, z))) κ) : nm_w E d j (pc, L, [(2, z)]) κ Q := fun A μ hR hf => mg_retA (L := nm_l A L) (z := A z) hr hq0 ht ⟨A, κ, .inl (some (2, z)), hR, nm_x.refl, ⟨rfl, hf.2 _ List.mem_cons_self⟩, h⟩
theorem nm_retR {ty : FieldType} (hr : mg_at j pc = some (1, .areturn)) (hq0 : mt_ms[j]? = some q0) (ht : mj_r q0 = some (.array ty)) (h : Q (.inl (some (2, z))) κ) : nm_w E d j (pc, L, [(2, z)]) κ Q := fun A μ hR hf => mg_retR (L := nm_l A L) (z := A z) hr hq0 ht ⟨A, κ, .inl (some (2, z)), hR, nm_x.refl, ⟨rfl, hf.2 _ List.mem_cons_self⟩, h⟩
end NMD
