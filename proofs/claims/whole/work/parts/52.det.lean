/-! methods that come to one end: what they return, and memory then -/
def sw_is (v : Option mg_V) (s ν : mm_T) : nm_O → mm_T → mm_T → Prop := fun o s' ν' => o = .inl v ∧ s' = s ∧ ν' = ν
section SWC
variable {E : mv_E} {s ν s1 ν1 : mm_T} {d j pc pn j2 : Nat} {L L2 : mg_L} {S rest as2 : List mg_V} {Q : nm_O → mm_T → mm_T → Prop} {p : Int} {q0 q : mv_J} {v : Option mg_V}
theorem sw_cs1 (hr : mg_at j pc = some (3, .invokestatic j2)) (hn : pc + 3 = pn) (hq0 : mt_ms[j]? = some q0) (hh : mj_hr q0 = []) (hq : mt_ms[j2]? = some q) (hfit : (decide (mj_a q ≤ S.length) && decide (((mg_eS (S.drop (mj_a q))).map fun v => v.category).sum ≤ 8) && decide ((mg_ent (S.take (mj_a q)).reverse).length ≤ mj_n q)) = true) (hL : mg_in (mj_n q) (S.take (mj_a q)).reverse = L2) (hrest : S.drop (mj_a q) = rest)
    (w : sw_w E d j2 (0, L2, []) s ν (sw_is v s1 ν1)) (k : sw_w E (d + 1) j (pn, L, v.toList ++ rest) s1 ν1 Q) : sw_w E (d + 1) j (pc, L, S) s ν Q :=
  sw_cs hr hn hq0 hh hq hfit hL hrest w (fun _ _ _ h => by obtain ⟨h1, rfl, rfl⟩ := h; cases h1; exact k) (fun _ _ _ h => by cases h.1)
theorem sw_cv1 (hr : mg_at j pc = some (3, .invokevirtual j2)) (hn : pc + 3 = pn) (hq0 : mt_ms[j]? = some q0) (hh : mj_hr q0 = []) (hq : mt_ms[j2]? = some q) (hfit : (decide (mj_a q ≤ S.length) && decide (((mg_eS (S.drop (mj_a q))).map fun v => v.category).sum ≤ 8) && decide ((mg_ent (S.take (mj_a q)).reverse).length ≤ mj_n q)) = true) (has : (S.take (mj_a q)).reverse = (2, p) :: as2) (hL : mg_in (mj_n q) ((2, p) :: as2) = L2) (hrest : S.drop (mj_a q) = rest) (hc : s p (-1) = 100 + ((mj_k q : Nat) : Int))
    (w : sw_w E d j2 (0, L2, []) s ν (sw_is v s1 ν1)) (k : sw_w E (d + 1) j (pn, L, v.toList ++ rest) s1 ν1 Q) : sw_w E (d + 1) j (pc, L, S) s ν Q :=
  sw_cv hr hn hq0 hh hq hfit has hL hrest hc w (fun _ _ _ h => by obtain ⟨h1, rfl, rfl⟩ := h; cases h1; exact k) (fun _ _ _ h => by cases h.1)
theorem sw_ci1 (hr : mg_at j pc = some (3, .invokespecial j2)) (hn : pc + 3 = pn) (hq0 : mt_ms[j]? = some q0) (hh : mj_hr q0 = []) (hq : mt_ms[j2]? = some q) (hfit : (decide (mj_a q ≤ S.length) && decide (((mg_eS (S.drop (mj_a q))).map fun v => v.category).sum ≤ 8) && decide ((mg_ent (S.take (mj_a q)).reverse).length ≤ mj_n q)) = true) (has : (S.take (mj_a q)).reverse = (2, p) :: as2) (hL : mg_in (mj_n q) ((2, p) :: as2) = L2) (hrest : S.drop (mj_a q) = rest)
    (w : sw_w E d j2 (0, L2, []) s ν (sw_is v s1 ν1)) (k : sw_w E (d + 1) j (pn, L, v.toList ++ rest) s1 ν1 Q) : sw_w E (d + 1) j (pc, L, S) s ν Q :=
  sw_ci hr hn hq0 hh hq hfit has hL hrest w (fun _ _ _ h => by obtain ⟨h1, rfl, rfl⟩ := h; cases h1; exact k) (fun _ _ _ h => by cases h.1)
end SWC
/-! the reference's cells: the object is 0, each array has its field's number -/
def mo_fs : List (Int × Int × Int) := [(2, 0, 32), (3, 0, 8), (4, 0, 8), (5, 0, 8), (6, 0, 8), (7, 0, 8), (9, 0, 48), (10, 0, 16), (11, 1, 16), (13, 0, 40), (14, 0, 40), (15, 0, 40), (16, 0, 40), (17, 0, 120), (18, 0, 120), (19, 0, 40), (20, 0, 40), (25, 0, 512), (26, 0, 512), (27, 0, 512), (28, 2, 512), (29, 1, 4096), (30, 1, 4096)]
def mo_sh (s : mm_T) : Prop := s 0 (-1) = 106 ∧ ∀ f ∈ mo_fs, s 0 f.1 = f.1 ∧ s f.1 (-1) = f.2.1 ∧ s f.1 (-2) = f.2.2
theorem mo_s2 {s : mm_T} (hs : mo_sh s) : s 0 2 = 2 ∧ s 2 (-1) = 0 ∧ s 2 (-2) = 32 := hs.2 (2, 0, 32) (by decide)
theorem mo_s3 {s : mm_T} (hs : mo_sh s) : s 0 3 = 3 ∧ s 3 (-1) = 0 ∧ s 3 (-2) = 8 := hs.2 (3, 0, 8) (by decide)
theorem mo_s4 {s : mm_T} (hs : mo_sh s) : s 0 4 = 4 ∧ s 4 (-1) = 0 ∧ s 4 (-2) = 8 := hs.2 (4, 0, 8) (by decide)
theorem mo_s5 {s : mm_T} (hs : mo_sh s) : s 0 5 = 5 ∧ s 5 (-1) = 0 ∧ s 5 (-2) = 8 := hs.2 (5, 0, 8) (by decide)
theorem mo_s6 {s : mm_T} (hs : mo_sh s) : s 0 6 = 6 ∧ s 6 (-1) = 0 ∧ s 6 (-2) = 8 := hs.2 (6, 0, 8) (by decide)
theorem mo_s7 {s : mm_T} (hs : mo_sh s) : s 0 7 = 7 ∧ s 7 (-1) = 0 ∧ s 7 (-2) = 8 := hs.2 (7, 0, 8) (by decide)
theorem mo_s9 {s : mm_T} (hs : mo_sh s) : s 0 9 = 9 ∧ s 9 (-1) = 0 ∧ s 9 (-2) = 48 := hs.2 (9, 0, 48) (by decide)
theorem mo_s10 {s : mm_T} (hs : mo_sh s) : s 0 10 = 10 ∧ s 10 (-1) = 0 ∧ s 10 (-2) = 16 := hs.2 (10, 0, 16) (by decide)
theorem mo_s11 {s : mm_T} (hs : mo_sh s) : s 0 11 = 11 ∧ s 11 (-1) = 1 ∧ s 11 (-2) = 16 := hs.2 (11, 1, 16) (by decide)
theorem mo_s13 {s : mm_T} (hs : mo_sh s) : s 0 13 = 13 ∧ s 13 (-1) = 0 ∧ s 13 (-2) = 40 := hs.2 (13, 0, 40) (by decide)
theorem mo_s14 {s : mm_T} (hs : mo_sh s) : s 0 14 = 14 ∧ s 14 (-1) = 0 ∧ s 14 (-2) = 40 := hs.2 (14, 0, 40) (by decide)
theorem mo_s15 {s : mm_T} (hs : mo_sh s) : s 0 15 = 15 ∧ s 15 (-1) = 0 ∧ s 15 (-2) = 40 := hs.2 (15, 0, 40) (by decide)
theorem mo_s16 {s : mm_T} (hs : mo_sh s) : s 0 16 = 16 ∧ s 16 (-1) = 0 ∧ s 16 (-2) = 40 := hs.2 (16, 0, 40) (by decide)
theorem mo_s17 {s : mm_T} (hs : mo_sh s) : s 0 17 = 17 ∧ s 17 (-1) = 0 ∧ s 17 (-2) = 120 := hs.2 (17, 0, 120) (by decide)
theorem mo_s18 {s : mm_T} (hs : mo_sh s) : s 0 18 = 18 ∧ s 18 (-1) = 0 ∧ s 18 (-2) = 120 := hs.2 (18, 0, 120) (by decide)
theorem mo_s19 {s : mm_T} (hs : mo_sh s) : s 0 19 = 19 ∧ s 19 (-1) = 0 ∧ s 19 (-2) = 40 := hs.2 (19, 0, 40) (by decide)
theorem mo_s20 {s : mm_T} (hs : mo_sh s) : s 0 20 = 20 ∧ s 20 (-1) = 0 ∧ s 20 (-2) = 40 := hs.2 (20, 0, 40) (by decide)
theorem mo_s25 {s : mm_T} (hs : mo_sh s) : s 0 25 = 25 ∧ s 25 (-1) = 0 ∧ s 25 (-2) = 512 := hs.2 (25, 0, 512) (by decide)
theorem mo_s26 {s : mm_T} (hs : mo_sh s) : s 0 26 = 26 ∧ s 26 (-1) = 0 ∧ s 26 (-2) = 512 := hs.2 (26, 0, 512) (by decide)
theorem mo_s27 {s : mm_T} (hs : mo_sh s) : s 0 27 = 27 ∧ s 27 (-1) = 0 ∧ s 27 (-2) = 512 := hs.2 (27, 0, 512) (by decide)
theorem mo_s28 {s : mm_T} (hs : mo_sh s) : s 0 28 = 28 ∧ s 28 (-1) = 2 ∧ s 28 (-2) = 512 := hs.2 (28, 2, 512) (by decide)
theorem mo_s29 {s : mm_T} (hs : mo_sh s) : s 0 29 = 29 ∧ s 29 (-1) = 1 ∧ s 29 (-2) = 4096 := hs.2 (29, 1, 4096) (by decide)
theorem mo_s30 {s : mm_T} (hs : mo_sh s) : s 0 30 = 30 ∧ s 30 (-1) = 1 ∧ s 30 (-2) = 4096 := hs.2 (30, 1, 4096) (by decide)
