/-! cells newly made -/
/-- an end where both halves of memory are said by a relation -/
def sw_vs (P : Option mg_V → mm_T → mm_T → Prop) : nm_O → mm_T → mm_T → Prop := fun o s' ν' => ∃ v, o = .inl v ∧ P v s' ν'
section SWV3
variable {E : mv_E} {s ν : mm_T} {d j pc pn j2 : Nat} {L L2 : mg_L} {S rest as2 : List mg_V} {Q : nm_O → mm_T → mm_T → Prop} {p : Int} {q0 q : mv_J} {P : Option mg_V → mm_T → mm_T → Prop}
theorem sw_cs3 (hr : mg_at j pc = some (3, .invokestatic j2)) (hn : pc + 3 = pn) (hq0 : mt_ms[j]? = some q0) (hh : mj_hr q0 = []) (hq : mt_ms[j2]? = some q) (hfit : (decide (mj_a q ≤ S.length) && decide (((mg_eS (S.drop (mj_a q))).map fun v => v.category).sum ≤ 8) && decide ((mg_ent (S.take (mj_a q)).reverse).length ≤ mj_n q)) = true) (hL : mg_in (mj_n q) (S.take (mj_a q)).reverse = L2) (hrest : S.drop (mj_a q) = rest)
    (w : sw_w E d j2 (0, L2, []) s ν (sw_vs P)) (k : ∀ v s' ν', P v s' ν' → sw_w E (d + 1) j (pn, L, v.toList ++ rest) s' ν' Q) : sw_w E (d + 1) j (pc, L, S) s ν Q :=
  sw_cs hr hn hq0 hh hq hfit hL hrest w (fun _ _ _ h => by obtain ⟨v, h1, h3⟩ := h; cases h1; exact k _ _ _ h3) (fun _ _ _ h => by obtain ⟨v, h1, _⟩ := h; cases h1)
theorem sw_cv3 (hr : mg_at j pc = some (3, .invokevirtual j2)) (hn : pc + 3 = pn) (hq0 : mt_ms[j]? = some q0) (hh : mj_hr q0 = []) (hq : mt_ms[j2]? = some q) (hfit : (decide (mj_a q ≤ S.length) && decide (((mg_eS (S.drop (mj_a q))).map fun v => v.category).sum ≤ 8) && decide ((mg_ent (S.take (mj_a q)).reverse).length ≤ mj_n q)) = true) (has : (S.take (mj_a q)).reverse = (2, p) :: as2) (hL : mg_in (mj_n q) ((2, p) :: as2) = L2) (hrest : S.drop (mj_a q) = rest) (hc : s p (-1) = 100 + ((mj_k q : Nat) : Int))
    (w : sw_w E d j2 (0, L2, []) s ν (sw_vs P)) (k : ∀ v s' ν', P v s' ν' → sw_w E (d + 1) j (pn, L, v.toList ++ rest) s' ν' Q) : sw_w E (d + 1) j (pc, L, S) s ν Q :=
  sw_cv hr hn hq0 hh hq hfit has hL hrest hc w (fun _ _ _ h => by obtain ⟨v, h1, h3⟩ := h; cases h1; exact k _ _ _ h3) (fun _ _ _ h => by obtain ⟨v, h1, _⟩ := h; cases h1)
theorem sw_ci3 (hr : mg_at j pc = some (3, .invokespecial j2)) (hn : pc + 3 = pn) (hq0 : mt_ms[j]? = some q0) (hh : mj_hr q0 = []) (hq : mt_ms[j2]? = some q) (hfit : (decide (mj_a q ≤ S.length) && decide (((mg_eS (S.drop (mj_a q))).map fun v => v.category).sum ≤ 8) && decide ((mg_ent (S.take (mj_a q)).reverse).length ≤ mj_n q)) = true) (has : (S.take (mj_a q)).reverse = (2, p) :: as2) (hL : mg_in (mj_n q) ((2, p) :: as2) = L2) (hrest : S.drop (mj_a q) = rest)
    (w : sw_w E d j2 (0, L2, []) s ν (sw_vs P)) (k : ∀ v s' ν', P v s' ν' → sw_w E (d + 1) j (pn, L, v.toList ++ rest) s' ν' Q) : sw_w E (d + 1) j (pc, L, S) s ν Q :=
  sw_ci hr hn hq0 hh hq hfit has hL hrest w (fun _ _ _ h => by obtain ⟨v, h1, h3⟩ := h; cases h1; exact k _ _ _ h3) (fun _ _ _ h => by obtain ⟨v, h1, _⟩ := h; cases h1)
end SWV3
section AL
variable {E : mv_E} {s ν : mm_T} {d : Nat} {a b c e i k l n o p q r t u v w x y z sz : Int} {z0 : Int → Int} {Q : nm_O → mm_T → mm_T → Prop}
theorem al_k (hp : 0 ≤ p) : nm_al s p k l sz z0 p (-1) = k := by
  unfold nm_al
  rw [if_neg (by omega), if_neg (by omega), if_pos rfl, if_pos rfl]
theorem al_l (hp : 0 ≤ p) : nm_al s p k l sz z0 p (-2) = l := by
  unfold nm_al
  rw [if_neg (by omega), if_neg (by omega), if_pos rfl, if_neg (by omega), if_pos rfl]
theorem al_z (hp : 0 ≤ p) (hi : 0 ≤ i) (hz : z0 i = v) : nm_al s p k l sz z0 p i = v := by
  unfold nm_al
  rw [if_neg (by omega), if_neg (by omega), if_pos rfl, if_neg (by omega), if_neg (by omega)]
  exact hz
theorem al_ne (h : q ≠ p) (h0 : 0 ≤ q) : nm_al s p k l sz z0 q i = s q i := by
  unfold nm_al
  rw [if_neg (by omega), if_neg (by omega), if_neg h]
theorem al_c0 : nm_al s p k l sz z0 (-1) 0 = s (-1) 0 + 1 := if_pos ⟨rfl, rfl⟩
theorem al_c1 : nm_al s p k l sz z0 (-1) 1 = s (-1) 1 + sz := by
  unfold nm_al
  rw [if_neg (by omega), if_pos ⟨rfl, rfl⟩]
theorem nw_at (h : z0 i = v) : sw_nw ν p z0 p i = v := by
  unfold sw_nw
  rw [if_pos rfl]
  exact h
theorem nw_af : sw_nw ν p (fun _ => x) p i = x := if_pos rfl
theorem nw_ne (h : q ≠ p) : sw_nw ν p z0 q i = ν q i := if_neg h
/-- a bridge newly made: its number n, the one above q (or none: -1), limit l, depth x -/
def br_s (s : mm_T) (p a b n q l x : Int) : mm_T := mm_u (mm_u (mm_u (mm_u (mm_u (nm_al (mm_u (nm_al s a 3 4 4 (fun _ => -1)) p 4 a) b 5 4 4 (fun _ => -1)) p 5 b) p 0 n) p 1 q) p 2 l) p 3 x
def br_n (ν : mm_T) (a b : Int) : mm_T := (sw_nw (sw_nw ν a (fun _ => -1)) b (fun _ => -1))
theorem br_i1 (hp : s p (-1) = 101) (ha : s a (-1) < 0) (hb : s b (-1) < 0) (h0 : (0 ≤ p ∧ p ≤ 9000) ∧ (0 ≤ a ∧ a ≤ 9000) ∧ (0 ≤ b ∧ b ≤ 9000)) (hab : p ≠ a ∧ p ≠ b ∧ a ≠ b) (hq : s q (-1) = 101) (hq0 : 0 ≤ q ∧ q ≠ p ∧ q ≠ a ∧ q ≠ b) (hx : s q 3 = x) : sw_w E d 22 (0, [some (2, p), some (0, n), some (2, q), some (0, l)], []) s ν (sw_is none (br_s s p a b n q l (x + 1)) (br_n ν a b)) := by
  refine sw_p 1 (f' := (1, [some (2, p), some (0, n), some (2, q), some (0, l)], [(2, p)])) rfl ?_
  refine sw_oi (pn := 4) rfl rfl rfl ?_
  refine sw_p 2 (f' := (6, [some (2, p), some (0, n), some (2, q), some (0, l)], [(0, 4), (2, p)])) rfl ?_
  refine sw_an (pn := 9) (t := 3) a rfl rfl rfl (by decide) (by omega) (by omega) (lt_of_eq_of_lt (rfl) (by omega)) ?_
  refine sw_qA (pn := 12) (i := 4) rfl rfl rfl rfl rfl ((al_ne (by omega) (by omega)).trans (hp)) ?_
  refine sw_p 2 (f' := (14, [some (2, p), some (0, n), some (2, q), some (0, l)], [(0, 4), (2, p)])) rfl ?_
  refine sw_an (pn := 17) (t := 5) b rfl rfl rfl (by decide) (by omega) (by omega) (lt_of_eq_of_lt ((mm_u_ne (by omega)).trans ((al_ne (by omega) (by omega)).trans (rfl))) (by omega)) ?_
  refine sw_qA (pn := 20) (i := 5) rfl rfl rfl rfl rfl ((al_ne (by omega) (by omega)).trans ((mm_u_ne (by omega)).trans ((al_ne (by omega) (by omega)).trans (hp)))) ?_
  refine sw_p 2 (f' := (22, [some (2, p), some (0, n), some (2, q), some (0, l)], [(0, n), (2, p)])) rfl ?_
  refine sw_qI (pn := 25) (i := 0) rfl rfl rfl rfl rfl ((mm_u_ne (by omega)).trans ((al_ne (by omega) (by omega)).trans ((mm_u_ne (by omega)).trans ((al_ne (by omega) (by omega)).trans (hp))))) ?_
  refine sw_p 2 (f' := (27, [some (2, p), some (0, n), some (2, q), some (0, l)], [(2, q), (2, p)])) rfl ?_
  refine sw_qA (pn := 30) (i := 1) rfl rfl rfl rfl rfl ((mm_u_ne (by omega)).trans ((mm_u_ne (by omega)).trans ((al_ne (by omega) (by omega)).trans ((mm_u_ne (by omega)).trans ((al_ne (by omega) (by omega)).trans (hp)))))) ?_
  refine sw_p 2 (f' := (32, [some (2, p), some (0, n), some (2, q), some (0, l)], [(0, l), (2, p)])) rfl ?_
  refine sw_qI (pn := 35) (i := 2) rfl rfl rfl rfl rfl ((mm_u_ne (by omega)).trans ((mm_u_ne (by omega)).trans ((mm_u_ne (by omega)).trans ((al_ne (by omega) (by omega)).trans ((mm_u_ne (by omega)).trans ((al_ne (by omega) (by omega)).trans (hp))))))) ?_
  refine sw_p 4 (f' := (45, [some (2, p), some (0, n), some (2, q), some (0, l)], [(2, q), (2, p)])) rfl ?_
  refine sw_hI (pn := 48) (i := 3) (v := x) rfl rfl rfl rfl rfl ((mm_u_ne (by omega)).trans ((mm_u_ne (by omega)).trans ((mm_u_ne (by omega)).trans ((mm_u_ne (by omega)).trans ((al_ne (by omega) (by omega)).trans ((mm_u_ne (by omega)).trans ((al_ne (by omega) (by omega)).trans (hq)))))))) ((mm_u_ne (by omega)).trans ((mm_u_ne (by omega)).trans ((mm_u_ne (by omega)).trans ((mm_u_ne (by omega)).trans ((al_ne (by omega) (by omega)).trans ((mm_u_ne (by omega)).trans ((al_ne (by omega) (by omega)).trans (hx)))))))) ?_
  refine sw_p 2 (f' := (50, [some (2, p), some (0, n), some (2, q), some (0, l)], [(0, x + 1), (2, p)])) rfl ?_
  refine sw_qI (pn := 53) (i := 3) rfl rfl rfl rfl rfl ((mm_u_ne (by omega)).trans ((mm_u_ne (by omega)).trans ((mm_u_ne (by omega)).trans ((mm_u_ne (by omega)).trans ((al_ne (by omega) (by omega)).trans ((mm_u_ne (by omega)).trans ((al_ne (by omega) (by omega)).trans (hp)))))))) ?_
  exact sw_retV rfl rfl rfl ⟨rfl, rfl, rfl⟩
theorem br_i0 (hp : s p (-1) = 101) (ha : s a (-1) < 0) (hb : s b (-1) < 0) (h0 : (0 ≤ p ∧ p ≤ 9000) ∧ (0 ≤ a ∧ a ≤ 9000) ∧ (0 ≤ b ∧ b ≤ 9000)) (hab : p ≠ a ∧ p ≠ b ∧ a ≠ b) : sw_w E d 22 (0, [some (2, p), some (0, n), some (3, 0), some (0, l)], []) s ν (sw_is none (br_s s p a b n (-1) l 0) (br_n ν a b)) := by
  refine sw_p 1 (f' := (1, [some (2, p), some (0, n), some (3, 0), some (0, l)], [(2, p)])) rfl ?_
  refine sw_oi (pn := 4) rfl rfl rfl ?_
  refine sw_p 2 (f' := (6, [some (2, p), some (0, n), some (3, 0), some (0, l)], [(0, 4), (2, p)])) rfl ?_
  refine sw_an (pn := 9) (t := 3) a rfl rfl rfl (by decide) (by omega) (by omega) (lt_of_eq_of_lt (rfl) (by omega)) ?_
  refine sw_qA (pn := 12) (i := 4) rfl rfl rfl rfl rfl ((al_ne (by omega) (by omega)).trans (hp)) ?_
  refine sw_p 2 (f' := (14, [some (2, p), some (0, n), some (3, 0), some (0, l)], [(0, 4), (2, p)])) rfl ?_
  refine sw_an (pn := 17) (t := 5) b rfl rfl rfl (by decide) (by omega) (by omega) (lt_of_eq_of_lt ((mm_u_ne (by omega)).trans ((al_ne (by omega) (by omega)).trans (rfl))) (by omega)) ?_
  refine sw_qA (pn := 20) (i := 5) rfl rfl rfl rfl rfl ((al_ne (by omega) (by omega)).trans ((mm_u_ne (by omega)).trans ((al_ne (by omega) (by omega)).trans (hp)))) ?_
  refine sw_p 2 (f' := (22, [some (2, p), some (0, n), some (3, 0), some (0, l)], [(0, n), (2, p)])) rfl ?_
  refine sw_qI (pn := 25) (i := 0) rfl rfl rfl rfl rfl ((mm_u_ne (by omega)).trans ((al_ne (by omega) (by omega)).trans ((mm_u_ne (by omega)).trans ((al_ne (by omega) (by omega)).trans (hp))))) ?_
  refine sw_p 2 (f' := (27, [some (2, p), some (0, n), some (3, 0), some (0, l)], [(3, 0), (2, p)])) rfl ?_
  refine sw_qN (pn := 30) (i := 1) rfl rfl rfl rfl rfl ((mm_u_ne (by omega)).trans ((mm_u_ne (by omega)).trans ((al_ne (by omega) (by omega)).trans ((mm_u_ne (by omega)).trans ((al_ne (by omega) (by omega)).trans (hp)))))) ?_
  refine sw_p 2 (f' := (32, [some (2, p), some (0, n), some (3, 0), some (0, l)], [(0, l), (2, p)])) rfl ?_
  refine sw_qI (pn := 35) (i := 2) rfl rfl rfl rfl rfl ((mm_u_ne (by omega)).trans ((mm_u_ne (by omega)).trans ((mm_u_ne (by omega)).trans ((al_ne (by omega) (by omega)).trans ((mm_u_ne (by omega)).trans ((al_ne (by omega) (by omega)).trans (hp))))))) ?_
  refine sw_p 5 (f' := (50, [some (2, p), some (0, n), some (3, 0), some (0, l)], [(0, 0), (2, p)])) rfl ?_
  refine sw_qI (pn := 53) (i := 3) rfl rfl rfl rfl rfl ((mm_u_ne (by omega)).trans ((mm_u_ne (by omega)).trans ((mm_u_ne (by omega)).trans ((mm_u_ne (by omega)).trans ((al_ne (by omega) (by omega)).trans ((mm_u_ne (by omega)).trans ((al_ne (by omega) (by omega)).trans (hp)))))))) ?_
  exact sw_retV rfl rfl rfl ⟨rfl, rfl, rfl⟩
theorem rq_i (hp : s p (-1) = 104) (h0 : 0 ≤ p ∧ p ≤ 9000) : sw_w E d 17 (0, [some (2, p), some (0, x), some (0, w)], []) s ν (sw_is none (mm_u (mm_u s p 0 x) p 1 w) (mm_u ν p 2 1099511627776)) := by
  refine sw_p 1 (f' := (1, [some (2, p), some (0, x), some (0, w)], [(2, p)])) rfl ?_
  refine sw_oi (pn := 4) rfl rfl rfl ?_
  refine sw_p 2 (f' := (8, [some (2, p), some (0, x), some (0, w)], [(1, 1099511627776), (2, p)])) rfl ?_
  refine sw_pL (pn := 11) (i := 2) rfl rfl rfl rfl rfl (by omega) (hp) ?_
  refine sw_p 2 (f' := (13, [some (2, p), some (0, x), some (0, w)], [(0, x), (2, p)])) rfl ?_
  refine sw_qI (pn := 16) (i := 0) rfl rfl rfl rfl rfl (hp) ?_
  refine sw_p 2 (f' := (18, [some (2, p), some (0, x), some (0, w)], [(0, w), (2, p)])) rfl ?_
  refine sw_qI (pn := 21) (i := 1) rfl rfl rfl rfl rfl ((mm_u_ne (by omega)).trans (hp)) ?_
  exact sw_retV rfl rfl rfl ⟨rfl, rfl, rfl⟩
/-- a card newly made: in the slot x of the bridge q, of the type r -/
def ca_s (s : mm_T) (p a b q x r : Int) : mm_T := mm_u (mm_u (mm_u (mm_u (nm_al (mm_u (nm_al s a 0 3 3 (fun _ => 0)) p 3 a) b 6 8 8 (fun _ => -1)) p 4 b) p 0 q) p 1 x) p 2 r
def ca_n (ν : mm_T) (p a b : Int) : mm_T := mm_u (sw_nw (sw_nw ν a (fun _ => 0)) b (fun _ => -1)) p 6 0
theorem ca_i (hp : s p (-1) = 103) (ha : s a (-1) < 0) (hb : s b (-1) < 0) (h0 : (0 ≤ p ∧ p ≤ 9000) ∧ (0 ≤ a ∧ a ≤ 9000) ∧ (0 ≤ b ∧ b ≤ 9000)) (hab : p ≠ a ∧ p ≠ b ∧ a ≠ b) : sw_w E d 30 (0, [some (2, p), some (2, q), some (0, x), some (2, r)], []) s ν (sw_is none (ca_s s p a b q x r) (ca_n ν p a b)) := by
  refine sw_p 1 (f' := (1, [some (2, p), some (2, q), some (0, x), some (2, r)], [(2, p)])) rfl ?_
  refine sw_oi (pn := 4) rfl rfl rfl ?_
  refine sw_p 2 (f' := (6, [some (2, p), some (2, q), some (0, x), some (2, r)], [(0, 3), (2, p)])) rfl ?_
  refine sw_na (pn := 8) (t := 0) a rfl rfl rfl (by exact Or.inl rfl) (by omega) (by omega) (lt_of_eq_of_lt (rfl) (by omega)) ?_
  refine sw_qA (pn := 11) (i := 3) rfl rfl rfl rfl rfl ((al_ne (by omega) (by omega)).trans (hp)) ?_
  refine sw_p 2 (f' := (14, [some (2, p), some (2, q), some (0, x), some (2, r)], [(0, 8), (2, p)])) rfl ?_
  refine sw_an (pn := 17) (t := 6) b rfl rfl rfl (by decide) (by omega) (by omega) (lt_of_eq_of_lt ((mm_u_ne (by omega)).trans ((al_ne (by omega) (by omega)).trans (rfl))) (by omega)) ?_
  refine sw_qA (pn := 20) (i := 4) rfl rfl rfl rfl rfl ((al_ne (by omega) (by omega)).trans ((mm_u_ne (by omega)).trans ((al_ne (by omega) (by omega)).trans (hp)))) ?_
  refine sw_p 2 (f' := (22, [some (2, p), some (2, q), some (0, x), some (2, r)], [(0, 0), (2, p)])) rfl ?_
  refine sw_pI (pn := 25) (i := 6) rfl rfl rfl rfl rfl (by omega) ((mm_u_ne (by omega)).trans ((al_ne (by omega) (by omega)).trans ((mm_u_ne (by omega)).trans ((al_ne (by omega) (by omega)).trans (hp))))) ?_
  refine sw_p 2 (f' := (27, [some (2, p), some (2, q), some (0, x), some (2, r)], [(2, q), (2, p)])) rfl ?_
  refine sw_qA (pn := 30) (i := 0) rfl rfl rfl rfl rfl ((mm_u_ne (by omega)).trans ((al_ne (by omega) (by omega)).trans ((mm_u_ne (by omega)).trans ((al_ne (by omega) (by omega)).trans (hp))))) ?_
  refine sw_p 2 (f' := (32, [some (2, p), some (2, q), some (0, x), some (2, r)], [(0, x), (2, p)])) rfl ?_
  refine sw_qI (pn := 35) (i := 1) rfl rfl rfl rfl rfl ((mm_u_ne (by omega)).trans ((mm_u_ne (by omega)).trans ((al_ne (by omega) (by omega)).trans ((mm_u_ne (by omega)).trans ((al_ne (by omega) (by omega)).trans (hp)))))) ?_
  refine sw_p 2 (f' := (37, [some (2, p), some (2, q), some (0, x), some (2, r)], [(2, r), (2, p)])) rfl ?_
  refine sw_qA (pn := 40) (i := 2) rfl rfl rfl rfl rfl ((mm_u_ne (by omega)).trans ((mm_u_ne (by omega)).trans ((mm_u_ne (by omega)).trans ((al_ne (by omega) (by omega)).trans ((mm_u_ne (by omega)).trans ((al_ne (by omega) (by omega)).trans (hp))))))) ?_
  exact sw_retV rfl rfl rfl ⟨rfl, rfl, rfl⟩
end AL
