/-! the class: bridge -/
def cb_s (s : mm_T) (n b l x : Int) : mm_T := br_s (nm_al s (100 + n) 101 0 9 (mm_z 1)) (100 + n) (110 + n) (120 + n) n (100 + b) l (x + 1)
def cb_n (ν : mm_T) (n b x : Int) : mm_T := mm_u (mm_u (mm_u (br_n (sw_nw ν (100 + n) (mm_z 1)) (110 + n) (120 + n)) (110 + b) x (100 + n)) 51 n (100 + n)) 50 8 (n + 1)
section BR1
variable {E : mv_E} {s ν ρ : mm_T} {f : Int → Int} {d : Nat} {a b c e i k l n o p q r t u v w x y z sz : Int} {Q : nm_O → mm_T → mm_T → Prop}
theorem cbs_f (h0 : 0 ≤ p) (h1 : p ≠ 100 + n ∧ p ≠ 110 + n ∧ p ≠ 120 + n) : cb_s s n b l x p i = s p i := by
  unfold cb_s br_s
  rw [mm_u_ne (by omega), mm_u_ne (by omega), mm_u_ne (by omega), mm_u_ne (by omega), mm_u_ne (by omega), al_ne (by omega) (by omega), mm_u_ne (by omega), al_ne (by omega) (by omega), al_ne (by omega) (by omega)]
theorem cbs_v (hn : 0 ≤ n) (hn2 : n < 8) : cb_s s n b l x (100 + n) (-1) = 101 ∧ cb_s s n b l x (100 + n) 0 = n ∧ cb_s s n b l x (100 + n) 1 = 100 + b ∧ cb_s s n b l x (100 + n) 2 = l ∧ cb_s s n b l x (100 + n) 3 = x + 1 ∧ (cb_s s n b l x (100 + n) 4 = 110 + n ∧ cb_s s n b l x (110 + n) (-1) = 3 ∧ cb_s s n b l x (110 + n) (-2) = 4) ∧ (cb_s s n b l x (100 + n) 5 = 120 + n ∧ cb_s s n b l x (120 + n) (-1) = 5 ∧ cb_s s n b l x (120 + n) (-2) = 4) := by
  unfold cb_s br_s
  refine ⟨?_, ?_, ?_, ?_, ?_, ⟨?_, ?_, ?_⟩, ?_, ?_, ?_⟩
  · rw [mm_u_ne (by omega), mm_u_ne (by omega), mm_u_ne (by omega), mm_u_ne (by omega), mm_u_ne (by omega), al_ne (by omega) (by omega), mm_u_ne (by omega), al_ne (by omega) (by omega), al_k (by omega)]
  · rw [mm_u_ne (by omega), mm_u_ne (by omega), mm_u_ne (by omega), mm_u_at]
  · rw [mm_u_ne (by omega), mm_u_ne (by omega), mm_u_at]
  · rw [mm_u_ne (by omega), mm_u_at]
  · rw [mm_u_at]
  · rw [mm_u_ne (by omega), mm_u_ne (by omega), mm_u_ne (by omega), mm_u_ne (by omega), mm_u_ne (by omega), al_ne (by omega) (by omega), mm_u_at]
  · rw [mm_u_ne (by omega), mm_u_ne (by omega), mm_u_ne (by omega), mm_u_ne (by omega), mm_u_ne (by omega), al_ne (by omega) (by omega), mm_u_ne (by omega), al_k (by omega)]
  · rw [mm_u_ne (by omega), mm_u_ne (by omega), mm_u_ne (by omega), mm_u_ne (by omega), mm_u_ne (by omega), al_ne (by omega) (by omega), mm_u_ne (by omega), al_l (by omega)]
  · rw [mm_u_ne (by omega), mm_u_ne (by omega), mm_u_ne (by omega), mm_u_ne (by omega), mm_u_at]
  · rw [mm_u_ne (by omega), mm_u_ne (by omega), mm_u_ne (by omega), mm_u_ne (by omega), mm_u_ne (by omega), al_k (by omega)]
  · rw [mm_u_ne (by omega), mm_u_ne (by omega), mm_u_ne (by omega), mm_u_ne (by omega), mm_u_ne (by omega), al_l (by omega)]
theorem cbs_c (hn : 0 ≤ n) : cb_s s n b l x (-1) 0 = s (-1) 0 + 1 + 1 + 1 ∧ cb_s s n b l x (-1) 1 = s (-1) 1 + 9 + 4 + 4 := by
  unfold cb_s br_s
  constructor
  · rw [mm_u_ne (by omega), mm_u_ne (by omega), mm_u_ne (by omega), mm_u_ne (by omega), mm_u_ne (by omega), al_c0, mm_u_ne (by omega), al_c0, al_c0]
  · rw [mm_u_ne (by omega), mm_u_ne (by omega), mm_u_ne (by omega), mm_u_ne (by omega), mm_u_ne (by omega), al_c1, mm_u_ne (by omega), al_c1, al_c1]
theorem cbn_f (h1 : p ≠ 100 + n ∧ p ≠ 110 + n ∧ p ≠ 120 + n) (h2 : ¬ (p = 51 ∧ i = n)) (h3 : ¬ (p = 50 ∧ i = 8)) (h4 : ¬ (p = 110 + b ∧ i = x)) : cb_n ν n b x p i = ν p i := by
  unfold cb_n br_n
  rw [mm_u_ne (by omega), mm_u_ne (by omega), mm_u_ne (by omega), nw_ne (by omega), nw_ne (by omega), nw_ne (by omega)]
theorem cbn_v (hn : 0 ≤ n ∧ n < 8) (hb : 0 ≤ b ∧ b < n) : cb_n ν n b x 50 8 = n + 1 ∧ cb_n ν n b x 51 n = 100 + n ∧ cb_n ν n b x (110 + b) x = 100 + n ∧ cb_n ν n b x (100 + n) 6 = 0 ∧ cb_n ν n b x (100 + n) 7 = 0 ∧ (∀ i, cb_n ν n b x (110 + n) i = -1) ∧ (∀ i, cb_n ν n b x (120 + n) i = -1) := by
  unfold cb_n br_n
  refine ⟨mm_u_at, ?_, ?_, ?_, ?_, fun i => ?_, fun i => ?_⟩
  · rw [mm_u_ne (by omega), mm_u_at]
  · rw [mm_u_ne (by omega), mm_u_ne (by omega), mm_u_at]
  · rw [mm_u_ne (by omega), mm_u_ne (by omega), mm_u_ne (by omega), nw_ne (by omega), nw_ne (by omega)]
    exact nw_at (by decide)
  · rw [mm_u_ne (by omega), mm_u_ne (by omega), mm_u_ne (by omega), nw_ne (by omega), nw_ne (by omega)]
    exact nw_at (by decide)
  · rw [mm_u_ne (by omega), mm_u_ne (by omega), mm_u_ne (by omega), nw_ne (by omega)]
    exact nw_af
  · rw [mm_u_ne (by omega), mm_u_ne (by omega), mm_u_ne (by omega)]
    exact nw_af
theorem R_br (hI : iv_I ρ f) (hR : pt_R s ν ρ f) (hb : 0 ≤ b ∧ b < ρ 0 1) (hx : 0 ≤ x ∧ x ≤ 3) (h1 : ρ 2 (4 * b + x) = -1) (h2 : ρ 0 1 ≠ 8) : pt_R (cb_s s (ρ 0 1) b l (f b)) (cb_n ν (ρ 0 1) b x) (mo_br ρ b x l) (bd_f ρ f b) := by
  have hA := hI.1
  have hT := hA.2.2.1
  have b1 := hA.1.1
  have b8 := hA.1.2.1
  have b12 := hA.1.2.2.1
  have b24 := hA.1.2.2.2.2.2.1
  have hR' : pt_R (cb_s s (ρ 0 1) b l (f b)) ν ρ f := R_s hA.1 (fun p i hp => by unfold us_d at hp; exact cbs_f (by omega) (by omega)) hR
  have sv := cbs_v (s := s) (n := ρ 0 1) (b := b) (l := l) (x := f b) (by omega) (by omega)
  have nv := cbn_v (ν := ν) (n := ρ 0 1) (b := b) (x := x) (by omega) hb
  have nf : ∀ p i, (p ≠ 100 + ρ 0 1 ∧ p ≠ 110 + ρ 0 1 ∧ p ≠ 120 + ρ 0 1) → ¬ (p = 51 ∧ i = ρ 0 1) → ¬ (p = 50 ∧ i = 8) → ¬ (p = 110 + b ∧ i = x) → cb_n ν (ρ 0 1) b x p i = ν p i := fun p i g1 g2 g3 g4 => cbn_f g1 g2 g3 g4
  have e0 : ∀ i, i ≠ 0 → i ≠ 1 → mo_br ρ b x l 0 i = ρ 0 i := fun i h1 h2 => br_0 ⟨h1, h2⟩
  have e1 : mo_br ρ b x l 0 1 = ρ 0 1 + 1 := br_1
  have e2 : ∀ i, mo_br ρ b x l 2 i = if i = 4 * b + x then ρ 0 1 else ρ 2 i := fun i => br_2
  have e3 : ∀ i, mo_br ρ b x l 3 i = if i = ρ 0 1 then b else ρ 3 i := fun i => br_3
  have e4 : ∀ i, mo_br ρ b x l 4 i = if i = ρ 0 1 then l else ρ 4 i := fun i => br_4
  have er : ∀ p, p ≠ 0 → p ≠ 2 → p ≠ 3 → p ≠ 4 → mo_br ρ b x l p = ρ p := fun p h1 h2 h3 h4 => br_p ⟨h1, h2, h3, h4⟩
  have z56 := hI.2.2.2.2.2.2.2.2.2.1.2.1 (ρ 0 1) (by omega) (by omega)
  have z2 := hI.2.2.2.2.2.2.2.2.2.1.1
  generalize mo_br ρ b x l = ρ' at *
  generalize cb_n ν (ρ 0 1) b x = ν' at *
  generalize cb_s s (ρ 0 1) b l (f b) = s' at *
  have q8 := e0 8 (by omega) (by omega)
  have q12 := e0 12 (by omega) (by omega)
  have q24 := e0 24 (by omega) (by omega)
  have r9 := er 9 (by omega) (by omega) (by omega) (by omega)
  have r13 := er 13 (by omega) (by omega) (by omega) (by omega)
  have r14 := er 14 (by omega) (by omega) (by omega) (by omega)
  have r15 := er 15 (by omega) (by omega) (by omega) (by omega)
  have r17 := er 17 (by omega) (by omega) (by omega) (by omega)
  have ew : ∀ c2, mo_wt ρ' c2 = mo_wt ρ c2 := fun c2 => mo_wt_c q24 (er 25 (by omega) (by omega) (by omega) (by omega)) (er 28 (by omega) (by omega) (by omega) (by omega)) c2
  refine ⟨hR'.sh, ?_, ?_, ?_, ?_, ?_, ?_, ?_, ?_, ?_, ?_, ?_, ?_, ?_⟩
  · intro u u0 u1
    rw [e1] at u1
    rw [e3, e4]
    unfold bd_f
    by_cases hu : u = ρ 0 1
    · rw [if_pos hu, if_pos hu, if_pos hu, if_neg (by omega), hu]
      exact sv
    · rw [if_neg hu, if_neg hu, if_neg hu]
      exact hR'.br u u0 (by omega)
  · intro u u0 u1
    rw [e1] at u1
    rw [er 5 (by omega) (by omega) (by omega) (by omega), er 6 (by omega) (by omega) (by omega) (by omega)]
    by_cases hu : u = ρ 0 1
    · rw [hu, z56.1, z56.2]
      exact ⟨nv.2.1, nv.2.2.2.1, nv.2.2.2.2.1⟩
    · rw [nf 51 u (by omega) (by omega) (by omega) (by omega), nf (100 + u) 6 (by omega) (by omega) (by omega) (by omega), nf (100 + u) 7 (by omega) (by omega) (by omega) (by omega)]
      exact hR.bn u u0 (by omega)
  · intro u i u0 u1 i0 i1
    rw [e1] at u1
    rw [e2]
    by_cases hu : u = ρ 0 1
    · rw [hu, nv.2.2.2.2.2.1, nv.2.2.2.2.2.2, if_neg (show ¬ (4 * ρ 0 1 + i = 4 * b + x) by omega), z2 (4 * ρ 0 1 + i) (by omega) (by omega), if_neg (show ¬ (0 ≤ (-1 : Int) ∧ (-1 : Int) < 100) by omega), if_neg (show ¬ (100 ≤ (-1 : Int)) by omega)]
      exact ⟨rfl, rfl⟩
    · obtain ⟨g1, g2⟩ := hR.sl u i u0 (by omega) i0 i1
      rw [nf (120 + u) i (by omega) (by omega) (by omega) (by omega)]
      by_cases hi : 4 * u + i = 4 * b + x
      · have hub : u = b := by omega
        have hix : i = x := by omega
        rw [if_pos hi, if_pos (by omega), if_neg (by omega), hub, hix]
        refine ⟨nv.2.2.1, ?_⟩
        rw [hub, hix, h1, if_neg (by omega)] at g2
        exact g2
      · rw [if_neg hi, nf (110 + u) i (by omega) (by omega) (by omega) (by omega)]
        exact ⟨g1, g2⟩
  · exact pt_Ty_c hR'.ty q8 (fun t _ _ => ⟨by rw [er 10 (by omega) (by omega) (by omega) (by omega)], by rw [er 11 (by omega) (by omega) (by omega) (by omega)]⟩)
  · exact pt_Tn_c hR.tn q8 r9 (fun t h1 h2 => ⟨nf _ _ (by omega) (by omega) (by omega) (by omega), fun k k0 k1 => ⟨nf _ _ (by omega) (by omega) (by omega) (by omega), nf _ _ (by omega) (by omega) (by omega) (by omega)⟩⟩)
  · exact pt_Ca_c hR'.ca q12 (fun c2 _ _ => ⟨by rw [r14], by rw [r13]⟩)
  · refine pt_Cn_c hR.cn q12 (fun c2 h1 h2 h3 => ?_)
    unfold pt_Cf at h3 ⊢
    rw [nf 53 c2 (by omega) (by omega) (by omega) (by omega), nf (300 + c2) 5 (by omega) (by omega) (by omega) (by omega), nf (300 + c2) 6 (by omega) (by omega) (by omega) (by omega), nf (300 + c2) 7 (by omega) (by omega) (by omega) (by omega), nf (300 + c2) 8 (by omega) (by omega) (by omega) (by omega), nf (300 + c2) 9 (by omega) (by omega) (by omega) (by omega), nf (300 + c2) 10 (by omega) (by omega) (by omega) (by omega), r15, er 16 (by omega) (by omega) (by omega) (by omega), er 19 (by omega) (by omega) (by omega) (by omega), er 20 (by omega) (by omega) (by omega) (by omega), ew]
    exact h3
  · exact pt_Cr_c hR.cr q12 r9 (fun c2 k h1 h2 h3 h4 => ⟨nf _ _ (by omega) (by omega) (by omega) (by omega), by rw [r13], fun h5 => by rw [r15] at h5; exact ⟨h5, by rw [r17]⟩⟩)
  · refine pt_Cs_c hR'.cs q12 (fun c2 g1 g2 g3 => ?_)
    rw [r15] at g3
    refine ⟨g3, by rw [r14], fun g4 => ?_⟩
    rw [e2, if_neg (fun h => by rw [h] at g4; omega)]
    exact g4
  · intro c2 i h1 h2 h3 h4
    rw [q12] at h2
    rw [ew] at h4
    rw [q24, nf (380 + c2) i (by omega) (by omega) (by omega) (by omega), mo_pd_c (er 25 (by omega) (by omega) (by omega) (by omega)) (er 28 (by omega) (by omega) (by omega) (by omega))]
    exact hR.q c2 i h1 h2 h3 h4
  · have hq := pt_Rq_c (ν := ν) (ν' := ν') hR'.rq q24 (fun t h1 h2 => ⟨by rw [er 26 (by omega) (by omega) (by omega) (by omega)], by rw [er 27 (by omega) (by omega) (by omega) (by omega)], fun h => by rw [nf _ _ (by omega) (by omega) (by omega) (by omega), er 28 (by omega) (by omega) (by omega) (by omega)]; exact h⟩)
    exact hq
  · exact pt_L_c hR'.li hA.1 q24 (nf _ _ (by omega) (by omega) (by omega) (by omega)) (nf _ _ (by omega) (by omega) (by omega) (by omega)) (fun p t hp => nf _ _ (by omega) (by omega) (by omega) (by omega))
  · obtain ⟨g1, g2, g3, g4, g5, g6⟩ := hR.z
    unfold pt_Z
    rw [nf 50 9 (by omega) (by omega) (by omega) (by omega), nf 50 10 (by omega) (by omega) (by omega) (by omega), nf 50 11 (by omega) (by omega) (by omega) (by omega), nf 50 12 (by omega) (by omega) (by omega) (by omega), nf 50 13 (by omega) (by omega) (by omega) (by omega), e1, q8, q12, e0 21 (by omega) (by omega), e0 22 (by omega) (by omega), e0 23 (by omega) (by omega)]
    exact ⟨nv.1, g2, g3, g4, g5, g6⟩
theorem un_br (hB : mo_B ρ) (h : un_r s ν ρ) (hb : 0 ≤ b ∧ b < ρ 0 1) (h2 : ρ 0 1 ≠ 8) : un_r (cb_s s (ρ 0 1) b l y) (cb_n ν (ρ 0 1) b x) (mo_br ρ b x l) := by
  have b1 := hB.1
  have b8 := hB.2.1
  have b12 := hB.2.2.1
  have b24 := hB.2.2.2.2.2.1
  obtain ⟨h1, h2, h3, h4, h5⟩ := h
  unfold un_r
  rw [br_1, br_0 (by omega), br_0 (by omega), br_0 (by omega)]
  refine ⟨fun b g1 g2 => ?_, fun b g1 g2 => ?_, fun b g1 g2 => ?_, fun b g1 g2 => ?_, fun b g1 g2 g3 => ?_⟩
  · rw [cbs_f (by omega) (by omega), cbs_f (by omega) (by omega), cbs_f (by omega) (by omega)]; exact h1 b (by omega) g2
  · rw [cbs_f (by omega) (by omega), cbs_f (by omega) (by omega), cbs_f (by omega) (by omega)]; exact h2 b g1 g2
  · rw [cbs_f (by omega) (by omega), cbs_f (by omega) (by omega), cbs_f (by omega) (by omega)]; exact h3 b g1 g2
  · rw [cbs_f (by omega) (by omega)]; exact h4 b g1 g2
  · rw [cbs_f (by omega) (by omega)]; exact h5 b g1 g2 g3
theorem ns_br (hB : mo_B ρ) : ns_r s (cb_s s (ρ 0 1) b l y) := by
  have b1 := hB.1
  have h := cbs_c (s := s) (n := ρ 0 1) (b := b) (l := l) (x := y) (by omega)
  exact ⟨fun p h0 h1 => by funext i; exact cbs_f h0 (by omega), by omega, by omega, by omega⟩
theorem lo_br (hB : mo_B ρ) (hb : 0 ≤ b) : lo_r ν (cb_n ν (ρ 0 1) b x) := fun p hp => by
  have b1 := hB.1
  funext i
  exact cbn_f (by omega) (by omega) (by omega) (by omega)
theorem cl_br (hI : iv_I ρ f) (hR : pt_R s ν ρ f) (hu : un_r s ν ρ) (hb : 0 ≤ b ∧ b < ρ 0 1) (hx : 0 ≤ x ∧ x ≤ 3) (hl : 0 ≤ l ∧ l ≤ 1000) (h1 : ρ 2 (4 * b + x) = -1) (h2 : ρ 0 1 ≠ 8) (h3 : f b ≠ 4) (h4 : ρ 0 21 < 0) : sw_w E (d + 2) 64 (0, [some (2, 50), some (0, b), some (0, x), some (0, l), none, none], []) s ν (sw_vs (fun r s' ν' => r = some (0, ρ 0 1) ∧ ns_r s s' ∧ pt_R s' ν' (mo_br ρ b x l) (bd_f ρ f b) ∧ un_r s' ν' (mo_br ρ b x l) ∧ lo_r ν ν')) := by
  have b1 := hI.1.1.1
  have b21 := hI.1.1.2.2.2.1
  have b12 := hI.1.1.2.2.1
  have hbr := hR.br b hb.1 hb.2
  have fb := f_0 hI.1.2.2.1 hb
  have hun := hu.1 (ρ 0 1) (by omega) (by omega)
  refine sw_p 2 (f' := (2, [some (2, 50), some (0, b), some (0, x), some (0, l), none, none], [(0, b), (2, 50)])) rfl ?_
  refine sw_cv1 (pn := 5) (q0 := mj_PT_bridge) (q := mj_PT_bridgeNumbered) (p := 50) (as2 := [(0, b)]) (L2 := [some (2, 50), some (0, b)]) (rest := []) (v := some (2, 100 + b)) (s1 := s) (ν1 := ν) rfl rfl rfl rfl rfl rfl rfl rfl rfl (hR.sh.1) (cl_bN1 hI.1 hR hb) ?_
  show sw_w E _ 64 (5, [some (2, 50), some (0, b), some (0, x), some (0, l), none, none], [(2, 100 + b)]) s ν _
  refine sw_p 2 (f' := (8, [some (2, 50), some (0, b), some (0, x), some (0, l), some (2, 100 + b), none], [(0, x)])) rfl ?_
  refine sw_cs1 (pn := 11) (q0 := mj_PT_bridge) (q := mj_PT_requireSlot) (L2 := [some (0, x)]) (rest := []) (v := none) (s1 := s) (ν1 := ν) rfl rfl rfl rfl rfl rfl rfl rfl (cl_rS1 hx) ?_
  show sw_w E _ 64 (11, [some (2, 50), some (0, b), some (0, x), some (0, l), some (2, 100 + b), none], []) s ν _
  refine sw_p 3 (f' := (16, [some (2, 50), some (0, b), some (0, x), some (0, l), some (2, 100 + b), none], [(0, 1000), (0, 0), (0, l)])) rfl ?_
  refine sw_cs1 (pn := 19) (q0 := mj_PT_bridge) (q := mj_PT_requireWithin) (L2 := [some (0, l), some (0, 0), some (0, 1000)]) (rest := []) (v := none) (s1 := s) (ν1 := ν) rfl rfl rfl rfl rfl rfl rfl rfl (pt_rw1 (by omega) (by omega) (by omega) (by omega)) ?_
  show sw_w E _ 64 (19, [some (2, 50), some (0, b), some (0, x), some (0, l), some (2, 100 + b), none], []) s ν _
  refine sw_p 2 (f' := (22, [some (2, 50), some (0, b), some (0, x), some (0, l), some (2, 100 + b), none], [(0, x), (2, 100 + b)])) rfl ?_
  refine sw_cv1 (pn := 25) (q0 := mj_PT_bridge) (q := mj_Br_isSlotEmpty) (p := 100 + b) (as2 := [(0, x)]) (L2 := [some (2, 100 + b), some (0, x)]) (rest := []) (v := some (0, 1)) (s1 := s) (ν1 := ν) rfl rfl rfl rfl rfl rfl rfl rfl rfl (hbr.1) (by have h := cl_se (E := E) (d := d + 1) hI.1 hR hb (i := x) (by omega); rw [if_pos h1] at h; exact h) ?_
  show sw_w E _ 64 (25, [some (2, 50), some (0, b), some (0, x), some (0, l), some (2, 100 + b), none], [(0, 1)]) s ν _
  refine sw_eq1 (pt := 53) (pn := 28) rfl rfl rfl (by omega) (fun h => absurd h (by decide)) (fun _ => ?_)
  refine sw_p 1 (f' := (29, [some (2, 50), some (0, b), some (0, x), some (0, l), some (2, 100 + b), none], [(2, 50)])) rfl ?_
  refine sw_gI (pn := 32) (i := 8) rfl rfl rfl rfl rfl (by omega) (hR.sh.1) ?_
  rw [show ν 50 8 = ρ 0 1 from hR.z.1]
  refine sw_p 1 (f' := (34, [some (2, 50), some (0, b), some (0, x), some (0, l), some (2, 100 + b), none], [(0, 8), (0, ρ 0 1)])) rfl ?_
  refine sw_eq2 (pt := 53) (pn := 37) rfl rfl rfl (by omega) (by omega) (fun h => absurd h (by omega)) (fun h2 => ?_)
  refine sw_p 1 (f' := (39, [some (2, 50), some (0, b), some (0, x), some (0, l), some (2, 100 + b), none], [(2, 100 + b)])) rfl ?_
  refine sw_hI (pn := 42) (i := 3) (v := f b) rfl rfl rfl rfl rfl (hbr.1) (hbr.2.2.2.2.1) ?_
  refine sw_p 1 (f' := (43, [some (2, 50), some (0, b), some (0, x), some (0, l), some (2, 100 + b), none], [(0, 4), (0, f b)])) rfl ?_
  refine sw_eq2 (pt := 53) (pn := 46) rfl rfl rfl (by omega) (by omega) (fun h => absurd h (by omega)) (fun h3 => ?_)
  refine sw_p 1 (f' := (47, [some (2, 50), some (0, b), some (0, x), some (0, l), some (2, 100 + b), none], [(2, 50)])) rfl ?_
  refine sw_gA (pn := 50) (i := 11) rfl rfl rfl rfl rfl (by omega) (hR.sh.1) (fun h => absurd h (by rw [show ν 50 11 = -1 from ((hR.z.2.2.2.1).trans (if_pos (by omega)))]; omega)) (fun _ => ?_)
  refine sw_p 1 (f' := (61, [some (2, 50), some (0, b), some (0, x), some (0, l), some (2, 100 + b), none], [])) rfl ?_
  refine sw_new (pn := 64) (k := 101) (sz := 9) (100 + ρ 0 1) rfl rfl rfl rfl rfl rfl (by omega) hun.1 ?_
  refine sw_p 2 (f' := (66, [some (2, 50), some (0, b), some (0, x), some (0, l), some (2, 100 + b), none], [(2, 50), (2, 100 + ρ 0 1), (2, 100 + ρ 0 1)])) rfl ?_
  refine sw_gI (pn := 69) (i := 8) rfl rfl rfl rfl rfl (by omega) ((al_ne (by omega) (by omega)).trans (hR.sh.1)) ?_
  rw [show (sw_nw ν (100 + ρ 0 1) (mm_z 1)) 50 8 = ρ 0 1 from (nw_ne (by omega)).trans (hR.z.1)]
  refine sw_p 2 (f' := (72, [some (2, 50), some (0, b), some (0, x), some (0, l), some (2, 100 + b), none], [(0, l), (2, 100 + b), (0, ρ 0 1), (2, 100 + ρ 0 1), (2, 100 + ρ 0 1)])) rfl ?_
  refine sw_ci1 (pn := 75) (q0 := mj_PT_bridge) (q := mj_Br_init) (p := 100 + ρ 0 1) (as2 := [(0, ρ 0 1), (2, 100 + b), (0, l)]) (L2 := [some (2, 100 + ρ 0 1), some (0, ρ 0 1), some (2, 100 + b), some (0, l)]) (rest := [(2, 100 + ρ 0 1)]) (v := none) (s1 := (mm_u (mm_u (mm_u (mm_u (mm_u (nm_al (mm_u (nm_al (nm_al s (100 + ρ 0 1) 101 0 9 (mm_z 1)) (110 + ρ 0 1) 3 4 4 (fun _ => -1)) (100 + ρ 0 1) 4 (110 + ρ 0 1)) (120 + ρ 0 1) 5 4 4 (fun _ => -1)) (100 + ρ 0 1) 5 (120 + ρ 0 1)) (100 + ρ 0 1) 0 (ρ 0 1)) (100 + ρ 0 1) 1 (100 + b)) (100 + ρ 0 1) 2 l) (100 + ρ 0 1) 3 (f b + 1))) (ν1 := (sw_nw (sw_nw (sw_nw ν (100 + ρ 0 1) (mm_z 1)) (110 + ρ 0 1) (fun _ => -1)) (120 + ρ 0 1) (fun _ => -1))) rfl rfl rfl rfl rfl rfl rfl rfl rfl (br_i1 (al_k (by omega)) (by rw [al_ne (by omega) (by omega)]; exact hun.2.1) (by rw [al_ne (by omega) (by omega)]; exact hun.2.2) (by omega) (by omega) ((al_ne (by omega) (by omega)).trans hbr.1) (by omega) ((al_ne (by omega) (by omega)).trans hbr.2.2.2.2.1)) ?_
  show sw_w E _ 64 (75, [some (2, 50), some (0, b), some (0, x), some (0, l), some (2, 100 + b), none], [(2, 100 + ρ 0 1)]) (mm_u (mm_u (mm_u (mm_u (mm_u (nm_al (mm_u (nm_al (nm_al s (100 + ρ 0 1) 101 0 9 (mm_z 1)) (110 + ρ 0 1) 3 4 4 (fun _ => -1)) (100 + ρ 0 1) 4 (110 + ρ 0 1)) (120 + ρ 0 1) 5 4 4 (fun _ => -1)) (100 + ρ 0 1) 5 (120 + ρ 0 1)) (100 + ρ 0 1) 0 (ρ 0 1)) (100 + ρ 0 1) 1 (100 + b)) (100 + ρ 0 1) 2 l) (100 + ρ 0 1) 3 (f b + 1)) (sw_nw (sw_nw (sw_nw ν (100 + ρ 0 1) (mm_z 1)) (110 + ρ 0 1) (fun _ => -1)) (120 + ρ 0 1) (fun _ => -1)) _
  refine sw_p 2 (f' := (79, [some (2, 50), some (0, b), some (0, x), some (0, l), some (2, 100 + b), some (2, 100 + ρ 0 1)], [(2, 100 + b)])) rfl ?_
  refine sw_hA (pn := 82) (i := 4) (v := 110 + b) rfl rfl rfl rfl rfl ((mm_u_ne (by omega)).trans ((mm_u_ne (by omega)).trans ((mm_u_ne (by omega)).trans ((mm_u_ne (by omega)).trans ((mm_u_ne (by omega)).trans ((al_ne (by omega) (by omega)).trans ((mm_u_ne (by omega)).trans ((al_ne (by omega) (by omega)).trans ((al_ne (by omega) (by omega)).trans (hbr.1)))))))))) ((mm_u_ne (by omega)).trans ((mm_u_ne (by omega)).trans ((mm_u_ne (by omega)).trans ((mm_u_ne (by omega)).trans ((mm_u_ne (by omega)).trans ((al_ne (by omega) (by omega)).trans ((mm_u_ne (by omega)).trans ((al_ne (by omega) (by omega)).trans ((al_ne (by omega) (by omega)).trans (hbr.2.2.2.2.2.1.1)))))))))) (by omega) ?_
  refine sw_p 2 (f' := (85, [some (2, 50), some (0, b), some (0, x), some (0, l), some (2, 100 + b), some (2, 100 + ρ 0 1)], [(2, 100 + ρ 0 1), (0, x), (2, 110 + b)])) rfl ?_
  refine sw_aas (pn := 86) (t := 3) (c := 1) (l := 4) rfl rfl rfl (by decide) (by decide) ((mm_u_ne (by omega)).trans ((mm_u_ne (by omega)).trans ((mm_u_ne (by omega)).trans ((mm_u_ne (by omega)).trans ((mm_u_ne (by omega)).trans ((al_ne (by omega) (by omega)).trans ((mm_u_ne (by omega)).trans ((al_ne (by omega) (by omega)).trans (al_k (by omega)))))))))) (by omega) ((mm_u_ne (by omega)).trans ((mm_u_ne (by omega)).trans ((mm_u_ne (by omega)).trans ((mm_u_ne (by omega)).trans ((mm_u_ne (by omega)).trans ((al_ne (by omega) (by omega)).trans ((mm_u_ne (by omega)).trans ((al_ne (by omega) (by omega)).trans ((al_ne (by omega) (by omega)).trans (hbr.2.2.2.2.2.1.2.1)))))))))) ((mm_u_ne (by omega)).trans ((mm_u_ne (by omega)).trans ((mm_u_ne (by omega)).trans ((mm_u_ne (by omega)).trans ((mm_u_ne (by omega)).trans ((al_ne (by omega) (by omega)).trans ((mm_u_ne (by omega)).trans ((al_ne (by omega) (by omega)).trans ((al_ne (by omega) (by omega)).trans (hbr.2.2.2.2.2.1.2.2)))))))))) (by omega) (by omega) ?_
  refine sw_p 1 (f' := (87, [some (2, 50), some (0, b), some (0, x), some (0, l), some (2, 100 + b), some (2, 100 + ρ 0 1)], [(2, 50)])) rfl ?_
  refine sw_hA (pn := 90) (i := 0) (v := 51) rfl rfl rfl rfl rfl ((mm_u_ne (by omega)).trans ((mm_u_ne (by omega)).trans ((mm_u_ne (by omega)).trans ((mm_u_ne (by omega)).trans ((mm_u_ne (by omega)).trans ((al_ne (by omega) (by omega)).trans ((mm_u_ne (by omega)).trans ((al_ne (by omega) (by omega)).trans ((al_ne (by omega) (by omega)).trans (hR.sh.1)))))))))) ((mm_u_ne (by omega)).trans ((mm_u_ne (by omega)).trans ((mm_u_ne (by omega)).trans ((mm_u_ne (by omega)).trans ((mm_u_ne (by omega)).trans ((al_ne (by omega) (by omega)).trans ((mm_u_ne (by omega)).trans ((al_ne (by omega) (by omega)).trans ((al_ne (by omega) (by omega)).trans (hR.sh.2.1.1)))))))))) (by omega) ?_
  refine sw_p 1 (f' := (91, [some (2, 50), some (0, b), some (0, x), some (0, l), some (2, 100 + b), some (2, 100 + ρ 0 1)], [(2, 50), (2, 51)])) rfl ?_
  refine sw_gI (pn := 94) (i := 8) rfl rfl rfl rfl rfl (by omega) ((mm_u_ne (by omega)).trans ((mm_u_ne (by omega)).trans ((mm_u_ne (by omega)).trans ((mm_u_ne (by omega)).trans ((mm_u_ne (by omega)).trans ((al_ne (by omega) (by omega)).trans ((mm_u_ne (by omega)).trans ((al_ne (by omega) (by omega)).trans ((al_ne (by omega) (by omega)).trans (hR.sh.1)))))))))) ?_
  rw [show (mm_u (sw_nw (sw_nw (sw_nw ν (100 + ρ 0 1) (mm_z 1)) (110 + ρ 0 1) (fun _ => -1)) (120 + ρ 0 1) (fun _ => -1)) (110 + b) x (100 + ρ 0 1)) 50 8 = ρ 0 1 from (mm_u_ne (by omega)).trans ((nw_ne (by omega)).trans ((nw_ne (by omega)).trans ((nw_ne (by omega)).trans (hR.z.1))))]
  refine sw_p 1 (f' := (96, [some (2, 50), some (0, b), some (0, x), some (0, l), some (2, 100 + b), some (2, 100 + ρ 0 1)], [(2, 100 + ρ 0 1), (0, ρ 0 1), (2, 51)])) rfl ?_
  refine sw_aas (pn := 97) (t := 3) (c := 1) (l := 8) rfl rfl rfl (by decide) (by decide) ((mm_u_ne (by omega)).trans ((mm_u_ne (by omega)).trans ((mm_u_ne (by omega)).trans ((mm_u_ne (by omega)).trans ((mm_u_ne (by omega)).trans ((al_ne (by omega) (by omega)).trans ((mm_u_ne (by omega)).trans ((al_ne (by omega) (by omega)).trans (al_k (by omega)))))))))) (by omega) ((mm_u_ne (by omega)).trans ((mm_u_ne (by omega)).trans ((mm_u_ne (by omega)).trans ((mm_u_ne (by omega)).trans ((mm_u_ne (by omega)).trans ((al_ne (by omega) (by omega)).trans ((mm_u_ne (by omega)).trans ((al_ne (by omega) (by omega)).trans ((al_ne (by omega) (by omega)).trans (hR.sh.2.1.2.1)))))))))) ((mm_u_ne (by omega)).trans ((mm_u_ne (by omega)).trans ((mm_u_ne (by omega)).trans ((mm_u_ne (by omega)).trans ((mm_u_ne (by omega)).trans ((al_ne (by omega) (by omega)).trans ((mm_u_ne (by omega)).trans ((al_ne (by omega) (by omega)).trans ((al_ne (by omega) (by omega)).trans (hR.sh.2.1.2.2)))))))))) (by omega) (by omega) ?_
  refine sw_p 2 (f' := (99, [some (2, 50), some (0, b), some (0, x), some (0, l), some (2, 100 + b), some (2, 100 + ρ 0 1)], [(2, 50), (2, 50)])) rfl ?_
  refine sw_gI (pn := 102) (i := 8) rfl rfl rfl rfl rfl (by omega) ((mm_u_ne (by omega)).trans ((mm_u_ne (by omega)).trans ((mm_u_ne (by omega)).trans ((mm_u_ne (by omega)).trans ((mm_u_ne (by omega)).trans ((al_ne (by omega) (by omega)).trans ((mm_u_ne (by omega)).trans ((al_ne (by omega) (by omega)).trans ((al_ne (by omega) (by omega)).trans (hR.sh.1)))))))))) ?_
  rw [show (mm_u (mm_u (sw_nw (sw_nw (sw_nw ν (100 + ρ 0 1) (mm_z 1)) (110 + ρ 0 1) (fun _ => -1)) (120 + ρ 0 1) (fun _ => -1)) (110 + b) x (100 + ρ 0 1)) 51 (ρ 0 1) (100 + ρ 0 1)) 50 8 = ρ 0 1 from (mm_u_ne (by omega)).trans ((mm_u_ne (by omega)).trans ((nw_ne (by omega)).trans ((nw_ne (by omega)).trans ((nw_ne (by omega)).trans (hR.z.1)))))]
  refine sw_p 3 (f' := (105, [some (2, 50), some (0, b), some (0, x), some (0, l), some (2, 100 + b), some (2, 100 + ρ 0 1)], [(0, (ρ 0 1) + 1), (2, 50), (0, ρ 0 1)])) rfl ?_
  refine sw_pI (pn := 108) (i := 8) rfl rfl rfl rfl rfl (by omega) ((mm_u_ne (by omega)).trans ((mm_u_ne (by omega)).trans ((mm_u_ne (by omega)).trans ((mm_u_ne (by omega)).trans ((mm_u_ne (by omega)).trans ((al_ne (by omega) (by omega)).trans ((mm_u_ne (by omega)).trans ((al_ne (by omega) (by omega)).trans ((al_ne (by omega) (by omega)).trans (hR.sh.1)))))))))) ?_
  exact sw_retI rfl rfl rfl ⟨_, rfl, rfl, ns_br hI.1.1, R_br hI hR hb hx h1 h2, un_br hI.1.1 hu hb h2, lo_br hI.1.1 hb.1⟩
theorem cl_br_s1 (hI : iv_I ρ f) (hR : pt_R s ν ρ f) (hb : 0 ≤ b ∧ b < ρ 0 1) (hx : 0 ≤ x ∧ x ≤ 3) (hl : 0 ≤ l ∧ l ≤ 1000) (h1 : ρ 2 (4 * b + x) ≠ -1) (hd : 5 ≤ d) : sw_w E (d + 2) 64 (0, [some (2, 50), some (0, b), some (0, x), some (0, l), none, none], []) s ν (sw_ex 9 s ν) := by
  have b1 := hI.1.1.1
  have b21 := hI.1.1.2.2.2.1
  have b12 := hI.1.1.2.2.1
  have hbr := hR.br b hb.1 hb.2
  have fb := f_0 hI.1.2.2.1 hb
  refine sw_p 2 (f' := (2, [some (2, 50), some (0, b), some (0, x), some (0, l), none, none], [(0, b), (2, 50)])) rfl ?_
  refine sw_cv1 (pn := 5) (q0 := mj_PT_bridge) (q := mj_PT_bridgeNumbered) (p := 50) (as2 := [(0, b)]) (L2 := [some (2, 50), some (0, b)]) (rest := []) (v := some (2, 100 + b)) (s1 := s) (ν1 := ν) rfl rfl rfl rfl rfl rfl rfl rfl rfl (hR.sh.1) (cl_bN1 hI.1 hR hb) ?_
  show sw_w E _ 64 (5, [some (2, 50), some (0, b), some (0, x), some (0, l), none, none], [(2, 100 + b)]) s ν _
  refine sw_p 2 (f' := (8, [some (2, 50), some (0, b), some (0, x), some (0, l), some (2, 100 + b), none], [(0, x)])) rfl ?_
  refine sw_cs1 (pn := 11) (q0 := mj_PT_bridge) (q := mj_PT_requireSlot) (L2 := [some (0, x)]) (rest := []) (v := none) (s1 := s) (ν1 := ν) rfl rfl rfl rfl rfl rfl rfl rfl (cl_rS1 hx) ?_
  show sw_w E _ 64 (11, [some (2, 50), some (0, b), some (0, x), some (0, l), some (2, 100 + b), none], []) s ν _
  refine sw_p 3 (f' := (16, [some (2, 50), some (0, b), some (0, x), some (0, l), some (2, 100 + b), none], [(0, 1000), (0, 0), (0, l)])) rfl ?_
  refine sw_cs1 (pn := 19) (q0 := mj_PT_bridge) (q := mj_PT_requireWithin) (L2 := [some (0, l), some (0, 0), some (0, 1000)]) (rest := []) (v := none) (s1 := s) (ν1 := ν) rfl rfl rfl rfl rfl rfl rfl rfl (pt_rw1 (by omega) (by omega) (by omega) (by omega)) ?_
  show sw_w E _ 64 (19, [some (2, 50), some (0, b), some (0, x), some (0, l), some (2, 100 + b), none], []) s ν _
  refine sw_p 2 (f' := (22, [some (2, 50), some (0, b), some (0, x), some (0, l), some (2, 100 + b), none], [(0, x), (2, 100 + b)])) rfl ?_
  refine sw_cv1 (pn := 25) (q0 := mj_PT_bridge) (q := mj_Br_isSlotEmpty) (p := 100 + b) (as2 := [(0, x)]) (L2 := [some (2, 100 + b), some (0, x)]) (rest := []) (v := some (0, 0)) (s1 := s) (ν1 := ν) rfl rfl rfl rfl rfl rfl rfl rfl rfl (hbr.1) (by have h := cl_se (E := E) (d := d + 1) hI.1 hR hb (i := x) (by omega); rw [if_neg h1] at h; exact h) ?_
  show sw_w E _ 64 (25, [some (2, 50), some (0, b), some (0, x), some (0, l), some (2, 100 + b), none], [(0, 0)]) s ν _
  refine sw_eq1 (pt := 53) (pn := 28) rfl rfl rfl (by omega) (fun _ => ?_) (fun h => absurd h (by decide))
  exact sw_thr rfl rfl rfl rfl rfl (by omega) ⟨rfl, rfl, rfl⟩
theorem cl_br_s2 (hI : iv_I ρ f) (hR : pt_R s ν ρ f) (hb : 0 ≤ b ∧ b < ρ 0 1) (hx : 0 ≤ x ∧ x ≤ 3) (hl : 0 ≤ l ∧ l ≤ 1000) (h1 : ρ 2 (4 * b + x) = -1) (h2 : ρ 0 1 = 8) (hd : 5 ≤ d) : sw_w E (d + 2) 64 (0, [some (2, 50), some (0, b), some (0, x), some (0, l), none, none], []) s ν (sw_ex 9 s ν) := by
  have b1 := hI.1.1.1
  have b21 := hI.1.1.2.2.2.1
  have b12 := hI.1.1.2.2.1
  have hbr := hR.br b hb.1 hb.2
  have fb := f_0 hI.1.2.2.1 hb
  refine sw_p 2 (f' := (2, [some (2, 50), some (0, b), some (0, x), some (0, l), none, none], [(0, b), (2, 50)])) rfl ?_
  refine sw_cv1 (pn := 5) (q0 := mj_PT_bridge) (q := mj_PT_bridgeNumbered) (p := 50) (as2 := [(0, b)]) (L2 := [some (2, 50), some (0, b)]) (rest := []) (v := some (2, 100 + b)) (s1 := s) (ν1 := ν) rfl rfl rfl rfl rfl rfl rfl rfl rfl (hR.sh.1) (cl_bN1 hI.1 hR hb) ?_
  show sw_w E _ 64 (5, [some (2, 50), some (0, b), some (0, x), some (0, l), none, none], [(2, 100 + b)]) s ν _
  refine sw_p 2 (f' := (8, [some (2, 50), some (0, b), some (0, x), some (0, l), some (2, 100 + b), none], [(0, x)])) rfl ?_
  refine sw_cs1 (pn := 11) (q0 := mj_PT_bridge) (q := mj_PT_requireSlot) (L2 := [some (0, x)]) (rest := []) (v := none) (s1 := s) (ν1 := ν) rfl rfl rfl rfl rfl rfl rfl rfl (cl_rS1 hx) ?_
  show sw_w E _ 64 (11, [some (2, 50), some (0, b), some (0, x), some (0, l), some (2, 100 + b), none], []) s ν _
  refine sw_p 3 (f' := (16, [some (2, 50), some (0, b), some (0, x), some (0, l), some (2, 100 + b), none], [(0, 1000), (0, 0), (0, l)])) rfl ?_
  refine sw_cs1 (pn := 19) (q0 := mj_PT_bridge) (q := mj_PT_requireWithin) (L2 := [some (0, l), some (0, 0), some (0, 1000)]) (rest := []) (v := none) (s1 := s) (ν1 := ν) rfl rfl rfl rfl rfl rfl rfl rfl (pt_rw1 (by omega) (by omega) (by omega) (by omega)) ?_
  show sw_w E _ 64 (19, [some (2, 50), some (0, b), some (0, x), some (0, l), some (2, 100 + b), none], []) s ν _
  refine sw_p 2 (f' := (22, [some (2, 50), some (0, b), some (0, x), some (0, l), some (2, 100 + b), none], [(0, x), (2, 100 + b)])) rfl ?_
  refine sw_cv1 (pn := 25) (q0 := mj_PT_bridge) (q := mj_Br_isSlotEmpty) (p := 100 + b) (as2 := [(0, x)]) (L2 := [some (2, 100 + b), some (0, x)]) (rest := []) (v := some (0, 1)) (s1 := s) (ν1 := ν) rfl rfl rfl rfl rfl rfl rfl rfl rfl (hbr.1) (by have h := cl_se (E := E) (d := d + 1) hI.1 hR hb (i := x) (by omega); rw [if_pos h1] at h; exact h) ?_
  show sw_w E _ 64 (25, [some (2, 50), some (0, b), some (0, x), some (0, l), some (2, 100 + b), none], [(0, 1)]) s ν _
  refine sw_eq1 (pt := 53) (pn := 28) rfl rfl rfl (by omega) (fun h => absurd h (by decide)) (fun _ => ?_)
  refine sw_p 1 (f' := (29, [some (2, 50), some (0, b), some (0, x), some (0, l), some (2, 100 + b), none], [(2, 50)])) rfl ?_
  refine sw_gI (pn := 32) (i := 8) rfl rfl rfl rfl rfl (by omega) (hR.sh.1) ?_
  rw [show ν 50 8 = ρ 0 1 from hR.z.1]
  refine sw_p 1 (f' := (34, [some (2, 50), some (0, b), some (0, x), some (0, l), some (2, 100 + b), none], [(0, 8), (0, ρ 0 1)])) rfl ?_
  refine sw_eq2 (pt := 53) (pn := 37) rfl rfl rfl (by omega) (by omega) (fun h2 => ?_) (fun h => absurd h (by omega))
  exact sw_thr rfl rfl rfl rfl rfl (by omega) ⟨rfl, rfl, rfl⟩
theorem cl_br_s3 (hI : iv_I ρ f) (hR : pt_R s ν ρ f) (hb : 0 ≤ b ∧ b < ρ 0 1) (hx : 0 ≤ x ∧ x ≤ 3) (hl : 0 ≤ l ∧ l ≤ 1000) (h1 : ρ 2 (4 * b + x) = -1) (h2 : ρ 0 1 ≠ 8) (h3 : f b = 4) (hd : 5 ≤ d) : sw_w E (d + 2) 64 (0, [some (2, 50), some (0, b), some (0, x), some (0, l), none, none], []) s ν (sw_ex 9 s ν) := by
  have b1 := hI.1.1.1
  have b21 := hI.1.1.2.2.2.1
  have b12 := hI.1.1.2.2.1
  have hbr := hR.br b hb.1 hb.2
  have fb := f_0 hI.1.2.2.1 hb
  refine sw_p 2 (f' := (2, [some (2, 50), some (0, b), some (0, x), some (0, l), none, none], [(0, b), (2, 50)])) rfl ?_
  refine sw_cv1 (pn := 5) (q0 := mj_PT_bridge) (q := mj_PT_bridgeNumbered) (p := 50) (as2 := [(0, b)]) (L2 := [some (2, 50), some (0, b)]) (rest := []) (v := some (2, 100 + b)) (s1 := s) (ν1 := ν) rfl rfl rfl rfl rfl rfl rfl rfl rfl (hR.sh.1) (cl_bN1 hI.1 hR hb) ?_
  show sw_w E _ 64 (5, [some (2, 50), some (0, b), some (0, x), some (0, l), none, none], [(2, 100 + b)]) s ν _
  refine sw_p 2 (f' := (8, [some (2, 50), some (0, b), some (0, x), some (0, l), some (2, 100 + b), none], [(0, x)])) rfl ?_
  refine sw_cs1 (pn := 11) (q0 := mj_PT_bridge) (q := mj_PT_requireSlot) (L2 := [some (0, x)]) (rest := []) (v := none) (s1 := s) (ν1 := ν) rfl rfl rfl rfl rfl rfl rfl rfl (cl_rS1 hx) ?_
  show sw_w E _ 64 (11, [some (2, 50), some (0, b), some (0, x), some (0, l), some (2, 100 + b), none], []) s ν _
  refine sw_p 3 (f' := (16, [some (2, 50), some (0, b), some (0, x), some (0, l), some (2, 100 + b), none], [(0, 1000), (0, 0), (0, l)])) rfl ?_
  refine sw_cs1 (pn := 19) (q0 := mj_PT_bridge) (q := mj_PT_requireWithin) (L2 := [some (0, l), some (0, 0), some (0, 1000)]) (rest := []) (v := none) (s1 := s) (ν1 := ν) rfl rfl rfl rfl rfl rfl rfl rfl (pt_rw1 (by omega) (by omega) (by omega) (by omega)) ?_
  show sw_w E _ 64 (19, [some (2, 50), some (0, b), some (0, x), some (0, l), some (2, 100 + b), none], []) s ν _
  refine sw_p 2 (f' := (22, [some (2, 50), some (0, b), some (0, x), some (0, l), some (2, 100 + b), none], [(0, x), (2, 100 + b)])) rfl ?_
  refine sw_cv1 (pn := 25) (q0 := mj_PT_bridge) (q := mj_Br_isSlotEmpty) (p := 100 + b) (as2 := [(0, x)]) (L2 := [some (2, 100 + b), some (0, x)]) (rest := []) (v := some (0, 1)) (s1 := s) (ν1 := ν) rfl rfl rfl rfl rfl rfl rfl rfl rfl (hbr.1) (by have h := cl_se (E := E) (d := d + 1) hI.1 hR hb (i := x) (by omega); rw [if_pos h1] at h; exact h) ?_
  show sw_w E _ 64 (25, [some (2, 50), some (0, b), some (0, x), some (0, l), some (2, 100 + b), none], [(0, 1)]) s ν _
  refine sw_eq1 (pt := 53) (pn := 28) rfl rfl rfl (by omega) (fun h => absurd h (by decide)) (fun _ => ?_)
  refine sw_p 1 (f' := (29, [some (2, 50), some (0, b), some (0, x), some (0, l), some (2, 100 + b), none], [(2, 50)])) rfl ?_
  refine sw_gI (pn := 32) (i := 8) rfl rfl rfl rfl rfl (by omega) (hR.sh.1) ?_
  rw [show ν 50 8 = ρ 0 1 from hR.z.1]
  refine sw_p 1 (f' := (34, [some (2, 50), some (0, b), some (0, x), some (0, l), some (2, 100 + b), none], [(0, 8), (0, ρ 0 1)])) rfl ?_
  refine sw_eq2 (pt := 53) (pn := 37) rfl rfl rfl (by omega) (by omega) (fun h => absurd h (by omega)) (fun h2 => ?_)
  refine sw_p 1 (f' := (39, [some (2, 50), some (0, b), some (0, x), some (0, l), some (2, 100 + b), none], [(2, 100 + b)])) rfl ?_
  refine sw_hI (pn := 42) (i := 3) (v := f b) rfl rfl rfl rfl rfl (hbr.1) (hbr.2.2.2.2.1) ?_
  refine sw_p 1 (f' := (43, [some (2, 50), some (0, b), some (0, x), some (0, l), some (2, 100 + b), none], [(0, 4), (0, f b)])) rfl ?_
  refine sw_eq2 (pt := 53) (pn := 46) rfl rfl rfl (by omega) (by omega) (fun h3 => ?_) (fun h => absurd h (by omega))
  exact sw_thr rfl rfl rfl rfl rfl (by omega) ⟨rfl, rfl, rfl⟩
theorem cl_br_s4 (hI : iv_I ρ f) (hR : pt_R s ν ρ f) (hb : 0 ≤ b ∧ b < ρ 0 1) (hx : 0 ≤ x ∧ x ≤ 3) (hl : 0 ≤ l ∧ l ≤ 1000) (h1 : ρ 2 (4 * b + x) = -1) (h2 : ρ 0 1 ≠ 8) (h3 : f b ≠ 4) (h4 : 0 ≤ ρ 0 21) (hd : 5 ≤ d) : sw_w E (d + 2) 64 (0, [some (2, 50), some (0, b), some (0, x), some (0, l), none, none], []) s ν (sw_ex 9 s ν) := by
  have b1 := hI.1.1.1
  have b21 := hI.1.1.2.2.2.1
  have b12 := hI.1.1.2.2.1
  have hbr := hR.br b hb.1 hb.2
  have fb := f_0 hI.1.2.2.1 hb
  refine sw_p 2 (f' := (2, [some (2, 50), some (0, b), some (0, x), some (0, l), none, none], [(0, b), (2, 50)])) rfl ?_
  refine sw_cv1 (pn := 5) (q0 := mj_PT_bridge) (q := mj_PT_bridgeNumbered) (p := 50) (as2 := [(0, b)]) (L2 := [some (2, 50), some (0, b)]) (rest := []) (v := some (2, 100 + b)) (s1 := s) (ν1 := ν) rfl rfl rfl rfl rfl rfl rfl rfl rfl (hR.sh.1) (cl_bN1 hI.1 hR hb) ?_
  show sw_w E _ 64 (5, [some (2, 50), some (0, b), some (0, x), some (0, l), none, none], [(2, 100 + b)]) s ν _
  refine sw_p 2 (f' := (8, [some (2, 50), some (0, b), some (0, x), some (0, l), some (2, 100 + b), none], [(0, x)])) rfl ?_
  refine sw_cs1 (pn := 11) (q0 := mj_PT_bridge) (q := mj_PT_requireSlot) (L2 := [some (0, x)]) (rest := []) (v := none) (s1 := s) (ν1 := ν) rfl rfl rfl rfl rfl rfl rfl rfl (cl_rS1 hx) ?_
  show sw_w E _ 64 (11, [some (2, 50), some (0, b), some (0, x), some (0, l), some (2, 100 + b), none], []) s ν _
  refine sw_p 3 (f' := (16, [some (2, 50), some (0, b), some (0, x), some (0, l), some (2, 100 + b), none], [(0, 1000), (0, 0), (0, l)])) rfl ?_
  refine sw_cs1 (pn := 19) (q0 := mj_PT_bridge) (q := mj_PT_requireWithin) (L2 := [some (0, l), some (0, 0), some (0, 1000)]) (rest := []) (v := none) (s1 := s) (ν1 := ν) rfl rfl rfl rfl rfl rfl rfl rfl (pt_rw1 (by omega) (by omega) (by omega) (by omega)) ?_
  show sw_w E _ 64 (19, [some (2, 50), some (0, b), some (0, x), some (0, l), some (2, 100 + b), none], []) s ν _
  refine sw_p 2 (f' := (22, [some (2, 50), some (0, b), some (0, x), some (0, l), some (2, 100 + b), none], [(0, x), (2, 100 + b)])) rfl ?_
  refine sw_cv1 (pn := 25) (q0 := mj_PT_bridge) (q := mj_Br_isSlotEmpty) (p := 100 + b) (as2 := [(0, x)]) (L2 := [some (2, 100 + b), some (0, x)]) (rest := []) (v := some (0, 1)) (s1 := s) (ν1 := ν) rfl rfl rfl rfl rfl rfl rfl rfl rfl (hbr.1) (by have h := cl_se (E := E) (d := d + 1) hI.1 hR hb (i := x) (by omega); rw [if_pos h1] at h; exact h) ?_
  show sw_w E _ 64 (25, [some (2, 50), some (0, b), some (0, x), some (0, l), some (2, 100 + b), none], [(0, 1)]) s ν _
  refine sw_eq1 (pt := 53) (pn := 28) rfl rfl rfl (by omega) (fun h => absurd h (by decide)) (fun _ => ?_)
  refine sw_p 1 (f' := (29, [some (2, 50), some (0, b), some (0, x), some (0, l), some (2, 100 + b), none], [(2, 50)])) rfl ?_
  refine sw_gI (pn := 32) (i := 8) rfl rfl rfl rfl rfl (by omega) (hR.sh.1) ?_
  rw [show ν 50 8 = ρ 0 1 from hR.z.1]
  refine sw_p 1 (f' := (34, [some (2, 50), some (0, b), some (0, x), some (0, l), some (2, 100 + b), none], [(0, 8), (0, ρ 0 1)])) rfl ?_
  refine sw_eq2 (pt := 53) (pn := 37) rfl rfl rfl (by omega) (by omega) (fun h => absurd h (by omega)) (fun h2 => ?_)
  refine sw_p 1 (f' := (39, [some (2, 50), some (0, b), some (0, x), some (0, l), some (2, 100 + b), none], [(2, 100 + b)])) rfl ?_
  refine sw_hI (pn := 42) (i := 3) (v := f b) rfl rfl rfl rfl rfl (hbr.1) (hbr.2.2.2.2.1) ?_
  refine sw_p 1 (f' := (43, [some (2, 50), some (0, b), some (0, x), some (0, l), some (2, 100 + b), none], [(0, 4), (0, f b)])) rfl ?_
  refine sw_eq2 (pt := 53) (pn := 46) rfl rfl rfl (by omega) (by omega) (fun h => absurd h (by omega)) (fun h3 => ?_)
  refine sw_p 1 (f' := (47, [some (2, 50), some (0, b), some (0, x), some (0, l), some (2, 100 + b), none], [(2, 50)])) rfl ?_
  refine sw_gA (pn := 50) (i := 11) rfl rfl rfl rfl rfl (by omega) (hR.sh.1) (fun _ => ?_) (fun h => absurd h (by rw [show ν 50 11 = 300 + ρ 0 21 from ((hR.z.2.2.2.1).trans (if_neg (by omega)))]; omega))
  rw [show ν 50 11 = 300 + ρ 0 21 from ((hR.z.2.2.2.1).trans (if_neg (by omega)))]
  refine sw_p 1 (f' := (53, [some (2, 50), some (0, b), some (0, x), some (0, l), some (2, 100 + b), none], [])) rfl ?_
  exact sw_thr rfl rfl rfl rfl rfl (by omega) ⟨rfl, rfl, rfl⟩
theorem cl_br_b1 (hI : iv_I ρ f) (hR : pt_R s ν ρ f) (hb : -2147483648 ≤ b ∧ b < 2147483648) (h0 : ¬ (0 ≤ b ∧ b < ρ 0 1)) (hd : 5 ≤ d) : sw_w E (d + 2) 64 (0, [some (2, 50), some (0, b), some (0, x), some (0, l), none, none], []) s ν (sw_ex 8 s ν) := by
  have b1 := hI.1.1.1
  refine sw_p 2 (f' := (2, [some (2, 50), some (0, b), some (0, x), some (0, l), none, none], [(0, b), (2, 50)])) rfl ?_
  exact sw_cv (pn := 5) (q0 := mj_PT_bridge) (q := mj_PT_bridgeNumbered) (p := 50) (as2 := [(0, b)]) (L2 := [some (2, 50), some (0, b)]) (rest := []) (Q2 := (sw_ex 8 s ν)) rfl rfl rfl rfl rfl rfl rfl rfl rfl (hR.sh.1) (cl_bN0 hI.1 hR hb hd h0) (fun _ _ _ h => nomatch h.1) (fun _ _ _ h => h)
theorem cl_br_b2 (hI : iv_I ρ f) (hR : pt_R s ν ρ f) (hb : 0 ≤ b ∧ b < ρ 0 1) (hx : -2147483648 ≤ x ∧ x < 2147483648) (h0 : ¬ (0 ≤ x ∧ x ≤ 3)) (hd : 5 ≤ d) : sw_w E (d + 2) 64 (0, [some (2, 50), some (0, b), some (0, x), some (0, l), none, none], []) s ν (sw_ex 8 s ν) := by
  have b1 := hI.1.1.1
  have b21 := hI.1.1.2.2.2.1
  have b12 := hI.1.1.2.2.1
  have hbr := hR.br b hb.1 hb.2
  have fb := f_0 hI.1.2.2.1 hb
  refine sw_p 2 (f' := (2, [some (2, 50), some (0, b), some (0, x), some (0, l), none, none], [(0, b), (2, 50)])) rfl ?_
  refine sw_cv1 (pn := 5) (q0 := mj_PT_bridge) (q := mj_PT_bridgeNumbered) (p := 50) (as2 := [(0, b)]) (L2 := [some (2, 50), some (0, b)]) (rest := []) (v := some (2, 100 + b)) (s1 := s) (ν1 := ν) rfl rfl rfl rfl rfl rfl rfl rfl rfl (hR.sh.1) (cl_bN1 hI.1 hR hb) ?_
  show sw_w E _ 64 (5, [some (2, 50), some (0, b), some (0, x), some (0, l), none, none], [(2, 100 + b)]) s ν _
  refine sw_p 2 (f' := (8, [some (2, 50), some (0, b), some (0, x), some (0, l), some (2, 100 + b), none], [(0, x)])) rfl ?_
  exact sw_cs (pn := 11) (q0 := mj_PT_bridge) (q := mj_PT_requireSlot) (L2 := [some (0, x)]) (rest := []) (Q2 := (sw_ex 8 s ν)) rfl rfl rfl rfl rfl rfl rfl rfl (cl_rS0 hx hd h0) (fun _ _ _ h => nomatch h.1) (fun _ _ _ h => h)
theorem cl_br_b3 (hI : iv_I ρ f) (hR : pt_R s ν ρ f) (hb : 0 ≤ b ∧ b < ρ 0 1) (hx : 0 ≤ x ∧ x ≤ 3) (hl : -2147483648 ≤ l ∧ l < 2147483648) (h0 : ¬ (0 ≤ l ∧ l ≤ 1000)) (hd : 5 ≤ d) : sw_w E (d + 2) 64 (0, [some (2, 50), some (0, b), some (0, x), some (0, l), none, none], []) s ν (sw_ex 8 s ν) := by
  have b1 := hI.1.1.1
  have b21 := hI.1.1.2.2.2.1
  have b12 := hI.1.1.2.2.1
  have hbr := hR.br b hb.1 hb.2
  have fb := f_0 hI.1.2.2.1 hb
  refine sw_p 2 (f' := (2, [some (2, 50), some (0, b), some (0, x), some (0, l), none, none], [(0, b), (2, 50)])) rfl ?_
  refine sw_cv1 (pn := 5) (q0 := mj_PT_bridge) (q := mj_PT_bridgeNumbered) (p := 50) (as2 := [(0, b)]) (L2 := [some (2, 50), some (0, b)]) (rest := []) (v := some (2, 100 + b)) (s1 := s) (ν1 := ν) rfl rfl rfl rfl rfl rfl rfl rfl rfl (hR.sh.1) (cl_bN1 hI.1 hR hb) ?_
  show sw_w E _ 64 (5, [some (2, 50), some (0, b), some (0, x), some (0, l), none, none], [(2, 100 + b)]) s ν _
  refine sw_p 2 (f' := (8, [some (2, 50), some (0, b), some (0, x), some (0, l), some (2, 100 + b), none], [(0, x)])) rfl ?_
  refine sw_cs1 (pn := 11) (q0 := mj_PT_bridge) (q := mj_PT_requireSlot) (L2 := [some (0, x)]) (rest := []) (v := none) (s1 := s) (ν1 := ν) rfl rfl rfl rfl rfl rfl rfl rfl (cl_rS1 hx) ?_
  show sw_w E _ 64 (11, [some (2, 50), some (0, b), some (0, x), some (0, l), some (2, 100 + b), none], []) s ν _
  refine sw_p 3 (f' := (16, [some (2, 50), some (0, b), some (0, x), some (0, l), some (2, 100 + b), none], [(0, 1000), (0, 0), (0, l)])) rfl ?_
  exact sw_cs (pn := 19) (q0 := mj_PT_bridge) (q := mj_PT_requireWithin) (L2 := [some (0, l), some (0, 0), some (0, 1000)]) (rest := []) (Q2 := (sw_ex 8 s ν)) rfl rfl rfl rfl rfl rfl rfl rfl (pt_rwx (by omega) (by omega) (by omega) (by omega) (by omega)) (fun _ _ _ h => nomatch h.1) (fun _ _ _ h => h)
end BR1
