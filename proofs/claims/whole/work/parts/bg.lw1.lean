/-! the law: the calls of the class, with what they throw -/
def cc_v (s ν ρ' : mm_T) (f' : Int → Int) (v : mg_V) : nm_O → mm_T → mm_T → Prop := fun o s' ν' => o = .inl (some v) ∧ ns_r s s' ∧ pt_R s' ν' ρ' f' ∧ un_r s' ν' ρ' ∧ lo_r ν ν'
def wr_e (k r : Int) (s ν ρ' : mm_T) (f' : Int → Int) : nm_O → mm_T → mm_T → Prop := fun o s' ν' => o = .inl (some (0, k)) ∧ ns_r s s' ∧ pt_R s' ν' ρ' f' ∧ un_r s' ν' ρ' ∧ (∀ p, p < 40 → ν' p = ν p) ∧ (k = 0 → ν' 40 0 = r)
section LW1
variable {E : mv_E} {s s' ν ν' ρ ρ' : mm_T} {f f' : Int → Int} {d j : Nat} {g : mg_F} {k r x1 x2 x3 x4 x5 : Int} {v : mg_V} {Q : nm_O → mm_T → mm_T → Prop}
theorem bm_b (z : Int) : -9223372036854775808 ≤ Int.bmod z 4294967296 ∧ Int.bmod z 4294967296 < 9223372036854775808 := by
  have h1 := Int.le_bmod (x := z) (m := 4294967296) (by decide)
  have h2 := Int.bmod_lt (x := z) (m := 4294967296) (by decide)
  omega
theorem sw_lcb {L : mg_L} {S : List mg_V} {pc pt : Nat} {t z : Int} (hr : mg_at j pc = some (1, .lcmp)) (hr2 : mg_at j (pc + 1) = some (3, .ifCond .eq t)) (ht : t.toNat = pt) (k1 : sw_w E d j (pt, L, S) s ν Q) : sw_w E d j (pc, L, (1, Int.bmod z 4294967296) :: (1, Int.bmod z 4294967296) :: S) s ν Q := sw_lcq hr hr2 ht rfl (bm_b z) (bm_b z) (fun _ => k1) (fun h => absurd rfl h)
theorem mg_eqs {L : mg_L} {S : List mg_V} {pc pt : Nat} {t z : Int} {μ : mm_T} {Q : mg_R → mm_T → Prop} (hr : mg_at j pc = some (3, .if_icmp .eq t)) (ht : t.toNat = pt) (k1 : mg_w E d j (pt, L, S) μ Q) : mg_w E d j (pc, L, (0, z) :: (0, z) :: S) μ Q := by
  subst ht
  exact mg_b2 hr (fun _ => k1) (fun h => absurd rfl (of_decide_eq_false h))
theorem sw_eqs {L : mg_L} {S : List mg_V} {pc pt : Nat} {t z : Int} (hr : mg_at j pc = some (3, .if_icmp .eq t)) (ht : t.toNat = pt) (k1 : sw_w E d j (pt, L, S) s ν Q) : sw_w E d j (pc, L, (0, z) :: (0, z) :: S) s ν Q := fun A μ hR hk => mg_eqs (L := nm_l A L) (S := nm_s A S) hr ht (k1 A μ hR (nm_kf2 hk))
theorem ns_rfl : ns_r s s := ⟨fun _ _ _ => rfl, ⟨Int.le_refl _, by omega⟩, Int.le_refl _, by omega⟩
theorem lo_rfl2 : lo_r ν ν := fun _ _ => rfl
theorem cc_is (h : sw_w E d j g s ν (sw_is (some v) s ν)) (hR : pt_R s ν ρ f) (hu : un_r s ν ρ) : sw_w E d j g s ν (cc_v s ν ρ f v) := sw_mono h (fun o s' ν' ⟨e1, e2, e3⟩ => by rw [e2, e3]; exact ⟨e1, ns_rfl, hR, hu, lo_rfl2⟩)
theorem cc_vr (h : sw_w E d j g s ν (sw_vr (fun v' ν' => v' = some v ∧ pt_R s ν' ρ' f ∧ lo_r ν ν') s)) (hu : un_r s ν ρ) (h4 : n4_r ρ ρ') : sw_w E d j g s ν (cc_v s ν ρ' f v) := sw_mono h (fun o s' ν' ⟨w, e1, e2, e3, e4, e5⟩ => by rw [e2]; exact ⟨by rw [e1, e3], ns_rfl, e4, un_c hu h4, e5⟩)
theorem cc_vs (h : sw_w E d j g s ν (sw_vs (fun v' s' ν' => v' = some v ∧ ns_r s s' ∧ pt_R s' ν' ρ' f' ∧ un_r s' ν' ρ' ∧ lo_r ν ν'))) : sw_w E d j g s ν (cc_v s ν ρ' f' v) := sw_mono h (fun o s' ν' ⟨w, e1, e2, e3, e4, e5, e6⟩ => ⟨by rw [e1, e2], e3, e4, e5, e6⟩)
theorem wr_ok (hB : mo_B ρ') (h : cc_v s ν ρ' f' v (.inl (some v)) s' ν') : wr_e 0 r s ν ρ' f' (.inl (some (0, 0))) s' (mm_u ν' 40 0 r) := by
  obtain ⟨-, h1, h2, h3, h4⟩ := h
  refine ⟨rfl, h1, R_hi hB h2 (fun p hp => ?_), un_c h3 n4_rfl, fun p hp => ?_, fun _ => mm_u_at⟩
  · funext i
    exact mm_u_ne (by omega)
  · rw [← h4 p (by omega)]
    funext i
    exact mm_u_ne (by omega)
theorem wr_ex (hB : mo_B ρ) (hR : pt_R s ν ρ f) (hu : un_r s ν ρ) (hk : k ≠ 0) : wr_e k r s ν ρ f (.inl (some (0, k))) (nm_cnt s 1 6) ν := ⟨rfl, ns_cnt, R_cnt hB hR, un_cnt hB hu, fun _ _ => rfl, fun h => absurd h hk⟩
theorem ww_127 (w : sw_w E d 64 (0, [some (2, 50), some (0, x1), some (0, x2), some (0, x3), none, none], []) s ν (cc_v s ν ρ' f' (0, r))) (h40 : s 40 (-1) = 2 ∧ s 40 (-2) = 1) (h50 : s 50 (-1) = 100) (hB : mo_B ρ') : sw_w E (d + 1) 127 (0, [some (2, 50), some (0, x1), some (0, x2), some (0, x3), some (2, 40), none], []) s ν (wr_e 0 (Int.bmod r 4294967296) s ν ρ' f') := by
  refine sw_p 6 (f' := (7, [some (2, 50), some (0, x1), some (0, x2), some (0, x3), some (2, 40), none], [(0, x3), (0, x2), (0, x1), (2, 50), (0, 0), (2, 40)])) rfl ?_
  refine sw_cvh (pn := 10) (q0 := mj_Lw_bridge) (q := mj_PT_bridge) (p := 50) (as2 := [(0, x1), (0, x2), (0, x3)]) (L2 := [some (2, 50), some (0, x1), some (0, x2), some (0, x3), none, none]) (rest := [(0, 0), (2, 40)]) rfl rfl rfl (by decide) rfl rfl rfl rfl rfl h50 w (fun v s' ν' hv => ?_) (fun c s' ν' hv => nomatch hv.1)
  have hv0 := hv.1
  cases hv0
  have e40 := hv.2.1.1 40 (by decide) (by decide)
  show sw_w E _ 127 (10, [some (2, 50), some (0, x1), some (0, x2), some (0, x3), some (2, 40), none], [(0, r), (0, 0), (2, 40)]) s' ν' _
  refine sw_i2lw (pn := 11) rfl rfl ?_
  refine sw_las (pn := 12) (l := 1) rfl rfl (by omega) (by rw [e40]; exact h40.1) (by rw [e40]; exact h40.2) (by omega) (by omega) ?_
  refine sw_p 2 (f' := (24, [some (2, 50), some (0, x1), some (0, x2), some (0, x3), some (2, 40), none], [(0, 0)])) rfl ?_
  exact sw_retI rfl rfl rfl (wr_ok hB hv)
theorem wx_127_8 (w : sw_w E d 64 (0, [some (2, 50), some (0, x1), some (0, x2), some (0, x3), none, none], []) s ν (sw_ex 8 s ν)) (h50 : s 50 (-1) = 100) (hB : mo_B ρ) (hR : pt_R s ν ρ f) (hu : un_r s ν ρ) : sw_w E (d + 1) 127 (0, [some (2, 50), some (0, x1), some (0, x2), some (0, x3), some (2, 40), none], []) s ν (wr_e 1 r s ν ρ f) := by
  refine sw_p 6 (f' := (7, [some (2, 50), some (0, x1), some (0, x2), some (0, x3), some (2, 40), none], [(0, x3), (0, x2), (0, x1), (2, 50), (0, 0), (2, 40)])) rfl ?_
  refine sw_cvh (pn := 10) (q0 := mj_Lw_bridge) (q := mj_PT_bridge) (p := 50) (as2 := [(0, x1), (0, x2), (0, x3)]) (L2 := [some (2, 50), some (0, x1), some (0, x2), some (0, x3), none, none]) (rest := [(0, 0), (2, 40)]) rfl rfl rfl (by decide) rfl rfl rfl rfl rfl h50 w (fun v s' ν' hv => nomatch hv.1) (fun c s' ν' hv => ?_)
  obtain ⟨hv1, hv2, hv3⟩ := hv
  cases hv1
  rw [hv2, hv3]
  exact ⟨15, 18, 1, rfl, fun A a => ⟨_, rfl⟩, rfl, rfl, wr_ex hB hR hu (by decide)⟩
theorem wx_127_9 (w : sw_w E d 64 (0, [some (2, 50), some (0, x1), some (0, x2), some (0, x3), none, none], []) s ν (sw_ex 9 s ν)) (h50 : s 50 (-1) = 100) (hB : mo_B ρ) (hR : pt_R s ν ρ f) (hu : un_r s ν ρ) : sw_w E (d + 1) 127 (0, [some (2, 50), some (0, x1), some (0, x2), some (0, x3), some (2, 40), none], []) s ν (wr_e 2 r s ν ρ f) := by
  refine sw_p 6 (f' := (7, [some (2, 50), some (0, x1), some (0, x2), some (0, x3), some (2, 40), none], [(0, x3), (0, x2), (0, x1), (2, 50), (0, 0), (2, 40)])) rfl ?_
  refine sw_cvh (pn := 10) (q0 := mj_Lw_bridge) (q := mj_PT_bridge) (p := 50) (as2 := [(0, x1), (0, x2), (0, x3)]) (L2 := [some (2, 50), some (0, x1), some (0, x2), some (0, x3), none, none]) (rest := [(0, 0), (2, 40)]) rfl rfl rfl (by decide) rfl rfl rfl rfl rfl h50 w (fun v s' ν' hv => nomatch hv.1) (fun c s' ν' hv => ?_)
  obtain ⟨hv1, hv2, hv3⟩ := hv
  cases hv1
  rw [hv2, hv3]
  exact ⟨19, 22, 2, rfl, fun A a => ⟨_, rfl⟩, rfl, rfl, wr_ex hB hR hu (by decide)⟩
theorem ww_128 (w : sw_w E d 68 (0, [some (2, 50), some (0, x1), some (0, x2), some (0, x3), some (0, x4), some (0, x5)], []) s ν (cc_v s ν ρ' f' (0, r))) (h40 : s 40 (-1) = 2 ∧ s 40 (-2) = 1) (h50 : s 50 (-1) = 100) (hB : mo_B ρ') : sw_w E (d + 1) 128 (0, [some (2, 50), some (0, x1), some (0, x2), some (0, x3), some (0, x4), some (0, x5), some (2, 40), none], []) s ν (wr_e 0 (Int.bmod r 4294967296) s ν ρ' f') := by
  refine sw_p 8 (f' := (11, [some (2, 50), some (0, x1), some (0, x2), some (0, x3), some (0, x4), some (0, x5), some (2, 40), none], [(0, x5), (0, x4), (0, x3), (0, x2), (0, x1), (2, 50), (0, 0), (2, 40)])) rfl ?_
  refine sw_cvh (pn := 14) (q0 := mj_Lw_type) (q := mj_PT_type) (p := 50) (as2 := [(0, x1), (0, x2), (0, x3), (0, x4), (0, x5)]) (L2 := [some (2, 50), some (0, x1), some (0, x2), some (0, x3), some (0, x4), some (0, x5)]) (rest := [(0, 0), (2, 40)]) rfl rfl rfl (by decide) rfl rfl rfl rfl rfl h50 w (fun v s' ν' hv => ?_) (fun c s' ν' hv => nomatch hv.1)
  have hv0 := hv.1
  cases hv0
  have e40 := hv.2.1.1 40 (by decide) (by decide)
  show sw_w E _ 128 (14, [some (2, 50), some (0, x1), some (0, x2), some (0, x3), some (0, x4), some (0, x5), some (2, 40), none], [(0, r), (0, 0), (2, 40)]) s' ν' _
  refine sw_i2lw (pn := 15) rfl rfl ?_
  refine sw_las (pn := 16) (l := 1) rfl rfl (by omega) (by rw [e40]; exact h40.1) (by rw [e40]; exact h40.2) (by omega) (by omega) ?_
  refine sw_p 2 (f' := (28, [some (2, 50), some (0, x1), some (0, x2), some (0, x3), some (0, x4), some (0, x5), some (2, 40), none], [(0, 0)])) rfl ?_
  exact sw_retI rfl rfl rfl (wr_ok hB hv)
theorem wx_128_8 (w : sw_w E d 68 (0, [some (2, 50), some (0, x1), some (0, x2), some (0, x3), some (0, x4), some (0, x5)], []) s ν (sw_ex 8 s ν)) (h50 : s 50 (-1) = 100) (hB : mo_B ρ) (hR : pt_R s ν ρ f) (hu : un_r s ν ρ) : sw_w E (d + 1) 128 (0, [some (2, 50), some (0, x1), some (0, x2), some (0, x3), some (0, x4), some (0, x5), some (2, 40), none], []) s ν (wr_e 1 r s ν ρ f) := by
  refine sw_p 8 (f' := (11, [some (2, 50), some (0, x1), some (0, x2), some (0, x3), some (0, x4), some (0, x5), some (2, 40), none], [(0, x5), (0, x4), (0, x3), (0, x2), (0, x1), (2, 50), (0, 0), (2, 40)])) rfl ?_
  refine sw_cvh (pn := 14) (q0 := mj_Lw_type) (q := mj_PT_type) (p := 50) (as2 := [(0, x1), (0, x2), (0, x3), (0, x4), (0, x5)]) (L2 := [some (2, 50), some (0, x1), some (0, x2), some (0, x3), some (0, x4), some (0, x5)]) (rest := [(0, 0), (2, 40)]) rfl rfl rfl (by decide) rfl rfl rfl rfl rfl h50 w (fun v s' ν' hv => nomatch hv.1) (fun c s' ν' hv => ?_)
  obtain ⟨hv1, hv2, hv3⟩ := hv
  cases hv1
  rw [hv2, hv3]
  exact ⟨19, 22, 1, rfl, fun A a => ⟨_, rfl⟩, rfl, rfl, wr_ex hB hR hu (by decide)⟩
theorem wx_128_9 (w : sw_w E d 68 (0, [some (2, 50), some (0, x1), some (0, x2), some (0, x3), some (0, x4), some (0, x5)], []) s ν (sw_ex 9 s ν)) (h50 : s 50 (-1) = 100) (hB : mo_B ρ) (hR : pt_R s ν ρ f) (hu : un_r s ν ρ) : sw_w E (d + 1) 128 (0, [some (2, 50), some (0, x1), some (0, x2), some (0, x3), some (0, x4), some (0, x5), some (2, 40), none], []) s ν (wr_e 2 r s ν ρ f) := by
  refine sw_p 8 (f' := (11, [some (2, 50), some (0, x1), some (0, x2), some (0, x3), some (0, x4), some (0, x5), some (2, 40), none], [(0, x5), (0, x4), (0, x3), (0, x2), (0, x1), (2, 50), (0, 0), (2, 40)])) rfl ?_
  refine sw_cvh (pn := 14) (q0 := mj_Lw_type) (q := mj_PT_type) (p := 50) (as2 := [(0, x1), (0, x2), (0, x3), (0, x4), (0, x5)]) (L2 := [some (2, 50), some (0, x1), some (0, x2), some (0, x3), some (0, x4), some (0, x5)]) (rest := [(0, 0), (2, 40)]) rfl rfl rfl (by decide) rfl rfl rfl rfl rfl h50 w (fun v s' ν' hv => nomatch hv.1) (fun c s' ν' hv => ?_)
  obtain ⟨hv1, hv2, hv3⟩ := hv
  cases hv1
  rw [hv2, hv3]
  exact ⟨23, 26, 2, rfl, fun A a => ⟨_, rfl⟩, rfl, rfl, wr_ex hB hR hu (by decide)⟩
theorem ww_129 (w : sw_w E d 69 (0, [some (2, 50), some (0, x1), some (0, x2), some (0, x3), none, none], []) s ν (cc_v s ν ρ' f' (0, r))) (h40 : s 40 (-1) = 2 ∧ s 40 (-2) = 1) (h50 : s 50 (-1) = 100) (hB : mo_B ρ') : sw_w E (d + 1) 129 (0, [some (2, 50), some (0, x1), some (0, x2), some (0, x3), some (2, 40), none], []) s ν (wr_e 0 (Int.bmod r 4294967296) s ν ρ' f') := by
  refine sw_p 6 (f' := (7, [some (2, 50), some (0, x1), some (0, x2), some (0, x3), some (2, 40), none], [(0, x3), (0, x2), (0, x1), (2, 50), (0, 0), (2, 40)])) rfl ?_
  refine sw_cvh (pn := 10) (q0 := mj_Lw_plug) (q := mj_PT_plug) (p := 50) (as2 := [(0, x1), (0, x2), (0, x3)]) (L2 := [some (2, 50), some (0, x1), some (0, x2), some (0, x3), none, none]) (rest := [(0, 0), (2, 40)]) rfl rfl rfl (by decide) rfl rfl rfl rfl rfl h50 w (fun v s' ν' hv => ?_) (fun c s' ν' hv => nomatch hv.1)
  have hv0 := hv.1
  cases hv0
  have e40 := hv.2.1.1 40 (by decide) (by decide)
  show sw_w E _ 129 (10, [some (2, 50), some (0, x1), some (0, x2), some (0, x3), some (2, 40), none], [(0, r), (0, 0), (2, 40)]) s' ν' _
  refine sw_i2lw (pn := 11) rfl rfl ?_
  refine sw_las (pn := 12) (l := 1) rfl rfl (by omega) (by rw [e40]; exact h40.1) (by rw [e40]; exact h40.2) (by omega) (by omega) ?_
  refine sw_p 2 (f' := (24, [some (2, 50), some (0, x1), some (0, x2), some (0, x3), some (2, 40), none], [(0, 0)])) rfl ?_
  exact sw_retI rfl rfl rfl (wr_ok hB hv)
theorem wx_129_8 (w : sw_w E d 69 (0, [some (2, 50), some (0, x1), some (0, x2), some (0, x3), none, none], []) s ν (sw_ex 8 s ν)) (h50 : s 50 (-1) = 100) (hB : mo_B ρ) (hR : pt_R s ν ρ f) (hu : un_r s ν ρ) : sw_w E (d + 1) 129 (0, [some (2, 50), some (0, x1), some (0, x2), some (0, x3), some (2, 40), none], []) s ν (wr_e 1 r s ν ρ f) := by
  refine sw_p 6 (f' := (7, [some (2, 50), some (0, x1), some (0, x2), some (0, x3), some (2, 40), none], [(0, x3), (0, x2), (0, x1), (2, 50), (0, 0), (2, 40)])) rfl ?_
  refine sw_cvh (pn := 10) (q0 := mj_Lw_plug) (q := mj_PT_plug) (p := 50) (as2 := [(0, x1), (0, x2), (0, x3)]) (L2 := [some (2, 50), some (0, x1), some (0, x2), some (0, x3), none, none]) (rest := [(0, 0), (2, 40)]) rfl rfl rfl (by decide) rfl rfl rfl rfl rfl h50 w (fun v s' ν' hv => nomatch hv.1) (fun c s' ν' hv => ?_)
  obtain ⟨hv1, hv2, hv3⟩ := hv
  cases hv1
  rw [hv2, hv3]
  exact ⟨15, 18, 1, rfl, fun A a => ⟨_, rfl⟩, rfl, rfl, wr_ex hB hR hu (by decide)⟩
theorem wx_129_9 (w : sw_w E d 69 (0, [some (2, 50), some (0, x1), some (0, x2), some (0, x3), none, none], []) s ν (sw_ex 9 s ν)) (h50 : s 50 (-1) = 100) (hB : mo_B ρ) (hR : pt_R s ν ρ f) (hu : un_r s ν ρ) : sw_w E (d + 1) 129 (0, [some (2, 50), some (0, x1), some (0, x2), some (0, x3), some (2, 40), none], []) s ν (wr_e 2 r s ν ρ f) := by
  refine sw_p 6 (f' := (7, [some (2, 50), some (0, x1), some (0, x2), some (0, x3), some (2, 40), none], [(0, x3), (0, x2), (0, x1), (2, 50), (0, 0), (2, 40)])) rfl ?_
  refine sw_cvh (pn := 10) (q0 := mj_Lw_plug) (q := mj_PT_plug) (p := 50) (as2 := [(0, x1), (0, x2), (0, x3)]) (L2 := [some (2, 50), some (0, x1), some (0, x2), some (0, x3), none, none]) (rest := [(0, 0), (2, 40)]) rfl rfl rfl (by decide) rfl rfl rfl rfl rfl h50 w (fun v s' ν' hv => nomatch hv.1) (fun c s' ν' hv => ?_)
  obtain ⟨hv1, hv2, hv3⟩ := hv
  cases hv1
  rw [hv2, hv3]
  exact ⟨19, 22, 2, rfl, fun A a => ⟨_, rfl⟩, rfl, rfl, wr_ex hB hR hu (by decide)⟩
theorem ww_130 (w : sw_w E d 70 (0, [some (2, 50), some (0, x1), none], []) s ν (cc_v s ν ρ' f' (0, r))) (h40 : s 40 (-1) = 2 ∧ s 40 (-2) = 1) (h50 : s 50 (-1) = 100) (hB : mo_B ρ') : sw_w E (d + 1) 130 (0, [some (2, 50), some (0, x1), some (2, 40), none], []) s ν (wr_e 0 (Int.bmod r 4294967296) s ν ρ' f') := by
  refine sw_p 4 (f' := (4, [some (2, 50), some (0, x1), some (2, 40), none], [(0, x1), (2, 50), (0, 0), (2, 40)])) rfl ?_
  refine sw_cvh (pn := 7) (q0 := mj_Lw_pull) (q := mj_PT_pull) (p := 50) (as2 := [(0, x1)]) (L2 := [some (2, 50), some (0, x1), none]) (rest := [(0, 0), (2, 40)]) rfl rfl rfl (by decide) rfl rfl rfl rfl rfl h50 w (fun v s' ν' hv => ?_) (fun c s' ν' hv => nomatch hv.1)
  have hv0 := hv.1
  cases hv0
  have e40 := hv.2.1.1 40 (by decide) (by decide)
  show sw_w E _ 130 (7, [some (2, 50), some (0, x1), some (2, 40), none], [(0, r), (0, 0), (2, 40)]) s' ν' _
  refine sw_i2lw (pn := 8) rfl rfl ?_
  refine sw_las (pn := 9) (l := 1) rfl rfl (by omega) (by rw [e40]; exact h40.1) (by rw [e40]; exact h40.2) (by omega) (by omega) ?_
  refine sw_p 2 (f' := (19, [some (2, 50), some (0, x1), some (2, 40), none], [(0, 0)])) rfl ?_
  exact sw_retI rfl rfl rfl (wr_ok hB hv)
theorem wx_130_8 (w : sw_w E d 70 (0, [some (2, 50), some (0, x1), none], []) s ν (sw_ex 8 s ν)) (h50 : s 50 (-1) = 100) (hB : mo_B ρ) (hR : pt_R s ν ρ f) (hu : un_r s ν ρ) : sw_w E (d + 1) 130 (0, [some (2, 50), some (0, x1), some (2, 40), none], []) s ν (wr_e 1 r s ν ρ f) := by
  refine sw_p 4 (f' := (4, [some (2, 50), some (0, x1), some (2, 40), none], [(0, x1), (2, 50), (0, 0), (2, 40)])) rfl ?_
  refine sw_cvh (pn := 7) (q0 := mj_Lw_pull) (q := mj_PT_pull) (p := 50) (as2 := [(0, x1)]) (L2 := [some (2, 50), some (0, x1), none]) (rest := [(0, 0), (2, 40)]) rfl rfl rfl (by decide) rfl rfl rfl rfl rfl h50 w (fun v s' ν' hv => nomatch hv.1) (fun c s' ν' hv => ?_)
  obtain ⟨hv1, hv2, hv3⟩ := hv
  cases hv1
  rw [hv2, hv3]
  exact ⟨12, 14, 1, rfl, fun A a => ⟨_, rfl⟩, rfl, rfl, wr_ex hB hR hu (by decide)⟩
theorem wx_130_9 (w : sw_w E d 70 (0, [some (2, 50), some (0, x1), none], []) s ν (sw_ex 9 s ν)) (h50 : s 50 (-1) = 100) (hB : mo_B ρ) (hR : pt_R s ν ρ f) (hu : un_r s ν ρ) : sw_w E (d + 1) 130 (0, [some (2, 50), some (0, x1), some (2, 40), none], []) s ν (wr_e 2 r s ν ρ f) := by
  refine sw_p 4 (f' := (4, [some (2, 50), some (0, x1), some (2, 40), none], [(0, x1), (2, 50), (0, 0), (2, 40)])) rfl ?_
  refine sw_cvh (pn := 7) (q0 := mj_Lw_pull) (q := mj_PT_pull) (p := 50) (as2 := [(0, x1)]) (L2 := [some (2, 50), some (0, x1), none]) (rest := [(0, 0), (2, 40)]) rfl rfl rfl (by decide) rfl rfl rfl rfl rfl h50 w (fun v s' ν' hv => nomatch hv.1) (fun c s' ν' hv => ?_)
  obtain ⟨hv1, hv2, hv3⟩ := hv
  cases hv1
  rw [hv2, hv3]
  exact ⟨15, 17, 2, rfl, fun A a => ⟨_, rfl⟩, rfl, rfl, wr_ex hB hR hu (by decide)⟩
theorem ww_131 (w : sw_w E d 72 (0, [some (2, 50), some (0, x1), none], []) s ν (cc_v s ν ρ' f' (0, r))) (h40 : s 40 (-1) = 2 ∧ s 40 (-2) = 1) (h50 : s 50 (-1) = 100) (hB : mo_B ρ') : sw_w E (d + 1) 131 (0, [some (2, 50), some (0, x1), some (2, 40), none], []) s ν (wr_e 0 (Int.bmod r 4294967296) s ν ρ' f') := by
  refine sw_p 4 (f' := (4, [some (2, 50), some (0, x1), some (2, 40), none], [(0, x1), (2, 50), (0, 0), (2, 40)])) rfl ?_
  refine sw_cvh (pn := 7) (q0 := mj_Lw_leave) (q := mj_PT_leave) (p := 50) (as2 := [(0, x1)]) (L2 := [some (2, 50), some (0, x1), none]) (rest := [(0, 0), (2, 40)]) rfl rfl rfl (by decide) rfl rfl rfl rfl rfl h50 w (fun v s' ν' hv => ?_) (fun c s' ν' hv => nomatch hv.1)
  have hv0 := hv.1
  cases hv0
  have e40 := hv.2.1.1 40 (by decide) (by decide)
  show sw_w E _ 131 (7, [some (2, 50), some (0, x1), some (2, 40), none], [(0, r), (0, 0), (2, 40)]) s' ν' _
  refine sw_i2lw (pn := 8) rfl rfl ?_
  refine sw_las (pn := 9) (l := 1) rfl rfl (by omega) (by rw [e40]; exact h40.1) (by rw [e40]; exact h40.2) (by omega) (by omega) ?_
  refine sw_p 2 (f' := (19, [some (2, 50), some (0, x1), some (2, 40), none], [(0, 0)])) rfl ?_
  exact sw_retI rfl rfl rfl (wr_ok hB hv)
theorem wx_131_8 (w : sw_w E d 72 (0, [some (2, 50), some (0, x1), none], []) s ν (sw_ex 8 s ν)) (h50 : s 50 (-1) = 100) (hB : mo_B ρ) (hR : pt_R s ν ρ f) (hu : un_r s ν ρ) : sw_w E (d + 1) 131 (0, [some (2, 50), some (0, x1), some (2, 40), none], []) s ν (wr_e 1 r s ν ρ f) := by
  refine sw_p 4 (f' := (4, [some (2, 50), some (0, x1), some (2, 40), none], [(0, x1), (2, 50), (0, 0), (2, 40)])) rfl ?_
  refine sw_cvh (pn := 7) (q0 := mj_Lw_leave) (q := mj_PT_leave) (p := 50) (as2 := [(0, x1)]) (L2 := [some (2, 50), some (0, x1), none]) (rest := [(0, 0), (2, 40)]) rfl rfl rfl (by decide) rfl rfl rfl rfl rfl h50 w (fun v s' ν' hv => nomatch hv.1) (fun c s' ν' hv => ?_)
  obtain ⟨hv1, hv2, hv3⟩ := hv
  cases hv1
  rw [hv2, hv3]
  exact ⟨12, 14, 1, rfl, fun A a => ⟨_, rfl⟩, rfl, rfl, wr_ex hB hR hu (by decide)⟩
theorem wx_131_9 (w : sw_w E d 72 (0, [some (2, 50), some (0, x1), none], []) s ν (sw_ex 9 s ν)) (h50 : s 50 (-1) = 100) (hB : mo_B ρ) (hR : pt_R s ν ρ f) (hu : un_r s ν ρ) : sw_w E (d + 1) 131 (0, [some (2, 50), some (0, x1), some (2, 40), none], []) s ν (wr_e 2 r s ν ρ f) := by
  refine sw_p 4 (f' := (4, [some (2, 50), some (0, x1), some (2, 40), none], [(0, x1), (2, 50), (0, 0), (2, 40)])) rfl ?_
  refine sw_cvh (pn := 7) (q0 := mj_Lw_leave) (q := mj_PT_leave) (p := 50) (as2 := [(0, x1)]) (L2 := [some (2, 50), some (0, x1), none]) (rest := [(0, 0), (2, 40)]) rfl rfl rfl (by decide) rfl rfl rfl rfl rfl h50 w (fun v s' ν' hv => nomatch hv.1) (fun c s' ν' hv => ?_)
  obtain ⟨hv1, hv2, hv3⟩ := hv
  cases hv1
  rw [hv2, hv3]
  exact ⟨15, 17, 2, rfl, fun A a => ⟨_, rfl⟩, rfl, rfl, wr_ex hB hR hu (by decide)⟩
theorem ww_132 (w : sw_w E d 73 (0, [some (2, 50), some (0, x1), some (0, x2), some (0, x3), none, none, none], []) s ν (cc_v s ν ρ' f' (0, r))) (h40 : s 40 (-1) = 2 ∧ s 40 (-2) = 1) (h50 : s 50 (-1) = 100) (hB : mo_B ρ') : sw_w E (d + 1) 132 (0, [some (2, 50), some (0, x1), some (0, x2), some (0, x3), some (2, 40), none], []) s ν (wr_e 0 (Int.bmod r 4294967296) s ν ρ' f') := by
  refine sw_p 6 (f' := (7, [some (2, 50), some (0, x1), some (0, x2), some (0, x3), some (2, 40), none], [(0, x3), (0, x2), (0, x1), (2, 50), (0, 0), (2, 40)])) rfl ?_
  refine sw_cvh (pn := 10) (q0 := mj_Lw_request) (q := mj_PT_request) (p := 50) (as2 := [(0, x1), (0, x2), (0, x3)]) (L2 := [some (2, 50), some (0, x1), some (0, x2), some (0, x3), none, none, none]) (rest := [(0, 0), (2, 40)]) rfl rfl rfl (by decide) rfl rfl rfl rfl rfl h50 w (fun v s' ν' hv => ?_) (fun c s' ν' hv => nomatch hv.1)
  have hv0 := hv.1
  cases hv0
  have e40 := hv.2.1.1 40 (by decide) (by decide)
  show sw_w E _ 132 (10, [some (2, 50), some (0, x1), some (0, x2), some (0, x3), some (2, 40), none], [(0, r), (0, 0), (2, 40)]) s' ν' _
  refine sw_i2lw (pn := 11) rfl rfl ?_
  refine sw_las (pn := 12) (l := 1) rfl rfl (by omega) (by rw [e40]; exact h40.1) (by rw [e40]; exact h40.2) (by omega) (by omega) ?_
  refine sw_p 2 (f' := (24, [some (2, 50), some (0, x1), some (0, x2), some (0, x3), some (2, 40), none], [(0, 0)])) rfl ?_
  exact sw_retI rfl rfl rfl (wr_ok hB hv)
theorem wx_132_8 (w : sw_w E d 73 (0, [some (2, 50), some (0, x1), some (0, x2), some (0, x3), none, none, none], []) s ν (sw_ex 8 s ν)) (h50 : s 50 (-1) = 100) (hB : mo_B ρ) (hR : pt_R s ν ρ f) (hu : un_r s ν ρ) : sw_w E (d + 1) 132 (0, [some (2, 50), some (0, x1), some (0, x2), some (0, x3), some (2, 40), none], []) s ν (wr_e 1 r s ν ρ f) := by
  refine sw_p 6 (f' := (7, [some (2, 50), some (0, x1), some (0, x2), some (0, x3), some (2, 40), none], [(0, x3), (0, x2), (0, x1), (2, 50), (0, 0), (2, 40)])) rfl ?_
  refine sw_cvh (pn := 10) (q0 := mj_Lw_request) (q := mj_PT_request) (p := 50) (as2 := [(0, x1), (0, x2), (0, x3)]) (L2 := [some (2, 50), some (0, x1), some (0, x2), some (0, x3), none, none, none]) (rest := [(0, 0), (2, 40)]) rfl rfl rfl (by decide) rfl rfl rfl rfl rfl h50 w (fun v s' ν' hv => nomatch hv.1) (fun c s' ν' hv => ?_)
  obtain ⟨hv1, hv2, hv3⟩ := hv
  cases hv1
  rw [hv2, hv3]
  exact ⟨15, 18, 1, rfl, fun A a => ⟨_, rfl⟩, rfl, rfl, wr_ex hB hR hu (by decide)⟩
theorem wx_132_9 (w : sw_w E d 73 (0, [some (2, 50), some (0, x1), some (0, x2), some (0, x3), none, none, none], []) s ν (sw_ex 9 s ν)) (h50 : s 50 (-1) = 100) (hB : mo_B ρ) (hR : pt_R s ν ρ f) (hu : un_r s ν ρ) : sw_w E (d + 1) 132 (0, [some (2, 50), some (0, x1), some (0, x2), some (0, x3), some (2, 40), none], []) s ν (wr_e 2 r s ν ρ f) := by
  refine sw_p 6 (f' := (7, [some (2, 50), some (0, x1), some (0, x2), some (0, x3), some (2, 40), none], [(0, x3), (0, x2), (0, x1), (2, 50), (0, 0), (2, 40)])) rfl ?_
  refine sw_cvh (pn := 10) (q0 := mj_Lw_request) (q := mj_PT_request) (p := 50) (as2 := [(0, x1), (0, x2), (0, x3)]) (L2 := [some (2, 50), some (0, x1), some (0, x2), some (0, x3), none, none, none]) (rest := [(0, 0), (2, 40)]) rfl rfl rfl (by decide) rfl rfl rfl rfl rfl h50 w (fun v s' ν' hv => nomatch hv.1) (fun c s' ν' hv => ?_)
  obtain ⟨hv1, hv2, hv3⟩ := hv
  cases hv1
  rw [hv2, hv3]
  exact ⟨19, 22, 2, rfl, fun A a => ⟨_, rfl⟩, rfl, rfl, wr_ex hB hR hu (by decide)⟩
theorem ww_133 (w : sw_w E d 74 (0, [some (2, 50), some (0, x1)], []) s ν (cc_v s ν ρ' f' (0, r))) (h40 : s 40 (-1) = 2 ∧ s 40 (-2) = 1) (h50 : s 50 (-1) = 100) (hr : r = 0 ∨ r = 1) (hB : mo_B ρ') : sw_w E (d + 1) 133 (0, [some (2, 50), some (0, x1), some (2, 40), none], []) s ν (wr_e 0 r s ν ρ' f') := by
  refine sw_p 4 (f' := (4, [some (2, 50), some (0, x1), some (2, 40), none], [(0, x1), (2, 50), (0, 0), (2, 40)])) rfl ?_
  refine sw_cvh (pn := 7) (q0 := mj_Lw_work) (q := mj_PT_work) (p := 50) (as2 := [(0, x1)]) (L2 := [some (2, 50), some (0, x1)]) (rest := [(0, 0), (2, 40)]) rfl rfl rfl (by decide) rfl rfl rfl rfl rfl h50 w (fun v s' ν' hv => ?_) (fun c s' ν' hv => nomatch hv.1)
  have hv0 := hv.1
  cases hv0
  have e40 := hv.2.1.1 40 (by decide) (by decide)
  show sw_w E _ 133 (7, [some (2, 50), some (0, x1), some (2, 40), none], [(0, r), (0, 0), (2, 40)]) s' ν' _
  rcases hr with hr | hr
  · subst hr
    refine sw_eq1 (pt := 14) (pn := 10) rfl rfl rfl (by omega) (fun _ => ?_) (fun h => absurd h (by decide))
    refine sw_p 1 (f' := (15, [some (2, 50), some (0, x1), some (2, 40), none], [(1, 0), (0, 0), (2, 40)])) rfl ?_
    refine sw_las (pn := 16) (l := 1) rfl rfl (by omega) (by rw [e40]; exact h40.1) (by rw [e40]; exact h40.2) (by omega) (by omega) ?_
    refine sw_p 2 (f' := (23, [some (2, 50), some (0, x1), some (2, 40), none], [(0, 0)])) rfl ?_
    exact sw_retI rfl rfl rfl (wr_ok hB hv)
  · subst hr
    refine sw_eq1 (pt := 14) (pn := 10) rfl rfl rfl (by omega) (fun h => absurd h (by decide)) (fun _ => ?_)
    refine sw_p 2 (f' := (15, [some (2, 50), some (0, x1), some (2, 40), none], [(1, 1), (0, 0), (2, 40)])) rfl ?_
    refine sw_las (pn := 16) (l := 1) rfl rfl (by omega) (by rw [e40]; exact h40.1) (by rw [e40]; exact h40.2) (by omega) (by omega) ?_
    refine sw_p 2 (f' := (23, [some (2, 50), some (0, x1), some (2, 40), none], [(0, 0)])) rfl ?_
    exact sw_retI rfl rfl rfl (wr_ok hB hv)
theorem wx_133_8 (w : sw_w E d 74 (0, [some (2, 50), some (0, x1)], []) s ν (sw_ex 8 s ν)) (h50 : s 50 (-1) = 100) (hB : mo_B ρ) (hR : pt_R s ν ρ f) (hu : un_r s ν ρ) : sw_w E (d + 1) 133 (0, [some (2, 50), some (0, x1), some (2, 40), none], []) s ν (wr_e 1 r s ν ρ f) := by
  refine sw_p 4 (f' := (4, [some (2, 50), some (0, x1), some (2, 40), none], [(0, x1), (2, 50), (0, 0), (2, 40)])) rfl ?_
  refine sw_cvh (pn := 7) (q0 := mj_Lw_work) (q := mj_PT_work) (p := 50) (as2 := [(0, x1)]) (L2 := [some (2, 50), some (0, x1)]) (rest := [(0, 0), (2, 40)]) rfl rfl rfl (by decide) rfl rfl rfl rfl rfl h50 w (fun v s' ν' hv => nomatch hv.1) (fun c s' ν' hv => ?_)
  obtain ⟨hv1, hv2, hv3⟩ := hv
  cases hv1
  rw [hv2, hv3]
  exact ⟨19, 21, 1, rfl, fun A a => ⟨_, rfl⟩, rfl, rfl, wr_ex hB hR hu (by decide)⟩
theorem ww_134 (w : sw_w E d 75 (0, [some (2, 50), some (0, x1)], []) s ν (cc_v s ν ρ' f' (1, r))) (h40 : s 40 (-1) = 2 ∧ s 40 (-2) = 1) (h50 : s 50 (-1) = 100) (hB : mo_B ρ') : sw_w E (d + 1) 134 (0, [some (2, 50), some (0, x1), some (2, 40), none], []) s ν (wr_e 0 r s ν ρ' f') := by
  refine sw_p 4 (f' := (4, [some (2, 50), some (0, x1), some (2, 40), none], [(0, x1), (2, 50), (0, 0), (2, 40)])) rfl ?_
  refine sw_cvh (pn := 7) (q0 := mj_Lw_result) (q := mj_PT_result) (p := 50) (as2 := [(0, x1)]) (L2 := [some (2, 50), some (0, x1)]) (rest := [(0, 0), (2, 40)]) rfl rfl rfl (by decide) rfl rfl rfl rfl rfl h50 w (fun v s' ν' hv => ?_) (fun c s' ν' hv => nomatch hv.1)
  have hv0 := hv.1
  cases hv0
  have e40 := hv.2.1.1 40 (by decide) (by decide)
  show sw_w E _ 134 (7, [some (2, 50), some (0, x1), some (2, 40), none], [(1, r), (0, 0), (2, 40)]) s' ν' _
  refine sw_las (pn := 8) (l := 1) rfl rfl (by omega) (by rw [e40]; exact h40.1) (by rw [e40]; exact h40.2) (by omega) (by omega) ?_
  refine sw_p 2 (f' := (15, [some (2, 50), some (0, x1), some (2, 40), none], [(0, 0)])) rfl ?_
  exact sw_retI rfl rfl rfl (wr_ok hB hv)
theorem wx_134_8 (w : sw_w E d 75 (0, [some (2, 50), some (0, x1)], []) s ν (sw_ex 8 s ν)) (h50 : s 50 (-1) = 100) (hB : mo_B ρ) (hR : pt_R s ν ρ f) (hu : un_r s ν ρ) : sw_w E (d + 1) 134 (0, [some (2, 50), some (0, x1), some (2, 40), none], []) s ν (wr_e 1 r s ν ρ f) := by
  refine sw_p 4 (f' := (4, [some (2, 50), some (0, x1), some (2, 40), none], [(0, x1), (2, 50), (0, 0), (2, 40)])) rfl ?_
  refine sw_cvh (pn := 7) (q0 := mj_Lw_result) (q := mj_PT_result) (p := 50) (as2 := [(0, x1)]) (L2 := [some (2, 50), some (0, x1)]) (rest := [(0, 0), (2, 40)]) rfl rfl rfl (by decide) rfl rfl rfl rfl rfl h50 w (fun v s' ν' hv => nomatch hv.1) (fun c s' ν' hv => ?_)
  obtain ⟨hv1, hv2, hv3⟩ := hv
  cases hv1
  rw [hv2, hv3]
  exact ⟨11, 13, 1, rfl, fun A a => ⟨_, rfl⟩, rfl, rfl, wr_ex hB hR hu (by decide)⟩
theorem ww_135 (w : sw_w E d 76 (0, [some (2, 50), some (0, x1), some (0, x2), none], []) s ν (cc_v s ν ρ' f' (0, r))) (h40 : s 40 (-1) = 2 ∧ s 40 (-2) = 1) (h50 : s 50 (-1) = 100) (hB : mo_B ρ') : sw_w E (d + 1) 135 (0, [some (2, 50), some (0, x1), some (0, x2), some (2, 40), none], []) s ν (wr_e 0 (Int.bmod r 4294967296) s ν ρ' f') := by
  refine sw_p 5 (f' := (5, [some (2, 50), some (0, x1), some (0, x2), some (2, 40), none], [(0, x2), (0, x1), (2, 50), (0, 0), (2, 40)])) rfl ?_
  refine sw_cvh (pn := 8) (q0 := mj_Lw_card) (q := mj_PT_card) (p := 50) (as2 := [(0, x1), (0, x2)]) (L2 := [some (2, 50), some (0, x1), some (0, x2), none]) (rest := [(0, 0), (2, 40)]) rfl rfl rfl (by decide) rfl rfl rfl rfl rfl h50 w (fun v s' ν' hv => ?_) (fun c s' ν' hv => nomatch hv.1)
  have hv0 := hv.1
  cases hv0
  have e40 := hv.2.1.1 40 (by decide) (by decide)
  show sw_w E _ 135 (8, [some (2, 50), some (0, x1), some (0, x2), some (2, 40), none], [(0, r), (0, 0), (2, 40)]) s' ν' _
  refine sw_i2lw (pn := 9) rfl rfl ?_
  refine sw_las (pn := 10) (l := 1) rfl rfl (by omega) (by rw [e40]; exact h40.1) (by rw [e40]; exact h40.2) (by omega) (by omega) ?_
  refine sw_p 2 (f' := (18, [some (2, 50), some (0, x1), some (0, x2), some (2, 40), none], [(0, 0)])) rfl ?_
  exact sw_retI rfl rfl rfl (wr_ok hB hv)
theorem wx_135_8 (w : sw_w E d 76 (0, [some (2, 50), some (0, x1), some (0, x2), none], []) s ν (sw_ex 8 s ν)) (h50 : s 50 (-1) = 100) (hB : mo_B ρ) (hR : pt_R s ν ρ f) (hu : un_r s ν ρ) : sw_w E (d + 1) 135 (0, [some (2, 50), some (0, x1), some (0, x2), some (2, 40), none], []) s ν (wr_e 1 r s ν ρ f) := by
  refine sw_p 5 (f' := (5, [some (2, 50), some (0, x1), some (0, x2), some (2, 40), none], [(0, x2), (0, x1), (2, 50), (0, 0), (2, 40)])) rfl ?_
  refine sw_cvh (pn := 8) (q0 := mj_Lw_card) (q := mj_PT_card) (p := 50) (as2 := [(0, x1), (0, x2)]) (L2 := [some (2, 50), some (0, x1), some (0, x2), none]) (rest := [(0, 0), (2, 40)]) rfl rfl rfl (by decide) rfl rfl rfl rfl rfl h50 w (fun v s' ν' hv => nomatch hv.1) (fun c s' ν' hv => ?_)
  obtain ⟨hv1, hv2, hv3⟩ := hv
  cases hv1
  rw [hv2, hv3]
  exact ⟨13, 16, 1, rfl, fun A a => ⟨_, rfl⟩, rfl, rfl, wr_ex hB hR hu (by decide)⟩
theorem ww_136 (w : sw_w E d 77 (0, [some (2, 50), some (0, x1), some (0, x2), none], []) s ν (cc_v s ν ρ' f' (0, r))) (h40 : s 40 (-1) = 2 ∧ s 40 (-2) = 1) (h50 : s 50 (-1) = 100) (hB : mo_B ρ') : sw_w E (d + 1) 136 (0, [some (2, 50), some (0, x1), some (0, x2), some (2, 40), none], []) s ν (wr_e 0 (Int.bmod r 4294967296) s ν ρ' f') := by
  refine sw_p 5 (f' := (5, [some (2, 50), some (0, x1), some (0, x2), some (2, 40), none], [(0, x2), (0, x1), (2, 50), (0, 0), (2, 40)])) rfl ?_
  refine sw_cvh (pn := 8) (q0 := mj_Lw_range) (q := mj_PT_range) (p := 50) (as2 := [(0, x1), (0, x2)]) (L2 := [some (2, 50), some (0, x1), some (0, x2), none]) (rest := [(0, 0), (2, 40)]) rfl rfl rfl (by decide) rfl rfl rfl rfl rfl h50 w (fun v s' ν' hv => ?_) (fun c s' ν' hv => nomatch hv.1)
  have hv0 := hv.1
  cases hv0
  have e40 := hv.2.1.1 40 (by decide) (by decide)
  show sw_w E _ 136 (8, [some (2, 50), some (0, x1), some (0, x2), some (2, 40), none], [(0, r), (0, 0), (2, 40)]) s' ν' _
  refine sw_i2lw (pn := 9) rfl rfl ?_
  refine sw_las (pn := 10) (l := 1) rfl rfl (by omega) (by rw [e40]; exact h40.1) (by rw [e40]; exact h40.2) (by omega) (by omega) ?_
  refine sw_p 2 (f' := (18, [some (2, 50), some (0, x1), some (0, x2), some (2, 40), none], [(0, 0)])) rfl ?_
  exact sw_retI rfl rfl rfl (wr_ok hB hv)
theorem wx_136_8 (w : sw_w E d 77 (0, [some (2, 50), some (0, x1), some (0, x2), none], []) s ν (sw_ex 8 s ν)) (h50 : s 50 (-1) = 100) (hB : mo_B ρ) (hR : pt_R s ν ρ f) (hu : un_r s ν ρ) : sw_w E (d + 1) 136 (0, [some (2, 50), some (0, x1), some (0, x2), some (2, 40), none], []) s ν (wr_e 1 r s ν ρ f) := by
  refine sw_p 5 (f' := (5, [some (2, 50), some (0, x1), some (0, x2), some (2, 40), none], [(0, x2), (0, x1), (2, 50), (0, 0), (2, 40)])) rfl ?_
  refine sw_cvh (pn := 8) (q0 := mj_Lw_range) (q := mj_PT_range) (p := 50) (as2 := [(0, x1), (0, x2)]) (L2 := [some (2, 50), some (0, x1), some (0, x2), none]) (rest := [(0, 0), (2, 40)]) rfl rfl rfl (by decide) rfl rfl rfl rfl rfl h50 w (fun v s' ν' hv => nomatch hv.1) (fun c s' ν' hv => ?_)
  obtain ⟨hv1, hv2, hv3⟩ := hv
  cases hv1
  rw [hv2, hv3]
  exact ⟨13, 16, 1, rfl, fun A a => ⟨_, rfl⟩, rfl, rfl, wr_ex hB hR hu (by decide)⟩
theorem ww_137 (w : sw_w E d 78 (0, [some (2, 50), some (0, x1), some (0, x2), none], []) s ν (cc_v s ν ρ' f' (0, r))) (h40 : s 40 (-1) = 2 ∧ s 40 (-2) = 1) (h50 : s 50 (-1) = 100) (hB : mo_B ρ') : sw_w E (d + 1) 137 (0, [some (2, 50), some (0, x1), some (0, x2), some (2, 40), none], []) s ν (wr_e 0 (Int.bmod r 4294967296) s ν ρ' f') := by
  refine sw_p 5 (f' := (5, [some (2, 50), some (0, x1), some (0, x2), some (2, 40), none], [(0, x2), (0, x1), (2, 50), (0, 0), (2, 40)])) rfl ?_
  refine sw_cvh (pn := 8) (q0 := mj_Lw_opening) (q := mj_PT_opening) (p := 50) (as2 := [(0, x1), (0, x2)]) (L2 := [some (2, 50), some (0, x1), some (0, x2), none]) (rest := [(0, 0), (2, 40)]) rfl rfl rfl (by decide) rfl rfl rfl rfl rfl h50 w (fun v s' ν' hv => ?_) (fun c s' ν' hv => nomatch hv.1)
  have hv0 := hv.1
  cases hv0
  have e40 := hv.2.1.1 40 (by decide) (by decide)
  show sw_w E _ 137 (8, [some (2, 50), some (0, x1), some (0, x2), some (2, 40), none], [(0, r), (0, 0), (2, 40)]) s' ν' _
  refine sw_i2lw (pn := 9) rfl rfl ?_
  refine sw_las (pn := 10) (l := 1) rfl rfl (by omega) (by rw [e40]; exact h40.1) (by rw [e40]; exact h40.2) (by omega) (by omega) ?_
  refine sw_p 2 (f' := (18, [some (2, 50), some (0, x1), some (0, x2), some (2, 40), none], [(0, 0)])) rfl ?_
  exact sw_retI rfl rfl rfl (wr_ok hB hv)
theorem wx_137_8 (w : sw_w E d 78 (0, [some (2, 50), some (0, x1), some (0, x2), none], []) s ν (sw_ex 8 s ν)) (h50 : s 50 (-1) = 100) (hB : mo_B ρ) (hR : pt_R s ν ρ f) (hu : un_r s ν ρ) : sw_w E (d + 1) 137 (0, [some (2, 50), some (0, x1), some (0, x2), some (2, 40), none], []) s ν (wr_e 1 r s ν ρ f) := by
  refine sw_p 5 (f' := (5, [some (2, 50), some (0, x1), some (0, x2), some (2, 40), none], [(0, x2), (0, x1), (2, 50), (0, 0), (2, 40)])) rfl ?_
  refine sw_cvh (pn := 8) (q0 := mj_Lw_opening) (q := mj_PT_opening) (p := 50) (as2 := [(0, x1), (0, x2)]) (L2 := [some (2, 50), some (0, x1), some (0, x2), none]) (rest := [(0, 0), (2, 40)]) rfl rfl rfl (by decide) rfl rfl rfl rfl rfl h50 w (fun v s' ν' hv => nomatch hv.1) (fun c s' ν' hv => ?_)
  obtain ⟨hv1, hv2, hv3⟩ := hv
  cases hv1
  rw [hv2, hv3]
  exact ⟨13, 16, 1, rfl, fun A a => ⟨_, rfl⟩, rfl, rfl, wr_ex hB hR hu (by decide)⟩
theorem ww_138 (w : sw_w E d 79 (0, [some (2, 50), some (0, x1)], []) s ν (cc_v s ν ρ' f' (0, r))) (h40 : s 40 (-1) = 2 ∧ s 40 (-2) = 1) (h50 : s 50 (-1) = 100) (hB : mo_B ρ') : sw_w E (d + 1) 138 (0, [some (2, 50), some (0, x1), some (2, 40), none], []) s ν (wr_e 0 (Int.bmod r 4294967296) s ν ρ' f') := by
  refine sw_p 4 (f' := (4, [some (2, 50), some (0, x1), some (2, 40), none], [(0, x1), (2, 50), (0, 0), (2, 40)])) rfl ?_
  refine sw_cvh (pn := 7) (q0 := mj_Lw_power) (q := mj_PT_power) (p := 50) (as2 := [(0, x1)]) (L2 := [some (2, 50), some (0, x1)]) (rest := [(0, 0), (2, 40)]) rfl rfl rfl (by decide) rfl rfl rfl rfl rfl h50 w (fun v s' ν' hv => ?_) (fun c s' ν' hv => nomatch hv.1)
  have hv0 := hv.1
  cases hv0
  have e40 := hv.2.1.1 40 (by decide) (by decide)
  show sw_w E _ 138 (7, [some (2, 50), some (0, x1), some (2, 40), none], [(0, r), (0, 0), (2, 40)]) s' ν' _
  refine sw_i2lw (pn := 8) rfl rfl ?_
  refine sw_las (pn := 9) (l := 1) rfl rfl (by omega) (by rw [e40]; exact h40.1) (by rw [e40]; exact h40.2) (by omega) (by omega) ?_
  refine sw_p 2 (f' := (16, [some (2, 50), some (0, x1), some (2, 40), none], [(0, 0)])) rfl ?_
  exact sw_retI rfl rfl rfl (wr_ok hB hv)
theorem wx_138_8 (w : sw_w E d 79 (0, [some (2, 50), some (0, x1)], []) s ν (sw_ex 8 s ν)) (h50 : s 50 (-1) = 100) (hB : mo_B ρ) (hR : pt_R s ν ρ f) (hu : un_r s ν ρ) : sw_w E (d + 1) 138 (0, [some (2, 50), some (0, x1), some (2, 40), none], []) s ν (wr_e 1 r s ν ρ f) := by
  refine sw_p 4 (f' := (4, [some (2, 50), some (0, x1), some (2, 40), none], [(0, x1), (2, 50), (0, 0), (2, 40)])) rfl ?_
  refine sw_cvh (pn := 7) (q0 := mj_Lw_power) (q := mj_PT_power) (p := 50) (as2 := [(0, x1)]) (L2 := [some (2, 50), some (0, x1)]) (rest := [(0, 0), (2, 40)]) rfl rfl rfl (by decide) rfl rfl rfl rfl rfl h50 w (fun v s' ν' hv => nomatch hv.1) (fun c s' ν' hv => ?_)
  obtain ⟨hv1, hv2, hv3⟩ := hv
  cases hv1
  rw [hv2, hv3]
  exact ⟨12, 14, 1, rfl, fun A a => ⟨_, rfl⟩, rfl, rfl, wr_ex hB hR hu (by decide)⟩
theorem ww_139 (w : sw_w E d 80 (0, [some (2, 50), some (0, x1), some (0, x2), none], []) s ν (cc_v s ν ρ' f' (0, r))) (h40 : s 40 (-1) = 2 ∧ s 40 (-2) = 1) (h50 : s 50 (-1) = 100) (hB : mo_B ρ') : sw_w E (d + 1) 139 (0, [some (2, 50), some (0, x1), some (0, x2), some (2, 40), none], []) s ν (wr_e 0 (Int.bmod r 4294967296) s ν ρ' f') := by
  refine sw_p 5 (f' := (5, [some (2, 50), some (0, x1), some (0, x2), some (2, 40), none], [(0, x2), (0, x1), (2, 50), (0, 0), (2, 40)])) rfl ?_
  refine sw_cvh (pn := 8) (q0 := mj_Lw_slot) (q := mj_PT_slot) (p := 50) (as2 := [(0, x1), (0, x2)]) (L2 := [some (2, 50), some (0, x1), some (0, x2), none]) (rest := [(0, 0), (2, 40)]) rfl rfl rfl (by decide) rfl rfl rfl rfl rfl h50 w (fun v s' ν' hv => ?_) (fun c s' ν' hv => nomatch hv.1)
  have hv0 := hv.1
  cases hv0
  have e40 := hv.2.1.1 40 (by decide) (by decide)
  show sw_w E _ 139 (8, [some (2, 50), some (0, x1), some (0, x2), some (2, 40), none], [(0, r), (0, 0), (2, 40)]) s' ν' _
  refine sw_i2lw (pn := 9) rfl rfl ?_
  refine sw_las (pn := 10) (l := 1) rfl rfl (by omega) (by rw [e40]; exact h40.1) (by rw [e40]; exact h40.2) (by omega) (by omega) ?_
  refine sw_p 2 (f' := (18, [some (2, 50), some (0, x1), some (0, x2), some (2, 40), none], [(0, 0)])) rfl ?_
  exact sw_retI rfl rfl rfl (wr_ok hB hv)
theorem wx_139_8 (w : sw_w E d 80 (0, [some (2, 50), some (0, x1), some (0, x2), none], []) s ν (sw_ex 8 s ν)) (h50 : s 50 (-1) = 100) (hB : mo_B ρ) (hR : pt_R s ν ρ f) (hu : un_r s ν ρ) : sw_w E (d + 1) 139 (0, [some (2, 50), some (0, x1), some (0, x2), some (2, 40), none], []) s ν (wr_e 1 r s ν ρ f) := by
  refine sw_p 5 (f' := (5, [some (2, 50), some (0, x1), some (0, x2), some (2, 40), none], [(0, x2), (0, x1), (2, 50), (0, 0), (2, 40)])) rfl ?_
  refine sw_cvh (pn := 8) (q0 := mj_Lw_slot) (q := mj_PT_slot) (p := 50) (as2 := [(0, x1), (0, x2)]) (L2 := [some (2, 50), some (0, x1), some (0, x2), none]) (rest := [(0, 0), (2, 40)]) rfl rfl rfl (by decide) rfl rfl rfl rfl rfl h50 w (fun v s' ν' hv => nomatch hv.1) (fun c s' ν' hv => ?_)
  obtain ⟨hv1, hv2, hv3⟩ := hv
  cases hv1
  rw [hv2, hv3]
  exact ⟨13, 16, 1, rfl, fun A a => ⟨_, rfl⟩, rfl, rfl, wr_ex hB hR hu (by decide)⟩
end LW1
