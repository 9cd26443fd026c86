/-! memories alike make the same call; what a call of the class leaves -/
def he_r (ν ν' : mm_T) : Prop := ∀ p, 29 ≤ p → ν' p = ν p
def n4_r (ρ ρ' : mm_T) : Prop := ∀ i, i = 1 ∨ i = 8 ∨ i = 12 ∨ i = 24 → ρ' 0 i = ρ 0 i
section CG3
variable {E : mv_E} {s s' ν ν' ν2 ρ ρ' : mm_T} {f : Int → Int} {d j : Nat} {g : mg_F} {a b c e i k l n o p r t u v w x y z : Int} {q : Int → Int} {Q : nm_O → mm_T → mm_T → Prop}
theorem rq_cc (h : rq_r ρ ν) : rq_r (mo_cd ρ z) (mo_cd ν y) := rq_tr (rq_sy (rq_cd rq_rfl)) (rq_cd h)
theorem rq_br (h : rq_r ρ ν) : rq_r (mo_br ρ b x l) (mo_br ν b x l) := by
  unfold mo_br
  rw [h.2 1 (by decide)]
  exact rq_u (rq_u (rq_u (rq_u (rq_cc h))))
theorem rq_ty (h : rq_r ρ ν) : rq_r (mo_ty ρ x y z w v) (mo_ty ν x y z w v) := by
  unfold mo_ty
  rw [h.2 8 (by decide)]
  exact rq_u (rq_u (rq_u (rq_u (rq_u (rq_u (rq_cc h))))))
theorem rq_pg (h : rq_r ρ ν) : rq_r (mo_pl ρ b x t) (mo_pl ν b x t) := by
  unfold mo_pl
  rw [h.2 12 (by decide)]
  exact rq_u (rq_u (rq_u (rq_u (rq_u (rq_u (rq_u (rq_u (rq_u (rq_u (rq_cc h))))))))))
theorem rq_nq (h : rq_r ρ ν) : rq_r (mo_rq ρ c x w) (mo_rq ν c x w) := by
  unfold mo_rq
  rw [h.2 24 (by decide)]
  exact rq_u (rq_u (rq_u (rq_u (rq_u (rq_cc h)))))
theorem rq_lv (h : rq_r ρ ν) : rq_r (mo_lv ρ c) (mo_lv ν c) := rq_u (rq_cc h)
theorem rq_pd (h : rq_r ρ ν) : mo_pd ν c = mo_pd ρ c := mo_pd_c (h.1 25 (by decide)) (h.1 28 (by decide)) c
theorem rq_wt (h : rq_r ρ ν) : mo_wt ν c = mo_wt ρ c := mo_wt_c (h.2 24 (by decide)) (h.1 25 (by decide)) (h.1 28 (by decide)) c
theorem rq_fi (h : rq_r ρ ν) : ∀ (n : Nat) (r : Int), mo_fi ν c r n = mo_fi ρ c r n := fun n => by
  induction n with
  | zero => intro r; rfl
  | succ n ih => intro r; rw [mo_fi, mo_fi, rq_pd h, ih]
theorem rq_ft (h : rq_r ρ ν) : mo_ft ν c = mo_ft ρ c := by
  unfold mo_ft
  rw [h.2 24 (by decide)]
  exact rq_fi h _ _
theorem rq_lw (h : rq_r ρ ν) : mo_lw ν c = mo_lw ρ c := by
  unfold mo_lw
  rw [h.1 19 (by decide), rq_fi (rq_lv h), (rq_lv h).2 24 (by decide)]
theorem rq_ll (h : rq_r ρ ν) : rq_r (mo_ls (mo_lv ρ c) c (mo_lw ρ c)) (mo_ls (mo_lv ν c) c (mo_lw ν c)) := by
  rw [rq_lw h]
  exact rq_ls (rq_lv h)
theorem rq_ln (h : rq_r ρ ν) : mo_lsn ν c w = mo_lsn ρ c w := by
  funext t
  unfold mo_lsn
  rw [h.1 25 (by decide), h.1 28 (by decide)]
theorem rq_lz (h : rq_r ρ ν) : sm_s (mo_lsn (mo_lv ν c) c (mo_lw ν c)) (mo_lv ν c 0 24).toNat = sm_s (mo_lsn (mo_lv ρ c) c (mo_lw ρ c)) (mo_lv ρ c 0 24).toNat := by
  rw [rq_lw h, rq_ln (rq_lv h), (rq_lv h).2 24 (by decide)]
theorem rq_pp (h : rq_r ρ ν) : rq_r (mo_rm (mo_pu ρ c) c 4) (mo_rm (mo_pu ν c) c 4) := rq_rm (rq_pu h)
theorem rq_pz (h : rq_r ρ ν) : sm_s (mo_lsn (mo_rm (mo_pu ν c) c 4) c (-1)) (mo_rm (mo_pu ν c) c 4 0 24).toNat = sm_s (mo_lsn (mo_rm (mo_pu ρ c) c 4) c (-1)) (mo_rm (mo_pu ρ c) c 4 0 24).toNat := by
  rw [rq_ln (rq_pp h), (rq_pp h).2 24 (by decide)]
theorem rq_wf (h : rq_r ρ ν) : rq_r (mo_wf ρ c t) (mo_wf ν c t) := by
  unfold mo_wf
  rw [h.1 20 (by decide), h.1 26 (by decide), h.1 27 (by decide)]
  exact rq_u (rq_u h)
theorem rq_wz (h : rq_r ρ ν) : wk_z ν c = wk_z ρ c := by
  unfold wk_z
  rw [h.1 19 (by decide), h.1 26 (by decide), rq_ft h]
theorem rq_wk (h : rq_r ρ ν) : rq_r (wk_f ρ c) (wk_f ν c) := by
  unfold wk_f
  rw [rq_wz h, rq_ft h]
  split
  · exact rq_wf (rq_u h)
  · exact rq_u h
theorem rq_wd (h : rq_r ρ ν) (hd : wk_d ρ c) : wk_d ν c := by
  unfold wk_d at hd ⊢
  rw [h.1 19 (by decide), h.1 15 (by decide), rq_wt h]
  exact hd
theorem rq_hit (h : rq_r ρ ν) : mo_hit ν a c k = mo_hit ρ a c k := by
  unfold mo_hit
  rw [h.1 17 (by decide), h.1 9 (by decide), h.1 13 (by decide)]
theorem rq_di (h : rq_r ρ ν) : ∀ (n : Nat) (r : Int), mo_di ν a c n r = mo_di ρ a c n r := fun n => by
  induction n with
  | zero => intro r; rfl
  | succ n ih => intro r; rw [mo_di, mo_di, rq_hit h, ih]
theorem rq_do (h : rq_r ρ ν) : ∀ (n : Nat) (c r : Int), mo_do ν a n c r = mo_do ρ a n c r := fun n => by
  induction n with
  | zero => intro c r; rfl
  | succ n ih => intro c r; rw [mo_do, mo_do, rq_di h, ih]
/-! rows from 29 on -/
theorem he_rfl : he_r ν ν := fun _ _ => rfl
theorem he_tr (h : he_r ν ν') (h2 : he_r ν' ν2) : he_r ν ν2 := fun p hp => (h2 p hp).trans (h p hp)
theorem he_u (h : p < 29) : he_r ν (mm_u ν p i z) := fun q hq => by
  funext k
  exact mm_u_ne (by omega)
theorem he_rg {lo hh : Int} {g : Int → Int} (h : p < 29) : he_r ν (rg_m ν p lo hh g) := fun q hq => by
  funext k
  exact rg_ne (by omega)
theorem he_hi (h : he_r ν ν') : hi_r ν ν' := fun p hp => h p (by omega)
theorem he_b (h : he_r ν ν') (hp : 29 ≤ p) (hb : mo_b1 ν p) : mo_b1 ν' p := by
  unfold mo_b1
  rw [h p hp]
  exact hb
theorem he_cd : he_r ν (mo_cd ν z) := he_u (by decide)
theorem he_rm : he_r ν (mo_rm ν c y) := he_tr (he_tr (he_tr (he_tr (he_u (by decide)) (he_u (by decide))) (he_rg (by decide))) (he_rg (by decide))) (he_u (by decide))
theorem he_ch : he_r ν (mo_ch ν x y) := he_rg (by decide)
theorem he_ls : he_r ν (mo_ls ν c w) := he_rg (by decide)
theorem he_br : he_r ν (mo_br ν b x l) := he_tr (he_tr (he_tr (he_tr he_cd (he_u (by decide))) (he_u (by decide))) (he_u (by decide))) (he_u (by decide))
theorem he_ty : he_r ν (mo_ty ν x y z w v) := he_tr (he_tr (he_tr (he_tr (he_tr (he_tr he_cd (he_u (by decide))) (he_u (by decide))) (he_u (by decide))) (he_u (by decide))) (he_u (by decide))) (he_u (by decide))
theorem he_pg : he_r ν (mo_pl ν b x t) := he_tr (he_tr (he_tr (he_tr (he_tr (he_tr (he_tr (he_tr (he_tr (he_tr he_cd (he_u (by decide))) (he_u (by decide))) (he_u (by decide))) (he_u (by decide))) (he_u (by decide))) (he_u (by decide))) (he_u (by decide))) (he_u (by decide))) (he_u (by decide))) (he_u (by decide))
theorem he_nq : he_r ν (mo_rq ν c x w) := he_tr (he_tr (he_tr (he_tr (he_tr he_cd (he_u (by decide))) (he_u (by decide))) (he_u (by decide))) (he_u (by decide))) (he_u (by decide))
theorem he_lv : he_r ν (mo_lv ν c) := he_tr he_cd (he_u (by decide))
theorem he_pu : he_r ν (mo_pu ν c) := by
  unfold mo_pu
  split
  · exact he_tr he_cd he_ch
  · exact he_cd
theorem he_wk : he_r ν (wk_f ν c) := by
  unfold wk_f
  split
  · exact he_tr (he_u (by decide)) (he_tr (he_u (by decide)) (he_u (by decide)))
  · exact he_u (by decide)
/-! how many there are of each -/
theorem n4_rfl : n4_r ν ν := fun _ _ => rfl
theorem n4_tr (h : n4_r ν ν') (h2 : n4_r ν' ν2) : n4_r ν ν2 := fun i hi => (h2 i hi).trans (h i hi)
theorem n4_u (h : ¬ (p = 0 ∧ (i = 1 ∨ i = 8 ∨ i = 12 ∨ i = 24))) : n4_r ν (mm_u ν p i z) := fun k hk => mm_u_ne (by omega)
theorem n4_rg {lo hh : Int} {g : Int → Int} (h : p ≠ 0) : n4_r ν (rg_m ν p lo hh g) := fun k hk => rg_ne (by omega)
theorem n4_cd : n4_r ν (mo_cd ν z) := n4_u (by decide)
theorem n4_rm : n4_r ν (mo_rm ν c y) := n4_tr (n4_tr (n4_tr (n4_tr (n4_u (by omega)) (n4_u (by omega))) (n4_rg (by decide))) (n4_rg (by decide))) (n4_u (by decide))
theorem n4_ch : n4_r ν (mo_ch ν x y) := n4_rg (by decide)
theorem n4_ls : n4_r ν (mo_ls ν c w) := n4_rg (by decide)
theorem n4_pl {g : Int → Int} : n4_r ν (pl_f ν c x e g) := fun k hk => by
  unfold pl_f
  rw [if_neg (by omega), if_neg (by omega), if_neg (by omega)]
theorem n4_me : ∀ (n : Nat) (ν : mm_T), n4_r ν (mo_me n ν)
  | 0, _ => n4_rfl
  | n + 1, ν => n4_tr (n4_u (by omega)) (n4_me n _)
theorem n4_pn : n4_r ν (mo_pn ν) := n4_tr (n4_me (ν 0 1).toNat ν) (fun k hk => by
  unfold mo_pn pn_f
  exact pn_ne (by decide) (by decide) (by decide))
theorem n4_ma : n4_r ν (ma_e ν) := n4_tr (n4_tr (n4_tr (fun k hk => ma_ne (by omega) (by omega)) n4_ch) (n4_u (by omega))) (n4_u (by decide))
theorem n4_g1 : ∀ (n : Nat) (c : Int) (X : mm_T × Int), n4_r X.1 (go_1 n c X).1
  | 0, _, _ => n4_rfl
  | n + 1, c, X => by
    rw [go_1]
    refine n4_tr ?_ (n4_g1 n (c + 1) _)
    by_cases h : X.1 15 c = 3 ∧ X.1 19 c = 0
    · rw [if_pos h]; exact n4_rm
    · rw [if_neg h]; exact n4_rfl
theorem n4_ck : n4_r ν (ck_f ν) := by
  unfold ck_f
  split
  · exact n4_tr (n4_u (by omega)) n4_rm
  · split
    · exact n4_tr (n4_tr n4_pl (n4_u (by omega))) (n4_u (by decide))
    · split
      · exact n4_tr (n4_u (by omega)) n4_rm
      · split
        · exact n4_tr (n4_u (by omega)) n4_rm
        · exact n4_tr (n4_u (by decide)) n4_ch
theorem n4_go (ν : mm_T) : n4_r ν (go_f ν).1 := by
  unfold go_f
  refine n4_tr (ν' := (go_0 ν).1) (n4_g1 (ν 0 12).toNat 0 (ν, 0)) ?_
  unfold go_2
  split
  · exact n4_rfl
  · split
    · exact n4_ck
    · split
      · exact n4_rfl
      · exact n4_tr n4_pn n4_ma
theorem n4_se : ∀ (n : Nat) (ν : mm_T), n4_r ν (se_f n ν).2
  | 0, _ => n4_rfl
  | n + 1, ν => by
    rw [se_f]
    split
    · exact n4_go ν
    · exact n4_tr (n4_go ν) (n4_se n _)
theorem n4_pu : n4_r ν (mo_pu ν c) := by
  unfold mo_pu
  split
  · exact n4_tr n4_cd n4_ch
  · exact n4_cd
theorem n4_wk : n4_r ν (wk_f ν c) := by
  unfold wk_f
  split
  · exact n4_tr (n4_u (by omega)) (n4_tr (n4_u (by omega)) (n4_u (by omega)))
  · exact n4_u (by omega)
theorem un_c (h : un_r s ν ρ) (h4 : n4_r ρ ρ') : un_r s ν' ρ' := by
  unfold un_r at h ⊢
  rw [h4 1 (by decide), h4 8 (by decide), h4 12 (by decide), h4 24 (by decide)]
  exact h
theorem R_hi (hB : mo_B ρ) (hR : pt_R s ν ρ f) (e : ∀ p, 50 ≤ p → ν' p = ν p) : pt_R s ν' ρ f := by
  have b1 := hB.1
  refine ⟨hR.sh, hR.br, ?_, ?_, hR.ty, ?_, hR.ca, ?_, ?_, hR.cs, ?_, ?_, ?_, ?_⟩
  · exact pt_Bn_c hR.bn rfl (fun b h1 h2 => ⟨by rw [e _ (by omega)], by rw [e _ (by omega)], by rw [e _ (by omega)], rfl, rfl⟩)
  · exact pt_Sl_c hR.sl rfl (fun b i h1 h2 h3 h4 => ⟨by rw [e _ (by omega)], by rw [e _ (by omega)], rfl⟩)
  · exact pt_Tn_c hR.tn rfl rfl (fun t h1 h2 => ⟨by rw [e _ (by omega)], fun k k0 k1 => ⟨by rw [e _ (by omega)], by rw [e _ (by omega)]⟩⟩)
  · refine pt_Cn_c hR.cn rfl (fun c h1 h2 h3 => ?_)
    unfold pt_Cf at h3 ⊢
    rw [e 53 (by omega), e (300 + c) (by omega)]
    exact h3
  · exact pt_Cr_c hR.cr rfl rfl (fun c k h1 h2 h3 h4 => ⟨by rw [e _ (by omega)], rfl, fun h5 => ⟨h5, rfl⟩⟩)
  · intro c i h1 h2 h3 h4
    rw [e (380 + c) (by omega)]
    exact hR.q c i h1 h2 h3 h4
  · exact pt_Rq_c hR.rq rfl (fun t h1 h2 => ⟨rfl, rfl, fun h => by rw [e _ (by omega)]; exact h⟩)
  · exact pt_L_c hR.li hB rfl (by rw [e _ (by omega)]) (by rw [e _ (by omega)]) (fun p t hp => by rw [e _ (by omega)])
  · exact pt_Z_c hR.z (fun i _ _ => by rw [e _ (by omega)]) rfl rfl rfl rfl rfl rfl
end CG3
