/-! a type's ranges in their order are the ranges by falling size -/
theorem ff_flt {f : Int → Int} {x e : Int} : ∀ (l : List (Int × Int)) (g q : Int → Int), ff_s f x e l g q = ff_s f x e (l.filter fun a => decide (f a.2 = a.1)) g q
  | [], _, _ => rfl
  | (z, k) :: l, g, q => by
    by_cases h : f k = z
    · rw [List.filter_cons_of_pos (by simpa using h)]
      unfold ff_s
      rw [if_pos h, if_pos h, ff_flt l]
    · rw [List.filter_cons_of_neg (by simpa using h), ← ff_flt l]
      exact if_neg h
def od_g (a b c : Int) : Int → Int := fun k => if k = 0 then a else if k = 1 then b else c
def od_l (g : Int → Int) : List Int := [od_k g 0, od_k g 1, od_k g 2]
def od_ok (a b c : Int) : Bool := decide (((ff_l ff_z).filter fun y => decide (od_g a b c y.2 = y.1)) = ((od_l (od_g a b c)).filter fun k => decide (0 < od_g a b c k)).map fun k => (od_g a b c k, k))
def od_zs : List Int := [0, 1, 2, 4, 8, 16, 32, 64, 128, 256, 512, 1024]
theorem od_all : (od_zs.all fun a => od_zs.all fun b => od_zs.all fun c => od_ok a b c) = true := by decide +kernel
theorem od_mem {z : Int} (h : z = 0 ∨ st_pw z) : z ∈ od_zs := by
  rcases h with rfl | h
  · decide
  · rcases h with rfl | rfl | rfl | rfl | rfl | rfl | rfl | rfl | rfl | rfl | rfl <;> decide
theorem od_eqg {g : Int → Int} {k : Int} (h : k = 0 ∨ k = 1 ∨ k = 2) : od_g (g 0) (g 1) (g 2) k = g k := by
  rcases h with rfl | rfl | rfl <;> rfl
theorem od_k3 (g : Int → Int) (i : Int) : od_k g i = 0 ∨ od_k g i = 1 ∨ od_k g i = 2 := by
  unfold od_k
  split
  · omega
  · split <;> omega
theorem od_kg {g : Int → Int} (i : Int) : od_k (od_g (g 0) (g 1) (g 2)) i = od_k g i := rfl
theorem od_main {g : Int → Int} (h0 : g 0 = 0 ∨ st_pw (g 0)) (h1 : g 1 = 0 ∨ st_pw (g 1)) (h2 : g 2 = 0 ∨ st_pw (g 2)) : ((ff_l ff_z).filter fun y => decide (g y.2 = y.1)) = ((od_l g).filter fun k => decide (0 < g k)).map fun k => (g k, k) := by
  have h := List.all_eq_true.mp (List.all_eq_true.mp (List.all_eq_true.mp od_all _ (od_mem h0)) _ (od_mem h1)) _ (od_mem h2)
  have h := of_decide_eq_true h
  have hm : ∀ y ∈ ff_l ff_z, y.2 = 0 ∨ y.2 = 1 ∨ y.2 = 2 := by decide
  have e1 : ((ff_l ff_z).filter fun y => decide (g y.2 = y.1)) = ((ff_l ff_z).filter fun y => decide (od_g (g 0) (g 1) (g 2) y.2 = y.1)) := List.filter_congr (fun y hy => by rw [od_eqg (hm y hy)])
  have hl : ∀ k ∈ od_l g, k = 0 ∨ k = 1 ∨ k = 2 := by
    intro k hk
    unfold od_l at hk
    simp only [List.mem_cons, List.not_mem_nil, or_false] at hk
    rcases hk with rfl | rfl | rfl <;> exact od_k3 g _
  have e2 : od_l (od_g (g 0) (g 1) (g 2)) = od_l g := rfl
  rw [e1, h, e2]
  have e3 : ((od_l g).filter fun k => decide (0 < od_g (g 0) (g 1) (g 2) k)) = ((od_l g).filter fun k => decide (0 < g k)) := List.filter_congr (fun k hk => by rw [od_eqg (hl k hk)])
  rw [e3]
  refine List.map_congr_left (fun k hk => ?_)
  rw [od_eqg (hl k (List.mem_filter.mp hk).1)]
/-- the class's way: the ranges in their order -/
def cf_s (f : Int → Int) (x e : Int) : List Int → (Int → Int) → (Int → Int) → Option (Int → Int)
  | [], _, q => some q
  | k :: l, g, q => if 0 < f k then (if ff_p g (f k) x e < 0 then none else cf_s f x e l (mo_mkr (ff_p g (f k) x e) (ff_p g (f k) x e + f k) g) (fun i => if i = k then ff_p g (f k) x e else q i)) else cf_s f x e l g (fun i => if i = k then 0 else q i)
theorem cf_ff {f : Int → Int} {x e : Int} : ∀ (l : List Int) (g q q' : Int → Int), (cf_s f x e l g q = none ∧ ff_s f x e ((l.filter fun k => decide (0 < f k)).map fun k => (f k, k)) g q' = none) ∨ ∃ r r', cf_s f x e l g q = some r ∧ ff_s f x e ((l.filter fun k => decide (0 < f k)).map fun k => (f k, k)) g q' = some r' ∧ ∀ k, 0 < f k → r k = r' k ∨ (r k = q k ∧ r' k = q' k ∧ k ∉ l)
  | [], g, q, q' => Or.inr ⟨q, q', rfl, rfl, fun k _ => Or.inr ⟨rfl, rfl, List.not_mem_nil⟩⟩
  | k :: l, g, q, q' => by
    by_cases h : 0 < f k
    · rw [List.filter_cons_of_pos (by simpa using h), List.map_cons]
      by_cases h2 : ff_p g (f k) x e < 0
      · exact Or.inl ⟨(if_pos h).trans (if_pos h2), (if_pos rfl).trans (if_pos h2)⟩
      · have e1 : cf_s f x e (k :: l) g q = cf_s f x e l (mo_mkr (ff_p g (f k) x e) (ff_p g (f k) x e + f k) g) (fun i => if i = k then ff_p g (f k) x e else q i) := (if_pos h).trans (if_neg h2)
        have e2 : ff_s f x e ((f k, k) :: ((l.filter fun k => decide (0 < f k)).map fun k => (f k, k))) g q' = ff_s f x e ((l.filter fun k => decide (0 < f k)).map fun k => (f k, k)) (mo_mkr (ff_p g (f k) x e) (ff_p g (f k) x e + f k) g) (fun i => if i = k then ff_p g (f k) x e else q' i) := (if_pos rfl).trans (if_neg h2)
        rw [e1, e2]
        rcases cf_ff l (mo_mkr (ff_p g (f k) x e) (ff_p g (f k) x e + f k) g) (fun i => if i = k then ff_p g (f k) x e else q i) (fun i => if i = k then ff_p g (f k) x e else q' i) with h3 | ⟨r, r', h3, h4, h5⟩
        · exact Or.inl h3
        · refine Or.inr ⟨r, r', h3, h4, fun i hi => ?_⟩
          rcases h5 i hi with h6 | ⟨h6, h7, h8⟩
          · exact Or.inl h6
          · by_cases hik : i = k
            · rw [if_pos hik] at h6 h7
              exact Or.inl (h6.trans h7.symm)
            · rw [if_neg hik] at h6 h7
              exact Or.inr ⟨h6, h7, fun hm => (List.mem_cons.mp hm).elim hik h8⟩
    · rw [List.filter_cons_of_neg (by simpa using h)]
      have e1 : cf_s f x e (k :: l) g q = cf_s f x e l g (fun i => if i = k then 0 else q i) := if_neg h
      rw [e1]
      rcases cf_ff l g (fun i => if i = k then 0 else q i) q' with h3 | ⟨r, r', h3, h4, h5⟩
      · exact Or.inl h3
      · refine Or.inr ⟨r, r', h3, h4, fun i hi => ?_⟩
        rcases h5 i hi with h6 | ⟨h6, h7, h8⟩
        · exact Or.inl h6
        · by_cases hik : i = k
          · rw [hik] at hi; exact absurd hi h
          · rw [if_neg hik] at h6
            exact Or.inr ⟨h6, h7, fun hm => (List.mem_cons.mp hm).elim hik h8⟩
/-- every range has its place in the order -/
theorem od_in {g : Int → Int} {k : Int} (h0 : g 0 = 0 ∨ st_pw (g 0)) (h1 : g 1 = 0 ∨ st_pw (g 1)) (h2 : g 2 = 0 ∨ st_pw (g 2)) (hk : 0 ≤ k ∧ k < 3) (hp : 0 < g k) : k ∈ od_l g := by
  have e := od_main h0 h1 h2
  have hz : g k = 0 ∨ st_pw (g k) := by
    have : k = 0 ∨ k = 1 ∨ k = 2 := by omega
    rcases this with rfl | rfl | rfl
    · exact h0
    · exact h1
    · exact h2
  have hz : st_pw (g k) := by rcases hz with h | h; omega; exact h
  have hm : (g k, k) ∈ (ff_l ff_z).filter fun y => decide (g y.2 = y.1) := List.mem_filter.mpr ⟨ff_mem hz hk, by simp⟩
  rw [e] at hm
  obtain ⟨j, hj, ej⟩ := List.mem_map.mp hm
  have : j = k := congrArg Prod.snd ej
  rw [← this]
  exact (List.mem_filter.mp hj).1
theorem cf_r {ρ : mm_T} {c x e : Int} {q : Int → Int} (hB : mo_B ρ) (hc : 0 ≤ c ∧ c < 40) (hp : mo_p2s ρ) : (cf_s (fun k => ρ 9 (3 * ρ 13 c + k)) x e (od_l fun k => ρ 9 (3 * ρ 13 c + k)) (oc_m ρ (ρ 14 c) (100 + c)) q = none ∧ ff_r ρ c x e (fun _ => 0) = none) ∨ ∃ r r', cf_s (fun k => ρ 9 (3 * ρ 13 c + k)) x e (od_l fun k => ρ 9 (3 * ρ 13 c + k)) (oc_m ρ (ρ 14 c) (100 + c)) q = some r ∧ ff_r ρ c x e (fun _ => 0) = some r' ∧ ∀ k, 0 ≤ k → k < 3 → 0 < ρ 9 (3 * ρ 13 c + k) → r k = r' k := by
  have hcd := hB.cd c hc.1 hc.2
  have h0 := hp (3 * ρ 13 c + 0) (by omega) (by omega)
  have h1 := hp (3 * ρ 13 c + 1) (by omega) (by omega)
  have h2 := hp (3 * ρ 13 c + 2) (by omega) (by omega)
  have e1 : ff_r ρ c x e (fun _ => 0) = ff_s (fun k => ρ 9 (3 * ρ 13 c + k)) x e (((od_l fun k => ρ 9 (3 * ρ 13 c + k)).filter fun k => decide (0 < ρ 9 (3 * ρ 13 c + k))).map fun k => (ρ 9 (3 * ρ 13 c + k), k)) (oc_m ρ (ρ 14 c) (100 + c)) (fun _ => 0) := by
    unfold ff_r
    rw [ff_flt, od_main (g := fun k => ρ 9 (3 * ρ 13 c + k)) h0 h1 h2]
  rw [e1]
  rcases cf_ff (f := fun k => ρ 9 (3 * ρ 13 c + k)) (x := x) (e := e) (od_l fun k => ρ 9 (3 * ρ 13 c + k)) (oc_m ρ (ρ 14 c) (100 + c)) q (fun _ => 0) with h | ⟨r, r', h3, h4, h5⟩
  · exact Or.inl h
  · refine Or.inr ⟨r, r', h3, h4, fun k k0 k1 hk => ?_⟩
    rcases h5 k hk with h6 | ⟨_, _, h6⟩
    · exact h6
    · exact absurd (od_in (g := fun k => ρ 9 (3 * ρ 13 c + k)) h0 h1 h2 ⟨k0, k1⟩ hk) h6
