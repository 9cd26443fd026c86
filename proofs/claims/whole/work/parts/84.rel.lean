/-! the class's cells and the reference's memory: names: PlugTree 50, its arrays 51 52 53, list 54, stretches 55 58 61, places 64; bridge b: 100 + b, 110 + b, 120 + b; type t: 200 + t, 220 + t, 240 + t; card c: 300 + c, 340 + c, 380 + c; request t: 1000 + t -/
def pt_S (s : mm_T) : Prop := s 50 (-1) = 100 ∧ (s 50 0 = 51 ∧ s 51 (-1) = 3 ∧ s 51 (-2) = 8) ∧ (s 50 1 = 52 ∧ s 52 (-1) = 4 ∧ s 52 (-2) = 16) ∧ (s 50 2 = 53 ∧ s 53 (-1) = 5 ∧ s 53 (-2) = 40) ∧ (s 50 3 = 54 ∧ s 54 (-1) = 107) ∧ (s 50 4 = 55 ∧ st_sh s 55 56 57) ∧ (s 50 5 = 58 ∧ st_sh s 58 59 60) ∧ (s 50 6 = 61 ∧ st_sh s 61 62 63) ∧ (s 50 7 = 64 ∧ s 64 (-1) = 0 ∧ s 64 (-2) = 3)
def pt_Br (s ρ : mm_T) (f : Int → Int) : Prop := ∀ b, 0 ≤ b → b < ρ 0 1 → s (100 + b) (-1) = 101 ∧ s (100 + b) 0 = b ∧ s (100 + b) 1 = (if b = 0 then -1 else 100 + ρ 3 b) ∧ s (100 + b) 2 = ρ 4 b ∧ s (100 + b) 3 = f b ∧ (s (100 + b) 4 = 110 + b ∧ s (110 + b) (-1) = 3 ∧ s (110 + b) (-2) = 4) ∧ (s (100 + b) 5 = 120 + b ∧ s (120 + b) (-1) = 5 ∧ s (120 + b) (-2) = 4)
def pt_Bn (ν ρ : mm_T) : Prop := ∀ b, 0 ≤ b → b < ρ 0 1 → ν 51 b = 100 + b ∧ ν (100 + b) 6 = ρ 5 b ∧ ν (100 + b) 7 = ρ 6 b
def pt_Sl (ν ρ : mm_T) : Prop := ∀ b i, 0 ≤ b → b < ρ 0 1 → 0 ≤ i → i < 4 → ν (110 + b) i = (if 0 ≤ ρ 2 (4 * b + i) ∧ ρ 2 (4 * b + i) < 100 then 100 + ρ 2 (4 * b + i) else -1) ∧ ν (120 + b) i = (if 100 ≤ ρ 2 (4 * b + i) then 200 + ρ 2 (4 * b + i) else -1)
def pt_Ty (s ρ : mm_T) : Prop := ∀ t, 0 ≤ t → t < ρ 0 8 → s (200 + t) (-1) = 102 ∧ (s (200 + t) 0 = 220 + t ∧ s (220 + t) (-1) = 0 ∧ s (220 + t) (-2) = 3) ∧ (s (200 + t) 1 = 240 + t ∧ s (240 + t) (-1) = 0 ∧ s (240 + t) (-2) = 3) ∧ s (200 + t) 2 = ρ 10 t ∧ s (200 + t) 3 = ρ 11 t
/-- how many ranges are laid before the range k -/
def od_r (g : Int → Int) (k : Int) : Int := (if g 0 > g k ∨ (g 0 = g k ∧ 0 < k) then 1 else 0) + (if g 1 > g k ∨ (g 1 = g k ∧ 1 < k) then 1 else 0) + (if g 2 > g k ∨ (g 2 = g k ∧ 2 < k) then 1 else 0)
/-- the range that is laid as number i -/
def od_k (g : Int → Int) (i : Int) : Int := if od_r g 2 = i then 2 else if od_r g 1 = i then 1 else 0
def pt_Tn (ν ρ : mm_T) : Prop := ∀ t, 0 ≤ t → t < ρ 0 8 → ν 52 t = 200 + t ∧ ∀ k, 0 ≤ k → k < 3 → ν (220 + t) k = ρ 9 (3 * t + k) ∧ ν (240 + t) k = od_k (fun k => ρ 9 (3 * t + k)) k
def pt_Ca (s ρ : mm_T) : Prop := ∀ c, 0 ≤ c → c < ρ 0 12 → s (300 + c) (-1) = 103 ∧ s (300 + c) 0 = 100 + ρ 14 c ∧ (0 ≤ s (300 + c) 1 ∧ s (300 + c) 1 < 4) ∧ s (300 + c) 2 = 200 + ρ 13 c ∧ (s (300 + c) 3 = 340 + c ∧ s (340 + c) (-1) = 0 ∧ s (340 + c) (-2) = 3) ∧ (s (300 + c) 4 = 380 + c ∧ s (380 + c) (-1) = 6 ∧ s (380 + c) (-2) = 8)
def pt_Cn (ν ρ : mm_T) : Prop := ∀ c, 0 ≤ c → c < ρ 0 12 → ν 53 c = 300 + c ∧ ν (300 + c) 5 = c ∧ ν (300 + c) 6 = ρ 15 c ∧ ν (300 + c) 7 = ρ 16 c ∧ ν (300 + c) 8 = mo_wt ρ c ∧ ν (300 + c) 9 = ρ 19 c ∧ ν (300 + c) 10 = ρ 20 c
def pt_Cr (ν ρ : mm_T) : Prop := ∀ c k, 0 ≤ c → c < ρ 0 12 → 0 ≤ k → k < 3 → (0 ≤ ν (340 + c) k ∧ ν (340 + c) k ≤ 4096) ∧ (1 ≤ ρ 15 c ∧ ρ 15 c ≤ 3 → 0 < ρ 9 (3 * ρ 13 c + k) → ν (340 + c) k = ρ 17 (3 * c + k))
def pt_Cs (s ρ : mm_T) : Prop := ∀ c, 0 ≤ c → c < ρ 0 12 → ρ 15 c ≤ 3 → ρ 2 (4 * ρ 14 c + s (300 + c) 1) = 100 + c
def pt_Q (ν ρ : mm_T) : Prop := ∀ c i, 0 ≤ c → c < ρ 0 12 → 0 ≤ i → i < mo_wt ρ c → ∃ t, 0 ≤ t ∧ t < ρ 0 24 ∧ ν (380 + c) i = 1000 + t ∧ mo_pd ρ c t = 1 ∧ sm_s (mo_pd ρ c) t.toNat = i
def pt_Rq (s ν ρ : mm_T) : Prop := ∀ t, 0 ≤ t → t < ρ 0 24 → s (1000 + t) (-1) = 104 ∧ s (1000 + t) 0 = ρ 26 t ∧ s (1000 + t) 1 = ρ 27 t ∧ ν (1000 + t) 2 = ρ 28 t
/-- the arrays that the list of requests has one after the other: names and lengths -/
def lc_l : List (Int × Int) := [(70, 10), (71, 15), (72, 22), (73, 33), (74, 49), (75, 73), (76, 109), (77, 163), (78, 244), (79, 366), (80, 549)]
theorem lc_b : ∀ x ∈ lc_l, 70 ≤ x.1 ∧ x.1 ≤ 80 ∧ 10 ≤ x.2 ∧ x.2 ≤ 549 := by decide
def pt_L (s ν ρ : mm_T) : Prop := ν 54 1 = ρ 0 24 ∧ ((ν 54 0 = 9002 ∧ ρ 0 24 = 0) ∨ ((ν 54 0, s (ν 54 0) (-2)) ∈ lc_l ∧ s (ν 54 0) (-1) = 7 ∧ ρ 0 24 ≤ s (ν 54 0) (-2))) ∧ ∀ t, 0 ≤ t → t < ρ 0 24 → ν (ν 54 0) t = 1000 + t
theorem pt_L.w {s ν ρ : mm_T} (h : pt_L s ν ρ) : ν 54 0 = 9002 ∨ (70 ≤ ν 54 0 ∧ ν 54 0 < 100) := by
  rcases h.2.1 with h1 | h1
  · exact Or.inl h1.1
  · have := lc_b _ h1.1
    exact Or.inr ⟨this.1, by omega⟩
theorem pt_L.n {s ν ρ : mm_T} (h : pt_L s ν ρ) (h0 : 0 < ρ 0 24) : (70 ≤ ν 54 0 ∧ ν 54 0 < 100) ∧ s (ν 54 0) (-1) = 7 ∧ ρ 0 24 ≤ s (ν 54 0) (-2) ∧ s (ν 54 0) (-2) ≤ 1000 := by
  rcases h.2.1 with h1 | h1
  · omega
  · have := lc_b _ h1.1
    exact ⟨⟨this.1, by omega⟩, h1.2.1, h1.2.2, by omega⟩
def pt_Z (ν ρ : mm_T) : Prop := ν 50 8 = ρ 0 1 ∧ ν 50 9 = ρ 0 8 ∧ ν 50 10 = ρ 0 12 ∧ ν 50 11 = (if ρ 0 21 < 0 then -1 else 300 + ρ 0 21) ∧ ν 50 12 = ρ 0 22 ∧ ν 50 13 = ρ 0 23
def pt_R (s ν ρ : mm_T) (f : Int → Int) : Prop := pt_S s ∧ pt_Br s ρ f ∧ pt_Bn ν ρ ∧ pt_Sl ν ρ ∧ pt_Ty s ρ ∧ pt_Tn ν ρ ∧ pt_Ca s ρ ∧ pt_Cn ν ρ ∧ pt_Cr ν ρ ∧ pt_Cs s ρ ∧ pt_Q ν ρ ∧ pt_Rq s ν ρ ∧ pt_L s ν ρ ∧ pt_Z ν ρ
section RA
variable {s ν ρ : mm_T} {f : Int → Int}
theorem pt_R.sh (h : pt_R s ν ρ f) : pt_S s := h.1
theorem pt_R.br (h : pt_R s ν ρ f) : pt_Br s ρ f := h.2.1
theorem pt_R.bn (h : pt_R s ν ρ f) : pt_Bn ν ρ := h.2.2.1
theorem pt_R.sl (h : pt_R s ν ρ f) : pt_Sl ν ρ := h.2.2.2.1
theorem pt_R.ty (h : pt_R s ν ρ f) : pt_Ty s ρ := h.2.2.2.2.1
theorem pt_R.tn (h : pt_R s ν ρ f) : pt_Tn ν ρ := h.2.2.2.2.2.1
theorem pt_R.ca (h : pt_R s ν ρ f) : pt_Ca s ρ := h.2.2.2.2.2.2.1
theorem pt_R.cn (h : pt_R s ν ρ f) : pt_Cn ν ρ := h.2.2.2.2.2.2.2.1
theorem pt_R.cr (h : pt_R s ν ρ f) : pt_Cr ν ρ := h.2.2.2.2.2.2.2.2.1
theorem pt_R.cs (h : pt_R s ν ρ f) : pt_Cs s ρ := h.2.2.2.2.2.2.2.2.2.1
theorem pt_R.q (h : pt_R s ν ρ f) : pt_Q ν ρ := h.2.2.2.2.2.2.2.2.2.2.1
theorem pt_R.rq (h : pt_R s ν ρ f) : pt_Rq s ν ρ := h.2.2.2.2.2.2.2.2.2.2.2.1
theorem pt_R.li (h : pt_R s ν ρ f) : pt_L s ν ρ := h.2.2.2.2.2.2.2.2.2.2.2.2.1
theorem pt_R.z (h : pt_R s ν ρ f) : pt_Z ν ρ := h.2.2.2.2.2.2.2.2.2.2.2.2.2
end RA
/-- numbers of bridges and types that cards and slots name are numbers of such -/
def iv_K (ρ : mm_T) : Prop := (∀ c, 0 ≤ c → c < ρ 0 12 → ρ 14 c < ρ 0 1 ∧ ρ 13 c < ρ 0 8) ∧ (∀ i, 0 ≤ i → i < 32 → 100 ≤ ρ 2 i → ρ 2 i - 100 < ρ 0 12 ∧ ρ 14 (ρ 2 i - 100) = i / 4 ∧ ρ 15 (ρ 2 i - 100) ≤ 3)
/-- the invariant's first half -/
def iv_A (ρ : mm_T) (f : Int → Int) : Prop := mo_B ρ ∧ mo_C ρ ∧ tr_I ρ f ∧ mo_p2s ρ ∧ (∀ t, 0 ≤ t → t < 16 → ρ 11 t = 0 ∨ ρ 11 t = 1) ∧ iv_K ρ
