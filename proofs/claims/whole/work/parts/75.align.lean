/-! alignment by masks, tried at every place -/
def st_al (z b : Nat) : Bool := decide (Int32.ofInt ((b : Int) + z - 1) &&& Int32.ofInt (-(z : Int)) = Int32.ofInt ((b : Int) + (-(b : Int)) % (z : Int)))
theorem st_al_1 : ((List.range 4097).all fun b => st_al 1 b) = true := by decide +kernel
theorem st_al_2 : ((List.range 4097).all fun b => st_al 2 b) = true := by decide +kernel
theorem st_al_4 : ((List.range 4097).all fun b => st_al 4 b) = true := by decide +kernel
theorem st_al_8 : ((List.range 4097).all fun b => st_al 8 b) = true := by decide +kernel
theorem st_al_16 : ((List.range 4097).all fun b => st_al 16 b) = true := by decide +kernel
theorem st_al_32 : ((List.range 4097).all fun b => st_al 32 b) = true := by decide +kernel
theorem st_al_64 : ((List.range 4097).all fun b => st_al 64 b) = true := by decide +kernel
theorem st_al_128 : ((List.range 4097).all fun b => st_al 128 b) = true := by decide +kernel
theorem st_al_256 : ((List.range 4097).all fun b => st_al 256 b) = true := by decide +kernel
theorem st_al_512 : ((List.range 4097).all fun b => st_al 512 b) = true := by decide +kernel
theorem st_al_1024 : ((List.range 4097).all fun b => st_al 1024 b) = true := by decide +kernel
/-- a size: a power of two up to 1024 -/
def st_pw (z : Int) : Prop := z = 1 ∨ z = 2 ∨ z = 4 ∨ z = 8 ∨ z = 16 ∨ z = 32 ∨ z = 64 ∨ z = 128 ∨ z = 256 ∨ z = 512 ∨ z = 1024
theorem st_al_of {z b : Nat} (h : ((List.range 4097).all fun b => st_al z b) = true) (hb : b < 4097) : Int32.ofInt ((b : Int) + z - 1) &&& Int32.ofInt (-(z : Int)) = Int32.ofInt ((b : Int) + (-(b : Int)) % (z : Int)) := of_decide_eq_true (List.all_eq_true.mp h b (List.mem_range.mpr hb))
theorem st_mask {z b : Int} (hz : st_pw z) (hb : 0 ≤ b ∧ b ≤ 4096) : Int32.ofInt (b + z - 1) &&& Int32.ofInt (-z) = Int32.ofInt (b + (-b) % z) := by
  obtain ⟨n, rfl⟩ := Int.eq_ofNat_of_zero_le hb.1
  have hn : n < 4097 := by omega
  rcases hz with rfl | rfl | rfl | rfl | rfl | rfl | rfl | rfl | rfl | rfl | rfl
  · exact st_al_of st_al_1 hn
  · exact st_al_of st_al_2 hn
  · exact st_al_of st_al_4 hn
  · exact st_al_of st_al_8 hn
  · exact st_al_of st_al_16 hn
  · exact st_al_of st_al_32 hn
  · exact st_al_of st_al_64 hn
  · exact st_al_of st_al_128 hn
  · exact st_al_of st_al_256 hn
  · exact st_al_of st_al_512 hn
  · exact st_al_of st_al_1024 hn
