/-! a new engine, in packed numbers -/
def eS0 : Nat := eSet (eSet 0 21 5 4294967295) 23 5 4294967295
theorem z0_is : z0 = cS 0 := by
  funext k j
  unfold z0 cS
  by_cases h : j < 16
  · rw [if_pos h, show Nat.shiftRight 0 (512 * k + 32 * j) = 0 from Nat.zero_shiftRight _]; rfl
  · rw [if_neg h]
theorem eS0_is : zU (zU z0 21 5 (-1 : Int32)) 23 5 (-1 : Int32) = cS eS0 := hSet (hSet z0_is (by decide) (by decide)) (by decide) (by decide)
