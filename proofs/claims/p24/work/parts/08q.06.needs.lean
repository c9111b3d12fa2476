section PN
/-! the reference lays what depends on what -/
theorem zif {α : Type} {p q : Prop} [Decidable p] [Decidable q] (h : p ↔ q) {a b : α} : (if p then a else b) = if q then a else b := by
  by_cases hp : p
  · rw [if_pos hp, if_pos (h.mp hp)]
  · rw [if_neg hp, if_neg (fun x => hp (h.mpr x))]
theorem and_1 (y : Int32) : y &&& 1 = if bt y 0 = true then 1 else 0 := by
  apply b_ext
  intro i hi
  have h1 : ∀ k, k < 32 → bt 1 k = decide (k = 0) := by decide +kernel
  rw [b_and, h1 i hi]
  by_cases h0 : i = 0
  · subst h0
    by_cases h : bt y 0 = true
    · rw [if_pos h, h]; decide
    · rw [if_neg h]
      rw [show bt y 0 = false by simpa using h]; decide
  · by_cases h : bt y 0 = true
    · rw [if_pos h, h1 i hi]; simp [h0]
    · rw [if_neg h, b_0]; simp [h0]
theorem tb_n {x : Int32} {l : Nat} (hl : l < 32) : ((x >>> (nI l &&& 31)) &&& (1 : Int32)) = if bt x l = true then 1 else 0 := by
  have e : bt (x >>> (nI l &&& 31)) 0 = bt x l := by
    rw [b_sshr l hl x (by decide), if_pos (show l + 0 < 32 by omega), Nat.add_zero]
  rw [and_1, e]
theorem tb_1 {x : Int32} {l : Nat} (hl : l < 32) : (((x >>> (nI l &&& 31)) &&& (1 : Int32)) = 1) ↔ bt x l = true := by
  rw [tb_n hl]; split
  · simp [*]
  · rename_i h; simp only [h]; decide
theorem tb_0 {x : Int32} {l : Nat} (hl : l < 32) : (((x >>> (nI l &&& 31)) &&& (1 : Int32)) = 0) ↔ ¬ bt x l = true := by
  rw [tb_n hl]; split
  · rename_i h; simp only [h]; decide
  · rename_i h; simp [h]
end PN
