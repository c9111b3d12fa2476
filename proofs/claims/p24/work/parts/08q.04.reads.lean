section PR
/-! what the class's small methods answer -/
theorem p_kind (n : Nat) (v : Int32) (s : zS) : m_X5_kind n v s = some (zAt s 2 16 v, s) := by unfold m_X5_kind; rw [p_at (by decide)]; rfl
theorem p_first (n : Nat) (v : Int32) (s : zS) : m_X5_first n v s = some (zAt s 3 16 v, s) := by unfold m_X5_first; rw [p_at (by decide)]; rfl
theorem p_second (n : Nat) (v : Int32) (s : zS) : m_X5_second n v s = some (zAt s 4 16 v, s) := by unfold m_X5_second; rw [p_at (by decide)]; rfl
theorem p_given (n : Nat) (v : Int32) (s : zS) : m_X5_given n v s = some (zAt s 5 16 v, s) := by unfold m_X5_given; rw [p_at (by decide)]; rfl
theorem p_reach (n : Nat) (v : Int32) (s : zS) : m_X4_reach n v s = some (zAt s 7 16 v, s) := by unfold m_X4_reach; rw [p_at (by decide)]; rfl
theorem p_groupOf (n : Nat) (v : Int32) (s : zS) : m_X4_groupOf n v s = some (zAt s 8 16 v, s) := by unfold m_X4_groupOf; rw [p_at (by decide)]; rfl
theorem p_lineAt (n : Nat) (v : Int32) (s : zS) : m_X4_lineAt n v s = some (zAt s 9 16 v, s) := by unfold m_X4_lineAt; rw [p_at (by decide)]; rfl
theorem p_of (n : Nat) (v : Int32) (s : zS) : m_X6_of n v s = some (zAt s 22 16 v, s) := by unfold m_X6_of; rw [p_at (by decide)]; rfl
theorem p_ofb (n : Nat) (v : Int32) (s : zS) : m_X6b_of n v s = some (zAt s 24 16 v, s) := by unfold m_X6b_of; rw [p_at (by decide)]; rfl
theorem p_leftAt (n : Nat) (v : Int32) (s : zS) : m_X0_leftAt n v s = some (zAt s 14 8 v, s) := by unfold m_X0_leftAt; rw [p_at (by decide)]; rfl
theorem p_bestAt (n : Nat) (v : Int32) (s : zS) : m_X2_bestAt n v s = some (zAt s 20 5 v, s) := by unfold m_X2_bestAt; rw [p_at (by decide)]; rfl
def zBit (v : Int32) : Int32 := (1 : Int32) <<< (v &&& 31)
theorem p_bit (n : Nat) (v : Int32) (s : zS) : m_X7_bit n v s = some (zBit v, s) := rfl
def zHas (a v : Int32) : Int32 := if (a &&& zBit v) = 0 then 0 else 1
theorem p_has (n : Nat) (a v : Int32) (s : zS) : m_X7_has n a v s = some (zHas a v, s) := by
  unfold m_X7_has zHas
  rw [p_bit, zBd_e]
  split <;> rfl
theorem bt_bit {l i : Nat} (hl : l < 32) (hi : i < 32) : bt (zBit (nI l)) i = decide (i = l) := by
  unfold zBit
  rw [b_shl l hl 1 hi]
  have h1 : ∀ k, k < 32 → bt 1 k = decide (k = 0) := by decide +kernel
  rw [h1 (i - l) (by omega)]
  by_cases h : i = l
  · simp [h]
  · by_cases h2 : l ≤ i
    · have : ¬ i - l = 0 := by omega
      simp [h, h2, this]
    · simp [h, h2]
theorem and_bit {a : Int32} {l : Nat} (hl : l < 32) : (a &&& zBit (nI l)) = 0 ↔ bt a l = false := by
  constructor
  · intro h
    have h1 : bt (a &&& zBit (nI l)) l = bt 0 l := by rw [h]
    rw [b_and, bt_bit hl hl, b_0] at h1
    simpa using h1
  · intro h
    apply b_ext
    intro i hi
    rw [b_and, bt_bit hl hi, b_0]
    by_cases e : i = l
    · rw [e, h]; rfl
    · simp [e]
theorem has_n {a : Int32} {l : Nat} (hl : l < 32) : zHas a (nI l) = if bt a l = true then 1 else 0 := by
  unfold zHas
  by_cases h : bt a l = true
  · rw [if_pos h, if_neg (fun q => by rw [(and_bit hl).mp q] at h; cases h)]
  · rw [if_neg h, if_pos ((and_bit hl).mpr (by simpa using h))]
def zTwo (k : Int32) : Bool := k == 1 || k == 2 || k == 4 || k == 5 || k == 8
theorem p_takesFirst (n : Nat) (k : Int32) (s : zS) : m_X7_takesFirst n k s = some (if k = 0 then 0 else 1, s) := by
  unfold m_X7_takesFirst; split <;> rfl
theorem p_takesSecond (n : Nat) (k : Int32) (s : zS) : m_X7_takesSecond n k s = some (if zTwo k then 1 else 0, s) := by
  unfold m_X7_takesSecond m_X7_takesSecond_j26 zTwo
  by_cases h1 : k = 1
  · simp [h1, zRt]
  · by_cases h2 : k = 2
    · simp [h2, zRt]
    · by_cases h4 : k = 4
      · simp [h4, zRt]
      · by_cases h5 : k = 5
        · simp [h5, zRt]
        · by_cases h8 : k = 8
          · simp [h8, zRt]
          · simp [h1, h2, h4, h5, h8, zRt]
/-- the lines that a line uses; without its second one, if it is told -/
def zUse (k f g : Int32) (wo : Bool) : Int32 := (if k = 0 then 0 else zBit f) ||| (if zTwo k && !wo then zBit g else 0)
theorem or_0 (x : Int32) : x ||| 0 = x := by
  apply b_ext; intro i hi; rw [b_or, b_0]; simp
theorem zero_or (x : Int32) : 0 ||| x = x := by
  apply b_ext; intro i hi; rw [b_or, b_0]; simp
theorem p_uses (n : Nat) (v : Int32) (s : zS) : m_X5_uses n v s = some (zUse (zAt s 2 16 v) (zAt s 3 16 v) (zAt s 4 16 v) false, s) := by
  unfold m_X5_uses m_X5_uses_j25 zUse
  simp only [p_kind, p_first, p_second, p_takesFirst, p_takesSecond, p_bit, zBd_e]
  by_cases h1 : zAt s 2 16 v = 0 <;> by_cases h2 : zTwo (zAt s 2 16 v) = true <;> simp [h1, h2, zRt, or_0]
  · rw [h1] at h2; exact absurd h2 (by decide)
  · rw [show zTwo 0 = false by decide]; simp
theorem zn_id (x : Int32) (h : x = 0 ∨ x = 1) : vp_nar .boolean x = x := by
  rcases h with h | h <;> rw [h] <;> decide
theorem p_isCircular (n : Nat) (v : Int32) (s : zS) : m_X4_isCircular n v s = some (zHas (zAt s 7 16 v) v, s) := by
  unfold m_X4_isCircular
  simp only [p_reach, p_has, zBd_e]
  rw [zGd_e (zn_id _ (by unfold zHas; split <;> simp))]; rfl
theorem p_isReady (n : Nat) (v : Int32) (s : zS) : m_X4_isReady n v s = some (if zHas (s 6 4) v = 0 ∧ ((zAt s 7 16 v &&& (zAt s 8 16 v ^^^ (-1 : Int32))) &&& ((s 6 4) ^^^ (-1 : Int32))) = 0 then 1 else 0, s) := by
  unfold m_X4_isReady
  simp only [p_reach, p_groupOf, p_has, zBd_e]
  by_cases h1 : zHas (s 6 4) v = 0
  · by_cases h2 : ((zAt s 7 16 v &&& (zAt s 8 16 v ^^^ (-1 : Int32))) &&& ((s 6 4) ^^^ (-1 : Int32))) = 0
    · rw [if_pos h1, if_pos h2, if_pos ⟨h1, h2⟩]; rfl
    · rw [if_pos h1, if_neg h2, if_neg (fun q => h2 q.2)]; rfl
  · rw [if_neg h1, if_neg (fun q => h1 q.1)]; rfl
end PR
