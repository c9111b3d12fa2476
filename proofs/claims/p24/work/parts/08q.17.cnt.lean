section PCn
/-! the number of lines in a group -/
theorem n_and (a b : Nat) : nI a &&& nI b = nI (a &&& b) := by
  apply Int32.toBitVec_inj.mp
  show BitVec.ofNat 32 a &&& BitVec.ofNat 32 b = BitVec.ofNat 32 (a &&& b)
  apply BitVec.eq_of_getLsbD_eq
  intro i hi
  rw [BitVec.getLsbD_and, BitVec.getLsbD_ofNat, BitVec.getLsbD_ofNat, BitVec.getLsbD_ofNat, Nat.testBit_and]
  simp [hi]
theorem bcI_n {v : Nat} (h : v < 65536) : bcI (nI v) = nI (swN v) := by
  have a1 : (v / 2) &&& 1431655765 ≤ v / 2 := Nat.and_le_left
  have e1 : nI v - ((((nI v).toUInt32 >>> ((1 : Int32).toUInt32 &&& Int32.toUInt32 31)).toInt32) &&& (1431655765 : Int32)) = nI (v - ((v / 2) &&& 1431655765)) := by
    rw [pk_ushrN (by omega) 1 1 rfl, show (1431655765 : Int32) = nI 1431655765 from rfl, n_and, show (2 : Nat) ^ 1 = 2 from rfl, n_subN (by omega)]
  have e2 : ∀ x, x < 65536 → (nI x &&& (858993459 : Int32)) + ((((nI x).toUInt32 >>> ((2 : Int32).toUInt32 &&& Int32.toUInt32 31)).toInt32) &&& (858993459 : Int32)) = nI ((x &&& 858993459) + ((x / 4) &&& 858993459)) := by
    intro x hx
    rw [pk_ushrN (by omega) 2 2 rfl, show (858993459 : Int32) = nI 858993459 from rfl, n_and, n_and, nI_add]
  have e3 : ∀ x, x < 131072 → (nI x + (((nI x).toUInt32 >>> ((4 : Int32).toUInt32 &&& Int32.toUInt32 31)).toInt32)) &&& (252645135 : Int32) = nI ((x + x / 16) &&& 252645135) := by
    intro x hx
    rw [pk_ushrN (by omega) 4 4 rfl, nI_add, show (252645135 : Int32) = nI 252645135 from rfl, n_and]
  have e4 : ∀ x, x < 1000000 → nI x + (((nI x).toUInt32 >>> ((8 : Int32).toUInt32 &&& Int32.toUInt32 31)).toInt32) = nI (x + x / 256) := by
    intro x hx
    rw [pk_ushrN (by omega) 8 8 rfl, nI_add]
  have e5 : ∀ x, x < 2000000 → nI x + (((nI x).toUInt32 >>> ((16 : Int32).toUInt32 &&& Int32.toUInt32 31)).toInt32) = nI (x + x / 65536) := by
    intro x hx
    rw [pk_ushrN (by omega) 16 16 rfl, nI_add]
  unfold bcI swN
  simp only
  generalize hy1 : v - ((v / 2) &&& 1431655765) = y1 at e1 ⊢
  rw [e1, e2 y1 (by omega)]
  have b2 : (y1 &&& 858993459) + ((y1 / 4) &&& 858993459) < 131072 := by
    have := Nat.and_le_left (n := y1) (m := 858993459)
    have := Nat.and_le_left (n := y1 / 4) (m := 858993459)
    omega
  generalize (y1 &&& 858993459) + ((y1 / 4) &&& 858993459) = y2 at b2 ⊢
  rw [e3 y2 b2]
  have b3 : (y2 + y2 / 16) &&& 252645135 < 1000000 := by
    have := Nat.and_le_left (n := y2 + y2 / 16) (m := 252645135)
    omega
  generalize (y2 + y2 / 16) &&& 252645135 = y3 at b3 ⊢
  rw [e4 y3 b3, e5 _ (by omega), show (63 : Int32) = nI 63 from rfl, n_and]
theorem cnt_sh (f : Nat → Bool) (n : Nat) : cnt f (n + 1) = (if f 0 then 1 else 0) + cnt (fun i => f (i + 1)) n := by
  induction n with
  | zero => simp [cnt]
  | succ n ih => rw [cnt, ih, cnt]; omega
theorem pcN_c : ∀ n v, pcN n v = cnt (fun i => v.testBit i) n := by
  intro n
  induction n with
  | zero => intro v; rfl
  | succ n ih =>
    intro v
    rw [pcN, ih, cnt_sh]
    congr 1
    · rw [Nat.testBit_zero]
      by_cases h : v % 2 = 1
      · simp [h]
      · have : v % 2 = 0 := by omega
        simp [this]
    · congr 1
      funext i
      rw [Nat.testBit_succ]
theorem bt_n {v i : Nat} (h : v < 65536) : bt (nI v) i = v.testBit i := by
  unfold bt
  show (BitVec.ofNat 32 v).getLsbD i = _
  rw [BitVec.getLsbD_ofNat]
  by_cases hi : i < 32
  · simp [hi]
  · rw [Nat.testBit_lt_two_pow (Nat.lt_of_lt_of_le h (Nat.le_trans (by decide : 65536 ≤ 2 ^ 16) (Nat.pow_le_pow_right (by omega) (by omega))))]
    simp
theorem bc_bits {x : Int32} (h : ∀ j, j < 32 → bt x j = true → j < 16) : bcI x = nI (cnt (bt x) 16) := by
  have hx : x = nI x.toBitVec.toNat := by
    apply Int32.toBitVec_inj.mp
    show x.toBitVec = BitVec.ofNat 32 x.toBitVec.toNat
    rw [BitVec.ofNat_toNat]; simp
  have hv : x.toBitVec.toNat < 65536 := by
    refine Nat.lt_pow_two_of_testBit (n := 16) _ (fun i hi => ?_)
    cases hb : x.toBitVec.toNat.testBit i with
    | false => rfl
    | true =>
      have hb' : bt x i = true := hb
      rcases Nat.lt_or_ge i 32 with h32 | h32
      · have := h i h32 hb'; omega
      · rw [b_big h32] at hb'; cases hb'
  generalize x.toBitVec.toNat = v at hx hv
  subst hx
  rw [bcI_n hv, sw_n hv, pcN_c]
  congr 2
  funext i
  exact (bt_n hv).symm
theorem cnt_len (f : Nat → Bool) : ∀ n, cnt f n = ((List.range n).filter f).length := by
  intro n
  induction n with
  | zero => rfl
  | succ n ih =>
    rw [cnt, ih, List.range_succ, List.filter_append, List.length_append]
    congr 1
    by_cases h : f n = true
    · simp [h]
    · simp [h]
theorem cnt_ex {f : Nat → Bool} {o : Nat → Nat} {p c : Nat} (hc : p + c ≤ 16) (ho : ∀ p, p < 16 → o p < 16) (hi : ∀ p q, p < 16 → q < 16 → o p = o q → p = q) (h1 : ∀ q, p ≤ q → q < p + c → f (o q) = true) (h2 : ∀ j, j < 16 → f j = true → ∃ q, p ≤ q ∧ q < p + c ∧ o q = j) : cnt f 16 = c := by
  rw [cnt_len]
  have nd : ((List.range c).map (fun i => o (p + i))).Nodup := by
    refine List.Pairwise.map _ (fun a b hab => hab) ?_
    refine List.Pairwise.imp_of_mem ?_ (List.nodup_range (n := c))
    intro a b ha hb hab e
    have := hi _ _ (by have := List.mem_range.mp ha; omega) (by have := List.mem_range.mp hb; omega) e
    omega
  have nf : ((List.range 16).filter f).Nodup := List.nodup_range.filter _
  have s1 : (List.range c).map (fun i => o (p + i)) ⊆ (List.range 16).filter f := by
    intro j hj
    obtain ⟨i, hi, rfl⟩ := List.mem_map.mp hj
    have := List.mem_range.mp hi
    exact List.mem_filter.mpr ⟨List.mem_range.mpr (ho _ (by omega)), h1 _ (by omega) (by omega)⟩
  have s2 : (List.range 16).filter f ⊆ (List.range c).map (fun i => o (p + i)) := by
    intro j hj
    obtain ⟨a, b⟩ := List.mem_filter.mp hj
    obtain ⟨q, q1, q2, q3⟩ := h2 j (List.mem_range.mp a) b
    exact List.mem_map.mpr ⟨q - p, List.mem_range.mpr (by omega), by rw [← q3]; congr 1; omega⟩
  have l1 := nd.length_le_of_subset s1
  have l2 := nf.length_le_of_subset s2
  rw [List.length_map, List.length_range] at l1 l2
  omega
end PCn
