section PD
/-! lines as they may stand; what a line uses; how it moves -/
def zNt (v : Int32) : Nat := v.toNatClampNeg
def zWf (K F G : Nat → Int32) : Prop := ∀ i, i < 16 → (∃ a, a < 9 ∧ K i = nI a) ∧ (K i ≠ 0 → ∃ a, a < 16 ∧ F i = nI a) ∧ (zTwo (K i) = true → ∃ a, a < 16 ∧ G i = nI a) ∧ (K i = 3 → ∃ a, a ≤ 1000 ∧ G i = nI a)
theorem zN_n {a : Nat} (h : a < 2147483648) : zNt (nI a) = a := nI_cl h
theorem zWf_f {K F G : Nat → Int32} (h : zWf K F G) {i : Nat} (hi : i < 16) (hk : K i ≠ 0) : zNt (F i) < 16 ∧ F i = nI (zNt (F i)) := by
  obtain ⟨a, ha, e⟩ := (h i hi).2.1 hk
  rw [e, zN_n (by omega)]; exact ⟨ha, rfl⟩
theorem zWf_g {K F G : Nat → Int32} (h : zWf K F G) {i : Nat} (hi : i < 16) (hk : zTwo (K i) = true) : zNt (G i) < 16 ∧ G i = nI (zNt (G i)) := by
  obtain ⟨a, ha, e⟩ := (h i hi).2.2.1 hk
  rw [e, zN_n (by omega)]; exact ⟨ha, rfl⟩
theorem zTwo_ne {k : Int32} (h : zTwo k = true) : k ≠ 0 := by
  intro e; rw [e] at h; exact absurd h (by decide)
/-- what a line uses -/
def zUb (K F G : Nat → Int32) (wo : Bool) (i j : Nat) : Prop := (K i ≠ 0 ∧ j = zNt (F i)) ∨ (zTwo (K i) = true ∧ wo = false ∧ j = zNt (G i))
theorem use_bt {K F G : Nat → Int32} (h : zWf K F G) {i : Nat} (hi : i < 16) (wo : Bool) {j : Nat} (hj : j < 32) : bt (zUse (K i) (F i) (G i) wo) j = true ↔ zUb K F G wo i j := by
  unfold zUse zUb
  rw [b_or, Bool.or_eq_true_iff]
  refine or_congr ?_ ?_
  · by_cases hk : K i = 0
    · rw [if_pos hk, b_0]; simp [hk]
    · obtain ⟨h1, h2⟩ := zWf_f h hi hk
      rw [if_neg hk, h2, bt_bit (by omega) hj, ← h2]; simp [hk]
  · by_cases hk : zTwo (K i) = true
    · cases wo with
      | true => simp [b_0]
      | false =>
        obtain ⟨h1, h2⟩ := zWf_g h hi hk
        rw [if_pos (by simp [hk]), h2, bt_bit (by omega) hj, ← h2]; simp [hk]
    · rw [if_neg (by simp [hk]), b_0]; simp [hk]
theorem zUb_lt {K F G : Nat → Int32} (h : zWf K F G) {i : Nat} (hi : i < 16) {wo : Bool} {j : Nat} (hu : zUb K F G wo i j) : j < 16 := by
  rcases hu with ⟨h1, e⟩ | ⟨h1, _, e⟩
  · rw [e]; exact (zWf_f h hi h1).1
  · rw [e]; exact (zWf_g h hi h1).1
theorem and_0 {x y : Int32} : (x &&& y) = 0 ↔ ∀ j, j < 32 → ¬ (bt x j = true ∧ bt y j = true) := by
  constructor
  · intro h j hj hb
    have : bt (x &&& y) j = bt 0 j := by rw [h]
    rw [b_and, hb.1, hb.2, b_0] at this
    cases this
  · intro h
    apply b_ext
    intro j hj
    rw [b_and, b_0]
    have := h j hj
    cases ha : bt x j <;> cases hb : bt y j <;> simp_all
theorem andn_0 {x y : Int32} : (x &&& (y ^^^ (-1 : Int32))) = 0 ↔ ∀ j, j < 32 → bt x j = true → bt y j = true := by
  rw [and_0]
  constructor
  · intro h j hj hx
    have := h j hj
    rw [b_xor, b_m1 j hj] at this
    cases hy : bt y j
    · rw [hy] at this; exact absurd ⟨hx, rfl⟩ this
    · rfl
  · intro h j hj ⟨hx, hy⟩
    rw [b_xor, b_m1 j hj, h j hj hx] at hy
    cases hy
/-- whether a line goes along with a, when b goes the other way -/
def mvA (K F G : Nat → Int32) (a b : Nat → Bool) (k : Nat) : Bool := (decide (K k ≠ 0) && a (zNt (F k))) || (zTwo (K k) && (if K k = 2 then b (zNt (G k)) else a (zNt (G k))))
theorem dir_eq {K F G : Nat → Int32} (h : zWf K F G) {k : Nat} (hk : k < 16) (x y : Int32) : (¬ ((if K k = 2 then zBit (F k) else zUse (K k) (F k) (G k) false) &&& x) = 0 ∨ ¬ ((if K k = 2 then zBit (G k) else 0) &&& y) = 0) ↔ mvA K F G (bt x) (bt y) k = true := by
  unfold mvA
  have hb : ∀ (w : Int32) (m : Nat), m < 16 → (¬ (zBit (nI m) &&& w) = 0 ↔ bt w m = true) := by
    intro w m hm
    rw [Int32.and_comm, and_bit (by omega)]
    simp
  have h00 : ∀ w : Int32, (0 : Int32) &&& w = 0 := fun w => and_0.mpr (fun j _ q => by rw [b_0] at q; exact absurd q.1 (by decide))
  by_cases h2 : K k = 2
  · have hne : K k ≠ 0 := by rw [h2]; decide
    have ht : zTwo (K k) = true := by rw [h2]; decide
    obtain ⟨f1, f2⟩ := zWf_f h hk hne
    obtain ⟨g1, g2⟩ := zWf_g h hk ht
    rw [if_pos h2, if_pos h2, if_pos h2, f2, g2, hb x _ f1, hb y _ g1, ← f2, ← g2]
    simp [hne, ht]
  · rw [if_neg h2, if_neg h2, if_neg h2, h00]
    have : (¬ (zUse (K k) (F k) (G k) false &&& x) = 0) ↔ ((K k ≠ 0 ∧ bt x (zNt (F k)) = true) ∨ (zTwo (K k) = true ∧ bt x (zNt (G k)) = true)) := by
      rw [and_0]
      constructor
      · intro hq
        refine Classical.byContradiction (fun hn => hq (fun j hj ⟨q1, q2⟩ => hn ?_))
        rcases (use_bt h hk false hj).mp q1 with ⟨a1, a2⟩ | ⟨a1, _, a2⟩
        · exact Or.inl ⟨a1, a2 ▸ q2⟩
        · exact Or.inr ⟨a1, a2 ▸ q2⟩
      · rintro (⟨a1, a2⟩ | ⟨a1, a2⟩) hq
        · have := (zWf_f h hk a1).1
          exact hq _ (by omega) ⟨(use_bt h hk false (by omega)).mpr (Or.inl ⟨a1, rfl⟩), a2⟩
        · have := (zWf_g h hk a1).1
          exact hq _ (by omega) ⟨(use_bt h hk false (by omega)).mpr (Or.inr ⟨a1, rfl, rfl⟩), a2⟩
    rw [this]
    simp
theorem p_direct {n k : Nat} (hk : k < 16) {s : zS} (hw : zWf (s 2) (s 3) (s 4)) : ∃ s', m_X4_direct n (nI k) s = some (0, s') ∧ (∀ c, c ≠ 6 → s' c = s c) ∧ s' 6 3 = s 6 3 ∧ s' 6 4 = s 6 4 ∧ (∀ j, j < 32 → bt (s' 6 5) j = (bt (s 6 5) j || (decide (j = k) && mvA (s 2) (s 3) (s 4) (bt (s 6 5)) (bt (s 6 6)) k))) ∧ ∀ j, j < 32 → bt (s' 6 6) j = (bt (s 6 6) j || (decide (j = k) && mvA (s 2) (s 3) (s 4) (bt (s 6 6)) (bt (s 6 5)) k)) := by
  have last : ∀ (al ag : Int32), (¬ (al &&& s 6 5) = 0 ∨ ¬ (ag &&& s 6 6) = 0 ↔ mvA (s 2) (s 3) (s 4) (bt (s 6 5)) (bt (s 6 6)) k = true) → (¬ (al &&& s 6 6) = 0 ∨ ¬ (ag &&& s 6 5) = 0 ↔ mvA (s 2) (s 3) (s 4) (bt (s 6 6)) (bt (s 6 5)) k = true) → ∃ s', m_X4_direct_j53 n (nI k) al ag s = some (0, s') ∧ (∀ c, c ≠ 6 → s' c = s c) ∧ s' 6 3 = s 6 3 ∧ s' 6 4 = s 6 4 ∧ (∀ j, j < 32 → bt (s' 6 5) j = (bt (s 6 5) j || (decide (j = k) && mvA (s 2) (s 3) (s 4) (bt (s 6 5)) (bt (s 6 6)) k))) ∧ ∀ j, j < 32 → bt (s' 6 6) j = (bt (s 6 6) j || (decide (j = k) && mvA (s 2) (s 3) (s 4) (bt (s 6 6)) (bt (s 6 5)) k)) := by
    intro al ag e1 e2
    generalize mvA (s 2) (s 3) (s 4) (bt (s 6 5)) (bt (s 6 6)) k = A at e1 ⊢
    generalize mvA (s 2) (s 3) (s 4) (bt (s 6 6)) (bt (s 6 5)) k = B at e2 ⊢
    have t1 : m_X4_direct_j53 n (nI k) al ag s = m_X4_direct_j80 n (nI k) al ag (if A then 1 else 0) s := by
      unfold m_X4_direct_j53
      by_cases q1 : (al &&& s 6 5) = 0
      · rw [if_pos q1]
        by_cases q2 : (ag &&& s 6 6) = 0
        · rw [if_pos q2]
          have : ¬ A = true := fun h => by rcases e1.mpr h with h | h <;> exact h (by assumption)
          rw [if_neg this]
        · rw [if_neg q2, if_pos (e1.mp (Or.inr q2))]
      · rw [if_neg q1, if_pos (e1.mp (Or.inl q1))]
    have t2 : m_X4_direct_j80 n (nI k) al ag (if A then 1 else 0) s = m_X4_direct_j107 n (nI k) (if A then 1 else 0) (if B then 1 else 0) s := by
      unfold m_X4_direct_j80
      by_cases q1 : (al &&& s 6 6) = 0
      · rw [if_pos q1]
        by_cases q2 : (ag &&& s 6 5) = 0
        · rw [if_pos q2]
          have : ¬ B = true := fun h => by rcases e2.mpr h with h | h <;> exact h (by assumption)
          rw [if_neg this]
        · rw [if_neg q2, if_pos (e2.mp (Or.inr q2))]
      · rw [if_neg q1, if_pos (e2.mp (Or.inl q1))]
    rw [t1, t2]
    have bk : ∀ j, j < 32 → bt (zBit (nI k)) j = decide (j = k) := fun j hj => bt_bit (by omega) hj
    cases A <;> cases B
    · refine ⟨s, rfl, fun _ _ => rfl, rfl, rfl, fun j hj => by simp, fun j hj => by simp⟩
    · refine ⟨zU s 6 6 (s 6 6 ||| zBit (nI k)), rfl, fun c hc => zU_ne hc, zU_nj (by decide), zU_nj (by decide), fun j hj => by rw [zU_nj (show 5 ≠ 6 by decide)]; simp, fun j hj => by rw [zU_eq, b_or, bk j hj]; simp⟩
    · refine ⟨zU s 6 5 (s 6 5 ||| zBit (nI k)), rfl, fun c hc => zU_ne hc, zU_nj (by decide), zU_nj (by decide), fun j hj => by rw [zU_eq, b_or, bk j hj]; simp, fun j hj => by rw [zU_nj (show 6 ≠ 5 by decide)]; simp⟩
    · refine ⟨zU (zU s 6 5 (s 6 5 ||| zBit (nI k))) 6 6 (zU s 6 5 (s 6 5 ||| zBit (nI k)) 6 6 ||| zBit (nI k)), rfl, fun c hc => by rw [zU_ne hc, zU_ne hc], by rw [zU_nj (by decide), zU_nj (by decide)], by rw [zU_nj (by decide), zU_nj (by decide)], fun j hj => by rw [zU_nj (show 5 ≠ 6 by decide), zU_eq, b_or, bk j hj]; simp, fun j hj => by rw [zU_eq, zU_nj (show 6 ≠ 5 by decide), b_or, bk j hj]; simp⟩
  have d1 := dir_eq hw hk (s 6 5) (s 6 6)
  have d2 := dir_eq hw hk (s 6 6) (s 6 5)
  by_cases h2 : s 2 k = 2
  · rw [if_pos h2, if_pos h2] at d1 d2
    obtain ⟨s', e, r⟩ := last _ _ d1 d2
    refine ⟨s', ?_, r⟩
    unfold m_X4_direct m_X4_direct_j14 m_X4_direct_j35
    rw [p_kind, zBd_e, a16 hk, if_pos h2, if_neg (by decide), p_first, zBd_e, a16 hk, p_bit, zBd_e, if_neg (by decide), p_second, zBd_e, a16 hk, p_bit, zBd_e, e]
  · rw [if_neg h2, if_neg h2] at d1 d2
    obtain ⟨s', e, r⟩ := last _ _ d1 d2
    refine ⟨s', ?_, r⟩
    unfold m_X4_direct m_X4_direct_j14 m_X4_direct_j35
    rw [p_kind, zBd_e, a16 hk, if_neg h2, if_pos rfl, p_uses_n hk, zBd_e, if_pos rfl]
    exact e
/-- the one LIMIT of a group -/
def zOne (K : Nat → Int32) (v : Int32) (L : Nat) : Prop := L < 16 ∧ ∀ k, k < 16 → ((bt v k = true ∧ K k = 8) ↔ k = L)
theorem p_onlyLimit {n : Nat} (hn : 100 ≤ n) (v : Int32) (s : zS) : (∃ L, zOne (s 2) v L ∧ m_X4_onlyLimit n v s = some (nI L, s)) ∨ ((¬ ∃ L, zOne (s 2) v L) ∧ m_X4_onlyLimit n v s = some (-1, s)) := by
  have key := for_or (fun f i (w : Int32) => m_X4_onlyLimit_j5 n f v w (nI i) s) (fun i w => (w = -1 ∧ ∀ k, k < i → ¬ (bt v k = true ∧ s 2 k = 8)) ∨ ∃ L, L < i ∧ w = nI L ∧ ∀ k, k < i → ((bt v k = true ∧ s 2 k = 8) ↔ k = L)) 16 (fun r => (¬ ∃ L, zOne (s 2) v L) ∧ r = some (-1, s)) (by
    intro f i w hi hI
    by_cases hb : bt v i = true
    · by_cases h8 : s 2 i = 8
      · rcases hI with ⟨hw, hI⟩ | ⟨L, hL, hw, hI⟩
        · refine Or.inl ⟨nI i, Or.inr ⟨i, by omega, rfl, fun k hk => ?_⟩, ?_⟩
          · by_cases e : k = i
            · rw [e]; simp [hb, h8]
            · simp only [e, iff_false]; exact hI k (by omega)
          · show m_X4_onlyLimit_j5 n (f + 1) v w (nI i) s = _
            rw [m_X4_onlyLimit_j5, if_neg (n16 hi), p_has, zBd_e, has_n (by omega), if_pos hb, if_neg (by decide), p_kind, zBd_e, a16 hi, if_pos h8, if_pos hw, zLt_e, nI_s]
        · refine Or.inr ⟨?_, ?_⟩
          · rintro ⟨M, _, hM⟩
            have m1 := (hM i hi).mp ⟨hb, h8⟩
            have m2 := (hM L (by omega)).mp ((hI L hL).mpr rfl)
            omega
          · show m_X4_onlyLimit_j5 n (f + 1) v w (nI i) s = _
            rw [m_X4_onlyLimit_j5, if_neg (n16 hi), p_has, zBd_e, has_n (by omega), if_pos hb, if_neg (by decide), p_kind, zBd_e, a16 hi, if_pos h8, if_neg, ]
            · rfl
            · rw [hw]
              intro e
              exact nI_pos (n := L) (by omega) (by rw [e]; decide)
      · refine Or.inl ⟨w, ?_, ?_⟩
        · rcases hI with ⟨hw, hI⟩ | ⟨L, hL, hw, hI⟩
          · refine Or.inl ⟨hw, fun k hk => ?_⟩
            by_cases e : k = i
            · rw [e]; exact fun q => h8 q.2
            · exact hI k (by omega)
          · refine Or.inr ⟨L, by omega, hw, fun k hk => ?_⟩
            by_cases e : k = i
            · rw [e]
              exact ⟨fun q => absurd q.2 h8, fun q => by omega⟩
            · exact hI k (by omega)
        · show m_X4_onlyLimit_j5 n (f + 1) v w (nI i) s = _
          rw [m_X4_onlyLimit_j5, if_neg (n16 hi), p_has, zBd_e, has_n (by omega), if_pos hb, if_neg (by decide), p_kind, zBd_e, a16 hi, if_neg h8, zLt_e, nI_s]
    · refine Or.inl ⟨w, ?_, ?_⟩
      · rcases hI with ⟨hw, hI⟩ | ⟨L, hL, hw, hI⟩
        · refine Or.inl ⟨hw, fun k hk => ?_⟩
          by_cases e : k = i
          · rw [e]; exact fun q => hb q.1
          · exact hI k (by omega)
        · refine Or.inr ⟨L, by omega, hw, fun k hk => ?_⟩
          by_cases e : k = i
          · rw [e]
            exact ⟨fun q => absurd q.1 hb, fun q => by omega⟩
          · exact hI k (by omega)
      · show m_X4_onlyLimit_j5 n (f + 1) v w (nI i) s = _
        rw [m_X4_onlyLimit_j5, if_neg (n16 hi), p_has, zBd_e, has_n (by omega), if_neg hb, if_pos rfl, zLt_e, nI_s]) 16 n 0 (-1) rfl (by omega) (Or.inl ⟨rfl, fun k h => absurd h (Nat.not_lt_zero k)⟩)
  rcases key with ⟨w, f', hf', hI, e⟩ | hq
  · obtain ⟨f', rfl⟩ : ∃ g, f' = g + 1 := ⟨f' - 1, by omega⟩
    have e' : m_X4_onlyLimit n v s = some (w, s) := by
      unfold m_X4_onlyLimit
      refine (show _ = _ from e).trans ?_
      show m_X4_onlyLimit_j5 n (f' + 1) v w (nI 16) s = _
      rw [m_X4_onlyLimit_j5, if_pos n16e]; rfl
    rcases hI with ⟨hw, hI⟩ | ⟨L, hL, hw, hI⟩
    · refine Or.inr ⟨?_, by rw [e', hw]⟩
      rintro ⟨M, hM1, hM⟩
      exact hI M hM1 ((hM M hM1).mpr rfl)
    · exact Or.inl ⟨L, ⟨hL, hI⟩, by rw [e', hw]⟩
  · exact Or.inr hq
end PD
