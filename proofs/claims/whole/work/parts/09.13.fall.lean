section PFa
/-! the reference asks whether a circle falls -/
def zM : Bool → Bool → Int32
  | false, false => 0
  | true, false => 1
  | false, true => 2
  | true, true => 3
theorem zM_or : ∀ a b c d, zM a b ||| zM c d = zM (a || c) (b || d) := by decide +kernel
theorem zM_turn : ∀ a b, ((zM a b &&& (1 : Int32)) * (2 : Int32)) + (zM a b >>> ((1 : Int32) &&& 31)) = zM b a := by decide +kernel
theorem zM_2 : ∀ a b, zM a b = 2 ↔ (a = false ∧ b = true) := by decide +kernel
theorem zM_3 : ∀ a b, zM a b = 3 ↔ (a = true ∧ b = true) := by decide +kernel
/-- rank and ways, with the rank laid open -/
def zRkD (K F G : Nat → Int32) (v : Int32) (L : Nat) (A B : Nat → Bool) (rk : Nat → Nat) : Prop := rk L = 0 ∧ (∀ k, k < 16 → rk k ≤ 16) ∧ (∀ k, k < 16 → bt v k = true → k ≠ L → ∀ j, j < 16 → zUb K F G false k j → bt v j = true → rk j < rk k) ∧ A L = true ∧ B L = false ∧ (∀ k, k < 16 → ¬ bt v k = true → A k = false ∧ B k = false) ∧ ∀ k, k < 16 → bt v k = true → k ≠ L → A k = mvA K F G A B k ∧ B k = mvA K F G B A k
def zFP (K F G : Nat → Int32) (v : Int32) (L t i : Nat) (A B : Nat → Bool) : Prop := ∀ A0 B0 rk, zRkD K F G v L A0 B0 rk → A L = true ∧ (∀ k, k < 16 → (A k = true → A0 k = true) ∧ (B k = true → B0 k = true)) ∧ ∀ k, k < 16 → bt v k = true → (rk k ≤ t ∨ (rk k ≤ t + 1 ∧ k < i)) → (A0 k = true → A k = true) ∧ (B0 k = true → B k = true)
theorem zFP_step {K F G : Nat → Int32} (hw : zWf K F G) {v : Int32} {L t i : Nat} {A B A1 B1 A2 B2 : Nat → Bool} (hi : i < 16) (hv : bt v i = true) (hiL : i ≠ L) (h : zFP K F G v L t i A B) (hA1 : A1 = fun k => if k = i then (A i || (decide (K i ≠ 0) && A (zNt (F i)))) else A k) (hB1 : B1 = fun k => if k = i then (B i || (decide (K i ≠ 0) && B (zNt (F i)))) else B k) (hA2 : A2 = fun k => if k = i then (A1 i || (zTwo (K i) && (if K i = 2 then B1 (zNt (G i)) else A1 (zNt (G i))))) else A1 k) (hB2 : B2 = fun k => if k = i then (B1 i || (zTwo (K i) && (if K i = 2 then A1 (zNt (G i)) else B1 (zNt (G i))))) else B1 k) : zFP K F G v L t (i + 1) A2 B2 := by
  intro A0 B0 rk hD
  obtain ⟨h1, h2, h3⟩ := h A0 B0 rk hD
  obtain ⟨d1, d2, d3, d4, d5, d6, d7⟩ := hD
  obtain ⟨eA, eB⟩ := d7 i hi hv hiL
  have mA : ∀ k, A k = true → A1 k = true := by
    intro k hk
    rw [hA1]
    show (if k = i then _ else _) = true
    by_cases e : k = i
    · rw [if_pos e, ← e, hk]; rfl
    · rw [if_neg e]; exact hk
  have mB : ∀ k, B k = true → B1 k = true := by
    intro k hk
    rw [hB1]
    show (if k = i then _ else _) = true
    by_cases e : k = i
    · rw [if_pos e, ← e, hk]; rfl
    · rw [if_neg e]; exact hk
  have mA2 : ∀ k, A1 k = true → A2 k = true := by
    intro k hk
    rw [hA2]
    show (if k = i then _ else _) = true
    by_cases e : k = i
    · rw [if_pos e, ← e, hk]; rfl
    · rw [if_neg e]; exact hk
  have mB2 : ∀ k, B1 k = true → B2 k = true := by
    intro k hk
    rw [hB2]
    show (if k = i then _ else _) = true
    by_cases e : k = i
    · rw [if_pos e, ← e, hk]; rfl
    · rw [if_neg e]; exact hk
  have sA1 : ∀ k, k < 16 → A1 k = true → A0 k = true := by
    intro k hk hb
    by_cases e : k = i
    · subst e
      rw [hA1] at hb
      replace hb : (A k || (decide (K k ≠ 0) && A (zNt (F k)))) = true := by simpa using hb
      rcases Bool.or_eq_true_iff.mp hb with hb | hb
      · exact (h2 k hk).1 hb
      · obtain ⟨b1, b2⟩ := Bool.and_eq_true_iff.mp hb
        have hne := of_decide_eq_true b1
        rw [eA]; unfold mvA
        rw [b1, (h2 _ (zWf_f hw hk hne).1).1 b2]; rfl
    · rw [hA1] at hb
      exact (h2 k hk).1 (by simpa [e] using hb)
  have sB1 : ∀ k, k < 16 → B1 k = true → B0 k = true := by
    intro k hk hb
    by_cases e : k = i
    · subst e
      rw [hB1] at hb
      replace hb : (B k || (decide (K k ≠ 0) && B (zNt (F k)))) = true := by simpa using hb
      rcases Bool.or_eq_true_iff.mp hb with hb | hb
      · exact (h2 k hk).2 hb
      · obtain ⟨b1, b2⟩ := Bool.and_eq_true_iff.mp hb
        have hne := of_decide_eq_true b1
        rw [eB]; unfold mvA
        rw [b1, (h2 _ (zWf_f hw hk hne).1).2 b2]; rfl
    · rw [hB1] at hb
      exact (h2 k hk).2 (by simpa [e] using hb)
  refine ⟨mA2 L (mA L h1), fun k hk => ⟨fun hb => ?_, fun hb => ?_⟩, fun k hk hbv hr => ?_⟩
  · by_cases e : k = i
    · subst e
      rw [hA2] at hb
      replace hb : (A1 k || (zTwo (K k) && (if K k = 2 then B1 (zNt (G k)) else A1 (zNt (G k))))) = true := by simpa using hb
      rcases Bool.or_eq_true_iff.mp hb with hb | hb
      · exact sA1 k hk hb
      · obtain ⟨b1, b2⟩ := Bool.and_eq_true_iff.mp hb
        have hg := (zWf_g hw hk b1).1
        rw [eA]; unfold mvA
        rw [b1]
        by_cases h2 : K k = 2
        · rw [if_pos h2] at b2 ⊢
          rw [sB1 _ hg b2]; simp
        · rw [if_neg h2] at b2 ⊢
          rw [sA1 _ hg b2]; simp
    · rw [hA2] at hb
      exact sA1 k hk (by simpa [e] using hb)
  · by_cases e : k = i
    · subst e
      rw [hB2] at hb
      replace hb : (B1 k || (zTwo (K k) && (if K k = 2 then A1 (zNt (G k)) else B1 (zNt (G k))))) = true := by simpa using hb
      rcases Bool.or_eq_true_iff.mp hb with hb | hb
      · exact sB1 k hk hb
      · obtain ⟨b1, b2⟩ := Bool.and_eq_true_iff.mp hb
        have hg := (zWf_g hw hk b1).1
        rw [eB]; unfold mvA
        rw [b1]
        by_cases h2 : K k = 2
        · rw [if_pos h2] at b2 ⊢
          rw [sA1 _ hg b2]; simp
        · rw [if_neg h2] at b2 ⊢
          rw [sB1 _ hg b2]; simp
    · rw [hB2] at hb
      exact sB1 k hk (by simpa [e] using hb)
  · by_cases e : k = i
    · subst e
      have hrk : rk k ≤ t + 1 := by rcases hr with h | ⟨h, _⟩ <;> omega
      -- what the line uses is complete
      have cu : ∀ j, j < 16 → zUb K F G false k j → (A0 j = true → A j = true) ∧ (B0 j = true → B j = true) := by
        intro j hj hu
        by_cases hbj : bt v j = true
        · have := d3 k hk hbv hiL j hj hu hbj
          exact h3 j hj hbj (Or.inl (by omega))
        · obtain ⟨q1, q2⟩ := d6 j hj hbj
          rw [q1, q2]; exact ⟨fun h => (by cases h), fun h => (by cases h)⟩
      have aF : K k ≠ 0 → (A0 (zNt (F k)) = true → A1 k = true) ∧ (B0 (zNt (F k)) = true → B1 k = true) := by
        intro hne
        have := cu _ (zWf_f hw hk hne).1 (Or.inl ⟨hne, rfl⟩)
        refine ⟨fun h => ?_, fun h => ?_⟩
        · rw [hA1]; simp [hne, this.1 h]
        · rw [hB1]; simp [hne, this.2 h]
      have aG : zTwo (K k) = true → (A0 (zNt (G k)) = true → A1 (zNt (G k)) = true) ∧ (B0 (zNt (G k)) = true → B1 (zNt (G k)) = true) := by
        intro ht
        have := cu _ (zWf_g hw hk ht).1 (Or.inr ⟨ht, rfl, rfl⟩)
        exact ⟨fun h => mA _ (this.1 h), fun h => mB _ (this.2 h)⟩
      refine ⟨fun h0 => ?_, fun h0 => ?_⟩
      · rw [eA] at h0; unfold mvA at h0
        rcases Bool.or_eq_true_iff.mp h0 with h0 | h0
        · obtain ⟨b1, b2⟩ := Bool.and_eq_true_iff.mp h0
          exact mA2 k ((aF (of_decide_eq_true b1)).1 b2)
        · obtain ⟨b1, b2⟩ := Bool.and_eq_true_iff.mp h0
          rw [hA2]
          by_cases h2 : K k = 2
          · rw [if_pos h2] at b2
            simp only [if_pos, if_pos h2, b1, (aG b1).2 b2]; simp
          · rw [if_neg h2] at b2
            simp only [if_pos, if_neg h2, b1, (aG b1).1 b2]; simp
      · rw [eB] at h0; unfold mvA at h0
        rcases Bool.or_eq_true_iff.mp h0 with h0 | h0
        · obtain ⟨b1, b2⟩ := Bool.and_eq_true_iff.mp h0
          exact mB2 k ((aF (of_decide_eq_true b1)).2 b2)
        · obtain ⟨b1, b2⟩ := Bool.and_eq_true_iff.mp h0
          rw [hB2]
          by_cases h2 : K k = 2
          · rw [if_pos h2] at b2
            simp only [if_pos, if_pos h2, b1, (aG b1).1 b2]; simp
          · rw [if_neg h2] at b2
            simp only [if_pos, if_neg h2, b1, (aG b1).2 b2]; simp
    · have := h3 k hk hbv (by rcases hr with h | ⟨h, h'⟩; exact Or.inl h; exact Or.inr ⟨h, by omega⟩)
      exact ⟨fun q => mA2 k (mA k (this.1 q)), fun q => mB2 k (mB k (this.2 q))⟩
theorem zFP_skip {K F G : Nat → Int32} {v : Int32} {L t i : Nat} {A B : Nat → Bool} (hs : ¬ bt v i = true ∨ i = L) (h : zFP K F G v L t i A B) : zFP K F G v L t (i + 1) A B := by
  intro A0 B0 rk hD
  obtain ⟨h1, h2, h3⟩ := h A0 B0 rk hD
  refine ⟨h1, h2, fun k hk hbv hr => ?_⟩
  by_cases e : k = i
  · rcases hs with hs | hs
    · exact absurd (e ▸ hbv) hs
    · have : k = L := e.trans hs
      subst this
      exact ⟨fun _ => h1, fun q => absurd q (by rw [hD.2.2.2.2.1]; decide)⟩
  · exact h3 k hk hbv (by rcases hr with h | ⟨h, h'⟩; exact Or.inl h; exact Or.inr ⟨h, by omega⟩)
theorem zFP_turn {K F G : Nat → Int32} {v : Int32} {L t : Nat} {A B : Nat → Bool} (h : zFP K F G v L t 16 A B) : zFP K F G v L (t + 1) 0 A B := by
  intro A0 B0 rk hD
  obtain ⟨h1, h2, h3⟩ := h A0 B0 rk hD
  exact ⟨h1, h2, fun k hk hbv hr => h3 k hk hbv (Or.inr (by rcases hr with h | ⟨h, h'⟩ <;> omega))⟩
theorem q_mv {n i L t : Nat} {v : Int32} (rec32 : Int32 → Int32 → Int32 → zS → Option (Int32 × zS)) (rec41 : Int32 → Int32 → Int32 → Int32 → zS → Option (Int32 × zS)) {s : zS} (hw : zWf (s 1) (s 2) (s 3)) (hi : i < 16) {A B A1 B1 A2 B2 : Nat → Bool} (hm : ∀ k, k < 16 → s 14 k = zM (A k) (B k)) (hA1 : A1 = fun k => if k = i then (A i || (decide (s 1 i ≠ 0) && A (zNt (s 2 i)))) else A k) (hB1 : B1 = fun k => if k = i then (B i || (decide (s 1 i ≠ 0) && B (zNt (s 2 i)))) else B k) (hA2 : A2 = fun k => if k = i then (A1 i || (zTwo (s 1 i) && (if s 1 i = 2 then B1 (zNt (s 3 i)) else A1 (zNt (s 3 i))))) else A1 k) (hB2 : B2 = fun k => if k = i then (B1 i || (zTwo (s 1 i) && (if s 1 i = 2 then A1 (zNt (s 3 i)) else B1 (zNt (s 3 i))))) else B1 k) (t1 : Int32) (ht1 : t1 = if s 1 i = 0 then 0 else s 14 (zNt (s 2 i))) : ∃ s', (∀ c, c ≠ 14 → s' c = s c) ∧ (∀ k, k < 16 → s' 14 k = zM (A2 k) (B2 k)) ∧ m_X8_isFalling_j97 rec32 rec41 n v (nI L) (nI t) (nI i) (nI i) (s 14 i) t1 s = rec41 v (nI L) (nI t) (nI (i + 1)) s' := by
  have e1 : ∀ k, k < 16 → zU s 14 i (s 14 i ||| t1) 14 k = zM (A1 k) (B1 k) := by
    intro k hk
    rw [hA1, hB1]
    by_cases e : k = i
    · subst e
      rw [zU_eq, hm k hk, ht1]
      simp only [if_pos]
      by_cases h0 : s 1 k = 0
      · rw [if_pos h0]; simp [h0, or_0]
      · rw [if_neg h0, hm _ (zWf_f hw hk h0).1, zM_or]; simp [h0]
    · rw [zU_nj e, hm k hk]; simp only [if_neg e]
  have k1 : zU s 14 i (s 14 i ||| t1) 1 = s 1 := zU_ne (by decide)
  have k3 : zU s 14 i (s 14 i ||| t1) 3 = s 3 := zU_ne (by decide)
  have run : m_X8_isFalling_j97 rec32 rec41 n v (nI L) (nI t) (nI i) (nI i) (s 14 i) t1 s = m_X8_isFalling_j161 rec32 rec41 n v (nI L) (nI t) (nI i) (nI i) (zM (A1 i) (B1 i)) (if zTwo (s 1 i) = true then (if s 1 i = 2 then zM (B1 (zNt (s 3 i))) (A1 (zNt (s 3 i))) else zM (A1 (zNt (s 3 i))) (B1 (zNt (s 3 i)))) else 0) (zU s 14 i (s 14 i ||| t1)) := by
    unfold m_X8_isFalling_j97
    rw [zWr_n hi (by decide), zRd_n hi (by decide), q_usesSecond hi, zBd_e, k1]
    by_cases ht : zTwo (s 1 i) = true
    · obtain ⟨g1, g2⟩ := zWf_g hw hi ht
      rw [if_pos ht, if_neg (by decide), if_pos ht, zRd_n hi (by decide)]
      by_cases h2 : s 1 i = 2
      · rw [if_pos h2, if_pos h2, zRd_n hi (by decide), k3, g2, zRd_n g1 (by decide), e1 _ g1, e1 i hi, ← g2]
        unfold m_X8_turned
        rw [zBd_r, zM_turn]
      · rw [if_neg h2, if_neg h2, zRd_n hi (by decide), k3, g2, zRd_n g1 (by decide), e1 _ g1, e1 i hi, ← g2]
    · rw [if_neg ht, if_pos rfl, if_neg ht, e1 i hi]
  refine ⟨zU (zU s 14 i (s 14 i ||| t1)) 14 i (zM (A2 i) (B2 i)), fun c hc => by rw [zU_ne hc, zU_ne hc], fun k hk => ?_, ?_⟩
  · by_cases e : k = i
    · subst e; rw [zU_eq]
    · rw [zU_nj e, e1 k hk, hA2, hB2]; simp only [if_neg e]
  · rw [run]
    unfold m_X8_isFalling_j161
    rw [zWr_n hi (by decide), zLt_e, nI_s]
    congr 2
    rw [hA2, hB2]
    simp only [if_pos]
    by_cases ht : zTwo (s 1 i) = true
    · by_cases h2 : s 1 i = 2
      · rw [if_pos ht, if_pos h2, zM_or]; simp [h2, (by decide : zTwo 2 = true)]
      · rw [if_pos ht, if_neg h2, zM_or]; simp [ht, h2]
    · rw [if_neg ht, or_0]; simp [ht]
theorem q_isFalling {n L : Nat} (hn : 100 ≤ n) {v : Int32} {s : zS} (hw : zWf (s 1) (s 2) (s 3)) (hL : L < 16) (h8 : s 1 L = 8) (_hvL : bt v L = true) : ∃ (r : Int32) (s' : zS) (A B : Nat → Bool), m_X8_isFalling n v (nI L) s = some (r, s') ∧ (∀ c, c ≠ 14 → s' c = s c) ∧ (∀ A0 B0, zRk (s 1) (s 2) (s 3) v L A0 B0 → ∀ k, k < 16 → A k = A0 k ∧ B k = B0 k) ∧ ((r = 1 ∧ (A (zNt (s 3 L)) = false ∧ B (zNt (s 3 L)) = true) ∧ ∀ k, k < 16 → ¬ (A k = true ∧ B k = true) ∧ ¬ (bt v k = true ∧ bt (s 13 k) k = true)) ∨ (r = 0 ∧ ¬ ((A (zNt (s 3 L)) = false ∧ B (zNt (s 3 L)) = true) ∧ ∀ k, k < 16 → ¬ (A k = true ∧ B k = true) ∧ ¬ (bt v k = true ∧ bt (s 13 k) k = true)))) := by
  obtain ⟨g1, g2⟩ := zWf_g hw hL (by rw [h8]; decide)
  -- the start
  obtain ⟨s1, f1, hf1, ⟨a1, a2⟩, e1⟩ := for_up (fun f i s' => m_X8_isFalling_j2 n f v (nI L) (nI i) s') (fun i s' => (∀ c, c ≠ 14 → s' c = s c) ∧ ∀ k, k < i → s' 14 k = zM (decide (k = L)) false) 16 (by
    intro f i s' hi ⟨h1, h2⟩
    refine ⟨zU s' 14 i (zM (decide (i = L)) false), ⟨fun c hc => (zU_ne hc).trans (h1 c hc), fun k hk => ?_⟩, ?_⟩
    · by_cases e : k = i
      · rw [e, zU_eq]
      · rw [zU_nj e]; exact h2 k (by omega)
    · show m_X8_isFalling_j2 n (f + 1) v (nI L) (nI i) s' = m_X8_isFalling_j2 n f v (nI L) (nI (i + 1)) _
      rw [m_X8_isFalling_j2, if_neg (n16 hi)]
      by_cases e : i = L
      · rw [if_pos (by rw [e]), zWr_n hi (by decide), zLt_e, nI_s]; simp [e, zM]
      · rw [if_neg (fun q => e ((eq_n (by omega) (by omega)).mp q)), zWr_n hi (by decide), zLt_e, nI_s]; simp [e, zM]) 16 n 0 s rfl (by omega) ⟨fun _ _ => rfl, fun k h => absurd h (Nat.not_lt_zero k)⟩
  -- the turns
  obtain ⟨s2, f2, hf2, ⟨A, B, b1, b2, b3⟩, e2⟩ := for_up (fun f t s' => m_X8_isFalling_j32 n f v (nI L) (nI t) s') (fun t s' => ∃ A B : Nat → Bool, (∀ c, c ≠ 14 → s' c = s c) ∧ (∀ k, k < 16 → s' 14 k = zM (A k) (B k)) ∧ zFP (s 1) (s 2) (s 3) v L t 0 A B) 16 (by
    intro f t s' ht ⟨A, B, h1, h2, h3⟩
    obtain ⟨s3, f3, hf3, ⟨A3, B3, c1, c2, c3⟩, e3⟩ := for_up (fun f9 i s9 => m_X8_isFalling_j41 (m_X8_isFalling_j32 n f) n f9 v (nI L) (nI t) (nI i) s9) (fun i s9 => ∃ A B : Nat → Bool, (∀ c, c ≠ 14 → s9 c = s c) ∧ (∀ k, k < 16 → s9 14 k = zM (A k) (B k)) ∧ zFP (s 1) (s 2) (s 3) v L t i A B) 16 (by
      intro f9 i s9 hi ⟨A, B, h1, h2, h3⟩
      by_cases hb : bt v i = true
      · by_cases e : i = L
        · refine ⟨s9, ⟨A, B, h1, h2, zFP_skip (Or.inr e) h3⟩, ?_⟩
          show m_X8_isFalling_j41 _ n (f9 + 1) v (nI L) (nI t) (nI i) s9 = _
          rw [m_X8_isFalling_j41, if_neg (n16 hi), if_pos ((tb_1 (by omega)).mpr hb), if_pos (by rw [e]), zLt_e, nI_s]
        · have w9 : zWf (s9 1) (s9 2) (s9 3) := by rw [h1 1 (by decide), h1 2 (by decide), h1 3 (by decide)]; exact hw
          obtain ⟨s', q1, q2, q3⟩ := q_mv (n := n) (L := L) (t := t) (v := v) (m_X8_isFalling_j32 n f) (m_X8_isFalling_j41 (m_X8_isFalling_j32 n f) n f9) w9 hi h2 rfl rfl rfl rfl _ rfl
          refine ⟨s', ⟨_, _, fun c hc => (q1 c hc).trans (h1 c hc), q2, ?_⟩, ?_⟩
          · have := zFP_step hw hi hb e h3 rfl rfl rfl rfl
            rw [h1 1 (by decide), h1 2 (by decide), h1 3 (by decide)]
            exact this
          · show m_X8_isFalling_j41 _ n (f9 + 1) v (nI L) (nI t) (nI i) s9 = _
            rw [m_X8_isFalling_j41, if_neg (n16 hi), if_pos ((tb_1 (by omega)).mpr hb), if_neg (fun q => e ((eq_n (by omega) (by omega)).mp q)), zRd_n hi (by decide), q_usesFirst hi, zBd_e]
            rw [← q3]
            by_cases h0 : s9 1 i = 0
            · rw [if_pos h0, if_pos rfl, if_pos h0]
            · obtain ⟨f1, f2⟩ := zWf_f w9 hi h0
              rw [if_neg h0, if_neg (by decide), zRd_n hi (by decide), f2, zRd_n f1 (by decide), if_neg h0, ← f2]
      · refine ⟨s9, ⟨A, B, h1, h2, zFP_skip (Or.inl hb) h3⟩, ?_⟩
        show m_X8_isFalling_j41 _ n (f9 + 1) v (nI L) (nI t) (nI i) s9 = _
        rw [m_X8_isFalling_j41, if_neg (n16 hi), if_neg (fun q => hb ((tb_1 (by omega)).mp q)), zLt_e, nI_s]) 16 n 0 s' rfl (by omega) ⟨A, B, h1, h2, h3⟩
    obtain ⟨f3, rfl⟩ : ∃ g, f3 = g + 1 := ⟨f3 - 1, by omega⟩
    refine ⟨s3, ⟨A3, B3, c1, c2, zFP_turn c3⟩, ?_⟩
    show m_X8_isFalling_j32 n (f + 1) v (nI L) (nI t) s' = m_X8_isFalling_j32 n f v (nI L) (nI (t + 1)) s3
    rw [m_X8_isFalling_j32, if_neg (n16 ht)]
    refine (show _ = _ from e3).trans ?_
    show m_X8_isFalling_j41 _ n (f3 + 1) v (nI L) (nI t) (nI 16) s3 = _
    rw [m_X8_isFalling_j41, if_pos n16e, zLt_e, nI_s]) 16 n 0 s1 rfl (by omega) ⟨fun k => decide (k = L), fun _ => false, a1, a2, fun A0 B0 rk hD => ⟨by simp, fun k hk => ⟨fun h => by rw [of_decide_eq_true h]; exact hD.2.2.2.1, fun h => (by cases h)⟩, fun k hk hbv hr => by
      have : rk k = 0 := by rcases hr with h | ⟨h, h'⟩ <;> omega
      by_cases e : k = L
      · subst e
        exact ⟨fun _ => by simp, fun h => absurd h (by rw [hD.2.2.2.2.1]; decide)⟩
      · -- a line of rank 0 uses no line of the circle
        obtain ⟨d1, d2, d3, d4, d5, d6, d7⟩ := hD
        obtain ⟨eA, eB⟩ := d7 k hk hbv e
        have no : ∀ j, j < 16 → zUb (s 1) (s 2) (s 3) false k j → A0 j = false ∧ B0 j = false := by
          intro j hj hu
          by_cases hbj : bt v j = true
          · have := d3 k hk hbv e j hj hu hbj; omega
          · exact d6 j hj hbj
        have z : mvA (s 1) (s 2) (s 3) A0 B0 k = false ∧ mvA (s 1) (s 2) (s 3) B0 A0 k = false := by
          unfold mvA
          constructor
          · have x1 : (decide (s 1 k ≠ 0) && A0 (zNt (s 2 k))) = false := by
              by_cases h0 : s 1 k = 0
              · simp [h0]
              · rw [(no _ (zWf_f hw hk h0).1 (Or.inl ⟨h0, rfl⟩)).1]; simp
            rw [x1]
            cases ht : zTwo (s 1 k) with
            | false => rfl
            | true =>
              obtain ⟨q1, q2⟩ := no _ (zWf_g hw hk ht).1 (Or.inr ⟨ht, rfl, rfl⟩)
              rw [q1, q2]; simp
          · have x1 : (decide (s 1 k ≠ 0) && B0 (zNt (s 2 k))) = false := by
              by_cases h0 : s 1 k = 0
              · simp [h0]
              · rw [(no _ (zWf_f hw hk h0).1 (Or.inl ⟨h0, rfl⟩)).2]; simp
            rw [x1]
            cases ht : zTwo (s 1 k) with
            | false => rfl
            | true =>
              obtain ⟨q1, q2⟩ := no _ (zWf_g hw hk ht).1 (Or.inr ⟨ht, rfl, rfl⟩)
              rw [q1, q2]; simp
        rw [eA, eB, z.1, z.2]
        exact ⟨fun h => (by cases h), fun h => (by cases h)⟩⟩⟩
  -- the test
  have key : ∀ v3 : Int32, (v3 = 0 ∨ v3 = 1) → ∃ r : Int32, m_X8_isFalling_j199 n n v v3 0 s2 = some (r, s2) ∧ ((r = 1 ∧ v3 = 1 ∧ ∀ k, k < 16 → ¬ (A k = true ∧ B k = true) ∧ ¬ (bt v k = true ∧ bt (s 13 k) k = true)) ∨ (r = 0 ∧ ¬ (v3 = 1 ∧ ∀ k, k < 16 → ¬ (A k = true ∧ B k = true) ∧ ¬ (bt v k = true ∧ bt (s 13 k) k = true)))) := by
    intro v3 hv3
    obtain ⟨w, f3, hf3, hI, e3⟩ := for_up (fun f i (w : Int32) => m_X8_isFalling_j199 n f v w (nI i) s2) (fun i w => (w = 1 ∧ v3 = 1 ∧ ∀ k, k < i → ¬ (A k = true ∧ B k = true) ∧ ¬ (bt v k = true ∧ bt (s 13 k) k = true)) ∨ (w = 0 ∧ ¬ (v3 = 1 ∧ ∀ k, k < i → ¬ (A k = true ∧ B k = true) ∧ ¬ (bt v k = true ∧ bt (s 13 k) k = true)))) 16 (by
      intro f i w hi hI
      have stay : ∀ x : Int32, (x = 1 ∧ (¬ (A i = true ∧ B i = true) ∧ ¬ (bt v i = true ∧ bt (s 13 i) i = true)) ∨ x = 0 ∧ ¬ (¬ (A i = true ∧ B i = true) ∧ ¬ (bt v i = true ∧ bt (s 13 i) i = true))) → ((w &&& x = 1 ∧ v3 = 1 ∧ ∀ k, k < i + 1 → ¬ (A k = true ∧ B k = true) ∧ ¬ (bt v k = true ∧ bt (s 13 k) k = true)) ∨ (w &&& x = 0 ∧ ¬ (v3 = 1 ∧ ∀ k, k < i + 1 → ¬ (A k = true ∧ B k = true) ∧ ¬ (bt v k = true ∧ bt (s 13 k) k = true)))) := by
        intro x hx
        rcases hI with ⟨rfl, h1, h2⟩ | ⟨rfl, h1⟩
        · rcases hx with ⟨rfl, hx⟩ | ⟨rfl, hx⟩
          · refine Or.inl ⟨by decide, h1, fun k hk => ?_⟩
            by_cases e : k = i
            · rw [e]; exact hx
            · exact h2 k (by omega)
          · exact Or.inr ⟨by decide, fun q => hx (q.2 i (by omega))⟩
        · refine Or.inr ⟨by rcases hx with ⟨rfl, _⟩ | ⟨rfl, _⟩ <;> decide, fun q => h1 ⟨q.1, fun k hk => q.2 k (by omega)⟩⟩
      have m14 : s2 14 i = 3 ↔ A i = true ∧ B i = true := by rw [b2 i hi, zM_3]
      have d13 : s2 13 = s 13 := b1 13 (by decide)
      by_cases h3 : s2 14 i = 3
      · refine ⟨w &&& 0, stay 0 (Or.inr ⟨rfl, fun q => q.1 (m14.mp h3)⟩), ?_⟩
        show m_X8_isFalling_j199 n (f + 1) v w (nI i) s2 = _
        rw [m_X8_isFalling_j199, if_neg (n16 hi), zRd_n hi (by decide), if_pos h3, zLt_e, zLt_e, nI_s]
      · by_cases hb : bt v i = true
        · by_cases hd : bt (s 13 i) i = true
          · refine ⟨w &&& 0, stay 0 (Or.inr ⟨rfl, fun q => q.2 ⟨hb, hd⟩⟩), ?_⟩
            show m_X8_isFalling_j199 n (f + 1) v w (nI i) s2 = _
            rw [m_X8_isFalling_j199, if_neg (n16 hi), zRd_n hi (by decide), if_neg h3, if_pos ((tb_1 (by omega)).mpr hb), q_depends hi (by omega), zBd_e, d13, if_pos hd, if_neg (by decide), zLt_e, zLt_e, nI_s]
          · refine ⟨w &&& 1, stay 1 (Or.inl ⟨rfl, fun q => h3 (m14.mpr q), fun q => hd q.2⟩), ?_⟩
            show m_X8_isFalling_j199 n (f + 1) v w (nI i) s2 = _
            rw [m_X8_isFalling_j199, if_neg (n16 hi), zRd_n hi (by decide), if_neg h3, if_pos ((tb_1 (by omega)).mpr hb), q_depends hi (by omega), zBd_e, d13, if_neg hd, if_pos rfl, zLt_e, zLt_e, nI_s]
        · refine ⟨w &&& 1, stay 1 (Or.inl ⟨rfl, fun q => h3 (m14.mpr q), fun q => hb q.1⟩), ?_⟩
          show m_X8_isFalling_j199 n (f + 1) v w (nI i) s2 = _
          rw [m_X8_isFalling_j199, if_neg (n16 hi), zRd_n hi (by decide), if_neg h3, if_neg (fun q => hb ((tb_1 (by omega)).mp q)), zLt_e, zLt_e, nI_s]) 16 n 0 v3 rfl (by omega) (by
        rcases hv3 with rfl | rfl
        · exact Or.inr ⟨rfl, fun q => absurd q.1 (by decide)⟩
        · exact Or.inl ⟨rfl, rfl, fun k h => absurd h (Nat.not_lt_zero k)⟩)
    obtain ⟨f3, rfl⟩ : ∃ g, f3 = g + 1 := ⟨f3 - 1, by omega⟩
    refine ⟨w, ?_, hI⟩
    refine (show _ = _ from e3).trans ?_
    show m_X8_isFalling_j199 n (f3 + 1) v w (nI 16) s2 = _
    rw [m_X8_isFalling_j199, if_pos n16e, zGd_e (zn_id _ (by rcases hI with ⟨h, _⟩ | ⟨h, _⟩ <;> simp [h]))]; rfl
  obtain ⟨f1, rfl⟩ : ∃ g, f1 = g + 1 := ⟨f1 - 1, by omega⟩
  obtain ⟨f2, rfl⟩ : ∃ g, f2 = g + 1 := ⟨f2 - 1, by omega⟩
  have run : m_X8_isFalling n v (nI L) s = if s2 14 (zNt (s 3 L)) = 2 then m_X8_isFalling_j199 n n v 1 0 s2 else m_X8_isFalling_j199 n n v 0 0 s2 := by
    unfold m_X8_isFalling
    refine (show _ = _ from e1).trans ?_
    show m_X8_isFalling_j2 n (f1 + 1) v (nI L) (nI 16) s1 = _
    rw [m_X8_isFalling_j2, if_pos n16e]
    refine (show _ = _ from e2).trans ?_
    show m_X8_isFalling_j32 n (f2 + 1) v (nI L) (nI 16) s2 = _
    rw [m_X8_isFalling_j32, if_pos n16e, zRd_n hL (by decide), b1 3 (by decide), g2, zRd_n g1 (by decide), ← g2]
  have hz : ∀ A0 B0, zRk (s 1) (s 2) (s 3) v L A0 B0 → ∀ k, k < 16 → A k = A0 k ∧ B k = B0 k := by
    intro A0 B0 ⟨rk, hD⟩ k hk
    obtain ⟨q1, q2, q3⟩ := b3 A0 B0 rk hD
    obtain ⟨d1, d2, d3, d4, d5, d6, d7⟩ := hD
    by_cases hb : bt v k = true
    · obtain ⟨c1, c2⟩ := q3 k hk hb (Or.inl (d2 k hk))
      obtain ⟨c3, c4⟩ := q2 k hk
      exact ⟨Bool.eq_iff_iff.mpr ⟨c3, c1⟩, Bool.eq_iff_iff.mpr ⟨c4, c2⟩⟩
    · obtain ⟨c1, c2⟩ := d6 k hk hb
      obtain ⟨c3, c4⟩ := q2 k hk
      rw [c1] at c3 ⊢
      rw [c2] at c4 ⊢
      exact ⟨Bool.eq_false_iff.mpr (fun h => absurd (c3 h) (by decide)), Bool.eq_false_iff.mpr (fun h => absurd (c4 h) (by decide))⟩
  have hm2 : s2 14 (zNt (s 3 L)) = 2 ↔ (A (zNt (s 3 L)) = false ∧ B (zNt (s 3 L)) = true) := by rw [b2 _ g1, zM_2]
  by_cases h2 : s2 14 (zNt (s 3 L)) = 2
  · obtain ⟨r, er, hr⟩ := key 1 (Or.inr rfl)
    refine ⟨r, s2, A, B, by rw [run, if_pos h2, er], b1, hz, ?_⟩
    rcases hr with ⟨h, _, h'⟩ | ⟨h, h'⟩
    · exact Or.inl ⟨h, hm2.mp h2, h'⟩
    · exact Or.inr ⟨h, fun q => h' ⟨rfl, q.2⟩⟩
  · obtain ⟨r, er, hr⟩ := key 0 (Or.inl rfl)
    refine ⟨r, s2, A, B, by rw [run, if_neg h2, er], b1, hz, ?_⟩
    rcases hr with ⟨h, h', _⟩ | ⟨h, h'⟩
    · exact absurd h' (by decide)
    · exact Or.inr ⟨h, fun q => h2 (hm2.mpr q.1)⟩
end PFa
