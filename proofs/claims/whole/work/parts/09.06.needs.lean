section PN
/-! the reference lays what depends on what -/
theorem zif {α : Type} {p q : Prop} [Decidable p] [Decidable q] (h : p ↔ q) {a b : α} : (if p then a else b) = if q then a else b := by
  by_cases hp : p
  · rw [if_pos hp, if_pos (h.mp hp)]
  · rw [if_neg hp, if_neg (fun x => hp (h.mpr x))]
theorem and_1 (y : Int32) : y &&& 1 = if bt y 0 = true then 1 else 0 := by
  apply b_ext
  intro i hi
  have h1 : ∀ k, k < 32 → bt 1 k = decide (k = 0) := by decide +kernel
  rw [b_and, h1 i hi]
  by_cases h0 : i = 0
  · subst h0
    by_cases h : bt y 0 = true
    · rw [if_pos h, h]; decide
    · rw [if_neg h]
      rw [show bt y 0 = false by simpa using h]; decide
  · by_cases h : bt y 0 = true
    · rw [if_pos h, h1 i hi]; simp [h0]
    · rw [if_neg h, b_0]; simp [h0]
theorem tb_n {x : Int32} {l : Nat} (hl : l < 32) : ((x >>> (nI l &&& 31)) &&& (1 : Int32)) = if bt x l = true then 1 else 0 := by
  have e : bt (x >>> (nI l &&& 31)) 0 = bt x l := by
    rw [b_sshr l hl x (by decide), if_pos (show l + 0 < 32 by omega), Nat.add_zero]
  rw [and_1, e]
theorem tb_1 {x : Int32} {l : Nat} (hl : l < 32) : (((x >>> (nI l &&& 31)) &&& (1 : Int32)) = 1) ↔ bt x l = true := by
  rw [tb_n hl]; split
  · simp [*]
  · rename_i h; simp only [h]; decide
theorem tb_0 {x : Int32} {l : Nat} (hl : l < 32) : (((x >>> (nI l &&& 31)) &&& (1 : Int32)) = 0) ↔ ¬ bt x l = true := by
  rw [tb_n hl]; split
  · rename_i h; simp only [h]; decide
  · rename_i h; simp [h]
theorem q_usesFirst {n i : Nat} (hi : i < 16) (s : zS) : m_X8_usesFirst n (nI i) s = some (if s 1 i = 0 then 0 else 1, s) := by
  unfold m_X8_usesFirst
  rw [zRd_n hi (by decide)]
  split <;> rfl
theorem q_usesSecond {n i : Nat} (hi : i < 16) (s : zS) : m_X8_usesSecond n (nI i) s = some (if zTwo (s 1 i) then 1 else 0, s) := by
  unfold m_X8_usesSecond m_X8_usesSecond_j33 zTwo
  rw [zRd_n hi (by decide)]
  generalize s 1 i = k
  by_cases h1 : k = 1
  · simp [h1, zRt]
  · by_cases h2 : k = 2
    · simp [h2, zRt]
    · by_cases h4 : k = 4
      · simp [h4, zRt]
      · by_cases h5 : k = 5
        · simp [h5, zRt]
        · by_cases h8 : k = 8
          · simp [h8, zRt]
          · simp [h1, h2, h4, h5, h8, zRt]
def zwU (s : zS) (wo : Int32) (i : Nat) : Int32 := zUse (s 1 i) (s 2 i) (s 3 i) (decide (nI i = wo))
def zw (s : zS) (wo : Int32) (i j : Nat) : Bool := bt (zwU s wo i) j
theorem q_needs {n : Nat} (hn : 100 ≤ n) (wo : Int32) (s : zS) : ∃ s', m_X8_laysNeeds n wo s = some (0, s') ∧ (∀ k, k ≠ 13 → s' k = s k) ∧ ∀ i, i < 16 → ∀ j, j < 32 → bt (s' 13 i) j = zTC (zw s wo) i j := by
  obtain ⟨s1, f1, hf1, ⟨g1, g2⟩, e1⟩ := for_up (fun f i s' => m_X8_laysNeeds_j2 n f wo (nI i) s') (fun i s' => (∀ k, k ≠ 13 → s' k = s k) ∧ ∀ a, a < i → s' 13 a = zwU s wo a) 16 (by
    intro f i s' hi ⟨h1, h2⟩
    have c1 : s' 1 i = s 1 i := by rw [h1 1 (by decide)]
    have c2 : s' 2 i = s 2 i := by rw [h1 2 (by decide)]
    have c3 : s' 3 i = s 3 i := by rw [h1 3 (by decide)]
    -- first the one bit, then the other
    have second : ∀ (t2 : Int32), m_X8_laysNeeds_j33 (m_X8_laysNeeds_j2 n f) n wo (nI i) (nI i) t2 s' = m_X8_laysNeeds_j2 n f wo (nI (i + 1)) (zU (zU s' 13 i t2) 13 i (t2 ||| (if zTwo (s 1 i) && !decide (nI i = wo) then zBit (s 3 i) else 0))) := by
      intro t2
      unfold m_X8_laysNeeds_j33
      rw [zWr_n hi (by decide), zRd_n hi (by decide), zU_eq, q_usesSecond hi, zBd_e, zU_ne (show 1 ≠ 13 by decide), c1]
      by_cases hz : zTwo (s 1 i) = true
      · rw [if_pos hz, if_neg (show ¬ (1 : Int32) = 0 by decide)]
        by_cases hw : nI i = wo
        · rw [if_pos hw, zWr_n hi (by decide), zLt_e, nI_s]
          simp [hw]
        · rw [if_neg hw, zRd_n hi (by decide), zU_ne (show 3 ≠ 13 by decide), c3, zWr_n hi (by decide), zLt_e, nI_s]
          simp [hw, hz, zBit]
      · rw [if_neg hz, if_pos rfl, zWr_n hi (by decide), zLt_e, nI_s]
        simp [hz]
    refine ⟨zU (zU s' 13 i (if s 1 i = 0 then 0 else zBit (s 2 i))) 13 i (zwU s wo i), ⟨fun k hk => by rw [zU_ne hk, zU_ne hk]; exact h1 k hk, fun a ha => ?_⟩, ?_⟩
    · by_cases e : a = i
      · rw [e, zU_eq]
      · rw [zU_nj e, zU_nj e]; exact h2 a (by omega)
    · show m_X8_laysNeeds_j2 n (f + 1) wo (nI i) s' = m_X8_laysNeeds_j2 n f wo (nI (i + 1)) _
      rw [m_X8_laysNeeds_j2, if_neg (n16 hi), q_usesFirst hi, zBd_e, c1]
      by_cases h0 : s 1 i = 0
      · rw [if_pos h0, if_pos rfl, second]
        unfold zwU zUse
        rw [if_pos h0]
      · rw [if_neg h0, if_neg (show ¬ (1 : Int32) = 0 by decide), zRd_n hi (by decide), c2, second]
        unfold zwU zUse
        rw [if_neg h0]
        rfl) 16 n 0 s rfl (by omega) ⟨fun _ _ => rfl, fun a h => absurd h (Nat.not_lt_zero a)⟩
  -- the turns
  obtain ⟨s2, f2, hf2, ⟨k1, k2, k3⟩, e2⟩ := for_up (fun f t s' => m_X8_laysNeeds_j76 n f (nI t) s') (fun t s' => (∀ k, k ≠ 13 → s' k = s k) ∧ (∀ i, i < 16 → ∀ j, j < 32 → zPath (zw s wo) t i j = true → bt (s' 13 i) j = true) ∧ ∀ i, i < 16 → ∀ j, j < 32 → bt (s' 13 i) j = true → zTC (zw s wo) i j = true) 16 (by
    intro f t s' ht ⟨h1, h2, h3⟩
    obtain ⟨s3, f3, hf3, ⟨r1, r2, r3⟩, e3⟩ := for_up (fun f9 i s9 => m_X8_laysNeeds_j84 (m_X8_laysNeeds_j76 n f) n f9 (nI t) (nI i) s9) (fun i s9 => (∀ k, k ≠ 13 → s9 k = s k) ∧ (∀ a, a < 16 → ∀ j, j < 32 → zPath (zw s wo) (if a < i then t + 1 else t) a j = true → bt (s9 13 a) j = true) ∧ ∀ a, a < 16 → ∀ j, j < 32 → bt (s9 13 a) j = true → zTC (zw s wo) a j = true) 16 (by
      intro f9 i s9 hi ⟨q1, q2, q3⟩
      obtain ⟨s4, f4, hf4, ⟨w1, w2, w3⟩, e4⟩ := for_up (fun f8 m s8 => m_X8_laysNeeds_j93 (m_X8_laysNeeds_j76 n f) (m_X8_laysNeeds_j84 (m_X8_laysNeeds_j76 n f) n f9) n f8 (nI t) (nI i) (nI m) s8) (fun m s8 => (∀ k, k ≠ 13 → s8 k = s k) ∧ (∀ a, a < 16 → ∀ j, j < 32 → zPath (zw s wo) (if a < i ∨ (a = i ∧ t < m) then t + 1 else t) a j = true → bt (s8 13 a) j = true) ∧ ∀ a, a < 16 → ∀ j, j < 32 → bt (s8 13 a) j = true → zTC (zw s wo) a j = true) 16 (by
        intro f8 m s8 hm ⟨x1, x2, x3⟩
        have low : ∀ a, a < 16 → ∀ j, j < 32 → zPath (zw s wo) t a j = true → bt (s8 13 a) j = true := by
          intro a ha j hj hp
          refine x2 a ha j hj ?_
          split
          · exact zPath_up hp
          · exact hp
        by_cases hb : bt (s8 13 i) m = true
        · refine ⟨zU s8 13 i (s8 13 i ||| s8 13 m), ⟨fun k hk => (zU_ne hk).trans (x1 k hk), fun a ha j hj hp => ?_, fun a ha j hj hp => ?_⟩, ?_⟩
          · by_cases e : a = i
            · subst e
              rw [zU_eq, b_or]
              by_cases em : m = t
              · rw [if_pos (Or.inr ⟨rfl, by omega⟩), zPath_s] at hp
                rcases Bool.or_eq_true_iff.mp hp with hp | hp
                · rw [low a ha j hj hp]; rfl
                · obtain ⟨p1, p2⟩ := Bool.and_eq_true_iff.mp hp
                  rw [em, low t ht j hj p2]; simp
              · rw [x2 a ha j hj (by
                  have : (a < a ∨ (a = a ∧ t < m + 1)) ↔ (a < a ∨ (a = a ∧ t < m)) := by omega
                  rw [zif this] at hp; exact hp)]
                rfl
            · rw [zU_nj e]
              refine x2 a ha j hj ?_
              have : (a < i ∨ (a = i ∧ t < m + 1)) ↔ (a < i ∨ (a = i ∧ t < m)) := by omega
              rw [zif this] at hp; exact hp
          · by_cases e : a = i
            · subst e
              rw [zU_eq, b_or] at hp
              rcases Bool.or_eq_true_iff.mp hp with hp | hp
              · exact x3 a ha j hj hp
              · exact zTC_tr hm (x3 a ha m (by omega) hb) (x3 m hm j hj hp)
            · rw [zU_nj e] at hp
              exact x3 a ha j hj hp
          · show m_X8_laysNeeds_j93 _ _ n (f8 + 1) (nI t) (nI i) (nI m) s8 = m_X8_laysNeeds_j93 _ _ n f8 (nI t) (nI i) (nI (m + 1)) _
            rw [m_X8_laysNeeds_j93, if_neg (n16 hm), zRd_n hi (by decide), zRd_n hi (by decide), if_pos ((tb_1 (by omega)).mpr hb), zRd_n hm (by decide), zWr_n hi (by decide), zLt_e, nI_s]
        · refine ⟨zU s8 13 i (s8 13 i ||| 0), ⟨fun k hk => (zU_ne hk).trans (x1 k hk), fun a ha j hj hp => ?_, fun a ha j hj hp => ?_⟩, ?_⟩
          · by_cases e : a = i
            · subst e
              rw [zU_eq, or_0]
              by_cases em : m = t
              · rw [if_pos (Or.inr ⟨rfl, by omega⟩), zPath_s] at hp
                rcases Bool.or_eq_true_iff.mp hp with hp | hp
                · exact low a ha j hj hp
                · obtain ⟨p1, p2⟩ := Bool.and_eq_true_iff.mp hp
                  exact absurd (em ▸ low a ha t (by omega) p1) hb
              · refine x2 a ha j hj ?_
                have : (a < a ∨ (a = a ∧ t < m + 1)) ↔ (a < a ∨ (a = a ∧ t < m)) := by omega
                rw [zif this] at hp; exact hp
            · rw [zU_nj e]
              refine x2 a ha j hj ?_
              have : (a < i ∨ (a = i ∧ t < m + 1)) ↔ (a < i ∨ (a = i ∧ t < m)) := by omega
              rw [zif this] at hp; exact hp
          · by_cases e : a = i
            · subst e
              rw [zU_eq, or_0] at hp
              exact x3 a ha j hj hp
            · rw [zU_nj e] at hp
              exact x3 a ha j hj hp
          · show m_X8_laysNeeds_j93 _ _ n (f8 + 1) (nI t) (nI i) (nI m) s8 = m_X8_laysNeeds_j93 _ _ n f8 (nI t) (nI i) (nI (m + 1)) _
            rw [m_X8_laysNeeds_j93, if_neg (n16 hm), zRd_n hi (by decide), zRd_n hi (by decide), if_neg (fun q => hb ((tb_1 (by omega)).mp q)), zWr_n hi (by decide), zLt_e, nI_s]) 16 n 0 s9 rfl (by omega) ⟨q1, fun a ha j hj hp => q2 a ha j hj (by
          have : (a < i ∨ (a = i ∧ t < 0)) ↔ a < i := by omega
          rw [zif this] at hp; exact hp), q3⟩
      obtain ⟨f4, rfl⟩ : ∃ g, f4 = g + 1 := ⟨f4 - 1, by omega⟩
      refine ⟨s4, ⟨w1, fun a ha j hj hp => w2 a ha j hj (by
          have : (a < i ∨ (a = i ∧ t < 16)) ↔ a < i + 1 := by omega
          rw [zif this]; exact hp), w3⟩, ?_⟩
      show m_X8_laysNeeds_j84 _ n (f9 + 1) (nI t) (nI i) s9 = m_X8_laysNeeds_j84 _ n f9 (nI t) (nI (i + 1)) s4
      rw [m_X8_laysNeeds_j84, if_neg (n16 hi)]
      refine (show _ = _ from e4).trans ?_
      show m_X8_laysNeeds_j93 _ _ n (f4 + 1) (nI t) (nI i) (nI 16) s4 = _
      rw [m_X8_laysNeeds_j93, if_pos n16e, zLt_e, nI_s]) 16 n 0 s' rfl (by omega) ⟨h1, fun a ha j hj hp => h2 a ha j hj (by simpa using hp), h3⟩
    obtain ⟨f3, rfl⟩ : ∃ g, f3 = g + 1 := ⟨f3 - 1, by omega⟩
    refine ⟨s3, ⟨r1, fun i hi j hj hp => r2 i hi j hj (by rw [if_pos hi]; exact hp), r3⟩, ?_⟩
    show m_X8_laysNeeds_j76 n (f + 1) (nI t) s' = m_X8_laysNeeds_j76 n f (nI (t + 1)) s3
    rw [m_X8_laysNeeds_j76, if_neg (n16 ht)]
    refine (show _ = _ from e3).trans ?_
    show m_X8_laysNeeds_j84 _ n (f3 + 1) (nI t) (nI 16) s3 = _
    rw [m_X8_laysNeeds_j84, if_pos n16e, zLt_e, nI_s]) 16 n 0 s1 rfl (by omega) ⟨g1, fun i hi j hj hp => by rw [g2 i hi]; exact hp, fun i hi j hj hp => by rw [g2 i hi] at hp; exact zTC_of hp⟩
  obtain ⟨f1, rfl⟩ : ∃ g, f1 = g + 1 := ⟨f1 - 1, by omega⟩
  obtain ⟨f2, rfl⟩ : ∃ g, f2 = g + 1 := ⟨f2 - 1, by omega⟩
  refine ⟨s2, ?_, k1, fun i hi j hj => ?_⟩
  · unfold m_X8_laysNeeds
    refine (show _ = _ from e1).trans ?_
    show m_X8_laysNeeds_j2 n (f1 + 1) wo (nI 16) s1 = _
    rw [m_X8_laysNeeds_j2, if_pos n16e]
    refine (show _ = _ from e2).trans ?_
    show m_X8_laysNeeds_j76 n (f2 + 1) (nI 16) s2 = _
    rw [m_X8_laysNeeds_j76, if_pos n16e]; rfl
  · cases hz : zTC (zw s wo) i j with
    | true => exact k2 i hi j hj hz
    | false =>
      cases hb : bt (s2 13 i) j with
      | false => rfl
      | true => rw [k3 i hi j hj hb] at hz; cases hz
theorem q_depends {n a b : Nat} (ha : a < 16) (hb : b < 32) (s : zS) : m_X8_depends n (nI a) (nI b) s = some (if bt (s 13 a) b = true then 1 else 0, s) := by
  unfold m_X8_depends
  rw [zRd_n ha (by decide)]
  by_cases h : bt (s 13 a) b = true
  · rw [if_pos ((tb_1 hb).mpr h), if_pos h]; rfl
  · rw [if_neg (fun q => h ((tb_1 hb).mp q)), if_neg h]; rfl
end PN
