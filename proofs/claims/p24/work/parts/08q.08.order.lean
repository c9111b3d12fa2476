section PO
/-! the order that the class lays -/
theorem pig16 {o : Nat → Nat} (h : ∀ p, p < 16 → o p < 16) (hi : ∀ p q, p < 16 → q < 16 → o p = o q → p = q) {k : Nat} (hk : k < 16) : ∃ p, p < 16 ∧ o p = k := by
  refine Classical.byContradiction (fun hn => ?_)
  have nd : ((List.range 16).map o).Nodup := by
    refine List.Pairwise.map _ (fun a b hab => hab) ?_
    refine List.Pairwise.imp_of_mem ?_ (List.nodup_range (n := 16))
    intro a b ha hb hab e
    exact hab (hi a b (List.mem_range.mp ha) (List.mem_range.mp hb) e)
  have sub : (List.range 16).map o ⊆ (List.range 16).filter (fun j => decide (j ≠ k)) := by
    intro j hj
    obtain ⟨p, hp, rfl⟩ := List.mem_map.mp hj
    refine List.mem_filter.mpr ⟨List.mem_range.mpr (h p (List.mem_range.mp hp)), decide_eq_true (fun e => hn ⟨p, List.mem_range.mp hp, e⟩)⟩
  have l1 := nd.length_le_of_subset sub
  have l2 : ((List.range 16).filter (fun j => decide (j ≠ k))).length < (List.range 16).length :=
    List.length_filter_lt_length_iff_exists.mpr ⟨k, List.mem_range.mpr hk, by simp⟩
  rw [List.length_map] at l1
  omega
def zo (s : zS) (p : Nat) : Nat := (s 9 p).toNatClampNeg
def zOrd (s : zS) (z : Nat) : Prop := s 6 3 = nI z ∧ z ≤ 16 ∧ (∀ p, p < z → zo s p < 16 ∧ s 9 p = nI (zo s p)) ∧ (∀ p q, p < z → q < z → zo s p = zo s q → p = q) ∧ ∀ j, j < 32 → (bt (s 6 4) j = true ↔ ∃ p, p < z ∧ zo s p = j)
theorem zOrd_room {s : zS} {z k : Nat} (h : zOrd s z) (hk : k < 16) (hp : ¬ bt (s 6 4) k = true) : z < 16 := by
  obtain ⟨h1, h2, h3, h4, h5⟩ := h
  rcases Nat.lt_or_ge z 16 with hz | hz
  · exact hz
  · have e : z = 16 := by omega
    subst e
    obtain ⟨p, hp1, hp2⟩ := pig16 (o := zo s) (fun p hp => (h3 p hp).1) h4 hk
    exact absurd ((h5 k (by omega)).mpr ⟨p, hp1, hp2⟩) hp
theorem p_place {n z k : Nat} {s : zS} (h : zOrd s z) (hk : k < 16) (hp : ¬ bt (s 6 4) k = true) : ∃ s', m_X4_place n (nI k) s = some (0, s') ∧ zOrd s' (z + 1) ∧ (∀ c, c ≠ 6 → c ≠ 9 → s' c = s c) ∧ s' 6 5 = s 6 5 ∧ s' 6 6 = s 6 6 ∧ zo s' z = k ∧ (∀ p, p < z → zo s' p = zo s p) ∧ ∀ j, j < 32 → bt (s' 6 4) j = (bt (s 6 4) j || decide (j = k)) := by
  have hz := zOrd_room h hk hp
  obtain ⟨h1, h2, h3, h4, h5⟩ := h
  have e9 : ∀ v w, zo (zU (zU (zU s 9 z (nI k)) 6 3 v) 6 4 w) = fun p => if p = z then k else zo s p := by
    intro v w
    funext p
    unfold zo
    rw [zU_ne (show 9 ≠ 6 by decide), zU_ne (show 9 ≠ 6 by decide), zU_g]
    by_cases e : p = z
    · rw [if_pos ⟨rfl, e⟩, if_pos e, nI_cl (by omega)]
    · rw [if_neg (fun q => e q.2), if_neg e]
  have n9 : ∀ v w p, p ≠ z → (zU (zU (zU s 9 z (nI k)) 6 3 v) 6 4 w) 9 p = s 9 p := by
    intro v w p hpz
    rw [zU_ne (show 9 ≠ 6 by decide), zU_ne (show 9 ≠ 6 by decide), zU_nj hpz]
  refine ⟨zU (zU (zU s 9 z (nI k)) 6 3 (nI (z + 1))) 6 4 (s 6 4 ||| zBit (nI k)), ?_, ⟨?_, by omega, fun p hpz => ?_, fun p q hpz hqz he => ?_, fun j hj => ?_⟩, fun c hc1 hc2 => ?_, ?_, ?_, ?_, fun p hpz => ?_, fun j hj => ?_⟩
  · unfold m_X4_place
    rw [h1, p_put hz (by decide), zBd_e, zLt_e, p_bit, zBd_e, zLt_e, zU_ne (show 6 ≠ 9 by decide), h1, nI_s]
    rw [zU_nj (show 4 ≠ 3 by decide), zU_ne (show 6 ≠ 9 by decide)]; rfl
  · rw [zU_nj (show 3 ≠ 4 by decide), zU_eq]
  · rw [e9]
    by_cases e : p = z
    · simp only [if_pos e]
      refine ⟨hk, ?_⟩
      rw [e, zU_ne (show 9 ≠ 6 by decide), zU_ne (show 9 ≠ 6 by decide), zU_eq]
    · simp only [if_neg e]
      rw [n9 _ _ p e]
      exact h3 p (by omega)
  · rw [e9] at he
    have nk : ∀ q, q < z → zo s q ≠ k := fun q hq e => hp ((h5 k (by omega)).mpr ⟨q, hq, e⟩)
    by_cases a : p = z <;> by_cases b : q = z
    · omega
    · simp only [if_pos a, if_neg b] at he; exact absurd he.symm (nk q (by omega))
    · simp only [if_neg a, if_pos b] at he; exact absurd he (nk p (by omega))
    · simp only [if_neg a, if_neg b] at he; exact h4 p q (by omega) (by omega) he
  · rw [zU_eq, b_or, bt_bit (by omega) hj, e9, Bool.or_eq_true_iff, h5 j hj]
    constructor
    · rintro (⟨p, hp1, hp2⟩ | e)
      · exact ⟨p, by omega, by simp only [if_neg (show ¬ p = z by omega)]; exact hp2⟩
      · exact ⟨z, by omega, by simp only [if_pos]; exact (of_decide_eq_true e).symm⟩
    · rintro ⟨p, hp1, hp2⟩
      by_cases e : p = z
      · simp only [if_pos e] at hp2
        exact Or.inr (decide_eq_true hp2.symm)
      · simp only [if_neg e] at hp2
        exact Or.inl ⟨p, by omega, hp2⟩
  · rw [zU_ne hc1, zU_ne hc1, zU_ne hc2]
  · rw [zU_nj (show 5 ≠ 4 by decide), zU_nj (show 5 ≠ 3 by decide), zU_ne (show 6 ≠ 9 by decide)]
  · rw [zU_nj (show 6 ≠ 4 by decide), zU_nj (show 6 ≠ 3 by decide), zU_ne (show 6 ≠ 9 by decide)]
  · rw [e9]; simp only [if_pos]
  · rw [e9]; simp only [if_neg (show ¬ p = z by omega)]
  · rw [zU_eq, b_or, bt_bit (by omega) hj]
end PO
