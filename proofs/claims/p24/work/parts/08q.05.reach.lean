section PF
/-! the class finds what reaches what -/
theorem n16 {i : Nat} (h : i < 16) : ¬ (16 : Int32) ≤ nI i := nI_ge (b := 16) h (by decide)
theorem n16e : (16 : Int32) ≤ nI 16 := nI_le (a := 16) (Nat.le_refl _) (by decide)
theorem a16 {s : zS} {k i : Nat} (h : i < 16) : zAt s k 16 (nI i) = s k i := zAt_n h (by decide)
def zUs (s : zS) (i : Nat) : Int32 := zUse (s 2 i) (s 3 i) (s 4 i) false
def zu (s : zS) (i j : Nat) : Bool := bt (zUs s i) j
theorem zUs_c {s s' : zS} (h : ∀ k, k ≠ 7 → s' k = s k) (i : Nat) : zUs s' i = zUs s i := by
  unfold zUs; rw [h 2 (by decide), h 3 (by decide), h 4 (by decide)]
theorem p_uses_n {n i : Nat} (hi : i < 16) (s : zS) : m_X5_uses n (nI i) s = some (zUs s i, s) := by
  rw [p_uses, a16 hi, a16 hi, a16 hi]; rfl
theorem p_findReach {n : Nat} (hn : 100 ≤ n) (s : zS) : ∃ s', m_X4_findReach n s = some (0, s') ∧ (∀ k, k ≠ 7 → s' k = s k) ∧ ∀ i, i < 16 → ∀ j, j < 32 → bt (s' 7 i) j = zTC (zu s) i j := by
  obtain ⟨s1, f1, hf1, ⟨g1, g2⟩, e1⟩ := for_up (fun f i s' => m_X4_findReach_j2 n f (nI i) s') (fun i s' => (∀ k, k ≠ 7 → s' k = s k) ∧ ∀ a, a < i → s' 7 a = zUs s a) 16 (by
    intro f i s' hi ⟨h1, h2⟩
    refine ⟨zU s' 7 i (zUs s i), ⟨fun k hk => (zU_ne hk).trans (h1 k hk), fun a ha => ?_⟩, ?_⟩
    · by_cases e : a = i
      · rw [e, zU_eq]
      · rw [zU_nj e]; exact h2 a (by omega)
    · show m_X4_findReach_j2 n (f + 1) (nI i) s' = m_X4_findReach_j2 n f (nI (i + 1)) _
      rw [m_X4_findReach_j2, if_neg (n16 hi), p_uses_n hi, zBd_e, p_put hi (by decide), zBd_e, zLt_e, nI_s, zUs_c h1]) 16 n 0 s rfl (by omega) ⟨fun _ _ => rfl, fun a h => absurd h (Nat.not_lt_zero a)⟩
  -- the closure, middle by middle
  obtain ⟨s2, f2, hf2, ⟨k1, k2⟩, e2⟩ := for_up (fun f m s' => m_X4_findReach_j29 n f (nI m) s') (fun m s' => (∀ k, k ≠ 7 → s' k = s k) ∧ ∀ i, i < 16 → ∀ j, j < 32 → bt (s' 7 i) j = zPath (zu s) m i j) 16 (by
    intro f m s' hm ⟨h1, h2⟩
    obtain ⟨s3, f3, hf3, ⟨r1, r2⟩, e3⟩ := for_up (fun f9 i s9 => m_X4_findReach_j37 (m_X4_findReach_j29 n f) n f9 (nI m) (nI i) s9) (fun i s9 => (∀ k, k ≠ 7 → s9 k = s k) ∧ ∀ a, a < 16 → ∀ j, j < 32 → bt (s9 7 a) j = zPath (zu s) (if a < i then m + 1 else m) a j) 16 (by
      intro f9 i s9 hi ⟨q1, q2⟩
      have row : ∀ j, j < 32 → bt (s9 7 m) j = zPath (zu s) m m j := by
        intro j hj
        rw [q2 m hm j hj]
        split
        · exact zPath_row
        · rfl
      have col : bt (s9 7 i) m = zPath (zu s) m i m := by
        rw [q2 i hi m (by omega), if_neg (Nat.lt_irrefl i)]
      by_cases hb : bt (s9 7 i) m = true
      · refine ⟨zU s9 7 i (s9 7 i ||| s9 7 m), ⟨fun k hk => (zU_ne hk).trans (q1 k hk), fun a ha j hj => ?_⟩, ?_⟩
        · by_cases e : a = i
          · subst e
            rw [zU_eq, b_or, row j hj, q2 a ha j hj, if_neg (Nat.lt_irrefl a), if_pos (Nat.lt_succ_self a), zPath_s, ← col, hb]
            simp
          · rw [zU_nj e, q2 a ha j hj]
            have : (a < i + 1) ↔ (a < i) := by omega
            simp only [this]
        · show m_X4_findReach_j37 _ n (f9 + 1) (nI m) (nI i) s9 = m_X4_findReach_j37 _ n f9 (nI m) (nI (i + 1)) _
          rw [m_X4_findReach_j37, if_neg (n16 hi), p_reach, zBd_e, a16 hi, p_has, zBd_e, has_n (by omega), if_pos hb, if_neg (by decide), p_reach, zBd_e, a16 hi, p_reach, zBd_e, a16 hm, p_put hi (by decide), zBd_e, zLt_e, nI_s]
      · refine ⟨s9, ⟨q1, fun a ha j hj => ?_⟩, ?_⟩
        · by_cases e : a = i
          · subst e
            rw [q2 a ha j hj, if_neg (Nat.lt_irrefl a), if_pos (Nat.lt_succ_self a), zPath_s, ← col]
            rw [show bt (s9 7 a) m = false by simpa using hb]
            simp
          · rw [q2 a ha j hj]
            have : (a < i + 1) ↔ (a < i) := by omega
            simp only [this]
        · show m_X4_findReach_j37 _ n (f9 + 1) (nI m) (nI i) s9 = m_X4_findReach_j37 _ n f9 (nI m) (nI (i + 1)) _
          rw [m_X4_findReach_j37, if_neg (n16 hi), p_reach, zBd_e, a16 hi, p_has, zBd_e, has_n (by omega), if_neg hb, if_pos rfl, zLt_e, nI_s]) 16 n 0 s' rfl (by omega) ⟨h1, fun a ha j hj => by rw [if_neg (Nat.not_lt_zero a)]; exact h2 a ha j hj⟩
    obtain ⟨f3, rfl⟩ : ∃ g, f3 = g + 1 := ⟨f3 - 1, by omega⟩
    refine ⟨s3, ⟨r1, fun i hi j hj => by rw [r2 i hi j hj, if_pos hi]⟩, ?_⟩
    show m_X4_findReach_j29 n (f + 1) (nI m) s' = m_X4_findReach_j29 n f (nI (m + 1)) s3
    rw [m_X4_findReach_j29, if_neg (n16 hm)]
    refine (show _ = _ from e3).trans ?_
    show m_X4_findReach_j37 _ n (f3 + 1) (nI m) (nI 16) s3 = _
    rw [m_X4_findReach_j37, if_pos n16e, zLt_e, nI_s]) 16 n 0 s1 rfl (by omega) ⟨g1, fun i hi j hj => by rw [g2 i hi]; rfl⟩
  obtain ⟨f1, rfl⟩ : ∃ g, f1 = g + 1 := ⟨f1 - 1, by omega⟩
  obtain ⟨f2, rfl⟩ : ∃ g, f2 = g + 1 := ⟨f2 - 1, by omega⟩
  refine ⟨s2, ?_, k1, k2⟩
  unfold m_X4_findReach
  refine (show _ = _ from e1).trans ?_
  show m_X4_findReach_j2 n (f1 + 1) (nI 16) s1 = _
  rw [m_X4_findReach_j2, if_pos n16e]
  refine (show _ = _ from e2).trans ?_
  show m_X4_findReach_j29 n (f2 + 1) (nI 16) s2 = _
  rw [m_X4_findReach_j29, if_pos n16e]; rfl
end PF
