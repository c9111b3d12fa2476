section PG
/-! groups and circles -/
def zGr (r : Nat → Nat → Bool) (i j : Nat) : Bool := decide (j = i) || (decide (j < 16) && (r i j && r j i))
theorem for_or {R σ : Type} (L : Nat → Nat → σ → Option R) (I : Nat → σ → Prop) (N : Nat) (Q : Option R → Prop) (h1 : ∀ f i s, i < N → I i s → (∃ s', I (i + 1) s' ∧ L (f + 1) i s = L f i.succ s') ∨ Q (L (f + 1) i s)) : ∀ (d f i : Nat) (s : σ), i + d = N → d ≤ f → I i s → (∃ s' f', f' + d = f ∧ I N s' ∧ L f i s = L f' N s') ∨ Q (L f i s) := by
  intro d
  induction d with
  | zero => intro f i s hd hf hI; exact Or.inl ⟨s, f, by omega, by rw [← hd]; exact hI, by rw [← hd]; rfl⟩
  | succ d ih =>
    intro f i s hd hf hI
    obtain ⟨f, rfl⟩ : ∃ g, f = g + 1 := ⟨f - 1, by omega⟩
    rcases h1 f i s (by omega) hI with ⟨s1, hI1, e1⟩ | hq
    · rcases ih f (i + 1) s1 (by omega) (by omega) hI1 with ⟨s', f', hf', hI', e'⟩ | hq
      · exact Or.inl ⟨s', f', by omega, hI', e1.trans e'⟩
      · exact Or.inr (by rw [e1]; exact hq)
    · exact Or.inr hq
theorem p_findGroups {n : Nat} (hn : 100 ≤ n) {r : Nat → Nat → Bool} (s : zS) (hr : ∀ i, i < 16 → ∀ j, j < 32 → bt (s 7 i) j = r i j) : ∃ s', m_X4_findGroups n s = some (0, s') ∧ (∀ k, k ≠ 8 → s' k = s k) ∧ ∀ i, i < 16 → ∀ j, j < 32 → bt (s' 8 i) j = zGr r i j := by
  obtain ⟨s1, f1, hf1, ⟨g1, g2⟩, e1⟩ := for_up (fun f i s' => m_X4_findGroups_j2 n f (nI i) s') (fun i s' => (∀ k, k ≠ 8 → s' k = s k) ∧ ∀ a, a < i → ∀ j, j < 32 → bt (s' 8 a) j = zGr r a j) 16 (by
    intro f i s' hi ⟨h1, h2⟩
    have h7 : ∀ a, a < 16 → ∀ j, j < 32 → bt (s' 7 a) j = r a j := by intro a ha j hj; rw [h1 7 (by decide)]; exact hr a ha j hj
    obtain ⟨v, f3, hf3, r1, e3⟩ := for_up (fun f9 o (v : Int32) => m_X4_findGroups_j15 (m_X4_findGroups_j2 n f) n f9 (nI i) v (nI o) s') (fun o v => ∀ j, j < 32 → bt v j = (decide (j = i) || (decide (j < o) && (r i j && r j i)))) 16 (by
      intro f9 o v ho q
      have hs : ∀ j, (decide (j < o + 1) && (r i j && r j i)) = ((decide (j < o) && (r i j && r j i)) || (decide (j = o) && (r i o && r o i))) := by
        intro j
        by_cases e : j = o
        · subst e; simp
        · have : (j < o + 1) = (j < o) := propext (by omega)
          simp [this, e]
      by_cases b1 : bt (s' 7 i) o = true
      · by_cases b2 : bt (s' 7 o) i = true
        · refine ⟨v ||| zBit (nI o), fun j hj => ?_, ?_⟩
          · rw [hs, b_or, q j hj, bt_bit (by omega) hj, ← h7 i hi o (by omega), ← h7 o ho i (by omega), b1, b2]
            simp [Bool.or_assoc]
          · show m_X4_findGroups_j15 _ n (f9 + 1) (nI i) v (nI o) s' = _
            rw [m_X4_findGroups_j15, if_neg (n16 ho), p_reach, zBd_e, a16 hi, p_has, zBd_e, has_n (by omega), if_pos b1, if_neg (by decide), p_reach, zBd_e, a16 ho, p_has, zBd_e, has_n (by omega), if_pos b2, if_neg (by decide), p_bit, zBd_e, zLt_e, zLt_e, nI_s]
        · refine ⟨v, fun j hj => ?_, ?_⟩
          · rw [hs, q j hj, ← h7 o ho i (by omega), (by simpa using b2 : bt (s' 7 o) i = false)]; simp
          · show m_X4_findGroups_j15 _ n (f9 + 1) (nI i) v (nI o) s' = _
            rw [m_X4_findGroups_j15, if_neg (n16 ho), p_reach, zBd_e, a16 hi, p_has, zBd_e, has_n (by omega), if_pos b1, if_neg (by decide), p_reach, zBd_e, a16 ho, p_has, zBd_e, has_n (by omega), if_neg b2, if_pos rfl, zLt_e, nI_s]
      · refine ⟨v, fun j hj => ?_, ?_⟩
        · rw [hs, q j hj, ← h7 i hi o (by omega), (by simpa using b1 : bt (s' 7 i) o = false)]; simp
        · show m_X4_findGroups_j15 _ n (f9 + 1) (nI i) v (nI o) s' = _
          rw [m_X4_findGroups_j15, if_neg (n16 ho), p_reach, zBd_e, a16 hi, p_has, zBd_e, has_n (by omega), if_neg b1, if_pos rfl, zLt_e, nI_s]) 16 n 0 (zBit (nI i)) rfl (by omega) (fun j hj => by rw [bt_bit (by omega) hj]; simp)
    obtain ⟨f3, rfl⟩ : ∃ g, f3 = g + 1 := ⟨f3 - 1, by omega⟩
    refine ⟨zU s' 8 i v, ⟨fun k hk => (zU_ne hk).trans (h1 k hk), fun a ha j hj => ?_⟩, ?_⟩
    · by_cases e : a = i
      · rw [e, zU_eq]; exact r1 j hj
      · rw [zU_nj e]; exact h2 a (by omega) j hj
    · show m_X4_findGroups_j2 n (f + 1) (nI i) s' = m_X4_findGroups_j2 n f (nI (i + 1)) _
      rw [m_X4_findGroups_j2, if_neg (n16 hi), p_bit, zBd_e]
      refine (show _ = _ from e3).trans ?_
      show m_X4_findGroups_j15 _ n (f3 + 1) (nI i) v (nI 16) s' = _
      rw [m_X4_findGroups_j15, if_pos n16e, p_put hi (by decide), zBd_e, zLt_e, nI_s]) 16 n 0 s rfl (by omega) ⟨fun _ _ => rfl, fun a h => absurd h (Nat.not_lt_zero a)⟩
  obtain ⟨f1, rfl⟩ : ∃ g, f1 = g + 1 := ⟨f1 - 1, by omega⟩
  refine ⟨s1, ?_, g1, g2⟩
  unfold m_X4_findGroups
  refine (show _ = _ from e1).trans ?_
  show m_X4_findGroups_j2 n (f1 + 1) (nI 16) s1 = _
  rw [m_X4_findGroups_j2, if_pos n16e]; rfl
end PG
