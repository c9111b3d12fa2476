section PA
/-! how the models' words are worked out -/
variable {β : Type}
theorem zLt_e {α : Type} {x : α} {f : α → Option β} : zLt x f = f x := rfl
theorem zBd_e {v : Int32} {s : zS} {f : Int32 → zS → Option β} : zBd (some (v, s)) f = f v s := rfl
theorem zBd_r {v : Int32} {s : zS} {f : Int32 → zS → Option β} : zBd (zRt v s) f = f v s := rfl
theorem zBx_e {v : Int32} {s : zS} {f : Int32 → zS → Option ((Int32 ⊕ Nat) × zS)} : zBx (some (.inl v, s)) f = f v s := rfl
theorem zBx_t {k : Nat} {s : zS} {f : Int32 → zS → Option ((Int32 ⊕ Nat) × zS)} : zBx (some (.inr k, s)) f = some (.inr k, s) := rfl
theorem zGd_e {c : Prop} [Decidable c] {x : Option β} (h : c) : zGd c x = x := by unfold zGd; rw [if_pos h]
theorem nI_ok {j n : Nat} (h : j < n) (hn : n < 2147483648) : ¬ (nI j < 0 ∨ n ≤ (nI j).toNatClampNeg) := nI_in h hn
theorem nI_cl {j : Nat} (hj : j < 2147483648) : (nI j).toNatClampNeg = j := nI_clamp hj
theorem zRd_n {g : Nat → Int32} {j n : Nat} {f : Int32 → Option β} (h : j < n) (hn : n < 2147483648) : zRd g (nI j) n f = f (g j) := by
  unfold zRd
  rw [if_neg (nI_ok h hn), nI_cl (Nat.lt_trans h hn)]
theorem zWr_n {σ : zS} {k j n : Nat} {v : Int32} {f : zS → Option β} (h : j < n) (hn : n < 2147483648) : zWr σ k (nI j) n v f = f (zU σ k j v) := by
  unfold zWr
  rw [if_neg (nI_ok h hn), nI_cl (Nat.lt_trans h hn)]
theorem zU_g (σ : zS) (k j : Nat) (v : Int32) (a c : Nat) : zU σ k j v a c = if a = k ∧ c = j then v else σ a c := by
  unfold zU upd
  by_cases h1 : a = k
  · by_cases h2 : c = j <;> simp [h1, h2]
  · simp [h1]
theorem zU_ne {σ : zS} {k j : Nat} {v : Int32} {a : Nat} (h : a ≠ k) : zU σ k j v a = σ a := by unfold zU; rw [if_neg h]
theorem zU_eq {σ : zS} {k j : Nat} {v : Int32} : zU σ k j v k j = v := by rw [zU_g, if_pos ⟨rfl, rfl⟩]
theorem zU_nj {σ : zS} {k j : Nat} {v : Int32} {c : Nat} (h : c ≠ j) : zU σ k j v k c = σ k c := by rw [zU_g, if_neg (fun q => h q.2)]
/-- a read that looks first: 0 where there is no such place -/
def zAt (s : zS) (k N : Nat) (v : Int32) : Int32 := if v < 0 then 0 else if nI N ≤ v then 0 else s k v.toNatClampNeg
theorem vp_of {v : Int32} {N : Nat} (hN : N < 2147483648) (h1 : ¬ v < 0) (h2 : ¬ nI N ≤ v) : ∃ j, j < N ∧ v = nI j := by
  rcases pk_ix v hN with h | h | ⟨j, h, e⟩
  · exact absurd h h1
  · exact absurd h h2
  · exact ⟨j, h, e⟩
theorem p_at {n k N : Nat} (hN : N < 2147483648) (v : Int32) (s : zS) : m_X7_at n k N v s = some (zAt s k N v, s) := by
  unfold m_X7_at zAt
  by_cases h1 : v < 0
  · rw [if_pos h1, if_pos h1]; rfl
  · rw [if_neg h1, if_neg h1]
    by_cases h2 : nI N ≤ v
    · rw [if_pos (show Int32.ofNat N ≤ v from h2), if_pos h2]; rfl
    · rw [if_neg (show ¬ Int32.ofNat N ≤ v from h2), if_neg h2]
      obtain ⟨j, hj, rfl⟩ := vp_of hN h1 h2
      rw [zRd_n hj hN, nI_cl (Nat.lt_trans hj hN)]; rfl
theorem zAt_n {s : zS} {k N j : Nat} (h : j < N) (hN : N < 2147483648) : zAt s k N (nI j) = s k j := by
  unfold zAt
  rw [if_neg (nI_pos (Nat.lt_trans h hN)), if_neg (nI_ge h hN), nI_cl (Nat.lt_trans h hN)]
theorem zAt_o {s : zS} {k N j : Nat} (h : N ≤ j) (hj : j < 2147483648) : zAt s k N (nI j) = 0 := by
  unfold zAt
  rw [if_neg (nI_pos hj), if_pos (nI_le h hj)]
theorem p_put {n k N j : Nat} {v : Int32} {s : zS} (h : j < N) (hN : N < 2147483648) : m_X7_put n k N (nI j) v s = some (0, zU s k j v) := by
  unfold m_X7_put
  rw [if_neg (nI_pos (Nat.lt_trans h hN)), if_neg (show ¬ Int32.ofNat N ≤ nI j from nI_ge h hN), zWr_n h hN]; rfl
/-- a loop that counts up to N -/
theorem for_up {R σ : Type} (L : Nat → Nat → σ → Option R) (I : Nat → σ → Prop) (N : Nat) (h1 : ∀ f i s, i < N → I i s → ∃ s', I (i + 1) s' ∧ L (f + 1) i s = L f (i + 1) s') : ∀ (d f i : Nat) (s : σ), i + d = N → d ≤ f → I i s → ∃ s' f', f' + d = f ∧ I N s' ∧ L f i s = L f' N s' := by
  intro d
  induction d with
  | zero => intro f i s hd hf hI; exact ⟨s, f, by omega, by rw [← hd]; exact hI, by rw [← hd]; rfl⟩
  | succ d ih =>
    intro f i s hd hf hI
    obtain ⟨f, rfl⟩ : ∃ g, f = g + 1 := ⟨f - 1, by omega⟩
    obtain ⟨s1, hI1, e1⟩ := h1 f i s (by omega) hI
    obtain ⟨s', f', hf', hI', e'⟩ := ih f (i + 1) s1 (by omega) (by omega) hI1
    exact ⟨s', f', by omega, hI', e1.trans e'⟩
theorem nI_s (i : Nat) : nI i + (1 : Int32) = nI (i + 1) := nI_1 i
theorem le_n {a b : Nat} (ha : a < 2147483648) (hb : b < 2147483648) : (nI a ≤ nI b) ↔ a ≤ b := nI_leI ha hb
theorem lt_n {a b : Nat} (ha : a < 2147483648) (hb : b < 2147483648) : (nI a < nI b) ↔ a < b := nI_ltI ha hb
theorem eq_n {a b : Nat} (ha : a < 2147483648) (hb : b < 2147483648) : (nI a = nI b) ↔ a = b := nI_eq ha hb
/-- small helpers of the class -/
theorem p_isWithin (n : Nat) (a b c : Int32) (s : zS) : m_X7_isWithin n a b c s = some (if b ≤ a ∧ a ≤ c then 1 else 0, s) := by
  unfold m_X7_isWithin
  by_cases h1 : a < b
  · have h3 : ¬ b ≤ a := Int32.not_le.mpr h1
    simp [h1, h3, zRt]
  · have h3 : b ≤ a := Int32.not_lt.mp h1
    by_cases h2 : c < a
    · have h4 : ¬ a ≤ c := Int32.not_le.mpr h2
      simp [h1, h2, h4, zRt]
    · have h4 : a ≤ c := Int32.not_lt.mp h2
      simp [h1, h2, h3, h4, zRt]
end PA
