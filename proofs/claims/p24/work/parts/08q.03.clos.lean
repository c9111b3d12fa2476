section PC
/-! paths through nodes below t, and the closure -/
def zPath (u : Nat → Nat → Bool) : Nat → Nat → Nat → Bool
  | 0, i, j => u i j
  | t + 1, i, j => zPath u t i j || (zPath u t i t && zPath u t t j)
theorem zPath_s {u : Nat → Nat → Bool} {t i j : Nat} : zPath u (t + 1) i j = (zPath u t i j || (zPath u t i t && zPath u t t j)) := rfl
theorem zPath_up {u : Nat → Nat → Bool} {t i j : Nat} (h : zPath u t i j = true) : zPath u (t + 1) i j = true := by
  rw [zPath_s, h]; rfl
theorem zPath_le {u : Nat → Nat → Bool} {a i j : Nat} (d : Nat) (h : zPath u a i j = true) : zPath u (a + d) i j = true := by
  induction d with
  | zero => exact h
  | succ d ih => exact zPath_up ih
theorem zPath_row {u : Nat → Nat → Bool} {t j : Nat} : zPath u (t + 1) t j = zPath u t t j := by
  rw [zPath_s]
  cases zPath u t t j <;> simp
theorem zPath_col {u : Nat → Nat → Bool} {t i : Nat} : zPath u (t + 1) i t = zPath u t i t := by
  rw [zPath_s]
  cases zPath u t i t <;> simp
theorem zPath_mid {u : Nat → Nat → Bool} : ∀ {t i m j : Nat}, m < t → zPath u t i m = true → zPath u t m j = true → zPath u t i j = true := by
  intro t
  induction t with
  | zero => intro i m j h; exact absurd h (Nat.not_lt_zero m)
  | succ t ih =>
    intro i m j hm h1 h2
    rw [zPath_s] at h1 h2 ⊢
    rcases Nat.lt_or_ge m t with hlt | hge
    · have k1 : ∀ {a b : Nat}, zPath u t a m = true → zPath u t m b = true → zPath u t a b = true := fun x y => ih hlt x y
      rcases Bool.or_eq_true_iff.mp h1 with a | a <;> rcases Bool.or_eq_true_iff.mp h2 with b | b
      · rw [k1 a b]; rfl
      · obtain ⟨b1, b2⟩ := Bool.and_eq_true_iff.mp b
        rw [k1 a b1, b2]; simp
      · obtain ⟨a1, a2⟩ := Bool.and_eq_true_iff.mp a
        rw [a1, k1 a2 b]; simp
      · obtain ⟨a1, a2⟩ := Bool.and_eq_true_iff.mp a
        obtain ⟨b1, b2⟩ := Bool.and_eq_true_iff.mp b
        rw [a1, b2]; simp
    · have hmt : m = t := by omega
      subst hmt
      have a : zPath u m i m = true := by
        rcases Bool.or_eq_true_iff.mp h1 with a | a
        · exact a
        · exact (Bool.and_eq_true_iff.mp a).1
      have b : zPath u m m j = true := by
        rcases Bool.or_eq_true_iff.mp h2 with b | b
        · exact b
        · exact (Bool.and_eq_true_iff.mp b).2
      rw [a, b]; simp
def zTC (u : Nat → Nat → Bool) (i j : Nat) : Bool := zPath u 16 i j
theorem zTC_tr {u : Nat → Nat → Bool} {i m j : Nat} (hm : m < 16) (h1 : zTC u i m = true) (h2 : zTC u m j = true) : zTC u i j = true := zPath_mid hm h1 h2
theorem zTC_of {u : Nat → Nat → Bool} {i j : Nat} (h : u i j = true) : zTC u i j = true := by
  have := zPath_le (u := u) (a := 0) 16 h
  exact this
theorem zPath_min {u : Nat → Nat → Bool} (Rl : Nat → Nat → Prop) (hu : ∀ i j, u i j = true → Rl i j) (ht : ∀ i m j, m < 16 → Rl i m → Rl m j → Rl i j) : ∀ t, t ≤ 16 → ∀ i j, zPath u t i j = true → Rl i j := by
  intro t
  induction t with
  | zero => intro _ i j h; exact hu i j h
  | succ t ih =>
    intro hle i j h
    rw [zPath_s] at h
    rcases Bool.or_eq_true_iff.mp h with a | a
    · exact ih (by omega) i j a
    · obtain ⟨a1, a2⟩ := Bool.and_eq_true_iff.mp a
      exact ht i t j (by omega) (ih (by omega) i t a1) (ih (by omega) t j a2)
theorem zTC_min {u : Nat → Nat → Bool} (Rl : Nat → Nat → Prop) (hu : ∀ i j, u i j = true → Rl i j) (ht : ∀ i m j, m < 16 → Rl i m → Rl m j → Rl i j) {i j : Nat} (h : zTC u i j = true) : Rl i j := zPath_min Rl hu ht 16 (Nat.le_refl _) i j h
/-- the last step, the first step -/
theorem zTC_last {u : Nat → Nat → Bool} {i j : Nat} (h : zTC u i j = true) : u i j = true ∨ ∃ m, m < 16 ∧ zTC u i m = true ∧ u m j = true := by
  refine (zTC_min (fun i j => zTC u i j = true ∧ (u i j = true ∨ ∃ m, m < 16 ∧ zTC u i m = true ∧ u m j = true)) (fun i j h => ⟨zTC_of h, Or.inl h⟩) (fun i m j hm a b => ⟨zTC_tr hm a.1 b.1, Or.inr ?_⟩) h).2
  rcases b.2 with b | ⟨k, hk, b1, b2⟩
  · exact ⟨m, hm, a.1, b⟩
  · exact ⟨k, hk, zTC_tr hm a.1 b1, b2⟩
theorem zTC_first {u : Nat → Nat → Bool} {i j : Nat} (h : zTC u i j = true) : u i j = true ∨ ∃ m, m < 16 ∧ u i m = true ∧ zTC u m j = true := by
  refine (zTC_min (fun i j => zTC u i j = true ∧ (u i j = true ∨ ∃ m, m < 16 ∧ u i m = true ∧ zTC u m j = true)) (fun i j h => ⟨zTC_of h, Or.inl h⟩) (fun i m j hm a b => ⟨zTC_tr hm a.1 b.1, Or.inr ?_⟩) h).2
  rcases a.2 with a | ⟨k, hk, a1, a2⟩
  · exact ⟨m, hm, a, b.1⟩
  · exact ⟨k, hk, a1, zTC_tr hm a2 b.1⟩
theorem zTC_sub {u v : Nat → Nat → Bool} (h : ∀ i j, u i j = true → v i j = true) {i j : Nat} (hp : zTC u i j = true) : zTC v i j = true :=
  zTC_min (fun i j => zTC v i j = true) (fun i j q => zTC_of (h i j q)) (fun _ _ _ hm a b => zTC_tr hm a b) hp
/-- a set each of whose nodes has a successor in it holds a node that reaches itself -/
theorem zTC_cyc {u : Nat → Nat → Bool} (S : Nat → Prop) (hS : ∀ i, S i → i < 16 ∧ ∃ j, S j ∧ u i j = true) {i0 : Nat} (h0 : S i0) : ∃ i, S i ∧ zTC u i i = true := by
  -- how many nodes are reached, counted below n
  have cnt : ∃ c : Nat → Nat, ∀ i j, i < 16 → j < 16 → zTC u i j = true → ¬ zTC u j j = true → c j < c i := by
    refine ⟨fun i => ((List.range 16).filter (fun k => zTC u i k)).length, fun i j hi hj hij hjj => ?_⟩
    have hsub : ∀ k, k ∈ (List.range 16).filter (fun k => zTC u j k) → k ∈ ((List.range 16).filter (fun k => zTC u i k)).filter (fun k => decide (k ≠ j)) := by
      intro k hk
      obtain ⟨hk1, hk2⟩ := List.mem_filter.mp hk
      refine List.mem_filter.mpr ⟨List.mem_filter.mpr ⟨hk1, zTC_tr hj hij hk2⟩, decide_eq_true ?_⟩
      intro e
      subst e
      exact hjj hk2
    have nd : ((List.range 16).filter (fun k => zTC u j k)).Nodup := List.nodup_range.filter _
    have l1 : ((List.range 16).filter (fun k => zTC u j k)).length ≤ (((List.range 16).filter (fun k => zTC u i k)).filter (fun k => decide (k ≠ j))).length := nd.length_le_of_subset hsub
    have l2 : (((List.range 16).filter (fun k => zTC u i k)).filter (fun k => decide (k ≠ j))).length < ((List.range 16).filter (fun k => zTC u i k)).length := by
      refine List.length_filter_lt_length_iff_exists.mpr ⟨j, List.mem_filter.mpr ⟨List.mem_range.mpr hj, hij⟩, by simp⟩
    exact Nat.lt_of_le_of_lt l1 l2
  obtain ⟨c, hc⟩ := cnt
  -- descend
  have step : ∀ n i, S i → c i < n → ∃ i, S i ∧ zTC u i i = true := by
    intro n
    induction n with
    | zero => intro i _ h; exact absurd h (Nat.not_lt_zero _)
    | succ n ih =>
      intro i hi hn
      obtain ⟨hi16, j, hj, hij⟩ := hS i hi
      by_cases hjj : zTC u j j = true
      · exact ⟨j, hj, hjj⟩
      · have := hc i j hi16 (hS j hj).1 (zTC_of hij) hjj
        exact ih j hj (by omega)
  exact step (c i0 + 1) i0 h0 (Nat.lt_succ_self _)
end PC
