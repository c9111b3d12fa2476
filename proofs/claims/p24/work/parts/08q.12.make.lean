section PM
/-! the class makes its plan -/
def zCir (r : Nat → Nat → Bool) (i : Nat) (v : Int32) : Prop := ∀ j, j < 32 → bt v j = (decide (j < 16) && (r i j && r j i))
theorem zCir_eq {r : Nat → Nat → Bool} {i : Nat} {v w : Int32} (h1 : zCir r i v) (h2 : zCir r i w) : v = w := b_ext (fun j hj => by rw [h1 j hj, h2 j hj])
def zMI (b s' : zS) (r : Nat → Nat → Bool) (z : Nat) : Prop := (∀ c, c ≠ 6 → c ≠ 9 → s' c = b c) ∧ zOrd s' z ∧ (∀ i, i < 16 → bt (s' 6 4) i = true → ∀ j, j < 16 → r i j = true → r j i = true → bt (s' 6 4) j = true) ∧ (∀ p, p < z → (b 2 (zo s' p) ≠ 0 → ∃ q, q < p ∧ zo s' q = zNt (b 3 (zo s' p))) ∧ (zTwo (b 2 (zo s' p)) = true → ¬ (b 2 (zo s' p) = 8 ∧ r (zo s' p) (zo s' p) = true) → ∃ q, q < p ∧ zo s' q = zNt (b 4 (zo s' p)))) ∧ (∀ p, p < z → b 2 (zo s' p) = 8 → r (zo s' p) (zo s' p) = true → ∃ c, 0 < c ∧ p + c ≤ z ∧ (∀ q, p ≤ q → q < p + c → r (zo s' p) (zo s' q) = true ∧ r (zo s' q) (zo s' p) = true) ∧ ∀ j, j < 16 → r (zo s' p) j = true → r j (zo s' p) = true → ∃ q, p ≤ q ∧ q < p + c ∧ zo s' q = j) ∧ ∀ i, i < 16 → bt (s' 6 4) i = true → r i i = true → ∃ v L, zCir r i v ∧ zCG (b 2) (b 3) (b 4) v L
def zRdy (s' : zS) (r : Nat → Nat → Bool) (k : Nat) : Prop := ¬ bt (s' 6 4) k = true ∧ ∀ j, j < 16 → r k j = true → ¬ zGr r k j = true → bt (s' 6 4) j = true
/-- what is known of the base -/
def zBs (b : zS) (r : Nat → Nat → Bool) : Prop := zWf (b 2) (b 3) (b 4) ∧ (∀ i, i < 16 → ∀ j, j < 32 → bt (b 7 i) j = r i j) ∧ (∀ i, i < 16 → ∀ j, j < 32 → bt (b 8 i) j = zGr r i j) ∧ (∀ i m j, m < 16 → r i m = true → r m j = true → r i j = true) ∧ (∀ i j, i < 16 → r i j = true → j < 16) ∧ ∀ i j, i < 16 → zUb (b 2) (b 3) (b 4) false i j → r i j = true
theorem rdy_iff {n k : Nat} {b s' : zS} {r : Nat → Nat → Bool} (hB : zBs b r) (hf : ∀ c, c ≠ 6 → c ≠ 9 → s' c = b c) (hk : k < 16) : ∃ v, m_X4_isReady n (nI k) s' = some (v, s') ∧ ((v = 1 ∧ zRdy s' r k) ∨ (v = 0 ∧ ¬ zRdy s' r k)) := by
  obtain ⟨hw, h7, h8, ht, hl, hu⟩ := hB
  have e : (zHas (s' 6 4) (nI k) = 0 ∧ ((zAt s' 7 16 (nI k) &&& (zAt s' 8 16 (nI k) ^^^ (-1 : Int32))) &&& ((s' 6 4) ^^^ (-1 : Int32))) = 0) ↔ zRdy s' r k := by
    unfold zRdy
    rw [a16 hk, a16 hk, hf 7 (by decide) (by decide), hf 8 (by decide) (by decide), has_n (by omega), andn_0]
    refine and_congr ?_ ?_
    · by_cases h : bt (s' 6 4) k = true
      · simp [h]
      · simp [h]
    · constructor
      · intro h j hj h1 h2
        refine h j (by omega) ?_
        rw [b_and, b_xor, b_m1 j (by omega), h7 k hk j (by omega), h8 k hk j (by omega), h1]
        simpa using h2
      · intro h j hj hb
        rw [b_and, b_xor, b_m1 j hj, h7 k hk j hj, h8 k hk j hj] at hb
        obtain ⟨q1, q2⟩ := Bool.and_eq_true_iff.mp hb
        exact h j (hl k j hk q1) q1 (by simpa using q2)
  rw [p_isReady]
  by_cases h : zRdy s' r k
  · exact ⟨1, by rw [if_pos (e.mpr h)], Or.inl ⟨rfl, h⟩⟩
  · exact ⟨0, by rw [if_neg (fun q => h (e.mp q))], Or.inr ⟨rfl, h⟩⟩
theorem circ_iff {n k : Nat} {b s' : zS} {r : Nat → Nat → Bool} (hB : zBs b r) (hf : ∀ c, c ≠ 6 → c ≠ 9 → s' c = b c) (hk : k < 16) : m_X4_isCircular n (nI k) s' = some (if r k k = true then 1 else 0, s') := by
  rw [p_isCircular, a16 hk, hf 7 (by decide) (by decide), has_n (by omega), hB.2.1 k hk k (by omega)]
theorem zMI_one {n k z : Nat} {b s' : zS} {r : Nat → Nat → Bool} (hB : zBs b r) (hI : zMI b s' r z) (hk : k < 16) (hr : zRdy s' r k) (hnc : ¬ r k k = true) : ∃ s2, m_X4_place n (nI k) s' = some (0, s2) ∧ zMI b s2 r (z + 1) := by
  obtain ⟨hw, h7, h8, ht, hl, hu⟩ := hB
  obtain ⟨i1, i2, i3, i4, i5, i6⟩ := hI
  obtain ⟨s2, e2, o2, fr2, _, _, ok, oo, pl⟩ := p_place (n := n) i2 hk hr.1
  have pb : ∀ j, j < 16 → bt (s2 6 4) j = true → bt (s' 6 4) j = true ∨ j = k := by
    intro j hj hb
    rw [pl j (by omega)] at hb
    rcases Bool.or_eq_true_iff.mp hb with h | h
    · exact Or.inl h
    · exact Or.inr (of_decide_eq_true h)
  have up : ∀ j, j < 16 → bt (s' 6 4) j = true → bt (s2 6 4) j = true := fun j hj h => by rw [pl j (by omega), h]; rfl
  have bef : ∀ j, j < 16 → r k j = true → ∃ q, q < z ∧ zo s2 q = j := by
    intro j hj hrj
    have hng : ¬ zGr r k j = true := by
      intro hg
      unfold zGr at hg
      rcases Bool.or_eq_true_iff.mp hg with h | h
      · rw [of_decide_eq_true h] at hrj; exact hnc hrj
      · obtain ⟨_, h⟩ := Bool.and_eq_true_iff.mp h
        obtain ⟨h1, h2⟩ := Bool.and_eq_true_iff.mp h
        exact hnc (ht k j k hj h1 h2)
    obtain ⟨q, hq, eq⟩ := (i2.2.2.2.2 j (by omega)).mp (hr.2 j hj hrj hng)
    exact ⟨q, hq, by rw [oo q hq]; exact eq⟩
  refine ⟨s2, e2, fun c h6 h9 => by rw [fr2 c h6 h9, i1 c h6 h9], o2, fun i hi hb j hj hij hji => ?_, fun p hp => ?_, fun p hp hp8 hpc => ?_, fun i hi hb hc => ?_⟩
  · rcases pb i hi hb with h | h
    · exact up j hj (i3 i hi h j hj hij hji)
    · subst h; exact absurd (ht i j i hj hij hji) hnc
  · by_cases e : p = z
    · subst e
      rw [ok]
      exact ⟨fun h => bef _ (zWf_f hw hk h).1 (hu k _ hk (Or.inl ⟨h, rfl⟩)), fun h _ => bef _ (zWf_g hw hk h).1 (hu k _ hk (Or.inr ⟨h, rfl, rfl⟩))⟩
    · have hp' : p < z := by omega
      rw [oo p hp']
      obtain ⟨a1, a2⟩ := i4 p hp'
      exact ⟨fun h => let ⟨q, hq, eq⟩ := a1 h; ⟨q, hq, by rw [oo q (by omega)]; exact eq⟩, fun h h' => let ⟨q, hq, eq⟩ := a2 h h'; ⟨q, hq, by rw [oo q (by omega)]; exact eq⟩⟩
  · by_cases e : p = z
    · subst e; rw [ok] at hpc; exact absurd hpc hnc
    · have hp' : p < z := by omega
      rw [oo p hp'] at hp8 hpc ⊢
      obtain ⟨c, c0, c1, c2, c3⟩ := i5 p hp' hp8 hpc
      refine ⟨c, c0, by omega, fun q h1 h2 => by rw [oo q (by omega)]; exact c2 q h1 h2, fun j hj h1 h2 => ?_⟩
      obtain ⟨q, q1, q2, q3⟩ := c3 j hj h1 h2
      exact ⟨q, q1, q2, by rw [oo q (by omega)]; exact q3⟩
  · rcases pb i hi hb with h | h
    · exact i6 i hi h hc
    · subst h; exact absurd hc hnc
theorem zMI_circ {n k z : Nat} (hn : 100 ≤ n) {b s' : zS} {r : Nat → Nat → Bool} (hB : zBs b r) (hI : zMI b s' r z) (hk : k < 16) (hr : zRdy s' r k) (hc : r k k = true) : ∃ w s2, m_X4_placeCircle n (b 8 k) s' = some (w, s2) ∧ (∀ c, c ≠ 6 → c ≠ 9 → s2 c = b c) ∧ ((w = 0 ∧ ∃ v, zCir r k v ∧ zCB (b 2) (b 3) (b 4) v) ∨ (w = 1 ∧ ∃ z2, z < z2 ∧ zMI b s2 r z2)) := by
  obtain ⟨hw, h7, h8, ht, hl, hu⟩ := hB
  obtain ⟨i1, i2, i3, i4, i5, i6⟩ := hI
  have c2 := i1 2 (by decide) (by decide)
  have c3 := i1 3 (by decide) (by decide)
  have c4 := i1 4 (by decide) (by decide)
  have hv : zCir r k (b 8 k) := by
    intro j hj
    rw [h8 k hk j hj]
    unfold zGr
    by_cases e : j = k
    · subst e; simp [hk, hc]
    · simp [e]
  have hvb : ∀ j, j < 32 → (bt (b 8 k) j = true ↔ j < 16 ∧ r k j = true ∧ r j k = true) := by
    intro j hj
    rw [hv j hj]; simp [and_assoc]
  have nd : ∀ j, j < 32 → bt (b 8 k) j = true → ¬ bt (s' 6 4) j = true := by
    intro j hj hb hp
    obtain ⟨j16, h1, h2⟩ := (hvb j hj).mp hb
    exact hr.1 (i3 j j16 hp k hk h2 h1)
  obtain ⟨w, s2, e, fr, res⟩ := p_placeCircle (n := n) (z := z) hn (v := b 8 k) (s := s') (by rw [c2, c3, c4]; exact hw) i2 (fun j hj hb => ((hvb j hj).mp hb).1) nd (by
    intro i hi hb j hj hub
    rw [c2, c3, c4] at hub
    obtain ⟨_, q1, q2⟩ := (hvb i (by omega)).mp hb
    have hkj : r k j = true := ht k i j hi q1 (hu i j hi hub)
    by_cases hg : zGr r k j = true
    · left; rw [h8 k hk j (by omega)]; exact hg
    · right; exact hr.2 j hj hkj hg)
  rw [c2, c3, c4] at res
  refine ⟨w, s2, e, fun c h6 h9 => by rw [fr c h6 h9, i1 c h6 h9], ?_⟩
  rcases res with ⟨w0, hbad⟩ | ⟨w1, L, hG, z2, o2, hz, oL, oo, pl, mem, bef⟩
  · exact Or.inl ⟨w0, _, hv, hbad⟩
  · refine Or.inr ⟨w1, z2, hz, ?_⟩
    have hL16 := hG.1.1
    obtain ⟨bL, kL⟩ := (hG.1.2 L hL16).mpr rfl
    obtain ⟨_, rkL, rLk⟩ := (hvb L (by omega)).mp bL
    have pb : ∀ j, j < 16 → bt (s2 6 4) j = true → bt (s' 6 4) j = true ∨ bt (b 8 k) j = true := by
      intro j hj hb
      rw [pl j (by omega)] at hb
      exact Bool.or_eq_true_iff.mp hb
    have up : ∀ j, j < 16 → bt (s' 6 4) j = true → bt (s2 6 4) j = true := fun j hj h => by rw [pl j (by omega), h]; rfl
    have upv : ∀ j, j < 16 → bt (b 8 k) j = true → bt (s2 6 4) j = true := fun j hj h => by rw [pl j (by omega), h]; simp
    have same : ∀ i, i < 16 → bt (b 8 k) i = true → zCir r i (b 8 k) := by
      intro i hi hb j hj
      obtain ⟨_, q1, q2⟩ := (hvb i (by omega)).mp hb
      rw [hv j hj]
      by_cases hj16 : j < 16
      · have e1 : (r k j && r j k) = (r i j && r j i) := by
          have a1 : r k j = true → r i j = true := ht i k j hk q2
          have a2 : r i j = true → r k j = true := ht k i j hi q1
          have a3 : r j k = true → r j i = true := fun h => ht j k i hk h q1
          have a4 : r j i = true → r j k = true := fun h => ht j i k hi h q2
          rw [show r k j = r i j from Bool.eq_iff_iff.mpr ⟨a1, a2⟩, show r j k = r j i from Bool.eq_iff_iff.mpr ⟨a3, a4⟩]
        rw [e1]
      · simp [hj16]
    refine ⟨fun c h6 h9 => by rw [fr c h6 h9, i1 c h6 h9], o2, fun i hi hb j hj hij hji => ?_, fun p hp => ?_, fun p hp hp8 hpc => ?_, fun i hi hb hci => ?_⟩
    · rcases pb i hi hb with h | h
      · exact up j hj (i3 i hi h j hj hij hji)
      · refine upv j hj ?_
        rw [same i hi h j (by omega)]; simp [hj, hij, hji]
    · rcases Nat.lt_or_ge p z with hpz | hpz
      · rw [oo p hpz]
        obtain ⟨a1, a2⟩ := i4 p hpz
        exact ⟨fun h => let ⟨q, hq, eq⟩ := a1 h; ⟨q, hq, by rw [oo q (by omega)]; exact eq⟩, fun h h' => let ⟨q, hq, eq⟩ := a2 h h'; ⟨q, hq, by rw [oo q (by omega)]; exact eq⟩⟩
      · have hm := (o2.2.2.1 p hp).1
        by_cases e : p = z
        · subst e
          rw [oL]
          refine ⟨fun h => ?_, fun h h' => ?_⟩
          · have hf := (zWf_f hw hL16 h).1
            have hkF : r k (zNt (b 3 L)) = true := ht k L _ hL16 rkL (hu L _ hL16 (Or.inl ⟨h, rfl⟩))
            have hp := hr.2 _ hf hkF (by rw [← h8 k hk _ (by omega)]; exact hG.2.1)
            obtain ⟨q, hq, eq⟩ := (i2.2.2.2.2 _ (by omega)).mp hp
            exact ⟨q, hq, by rw [oo q hq]; exact eq⟩
          · exact absurd ⟨kL, ht L k L hk rLk rkL⟩ h'
        · have hb := bef p (by omega) hp
          exact ⟨fun h => hb _ (zWf_f hw hm h).1 (Or.inl ⟨h, rfl⟩), fun h _ => hb _ (zWf_g hw hm h).1 (Or.inr ⟨h, rfl, rfl⟩)⟩
    · rcases Nat.lt_or_ge p z with hpz | hpz
      · rw [oo p hpz] at hp8 hpc ⊢
        obtain ⟨c, c0, c1, c2, c3⟩ := i5 p hpz hp8 hpc
        refine ⟨c, c0, by omega, fun q h1 h2 => by rw [oo q (by omega)]; exact c2 q h1 h2, fun j hj h1 h2 => ?_⟩
        obtain ⟨q, q1, q2, q3⟩ := c3 j hj h1 h2
        exact ⟨q, q1, q2, by rw [oo q (by omega)]; exact q3⟩
      · have hm := (o2.2.2.1 p hp).1
        have hpL : zo s2 p = L := (hG.1.2 _ hm).mp ⟨mem p hpz hp, hp8⟩
        have hpz' : p = z := o2.2.2.2.1 p z hp hz (hpL.trans oL.symm)
        subst hpz'
        rw [oL]
        refine ⟨z2 - p, by omega, by omega, fun q h1 h2 => ?_, fun j hj h1 h2 => ?_⟩
        · have hq2 : q < z2 := by omega
          have hq := (o2.2.2.1 q hq2).1
          obtain ⟨_, q1, q2⟩ := (hvb _ (by omega)).mp (mem q h1 hq2)
          exact ⟨ht L k _ hk rLk q1, ht _ k L hk q2 rkL⟩
        · have hb : bt (b 8 k) j = true := (hvb j (by omega)).mpr ⟨hj, ht k L j hL16 rkL h1, ht j L k hL16 h2 rLk⟩
          obtain ⟨q, hq, eq⟩ := (o2.2.2.2.2 j (by omega)).mp (upv j hj hb)
          refine ⟨q, ?_, by omega, eq⟩
          rcases Nat.lt_or_ge q p with h | h
          · exact absurd ((i2.2.2.2.2 j (by omega)).mpr ⟨q, h, by rw [← oo q h]; exact eq⟩) (nd j (by omega) hb)
          · exact h
    · rcases pb i hi hb with h | h
      · exact i6 i hi h hci
      · exact ⟨b 8 k, L, same i hi h, hG⟩
theorem zRdy_ex {b s' : zS} {r : Nat → Nat → Bool} {z : Nat} (hB : zBs b r) (_hI : zMI b s' r z) {k : Nat} (hk : k < 16) (hnp : ¬ bt (s' 6 4) k = true) : ∃ i, i < 16 ∧ zRdy s' r i := by
  obtain ⟨hw, h7, h8, ht, hl, hu⟩ := hB
  refine Classical.byContradiction (fun hno => ?_)
  obtain ⟨i, ⟨hi, _⟩, hc⟩ := zTC_cyc (u := fun i j => r i j && !r j i && decide (j < 16)) (fun i => i < 16 ∧ ¬ bt (s' 6 4) i = true) (by
    intro i ⟨hi, hip⟩
    refine ⟨hi, ?_⟩
    refine Classical.byContradiction (fun hn => hno ⟨i, hi, hip, fun j hj hij hg => ?_⟩)
    refine Classical.byContradiction (fun hjp => hn ⟨j, ⟨hj, hjp⟩, ?_⟩)
    have : ¬ r j i = true := fun h => hg (by unfold zGr; simp [hj, hij, h])
    simp [hij, this, hj]) ⟨hk, hnp⟩
  have key := zTC_min (u := fun i j => r i j && !r j i && decide (j < 16)) (fun i j => r i j = true ∧ ¬ r j i = true ∧ j < 16) (fun i j h => by
    simp only [Bool.and_eq_true, Bool.not_eq_true', decide_eq_true_eq] at h
    exact ⟨h.1.1, by simp [h.1.2], h.2⟩) (fun i m j hm h1 h2 => ⟨ht i m j hm h1.1 h2.1, fun h => h1.2.1 (ht m j i h2.2.2 h2.1 h), h2.2.2⟩) hc
  exact key.2.1 key.1
theorem b_all {x : Int32} (h : ∀ j, j < 32 → (bt x j = true ↔ j < 16)) : x = 65535 := b_ext (fun j hj => by
  rw [b_65535]
  cases hb : bt x j with
  | true => exact (decide_eq_true ((h j hj).mp hb)).symm
  | false => exact (decide_eq_false (fun q => by rw [(h j hj).mpr q] at hb; cases hb)).symm)
theorem zMI_rounds {n : Nat} (hn : 100 ≤ n) {b s' : zS} {r : Nat → Nat → Bool} (hB : zBs b r) (hI : zMI b s' r 0) : (∃ s2, m_X4_make_j21 n n 0 s' = some (1, s2) ∧ zMI b s2 r 16) ∨ ∃ s2, m_X4_make_j21 n n 0 s' = some (0, s2) ∧ (∀ c, c ≠ 6 → c ≠ 9 → s2 c = b c) ∧ ∃ i v, i < 16 ∧ r i i = true ∧ zCir r i v ∧ zCB (b 2) (b 3) (b 4) v := by
  have fin : ∀ s2 z, zMI b s2 r z → (∀ j, j < 16 → bt (s2 6 4) j = true) → z = 16 := by
    intro s2 z h2 hall
    obtain ⟨_, ⟨u1, u2, u3, u4, u5⟩, _⟩ := h2
    refine Classical.byContradiction (fun hne => ?_)
    have hlt : z < 16 := by omega
    -- z lines can't be 16
    have hx : ∃ o : Nat → Nat, ∀ j, j < 16 → o j < z ∧ zo s2 (o j) = j := by
      refine (Classical.skolem (p := fun j p => j < 16 → p < z ∧ zo s2 p = j)).mp (fun j => ?_)
      by_cases hj : j < 16
      · obtain ⟨p, hp, e⟩ := (u5 j (by omega)).mp (hall j hj)
        exact ⟨p, fun _ => ⟨hp, e⟩⟩
      · exact ⟨0, fun h => absurd h hj⟩
    obtain ⟨o, ho⟩ := hx
    obtain ⟨p, hp, e⟩ := pig16 (o := o) (fun j hj => by have := (ho j hj).1; omega) (fun p q hp hq e => by rw [← (ho p hp).2, ← (ho q hq).2, e]) hlt
    have := (ho p hp).1
    omega
  have key := for_or (fun f t s' => m_X4_make_j21 n f (nI t) s') (fun t s' => ∃ z, zMI b s' r z ∧ (t ≤ z ∨ ∀ j, j < 16 → bt (s' 6 4) j = true)) 16 (fun x => (∃ s2, x = some (1, s2) ∧ zMI b s2 r 16) ∨ ∃ s2, x = some (0, s2) ∧ (∀ c, c ≠ 6 → c ≠ 9 → s2 c = b c) ∧ ∃ i v, i < 16 ∧ r i i = true ∧ zCir r i v ∧ zCB (b 2) (b 3) (b 4) v) (by
    intro f t s1 ht ⟨z1, hz1, hd⟩
    have hnb : ∀ j, j < 32 → bt (s1 6 4) j = true → j < 16 := by
      intro j hj hb
      obtain ⟨p, hp, e⟩ := (hz1.2.1.2.2.2.2 j hj).mp hb
      rw [← e]; exact (hz1.2.1.2.2.1 p hp).1
    by_cases hall : ∀ j, j < 16 → bt (s1 6 4) j = true
    · refine Or.inr (Or.inl ⟨s1, ?_, ?_⟩)
      · show m_X4_make_j21 n (f + 1) (nI t) s1 = _
        rw [m_X4_make_j21, if_neg (n16 ht), if_pos (b_all (fun j hj => ⟨hnb j hj, hall j⟩))]; rfl
      · have := fin s1 z1 hz1 hall
        rw [this] at hz1; exact hz1
    have hne : ¬ s1 6 4 = 65535 := fun e => hall (fun j hj => by rw [e, b_65535]; simp [hj])
    have hex : ∃ k, k < 16 ∧ ¬ bt (s1 6 4) k = true := by
      refine Classical.byContradiction (fun hn => hall (fun j hj => ?_))
      exact Classical.byContradiction (fun hq => hn ⟨j, hj, hq⟩)
    obtain ⟨k, hk, hkp⟩ := hex
    obtain ⟨k1, hk1, hkr⟩ := zRdy_ex hB hz1 hk hkp
    have inner := for_or (fun f9 i s9 => m_X4_make_j38 (m_X4_make_j21 n f) n f9 (nI t) (nI i) s9) (fun i s9 => ∃ z9, zMI b s9 r z9 ∧ (z1 < z9 ∨ (s9 = s1 ∧ z9 = z1 ∧ ∀ k, k < i → ¬ zRdy s1 r k))) 16 (fun x => ∃ s2, x = some (0, s2) ∧ (∀ c, c ≠ 6 → c ≠ 9 → s2 c = b c) ∧ ∃ i v, i < 16 ∧ r i i = true ∧ zCir r i v ∧ zCB (b 2) (b 3) (b 4) v) (by
      intro f9 i s9 hi ⟨z9, hz9, hb⟩
      obtain ⟨w, e1, hw⟩ := rdy_iff (n := n) hB hz9.1 hi
      rcases hw with ⟨rfl, hrd⟩ | ⟨rfl, hrd⟩
      · have nz : z1 ≤ z9 := by rcases hb with h | ⟨_, h, _⟩ <;> omega
        by_cases hc : r i i = true
        · obtain ⟨w, s2, e2, fr2, hres⟩ := zMI_circ hn hB hz9 hi hrd hc
          have e8 : s9 8 i = b 8 i := by rw [hz9.1 8 (by decide) (by decide)]
          rcases hres with ⟨rfl, v, hv, hbad⟩ | ⟨rfl, z2, hz2, hI2⟩
          · refine Or.inr ⟨s2, ?_, fr2, i, v, hi, hc, hv, hbad⟩
            show m_X4_make_j38 _ n (f9 + 1) (nI t) (nI i) s9 = _
            rw [m_X4_make_j38, if_neg (n16 hi), e1, zBd_e, if_neg (by decide), circ_iff hB hz9.1 hi, zBd_e, if_pos hc, if_neg (by decide)]
            unfold m_X4_make_j68
            rw [e1, zBd_e, if_neg (by decide), p_groupOf, zBd_e, a16 hi, e8, e2, zBd_e, if_pos rfl]; rfl
          · refine Or.inl ⟨s2, ⟨z2, hI2, Or.inl (by omega)⟩, ?_⟩
            show m_X4_make_j38 _ n (f9 + 1) (nI t) (nI i) s9 = _
            rw [m_X4_make_j38, if_neg (n16 hi), e1, zBd_e, if_neg (by decide), circ_iff hB hz9.1 hi, zBd_e, if_pos hc, if_neg (by decide)]
            unfold m_X4_make_j68
            rw [e1, zBd_e, if_neg (by decide), p_groupOf, zBd_e, a16 hi, e8, e2, zBd_e, if_neg (by decide), zLt_e, nI_s]
        · obtain ⟨s2, e2, hI2⟩ := zMI_one (n := n) hB hz9 hi hrd hc
          refine Or.inl ⟨s2, ⟨z9 + 1, hI2, Or.inl (by omega)⟩, ?_⟩
          show m_X4_make_j38 _ n (f9 + 1) (nI t) (nI i) s9 = _
          rw [m_X4_make_j38, if_neg (n16 hi), e1, zBd_e, if_neg (by decide), circ_iff hB hz9.1 hi, zBd_e, if_neg hc, if_pos rfl, e2, zBd_e, zLt_e, nI_s]
      · refine Or.inl ⟨s9, ⟨z9, hz9, ?_⟩, ?_⟩
        · rcases hb with h | ⟨h1, h2, h3⟩
          · exact Or.inl h
          · refine Or.inr ⟨h1, h2, fun k hk => ?_⟩
            by_cases e : k = i
            · rw [e, ← h1]; exact hrd
            · exact h3 k (by omega)
        · show m_X4_make_j38 _ n (f9 + 1) (nI t) (nI i) s9 = _
          rw [m_X4_make_j38, if_neg (n16 hi), e1, zBd_e, if_pos rfl]
          unfold m_X4_make_j68
          rw [e1, zBd_e, if_pos rfl, zLt_e, nI_s]) 16 n 0 s1 rfl (by omega) ⟨z1, hz1, Or.inr ⟨rfl, rfl, fun k h => absurd h (Nat.not_lt_zero k)⟩⟩
    rcases inner with ⟨s2, f2, hf2, ⟨z2, hz2, hb⟩, e2⟩ | hq
    · obtain ⟨f2, rfl⟩ : ∃ g, f2 = g + 1 := ⟨f2 - 1, by omega⟩
      refine Or.inl ⟨s2, ⟨z2, hz2, ?_⟩, ?_⟩
      · rcases hb with h | ⟨_, _, h⟩
        · rcases hd with hd | hd
          · exact Or.inl (by omega)
          · exact absurd hd hall
        · exact absurd hkr (h k1 hk1)
      · show m_X4_make_j21 n (f + 1) (nI t) s1 = _
        rw [m_X4_make_j21, if_neg (n16 ht), if_neg hne]
        refine (show _ = _ from e2).trans ?_
        show m_X4_make_j38 _ n (f2 + 1) (nI t) (nI 16) s2 = _
        rw [m_X4_make_j38, if_pos n16e, zLt_e, nI_s]
    · refine Or.inr (Or.inr ?_)
      show ∃ s2, m_X4_make_j21 n (f + 1) (nI t) s1 = some (0, s2) ∧ _
      rw [m_X4_make_j21, if_neg (n16 ht), if_neg hne]
      exact hq) 16 n 0 s' rfl (by omega) ⟨0, hI, Or.inl (Nat.le_refl _)⟩
  rcases key with ⟨s2, f2, hf2, ⟨z2, hz2, hd⟩, e2⟩ | hq
  · obtain ⟨f2, rfl⟩ : ∃ g, f2 = g + 1 := ⟨f2 - 1, by omega⟩
    refine Or.inl ⟨s2, ?_, ?_⟩
    · refine (show _ = _ from e2).trans ?_
      show m_X4_make_j21 n (f2 + 1) (nI 16) s2 = _
      rw [m_X4_make_j21, if_pos n16e]; rfl
    · have : z2 = 16 := by
        rcases hd with h | h
        · have := hz2.2.1.2.1; omega
        · exact fin s2 z2 hz2 h
      rw [this] at hz2; exact hz2
  · exact hq
/-- the closure of what lines use -/
def zR (K F G : Nat → Int32) : Nat → Nat → Bool := zTC (fun i j => bt (zUse (K i) (F i) (G i) false) j)
theorem zR_u {K F G : Nat → Int32} (hw : zWf K F G) {i j : Nat} (hi : i < 16) (h : zUb K F G false i j) : zR K F G i j = true := zTC_of ((use_bt hw hi false (by have := zUb_lt hw hi h; omega)).mpr h)
theorem zR_lt {K F G : Nat → Int32} (hw : zWf K F G) {i j : Nat} (hi : i < 16) (h : zR K F G i j = true) : j < 16 := by
  have one : ∀ i j, i < 16 → bt (zUse (K i) (F i) (G i) false) j = true → j < 16 := by
    intro i j hi hb
    rcases Nat.lt_or_ge j 32 with hj | hj
    · exact zUb_lt hw hi ((use_bt hw hi false hj).mp hb)
    · rw [b_big hj] at hb; cases hb
  rcases zTC_last h with h | ⟨m, hm, _, h⟩
  · exact one i j hi h
  · exact one m j hm h
/-- what stands when the plan is made -/
def zPlan (b s : zS) : Prop := (∀ i, i < 16 → ∀ j, j < 32 → bt (s 7 i) j = zR (b 2) (b 3) (b 4) i j) ∧ (∀ i, i < 16 → ∀ j, j < 32 → bt (s 8 i) j = zGr (zR (b 2) (b 3) (b 4)) i j) ∧ zMI (fun c => if c = 7 then s 7 else if c = 8 then s 8 else b c) s (zR (b 2) (b 3) (b 4)) 16
theorem p_make {n : Nat} (hn : 100 ≤ n) {b : zS} (hw : zWf (b 2) (b 3) (b 4)) : (∃ s, m_X4_make n b = some (1, s) ∧ (∀ c, c ≠ 6 → c ≠ 7 → c ≠ 8 → c ≠ 9 → s c = b c) ∧ zPlan b s) ∨ ∃ s, m_X4_make n b = some (0, s) ∧ (∀ c, c ≠ 6 → c ≠ 7 → c ≠ 8 → c ≠ 9 → s c = b c) ∧ ∃ i v, i < 16 ∧ zR (b 2) (b 3) (b 4) i i = true ∧ zCir (zR (b 2) (b 3) (b 4)) i v ∧ zCB (b 2) (b 3) (b 4) v := by
  obtain ⟨s1, e1, fr1, r1⟩ := p_findReach hn b
  have r1' : ∀ i, i < 16 → ∀ j, j < 32 → bt (s1 7 i) j = zR (b 2) (b 3) (b 4) i j := r1
  obtain ⟨s2, e2, fr2, r2⟩ := p_findGroups hn s1 r1'
  have run : m_X4_make n b = m_X4_make_j21 n n 0 (zU (zU s2 6 3 0) 6 4 0) := by
    unfold m_X4_make
    rw [e1, zBd_e, e2, zBd_e, zLt_e, zLt_e]
  have q2 : s2 2 = b 2 := by rw [fr2 2 (by decide), fr1 2 (by decide)]
  have q3 : s2 3 = b 3 := by rw [fr2 3 (by decide), fr1 3 (by decide)]
  have q4 : s2 4 = b 4 := by rw [fr2 4 (by decide), fr1 4 (by decide)]
  have q7 : s2 7 = s1 7 := fr2 7 (by decide)
  have hB : zBs s2 (zR (b 2) (b 3) (b 4)) := by
    unfold zBs
    rw [q2, q3, q4, q7]
    exact ⟨hw, r1', r2, fun i m j hm h1 h2 => zTC_tr hm h1 h2, fun i j hi h => zR_lt hw hi h, fun i j hi h => zR_u hw hi h⟩
  have hI : zMI s2 (zU (zU s2 6 3 0) 6 4 0) (zR (b 2) (b 3) (b 4)) 0 := by
    refine ⟨fun c h6 _ => by rw [zU_ne h6, zU_ne h6], ⟨by rw [zU_nj (by decide), zU_eq]; rfl, by omega, fun p hp => by omega, fun p q hp => by omega, fun j hj => ?_⟩, fun i hi hb => ?_, fun p hp => by omega, fun p hp => by omega, fun i hi hb => ?_⟩
    · rw [zU_eq, b_0]
      exact ⟨fun h => (by cases h), fun ⟨p, hp, _⟩ => (by omega)⟩
    · rw [zU_eq, b_0] at hb; cases hb
    · rw [zU_eq, b_0] at hb; cases hb
  rw [run]
  rcases zMI_rounds hn hB hI with ⟨s, e, h⟩ | ⟨s, e, fr, i, v, hi, hc, hv, hbad⟩
  · refine Or.inl ⟨s, e, fun c h6 h7 h8 h9 => by rw [h.1 c h6 h9, fr2 c h8, fr1 c h7], ?_, ?_, ?_⟩
    · rw [h.1 7 (by decide) (by decide), q7]; exact r1'
    · rw [h.1 8 (by decide) (by decide)]; exact r2
    · have e9 : ∀ c, c ≠ 6 → c ≠ 9 → (fun c => if c = 7 then s 7 else if c = 8 then s 8 else b c) c = s2 c := by
        intro c h6 h9
        by_cases a : c = 7
        · simp only [a, if_pos]; exact h.1 7 (by decide) (by decide)
        · by_cases a8 : c = 8
          · simp only [a8, if_neg (show ¬ (8 : Nat) = 7 by decide), if_pos]; exact h.1 8 (by decide) (by decide)
          · simp only [if_neg a, if_neg a8]; rw [fr2 c a8, fr1 c a]
      obtain ⟨m1, m2, m3, m4, m5, m6⟩ := h
      rw [q2, q3] at m4
      rw [q4] at m4
      rw [q2] at m5
      rw [q2, q3, q4] at m6
      exact ⟨fun c h6 h9 => (m1 c h6 h9).trans (e9 c h6 h9).symm, m2, m3, m4, m5, m6⟩
  · rw [q2, q3, q4] at hbad
    exact Or.inr ⟨s, e, fun c h6 h7 h8 h9 => by rw [fr c h6 h9, fr2 c h8, fr1 c h7], i, v, hi, hc, hv, hbad⟩
end PM
