section PK
/-! the class lays a circle -/
/-- ranks and ways in a circle v with the limit L -/
def zRk (K F G : Nat → Int32) (v : Int32) (L : Nat) (A B : Nat → Bool) : Prop := ∃ rk : Nat → Nat, rk L = 0 ∧ (∀ k, k < 16 → rk k ≤ 16) ∧ (∀ k, k < 16 → bt v k = true → k ≠ L → ∀ j, j < 16 → zUb K F G false k j → bt v j = true → rk j < rk k) ∧ A L = true ∧ B L = false ∧ (∀ k, k < 16 → ¬ bt v k = true → A k = false ∧ B k = false) ∧ ∀ k, k < 16 → bt v k = true → k ≠ L → A k = mvA K F G A B k ∧ B k = mvA K F G B A k
def zFall (G : Nat → Int32) (L : Nat) (A B : Nat → Bool) : Prop := (∀ k, k < 16 → ¬ (A k = true ∧ B k = true)) ∧ B (zNt (G L)) = true
/-- the circle without the second line of its limit -/
def zwo (K F G : Nat → Int32) (L i j : Nat) : Bool := bt (zUse (K i) (F i) (G i) (decide (i = L))) j
def zCG (K F G : Nat → Int32) (v : Int32) (L : Nat) : Prop := zOne K v L ∧ ¬ bt v (zNt (F L)) = true ∧ ∃ A B, zRk K F G v L A B ∧ zFall G L A B
def zCB (K F G : Nat → Int32) (v : Int32) : Prop := (¬ ∃ L, zOne K v L) ∨ ∃ L, zOne K v L ∧ (bt v (zNt (F L)) = true ∨ (∃ k, k < 16 ∧ bt v k = true ∧ zTC (zwo K F G L) k k = true) ∨ ∃ A B, zRk K F G v L A B ∧ ¬ zFall G L A B)
/-- what stands while a circle is laid: z places before it, z1 now -/
def zCI (s : zS) (v : Int32) (L z z1 : Nat) (s' : zS) : Prop := (∀ c, c ≠ 6 → c ≠ 9 → s' c = s c) ∧ zOrd s' z1 ∧ z < z1 ∧ zo s' z = L ∧ (∀ p, p < z → zo s' p = zo s p) ∧ (∀ p, z ≤ p → p < z1 → bt v (zo s' p) = true) ∧ (∀ p, z < p → p < z1 → ∀ j, j < 16 → zUb (s 2) (s 3) (s 4) false (zo s' p) j → ∃ q, q < p ∧ zo s' q = j) ∧ (∀ j, j < 32 → bt (s' 6 5) j = true → ∃ p, z ≤ p ∧ p < z1 ∧ zo s' p = j) ∧ (∀ j, j < 32 → bt (s' 6 6) j = true → ∃ p, z < p ∧ p < z1 ∧ zo s' p = j) ∧ bt (s' 6 5) L = true ∧ ∀ p, z < p → p < z1 → bt (s' 6 5) (zo s' p) = mvA (s 2) (s 3) (s 4) (bt (s' 6 5)) (bt (s' 6 6)) (zo s' p) ∧ bt (s' 6 6) (zo s' p) = mvA (s 2) (s 3) (s 4) (bt (s' 6 6)) (bt (s' 6 5)) (zo s' p)
theorem mvA_c {K F G : Nat → Int32} {a b a' b' : Nat → Bool} {k : Nat} (h1 : K k ≠ 0 → a (zNt (F k)) = a' (zNt (F k)) ∧ b (zNt (F k)) = b' (zNt (F k))) (h2 : zTwo (K k) = true → a (zNt (G k)) = a' (zNt (G k)) ∧ b (zNt (G k)) = b' (zNt (G k))) : mvA K F G a b k = mvA K F G a' b' k := by
  unfold mvA
  congr 1
  · by_cases hk : K k = 0
    · simp [hk]
    · rw [(h1 hk).1]
  · cases ht : zTwo (K k) with
    | false => rfl
    | true => rw [(h2 ht).1, (h2 ht).2]
/-- a line that can be laid -/
def zAb (s : zS) (v : Int32) (s' : zS) (k : Nat) : Prop := bt v k = true ∧ ¬ bt (s' 6 4) k = true ∧ ∀ j, j < 16 → zUb (s 2) (s 3) (s 4) false k j → bt (s' 6 4) j = true
theorem zCI_step {n : Nat} {s s' : zS} {v : Int32} {L z z1 k : Nat} (hw : zWf (s 2) (s 3) (s 4)) (hI : zCI s v L z z1 s') (hk : k < 16) (hL : bt v L = true) (ha : zAb s v s' k) : ∃ s1 s2, m_X4_place n (nI k) s' = some (0, s1) ∧ m_X4_direct n (nI k) s1 = some (0, s2) ∧ zCI s v L z (z1 + 1) s2 := by
  obtain ⟨i1, i2, i3, i4, i5, i6, i7, i8, i9, i10, i11⟩ := hI
  obtain ⟨a1, a2, a3⟩ := ha
  obtain ⟨s1, e1, o1, fr1, r5, r6, ok, oo, pl⟩ := p_place (n := n) i2 hk a2
  have w1 : zWf (s1 2) (s1 3) (s1 4) := by
    rw [fr1 2 (by decide) (by decide), fr1 3 (by decide) (by decide), fr1 4 (by decide) (by decide), i1 2 (by decide) (by decide), i1 3 (by decide) (by decide), i1 4 (by decide) (by decide)]; exact hw
  obtain ⟨s2, e2, fr2, q3, q4, b5, b6⟩ := p_direct (n := n) hk w1
  rw [fr1 2 (by decide) (by decide), fr1 3 (by decide) (by decide), fr1 4 (by decide) (by decide), i1 2 (by decide) (by decide), i1 3 (by decide) (by decide), i1 4 (by decide) (by decide), r5, r6] at b5 b6
  have z2 : ∀ p, zo s2 p = zo s1 p := fun p => by unfold zo; rw [fr2 9 (by decide)]
  obtain ⟨u1, u2, u3, u4, u5⟩ := i2
  have ne : ∀ p, p < z1 → zo s' p ≠ k := fun p hp e => a2 ((u5 k (by omega)).mpr ⟨p, hp, e⟩)
  -- bits of lines other than k stay
  have s5 : ∀ j, j < 32 → j ≠ k → bt (s2 6 5) j = bt (s' 6 5) j := fun j hj h => by rw [b5 j hj]; simp [h]
  have s6 : ∀ j, j < 32 → j ≠ k → bt (s2 6 6) j = bt (s' 6 6) j := fun j hj h => by rw [b6 j hj]; simp [h]
  have k5 : bt (s' 6 5) k = false := by
    cases h : bt (s' 6 5) k with
    | false => rfl
    | true => obtain ⟨p, _, hp, e⟩ := i8 k (by omega) h; exact absurd e (ne p hp)
  have k6 : bt (s' 6 6) k = false := by
    cases h : bt (s' 6 6) k with
    | false => rfl
    | true => obtain ⟨p, _, hp, e⟩ := i9 k (by omega) h; exact absurd e (ne p hp)
  -- a line whose uses are laid before k
  have same : ∀ m, m < 16 → (∀ j, j < 16 → zUb (s 2) (s 3) (s 4) false m j → j ≠ k) → mvA (s 2) (s 3) (s 4) (bt (s2 6 5)) (bt (s2 6 6)) m = mvA (s 2) (s 3) (s 4) (bt (s' 6 5)) (bt (s' 6 6)) m ∧ mvA (s 2) (s 3) (s 4) (bt (s2 6 6)) (bt (s2 6 5)) m = mvA (s 2) (s 3) (s 4) (bt (s' 6 6)) (bt (s' 6 5)) m := by
    intro m hm hu
    have f1 : s 2 m ≠ 0 → bt (s2 6 5) (zNt (s 3 m)) = bt (s' 6 5) (zNt (s 3 m)) ∧ bt (s2 6 6) (zNt (s 3 m)) = bt (s' 6 6) (zNt (s 3 m)) := fun h => by
      have hf := (zWf_f hw hm h).1
      have := hu _ hf (Or.inl ⟨h, rfl⟩)
      exact ⟨s5 _ (by omega) this, s6 _ (by omega) this⟩
    have g1 : zTwo (s 2 m) = true → bt (s2 6 5) (zNt (s 4 m)) = bt (s' 6 5) (zNt (s 4 m)) ∧ bt (s2 6 6) (zNt (s 4 m)) = bt (s' 6 6) (zNt (s 4 m)) := fun h => by
      have hf := (zWf_g hw hm h).1
      have := hu _ hf (Or.inr ⟨h, rfl, rfl⟩)
      exact ⟨s5 _ (by omega) this, s6 _ (by omega) this⟩
    exact ⟨mvA_c f1 g1, mvA_c (fun h => (f1 h).symm) (fun h => (g1 h).symm)⟩
  have kL : L ≠ k := fun e => ne z i3 (i4.trans e)
  refine ⟨s1, s2, e1, e2, fun c h6 h9 => by rw [fr2 c h6, fr1 c h6 h9, i1 c h6 h9], ?_, by omega, by rw [z2, oo z i3]; exact i4, fun p hp => by rw [z2, oo p (by omega)]; exact i5 p hp, fun p h1 h2 => ?_, fun p h1 h2 j hj hu => ?_, fun j hj hb => ?_, fun j hj hb => ?_, ?_, fun p h1 h2 => ?_⟩
  · obtain ⟨v1, v2, v3, v4, v5⟩ := o1
    refine ⟨by rw [q3]; exact v1, v2, fun p hp => by rw [z2, fr2 9 (by decide)]; exact v3 p hp, fun p q hp hq => by rw [z2, z2]; exact v4 p q hp hq, fun j hj => ?_⟩
    rw [q4, v5 j hj]
    simp only [z2]
  · rw [z2]
    by_cases e : p = z1
    · rw [e, ok]; exact a1
    · rw [oo p (by omega)]; exact i6 p h1 (by omega)
  · rw [z2] at hu
    by_cases e : p = z1
    · rw [e, ok] at hu
      obtain ⟨q, hq, eq⟩ := (u5 j (by omega)).mp (a3 j hj hu)
      exact ⟨q, by omega, by rw [z2, oo q hq]; exact eq⟩
    · rw [oo p (by omega)] at hu
      obtain ⟨q, hq, eq⟩ := i7 p h1 (by omega) j hj hu
      exact ⟨q, hq, by rw [z2, oo q (by omega)]; exact eq⟩
  · by_cases e : j = k
    · exact ⟨z1, by omega, by omega, by rw [z2, ok]; exact e.symm⟩
    · rw [s5 j hj e] at hb
      obtain ⟨p, h1, h2, h3⟩ := i8 j hj hb
      exact ⟨p, h1, by omega, by rw [z2, oo p h2]; exact h3⟩
  · by_cases e : j = k
    · exact ⟨z1, by omega, by omega, by rw [z2, ok]; exact e.symm⟩
    · rw [s6 j hj e] at hb
      obtain ⟨p, h1, h2, h3⟩ := i9 j hj hb
      exact ⟨p, h1, by omega, by rw [z2, oo p h2]; exact h3⟩
  · rw [b5 L (by have := (u3 z i3).1; omega), i10]; rfl
  · rw [z2]
    by_cases e : p = z1
    · rw [e, ok]
      have hu : ∀ j, j < 16 → zUb (s 2) (s 3) (s 4) false k j → j ≠ k := fun j hj hu e => a2 (by rw [← e]; exact a3 j hj hu)
      obtain ⟨t1, t2⟩ := same k hk hu
      rw [t1, t2, b5 k (by omega), b6 k (by omega), k5, k6]
      simp
    · have hp : p < z1 := by omega
      rw [oo p hp]
      have hm := (u3 p hp).1
      have hu : ∀ j, j < 16 → zUb (s 2) (s 3) (s 4) false (zo s' p) j → j ≠ k := fun j hj hu e => by
        obtain ⟨q, hq, eq⟩ := i7 p h1 hp j hj hu
        exact ne q (by omega) (eq.trans e)
      obtain ⟨t1, t2⟩ := same _ hm hu
      rw [t1, t2, s5 _ (by omega) (ne p hp), s6 _ (by omega) (ne p hp)]
      exact i11 p h1 hp
/-- the rounds: at the end nothing more can be laid -/
theorem zCI_rounds {n : Nat} (hn : 100 ≤ n) {s s' : zS} {v : Int32} {L z z1 : Nat} (hw : zWf (s 2) (s 3) (s 4)) (hv : ∀ j, j < 32 → bt v j = true → j < 16) (hL : bt v L = true) (hI : zCI s v L z z1 s') (h1 : z1 = z + 1) : ∃ s2 z2, zCI s v L z z2 s2 ∧ (∀ k, k < 16 → ¬ zAb s v s2 k) ∧ m_X4_placeCircle_j47 n n v (nI L) 0 s' = if (v &&& (s2 6 4 ^^^ (-1 : Int32))) = 0 then m_X4_placeCircle_j137 n (nI L) 1 s2 else m_X4_placeCircle_j137 n (nI L) 0 s2 := by
  obtain ⟨s2, f1, hf1, ⟨z2, hz2, hd⟩, e1⟩ := for_up (fun f t s' => m_X4_placeCircle_j47 n f v (nI L) (nI t) s') (fun t s' => ∃ z1, zCI s v L z z1 s' ∧ (z + 1 + t ≤ z1 ∨ ∀ k, k < 16 → ¬ zAb s v s' k)) 16 (by
    intro f t s' ht ⟨z1, hz1, hd⟩
    obtain ⟨s3, f3, hf3, ⟨z3, hz3, hle, hb, hst⟩, e3⟩ := for_up (fun f9 i s9 => m_X4_placeCircle_j57 (m_X4_placeCircle_j47 n f) n f9 v (nI L) (nI t) (nI i) s9) (fun i s9 => ∃ z9, zCI s v L z z9 s9 ∧ z1 ≤ z9 ∧ (z1 < z9 ∨ ∀ k, k < i → ¬ zAb s v s9 k) ∧ ((∀ k, k < 16 → ¬ zAb s v s' k) → ∀ k, k < 16 → ¬ zAb s v s9 k)) 16 (by
      intro f9 i s9 hi ⟨z9, hz9, hle, hb, hst⟩
      have c2 : ∀ c, c ≠ 6 → c ≠ 9 → s9 c = s c := hz9.1
      have hu9 : zUs s9 i = zUse (s 2 i) (s 3 i) (s 4 i) false := by unfold zUs; rw [c2 2 (by decide) (by decide), c2 3 (by decide) (by decide), c2 4 (by decide) (by decide)]
      have hun : bt (v &&& (s9 6 4 ^^^ (-1 : Int32))) i = true ↔ bt v i = true ∧ ¬ bt (s9 6 4) i = true := by
        rw [b_and, b_xor, b_m1 i (by omega)]; simp
      have hus : ((zUs s9 i) &&& (s9 6 4 ^^^ (-1 : Int32))) = 0 ↔ ∀ j, j < 16 → zUb (s 2) (s 3) (s 4) false i j → bt (s9 6 4) j = true := by
        rw [andn_0, hu9]
        constructor
        · intro h j hj hu
          exact h j (by omega) ((use_bt hw hi false (by omega)).mpr hu)
        · intro h j hj hb
          have hu := (use_bt hw hi false hj).mp hb
          exact h j (zUb_lt hw hi hu) hu
      by_cases ha : zAb s v s9 i
      · obtain ⟨s1, s2, p1, p2, p3⟩ := zCI_step (n := n) hw hz9 hi hL ha
        refine ⟨s2, ⟨z9 + 1, p3, by omega, Or.inl (by omega), fun q => absurd ha (hst q i hi)⟩, ?_⟩
        show m_X4_placeCircle_j57 _ n (f9 + 1) v (nI L) (nI t) (nI i) s9 = m_X4_placeCircle_j57 _ n f9 v (nI L) (nI t) (nI (i + 1)) s2
        rw [m_X4_placeCircle_j57, if_neg (n16 hi), p_has, zBd_e, has_n (by omega), if_pos (hun.mpr ⟨ha.1, ha.2.1⟩), if_neg (by decide), p_uses_n hi, zBd_e, if_pos (hus.mpr ha.2.2), p1, zBd_e, p2, zBd_e, zLt_e, nI_s]
      · refine ⟨s9, ⟨z9, hz9, hle, ?_, hst⟩, ?_⟩
        · rcases hb with hb | hb
          · exact Or.inl hb
          · refine Or.inr (fun k hk => ?_)
            by_cases e : k = i
            · rw [e]; exact ha
            · exact hb k (by omega)
        · show m_X4_placeCircle_j57 _ n (f9 + 1) v (nI L) (nI t) (nI i) s9 = m_X4_placeCircle_j57 _ n f9 v (nI L) (nI t) (nI (i + 1)) s9
          by_cases hb : bt (v &&& (s9 6 4 ^^^ (-1 : Int32))) i = true
          · have hx : ¬ ((zUs s9 i) &&& (s9 6 4 ^^^ (-1 : Int32))) = 0 := fun q => ha ⟨(hun.mp hb).1, (hun.mp hb).2, hus.mp q⟩
            rw [m_X4_placeCircle_j57, if_neg (n16 hi), p_has, zBd_e, has_n (by omega), if_pos hb, if_neg (by decide), p_uses_n hi, zBd_e, if_neg hx, zLt_e, nI_s]
          · rw [m_X4_placeCircle_j57, if_neg (n16 hi), p_has, zBd_e, has_n (by omega), if_neg hb, if_pos rfl, zLt_e, nI_s]) 16 n 0 s' rfl (by omega) ⟨z1, hz1, Nat.le_refl _, Or.inr (fun k h => absurd h (Nat.not_lt_zero k)), fun h => h⟩
    obtain ⟨f3, rfl⟩ : ∃ g, f3 = g + 1 := ⟨f3 - 1, by omega⟩
    refine ⟨s3, ⟨z3, hz3, ?_⟩, ?_⟩
    · rcases hd with hd | hd
      · rcases hb with hb | hb
        · exact Or.inl (by omega)
        · exact Or.inr hb
      · exact Or.inr (hst hd)
    · show m_X4_placeCircle_j47 n (f + 1) v (nI L) (nI t) s' = m_X4_placeCircle_j47 n f v (nI L) (nI (t + 1)) s3
      rw [m_X4_placeCircle_j47, if_neg (n16 ht)]
      refine (show _ = _ from e3).trans ?_
      show m_X4_placeCircle_j57 _ n (f3 + 1) v (nI L) (nI t) (nI 16) s3 = _
      rw [m_X4_placeCircle_j57, if_pos n16e, zLt_e, nI_s]) 16 n 0 s' rfl (by omega) ⟨z1, hI, Or.inl (by omega)⟩
  obtain ⟨f1, rfl⟩ : ∃ g, f1 = g + 1 := ⟨f1 - 1, by omega⟩
  refine ⟨s2, z2, hz2, ?_, ?_⟩
  · rcases hd with hd | hd
    · have := hz2.2.1.2.1
      omega
    · exact hd
  · refine (show _ = _ from e1).trans ?_
    show m_X4_placeCircle_j47 n (f1 + 1) v (nI L) (nI 16) s2 = _
    rw [m_X4_placeCircle_j47, if_pos n16e]
end PK
