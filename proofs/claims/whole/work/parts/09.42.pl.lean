section PPl
/-! the pure statement: a new object, and every script -/
theorem wf_0 {K F G : Nat → Int32} (h : ∀ i, K i = 0) : zWf K F G := by
  intro i _
  refine ⟨⟨0, by decide, h i⟩, fun q => absurd (h i) q, fun q => ?_, fun q => ?_⟩
  · rw [h i] at q; exact absurd q (by decide)
  · rw [h i] at q; exact absurd q (by decide)
theorem zR_0 {K F G : Nat → Int32} (h : ∀ i, K i = 0) (i j : Nat) : ¬ zR K F G i j = true := by
  have u0 : ∀ i j, bt (zUse (K i) (F i) (G i) false) j = false := by
    intro i j
    unfold zUse
    rw [h i, if_pos rfl, if_neg (by decide), or_0, b_0]
  intro q
  rcases zTC_last q with e | ⟨m, _, _, e⟩
  · exact absurd ((u0 i j).symm.trans e) (by decide)
  · exact absurd ((u0 m j).symm.trans e) (by decide)
theorem pure_pl : ∃ (n : Nat) (r9 : Int32) (s9 : zS), m_X4_make n (zU (zU z0 21 5 (-1 : Int32)) 23 5 (-1 : Int32)) = some (r9, s9) ∧ ∀ (N : Nat) (xs : Nat → Int32), N ≤ 2560 → ∃ s' : zS, m_L_law_j23 n N xs 514 0 (zCut 27 s9) = some (1, s') := by
  have bz : ∀ c, c ≠ 21 → c ≠ 23 → zU (zU z0 21 5 (-1 : Int32)) 23 5 (-1 : Int32) c = fun _ => 0 := fun c c1 c2 => by rw [zU_ne c2, zU_ne c1]; rfl
  have b2 := bz 2 (by decide) (by decide)
  have b3 := bz 3 (by decide) (by decide)
  have b4 := bz 4 (by decide) (by decide)
  have hk : ∀ i, (zU (zU z0 21 5 (-1 : Int32)) 23 5 (-1 : Int32)) 2 i = 0 := fun i => by rw [b2]
  have hw : zWf ((zU (zU z0 21 5 (-1 : Int32)) 23 5 (-1 : Int32)) 2) ((zU (zU z0 21 5 (-1 : Int32)) 23 5 (-1 : Int32)) 3) ((zU (zU z0 21 5 (-1 : Int32)) 23 5 (-1 : Int32)) 4) := wf_0 hk
  rcases p_make (n := 4000) (by decide) hw with ⟨s, s1, s2, s3⟩ | ⟨s, s1, s2, i, v, hi, hr, _⟩
  · refine ⟨4000, 1, s, s1, fun N xs hN => ?_⟩
    have S : ∀ c, c ≠ 6 → c ≠ 7 → c ≠ 8 → c ≠ 9 → c ≠ 21 → c ≠ 23 → s c = fun _ => 0 := fun c c1 c2 c3 c4 c5 c6 => by rw [s2 c c1 c2 c3 c4, bz c c5 c6]
    have X : ∀ c, c < 27 → zSo (zCut 27 s) 0 c = s c := fun c hc => by
      show (if c + 0 < 27 then s (c + 0) else fun _ => 0) = s c
      rw [if_pos (by omega)]; rfl
    have M : ∀ c, zSo (zCut 27 s) 27 c = fun _ => 0 := fun c => by
      show (if c + 27 < 27 then s (c + 27) else fun _ => 0) = fun _ => 0
      rw [if_neg (by omega)]
    have XS : ∀ c, c < 27 → c ≠ 6 → c ≠ 7 → c ≠ 8 → c ≠ 9 → c ≠ 21 → c ≠ 23 → zSo (zCut 27 s) 0 c = fun _ => 0 := fun c hc c1 c2 c3 c4 c5 c6 => by rw [X c hc, S c c1 c2 c3 c4 c5 c6]
    have i2 : zI2 s := zI2_of hw s3 (s2 2 (by decide) (by decide) (by decide) (by decide)) (s2 3 (by decide) (by decide) (by decide) (by decide)) (s2 4 (by decide) (by decide) (by decide) (by decide)) (fun k _ => ⟨0, by decide, by rw [S 5 (by decide) (by decide) (by decide) (by decide) (by decide) (by decide)]; rfl⟩)
    have z10 := XS 10 (by decide) (by decide) (by decide) (by decide) (by decide) (by decide) (by decide)
    have z13 := XS 13 (by decide) (by decide) (by decide) (by decide) (by decide) (by decide) (by decide)
    have z14 := XS 14 (by decide) (by decide) (by decide) (by decide) (by decide) (by decide) (by decide)
    have z15 := XS 15 (by decide) (by decide) (by decide) (by decide) (by decide) (by decide) (by decide)
    have z16 := XS 16 (by decide) (by decide) (by decide) (by decide) (by decide) (by decide) (by decide)
    have z17 := XS 17 (by decide) (by decide) (by decide) (by decide) (by decide) (by decide) (by decide)
    have z18 := XS 18 (by decide) (by decide) (by decide) (by decide) (by decide) (by decide) (by decide)
    have z20 := XS 20 (by decide) (by decide) (by decide) (by decide) (by decide) (by decide) (by decide)
    have z22 := XS 22 (by decide) (by decide) (by decide) (by decide) (by decide) (by decide) (by decide)
    have z24 := XS 24 (by decide) (by decide) (by decide) (by decide) (by decide) (by decide) (by decide)
    have hJ : zJ 0 (zCut 27 s) := by
      refine ⟨⟨?_, ?_, ?_, ?_⟩, zI2_c i2 (X 2 (by decide)) (X 3 (by decide)) (X 4 (by decide)) (X 5 (by decide)) (X 7 (by decide)) (X 8 (by decide)) (X 9 (by decide)), ⟨0, ?_, ?_, ⟨by decide, fun i hi => absurd hi (Nat.not_lt_zero i)⟩, ⟨by decide, fun i hi => absurd hi (Nat.not_lt_zero i)⟩, fun i j _ hj => absurd hj (Nat.not_lt_zero j), fun i j hi => absurd hi (Nat.not_lt_zero i), (show List.Perm ([] : List (Nat × Nat)) [] from List.Perm.refl _)⟩, ⟨⟨0, by decide, ?_, ?_⟩, ⟨0, by decide, ?_, ?_⟩, ?_, ?_, ?_⟩, ⟨⟨0, by decide, ?_, ?_⟩, ?_, ?_, ?_, ?_⟩, ⟨?_, ?_⟩, ⟨?_, ?_⟩⟩
      · rw [XS 2 (by decide) (by decide) (by decide) (by decide) (by decide) (by decide) (by decide), M]
      · rw [XS 3 (by decide) (by decide) (by decide) (by decide) (by decide) (by decide) (by decide), M]
      · rw [XS 4 (by decide) (by decide) (by decide) (by decide) (by decide) (by decide) (by decide), M]
      · rw [XS 5 (by decide) (by decide) (by decide) (by decide) (by decide) (by decide) (by decide), M]
      · rw [z10]; rfl
      · rw [M]; rfl
      · rw [z13]; rfl
      · rw [M]; rfl
      · rw [z13]; rfl
      · rw [M]; rfl
      · rw [z14, M]
      · rw [z15, M]
      · intro i _; rw [z14]; exact ⟨0, by decide, rfl⟩
      · rw [z16]; rfl
      · rw [M]; rfl
      · rw [z17, M]
      · rw [z18, M]
      · rw [z20, M]
      · intro i _; rw [z17]; exact ⟨0, by decide, rfl⟩
      · intro k _; rw [z22]; exact zBn_0
      · intro k _; rw [z24]; exact zBn_0
      · intro k _; rw [M]; exact zBn_0
      · intro k _; rw [M]; exact Or.inl rfl
    exact K_loop (n := 4000) (by decide) hN 514 0 _ (by decide) (by omega) hJ
  · exact absurd hr (zR_0 hk i i)
end PPl
