section PL
/-! the class places a circle, or finds it not allowed -/
theorem zn_L {L : Nat} (hL : L < 16) : ¬ nI L = (-1 : Int32) := by
  intro e
  exact nI_pos (n := L) (by omega) (by rw [e]; decide)
theorem p_placeCircle {n z : Nat} (hn : 100 ≤ n) {v : Int32} {s : zS} (hw : zWf (s 2) (s 3) (s 4)) (ho : zOrd s z) (hv : ∀ j, j < 32 → bt v j = true → j < 16) (hd : ∀ j, j < 32 → bt v j = true → ¬ bt (s 6 4) j = true) (hc : ∀ i, i < 16 → bt v i = true → ∀ j, j < 16 → zUb (s 2) (s 3) (s 4) false i j → bt v j = true ∨ bt (s 6 4) j = true) : ∃ r s', m_X4_placeCircle n v s = some (r, s') ∧ (∀ c, c ≠ 6 → c ≠ 9 → s' c = s c) ∧ ((r = 0 ∧ zCB (s 2) (s 3) (s 4) v) ∨ (r = 1 ∧ ∃ L, zCG (s 2) (s 3) (s 4) v L ∧ ∃ z', zOrd s' z' ∧ z < z' ∧ zo s' z = L ∧ (∀ p, p < z → zo s' p = zo s p) ∧ (∀ j, j < 32 → bt (s' 6 4) j = (bt (s 6 4) j || bt v j)) ∧ (∀ p, z ≤ p → p < z' → bt v (zo s' p) = true) ∧ ∀ p, z < p → p < z' → ∀ j, j < 16 → zUb (s 2) (s 3) (s 4) false (zo s' p) j → ∃ q, q < p ∧ zo s' q = j)) := by
  rcases (p_onlyLimit hn v s).symm with ⟨hno, e⟩ | ⟨L, hL, e⟩
  · refine ⟨0, s, ?_, fun _ _ _ => rfl, Or.inl ⟨rfl, Or.inl hno⟩⟩
    unfold m_X4_placeCircle
    rw [e, zBd_e, if_pos rfl]; rfl
  have hL16 := hL.1
  obtain ⟨bL, kL⟩ := (hL.2 L hL16).mpr rfl
  have hKL : s 2 L ≠ 0 := by rw [kL]; decide
  have hTL : zTwo (s 2 L) = true := by rw [kL]; decide
  obtain ⟨f1, f2⟩ := zWf_f hw hL16 hKL
  obtain ⟨g1, g2⟩ := zWf_g hw hL16 hTL
  by_cases hF : bt v (zNt (s 3 L)) = true
  · refine ⟨0, s, ?_, fun _ _ _ => rfl, Or.inl ⟨rfl, Or.inr ⟨L, hL, Or.inl hF⟩⟩⟩
    unfold m_X4_placeCircle
    rw [e, zBd_e, if_neg (zn_L hL16), p_first, zBd_e, a16 hL16, p_has, zBd_e, f2, has_n (by omega), if_pos hF, if_neg (by decide)]; rfl
  -- the limit is laid first
  obtain ⟨s1, e1, o1, fr1, r5, r6, ok, oo, pl⟩ := p_place (n := n) (s := zU (zU s 6 5 (zBit (nI L))) 6 6 0) (z := z) (k := L) (by
    obtain ⟨u1, u2, u3, u4, u5⟩ := ho
    have z9 : ∀ p, zo (zU (zU s 6 5 (zBit (nI L))) 6 6 0) p = zo s p := fun p => by unfold zo; rw [zU_ne (show 9 ≠ 6 by decide), zU_ne (show 9 ≠ 6 by decide)]
    refine ⟨by rw [zU_nj (show 3 ≠ 6 by decide), zU_nj (show 3 ≠ 5 by decide)]; exact u1, u2, fun p hp => ?_, fun p q hp hq => ?_, fun j hj => ?_⟩
    · rw [z9, zU_ne (show 9 ≠ 6 by decide), zU_ne (show 9 ≠ 6 by decide)]; exact u3 p hp
    · rw [z9, z9]; exact u4 p q hp hq
    · rw [zU_nj (show 4 ≠ 6 by decide), zU_nj (show 4 ≠ 5 by decide)]; simp only [z9]; exact u5 j hj) hL16 (by rw [zU_nj (show 4 ≠ 6 by decide), zU_nj (show 4 ≠ 5 by decide)]; exact hd L (by omega) bL)
  rw [zU_nj (show 5 ≠ 6 by decide), zU_eq] at r5
  rw [zU_eq] at r6
  rw [zU_nj (show 4 ≠ 6 by decide), zU_nj (show 4 ≠ 5 by decide)] at pl
  have z9 : ∀ p, zo (zU (zU s 6 5 (zBit (nI L))) 6 6 0) p = zo s p := fun p => by unfold zo; rw [zU_ne (show 9 ≠ 6 by decide), zU_ne (show 9 ≠ 6 by decide)]
  simp only [z9] at oo
  have fr : ∀ c, c ≠ 6 → c ≠ 9 → s1 c = s c := fun c h6 h9 => by rw [fr1 c h6 h9, zU_ne h6, zU_ne h6]
  have hI : zCI s v L z (z + 1) s1 := by
    refine ⟨fr, o1, by omega, ok, oo, fun p h1 h2 => ?_, fun p h1 h2 => by omega, fun j hj hb => ?_, fun j hj hb => ?_, ?_, fun p h1 h2 => by omega⟩
    · rw [show p = z by omega, ok]; exact bL
    · rw [r5, bt_bit (by omega) hj] at hb
      exact ⟨z, Nat.le_refl _, by omega, by rw [ok]; exact (of_decide_eq_true hb).symm⟩
    · rw [r6, b_0] at hb; cases hb
    · rw [r5, bt_bit (by omega) (by omega)]; simp
  obtain ⟨s2, z2, hI2, hst, e2⟩ := zCI_rounds hn hw hv bL hI rfl
  have run : m_X4_placeCircle n v s = if (v &&& (s2 6 4 ^^^ (-1 : Int32))) = 0 then m_X4_placeCircle_j137 n (nI L) 1 s2 else m_X4_placeCircle_j137 n (nI L) 0 s2 := by
    rw [← e2]
    unfold m_X4_placeCircle
    rw [e, zBd_e, if_neg (zn_L hL16), p_first, zBd_e, a16 hL16, p_has, zBd_e, f2, has_n (by omega), if_neg hF, if_pos rfl, p_bit, zBd_e, zLt_e, zLt_e, e1, zBd_e]
  obtain ⟨i1, i2, i3, i4, i5, i6, i7, i8, i9, i10, i11⟩ := hI2
  obtain ⟨u1, u2, u3, u4, u5⟩ := i2
  -- what is placed now
  have pl2 : ∀ j, j < 32 → bt (s2 6 4) j = true → bt (s 6 4) j = true ∨ bt v j = true := by
    intro j hj hb
    obtain ⟨p, hp, ep⟩ := (u5 j hj).mp hb
    rcases Nat.lt_or_ge p z with h | h
    · exact Or.inl ((ho.2.2.2.2 j hj).mpr ⟨p, h, by rw [← i5 p h]; exact ep⟩)
    · exact Or.inr (ep ▸ i6 p h hp)
  have pl3 : ∀ j, j < 32 → bt (s 6 4) j = true → bt (s2 6 4) j = true := by
    intro j hj hb
    obtain ⟨p, hp, ep⟩ := (ho.2.2.2.2 j hj).mp hb
    exact (u5 j hj).mpr ⟨p, by omega, by rw [i5 p hp]; exact ep⟩
  have fr2 : ∀ c, c ≠ 6 → c ≠ 9 → s2 c = s c := i1
  rcases (Classical.em ((v &&& (s2 6 4 ^^^ (-1 : Int32))) = 0)).symm with hall | hall
  · -- a line that was never laid: a circle without the limit
    refine ⟨0, s2, by rw [run, if_neg hall]; rfl, fr2, Or.inl ⟨rfl, Or.inr ⟨L, hL, Or.inr (Or.inl ?_)⟩⟩⟩
    have hex : ∃ k, k < 32 ∧ bt v k = true ∧ ¬ bt (s2 6 4) k = true := by
      refine Classical.byContradiction (fun hn => hall (andn_0.mpr (fun j hj hb => ?_)))
      refine Classical.byContradiction (fun hq => hn ⟨j, hj, hb, hq⟩)
    obtain ⟨k0, hk0, bk0, nk0⟩ := hex
    have hLp : bt (s2 6 4) L = true := (u5 L (by omega)).mpr ⟨z, i3, i4⟩
    obtain ⟨k, ⟨hk1, hk2, hk3⟩, hk4⟩ := zTC_cyc (u := zwo (s 2) (s 3) (s 4) L) (fun k => k < 16 ∧ bt v k = true ∧ ¬ bt (s2 6 4) k = true) (by
      intro k ⟨h1, h2, h3⟩
      refine ⟨h1, ?_⟩
      have hex : ∃ j, j < 16 ∧ zUb (s 2) (s 3) (s 4) false k j ∧ ¬ bt (s2 6 4) j = true := by
        refine Classical.byContradiction (fun hn => hst k h1 ⟨h2, h3, fun j hj hu => ?_⟩)
        exact Classical.byContradiction (fun hq => hn ⟨j, hj, hu, hq⟩)
      obtain ⟨j, hj, hu, hnp⟩ := hex
      refine ⟨j, ⟨hj, ?_, hnp⟩, ?_⟩
      · rcases hc k h1 h2 j hj hu with h | h
        · exact h
        · exact absurd (pl3 j (by omega) h) hnp
      · have hkL : ¬ k = L := fun e => h3 (e ▸ hLp)
        unfold zwo
        rw [decide_eq_false hkL]
        exact (use_bt hw h1 false (by omega)).mpr hu) ⟨hv k0 hk0 bk0, bk0, nk0⟩
    exact ⟨k, hk1, hk2, hk4⟩
  · have hvp : ∀ j, j < 32 → bt v j = true → bt (s2 6 4) j = true := andn_0.mp hall
    -- where a line of the circle lies
    have pos : ∀ k, k < 16 → bt v k = true → ∃ p, z ≤ p ∧ p < z2 ∧ zo s2 p = k := by
      intro k hk hb
      obtain ⟨p, hp, ep⟩ := (u5 k (by omega)).mp (hvp k (by omega) hb)
      refine ⟨p, ?_, hp, ep⟩
      rcases Nat.lt_or_ge p z with h | h
      · refine absurd ((ho.2.2.2.2 k (by omega)).mpr ⟨p, h, by rw [← i5 p h]; exact ep⟩) (hd k (by omega) hb)
      · exact h
    have hnv : ∀ p, p < z → ¬ bt v (zo s2 p) = true := by
      intro p hp hb
      have := (u3 p (by omega)).1
      exact hd _ (by omega) hb ((ho.2.2.2.2 _ (by omega)).mpr ⟨p, hp, (i5 p hp).symm⟩)
    have rank : ∃ rk : Nat → Nat, ∀ k, k < 16 → rk k ≤ 16 ∧ ∀ p, z ≤ p → p < z2 → zo s2 p = k → rk k = p - z := by
      refine Classical.skolem (p := fun k r => k < 16 → r ≤ 16 ∧ ∀ p, z ≤ p → p < z2 → zo s2 p = k → r = p - z) |>.mp (fun k => ?_)
      by_cases hk : ∃ p, z ≤ p ∧ p < z2 ∧ zo s2 p = k
      · obtain ⟨p, h1, h2, h3⟩ := hk
        refine ⟨p - z, fun _ => ⟨by omega, fun q g1 g2 g3 => ?_⟩⟩
        rw [u4 p q h2 g2 (h3.trans g3.symm)]
      · exact ⟨0, fun _ => ⟨Nat.zero_le _, fun q g1 g2 g3 => absurd ⟨q, g1, g2, g3⟩ hk⟩⟩
    obtain ⟨rk, hrk⟩ := rank
    have hRk : zRk (s 2) (s 3) (s 4) v L (bt (s2 6 5)) (bt (s2 6 6)) := by
      refine ⟨rk, ?_, fun k hk => (hrk k hk).1, fun k hk hb hkL j hj hu hbj => ?_, i10, ?_, fun k hk hnb => ?_, fun k hk hb hkL => ?_⟩
      · rw [(hrk L hL16).2 z (Nat.le_refl _) i3 i4]; omega
      · obtain ⟨p, p1, p2, p3⟩ := pos k hk hb
        obtain ⟨q, q1, q2, q3⟩ := pos j hj hbj
        rw [(hrk k hk).2 p p1 p2 p3, (hrk j hj).2 q q1 q2 q3]
        have hpz : z < p := by
          rcases Nat.lt_or_ge z p with h | h
          · exact h
          · exact absurd (by rw [← p3, show p = z by omega]; exact i4) hkL
        obtain ⟨q', hq', eq'⟩ := i7 p hpz p2 j hj (p3 ▸ hu)
        have := u4 q q' q2 (by omega) (q3.trans eq'.symm)
        omega
      · cases h : bt (s2 6 6) L with
        | false => rfl
        | true =>
          obtain ⟨p, h1, h2, h3⟩ := i9 L (by omega) h
          have := u4 p z h2 i3 (h3.trans i4.symm)
          omega
      · constructor
        · cases h : bt (s2 6 5) k with
          | false => rfl
          | true => obtain ⟨p, h1, h2, h3⟩ := i8 k (by omega) h; exact absurd (h3 ▸ i6 p h1 h2) hnb
        · cases h : bt (s2 6 6) k with
          | false => rfl
          | true => obtain ⟨p, h1, h2, h3⟩ := i9 k (by omega) h; exact absurd (h3 ▸ i6 p (by omega) h2) hnb
      · obtain ⟨p, p1, p2, p3⟩ := pos k hk hb
        have hpz : z < p := by
          rcases Nat.lt_or_ge z p with h | h
          · exact h
          · exact absurd (by rw [← p3, show p = z by omega]; exact i4) hkL
        rw [← p3]
        exact i11 p hpz p2
    have k2 : s2 4 = s 4 := fr2 4 (by decide) (by decide)
    have e137 : m_X4_placeCircle_j137 n (nI L) 1 s2 = if (s2 6 5 &&& s2 6 6) = 0 then (if bt (s2 6 6) (zNt (s 4 L)) = true then some (1, s2) else some (0, s2)) else some (0, s2) := by
      unfold m_X4_placeCircle_j137
      rw [if_neg (by decide)]
      by_cases q : (s2 6 5 &&& s2 6 6) = 0
      · rw [if_pos q, if_pos q, p_second, zBd_e, a16 hL16, p_has, zBd_e, k2, g2, has_n (by omega), ← g2]
        by_cases q2 : bt (s2 6 6) (zNt (s 4 L)) = true
        · rw [if_pos q2, if_neg (by decide), if_pos q2]; rfl
        · rw [if_neg q2, if_pos rfl, if_neg q2]; rfl
      · rw [if_neg q, if_neg q]; rfl
    have hconf : (s2 6 5 &&& s2 6 6) = 0 ↔ ∀ k, k < 16 → ¬ (bt (s2 6 5) k = true ∧ bt (s2 6 6) k = true) := by
      rw [and_0]
      constructor
      · intro h k hk; exact h k (by omega)
      · intro h k hk hb
        obtain ⟨p, h1, h2, h3⟩ := i8 k hk hb.1
        exact h k (hv k hk (h3 ▸ i6 p h1 h2)) hb
    rw [if_pos hall, e137] at run
    by_cases hf : zFall (s 4) L (bt (s2 6 5)) (bt (s2 6 6))
    · rw [if_pos (hconf.mpr hf.1), if_pos hf.2] at run
      refine ⟨1, s2, run, fr2, Or.inr ⟨rfl, L, ⟨hL, hF, _, _, hRk, hf⟩, z2, ⟨u1, u2, u3, u4, u5⟩, i3, i4, i5, fun j hj => ?_, i6, i7⟩⟩
      cases h : bt (s2 6 4) j with
      | true => rcases pl2 j hj h with h | h <;> simp [h]
      | false =>
        cases h1 : bt (s 6 4) j with
        | true => rw [pl3 j hj h1] at h; cases h
        | false =>
          cases h2 : bt v j with
          | true => rw [hvp j hj h2] at h; cases h
          | false => rfl
    · refine ⟨0, s2, ?_, fr2, Or.inl ⟨rfl, Or.inr ⟨L, hL, Or.inr (Or.inr ⟨_, _, hRk, hf⟩)⟩⟩⟩
      rw [run]
      by_cases q1 : (s2 6 5 &&& s2 6 6) = 0
      · rw [if_pos q1]
        by_cases q2 : bt (s2 6 6) (zNt (s 4 L)) = true
        · exact absurd ⟨hconf.mp q1, q2⟩ hf
        · rw [if_neg q2]
      · rw [if_neg q1]
end PL
