section PCc
/-! calls on brackets -/
theorem zInv_3 {y : Nat} {x m x' m' : zS} (h : zInv y x m) (i3' : zI3 x' m') (hx : ∀ c, c ≠ 10 → c ≠ 11 → c ≠ 12 → x' c = x c) (hm : ∀ c, c ≠ 0 → c ≠ 5 → c ≠ 6 → m' c = m c) (h0 : ∀ j, j ≠ 4 → j ≠ 23 → m' 0 j = m 0 j) : zInv y x' m' := by
  obtain ⟨i1, i2, _, i4, i5, i6, i7⟩ := h
  exact ⟨zI1_c i1 (hx 2 (by decide) (by decide) (by decide)) (hx 3 (by decide) (by decide) (by decide)) (hx 4 (by decide) (by decide) (by decide)) (hx 5 (by decide) (by decide) (by decide)) (hm 1 (by decide) (by decide) (by decide)) (hm 2 (by decide) (by decide) (by decide)) (hm 3 (by decide) (by decide) (by decide)) (hm 4 (by decide) (by decide) (by decide)),
    zI2_c i2 (hx 2 (by decide) (by decide) (by decide)) (hx 3 (by decide) (by decide) (by decide)) (hx 4 (by decide) (by decide) (by decide)) (hx 5 (by decide) (by decide) (by decide)) (hx 7 (by decide) (by decide) (by decide)) (hx 8 (by decide) (by decide) (by decide)) (hx 9 (by decide) (by decide) (by decide)), i3',
    zI4_c i4 (hx 13 (by decide) (by decide) (by decide)) (hx 14 (by decide) (by decide) (by decide)) (hx 15 (by decide) (by decide) (by decide)) (h0 7 (by decide) (by decide)) (h0 8 (by decide) (by decide)) (hm 7 (by decide) (by decide) (by decide)) (hm 8 (by decide) (by decide) (by decide)),
    zI5_c i5 (hx 16 (by decide) (by decide) (by decide)) (hx 17 (by decide) (by decide) (by decide)) (hx 18 (by decide) (by decide) (by decide)) (hx 20 (by decide) (by decide) (by decide)) (h0 11 (by decide) (by decide)) (hm 9 (by decide) (by decide) (by decide)) (hm 10 (by decide) (by decide) (by decide)) (hm 18 (by decide) (by decide) (by decide)),
    zI6_c i6 (hx 22 (by decide) (by decide) (by decide)) (hx 24 (by decide) (by decide) (by decide)), zI7_c i7 (hm 11 (by decide) (by decide) (by decide)) (hm 12 (by decide) (by decide) (by decide))⟩
theorem C_taxOn {n y : Nat} (hn : 100 ≤ n) {v1 : Int32} (x m : zS) (h : zInv y x m) : zCall y [(2, 1)] (m_X7_taxOn n v1 x) (m_X8_taxOn n v1 m) := by
  obtain ⟨tx, tot, hV, hR⟩ := inv_tt hn (zInv_t h 0)
  unfold m_X7_taxOn m_X8_taxOn
  rcases in_cases 0 1000000000 0 1000000000 rfl rfl (by omega) (by omega) v1 with ⟨a, _, ha, rfl, d1, d2⟩ | ⟨d1, d2⟩
  · rw [d1, zBd_e, ca1, zBx_e, hV.2.2.2.2.1 x rfl rfl rfl _ ⟨a, ha, rfl⟩, zBd_e, d2, zBd_e, if_neg ne10]
    unfold m_X8_taxOn_j16
    rw [zLt_e, zU_eq, if_pos le00, hR.2.1 _ rfl rfl rfl _ ⟨a, ha, rfl⟩, zBd_e]
    exact Or.inl ⟨_, _, _, rfl, rfl, zU_eq, zInv_t h 0⟩
  · rw [d1, zBd_e, ca0, zBx_t, d2, zBd_e, if_pos rfl]
    refine Or.inr ⟨2, 1, 0, _, zU m 0 23 1, fun _ _ => rfl, by decide, rfl, ?_, zU_eq, zInv_t h _⟩
    unfold m_X8_taxOn_j16
    rw [zLt_e, zU_eq, if_neg (by decide)]; rfl
theorem C_dropBrackets {n y : Nat} (x m : zS) (h : zInv y x m) : zDir y (m_X7_dropBrackets n x) (m_X8_dropBrackets n m) := by
  obtain ⟨c, c1, c2, _⟩ := h.2.2.1
  refine ⟨nI c, zU x 10 2 0, zU (zU m 0 23 0) 0 4 0, ?_, ?_, zInv_3 h ⟨0, (zU_eq : zU x 10 2 0 10 2 = 0), (zU_eq : zU (zU m 0 23 0) 0 4 0 0 4 = 0), ⟨by decide, fun i hi => absurd hi (Nat.not_lt_zero i)⟩, ⟨by decide, fun i hi => absurd hi (Nat.not_lt_zero i)⟩, fun i j _ hj => absurd hj (Nat.not_lt_zero j), fun i j hi => absurd hi (Nat.not_lt_zero i), (show List.Perm ([] : List (Nat × Nat)) [] from List.Perm.refl _)⟩ (fun c a1 _ _ => zU_ne a1) (fun c a1 _ _ => by rw [zU_ne a1, zU_ne a1]) (fun j a1 a2 => by rw [zU_nj a1, zU_nj a2])⟩
  · unfold m_X7_dropBrackets m_X1_size m_X1_clear
    rw [zBd_r, zLt_e, zBd_r, c1]; rfl
  · unfold m_X8_dropBrackets
    rw [zLt_e, zLt_e, zLt_e, zU_nj (by decide), c2]; rfl
theorem C_bracket {n y : Nat} (hn : 100 ≤ n) {v1 v2 : Int32} (x m : zS) (h : zInv y x m) : zCall y [(2, 1), (3, 2)] (m_X7_bracket n v1 v2 x) (m_X8_bracket n v1 v2 m) := by
  have bad : zCall y [(2, 1), (3, 2)] (m_X7_bracket_j26 n v1 v2 0 x) (m_X8_bracket_j27 n v1 v2 1 m) := by
    unfold m_X7_bracket_j26 m_X8_bracket_j27
    rw [ca0, zBx_t, zLt_e, zU_eq, if_neg (by decide)]
    exact Or.inr ⟨2, 1, 0, _, zU m 0 23 1, fun _ _ => rfl, by decide, rfl, rfl, zU_eq, zInv_t h _⟩
  unfold m_X7_bracket m_X8_bracket
  rcases in_cases 0 1000000 0 1000000 rfl rfl (by omega) (by omega) v1 with ⟨t, _, ht, rfl, d1, d2⟩ | ⟨d1, d2⟩
  · rw [d1, zBd_e, d2, zBd_e, if_neg ne10, if_neg ne10]
    rcases in_cases 0 1000 0 1000 rfl rfl (by omega) (by omega) v2 with ⟨r, _, hr, rfl, g1, g2⟩ | ⟨g1, g2⟩
    · rw [g1, zBd_e, g2, zBd_e, if_neg ne10, if_neg ne10]
      obtain ⟨c, c1, c2, c3, c4, c5, c6, c7⟩ := h.2.2.1
      have hc := c3.1
      obtain ⟨a, hI, ef⟩ := q_find (n := n) (c := c) (t := t) (s := zU m 0 23 0) hn (nI r) (by rw [zU_nj (by decide)]; exact c2) hc
      rw [zU_ne (a := 5) (by decide)] at hI
      obtain ⟨p, hp, pf, lt, ge⟩ := p_placeFor (n := n) (s := x) hn c1 c3 ht
      have ia := p_isAt (n := n) (s := x) c1 c3 hp ht
      have hth := perm_th (t := t) c7
      unfold m_X7_bracket_j26 m_X8_bracket_j27
      rw [ca1, zBx_e, zLt_e, zU_eq, if_pos le00, zLt_e, zU_nj (by decide), c2, ef]
      have room : ∀ b : Int32, m_X1_hasRoomFor n (nI t) x = some (if c < 5 ∨ (p < c ∧ zNt (x 11 p) = t) then 1 else 0, x) := by
        intro _
        unfold m_X1_hasRoomFor
        rw [c1]
        by_cases q : c < 5
        · rw [if_pos (show nI c < (5 : Int32) from (lt_n (b := 5) (by omega) (by omega)).mpr q), if_pos (Or.inl q)]; rfl
        · rw [if_neg (show ¬ nI c < (5 : Int32) from fun e => q ((lt_n (b := 5) (by omega) (by omega)).mp e)), pf, zBd_e, ia, zBd_e]
          by_cases q2 : p < c ∧ zNt (x 11 p) = t
          · rw [if_pos q2, if_neg (by decide), if_pos (Or.inr q2)]; rfl
          · rw [if_neg q2, if_pos rfl, if_neg (fun e => e.elim q q2)]; rfl
      rw [room 0, zBd_e]
      rcases hI with ⟨i1, i2⟩ | ⟨i1, i2⟩
      · -- there is one with the threshold
        have hat : zNt (m 5 a) = t := by rw [i2, zN_n (by omega)]
        obtain ⟨i, hi, ei⟩ := hth.mpr ⟨a, i1, hat⟩
        have hip : p = i := by
          rcases Nat.lt_trichotomy p i with q | q | q
          · have := c5 p i q hi; have := ge (by omega); omega
          · exact q
          · have := lt i q; omega
        subst hip
        rw [if_pos (Or.inr ⟨hi, ei⟩), cs1, zBx_e]
        rw [if_pos ⟨hi, ei⟩] at ia
        have est : m_X1_set n (nI t) (nI r) x = some (0, zU x 12 p (nI r)) := by
          unfold m_X1_set
          rw [pf, zBd_e, ia, zBd_e, if_neg ne10, p_put (by omega) (by decide), zBd_e]; rfl
        rw [est, zBd_e]
        unfold m_X1_size
        rw [zBd_r, zU_ne (a := 10) (by decide), c1, if_neg (fun e => by have := (eq_n (b := 5) (by omega) (by omega)).mp e; omega)]
        unfold m_X8_bracket_j91
        rw [zLt_e, zU_eq, if_pos le00, zWr_n (by omega) (by decide), zWr_n (by omega) (by decide)]
        have e04 : (zU (zU (zU (zU m 0 23 0) 0 23 0) 5 a (nI t)) 6 a (nI r)) 0 4 = nI c := by rw [zU_ne (by decide), zU_ne (by decide), zU_nj (by decide), zU_nj (by decide)]; exact c2
        rw [e04, if_neg (fun e => by have := (eq_n (by omega) (by omega)).mp e; omega), zLt_e, zU_eq, Int32.add_zero]
        refine Or.inl ⟨_, _, _, rfl, rfl, ?_, zInv_3 h ⟨c, ?_, zU_eq, ?_, ?_, ?_, ?_, ?_⟩ (fun k _ _ k3 => zU_ne k3) (fun k k1 k2 k3 => by rw [zU_ne k1, zU_ne k3, zU_ne k2, zU_ne k1, zU_ne k1]) (fun j j1 j2 => by rw [zU_nj j1, zU_ne (by decide), zU_ne (by decide), zU_nj j2, zU_nj j2])⟩
        · rw [zU_nj (by decide), zU_ne (by decide), zU_ne (by decide), zU_eq]
        · rw [zU_ne (by decide)]; exact c1
        all_goals have n11 : zU x 12 p (nI r) 11 = x 11 := zU_ne (by decide)
        all_goals have n12 : zU x 12 p (nI r) 12 = upd (x 12) p (nI r) := zU_k
        all_goals have m5 : zU (zU (zU (zU (zU m 0 23 0) 0 23 0) 5 a (nI t)) 6 a (nI r)) 0 4 (nI c) 5 = m 5 := by rw [zU_ne (by decide), zU_ne (by decide), zU_k, zU_ne (by decide), zU_ne (by decide), ← i2, upd_self]
        all_goals have m6 : zU (zU (zU (zU (zU m 0 23 0) 0 23 0) 5 a (nI t)) 6 a (nI r)) 0 4 (nI c) 6 = upd (m 6) a (nI r) := by rw [zU_ne (by decide), zU_k, zU_ne (by decide), zU_ne (by decide), zU_ne (by decide)]
        · rw [n11, n12]
          refine ⟨hc, fun j hj => ⟨(c3.2 j hj).1, ?_⟩⟩
          by_cases q : j = p
          · rw [q, upd_s]; exact ⟨r, hr, rfl⟩
          · rw [upd_n q]; exact (c3.2 j hj).2
        · rw [m5, m6]
          refine ⟨hc, fun j hj => ⟨(c4.2 j hj).1, ?_⟩⟩
          by_cases q : j = a
          · rw [q, upd_s]; exact ⟨r, hr, rfl⟩
          · rw [upd_n q]; exact (c4.2 j hj).2
        · rw [n11]; exact c5
        · rw [m5]; exact c6
        · rw [n11, n12, m5, m6, zLs_map hr ei (fun j hj e => by
            rcases Nat.lt_trichotomy j p with q | q | q
            · have := c5 j p q hi; omega
            · exact q
            · have := c5 p j q hj; omega), zLs_map hr hat (fun j hj e => c6 j a hj i1 (by rw [e, hat]))]
          exact c7.map _
      · -- there is none
        have none1 : ¬ (p < c ∧ zNt (x 11 p) = t) := fun q => by
          obtain ⟨j, hj, ej⟩ := hth.mp ⟨p, q.1, q.2⟩
          exact i2 j hj (by rw [(zBb_n c4 hj).1.2, ej])
        subst i1
        rw [if_neg none1] at ia
        by_cases q5 : a < 5
        · rw [if_pos (Or.inl q5), cs1, zBx_e]
          obtain ⟨s', r1, r2, r3, r4, r5⟩ := p_shift (n := n) (c := a) (p := p) (t := t) (r := r) (s := x) q5 (a - p) n x (by omega) (by omega) c1
          rw [show p + (a - p) = a by omega] at r1
          have est : m_X1_set n (nI t) (nI r) x = some (0, s') := by
            unfold m_X1_set
            rw [pf, zBd_e, ia, zBd_e, if_pos rfl, zLt_e, c1]
            exact r1
          rw [est, zBd_e]
          unfold m_X1_size
          rw [zBd_r, r4, upd_s, if_neg (fun e => by have := (eq_n (b := 5) (by omega) (by omega)).mp e; omega)]
          unfold m_X8_bracket_j91
          rw [zLt_e, zU_eq, if_pos le00, zWr_n (by omega) (by decide), zWr_n (by omega) (by decide)]
          have e04 : (zU (zU (zU (zU m 0 23 0) 0 23 0) 5 a (nI t)) 6 a (nI r)) 0 4 = nI a := by rw [zU_ne (by decide), zU_ne (by decide), zU_nj (by decide), zU_nj (by decide)]; exact c2
          rw [e04, if_pos rfl, zLt_e, zU_eq, nI_s]
          have m5 : zU (zU (zU (zU (zU m 0 23 0) 0 23 0) 5 a (nI t)) 6 a (nI r)) 0 4 (nI (a + 1)) 5 = upd (m 5) a (nI t) := by rw [zU_ne (by decide), zU_ne (by decide), zU_k, zU_ne (by decide), zU_ne (by decide)]
          have m6 : zU (zU (zU (zU (zU m 0 23 0) 0 23 0) 5 a (nI t)) 6 a (nI r)) 0 4 (nI (a + 1)) 6 = upd (m 6) a (nI r) := by rw [zU_ne (by decide), zU_k, zU_ne (by decide), zU_ne (by decide), zU_ne (by decide)]
          refine Or.inl ⟨_, _, _, rfl, rfl, ?_, zInv_3 h ⟨a + 1, by rw [r4, upd_s], zU_eq, ?_, ?_, ?_, ?_, ?_⟩ (fun k k1 k2 k3 => r5 k k1 k2 k3) (fun k k1 k2 k3 => by rw [zU_ne k1, zU_ne k3, zU_ne k2, zU_ne k1, zU_ne k1]) (fun j j1 j2 => by rw [zU_nj j1, zU_ne (by decide), zU_ne (by decide), zU_nj j2, zU_nj j2])⟩
          · rw [zU_nj (by decide), zU_ne (by decide), zU_ne (by decide), zU_eq]
          · rw [r2, r3]; exact ins_bb c3 q5 hp ht hr
          · rw [m5, m6]
            refine ⟨by omega, fun j hj => ?_⟩
            by_cases q : j = a
            · rw [q, upd_s, upd_s]; exact ⟨⟨t, ht, rfl⟩, r, hr, rfl⟩
            · rw [upd_n q, upd_n q]; exact c4.2 j (by omega)
          · rw [r2]
            exact ins_sorted (B := x 12) c5 hp ht lt (fun q => by
              have := ge q
              rcases Nat.lt_or_ge t (zNt (x 11 p)) with w | w
              · exact w
              · exact absurd ⟨q, by omega⟩ none1)
          · rw [m5]
            have ne : ∀ j, j < a → ¬ zNt (m 5 j) = t := fun j hj e => i2 j hj (by rw [(zBb_n c4 hj).1.2, e])
            intro i j hi hj e
            by_cases q1 : i = a
            · by_cases q2 : j = a
              · omega
              · rw [q1, upd_s, upd_n q2, zN_n (by omega)] at e
                exact absurd e.symm (ne j (by omega))
            · by_cases q2 : j = a
              · rw [q2, upd_s, upd_n q1, zN_n (by omega)] at e
                exact absurd e (ne i (by omega))
              · rw [upd_n q1, upd_n q2] at e
                exact c6 i j (by omega) (by omega) e
          · rw [r2, r3, m5, m6, zLs_s (A := upd (m 5) a (nI t)), upd_s, upd_s, zN_n (by omega), zN_n (by omega), zLs_c (A := upd (m 5) a (nI t)) (B := upd (m 6) a (nI r)) (A' := m 5) (B' := m 6) (fun i hi => by rw [upd_n (by omega), upd_n (by omega)]; exact ⟨rfl, rfl⟩)]
            have := zLs_ins (A := x 11) (B := x 12) (p := p) ht hr (a - p)
            rw [show p + (a - p) = a by omega] at this
            exact this.trans ((List.Perm.cons _ c7).trans (List.perm_append_singleton _ _).symm)
        · rw [if_neg (fun e => e.elim q5 none1), cs0, zBx_t, if_pos (by rw [show a = 5 by omega]; rfl)]
          refine Or.inr ⟨3, 2, 0, _, zU (zU m 0 23 0) 0 23 2, fun _ _ => rfl, by decide, rfl, ?_, zU_eq, zInv_t (zInv_t h _) _⟩
          unfold m_X8_bracket_j91
          rw [zLt_e, zU_eq, if_neg (by decide)]; rfl
    · rw [g1, zBd_e, g2, zBd_e, if_pos rfl, if_pos rfl]
      exact bad
  · rw [d1, zBd_e, d2, zBd_e, if_pos rfl, if_pos rfl]
    exact bad
end PCc
