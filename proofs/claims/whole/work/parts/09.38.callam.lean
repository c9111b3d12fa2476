section PCd
/-! calls on amounts and years -/
theorem zInv_4 {y z : Nat} {x m x' m' : zS} (h : zInv y x m) (i4' : zI4 z x' m') (hx : ∀ c, c ≠ 13 → c ≠ 14 → c ≠ 15 → x' c = x c) (hm : ∀ c, c ≠ 0 → c ≠ 7 → c ≠ 8 → m' c = m c) (h0 : ∀ j, j ≠ 7 → j ≠ 8 → j ≠ 23 → m' 0 j = m 0 j) : zInv z x' m' := by
  obtain ⟨i1, i2, i3, _, i5, i6, i7⟩ := h
  exact ⟨zI1_c i1 (hx 2 (by decide) (by decide) (by decide)) (hx 3 (by decide) (by decide) (by decide)) (hx 4 (by decide) (by decide) (by decide)) (hx 5 (by decide) (by decide) (by decide)) (hm 1 (by decide) (by decide) (by decide)) (hm 2 (by decide) (by decide) (by decide)) (hm 3 (by decide) (by decide) (by decide)) (hm 4 (by decide) (by decide) (by decide)),
    zI2_c i2 (hx 2 (by decide) (by decide) (by decide)) (hx 3 (by decide) (by decide) (by decide)) (hx 4 (by decide) (by decide) (by decide)) (hx 5 (by decide) (by decide) (by decide)) (hx 7 (by decide) (by decide) (by decide)) (hx 8 (by decide) (by decide) (by decide)) (hx 9 (by decide) (by decide) (by decide)),
    zI3_c i3 (by rw [hx 10 (by decide) (by decide) (by decide)]) (hx 11 (by decide) (by decide) (by decide)) (hx 12 (by decide) (by decide) (by decide)) (h0 4 (by decide) (by decide) (by decide)) (hm 5 (by decide) (by decide) (by decide)) (hm 6 (by decide) (by decide) (by decide)), i4',
    zI5_c i5 (hx 16 (by decide) (by decide) (by decide)) (hx 17 (by decide) (by decide) (by decide)) (hx 18 (by decide) (by decide) (by decide)) (hx 20 (by decide) (by decide) (by decide)) (h0 11 (by decide) (by decide) (by decide)) (hm 9 (by decide) (by decide) (by decide)) (hm 10 (by decide) (by decide) (by decide)) (hm 18 (by decide) (by decide) (by decide)),
    zI6_c i6 (hx 22 (by decide) (by decide) (by decide)) (hx 24 (by decide) (by decide) (by decide)), zI7_c i7 (hm 11 (by decide) (by decide) (by decide)) (hm 12 (by decide) (by decide) (by decide))⟩
theorem C_carried {n y : Nat} (hn : 100 ≤ n) (x m : zS) (h : zInv y x m) : zDir y (m_X7_carried n x) (m_X8_carried n m) := by
  obtain ⟨tx, tot, hV, hR⟩ := inv_tt hn (zInv_t h 0)
  refine ⟨tot, x, zU m 0 23 0, ?_, ?_, zInv_t h 0⟩
  · unfold m_X7_carried
    rw [hV.2.2.2.2.2.1 x rfl rfl, zBd_e]; rfl
  · unfold m_X8_carried
    rw [zLt_e, hR.2.2.1 _ rfl rfl, zBd_e]; rfl
theorem C_year {n y : Nat} (x m : zS) (h : zInv y x m) : zDir y (m_X7_year n x) (m_X8_year n m) := by
  obtain ⟨u, u1, u2, u3⟩ := h.2.2.2.1.2.1
  refine ⟨nI u, x, zU m 0 23 0, ?_, ?_, zInv_t h 0⟩
  · unfold m_X7_year m_X0_now
    rw [zBd_r, u2]; rfl
  · unfold m_X8_year
    rw [zLt_e, zU_nj (by decide), u3]; rfl
theorem q_place {n c : Nat} (hc : c ≤ 8) (v : Int32) (s : zS) : (∃ j, j < c ∧ v = nI j ∧ m_X8_isIn n v 0 (nI c - 1) s = some (1, s)) ∨ ((v < 0 ∨ nI c ≤ v) ∧ m_X8_isIn n v 0 (nI c - 1) s = some (0, s)) := by
  unfold m_X8_isIn
  rcases pk_ix v (n := c) (by omega) with q | q | ⟨j, hj, rfl⟩
  · refine Or.inr ⟨Or.inl q, ?_⟩
    rw [if_pos q]; rfl
  · refine Or.inr ⟨Or.inr q, ?_⟩
    have h0 : ¬ v < 0 := Int32.not_lt.mpr (Int32.le_trans (nI_pos' (by omega)) q)
    obtain ⟨w, hw, rfl⟩ := nI_of h0
    have hcw : c ≤ w := (le_n (by omega) hw).mp q
    have : nI c - (1 : Int32) < nI w := by
      rw [Int32.lt_iff_toInt_lt, show (1 : Int32) = nI 1 from rfl, pk_sub_toInt (by omega) (by omega), nI_toInt hw]
      omega
    rw [if_neg h0, if_pos this]; rfl
  · refine Or.inl ⟨j, hj, rfl, ?_⟩
    obtain ⟨d, rfl⟩ : ∃ d, c = d + 1 := ⟨c - 1, by omega⟩
    rw [nI_pred, if_neg (nI_pos (by omega)), if_neg (nI_nlt (by omega) (by omega))]; rfl
theorem C_carriedAt {n y : Nat} {v1 : Int32} (x m : zS) (h : zInv y x m) : zCall y [(1, 1)] (m_X7_carriedAt n v1 x) (m_X8_carriedAt n v1 m) := by
  obtain ⟨c, hc, e1, e2⟩ := h.2.2.2.1.1
  have bad : zCall y [(1, 1)] (some (.inr 1, x)) (m_X8_carriedAt_j20 n v1 1 m) := by
    unfold m_X8_carriedAt_j20
    rw [zLt_e, zU_eq, if_neg (by decide)]
    exact Or.inr ⟨1, 1, 0, _, zU m 0 23 1, fun _ _ => rfl, by decide, rfl, rfl, zU_eq, zInv_t h _⟩
  unfold m_X7_carriedAt m_X8_carriedAt m_X0_size
  rw [e2]
  rcases q_place (n := n) hc v1 m with ⟨j, hj, rfl, k1⟩ | ⟨k0, k1⟩
  · rw [if_neg (nI_pos (by omega)), zBd_r, e1, if_neg (nI_ge hj (by omega)), cp1, zBx_e, p_leftAt, zBd_e, a8 (by omega), k1, zBd_e, if_neg ne10]
    unfold m_X8_carriedAt_j20
    rw [zLt_e, zU_eq, if_pos le00, zRd_n (by omega) (by decide), zU_ne (a := 7) (by decide), ← h.2.2.2.1.2.2.1]
    exact Or.inl ⟨_, _, _, rfl, rfl, zU_eq, zInv_t h 0⟩
  · rw [k1, zBd_e, if_pos rfl]
    by_cases q : v1 < 0
    · rw [if_pos q, cp0, zBx_t]
      exact bad
    · rw [if_neg q, zBd_r, e1, if_pos (k0.resolve_left q), cp0, zBx_t]
      exact bad
theorem C_carry {n y : Nat} (hn : 100 ≤ n) (hy : y ≤ 1000) {v1 v2 : Int32} (x m : zS) (h : zInv y x m) : zCall y [(2, 1), (3, 2)] (m_X7_carry n v1 v2 x) (m_X8_carry n v1 v2 m) := by
  obtain ⟨⟨c, hc, e1, e2⟩, ⟨u, u1, u2, u3⟩, t14, t15, tb⟩ := id h.2.2.2.1
  have bad : zCall y [(2, 1), (3, 2)] (m_X7_carry_j35 n v1 v2 0 x) (m_X8_carry_j35 n v1 v2 1 m) := by
    unfold m_X7_carry_j35 m_X8_carry_j35
    rw [ca0, zBx_t, zLt_e, zU_eq, if_neg (by decide)]
    exact Or.inr ⟨2, 1, 0, _, zU m 0 23 1, fun _ _ => rfl, by decide, rfl, rfl, zU_eq, zInv_t h _⟩
  unfold m_X7_carry m_X8_carry m_X0_now
  rw [zBd_r, u2]
  rcases in_cases 1 1000000 1 1000000 rfl rfl (by omega) (by omega) v1 with ⟨a, a0, ha, rfl, d1, d2⟩ | ⟨d1, d2⟩
  · rw [d1, zBd_e, d2, zBd_e, if_neg ne10, if_neg ne10, u3, p_isWithin, zBd_e, show nI u + (20 : Int32) = nI (u + 20) from nI_add u 20]
    by_cases q : nI u ≤ v2 ∧ v2 ≤ nI (u + 20)
    · have h0 : ¬ v2 < 0 := Int32.not_lt.mpr (Int32.le_trans (nI_pos' (by omega)) q.1)
      obtain ⟨w, hw, rfl⟩ := nI_of h0
      have w1 : u ≤ w := (le_n (by omega) hw).mp q.1
      have w2 : w ≤ u + 20 := (le_n hw (by omega)).mp q.2
      rw [if_pos q, if_neg ne10, if_neg (nI_nlt w1 (by omega)), n_subN w1, if_neg (show ¬ (20 : Int32) < nI (w - u) from nI_nlt (a := 20) (by omega) (by decide))]
      unfold m_X7_carry_j35 m_X8_carry_j35 m_X0_size
      rw [ca1, zBx_e, zBd_r, e1, zLt_e, zU_eq, if_pos le00, zU_nj (by decide), e2]
      by_cases c8 : c = 8
      · rw [c8, if_pos (show (8 : Int32) ≤ nI 8 by decide), if_pos (show nI 8 = (8 : Int32) from rfl)]
        unfold m_X7_carry_j55 m_X8_carry_j62
        rw [cs0, zBx_t, zLt_e, zU_eq, if_neg (by decide)]
        exact Or.inr ⟨3, 2, 0, _, _, fun _ _ => rfl, by decide, rfl, rfl, zU_eq, zInv_t (zInv_t h _) _⟩
      · rw [if_neg (show ¬ (8 : Int32) ≤ nI c from nI_ge (b := 8) (by omega) (by decide)), if_neg (show ¬ nI c = (8 : Int32) from fun e => c8 ((eq_n (b := 8) (by omega) (by decide)).mp e))]
        unfold m_X7_carry_j55 m_X8_carry_j62 m_X0_add
        rw [cs1, zBx_e, zLt_e, e1, zLt_e, zU_eq, if_pos le00, zLt_e, zU_nj (by decide), zU_nj (by decide), e2]
        obtain ⟨s', r1, r2, r3, r4, r5⟩ := p_add (n := n) (a := nI a) (l := nI w) c n x (by omega) (by omega)
        obtain ⟨m', g1, g2, g3, g4, g5⟩ := q_add (n := n) (c := c) hn (a := nI a) (l := nI w) (by omega) c n (zU (zU m 0 23 0) 0 23 0) (Nat.le_refl _) (by omega) (by rw [zU_nj (by decide), zU_nj (by decide)]; exact e2)
        have M : ∀ k, k ≠ 0 → zU (zU m 0 23 0) 0 23 0 k = m k := fun k hk => by rw [zU_ne hk, zU_ne hk]
        rw [M 7 (by decide), M 8 (by decide), ← t14, ← t15] at g1 g2 g3
        rw [r1, zBd_e, p_total (c := c + 1) hn (by omega) (by rw [r4, upd_s, e1, nI_s]), zBd_e, g1, r2]
        refine Or.inl ⟨_, _, _, rfl, rfl, ?_, zInv_4 h ⟨⟨c + 1, by omega, by rw [r4, upd_s, e1, nI_s], by rw [g4, upd_s]⟩, ⟨u, u1, by rw [r4, upd_n (by decide)]; exact u2, by rw [g4, upd_n (by decide), zU_nj (by decide), zU_nj (by decide)]; exact u3⟩, by rw [r2, g2], by rw [r3, g3], ?_⟩ r5 (fun k k1 k2 k3 => by rw [g5 k k1 k2 k3, M k k1]) (fun j j1 j2 j3 => by rw [g4, upd_n j2, zU_nj j3, zU_nj j3])⟩
        · rw [g4, upd_n (by decide), zU_eq]
        · rw [r2]; exact zIn_bn ⟨a, ha, rfl⟩ c _ _ (by omega) tb
    · rw [if_neg q, if_pos rfl]
      by_cases q1 : v2 < nI u
      · rw [if_pos q1]; exact bad
      · have h1 : nI u ≤ v2 := Int32.not_lt.mp q1
        have h0 : ¬ v2 < 0 := Int32.not_lt.mpr (Int32.le_trans (nI_pos' (by omega)) h1)
        obtain ⟨w, hw, rfl⟩ := nI_of h0
        have w1 : u ≤ w := (le_n (by omega) hw).mp h1
        have w2 : ¬ w ≤ u + 20 := fun e => q ⟨h1, (le_n hw (by omega)).mpr e⟩
        rw [if_neg q1, n_subN w1, if_pos (show (20 : Int32) < nI (w - u) from (lt_n (a := 20) (by decide) (by omega)).mpr (by omega))]
        exact bad
  · rw [d1, zBd_e, d2, zBd_e, if_pos rfl, if_pos rfl]
    exact bad
def zCy (K e : Nat → Int32) (c : Nat) (A : Nat → Int32) : Nat → Int32 × (Nat → Int32)
  | 0 => (0, A)
  | k + 1 => if K k = 7 then ((zCy K e c A k).1 + (e k - (zTk (e k) (zCy K e c A k).2 c).1), (zTk (e k) (zCy K e c A k).2 c).2) else zCy K e c A k
theorem zCy_s {K e : Nat → Int32} {c : Nat} {A : Nat → Int32} {k : Nat} : zCy K e c A (k + 1) = if K k = 7 then ((zCy K e c A k).1 + (e k - (zTk (e k) (zCy K e c A k).2 c).1), (zTk (e k) (zCy K e c A k).2 c).2) else zCy K e c A k := rfl
theorem zCy_bn {K e : Nat → Int32} {c : Nat} {A : Nat → Int32} (hc : c ≤ 8) (he : ∀ k, k < 16 → zBn (e k)) (hA : ∀ i, i < 8 → ∃ a, a ≤ 1000000 ∧ A i = nI a) : ∀ k, k ≤ 16 → ∀ i, i < 8 → ∃ a, a ≤ 1000000 ∧ (zCy K e c A k).2 i = nI a := by
  intro k
  induction k with
  | zero => intro _; exact hA
  | succ k ih =>
    intro hk
    unfold zCy
    by_cases q : K k = 7
    · rw [if_pos q]; exact (zTk_bn (he k (by omega)) (ih (by omega)) c hc).2
    · rw [if_neg q]; exact ih (by omega)
theorem p_cy {n c : Nat} (hn : 100 ≤ n) {s : zS} (hc : c ≤ 8) (h : s 13 2 = nI c) {K e : Nat → Int32} (hK : ∀ k, k < 16 → s 2 k = K k) (he : ∀ k, k < 16 → s 22 k = e k) : ∃ f1, m_X7_closeYear_j12 n n 0 0 s = m_X7_closeYear_j12 n (f1 + 1) (zCy K e c (s 14) 16).1 (nI 16) (zSt s 14 (zCy K e c (s 14) 16).2) := by
  obtain ⟨q, f1, hf1, hI, e1⟩ := for_up (fun f k (q : Int32 × (Nat → Int32)) => m_X7_closeYear_j12 n f q.1 (nI k) (zSt s 14 q.2)) (fun k q => q = zCy K e c (s 14) k) 16 (by
    rintro f k q hk rfl
    refine ⟨_, rfl, ?_⟩
    show m_X7_closeYear_j12 n (f + 1) (zCy K e c (s 14) k).1 (nI k) (zSt s 14 (zCy K e c (s 14) k).2) = m_X7_closeYear_j12 n f (zCy K e c (s 14) (k + 1)).1 (nI (k + 1)) (zSt s 14 (zCy K e c (s 14) (k + 1)).2)
    rw [m_X7_closeYear_j12, if_neg (n16 hk), p_kind, zBd_e, a16 hk, zSt_n (c := 2) (by decide), hK k hk]
    rw [zCy_s]
    by_cases q : K k = 7
    · rw [if_pos q, if_pos q, p_of, zBd_e, a16 hk, zSt_n (c := 22) (by decide), he k hk, p_take hn (e k) hc (by rw [zSt_n (by decide)]; exact h), zBd_e, zLt_e, zLt_e, nI_s, zSt_z, zSt_s]
    · rw [if_neg q, if_neg q, zLt_e, nI_s]) 16 n 0 (0, s 14) (by omega) (by omega) rfl
  refine ⟨f1 - 1, ?_⟩
  have e1' : m_X7_closeYear_j12 n n 0 (nI 0) (zSt s 14 (s 14)) = m_X7_closeYear_j12 n f1 q.1 (nI 16) (zSt s 14 q.2) := e1
  rw [zSt_i] at e1'
  rw [show f1 - 1 + 1 = f1 by omega, ← hI]
  exact e1'
theorem q_cy {n c : Nat} (hn : 100 ≤ n) {s : zS} (hc : c ≤ 8) (h : s 0 8 = nI c) {K e : Nat → Int32} (hK : ∀ k, k < 16 → s 1 k = K k) (he : ∀ k, k < 16 → s 11 k = e k) : ∃ f1, m_X8_closeYear_j15 n n 0 0 s = m_X8_closeYear_j15 n (f1 + 1) (zCy K e c (s 7) 16).1 (nI 16) (zSt s 7 (zCy K e c (s 7) 16).2) := by
  obtain ⟨q, f1, hf1, hI, e1⟩ := for_up (fun f k (q : Int32 × (Nat → Int32)) => m_X8_closeYear_j15 n f q.1 (nI k) (zSt s 7 q.2)) (fun k q => q = zCy K e c (s 7) k) 16 (by
    rintro f k q hk rfl
    refine ⟨_, rfl, ?_⟩
    show m_X8_closeYear_j15 n (f + 1) (zCy K e c (s 7) k).1 (nI k) (zSt s 7 (zCy K e c (s 7) k).2) = m_X8_closeYear_j15 n f (zCy K e c (s 7) (k + 1)).1 (nI (k + 1)) (zSt s 7 (zCy K e c (s 7) (k + 1)).2)
    rw [m_X8_closeYear_j15, if_neg (n16 hk), zRd_n hk (by decide), zSt_n (c := 1) (by decide), hK k hk]
    rw [zCy_s]
    by_cases q : K k = 7
    · rw [if_pos q, if_pos q, zRd_n (by omega) (by decide), zSt_n (c := 11) (by decide), he k hk, q_spends hn (e k) hc (by rw [zSt_n (by decide)]; exact h), zBd_e, zLt_e, zLt_e, nI_s, zSt_z, zSt_s]
    · rw [if_neg q, if_neg q, zLt_e, zLt_e, nI_s, Int32.add_zero]) 16 n 0 (0, s 7) (by omega) (by omega) rfl
  refine ⟨f1 - 1, ?_⟩
  have e1' : m_X8_closeYear_j15 n n 0 (nI 0) (zSt s 7 (s 7)) = m_X8_closeYear_j15 n f1 q.1 (nI 16) (zSt s 7 q.2) := e1
  rw [zSt_i] at e1'
  rw [show f1 - 1 + 1 = f1 by omega, ← hI]
  exact e1'
theorem C_closeYear {n y : Nat} (hn : 100 ≤ n) (x m : zS) (h : zInv y x m) : zDir (y + 1) (m_X7_closeYear n x) (m_X8_closeYear n m) := by
  obtain ⟨e, e', w, w1, w2, w3, w4, w5⟩ := inv_work hn (zInv_t h 0)
  obtain ⟨⟨c, hc, e1, e2⟩, ⟨u, u1, u2, u3⟩, t14, t15, tb⟩ := id w3.2.2.2.1
  unfold m_X7_closeYear m_X8_closeYear
  rw [w1, zBd_e, zLt_e, w2, zBd_e]
  obtain ⟨f1, p1⟩ := p_cy (n := n) (s := zXe x e) hn hc e1 (K := zXe x e 2) (e := e) (fun _ _ => rfl) (fun k _ => by rw [zXe_e])
  obtain ⟨f2, q1⟩ := q_cy (n := n) (s := zS2 (zU m 0 23 0) e' w) hn hc e2 (K := zXe x e 2) (e := e) (fun k _ => by rw [w3.1.1]) (fun k hk => by rw [zS2_v]; exact w4 k hk)
  rw [← t14] at q1
  have hb := zCy_bn (K := zXe x e 2) (c := c) hc w5 tb 16 (Nat.le_refl _)
  generalize zCy (zXe x e 2) e c (zXe x e 14) 16 = R at p1 q1 hb
  obtain ⟨s', r1, r2, r3, r4, r5⟩ := p_endYear (n := n) (c := c) (s := zSt (zXe x e) 14 R.2) hn hc (by rw [zSt_n (by decide)]; exact e1)
  obtain ⟨m', g1, g2, g3, g4, g5⟩ := q_endYear (n := n) (c := c) (s := zSt (zS2 (zU m 0 23 0) e' w) 7 R.2) hn R.1 hc (by rw [zSt_n (by decide)]; exact e2)
  rw [zSt_s, zSt_n (c := 13) (by decide), zSt_n (c := 15) (by decide), u2] at r2 r3 r4
  rw [zSt_s, zSt_n (c := 0) (by decide), zSt_n (c := 8) (by decide), u3, ← t15] at g2 g3 g4
  obtain ⟨z1, z2⟩ := zEy_bn (y := nI u) (L := zXe x e 15) hb c hc
  refine ⟨R.1, s', m', ?_, ?_, ?_⟩
  · rw [p1, m_X7_closeYear_j12, if_pos n16e, r1, zBd_e]; rfl
  · rw [q1, m_X8_closeYear_j15, if_pos n16e, g1]
  · refine zInv_4 w3 ⟨⟨(zEy (nI u) R.2 (zXe x e 15) c).1, by omega, by rw [r4, upd_n (by decide), upd_s], by rw [g4, upd_n (by decide), upd_s]⟩, ⟨u + 1, by omega, by rw [r4, upd_s, nI_s], by rw [g4, upd_s, nI_s]⟩, by rw [r2, g2], by rw [r3, g3], by rw [r2]; exact z2⟩ (fun k k1 k2 k3 => by rw [r5 k k1 k2 k3, zSt_n k2]) (fun k k1 k2 k3 => by rw [g5 k k1 k2 k3, zSt_n k2]) (fun j j1 j2 _ => by rw [g4, upd_n j1, upd_n j2])
end PCd
