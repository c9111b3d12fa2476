section PCe
/-! calls on credits -/
theorem zInv_5 {y : Nat} {x m x' m' : zS} (h : zInv y x m) (i5' : zI5 x' m') (hx : ∀ c, c ≠ 16 → c ≠ 17 → c ≠ 18 → c ≠ 19 → c ≠ 20 → x' c = x c) (hm : ∀ c, c ≠ 0 → c ≠ 9 → c ≠ 10 → c ≠ 17 → c ≠ 18 → m' c = m c) (h0 : ∀ j, j ≠ 11 → j ≠ 22 → j ≠ 23 → m' 0 j = m 0 j) : zInv y x' m' := by
  obtain ⟨i1, i2, i3, i4, _, i6, i7⟩ := h
  have X : ∀ c, c < 16 ∨ 20 < c → x' c = x c := fun c hc => hx c (by omega) (by omega) (by omega) (by omega) (by omega)
  have M : ∀ c, (0 < c ∧ c < 9) ∨ (10 < c ∧ c < 17) → m' c = m c := fun c hc => hm c (by omega) (by omega) (by omega) (by omega) (by omega)
  exact ⟨zI1_c i1 (X 2 (by decide)) (X 3 (by decide)) (X 4 (by decide)) (X 5 (by decide)) (M 1 (by decide)) (M 2 (by decide)) (M 3 (by decide)) (M 4 (by decide)),
    zI2_c i2 (X 2 (by decide)) (X 3 (by decide)) (X 4 (by decide)) (X 5 (by decide)) (X 7 (by decide)) (X 8 (by decide)) (X 9 (by decide)),
    zI3_c i3 (by rw [X 10 (by decide)]) (X 11 (by decide)) (X 12 (by decide)) (h0 4 (by decide) (by decide) (by decide)) (M 5 (by decide)) (M 6 (by decide)),
    zI4_c i4 (X 13 (by decide)) (X 14 (by decide)) (X 15 (by decide)) (h0 7 (by decide) (by decide) (by decide)) (h0 8 (by decide) (by decide) (by decide)) (M 7 (by decide)) (M 8 (by decide)), i5',
    zI6_c i6 (X 22 (by decide)) (X 24 (by decide)), zI7_c i7 (M 11 (by decide)) (M 12 (by decide))⟩
theorem C_addCredit {n y : Nat} {v1 v2 : Int32} (x m : zS) (h : zInv y x m) : zCall y [(2, 1), (3, 2)] (m_X7_addCredit n v1 v2 x) (m_X8_addCredit n v1 v2 m) := by
  obtain ⟨⟨c, hc, e1, e2⟩, j17, j18, j20, jb⟩ := id h.2.2.2.2.1
  have bad : zCall y [(2, 1), (3, 2)] (m_X7_addCredit_j26 n v1 v2 0 x) (m_X8_addCredit_j39 n v1 v2 1 m) := by
    unfold m_X7_addCredit_j26 m_X8_addCredit_j39
    rw [ca0, zBx_t, zLt_e, zU_eq, if_neg (by decide)]
    exact Or.inr ⟨2, 1, 0, _, zU m 0 23 1, fun _ _ => rfl, by decide, rfl, rfl, zU_eq, zInv_t h _⟩
  unfold m_X7_addCredit m_X8_addCredit
  rcases in_cases 1 1000000 1 1000000 rfl rfl (by omega) (by omega) v1 with ⟨a, _, ha, rfl, d1, d2⟩ | ⟨d1, d2⟩
  · rw [d1, zBd_e, d2, zBd_e, if_neg ne10, if_neg ne10]
    rcases in_cases 0 1000 0 1000 rfl rfl (by omega) (by omega) v2 with ⟨r, _, hr, rfl, g1, g2⟩ | ⟨g1, g2⟩
    · rw [g1, zBd_e, g2, zBd_e, if_neg ne10, if_neg ne10, e2]
      unfold m_X7_addCredit_j26 m_X2_size
      rw [ca1, zBx_e, zBd_r, e1]
      by_cases q : c = 5
      · rw [q, if_pos n5e, if_pos (show nI 5 = (5 : Int32) from rfl)]
        unfold m_X7_addCredit_j45 m_X8_addCredit_j39
        rw [cs0, zBx_t, zLt_e, zU_eq, if_neg (by decide)]
        exact Or.inr ⟨3, 2, 0, _, zU m 0 23 2, fun _ _ => rfl, by decide, rfl, rfl, zU_eq, zInv_t h _⟩
      · rw [if_neg (n5 (show c < 5 by omega)), if_neg (show ¬ nI c = (5 : Int32) from fun e => q ((eq_n (b := 5) (by omega) (by decide)).mp e))]
        unfold m_X7_addCredit_j45 m_X8_addCredit_j39 m_X2_add m_X2_size
        rw [cs1, zBx_e, e1, p_put (by omega) (by decide), zBd_e, zU_ne (a := 16) (k := 17) (by decide), e1, p_put (by omega) (by decide), zBd_e, zLt_e, zU_ne (a := 16) (k := 18) (by decide), zU_ne (a := 16) (k := 17) (by decide), e1, nI_s, zBd_r, zBd_r, zU_eq]
        have e04 : (zU (zU (zU m 0 23 0) 9 c (nI a)) 10 c (nI r)) 0 11 = nI c := by rw [zU_ne (by decide), zU_ne (by decide), zU_nj (by decide)]; exact e2
        rw [zLt_e, zU_eq, if_pos le00, zU_nj (by decide), e2, zWr_n (by omega) (by decide), zU_ne (a := 0) (k := 9) (by decide), zU_nj (by decide), e2, zWr_n (by omega) (by decide), zLt_e, e04, nI_s, zU_eq]
        refine Or.inl ⟨_, _, _, rfl, rfl, ?_, zInv_5 h ⟨⟨c + 1, by omega, zU_eq, zU_eq⟩, ?_, ?_, ?_, ?_⟩ (fun k k1 k2 k3 k4 k5 => by rw [zU_ne k1, zU_ne k3, zU_ne k2]) (fun k k1 k2 k3 k4 k5 => by rw [zU_ne k1, zU_ne k3, zU_ne k2, zU_ne k1]) (fun j j1 j2 j3 => by rw [zU_nj j1, zU_ne (by decide), zU_ne (by decide), zU_nj j3])⟩
        · rw [zU_nj (by decide), zU_ne (by decide), zU_ne (by decide), zU_eq]
        · rw [zU_ne (by decide), zU_ne (by decide), zU_k, zU_ne (by decide), zU_ne (by decide), zU_k, zU_ne (by decide), j17]
        · rw [zU_ne (by decide), zU_k, zU_ne (by decide), zU_ne (by decide), zU_k, zU_ne (by decide), zU_ne (by decide), j18]
        · rw [zU_ne (by decide), zU_ne (by decide), zU_ne (by decide), zU_ne (by decide), zU_ne (by decide), zU_ne (by decide), zU_ne (by decide), j20]
        · rw [zU_ne (by decide), zU_ne (by decide), zU_k]
          intro i hi
          by_cases w : i = c
          · rw [w, upd_s]; exact ⟨a, ha, rfl⟩
          · rw [upd_n w]; exact jb i hi
    · rw [g1, zBd_e, g2, zBd_e, if_pos rfl, if_pos rfl]
      exact bad
  · rw [d1, zBd_e, d2, zBd_e, if_pos rfl, if_pos rfl]
    exact bad
theorem C_dropCredit {n y : Nat} (x m : zS) (h : zInv y x m) : zCall y [(3, 1)] (m_X7_dropCredit n x) (m_X8_dropCredit n m) := by
  obtain ⟨⟨c, hc, e1, e2⟩, j17, j18, j20, jb⟩ := id h.2.2.2.2.1
  unfold m_X7_dropCredit m_X8_dropCredit m_X2_size
  rw [zBd_r, e1, e2]
  by_cases q : c = 0
  · rw [q, if_pos (show nI 0 ≤ (0 : Int32) by decide), if_pos (show nI 0 = (0 : Int32) by decide), cs0, zBx_t]
    refine Or.inr ⟨3, 1, 0, _, zU m 0 23 1, fun _ _ => rfl, by decide, rfl, ?_, zU_eq, zInv_t h _⟩
    unfold m_X8_dropCredit_j13
    rw [zLt_e, zU_eq, if_neg (by decide)]; rfl
  · obtain ⟨d, rfl⟩ : ∃ d, c = d + 1 := ⟨c - 1, by omega⟩
    rw [if_neg (nI_nle (by omega) (by omega)), if_neg (nI_ne0 (by omega) (by omega)), cs1, zBx_e]
    unfold m_X2_dropLast m_X8_dropCredit_j13
    rw [zLt_e, e1, nI_pred, zBd_r, zBd_r, zU_eq, zLt_e, zU_eq, if_pos le00, zU_nj (by decide), e2, nI_pred, zLt_e, zU_eq]
    refine Or.inl ⟨_, _, _, rfl, rfl, ?_, zInv_5 h ⟨⟨d, by omega, zU_eq, zU_eq⟩, ?_, ?_, ?_, ?_⟩ (fun k k1 k2 k3 k4 k5 => zU_ne k1) (fun k k1 k2 k3 k4 k5 => by rw [zU_ne k1, zU_ne k1]) (fun j j1 j2 j3 => by rw [zU_nj j1, zU_nj j3])⟩
    · rw [zU_nj (by decide), zU_eq]
    · rw [zU_ne (by decide), zU_ne (by decide), zU_ne (by decide), j17]
    · rw [zU_ne (by decide), zU_ne (by decide), zU_ne (by decide), j18]
    · rw [zU_ne (by decide), zU_ne (by decide), zU_ne (by decide), j20]
    · rw [zU_ne (by decide)]; exact jb
/-- both find the same best order -/
theorem inv_best {n y : Nat} (hn : 3200 ≤ n) {x m : zS} (t : Int32) (h : zInv y x m) (h23 : m 0 23 = 0) : ∃ R x' m', m_X2_findBest n t x = some (R, x') ∧ m_X8_orders n t m = some (0, m') ∧ m' 0 22 = R ∧ m' 0 23 = 0 ∧ x' 20 = m' 18 ∧ zInv y x' m' ∧ (∀ c, c ≠ 19 → c ≠ 20 → x' c = x c) := by
  obtain ⟨⟨c, hc, e1, e2⟩, j17, j18, j20, jb⟩ := id h.2.2.2.2.1
  obtain ⟨g, p1⟩ := p_findBest (n := n) (s := x) (by omega) hc t e1
  obtain ⟨g', q1⟩ := q_orders (n := n) (s := m) hn hc t e2
  rw [← j17, ← j18, ← j20] at q1
  generalize zFb (x 17) (x 18) (x 20) c t = R at p1 q1
  have x20 : zSt (zSt x 19 g) 20 R.2 20 = zT3 m g' R.2 R.1 18 := by rw [zSt_s, zT3_B]
  refine ⟨R.1, _, _, p1, q1, zT3_b, by rw [zT3_0 (by decide)]; exact h23, x20, zInv_5 h ⟨⟨c, hc, ?_, ?_⟩, ?_, ?_, x20, ?_⟩ (fun k k1 k2 k3 k4 k5 => by rw [zSt_n k5, zSt_n k4]) (fun k k1 k2 k3 k4 k5 => zT3_n k1 k4 k5) (fun j j1 j2 j3 => zT3_0 j2), fun k k1 k2 => by rw [zSt_n k2, zSt_n k1]⟩
  · rw [zSt_n (by decide), zSt_n (by decide)]; exact e1
  · rw [zT3_0 (by decide)]; exact e2
  · rw [zSt_n (by decide), zSt_n (by decide), zT3_n (by decide) (by decide) (by decide)]; exact j17
  · rw [zSt_n (by decide), zSt_n (by decide), zT3_n (by decide) (by decide) (by decide)]; exact j18
  · rw [zSt_n (by decide), zSt_n (by decide)]; exact jb
theorem C_bestSum {n y : Nat} (hn : 3200 ≤ n) {v1 : Int32} (x m : zS) (h : zInv y x m) : zCall y [(1, 1)] (m_X7_bestSum n v1 x) (m_X8_bestSum n v1 m) := by
  unfold m_X7_bestSum m_X8_bestSum
  rcases line_cases n v1 with ⟨k, hk, rfl, c1, c2⟩ | ⟨c1, c2⟩
  · obtain ⟨e, e', w, w1, w2, w3, w4, w5⟩ := inv_work (n := n) (by omega) (zInv_t h 0)
    obtain ⟨R, x', m', b1, b2, b3, b4, _, b6, _⟩ := inv_best hn (e k) w3 zS2_th
    rw [c1, zBx_e, c2, zBd_e, if_neg ne10, w1, zBd_e, p_of, zBd_e, a16 hk, zXe_e, b1, zBd_e]
    unfold m_X8_bestSum_j13
    rw [zLt_e, zU_eq, if_pos le00, w2, zBd_e, zRd_n (by omega) (by decide), zS2_v, w4 k hk, b2, zBd_e, b3]
    exact Or.inl ⟨_, _, _, rfl, rfl, b4, b6⟩
  · rw [c1, zBx_t, c2, zBd_e, if_pos rfl]
    refine Or.inr ⟨1, 1, 0, _, zU m 0 23 1, fun _ _ => rfl, by decide, rfl, ?_, zU_eq, zInv_t h _⟩
    unfold m_X8_bestSum_j13
    rw [zLt_e, zU_eq, if_neg (by decide)]; rfl
theorem C_creditAt {n y : Nat} (hn : 3200 ≤ n) {v1 v2 : Int32} (x m : zS) (h : zInv y x m) : zCall y [(1, 1)] (m_X7_creditAt n v1 v2 x) (m_X8_creditAt n v1 v2 m) := by
  obtain ⟨⟨c, hc, e1, e2⟩, j17, j18, j20, jb⟩ := id h.2.2.2.2.1
  have bad : zCall y [(1, 1)] (some (.inr 1, x)) (m_X8_creditAt_j27 n v1 v2 1 m) := by
    unfold m_X8_creditAt_j27
    rw [zLt_e, zU_eq, if_neg (by decide)]
    exact Or.inr ⟨1, 1, 0, _, zU m 0 23 1, fun _ _ => rfl, by decide, rfl, rfl, zU_eq, zInv_t h _⟩
  unfold m_X7_creditAt m_X8_creditAt m_X2_size
  rcases line_cases n v1 with ⟨k, hk, rfl, c1, c2⟩ | ⟨c1, c2⟩
  · rw [c1, zBx_e, c2, zBd_e, if_neg ne10, e2]
    rcases q_place (n := n) (show c ≤ 8 by omega) v2 m with ⟨j, hj, rfl, k1⟩ | ⟨k0, k1⟩
    · obtain ⟨e, e', w, w1, w2, w3, w4, w5⟩ := inv_work (n := n) (by omega) (zInv_t h 0)
      obtain ⟨R, x', m', b1, b2, b3, b4, b5, b6, _⟩ := inv_best hn (e k) w3 zS2_th
      rw [if_neg (nI_pos (by omega)), zBd_r, e1, if_neg (nI_ge hj (by omega)), k1, zBd_e, if_neg ne10]
      unfold m_X7_creditAt_j24 m_X8_creditAt_j27
      rw [cp1, zBx_e, w1, zBd_e, p_of, zBd_e, a16 hk, zXe_e, b1, zBd_e, p_bestAt, zBd_e, a5 (by omega), b5]
      rw [zLt_e, zU_eq, if_pos le00, w2, zBd_e, zRd_n (by omega) (by decide), zS2_v, w4 k hk, b2, zBd_e, zRd_n (by omega) (by decide)]
      exact Or.inl ⟨_, _, _, rfl, rfl, b4, b6⟩
    · rw [k1, zBd_e, if_pos rfl]
      unfold m_X7_creditAt_j24
      by_cases q : v2 < 0
      · rw [if_pos q, cp0, zBx_t]
        exact bad
      · rw [if_neg q, zBd_r, e1, if_pos (k0.resolve_left q), cp0, zBx_t]
        exact bad
  · rw [c1, zBx_t, c2, zBd_e, if_pos rfl]
    exact bad
/-- sums as numbers -/
def cS (f : Nat → Int32) : Nat → Nat
  | 0 => 0
  | k + 1 => cS f k + zNt (f k)
theorem cS_n {f : Nat → Int32} : ∀ k, (∀ i, i < k → ∃ a, a ≤ 1000000 ∧ f i = nI a) → zSm f k = nI (cS f k) ∧ cS f k ≤ k * 1000000 := by
  intro k
  induction k with
  | zero => intro _; exact ⟨rfl, Nat.zero_le _⟩
  | succ k ih =>
    intro h
    obtain ⟨e1, e2⟩ := ih (fun i hi => h i (by omega))
    obtain ⟨a, ha, ea⟩ := h k (by omega)
    unfold zSm cS
    rw [e1, ea, zN_n (by omega), nI_add]
    exact ⟨rfl, by rw [Nat.succ_mul]; omega⟩
theorem p_ctotal {n c : Nat} (hn : 100 ≤ n) {s : zS} (hc : c ≤ 5) (h : s 16 4 = nI c) : m_X2_total n s = some (zSm (s 17) c, s) := by
  obtain ⟨v, f1, hf1, hI, e1⟩ := for_up (fun f k (v : Int32) => m_X2_total_j4 n f v (nI k) s) (fun k v => v = zSm (s 17) k) c (by
    rintro f k v hk rfl
    refine ⟨_, rfl, ?_⟩
    show m_X2_total_j4 n (f + 1) _ (nI k) s = m_X2_total_j4 n f _ (nI (k + 1)) s
    rw [m_X2_total_j4, h, if_neg (nI_ge hk (by omega)), p_at (by decide), zBd_e, a5 (by omega), zLt_e, zLt_e, nI_s, zSm]) c n 0 0 (by omega) (by omega) rfl
  obtain ⟨f1, rfl⟩ : ∃ g, f1 = g + 1 := ⟨f1 - 1, by omega⟩
  unfold m_X2_total
  refine (show _ = _ from e1).trans ?_
  show m_X2_total_j4 n (f1 + 1) v (nI c) s = _
  rw [m_X2_total_j4, h, if_pos (nI_le (Nat.le_refl _) (by omega)), hI]; rfl
theorem q_left {n c t : Nat} (hn : 100 ≤ n) {s : zS} (hc : c ≤ 5) (h : s 0 11 = nI c) (ht : t ≤ 1000000000) (hb : ∀ i, i < 5 → ∃ a, a ≤ 1000000 ∧ s 9 i = nI a) : m_X8_afterCredits_j40 n n (nI t) 0 s = some (nI (t - cS (s 9) c), s) := by
  obtain ⟨v, f1, hf1, hI, e1⟩ := for_up (fun f k (v : Int32) => m_X8_afterCredits_j40 n f v (nI k) s) (fun k v => v = nI (t - cS (s 9) k)) c (by
    rintro f k v hk rfl
    refine ⟨_, rfl, ?_⟩
    obtain ⟨a, ha, ea⟩ := hb k (by omega)
    show m_X8_afterCredits_j40 n (f + 1) (nI (t - cS (s 9) k)) (nI k) s = m_X8_afterCredits_j40 n f (nI (t - (cS (s 9) k + zNt (s 9 k)))) (nI (k + 1)) s
    rw [m_X8_afterCredits_j40, h, if_neg (nI_ge hk (by omega)), zRd_n (by omega) (by decide), zRd_n (by omega) (by decide), ea, zN_n (by omega)]
    by_cases q : t - cS (s 9) k ≤ a
    · rw [if_pos (nI_le q (by omega)), zLt_e, zLt_e, nI_s, n_subN (Nat.le_refl _)]
      congr 2
      omega
    · rw [if_neg (nI_ge (by omega) (by omega)), zLt_e, zLt_e, nI_s, n_subN (by omega)]
      congr 2
      omega) c n 0 (nI t) (by omega) (by omega) rfl
  obtain ⟨f1, rfl⟩ : ∃ g, f1 = g + 1 := ⟨f1 - 1, by omega⟩
  refine (show _ = _ from e1).trans ?_
  show m_X8_afterCredits_j40 n (f1 + 1) v (nI c) s = _
  rw [m_X8_afterCredits_j40, h, if_pos (nI_le (Nat.le_refl _) (by omega)), hI]; rfl
theorem C_afterCredits {n y : Nat} (hn : 100 ≤ n) {v1 : Int32} (x m : zS) (h : zInv y x m) : zCall y [(1, 1)] (m_X7_afterCredits n v1 x) (m_X8_afterCredits n v1 m) := by
  unfold m_X7_afterCredits m_X8_afterCredits
  rcases line_cases n v1 with ⟨k, hk, rfl, c1, c2⟩ | ⟨c1, c2⟩
  · obtain ⟨e, e', w, w1, w2, w3, w4, w5⟩ := inv_work hn (zInv_t h 0)
    obtain ⟨⟨c, hc, e1, e2⟩, j17, j18, j20, jb⟩ := id w3.2.2.2.2.1
    obtain ⟨a, ha, ea⟩ := w5 k hk
    obtain ⟨s1, s2⟩ := cS_n (f := zXe x e 17) c (fun i hi => jb i (by omega))
    have hm5 : c * 1000000 ≤ 5 * 1000000 := Nat.mul_le_mul_right _ hc
    rw [c1, zBx_e, c2, zBd_e, if_neg ne10, w1, zBd_e, p_of, zBd_e, a16 hk, zXe_e, p_ctotal hn hc e1, zBd_e, s1, ea]
    unfold m_X8_afterCredits_j13
    rw [zLt_e, zU_eq, if_pos le00, w2, zBd_e, zRd_n (by omega) (by decide)]
    have e11 : zS2 (zU m 0 23 0) e' w 11 k = nI a := by rw [zS2_v, w4 k hk, ea]
    rw [e11, q_left hn hc e2 ha (by rw [← j17]; exact jb), ← j17]
    refine Or.inl ⟨_, _, _, rfl, ?_, zS2_th, w3⟩
    generalize cS (zXe x e 17) c = S at s2
    congr 2
    by_cases q : S < a
    · rw [if_pos ((lt_n (by omega) (by omega)).mpr q), n_subN (by omega)]
    · rw [if_neg (fun z => q ((lt_n (by omega) (by omega)).mp z)), n_subN (Nat.le_refl _)]
      congr 1
      omega
  · rw [c1, zBx_t, c2, zBd_e, if_pos rfl]
    refine Or.inr ⟨1, 1, 0, _, zU m 0 23 1, fun _ _ => rfl, by decide, rfl, ?_, zU_eq, zInv_t h _⟩
    unfold m_X8_afterCredits_j13
    rw [zLt_e, zU_eq, if_neg (by decide)]; rfl
end PCe
