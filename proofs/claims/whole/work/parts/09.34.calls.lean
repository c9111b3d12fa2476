section PCa
/-! calls on lines -/
theorem le00 : (0 : Int32) ≤ 0 := by decide
theorem ne10 : ¬ (1 : Int32) = 0 := by decide
theorem ca1 {n : Nat} {s : zS} : m_X7_checkArgument n 1 s = some (.inl 0, s) := by unfold m_X7_checkArgument; rw [if_neg (by decide)]; rfl
theorem ca0 {n : Nat} {s : zS} : m_X7_checkArgument n 0 s = some (.inr 2, s) := by unfold m_X7_checkArgument; rw [if_pos rfl]; rfl
theorem cs1 {n : Nat} {s : zS} : m_X7_checkState n 1 s = some (.inl 0, s) := by unfold m_X7_checkState; rw [if_neg (by decide)]; rfl
theorem cs0 {n : Nat} {s : zS} : m_X7_checkState n 0 s = some (.inr 3, s) := by unfold m_X7_checkState; rw [if_pos rfl]; rfl
theorem cp1 {n : Nat} {s : zS} : m_X7_checkPlace n 1 s = some (.inl 0, s) := by unfold m_X7_checkPlace; rw [if_neg (by decide)]; rfl
theorem cp0 {n : Nat} {s : zS} : m_X7_checkPlace n 0 s = some (.inr 1, s) := by unfold m_X7_checkPlace; rw [if_pos rfl]; rfl
theorem in_cases (a b : Nat) (lo hi : Int32) (h1 : lo = nI a) (h2 : hi = nI b) (ha : a < 2147483648) (hb : b < 2147483648) (v : Int32) : (∃ k, a ≤ k ∧ k ≤ b ∧ v = nI k ∧ (∀ n s, m_X7_isWithin n v lo hi s = some (1, s)) ∧ ∀ n s, m_X8_isIn n v lo hi s = some (1, s)) ∨ ((∀ n s, m_X7_isWithin n v lo hi s = some (0, s)) ∧ ∀ n s, m_X8_isIn n v lo hi s = some (0, s)) := by
  have same : ∀ n s, m_X8_isIn n v lo hi s = m_X7_isWithin n v lo hi s := fun n s => rfl
  by_cases h : lo ≤ v ∧ v ≤ hi
  · left
    have h0 : ¬ v < 0 := by
      have : (0 : Int32) ≤ v := Int32.le_trans (h1 ▸ nI_pos' ha) h.1
      exact Int32.not_lt.mpr this
    obtain ⟨k, hk, rfl⟩ := nI_of h0
    refine ⟨k, ?_, ?_, rfl, fun n s => by rw [p_isWithin, if_pos h], fun n s => by rw [same, p_isWithin, if_pos h]⟩
    · exact (le_n ha hk).mp (h1 ▸ h.1)
    · exact (le_n hk hb).mp (h2 ▸ h.2)
  · right
    exact ⟨fun n s => by rw [p_isWithin, if_neg h], fun n s => by rw [same, p_isWithin, if_neg h]⟩
theorem line_cases (n : Nat) (v : Int32) : (∃ k, k < 16 ∧ v = nI k ∧ (∀ s, m_X7_checkLine n v s = some (.inl 0, s)) ∧ ∀ s, m_X8_isLine n v s = some (1, s)) ∨ ((∀ s, m_X7_checkLine n v s = some (.inr 1, s)) ∧ ∀ s, m_X8_isLine n v s = some (0, s)) := by
  rcases in_cases 0 15 0 15 rfl rfl (by omega) (by omega) v with ⟨k, _, hk, rfl, d1, d2⟩ | ⟨d1, d2⟩
  · refine Or.inl ⟨k, by omega, rfl, fun s => ?_, fun s => ?_⟩
    · unfold m_X7_checkLine
      rw [d1, zBd_e, cp1, zBx_e]; rfl
    · unfold m_X8_isLine
      rw [d2, zBd_e, zGd_e (zn_id _ (Or.inr rfl))]; rfl
  · refine Or.inr ⟨fun s => ?_, fun s => ?_⟩
    · unfold m_X7_checkLine
      rw [d1, zBd_e, cp0, zBx_t]
    · unfold m_X8_isLine
      rw [d2, zBd_e, zGd_e (zn_id _ (Or.inl rfl))]; rfl
theorem zInv_an {y k a : Nat} {x m : zS} (h : zInv y x m) (ha : a ≤ 1000000) : zInv y (zU x 5 k (nI a)) (zU m 4 k (nI a)) := by
  obtain ⟨⟨j2, j3, j4, j5⟩, ⟨k1, k2, k3, k4, k5, k6⟩, i3, i4, i5, i6, i7⟩ := h
  have X : ∀ c, c ≠ 5 → zU x 5 k (nI a) c = x c := fun c hc => zU_ne hc
  have M : ∀ c, c ≠ 4 → zU m 4 k (nI a) c = m c := fun c hc => zU_ne hc
  have e5 : zU x 5 k (nI a) 5 = upd (x 5) k (nI a) := zU_k
  refine ⟨⟨by rw [X 2 (by decide), M 1 (by decide)]; exact j2, by rw [X 3 (by decide), M 2 (by decide)]; exact j3, by rw [X 4 (by decide), M 3 (by decide)]; exact j4, by rw [zU_k, zU_k, j5]⟩, ?_, zI3_c i3 (by rw [X 10 (by decide)]) (X 11 (by decide)) (X 12 (by decide)) (by rw [M 0 (by decide)]) (M 5 (by decide)) (M 6 (by decide)), zI4_c i4 (X 13 (by decide)) (X 14 (by decide)) (X 15 (by decide)) (by rw [M 0 (by decide)]) (by rw [M 0 (by decide)]) (M 7 (by decide)) (M 8 (by decide)), zI5_c i5 (X 16 (by decide)) (X 17 (by decide)) (X 18 (by decide)) (X 20 (by decide)) (by rw [M 0 (by decide)]) (M 9 (by decide)) (M 10 (by decide)) (M 18 (by decide)), zI6_c i6 (X 22 (by decide)) (X 24 (by decide)), zI7_c i7 (M 11 (by decide)) (M 12 (by decide))⟩
  unfold zI2
  rw [zo_c (X 9 (by decide)), X 2 (by decide), X 3 (by decide), X 4 (by decide), X 7 (by decide), X 8 (by decide), X 9 (by decide), e5]
  refine ⟨k1, k2, k3, k4, k5, fun i hi => ?_⟩
  by_cases q : i = k
  · rw [q, upd_s]; exact ⟨a, ha, rfl⟩
  · rw [upd_n q]; exact k6 i hi
theorem C_answer {n y : Nat} {v1 v2 : Int32} (x m : zS) (h : zInv y x m) : zCall y [(1, 1), (2, 2)] (m_X7_answer n v1 v2 x) (m_X8_answer n v1 v2 m) := by
  unfold m_X7_answer m_X8_answer
  rcases line_cases n v1 with ⟨k, hk, rfl, c1, c2⟩ | ⟨c1, c2⟩
  · rw [c1, zBx_e, c2, zBd_e, if_neg ne10]
    rcases in_cases 0 1000000 0 1000000 rfl rfl (by omega) (by omega) v2 with ⟨a, _, ha, rfl, d1, d2⟩ | ⟨d1, d2⟩
    · rw [d1, zBd_e, ca1, zBx_e, p_given, zBd_e, a16 hk, d2, zBd_e, if_neg ne10]
      unfold m_X5_give m_X8_answer_j27
      rw [p_put hk (by decide), zBd_e, zBd_r, zLt_e, zU_eq, if_pos le00, zRd_n hk (by decide), zWr_n hk (by decide)]
      refine Or.inl ⟨_, _, _, rfl, ?_, ?_, zInv_an (zInv_t h 0) ha⟩
      · rw [zU_ne (a := 4) (by decide), h.1.2.2.2]; rfl
      · rw [zU_ne (a := 0) (by decide), zU_eq]
    · rw [d1, zBd_e, ca0, zBx_t, d2, zBd_e, if_pos rfl]
      refine Or.inr ⟨2, 2, 0, _, zU m 0 23 2, fun _ _ => rfl, by decide, rfl, ?_, zU_eq, zInv_t h _⟩
      unfold m_X8_answer_j27
      rw [zLt_e, zU_eq, if_neg (by decide)]; rfl
  · rw [c1, zBx_t, c2, zBd_e, if_pos rfl]
    refine Or.inr ⟨1, 1, 0, _, zU m 0 23 1, fun _ _ => rfl, by decide, rfl, ?_, zU_eq, zInv_t h _⟩
    unfold m_X8_answer_j27
    rw [zLt_e, zU_eq, if_neg (by decide)]; rfl
theorem C_kindOf {n y : Nat} {v1 : Int32} (x m : zS) (h : zInv y x m) : zCall y [(1, 1)] (m_X7_kindOf n v1 x) (m_X8_kindOf n v1 m) := by
  unfold m_X7_kindOf m_X8_kindOf
  rcases line_cases n v1 with ⟨k, hk, rfl, c1, c2⟩ | ⟨c1, c2⟩
  · rw [c1, zBx_e, c2, zBd_e, if_neg ne10, p_kind, zBd_e, a16 hk]
    unfold m_X8_kindOf_j13
    rw [zLt_e, zU_eq, if_pos le00, zRd_n hk (by decide), zU_ne (a := 1) (by decide), ← h.1.1]
    exact Or.inl ⟨_, _, _, rfl, rfl, zU_eq, zInv_t h 0⟩
  · rw [c1, zBx_t, c2, zBd_e, if_pos rfl]
    refine Or.inr ⟨1, 1, 0, _, zU m 0 23 1, fun _ _ => rfl, by decide, rfl, ?_, zU_eq, zInv_t h _⟩
    unfold m_X8_kindOf_j13
    rw [zLt_e, zU_eq, if_neg (by decide)]; rfl
theorem zS2_th {m : zS} {e w : Nat → Int32} {v : Int32} : zS2 (zU m 0 23 v) e w 0 23 = v := by rw [zS2_n (by decide) (by decide), zU_eq]
theorem C_value {n y : Nat} (hn : 100 ≤ n) {v1 : Int32} (x m : zS) (h : zInv y x m) : zCall y [(1, 1)] (m_X7_value n v1 x) (m_X8_value n v1 m) := by
  unfold m_X7_value m_X8_value
  rcases line_cases n v1 with ⟨k, hk, rfl, c1, c2⟩ | ⟨c1, c2⟩
  · obtain ⟨e, e', w, w1, w2, w3, w4, w5⟩ := inv_work hn (zInv_t h 0)
    rw [c1, zBx_e, c2, zBd_e, if_neg ne10, w1, zBd_e, p_of, zBd_e, a16 hk, zXe_e]
    unfold m_X8_value_j13
    rw [zLt_e, zU_eq, if_pos le00, w2, zBd_e, zRd_n (by omega) (by decide), zS2_v, w4 k hk]
    exact Or.inl ⟨_, _, _, rfl, rfl, zS2_th, w3⟩
  · rw [c1, zBx_t, c2, zBd_e, if_pos rfl]
    refine Or.inr ⟨1, 1, 0, _, zU m 0 23 1, fun _ _ => rfl, by decide, rfl, ?_, zU_eq, zInv_t h _⟩
    unfold m_X8_value_j13
    rw [zLt_e, zU_eq, if_neg (by decide)]; rfl
theorem C_dependsOn {n y : Nat} (hn : 100 ≤ n) {v1 v2 : Int32} (x m : zS) (h : zInv y x m) : zCall y [(1, 1)] (m_X7_dependsOn n v1 v2 x) (m_X8_dependsOn n v1 v2 m) := by
  have bad : zCall y [(1, 1)] (some (.inr 1, x)) (m_X8_dependsOn_j20 n v1 v2 1 m) := by
    refine Or.inr ⟨1, 1, 0, _, zU m 0 23 1, fun _ _ => rfl, by decide, rfl, ?_, zU_eq, zInv_t h _⟩
    unfold m_X8_dependsOn_j20
    rw [zLt_e, zU_eq, if_neg (by decide)]; rfl
  unfold m_X7_dependsOn m_X8_dependsOn
  rcases line_cases n v1 with ⟨k, hk, rfl, c1, c2⟩ | ⟨c1, c2⟩
  · rw [c1, zBx_e, c2, zBd_e, if_neg ne10]
    rcases line_cases n v2 with ⟨j, hj, rfl, d1, d2⟩ | ⟨d1, d2⟩
    · rw [d1, zBx_e, d2, zBd_e, if_neg ne10, p_reach, zBd_e, a16 hk, p_has, zBd_e, has_n (by omega)]
      unfold m_X8_dependsOn_j20
      obtain ⟨s', e1, e2, e3⟩ := q_needs hn (-1) (zU m 0 23 0)
      rw [zLt_e, zU_eq, if_pos le00, e1, zBd_e, q_depends hk (by omega), zBd_e]
      have hb : bt (s' 13 k) j = bt (x 7 k) j := by
        rw [e3 k hk j (by omega), zw_R hk, zU_ne (by decide), zU_ne (by decide), zU_ne (by decide), h.2.1.2.2.1 k hk j (by omega), h.1.1, h.1.2.1, h.1.2.2.1]
      rw [hb]
      have hz : (if bt (x 7 k) j = true then (1 : Int32) else 0) = 0 ∨ (if bt (x 7 k) j = true then (1 : Int32) else 0) = 1 := by
        by_cases q : bt (x 7 k) j = true
        · rw [if_pos q]; exact Or.inr rfl
        · rw [if_neg q]; exact Or.inl rfl
      rw [zGd_e (zn_id _ hz), zGd_e (zn_id _ hz)]
      refine Or.inl ⟨_, _, s', rfl, rfl, ?_, zInv_m (zInv_t h 0) (fun c c1 c2 => e2 c (by omega)) (e2 18 (by decide)) (fun j _ _ => by rw [e2 0 (by decide)]) (zI7_c (zInv_t h 0).2.2.2.2.2.2 (e2 11 (by decide)) (e2 12 (by decide)))⟩
      rw [e2 0 (by decide), zU_eq]
    · rw [d1, zBx_t, d2, zBd_e, if_pos rfl]
      exact bad
  · rw [c1, zBx_t, c2, zBd_e, if_pos rfl]
    exact bad
theorem C_why {n y : Nat} (hn : 100 ≤ n) {v1 v2 : Int32} (x m : zS) (h : zInv y x m) : zCall y [(1, 1)] (m_X7_why n v1 v2 x) (m_X8_why n v1 v2 m) := by
  have bad : zCall y [(1, 1)] (some (.inr 1, x)) (m_X8_why_j17 n v1 v2 1 m) := by
    refine Or.inr ⟨1, 1, 0, _, zU m 0 23 1, fun _ _ => rfl, by decide, rfl, ?_, zU_eq, zInv_t h _⟩
    unfold m_X8_why_j17
    rw [zLt_e, zU_eq, if_neg (by decide)]; rfl
  unfold m_X7_why m_X8_why
  rcases line_cases n v1 with ⟨k, hk, rfl, c1, c2⟩ | ⟨c1, c2⟩
  · rw [c1, zBx_e, c2, zBd_e, if_neg ne10]
    by_cases hv : v2 < 0
    · rw [if_pos hv, if_pos hv]
      unfold m_X7_why_j13
      rw [cp0, zBx_t]
      exact bad
    · obtain ⟨e, e', w, w1, w2, w3, w4, w5⟩ := inv_work hn (zInv_t h 0)
      have hwf := h.2.1.1.1
      obtain ⟨u, u1, u2, u3⟩ := p_explain (n := n) (s := zXe x e) (e := e) hn (by rw [zXe_n (by decide) (by decide), zXe_n (by decide) (by decide), zXe_n (by decide) (by decide)]; exact hwf) (fun k _ => by rw [zXe_e]) hk
      obtain ⟨t, t1, t2⟩ := q_explain (n := n) (m := zS2 (zU m 0 23 0) e' w) (e := e) (v2 := v2) hn hv (by rw [zS2_n (by decide) (by decide), zS2_n (by decide) (by decide), zS2_n (by decide) (by decide), zU_ne (by decide), zU_ne (by decide), zU_ne (by decide), ← h.1.1, ← h.1.2.1, ← h.1.2.2.1]; exact hwf) (fun k hk => by rw [zS2_v]; exact w4 k hk) hk
      rw [if_neg hv, if_neg hv]
      unfold m_X7_why_j13 m_X8_why_j17
      have e15 : ∀ f : zS → Option (Int32 × zS), zWr (zS2 (zU m 0 23 0) e' w) 15 (0 : Int32) 16 (nI k) f = f (zU (zS2 (zU m 0 23 0) e' w) 15 0 (nI k)) := fun f => zWr_n (j := 0) (by decide) (by decide)
      rw [cp1, zBx_e, w1, zBd_e, u1, zBd_e, u3 v2 hv, zBd_e, zLt_e, zU_eq, if_pos le00, w2, zBd_e, e15, zLt_e, t1]
      have kf : ∀ c, c < 25 → u c = zXe x e c := fun c hc => u2 c (by omega) (by omega)
      refine Or.inl ⟨_, _, _, rfl, ?_, ?_, zInv_c w3 (fun c _ _ hc => kf c (by omega)) (zI6_c w3.2.2.2.2.2.1 (kf 22 (by decide)) (kf 24 (by decide))) (fun c _ c2 => t2 c (by omega)) (t2 18 (by decide)) (fun j _ _ => by rw [t2 0 (by decide)]) (zI7_c w3.2.2.2.2.2.2 (t2 11 (by decide)) (t2 12 (by decide)))⟩
      · rw [zXe_n (by decide) (by decide), zXe_n (by decide) (by decide), zXe_n (by decide) (by decide), zS2_n (by decide) (by decide), zS2_n (by decide) (by decide), zS2_n (by decide) (by decide), zU_ne (by decide), zU_ne (by decide), zU_ne (by decide), ← h.1.1, ← h.1.2.1, ← h.1.2.2.1]
      · rw [t2 0 (by decide), zS2_th]
  · rw [c1, zBx_t, c2, zBd_e, if_pos rfl]
    exact bad
end PCa
