section PIv
/-! what stands between two calls -/
def zAl (K F G : Nat → Int32) : Prop := ∀ i, i < 16 → zR K F G i i = true → ∃ v L, zCir (zR K F G) i v ∧ zCG K F G v L
def zI1 (x m : zS) : Prop := x 2 = m 1 ∧ x 3 = m 2 ∧ x 4 = m 3 ∧ x 5 = m 4
def zI2 (x : zS) : Prop := zPn (x 2) (x 3) (x 4) (zo x) ∧ (∀ p, p < 16 → x 9 p = nI (zo x p)) ∧ (∀ i, i < 16 → ∀ j, j < 32 → bt (x 7 i) j = zR (x 2) (x 3) (x 4) i j) ∧ (∀ i, i < 16 → ∀ j, j < 32 → bt (x 8 i) j = zGr (zR (x 2) (x 3) (x 4)) i j) ∧ zAl (x 2) (x 3) (x 4) ∧ ∀ k, k < 16 → ∃ a, a ≤ 1000000 ∧ x 5 k = nI a
def zDs (A : Nat → Int32) (c : Nat) : Prop := ∀ i j, i < c → j < c → zNt (A i) = zNt (A j) → i = j
def zI3 (x m : zS) : Prop := ∃ c, x 10 2 = nI c ∧ m 0 4 = nI c ∧ zBb (x 11) (x 12) c ∧ zBb (m 5) (m 6) c ∧ zSo2 (x 11) c ∧ zDs (m 5) c ∧ (zLs (x 11) (x 12) c).Perm (zLs (m 5) (m 6) c)
def zI4 (y : Nat) (x m : zS) : Prop := (∃ c, c ≤ 8 ∧ x 13 2 = nI c ∧ m 0 8 = nI c) ∧ (∃ u, u ≤ y ∧ x 13 3 = nI u ∧ m 0 7 = nI u) ∧ x 14 = m 7 ∧ x 15 = m 8 ∧ ∀ i, i < 8 → ∃ a, a ≤ 1000000 ∧ x 14 i = nI a
def zI5 (x m : zS) : Prop := (∃ c, c ≤ 5 ∧ x 16 4 = nI c ∧ m 0 11 = nI c) ∧ x 17 = m 9 ∧ x 18 = m 10 ∧ x 20 = m 18 ∧ ∀ i, i < 5 → ∃ a, a ≤ 1000000 ∧ x 17 i = nI a
def zI6 (x : zS) : Prop := (∀ k, k < 16 → zBn (x 22 k)) ∧ ∀ k, k < 16 → zBn (x 24 k)
def zI7 (m : zS) : Prop := (∀ i, i < 32 → zBn (m 11 i)) ∧ ∀ i, i < 32 → m 12 i = 0 ∨ m 12 i = 1
def zInv (y : Nat) (x m : zS) : Prop := zI1 x m ∧ zI2 x ∧ zI3 x m ∧ zI4 y x m ∧ zI5 x m ∧ zI6 x ∧ zI7 m
theorem zo_c {x x' : zS} (h : x' 9 = x 9) : zo x' = zo x := by
  funext p
  unfold zo
  rw [h]
theorem zI1_c {x m x' m' : zS} (h : zI1 x m) (h2 : x' 2 = x 2) (h3 : x' 3 = x 3) (h4 : x' 4 = x 4) (h5 : x' 5 = x 5) (k1 : m' 1 = m 1) (k2 : m' 2 = m 2) (k3 : m' 3 = m 3) (k4 : m' 4 = m 4) : zI1 x' m' := by
  unfold zI1
  rw [h2, h3, h4, h5, k1, k2, k3, k4]
  exact h
theorem zI2_c {x x' : zS} (h : zI2 x) (h2 : x' 2 = x 2) (h3 : x' 3 = x 3) (h4 : x' 4 = x 4) (h5 : x' 5 = x 5) (h7 : x' 7 = x 7) (h8 : x' 8 = x 8) (h9 : x' 9 = x 9) : zI2 x' := by
  unfold zI2
  rw [zo_c h9, h2, h3, h4, h5, h7, h8, h9]
  exact h
theorem zI3_c {x m x' m' : zS} (h : zI3 x m) (h2 : x' 10 2 = x 10 2) (h3 : x' 11 = x 11) (h4 : x' 12 = x 12) (k1 : m' 0 4 = m 0 4) (k2 : m' 5 = m 5) (k3 : m' 6 = m 6) : zI3 x' m' := by
  unfold zI3
  rw [h2, h3, h4, k1, k2, k3]
  exact h
theorem zI4_c {y : Nat} {x m x' m' : zS} (h : zI4 y x m) (h2 : x' 13 = x 13) (h3 : x' 14 = x 14) (h4 : x' 15 = x 15) (k1 : m' 0 7 = m 0 7) (k4 : m' 0 8 = m 0 8) (k2 : m' 7 = m 7) (k3 : m' 8 = m 8) : zI4 y x' m' := by
  unfold zI4
  rw [h2, h3, h4, k1, k2, k3, k4]
  exact h
theorem zI5_c {x m x' m' : zS} (h : zI5 x m) (h2 : x' 16 = x 16) (h3 : x' 17 = x 17) (h4 : x' 18 = x 18) (h5 : x' 20 = x 20) (k1 : m' 0 11 = m 0 11) (k2 : m' 9 = m 9) (k3 : m' 10 = m 10) (k4 : m' 18 = m 18) : zI5 x' m' := by
  unfold zI5
  rw [h2, h3, h4, h5, k1, k2, k3, k4]
  exact h
theorem zI6_c {x x' : zS} (h : zI6 x) (h2 : x' 22 = x 22) (h3 : x' 24 = x 24) : zI6 x' := by
  unfold zI6
  rw [h2, h3]
  exact h
theorem zI7_c {x x' : zS} (h : zI7 x) (h2 : x' 11 = x 11) (h3 : x' 12 = x 12) : zI7 x' := by
  unfold zI7
  rw [h2, h3]
  exact h
theorem zInv_c {y : Nat} {x m x' m' : zS} (h : zInv y x m) (hx : ∀ c, c ≠ 6 → c ≠ 19 → c < 21 → x' c = x c) (h6 : zI6 x') (hm : ∀ c, 1 ≤ c → c ≤ 10 → m' c = m c) (hm18 : m' 18 = m 18) (hm0 : ∀ j, j ≠ 22 → j ≠ 23 → m' 0 j = m 0 j) (h7 : zI7 m') : zInv y x' m' := by
  obtain ⟨i1, i2, i3, i4, i5, _, _⟩ := h
  have X : ∀ c, c < 21 → c ≠ 6 → c ≠ 19 → x' c = x c := fun c a b d => hx c b d a
  have M : ∀ c, 1 ≤ c → c ≤ 10 → m' c = m c := hm
  exact ⟨zI1_c i1 (X 2 (by decide) (by decide) (by decide)) (X 3 (by decide) (by decide) (by decide)) (X 4 (by decide) (by decide) (by decide)) (X 5 (by decide) (by decide) (by decide)) (M 1 (by decide) (by decide)) (M 2 (by decide) (by decide)) (M 3 (by decide) (by decide)) (M 4 (by decide) (by decide)),
    zI2_c i2 (X 2 (by decide) (by decide) (by decide)) (X 3 (by decide) (by decide) (by decide)) (X 4 (by decide) (by decide) (by decide)) (X 5 (by decide) (by decide) (by decide)) (X 7 (by decide) (by decide) (by decide)) (X 8 (by decide) (by decide) (by decide)) (X 9 (by decide) (by decide) (by decide)),
    zI3_c i3 (by rw [X 10 (by decide) (by decide) (by decide)]) (X 11 (by decide) (by decide) (by decide)) (X 12 (by decide) (by decide) (by decide)) (hm0 4 (by decide) (by decide)) (M 5 (by decide) (by decide)) (M 6 (by decide) (by decide)),
    zI4_c i4 (X 13 (by decide) (by decide) (by decide)) (X 14 (by decide) (by decide) (by decide)) (X 15 (by decide) (by decide) (by decide)) (hm0 7 (by decide) (by decide)) (hm0 8 (by decide) (by decide)) (M 7 (by decide) (by decide)) (M 8 (by decide) (by decide)),
    zI5_c i5 (X 16 (by decide) (by decide) (by decide)) (X 17 (by decide) (by decide) (by decide)) (X 18 (by decide) (by decide) (by decide)) (X 20 (by decide) (by decide) (by decide)) (hm0 11 (by decide) (by decide)) (M 9 (by decide) (by decide)) (M 10 (by decide) (by decide)) hm18, h6, h7⟩
theorem zInv_x {y : Nat} {x m x' : zS} (h : zInv y x m) (hx : ∀ c, c ≠ 6 → c ≠ 19 → c < 21 → x' c = x c) (h6 : zI6 x') : zInv y x' m := zInv_c h hx h6 (fun _ _ _ => rfl) rfl (fun _ _ _ => rfl) h.2.2.2.2.2.2
theorem zInv_m {y : Nat} {x m m' : zS} (h : zInv y x m) (hm : ∀ c, 1 ≤ c → c ≤ 10 → m' c = m c) (hm18 : m' 18 = m 18) (hm0 : ∀ j, j ≠ 22 → j ≠ 23 → m' 0 j = m 0 j) (h7 : zI7 m') : zInv y x m' := zInv_c h (fun _ _ _ _ => rfl) h.2.2.2.2.2.1 hm hm18 hm0 h7
theorem zInv_t {y : Nat} {x m : zS} (h : zInv y x m) (v : Int32) : zInv y x (zU m 0 23 v) := zInv_m h (fun c c1 c2 => zU_ne (by omega)) (zU_ne (by decide)) (fun j j1 j2 => zU_nj j2) (zI7_c h.2.2.2.2.2.2 (zU_ne (by decide)) (zU_ne (by decide)))
theorem zInv_y {y z : Nat} {x m : zS} (h : zInv y x m) (hz : y ≤ z) : zInv z x m := by
  obtain ⟨i1, i2, i3, ⟨a, ⟨u, u1, u2⟩, b⟩, i5, i6, i7⟩ := h
  exact ⟨i1, i2, i3, ⟨a, ⟨u, by omega, u2⟩, b⟩, i5, i6, i7⟩
theorem inv_tt {n y : Nat} (hn : 100 ≤ n) {x m : zS} (h : zInv y x m) : ∃ tx tot, zVs n x tx tot ∧ zVr n m (zo x) tx tot := by
  obtain ⟨⟨j2, j3, j4, j5⟩, ⟨k1, k2, k3, k4, k5, k6⟩, ⟨c, c1, c2, c3, c4, c5, c6, c7⟩, ⟨⟨d, d1, d2, d3⟩, u, t14, t15, tb⟩, i5, i6, i7⟩ := h
  have hsum : zBn (zSm (x 14) d) := by
    obtain ⟨a, a1, a2⟩ := zSm_bn (f := x 14) (b := 1000000) d (fun i hi => tb i (by omega))
    exact ⟨a, by have : d * 1000000 ≤ 8 * 1000000 := Nat.mul_le_mul_right _ d1; omega, a2⟩
  have htx : ∀ v, zBn v → zBn (nI (zTaxL (zLs (x 11) (x 12) c) (zLs (x 11) (x 12) c) (zNt v))) := by
    rintro v ⟨a, ha, rfl⟩
    have := tax_le (x := zNt (nI a)) c5 c3
    rw [zN_n (by omega)] at this ⊢
    exact ⟨_, by omega, rfl⟩
  refine ⟨fun v => nI (zTaxL (zLs (x 11) (x 12) c) (zLs (x 11) (x 12) c) (zNt v)), zSm (x 14) d, ⟨k1, k2, k3, k4, ?_, ?_, htx, hsum, k6⟩, ⟨?_, ?_, ?_, htx, hsum, ?_⟩⟩
  · rintro s' e1 e2 e3 v ⟨a, ha, rfl⟩
    have := p_tax (n := n) (s := s') (c := c) (x := a) hn (by rw [e1]; exact c1) (by rw [e2, e3]; exact c3) (by rw [e2]; exact c5) ha
    rw [e2, e3] at this
    rw [this]
    show _ = some (nI (zTaxL (zLs (x 11) (x 12) c) (zLs (x 11) (x 12) c) (zNt (nI a))), s')
    rw [zN_n (by omega)]
  · intro s' e1 e2
    have := p_total (n := n) (s := s') (c := d) hn d1 (by rw [e1]; exact d2)
    rw [this, e2]
  · rw [← j2, ← j3, ← j4]; exact k1
  · rintro s' e1 e2 e3 v ⟨a, ha, rfl⟩
    have := q_taxed (n := n) (s := s') (c := c) (x := a) hn (by rw [e1]; exact c2) (by rw [e2, e3]; exact c4) ha
    rw [e2, e3] at this
    rw [this]
    show _ = some (nI (zTaxL (zLs (x 11) (x 12) c) (zLs (x 11) (x 12) c) (zNt (nI a))), s')
    rw [zN_n (by omega), zTaxL_p c7]
  · intro s' e1 e2
    have := q_all (n := n) (s := s') (c := d) hn d1 (by rw [e1]; exact d3)
    rw [this, e2, t14]
  · intro k hk
    obtain ⟨a, ha, e⟩ := k6 k hk
    exact ⟨a, by omega, by rw [← j5]; exact e⟩
def zXe (x : zS) (e : Nat → Int32) : zS := zSt (zU x 21 5 (-1)) 22 e
theorem zXe_n {x : zS} {e : Nat → Int32} {c : Nat} (h1 : c ≠ 21) (h2 : c ≠ 22) : zXe x e c = x c := by
  unfold zXe
  rw [zSt_n h2, zU_ne h1]
theorem zXe_e {x : zS} {e : Nat → Int32} : zXe x e 22 = e := by unfold zXe; rw [zSt_s]
theorem zXe_r {x : zS} {e : Nat → Int32} : zXe x e 21 5 = -1 := by unfold zXe; rw [zSt_n (by decide), zU_eq]
theorem zXe_i {y : Nat} {x m : zS} {e : Nat → Int32} (h : zInv y x m) (he : ∀ k, k < 16 → zBn (e k)) : zInv y (zXe x e) m := zInv_x h (fun c c1 c2 c3 => zXe_n (by omega) (by omega)) ⟨by rw [zXe_e]; exact he, by rw [zXe_n (by decide) (by decide)]; exact h.2.2.2.2.2.1.2⟩
theorem zS2_i7 {y : Nat} {x m : zS} {e w : Nat → Int32} (h : zInv y x m) (he : ∀ k, k < 32 → zBn (e k)) (hw : ∀ i, i < 32 → w i = 0 ∨ w i = 1) : zInv y x (zS2 m e w) := zInv_m h (fun c c1 c2 => zS2_n (by omega) (by omega)) (zS2_n (by decide) (by decide)) (fun j _ _ => by rw [zS2_n (by decide) (by decide)]) ⟨by rw [zS2_v]; exact he, by rw [zS2_w]; exact hw⟩
/-- all values are worked out, and both have the same -/
theorem inv_work {n y : Nat} (hn : 100 ≤ n) {x m : zS} (h : zInv y x m) : ∃ e e' w, m_X6_workOut n (-1) x = some (0, zXe x e) ∧ m_X8_solves n (-1) 0 m = some (0, zS2 m e' w) ∧ zInv y (zXe x e) (zS2 m e' w) ∧ (∀ k, k < 16 → e' k = e k) ∧ ∀ k, k < 16 → zBn (e k) := by
  obtain ⟨tx, tot, hV, hR⟩ := inv_tt hn h
  obtain ⟨⟨j2, j3, j4, j5⟩, _, _, _, _, i6, i7⟩ := id h
  obtain ⟨e, w1, w2, w3⟩ := p_workOut hn (-1) hV i6.1
  obtain ⟨e', w, q1, q2, q3, q4⟩ := q_solves (fx := -1) (its := 0) hn hR i7.1 i7.2 (fun k hk q => absurd q (zn_L hk)) zBn_0
  rw [zAn_m] at w3
  refine ⟨e, e', w, w1, q1, zS2_i7 (zXe_i h w2) q2 q3, fun k hk => ?_, w2⟩
  have := q4 (fun _ => True) e (by rw [← j2, ← j3, ← j4, ← j5]; exact v_all (its := 0) hV.1 w2 w3) k hk trivial
  exact this
end PIv
