section PAm
/-! amounts that are carried -/
def zSm (f : Nat → Int32) : Nat → Int32
  | 0 => 0
  | k + 1 => zSm f k + f k
theorem zSm_bn {f : Nat → Int32} {b : Nat} : ∀ c, (∀ i, i < c → ∃ a, a ≤ b ∧ f i = nI a) → ∃ a, a ≤ c * b ∧ zSm f c = nI a := by
  intro c
  induction c with
  | zero => intro _; exact ⟨0, by omega, rfl⟩
  | succ c ih =>
    intro h
    obtain ⟨a, ha, ea⟩ := ih (fun i hi => h i (by omega))
    obtain ⟨d, hd, ed⟩ := h c (by omega)
    exact ⟨a + d, by rw [Nat.succ_mul]; omega, by rw [zSm, ea, ed, nI_add]⟩
theorem a8 {s : zS} {k i : Nat} (h : i < 8) : zAt s k 8 (nI i) = s k i := zAt_n h (by decide)
theorem a5 {s : zS} {k i : Nat} (h : i < 5) : zAt s k 5 (nI i) = s k i := zAt_n h (by decide)
theorem p_total {n c : Nat} (hn : 100 ≤ n) {s : zS} (hc : c ≤ 8) (h : s 13 2 = nI c) : m_X0_total n s = some (zSm (s 14) c, s) := by
  obtain ⟨v, f1, hf1, hI, e1⟩ := for_up (fun f k (v : Int32) => m_X0_total_j4 n f v (nI k) s) (fun k v => v = zSm (s 14) k) c (by
    rintro f k v hk rfl
    refine ⟨_, rfl, ?_⟩
    show m_X0_total_j4 n (f + 1) _ (nI k) s = m_X0_total_j4 n f _ (nI (k + 1)) s
    rw [m_X0_total_j4, h, if_neg (nI_ge hk (by omega)), p_leftAt, zBd_e, a8 (by omega), zLt_e, zLt_e, nI_s, zSm]) c n 0 0 (by omega) (by omega) rfl
  obtain ⟨f1, rfl⟩ : ∃ g, f1 = g + 1 := ⟨f1 - 1, by omega⟩
  unfold m_X0_total
  refine (show _ = _ from e1).trans ?_
  show m_X0_total_j4 n (f1 + 1) v (nI c) s = _
  rw [m_X0_total_j4, h, if_pos (nI_le (Nat.le_refl _) (by omega)), hI]; rfl
theorem q_all {n c : Nat} (hn : 100 ≤ n) {s : zS} (hc : c ≤ 8) (h : s 0 8 = nI c) : m_X8_all n s = some (zSm (s 7) c, s) := by
  obtain ⟨v, f1, hf1, hI, e1⟩ := for_up (fun f k (v : Int32) => m_X8_all_j4 n f v (nI k) s) (fun k v => v = zSm (s 7) k) c (by
    rintro f k v hk rfl
    refine ⟨_, rfl, ?_⟩
    show m_X8_all_j4 n (f + 1) _ (nI k) s = m_X8_all_j4 n f _ (nI (k + 1)) s
    rw [m_X8_all_j4, h, if_neg (nI_ge hk (by omega)), zRd_n (by omega) (by decide), zLt_e, zLt_e, nI_s, zSm]) c n 0 0 (by omega) (by omega) rfl
  obtain ⟨f1, rfl⟩ : ∃ g, f1 = g + 1 := ⟨f1 - 1, by omega⟩
  unfold m_X8_all
  refine (show _ = _ from e1).trans ?_
  show m_X8_all_j4 n (f1 + 1) v (nI c) s = _
  rw [m_X8_all_j4, h, if_pos (nI_le (Nat.le_refl _) (by omega)), hI]; rfl
theorem nI_m1 {p : Nat} : nI (p + 1) + (-1 : Int32) = nI p := by rw [← Int32.sub_eq_add_neg]; exact nI_pred p
/-- an amount laid in its place -/
def zIn (a l : Int32) : Nat → (Nat → Int32) → (Nat → Int32) → (Nat → Int32) × (Nat → Int32)
  | 0, A, L => (upd A 0 a, upd L 0 l)
  | p + 1, A, L => if L p ≤ l then (upd A (p + 1) a, upd L (p + 1) l) else zIn a l p (upd A (p + 1) (A p)) (upd L (p + 1) (L p))
theorem zU_k {s : zS} {k j : Nat} {v : Int32} : zU s k j v k = upd (s k) j v := by unfold zU; rw [if_pos rfl]
theorem p_add {n : Nat} {a l : Int32} : ∀ p f (s : zS), p < 8 → p < f → ∃ s', m_X0_add_j5 n f a l (nI p) s = some (0, s') ∧ s' 14 = (zIn a l p (s 14) (s 15)).1 ∧ s' 15 = (zIn a l p (s 14) (s 15)).2 ∧ s' 13 = upd (s 13) 2 (s 13 2 + 1) ∧ ∀ c, c ≠ 13 → c ≠ 14 → c ≠ 15 → s' c = s c := by
  have put : ∀ p (s : zS), p < 8 → ∃ s', m_X0_add_j37 n a l (nI p) s = some (0, s') ∧ s' 14 = upd (s 14) p a ∧ s' 15 = upd (s 15) p l ∧ s' 13 = upd (s 13) 2 (s 13 2 + 1) ∧ ∀ c, c ≠ 13 → c ≠ 14 → c ≠ 15 → s' c = s c := by
    intro p s hp
    refine ⟨zU (zU (zU s 14 p a) 15 p l) 13 2 (s 13 2 + 1), ?_, ?_, ?_, ?_, fun c h1 h2 h3 => ?_⟩
    · unfold m_X0_add_j37
      rw [p_put hp (by decide), zBd_e, p_put hp (by decide), zBd_e, zLt_e, zU_ne (a := 13) (k := 15) (by decide), zU_ne (a := 13) (k := 14) (by decide)]; rfl
    · rw [zU_ne (by decide), zU_ne (by decide), zU_k]
    · rw [zU_ne (by decide), zU_k, zU_ne (by decide)]
    · rw [zU_k, zU_ne (by decide), zU_ne (by decide)]
    · rw [zU_ne h1, zU_ne h3, zU_ne h2]
  intro p
  induction p with
  | zero =>
    intro f s hp hf
    obtain ⟨f, rfl⟩ : ∃ g, f = g + 1 := ⟨f - 1, by omega⟩
    rw [m_X0_add_j5, if_pos (by decide)]
    exact put 0 s (by omega)
  | succ p ih =>
    intro f s hp hf
    obtain ⟨f, rfl⟩ : ∃ g, f = g + 1 := ⟨f - 1, by omega⟩
    rw [m_X0_add_j5, if_neg (nI_nle (by omega) (by omega)), nI_pred, p_at (by decide), zBd_e, a8 (by omega)]
    unfold zIn
    by_cases h : s 15 p ≤ l
    · rw [if_pos h, if_pos h]
      exact put (p + 1) s hp
    · rw [if_neg h, if_neg h]
      have mv : m_X0_move n (nI p) (nI (p + 1)) s = some (0, zU (zU s 14 (p + 1) (s 14 p)) 15 (p + 1) (s 15 p)) := by
        unfold m_X0_move
        rw [p_at (by decide), zBd_e, a8 (by omega), p_put hp (by decide), zBd_e, p_at (by decide), zBd_e, a8 (by omega), zU_ne (a := 15) (k := 14) (by decide), p_put hp (by decide), zBd_e]; rfl
      rw [mv, zBd_e, zLt_e, nI_m1]
      obtain ⟨s', r1, r2, r3, r4, r5⟩ := ih f (zU (zU s 14 (p + 1) (s 14 p)) 15 (p + 1) (s 15 p)) (by omega) (by omega)
      rw [zU_ne (a := 14) (k := 15) (by decide), zU_k, zU_k, zU_ne (a := 15) (k := 14) (by decide)] at r2 r3
      rw [zU_ne (a := 13) (k := 15) (by decide), zU_ne (a := 13) (k := 14) (by decide)] at r4
      exact ⟨s', r1, r2, r3, r4, fun c h1 h2 h3 => by rw [r5 c h1 h2 h3, zU_ne h3, zU_ne h2]⟩
theorem q_add {n c : Nat} (hn : 100 ≤ n) {a l : Int32} (hc : c < 8) : ∀ p f (s : zS), p ≤ c → p < f → s 0 8 = nI c → ∃ s', m_X8_carry_j79 n f a l (nI p) s = some (zSm (zIn a l p (s 7) (s 8)).1 (c + 1), s') ∧ s' 7 = (zIn a l p (s 7) (s 8)).1 ∧ s' 8 = (zIn a l p (s 7) (s 8)).2 ∧ s' 0 = upd (s 0) 8 (nI (c + 1)) ∧ ∀ c, c ≠ 0 → c ≠ 7 → c ≠ 8 → s' c = s c := by
  have put : ∀ p (s : zS), p ≤ c → s 0 8 = nI c → ∃ s', m_X8_carry_j129 n a l (nI p) s = some (zSm (upd (s 7) p a) (c + 1), s') ∧ s' 7 = upd (s 7) p a ∧ s' 8 = upd (s 8) p l ∧ s' 0 = upd (s 0) 8 (nI (c + 1)) ∧ ∀ c, c ≠ 0 → c ≠ 7 → c ≠ 8 → s' c = s c := by
    intro p s hp h8
    refine ⟨zU (zU (zU s 7 p a) 8 p l) 0 8 (nI (c + 1)), ?_, ?_, ?_, ?_, fun c h1 h2 h3 => ?_⟩
    · unfold m_X8_carry_j129
      rw [zWr_n (by omega) (by decide), zWr_n (by omega) (by decide), zLt_e, zU_ne (a := 0) (k := 8) (by decide), zU_ne (a := 0) (k := 7) (by decide), h8, nI_s, q_all (c := c + 1) hn (by omega) (by rw [zU_eq]), zBd_e, zU_ne (a := 7) (k := 0) (by decide), zU_ne (a := 7) (k := 8) (by decide), zU_k]; rfl
    · rw [zU_ne (by decide), zU_ne (by decide), zU_k]
    · rw [zU_ne (by decide), zU_k, zU_ne (by decide)]
    · rw [zU_k, zU_ne (by decide), zU_ne (by decide)]
    · rw [zU_ne h1, zU_ne h3, zU_ne h2]
  intro p
  induction p with
  | zero =>
    intro f s hp hf h8
    obtain ⟨f, rfl⟩ : ∃ g, f = g + 1 := ⟨f - 1, by omega⟩
    rw [m_X8_carry_j79, if_pos (by decide)]
    exact put 0 s (by omega) h8
  | succ p ih =>
    intro f s hp hf h8
    obtain ⟨f, rfl⟩ : ∃ g, f = g + 1 := ⟨f - 1, by omega⟩
    rw [m_X8_carry_j79, if_neg (nI_nle (by omega) (by omega)), nI_pred, zRd_n (by omega) (by decide)]
    unfold zIn
    by_cases h : s 8 p ≤ l
    · rw [if_pos h, if_pos h]
      exact put (p + 1) s hp h8
    · rw [if_neg h, if_neg h, zRd_n (by omega) (by decide), zWr_n (by omega) (by decide), zRd_n (by omega) (by decide), zWr_n (by omega) (by decide), zLt_e, nI_m1, zU_ne (a := 8) (k := 7) (by decide)]
      obtain ⟨s', r1, r2, r3, r4, r5⟩ := ih f (zU (zU s 7 (p + 1) (s 7 p)) 8 (p + 1) (s 8 p)) (by omega) (by omega) (by rw [zU_ne (by decide), zU_ne (by decide)]; exact h8)
      rw [zU_ne (a := 7) (k := 8) (by decide), zU_k, zU_k, zU_ne (a := 8) (k := 7) (by decide)] at r1 r2 r3
      rw [zU_ne (a := 0) (k := 8) (by decide), zU_ne (a := 0) (k := 7) (by decide)] at r4
      exact ⟨s', r1, r2, r3, r4, fun c h1 h2 h3 => by rw [r5 c h1 h2 h3, zU_ne h3, zU_ne h2]⟩
theorem zIn_bn {a l : Int32} (ha : ∃ x, x ≤ 1000000 ∧ a = nI x) : ∀ p A L, p < 8 → (∀ i, i < 8 → ∃ x, x ≤ 1000000 ∧ A i = nI x) → ∀ i, i < 8 → ∃ x, x ≤ 1000000 ∧ (zIn a l p A L).1 i = nI x := by
  have up : ∀ (A : Nat → Int32) j v, (∃ x, x ≤ 1000000 ∧ v = nI x) → (∀ i, i < 8 → ∃ x, x ≤ 1000000 ∧ A i = nI x) → ∀ i, i < 8 → ∃ x, x ≤ 1000000 ∧ upd A j v i = nI x := by
    intro A j v hv hA i hi
    by_cases q : i = j
    · rw [q, upd_s]; exact hv
    · rw [upd_n q]; exact hA i hi
  intro p
  induction p with
  | zero => intro A L _ hA; exact up A 0 a ha hA
  | succ p ih =>
    intro A L hp hA
    unfold zIn
    split
    · exact up A (p + 1) a ha hA
    · exact ih _ _ (by omega) (up A (p + 1) _ (hA p (by omega)) hA)
/-- amounts spent -/
def zTk (w : Int32) (A : Nat → Int32) : Nat → Int32 × (Nat → Int32)
  | 0 => (w, A)
  | k + 1 => ((zTk w A k).1 - (if (zTk w A k).2 k < (zTk w A k).1 then (zTk w A k).2 k else (zTk w A k).1), upd (zTk w A k).2 k ((zTk w A k).2 k - (if (zTk w A k).2 k < (zTk w A k).1 then (zTk w A k).2 k else (zTk w A k).1)))
theorem p_take {n c : Nat} (hn : 100 ≤ n) {s : zS} (w : Int32) (hc : c ≤ 8) (h : s 13 2 = nI c) : m_X0_take n w s = some (w - (zTk w (s 14) c).1, zSt s 14 (zTk w (s 14) c).2) := by
  obtain ⟨x, f1, hf1, hI, e1⟩ := for_up (fun f k (x : Int32 × (Nat → Int32)) => m_X0_take_j4 n f w x.1 (nI k) (zSt s 14 x.2)) (fun k x => x = zTk w (s 14) k) c (by
    rintro f k x hk rfl
    refine ⟨_, rfl, ?_⟩
    show m_X0_take_j4 n (f + 1) w _ (nI k) _ = m_X0_take_j4 n f w _ (nI (k + 1)) _
    rw [m_X0_take_j4, zSt_n (by decide), h, if_neg (nI_ge hk (by omega)), p_leftAt, zBd_e, a8 (by omega), zSt_s, zLt_e, p_leftAt, zBd_e, a8 (by omega), zSt_s, p_put (by omega) (by decide), zBd_e, zLt_e, zLt_e, nI_s, zSt_u]; rfl) c n 0 (w, s 14) (by omega) (by omega) rfl
  obtain ⟨f1, rfl⟩ : ∃ g, f1 = g + 1 := ⟨f1 - 1, by omega⟩
  unfold m_X0_take
  have e0 : m_X0_take_j4 n n w w 0 s = m_X0_take_j4 n (f1 + 1) w x.1 (nI c) (zSt s 14 x.2) := by
    have := e1
    simp only at this
    rw [zSt_i] at this
    exact this
  rw [e0, m_X0_take_j4, zSt_n (by decide), h, if_pos (nI_le (Nat.le_refl _) (by omega)), hI]; rfl
theorem q_spends {n c : Nat} (hn : 100 ≤ n) {s : zS} (w : Int32) (hc : c ≤ 8) (h : s 0 8 = nI c) : m_X8_spends n w s = some (w - (zTk w (s 7) c).1, zSt s 7 (zTk w (s 7) c).2) := by
  obtain ⟨x, f1, hf1, hI, e1⟩ := for_up (fun f k (x : Int32 × (Nat → Int32)) => m_X8_spends_j4 n f w x.1 (nI k) (zSt s 7 x.2)) (fun k x => x = zTk w (s 7) k) c (by
    rintro f k x hk rfl
    refine ⟨_, rfl, ?_⟩
    show m_X8_spends_j4 n (f + 1) w _ (nI k) _ = m_X8_spends_j4 n f w _ (nI (k + 1)) _
    rw [m_X8_spends_j4, zSt_n (by decide), h, if_neg (nI_ge hk (by omega)), zRd_n (by omega) (by decide), zSt_s]
    unfold m_X8_spends_j32
    by_cases hle : (zTk w (s 7) k).1 ≤ (zTk w (s 7) k).2 k
    · rw [if_pos hle, zRd_n (by omega) (by decide), zSt_s, zWr_n (by omega) (by decide), zLt_e, zLt_e, nI_s, zSt_u, zTk, if_neg (Int32.not_lt.mpr hle)]
    · rw [if_neg hle, zRd_n (by omega) (by decide), zRd_n (by omega) (by decide), zSt_s, zWr_n (by omega) (by decide), zLt_e, zLt_e, nI_s, zSt_u, zTk, if_pos (Int32.not_le.mp hle)]) c n 0 (w, s 7) (by omega) (by omega) rfl
  obtain ⟨f1, rfl⟩ : ∃ g, f1 = g + 1 := ⟨f1 - 1, by omega⟩
  unfold m_X8_spends
  have e0 : m_X8_spends_j4 n n w w 0 s = m_X8_spends_j4 n (f1 + 1) w x.1 (nI c) (zSt s 7 x.2) := by
    have := e1
    simp only at this
    rw [zSt_i] at this
    exact this
  rw [e0, m_X8_spends_j4, zSt_n (by decide), h, if_pos (nI_le (Nat.le_refl _) (by omega)), hI]; rfl
theorem zTk_bn {w : Int32} {A : Nat → Int32} (hw : zBn w) (hA : ∀ i, i < 8 → ∃ x, x ≤ 1000000 ∧ A i = nI x) : ∀ k, k ≤ 8 → zBn (zTk w A k).1 ∧ ∀ i, i < 8 → ∃ x, x ≤ 1000000 ∧ (zTk w A k).2 i = nI x := by
  intro k
  induction k with
  | zero => intro _; exact ⟨hw, hA⟩
  | succ k ih =>
    intro hk
    obtain ⟨⟨a, ha, ea⟩, hb⟩ := ih (by omega)
    obtain ⟨x, hx, ex⟩ := hb k (by omega)
    have hm : (if nI x < nI a then nI x else nI a) = nI (min a x) := n_min (by omega) (by omega)
    refine ⟨⟨a - min a x, by omega, ?_⟩, fun i hi => ?_⟩
    · rw [zTk, ex, ea, hm, n_subN (by omega)]
    · rw [zTk]
      show ∃ x, x ≤ 1000000 ∧ upd _ k _ i = nI x
      by_cases q : i = k
      · rw [q, upd_s, ex, ea, hm, n_subN (by omega)]; exact ⟨x - min a x, by omega, rfl⟩
      · rw [upd_n q]; exact hb i hi
/-- the end of a year: kept, lefts, lasts -/
def zEy (y : Int32) (A L : Nat → Int32) : Nat → Nat × (Nat → Int32) × (Nat → Int32)
  | 0 => (0, A, L)
  | k + 1 => if (zEy y A L k).2.1 k ≤ 0 then zEy y A L k else if (zEy y A L k).2.2 k ≤ y then zEy y A L k else ((zEy y A L k).1 + 1, upd (zEy y A L k).2.1 (zEy y A L k).1 ((zEy y A L k).2.1 k), upd (zEy y A L k).2.2 (zEy y A L k).1 ((zEy y A L k).2.2 k))
theorem zEy_bn {y : Int32} {A L : Nat → Int32} (hA : ∀ i, i < 8 → ∃ x, x ≤ 1000000 ∧ A i = nI x) : ∀ k, k ≤ 8 → (zEy y A L k).1 ≤ k ∧ ∀ i, i < 8 → ∃ x, x ≤ 1000000 ∧ (zEy y A L k).2.1 i = nI x := by
  intro k
  induction k with
  | zero => intro _; exact ⟨Nat.le_refl _, hA⟩
  | succ k ih =>
    intro hk
    obtain ⟨h1, h2⟩ := ih (by omega)
    rw [zEy]
    split
    · exact ⟨by omega, h2⟩
    · split
      · exact ⟨by omega, h2⟩
      · refine ⟨Nat.succ_le_succ h1, fun i hi => ?_⟩
        show ∃ x, x ≤ 1000000 ∧ upd _ _ _ i = nI x
        by_cases q : i = (zEy y A L k).1
        · rw [q, upd_s]; exact h2 k (by omega)
        · rw [upd_n q]; exact h2 i hi
theorem zSt_c {s : zS} {a b : Nat} {f g : Nat → Int32} (h : a ≠ b) : zSt (zSt s a f) b g = zSt (zSt s b g) a f := by
  funext i
  by_cases h1 : i = a
  · subst h1; rw [zSt_n h, zSt_s, zSt_s]
  · by_cases h2 : i = b
    · subst h2; rw [zSt_s, zSt_n h1, zSt_s]
    · rw [zSt_n h2, zSt_n h1, zSt_n h1, zSt_n h2]
theorem p_endYear {n c : Nat} (hn : 100 ≤ n) {s : zS} (hc : c ≤ 8) (h : s 13 2 = nI c) : ∃ s', m_X0_endYear n s = some (0, s') ∧ s' 14 = (zEy (s 13 3) (s 14) (s 15) c).2.1 ∧ s' 15 = (zEy (s 13 3) (s 14) (s 15) c).2.2 ∧ s' 13 = upd (upd (s 13) 2 (nI (zEy (s 13 3) (s 14) (s 15) c).1)) 3 (s 13 3 + 1) ∧ ∀ c, c ≠ 13 → c ≠ 14 → c ≠ 15 → s' c = s c := by
  obtain ⟨x, f1, hf1, ⟨hx, hI⟩, e1⟩ := for_up (fun f k (x : Nat × (Nat → Int32) × (Nat → Int32)) => m_X0_endYear_j4 n f (nI x.1) (nI k) (zSt (zSt s 14 x.2.1) 15 x.2.2)) (fun k x => x.1 ≤ k ∧ x = zEy (s 13 3) (s 14) (s 15) k) c (by
    rintro f k x hk ⟨hx, hI⟩
    have e13 : zSt (zSt s 14 x.2.1) 15 x.2.2 13 = s 13 := by rw [zSt_n (by decide), zSt_n (by decide)]
    have e14 : zSt (zSt s 14 x.2.1) 15 x.2.2 14 = x.2.1 := by rw [zSt_n (by decide), zSt_s]
    have e15 : zSt (zSt s 14 x.2.1) 15 x.2.2 15 = x.2.2 := zSt_s
    by_cases h1 : x.2.1 k ≤ 0
    · refine ⟨x, ⟨by omega, by rw [zEy, ← hI, if_pos h1]⟩, ?_⟩
      show m_X0_endYear_j4 n (f + 1) (nI x.1) (nI k) _ = m_X0_endYear_j4 n f (nI x.1) (nI (k + 1)) _
      rw [m_X0_endYear_j4, e13, h, if_neg (nI_ge hk (by omega)), p_leftAt, zBd_e, a8 (by omega), e14, if_pos h1, zLt_e, nI_s]
    · by_cases h2 : x.2.2 k ≤ s 13 3
      · refine ⟨x, ⟨by omega, by rw [zEy, ← hI, if_neg h1, if_pos h2]⟩, ?_⟩
        show m_X0_endYear_j4 n (f + 1) (nI x.1) (nI k) _ = m_X0_endYear_j4 n f (nI x.1) (nI (k + 1)) _
        rw [m_X0_endYear_j4, e13, h, if_neg (nI_ge hk (by omega)), p_leftAt, zBd_e, a8 (by omega), e14, if_neg h1, p_at (by decide), zBd_e, a8 (by omega), e15, e13, if_pos h2, zLt_e, nI_s]
      · refine ⟨(x.1 + 1, upd x.2.1 x.1 (x.2.1 k), upd x.2.2 x.1 (x.2.2 k)), ⟨Nat.succ_le_succ hx, by rw [zEy, ← hI, if_neg h1, if_neg h2]⟩, ?_⟩
        show m_X0_endYear_j4 n (f + 1) (nI x.1) (nI k) _ = m_X0_endYear_j4 n f (nI (x.1 + 1)) (nI (k + 1)) (zSt (zSt s 14 (upd x.2.1 x.1 (x.2.1 k))) 15 (upd x.2.2 x.1 (x.2.2 k)))
        have mv : m_X0_move n (nI k) (nI x.1) (zSt (zSt s 14 x.2.1) 15 x.2.2) = some (0, zSt (zSt s 14 (upd x.2.1 x.1 (x.2.1 k))) 15 (upd x.2.2 x.1 (x.2.2 k))) := by
          unfold m_X0_move
          rw [p_at (by decide), zBd_e, a8 (by omega), p_put (by omega) (by decide), zBd_e, p_at (by decide), zBd_e, a8 (by omega), p_put (by omega) (by decide), zBd_e, zU_ne (a := 15) (k := 14) (by decide), e14, e15]
          show some ((0 : Int32), _) = some (0, _)
          rw [zSt_c (by decide), zSt_u, zSt_c (by decide), zSt_u]
        rw [m_X0_endYear_j4, e13, h, if_neg (nI_ge hk (by omega)), p_leftAt, zBd_e, a8 (by omega), e14, if_neg h1, p_at (by decide), zBd_e, a8 (by omega), e15, e13, if_neg h2, mv, zBd_e, zLt_e, zLt_e, nI_s, nI_s]) c n 0 (0, s 14, s 15) (by omega) (by omega) ⟨Nat.le_refl _, rfl⟩
  obtain ⟨f1, rfl⟩ : ∃ g, f1 = g + 1 := ⟨f1 - 1, by omega⟩
  have e13 : zSt (zSt s 14 x.2.1) 15 x.2.2 13 = s 13 := by rw [zSt_n (by decide), zSt_n (by decide)]
  refine ⟨zU (zU (zSt (zSt s 14 x.2.1) 15 x.2.2) 13 2 (nI x.1)) 13 3 (s 13 3 + 1), ?_, ?_, ?_, ?_, fun c h1 h2 h3 => ?_⟩
  · unfold m_X0_endYear
    have e0 : m_X0_endYear_j4 n n 0 0 s = m_X0_endYear_j4 n (f1 + 1) (nI x.1) (nI c) (zSt (zSt s 14 x.2.1) 15 x.2.2) := by
      have := e1
      simp only at this
      rw [show zSt (zSt s 14 (s 14)) 15 (s 15) = s from (by rw [zSt_i, zSt_i])] at this
      exact this
    rw [e0, m_X0_endYear_j4, e13, h, if_pos (nI_le (Nat.le_refl _) (by omega)), zLt_e, zLt_e, zU_nj (c := 3) (j := 2) (by decide), e13]; rfl
  · rw [zU_ne (by decide), zU_ne (by decide), zSt_n (by decide), zSt_s, hI]
  · rw [zU_ne (by decide), zU_ne (by decide), zSt_s, hI]
  · rw [zU_k, zU_k, e13, hI]
  · rw [zU_ne h1, zU_ne h1, zSt_n h3, zSt_n h2]
theorem q_endYear {n c : Nat} (hn : 100 ≤ n) {s : zS} (v1 : Int32) (hc : c ≤ 8) (h : s 0 8 = nI c) : ∃ s', m_X8_closeYear_j59 n n v1 0 0 s = some (v1, s') ∧ s' 7 = (zEy (s 0 7) (s 7) (s 8) c).2.1 ∧ s' 8 = (zEy (s 0 7) (s 7) (s 8) c).2.2 ∧ s' 0 = upd (upd (s 0) 8 (nI (zEy (s 0 7) (s 7) (s 8) c).1)) 7 (s 0 7 + 1) ∧ ∀ c, c ≠ 0 → c ≠ 7 → c ≠ 8 → s' c = s c := by
  obtain ⟨x, f1, hf1, ⟨hx, hI⟩, e1⟩ := for_up (fun f k (x : Nat × (Nat → Int32) × (Nat → Int32)) => m_X8_closeYear_j59 n f v1 (nI x.1) (nI k) (zSt (zSt s 7 x.2.1) 8 x.2.2)) (fun k x => x.1 ≤ k ∧ x = zEy (s 0 7) (s 7) (s 8) k) c (by
    rintro f k x hk ⟨hx, hI⟩
    have e0 : zSt (zSt s 7 x.2.1) 8 x.2.2 0 = s 0 := by rw [zSt_n (by decide), zSt_n (by decide)]
    have e7 : zSt (zSt s 7 x.2.1) 8 x.2.2 7 = x.2.1 := by rw [zSt_n (by decide), zSt_s]
    have e8 : zSt (zSt s 7 x.2.1) 8 x.2.2 8 = x.2.2 := zSt_s
    by_cases h1 : x.2.1 k ≤ 0
    · refine ⟨x, ⟨by omega, by rw [zEy, ← hI, if_pos h1]⟩, ?_⟩
      show m_X8_closeYear_j59 n (f + 1) v1 (nI x.1) (nI k) _ = m_X8_closeYear_j59 n f v1 (nI x.1) (nI (k + 1)) _
      rw [m_X8_closeYear_j59, e0, h, if_neg (nI_ge hk (by omega)), zRd_n (by omega) (by decide), e7, if_pos h1, zLt_e, nI_s]
    · by_cases h2 : x.2.2 k ≤ s 0 7
      · refine ⟨x, ⟨by omega, by rw [zEy, ← hI, if_neg h1, if_pos h2]⟩, ?_⟩
        show m_X8_closeYear_j59 n (f + 1) v1 (nI x.1) (nI k) _ = m_X8_closeYear_j59 n f v1 (nI x.1) (nI (k + 1)) _
        rw [m_X8_closeYear_j59, e0, h, if_neg (nI_ge hk (by omega)), zRd_n (by omega) (by decide), e7, if_neg h1, zRd_n (by omega) (by decide), e8, if_pos h2, zLt_e, nI_s]
      · refine ⟨(x.1 + 1, upd x.2.1 x.1 (x.2.1 k), upd x.2.2 x.1 (x.2.2 k)), ⟨Nat.succ_le_succ hx, by rw [zEy, ← hI, if_neg h1, if_neg h2]⟩, ?_⟩
        show m_X8_closeYear_j59 n (f + 1) v1 (nI x.1) (nI k) _ = m_X8_closeYear_j59 n f v1 (nI (x.1 + 1)) (nI (k + 1)) (zSt (zSt s 7 (upd x.2.1 x.1 (x.2.1 k))) 8 (upd x.2.2 x.1 (x.2.2 k)))
        have up1 : zU (zSt (zSt s 7 x.2.1) 8 x.2.2) 7 x.1 (x.2.1 k) = zSt (zSt s 7 (upd x.2.1 x.1 (x.2.1 k))) 8 x.2.2 := by rw [zSt_c (by decide), zSt_u, zSt_c (by decide)]
        rw [m_X8_closeYear_j59, e0, h, if_neg (nI_ge hk (by omega)), zRd_n (by omega) (by decide), e7, if_neg h1, zRd_n (by omega) (by decide), e8, if_neg h2, zRd_n (by omega) (by decide), zWr_n (by omega) (by decide), zRd_n (by omega) (by decide), zWr_n (by omega) (by decide), zLt_e, zLt_e, nI_s, nI_s, up1, zSt_u, zSt_s]) c n 0 (0, s 7, s 8) (by omega) (by omega) ⟨Nat.le_refl _, rfl⟩
  obtain ⟨f1, rfl⟩ : ∃ g, f1 = g + 1 := ⟨f1 - 1, by omega⟩
  have e0 : zSt (zSt s 7 x.2.1) 8 x.2.2 0 = s 0 := by rw [zSt_n (by decide), zSt_n (by decide)]
  refine ⟨zU (zU (zSt (zSt s 7 x.2.1) 8 x.2.2) 0 8 (nI x.1)) 0 7 (s 0 7 + 1), ?_, ?_, ?_, ?_, fun c h1 h2 h3 => ?_⟩
  · have ee : m_X8_closeYear_j59 n n v1 0 0 s = m_X8_closeYear_j59 n (f1 + 1) v1 (nI x.1) (nI c) (zSt (zSt s 7 x.2.1) 8 x.2.2) := by
      have := e1
      simp only at this
      rw [show zSt (zSt s 7 (s 7)) 8 (s 8) = s from (by rw [zSt_i, zSt_i])] at this
      exact this
    rw [ee, m_X8_closeYear_j59, e0, h, if_pos (nI_le (Nat.le_refl _) (by omega)), zLt_e, zLt_e, zU_nj (c := 7) (j := 8) (by decide), e0]; rfl
  · rw [zU_ne (by decide), zU_ne (by decide), zSt_n (by decide), zSt_s, hI]
  · rw [zU_ne (by decide), zU_ne (by decide), zSt_s, hI]
  · rw [zU_k, zU_k, e0, hI]
  · rw [zU_ne h1, zU_ne h1, zSt_n h3, zSt_n h2]
end PAm
