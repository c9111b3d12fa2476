section PBr
/-! brackets -/
theorem perm_fold {α β : Type} (f : β → α → β) (hc : ∀ z x y, f (f z x) y = f (f z y) x) {l1 l2 : List α} (h : l1.Perm l2) : ∀ z, l1.foldl f z = l2.foldl f z := by
  induction h with
  | nil => intro z; rfl
  | cons x _ ih => intro z; exact ih _
  | swap x y l => intro z; show l.foldl f (f (f z y) x) = l.foldl f (f (f z x) y); rw [hc]
  | trans _ _ ih1 ih2 => intro z; rw [ih1, ih2]
def zLs (A B : Nat → Int32) (c : Nat) : List (Nat × Nat) := (List.range c).map (fun i => (zNt (A i), zNt (B i)))
theorem zLs_s {A B : Nat → Int32} {c : Nat} : zLs A B (c + 1) = zLs A B c ++ [(zNt (A c), zNt (B c))] := by
  unfold zLs
  rw [List.range_succ, List.map_append]; rfl
theorem zLs_c {A B A' B' : Nat → Int32} {c : Nat} (h : ∀ i, i < c → zNt (A i) = zNt (A' i) ∧ zNt (B i) = zNt (B' i)) : zLs A B c = zLs A' B' c := by
  unfold zLs
  refine List.map_congr_left (fun i hi => ?_)
  obtain ⟨a, b⟩ := h i (List.mem_range.mp hi)
  rw [a, b]
/-- the threshold that follows -/
def zNx (l : List (Nat × Nat)) (t : Nat) : Nat := l.foldl (fun a p => if t < p.1 ∧ p.1 < a then p.1 else a) 1000000000
theorem zNx_p {l1 l2 : List (Nat × Nat)} (h : l1.Perm l2) (t : Nat) : zNx l1 t = zNx l2 t := by
  refine perm_fold _ (fun z x y => ?_) h _
  by_cases h1 : t < x.1 <;> by_cases h2 : t < y.1 <;> by_cases h3 : x.1 < z <;> by_cases h4 : y.1 < z <;> by_cases h5 : x.1 < y.1 <;> by_cases h6 : y.1 < x.1 <;> simp [h1, h2, h3, h4, h5, h6] <;> omega
def zTn (x u t r : Nat) : Nat := (min x u - t) * r / 1000
def zTaxL (l k : List (Nat × Nat)) (x : Nat) : Nat := k.foldl (fun s p => s + zTn x (zNx l p.1) p.1 p.2) 0
theorem zTaxL_p {l1 l2 : List (Nat × Nat)} (h : l1.Perm l2) (x : Nat) : zTaxL l1 l1 x = zTaxL l2 l2 x := by
  have e : zTaxL l1 l1 x = zTaxL l2 l1 x := by
    unfold zTaxL
    congr 1
    funext s p
    rw [zNx_p h]
  rw [e]
  exact perm_fold _ (fun z x y => by omega) h 0
theorem zTaxL_s {l : List (Nat × Nat)} {A B : Nat → Int32} {c x : Nat} : zTaxL l (zLs A B (c + 1)) x = zTaxL l (zLs A B c) x + zTn x (zNx l (zNt (A c))) (zNt (A c)) (zNt (B c)) := by
  unfold zTaxL
  rw [zLs_s, List.foldl_append]; rfl
/-- the bounds of brackets -/
def zBb (A B : Nat → Int32) (c : Nat) : Prop := c ≤ 5 ∧ ∀ i, i < c → (∃ a, a ≤ 1000000 ∧ A i = nI a) ∧ ∃ b, b ≤ 1000 ∧ B i = nI b
theorem zBb_n {A B : Nat → Int32} {c i : Nat} (h : zBb A B c) (hi : i < c) : (zNt (A i) ≤ 1000000 ∧ A i = nI (zNt (A i))) ∧ zNt (B i) ≤ 1000 ∧ B i = nI (zNt (B i)) := by
  obtain ⟨⟨a, ha, ea⟩, b, hb, eb⟩ := h.2 i hi
  rw [ea, eb, zN_n (by omega), zN_n (by omega)]
  exact ⟨⟨ha, rfl⟩, hb, rfl⟩
theorem zTn_le {x u t r : Nat} (hr : r ≤ 1000) : zTn x u t r ≤ min x u - t := thou_le hr
theorem q_above {n : Nat} (hn : 100 ≤ n) {s : zS} {c k x : Nat} (rec4 : Int32 → Int32 → Int32 → zS → Option (Int32 × zS)) (v2 : Int32) (h : s 0 4 = nI c) (hb : zBb (s 5) (s 6) c) (hk : k < c) (hx : x ≤ 1000000000) : m_X8_taxed_j19 rec4 n n (nI x) v2 (nI k) 1000000000 0 s = m_X8_taxed_j88 rec4 n (nI x) v2 (nI k) (nI (min x (zNx (zLs (s 5) (s 6) c) (zNt (s 5 k))))) s := by
  have hc := hb.1
  obtain ⟨⟨k1, k2⟩, _⟩ := zBb_n hb hk
  obtain ⟨v, f1, hf1, ⟨hv, hI⟩, e1⟩ := for_up (fun f j (v : Nat) => m_X8_taxed_j19 rec4 n f (nI x) v2 (nI k) (nI v) (nI j) s) (fun j v => v ≤ 1000000000 ∧ v = zNx (zLs (s 5) (s 6) j) (zNt (s 5 k))) c (by
    rintro f j v hj ⟨hv, hI⟩
    obtain ⟨⟨j1, j2⟩, _⟩ := zBb_n hb hj
    have eI : zNx (zLs (s 5) (s 6) (j + 1)) (zNt (s 5 k)) = if zNt (s 5 k) < zNt (s 5 j) ∧ zNt (s 5 j) < v then zNt (s 5 j) else v := by
      unfold zNx at hI ⊢
      rw [zLs_s, List.foldl_append, ← hI]; rfl
    rw [eI]
    by_cases h1 : zNt (s 5 j) ≤ zNt (s 5 k)
    · refine ⟨v, ⟨hv, by rw [if_neg (by omega)]⟩, ?_⟩
      show m_X8_taxed_j19 rec4 n (f + 1) (nI x) v2 (nI k) (nI v) (nI j) s = m_X8_taxed_j19 rec4 n f (nI x) v2 (nI k) (nI v) (nI (j + 1)) s
      rw [m_X8_taxed_j19, h, if_neg (nI_ge hj (by omega)), zRd_n (by omega) (by decide), zRd_n (by omega) (by decide), j2, k2, if_pos (nI_le h1 (by omega)), zLt_e, nI_s]
    · by_cases h2 : v ≤ zNt (s 5 j)
      · refine ⟨v, ⟨hv, by rw [if_neg (by omega)]⟩, ?_⟩
        show m_X8_taxed_j19 rec4 n (f + 1) (nI x) v2 (nI k) (nI v) (nI j) s = m_X8_taxed_j19 rec4 n f (nI x) v2 (nI k) (nI v) (nI (j + 1)) s
        rw [m_X8_taxed_j19, h, if_neg (nI_ge hj (by omega)), zRd_n (by omega) (by decide), zRd_n (by omega) (by decide), j2, k2, if_neg (nI_ge (by omega) (by omega)), zRd_n (by omega) (by decide), j2, if_pos (nI_le h2 (by omega)), zLt_e, nI_s]
      · refine ⟨zNt (s 5 j), ⟨by omega, by rw [if_pos (by omega)]⟩, ?_⟩
        show m_X8_taxed_j19 rec4 n (f + 1) (nI x) v2 (nI k) (nI v) (nI j) s = m_X8_taxed_j19 rec4 n f (nI x) v2 (nI k) (nI (zNt (s 5 j))) (nI (j + 1)) s
        rw [m_X8_taxed_j19, h, if_neg (nI_ge hj (by omega)), zRd_n (by omega) (by decide), zRd_n (by omega) (by decide), k2, if_neg (by rw [j2]; exact nI_ge (by omega) (by omega)), zRd_n (by omega) (by decide), if_neg (by rw [j2]; exact nI_ge (by omega) (by omega)), zRd_n (by omega) (by decide), zLt_e, nI_s, ← j2]) c n 0 1000000000 (by omega) (by omega) ⟨Nat.le_refl _, rfl⟩
  obtain ⟨f1, rfl⟩ : ∃ g, f1 = g + 1 := ⟨f1 - 1, by omega⟩
  refine (show _ = _ from e1).trans ?_
  show m_X8_taxed_j19 rec4 n (f1 + 1) (nI x) v2 (nI k) (nI v) (nI c) s = _
  rw [m_X8_taxed_j19, h, if_pos (nI_le (Nat.le_refl _) (by omega)), ← hI]
  by_cases hvx : v ≤ x
  · rw [if_pos (nI_le hvx (by omega)), Nat.min_eq_right hvx]
  · rw [if_neg (nI_ge (by omega) (by omega)), Nat.min_eq_left (by omega)]
theorem q_taxed {n : Nat} (hn : 100 ≤ n) {s : zS} {c x : Nat} (h : s 0 4 = nI c) (hb : zBb (s 5) (s 6) c) (hx : x ≤ 1000000000) : m_X8_taxed n (nI x) s = some (nI (zTaxL (zLs (s 5) (s 6) c) (zLs (s 5) (s 6) c) x), s) := by
  have hc := hb.1
  obtain ⟨v, f1, hf1, hI, e1⟩ := for_up (fun f k (v : Int32) => m_X8_taxed_j4 n f (nI x) v (nI k) s) (fun k v => v = nI (zTaxL (zLs (s 5) (s 6) c) (zLs (s 5) (s 6) k) x)) c (by
    rintro f k v hk rfl
    refine ⟨_, rfl, ?_⟩
    obtain ⟨⟨k1, k2⟩, k3, k4⟩ := zBb_n hb hk
    show m_X8_taxed_j4 n (f + 1) (nI x) _ (nI k) s = m_X8_taxed_j4 n f (nI x) _ (nI (k + 1)) s
    rw [m_X8_taxed_j4, h, if_neg (nI_ge hk (by omega)), q_above hn _ _ h hb hk hx, zTaxL_s]
    generalize zNx (zLs (s 5) (s 6) c) (zNt (s 5 k)) = u
    have hm : min x u ≤ 1000000000 := by omega
    have fin : ∀ (w : Nat), w ≤ 1000000000 → m_X8_taxed_j115 (m_X8_taxed_j4 n f) n (nI x) (nI (zTaxL (zLs (s 5) (s 6) c) (zLs (s 5) (s 6) k) x)) (nI k) (Int32.toInt64 (nI w)) s = m_X8_taxed_j4 n f (nI x) (nI (zTaxL (zLs (s 5) (s 6) c) (zLs (s 5) (s 6) k) x + w * zNt (s 6 k) / 1000)) (nI (k + 1)) s := by
      intro w hw
      unfold m_X8_taxed_j115
      rw [zRd_n (by omega) (by decide), zLt_e, zLt_e, nI_s, k4]
      have := n_thou hw k3
      unfold zThou at this
      rw [this, nI_add, ← k4]
    unfold m_X8_taxed_j88
    rw [zRd_n (by omega) (by decide), k2]
    unfold zTn
    by_cases hle : min x u ≤ zNt (s 5 k)
    · rw [if_pos (nI_le hle (by omega)), show (0 : Int64) = Int32.toInt64 (nI 0) from by decide, fin 0 (by omega), zN_n (by omega), show min x u - zNt (s 5 k) = 0 by omega]
    · rw [if_neg (nI_ge (by omega) (by omega)), zRd_n (by omega) (by decide), k2, n_subN (by omega), fin _ (by omega)]; simp only [zN_n (show zNt (s 5 k) < 2147483648 by omega)]) c n 0 0 (by omega) (by omega) rfl
  obtain ⟨f1, rfl⟩ : ∃ g, f1 = g + 1 := ⟨f1 - 1, by omega⟩
  unfold m_X8_taxed
  refine (show _ = _ from e1).trans ?_
  show m_X8_taxed_j4 n (f1 + 1) (nI x) v (nI c) s = _
  rw [m_X8_taxed_j4, h, if_pos (nI_le (Nat.le_refl _) (by omega)), hI]; rfl
def zSo2 (A : Nat → Int32) (c : Nat) : Prop := ∀ i j, i < j → j < c → zNt (A i) < zNt (A j)
theorem zNx_sorted {A B : Nat → Int32} {c p : Nat} (hs : zSo2 A c) (hb : zBb A B c) (hp : p < c) : zNx (zLs A B c) (zNt (A p)) = if p + 1 < c then zNt (A (p + 1)) else 1000000000 := by
  have key : ∀ j, j ≤ c → zNx (zLs A B j) (zNt (A p)) = if p + 1 < j then zNt (A (p + 1)) else 1000000000 := by
    intro j
    induction j with
    | zero => intro _; rfl
    | succ j ih =>
      intro hj
      have ih := ih (by omega)
      unfold zNx at ih ⊢
      rw [zLs_s, List.foldl_append, ih]
      show (if zNt (A p) < zNt (A j) ∧ zNt (A j) < (if p + 1 < j then zNt (A (p + 1)) else 1000000000) then zNt (A j) else (if p + 1 < j then zNt (A (p + 1)) else 1000000000)) = _
      have hbj := (zBb_n hb (show j < c by omega)).1.1
      rcases Nat.lt_trichotomy j (p + 1) with h | h | h
      · have : ¬ zNt (A p) < zNt (A j) := by
          by_cases e : j = p
          · rw [e]; omega
          · have := hs j p (by omega) (by omega); omega
        rw [if_neg (fun q => this q.1), if_neg (by omega), if_neg (by omega)]
      · subst h
        have := hs p (p + 1) (by omega) (by omega)
        rw [if_neg (show ¬ p + 1 < p + 1 by omega), if_pos ⟨this, by omega⟩, if_pos (by omega)]
      · have := hs (p + 1) j h (by omega)
        rw [if_pos (show p + 1 < j by omega), if_neg (fun q => by omega), if_pos (by omega)]
  exact key c (Nat.le_refl _)
theorem p_tax {n : Nat} (hn : 100 ≤ n) {s : zS} {c x : Nat} (h : s 10 2 = nI c) (hb : zBb (s 11) (s 12) c) (hs : zSo2 (s 11) c) (hx : x ≤ 1000000000) : m_X1_tax n (nI x) s = some (nI (zTaxL (zLs (s 11) (s 12) c) (zLs (s 11) (s 12) c) x), s) := by
  have hc := hb.1
  obtain ⟨v, f1, hf1, hI, e1⟩ := for_up (fun f k (v : Int32) => m_X1_tax_j4 n f (nI x) v (nI k) s) (fun k v => v = nI (zTaxL (zLs (s 11) (s 12) c) (zLs (s 11) (s 12) k) x)) c (by
    rintro f k v hk rfl
    refine ⟨_, rfl, ?_⟩
    obtain ⟨⟨k1, k2⟩, k3, k4⟩ := zBb_n hb hk
    show m_X1_tax_j4 n (f + 1) (nI x) _ (nI k) s = m_X1_tax_j4 n f (nI x) _ (nI (k + 1)) s
    have fin : ∀ (w : Nat), w ≤ 1000000000 → m_X1_tax_j40 (m_X1_tax_j4 n f) n (nI x) (nI (zTaxL (zLs (s 11) (s 12) c) (zLs (s 11) (s 12) k) x)) (nI k) (nI w) s = m_X1_tax_j4 n f (nI x) (nI (zTaxL (zLs (s 11) (s 12) c) (zLs (s 11) (s 12) k) x + (w - zNt (s 11 k)) * zNt (s 12 k) / 1000)) (nI (k + 1)) s := by
      intro w hw
      unfold m_X1_tax_j40
      have hd : (if nI w - s 11 k < (0 : Int32) then (0 : Int32) else nI w - s 11 k) = nI (w - zNt (s 11 k)) := by
        rw [k2]
        by_cases hlt : w < zNt (s 11 k)
        · rw [if_pos ((n_neg hw (by omega)).mpr hlt), zN_n (by omega), show w - zNt (s 11 k) = 0 by omega]; rfl
        · rw [if_neg (fun q => hlt ((n_neg hw (by omega)).mp q)), n_subN (by omega), zN_n (by omega)]
      rw [p_at (by decide), zBd_e, a5 (by omega), zLt_e, hd, p_at (by decide), zBd_e, a5 (by omega)]
      have et : m_X7_thousandths n (nI (w - zNt (s 11 k))) (s 12 k) s = some (zThou (nI (w - zNt (s 11 k))) (s 12 k), s) := rfl
      rw [et, zBd_e, zLt_e, zLt_e, nI_s, k4, n_thou (by omega) k3, nI_add, ← k4]
    rw [m_X1_tax_j4, h, if_neg (nI_ge hk (by omega)), nI_s, zTaxL_s, zNx_sorted hs hb hk]
    unfold zTn
    by_cases hl : k + 1 < c
    · obtain ⟨⟨l1, l2⟩, _⟩ := zBb_n hb hl
      rw [if_neg (nI_ge hl (by omega)), p_at (by decide), zBd_e, a5 (by omega), l2, n_min (by omega) (by omega), fin _ (by omega), if_pos hl, ← l2]
    · rw [if_pos (nI_le (by omega) (by omega)), fin x hx, if_neg hl, Nat.min_eq_left hx]) c n 0 0 (by omega) (by omega) rfl
  obtain ⟨f1, rfl⟩ : ∃ g, f1 = g + 1 := ⟨f1 - 1, by omega⟩
  unfold m_X1_tax
  refine (show _ = _ from e1).trans ?_
  show m_X1_tax_j4 n (f1 + 1) (nI x) v (nI c) s = _
  rw [m_X1_tax_j4, h, if_pos (nI_le (Nat.le_refl _) (by omega)), hI]; rfl
theorem tax_le {A B : Nat → Int32} {c x : Nat} (hs : zSo2 A c) (hb : zBb A B c) : zTaxL (zLs A B c) (zLs A B c) x ≤ x := by
  have key : ∀ k, k ≤ c → zTaxL (zLs A B c) (zLs A B k) x ≤ if k < c then min x (zNt (A k)) else x := by
    intro k
    induction k with
    | zero => intro _; show 0 ≤ _; omega
    | succ k ih =>
      intro hk
      have ih := ih (by omega)
      rw [if_pos (by omega)] at ih
      rw [zTaxL_s, zNx_sorted hs hb (by omega)]
      have hle := zTn_le (x := x) (u := if k + 1 < c then zNt (A (k + 1)) else 1000000000) (t := zNt (A k)) (zBb_n hb (show k < c by omega)).2.1
      by_cases hl : k + 1 < c
      · rw [if_pos hl] at hle ⊢
        rw [if_pos hl]
        have := hs k (k + 1) (by omega) hl
        omega
      · rw [if_neg hl] at hle ⊢
        rw [if_neg hl]
        omega
  have := key c (Nat.le_refl _)
  rw [if_neg (by omega)] at this
  exact this
end PBr
