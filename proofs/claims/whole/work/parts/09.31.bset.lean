section PBs
/-! a bracket is set -/
theorem p_isAt {n c p t : Nat} {s : zS} (h : s 10 2 = nI c) (hb : zBb (s 11) (s 12) c) (hp : p ≤ c) (ht : t ≤ 1000000) : m_X1_isAt n (nI p) (nI t) s = some (if p < c ∧ zNt (s 11 p) = t then 1 else 0, s) := by
  have hc := hb.1
  unfold m_X1_isAt
  rw [h]
  by_cases q : p < c
  · obtain ⟨⟨k1, k2⟩, _⟩ := zBb_n hb q
    rw [if_neg (nI_ge q (by omega)), p_at (by decide), zBd_e, a5 (by omega)]
    generalize zNt (s 11 p) = u at k1 k2 ⊢
    rw [k2]
    by_cases e : u = t
    · rw [if_pos (by rw [e]), if_pos ⟨q, e⟩]; rfl
    · rw [if_neg (fun x => e ((eq_n (by omega) (by omega)).mp x)), if_neg (fun x => e x.2)]; rfl
  · rw [if_pos (nI_le (by omega) (by omega)), if_neg (fun x => q x.1)]; rfl
theorem p_placeFor {n c t : Nat} (hn : 100 ≤ n) {s : zS} (h : s 10 2 = nI c) (hb : zBb (s 11) (s 12) c) (ht : t ≤ 1000000) : ∃ p, p ≤ c ∧ m_X1_placeFor n (nI t) s = some (nI p, s) ∧ (∀ i, i < p → zNt (s 11 i) < t) ∧ (p < c → t ≤ zNt (s 11 p)) := by
  have hc := hb.1
  have key : ∀ d i f, i + d = c → d < f → (∀ j, j < i → zNt (s 11 j) < t) → ∃ p, p ≤ c ∧ m_X1_placeFor_j2 n f (nI t) (nI i) s = some (nI p, s) ∧ (∀ i, i < p → zNt (s 11 i) < t) ∧ (p < c → t ≤ zNt (s 11 p)) := by
    intro d
    induction d with
    | zero =>
      intro i f hi hf hj
      obtain ⟨f, rfl⟩ : ∃ g, f = g + 1 := ⟨f - 1, by omega⟩
      refine ⟨i, by omega, ?_, hj, fun q => absurd q (by omega)⟩
      rw [m_X1_placeFor_j2, h, if_pos (nI_le (by omega) (by omega))]; rfl
    | succ d ih =>
      intro i f hi hf hj
      obtain ⟨f, rfl⟩ : ∃ g, f = g + 1 := ⟨f - 1, by omega⟩
      obtain ⟨⟨k1, k2⟩, _⟩ := zBb_n hb (show i < c by omega)
      rw [m_X1_placeFor_j2, h, if_neg (nI_ge (by omega) (by omega)), p_at (by decide), zBd_e, a5 (by omega)]
      by_cases q : t ≤ zNt (s 11 i)
      · refine ⟨i, by omega, ?_, hj, fun _ => q⟩
        rw [if_pos (by rw [k2]; exact nI_le q (by omega))]; rfl
      · rw [if_neg (by rw [k2]; exact nI_ge (by omega) (by omega)), zLt_e, nI_s]
        exact ih (i + 1) f (by omega) (by omega) (fun j hj2 => by
          by_cases e : j = i
          · rw [e]; omega
          · exact hj j (by omega))
  exact key c 0 n (by omega) (by omega) (fun j hj => absurd hj (Nat.not_lt_zero j))
/-- places from p on moved by one -/
def sh (p : Nat) : Nat → (Nat → Int32) → (Nat → Int32)
  | 0, A => A
  | d + 1, A => sh p d (upd A (p + d + 1) (A (p + d)))
theorem sh_i {p : Nat} : ∀ d (A : Nat → Int32) i, sh p d A i = if p < i ∧ i ≤ p + d then A (i - 1) else A i := by
  intro d
  induction d with
  | zero => intro A i; rw [if_neg (by omega)]; rfl
  | succ d ih =>
    intro A i
    show sh p d _ i = _
    rw [ih]
    by_cases q1 : p < i ∧ i ≤ p + d
    · rw [if_pos q1, if_pos (by omega), upd_n (by omega)]
    · rw [if_neg q1]
      by_cases q2 : i = p + d + 1
      · rw [q2, upd_s, if_pos (by omega)]; rfl
      · rw [upd_n q2, if_neg (by omega)]
def shN (p : Nat) (t : Int32) (d : Nat) (A : Nat → Int32) : Nat → Int32 := upd (sh p d A) p t
theorem p_shift {n c p t r : Nat} {s : zS} (hc : c < 5) : ∀ d f (s : zS), p + d ≤ c → d < f → s 10 2 = nI c → ∃ s', m_X1_set_j23 n f (nI t) (nI r) (nI p) (nI (p + d) - 1) s = some (0, s') ∧ s' 11 = shN p (nI t) d (s 11) ∧ s' 12 = shN p (nI r) d (s 12) ∧ s' 10 = upd (s 10) 2 (nI (c + 1)) ∧ ∀ k, k ≠ 10 → k ≠ 11 → k ≠ 12 → s' k = s k := by
  intro d
  induction d with
  | zero =>
    intro f s hp hf h
    obtain ⟨f, rfl⟩ : ∃ g, f = g + 1 := ⟨f - 1, by omega⟩
    refine ⟨zU (zU (zU s 11 p (nI t)) 10 2 (nI (c + 1))) 12 p (nI r), ?_, ?_, ?_, ?_, fun k h1 h2 h3 => ?_⟩
    · have hlt : nI (p + 0) - (1 : Int32) < nI p := by
        rw [Nat.add_zero, Int32.lt_iff_toInt_lt, show (1 : Int32) = nI 1 from rfl, pk_sub_toInt (by omega) (by omega), nI_toInt (by omega)]
        omega
      rw [m_X1_set_j23, if_pos hlt, p_put (by omega) (by decide), zBd_e, zLt_e, zU_ne (a := 10) (k := 11) (by decide), h, nI_s, p_put (by omega) (by decide), zBd_e]; rfl
    · rw [zU_ne (by decide), zU_ne (by decide), zU_k]; rfl
    · rw [zU_k, zU_ne (by decide), zU_ne (by decide)]; rfl
    · rw [zU_ne (by decide), zU_k, zU_ne (by decide)]
    · rw [zU_ne h3, zU_ne h1, zU_ne h2]
  | succ d ih =>
    intro f s hp hf h
    obtain ⟨f, rfl⟩ : ∃ g, f = g + 1 := ⟨f - 1, by omega⟩
    rw [m_X1_set_j23, show nI (p + (d + 1)) - (1 : Int32) = nI (p + d) from nI_pred _, if_neg (nI_nlt (by omega) (by omega)), p_at (by decide), zBd_e, a5 (by omega), nI_s, p_put (by omega) (by decide), zBd_e, p_at (by decide), zBd_e, a5 (by omega), zU_ne (a := 12) (k := 11) (by decide), p_put (by omega) (by decide), zBd_e, zLt_e, ← Int32.sub_eq_add_neg]
    obtain ⟨s', r1, r2, r3, r4, r5⟩ := ih f (zU (zU s 11 (p + d + 1) (s 11 (p + d))) 12 (p + d + 1) (s 12 (p + d))) (by omega) (by omega) (by rw [zU_ne (by decide), zU_ne (by decide)]; exact h)
    rw [zU_ne (a := 11) (k := 12) (by decide), zU_k] at r2
    rw [zU_k, zU_ne (a := 12) (k := 11) (by decide)] at r3
    rw [zU_ne (a := 10) (k := 12) (by decide), zU_ne (a := 10) (k := 11) (by decide)] at r4
    exact ⟨s', r1, r2, r3, r4, fun k h1 h2 h3 => by rw [r5 k h1 h2 h3, zU_ne h3, zU_ne h2]⟩
/-- the lists of brackets -/
theorem zLs_ins {A B : Nat → Int32} {p t r : Nat} (ht : t ≤ 1000000) (hr : r ≤ 1000) : ∀ d, (zLs (shN p (nI t) d A) (shN p (nI r) d B) (p + d + 1)).Perm ((t, r) :: zLs A B (p + d)) := by
  have g : ∀ (C : Nat → Int32) (v : Int32) d i, shN p v d C i = if i < p then C i else if i = p then v else if i ≤ p + d then C (i - 1) else C i := by
    intro C v d i
    unfold shN
    by_cases q : i = p
    · rw [q, upd_s, if_neg (by omega), if_pos rfl]
    · rw [upd_n q, sh_i]
      by_cases q2 : i < p
      · rw [if_neg (by omega), if_pos q2]
      · rw [if_neg q2, if_neg q]
        by_cases q3 : i ≤ p + d
        · rw [if_pos (by omega), if_pos q3]
        · rw [if_neg (by omega), if_neg q3]
  intro d
  induction d with
  | zero =>
    rw [zLs_s, Nat.add_zero, g, g, if_neg (by omega), if_pos rfl, if_neg (by omega), if_pos rfl, zN_n (by omega), zN_n (by omega)]
    rw [zLs_c (A' := A) (B' := B) (fun i hi => by rw [g, g, if_pos hi, if_pos hi]; exact ⟨rfl, rfl⟩)]
    exact List.perm_append_singleton _ _
  | succ d ih =>
    have e1 : zLs (shN p (nI t) (d + 1) A) (shN p (nI r) (d + 1) B) (p + (d + 1) + 1) = zLs (shN p (nI t) d A) (shN p (nI r) d B) (p + d + 1) ++ [(zNt (A (p + d)), zNt (B (p + d)))] := by
      refine (zLs_s (c := p + d + 1)).trans ?_
      rw [g, g, if_neg (by omega), if_neg (by omega), if_pos (by omega), if_neg (by omega), if_neg (by omega), if_pos (by omega)]
      rw [zLs_c (A' := shN p (nI t) d A) (B' := shN p (nI r) d B) (fun i hi => by
        rw [g, g, g, g]
        by_cases q1 : i < p
        · rw [if_pos q1, if_pos q1, if_pos q1, if_pos q1]; exact ⟨rfl, rfl⟩
        · rw [if_neg q1, if_neg q1, if_neg q1, if_neg q1]
          by_cases q2 : i = p
          · rw [if_pos q2, if_pos q2, if_pos q2, if_pos q2]; exact ⟨rfl, rfl⟩
          · rw [if_neg q2, if_neg q2, if_neg q2, if_neg q2, if_pos (by omega), if_pos (by omega), if_pos (by omega), if_pos (by omega)]; exact ⟨rfl, rfl⟩)]
      rfl
    have e2 : zLs A B (p + (d + 1)) = zLs A B (p + d) ++ [(zNt (A (p + d)), zNt (B (p + d)))] := zLs_s (c := p + d)
    rw [e1, e2]
    exact List.Perm.append_right _ ih
theorem shN_i {C : Nat → Int32} {p : Nat} {v : Int32} {d i : Nat} : shN p v d C i = if i < p then C i else if i = p then v else if i ≤ p + d then C (i - 1) else C i := by
  unfold shN
  by_cases q : i = p
  · rw [q, upd_s, if_neg (by omega), if_pos rfl]
  · rw [upd_n q, sh_i]
    by_cases q2 : i < p
    · rw [if_neg (by omega), if_pos q2]
    · rw [if_neg q2, if_neg q]
      by_cases q3 : i ≤ p + d
      · rw [if_pos (by omega), if_pos q3]
      · rw [if_neg (by omega), if_neg q3]
theorem ins_sorted {A B : Nat → Int32} {p c t : Nat} (hs : zSo2 A c) (hp : p ≤ c) (ht : t ≤ 1000000) (h1 : ∀ i, i < p → zNt (A i) < t) (h2 : p < c → t < zNt (A p)) : zSo2 (shN p (nI t) (c - p) A) (c + 1) := by
  have h3 : ∀ i, p ≤ i → i < c → t < zNt (A i) := by
    intro i hi hic
    by_cases q : i = p
    · rw [q]; exact h2 (by omega)
    · have := hs p i (by omega) hic
      have := h2 (by omega)
      omega
  intro i j hij hj
  rw [shN_i, shN_i]
  by_cases q1 : i < p
  · rw [if_pos q1]
    by_cases q2 : j < p
    · rw [if_pos q2]; exact hs i j hij (by omega)
    · rw [if_neg q2]
      by_cases q3 : j = p
      · rw [if_pos q3, zN_n (by omega)]; exact h1 i q1
      · rw [if_neg q3, if_pos (by omega)]; exact hs i (j - 1) (by omega) (by omega)
  · rw [if_neg q1, if_neg (show ¬ j < p by omega), if_neg (show ¬ j = p by omega), if_pos (show j ≤ p + (c - p) by omega)]
    by_cases q3 : i = p
    · rw [if_pos q3, zN_n (by omega)]; exact h3 (j - 1) (by omega) (by omega)
    · rw [if_neg q3, if_pos (by omega)]; exact hs (i - 1) (j - 1) (by omega) (by omega)
theorem ins_bb {A B : Nat → Int32} {p c t r : Nat} (hb : zBb A B c) (hc : c < 5) (hp : p ≤ c) (ht : t ≤ 1000000) (hr : r ≤ 1000) : zBb (shN p (nI t) (c - p) A) (shN p (nI r) (c - p) B) (c + 1) := by
  refine ⟨by omega, fun i hi => ?_⟩
  rw [shN_i, shN_i]
  by_cases q1 : i < p
  · rw [if_pos q1, if_pos q1]; exact hb.2 i (by omega)
  · rw [if_neg q1, if_neg q1]
    by_cases q2 : i = p
    · rw [if_pos q2, if_pos q2]; exact ⟨⟨t, ht, rfl⟩, r, hr, rfl⟩
    · rw [if_neg q2, if_neg q2, if_pos (by omega), if_pos (by omega)]; exact hb.2 (i - 1) (by omega)
theorem zLs_map {A B : Nat → Int32} {a c t r : Nat} (hr : r ≤ 1000) (ha : zNt (A a) = t) (hu : ∀ i, i < c → zNt (A i) = t → i = a) : zLs A (upd B a (nI r)) c = (zLs A B c).map (fun q => if q.1 = t then (t, r) else q) := by
  unfold zLs
  rw [List.map_map]
  refine List.map_congr_left (fun i hi => ?_)
  show (zNt (A i), zNt (upd B a (nI r) i)) = if zNt (A i) = t then (t, r) else (zNt (A i), zNt (B i))
  by_cases q : i = a
  · rw [q, ha, if_pos rfl, upd_s, zN_n (by omega)]
  · rw [if_neg (fun e => q (hu i (List.mem_range.mp hi) e)), upd_n q]
theorem zLs_mem {A B : Nat → Int32} {c t : Nat} : (∃ i, i < c ∧ zNt (A i) = t) ↔ ∃ q, q ∈ zLs A B c ∧ q.1 = t := by
  constructor
  · rintro ⟨i, hi, e⟩
    exact ⟨(zNt (A i), zNt (B i)), List.mem_map.mpr ⟨i, List.mem_range.mpr hi, rfl⟩, e⟩
  · rintro ⟨q, hq, e⟩
    obtain ⟨i, hi, rfl⟩ := List.mem_map.mp hq
    exact ⟨i, List.mem_range.mp hi, e⟩
theorem perm_th {A B A' B' : Nat → Int32} {c t : Nat} (h : (zLs A B c).Perm (zLs A' B' c)) : (∃ i, i < c ∧ zNt (A i) = t) ↔ ∃ i, i < c ∧ zNt (A' i) = t := by
  rw [zLs_mem (B := B), zLs_mem (B := B')]
  exact ⟨fun ⟨q, a, b⟩ => ⟨q, h.mem_iff.mp a, b⟩, fun ⟨q, a, b⟩ => ⟨q, h.mem_iff.mpr a, b⟩⟩
/-- the reference's search -/
theorem q_find {n c t : Nat} (hn : 100 ≤ n) {s : zS} (v2 : Int32) (h : s 0 4 = nI c) (hc : c ≤ 5) : ∃ a, ((a < c ∧ s 5 a = nI t) ∨ (a = c ∧ ∀ k, k < c → ¬ s 5 k = nI t)) ∧ m_X8_bracket_j47 n n (nI t) v2 (nI c) 0 s = if nI a = (5 : Int32) then m_X8_bracket_j91 n (nI t) v2 (nI a) 2 s else m_X8_bracket_j91 n (nI t) v2 (nI a) 0 s := by
  obtain ⟨v, f1, hf1, ⟨a, ea, hI⟩, e1⟩ := for_up (fun f k (v : Int32) => m_X8_bracket_j47 n f (nI t) v2 v (nI k) s) (fun k v => ∃ a, v = nI a ∧ ((a < k ∧ s 5 a = nI t) ∨ (a = c ∧ ∀ j, j < k → ¬ s 5 j = nI t))) c (by
    rintro f k v hk ⟨a, rfl, hI⟩
    by_cases q : s 5 k = nI t
    · refine ⟨nI k, ⟨k, rfl, Or.inl ⟨by omega, q⟩⟩, ?_⟩
      show m_X8_bracket_j47 n (f + 1) (nI t) v2 (nI a) (nI k) s = m_X8_bracket_j47 n f (nI t) v2 (nI k) (nI (k + 1)) s
      rw [m_X8_bracket_j47, h, if_neg (nI_ge hk (by omega)), zRd_n (by omega) (by decide), if_pos q, zLt_e, nI_s]
    · refine ⟨nI a, ⟨a, rfl, ?_⟩, ?_⟩
      · rcases hI with ⟨i1, i2⟩ | ⟨i1, i2⟩
        · exact Or.inl ⟨by omega, i2⟩
        · refine Or.inr ⟨i1, fun j hj => ?_⟩
          by_cases e : j = k
          · rw [e]; exact q
          · exact i2 j (by omega)
      · show m_X8_bracket_j47 n (f + 1) (nI t) v2 (nI a) (nI k) s = m_X8_bracket_j47 n f (nI t) v2 (nI a) (nI (k + 1)) s
        rw [m_X8_bracket_j47, h, if_neg (nI_ge hk (by omega)), zRd_n (by omega) (by decide), if_neg q, zLt_e, nI_s]) c n 0 (nI c) (by omega) (by omega) ⟨c, rfl, Or.inr ⟨rfl, fun j hj => absurd hj (Nat.not_lt_zero j)⟩⟩
  obtain ⟨f1, rfl⟩ : ∃ g, f1 = g + 1 := ⟨f1 - 1, by omega⟩
  refine ⟨a, hI, ?_⟩
  refine (show _ = _ from e1).trans ?_
  show m_X8_bracket_j47 n (f1 + 1) (nI t) v2 v (nI c) s = _
  rw [m_X8_bracket_j47, h, if_pos (nI_le (Nat.le_refl _) (by omega)), ea]
end PBs
