section PWy
/-! explanations -/
def wAdd (l : List Nat) (k : Nat) : List Nat := if k ∈ l then l else l ++ [k]
def wOk (l : List Nat) : Prop := l.Nodup ∧ ∀ k, k ∈ l → k < 16
theorem wOk_len {l : List Nat} (h : wOk l) : l.length ≤ 16 := by
  have := h.1.length_le_of_subset (l₂ := List.range 16) (fun k hk => List.mem_range.mpr (h.2 k hk))
  rw [List.length_range] at this
  exact this
theorem wOk_new {l : List Nat} {a : Nat} (h : wOk l) (ha : a < 16) (hn : ¬ a ∈ l) : wOk (l ++ [a]) := by
  refine ⟨List.nodup_append.mpr ⟨h.1, List.nodup_cons.mpr ⟨List.not_mem_nil, List.nodup_nil⟩, fun x hx y hy e => ?_⟩, fun k hk => ?_⟩
  · rw [List.mem_singleton.mp hy] at e
    exact hn (e ▸ hx)
  · rcases List.mem_append.mp hk with q | q
    · exact h.2 k q
    · rw [List.mem_singleton.mp q]; exact ha
theorem wOk_add {l : List Nat} {a : Nat} (h : wOk l) (ha : a < 16) : wOk (wAdd l a) := by
  unfold wAdd
  split
  · exact h
  · exact wOk_new h ha (by assumption)
def wRs (K F G e : Nat → Int32) (l : List Nat) (k : Nat) : List Nat :=
  if K k = 1 ∨ K k = 2 then wAdd (wAdd l (zNt (F k))) (zNt (G k))
  else if K k = 3 ∨ K k = 6 ∨ K k = 7 then wAdd l (zNt (F k))
  else if K k = 4 ∨ K k = 5 ∨ K k = 8 then (if e (zNt (F k)) = e k then wAdd l (zNt (F k)) else wAdd l (zNt (G k)))
  else l
theorem wRs_two {K F G e : Nat → Int32} {l : List Nat} {k : Nat} (h : K k = 1 ∨ K k = 2) : wRs K F G e l k = wAdd (wAdd l (zNt (F k))) (zNt (G k)) := by
  unfold wRs
  rw [if_pos h]
theorem wRs_one {K F G e : Nat → Int32} {l : List Nat} {k : Nat} (h : K k = 3 ∨ K k = 6 ∨ K k = 7) : wRs K F G e l k = wAdd l (zNt (F k)) := by
  unfold wRs
  rw [if_neg (by rcases h with q | q | q <;> rw [q] <;> decide), if_pos h]
theorem wRs_ch {K F G e : Nat → Int32} {l : List Nat} {k : Nat} (h : K k = 4 ∨ K k = 5 ∨ K k = 8) : wRs K F G e l k = (if e (zNt (F k)) = e k then wAdd l (zNt (F k)) else wAdd l (zNt (G k))) := by
  unfold wRs
  rw [if_neg (by rcases h with q | q | q <;> rw [q] <;> decide), if_neg (by rcases h with q | q | q <;> rw [q] <;> decide), if_pos h]
theorem wRs_0 {K F G e : Nat → Int32} {l : List Nat} {k : Nat} (h : K k = 0) : wRs K F G e l k = l := by
  unfold wRs
  rw [if_neg (by rw [h]; decide), if_neg (by rw [h]; decide), if_neg (by rw [h]; decide)]
theorem wRs_ok {K F G e : Nat → Int32} (hw : zWf K F G) {l : List Nat} {k : Nat} (hk : k < 16) (h : wOk l) : wOk (wRs K F G e l k) := by
  rcases zK_cases hw hk with c | c | c | c | c | c | c | c | c
  · rw [wRs_0 c]; exact h
  · rw [wRs_two (Or.inl c)]; exact wOk_add (wOk_add h (zWf_f hw hk (by rw [c]; decide)).1) (zWf_g hw hk (by rw [c]; decide)).1
  · rw [wRs_two (Or.inr c)]; exact wOk_add (wOk_add h (zWf_f hw hk (by rw [c]; decide)).1) (zWf_g hw hk (by rw [c]; decide)).1
  · rw [wRs_one (Or.inl c)]; exact wOk_add h (zWf_f hw hk (by rw [c]; decide)).1
  · rw [wRs_ch (Or.inl c)]; split
    · exact wOk_add h (zWf_f hw hk (by rw [c]; decide)).1
    · exact wOk_add h (zWf_g hw hk (by rw [c]; decide)).1
  · rw [wRs_ch (Or.inr (Or.inl c))]; split
    · exact wOk_add h (zWf_f hw hk (by rw [c]; decide)).1
    · exact wOk_add h (zWf_g hw hk (by rw [c]; decide)).1
  · rw [wRs_one (Or.inr (Or.inl c))]; exact wOk_add h (zWf_f hw hk (by rw [c]; decide)).1
  · rw [wRs_one (Or.inr (Or.inr c))]; exact wOk_add h (zWf_f hw hk (by rw [c]; decide)).1
  · rw [wRs_ch (Or.inr (Or.inr c))]; split
    · exact wOk_add h (zWf_f hw hk (by rw [c]; decide)).1
    · exact wOk_add h (zWf_g hw hk (by rw [c]; decide)).1
def wLp (K F G e : Nat → Int32) : Nat → Nat → List Nat → List Nat
  | 0, _, l => l
  | f + 1, p, l => if p < l.length then wLp K F G e f (p + 1) (wRs K F G e l (l.getD p 0)) else l
theorem wGet {l : List Nat} {p : Nat} (h : wOk l) (hp : p < l.length) : l.getD p 0 < 16 := by
  rw [List.getD_eq_getElem?_getD, List.getElem?_eq_getElem hp]
  exact h.2 _ (List.getElem_mem hp)
def wAns (l : List Nat) (v : Int32) : Int32 := if nI l.length ≤ v then -1 else nI (l.getD v.toNatClampNeg 0)
/-- a row, and which lines are in it -/
def wRow (l : List Nat) (r : Nat → Int32) (v : Int32) : Prop := (∀ p, p < l.length → r p = nI (l.getD p 0)) ∧ ∀ j, j < 32 → bt v j = decide (j ∈ l)
theorem wRow_new {l : List Nat} {r : Nat → Int32} {v : Int32} {a : Nat} (h : wRow l r v) (ha : a < 16) : wRow (l ++ [a]) (upd r l.length (nI a)) (v ||| zBit (nI a)) := by
  refine ⟨fun p hp => ?_, fun j hj => ?_⟩
  · rw [List.length_append] at hp
    have hp' : p < l.length + 1 := hp
    by_cases q : p = l.length
    · rw [q, upd_s, List.getD_eq_getElem?_getD, List.getElem?_append_right (Nat.le_refl _), Nat.sub_self]; rfl
    · rw [upd_n q, h.1 p (by omega), List.getD_eq_getElem?_getD, List.getD_eq_getElem?_getD, List.getElem?_append_left (by omega)]
  · rw [b_or, h.2 j hj, bt_bit (by omega) hj]
    by_cases q1 : j ∈ l
    · rw [decide_eq_true q1, decide_eq_true (List.mem_append.mpr (Or.inl q1))]; rfl
    · by_cases q2 : j = a
      · rw [decide_eq_true q2, decide_eq_true (List.mem_append.mpr (Or.inr (List.mem_singleton.mpr q2)))]; simp
      · rw [decide_eq_false q1, decide_eq_false q2, decide_eq_false (fun q => by
          rcases List.mem_append.mp q with q | q
          · exact q1 q
          · exact q2 (List.mem_singleton.mp q))]; rfl
/-- the class's row -/
def xSt (s : zS) (l : List Nat) (s' : zS) : Prop := (∀ c, c ≠ 25 → c ≠ 26 → s' c = s c) ∧ s' 25 1 = nI l.length ∧ wRow l (s' 26) (s' 25 2) ∧ wOk l
theorem p_wadd {n a : Nat} {s s' : zS} {l : List Nat} (h : xSt s l s') (ha : a < 16) : ∃ s'', m_X3_add n (nI a) s' = some (0, s'') ∧ xSt s (wAdd l a) s'' := by
  obtain ⟨h1, h2, h3, h4⟩ := h
  unfold m_X3_add wAdd
  rw [p_has, zBd_e, has_n (by omega), h3.2 a (by omega)]
  by_cases q : a ∈ l
  · rw [if_pos (decide_eq_true q), if_neg (by decide), if_pos q]
    exact ⟨s', rfl, h1, h2, h3, h4⟩
  · have hk := wOk_new h4 ha q
    have hlen := wOk_len hk
    rw [List.length_append] at hlen
    have hlen' : l.length + 1 ≤ 16 := hlen
    rw [if_neg (fun e => q (of_decide_eq_true e)), if_pos rfl, if_neg q, h2, p_put (by omega) (by decide), zBd_e, zLt_e, zU_ne (a := 25) (k := 26) (by decide), h2, nI_s, p_bit, zBd_e, zLt_e]
    refine ⟨_, rfl, fun c c1 c2 => ?_, ?_, ?_, hk⟩
    · rw [zU_ne c1, zU_ne c1, zU_ne c2]; exact h1 c c1 c2
    · rw [zU_nj (by decide), zU_eq, List.length_append]; rfl
    · rw [zU_ne (a := 26) (by decide), zU_ne (a := 26) (by decide), zU_k, zU_eq, zU_nj (by decide), zU_ne (by decide)]
      exact wRow_new h3 ha
theorem p_reasons {n k : Nat} {s s' : zS} {l : List Nat} {e : Nat → Int32} (hw : zWf (s 2) (s 3) (s 4)) (he : ∀ k, k < 16 → s 22 k = e k) (h : xSt s l s') (hk : k < 16) : ∃ s'', m_X3_addReasons n (nI k) s' = some (0, s'') ∧ xSt s (wRs (s 2) (s 3) (s 4) e l k) s'' := by
  have r2 : ∀ {u : zS} {l}, xSt s l u → zAt u 2 16 (nI k) = s 2 k := fun {u l} hu => by rw [a16 hk, hu.1 2 (by decide) (by decide)]
  have r3 : ∀ {u : zS} {l}, xSt s l u → zAt u 3 16 (nI k) = s 3 k := fun {u l} hu => by rw [a16 hk, hu.1 3 (by decide) (by decide)]
  have r4 : ∀ {u : zS} {l}, xSt s l u → zAt u 4 16 (nI k) = s 4 k := fun {u l} hu => by rw [a16 hk, hu.1 4 (by decide) (by decide)]
  have r22 : ∀ {u : zS} {l} {j}, xSt s l u → j < 16 → zAt u 22 16 (nI j) = e j := fun {u l j} hu hj => by rw [a16 hj, hu.1 22 (by decide) (by decide), he j hj]
  unfold m_X3_addReasons
  rw [p_first, zBd_e, p_kind, zBd_e, r2 h, r3 h]
  have two : (s 2 k = 1 ∨ s 2 k = 2) → ∃ s'', (zBd (m_X3_add n (s 3 k) s') fun x6 s7 => zBd (m_X5_second n (nI k) s7) fun x8 s9 => zBd (m_X3_add n x8 s9) fun x10 s11 => zRt 0 s11) = some (0, s'') ∧ xSt s (wRs (s 2) (s 3) (s 4) e l k) s'' := by
    intro c
    obtain ⟨f1, f2⟩ := zWf_f hw hk (by rcases c with c | c <;> rw [c] <;> decide)
    obtain ⟨g1, g2⟩ := zWf_g hw hk (by rcases c with c | c <;> rw [c] <;> decide)
    rw [wRs_two c, f2]
    obtain ⟨u, u1, u2⟩ := p_wadd (n := n) h f1
    obtain ⟨t, t1, t2⟩ := p_wadd (n := n) u2 g1
    rw [u1, zBd_e, p_second, zBd_e, r4 u2, g2, t1, zBd_e, zN_n (by omega), zN_n (by omega)]
    exact ⟨t, rfl, t2⟩
  have one : (s 2 k = 3 ∨ s 2 k = 6 ∨ s 2 k = 7) → ∃ s'', (zBd (m_X3_add n (s 3 k) s') fun x20 s21 => zRt 0 s21) = some (0, s'') ∧ xSt s (wRs (s 2) (s 3) (s 4) e l k) s'' := by
    intro c
    obtain ⟨f1, f2⟩ := zWf_f hw hk (by rcases c with c | c | c <;> rw [c] <;> decide)
    rw [wRs_one c, f2]
    obtain ⟨u, u1, u2⟩ := p_wadd (n := n) h f1
    rw [u1, zBd_e, zN_n (by omega)]
    exact ⟨u, rfl, u2⟩
  have ch : (s 2 k = 4 ∨ s 2 k = 5 ∨ s 2 k = 8) → ∃ s'', (zBd (m_X6_of n (s 3 k) s') fun x23 s24 => zBd (m_X6_of n (nI k) s24) fun x25 s26 => if x23 = x25 then (zBd (m_X3_add n (s 3 k) s26) fun x32 s33 => zRt 0 s33) else (zBd (m_X5_second n (nI k) s26) fun x28 s29 => zBd (m_X3_add n x28 s29) fun x30 s31 => zRt 0 s31)) = some (0, s'') ∧ xSt s (wRs (s 2) (s 3) (s 4) e l k) s'' := by
    intro c
    obtain ⟨f1, f2⟩ := zWf_f hw hk (by rcases c with c | c | c <;> rw [c] <;> decide)
    obtain ⟨g1, g2⟩ := zWf_g hw hk (by rcases c with c | c | c <;> rw [c] <;> decide)
    rw [wRs_ch c, f2, p_of, zBd_e, p_of, zBd_e, r22 h f1, r22 h hk, zN_n (show zNt (s 3 k) < 2147483648 by omega)]
    by_cases q : e (zNt (s 3 k)) = e k
    · rw [if_pos q, if_pos q]
      obtain ⟨u, u1, u2⟩ := p_wadd (n := n) h f1
      rw [u1, zBd_e]
      exact ⟨u, rfl, u2⟩
    · rw [if_neg q, if_neg q]
      obtain ⟨u, u1, u2⟩ := p_wadd (n := n) h g1
      rw [p_second, zBd_e, r4 h, g2, u1, zBd_e, zN_n (by omega)]
      exact ⟨u, rfl, u2⟩
  rcases zK_cases hw hk with c | c | c | c | c | c | c | c | c
  · rw [c, if_neg (by decide), if_neg (by decide), if_neg (by decide), if_neg (by decide), if_neg (by decide), if_neg (by decide), if_neg (by decide), if_neg (by decide), wRs_0 c]
    exact ⟨s', rfl, h⟩
  · rw [if_pos c]; exact two (Or.inl c)
  · rw [if_neg (by rw [c]; decide), if_pos c]; exact two (Or.inr c)
  · rw [if_neg (by rw [c]; decide), if_neg (by rw [c]; decide), if_pos c]; exact one (Or.inl c)
  · rw [if_neg (by rw [c]; decide), if_neg (by rw [c]; decide), if_neg (by rw [c]; decide), if_pos c]; exact ch (Or.inl c)
  · rw [if_neg (by rw [c]; decide), if_neg (by rw [c]; decide), if_neg (by rw [c]; decide), if_neg (by rw [c]; decide), if_pos c]; exact ch (Or.inr (Or.inl c))
  · rw [if_neg (by rw [c]; decide), if_neg (by rw [c]; decide), if_neg (by rw [c]; decide), if_neg (by rw [c]; decide), if_neg (by rw [c]; decide), if_pos c]; exact one (Or.inr (Or.inl c))
  · rw [if_neg (by rw [c]; decide), if_neg (by rw [c]; decide), if_neg (by rw [c]; decide), if_neg (by rw [c]; decide), if_neg (by rw [c]; decide), if_neg (by rw [c]; decide), if_pos c]; exact one (Or.inr (Or.inr c))
  · rw [if_neg (by rw [c]; decide), if_neg (by rw [c]; decide), if_neg (by rw [c]; decide), if_neg (by rw [c]; decide), if_neg (by rw [c]; decide), if_neg (by rw [c]; decide), if_neg (by rw [c]; decide), if_pos c]; exact ch (Or.inr (Or.inr c))
theorem p_rows {n : Nat} {s : zS} {e : Nat → Int32} (hw : zWf (s 2) (s 3) (s 4)) (he : ∀ k, k < 16 → s 22 k = e k) : ∀ d p f (l : List Nat) (s' : zS), p + d = 16 → d < f → xSt s l s' → ∃ s'', m_X3_explain_j18 n f (nI p) s' = some (0, s'') ∧ xSt s (wLp (s 2) (s 3) (s 4) e d p l) s'' := by
  intro d
  induction d with
  | zero =>
    intro p f l s' hp hf h
    obtain ⟨f, rfl⟩ : ∃ g, f = g + 1 := ⟨f - 1, by omega⟩
    obtain rfl : p = 16 := by omega
    refine ⟨s', ?_, h⟩
    rw [m_X3_explain_j18, if_pos n16e]; rfl
  | succ d ih =>
    intro p f l s' hp hf h
    obtain ⟨f, rfl⟩ : ∃ g, f = g + 1 := ⟨f - 1, by omega⟩
    have hlen := wOk_len h.2.2.2
    rw [m_X3_explain_j18, if_neg (n16 (by omega)), h.2.1]
    unfold wLp
    by_cases q : p < l.length
    · rw [if_neg (nI_ge q (by omega)), if_pos q, p_at (by decide), zBd_e, a16 (by omega), h.2.2.1.1 p q]
      obtain ⟨u, u1, u2⟩ := p_reasons (n := n) hw he h (wGet h.2.2.2 q)
      rw [u1, zBd_e, zLt_e, nI_s]
      exact ih (p + 1) f _ u (by omega) (by omega) u2
    · rw [if_pos (nI_le (by omega) (by omega)), if_neg q]
      exact ⟨s', rfl, h⟩
theorem p_explain {n a : Nat} (hn : 100 ≤ n) {s : zS} {e : Nat → Int32} (hw : zWf (s 2) (s 3) (s 4)) (he : ∀ k, k < 16 → s 22 k = e k) (ha : a < 16) : ∃ s', m_X3_explain n (nI a) s = some (0, s') ∧ (∀ c, c ≠ 25 → c ≠ 26 → s' c = s c) ∧ ∀ v : Int32, ¬ v < 0 → m_X3_lineAt n v s' = some (wAns (wLp (s 2) (s 3) (s 4) e 16 0 [a]) v, s') := by
  have h0 : xSt s [] (zU (zU s 25 1 0) 25 2 0) := ⟨fun c c1 c2 => by rw [zU_ne c1, zU_ne c1], by rw [zU_nj (by decide), zU_eq]; rfl, ⟨fun p hp => absurd hp (Nat.not_lt_zero p), fun j hj => by rw [zU_eq, b_0]; rfl⟩, List.nodup_nil, fun k hk => absurd hk List.not_mem_nil⟩
  obtain ⟨u, u1, u2⟩ := p_wadd (n := n) h0 ha
  obtain ⟨t, t1, t2⟩ := p_rows (n := n) hw he 16 0 n [a] u (by omega) (by omega) u2
  refine ⟨t, ?_, t2.1, fun v hv => ?_⟩
  · unfold m_X3_explain
    rw [zLt_e, zLt_e, u1, zBd_e]
    exact t1
  · have hlen := wOk_len t2.2.2.2
    unfold m_X3_lineAt wAns
    rw [if_neg hv, t2.2.1]
    by_cases q : nI (wLp (s 2) (s 3) (s 4) e 16 0 [a]).length ≤ v
    · rw [if_pos q, if_pos q]; rfl
    · obtain ⟨j, hj, rfl⟩ := vp_of (by omega) hv q
      rw [if_neg q, if_neg q, p_at (by decide), zBd_e, a16 (by omega), t2.2.2.1.1 j hj, nI_cl (by omega)]; rfl
end PWy
