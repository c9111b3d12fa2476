section PWq
/-! the reference's explanation -/
def mSt (m : zS) (l : List Nat) (m' : zS) (v3 v4 : Int32) : Prop := (∀ c, c ≠ 15 → m' c = m c) ∧ v3 = nI l.length ∧ wRow l (m' 15) v4 ∧ wOk l
theorem mSt_new {m m' : zS} {l : List Nat} {v3 v4 : Int32} {a : Nat} (h : mSt m l m' v3 v4) (ha : a < 16) (q : ¬ a ∈ l) : l.length < 16 ∧ mSt m (l ++ [a]) (zU m' 15 l.length (nI a)) (v3 + 1) (v4 ||| ((1 : Int32) <<< (nI a &&& 31))) := by
  obtain ⟨h1, h2, h3, h4⟩ := h
  have hk := wOk_new h4 ha q
  have hlen := wOk_len hk
  rw [List.length_append] at hlen
  have hlen' : l.length + 1 ≤ 16 := hlen
  refine ⟨by omega, fun c hc => by rw [zU_ne hc]; exact h1 c hc, by rw [h2, nI_s, List.length_append]; rfl, ?_, hk⟩
  rw [zU_k]
  exact wRow_new h3 ha
theorem q_sec {n k : Nat} {m m' : zS} {l : List Nat} {v2 v3 v4 v5 : Int32} (rec52 : Int32 → Int32 → Int32 → Int32 → zS → Option (Int32 × zS)) (h : mSt m l m' v3 v4) (hk : k < 16) (hg : zNt (m 3 k) < 16 ∧ m 3 k = nI (zNt (m 3 k))) : ∃ v3' v4' m'', m_X8_why_j220 rec52 n v2 v3 v4 v5 (nI k) 1 m' = rec52 v2 v3' v4' (v5 + 1) m'' ∧ mSt m (wAdd l (zNt (m 3 k))) m'' v3' v4' := by
  obtain ⟨g1, g2⟩ := hg
  unfold m_X8_why_j220 wAdd
  rw [if_neg (by decide), zRd_n hk (by decide), h.1 3 (by decide), g2, zN_n (by omega)]
  by_cases q : zNt (m 3 k) ∈ l
  · rw [if_neg (fun e => (tb_0 (by omega)).mp e (by rw [h.2.2.1.2 _ (by omega)]; exact decide_eq_true q)), if_pos q, zLt_e]
    exact ⟨v3, v4, m', rfl, h⟩
  · obtain ⟨n1, n2⟩ := mSt_new h g1 q
    rw [if_pos ((tb_0 (by omega)).mpr (fun e => q (by rw [h.2.2.1.2 _ (by omega)] at e; exact of_decide_eq_true e))), if_neg q, zRd_n hk (by decide), g2, zN_n (by omega), h.2.1, zWr_n n1 (by decide), zRd_n hk (by decide), zU_ne (a := 3) (by decide), h.1 3 (by decide), g2, zN_n (by omega), zLt_e, zLt_e, zLt_e, ← h.2.1]
    exact ⟨_, _, _, rfl, n2⟩
theorem q_fst {n k : Nat} {m m' : zS} {l : List Nat} {v2 v3 v4 v5 t0 : Int32} (rec52 : Int32 → Int32 → Int32 → Int32 → zS → Option (Int32 × zS)) (h : mSt m l m' v3 v4) (hk : k < 16) (hg : zNt (m 2 k) < 16 ∧ m 2 k = nI (zNt (m 2 k))) : ∃ v3' v4' m'', m_X8_why_j168 rec52 n v2 v3 v4 v5 (nI k) 1 t0 m' = m_X8_why_j220 rec52 n v2 v3' v4' v5 (nI k) t0 m'' ∧ mSt m (wAdd l (zNt (m 2 k))) m'' v3' v4' := by
  obtain ⟨g1, g2⟩ := hg
  unfold m_X8_why_j168 wAdd
  rw [if_neg (by decide), zRd_n hk (by decide), h.1 2 (by decide), g2, zN_n (by omega)]
  by_cases q : zNt (m 2 k) ∈ l
  · rw [if_neg (fun e => (tb_0 (by omega)).mp e (by rw [h.2.2.1.2 _ (by omega)]; exact decide_eq_true q)), if_pos q]
    exact ⟨v3, v4, m', rfl, h⟩
  · obtain ⟨n1, n2⟩ := mSt_new h g1 q
    rw [if_pos ((tb_0 (by omega)).mpr (fun e => q (by rw [h.2.2.1.2 _ (by omega)] at e; exact of_decide_eq_true e))), if_neg q, zRd_n hk (by decide), g2, zN_n (by omega), h.2.1, zWr_n n1 (by decide), zRd_n hk (by decide), zU_ne (a := 2) (by decide), h.1 2 (by decide), g2, zN_n (by omega), zLt_e, zLt_e, ← h.2.1]
    exact ⟨_, _, _, rfl, n2⟩
theorem q_step {n f p : Nat} {m m' : zS} {l : List Nat} {v2 v3 v4 : Int32} {e : Nat → Int32} (hw : zWf (m 1) (m 2) (m 3)) (he : ∀ k, k < 16 → m 11 k = e k) (h : mSt m l m' v3 v4) (hp : p < l.length) : ∃ v3' v4' m'', m_X8_why_j52 n (f + 1) v2 v3 v4 (nI p) m' = m_X8_why_j52 n f v2 v3' v4' (nI (p + 1)) m'' ∧ mSt m (wRs (m 1) (m 2) (m 3) e l (l.getD p 0)) m'' v3' v4' := by
  have hlen := wOk_len h.2.2.2
  have hk := wGet h.2.2.2 hp
  rw [m_X8_why_j52, h.2.1, if_neg (nI_ge hp (by omega)), ← h.2.1, zRd_n (by omega) (by decide), h.2.2.1.1 p hp, zRd_n hk (by decide), h.1 1 (by decide)]
  generalize l.getD p 0 = k at hk ⊢
  have two : (m 1 k = 1 ∨ m 1 k = 2) → ∃ v3' v4' m'', m_X8_why_j168 (m_X8_why_j52 n f) n v2 v3 v4 (nI p) (nI k) 1 1 m' = m_X8_why_j52 n f v2 v3' v4' (nI (p + 1)) m'' ∧ mSt m (wRs (m 1) (m 2) (m 3) e l k) m'' v3' v4' := by
    intro c
    obtain ⟨a1, a2, a3, a4, a5⟩ := q_fst (n := n) (v2 := v2) (v5 := nI p) (t0 := 1) (m_X8_why_j52 n f) h hk (zWf_f hw hk (by rcases c with c | c <;> rw [c] <;> decide))
    obtain ⟨b1, b2, b3, b4, b5⟩ := q_sec (n := n) (v2 := v2) (v5 := nI p) (m_X8_why_j52 n f) a5 hk (zWf_g hw hk (by rcases c with c | c <;> rw [c] <;> decide))
    rw [wRs_two c, a4, b4, nI_s]
    exact ⟨b1, b2, b3, rfl, b5⟩
  have one : ∀ L, L = wAdd l (zNt (m 2 k)) → ¬ m 1 k = 0 → ∃ v3' v4' m'', m_X8_why_j168 (m_X8_why_j52 n f) n v2 v3 v4 (nI p) (nI k) 1 0 m' = m_X8_why_j52 n f v2 v3' v4' (nI (p + 1)) m'' ∧ mSt m L m'' v3' v4' := by
    rintro L rfl c
    obtain ⟨a1, a2, a3, a4, a5⟩ := q_fst (n := n) (v2 := v2) (v5 := nI p) (t0 := 0) (m_X8_why_j52 n f) h hk (zWf_f hw hk c)
    rw [a4]
    unfold m_X8_why_j220
    rw [if_pos rfl, zLt_e, nI_s]
    exact ⟨a1, a2, a3, rfl, a5⟩
  have ch : (m 1 k = 4 ∨ m 1 k = 5 ∨ m 1 k = 8) → ∃ v3' v4' m'', m_X8_why_j100 (m_X8_why_j52 n f) n v2 v3 v4 (nI p) (nI k) (m 1 k) 1 m' = m_X8_why_j52 n f v2 v3' v4' (nI (p + 1)) m'' ∧ mSt m (wRs (m 1) (m 2) (m 3) e l k) m'' v3' v4' := by
    intro c
    have c0 : ¬ m 1 k = 0 := by rcases c with c | c | c <;> rw [c] <;> decide
    have c1 : ¬ m 1 k = 1 := by rcases c with c | c | c <;> rw [c] <;> decide
    have c2 : ¬ m 1 k = 2 := by rcases c with c | c | c <;> rw [c] <;> decide
    obtain ⟨f1, f2⟩ := zWf_f hw hk c0
    have eq1 : m' 11 (zNt (m 2 k)) = e (zNt (m 2 k)) := by rw [h.1 11 (by decide), he _ f1]
    have eq2 : m' 11 k = e k := by rw [h.1 11 (by decide), he _ hk]
    unfold m_X8_why_j100
    rw [if_neg c0, if_neg (by decide), zRd_n hk (by decide), h.1 2 (by decide), f2, zRd_n (by omega) (by decide), zRd_n (by omega) (by decide), eq1, eq2, wRs_ch c]
    unfold m_X8_why_j139
    by_cases q : e (zNt (m 2 k)) = e k
    · rw [if_pos q, if_pos q, if_neg c1, if_neg c2, if_neg (by decide), if_neg (by decide)]
      exact one _ rfl c0
    · rw [if_neg q, if_neg q, if_neg c1, if_neg c2, if_neg (by decide), if_pos rfl]
      obtain ⟨b1, b2, b3, b4, b5⟩ := q_sec (n := n) (v2 := v2) (v5 := nI p) (m_X8_why_j52 n f) h hk (zWf_g hw hk (by rcases c with c | c | c <;> rw [c] <;> decide))
      unfold m_X8_why_j168
      rw [if_pos rfl, b4, nI_s]
      exact ⟨b1, b2, b3, rfl, b5⟩
  have pl : ¬ m 1 k = 4 → ¬ m 1 k = 5 → ¬ m 1 k = 8 → ∀ x, (if m 1 k = 4 then (m_X8_why_j100 (m_X8_why_j52 n f) n v2 v3 v4 (nI p) (nI k) (m 1 k) (1 : Int32) m') else (if m 1 k = 5 then (m_X8_why_j100 (m_X8_why_j52 n f) n v2 v3 v4 (nI p) (nI k) (m 1 k) (1 : Int32) m') else (if m 1 k = 8 then (m_X8_why_j100 (m_X8_why_j52 n f) n v2 v3 v4 (nI p) (nI k) (m 1 k) (1 : Int32) m') else (m_X8_why_j100 (m_X8_why_j52 n f) n v2 v3 v4 (nI p) (nI k) (m 1 k) (0 : Int32) m')))) = x ↔ (if m 1 k = 0 then (m_X8_why_j139 (m_X8_why_j52 n f) n v2 v3 v4 (nI p) (nI k) (m 1 k) 0 0 m') else (m_X8_why_j139 (m_X8_why_j52 n f) n v2 v3 v4 (nI p) (nI k) (m 1 k) 0 1 m')) = x := by
    intro h4 h5 h8 x
    rw [if_neg h4, if_neg h5, if_neg h8]
    unfold m_X8_why_j100
    rw [if_pos (show (0 : Int32) = 0 from rfl)]
  rcases zK_cases hw hk with c | c | c | c | c | c | c | c | c
  · simp only [pl (by rw [c]; decide) (by rw [c]; decide) (by rw [c]; decide)]
    rw [if_pos c, wRs_0 c]
    unfold m_X8_why_j139
    rw [if_neg (by rw [c]; decide), if_neg (by rw [c]; decide), if_pos rfl]
    unfold m_X8_why_j168
    rw [if_pos rfl]
    unfold m_X8_why_j220
    rw [if_pos rfl, zLt_e, nI_s]
    exact ⟨v3, v4, m', rfl, h⟩
  · simp only [pl (by rw [c]; decide) (by rw [c]; decide) (by rw [c]; decide)]
    rw [if_neg (by rw [c]; decide)]
    unfold m_X8_why_j139
    rw [if_pos c]
    exact two (Or.inl c)
  · simp only [pl (by rw [c]; decide) (by rw [c]; decide) (by rw [c]; decide)]
    rw [if_neg (by rw [c]; decide)]
    unfold m_X8_why_j139
    rw [if_neg (by rw [c]; decide), if_pos c]
    exact two (Or.inr c)
  · simp only [pl (by rw [c]; decide) (by rw [c]; decide) (by rw [c]; decide)]
    rw [if_neg (by rw [c]; decide), wRs_one (Or.inl c)]
    unfold m_X8_why_j139
    rw [if_neg (by rw [c]; decide), if_neg (by rw [c]; decide), if_pos rfl]
    exact one _ rfl (by rw [c]; decide)
  · rw [if_pos c]; exact ch (Or.inl c)
  · rw [if_neg (by rw [c]; decide), if_pos c]; exact ch (Or.inr (Or.inl c))
  · simp only [pl (by rw [c]; decide) (by rw [c]; decide) (by rw [c]; decide)]
    rw [if_neg (by rw [c]; decide), wRs_one (Or.inr (Or.inl c))]
    unfold m_X8_why_j139
    rw [if_neg (by rw [c]; decide), if_neg (by rw [c]; decide), if_pos rfl]
    exact one _ rfl (by rw [c]; decide)
  · simp only [pl (by rw [c]; decide) (by rw [c]; decide) (by rw [c]; decide)]
    rw [if_neg (by rw [c]; decide), wRs_one (Or.inr (Or.inr c))]
    unfold m_X8_why_j139
    rw [if_neg (by rw [c]; decide), if_neg (by rw [c]; decide), if_pos rfl]
    exact one _ rfl (by rw [c]; decide)
  · rw [if_neg (by rw [c]; decide), if_neg (by rw [c]; decide), if_pos c]; exact ch (Or.inr (Or.inr c))
theorem q_rows {n : Nat} {m : zS} {e : Nat → Int32} {v2 : Int32} (hv : ¬ v2 < 0) (hw : zWf (m 1) (m 2) (m 3)) (he : ∀ k, k < 16 → m 11 k = e k) : ∀ d p f (l : List Nat) (m' : zS) (v3 v4 : Int32), p + d = 16 → d < f → mSt m l m' v3 v4 → ∃ m'', m_X8_why_j52 n f v2 v3 v4 (nI p) m' = some (wAns (wLp (m 1) (m 2) (m 3) e d p l) v2, m'') ∧ ∀ c, c ≠ 15 → m'' c = m c := by
  have fin : ∀ p f (l : List Nat) (m' : zS) (v3 v4 : Int32), 0 < f → l.length ≤ p → p ≤ 16 → mSt m l m' v3 v4 → ∃ m'', m_X8_why_j52 n f v2 v3 v4 (nI p) m' = some (wAns l v2, m'') ∧ ∀ c, c ≠ 15 → m'' c = m c := by
    intro p f l m' v3 v4 hf h1 h2 h
    obtain ⟨f, rfl⟩ : ∃ g, f = g + 1 := ⟨f - 1, by omega⟩
    have hlen := wOk_len h.2.2.2
    refine ⟨m', ?_, h.1⟩
    unfold wAns
    rw [m_X8_why_j52, h.2.1, if_pos (nI_le h1 (by omega))]
    by_cases q : nI l.length ≤ v2
    · rw [if_pos q, if_pos q]; rfl
    · obtain ⟨j, hj, rfl⟩ := vp_of (by omega) hv q
      rw [if_neg q, if_neg q, zRd_n (by omega) (by decide), h.2.2.1.1 j hj, nI_cl (by omega)]; rfl
  intro d
  induction d with
  | zero =>
    intro p f l m' v3 v4 hp hf h
    have hlen := wOk_len h.2.2.2
    exact fin p f l m' v3 v4 (by omega) (by omega) (by omega) h
  | succ d ih =>
    intro p f l m' v3 v4 hp hf h
    obtain ⟨f, rfl⟩ : ∃ g, f = g + 1 := ⟨f - 1, by omega⟩
    unfold wLp
    by_cases q : p < l.length
    · rw [if_pos q]
      obtain ⟨a1, a2, a3, a4, a5⟩ := q_step (n := n) (f := f) (v2 := v2) hw he h q
      rw [a4]
      exact ih (p + 1) f _ a3 a1 a2 (by omega) (by omega) a5
    · rw [if_neg q]
      exact fin p (f + 1) l m' v3 v4 (by omega) (by omega) (by omega) h
theorem q_explain {n a : Nat} (hn : 100 ≤ n) {m : zS} {e : Nat → Int32} {v2 : Int32} (hv : ¬ v2 < 0) (hw : zWf (m 1) (m 2) (m 3)) (he : ∀ k, k < 16 → m 11 k = e k) (ha : a < 16) : ∃ m', m_X8_why_j52 n n v2 1 ((1 : Int32) <<< (nI a &&& 31)) 0 (zU m 15 0 (nI a)) = some (wAns (wLp (m 1) (m 2) (m 3) e 16 0 [a]) v2, m') ∧ ∀ c, c ≠ 15 → m' c = m c := by
  have h0 : mSt m [] m 0 0 := ⟨fun c _ => rfl, rfl, ⟨fun p hp => absurd hp (Nat.not_lt_zero p), fun j hj => by rw [b_0]; rfl⟩, List.nodup_nil, fun k hk => absurd hk List.not_mem_nil⟩
  have h1 := (mSt_new h0 ha List.not_mem_nil).2
  rw [zero_or] at h1
  exact q_rows (n := n) hv hw he 16 0 n [a] _ _ _ (by omega) (by omega) h1
end PWq
