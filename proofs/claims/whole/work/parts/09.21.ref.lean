section PRe
/-! the reference works out its values -/
def zVr (n : Nat) (m : zS) (o : Nat → Nat) (tx : Int32 → Int32) (tot : Int32) : Prop := zPn (m 1) (m 2) (m 3) o ∧ (∀ m', m' 0 4 = m 0 4 → m' 5 = m 5 → m' 6 = m 6 → ∀ x, zBn x → m_X8_taxed n x m' = some (tx x, m')) ∧ (∀ m', m' 0 8 = m 0 8 → m' 7 = m 7 → m_X8_all n m' = some (tot, m')) ∧ (∀ x, zBn x → zBn (tx x)) ∧ zBn tot ∧ ∀ k, k < 16 → zBn (m 4 k)
theorem le_lt_min {a b : Nat} (ha : a < 2147483648) (hb : b < 2147483648) : (if nI b ≤ nI a then nI b else nI a) = (if nI b < nI a then nI b else nI a) := by
  rw [n_min ha hb]
  by_cases h : b ≤ a
  · rw [if_pos ((le_n hb ha).mpr h), Nat.min_eq_right h]
  · rw [if_neg (fun q => h ((le_n hb ha).mp q)), Nat.min_eq_left (by omega)]
theorem q_works {n b k : Nat} (hb : b ≤ 16) {m : zS} {o : Nat → Nat} {tx : Int32 → Int32} {tot : Int32} (hV : zVr n m o tx tot) (bd : ∀ i, i < 32 → zBn (m 11 i)) (hk : k < 16) : m_X8_works n (nI k) (nI b) m = some (zPv (m 1) (m 2) (m 3) tx tot (m 4) (fun j => m 11 (b + j)) k, m) := by
  obtain ⟨hP, htx, htot, _, hbt, _⟩ := hV
  have hw := hP.1
  -- the two operands
  have e1 : m_X8_works n (nI k) (nI b) m = m_X8_works_j32 n (nI k) (nI b) (m 1 k) (if m 1 k = 0 then 0 else m 11 (b + zNt (m 2 k))) m := by
    unfold m_X8_works
    rw [zRd_n hk (by decide), q_usesFirst hk, zBd_e]
    by_cases h0 : m 1 k = 0
    · rw [if_pos h0, if_pos rfl, if_pos h0]
    · obtain ⟨f1, f2⟩ := zWf_f hw hk h0
      rw [if_neg h0, if_neg (by decide), zRd_n hk (by decide), f2, nI_add, zRd_n (by omega) (by decide), if_neg h0, ← f2]
  have e2 : ∀ v, m_X8_works_j32 n (nI k) (nI b) (m 1 k) v m = m_X8_works_j59 n (nI k) (m 1 k) v (if zTwo (m 1 k) = true then m 11 (b + zNt (m 3 k)) else 0) m := by
    intro v
    unfold m_X8_works_j32
    rw [q_usesSecond hk, zBd_e]
    by_cases h0 : zTwo (m 1 k) = true
    · obtain ⟨f1, f2⟩ := zWf_g hw hk h0
      rw [if_pos h0, if_neg (by decide), zRd_n hk (by decide), f2, nI_add, zRd_n (by omega) (by decide), if_pos h0, ← f2]
    · rw [if_neg h0, if_pos rfl, if_neg h0]
  rw [e1, e2]
  have bF : m 1 k ≠ 0 → zBn (m 11 (b + zNt (m 2 k))) := fun h => bd _ (by have := (zWf_f hw hk h).1; omega)
  have bG : zTwo (m 1 k) = true → zBn (m 11 (b + zNt (m 3 k))) := fun h => bd _ (by have := (zWf_g hw hk h).1; omega)
  have hX : m 1 k ≠ 0 → (if m 1 k = 0 then (0 : Int32) else m 11 (b + zNt (m 2 k))) = m 11 (b + zNt (m 2 k)) := fun h => if_neg h
  have hY : zTwo (m 1 k) = true → (if zTwo (m 1 k) = true then m 11 (b + zNt (m 3 k)) else (0 : Int32)) = m 11 (b + zNt (m 3 k)) := fun h => if_pos h
  generalize (if m 1 k = 0 then (0 : Int32) else m 11 (b + zNt (m 2 k))) = X at hX ⊢
  generalize (if zTwo (m 1 k) = true then m 11 (b + zNt (m 3 k)) else (0 : Int32)) = Y at hY ⊢
  unfold m_X8_works_j59
  rcases zK_cases hw hk with c | c | c | c | c | c | c | c | c
  · rw [zPv_0 c, if_pos c, zRd_n hk (by decide)]; rfl
  · obtain ⟨x, hx, ex⟩ := bF (by rw [c]; decide)
    obtain ⟨y, hy, ey⟩ := bG (by rw [c]; decide)
    rw [zPv_1 c, hX (by rw [c]; decide), hY (by rw [c]; decide), c, if_neg (by decide), if_pos rfl, ex, ey, nI_add, show (1000000000 : Int32) - nI y = nI (1000000000 - y) from n_subN (a := 1000000000) hy]
    by_cases hc : x + y ≤ 1000000000
    · rw [if_pos ((le_n (by omega) (by omega)).mpr (by omega)), if_neg (fun q => by have := (lt_n (a := 1000000000) (by omega) (by omega)).mp q; omega)]; rfl
    · rw [if_neg (fun q => hc (by have := (le_n (by omega) (by omega)).mp q; omega)), if_pos (show (1000000000 : Int32) < nI (x + y) from (lt_n (a := 1000000000) (by omega) (by omega)).mpr (by omega))]; rfl
  · obtain ⟨x, hx, ex⟩ := bF (by rw [c]; decide)
    obtain ⟨y, hy, ey⟩ := bG (by rw [c]; decide)
    rw [zPv_2 c, hX (by rw [c]; decide), hY (by rw [c]; decide), c, if_neg (by decide), if_neg (by decide), if_pos rfl, ex, ey]
    by_cases hc : x ≤ y
    · rw [if_pos ((le_n (by omega) (by omega)).mpr hc)]
      by_cases h2 : x < y
      · rw [if_pos ((n_neg hx hy).mpr h2)]; rfl
      · rw [if_neg (fun q => h2 ((n_neg hx hy).mp q)), show x = y by omega, Int32.sub_self]; rfl
    · rw [if_neg (fun q => hc ((le_n (by omega) (by omega)).mp q)), if_neg (fun q => hc (by have := (n_neg hx hy).mp q; omega))]; rfl
  · rw [zPv_3 c, hX (by rw [c]; decide), c, if_neg (by decide), if_neg (by decide), if_neg (by decide), if_pos rfl, zRd_n hk (by decide)]; rfl
  · obtain ⟨x, hx, ex⟩ := bF (by rw [c]; decide)
    obtain ⟨y, hy, ey⟩ := bG (by rw [c]; decide)
    rw [zPv_4 c, hX (by rw [c]; decide), hY (by rw [c]; decide), c, if_neg (by decide), if_neg (by decide), if_neg (by decide), if_neg (by decide), if_neg (by decide), if_neg (by decide), if_neg (by decide)]
    unfold m_X8_works_j190
    rw [ex, ey, ← le_lt_min (by omega) (by omega)]
    split <;> rfl
  · obtain ⟨x, hx, ex⟩ := bF (by rw [c]; decide)
    obtain ⟨y, hy, ey⟩ := bG (by rw [c]; decide)
    rw [zPv_5 c, hX (by rw [c]; decide), hY (by rw [c]; decide), c, if_neg (by decide), if_neg (by decide), if_neg (by decide), if_neg (by decide), if_pos rfl, ex, ey, n_max (by omega) (by omega)]
    by_cases hc : x ≤ y
    · rw [if_pos ((le_n (by omega) (by omega)).mpr hc), Nat.max_eq_right hc]; rfl
    · rw [if_neg (fun q => hc ((le_n (by omega) (by omega)).mp q)), Nat.max_eq_left (by omega)]; rfl
  · rw [zPv_6 c, hX (by rw [c]; decide), c, if_neg (by decide), if_neg (by decide), if_neg (by decide), if_neg (by decide), if_neg (by decide), if_pos rfl, htx m rfl rfl rfl _ (bF (by rw [c]; decide)), zBd_e]; rfl
  · obtain ⟨x, hx, ex⟩ := bF (by rw [c]; decide)
    obtain ⟨y, hy, ey⟩ := hbt
    rw [zPv_7 c, hX (by rw [c]; decide), c, if_neg (by decide), if_neg (by decide), if_neg (by decide), if_neg (by decide), if_neg (by decide), if_neg (by decide), if_pos rfl, htot m rfl rfl, zBd_e]
    unfold m_X8_works_j190
    rw [ex, ey, ← le_lt_min (by omega) (by omega)]
    split <;> rfl
  · obtain ⟨x, hx, ex⟩ := bF (by rw [c]; decide)
    obtain ⟨y, hy, ey⟩ := bG (by rw [c]; decide)
    rw [zPv_8 c, hX (by rw [c]; decide), hY (by rw [c]; decide), c, if_neg (by decide), if_neg (by decide), if_neg (by decide), if_neg (by decide), if_neg (by decide), if_neg (by decide), if_neg (by decide)]
    unfold m_X8_works_j190
    rw [ex, ey, ← le_lt_min (by omega) (by omega)]
    split <;> rfl
/-- values and what is known replaced -/
def zS2 (m : zS) (e w : Nat → Int32) : zS := zSt (zSt m 11 e) 12 w
theorem zS2_n {m : zS} {e w : Nat → Int32} {c : Nat} (h1 : c ≠ 11) (h2 : c ≠ 12) : zS2 m e w c = m c := by unfold zS2; rw [zSt_n h2, zSt_n h1]
theorem zS2_v {m : zS} {e w : Nat → Int32} : zS2 m e w 11 = e := by unfold zS2; rw [zSt_n (by decide), zSt_s]
theorem zS2_w {m : zS} {e w : Nat → Int32} : zS2 m e w 12 = w := by unfold zS2; rw [zSt_s]
theorem zS2_i {m : zS} : zS2 m (m 11) (m 12) = m := by unfold zS2; rw [zSt_i, zSt_i]
theorem zS2_uv {m : zS} {e w : Nat → Int32} {j : Nat} {v : Int32} : zU (zS2 m e w) 11 j v = zS2 m (upd e j v) w := by
  funext i
  by_cases h : i = 11
  · subst h; unfold zU; rw [if_pos rfl, zS2_v, zS2_v]
  · rw [zU_ne h]
    by_cases h2 : i = 12
    · subst h2; rw [zS2_w, zS2_w]
    · rw [zS2_n h h2, zS2_n h h2]
theorem zS2_uw {m : zS} {e w : Nat → Int32} {j : Nat} {v : Int32} : zU (zS2 m e w) 12 j v = zS2 m e (upd w j v) := by
  funext i
  by_cases h : i = 12
  · subst h; unfold zU; rw [if_pos rfl, zS2_w, zS2_w]
  · rw [zU_ne h]
    by_cases h2 : i = 11
    · subst h2; rw [zS2_v, zS2_v]
    · rw [zS2_n h2 h, zS2_n h2 h]
theorem zS2_2 {m : zS} {e w e' w' : Nat → Int32} : zS2 (zS2 m e w) e' w' = zS2 m e' w' := by
  funext i
  by_cases h : i = 11
  · subst h; rw [zS2_v, zS2_v]
  · by_cases h2 : i = 12
    · subst h2; rw [zS2_w, zS2_w]
    · rw [zS2_n h h2, zS2_n h h2, zS2_n h h2]
theorem zVr_2 {n : Nat} {m : zS} {o : Nat → Nat} {tx : Int32 → Int32} {tot : Int32} (h : zVr n m o tx tot) (e w : Nat → Int32) : zVr n (zS2 m e w) o tx tot := by
  unfold zVr
  rw [zS2_n (show 0 ≠ 11 by decide) (by decide), zS2_n (show 1 ≠ 11 by decide) (by decide), zS2_n (show 2 ≠ 11 by decide) (by decide), zS2_n (show 3 ≠ 11 by decide) (by decide), zS2_n (show 4 ≠ 11 by decide) (by decide), zS2_n (show 5 ≠ 11 by decide) (by decide), zS2_n (show 6 ≠ 11 by decide) (by decide), zS2_n (show 7 ≠ 11 by decide) (by decide)]
  exact h
/-- lines that use only lines of their like -/
def zDc (K F G : Nat → Int32) (D : Nat → Prop) : Prop := ∀ k j, k < 16 → j < 16 → D k → zUb K F G false k j → D j
/-- what stands while lines are worked out -/
def zPI (m : zS) (b : Nat) (pv : (Nat → Int32) → Nat → Int32) (e0 w0 e w : Nat → Int32) : Prop := (∀ i, i < 32 → zBn (e i)) ∧ (∀ i, (i < b ∨ b + 16 ≤ i) → e i = e0 i) ∧ (∀ k, k < 16 → w0 (b + k) ≠ 0 → e (b + k) = e0 (b + k) ∧ w (b + k) ≠ 0) ∧ (∀ i, i < 32 → w i = 0 ∨ w i = 1) ∧ zGI (m 1) (m 2) (m 3) b w ∧ ∀ (D : Nat → Prop) (ve : Nat → Int32), zDc (m 1) (m 2) (m 3) D → (∀ k, k < 16 → D k → w0 (b + k) ≠ 0 → e0 (b + k) = ve k) → (∀ k, k < 16 → D k → ¬ zCl (m 1) (m 2) (m 3) k → w0 (b + k) = 0 → ve k = pv ve k) → ∀ k, k < 16 → D k → w (b + k) ≠ 0 → e (b + k) = ve k
theorem q_pass1 {n b k : Nat} (hb : b = 0 ∨ b = 16) {m : zS} {o : Nat → Nat} {tx : Int32 → Int32} {tot : Int32} (hV : zVr n m o tx tot) (rec2 : Int32 → Int32 → zS → Option (Int32 × zS)) (t : Int32) {f : Nat} {e0 w0 e w : Nat → Int32} (hk : k < 16) (hI : zPI m b (zPv (m 1) (m 2) (m 3) tx tot (m 4)) e0 w0 e w) : ∃ e', zPI m b (zPv (m 1) (m 2) (m 3) tx tot (m 4)) e0 w0 e' (zK1 (m 1) (m 2) (m 3) b w k) ∧ m_X8_passes_j10 rec2 n (f + 1) (nI b) t (nI k) (zS2 m e w) = m_X8_passes_j10 rec2 n f (nI b) t (nI (k + 1)) (zS2 m e' (zK1 (m 1) (m 2) (m 3) b w k)) := by
  have hP := hV.1
  have hw := hP.1
  have hV' := zVr_2 hV e w
  have c1 : zS2 m e w 1 = m 1 := zS2_n (by decide) (by decide)
  have c2 : zS2 m e w 2 = m 2 := zS2_n (by decide) (by decide)
  have c3 : zS2 m e w 3 = m 3 := zS2_n (by decide) (by decide)
  have c4 : zS2 m e w 4 = m 4 := zS2_n (by decide) (by decide)
  obtain ⟨i1, i2, i3, i4, i5, i6⟩ := hI
  -- the run up to the test
  have run : m_X8_passes_j10 rec2 n (f + 1) (nI b) t (nI k) (zS2 m e w) = m_X8_passes_j78 rec2 (m_X8_passes_j10 rec2 n f) n (nI b) t (nI k) (if m 1 k ≠ 0 ∧ w (b + zNt (m 2 k)) = 0 then 0 else 1) (if zTwo (m 1 k) = true ∧ w (b + zNt (m 3 k)) = 0 then 0 else 1) (zS2 m e w) := by
    have s2 : ∀ t0 : Int32, m_X8_passes_j45 rec2 (m_X8_passes_j10 rec2 n f) n (nI b) t (nI k) t0 (zS2 m e w) = m_X8_passes_j78 rec2 (m_X8_passes_j10 rec2 n f) n (nI b) t (nI k) t0 (if zTwo (m 1 k) = true ∧ w (b + zNt (m 3 k)) = 0 then 0 else 1) (zS2 m e w) := by
      intro t0
      unfold m_X8_passes_j45
      rw [q_usesSecond hk, zBd_e, c1]
      by_cases ht : zTwo (m 1 k) = true
      · obtain ⟨g1, g2⟩ := zWf_g hw hk ht
        rw [if_pos ht, if_neg (by decide), zRd_n hk (by decide), c3, g2, nI_add, zRd_n (by omega) (by decide), zS2_w, ← g2]
        by_cases h0 : w (b + zNt (m 3 k)) = 0
        · rw [if_pos h0, if_pos ⟨ht, h0⟩]
        · rw [if_neg h0, if_neg (fun q => h0 q.2)]
      · rw [if_neg ht, if_pos rfl, if_neg (fun q => ht q.1)]
    rw [m_X8_passes_j10, if_neg (n16 hk), q_usesFirst hk, zBd_e, c1]
    by_cases h0 : m 1 k = 0
    · rw [if_pos h0, if_pos rfl, s2, if_neg (fun q : m 1 k ≠ 0 ∧ w (b + zNt (m 2 k)) = 0 => q.1 h0)]
    · obtain ⟨f1, f2⟩ := zWf_f hw hk h0
      rw [if_neg h0, if_neg (by decide), zRd_n hk (by decide), c2, f2, nI_add, zRd_n (by omega) (by decide), zS2_w, ← f2]
      by_cases h1 : w (b + zNt (m 2 k)) = 0
      · rw [if_pos h1, s2, if_pos (show m 1 k ≠ 0 ∧ w (b + zNt (m 2 k)) = 0 from ⟨h0, h1⟩)]
      · rw [if_neg h1, s2, if_neg (fun q : m 1 k ≠ 0 ∧ w (b + zNt (m 2 k)) = 0 => h1 q.2)]
  have gi' := zK1_gi hP (b := b) hk i5
  by_cases hc : zCan (m 1) (m 2) (m 3) b w k
  · have n1 : ¬ (m 1 k ≠ 0 ∧ w (b + zNt (m 2 k)) = 0) := fun q => hc.1 q.1 q.2
    have n2 : ¬ (zTwo (m 1 k) = true ∧ w (b + zNt (m 3 k)) = 0) := fun q => hc.2 q.1 q.2
    rw [if_neg n1, if_neg n2] at run
    by_cases h0 : w (b + k) = 0
    · have ez : zK1 (m 1) (m 2) (m 3) b w k = upd w (b + k) 1 := by unfold zK1; rw [if_pos ⟨zCan_iff.mpr hc, h0⟩]
      have ew := q_works (b := b) (k := k) (by omega) hV' (by rw [zS2_v]; exact i1) hk
      rw [c1, c2, c3, c4, zS2_v] at ew
      have hbk : b + k < 32 := by omega
      have ncl := zK1_ncl hP hk i5 hc h0
      have hbn : zBn (zPv (m 1) (m 2) (m 3) tx tot (m 4) (fun j => e (b + j)) k) := zPv_bn hw hk hV.2.2.2.1 hV.2.2.2.2.1 (hV.2.2.2.2.2 k hk) (fun j hj _ => i1 _ (by omega))
      have nw0 : w0 (b + k) = 0 := by
        refine Classical.byContradiction (fun q => (i3 k hk q).2 h0)
      refine ⟨upd e (b + k) (zPv (m 1) (m 2) (m 3) tx tot (m 4) (fun j => e (b + j)) k), ⟨fun i hi => ?_, fun i hi => ?_, fun j hj h => ?_, fun i hi => ?_, gi', fun D ve hD hs he j hj hDj hn => ?_⟩, ?_⟩
      · by_cases q : i = b + k
        · rw [q, upd_s]; exact hbn
        · rw [upd_n q]; exact i1 i hi
      · rw [upd_n (by omega)]; exact i2 i hi
      · have ne : j ≠ k := fun q => h (q ▸ nw0)
        rw [upd_n (by omega)]
        exact ⟨(i3 j hj h).1, by rw [zK1_m (i3 j hj h).2]; exact (i3 j hj h).2⟩
      · exact zK1_b (i4 i hi)
      · by_cases q : j = k
        · subst q
          rw [upd_s, he j hj hDj ncl nw0]
          refine zPv_c hw hj (fun u hu hub => ?_)
          refine i6 D ve hD hs he u hu (hD j u hj hu hDj hub) ?_
          rcases hub with ⟨a, eu⟩ | ⟨a, _, eu⟩
          · rw [eu]; exact hc.1 a
          · rw [eu]; exact hc.2 a
        · rw [upd_n (by omega)]
          rw [zK1_o (by omega)] at hn
          exact i6 D ve hD hs he j hj hDj hn
      · rw [run, ez]
        unfold m_X8_passes_j78
        rw [zLt_e, if_neg (by decide), nI_add, zRd_n hbk (by decide), zS2_w, if_pos h0, ew, zBd_e, zWr_n hbk (by decide), zWr_n hbk (by decide), zLt_e, nI_s, zS2_uv, zS2_uw, zn_id _ (Or.inr rfl)]
    · have ez : zK1 (m 1) (m 2) (m 3) b w k = w := by unfold zK1; rw [if_neg (fun q => h0 q.2)]
      refine ⟨e, by rw [ez]; exact ⟨i1, i2, i3, i4, i5, i6⟩, ?_⟩
      rw [run, ez]
      unfold m_X8_passes_j78
      rw [zLt_e, if_neg (by decide), nI_add, zRd_n (by omega) (by decide), zS2_w, if_neg h0, zLt_e, nI_s]
  · have ez : zK1 (m 1) (m 2) (m 3) b w k = w := by unfold zK1; rw [if_neg (fun q => hc (zCan_iff.mp q.1))]
    refine ⟨e, by rw [ez]; exact ⟨i1, i2, i3, i4, i5, i6⟩, ?_⟩
    rw [run, ez]
    unfold m_X8_passes_j78
    by_cases n1 : m 1 k ≠ 0 ∧ w (b + zNt (m 2 k)) = 0
    · rw [if_pos n1, zLt_e]
      have : ∀ x : Int32, (0 : Int32) &&& x = 0 := fun x => and_0.mpr (fun j _ q => by rw [b_0] at q; exact absurd q.1 (by decide))
      rw [this, if_pos rfl, zLt_e, nI_s]
    · by_cases n2 : zTwo (m 1 k) = true ∧ w (b + zNt (m 3 k)) = 0
      · rw [if_neg n1, if_pos n2, zLt_e, if_pos (by decide), zLt_e, nI_s]
      · exact absurd ⟨fun a q => n1 ⟨a, q⟩, fun a q => n2 ⟨a, q⟩⟩ hc
theorem q_passes {n b : Nat} (hn : 100 ≤ n) (hb : b = 0 ∨ b = 16) {m : zS} {o : Nat → Nat} {tx : Int32 → Int32} {tot : Int32} (hV : zVr n m o tx tot) {e0 w0 : Nat → Int32} (bd : ∀ i, i < 32 → zBn (e0 i)) (bl : ∀ i, i < 32 → w0 i = 0 ∨ w0 i = 1) (gi : zGI (m 1) (m 2) (m 3) b w0) : ∃ e, m_X8_passes n (nI b) (zS2 m e0 w0) = some (0, zS2 m e (zKt (m 1) (m 2) (m 3) b w0 16)) ∧ zPI m b (zPv (m 1) (m 2) (m 3) tx tot (m 4)) e0 w0 e (zKt (m 1) (m 2) (m 3) b w0 16) := by
  obtain ⟨e, f1, hf1, hI, e1⟩ := for_up (fun f t (e : Nat → Int32) => m_X8_passes_j2 n f (nI b) (nI t) (zS2 m e (zKt (m 1) (m 2) (m 3) b w0 t))) (fun t e => zPI m b (zPv (m 1) (m 2) (m 3) tx tot (m 4)) e0 w0 e (zKt (m 1) (m 2) (m 3) b w0 t)) 16 (by
    intro f t e ht hI
    obtain ⟨e3, f3, hf3, hI3, ee3⟩ := for_up (fun f9 k (e : Nat → Int32) => m_X8_passes_j10 (m_X8_passes_j2 n f) n f9 (nI b) (nI t) (nI k) (zS2 m e (zKi (m 1) (m 2) (m 3) b (zKt (m 1) (m 2) (m 3) b w0 t) k))) (fun k e => zPI m b (zPv (m 1) (m 2) (m 3) tx tot (m 4)) e0 w0 e (zKi (m 1) (m 2) (m 3) b (zKt (m 1) (m 2) (m 3) b w0 t) k)) 16 (by
      intro f9 k e hk hI
      obtain ⟨e', h1, h2⟩ := q_pass1 hb hV (m_X8_passes_j2 n f) (nI t) (f := f9) hk hI
      exact ⟨e', h1, h2⟩) 16 n 0 e rfl (by omega) hI
    obtain ⟨f3, rfl⟩ : ∃ g, f3 = g + 1 := ⟨f3 - 1, by omega⟩
    refine ⟨e3, hI3, ?_⟩
    show m_X8_passes_j2 n (f + 1) (nI b) (nI t) _ = m_X8_passes_j2 n f (nI b) (nI (t + 1)) _
    rw [m_X8_passes_j2, if_neg (n16 ht)]
    refine (show _ = _ from ee3).trans ?_
    show m_X8_passes_j10 _ n (f3 + 1) (nI b) (nI t) (nI 16) _ = _
    rw [m_X8_passes_j10, if_pos n16e, zLt_e, nI_s, zKt]) 16 n 0 e0 rfl (by omega) ⟨bd, fun _ _ => rfl, fun k hk h => ⟨rfl, h⟩, bl, gi, fun D ve hD hs he k hk hDk hn => hs k hk hDk hn⟩
  obtain ⟨f1, rfl⟩ : ∃ g, f1 = g + 1 := ⟨f1 - 1, by omega⟩
  refine ⟨e, ?_, hI⟩
  unfold m_X8_passes
  refine (show _ = _ from e1).trans ?_
  show m_X8_passes_j2 n (f1 + 1) (nI b) (nI 16) _ = _
  rw [m_X8_passes_j2, if_pos n16e]; rfl
end PRe
