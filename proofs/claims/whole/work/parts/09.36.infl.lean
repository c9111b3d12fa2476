section PIn
/-! how many lines have another value -/
def zDf (a b : Nat → Int32) : Nat → Int32
  | 0 => 0
  | k + 1 => if a k = b k then zDf a b k else zDf a b k + 1
theorem zDf_c {a b a' b' : Nat → Int32} : ∀ k, (∀ j, j < k → a j = b' j ∧ b j = a' j) → zDf a b k = zDf a' b' k := by
  intro k
  induction k with
  | zero => intro _; rfl
  | succ k ih =>
    intro h
    have e := ih (fun j hj => h j (by omega))
    obtain ⟨h1, h2⟩ := h k (by omega)
    unfold zDf
    rw [h1, h2, e]
    by_cases q : a' k = b' k
    · rw [if_pos q, if_pos q.symm]
    · rw [if_neg q, if_neg (fun x => q x.symm)]
theorem p_count {n : Nat} (hn : 100 ≤ n) {s : zS} {a b : Nat → Int32} (ha : ∀ k, k < 16 → s 22 k = a k) (hb : ∀ k, k < 16 → s 24 k = b k) : m_X7_influence_j37 n n 0 0 s = some (.inl (zDf a b 16), s) := by
  obtain ⟨v, f1, hf1, hI, e1⟩ := for_up (fun f k (v : Int32) => m_X7_influence_j37 n f v (nI k) s) (fun k v => v = zDf a b k) 16 (by
    rintro f k v hk rfl
    refine ⟨_, rfl, ?_⟩
    show m_X7_influence_j37 n (f + 1) (zDf a b k) (nI k) s = m_X7_influence_j37 n f (if a k = b k then zDf a b k else zDf a b k + 1) (nI (k + 1)) s
    rw [m_X7_influence_j37, if_neg (n16 hk), p_of, zBd_e, p_ofb, zBd_e, a16 hk, a16 hk, ha k hk, hb k hk]
    by_cases q : a k = b k
    · rw [if_pos q, if_pos q, zLt_e, nI_s]
    · rw [if_neg q, if_neg q, zLt_e, zLt_e, nI_s]) 16 n 0 0 (by omega) (by omega) rfl
  obtain ⟨f1, rfl⟩ : ∃ g, f1 = g + 1 := ⟨f1 - 1, by omega⟩
  refine (show _ = _ from e1).trans ?_
  show m_X7_influence_j37 n (f1 + 1) v (nI 16) s = _
  rw [m_X7_influence_j37, if_pos n16e, hI]; rfl
theorem q_count {n : Nat} (hn : 100 ≤ n) {s : zS} {a b : Nat → Int32} (ha : ∀ k, k < 16 → s 11 k = a k) (hb : ∀ k, k < 16 → s 16 k = b k) : m_X8_influence_j96 n n 0 0 s = some (zDf a b 16, s) := by
  obtain ⟨v, f1, hf1, hI, e1⟩ := for_up (fun f k (v : Int32) => m_X8_influence_j96 n f v (nI k) s) (fun k v => v = zDf a b k) 16 (by
    rintro f k v hk rfl
    refine ⟨_, rfl, ?_⟩
    show m_X8_influence_j96 n (f + 1) (zDf a b k) (nI k) s = m_X8_influence_j96 n f (if a k = b k then zDf a b k else zDf a b k + 1) (nI (k + 1)) s
    rw [m_X8_influence_j96, if_neg (n16 hk), zRd_n (by omega) (by decide), zRd_n hk (by decide), ha k hk, hb k hk]
    by_cases q : a k = b k
    · rw [if_pos q, if_pos q, zLt_e, zLt_e, nI_s, Int32.add_zero]
    · rw [if_neg q, if_neg q, zLt_e, zLt_e, nI_s]) 16 n 0 0 (by omega) (by omega) rfl
  obtain ⟨f1, rfl⟩ : ∃ g, f1 = g + 1 := ⟨f1 - 1, by omega⟩
  refine (show _ = _ from e1).trans ?_
  show m_X8_influence_j96 n (f1 + 1) v (nI 16) s = _
  rw [m_X8_influence_j96, if_pos n16e, hI]; rfl
theorem upd_self {f : Nat → Int32} {j : Nat} : upd f j (f j) = f := by
  funext i
  by_cases q : i = j
  · rw [q, upd_s]
  · rw [upd_n q]
/-- what the reference holds -/
theorem q_held {n k : Nat} (hn : 100 ≤ n) {s : zS} : ∃ g, (∀ j, j < 16 → g j = s 11 j) ∧ ∃ f1, m_X8_influence_j42 n n (nI k) 0 s = m_X8_influence_j42 n (f1 + 1) (nI k) (nI 16) (zSt s 16 g) := by
  obtain ⟨g, f1, hf1, hI, e1⟩ := for_up (fun f j (g : Nat → Int32) => m_X8_influence_j42 n f (nI k) (nI j) (zSt s 16 g)) (fun i g => ∀ j, j < i → g j = s 11 j) 16 (by
    intro f j g hj hg
    refine ⟨upd g j (s 11 j), fun i hi => ?_, ?_⟩
    · by_cases q : i = j
      · rw [q, upd_s]
      · rw [upd_n q]; exact hg i (by omega)
    · show m_X8_influence_j42 n (f + 1) (nI k) (nI j) (zSt s 16 g) = m_X8_influence_j42 n f (nI k) (nI (j + 1)) (zSt s 16 (upd g j (s 11 j)))
      rw [m_X8_influence_j42, if_neg (n16 hj), zRd_n (by omega) (by decide), zSt_n (c := 11) (by decide), zWr_n hj (by decide), zSt_u, zLt_e, nI_s]) 16 n 0 (s 16) (by omega) (by omega) (fun j hj => absurd hj (Nat.not_lt_zero j))
  refine ⟨g, hI, f1 - 1, ?_⟩
  rw [zSt_i] at e1
  rw [show f1 - 1 + 1 = f1 by omega]
  exact e1
theorem zVr_c {n : Nat} {m m' : zS} {o : Nat → Nat} {tx : Int32 → Int32} {tot : Int32} (h : zVr n m o tx tot) (h0 : m' 0 = m 0) (h1 : m' 1 = m 1) (h2 : m' 2 = m 2) (h3 : m' 3 = m 3) (h5 : m' 5 = m 5) (h6 : m' 6 = m 6) (h7 : m' 7 = m 7) (h4 : ∀ k, k < 16 → zBn (m' 4 k)) : zVr n m' o tx tot := by
  obtain ⟨a, b, c, d, e, _⟩ := h
  unfold zVr
  rw [h0, h1, h2, h3, h5, h6, h7]
  exact ⟨a, b, c, d, e, h4⟩
theorem C_influence {n y : Nat} (hn : 100 ≤ n) {v1 : Int32} (x m : zS) (h : zInv y x m) : zCall y [(1, 1)] (m_X7_influence n v1 x) (m_X8_influence n v1 m) := by
  unfold m_X7_influence m_X8_influence
  rcases line_cases n v1 with ⟨k, hk, rfl, c1, c2⟩ | ⟨c1, c2⟩
  · rw [c1, zBx_e, c2, zBd_e, if_neg ne10, p_kind, zBd_e, a16 hk]
    unfold m_X8_influence_j13
    rw [zLt_e, zU_eq, if_neg (show ¬ (0 : Int32) < 0 by decide), zRd_n hk (by decide), zU_ne (a := 1) (by decide), ← h.1.1]
    by_cases h0 : x 2 k = 0
    · rw [if_pos h0, if_pos h0]
      obtain ⟨tx, tot, hV, hR⟩ := inv_tt hn (zInv_t h 0)
      obtain ⟨⟨j2, j3, j4, j5⟩, ⟨k1, k2, _, _, _, k6⟩, _, _, _, i6, i7⟩ := id (zInv_t h 0)
      obtain ⟨e, e', w, w1, w2, w3, w4, w5⟩ := inv_work hn (zInv_t h 0)
      obtain ⟨a, ha, ea⟩ := k6 k hk
      -- the class, once more
      have hV' : zVs n (zXe x e) tx tot := zVs_c hV (fun c hc => zXe_n (by omega) (by omega))
      have zoe : zo (zXe x e) = zo x := zo_c (zXe_n (by decide) (by decide))
      obtain ⟨eb, b1, b2, b3⟩ := p_workOutb hn (nI k) hV' w3.2.2.2.2.2.1.2
      rw [zoe, zXe_n (c := 2) (by decide) (by decide), zXe_n (c := 3) (by decide) (by decide), zXe_n (c := 4) (by decide) (by decide), zXe_n (c := 5) (by decide) (by decide), zAn_u hk] at b3
      -- the reference, once more
      obtain ⟨g, g1, f1, g2⟩ := q_held (n := n) (k := k) (s := zS2 (zU m 0 23 0) e' w) hn
      generalize hM : zS2 (zU m 0 23 0) e' w = M at w2 w3 g1 g2
      have hM11 : M 11 = e' := by rw [← hM, zS2_v]
      have M0 : M 0 23 = 0 := by rw [← hM, zS2_th]
      have M1 : ∀ c, c ≠ 0 → c ≠ 11 → c ≠ 12 → M c = m c := fun c a1 a2 a3 => by rw [← hM, zS2_n a2 a3, zU_ne a1]
      have X4 : zU m 0 23 0 4 = m 4 := zU_ne (by decide)
      have M4 : M 4 k = nI a := by rw [M1 4 (by decide) (by decide) (by decide), ← X4, ← j5]; exact ea
      generalize hA : zU (zSt M 16 g) 4 k (nI a + 1) = A
      have A_n : ∀ c, c ≠ 16 → c ≠ 4 → A c = M c := fun c a1 a2 => by rw [← hA, zU_ne a2, zSt_n a1]
      have A4 : A 4 = upd (x 5) k (x 5 k + 1) := by rw [← hA, zU_k, zSt_n (by decide), M1 4 (by decide) (by decide) (by decide), ← X4, ← j5, ea]
      have hRm : zVr n M (zo x) tx tot := by rw [← hM]; exact zVr_2 hR e' w
      have hRA : zVr n A (zo x) tx tot := zVr_c hRm (A_n 0 (by decide) (by decide)) (A_n 1 (by decide) (by decide)) (A_n 2 (by decide) (by decide)) (A_n 3 (by decide) (by decide)) (A_n 5 (by decide) (by decide)) (A_n 6 (by decide) (by decide)) (A_n 7 (by decide) (by decide)) (fun i hi => by
        rw [A4]
        by_cases q : i = k
        · rw [q, upd_s, ea, nI_s]; exact ⟨_, by omega, rfl⟩
        · rw [upd_n q]
          obtain ⟨b, hb, eb⟩ := k6 i hi
          exact ⟨b, by omega, eb⟩)
      obtain ⟨e3, w', q1, q2, q3, q4⟩ := q_solves (fx := -1) (its := 0) hn hRA (by rw [A_n 11 (by decide) (by decide)]; exact w3.2.2.2.2.2.2.1) (by rw [A_n 12 (by decide) (by decide)]; exact w3.2.2.2.2.2.2.2) (fun i hi q => absurd q (zn_L hi)) zBn_0
      have same : ∀ i, i < 16 → e3 i = eb i := by
        intro i hi
        refine q4 (fun _ => True) eb ?_ i hi trivial
        have Y : ∀ c, c ≠ 0 → c ≠ 4 → c ≠ 11 → c ≠ 12 → c ≠ 16 → A c = zU m 0 23 0 c := fun c a1 a2 a3 a4 a5 => by rw [A_n c a5 a2, M1 c a1 a3 a4, zU_ne a1]
        rw [A4, Y 1 (by decide) (by decide) (by decide) (by decide) (by decide), Y 2 (by decide) (by decide) (by decide) (by decide) (by decide), Y 3 (by decide) (by decide) (by decide) (by decide) (by decide), ← j2, ← j3, ← j4]
        exact v_all (its := 0) k1 b2 b3
      rw [w1, zBd_e, b1, zBd_e, p_count (a := e) (b := eb) hn (fun i _ => by rw [zSt_n (by decide), zU_ne (by decide), zXe_e]) (fun i _ => by rw [zSt_s]), w2, zBd_e, g2, m_X8_influence_j42, if_pos n16e, zRd_n hk (by decide), zSt_n (c := 4) (by decide), M4, zWr_n hk (by decide), hA, q1, zBd_e, zRd_n hk (by decide), zS2_n (c := 4) (by decide) (by decide), A4, upd_s, ea, zWr_n hk (by decide), Int32.add_sub_cancel]
      rw [q_count (a := e3) (b := e') hn (fun i _ => by rw [zU_ne (by decide), zS2_v]) (fun i hi => by rw [zU_ne (by decide), zS2_n (by decide) (by decide), ← hA, zU_ne (by decide), zSt_s, g1 i hi, hM11])]
      have B_n : ∀ c, c ≠ 4 → c ≠ 11 → c ≠ 12 → c ≠ 16 → zU (zS2 A e3 w') 4 k (nI a) c = M c := fun c a1 a2 a3 a4 => by rw [zU_ne a1, zS2_n a2 a3, A_n c a4 a1]
      have B4 : zU (zS2 A e3 w') 4 k (nI a) 4 = M 4 := by rw [zU_k, zS2_n (by decide) (by decide), A4, upd_2, ← ea, upd_self, j5, X4, M1 4 (by decide) (by decide) (by decide)]
      refine Or.inl ⟨_, _, _, rfl, ?_, ?_, zInv_c w3 (fun c a1 a2 a3 => by rw [zSt_n (by omega), zU_ne (by omega)]) ⟨?_, ?_⟩ (fun c a1 a2 => ?_) (B_n 18 (by decide) (by decide) (by decide) (by decide)) (fun j _ _ => by rw [B_n 0 (by decide) (by decide) (by decide) (by decide)]) ⟨?_, ?_⟩⟩
      · congr 1
        congr 1
        exact zDf_c 16 (fun j hj => ⟨same j hj, w4 j hj⟩)
      · rw [B_n 0 (by decide) (by decide) (by decide) (by decide), M0]
      · rw [zSt_n (by decide), zU_ne (by decide)]; exact w3.2.2.2.2.2.1.1
      · rw [zSt_s]; exact b2
      · by_cases q : c = 4
        · rw [q, B4]
        · exact B_n c q (by omega) (by omega) (by omega)
      · rw [zU_ne (by decide), zS2_v]; exact q2
      · rw [zU_ne (by decide), zS2_w]; exact q3
    · rw [if_neg h0, if_neg h0]
      exact Or.inl ⟨_, _, _, rfl, rfl, zU_eq, zInv_t h 0⟩
  · rw [c1, zBx_t, c2, zBd_e, if_pos rfl]
    refine Or.inr ⟨1, 1, 0, _, zU m 0 23 1, fun _ _ => rfl, by decide, rfl, ?_, zU_eq, zInv_t h _⟩
    unfold m_X8_influence_j13
    rw [zLt_e, zU_eq, if_pos (by decide)]; rfl
end PIn
