section PLw
/-! the law's cases and its loop -/
theorem zCall_y {y z : Nat} {ks : List (Nat × Int32)} {rx : Option ((Int32 ⊕ Nat) × zS)} {rm : Option (Int32 × zS)} (hz : y ≤ z) (h : zCall y ks rx rm) : zCall z ks rx rm := by
  rcases h with ⟨v, x', m', a, b, c, d⟩ | ⟨k, b, w, x', m', a1, a2, a3, a4, a5, a6⟩
  · exact Or.inl ⟨v, x', m', a, b, c, zInv_y d hz⟩
  · exact Or.inr ⟨k, b, w, x', m', a1, a2, a3, a4, a5, zInv_y a6 hz⟩
theorem zDir_y {y z : Nat} {rx rm : Option (Int32 × zS)} (hz : y ≤ z) (h : zDir y rx rm) : zDir z rx rm := by
  obtain ⟨v, x', m', a, b, c⟩ := h
  exact ⟨v, x', m', a, b, zInv_y c hz⟩
theorem rd1 {β : Type} {N i : Nat} {xs : Nat → Int32} (hi : i + 5 ≤ N) (hN : N ≤ 2560) (f : Int32 → Option β) : zRd xs (nI i + (1 : Int32)) N f = f (xs (i + 1)) := by rw [nI_s]; exact zRd_n (by omega) (by omega)
theorem rd2 {β : Type} {N i : Nat} {xs : Nat → Int32} (hi : i + 5 ≤ N) (hN : N ≤ 2560) (f : Int32 → Option β) : zRd xs (nI i + (2 : Int32)) N f = f (xs (i + 2)) := by rw [show nI i + (2 : Int32) = nI (i + 2) from nI_add i 2]; exact zRd_n (by omega) (by omega)
theorem rd3 {β : Type} {N i : Nat} {xs : Nat → Int32} (hi : i + 5 ≤ N) (hN : N ≤ 2560) (f : Int32 → Option β) : zRd xs (nI i + (3 : Int32)) N f = f (xs (i + 3)) := by rw [show nI i + (3 : Int32) = nI (i + 3) from nI_add i 3]; exact zRd_n (by omega) (by omega)
theorem rd4 {β : Type} {N i : Nat} {xs : Nat → Int32} (hi : i + 5 ≤ N) (hN : N ≤ 2560) (f : Int32 → Option β) : zRd xs (nI i + (4 : Int32)) N f = f (xs (i + 4)) := by rw [show nI i + (4 : Int32) = nI (i + 4) from nI_add i 4]; exact zRd_n (by omega) (by omega)
theorem K_c0 {n N i y : Nat} (hn : 3200 ≤ n) (hy : y ≤ 1000) {xs : Nat → Int32} {s : zS} (h : zJ y s) (hi : i + 5 ≤ N) (hN : N ≤ 2560) (rec : Int32 → zS → Option (Int32 × zS)) : ∃ s', m_L_law_c0 rec n N xs (nI i) s = rec (nI i + (5 : Int32)) s' ∧ zJ (y + 1) s' := by
  have hn1 : 100 ≤ n := by omega
  unfold m_L_law_c0
  simp only [rd1 hi hN, rd2 hi hN, rd3 hi hN, rd4 hi hN]
  exact L_void (n := n) (ks := [(1, 1), (2, 2), (3, 3)]) (rx := m_X7_define n (xs (i + 1)) (xs (i + 2)) (xs (i + 3)) (xs (i + 4))) (rm := m_X8_define n (xs (i + 1)) (xs (i + 2)) (xs (i + 3)) (xs (i + 4))) (fun x m h => zCall_y (Nat.le_succ _) (C_define hn1 x m h)) h rec (nI i)
theorem K_c1 {n N i y : Nat} (hn : 3200 ≤ n) (hy : y ≤ 1000) {xs : Nat → Int32} {s : zS} (h : zJ y s) (hi : i + 5 ≤ N) (hN : N ≤ 2560) (rec : Int32 → zS → Option (Int32 × zS)) : ∃ s', m_L_law_c1 rec n N xs (nI i) s = rec (nI i + (5 : Int32)) s' ∧ zJ (y + 1) s' := by
  have hn1 : 100 ≤ n := by omega
  unfold m_L_law_c1
  simp only [rd1 hi hN, rd2 hi hN]
  exact L_val (n := n) (ks := [(1, 1), (2, 2)]) (rx := m_X7_answer n (xs (i + 1)) (xs (i + 2))) (rm := m_X8_answer n (xs (i + 1)) (xs (i + 2))) (fun x m h => zCall_y (Nat.le_succ _) (C_answer x m h)) h rec (nI i)
theorem K_c2 {n N i y : Nat} (hn : 3200 ≤ n) (hy : y ≤ 1000) {xs : Nat → Int32} {s : zS} (h : zJ y s) (hi : i + 5 ≤ N) (hN : N ≤ 2560) (rec : Int32 → zS → Option (Int32 × zS)) : ∃ s', m_L_law_c2 rec n N xs (nI i) s = rec (nI i + (5 : Int32)) s' ∧ zJ (y + 1) s' := by
  have hn1 : 100 ≤ n := by omega
  unfold m_L_law_c2
  simp only [rd1 hi hN]
  exact L_val (n := n) (ks := [(1, 1)]) (rx := m_X7_kindOf n (xs (i + 1))) (rm := m_X8_kindOf n (xs (i + 1))) (fun x m h => zCall_y (Nat.le_succ _) (C_kindOf x m h)) h rec (nI i)
theorem K_c3 {n N i y : Nat} (hn : 3200 ≤ n) (hy : y ≤ 1000) {xs : Nat → Int32} {s : zS} (h : zJ y s) (hi : i + 5 ≤ N) (hN : N ≤ 2560) (rec : Int32 → zS → Option (Int32 × zS)) : ∃ s', m_L_law_c3 rec n N xs (nI i) s = rec (nI i + (5 : Int32)) s' ∧ zJ (y + 1) s' := by
  have hn1 : 100 ≤ n := by omega
  unfold m_L_law_c3
  simp only [rd1 hi hN]
  exact L_val (n := n) (ks := [(1, 1)]) (rx := m_X7_value n (xs (i + 1))) (rm := m_X8_value n (xs (i + 1))) (fun x m h => zCall_y (Nat.le_succ _) (C_value hn1 x m h)) h rec (nI i)
theorem K_c4 {n N i y : Nat} (hn : 3200 ≤ n) (hy : y ≤ 1000) {xs : Nat → Int32} {s : zS} (h : zJ y s) (hi : i + 5 ≤ N) (hN : N ≤ 2560) (rec : Int32 → zS → Option (Int32 × zS)) : ∃ s', m_L_law_c4 rec n N xs (nI i) s = rec (nI i + (5 : Int32)) s' ∧ zJ (y + 1) s' := by
  have hn1 : 100 ≤ n := by omega
  unfold m_L_law_c4
  simp only [rd1 hi hN, rd2 hi hN]
  exact L_val (n := n) (ks := [(1, 1), (2, 2), (3, 3)]) (rx := m_X7_boundFor n (xs (i + 1)) (xs (i + 2))) (rm := m_X8_boundFor n (xs (i + 1)) (xs (i + 2))) (fun x m h => zCall_y (Nat.le_succ _) (C_boundFor hn1 x m h)) h rec (nI i)
theorem K_c5 {n N i y : Nat} (hn : 3200 ≤ n) (hy : y ≤ 1000) {xs : Nat → Int32} {s : zS} (h : zJ y s) (hi : i + 5 ≤ N) (hN : N ≤ 2560) (rec : Int32 → zS → Option (Int32 × zS)) : ∃ s', m_L_law_c5 rec n N xs (nI i) s = rec (nI i + (5 : Int32)) s' ∧ zJ (y + 1) s' := by
  have hn1 : 100 ≤ n := by omega
  unfold m_L_law_c5
  simp only [rd1 hi hN, rd2 hi hN]
  exact L_bool (n := n) (ks := [(1, 1)]) (rx := m_X7_dependsOn n (xs (i + 1)) (xs (i + 2))) (rm := m_X8_dependsOn n (xs (i + 1)) (xs (i + 2))) (fun x m h => zCall_y (Nat.le_succ _) (C_dependsOn hn1 x m h)) h rec (nI i)
theorem K_c6 {n N i y : Nat} (hn : 3200 ≤ n) (hy : y ≤ 1000) {xs : Nat → Int32} {s : zS} (h : zJ y s) (hi : i + 5 ≤ N) (hN : N ≤ 2560) (rec : Int32 → zS → Option (Int32 × zS)) : ∃ s', m_L_law_c6 rec n N xs (nI i) s = rec (nI i + (5 : Int32)) s' ∧ zJ (y + 1) s' := by
  have hn1 : 100 ≤ n := by omega
  unfold m_L_law_c6
  simp only [rd1 hi hN]
  exact L_val (n := n) (ks := [(1, 1)]) (rx := m_X7_influence n (xs (i + 1))) (rm := m_X8_influence n (xs (i + 1))) (fun x m h => zCall_y (Nat.le_succ _) (C_influence hn1 x m h)) h rec (nI i)
theorem K_c7 {n N i y : Nat} (hn : 3200 ≤ n) (hy : y ≤ 1000) {xs : Nat → Int32} {s : zS} (h : zJ y s) (hi : i + 5 ≤ N) (hN : N ≤ 2560) (rec : Int32 → zS → Option (Int32 × zS)) : ∃ s', m_L_law_c7 rec n N xs (nI i) s = rec (nI i + (5 : Int32)) s' ∧ zJ (y + 1) s' := by
  have hn1 : 100 ≤ n := by omega
  unfold m_L_law_c7
  simp only [rd1 hi hN, rd2 hi hN]
  exact L_val (n := n) (ks := [(1, 1)]) (rx := m_X7_why n (xs (i + 1)) (xs (i + 2))) (rm := m_X8_why n (xs (i + 1)) (xs (i + 2))) (fun x m h => zCall_y (Nat.le_succ _) (C_why hn1 x m h)) h rec (nI i)
theorem K_c8 {n N i y : Nat} (hn : 3200 ≤ n) (hy : y ≤ 1000) {xs : Nat → Int32} {s : zS} (h : zJ y s) (hi : i + 5 ≤ N) (hN : N ≤ 2560) (rec : Int32 → zS → Option (Int32 × zS)) : ∃ s', m_L_law_c8 rec n N xs (nI i) s = rec (nI i + (5 : Int32)) s' ∧ zJ (y + 1) s' := by
  have hn1 : 100 ≤ n := by omega
  unfold m_L_law_c8
  simp only [rd1 hi hN, rd2 hi hN]
  exact L_val (n := n) (ks := [(2, 1), (3, 2)]) (rx := m_X7_bracket n (xs (i + 1)) (xs (i + 2))) (rm := m_X8_bracket n (xs (i + 1)) (xs (i + 2))) (fun x m h => zCall_y (Nat.le_succ _) (C_bracket hn1 x m h)) h rec (nI i)
theorem K_c9 {n N i y : Nat} (hn : 3200 ≤ n) (hy : y ≤ 1000) {xs : Nat → Int32} {s : zS} (h : zJ y s) (hi : i + 5 ≤ N) (hN : N ≤ 2560) (rec : Int32 → zS → Option (Int32 × zS)) : ∃ s', m_L_law_c9 rec n N xs (nI i) s = rec (nI i + (5 : Int32)) s' ∧ zJ (y + 1) s' := by
  have hn1 : 100 ≤ n := by omega
  unfold m_L_law_c9
  exact L_dir (rx := m_X7_dropBrackets n) (rm := m_X8_dropBrackets n) (fun x m h => zDir_y (Nat.le_succ _) (C_dropBrackets x m h)) h rec (nI i)
theorem K_c10 {n N i y : Nat} (hn : 3200 ≤ n) (hy : y ≤ 1000) {xs : Nat → Int32} {s : zS} (h : zJ y s) (hi : i + 5 ≤ N) (hN : N ≤ 2560) (rec : Int32 → zS → Option (Int32 × zS)) : ∃ s', m_L_law_c10 rec n N xs (nI i) s = rec (nI i + (5 : Int32)) s' ∧ zJ (y + 1) s' := by
  have hn1 : 100 ≤ n := by omega
  unfold m_L_law_c10
  simp only [rd1 hi hN]
  exact L_val (n := n) (ks := [(2, 1)]) (rx := m_X7_taxOn n (xs (i + 1))) (rm := m_X8_taxOn n (xs (i + 1))) (fun x m h => zCall_y (Nat.le_succ _) (C_taxOn hn1 x m h)) h rec (nI i)
theorem K_c11 {n N i y : Nat} (hn : 3200 ≤ n) (hy : y ≤ 1000) {xs : Nat → Int32} {s : zS} (h : zJ y s) (hi : i + 5 ≤ N) (hN : N ≤ 2560) (rec : Int32 → zS → Option (Int32 × zS)) : ∃ s', m_L_law_c11 rec n N xs (nI i) s = rec (nI i + (5 : Int32)) s' ∧ zJ (y + 1) s' := by
  have hn1 : 100 ≤ n := by omega
  unfold m_L_law_c11
  simp only [rd1 hi hN, rd2 hi hN]
  exact L_val (n := n) (ks := [(2, 1), (3, 2)]) (rx := m_X7_carry n (xs (i + 1)) (xs (i + 2))) (rm := m_X8_carry n (xs (i + 1)) (xs (i + 2))) (fun x m h => zCall_y (Nat.le_succ _) (C_carry hn1 hy x m h)) h rec (nI i)
theorem K_c12 {n N i y : Nat} (hn : 3200 ≤ n) (hy : y ≤ 1000) {xs : Nat → Int32} {s : zS} (h : zJ y s) (hi : i + 5 ≤ N) (hN : N ≤ 2560) (rec : Int32 → zS → Option (Int32 × zS)) : ∃ s', m_L_law_c12 rec n N xs (nI i) s = rec (nI i + (5 : Int32)) s' ∧ zJ (y + 1) s' := by
  have hn1 : 100 ≤ n := by omega
  unfold m_L_law_c12
  exact L_dir (rx := m_X7_carried n) (rm := m_X8_carried n) (fun x m h => zDir_y (Nat.le_succ _) (C_carried hn1 x m h)) h rec (nI i)
theorem K_c13 {n N i y : Nat} (hn : 3200 ≤ n) (hy : y ≤ 1000) {xs : Nat → Int32} {s : zS} (h : zJ y s) (hi : i + 5 ≤ N) (hN : N ≤ 2560) (rec : Int32 → zS → Option (Int32 × zS)) : ∃ s', m_L_law_c13 rec n N xs (nI i) s = rec (nI i + (5 : Int32)) s' ∧ zJ (y + 1) s' := by
  have hn1 : 100 ≤ n := by omega
  unfold m_L_law_c13
  simp only [rd1 hi hN]
  exact L_val (n := n) (ks := [(1, 1)]) (rx := m_X7_carriedAt n (xs (i + 1))) (rm := m_X8_carriedAt n (xs (i + 1))) (fun x m h => zCall_y (Nat.le_succ _) (C_carriedAt x m h)) h rec (nI i)
theorem K_c14 {n N i y : Nat} (hn : 3200 ≤ n) (hy : y ≤ 1000) {xs : Nat → Int32} {s : zS} (h : zJ y s) (hi : i + 5 ≤ N) (hN : N ≤ 2560) (rec : Int32 → zS → Option (Int32 × zS)) : ∃ s', m_L_law_c14 rec n N xs (nI i) s = rec (nI i + (5 : Int32)) s' ∧ zJ (y + 1) s' := by
  have hn1 : 100 ≤ n := by omega
  unfold m_L_law_c14
  exact L_dir (rx := m_X7_year n) (rm := m_X8_year n) (fun x m h => zDir_y (Nat.le_succ _) (C_year x m h)) h rec (nI i)
theorem K_c15 {n N i y : Nat} (hn : 3200 ≤ n) (hy : y ≤ 1000) {xs : Nat → Int32} {s : zS} (h : zJ y s) (hi : i + 5 ≤ N) (hN : N ≤ 2560) (rec : Int32 → zS → Option (Int32 × zS)) : ∃ s', m_L_law_c15 rec n N xs (nI i) s = rec (nI i + (5 : Int32)) s' ∧ zJ (y + 1) s' := by
  have hn1 : 100 ≤ n := by omega
  unfold m_L_law_c15
  exact L_dir (rx := m_X7_closeYear n) (rm := m_X8_closeYear n) (fun x m h => C_closeYear hn1 x m h) h rec (nI i)
theorem K_c16 {n N i y : Nat} (hn : 3200 ≤ n) (hy : y ≤ 1000) {xs : Nat → Int32} {s : zS} (h : zJ y s) (hi : i + 5 ≤ N) (hN : N ≤ 2560) (rec : Int32 → zS → Option (Int32 × zS)) : ∃ s', m_L_law_c16 rec n N xs (nI i) s = rec (nI i + (5 : Int32)) s' ∧ zJ (y + 1) s' := by
  have hn1 : 100 ≤ n := by omega
  unfold m_L_law_c16
  simp only [rd1 hi hN, rd2 hi hN]
  exact L_val (n := n) (ks := [(2, 1), (3, 2)]) (rx := m_X7_addCredit n (xs (i + 1)) (xs (i + 2))) (rm := m_X8_addCredit n (xs (i + 1)) (xs (i + 2))) (fun x m h => zCall_y (Nat.le_succ _) (C_addCredit x m h)) h rec (nI i)
theorem K_c17 {n N i y : Nat} (hn : 3200 ≤ n) (hy : y ≤ 1000) {xs : Nat → Int32} {s : zS} (h : zJ y s) (hi : i + 5 ≤ N) (hN : N ≤ 2560) (rec : Int32 → zS → Option (Int32 × zS)) : ∃ s', m_L_law_c17 rec n N xs (nI i) s = rec (nI i + (5 : Int32)) s' ∧ zJ (y + 1) s' := by
  have hn1 : 100 ≤ n := by omega
  unfold m_L_law_c17
  exact L_val (n := n) (ks := [(3, 1)]) (rx := m_X7_dropCredit n) (rm := m_X8_dropCredit n) (fun x m h => zCall_y (Nat.le_succ _) (C_dropCredit x m h)) h rec (nI i)
theorem K_c18 {n N i y : Nat} (hn : 3200 ≤ n) (hy : y ≤ 1000) {xs : Nat → Int32} {s : zS} (h : zJ y s) (hi : i + 5 ≤ N) (hN : N ≤ 2560) (rec : Int32 → zS → Option (Int32 × zS)) : ∃ s', m_L_law_c18 rec n N xs (nI i) s = rec (nI i + (5 : Int32)) s' ∧ zJ (y + 1) s' := by
  have hn1 : 100 ≤ n := by omega
  unfold m_L_law_c18
  simp only [rd1 hi hN, rd2 hi hN]
  exact L_val (n := n) (ks := [(1, 1)]) (rx := m_X7_creditAt n (xs (i + 1)) (xs (i + 2))) (rm := m_X8_creditAt n (xs (i + 1)) (xs (i + 2))) (fun x m h => zCall_y (Nat.le_succ _) (C_creditAt hn x m h)) h rec (nI i)
theorem K_c19 {n N i y : Nat} (hn : 3200 ≤ n) (hy : y ≤ 1000) {xs : Nat → Int32} {s : zS} (h : zJ y s) (hi : i + 5 ≤ N) (hN : N ≤ 2560) (rec : Int32 → zS → Option (Int32 × zS)) : ∃ s', m_L_law_c19 rec n N xs (nI i) s = rec (nI i + (5 : Int32)) s' ∧ zJ (y + 1) s' := by
  have hn1 : 100 ≤ n := by omega
  unfold m_L_law_c19
  simp only [rd1 hi hN]
  exact L_val (n := n) (ks := [(1, 1)]) (rx := m_X7_afterCredits n (xs (i + 1))) (rm := m_X8_afterCredits n (xs (i + 1))) (fun x m h => zCall_y (Nat.le_succ _) (C_afterCredits hn1 x m h)) h rec (nI i)
theorem K_c20 {n N i y : Nat} (hn : 3200 ≤ n) (hy : y ≤ 1000) {xs : Nat → Int32} {s : zS} (h : zJ y s) (hi : i + 5 ≤ N) (hN : N ≤ 2560) (rec : Int32 → zS → Option (Int32 × zS)) : ∃ s', m_L_law_c20 rec n N xs (nI i) s = rec (nI i + (5 : Int32)) s' ∧ zJ (y + 1) s' := by
  have hn1 : 100 ≤ n := by omega
  unfold m_L_law_c20
  simp only [rd1 hi hN]
  exact L_val (n := n) (ks := [(1, 1)]) (rx := m_X7_bestSum n (xs (i + 1))) (rm := m_X8_bestSum n (xs (i + 1))) (fun x m h => zCall_y (Nat.le_succ _) (C_bestSum hn x m h)) h rec (nI i)
theorem K_step {n N i y f : Nat} (hn : 3200 ≤ n) (hy : y ≤ 1000) {xs : Nat → Int32} {s : zS} (h : zJ y s) (hi : i + 5 ≤ N) (hN : N ≤ 2560) : ∃ s', m_L_law_j23 n N xs (f + 1) (nI i) s = m_L_law_j23 n N xs f (nI (i + 5)) s' ∧ zJ (y + 1) s' := by
  have hge : ¬ (Int32.ofNat N) - (5 : Int32) < nI i := by
    rw [show (Int32.ofNat N) - (5 : Int32) = nI (N - 5) from n_subN (b := 5) (by omega)]
    exact nI_nlt (by omega) (by omega)
  have e5 : nI i + (5 : Int32) = nI (i + 5) := nI_add i 5
  rw [m_L_law_j23, if_neg hge, zRd_n (by omega) (by omega), zLt_e, ← e5]
  generalize xs i &&& (31 : Int32) = w
  by_cases q0 : w = 0
  · rw [if_pos q0]
    exact K_c0 hn hy h hi hN (m_L_law_j23 n N xs f)
  rw [if_neg q0]
  by_cases q1 : w = 1
  · rw [if_pos q1]
    exact K_c1 hn hy h hi hN (m_L_law_j23 n N xs f)
  rw [if_neg q1]
  by_cases q2 : w = 2
  · rw [if_pos q2]
    exact K_c2 hn hy h hi hN (m_L_law_j23 n N xs f)
  rw [if_neg q2]
  by_cases q3 : w = 3
  · rw [if_pos q3]
    exact K_c3 hn hy h hi hN (m_L_law_j23 n N xs f)
  rw [if_neg q3]
  by_cases q4 : w = 4
  · rw [if_pos q4]
    exact K_c4 hn hy h hi hN (m_L_law_j23 n N xs f)
  rw [if_neg q4]
  by_cases q5 : w = 5
  · rw [if_pos q5]
    exact K_c5 hn hy h hi hN (m_L_law_j23 n N xs f)
  rw [if_neg q5]
  by_cases q6 : w = 6
  · rw [if_pos q6]
    exact K_c6 hn hy h hi hN (m_L_law_j23 n N xs f)
  rw [if_neg q6]
  by_cases q7 : w = 7
  · rw [if_pos q7]
    exact K_c7 hn hy h hi hN (m_L_law_j23 n N xs f)
  rw [if_neg q7]
  by_cases q8 : w = 8
  · rw [if_pos q8]
    exact K_c8 hn hy h hi hN (m_L_law_j23 n N xs f)
  rw [if_neg q8]
  by_cases q9 : w = 9
  · rw [if_pos q9]
    exact K_c9 hn hy h hi hN (m_L_law_j23 n N xs f)
  rw [if_neg q9]
  by_cases q10 : w = 10
  · rw [if_pos q10]
    exact K_c10 hn hy h hi hN (m_L_law_j23 n N xs f)
  rw [if_neg q10]
  by_cases q11 : w = 11
  · rw [if_pos q11]
    exact K_c11 hn hy h hi hN (m_L_law_j23 n N xs f)
  rw [if_neg q11]
  by_cases q12 : w = 12
  · rw [if_pos q12]
    exact K_c12 hn hy h hi hN (m_L_law_j23 n N xs f)
  rw [if_neg q12]
  by_cases q13 : w = 13
  · rw [if_pos q13]
    exact K_c13 hn hy h hi hN (m_L_law_j23 n N xs f)
  rw [if_neg q13]
  by_cases q14 : w = 14
  · rw [if_pos q14]
    exact K_c14 hn hy h hi hN (m_L_law_j23 n N xs f)
  rw [if_neg q14]
  by_cases q15 : w = 15
  · rw [if_pos q15]
    exact K_c15 hn hy h hi hN (m_L_law_j23 n N xs f)
  rw [if_neg q15]
  by_cases q16 : w = 16
  · rw [if_pos q16]
    exact K_c16 hn hy h hi hN (m_L_law_j23 n N xs f)
  rw [if_neg q16]
  by_cases q17 : w = 17
  · rw [if_pos q17]
    exact K_c17 hn hy h hi hN (m_L_law_j23 n N xs f)
  rw [if_neg q17]
  by_cases q18 : w = 18
  · rw [if_pos q18]
    exact K_c18 hn hy h hi hN (m_L_law_j23 n N xs f)
  rw [if_neg q18]
  by_cases q19 : w = 19
  · rw [if_pos q19]
    exact K_c19 hn hy h hi hN (m_L_law_j23 n N xs f)
  rw [if_neg q19]
  by_cases q20 : w = 20
  · rw [if_pos q20]
    exact K_c20 hn hy h hi hN (m_L_law_j23 n N xs f)
  rw [if_neg q20]
  exact ⟨s, rfl, zInv_y h (Nat.le_succ _)⟩
theorem K_loop {n N : Nat} (hn : 3200 ≤ n) {xs : Nat → Int32} (hN : N ≤ 2560) : ∀ f i (s : zS), 514 ≤ f + i → 5 * i ≤ N → zJ i s → ∃ s', m_L_law_j23 n N xs f (nI (5 * i)) s = some (1, s') := by
  intro f
  induction f with
  | zero => intro i s h1 h2; exact absurd h2 (by omega)
  | succ f ih =>
    intro i s h1 h2 hJ
    by_cases q : 5 * i + 5 ≤ N
    · obtain ⟨s', e, hJ'⟩ := K_step (f := f) (xs := xs) hn (show i ≤ 1000 by omega) hJ q hN
      rw [e, show 5 * i + 5 = 5 * (i + 1) by omega]
      exact ih (i + 1) s' (by omega) (by omega) hJ'
    · have hlt : (Int32.ofNat N) - (5 : Int32) < nI (5 * i) := by
        rw [Int32.lt_iff_toInt_lt, show (Int32.ofNat N) - (5 : Int32) = nI N - nI 5 from rfl, pk_sub_toInt (by omega) (by omega), nI_toInt (by omega)]
        omega
      rw [m_L_law_j23, if_pos hlt]
      exact ⟨s, rfl⟩
end PLw
