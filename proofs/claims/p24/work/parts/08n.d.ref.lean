section PE3
/-! the calls that are refused, whatever the state -/
variable {n : Nat} {s : zS}
theorem L_bad {v : Int32} (h : ¬ (0 ≤ v ∧ v ≤ 15)) : m_X7_checkLine n v s = some (.inr 1, s) := by
  unfold m_X7_checkLine
  rw [p_isWithin, zBd_e, if_neg h]; rfl
theorem L_ok {v : Int32} (h : 0 ≤ v ∧ v ≤ 15) : m_X7_checkLine n v s = some (.inl 0, s) := by
  unfold m_X7_checkLine
  rw [p_isWithin, zBd_e, if_pos h]; rfl
theorem A_bad : m_X7_checkArgument n 0 s = some (.inr 2, s) := rfl
theorem A_ok : m_X7_checkArgument n 1 s = some (.inl 0, s) := rfl
theorem S_bad : m_X7_checkState n 0 s = some (.inr 3, s) := rfl
theorem P_bad : m_X7_checkPlace n 0 s = some (.inr 1, s) := rfl
/-- define: the line is none -/
theorem R_def1 {v1 v2 v3 v4 : Int32} (h : ¬ (0 ≤ v1 ∧ v1 ≤ 15)) : m_X7_define n v1 v2 v3 v4 s = some (.inr 1, s) := by
  unfold m_X7_define
  rw [L_bad h]; rfl
/-- the kind is none -/
theorem R_def2 {v1 v2 v3 v4 : Int32} (h : 0 ≤ v1 ∧ v1 ≤ 15) (h2 : ¬ (0 ≤ v2 ∧ v2 ≤ 8)) : m_X7_define n v1 v2 v3 v4 s = some (.inr 2, s) := by
  unfold m_X7_define
  rw [L_ok h, zBx_e, p_isWithin, zBd_e, if_neg h2, if_pos rfl]
  unfold m_X7_define_j29 m_X7_define_j46
  rw [if_pos rfl, if_pos rfl]
  rfl
/-- the first line is none -/
theorem R_def3 {v1 v2 v3 v4 : Int32} (h : 0 ≤ v1 ∧ v1 ≤ 15) (h2 : 0 ≤ v2 ∧ v2 ≤ 8) (h3 : ¬ v2 = 0) (h4 : ¬ (0 ≤ v3 ∧ v3 ≤ 15)) : m_X7_define n v1 v2 v3 v4 s = some (.inr 1, s) := by
  unfold m_X7_define
  rw [L_ok h, zBx_e, p_isWithin, zBd_e, if_pos h2, if_neg (by decide)]
  unfold m_X7_takesFirst
  rw [if_neg h3, zBd_r, if_neg (by decide), L_bad h4]; rfl
/-- the second line is none -/
theorem R_def4 {v1 v2 v3 v4 : Int32} (h : 0 ≤ v1 ∧ v1 ≤ 15) (h2 : 0 ≤ v2 ∧ v2 ≤ 8) (h3 : ¬ v2 = 0) (h4 : 0 ≤ v3 ∧ v3 ≤ 15) (h5 : m_X7_takesSecond n v2 s = some (1, s)) (h6 : ¬ (0 ≤ v4 ∧ v4 ≤ 15)) : m_X7_define n v1 v2 v3 v4 s = some (.inr 1, s) := by
  unfold m_X7_define
  rw [L_ok h, zBx_e, p_isWithin, zBd_e, if_pos h2, if_neg (by decide)]
  unfold m_X7_takesFirst
  rw [if_neg h3, zBd_r, if_neg (by decide), L_ok h4, zBx_e]
  unfold m_X7_define_j29
  rw [if_neg (by decide), h5, zBd_e, if_neg (by decide), L_bad h6]; rfl
/-- a SHARE of more than all -/
theorem R_def5 {v1 v3 v4 : Int32} (h : 0 ≤ v1 ∧ v1 ≤ 15) (h4 : 0 ≤ v3 ∧ v3 ≤ 15) (h6 : ¬ (0 ≤ v4 ∧ v4 ≤ 1000)) : m_X7_define n v1 3 v3 v4 s = some (.inr 2, s) := by
  unfold m_X7_define
  rw [L_ok h, zBx_e, p_isWithin, zBd_e, if_pos (show (0 : Int32) ≤ 3 ∧ (3 : Int32) ≤ 8 by decide), if_neg (show ¬ (1 : Int32) = 0 by decide)]
  unfold m_X7_takesFirst
  rw [if_neg (show ¬ (3 : Int32) = 0 by decide), zBd_r, if_neg (show ¬ (1 : Int32) = 0 by decide), L_ok h4, zBx_e]
  unfold m_X7_define_j29
  rw [if_neg (by decide), show m_X7_takesSecond n 3 s = some (0, s) from rfl, zBd_e, if_pos rfl]
  unfold m_X7_define_j46
  rw [if_neg (by decide), if_pos rfl, p_isWithin, zBd_e, if_neg h6, if_pos rfl]
  rfl
theorem R_answer1 {v w : Int32} (h : ¬ (0 ≤ v ∧ v ≤ 15)) : m_X7_answer n v w s = some (.inr 1, s) := by
  unfold m_X7_answer
  rw [L_bad h]; rfl
theorem R_answer2 {v w : Int32} (h : 0 ≤ v ∧ v ≤ 15) (h2 : ¬ (0 ≤ w ∧ w ≤ 1000000)) : m_X7_answer n v w s = some (.inr 2, s) := by
  unfold m_X7_answer
  rw [L_ok h, zBx_e, p_isWithin, zBd_e, if_neg h2]; rfl
theorem R_kindOf {v : Int32} (h : ¬ (0 ≤ v ∧ v ≤ 15)) : m_X7_kindOf n v s = some (.inr 1, s) := by
  unfold m_X7_kindOf
  rw [L_bad h]; rfl
theorem R_value {v : Int32} (h : ¬ (0 ≤ v ∧ v ≤ 15)) : m_X7_value n v s = some (.inr 1, s) := by
  unfold m_X7_value
  rw [L_bad h]; rfl
theorem R_boundFor1 {v w : Int32} (h : ¬ (0 ≤ v ∧ v ≤ 15)) : m_X7_boundFor n v w s = some (.inr 1, s) := by
  unfold m_X7_boundFor
  rw [L_bad h]; rfl
theorem R_boundFor2 {v w : Int32} (h : 0 ≤ v ∧ v ≤ 15) (h2 : ¬ (0 ≤ w ∧ w ≤ 1000000000)) : m_X7_boundFor n v w s = some (.inr 2, s) := by
  unfold m_X7_boundFor
  rw [L_ok h, zBx_e, p_isWithin, zBd_e, if_neg h2]; rfl
theorem kind15 : m_X5_kind n (15 : Int32) s = some (s 2 15, s) := by
  unfold m_X5_kind
  rw [p_at (by decide)]; rfl
theorem R_boundFor3 {y : Int32} (h : zRI s y) : m_X7_boundFor n (15 : Int32) (0 : Int32) s = some (.inr 3, s) := by
  unfold m_X7_boundFor
  rw [L_ok (by decide), zBx_e, p_isWithin, zBd_e, if_pos (by decide), A_ok, zBx_e, kind15, zBd_e, h.1, if_neg (by decide)]; rfl
theorem R_dependsOn1 {v w : Int32} (h : ¬ (0 ≤ v ∧ v ≤ 15)) : m_X7_dependsOn n v w s = some (.inr 1, s) := by
  unfold m_X7_dependsOn
  rw [L_bad h]; rfl
theorem R_dependsOn2 {v w : Int32} (h : 0 ≤ v ∧ v ≤ 15) (h2 : ¬ (0 ≤ w ∧ w ≤ 15)) : m_X7_dependsOn n v w s = some (.inr 1, s) := by
  unfold m_X7_dependsOn
  rw [L_ok h, zBx_e, L_bad h2]; rfl
theorem R_influence {v : Int32} (h : ¬ (0 ≤ v ∧ v ≤ 15)) : m_X7_influence n v s = some (.inr 1, s) := by
  unfold m_X7_influence
  rw [L_bad h]; rfl
theorem R_why1 {v w : Int32} (h : ¬ (0 ≤ v ∧ v ≤ 15)) : m_X7_why n v w s = some (.inr 1, s) := by
  unfold m_X7_why
  rw [L_bad h]; rfl
theorem R_why2 {v w : Int32} (h : 0 ≤ v ∧ v ≤ 15) (h2 : w < 0) : m_X7_why n v w s = some (.inr 1, s) := by
  unfold m_X7_why
  rw [L_ok h, zBx_e, if_pos h2]; rfl
theorem R_bracket1 {v w : Int32} (h : ¬ (0 ≤ v ∧ v ≤ 1000000)) : m_X7_bracket n v w s = some (.inr 2, s) := by
  unfold m_X7_bracket
  rw [p_isWithin, zBd_e, if_neg h, if_pos rfl]; rfl
theorem R_bracket2 {v w : Int32} (h : 0 ≤ v ∧ v ≤ 1000000) (h2 : ¬ (0 ≤ w ∧ w ≤ 1000)) : m_X7_bracket n v w s = some (.inr 2, s) := by
  unfold m_X7_bracket
  rw [p_isWithin, zBd_e, if_pos h, if_neg (by decide), p_isWithin, zBd_e, if_neg h2, if_pos rfl]; rfl
theorem R_taxOn {v : Int32} (h : ¬ (0 ≤ v ∧ v ≤ 1000000000)) : m_X7_taxOn n v s = some (.inr 2, s) := by
  unfold m_X7_taxOn
  rw [p_isWithin, zBd_e, if_neg h]; rfl
theorem R_carry1 {v w : Int32} (h : ¬ (1 ≤ v ∧ v ≤ 1000000)) : m_X7_carry n v w s = some (.inr 2, s) := by
  unfold m_X7_carry m_X0_now
  rw [zBd_r, p_isWithin, zBd_e, if_neg h, if_pos rfl]; rfl
theorem R_carry2 {v w : Int32} (h : 1 ≤ v ∧ v ≤ 1000000) (h2 : ¬ (s 13 3 ≤ w ∧ w ≤ s 13 3 + 20)) : m_X7_carry n v w s = some (.inr 2, s) := by
  unfold m_X7_carry m_X0_now
  rw [zBd_r, p_isWithin, zBd_e, if_pos h, if_neg (by decide), p_isWithin, zBd_e, if_neg h2, if_pos rfl]; rfl
theorem R_carriedAt1 {v : Int32} (h : v < 0) : m_X7_carriedAt n v s = some (.inr 1, s) := by
  unfold m_X7_carriedAt
  rw [if_pos h]; rfl
theorem R_carriedAt2 {v : Int32} (h : ¬ v < 0) (h2 : s 13 2 ≤ v) : m_X7_carriedAt n v s = some (.inr 1, s) := by
  unfold m_X7_carriedAt m_X0_size
  rw [if_neg h, zBd_r, if_pos h2]; rfl
theorem R_addCredit1 {v w : Int32} (h : ¬ (1 ≤ v ∧ v ≤ 1000000)) : m_X7_addCredit n v w s = some (.inr 2, s) := by
  unfold m_X7_addCredit
  rw [p_isWithin, zBd_e, if_neg h, if_pos rfl]; rfl
theorem R_addCredit2 {v w : Int32} (h : 1 ≤ v ∧ v ≤ 1000000) (h2 : ¬ (0 ≤ w ∧ w ≤ 1000)) : m_X7_addCredit n v w s = some (.inr 2, s) := by
  unfold m_X7_addCredit
  rw [p_isWithin, zBd_e, if_pos h, if_neg (by decide), p_isWithin, zBd_e, if_neg h2, if_pos rfl]; rfl
theorem R_creditAt1 {v w : Int32} (h : ¬ (0 ≤ v ∧ v ≤ 15)) : m_X7_creditAt n v w s = some (.inr 1, s) := by
  unfold m_X7_creditAt
  rw [L_bad h]; rfl
theorem R_creditAt2 {v w : Int32} (h : 0 ≤ v ∧ v ≤ 15) (h2 : w < 0) : m_X7_creditAt n v w s = some (.inr 1, s) := by
  unfold m_X7_creditAt
  rw [L_ok h, zBx_e, if_pos h2]; rfl
theorem R_creditAt3 {v w : Int32} (h : 0 ≤ v ∧ v ≤ 15) (h2 : ¬ w < 0) (h3 : s 16 4 ≤ w) : m_X7_creditAt n v w s = some (.inr 1, s) := by
  unfold m_X7_creditAt m_X2_size
  rw [L_ok h, zBx_e, if_neg h2, zBd_r, if_pos h3]; rfl
theorem R_afterCredits {v : Int32} (h : ¬ (0 ≤ v ∧ v ≤ 15)) : m_X7_afterCredits n v s = some (.inr 1, s) := by
  unfold m_X7_afterCredits
  rw [L_bad h]; rfl
theorem R_bestSum {v : Int32} (h : ¬ (0 ≤ v ∧ v ≤ 15)) : m_X7_bestSum n v s = some (.inr 1, s) := by
  unfold m_X7_bestSum
  rw [L_bad h]; rfl
/-- the years that an amount may not have -/
theorem yr_cases {y : Int32} (h1 : 0 ≤ y) (h2 : y ≤ 1000) : ¬ (y ≤ y - 1 ∧ y - 1 ≤ y + 20) ∧ ¬ (y ≤ y + 21 ∧ y + 21 ≤ y + 20) ∧ ¬ (y ≤ 2147483647 ∧ (2147483647 : Int32) ≤ y + 20) ∧ ¬ (y ≤ -2147483648 ∧ (-2147483648 : Int32) ≤ y + 20) := by
  obtain ⟨a, ha, rfl⟩ := nI_of (x := y) (fun q => Int32.not_lt.mpr h1 q)
  have hb : a ≤ 1000 := (nI_leI ha (b := 1000) (by decide)).mp h2
  have e20 : nI a + 20 = nI (a + 20) := nI_add a 20
  have e21 : nI a + 21 = nI (a + 21) := nI_add a 21
  refine ⟨fun q => ?_, fun q => ?_, fun q => ?_, fun q => ?_⟩
  · rcases a with _ | a
    · exact absurd q.1 (by decide)
    · rw [nI_pred] at q
      have := (nI_leI (by omega) (by omega)).mp q.1
      omega
  · rw [e20, e21] at q
    have := (nI_leI (by omega) (by omega)).mp q.2
    omega
  · rw [e20] at q
    have := (nI_leI (a := 2147483647) (by decide) (by omega)).mp q.2
    omega
  · have : (0 : Int32) ≤ -2147483648 := Int32.le_trans h1 q.1
    exact absurd this (by decide)
end PE3
