section PDe
/-! define -/
theorem zInv_2 {y : Nat} {x m x' m' : zS} (h : zInv y x m) (i1' : zI1 x' m') (i2' : zI2 x') (hx : ∀ c, 9 < c → x' c = x c) (hm : ∀ c, 4 < c → c ≠ 13 → c ≠ 14 → m' c = m c) (h0 : ∀ j, j ≠ 23 → m' 0 j = m 0 j) : zInv y x' m' := by
  obtain ⟨_, _, i3, i4, i5, i6, i7⟩ := h
  have X : ∀ c, 9 < c → x' c = x c := hx
  have M : ∀ c, (4 < c ∧ c < 13) ∨ 14 < c → m' c = m c := fun c hc => hm c (by omega) (by omega) (by omega)
  exact ⟨i1', i2', zI3_c i3 (by rw [X 10 (by decide)]) (X 11 (by decide)) (X 12 (by decide)) (h0 4 (by decide)) (M 5 (by decide)) (M 6 (by decide)),
    zI4_c i4 (X 13 (by decide)) (X 14 (by decide)) (X 15 (by decide)) (h0 7 (by decide)) (h0 8 (by decide)) (M 7 (by decide)) (M 8 (by decide)),
    zI5_c i5 (X 16 (by decide)) (X 17 (by decide)) (X 18 (by decide)) (X 20 (by decide)) (h0 11 (by decide)) (M 9 (by decide)) (M 10 (by decide)) (M 18 (by decide)),
    zI6_c i6 (X 22 (by decide)) (X 24 (by decide)), zI7_c i7 (M 11 (by decide)) (M 12 (by decide))⟩
theorem zI2_of {b s : zS} (hw : zWf (b 2) (b 3) (b 4)) (hp : zPlan b s) (e2 : s 2 = b 2) (e3 : s 3 = b 3) (e4 : s 4 = b 4) (h5 : ∀ k, k < 16 → ∃ a, a ≤ 1000000 ∧ s 5 k = nI a) : zI2 s := by
  obtain ⟨p1, p2, p3⟩ := zPlan_Pn hw hp
  obtain ⟨q1, q2, _⟩ := hp
  unfold zI2
  rw [e2, e3, e4]
  exact ⟨p1, p2, q1, q2, p3, h5⟩
theorem wf_upd {K F G : Nat → Int32} (hw : zWf K F G) {k : Nat} {v2 v3 v4 : Int32} (h1 : ∃ a, a < 9 ∧ v2 = nI a) (h2 : v2 ≠ 0 → ∃ a, a < 16 ∧ v3 = nI a) (h3 : zTwo v2 = true → ∃ a, a < 16 ∧ v4 = nI a) (h4 : v2 = 3 → ∃ a, a ≤ 1000 ∧ v4 = nI a) : zWf (upd K k v2) (upd F k v3) (upd G k v4) := by
  intro i hi
  by_cases q : i = k
  · rw [q, upd_s, upd_s, upd_s]
    exact ⟨h1, h2, h3, h4⟩
  · rw [upd_n q, upd_n q, upd_n q]
    exact hw i hi
theorem p_setl {n k : Nat} (hk : k < 16) (v2 v3 v4 : Int32) (s : zS) : m_X5_set n (nI k) v2 v3 v4 s = some (0, zU (zU (zU s 2 k v2) 3 k v3) 4 k v4) := by
  unfold m_X5_set
  rw [p_put hk (by decide), zBd_e, p_put hk (by decide), zBd_e, p_put hk (by decide), zBd_e]; rfl
/-- a definition that may be tried -/
theorem define_core {n y k : Nat} (hn : 100 ≤ n) {v2 v3 v4 : Int32} (x m : zS) (h : zInv y x m) (hk : k < 16) (h1 : ∃ a, a < 9 ∧ v2 = nI a) (h2 : v2 ≠ 0 → ∃ a, a < 16 ∧ v3 = nI a) (h3 : zTwo v2 = true → ∃ a, a < 16 ∧ v4 = nI a) (h4 : v2 = 3 → ∃ a, a ≤ 1000 ∧ v4 = nI a) : zCall y [(1, 1), (2, 2), (3, 3)] (m_X7_define_j73 n (nI k) v2 v3 v4 1 x) (m_X8_define_j122 n (nI k) v2 v3 v4 0 m) := by
  obtain ⟨⟨j2, j3, j4, j5⟩, ⟨k1, k2, k3, k4, k5, k6⟩, _, _, _, _, _⟩ := id h
  have hw := k1.1
  have hw' := wf_upd hw (k := k) h1 h2 h3 h4
  have b2 : zU (zU (zU x 2 k v2) 3 k v3) 4 k v4 2 = upd (x 2) k v2 := by rw [zU_ne (by decide), zU_ne (by decide), zU_k]
  have b3 : zU (zU (zU x 2 k v2) 3 k v3) 4 k v4 3 = upd (x 3) k v3 := by rw [zU_ne (by decide), zU_k, zU_ne (by decide)]
  have b4 : zU (zU (zU x 2 k v2) 3 k v3) 4 k v4 4 = upd (x 4) k v4 := by rw [zU_k, zU_ne (by decide), zU_ne (by decide)]
  have bn : ∀ c, c ≠ 2 → c ≠ 3 → c ≠ 4 → zU (zU (zU x 2 k v2) 3 k v3) 4 k v4 c = x c := fun c c1 c2 c3 => by rw [zU_ne c3, zU_ne c2, zU_ne c1]
  have a1 : zU (zU (zU (zU m 0 23 0) 1 k v2) 2 k v3) 3 k v4 1 = upd (x 2) k v2 := by rw [zU_ne (by decide), zU_ne (by decide), zU_k, zU_ne (by decide), j2]
  have a2 : zU (zU (zU (zU m 0 23 0) 1 k v2) 2 k v3) 3 k v4 2 = upd (x 3) k v3 := by rw [zU_ne (by decide), zU_k, zU_ne (by decide), zU_ne (by decide), j3]
  have a3 : zU (zU (zU (zU m 0 23 0) 1 k v2) 2 k v3) 3 k v4 3 = upd (x 4) k v4 := by rw [zU_k, zU_ne (by decide), zU_ne (by decide), zU_ne (by decide), j4]
  have an : ∀ c, c ≠ 0 → c ≠ 1 → c ≠ 2 → c ≠ 3 → zU (zU (zU (zU m 0 23 0) 1 k v2) 2 k v3) 3 k v4 c = m c := fun c c0 c1 c2 c3 => by rw [zU_ne c3, zU_ne c2, zU_ne c1, zU_ne c0]
  have a0 : ∀ j, j ≠ 23 → zU (zU (zU (zU m 0 23 0) 1 k v2) 2 k v3) 3 k v4 0 j = m 0 j := fun j hj => by rw [zU_ne (by decide), zU_ne (by decide), zU_ne (by decide), zU_nj hj]
  have a023 : zU (zU (zU (zU m 0 23 0) 1 k v2) 2 k v3) 3 k v4 0 23 = 0 := by rw [zU_ne (by decide), zU_ne (by decide), zU_ne (by decide), zU_eq]
  unfold m_X7_define_j73 m_X8_define_j122
  rw [ca1, zBx_e, p_kind, zBd_e, p_first, zBd_e, p_second, zBd_e, a16 hk, a16 hk, a16 hk, p_setl hk, zBd_e]
  rw [zLt_e, zU_eq, if_pos le00, zRd_n hk (by decide), zRd_n hk (by decide), zRd_n hk (by decide), zWr_n hk (by decide), zWr_n hk (by decide), zWr_n hk (by decide), zU_ne (a := 1) (k := 0) (by decide), zU_ne (a := 2) (k := 0) (by decide), zU_ne (a := 3) (k := 0) (by decide)]
  generalize zU (zU (zU x 2 k v2) 3 k v3) 4 k v4 = b at b2 b3 b4 bn ⊢
  generalize zU (zU (zU (zU m 0 23 0) 1 k v2) 2 k v3) 3 k v4 = A at a1 a2 a3 an a0 a023 ⊢
  obtain ⟨r, A', f1, f2, f3, f4⟩ := q_isAllowed hn (s := A) (by rw [a1, a2, a3]; exact hw')
  rw [a1, a2, a3] at f3 f4
  rw [f1, zBd_e]
  rcases p_make hn (b := b) (by rw [b2, b3, b4]; exact hw') with ⟨s, s1, s2, s3⟩ | ⟨s, s1, s2, s3⟩
  · have hal := (zPlan_Pn (by rw [b2, b3, b4]; exact hw') s3).2.2
    rw [b2, b3, b4] at hal
    rw [s1, zBd_e, if_neg ne10, f3 hal, if_neg ne10]
    have S2 : s 2 = b 2 := s2 2 (by decide) (by decide) (by decide) (by decide)
    have S3 : s 3 = b 3 := s2 3 (by decide) (by decide) (by decide) (by decide)
    have S4 : s 4 = b 4 := s2 4 (by decide) (by decide) (by decide) (by decide)
    have S5 : s 5 = x 5 := by rw [s2 5 (by decide) (by decide) (by decide) (by decide), bn 5 (by decide) (by decide) (by decide)]
    refine Or.inl ⟨_, _, _, rfl, rfl, ?_, zInv_2 h ⟨?_, ?_, ?_, ?_⟩ (zI2_of (by rw [b2, b3, b4]; exact hw') s3 S2 S3 S4 (by rw [S5]; exact k6)) (fun c hc => by rw [s2 c (by omega) (by omega) (by omega) (by omega), bn c (by omega) (by omega) (by omega)]) (fun c c1 c2 c3 => by rw [f2 c c2 c3, an c (by omega) (by omega) (by omega) (by omega)]) (fun j hj => by rw [f2 0 (by decide) (by decide), a0 j hj])⟩
    · rw [f2 0 (by decide) (by decide), a023]
    · rw [S2, b2, f2 1 (by decide) (by decide), a1]
    · rw [S3, b3, f2 2 (by decide) (by decide), a2]
    · rw [S4, b4, f2 3 (by decide) (by decide), a3]
    · rw [S5, f2 4 (by decide) (by decide), an 4 (by decide) (by decide) (by decide) (by decide), j5]
  · rw [b2, b3, b4] at s3
    rw [s1, zBd_e, if_pos rfl, f4 s3, if_pos rfl, p_setl hk, zBd_e, zWr_n hk (by decide), zWr_n hk (by decide), zWr_n hk (by decide), zLt_e]
    have S : ∀ c, c ≠ 6 → c ≠ 7 → c ≠ 8 → c ≠ 9 → s c = b c := s2
    have t2 : zU (zU (zU s 2 k (x 2 k)) 3 k (x 3 k)) 4 k (x 4 k) 2 = x 2 := by rw [zU_ne (by decide), zU_ne (by decide), zU_k, S 2 (by decide) (by decide) (by decide) (by decide), b2, upd_2, upd_self]
    have t3 : zU (zU (zU s 2 k (x 2 k)) 3 k (x 3 k)) 4 k (x 4 k) 3 = x 3 := by rw [zU_ne (by decide), zU_k, zU_ne (by decide), S 3 (by decide) (by decide) (by decide) (by decide), b3, upd_2, upd_self]
    have t4 : zU (zU (zU s 2 k (x 2 k)) 3 k (x 3 k)) 4 k (x 4 k) 4 = x 4 := by rw [zU_k, zU_ne (by decide), zU_ne (by decide), S 4 (by decide) (by decide) (by decide) (by decide), b4, upd_2, upd_self]
    have tn : ∀ c, c ≠ 2 → c ≠ 3 → c ≠ 4 → c ≠ 6 → c ≠ 7 → c ≠ 8 → c ≠ 9 → zU (zU (zU s 2 k (x 2 k)) 3 k (x 3 k)) 4 k (x 4 k) c = x c := fun c c1 c2 c3 c4 c5 c6 c7 => by rw [zU_ne c3, zU_ne c2, zU_ne c1, S c c4 c5 c6 c7, bn c c1 c2 c3]
    generalize zU (zU (zU s 2 k (x 2 k)) 3 k (x 3 k)) 4 k (x 4 k) = T at t2 t3 t4 tn ⊢
    rcases p_make hn (b := T) (by rw [t2, t3, t4]; exact hw) with ⟨u, u1, u2, u3⟩ | ⟨u, u1, u2, u3⟩
    · rw [u1, zBd_e]
      have U2 : u 2 = T 2 := u2 2 (by decide) (by decide) (by decide) (by decide)
      have U3 : u 3 = T 3 := u2 3 (by decide) (by decide) (by decide) (by decide)
      have U4 : u 4 = T 4 := u2 4 (by decide) (by decide) (by decide) (by decide)
      have U5 : u 5 = x 5 := by rw [u2 5 (by decide) (by decide) (by decide) (by decide), tn 5 (by decide) (by decide) (by decide) (by decide) (by decide) (by decide) (by decide)]
      refine Or.inr ⟨3, 3, _, _, _, fun _ _ => rfl, by decide, rfl, rfl, zU_eq, zInv_2 h ⟨?_, ?_, ?_, ?_⟩ (zI2_of (by rw [t2, t3, t4]; exact hw) u3 U2 U3 U4 (by rw [U5]; exact k6)) (fun c hc => by rw [u2 c (by omega) (by omega) (by omega) (by omega), tn c (by omega) (by omega) (by omega) (by omega) (by omega) (by omega) (by omega)]) (fun c c1 c2 c3 => by rw [zU_ne (by omega), zU_ne (by omega), zU_ne (by omega), zU_ne (by omega), f2 c c2 c3, an c (by omega) (by omega) (by omega) (by omega)]) (fun j hj => by rw [zU_nj hj, zU_ne (by decide), zU_ne (by decide), zU_ne (by decide), f2 0 (by decide) (by decide), a0 j hj])⟩
      · rw [U2, t2, zU_ne (by decide), zU_ne (by decide), zU_ne (by decide), zU_k, f2 1 (by decide) (by decide), a1, ← j2, upd_2, upd_self]
      · rw [U3, t3, zU_ne (by decide), zU_ne (by decide), zU_k, zU_ne (by decide), f2 2 (by decide) (by decide), a2, ← j3, upd_2, upd_self]
      · rw [U4, t4, zU_ne (by decide), zU_k, zU_ne (by decide), zU_ne (by decide), f2 3 (by decide) (by decide), a3, ← j4, upd_2, upd_self]
      · rw [U5, zU_ne (by decide), zU_ne (by decide), zU_ne (by decide), zU_ne (by decide), f2 4 (by decide) (by decide), an 4 (by decide) (by decide) (by decide) (by decide), j5]
    · exfalso
      rw [t2, t3, t4] at u3
      obtain ⟨r', B', g1, _, g3, g4⟩ := q_isAllowed hn (s := m) (by rw [← j2, ← j3, ← j4]; exact hw)
      rw [← j2, ← j3, ← j4] at g3 g4
      have := (g3 k5).symm.trans (g4 u3)
      exact absurd this ne10
theorem C_define {n y : Nat} (hn : 100 ≤ n) {v1 v2 v3 v4 : Int32} (x m : zS) (h : zInv y x m) : zCall y [(1, 1), (2, 2), (3, 3)] (m_X7_define n v1 v2 v3 v4 x) (m_X8_define n v1 v2 v3 v4 m) := by
  have thr1 : ∀ a b c d, m_X8_define_j122 n a b c d 1 m = some (0, zU m 0 23 1) := by
    intro a b c d
    unfold m_X8_define_j122
    rw [zLt_e, zU_eq, if_neg (by decide)]; rfl
  have thr2 : ∀ a b c d, m_X8_define_j122 n a b c d 2 m = some (0, zU m 0 23 2) := by
    intro a b c d
    unfold m_X8_define_j122
    rw [zLt_e, zU_eq, if_neg (by decide)]; rfl
  have bad1 : zCall y [(1, 1), (2, 2), (3, 3)] (some (.inr 1, x)) (some (0, zU m 0 23 1)) := Or.inr ⟨1, 1, 0, _, zU m 0 23 1, fun _ _ => rfl, by decide, rfl, rfl, zU_eq, zInv_t h _⟩
  have bad2 : zCall y [(1, 1), (2, 2), (3, 3)] (some (.inr 2, x)) (some (0, zU m 0 23 2)) := Or.inr ⟨2, 2, 0, _, zU m 0 23 2, fun _ _ => rfl, by decide, rfl, rfl, zU_eq, zInv_t h _⟩
  have ref : m_X8_define n v1 v2 v3 v4 m = m_X8_define_j31 n v1 v2 v3 v4 (if zTwo v2 then 1 else 0) m := by
    unfold m_X8_define m_X8_define_j26
    by_cases q1 : v2 = 1
    · rw [if_pos q1, q1]; rfl
    · rw [if_neg q1]
      by_cases q2 : v2 = 2
      · rw [if_pos q2, q2]; rfl
      · rw [if_neg q2]
        by_cases q4 : v2 = 4
        · rw [if_pos q4, q4]; rfl
        · rw [if_neg q4]
          by_cases q5 : v2 = 5
          · rw [if_pos q5, q5]; rfl
          · rw [if_neg q5]
            by_cases q8 : v2 = 8
            · rw [if_pos q8, q8]; rfl
            · rw [if_neg q8]
              have : zTwo v2 = false := by
                unfold zTwo
                simp [q1, q2, q4, q5, q8]
              rw [this]; rfl
  rw [ref]
  unfold m_X7_define m_X8_define_j31
  rcases line_cases n v1 with ⟨k, hk, rfl, c1, c2⟩ | ⟨c1, c2⟩
  · rw [c1, zBx_e]
    rcases in_cases 0 8 0 8 rfl rfl (by omega) (by omega) v2 with ⟨a, _, ha, ea, d1, d2⟩ | ⟨d1, d2⟩
    · rw [d1, zBd_e, d2, zBd_e, c2, zBd_e, if_neg ne10, if_neg ne10, if_neg ne10, p_takesFirst, zBd_e]
      -- behind the first line
      have tail : (v2 ≠ 0 → ∃ b, b < 16 ∧ v3 = nI b) → zCall y [(1, 1), (2, 2), (3, 3)] (m_X7_define_j29 n (nI k) v2 v3 v4 1 x) (m_X8_define_j65 n (nI k) v2 v3 v4 (if zTwo v2 then 1 else 0) 1 m) := by
        intro h2
        have fin : (zTwo v2 = true → ∃ b, b < 16 ∧ v4 = nI b) → zCall y [(1, 1), (2, 2), (3, 3)] (m_X7_define_j46 n (nI k) v2 v3 v4 1 x) (m_X8_define_j83 n (nI k) v2 v3 v4 1 1 m) := by
          intro h3
          unfold m_X7_define_j46 m_X8_define_j83
          rw [if_neg ne10, if_neg ne10, if_neg ne10]
          by_cases q3 : v2 = 3
          · rw [if_pos q3, if_pos q3]
            rcases in_cases 0 1000 0 1000 rfl rfl (by omega) (by omega) v4 with ⟨b, _, hb, eb, g1, g2⟩ | ⟨g1, g2⟩
            · rw [g1, zBd_e, g2, zBd_e, if_neg ne10, if_neg ne10]
              exact define_core hn x m h hk ⟨a, by omega, ea⟩ h2 h3 (fun _ => ⟨b, hb, eb⟩)
            · rw [g1, zBd_e, g2, zBd_e, if_pos rfl, if_pos rfl, thr2]
              unfold m_X7_define_j73
              rw [ca0, zBx_t]
              exact bad2
          · rw [if_neg q3, if_neg q3]
            exact define_core hn x m h hk ⟨a, by omega, ea⟩ h2 h3 (fun e => absurd e q3)
        unfold m_X7_define_j29 m_X8_define_j65
        rw [if_neg ne10, p_takesSecond, zBd_e]
        by_cases q : zTwo v2 = true
        · rw [if_pos q, if_neg ne10, if_neg ne10]
          rcases line_cases n v4 with ⟨b, hb, eb, g1, g2⟩ | ⟨g1, g2⟩
          · rw [g1, zBx_e, g2, zBd_e, if_neg ne10]
            exact fin (fun _ => ⟨b, hb, eb⟩)
          · rw [g1, zBx_t, g2, zBd_e, if_pos rfl]
            unfold m_X8_define_j83
            rw [if_pos rfl, thr1]
            exact bad1
        · rw [if_neg q, if_pos rfl, if_pos rfl]
          exact fin (fun e => absurd e q)
      by_cases q0 : v2 = 0
      · rw [if_pos q0, if_pos rfl, if_pos q0]
        exact tail (fun e => absurd q0 e)
      · rw [if_neg q0, if_neg ne10, if_neg q0]
        rcases line_cases n v3 with ⟨b, hb, eb, g1, g2⟩ | ⟨g1, g2⟩
        · rw [g1, zBx_e, g2, zBd_e, if_neg ne10]
          exact tail (fun _ => ⟨b, hb, eb⟩)
        · rw [g1, zBx_t, g2, zBd_e, if_pos rfl]
          unfold m_X8_define_j83
          rw [if_pos rfl, thr1]
          exact bad1
    · -- a kind that there is not
      have ntwo : zTwo v2 = false := by
        have hz : ∀ c : Int32, (∀ n s, m_X7_isWithin n c 0 8 s = some (0, s)) → zTwo c = false := by
          intro c hc
          have hne : ∀ d : Int32, m_X7_isWithin 0 d 0 8 x = some (1, x) → c ≠ d := by
            intro d hd e
            have := (hc 0 x).symm.trans (e ▸ hd)
            have e01 : (0 : Int32) = 1 := congrArg (fun q => match q with | some (a, _) => a | none => (0 : Int32)) this
            exact absurd e01 (by decide)
          unfold zTwo
          have w1 := hne 1 (by rw [p_isWithin, if_pos (by decide)])
          have w2 := hne 2 (by rw [p_isWithin, if_pos (by decide)])
          have w4 := hne 4 (by rw [p_isWithin, if_pos (by decide)])
          have w5 := hne 5 (by rw [p_isWithin, if_pos (by decide)])
          have w8 := hne 8 (by rw [p_isWithin, if_pos (by decide)])
          simp [w1, w2, w4, w5, w8]
        exact hz v2 d1
      rw [d1, zBd_e, d2, zBd_e, c2, zBd_e, if_pos rfl, if_neg ne10, if_pos rfl, ntwo]
      unfold m_X7_define_j29 m_X8_define_j65 m_X7_define_j46 m_X8_define_j83 m_X7_define_j73
      rw [if_pos rfl, if_pos rfl, ca0, zBx_t, if_pos (by decide), if_neg ne10, if_pos rfl, thr2]
      exact bad2
  · rw [c1, zBx_t]
    rcases in_cases 0 8 0 8 rfl rfl (by omega) (by omega) v2 with ⟨a, _, ha, ea, d1, d2⟩ | ⟨d1, d2⟩
    · rw [d2, zBd_e, c2, zBd_e, if_pos rfl]
      unfold m_X8_define_j83
      rw [if_pos rfl, thr1]
      exact bad1
    · rw [d2, zBd_e, c2, zBd_e, if_pos rfl]
      unfold m_X8_define_j83
      rw [if_pos rfl, thr1]
      exact bad1
end PDe
