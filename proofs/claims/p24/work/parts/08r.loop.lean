section PLp
/-! the law's loop: lines that go downwards -/
theorem ne10 : ¬ (1 : Int32) = 0 := by decide
/-- what stands when the lines below k may be defined, each by lines below itself -/
def zJd (k : Nat) (x : zS) : Prop := zPn (x 2) (x 3) (x 4) (zo x) ∧ (∀ p, p < 16 → x 9 p = nI (zo x p)) ∧ (∀ i, i < 16 → ∀ j, j < 32 → bt (x 7 i) j = zR (x 2) (x 3) (x 4) i j) ∧ (∀ i, i < 16 → ∀ j, j < 32 → bt (x 8 i) j = zGr (zR (x 2) (x 3) (x 4)) i j) ∧ (∀ k, k < 16 → ∃ a, a ≤ 1000000 ∧ x 5 k = nI a) ∧ (∀ i, k ≤ i → i < 16 → x 2 i = 0 ∧ x 5 i = 0) ∧ (∀ i, i < 16 → ∀ j, zUb (x 2) (x 3) (x 4) false i j → j < i) ∧ (x 10 2 = 0 ∧ x 13 2 = 0 ∧ x 13 3 = 0 ∧ x 16 4 = 0) ∧ ∀ i, i < 16 → zBn (x 22 i)
theorem zUkk {s : zS} {k j : Nat} {v : Int32} : zU s k j v k = upd (s k) j v := by unfold zU; rw [if_pos rfl]
theorem dn_R {K F G : Nat → Int32} (hw : zWf K F G) (hd : ∀ i, i < 16 → ∀ j, zUb K F G false i j → j < i) {i j : Nat} (hi : i < 16) (h : zR K F G i j = true) : j < i := by
  refine zTC_min (fun i j => i < 16 → j < i) (fun i j hu hi => ?_) (fun i m j hm h1 h2 hi => Nat.lt_trans (h2 hm) (h1 hi)) h hi
  rcases Nat.lt_or_ge j 32 with hj | hj
  · exact hd i hi j ((use_bt hw hi false hj).mp hu)
  · rw [b_big hj] at hu; cases hu
theorem mk_dn {b : zS} (hw : zWf (b 2) (b 3) (b 4)) (hd : ∀ i, i < 16 → ∀ j, zUb (b 2) (b 3) (b 4) false i j → j < i) : ∃ s, m_X4_make 130 b = some (1, s) ∧ (∀ c, c ≠ 6 → c ≠ 7 → c ≠ 8 → c ≠ 9 → s c = b c) ∧ zPlan b s := by
  rcases p_make (n := 130) (by decide) hw with h | ⟨s, _, _, i, v, hi, hc, _⟩
  · exact h
  · exact absurd (dn_R hw hd hi hc) (Nat.lt_irrefl i)
theorem J_of {k : Nat} {b s : zS} (hw : zWf (b 2) (b 3) (b 4)) (hd : ∀ i, i < 16 → ∀ j, zUb (b 2) (b 3) (b 4) false i j → j < i) (fr : ∀ c, c ≠ 6 → c ≠ 7 → c ≠ 8 → c ≠ 9 → s c = b c) (hp : zPlan b s) (h5 : ∀ k, k < 16 → ∃ a, a ≤ 1000000 ∧ b 5 k = nI a) (hk : ∀ i, k ≤ i → i < 16 → b 2 i = 0 ∧ b 5 i = 0) (h0 : b 10 2 = 0 ∧ b 13 2 = 0 ∧ b 13 3 = 0 ∧ b 16 4 = 0) (h22 : ∀ i, i < 16 → zBn (b 22 i)) : zJd k s := by
  obtain ⟨p1, p2, _⟩ := zPlan_Pn hw hp
  obtain ⟨q1, q2, _⟩ := hp
  unfold zJd
  rw [fr 2 (by decide) (by decide) (by decide) (by decide), fr 3 (by decide) (by decide) (by decide) (by decide), fr 4 (by decide) (by decide) (by decide) (by decide), fr 5 (by decide) (by decide) (by decide) (by decide), fr 10 (by decide) (by decide) (by decide) (by decide), fr 13 (by decide) (by decide) (by decide) (by decide), fr 16 (by decide) (by decide) (by decide) (by decide), fr 22 (by decide) (by decide) (by decide) (by decide)]
  exact ⟨p1, p2, q1, q2, h5, hk, hd, h0, h22⟩
theorem J_start : ∃ s0, m_X4_make 130 (zU (zU z0 21 5 (-1 : Int32)) 23 5 (-1 : Int32)) = some (1, s0) ∧ zJd 1 s0 := by
  have e : ∀ c, c ≠ 21 → c ≠ 23 → zU (zU z0 21 5 (-1 : Int32)) 23 5 (-1 : Int32) c = fun _ => 0 := fun c h1 h2 => by rw [zU_ne h2, zU_ne h1]; rfl
  have hw : zWf (zU (zU z0 21 5 (-1 : Int32)) 23 5 (-1 : Int32) 2) (zU (zU z0 21 5 (-1 : Int32)) 23 5 (-1 : Int32) 3) (zU (zU z0 21 5 (-1 : Int32)) 23 5 (-1 : Int32) 4) := by
    rw [e 2 (by decide) (by decide), e 3 (by decide) (by decide), e 4 (by decide) (by decide)]
    intro i hi
    exact ⟨⟨0, by decide, nI_0.symm⟩, fun h => absurd rfl h, fun h => absurd h (show ¬ zTwo (0 : Int32) = true by decide), fun h => absurd h (show ¬ (0 : Int32) = 3 by decide)⟩
  have hd : ∀ i, i < 16 → ∀ j, zUb (zU (zU z0 21 5 (-1 : Int32)) 23 5 (-1 : Int32) 2) (zU (zU z0 21 5 (-1 : Int32)) 23 5 (-1 : Int32) 3) (zU (zU z0 21 5 (-1 : Int32)) 23 5 (-1 : Int32) 4) false i j → j < i := by
    rw [e 2 (by decide) (by decide), e 3 (by decide) (by decide), e 4 (by decide) (by decide)]
    intro i hi j hu
    rcases hu with ⟨h, _⟩ | ⟨h, _⟩
    · exact absurd rfl h
    · exact absurd h (show ¬ zTwo (0 : Int32) = true by decide)
  obtain ⟨s, s1, s2, s3⟩ := mk_dn hw hd
  refine ⟨s, s1, J_of hw hd s2 s3 ?_ ?_ ?_ ?_⟩
  · rw [e 5 (by decide) (by decide)]; exact fun k _ => ⟨0, by decide, nI_0.symm⟩
  · rw [e 2 (by decide) (by decide), e 5 (by decide) (by decide)]; exact fun i _ _ => ⟨rfl, rfl⟩
  · rw [e 10 (by decide) (by decide), e 13 (by decide) (by decide), e 16 (by decide) (by decide)]; exact ⟨rfl, rfl, rfl, rfl⟩
  · rw [e 22 (by decide) (by decide)]; exact fun i _ => zBn_0
theorem wf_up {K F G : Nat → Int32} (hw : zWf K F G) {k : Nat} {v2 v3 v4 : Int32} (h1 : ∃ a, a < 9 ∧ v2 = nI a) (h2 : v2 ≠ 0 → ∃ a, a < 16 ∧ v3 = nI a) (h3 : zTwo v2 = true → ∃ a, a < 16 ∧ v4 = nI a) (h4 : v2 = 3 → ∃ a, a ≤ 1000 ∧ v4 = nI a) : zWf (upd K k v2) (upd F k v3) (upd G k v4) := by
  intro i hi
  by_cases q : i = k
  · rw [q, upd_s, upd_s, upd_s]
    exact ⟨h1, h2, h3, h4⟩
  · rw [upd_n q, upd_n q, upd_n q]
    exact hw i hi
theorem dn_up {K F G : Nat → Int32} (hd : ∀ i, i < 16 → ∀ j, zUb K F G false i j → j < i) {k : Nat} {v2 v3 v4 : Int32} (h2 : v2 ≠ 0 → zNt v3 < k) (h3 : zTwo v2 = true → zNt v4 < k) : ∀ i, i < 16 → ∀ j, zUb (upd K k v2) (upd F k v3) (upd G k v4) false i j → j < i := by
  intro i hi j hu
  by_cases q : i = k
  · unfold zUb at hu
    rw [q, upd_s, upd_s, upd_s] at hu
    rw [q]
    rcases hu with ⟨a, rfl⟩ | ⟨a, _, rfl⟩
    · exact h2 a
    · exact h3 a
  · unfold zUb at hu
    rw [upd_n q, upd_n q, upd_n q] at hu
    exact hd i hi j hu
theorem p_set3 {n k : Nat} (hk : k < 16) (v2 v3 v4 : Int32) (s : zS) : m_X5_set n (nI k) v2 v3 v4 s = some (0, zU (zU (zU s 2 k v2) 3 k v3) 4 k v4) := by
  unfold m_X5_set
  rw [p_put hk (by decide), zBd_e, p_put hk (by decide), zBd_e, p_put hk (by decide), zBd_e]; rfl
theorem ln_n {a : Nat} (h : a < 16) : (0 : Int32) ≤ nI a ∧ nI a ≤ (15 : Int32) := ⟨nI_pos' (by omega), (nI_leI (b := 15) (by omega) (by decide)).mpr (by omega)⟩
theorem zTwo3 : zTwo 3 = false := by decide
/-- the way of a good definition, up to its trial -/
theorem def_way {k kd a b : Nat} (hk : k < 16) (hkd : kd < 9) (ha : a < 16) (hb : (kd = 3 ∧ b ≤ 1000) ∨ (kd ≠ 3 ∧ b < 16)) (x : zS) : m_X7_define 130 (nI k) (nI kd) (nI a) (nI b) x = m_X7_define_j73 130 (nI k) (nI kd) (nI a) (nI b) 1 x := by
  have h46 : (nI kd = 3 → b ≤ 1000) → m_X7_define_j46 130 (nI k) (nI kd) (nI a) (nI b) 1 x = m_X7_define_j73 130 (nI k) (nI kd) (nI a) (nI b) 1 x := by
    intro h
    unfold m_X7_define_j46
    rw [if_neg ne10]
    by_cases q3 : nI kd = 3
    · have h3 := h q3
      rw [if_pos q3, p_isWithin, zBd_e, if_pos (show (0 : Int32) ≤ nI b ∧ nI b ≤ (1000 : Int32) from ⟨nI_pos' (by omega), (nI_leI (b := 1000) (by omega) (by decide)).mpr h3⟩), if_neg ne10]
    · rw [if_neg q3]
  have k3 : nI kd = 3 ↔ kd = 3 := nI_eq (b := 3) (by omega) (by decide)
  have h46' := h46 (fun q => by rcases hb with h | h; exact h.2; exact absurd (k3.mp q) h.1)
  have h29 : m_X7_define_j29 130 (nI k) (nI kd) (nI a) (nI b) 1 x = m_X7_define_j73 130 (nI k) (nI kd) (nI a) (nI b) 1 x := by
    unfold m_X7_define_j29
    rw [if_neg ne10, p_takesSecond, zBd_e]
    by_cases qt : zTwo (nI kd) = true
    · have hb16 : b < 16 := by
        rcases hb with h | h
        · rw [k3.mpr h.1, zTwo3] at qt; cases qt
        · exact h.2
      rw [if_pos qt, if_neg ne10, L_ok (ln_n hb16), zBx_e, h46']
    · rw [if_neg qt, if_pos rfl, h46']
  unfold m_X7_define
  rw [L_ok (ln_n hk), zBx_e, p_isWithin, zBd_e, if_pos (show (0 : Int32) ≤ nI kd ∧ nI kd ≤ (8 : Int32) from ⟨nI_pos' (by omega), (nI_leI (b := 8) (by omega) (by decide)).mpr (by omega)⟩), if_neg ne10, p_takesFirst, zBd_e]
  by_cases q0 : nI kd = 0
  · rw [if_pos q0, if_pos rfl, h29]
  · rw [if_neg q0, if_neg ne10, L_ok (ln_n ha), zBx_e, h29]
theorem J_define {k kd a b : Nat} (h1 : 1 ≤ k) (h2 : k < 15) (hkd : kd < 9) (ha : a < k) (hb : (kd = 3 ∧ b ≤ 1000) ∨ (kd ≠ 3 ∧ b < k)) {x : zS} (hJ : zJd k x) : ∃ s, m_X7_define 130 (nI k) (nI kd) (nI a) (nI b) x = some (.inl 0, s) ∧ zJd (k + 1) s ∧ s 2 k = nI kd ∧ s 3 k = nI a ∧ s 5 k = 0 := by
  have hk : k < 16 := by omega
  obtain ⟨j1, _, _, _, j5, j6, j7, j8, j9⟩ := hJ
  have b2 : zU (zU (zU x 2 k (nI kd)) 3 k (nI a)) 4 k (nI b) 2 = upd (x 2) k (nI kd) := by rw [zU_ne (by decide), zU_ne (by decide), zUkk]
  have b3 : zU (zU (zU x 2 k (nI kd)) 3 k (nI a)) 4 k (nI b) 3 = upd (x 3) k (nI a) := by rw [zU_ne (by decide), zUkk, zU_ne (by decide)]
  have b4 : zU (zU (zU x 2 k (nI kd)) 3 k (nI a)) 4 k (nI b) 4 = upd (x 4) k (nI b) := by rw [zUkk, zU_ne (by decide), zU_ne (by decide)]
  have bn : ∀ c, c ≠ 2 → c ≠ 3 → c ≠ 4 → zU (zU (zU x 2 k (nI kd)) 3 k (nI a)) 4 k (nI b) c = x c := fun c c1 c2 c3 => by rw [zU_ne c3, zU_ne c2, zU_ne c1]
  have k3 : nI kd = 3 ↔ kd = 3 := nI_eq (b := 3) (by omega) (by decide)
  have hb16 : zTwo (nI kd) = true → b < k := fun q => by
    rcases hb with h | h
    · rw [k3.mpr h.1, zTwo3] at q; cases q
    · exact h.2
  have hw := wf_up j1.1 (k := k) (v2 := nI kd) (v3 := nI a) (v4 := nI b) ⟨kd, hkd, rfl⟩ (fun _ => ⟨a, by omega, rfl⟩) (fun q => ⟨b, by have := hb16 q; omega, rfl⟩) (fun q => ⟨b, by rcases hb with h | h; exact h.2; exact absurd (k3.mp q) h.1, rfl⟩)
  have hd := dn_up j7 (k := k) (v2 := nI kd) (v3 := nI a) (v4 := nI b) (fun _ => by rw [zN_n (by omega)]; exact ha) (fun q => by have := hb16 q; rw [zN_n (by omega)]; exact this)
  rw [def_way hk hkd (by omega) (by rcases hb with h | h; exact Or.inl h; exact Or.inr ⟨h.1, by omega⟩)]
  unfold m_X7_define_j73
  rw [A_ok, zBx_e, p_kind, zBd_e, p_first, zBd_e, p_second, zBd_e, p_set3 hk, zBd_e]
  generalize zU (zU (zU x 2 k (nI kd)) 3 k (nI a)) 4 k (nI b) = B at b2 b3 b4 bn ⊢
  obtain ⟨s, s1, s2, s3⟩ := mk_dn (b := B) (by rw [b2, b3, b4]; exact hw) (by rw [b2, b3, b4]; exact hd)
  rw [s1, zBd_e, if_neg ne10]
  have B5 : B 5 = x 5 := bn 5 (by decide) (by decide) (by decide)
  refine ⟨s, rfl, J_of (by rw [b2, b3, b4]; exact hw) (by rw [b2, b3, b4]; exact hd) s2 s3 (by rw [B5]; exact j5) (fun i q1 q2 => ?_) ?_ (by rw [bn 22 (by decide) (by decide) (by decide)]; exact j9), ?_, ?_, ?_⟩
  · rw [b2, B5, upd_n (by omega)]
    exact j6 i (by omega) q2
  · rw [bn 10 (by decide) (by decide) (by decide), bn 13 (by decide) (by decide) (by decide), bn 16 (by decide) (by decide) (by decide)]; exact j8
  · rw [s2 2 (by decide) (by decide) (by decide) (by decide), b2, upd_s]
  · rw [s2 3 (by decide) (by decide) (by decide) (by decide), b3, upd_s]
  · rw [s2 5 (by decide) (by decide) (by decide) (by decide), B5]; exact (j6 k (Nat.le_refl k) hk).2
theorem J_kind {k : Nat} (hk : k < 16) (s : zS) : m_X7_kindOf 130 (nI k) s = some (.inl (s 2 k), s) := by
  unfold m_X7_kindOf
  rw [L_ok (ln_n hk), zBx_e, p_kind, zBd_e, zAt_n hk (by decide)]; rfl
theorem J_dep {m k j : Nat} (hk : k < 16) (hj : j < 16) {s : zS} (hJ : zJd m s) : m_X7_dependsOn 130 (nI k) (nI j) s = some (.inl (if zR (s 2) (s 3) (s 4) k j = true then 1 else 0), s) := by
  unfold m_X7_dependsOn
  rw [L_ok (ln_n hk), zBx_e, L_ok (ln_n hj), zBx_e, p_reach, zBd_e, zAt_n hk (by decide), p_has, zBd_e, has_n (by omega), hJ.2.2.1 k hk j (by omega)]
  split
  · rw [zGd_e (by decide +kernel)]; rfl
  · rw [zGd_e (by decide +kernel)]; rfl
theorem J_ans {k w : Nat} (hk : k < 16) (hw : w ≤ 1000000) (s : zS) : m_X7_answer 130 (nI k) (nI w) s = some (.inl (s 5 k), zU s 5 k (nI w)) := by
  unfold m_X7_answer
  rw [L_ok (ln_n hk), zBx_e, p_isWithin, zBd_e, if_pos (show (0 : Int32) ≤ nI w ∧ nI w ≤ (1000000 : Int32) from ⟨nI_pos' (by omega), (nI_leI (b := 1000000) (by omega) (by decide)).mpr hw⟩), A_ok, zBx_e, p_given, zBd_e, zAt_n hk (by decide)]
  unfold m_X5_give
  rw [p_put hk (by decide), zBd_e]; rfl
theorem J_c {k : Nat} {x x' : zS} (h : zJd k x) (hc : ∀ c, c ≠ 5 → c ≠ 21 → c ≠ 22 → x' c = x c) (h5 : ∀ k, k < 16 → ∃ a, a ≤ 1000000 ∧ x' 5 k = nI a) (h6 : ∀ i, k ≤ i → i < 16 → x' 5 i = 0) (h22 : ∀ i, i < 16 → zBn (x' 22 i)) : zJd k x' := by
  obtain ⟨j1, j2, j3, j4, _, j6, j7, j8, _⟩ := h
  have z9 : zo x' = zo x := by funext p; unfold zo; rw [hc 9 (by decide) (by decide) (by decide)]
  unfold zJd
  rw [hc 2 (by decide) (by decide) (by decide), hc 3 (by decide) (by decide) (by decide), hc 4 (by decide) (by decide) (by decide), hc 7 (by decide) (by decide) (by decide), hc 8 (by decide) (by decide) (by decide), hc 9 (by decide) (by decide) (by decide), hc 10 (by decide) (by decide) (by decide), hc 13 (by decide) (by decide) (by decide), hc 16 (by decide) (by decide) (by decide), z9]
  exact ⟨j1, j2, j3, j4, h5, fun i q1 q2 => ⟨(j6 i q1 q2).1, h6 i q1 q2⟩, j7, j8, h22⟩
theorem tax_0 {s : zS} (h : s 10 2 = 0) (v : Int32) : m_X1_tax 130 v s = some (0, s) := by
  show m_X1_tax_j4 130 (129 + 1) v 0 0 s = _
  rw [m_X1_tax_j4, h, if_pos (by decide)]; rfl
theorem tot_0 {s : zS} (h : s 13 2 = 0) : m_X0_total 130 s = some (0, s) := by
  show m_X0_total_j4 130 (129 + 1) 0 0 s = _
  rw [m_X0_total_j4, h, if_pos (by decide)]; rfl
theorem J_Vs {k : Nat} {x : zS} (h : zJd k x) : zVs 130 x (fun _ => 0) 0 := by
  obtain ⟨j1, j2, j3, j4, j5, _, _, j8, _⟩ := h
  exact ⟨j1, j2, j3, j4, fun s' e1 _ _ v _ => tax_0 (by rw [e1]; exact j8.1) v, fun s' e1 _ => tot_0 (by rw [e1]; exact j8.2.1), fun _ _ => zBn_0, zBn_0, j5⟩
/-- line 15 is worth nothing, and all else stays -/
theorem J_val {k : Nat} (hk : k ≤ 15) {x : zS} (h : zJd k x) : ∃ s, m_X7_value 130 (15 : Int32) x = some (.inl 0, s) ∧ zJd k s ∧ ∀ c, c ≠ 21 → c ≠ 22 → s c = x c := by
  obtain ⟨e, e1, e2, e3⟩ := p_workOut (n := 130) (by decide) (-1) (J_Vs h) h.2.2.2.2.2.2.2.2
  have k15 : x 2 15 = 0 := (h.2.2.2.2.2.1 15 hk (by decide)).1
  have a15 : x 5 15 = 0 := (h.2.2.2.2.2.1 15 hk (by decide)).2
  have v15 : e 15 = 0 := by
    obtain ⟨p, hp, ep⟩ := zPn_pos h.1 (k := 15) (by decide)
    have := (e3 p hp).1 (fun q => absurd q.1 (by rw [ep, k15]; decide))
    rw [ep, zPv_0 k15, zAn_m, a15] at this
    exact this
  have fr : ∀ c, c ≠ 21 → c ≠ 22 → zSt (zU x 21 5 (-1 : Int32)) 22 e c = x c := fun c c1 c2 => by rw [zSt_n c2, zU_ne c1]
  refine ⟨zSt (zU x 21 5 (-1 : Int32)) 22 e, ?_, J_c h (fun c _ c1 c2 => fr c c1 c2) (by rw [fr 5 (by decide) (by decide)]; exact h.2.2.2.2.1) (fun i q1 q2 => by rw [fr 5 (by decide) (by decide)]; exact (h.2.2.2.2.2.1 i q1 q2).2) (by rw [zSt_s]; exact e2), fr⟩
  unfold m_X7_value
  rw [L_ok (by decide), zBx_e, e1, zBd_e, show (15 : Int32) = nI 15 from rfl, p_of, zBd_e, zAt_n (by decide) (by decide), zSt_s, v15]; rfl
theorem J_year {k : Nat} {x : zS} (h : zJd k x) : zNl (m_X7_year 130 x) = some (.inl 0, x) := by
  have : m_X7_year 130 x = some (x 13 3, x) := rfl
  rw [this, h.2.2.2.2.2.2.2.1.2.2.1]; rfl
theorem J_carried {k : Nat} {x : zS} (h : zJd k x) : zNl (m_X7_carried 130 x) = some (.inl 0, x) := by
  have : m_X7_carried 130 x = some (0, x) := by
    unfold m_X7_carried
    rw [tot_0 h.2.2.2.2.2.2.2.1.2.1]; rfl
  rw [this]; rfl
theorem J_ref {k : Nat} (hk : k ≤ 15) {x : zS} (h : zJd k x) : ∃ s, zRun (zRef 0 0 0) x s ∧ zJd k s := by
  obtain ⟨s1, e1, J1, f1⟩ := J_val hk h
  obtain ⟨s2, e2, J2, f2⟩ := J_val hk J1
  have k15 : s1 2 15 = 0 := (J1.2.2.2.2.2.1 15 hk (by decide)).1
  have k15b : s2 2 15 = 0 := (J2.2.2.2.2.2.1 15 hk (by decide)).1
  obtain ⟨_, t2, t3, t4⟩ := J1.2.2.2.2.2.2.2.1
  have ri : zRIs 0 s1 = some (.inl 0, s1) := by
    unfold zRIs
    rw [if_pos k15, if_pos t3, t2, if_pos (by decide), t4, if_pos (by decide)]; rfl
  have kd : m_X7_kindOf 130 (15 : Int32) s2 = some (.inl 0, s2) := by
    have := J_kind (k := 15) (by decide) s2
    rw [k15b] at this
    exact this
  exact ⟨s2, ⟨x, J_year h, x, J_carried h, s1, e1, s1, ri, s1, J_year J1, s1, J_carried J1, s2, e2, s2, kd, rfl⟩, J2⟩
/-- one round of the law's loop -/
theorem J_step {k kd a b w : Nat} (h1 : 1 ≤ k) (h2 : k < 15) (hkd : kd < 9) (ha : a < k) (hb : (kd = 3 ∧ b ≤ 1000) ∨ (kd ≠ 3 ∧ b < k)) (hw : w ≤ 1000000) {x : zS} (hJ : zJd k x) : ∃ s, m_X7_define 130 (nI k) (nI kd) (nI a) (nI b) x = some (.inl 0, s) ∧ m_X7_kindOf 130 (nI k) s = some (.inl (nI kd), s) ∧ zJd (k + 1) s ∧ (kd ≠ 0 → m_X7_dependsOn 130 (nI k) (nI a) s = some (.inl 1, s) ∧ m_X7_dependsOn 130 (nI k) (nI k) s = some (.inl 0, s) ∧ ∃ s2 s3, m_X7_answer 130 (nI k) (nI w) s = some (.inl 0, s2) ∧ zRun (zRef 0 0 0) s2 s3 ∧ zJd (k + 1) s3) := by
  have hk : k < 16 := by omega
  obtain ⟨s, e1, J1, k2, k3, k5⟩ := J_define h1 h2 hkd ha hb hJ
  refine ⟨s, e1, by rw [J_kind hk, k2], J1, fun h0 => ?_⟩
  have hne : nI kd ≠ 0 := nI_ne0 (by omega) (by omega)
  have r1 : zR (s 2) (s 3) (s 4) k a = true := zR_u J1.1.1 hk (Or.inl ⟨by rw [k2]; exact hne, by rw [k3, zN_n (by omega)]⟩)
  have r2 : ¬ zR (s 2) (s 3) (s 4) k k = true := fun q => absurd (dn_R J1.1.1 J1.2.2.2.2.2.2.1 hk q) (Nat.lt_irrefl k)
  have J2 : zJd (k + 1) (zU s 5 k (nI w)) := by
    have n5 : ∀ i, i ≠ k → zU s 5 k (nI w) 5 i = s 5 i := fun i q => zU_nj q
    refine J_c J1 (fun c c5 _ _ => zU_ne c5) (fun i hi => ?_) (fun i q1 q2 => ?_) (by rw [zU_ne (by decide)]; exact J1.2.2.2.2.2.2.2.2)
    · by_cases q : i = k
      · rw [q, zU_eq]; exact ⟨w, hw, rfl⟩
      · rw [n5 i q]; exact J1.2.2.2.2.1 i hi
    · rw [n5 i (by omega)]; exact (J1.2.2.2.2.2.1 i q1 q2).2
  obtain ⟨s3, r, J3⟩ := J_ref (k := k + 1) (by omega) J2
  exact ⟨by rw [J_dep hk (by omega) J1, if_pos r1], by rw [J_dep hk hk J1, if_neg r2], zU s 5 k (nI w), s3, by rw [J_ans hk hw, k5], r, J3⟩
end PLp
