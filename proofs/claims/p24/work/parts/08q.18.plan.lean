section PPn
/-! the plan, for values -/
def zCl (K F G : Nat → Int32) (k : Nat) : Prop := K k = 8 ∧ zR K F G k k = true
def zGpr (K F G : Nat → Int32) (L k : Nat) : Prop := k = L ∨ (zR K F G L k = true ∧ zR K F G k L = true)
def zExt (K F G : Nat → Int32) (o : Nat → Nat) (p c : Nat) : Prop := 0 < c ∧ p + c ≤ 16 ∧ (∀ q, p ≤ q → q < p + c → zGpr K F G (o p) (o q)) ∧ ∀ j, j < 16 → zGpr K F G (o p) j → ∃ q, p ≤ q ∧ q < p + c ∧ o q = j
def zPn (K F G : Nat → Int32) (o : Nat → Nat) : Prop := zWf K F G ∧ (∀ p, p < 16 → o p < 16) ∧ (∀ p q, p < 16 → q < 16 → o p = o q → p = q) ∧ (∀ p, p < 16 → (K (o p) ≠ 0 → ∃ q, q < p ∧ o q = zNt (F (o p))) ∧ (zTwo (K (o p)) = true → ¬ zCl K F G (o p) → ∃ q, q < p ∧ o q = zNt (G (o p)))) ∧ (∀ p, p < 16 → zCl K F G (o p) → ∃ c, zExt K F G o p c) ∧ ∀ k, k < 16 → zCl K F G k → (∀ j, j < 16 → zR K F G k j = true → zR K F G j k = true → K j = 8 → j = k) ∧ ¬ (zR K F G k (zNt (F k)) = true ∧ zR K F G (zNt (F k)) k = true)
theorem zPn_pos {K F G : Nat → Int32} {o : Nat → Nat} (h : zPn K F G o) {k : Nat} (hk : k < 16) : ∃ p, p < 16 ∧ o p = k := pig16 h.2.1 h.2.2.1 hk
theorem zPn_ex {K F G : Nat → Int32} {o : Nat → Nat} (h : zPn K F G o) {p : Nat} (hp : p < 16) (h8 : K (o p) = 8) : ∃ c, zExt K F G o p c := by
  by_cases hc : zR K F G (o p) (o p) = true
  · exact h.2.2.2.2.1 p hp ⟨h8, hc⟩
  · refine ⟨1, by omega, by omega, fun q h1 h2 => Or.inl (by rw [show q = p by omega]), fun j hj hg => ⟨p, Nat.le_refl _, by omega, ?_⟩⟩
    rcases hg with e | ⟨h1, h2⟩
    · exact e.symm
    · exact absurd (zTC_tr hj h1 h2) hc
theorem zEx_n8 {K F G : Nat → Int32} {o : Nat → Nat} (h : zPn K F G o) {p c : Nat} (h8 : K (o p) = 8) (hx : zExt K F G o p c) {q : Nat} (h1 : p < q) (h2 : q < p + c) : ¬ K (o q) = 8 := by
  intro hq
  have hp16 : p < 16 := by have := hx.2.1; omega
  have hq16 : q < 16 := by have := hx.2.1; omega
  rcases hx.2.2.1 q (by omega) h2 with e | ⟨a, b⟩
  · have := h.2.2.1 q p hq16 hp16 e; omega
  · have hcl : zCl K F G (o p) := ⟨h8, zTC_tr (h.2.1 q hq16) a b⟩
    have := (h.2.2.2.2.2 (o p) (h.2.1 p hp16) hcl).1 (o q) (h.2.1 q hq16) a b hq
    have := h.2.2.1 q p hq16 hp16 this; omega
/-- what a line uses lies before it, if it is no LIMIT of a circle -/
theorem zPn_use {K F G : Nat → Int32} {o : Nat → Nat} (h : zPn K F G o) {p : Nat} (hp : p < 16) (hn : ¬ zCl K F G (o p)) : ∀ j, j < 16 → zUb K F G false (o p) j → ∃ q, q < p ∧ o q = j := by
  intro j _ hu
  rcases hu with ⟨a, e⟩ | ⟨a, _, e⟩
  · rw [e]; exact (h.2.2.2.1 p hp).1 a
  · rw [e]; exact (h.2.2.2.1 p hp).2 a hn
theorem zEx_use {K F G : Nat → Int32} {o : Nat → Nat} (h : zPn K F G o) {p c : Nat} (h8 : K (o p) = 8) (hx : zExt K F G o p c) : ∀ r, p + 1 ≤ r → r < p + 1 + (c - 1) → ∀ j, j < 16 → zUb K F G false (o r) j → ∃ t, t < r ∧ o t = j := by
  intro r h1 h2
  have := hx.2.1
  exact zPn_use h (by omega) (fun q => zEx_n8 h h8 hx (by omega) (by have := hx.1; omega) q.1)
/-- the second line of a circle's LIMIT lies in the circle -/
theorem zCl_g {K F G : Nat → Int32} {o : Nat → Nat} (h : zPn K F G o) {k : Nat} (hk : k < 16) (hc : zCl K F G k) : zGpr K F G k (zNt (G k)) := by
  have hw := h.1
  have ht : zTwo (K k) = true := by rw [hc.1]; decide
  have hg := (zWf_g hw hk ht).1
  have hkG : zR K F G k (zNt (G k)) = true := zR_u hw hk (Or.inr ⟨ht, rfl, rfl⟩)
  have hF := (h.2.2.2.2.2 k hk hc).2
  have hkF : zR K F G k (zNt (F k)) = true := zR_u hw hk (Or.inl ⟨zTwo_ne ht, rfl⟩)
  rcases zTC_first hc.2 with hb | ⟨m, hm, hb, hr⟩
  · rcases (use_bt hw hk false (by omega)).mp hb with ⟨_, e⟩ | ⟨_, _, e⟩
    · exact absurd ⟨hkF, by rw [← e]; exact hc.2⟩ hF
    · exact Or.inl e.symm
  · rcases (use_bt hw hk false (by omega)).mp hb with ⟨_, e⟩ | ⟨_, _, e⟩
    · exact absurd ⟨hkF, by rw [← e]; exact hr⟩ hF
    · exact Or.inr ⟨hkG, by rw [← e]; exact hr⟩
theorem zSup_last {pv : (Nat → Int32) → Nat → Int32} {o : Nat → Nat} : ∀ m q e, zSup pv o q (m + 1) e = upd (zSup pv o q m e) (o (q + m)) (pv (zSup pv o q m e) (o (q + m))) := by
  intro m
  induction m with
  | zero => intro q e; rfl
  | succ m ih =>
    intro q e
    rw [zSup, ih (q + 1), zSup, show q + 1 + m = q + (m + 1) by omega]
/-- cell k replaced -/
def zSt (s : zS) (k : Nat) (f : Nat → Int32) : zS := fun i => if i = k then f else s i
theorem zSt_s {s : zS} {k : Nat} {f : Nat → Int32} : zSt s k f k = f := by unfold zSt; rw [if_pos rfl]
theorem zSt_n {s : zS} {k c : Nat} {f : Nat → Int32} (h : c ≠ k) : zSt s k f c = s c := by unfold zSt; rw [if_neg h]
theorem zSt_u {s : zS} {k j : Nat} {f : Nat → Int32} {v : Int32} : zU (zSt s k f) k j v = zSt s k (upd f j v) := by
  funext i
  by_cases h : i = k
  · subst h; unfold zU; rw [if_pos rfl, zSt_s, zSt_s]
  · rw [zU_ne h, zSt_n h, zSt_n h]
theorem zSt_i {s : zS} {k : Nat} : zSt s k (s k) = s := by
  funext i
  by_cases h : i = k
  · subst h; rw [zSt_s]
  · rw [zSt_n h]
def zAn (an : Nat → Int32) (r : Int32) : Nat → Int32 := fun k => if k < 16 ∧ nI k = r then an k + 1 else an k
theorem zAn_m {an : Nat → Int32} : zAn an (-1) = an := by
  funext k
  unfold zAn
  rw [if_neg (fun q => zn_L q.1 q.2)]
theorem zAn_u {an : Nat → Int32} {L : Nat} (hL : L < 16) : zAn an (nI L) = upd an L (an L + 1) := by
  funext k
  unfold zAn
  by_cases h : k = L
  · subst h; rw [if_pos ⟨hL, rfl⟩, pk_us]
  · rw [if_neg (fun q => h ((eq_n (by omega) (by omega)).mp q.2)), pk_un h]
/-- values can be worked out -/
def zVs (n : Nat) (s : zS) (tx : Int32 → Int32) (tot : Int32) : Prop := zPn (s 2) (s 3) (s 4) (zo s) ∧ (∀ p, p < 16 → s 9 p = nI (zo s p)) ∧ (∀ i, i < 16 → ∀ j, j < 32 → bt (s 7 i) j = zR (s 2) (s 3) (s 4) i j) ∧ (∀ i, i < 16 → ∀ j, j < 32 → bt (s 8 i) j = zGr (zR (s 2) (s 3) (s 4)) i j) ∧ (∀ s', s' 10 = s 10 → s' 11 = s 11 → s' 12 = s 12 → ∀ x, zBn x → m_X1_tax n x s' = some (tx x, s')) ∧ (∀ s', s' 13 = s 13 → s' 14 = s 14 → m_X0_total n s' = some (tot, s')) ∧ (∀ x, zBn x → zBn (tx x)) ∧ zBn tot ∧ ∀ k, k < 16 → ∃ a, a ≤ 1000000 ∧ s 5 k = nI a
theorem zVs_c {n : Nat} {s s' : zS} {tx : Int32 → Int32} {tot : Int32} (h : zVs n s tx tot) (hf : ∀ c, c < 15 → s' c = s c) : zVs n s' tx tot := by
  obtain ⟨a, b, c, d, e, f, g, i, j⟩ := h
  have z9 : zo s' = zo s := by funext p; unfold zo; rw [hf 9 (by omega)]
  unfold zVs
  rw [hf 2 (by omega), hf 3 (by omega), hf 4 (by omega), hf 5 (by omega), hf 7 (by omega), hf 8 (by omega), hf 9 (by omega), hf 10 (by omega), hf 11 (by omega), hf 12 (by omega), hf 13 (by omega), hf 14 (by omega), z9]
  exact ⟨a, b, c, d, e, f, g, i, j⟩
theorem zAn_bn {s : zS} {r : Int32} (h : ∀ k, k < 16 → ∃ a, a ≤ 1000000 ∧ s 5 k = nI a) {k : Nat} (hk : k < 16) : zBn (zAn (s 5) r k) := by
  obtain ⟨a, ha, e⟩ := h k hk
  unfold zAn
  split
  · rw [e, nI_s]; exact ⟨a + 1, by omega, rfl⟩
  · rw [e]; exact ⟨a, by omega, rfl⟩
theorem p_lineAt_n {n p : Nat} (hp : p < 16) {s : zS} (h : ∀ p, p < 16 → s 9 p = nI (zo s p)) : m_X4_lineAt n (nI p) s = some (nI (zo s p), s) := by
  rw [p_lineAt, a16 hp, h p hp]
/-- the number of a group's lines -/
theorem p_bits {n : Nat} {s : zS} {tx : Int32 → Int32} {tot : Int32} (hV : zVs n s tx tot) {p c : Nat} (_h8 : s 2 (zo s p) = 8) (hx : zExt (s 2) (s 3) (s 4) (zo s) p c) (s' : zS) : m_J6_bitCount_0f7a4 n (s 8 (zo s p)) s' = some (nI c, s') := by
  obtain ⟨hP, _, _, h8', _⟩ := hV
  have hp16 : p < 16 := by have := hx.2.1; have := hx.1; omega
  have hL := hP.2.1 p hp16
  have hb : ∀ j, j < 16 → (bt (s 8 (zo s p)) j = true ↔ zGpr (s 2) (s 3) (s 4) (zo s p) j) := by
    intro j hj
    rw [h8' _ hL j (by omega)]
    unfold zGr zGpr
    simp [hj]
  have e : m_J6_bitCount_0f7a4 n (s 8 (zo s p)) s' = some (bcI (s 8 (zo s p)), s') := rfl
  rw [e, bc_bits (fun j hj h => by
    rw [h8' _ hL j hj] at h
    unfold zGr at h
    rcases Bool.or_eq_true_iff.mp h with q | q
    · rw [of_decide_eq_true q]; exact hL
    · exact of_decide_eq_true (Bool.and_eq_true_iff.mp q).1), cnt_ex (o := zo s) (p := p) (c := c) hx.2.1 hP.2.1 hP.2.2.1 (fun q h1 h2 => (hb _ (hP.2.1 q (by have := hx.2.1; omega))).mpr (hx.2.2.1 q h1 h2)) (fun j hj hbj => hx.2.2.2 j hj ((hb j hj).mp hbj))]
/-- the plan that the class made serves -/
theorem zPlan_Pn {b s : zS} (hw : zWf (b 2) (b 3) (b 4)) (h : zPlan b s) : zPn (b 2) (b 3) (b 4) (zo s) ∧ (∀ p, p < 16 → s 9 p = nI (zo s p)) ∧ ∀ i, i < 16 → zR (b 2) (b 3) (b 4) i i = true → ∃ v L, zCir (zR (b 2) (b 3) (b 4)) i v ∧ zCG (b 2) (b 3) (b 4) v L := by
  obtain ⟨_, _, m1, m2, m3, m4, m5, m6⟩ := h
  simp only [if_neg (show ¬ (2 : Nat) = 7 by decide), if_neg (show ¬ (2 : Nat) = 8 by decide), if_neg (show ¬ (3 : Nat) = 7 by decide), if_neg (show ¬ (3 : Nat) = 8 by decide), if_neg (show ¬ (4 : Nat) = 7 by decide), if_neg (show ¬ (4 : Nat) = 8 by decide)] at m4 m5 m6
  obtain ⟨u1, u2, u3, u4, u5⟩ := m2
  have all : ∀ i, i < 16 → bt (s 6 4) i = true := fun i hi => by
    obtain ⟨p, hp, e⟩ := pig16 (o := zo s) (fun p hp => (u3 p hp).1) u4 hi
    exact (u5 i (by omega)).mpr ⟨p, hp, e⟩
  refine ⟨⟨hw, fun p hp => (u3 p hp).1, u4, fun p hp => ?_, fun p hp hc => ?_, fun k hk hc => ?_⟩, fun p hp => (u3 p hp).2, fun i hi hc => m6 i hi (all i hi) hc⟩
  · obtain ⟨a, b⟩ := m4 p hp
    exact ⟨a, b⟩
  · obtain ⟨c, c0, c1, c2, c3⟩ := m5 p hp hc.1 hc.2
    exact ⟨c, c0, c1, fun q q1 q2 => Or.inr (c2 q q1 q2), fun j hj hg => by
      rcases hg with e | ⟨g1, g2⟩
      · exact ⟨p, Nat.le_refl _, by omega, e.symm⟩
      · exact c3 j hj g1 g2⟩
  · obtain ⟨v, L, hv, hO, hF, _⟩ := m6 k hk (all k hk) hc.2
    have hvb : ∀ j, j < 16 → (bt v j = true ↔ zR (b 2) (b 3) (b 4) k j = true ∧ zR (b 2) (b 3) (b 4) j k = true) := by
      intro j hj
      rw [hv j (by omega)]; simp [hj]
    have hkL : k = L := (hO.2 k hk).mp ⟨(hvb k hk).mpr ⟨hc.2, hc.2⟩, hc.1⟩
    subst hkL
    have hf := (zWf_f hw hk (by rw [hc.1]; decide)).1
    exact ⟨fun j hj h1 h2 h8 => (hO.2 j hj).mp ⟨(hvb j hj).mpr ⟨h1, h2⟩, h8⟩, fun q => hF ((hvb _ hf).mpr q)⟩
end PPn
