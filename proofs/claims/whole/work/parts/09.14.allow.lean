section PAl
/-! the reference's test of all circles -/
theorem zPath_c {u v : Nat → Nat → Bool} (h : ∀ i, i < 16 → ∀ j, u i j = v i j) : ∀ t, t ≤ 16 → ∀ i, i < 16 → ∀ j, zPath u t i j = zPath v t i j := by
  intro t
  induction t with
  | zero => intro _ i hi j; exact h i hi j
  | succ t ih =>
    intro ht i hi j
    rw [zPath_s, zPath_s, ih (by omega) i hi j, ih (by omega) i hi t, ih (by omega) t (by omega) j]
theorem zTC_c {u v : Nat → Nat → Bool} (h : ∀ i, i < 16 → ∀ j, u i j = v i j) {i j : Nat} (hi : i < 16) : zTC u i j = zTC v i j := zPath_c h 16 (Nat.le_refl _) i hi j
theorem zw_R {s : zS} {i j : Nat} (hi : i < 16) : zTC (zw s (-1)) i j = zR (s 1) (s 2) (s 3) i j := zTC_c (fun i hi j => by unfold zw zwU; rw [decide_eq_false (zn_L hi)]) hi
theorem zw_wo {s : zS} {L i j : Nat} (hL : L < 16) (hi : i < 16) : zTC (zw s (nI L)) i j = zTC (zwo (s 1) (s 2) (s 3) L) i j := zTC_c (fun i hi j => by
  unfold zw zwU zwo
  congr 2
  exact decide_eq_decide.mpr (eq_n (by omega) (by omega))) hi
theorem acyc {K F G : Nat → Int32} (hw : zWf K F G) {v : Int32} {L i0 : Nat} {A B : Nat → Bool} (hi0 : i0 < 16) (hv : zCir (zR K F G) i0 v) (hF : ¬ bt v (zNt (F L)) = true) (hR : zRk K F G v L A B) {k : Nat} (hk : k < 16) (hb : bt v k = true) : ¬ zTC (zwo K F G L) k k = true := by
  obtain ⟨rk, d1, d2, d3, d4, d5, d6, d7⟩ := hR
  have hvb : ∀ j, j < 16 → (bt v j = true ↔ zR K F G i0 j = true ∧ zR K F G j i0 = true) := by
    intro j hj
    rw [hv j (by omega)]; simp [hj]
  intro hc
  have key := zTC_min (u := fun i j => decide (i < 16) && zwo K F G L i j) (fun i j => i < 16 ∧ j < 16 ∧ zR K F G i j = true ∧ (bt v i = true → bt v j = true → rk j < rk i)) (fun i j h => by
    obtain ⟨h1, h2⟩ := Bool.and_eq_true_iff.mp h
    have hi := of_decide_eq_true h1
    have hj32 : j < 32 := by
      rcases Nat.lt_or_ge j 32 with h | h
      · exact h
      · unfold zwo at h2; rw [b_big h] at h2; cases h2
    have hu := (use_bt hw hi _ hj32).mp h2
    have hj := zUb_lt hw hi hu
    have hu' : zUb K F G false i j := by
      rcases hu with h | ⟨a, _, b⟩
      · exact Or.inl h
      · exact Or.inr ⟨a, rfl, b⟩
    refine ⟨hi, hj, zR_u hw hi hu', fun bi bj => ?_⟩
    by_cases e : i = L
    · rcases hu with ⟨_, h⟩ | ⟨_, h, _⟩
      · rw [h, e] at bj; exact absurd bj hF
      · exact absurd h (by simp [e])
    · exact d3 i hi bi e j hj hu' bj) (fun i m j hm h1 h2 => by
    refine ⟨h1.1, h2.2.1, zTC_tr hm h1.2.2.1 h2.2.2.1, fun bi bj => ?_⟩
    have bm : bt v m = true := by
      obtain ⟨a1, a2⟩ := (hvb i h1.1).mp bi
      obtain ⟨c1, c2⟩ := (hvb j h2.2.1).mp bj
      exact (hvb m hm).mpr ⟨zTC_tr h1.1 a1 h1.2.2.1, zTC_tr h2.2.1 h2.2.2.1 c2⟩
    have q1 := h1.2.2.2 bi bm
    have q2 := h2.2.2.2 bm bj
    omega) (i := k) (j := k) (by
    rw [zTC_c (v := zwo K F G L) (fun i hi j => by simp [hi]) hk]; exact hc)
  have := key.2.2.2 hb hb
  omega
theorem q_limits {n : Nat} (hn : 100 ≤ n) (rec4 : Int32 → Int32 → zS → Option (Int32 × zS)) (v1 v2 v : Int32) (s : zS) : ∃ c l f', c ≤ 16 ∧ l < 16 ∧ (c = 1 → zOne (s 1) v l) ∧ (∀ L, zOne (s 1) v L → c = 1) ∧ m_X8_isAllowed_j39 rec4 n n v1 v2 v 0 0 0 s = m_X8_isAllowed_j39 rec4 n (f' + 1) v1 v2 v (nI c) (nI l) (nI 16) s := by
  obtain ⟨⟨c, l⟩, f1, hf1, ⟨h1, h2, h3⟩, e1⟩ := for_up (fun f i (x : Nat × Nat) => m_X8_isAllowed_j39 rec4 n f v1 v2 v (nI x.1) (nI x.2) (nI i) s) (fun i x => x.1 ≤ i ∧ x.2 < 16 ∧ ((x.1 = 0 ∧ ∀ k, k < i → ¬ (bt v k = true ∧ s 1 k = 8)) ∨ (x.1 = 1 ∧ x.2 < i ∧ ∀ k, k < i → ((bt v k = true ∧ s 1 k = 8) ↔ k = x.2)) ∨ (2 ≤ x.1 ∧ ∃ a b, a < i ∧ b < i ∧ a ≠ b ∧ (bt v a = true ∧ s 1 a = 8) ∧ (bt v b = true ∧ s 1 b = 8)))) 16 (by
    rintro f i ⟨c, l⟩ hi ⟨h1, h2, h3⟩
    have go : ∀ t : Int32, m_X8_isAllowed_j73 rec4 (m_X8_isAllowed_j39 rec4 n f) n v1 v2 v (nI c) (nI l) (nI i) t s = if t = 0 then m_X8_isAllowed_j39 rec4 n f v1 v2 v (nI c) (nI l) (nI (i + 1)) s else m_X8_isAllowed_j39 rec4 n f v1 v2 v (nI (c + 1)) (nI i) (nI (i + 1)) s := by
      intro t
      unfold m_X8_isAllowed_j73 m_X8_isAllowed_j87
      by_cases ht : t = 0
      · rw [if_pos ht, if_pos ht, zLt_e, if_pos ht, zLt_e, nI_s, Int32.add_zero]
      · rw [if_neg ht, if_neg ht, zLt_e, if_neg ht, zLt_e, nI_s, nI_s]
    by_cases hp : bt v i = true ∧ s 1 i = 8
    · refine ⟨(c + 1, i), ⟨Nat.succ_le_succ h1, hi, ?_⟩, ?_⟩
      · rcases h3 with ⟨q1, q2⟩ | ⟨q1, q2, q3⟩ | ⟨q1, a, b, q2⟩
        · refine Or.inr (Or.inl ⟨by simp only at q1 ⊢; omega, Nat.lt_succ_self i, fun k hk => ?_⟩)
          by_cases e : k = i
          · rw [e]; exact ⟨fun _ => rfl, fun _ => hp⟩
          · exact ⟨fun q => absurd q (q2 k (by omega)), fun q => absurd q e⟩
        · refine Or.inr (Or.inr ⟨by simp only at q1 ⊢; omega, l, i, by simp only at q2; omega, Nat.lt_succ_self i, by simp only at q2; omega, (q3 l q2).mpr rfl, hp⟩)
        · refine Or.inr (Or.inr ⟨by simp only at q1 ⊢; omega, a, b, by omega, by omega, q2.2.2.1, q2.2.2.2⟩)
      · show m_X8_isAllowed_j39 rec4 n (f + 1) v1 v2 v (nI c) (nI l) (nI i) s = m_X8_isAllowed_j39 rec4 n f v1 v2 v (nI (c + 1)) (nI i) (nI (i + 1)) s
        rw [m_X8_isAllowed_j39, if_neg (n16 hi), if_pos ((tb_1 (by omega)).mpr hp.1), zRd_n hi (by decide), if_pos hp.2, go, if_neg (by decide)]
    · refine ⟨(c, l), ⟨Nat.le_succ_of_le h1, h2, ?_⟩, ?_⟩
      · rcases h3 with ⟨q1, q2⟩ | ⟨q1, q2, q3⟩ | ⟨q1, a, b, q2⟩
        · refine Or.inl ⟨q1, fun k hk => ?_⟩
          by_cases e : k = i
          · rw [e]; exact hp
          · exact q2 k (by omega)
        · refine Or.inr (Or.inl ⟨q1, by simp only at q2 ⊢; omega, fun k hk => ?_⟩)
          by_cases e : k = i
          · rw [e]; exact ⟨fun q => absurd q hp, fun q => by simp only at q2 q; omega⟩
          · exact q3 k (by omega)
        · exact Or.inr (Or.inr ⟨q1, a, b, by omega, by omega, q2.2.2.1, q2.2.2.2⟩)
      · show m_X8_isAllowed_j39 rec4 n (f + 1) v1 v2 v (nI c) (nI l) (nI i) s = m_X8_isAllowed_j39 rec4 n f v1 v2 v (nI c) (nI l) (nI (i + 1)) s
        rw [m_X8_isAllowed_j39, if_neg (n16 hi)]
        by_cases hb : bt v i = true
        · rw [if_pos ((tb_1 (by omega)).mpr hb), zRd_n hi (by decide), if_neg (fun q => hp ⟨hb, q⟩), go, if_pos rfl]
        · rw [if_neg (fun q => hb ((tb_1 (by omega)).mp q)), go, if_pos rfl]) 16 n 0 (0, 0) rfl (by omega) ⟨Nat.le_refl _, by show (0 : Nat) < 16; omega, Or.inl ⟨rfl, fun k h => absurd h (Nat.not_lt_zero k)⟩⟩
  simp only at h1 h2 h3
  obtain ⟨f1, rfl⟩ : ∃ g, f1 = g + 1 := ⟨f1 - 1, by omega⟩
  refine ⟨c, l, f1, h1, h2, fun hc => ?_, fun L hL => ?_, e1⟩
  · rcases h3 with ⟨q1, q2⟩ | ⟨q1, q2, q3⟩ | ⟨q1, a, b, q2⟩
    · omega
    · exact ⟨h2, q3⟩
    · omega
  · rcases h3 with ⟨q1, q2⟩ | ⟨q1, q2, q3⟩ | ⟨q1, a, b, q2, q3, q4, q5, q6⟩
    · exact absurd ((hL.2 L hL.1).mpr rfl) (q2 L hL.1)
    · exact q1
    · exact absurd (((hL.2 a q2).mp q5).trans ((hL.2 b q3).mp q6).symm) q4
theorem q_isAllowed {n : Nat} (hn : 100 ≤ n) {s : zS} (hw : zWf (s 1) (s 2) (s 3)) : ∃ (r : Int32) (s' : zS), m_X8_isAllowed n s = some (r, s') ∧ (∀ c, c ≠ 13 → c ≠ 14 → s' c = s c) ∧ ((∀ i, i < 16 → zR (s 1) (s 2) (s 3) i i = true → ∃ v L, zCir (zR (s 1) (s 2) (s 3)) i v ∧ zCG (s 1) (s 2) (s 3) v L) → r = 1) ∧ ((∃ i v, i < 16 ∧ zR (s 1) (s 2) (s 3) i i = true ∧ zCir (zR (s 1) (s 2) (s 3)) i v ∧ zCB (s 1) (s 2) (s 3) v) → r = 0) := by
  obtain ⟨⟨w, s2⟩, f1, hf1, ⟨g1, g2, g3, g4⟩, e1⟩ := for_up (fun f i (x : Int32 × zS) => m_X8_isAllowed_j4 n f x.1 (nI i) x.2) (fun i x => (x.1 = 0 ∨ x.1 = 1) ∧ (∀ c, c ≠ 13 → c ≠ 14 → x.2 c = s c) ∧ ((∀ k, k < i → zR (s 1) (s 2) (s 3) k k = true → ∃ v L, zCir (zR (s 1) (s 2) (s 3)) k v ∧ zCG (s 1) (s 2) (s 3) v L) → x.1 = 1) ∧ ((∃ k v, k < i ∧ zR (s 1) (s 2) (s 3) k k = true ∧ zCir (zR (s 1) (s 2) (s 3)) k v ∧ zCB (s 1) (s 2) (s 3) v) → x.1 = 0)) 16 (by
    rintro f i ⟨w, s9⟩ hi ⟨h1, h2, h3, h4⟩
    simp only at h1 h2 h3 h4
    have k1 := h2 1 (by decide) (by decide)
    have k2 := h2 2 (by decide) (by decide)
    have k3 := h2 3 (by decide) (by decide)
    have w9 : zWf (s9 1) (s9 2) (s9 3) := by rw [k1, k2, k3]; exact hw
    obtain ⟨sa, ea, fa, ra⟩ := q_needs hn (-1) s9
    have ra' : ∀ i, i < 16 → ∀ j, j < 32 → bt (sa 13 i) j = zR (s 1) (s 2) (s 3) i j := by
      intro i hi j hj
      rw [ra i hi j hj, zw_R hi, k1, k2, k3]
    by_cases hc : bt (sa 13 i) i = true
    · have hci : zR (s 1) (s 2) (s 3) i i = true := by rw [← ra' i hi i (by omega)]; exact hc
      obtain ⟨v, ev, bv⟩ := q_circle hn hi sa ra'
      have hv : zCir (zR (s 1) (s 2) (s 3)) i v := bv
      obtain ⟨c, l, f', hc16, hl, hone, huni, e39⟩ := q_limits hn (m_X8_isAllowed_j4 n f) w (nI i) v sa
      have a1 : sa 1 = s 1 := (fa 1 (by decide)).trans k1
      have a2 : sa 2 = s 2 := (fa 2 (by decide)).trans k2
      have a3 : sa 3 = s 3 := (fa 3 (by decide)).trans k3
      rw [a1] at hone huni
      -- what comes of the circle
      have out : ∃ (e : Int32) (sb : zS), (e = 0 ∨ e = 1) ∧ (∀ c, c ≠ 13 → c ≠ 14 → sb c = s c) ∧ ((∃ L, zCG (s 1) (s 2) (s 3) v L) → e = 1) ∧ (zCB (s 1) (s 2) (s 3) v → e = 0) ∧ m_X8_isAllowed_j39 (m_X8_isAllowed_j4 n f) n (f' + 1) w (nI i) v (nI c) (nI l) (nI 16) sa = m_X8_isAllowed_j4 n f (w &&& e) (nI (i + 1)) sb := by
        obtain ⟨sb, eb, fb, rb⟩ := q_needs hn (nI l) sa
        have frb : ∀ c, c ≠ 13 → c ≠ 14 → sb c = s c := fun c h13 h14 => by rw [fb c h13, fa c h13, h2 c h13 h14]
        have b1 : sb 1 = s 1 := frb 1 (by decide) (by decide)
        have b2 : sb 2 = s 2 := frb 2 (by decide) (by decide)
        have b3 : sb 3 = s 3 := frb 3 (by decide) (by decide)
        by_cases hc1 : c = 1
        · have hO := hone hc1
          obtain ⟨bl, kl⟩ := (hO.2 l hl).mpr rfl
          have hKl : s 1 l ≠ 0 := by rw [kl]; decide
          obtain ⟨f1, f2⟩ := zWf_f hw hl hKl
          have wb : zWf (sb 1) (sb 2) (sb 3) := by rw [b1, b2, b3]; exact hw
          obtain ⟨r, sc, A, B, ec, fc, hz, hr⟩ := q_isFalling hn (v := v) wb hl (by rw [b1]; exact kl) bl
          rw [b1, b2, b3] at hz
          rw [b3] at hr
          have frc : ∀ c, c ≠ 13 → c ≠ 14 → sc c = s c := fun c h13 h14 => by rw [fc c h14, frb c h13 h14]
          have rb' : ∀ k, k < 16 → (bt (sb 13 k) k = true ↔ zTC (zwo (s 1) (s 2) (s 3) l) k k = true) := by
            intro k hk
            rw [rb k hk k (by omega), zw_wo hl hk, a1, a2, a3]
          -- whether the first line of the limit lies outside
          have run : ∀ t1 : Int32, (t1 = 0 ∨ t1 = 1) → m_X8_isAllowed_j136 (m_X8_isAllowed_j4 n f) n (nI i) v (nI c) (nI l) w t1 sa = m_X8_isAllowed_j4 n f (w &&& (t1 &&& r)) (nI (i + 1)) sc := by
            intro t1 _
            unfold m_X8_isAllowed_j136
            rw [zLt_e, eb, zBd_e, if_pos (show nI c = 1 by rw [hc1]; rfl), ec, zBd_e, ← Int32.and_assoc]
            rcases hr with ⟨rfl, _⟩ | ⟨rfl, _⟩
            · rw [if_neg (by decide), zLt_e, zLt_e, nI_s]
            · rw [if_pos rfl, zLt_e, zLt_e, nI_s]
          have e16 : m_X8_isAllowed_j39 (m_X8_isAllowed_j4 n f) n (f' + 1) w (nI i) v (nI c) (nI l) (nI 16) sa = m_X8_isAllowed_j136 (m_X8_isAllowed_j4 n f) n (nI i) v (nI c) (nI l) w (if bt v (zNt (s 2 l)) = true then 0 else 1) sa := by
            rw [m_X8_isAllowed_j39, if_pos n16e, if_pos (show nI c = 1 by rw [hc1]; rfl), zRd_n hl (by decide), a2, f2]
            by_cases hF : bt v (zNt (s 2 l)) = true
            · rw [if_neg (fun q => ((tb_0 (by omega)).mp q) hF), ← f2, if_pos hF]
            · rw [if_pos ((tb_0 (by omega)).mpr hF), ← f2, if_neg hF]
          refine ⟨(if bt v (zNt (s 2 l)) = true then 0 else 1) &&& r, sc, ?_, frc, ?_, ?_, ?_⟩
          · rcases hr with ⟨rfl, _⟩ | ⟨rfl, _⟩ <;> split <;> decide
          · rintro ⟨L, hO', hF', A0, B0, hRk, hf⟩
            have : L = l := (hO.2 L hO'.1).mp ((hO'.2 L hO'.1).mpr rfl)
            subst this
            rw [if_neg hF']
            rcases hr with ⟨rfl, _⟩ | ⟨rfl, hno⟩
            · decide
            · refine absurd ⟨?_, fun k hk => ⟨?_, ?_⟩⟩ hno
              · obtain ⟨g1, g2⟩ := zWf_g hw hl (by rw [kl]; decide)
                obtain ⟨z1, z2⟩ := hz A0 B0 hRk _ g1
                rw [z1, z2]
                have := hf.1 _ g1
                rw [hf.2] at this
                exact ⟨by simpa using this, hf.2⟩
              · obtain ⟨z1, z2⟩ := hz A0 B0 hRk _ hk
                rw [z1, z2]; exact hf.1 k hk
              · rintro ⟨q1, q2⟩
                exact acyc hw hi hv hF' hRk hk q1 ((rb' k hk).mp q2)
          · rintro (hno | ⟨L, hO', hbad⟩)
            · exact absurd ⟨l, hO⟩ hno
            · have : L = l := (hO.2 L hO'.1).mp ((hO'.2 L hO'.1).mpr rfl)
              subst this
              rcases hbad with hF | ⟨k, hk, q1, q2⟩ | ⟨A0, B0, hRk, hf⟩
              · rw [if_pos hF]
                rcases hr with ⟨rfl, _⟩ | ⟨rfl, _⟩ <;> decide
              · rcases hr with ⟨rfl, _, h⟩ | ⟨rfl, _⟩
                · exact absurd ⟨q1, (rb' k hk).mpr q2⟩ (h k hk).2
                · split <;> decide
              · rcases hr with ⟨rfl, h1, h⟩ | ⟨rfl, _⟩
                · refine absurd ⟨fun k hk => ?_, ?_⟩ hf
                  · obtain ⟨z1, z2⟩ := hz A0 B0 hRk _ hk
                    rw [← z1, ← z2]; exact (h k hk).1
                  · obtain ⟨g1, g2⟩ := zWf_g hw hl (by rw [kl]; decide)
                    obtain ⟨z1, z2⟩ := hz A0 B0 hRk _ g1
                    rw [← z2]; exact h1.2
                · split <;> decide
          · rw [e16, run _ (by split <;> simp)]
        · refine ⟨0, sb, Or.inl rfl, frb, ?_, fun _ => rfl, ?_⟩
          · rintro ⟨L, hO', _⟩
            exact absurd (huni L hO') hc1
          · have hne : ¬ nI c = 1 := fun q => hc1 ((eq_n (b := 1) (by omega) (by omega)).mp q)
            rw [m_X8_isAllowed_j39, if_pos n16e, if_neg hne]
            unfold m_X8_isAllowed_j136
            rw [zLt_e, eb, zBd_e, if_neg hne, zLt_e, zLt_e, nI_s, Int32.and_assoc]
            rfl
      obtain ⟨e, sb, he, hsb, hgood, hbad, erun⟩ := out
      refine ⟨(w &&& e, sb), ⟨?_, hsb, fun h => ?_, fun h => ?_⟩, ?_⟩
      · show w &&& e = 0 ∨ w &&& e = 1
        rcases h1 with rfl | rfl <;> rcases he with rfl | rfl <;> decide
      · show w &&& e = 1
        have w1 : w = 1 := h3 (fun k hk hck => h k (by omega) hck)
        obtain ⟨v', L, hv', hg⟩ := h i (by omega) hci
        rw [w1, hgood ⟨L, (zCir_eq hv' hv) ▸ hg⟩]; decide
      · show w &&& e = 0
        obtain ⟨k, v', hk, hck, hv', hb⟩ := h
        by_cases ek : k = i
        · subst ek
          rw [hbad ((zCir_eq hv' hv) ▸ hb)]
          rcases h1 with rfl | rfl <;> decide
        · rw [h4 ⟨k, v', by omega, hck, hv', hb⟩]
          rcases he with rfl | rfl <;> decide
      · show m_X8_isAllowed_j4 n (f + 1) w (nI i) s9 = m_X8_isAllowed_j4 n f (w &&& e) (nI (i + 1)) sb
        rw [m_X8_isAllowed_j4, if_neg (n16 hi), ea, zBd_e, q_depends hi (by omega), zBd_e, if_pos hc, if_neg (by decide), ev, zBd_e]
        exact e39.trans erun
    · have hnc : ¬ zR (s 1) (s 2) (s 3) i i = true := by rw [← ra' i hi i (by omega)]; exact hc
      refine ⟨(w, sa), ⟨h1, fun c h13 h14 => by show sa c = s c; rw [fa c h13, h2 c h13 h14], fun h => h3 (fun k hk => h k (by omega)), fun ⟨k, v, hk, hck, h⟩ => ?_⟩, ?_⟩
      · by_cases ek : k = i
        · subst ek; exact absurd hck hnc
        · exact h4 ⟨k, v, by omega, hck, h⟩
      · show m_X8_isAllowed_j4 n (f + 1) w (nI i) s9 = m_X8_isAllowed_j4 n f w (nI (i + 1)) sa
        rw [m_X8_isAllowed_j4, if_neg (n16 hi), ea, zBd_e, q_depends hi (by omega), zBd_e, if_neg hc, if_pos rfl, zLt_e, nI_s]) 16 n 0 (1, s) rfl (by omega) ⟨Or.inr rfl, fun _ _ _ => rfl, fun _ => rfl, fun ⟨k, v, hk, _⟩ => absurd hk (Nat.not_lt_zero k)⟩
  obtain ⟨f1, rfl⟩ : ∃ g, f1 = g + 1 := ⟨f1 - 1, by omega⟩
  simp only at g1 g2 g3 g4
  refine ⟨w, s2, ?_, g2, g3, g4⟩
  unfold m_X8_isAllowed
  refine (show _ = _ from e1).trans ?_
  show m_X8_isAllowed_j4 n (f1 + 1) w (nI 16) s2 = _
  rw [m_X8_isAllowed_j4, if_pos n16e, zGd_e (zn_id _ g1)]; rfl
end PAl
