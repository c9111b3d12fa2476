section PV
/-! the class works out its values -/
theorem p_plain {n k : Nat} {s : zS} {tx : Int32 → Int32} {tot : Int32} (hV : zVs n s tx tot) (hb : ∀ k, k < 16 → zBn (s 22 k)) (hk : k < 16) : m_X6_plain n (nI k) s = some (zPv (s 2) (s 3) (s 4) tx tot (zAn (s 5) (s 21 5)) (s 22) k, s) := by
  obtain ⟨hP, h9, h7, h8, htx, htot, _, _, _⟩ := hV
  have hw := hP.1
  have hf : s 2 k ≠ 0 → zAt s 22 16 (s 3 k) = s 22 (zNt (s 3 k)) ∧ zNt (s 3 k) < 16 := fun h0 => by
    obtain ⟨f1, f2⟩ := zWf_f hw hk h0
    exact ⟨by rw [f2, a16 f1, ← f2], f1⟩
  have hg : zTwo (s 2 k) = true → zAt s 22 16 (s 4 k) = s 22 (zNt (s 4 k)) ∧ zNt (s 4 k) < 16 := fun h0 => by
    obtain ⟨f1, f2⟩ := zWf_g hw hk h0
    exact ⟨by rw [f2, a16 f1, ← f2], f1⟩
  unfold m_X6_plain
  rw [p_first, zBd_e, a16 hk, p_of, zBd_e, p_second, zBd_e, a16 hk, p_kind, zBd_e, a16 hk]
  rcases zK_cases hw hk with c | c | c | c | c | c | c | c | c
  · rw [zPv_0 c, c, if_neg (by decide), if_neg (by decide), if_neg (by decide), if_neg (by decide), if_neg (by decide), if_neg (by decide), if_neg (by decide), if_neg (by decide)]
    unfold zAn
    by_cases hr : nI k = s 21 5
    · rw [if_pos hr, p_given, zBd_e, a16 hk, if_pos ⟨hk, hr⟩]; rfl
    · rw [if_neg hr, p_given, zBd_e, a16 hk, if_neg (fun q : k < 16 ∧ nI k = s 21 5 => hr q.2)]; rfl
  · rw [zPv_1 c, c, if_pos rfl, p_of, zBd_e, (hf (by rw [c]; decide)).1, (hg (by rw [c]; decide)).1]; rfl
  · rw [zPv_2 c, c, if_neg (by decide), if_pos rfl, p_of, zBd_e, (hf (by rw [c]; decide)).1, (hg (by rw [c]; decide)).1]; rfl
  · rw [zPv_3 c, c, if_neg (by decide), if_neg (by decide), if_pos rfl, (hf (by rw [c]; decide)).1]; rfl
  · rw [zPv_4 c, c, if_neg (by decide), if_neg (by decide), if_neg (by decide), if_pos rfl, p_of, zBd_e, (hf (by rw [c]; decide)).1, (hg (by rw [c]; decide)).1]; rfl
  · rw [zPv_5 c, c, if_neg (by decide), if_neg (by decide), if_neg (by decide), if_neg (by decide), if_pos rfl, p_of, zBd_e, (hf (by rw [c]; decide)).1, (hg (by rw [c]; decide)).1]; rfl
  · rw [zPv_6 c, c, if_neg (by decide), if_neg (by decide), if_neg (by decide), if_neg (by decide), if_neg (by decide), if_pos rfl, (hf (by rw [c]; decide)).1, htx s rfl rfl rfl _ (hb _ (hf (by rw [c]; decide)).2), zBd_e]; rfl
  · rw [zPv_7 c, c, if_neg (by decide), if_neg (by decide), if_neg (by decide), if_neg (by decide), if_neg (by decide), if_neg (by decide), if_pos rfl, htot s rfl rfl, zBd_e, (hf (by rw [c]; decide)).1]; rfl
  · rw [zPv_8 c, c, if_neg (by decide), if_neg (by decide), if_neg (by decide), if_neg (by decide), if_neg (by decide), if_neg (by decide), if_neg (by decide), if_pos rfl, p_of, zBd_e, (hf (by rw [c]; decide)).1, (hg (by rw [c]; decide)).1]; rfl
theorem p_suppose {n p c : Nat} (hn : 100 ≤ n) {s : zS} {tx : Int32 → Int32} {tot v : Int32} (hV : zVs n s tx tot) (hb : ∀ k, k < 16 → zBn (s 22 k)) (hv : zBn v) (h8 : s 2 (zo s p) = 8) (hx : zExt (s 2) (s 3) (s 4) (zo s) p c) : m_X6_suppose n (nI p) v s = some (0, zSt s 22 (zSup (zPv (s 2) (s 3) (s 4) tx tot (zAn (s 5) (s 21 5))) (zo s) (p + 1) (c - 1) (upd (s 22) (zo s p) v))) ∧ ∀ k, k < 16 → zBn (zSup (zPv (s 2) (s 3) (s 4) tx tot (zAn (s 5) (s 21 5))) (zo s) (p + 1) (c - 1) (upd (s 22) (zo s p) v) k) := by
  have hP := hV.1
  have hc0 := hx.1
  have hc1 := hx.2.1
  have hL := hP.2.1 p (by omega)
  have bnd : ∀ m, p + 1 + m ≤ 16 → ∀ k, k < 16 → zBn (zSup (zPv (s 2) (s 3) (s 4) tx tot (zAn (s 5) (s 21 5))) (zo s) (p + 1) m (upd (s 22) (zo s p) v) k) := fun m hm => zSup_bn (fun k e hk he => zPv_bn hP.1 hk hV.2.2.2.2.2.2.1 hV.2.2.2.2.2.2.2.1 (zAn_bn hV.2.2.2.2.2.2.2.2 hk) (fun j hj _ => he j hj)) hP.2.1 m (p + 1) _ hm (fun j hj => by
    by_cases e : j = zo s p
    · rw [e, upd_s]; exact hv
    · rw [upd_n e]; exact hb j hj)
  obtain ⟨s2, f1, hf1, hI, e1⟩ := for_up (fun f i s' => m_X6_suppose_j38 n f (nI (p + c)) (nI (p + 1 + i)) s') (fun i s' => s' = zSt s 22 (zSup (zPv (s 2) (s 3) (s 4) tx tot (zAn (s 5) (s 21 5))) (zo s) (p + 1) i (upd (s 22) (zo s p) v))) (c - 1) (by
    rintro f i s' hi rfl
    refine ⟨_, rfl, ?_⟩
    show m_X6_suppose_j38 n (f + 1) (nI (p + c)) (nI (p + 1 + i)) _ = m_X6_suppose_j38 n f (nI (p + c)) (nI (p + 1 + (i + 1))) _
    have hV' : zVs n (zSt s 22 (zSup (zPv (s 2) (s 3) (s 4) tx tot (zAn (s 5) (s 21 5))) (zo s) (p + 1) i (upd (s 22) (zo s p) v))) tx tot := zVs_c hV (fun c hc => zSt_n (by omega))
    have ho := hP.2.1 (p + 1 + i) (by omega)
    have z9 : zo (zSt s 22 (zSup (zPv (s 2) (s 3) (s 4) tx tot (zAn (s 5) (s 21 5))) (zo s) (p + 1) i (upd (s 22) (zo s p) v))) (p + 1 + i) = zo s (p + 1 + i) := by unfold zo; rw [zSt_n (by decide)]
    rw [m_X6_suppose_j38, if_neg (nI_ge (by omega) (by omega)), p_lineAt_n (by omega) hV'.2.1, zBd_e, z9, p_plain hV' (by rw [zSt_s]; exact bnd i (by omega)) ho, zBd_e, p_put ho (by decide), zBd_e, zLt_e, nI_s, zSt_u, zSt_s, zSt_n (by decide), zSt_n (by decide), zSt_n (by decide), zSt_n (by decide), zSt_n (by decide), zSup_last]; rfl) (c - 1) n 0 (zSt s 22 (upd (s 22) (zo s p) v)) (by omega) (by omega) rfl
  subst hI
  obtain ⟨f1, rfl⟩ : ∃ g, f1 = g + 1 := ⟨f1 - 1, by omega⟩
  refine ⟨?_, bnd (c - 1) (by omega)⟩
  have e8 : zSt s 22 (upd (s 22) (zo s p) v) 8 = s 8 := zSt_n (by decide)
  unfold m_X6_suppose
  rw [p_lineAt_n (by omega) hV.2.1, zBd_e, p_put hL (by decide), zBd_e, p_groupOf, zBd_e, a16 hL, show zU s 22 (zo s p) v = zSt s 22 (upd (s 22) (zo s p) v) from (by rw [← zSt_u, zSt_i]), e8, p_bits hV h8 hx, zBd_e, zLt_e, zLt_e, nI_add, nI_s]
  refine (show _ = _ from e1).trans ?_
  show m_X6_suppose_j38 n (f1 + 1) (nI (p + c)) (nI (p + 1 + (c - 1))) _ = _
  rw [m_X6_suppose_j38, if_pos (nI_le (by omega) (by omega))]; rfl
theorem p_greatest {n p c : Nat} (hn : 100 ≤ n) {s : zS} {tx : Int32 → Int32} {tot : Int32} (hV : zVs n s tx tot) (hb : ∀ k, k < 16 → zBn (s 22 k)) (hcl : zCl (s 2) (s 3) (s 4) (zo s p)) (hx : zExt (s 2) (s 3) (s 4) (zo s) p c) : ∃ e', m_X6_greatest n (nI p) s = some (zHl (fun mid => zSup (zPv (s 2) (s 3) (s 4) tx tot (zAn (s 5) (s 21 5))) (zo s) (p + 1) (c - 1) (upd (s 22) (zo s p) mid) (zNt (s 4 (zo s p)))) 31 0 (s 22 (zNt (s 3 (zo s p)))), zSt s 22 e') ∧ (∀ q, q < p → e' (zo s q) = s 22 (zo s q)) ∧ ∀ k, k < 16 → zBn (e' k) := by
  have hP := hV.1
  have hc0 := hx.1
  have hc1 := hx.2.1
  have hL := hP.2.1 p (by omega)
  obtain ⟨f1, f2⟩ := zWf_f hP.1 hL (by rw [hcl.1]; decide)
  obtain ⟨g1, g2⟩ := zWf_g hP.1 hL (by rw [hcl.1]; decide)
  obtain ⟨a, ha, ea⟩ := hb _ f1
  obtain ⟨r, r1, r2, r3⟩ := hx.2.2.2 _ g1 (zCl_g hP hL hcl)
  -- a supposition shows the same, whatever lies behind
  have same : ∀ e' mid, (∀ q, q < p → e' (zo s q) = s 22 (zo s q)) → zSup (zPv (s 2) (s 3) (s 4) tx tot (zAn (s 5) (s 21 5))) (zo s) (p + 1) (c - 1) (upd e' (zo s p) mid) (zNt (s 4 (zo s p))) = zSup (zPv (s 2) (s 3) (s 4) tx tot (zAn (s 5) (s 21 5))) (zo s) (p + 1) (c - 1) (upd (s 22) (zo s p) mid) (zNt (s 4 (zo s p))) := by
    intro e' mid he
    rw [← r3]
    refine zSup_d (D := fun _ => True) (U := zUb (s 2) (s 3) (s 4) false) (fun k e1 e2 hk h => zPv_c hP.1 hk h) hP.2.1 hP.2.2.1 (fun _ _ _ _ _ _ => trivial) (c - 1) (p + 1) _ _ (by omega) (zEx_use hP hcl.1 hx) (fun t ht _ => ?_) r (by omega) trivial
    by_cases et : t = p
    · rw [et, upd_s, upd_s]
    · rw [upd_n (fun q => et (hP.2.2.1 t p (by omega) (by omega) q)), upd_n (fun q => et (hP.2.2.1 t p (by omega) (by omega) q)), he t (by omega)]
  have loop : ∀ d f lo hi t e', t + d = 31 → d < f → lo ≤ 1000000000 → hi ≤ 1000000000 → (∀ q, q < p → e' (zo s q) = s 22 (zo s q)) → (∀ k, k < 16 → zBn (e' k)) → ∃ e'', m_X6_greatest_j28 n f (nI p) (nI (zo s p)) (nI lo) (nI hi) (nI t) (zSt s 22 e') = some (zHl (fun mid => zSup (zPv (s 2) (s 3) (s 4) tx tot (zAn (s 5) (s 21 5))) (zo s) (p + 1) (c - 1) (upd (s 22) (zo s p) mid) (zNt (s 4 (zo s p)))) d (nI lo) (nI hi), zSt s 22 e'') ∧ (∀ q, q < p → e'' (zo s q) = s 22 (zo s q)) ∧ ∀ k, k < 16 → zBn (e'' k) := by
    intro d
    induction d with
    | zero =>
      intro f lo hi t e' ht hf _ _ h1 h2
      obtain ⟨f, rfl⟩ : ∃ g, f = g + 1 := ⟨f - 1, by omega⟩
      refine ⟨e', ?_, h1, h2⟩
      rw [m_X6_greatest_j28, if_pos (show (31 : Int32) ≤ nI t from nI_le (a := 31) (by omega) (by omega))]; rfl
    | succ d ih =>
      intro f lo hi t e' ht hf hlo hhi h1 h2
      obtain ⟨f, rfl⟩ : ∃ g, f = g + 1 := ⟨f - 1, by omega⟩
      rcases (Nat.lt_or_ge lo hi).symm with hge | hlt
      · refine ⟨e', ?_, h1, h2⟩
        rw [zHl_d hge hlo, m_X6_greatest_j28, if_neg (show ¬ (31 : Int32) ≤ nI t from nI_ge (b := 31) (by omega) (by omega)), if_pos (nI_le hge (by omega))]; rfl
      · have hV' : zVs n (zSt s 22 e') tx tot := zVs_c hV (fun c hc => zSt_n (by omega))
        have z9 : zo (zSt s 22 e') = zo s := by funext q; unfold zo; rw [zSt_n (by decide)]
        have q2 : zSt s 22 e' 2 = s 2 := zSt_n (by decide)
        have q3 : zSt s 22 e' 3 = s 3 := zSt_n (by decide)
        have q4 : zSt s 22 e' 4 = s 4 := zSt_n (by decide)
        have q5 : zSt s 22 e' 5 = s 5 := zSt_n (by decide)
        have qr : zSt s 22 e' 21 = s 21 := zSt_n (by decide)
        obtain ⟨es, eb⟩ := p_suppose (v := nI (lo + (hi - lo + 1) / 2)) hn hV' (by rw [zSt_s]; exact h2) ⟨_, by omega, rfl⟩ (p := p) (c := c) (by rw [z9, q2]; exact hcl.1) (by rw [z9, q2, q3, q4]; exact hx)
        rw [z9, q2, q3, q4, q5, qr, zSt_s] at es eb
        have ag : ∀ q, q < p → zSup (zPv (s 2) (s 3) (s 4) tx tot (zAn (s 5) (s 21 5))) (zo s) (p + 1) (c - 1) (upd e' (zo s p) (nI (lo + (hi - lo + 1) / 2))) (zo s q) = s 22 (zo s q) := by
          intro q hq
          rw [zSup_out _ _ _ (fun r' a b e => by have := hP.2.2.1 r' q (by omega) (by omega) e; omega), upd_n (fun e => by have := hP.2.2.1 q p (by omega) (by omega) e; omega)]
          exact h1 q hq
        have zz : zSt (zSt s 22 e') 22 (zSup (zPv (s 2) (s 3) (s 4) tx tot (zAn (s 5) (s 21 5))) (zo s) (p + 1) (c - 1) (upd e' (zo s p) (nI (lo + (hi - lo + 1) / 2)))) = zSt s 22 (zSup (zPv (s 2) (s 3) (s 4) tx tot (zAn (s 5) (s 21 5))) (zo s) (p + 1) (c - 1) (upd e' (zo s p) (nI (lo + (hi - lo + 1) / 2)))) := by
          funext i
          by_cases h : i = 22
          · subst h; rw [zSt_s, zSt_s]
          · rw [zSt_n h, zSt_n h, zSt_n h]
        rw [zz] at es
        rw [zHl_s hlt hhi, m_X6_greatest_j28, if_neg (show ¬ (31 : Int32) ≤ nI t from nI_ge (b := 31) (by omega) (by omega)), if_neg (nI_ge hlt (by omega)), zLt_e, mid_c hlt hhi, es, zBd_e, p_second, zBd_e, a16 hL, zSt_n (by decide), p_of, zBd_e]
        rw [show zAt (zSt s 22 (zSup (zPv (s 2) (s 3) (s 4) tx tot (zAn (s 5) (s 21 5))) (zo s) (p + 1) (c - 1) (upd e' (zo s p) (nI (lo + (hi - lo + 1) / 2))))) 22 16 (s 4 (zo s p)) = zSup (zPv (s 2) (s 3) (s 4) tx tot (zAn (s 5) (s 21 5))) (zo s) (p + 1) (c - 1) (upd (s 22) (zo s p) (nI (lo + (hi - lo + 1) / 2))) (zNt (s 4 (zo s p))) from (by rw [g2, a16 g1, zSt_s, ← g2]; exact same e' _ h1)]
        by_cases hcmp : zSup (zPv (s 2) (s 3) (s 4) tx tot (zAn (s 5) (s 21 5))) (zo s) (p + 1) (c - 1) (upd (s 22) (zo s p) (nI (lo + (hi - lo + 1) / 2))) (zNt (s 4 (zo s p))) < nI (lo + (hi - lo + 1) / 2)
        · rw [if_pos hcmp, if_pos hcmp, zLt_e, zLt_e, nI_s, n_s1 (by omega)]
          exact ih f lo _ (t + 1) _ (by omega) (by omega) hlo (by omega) ag eb
        · rw [if_neg hcmp, if_neg hcmp, zLt_e, nI_s]
          exact ih f _ hi (t + 1) _ (by omega) (by omega) (by omega) hhi ag eb
  obtain ⟨e'', x1, x2, x3⟩ := loop 31 n 0 a 0 (s 22) rfl (by omega) (by omega) ha (fun _ _ => rfl) hb
  refine ⟨e'', ?_, x2, x3⟩
  rw [zSt_i] at x1
  unfold m_X6_greatest
  rw [p_lineAt_n (by omega) hV.2.1, zBd_e, p_first, zBd_e, a16 hL, p_of, zBd_e, f2, a16 f1, ← f2, ea]
  exact x1
theorem p_workOut {n : Nat} (hn : 100 ≤ n) {s : zS} {tx : Int32 → Int32} {tot : Int32} (r : Int32) (hV : zVs n s tx tot) (hb : ∀ k, k < 16 → zBn (s 22 k)) : ∃ e, m_X6_workOut n r s = some (0, zSt (zU s 21 5 r) 22 e) ∧ (∀ k, k < 16 → zBn (e k)) ∧ ∀ p, p < 16 → zVq (s 2) (s 3) (s 4) (zo s) (zPv (s 2) (s 3) (s 4) tx tot (zAn (s 5) r)) e p := by
  have hP := hV.1
  obtain ⟨e, f1, hf1, ⟨i1, i2⟩, e1⟩ := for_up (fun f p (e : Nat → Int32) => m_X6_workOut_j7 n f (nI p) (zSt (zU s 21 5 r) 22 e)) (fun p e => (∀ k, k < 16 → zBn (e k)) ∧ ∀ q, q < p → zVq (s 2) (s 3) (s 4) (zo s) (zPv (s 2) (s 3) (s 4) tx tot (zAn (s 5) r)) e q) 16 (by
    rintro f p e hp ⟨h1, h2⟩
    have hL := hP.2.1 p hp
    have fr : ∀ c, c < 15 → zSt (zU s 21 5 r) 22 e c = s c := fun c hc => by rw [zSt_n (by omega), zU_ne (by omega)]
    have hV' : zVs n (zSt (zU s 21 5 r) 22 e) tx tot := zVs_c hV fr
    have z9 : zo (zSt (zU s 21 5 r) 22 e) = zo s := by funext q; unfold zo; rw [fr 9 (by decide)]
    have er : zSt (zU s 21 5 r) 22 e 21 5 = r := by rw [zSt_n (by decide), zU_eq]
    have hb' : ∀ k, k < 16 → zBn (zSt (zU s 21 5 r) 22 e 22 k) := by rw [zSt_s]; exact h1
    -- a plain line
    have plain : ¬ zCl (s 2) (s 3) (s 4) (zo s p) → ∃ e', ((∀ k, k < 16 → zBn (e' k)) ∧ ∀ q, q < p + 1 → zVq (s 2) (s 3) (s 4) (zo s) (zPv (s 2) (s 3) (s 4) tx tot (zAn (s 5) r)) e' q) ∧ m_X6_workOut_j51 (m_X6_workOut_j7 n f) n (nI p) (nI (zo s p)) 0 (zSt (zU s 21 5 r) 22 e) = m_X6_workOut_j7 n f (nI (p + 1)) (zSt (zU s 21 5 r) 22 e') := by
      intro hn
      have ep := p_plain hV' hb' hL
      rw [fr 2 (by decide), fr 3 (by decide), fr 4 (by decide), fr 5 (by decide), er, zSt_s] at ep
      refine ⟨upd e (zo s p) (zPv (s 2) (s 3) (s 4) tx tot (zAn (s 5) r) e (zo s p)), ⟨fun k hk => ?_, fun q hq => ?_⟩, ?_⟩
      · by_cases ek : k = zo s p
        · rw [ek, upd_s]
          exact zPv_bn hP.1 hL hV.2.2.2.2.2.2.1 hV.2.2.2.2.2.2.2.1 (zAn_bn hV.2.2.2.2.2.2.2.2 hL) (fun j hj _ => h1 j hj)
        · rw [upd_n ek]; exact h1 k hk
      · by_cases eq : q = p
        · subst eq
          refine ⟨fun _ => ?_, fun hc => absurd hc hn⟩
          rw [upd_s]
          refine (zPv_c hP.1 hL (fun j hj hu => ?_)).symm
          obtain ⟨t, ht, et⟩ := zPn_use hP hp hn j hj hu
          rw [upd_n (fun h => by have := hP.2.2.1 t q (by omega) (by omega) (et.trans h); omega)]
        · exact zVq_c hP (fun k e1 e2 hk h => zPv_c hP.1 hk h) (by omega) (fun t ht => upd_n (fun h => by have := hP.2.2.1 t p (by omega) (by omega) h; omega)) (h2 q (by omega))
      · unfold m_X6_workOut_j51
        rw [if_pos rfl, ep, zBd_e, p_put hL (by decide), zBd_e, zLt_e, nI_s, zSt_u]
    by_cases h8 : s 2 (zo s p) = 8
    · have ec : m_X4_isCircular n (nI (zo s p)) (zSt (zU s 21 5 r) 22 e) = some (if zR (s 2) (s 3) (s 4) (zo s p) (zo s p) = true then 1 else 0, zSt (zU s 21 5 r) 22 e) := by
        rw [p_isCircular, a16 hL, fr 7 (by decide), has_n (by omega), hV.2.2.1 _ hL _ (by omega)]
      by_cases hc : zR (s 2) (s 3) (s 4) (zo s p) (zo s p) = true
      · obtain ⟨c, hx⟩ := hP.2.2.2.2.1 p hp ⟨h8, hc⟩
        have hcl : zCl (s 2) (s 3) (s 4) (zo s p) := ⟨h8, hc⟩
        obtain ⟨e', ge, ga, gb⟩ := p_greatest (p := p) (c := c) hn hV' hb' (by rw [z9, fr 2 (by decide), fr 3 (by decide), fr 4 (by decide)]; exact hcl) (by rw [z9, fr 2 (by decide), fr 3 (by decide), fr 4 (by decide)]; exact hx)
        rw [z9, fr 2 (by decide), fr 3 (by decide), fr 4 (by decide), fr 5 (by decide), er, zSt_s] at ge
        rw [z9, zSt_s] at ga
        have zz : zSt (zSt (zU s 21 5 r) 22 e) 22 e' = zSt (zU s 21 5 r) 22 e' := by
          funext i
          by_cases h : i = 22
          · subst h; rw [zSt_s, zSt_s]
          · rw [zSt_n h, zSt_n h, zSt_n h]
        rw [zz] at ge
        obtain ⟨f1, f2⟩ := zWf_f hP.1 hL (by rw [h8]; decide)
        obtain ⟨a, ha, ea⟩ := h1 _ f1
        obtain ⟨b, _, hb2, eb⟩ := zHl_in (h := fun mid => zSup (zPv (s 2) (s 3) (s 4) tx tot (zAn (s 5) r)) (zo s) (p + 1) (c - 1) (upd e (zo s p) mid) (zNt (s 4 (zo s p)))) 31 0 a (Nat.zero_le _) ha
        have agr : ∀ q, q < p → upd e' (zo s p) (zHl (fun mid => zSup (zPv (s 2) (s 3) (s 4) tx tot (zAn (s 5) r)) (zo s) (p + 1) (c - 1) (upd e (zo s p) mid) (zNt (s 4 (zo s p)))) 31 0 (e (zNt (s 3 (zo s p))))) (zo s q) = e (zo s q) := fun q hq => by
          rw [upd_n (fun h => by have := hP.2.2.1 q p (by omega) (by omega) h; omega), ga q hq]
        refine ⟨upd e' (zo s p) (zHl (fun mid => zSup (zPv (s 2) (s 3) (s 4) tx tot (zAn (s 5) r)) (zo s) (p + 1) (c - 1) (upd e (zo s p) mid) (zNt (s 4 (zo s p)))) 31 0 (e (zNt (s 3 (zo s p))))), ⟨fun k hk => ?_, fun q hq => ?_⟩, ?_⟩
        · by_cases ek : k = zo s p
          · rw [ek, upd_s, ea]
            exact ⟨b, by omega, eb⟩
          · rw [upd_n ek]; exact gb k hk
        · by_cases eq : q = p
          · subst eq
            -- first with e, where place p holds the result
            have base : zVq (s 2) (s 3) (s 4) (zo s) (zPv (s 2) (s 3) (s 4) tx tot (zAn (s 5) r)) (upd e (zo s q) (zHl (fun mid => zSup (zPv (s 2) (s 3) (s 4) tx tot (zAn (s 5) r)) (zo s) (q + 1) (c - 1) (upd e (zo s q) mid) (zNt (s 4 (zo s q)))) 31 0 (e (zNt (s 3 (zo s q)))))) q := by
              refine ⟨fun h => absurd hcl h, fun _ => ⟨c, hx, ?_⟩⟩
              rw [upd_s]
              obtain ⟨t, ht, et⟩ := (hP.2.2.2.1 q hp).1 (by rw [h8]; decide)
              rw [upd_n (k := zo s q) (j := zNt (s 3 (zo s q))) (fun h => by have := hP.2.2.1 t q (by omega) (by omega) (et.trans h); omega)]
              congr 1
              funext mid
              congr 1
              funext i
              by_cases hi : i = zo s q
              · rw [hi, upd_s, upd_s]
              · rw [upd_n hi, upd_n hi, upd_n hi]
            refine zVq_c hP (fun k e1 e2 hk h => zPv_c hP.1 hk h) hp (fun t ht => ?_) base
            by_cases et : t = q
            · rw [et, upd_s, upd_s]
            · rw [agr t (by omega), upd_n (fun h => et (hP.2.2.1 t q (by omega) (by omega) h))]
          · exact zVq_c hP (fun k e1 e2 hk h => zPv_c hP.1 hk h) (by omega) (fun t ht => agr t (by omega)) (h2 q (by omega))
        · show m_X6_workOut_j7 n (f + 1) (nI p) (zSt (zU s 21 5 r) 22 e) = _
          rw [m_X6_workOut_j7, if_neg (n16 hp), p_lineAt_n hp hV'.2.1, zBd_e, z9, p_kind, zBd_e, a16 hL, fr 2 (by decide), if_pos h8, ec, zBd_e, if_pos hc, if_neg (by decide)]
          unfold m_X6_workOut_j51
          rw [if_neg (by decide), ge, zBd_e, p_put hL (by decide), zBd_e, zLt_e, nI_s, zSt_u]
      · obtain ⟨e', hI, ee⟩ := plain (fun q => hc q.2)
        refine ⟨e', hI, ?_⟩
        show m_X6_workOut_j7 n (f + 1) (nI p) (zSt (zU s 21 5 r) 22 e) = _
        rw [m_X6_workOut_j7, if_neg (n16 hp), p_lineAt_n hp hV'.2.1, zBd_e, z9, p_kind, zBd_e, a16 hL, fr 2 (by decide), if_pos h8, ec, zBd_e, if_neg hc, if_pos rfl, ee]
    · obtain ⟨e', hI, ee⟩ := plain (fun q => h8 q.1)
      refine ⟨e', hI, ?_⟩
      show m_X6_workOut_j7 n (f + 1) (nI p) (zSt (zU s 21 5 r) 22 e) = _
      rw [m_X6_workOut_j7, if_neg (n16 hp), p_lineAt_n hp hV'.2.1, zBd_e, z9, p_kind, zBd_e, a16 hL, fr 2 (by decide), if_neg h8, ee]) 16 n 0 (s 22) rfl (by omega) ⟨hb, fun q h => absurd h (Nat.not_lt_zero q)⟩
  obtain ⟨f1, rfl⟩ : ∃ g, f1 = g + 1 := ⟨f1 - 1, by omega⟩
  refine ⟨e, ?_, i1, i2⟩
  unfold m_X6_workOut
  rw [zLt_e]
  have s0 : zU s 21 5 r = zSt (zU s 21 5 r) 22 (s 22) := by
    funext i
    by_cases h : i = 22
    · subst h; rw [zSt_s, zU_ne (by decide)]
    · rw [zSt_n h]
  rw [show m_X6_workOut_j7 n n 0 (zU s 21 5 r) = m_X6_workOut_j7 n n (nI 0) (zSt (zU s 21 5 r) 22 (s 22)) from (by rw [← s0]; rfl)]
  refine (show _ = _ from e1).trans ?_
  show m_X6_workOut_j7 n (f1 + 1) (nI 16) _ = _
  rw [m_X6_workOut_j7, if_pos n16e]; rfl
end PV
