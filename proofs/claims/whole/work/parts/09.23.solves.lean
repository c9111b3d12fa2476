section PSo
/-! the reference solves all lines -/
def zSol (K F G : Nat → Int32) (o : Nat → Nat) (pv : (Nat → Int32) → Nat → Int32) (fx its : Int32) (D : Nat → Prop) (ve : Nat → Int32) : Prop := zDc K F G D ∧ (∀ k, k < 16 → D k → zBn (ve k)) ∧ (∀ k, k < 16 → nI k = fx → D k → ve k = its) ∧ (∀ k, k < 16 → D k → nI k ≠ fx → ¬ zCl K F G k → ve k = pv ve k) ∧ ∀ p, p < 16 → D (o p) → zCl K F G (o p) → nI (o p) ≠ fx → ∃ c, zExt K F G o p c ∧ ve (o p) = zHl (fun mid => zSup pv o (p + 1) (c - 1) (upd ve (o p) mid) (zNt (G (o p)))) 31 0 (ve (zNt (F (o p))))
def zSJ (m : zS) (o : Nat → Nat) (pv : (Nat → Int32) → Nat → Int32) (fx its : Int32) (e w : Nat → Int32) : Prop := (∀ i, i < 32 → zBn (e i)) ∧ (∀ i, i < 32 → w i = 0 ∨ w i = 1) ∧ zGI (m 1) (m 2) (m 3) 0 w ∧ (∀ k, k < 16 → nI k = fx → w k ≠ 0) ∧ (∀ D ve, zSol (m 1) (m 2) (m 3) o pv fx its D ve → ∀ k, k < 16 → D k → w k ≠ 0 → e k = ve k) ∧ ∀ p, p ≤ 16 → (∀ q, q < p → zCl (m 1) (m 2) (m 3) (o q) → w (o q) ≠ 0) → ∀ q, q < p → w (o q) ≠ 0
/-- a pass of the lines themselves -/
theorem q_base {n : Nat} (hn : 100 ≤ n) {m : zS} {o : Nat → Nat} {tx : Int32 → Int32} {tot fx its : Int32} (hV : zVr n m o tx tot) {e w : Nat → Int32} (bd : ∀ i, i < 32 → zBn (e i)) (bl : ∀ i, i < 32 → w i = 0 ∨ w i = 1) (gi : zGI (m 1) (m 2) (m 3) 0 w) (hf : ∀ k, k < 16 → nI k = fx → w k ≠ 0) (hs : ∀ D ve, zSol (m 1) (m 2) (m 3) o (zPv (m 1) (m 2) (m 3) tx tot (m 4)) fx its D ve → ∀ k, k < 16 → D k → w k ≠ 0 → e k = ve k) : ∃ e' w', m_X8_passes n 0 (zS2 m e w) = some (0, zS2 m e' w') ∧ zSJ m o (zPv (m 1) (m 2) (m 3) tx tot (m 4)) fx its e' w' ∧ ∀ k, k < 16 → w k ≠ 0 → w' k ≠ 0 := by
  obtain ⟨e', ep, h1, h2, h3, h4, h5, h6⟩ := q_passes (b := 0) hn (Or.inl rfl) hV bd bl gi
  simp only [Nat.zero_add] at h2 h3 h6
  refine ⟨e', _, ep, ⟨h1, h4, h5, fun k hk hfx => (h3 k hk (hf k hk hfx)).2, fun D ve hS k hk hD hw => ?_, fun p hp hq => ?_⟩, fun k hk hw => (h3 k hk hw).2⟩
  · refine h6 D ve hS.1 (fun k hk hD hw => hs D ve hS k hk hD hw) (fun k hk hD hc h0 => hS.2.2.2.1 k hk hD (fun q => hf k hk q h0) hc) k hk hD hw
  · have key := zKt_all (b := 0) hV.1 (w := w) hp (fun q hq' hc => ?_)
    · simp only [Nat.zero_add] at key; exact key
    · have := hq q hq' hc
      rw [Nat.zero_add]
      -- a LIMIT of a circle was known before
      refine Classical.byContradiction (fun h0 => ?_)
      have h0 : w (o q) = 0 := Classical.byContradiction h0
      have hoq := hV.1.2.1 q (by omega)
      have ncl : ∀ t, t ≤ 16 → zKt (m 1) (m 2) (m 3) 0 w t (o q) = 0 := by
        have one : ∀ x : Nat → Int32, zGI (m 1) (m 2) (m 3) 0 x → x (o q) = 0 → ∀ i, i ≤ 16 → zKi (m 1) (m 2) (m 3) 0 x i (o q) = 0 := by
          intro x hx hx0 i
          induction i with
          | zero => intro _; exact hx0
          | succ i ih =>
            intro hi
            rw [zKi]
            by_cases ei : i = o q
            · unfold zK1
              rw [if_neg (fun hh => ?_)]
              · exact ih (by omega)
              · have := zK1_ncl hV.1 (k := i) (by omega) (zKi_gi hV.1 hx i (by omega)) (zCan_iff.mp hh.1) hh.2
                exact this (ei ▸ hc)
            · rw [zK1_o (by omega)]; exact ih (by omega)
        intro t
        induction t with
        | zero => intro _; exact h0
        | succ t ih => intro ht; rw [zKt]; exact one _ (zKt_gi hV.1 gi t) (ih (by omega)) 16 (Nat.le_refl _)
      exact this (ncl 16 (Nat.le_refl _))
/-- one LIMIT is tried and, if that serves, halved -/
theorem q_limit {n i : Nat} (hn : 100 ≤ n) {m : zS} {o : Nat → Nat} {tx : Int32 → Int32} {tot fx its : Int32} (hV : zVr n m o tx tot) {e w : Nat → Int32} (hJ : zSJ m o (zPv (m 1) (m 2) (m 3) tx tot (m 4)) fx its e w) (hi : i < 16) (h8 : m 1 i = 8) (h0 : w i = 0) (hF : w (zNt (m 2 i)) ≠ 0) : (∃ e1 w1, m_X8_tries n (nI i) 0 (zS2 m e w) = some (0, zS2 m e1 w1) ∧ zSJ m o (zPv (m 1) (m 2) (m 3) tx tot (m 4)) fx its e1 w1 ∧ (∀ k, k < 16 → w1 k = w k) ∧ zKt (m 1) (m 2) (m 3) 16 (zCp w i 1) 16 (16 + zNt (m 3 i)) = 0) ∨ ∃ e1 w1 e2 w2 e3 w3, m_X8_tries n (nI i) 0 (zS2 m e w) = some (1, zS2 m e1 w1) ∧ m_X8_halves n (nI i) (zS2 m e1 w1) = some (0, zS2 m e2 w2) ∧ m_X8_passes n 0 (zS2 m e2 w2) = some (0, zS2 m e3 w3) ∧ zSJ m o (zPv (m 1) (m 2) (m 3) tx tot (m 4)) fx its e3 w3 ∧ (∀ k, k < 16 → w k ≠ 0 → w3 k ≠ 0) ∧ w3 i ≠ 0 := by
  have hP := hV.1
  have hw := hP.1
  obtain ⟨j1, j2, j3, j4, j5, j6⟩ := hJ
  have hK0 : m 1 i ≠ 0 := by rw [h8]; decide
  have hT : zTwo (m 1 i) = true := by rw [h8]; decide
  obtain ⟨f1, f2⟩ := zWf_f hw hi hK0
  obtain ⟨g1, g2⟩ := zWf_g hw hi hT
  obtain ⟨e1, et, hI⟩ := q_tries hn hV j1 j2 j3 hi h8 zBn_0
  have b3 : ∀ k, (k < 16 ∨ 32 ≤ k) → e1 k = e k := fun k hk => by rw [hI.2.1 k (by omega), zCp_o hi hk]
  have b4 : ∀ k, (k < 16 ∨ 32 ≤ k) → zKt (m 1) (m 2) (m 3) 16 (zCp w i 1) 16 k = w k := fun k hk => by rw [zKt_o (by omega), zCp_o hi hk]
  rcases hI.2.2.2.1 (16 + zNt (m 3 i)) (by omega) with hr | hr
  · refine Or.inl ⟨e1, _, by rw [et, hr], ⟨hI.1, hI.2.2.2.1, fun L hL hcl k hk hg hne => ?_, fun k hk hfx => ?_, fun D ve hS k hk hD hne => ?_, fun p hp hq q hq' => ?_⟩, fun k hk => b4 k (Or.inl hk), hr⟩
    · rw [Nat.zero_add] at hne ⊢
      rw [b4 k (Or.inl hk)] at hne
      rw [b4 L (Or.inl hL)]
      have := j3 L hL hcl k hk hg (by rw [Nat.zero_add]; exact hne)
      rw [Nat.zero_add] at this; exact this
    · rw [b4 k (Or.inl hk)]; exact j4 k hk hfx
    · rw [b4 k (Or.inl hk)] at hne
      rw [b3 k (Or.inl hk)]; exact j5 D ve hS k hk hD hne
    · rw [b4 _ (Or.inl (hP.2.1 q (by omega)))]
      refine j6 p hp (fun q' hq'' hc => ?_) q hq'
      have := hq q' hq'' hc
      rw [b4 _ (Or.inl (hP.2.1 q' (by omega)))] at this; exact this
  · -- it serves
    obtain ⟨a, ha, ea⟩ := j1 (zNt (m 2 i)) (by omega)
    obtain ⟨res, e2, w2, r1, r2, r3, r4, r5, r6, r7⟩ := q_halves hn hV j2 j3 hi h8 31 n 0 a e1 _ (by omega) (by omega) (by omega) ha hI.1 hI.2.2.2.1 b3 b4
    have eh : m_X8_halves n (nI i) (zS2 m e1 (zKt (m 1) (m 2) (m 3) 16 (zCp w i 1) 16)) = some (0, zS2 m e2 w2) := by
      unfold m_X8_halves
      rw [zRd_n hi (by decide), zS2_n (c := 2) (by decide) (by decide), f2, zRd_n (by omega) (by decide), zS2_v, b3 _ (Or.inl f1), ea]
      exact r1
    have gi2 : zGI (m 1) (m 2) (m 3) 0 w2 := by
      intro L hL hcl k hk hg hne
      rw [Nat.zero_add] at hne ⊢
      by_cases eL : L = i
      · rw [eL, r5]; decide
      · rw [(r6 L hL eL).2]
        by_cases ek : k = i
        · exact absurd (zGp_lim hP hL hi hcl h8 (ek ▸ hg)).symm eL
        · rw [(r6 k hk ek).2] at hne
          have := j3 L hL hcl k hk hg (by rw [Nat.zero_add]; exact hne)
          rw [Nat.zero_add] at this; exact this
    have hf2 : ∀ k, k < 16 → nI k = fx → w2 k ≠ 0 := by
      intro k hk hfx
      by_cases ek : k = i
      · rw [ek, r5]; decide
      · rw [(r6 k hk ek).2]; exact j4 k hk hfx
    have hs2 : ∀ D ve, zSol (m 1) (m 2) (m 3) o (zPv (m 1) (m 2) (m 3) tx tot (m 4)) fx its D ve → ∀ k, k < 16 → D k → w2 k ≠ 0 → e2 k = ve k := by
      intro D ve hS k hk hD hne
      rcases (Classical.em (k = i)).symm with ek | ek
      · rw [(r6 k hk ek).1]
        rw [(r6 k hk ek).2] at hne
        exact j5 D ve hS k hk hD hne
      · subst ek
        rw [r4]
        obtain ⟨p, hp, ep⟩ := zPn_pos hP hk
        have nfx : nI k ≠ fx := fun q => j4 k hk q h0
        have Df : D (zNt (m 2 k)) := hS.1 k _ hk f1 hD (Or.inl ⟨hK0, rfl⟩)
        have Dg : D (zNt (m 3 k)) := hS.1 k _ hk g1 hD (Or.inr ⟨hT, rfl, rfl⟩)
        have vF : e (zNt (m 2 k)) = ve (zNt (m 2 k)) := j5 D ve hS _ f1 Df hF
        -- what a trial shows, by any extent of the circle
        have show_h : ∀ c, zExt (m 1) (m 2) (m 3) o p c → res = zHl (fun mid => zSup (zPv (m 1) (m 2) (m 3) tx tot (m 4)) o (p + 1) (c - 1) (upd ve k mid) (zNt (m 3 k))) 31 0 (ve (zNt (m 2 k))) := by
          intro c hx
          have hc0 := hx.1
          have hc1 := hx.2.1
          rw [← vF, ea]
          refine r7 _ (fun x e' hx' hI' => ?_)
          have h8p : m 1 (o p) = 8 := by rw [ep]; exact h8
          -- who stands in the circle
          have inG : ∀ r, p ≤ r → r < p + c → zGpr (m 1) (m 2) (m 3) k (o r) := fun r a b => ep ▸ hx.2.2.1 r a b
          have out : ∀ j, j < 16 → ¬ zGpr (m 1) (m 2) (m 3) k j → zSup (zPv (m 1) (m 2) (m 3) tx tot (m 4)) o (p + 1) (c - 1) (upd ve k (nI x)) j = ve j := by
            intro j hj hng
            rw [zSup_out (k := j) _ _ _ (fun r a b er => hng (by have := inG r (by omega) (by omega); rw [er] at this; exact this)), upd_n (fun q => hng (Or.inl q))]
          have atk : zSup (zPv (m 1) (m 2) (m 3) tx tot (m 4)) o (p + 1) (c - 1) (upd ve k (nI x)) k = nI x := by
            rw [zSup_out _ _ _ (fun r a b er => by have := hP.2.2.1 r p (by omega) hp (er.trans ep.symm); omega), upd_s]
          refine hI'.2.2.2.2.2 (fun j => D j ∧ (¬ zR (m 1) (m 2) (m 3) j k = true ∨ zGpr (m 1) (m 2) (m 3) k j)) (zSup (zPv (m 1) (m 2) (m 3) tx tot (m 4)) o (p + 1) (c - 1) (upd ve k (nI x))) ?_ ?_ ?_ _ g1 ⟨Dg, ?_⟩ (by rw [hr]; decide)
          · intro u j hu hj ⟨du, hd⟩ hub
            refine ⟨hS.1 u j hu hj du hub, ?_⟩
            have ruj := zR_u hw hu hub
            by_cases hjk : zR (m 1) (m 2) (m 3) j k = true
            · right
              rcases hd with hd | hd
              · exact absurd (zTC_tr hj ruj hjk) hd
              · rcases hd with e | ⟨q1, q2⟩
                · exact Or.inr ⟨e ▸ ruj, hjk⟩
                · exact Or.inr ⟨zTC_tr hu q1 ruj, hjk⟩
            · exact Or.inl hjk
          · intro j hj ⟨dj, _⟩ hne
            by_cases ej : j = k
            · rw [ej, zCp_l, atk]
            · rw [zCp_h hj ej] at hne ⊢
              have hng : ¬ zGpr (m 1) (m 2) (m 3) k j := by
                intro hg
                rcases hg with h | ⟨q1, q2⟩
                · exact ej h
                · have := j3 k hk ⟨h8, zTC_tr hj q1 q2⟩ j hj (Or.inr ⟨q1, q2⟩) (by rw [Nat.zero_add]; exact hne)
                  rw [Nat.zero_add] at this; exact this h0
              rw [out j hj hng]
              exact j5 D ve hS j hj dj hne
          · intro j hj ⟨dj, hd⟩ hnc hn0
            have ej : j ≠ k := fun q => by rw [q, zCp_l] at hn0; exact absurd hn0 (by decide)
            rw [zCp_h hj ej] at hn0
            by_cases hg : zGpr (m 1) (m 2) (m 3) k j
            · obtain ⟨r, q1, q2, q3⟩ := hx.2.2.2 j hj (by rw [ep]; exact hg)
              have hrp : p < r := by
                rcases Nat.lt_or_ge p r with h | h
                · exact h
                · exact absurd (by rw [← q3, ← ep]; congr 1; omega) ej
              rw [← q3]
              exact zSup_in (U := zUb (m 1) (m 2) (m 3) false) (fun k e1 e2 hk h => zPv_c hw hk h) hP.2.1 hP.2.2.1 (c - 1) (p + 1) _ (by omega) (zEx_use hP h8p hx) r (by omega) (by omega)
            · have nR : ¬ zR (m 1) (m 2) (m 3) j k = true := by
                rcases hd with h | h
                · exact h
                · exact absurd h hg
              rw [out j hj hg, hS.2.2.2.1 j hj dj (fun q => j4 j hj q hn0) hnc]
              refine zPv_c hw hj (fun u hu hub => (out u hu (fun hgu => ?_)).symm)
              rcases hgu with h | ⟨_, h⟩
              · exact nR (h ▸ zR_u hw hj hub)
              · exact nR (zTC_tr hu (zR_u hw hj hub) h)
          · by_cases hgk : zR (m 1) (m 2) (m 3) (zNt (m 3 k)) k = true
            · exact Or.inr (Or.inr ⟨zR_u hw hk (Or.inr ⟨hT, rfl, rfl⟩), hgk⟩)
            · exact Or.inl hgk
        by_cases hcl : zCl (m 1) (m 2) (m 3) k
        · obtain ⟨c, hx, ev⟩ := hS.2.2.2.2 p hp (by rw [ep]; exact hD) (by rw [ep]; exact hcl) (by rw [ep]; exact nfx)
          rw [ep] at ev
          rw [ev]
          exact show_h c hx
        · -- no circle: the smaller one of the two
          obtain ⟨c, hx⟩ := zPn_ex hP hp (by rw [ep]; exact h8)
          rw [show_h c hx, hS.2.2.2.1 k hk hD nfx hcl, zPv_8 h8]
          obtain ⟨x, hx1, ex⟩ := hS.2.1 _ f1 Df
          obtain ⟨y, hy1, ey⟩ := hS.2.1 _ g1 Dg
          have ngp : ¬ zGpr (m 1) (m 2) (m 3) k (zNt (m 3 k)) := by
            have rkg := zR_u hw hk (Or.inr ⟨hT, rfl, rfl⟩ : zUb (m 1) (m 2) (m 3) false k (zNt (m 3 k)))
            rintro (h | ⟨q1, q2⟩)
            · exact hcl ⟨h8, by rw [h] at rkg; exact rkg⟩
            · exact hcl ⟨h8, zTC_tr g1 q1 q2⟩
          have hc0 := hx.1
          have hc1 := hx.2.1
          have cst : (fun mid => zSup (zPv (m 1) (m 2) (m 3) tx tot (m 4)) o (p + 1) (c - 1) (upd ve k mid) (zNt (m 3 k))) = fun _ => nI y := by
            funext mid
            rw [zSup_out (k := zNt (m 3 k)) _ _ _ (fun r a b er => ngp (by have := hx.2.2.1 r (by omega) (by omega); rw [er, ep] at this; exact this)), upd_n (fun q => ngp (Or.inl q)), ey]
          rw [cst, ex, ey]
          have := zHl_const hy1 31 0 x (by omega) (Nat.zero_le _) hx1
          rw [show (0 : Int32) = nI 0 from rfl, this, n_min (by omega) (by omega), Nat.min_comm]
    obtain ⟨e3, w3, ep, hJ3, hm⟩ := q_base hn hV r2 r3 gi2 hf2 hs2
    refine Or.inr ⟨e1, _, e2, w2, e3, w3, by rw [et, hr], eh, ep, hJ3, fun k hk hne => hm k hk ?_, hm i hi (by rw [r5]; decide)⟩
    by_cases ek : k = i
    · rw [ek, r5]; decide
    · rw [(r6 k hk ek).2]; exact hne
theorem q_solves {n : Nat} (hn : 100 ≤ n) {m : zS} {o : Nat → Nat} {tx : Int32 → Int32} {tot fx its : Int32} (hV : zVr n m o tx tot) (bd : ∀ i, i < 32 → zBn (m 11 i)) (bl : ∀ i, i < 32 → m 12 i = 0 ∨ m 12 i = 1) (hf : ∀ k, k < 16 → nI k = fx → m 1 k = 8) (hits : zBn its) : ∃ e w, m_X8_solves n fx its m = some (0, zS2 m e w) ∧ (∀ i, i < 32 → zBn (e i)) ∧ (∀ i, i < 32 → w i = 0 ∨ w i = 1) ∧ ∀ D ve, zSol (m 1) (m 2) (m 3) o (zPv (m 1) (m 2) (m 3) tx tot (m 4)) fx its D ve → ∀ k, k < 16 → D k → e k = ve k := by
  have hP := hV.1
  -- the start
  obtain ⟨⟨e0, w0⟩, f1, hf1, ⟨a1, a2, a3⟩, ee⟩ := for_up (fun f k (x : (Nat → Int32) × (Nat → Int32)) => m_X8_solves_j2 n f fx its (nI k) (zS2 m x.1 x.2)) (fun k x => (∀ i, i < 32 → zBn (x.1 i)) ∧ (∀ i, i < 32 → x.2 i = 0 ∨ x.2 i = 1) ∧ ∀ i, i < k → x.1 i = (if nI i = fx then its else 0) ∧ x.2 i = if nI i = fx then 1 else 0) 16 (by
    rintro f k ⟨e, w⟩ hk ⟨h1, h2, h3⟩
    simp only at h1 h2 h3
    refine ⟨(upd e k (if nI k = fx then its else 0), upd w k (if nI k = fx then 1 else 0)), ⟨fun i hi => ?_, fun i hi => ?_, fun i hi => ?_⟩, ?_⟩
    · show zBn (upd e k _ i)
      by_cases q : i = k
      · rw [q, upd_s]; split
        · exact hits
        · exact zBn_0
      · rw [upd_n q]; exact h1 i hi
    · show upd w k _ i = 0 ∨ upd w k _ i = 1
      by_cases q : i = k
      · rw [q, upd_s]; split
        · exact Or.inr rfl
        · exact Or.inl rfl
      · rw [upd_n q]; exact h2 i hi
    · show upd e k _ i = _ ∧ upd w k _ i = _
      by_cases q : i = k
      · rw [q, upd_s, upd_s]; exact ⟨rfl, rfl⟩
      · rw [upd_n q, upd_n q]; exact h3 i (by omega)
    · show m_X8_solves_j2 n (f + 1) fx its (nI k) (zS2 m e w) = m_X8_solves_j2 n f fx its (nI (k + 1)) (zS2 m (upd e k _) (upd w k _))
      rw [m_X8_solves_j2, if_neg (n16 hk)]
      by_cases q : nI k = fx
      · rw [if_pos q, if_pos q, if_pos q]
        unfold m_X8_solves_j23
        rw [zWr_n (by omega) (by decide), zS2_uw, if_pos q, zWr_n (by omega) (by decide), zS2_uv, zLt_e, nI_s, zn_id _ (Or.inr rfl)]
      · rw [if_neg q, if_neg q, if_neg q]
        unfold m_X8_solves_j23
        rw [zWr_n (by omega) (by decide), zS2_uw, if_neg q, zWr_n (by omega) (by decide), zS2_uv, zLt_e, nI_s, zn_id _ (Or.inl rfl)]) 16 n 0 (m 11, m 12) rfl (by omega) ⟨bd, bl, fun i h => absurd h (Nat.not_lt_zero i)⟩
  simp only at a1 a2 a3
  obtain ⟨f1, rfl⟩ : ∃ g, f1 = g + 1 := ⟨f1 - 1, by omega⟩
  have kn : ∀ k, k < 16 → (w0 k ≠ 0 ↔ nI k = fx) := by
    intro k hk
    rw [(a3 k hk).2]
    by_cases q : nI k = fx
    · rw [if_pos q]; exact ⟨fun _ => q, fun _ => by decide⟩
    · rw [if_neg q]; exact ⟨fun h => absurd rfl h, fun h => absurd h q⟩
  obtain ⟨e1, w1, ep, hJ, _⟩ := q_base (fx := fx) (its := its) hn hV a1 a2 (fun L hL hcl k hk hg hne => by
    rw [Nat.zero_add] at hne ⊢
    have hkf := (kn k hk).mp hne
    rw [← zGp_lim hP hL hk hcl (hf k hk hkf) hg]; exact hne) (fun k hk hfx => (kn k hk).mpr hfx) (fun D ve hS k hk hD hne => by
    have hkf := (kn k hk).mp hne
    rw [(a3 k hk).1, if_pos hkf]
    exact (hS.2.2.1 k hk hkf hD).symm)
  -- the turns
  obtain ⟨⟨e2, w2⟩, f2, hf2, ⟨hJ2, hk2⟩, ee2⟩ := for_up (fun f t (x : (Nat → Int32) × (Nat → Int32)) => m_X8_solves_j53 n f (nI t) (zS2 m x.1 x.2)) (fun t x => zSJ m o (zPv (m 1) (m 2) (m 3) tx tot (m 4)) fx its x.1 x.2 ∧ ∀ q, q < t → x.2 (o q) ≠ 0) 16 (by
    rintro f t ⟨e, w⟩ ht ⟨hJ, hk⟩
    simp only at hJ hk
    obtain ⟨⟨e3, w3⟩, f3, hf3, ⟨hJ3, hk3, hk4⟩, ee3⟩ := for_up (fun f9 i (x : (Nat → Int32) × (Nat → Int32)) => m_X8_solves_j62 (m_X8_solves_j53 n f) n f9 (nI t) (nI i) (zS2 m x.1 x.2)) (fun i x => zSJ m o (zPv (m 1) (m 2) (m 3) tx tot (m 4)) fx its x.1 x.2 ∧ (∀ q, q < t → x.2 (o q) ≠ 0) ∧ (o t < i → x.2 (o t) ≠ 0)) 16 (by
      rintro f9 i ⟨e, w⟩ hi ⟨hJ, hk, hk'⟩
      simp only at hJ hk hk'
      have c1 : zS2 m e w 1 = m 1 := zS2_n (by decide) (by decide)
      have c2 : zS2 m e w 2 = m 2 := zS2_n (by decide) (by decide)
      have hot := hP.2.1 t ht
      -- the line whose turn it is
      have must : i = o t → w i = 0 → zCl (m 1) (m 2) (m 3) i ∧ w (zNt (m 2 i)) ≠ 0 ∧ zKt (m 1) (m 2) (m 3) 16 (zCp w i 1) 16 (16 + zNt (m 3 i)) ≠ 0 := by
        intro ei h0
        have hcl : zCl (m 1) (m 2) (m 3) (o t) := by
          refine Classical.byContradiction (fun hnc => ?_)
          refine hJ.2.2.2.2.2 (t + 1) (by omega) (fun q hq hc => ?_) t (by omega) (by rw [← ei]; exact h0)
          by_cases eq : q = t
          · rw [eq] at hc; exact absurd hc hnc
          · exact hk q (by omega)
        have hcl' : zCl (m 1) (m 2) (m 3) i := by rw [ei]; exact hcl
        refine ⟨hcl', ?_, ?_⟩
        · obtain ⟨q, hq, e⟩ := (hP.2.2.2.1 t ht).1 (by rw [hcl.1]; decide)
          rw [ei, ← e]; exact hk q hq
        · obtain ⟨c, hx⟩ := hP.2.2.2.2.1 t ht hcl
          have hc1 := hx.2.1
          have key := zKt_all (b := 16) hP (w := zCp w i 1) (p := t + c) hc1 (fun q hq hc => by
            by_cases eq : q = t
            · rw [eq, ← ei, zCp_l]; decide
            · have hoq := hP.2.1 q (by omega)
              rw [zCp_h hoq (fun h => eq (hP.2.2.1 q t (by omega) ht (h.trans ei)))]
              rcases Nat.lt_or_ge q t with h | h
              · exact hk q h
              · exact absurd hc.1 (zEx_n8 hP hcl.1 hx (by omega) hq))
          have hg := (zWf_g hP.1 hi (by rw [hcl'.1]; decide)).1
          obtain ⟨r, r1, r2, r3⟩ := hx.2.2.2 _ hg (by rw [← ei]; exact zCl_g hP hi hcl')
          rw [← r3]
          exact key r r2
      have skip : (i = o t → w i ≠ 0) → (zSJ m o (zPv (m 1) (m 2) (m 3) tx tot (m 4)) fx its e w ∧ (∀ q, q < t → w (o q) ≠ 0) ∧ (o t < i + 1 → w (o t) ≠ 0)) := by
        intro h
        refine ⟨hJ, hk, fun hlt => ?_⟩
        by_cases eq : i = o t
        · rw [← eq]; exact h eq
        · exact hk' (by omega)
      rcases (Classical.em (m 1 i = 8)).symm with h8 | h8
      · refine ⟨(e, w), skip (fun ei h0 => h8 (must ei h0).1.1), ?_⟩
        show m_X8_solves_j62 _ n (f9 + 1) (nI t) (nI i) (zS2 m e w) = _
        rw [m_X8_solves_j62, if_neg (n16 hi), zRd_n hi (by decide), c1, if_neg h8]
        unfold m_X8_solves_j127
        rw [zLt_e, nI_s]
      rcases (Classical.em (w i = 0)).symm with h0 | h0
      · refine ⟨(e, w), skip (fun _ => h0), ?_⟩
        show m_X8_solves_j62 _ n (f9 + 1) (nI t) (nI i) (zS2 m e w) = _
        rw [m_X8_solves_j62, if_neg (n16 hi), zRd_n hi (by decide), c1, if_pos h8, zRd_n (by omega) (by decide), zS2_w, if_neg h0]
        unfold m_X8_solves_j127
        rw [zLt_e, nI_s]
      obtain ⟨f1, f2⟩ := zWf_f hP.1 hi (by rw [h8]; decide)
      by_cases hF : w (zNt (m 2 i)) = 0
      · refine ⟨(e, w), skip (fun ei => absurd hF (must ei h0).2.1), ?_⟩
        show m_X8_solves_j62 _ n (f9 + 1) (nI t) (nI i) (zS2 m e w) = _
        rw [m_X8_solves_j62, if_neg (n16 hi), zRd_n hi (by decide), c1, if_pos h8, zRd_n (by omega) (by decide), zS2_w, if_pos h0, zRd_n hi (by decide), c2, f2, zRd_n (by omega) (by decide), if_pos hF]
        unfold m_X8_solves_j127
        rw [zLt_e, nI_s]
      · have run : ∀ x, m_X8_solves_j62 (m_X8_solves_j53 n f) n (f9 + 1) (nI t) (nI i) (zS2 m e w) = x ↔ (zBd (m_X8_tries n (nI i) (0 : Int32) (zS2 m e w)) fun x11 s12 => if x11 = 0 then (m_X8_solves_j127 (m_X8_solves_j53 n f) (m_X8_solves_j62 (m_X8_solves_j53 n f) n f9) n (nI t) (nI i) s12) else (zBd (m_X8_halves n (nI i) s12) fun x14 s15 => zBd (m_X8_passes n (0 : Int32) s15) fun x16 s17 => m_X8_solves_j127 (m_X8_solves_j53 n f) (m_X8_solves_j62 (m_X8_solves_j53 n f) n f9) n (nI t) (nI i) s17)) = x := by
          intro x
          rw [m_X8_solves_j62, if_neg (n16 hi), zRd_n hi (by decide), c1, if_pos h8, zRd_n (by omega) (by decide), zS2_w, if_pos h0, zRd_n hi (by decide), c2, f2, zRd_n (by omega) (by decide), if_neg hF]
        rcases q_limit hn hV hJ hi h8 h0 hF with ⟨ea, wa, q1, q2, q3, q4⟩ | ⟨ea, wa, eb, wb, ec, wc, q1, q2, q3, q4, q5, q6⟩
        · refine ⟨(ea, wa), ⟨q2, fun q hq => by show wa (o q) ≠ 0; rw [q3 _ (hP.2.1 q (by omega))]; exact hk q hq, fun hlt => ?_⟩, ?_⟩
          · show wa (o t) ≠ 0
            rw [q3 _ hot]
            by_cases eq : i = o t
            · exact absurd q4 (must eq h0).2.2
            · exact hk' (by omega)
          · show m_X8_solves_j62 _ n (f9 + 1) (nI t) (nI i) (zS2 m e w) = _
            rw [run, q1, zBd_e, if_pos rfl]
            unfold m_X8_solves_j127
            rw [zLt_e, nI_s]
        · refine ⟨(ec, wc), ⟨q4, fun q hq => q5 _ (hP.2.1 q (by omega)) (hk q hq), fun hlt => ?_⟩, ?_⟩
          · show wc (o t) ≠ 0
            by_cases eq : i = o t
            · rw [← eq]; exact q6
            · exact q5 _ hot (hk' (by omega))
          · show m_X8_solves_j62 _ n (f9 + 1) (nI t) (nI i) (zS2 m e w) = _
            rw [run, q1, zBd_e, if_neg (by decide), q2, zBd_e, q3, zBd_e]
            unfold m_X8_solves_j127
            rw [zLt_e, nI_s]) 16 n 0 (e, w) rfl (by omega) ⟨hJ, hk, fun h => absurd h (Nat.not_lt_zero _)⟩
    simp only at hJ3 hk3 hk4
    obtain ⟨f3, rfl⟩ : ∃ g, f3 = g + 1 := ⟨f3 - 1, by omega⟩
    refine ⟨(e3, w3), ⟨hJ3, fun q hq => ?_⟩, ?_⟩
    · show w3 (o q) ≠ 0
      by_cases eq : q = t
      · rw [eq]; exact hk4 (hP.2.1 t ht)
      · exact hk3 q (by omega)
    · show m_X8_solves_j53 n (f + 1) (nI t) (zS2 m e w) = m_X8_solves_j53 n f (nI (t + 1)) (zS2 m e3 w3)
      rw [m_X8_solves_j53, if_neg (n16 ht)]
      refine (show _ = _ from ee3).trans ?_
      show m_X8_solves_j62 _ n (f3 + 1) (nI t) (nI 16) (zS2 m e3 w3) = _
      rw [m_X8_solves_j62, if_pos n16e, zLt_e, nI_s]) 16 n 0 (e1, w1) rfl (by omega) ⟨hJ, fun q h => absurd h (Nat.not_lt_zero q)⟩
  simp only at hJ2 hk2
  obtain ⟨f2, rfl⟩ : ∃ g, f2 = g + 1 := ⟨f2 - 1, by omega⟩
  refine ⟨e2, w2, ?_, hJ2.1, hJ2.2.1, fun D ve hS k hk hD => ?_⟩
  · unfold m_X8_solves
    have ee' : m_X8_solves_j2 n n fx its 0 m = m_X8_solves_j2 n (f1 + 1) fx its (nI 16) (zS2 m e0 w0) := by
      have := ee
      simp only at this
      rw [zS2_i] at this
      exact this
    rw [ee', m_X8_solves_j2, if_pos n16e, ep, zBd_e]
    refine (show _ = _ from ee2).trans ?_
    show m_X8_solves_j53 n (f2 + 1) (nI 16) (zS2 m e2 w2) = _
    rw [m_X8_solves_j53, if_pos n16e]; rfl
  · obtain ⟨p, hp, e⟩ := zPn_pos hP hk
    exact hJ2.2.2.2.2.1 D ve hS k hk hD (e ▸ hk2 p hp)
end PSo
