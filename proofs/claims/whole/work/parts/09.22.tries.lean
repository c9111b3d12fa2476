section PTr
/-! the reference tries values -/
def zCp (e : Nat → Int32) (L : Nat) (v : Int32) : Nat → Int32 := fun i => if i = 16 + L then v else if 16 ≤ i ∧ i < 32 then e (i - 16) else e i
theorem zCp_l {e : Nat → Int32} {L : Nat} {v : Int32} : zCp e L v (16 + L) = v := if_pos rfl
theorem zCp_h {e : Nat → Int32} {L k : Nat} {v : Int32} (hk : k < 16) (h : k ≠ L) : zCp e L v (16 + k) = e k := by
  unfold zCp
  rw [if_neg (by omega), if_pos (by omega)]; congr 1; omega
theorem zCp_o {e : Nat → Int32} {L i : Nat} {v : Int32} (hL : L < 16) (h : i < 16 ∨ 32 ≤ i) : zCp e L v i = e i := by
  unfold zCp
  rw [if_neg (by omega), if_neg (by omega)]
theorem zCp_c {e e' : Nat → Int32} {L : Nat} {v : Int32} (h : ∀ i, (i < 16 ∨ 32 ≤ i) → e' i = e i) : zCp e' L v = zCp e L v := by
  funext i
  unfold zCp
  by_cases h1 : i = 16 + L
  · rw [if_pos h1, if_pos h1]
  · rw [if_neg h1, if_neg h1]
    by_cases h2 : 16 ≤ i ∧ i < 32
    · rw [if_pos h2, if_pos h2, h _ (Or.inl (by omega))]
    · rw [if_neg h2, if_neg h2, h _ (by omega)]
theorem zGp_lim {K F G : Nat → Int32} {o : Nat → Nat} (hP : zPn K F G o) {L' L : Nat} (hL' : L' < 16) (hL : L < 16) (hcl : zCl K F G L') (h8 : K L = 8) (hg : zGpr K F G L' L) : L = L' := by
  rcases hg with h | ⟨a, b⟩
  · exact h
  · exact (hP.2.2.2.2.2 L' hL' hcl).1 L hL a b h8
theorem q_tries {n L : Nat} (hn : 100 ≤ n) {m : zS} {o : Nat → Nat} {tx : Int32 → Int32} {tot v : Int32} (hV : zVr n m o tx tot) {e w : Nat → Int32} (bd : ∀ i, i < 32 → zBn (e i)) (bl : ∀ i, i < 32 → w i = 0 ∨ w i = 1) (gi : zGI (m 1) (m 2) (m 3) 0 w) (hL : L < 16) (h8 : m 1 L = 8) (hv : zBn v) : ∃ e', m_X8_tries n (nI L) v (zS2 m e w) = some (zKt (m 1) (m 2) (m 3) 16 (zCp w L 1) 16 (16 + zNt (m 3 L)), zS2 m e' (zKt (m 1) (m 2) (m 3) 16 (zCp w L 1) 16)) ∧ zPI m 16 (zPv (m 1) (m 2) (m 3) tx tot (m 4)) (zCp e L v) (zCp w L 1) e' (zKt (m 1) (m 2) (m 3) 16 (zCp w L 1) 16) := by
  have hP := hV.1
  obtain ⟨g1, g2⟩ := zWf_g hP.1 hL (by rw [h8]; decide)
  -- the copy
  obtain ⟨⟨e1, w1⟩, f1, hf1, ⟨a1, a2⟩, ee⟩ := for_up (fun f k (x : (Nat → Int32) × (Nat → Int32)) => m_X8_tries_j2 n f (nI L) v (nI k) (zS2 m x.1 x.2)) (fun k x => (∀ i, x.1 i = if 16 ≤ i ∧ i < 16 + k then e (i - 16) else e i) ∧ ∀ i, x.2 i = if 16 ≤ i ∧ i < 16 + k then w (i - 16) else w i) 16 (by
    rintro f k ⟨e1, w1⟩ hk ⟨h1, h2⟩
    simp only at h1 h2
    have r1 : e1 k = e k := by rw [h1, if_neg (by omega)]
    have r2 : w1 k = w k := by rw [h2, if_neg (by omega)]
    refine ⟨(upd e1 (16 + k) (e k), upd w1 (16 + k) (w k)), ⟨fun i => ?_, fun i => ?_⟩, ?_⟩
    · show upd e1 (16 + k) (e k) i = _
      by_cases q : i = 16 + k
      · rw [q, upd_s, if_pos (by omega)]; congr 1; omega
      · rw [upd_n q, h1]
        exact zif (by omega)
    · show upd w1 (16 + k) (w k) i = _
      by_cases q : i = 16 + k
      · rw [q, upd_s, if_pos (by omega)]; congr 1; omega
      · rw [upd_n q, h2]
        exact zif (by omega)
    · show m_X8_tries_j2 n (f + 1) (nI L) v (nI k) (zS2 m e1 w1) = m_X8_tries_j2 n f (nI L) v (nI (k + 1)) (zS2 m (upd e1 (16 + k) (e k)) (upd w1 (16 + k) (w k)))
      rw [m_X8_tries_j2, if_neg (n16 hk), zRd_n (by omega) (by decide), zS2_v, r1, show (16 : Int32) + nI k = nI (16 + k) from nI_add 16 k, zWr_n (by omega) (by decide), zS2_uv, zRd_n (by omega) (by decide), zS2_w, r2, zWr_n (by omega) (by decide), zS2_uw, zLt_e, nI_s, zn_id _ (bl k (by omega))]) 16 n 0 (e, w) rfl (by omega) ⟨fun i => by show e i = _; rw [if_neg (by omega)], fun i => by show w i = _; rw [if_neg (by omega)]⟩
  simp only at a1 a2
  have ce : upd e1 (16 + L) v = zCp e L v := by
    funext i
    unfold zCp
    by_cases q : i = 16 + L
    · rw [q, upd_s, if_pos rfl]
    · rw [upd_n q, a1, if_neg q]
  have cw : upd w1 (16 + L) 1 = zCp w L 1 := by
    funext i
    unfold zCp
    by_cases q : i = 16 + L
    · rw [q, upd_s, if_pos rfl]
    · rw [upd_n q, a2, if_neg q]
  have bd' : ∀ i, i < 32 → zBn (zCp e L v i) := by
    intro i hi
    unfold zCp
    split
    · exact hv
    · split
      · exact bd _ (by omega)
      · exact bd _ hi
  have bl' : ∀ i, i < 32 → zCp w L 1 i = 0 ∨ zCp w L 1 i = 1 := by
    intro i hi
    unfold zCp
    split
    · exact Or.inr rfl
    · split
      · exact bl _ (by omega)
      · exact bl _ hi
  have gi' : zGI (m 1) (m 2) (m 3) 16 (zCp w L 1) := by
    intro L' hL' hcl k hk hgp hne
    by_cases q' : L' = L
    · rw [q', zCp_l]; decide
    · rw [zCp_h hL' q']
      by_cases q : k = L
      · exact absurd (zGp_lim hP hL' hL hcl h8 (q ▸ hgp)).symm q'
      · rw [zCp_h hk q] at hne
        have := gi L' hL' hcl k hk hgp (by rw [Nat.zero_add]; exact hne)
        rw [Nat.zero_add] at this; exact this
  obtain ⟨e', ep, hI⟩ := q_passes (b := 16) hn (Or.inr rfl) hV bd' bl' gi'
  obtain ⟨f1, rfl⟩ : ∃ g, f1 = g + 1 := ⟨f1 - 1, by omega⟩
  refine ⟨e', ?_, hI⟩
  unfold m_X8_tries
  refine (show _ = _ from ee).trans ?_
  show m_X8_tries_j2 n (f1 + 1) (nI L) v (nI 16) (zS2 m e1 w1) = _
  have ep' : m_X8_passes n 16 (zS2 m (zCp e L v) (zCp w L 1)) = some (0, zS2 m e' (zKt (m 1) (m 2) (m 3) 16 (zCp w L 1) 16)) := ep
  rw [m_X8_tries_j2, if_pos n16e, show (16 : Int32) + nI L = nI (16 + L) from nI_add 16 L, zWr_n (by omega) (by decide), zS2_uv, zWr_n (by omega) (by decide), zS2_uw, zn_id _ (Or.inr rfl), ce, cw, ep', zBd_e, zRd_n hL (by decide), zS2_n (c := 3) (by decide) (by decide), g2, show (16 : Int32) + nI (zNt (m 3 L)) = nI (16 + zNt (m 3 L)) from nI_add 16 _, zRd_n (by omega) (by decide), zS2_w, zGd_e (zn_id _ (hI.2.2.2.1 _ (by omega))), ← g2]; rfl
/-- the reference's halving -/
theorem q_halves {n L : Nat} (hn : 100 ≤ n) {m : zS} {o : Nat → Nat} {tx : Int32 → Int32} {tot : Int32} (hV : zVr n m o tx tot) {e w : Nat → Int32} (bl : ∀ i, i < 32 → w i = 0 ∨ w i = 1) (gi : zGI (m 1) (m 2) (m 3) 0 w) (hL : L < 16) (h8 : m 1 L = 8) : ∀ d f lo hi (e1 w1 : Nat → Int32), d < f → hi - lo < 2 ^ d → lo ≤ 1000000000 → hi ≤ 1000000000 → (∀ i, i < 32 → zBn (e1 i)) → (∀ i, i < 32 → w1 i = 0 ∨ w1 i = 1) → (∀ i, (i < 16 ∨ 32 ≤ i) → e1 i = e i) → (∀ i, (i < 16 ∨ 32 ≤ i) → w1 i = w i) → ∃ (res : Int32) (e2 w2 : Nat → Int32), m_X8_halves_j14 n f (nI L) (nI lo) (nI hi) (zS2 m e1 w1) = some (0, zS2 m e2 w2) ∧ (∀ i, i < 32 → zBn (e2 i)) ∧ (∀ i, i < 32 → w2 i = 0 ∨ w2 i = 1) ∧ e2 L = res ∧ w2 L = 1 ∧ (∀ i, i < 16 → i ≠ L → e2 i = e i ∧ w2 i = w i) ∧ ∀ h : Int32 → Int32, (∀ a e', a ≤ 1000000000 → zPI m 16 (zPv (m 1) (m 2) (m 3) tx tot (m 4)) (zCp e L (nI a)) (zCp w L 1) e' (zKt (m 1) (m 2) (m 3) 16 (zCp w L 1) 16) → e' (16 + zNt (m 3 L)) = h (nI a)) → res = zHl h d (nI lo) (nI hi) := by
  have hP := hV.1
  obtain ⟨g1, g2⟩ := zWf_g hP.1 hL (by rw [h8]; decide)
  have stop : ∀ d f lo hi (e1 w1 : Nat → Int32), 0 < f → hi ≤ lo → lo ≤ 1000000000 → (∀ i, i < 32 → zBn (e1 i)) → (∀ i, i < 32 → w1 i = 0 ∨ w1 i = 1) → (∀ i, (i < 16 ∨ 32 ≤ i) → e1 i = e i) → (∀ i, (i < 16 ∨ 32 ≤ i) → w1 i = w i) → ∃ (res : Int32) (e2 w2 : Nat → Int32), m_X8_halves_j14 n f (nI L) (nI lo) (nI hi) (zS2 m e1 w1) = some (0, zS2 m e2 w2) ∧ (∀ i, i < 32 → zBn (e2 i)) ∧ (∀ i, i < 32 → w2 i = 0 ∨ w2 i = 1) ∧ e2 L = res ∧ w2 L = 1 ∧ (∀ i, i < 16 → i ≠ L → e2 i = e i ∧ w2 i = w i) ∧ ∀ h : Int32 → Int32, (∀ a e', a ≤ 1000000000 → zPI m 16 (zPv (m 1) (m 2) (m 3) tx tot (m 4)) (zCp e L (nI a)) (zCp w L 1) e' (zKt (m 1) (m 2) (m 3) 16 (zCp w L 1) 16) → e' (16 + zNt (m 3 L)) = h (nI a)) → res = zHl h d (nI lo) (nI hi) := by
    intro d f lo hi e1 w1 hf h1 h2 b1 b2 b3 b4
    obtain ⟨f, rfl⟩ : ∃ g, f = g + 1 := ⟨f - 1, by omega⟩
    refine ⟨nI lo, upd e1 L (nI lo), upd w1 L 1, ?_, fun i hi => ?_, fun i hi => ?_, upd_s, upd_s, fun i hi hne => ?_, fun h _ => (zHl_d h1 h2).symm⟩
    · rw [m_X8_halves_j14, if_pos (nI_le h1 (by omega)), zWr_n (by omega) (by decide), zS2_uv, zWr_n (by omega) (by decide), zS2_uw, zn_id _ (Or.inr rfl)]; rfl
    · by_cases q : i = L
      · rw [q, upd_s]; exact ⟨lo, h2, rfl⟩
      · rw [upd_n q]; exact b1 i hi
    · by_cases q : i = L
      · rw [q, upd_s]; exact Or.inr rfl
      · rw [upd_n q]; exact b2 i hi
    · rw [upd_n hne, upd_n hne]; exact ⟨b3 i (Or.inl hi), b4 i (Or.inl hi)⟩
  intro d
  induction d with
  | zero => intro f lo hi e1 w1 hf hw hl hh; exact stop 0 f lo hi e1 w1 hf (by omega) hl
  | succ d ih =>
    intro f lo hi e1 w1 hf hw hl hh b1 b2 b3 b4
    rcases (Nat.lt_or_ge lo hi).symm with hge | hlt
    · exact stop (d + 1) f lo hi e1 w1 (by omega) hge hl b1 b2 b3 b4
    · obtain ⟨f, rfl⟩ : ∃ g, f = g + 1 := ⟨f - 1, by omega⟩
      have hp : 2 ^ (d + 1) = 2 * 2 ^ d := by rw [Nat.pow_succ]; omega
      have gi1 : zGI (m 1) (m 2) (m 3) 0 w1 := by
        intro L' hL' hcl k hk hgp hne
        rw [Nat.zero_add] at hne ⊢
        rw [b4 k (Or.inl hk)] at hne
        rw [b4 L' (Or.inl hL')]
        have := gi L' hL' hcl k hk hgp (by rw [Nat.zero_add]; exact hne)
        rw [Nat.zero_add] at this; exact this
      obtain ⟨e', et, hI⟩ := q_tries (v := nI (lo + (hi - lo + 1) / 2)) hn hV b1 b2 gi1 hL h8 ⟨_, by omega, rfl⟩
      rw [zCp_c b3, zCp_c b4] at hI
      rw [zCp_c b4] at et
      have b1' := hI.1
      have b2' := hI.2.2.2.1
      have b3' : ∀ i, (i < 16 ∨ 32 ≤ i) → e' i = e i := fun i hi => by rw [hI.2.1 i (by omega), zCp_o hL hi]
      have b4' : ∀ i, (i < 16 ∨ 32 ≤ i) → zKt (m 1) (m 2) (m 3) 16 (zCp w L 1) 16 i = w i := fun i hi => by rw [zKt_o (by omega), zCp_o hL hi]
      by_cases hc : e' (16 + zNt (m 3 L)) < nI (lo + (hi - lo + 1) / 2)
      · obtain ⟨res, e2, w2, r1, r2, r3, r4, r5, r6, r7⟩ := ih f lo (lo + (hi - lo + 1) / 2 - 1) e' _ (by omega) (by omega) hl (by omega) b1' b2' b3' b4'
        refine ⟨res, e2, w2, ?_, r2, r3, r4, r5, r6, fun h hh' => ?_⟩
        · rw [m_X8_halves_j14, if_neg (nI_ge hlt (by omega)), zLt_e, mid_r hlt hh, et, zBd_e, zRd_n hL (by decide), zS2_n (c := 3) (by decide) (by decide), g2, show (16 : Int32) + nI (zNt (m 3 L)) = nI (16 + zNt (m 3 L)) from nI_add 16 _, zRd_n (by omega) (by decide), zS2_v, if_pos hc, zLt_e, n_s1 (by omega)]
          exact r1
        · rw [zHl_s hlt hh, ← hh' _ e' (by omega) hI, if_pos hc]
          exact r7 h hh'
      · obtain ⟨res, e2, w2, r1, r2, r3, r4, r5, r6, r7⟩ := ih f (lo + (hi - lo + 1) / 2) hi e' _ (by omega) (by omega) (by omega) hh b1' b2' b3' b4'
        refine ⟨res, e2, w2, ?_, r2, r3, r4, r5, r6, fun h hh' => ?_⟩
        · rw [m_X8_halves_j14, if_neg (nI_ge hlt (by omega)), zLt_e, mid_r hlt hh, et, zBd_e, zRd_n hL (by decide), zS2_n (c := 3) (by decide) (by decide), g2, show (16 : Int32) + nI (zNt (m 3 L)) = nI (16 + zNt (m 3 L)) from nI_add 16 _, zRd_n (by omega) (by decide), zS2_v, if_neg hc]
          exact r1
        · rw [zHl_s hlt hh, ← hh' _ e' (by omega) hI, if_neg hc]
          exact r7 h hh'
end PTr
