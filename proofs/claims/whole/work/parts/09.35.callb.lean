section PCb
/-! what a LIMIT's second line has -/
theorem p_placeOf {n k p0 : Nat} (hn : 100 ≤ n) {s : zS} (ho : ∀ p, p < 16 → s 9 p = nI (zo s p)) (hb : ∀ p, p < 16 → zo s p < 16) (hp0 : p0 < 16) (e0 : zo s p0 = k) : ∃ p, p < 16 ∧ zo s p = k ∧ m_X4_placeOf n (nI k) s = some (nI p, s) := by
  have key : ∀ d i f, i + d = 16 → d < f → i ≤ p0 → ∃ p, p < 16 ∧ zo s p = k ∧ m_X4_placeOf_j2 n f (nI k) (nI i) s = some (nI p, s) := by
    intro d
    induction d with
    | zero => intro i f hi hf hp; exact absurd hp (by omega)
    | succ d ih =>
      intro i f hi hf hp
      obtain ⟨f, rfl⟩ : ∃ g, f = g + 1 := ⟨f - 1, by omega⟩
      have hk : k < 16 := e0 ▸ hb p0 hp0
      have hi16 := hb i (by omega)
      rw [m_X4_placeOf_j2, if_neg (n16 (by omega)), p_lineAt_n (by omega) ho, zBd_e]
      by_cases q : zo s i = k
      · rw [if_pos (by rw [q])]
        exact ⟨i, by omega, q, rfl⟩
      · rw [if_neg (fun e => q ((eq_n (by omega) (by omega)).mp e)), zLt_e, nI_s]
        exact ih (i + 1) f (by omega) (by omega) (by
          by_cases e : i = p0
          · exact absurd (e ▸ e0) q
          · omega)
  exact key 16 0 n (by omega) (by omega) (by omega)
theorem inv_bound {n y k : Nat} (hn : 100 ≤ n) {x m : zS} {v : Int32} (h : zInv y x m) (hk : k < 16) (h8 : x 2 k = 8) (hv : zBn v) : ∃ e p e2 e' w, m_X6_workOut n (-1) x = some (0, zXe x e) ∧ m_X4_placeOf n (nI k) (zXe x e) = some (nI p, zXe x e) ∧ m_X6_suppose n (nI p) v (zXe x e) = some (0, zXe x e2) ∧ m_X8_solves n (nI k) v m = some (0, zS2 m e' w) ∧ e' (zNt (x 4 k)) = e2 (zNt (x 4 k)) ∧ (∀ k, k < 16 → zBn (e2 k)) ∧ zInv y (zXe x e2) (zS2 m e' w) := by
  obtain ⟨tx, tot, hV, hR⟩ := inv_tt hn h
  obtain ⟨⟨j2, j3, j4, j5⟩, ⟨k1, k2, _, _, _, _⟩, _, _, _, i6, i7⟩ := id h
  obtain ⟨e, w1, w2, w3⟩ := p_workOut hn (-1) hV i6.1
  rw [zAn_m] at w3
  have hV' : zVs n (zXe x e) tx tot := zVs_c hV (fun c hc => zXe_n (by omega) (by omega))
  have zoe : zo (zXe x e) = zo x := zo_c (zXe_n (by decide) (by decide))
  obtain ⟨p0, hp0, e0⟩ := zPn_pos k1 hk
  obtain ⟨p, hp, ep, pe⟩ := p_placeOf (n := n) (k := k) (s := zXe x e) hn (fun p hp => by rw [zoe, zXe_n (by decide) (by decide)]; exact k2 p hp) (fun p hp => by rw [zoe]; exact k1.2.1 p hp) hp0 (by rw [zoe]; exact e0)
  rw [zoe] at ep
  subst ep
  obtain ⟨c, hx⟩ := zPn_ex k1 hp h8
  have hs := p_suppose (n := n) (s := zXe x e) (p := p) (c := c) (v := v) hn hV' (by rw [zXe_e]; exact w2) hv (by rw [zoe, zXe_n (by decide) (by decide)]; exact h8) (by rw [zoe, zXe_n (by decide) (by decide), zXe_n (by decide) (by decide), zXe_n (by decide) (by decide)]; exact hx)
  rw [zoe, zXe_n (c := 2) (by decide) (by decide), zXe_n (c := 3) (by decide) (by decide), zXe_n (c := 4) (by decide) (by decide), zXe_n (c := 5) (by decide) (by decide), zXe_r, zAn_m, zXe_e] at hs
  obtain ⟨s1, s2⟩ := hs
  obtain ⟨e', w, q1, q2, q3, q4⟩ := q_solves (fx := nI (zo x p)) (its := v) hn hR i7.1 i7.2 (fun j hj q => by rw [← j2, (eq_n (by omega) (by omega)).mp q]; exact h8) hv
  have hg := (zWf_g k1.1 hk (by rw [h8]; decide)).1
  have hz : zSt (zXe x e) 22 (zSup (zPv (x 2) (x 3) (x 4) tx tot (x 5)) (zo x) (p + 1) (c - 1) (upd e (zo x p) v)) = zXe x (zSup (zPv (x 2) (x 3) (x 4) tx tot (x 5)) (zo x) (p + 1) (c - 1) (upd e (zo x p) v)) := by
    unfold zXe
    rw [zSt_z]
  rw [hz] at s1
  refine ⟨e, p, _, e', w, w1, pe, s1, q1, ?_, s2, zS2_i7 (zXe_i h s2) q2 q3⟩
  have hb := v_bound (v := v) k1 w2 w3 h8 hx s2
  rw [j2, j3, j4, j5] at hb
  rw [j2, j3, j4, j5]
  refine q4 _ _ hb _ (by rw [← j4]; exact hg) ?_
  rw [← j2, ← j3, ← j4]
  by_cases q : zR (x 2) (x 3) (x 4) (zNt (x 4 (zo x p))) (zo x p) = true
  · right
    have hu : zUb (x 2) (x 3) (x 4) false (zo x p) (zNt (x 4 (zo x p))) := Or.inr ⟨by rw [h8]; decide, rfl, rfl⟩
    have hc : zCl (x 2) (x 3) (x 4) (zo x p) := ⟨h8, zTC_tr hg (zR_u k1.1 hk hu) q⟩
    exact zCl_g k1 hk hc
  · exact Or.inl q
theorem C_boundFor {n y : Nat} (hn : 100 ≤ n) {v1 v2 : Int32} (x m : zS) (h : zInv y x m) : zCall y [(1, 1), (2, 2), (3, 3)] (m_X7_boundFor n v1 v2 x) (m_X8_boundFor n v1 v2 m) := by
  unfold m_X7_boundFor m_X8_boundFor
  rcases line_cases n v1 with ⟨k, hk, rfl, c1, c2⟩ | ⟨c1, c2⟩
  · rw [c1, zBx_e, c2, zBd_e, if_neg ne10]
    rcases in_cases 0 1000000000 0 1000000000 rfl rfl (by omega) (by omega) v2 with ⟨a, _, ha, rfl, d1, d2⟩ | ⟨d1, d2⟩
    · rw [d1, zBd_e, ca1, zBx_e, p_kind, zBd_e, a16 hk, d2, zBd_e, if_neg ne10, zRd_n hk (by decide), ← h.1.1]
      by_cases h8 : x 2 k = 8
      · obtain ⟨e, p, e2, e', w, w1, w2, w3, w4, w5, w6, w7⟩ := inv_bound hn (zInv_t h 0) hk h8 ⟨a, ha, rfl⟩
        obtain ⟨g, hg, eg⟩ : ∃ g, g < 16 ∧ x 4 k = nI g := ⟨_, zWf_g h.2.1.1.1 hk (by rw [h8]; decide)⟩
        rw [eg, zN_n (by omega)] at w5
        rw [if_pos h8, if_pos h8]
        unfold m_X7_boundFor_j32 m_X8_boundFor_j42
        rw [cs1, zBx_e, w1, zBd_e, w2, zBd_e, w3, zBd_e, p_second, zBd_e, a16 hk, zXe_n (c := 4) (by decide) (by decide), eg, p_of, zBd_e, a16 hg, zXe_e, zLt_e, zU_eq, if_pos le00, w4, zBd_e, zRd_n hk (by decide), zS2_n (c := 3) (by decide) (by decide), zU_ne (a := 3) (by decide), ← h.1.2.2.1, eg, zRd_n (by omega) (by decide), zS2_v, w5]
        exact Or.inl ⟨_, _, _, rfl, rfl, zS2_th, w7⟩
      · rw [if_neg h8, if_neg h8]
        unfold m_X7_boundFor_j32
        rw [cs0, zBx_t]
        refine Or.inr ⟨3, 3, 0, _, zU m 0 23 3, fun _ _ => rfl, by decide, rfl, ?_, zU_eq, zInv_t h _⟩
        unfold m_X8_boundFor_j42
        rw [zLt_e, zU_eq, if_neg (by decide)]; rfl
    · rw [d1, zBd_e, ca0, zBx_t, d2, zBd_e, if_pos rfl]
      refine Or.inr ⟨2, 2, 0, _, zU m 0 23 2, fun _ _ => rfl, by decide, rfl, ?_, zU_eq, zInv_t h _⟩
      unfold m_X8_boundFor_j42
      rw [zLt_e, zU_eq, if_neg (by decide)]; rfl
  · rw [c1, zBx_t, c2, zBd_e, if_pos rfl]
    refine Or.inr ⟨1, 1, 0, _, zU m 0 23 1, fun _ _ => rfl, by decide, rfl, ?_, zU_eq, zInv_t h _⟩
    unfold m_X8_boundFor_j42
    rw [zLt_e, zU_eq, if_neg (by decide)]; rfl
end PCb
