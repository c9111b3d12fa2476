section PEq
/-! both have the same values -/
theorem v_all {K F G : Nat → Int32} {o : Nat → Nat} {tx : Int32 → Int32} {tot its : Int32} {an e : Nat → Int32} (hP : zPn K F G o) (hb : ∀ k, k < 16 → zBn (e k)) (hq : ∀ p, p < 16 → zVq K F G o (zPv K F G tx tot an) e p) : zSol K F G o (zPv K F G tx tot an) (-1) its (fun _ => True) e := by
  refine ⟨fun _ _ _ _ _ _ => trivial, fun k hk _ => hb k hk, fun k hk h => absurd h (zn_L hk), fun k hk _ _ hn => ?_, fun p hp _ hc _ => (hq p hp).2 hc⟩
  obtain ⟨p, hp, ep⟩ := zPn_pos hP hk
  subst ep
  exact (hq p hp).1 hn
theorem v_bound {K F G : Nat → Int32} {o : Nat → Nat} {tx : Int32 → Int32} {tot v : Int32} {an e : Nat → Int32} {p c : Nat} (hP : zPn K F G o) (hb : ∀ k, k < 16 → zBn (e k)) (hq : ∀ p, p < 16 → zVq K F G o (zPv K F G tx tot an) e p) (h8 : K (o p) = 8) (hx : zExt K F G o p c) (hb2 : ∀ k, k < 16 → zBn (zSup (zPv K F G tx tot an) o (p + 1) (c - 1) (upd e (o p) v) k)) : zSol K F G o (zPv K F G tx tot an) (nI (o p)) v (fun j => ¬ zR K F G j (o p) = true ∨ zGpr K F G (o p) j) (zSup (zPv K F G tx tot an) o (p + 1) (c - 1) (upd e (o p) v)) := by
  have hw := hP.1
  have hc0 := hx.1
  have hc1 := hx.2.1
  have hp : p < 16 := by omega
  have hL := hP.2.1 p hp
  have inG : ∀ r, p ≤ r → r < p + c → zGpr K F G (o p) (o r) := hx.2.2.1
  have out : ∀ j, j < 16 → ¬ zGpr K F G (o p) j → zSup (zPv K F G tx tot an) o (p + 1) (c - 1) (upd e (o p) v) j = e j := by
    intro j hj hng
    rw [zSup_out (k := j) _ _ _ (fun r a b er => hng (by have := inG r (by omega) (by omega); rw [er] at this; exact this)), upd_n (fun q => hng (Or.inl q))]
  have atk : zSup (zPv K F G tx tot an) o (p + 1) (c - 1) (upd e (o p) v) (o p) = v := by
    rw [zSup_out (k := o p) _ _ _ (fun r a b er => by have := hP.2.2.1 r p (by omega) hp er; omega), upd_s]
  have nR : ∀ j, j < 16 → ¬ zR K F G j (o p) = true → ¬ j = o p → ¬ zGpr K F G (o p) j := by
    intro j hj h1 h2 hg
    rcases hg with h | ⟨_, h⟩
    · exact h2 h
    · exact h1 h
  refine ⟨?_, fun k hk _ => hb2 k hk, fun k hk hfx _ => ?_, fun j hj hd hfx hnc => ?_, fun p' hp' hd hcl hfx => ?_⟩
  · intro u j hu hj hd hub
    have ruj := zR_u hw hu hub
    by_cases hjk : zR K F G j (o p) = true
    · right
      rcases hd with hd | hd
      · exact absurd (zTC_tr hj ruj hjk) hd
      · rcases hd with e | ⟨q1, q2⟩
        · exact Or.inr ⟨e ▸ ruj, hjk⟩
        · exact Or.inr ⟨zTC_tr hu q1 ruj, hjk⟩
    · exact Or.inl hjk
  · have : k = o p := (eq_n (by omega) (by omega)).mp hfx
    rw [this]; exact atk
  · have ej : j ≠ o p := fun q => hfx (by rw [q])
    by_cases hg : zGpr K F G (o p) j
    · obtain ⟨r, q1, q2, q3⟩ := hx.2.2.2 j hj hg
      have hrp : p < r := by
        rcases Nat.lt_or_ge p r with h | h
        · exact h
        · exact absurd (by rw [← q3]; congr 1; omega) ej
      rw [← q3]
      exact zSup_in (U := zUb K F G false) (fun k e1 e2 hk h => zPv_c hw hk h) hP.2.1 hP.2.2.1 (c - 1) (p + 1) _ (by omega) (zEx_use hP h8 hx) r (by omega) (by omega)
    · have hn : ¬ zR K F G j (o p) = true := by
        rcases hd with h | h
        · exact h
        · exact absurd h hg
      obtain ⟨t, ht, et⟩ := zPn_pos hP hj
      rw [out j hj hg]
      have := (hq t ht).1 (by rw [et]; exact hnc)
      rw [et] at this
      rw [this]
      refine zPv_c hw hj (fun u hu hub => (out u hu (fun hgu => ?_)).symm)
      rcases hgu with h | ⟨_, h⟩
      · exact hn (h ▸ zR_u hw hj hub)
      · exact hn (zTC_tr hu (zR_u hw hj hub) h)
  · have hL' := hP.2.1 p' hp'
    have ne : ¬ o p' = o p := fun q => hfx (by rw [q])
    have hng : ¬ zGpr K F G (o p) (o p') := by
      intro hg
      rcases hg with h | ⟨q1, q2⟩
      · exact ne h
      · exact ne ((hP.2.2.2.2.2 (o p) hL ⟨h8, zTC_tr hL' q1 q2⟩).1 (o p') hL' q1 q2 hcl.1)
    have hnR : ¬ zR K F G (o p') (o p) = true := by
      rcases hd with h | h
      · exact h
      · exact absurd h hng
    obtain ⟨c', hx', ev⟩ := (hq p' hp').2 hcl
    have hc0' := hx'.1
    have hc1' := hx'.2.1
    have hT : zTwo (K (o p')) = true := by rw [hcl.1]; decide
    have hf := (zWf_f hw hL' (zTwo_ne hT)).1
    have hg := (zWf_g hw hL' hT).1
    have uF : zUb K F G false (o p') (zNt (F (o p'))) := Or.inl ⟨zTwo_ne hT, rfl⟩
    have uG : zUb K F G false (o p') (zNt (G (o p'))) := Or.inr ⟨hT, rfl, rfl⟩
    have agree : ∀ j, j < 16 → ¬ zR K F G j (o p) = true → j ≠ o p → zSup (zPv K F G tx tot an) o (p + 1) (c - 1) (upd e (o p) v) j = e j := fun j hj h1 h2 => out j hj (nR j hj h1 h2)
    have nF : ¬ zR K F G (zNt (F (o p'))) (o p) = true := fun h => hnR (zTC_tr hf (zR_u hw hL' uF) h)
    have nG : ¬ zR K F G (zNt (G (o p'))) (o p) = true := fun h => hnR (zTC_tr hg (zR_u hw hL' uG) h)
    have neF : zNt (F (o p')) ≠ o p := fun h => hnR (h ▸ zR_u hw hL' uF)
    have neG : zNt (G (o p')) ≠ o p := fun h => hnR (h ▸ zR_u hw hL' uG)
    refine ⟨c', hx', ?_⟩
    rw [out _ hL' hng, ev, agree _ hf nF neF]
    congr 1
    funext mid
    obtain ⟨r, r1, r2, r3⟩ := hx'.2.2.2 _ hg (zCl_g hP hL' hcl)
    rw [← r3]
    refine zSup_d (D := fun j => ¬ zR K F G j (o p) = true ∧ j ≠ o p) (U := zUb K F G false) (fun k e1 e2 hk h => zPv_c hw hk h) hP.2.1 hP.2.2.1 (fun k j hk hj hd hu => ⟨fun h => hd.1 (zTC_tr hj (zR_u hw hk hu) h), fun h => hd.1 (h ▸ zR_u hw hk hu)⟩) (c' - 1) (p' + 1) _ _ (by omega) (zEx_use hP hcl.1 hx') (fun t ht hdt => ?_) r (by omega) (by rw [r3]; exact ⟨nG, neG⟩)
    by_cases et : o t = o p'
    · rw [et, upd_s, upd_s]
    · rw [upd_n et, upd_n et]
      exact (agree _ (hP.2.1 t (by omega)) hdt.1 hdt.2).symm
end PEq
