section PVd
/-! what the values are -/
def zVq (K F G : Nat → Int32) (o : Nat → Nat) (pv : (Nat → Int32) → Nat → Int32) (e : Nat → Int32) (p : Nat) : Prop := (¬ zCl K F G (o p) → e (o p) = pv e (o p)) ∧ (zCl K F G (o p) → ∃ c, zExt K F G o p c ∧ e (o p) = zHl (fun mid => zSup pv o (p + 1) (c - 1) (upd e (o p) mid) (zNt (G (o p)))) 31 0 (e (zNt (F (o p)))))
theorem zVq_c {K F G : Nat → Int32} {o : Nat → Nat} {pv : (Nat → Int32) → Nat → Int32} (hP : zPn K F G o) (hc : ∀ k e1 e2, k < 16 → (∀ j, j < 16 → zUb K F G false k j → e1 j = e2 j) → pv e1 k = pv e2 k) {e1 e2 : Nat → Int32} {p : Nat} (hp : p < 16) (h : ∀ q, q ≤ p → e2 (o q) = e1 (o q)) (hv : zVq K F G o pv e1 p) : zVq K F G o pv e2 p := by
  have hk := hP.2.1 p hp
  refine ⟨fun hn => ?_, fun hcl => ?_⟩
  · rw [h p (Nat.le_refl _), hv.1 hn]
    refine hc _ _ _ hk (fun j hj hu => ?_)
    obtain ⟨q, hq, e⟩ := zPn_use hP hp hn j hj hu
    rw [← e, h q (by omega)]
  · obtain ⟨c, hx, ev⟩ := hv.2 hcl
    refine ⟨c, hx, ?_⟩
    have hF : e2 (zNt (F (o p))) = e1 (zNt (F (o p))) := by
      obtain ⟨q, hq, e⟩ := (hP.2.2.2.1 p hp).1 (by rw [hcl.1]; decide)
      rw [← e, h q (by omega)]
    rw [h p (Nat.le_refl _), ev, hF]
    congr 1
    funext mid
    have hg := (zWf_g hP.1 hk (by rw [hcl.1]; decide)).1
    obtain ⟨r, r1, r2, r3⟩ := hx.2.2.2 _ hg (zCl_g hP hk hcl)
    have hs := hx.2.1
    have h0 := hx.1
    rw [← r3]
    refine zSup_d (D := fun _ => True) (U := zUb K F G false) hc hP.2.1 hP.2.2.1 (fun _ _ _ _ _ _ => trivial) (c - 1) (p + 1) _ _ (by omega) (zEx_use hP hcl.1 hx) (fun t ht _ => ?_) r (by omega) trivial
    by_cases et : t = p
    · rw [et, upd_s, upd_s]
    · rw [upd_n (fun q => et (hP.2.2.1 t p (by omega) hp q)), upd_n (fun q => et (hP.2.2.1 t p (by omega) hp q)), h t (by omega)]
end PVd
