section PKn
/-! what the reference knows, and when -/
def zCan (K F G : Nat → Int32) (b : Nat) (w : Nat → Int32) (k : Nat) : Prop := (K k ≠ 0 → w (b + zNt (F k)) ≠ 0) ∧ (zTwo (K k) = true → w (b + zNt (G k)) ≠ 0)
def zCanB (K F G : Nat → Int32) (b : Nat) (w : Nat → Int32) (k : Nat) : Bool := (decide (K k = 0) || decide (w (b + zNt (F k)) ≠ 0)) && (!zTwo (K k) || decide (w (b + zNt (G k)) ≠ 0))
theorem zCan_iff {K F G : Nat → Int32} {b : Nat} {w : Nat → Int32} {k : Nat} : zCanB K F G b w k = true ↔ zCan K F G b w k := by
  unfold zCanB zCan
  cases h : zTwo (K k) <;> by_cases h0 : K k = 0 <;> simp [h0]
def zK1 (K F G : Nat → Int32) (b : Nat) (w : Nat → Int32) (k : Nat) : Nat → Int32 := if zCanB K F G b w k = true ∧ w (b + k) = 0 then upd w (b + k) 1 else w
def zKi (K F G : Nat → Int32) (b : Nat) (w : Nat → Int32) : Nat → Nat → Int32
  | 0 => w
  | i + 1 => zK1 K F G b (zKi K F G b w i) i
def zKt (K F G : Nat → Int32) (b : Nat) (w : Nat → Int32) : Nat → Nat → Int32
  | 0 => w
  | t + 1 => zKi K F G b (zKt K F G b w t) 16
def zGI (K F G : Nat → Int32) (b : Nat) (w : Nat → Int32) : Prop := ∀ L, L < 16 → zCl K F G L → ∀ k, k < 16 → zGpr K F G L k → w (b + k) ≠ 0 → w (b + L) ≠ 0
variable {K F G : Nat → Int32} {o : Nat → Nat} {b : Nat}
theorem zK1_m {w : Nat → Int32} {k j : Nat} (h : w j ≠ 0) : zK1 K F G b w k j = w j := by
  unfold zK1
  split
  · rename_i q
    exact upd_n (fun e => h (e ▸ q.2))
  · rfl
theorem zK1_o {w : Nat → Int32} {k j : Nat} (h : j ≠ b + k) : zK1 K F G b w k j = w j := by
  unfold zK1
  split
  · exact upd_n h
  · rfl
theorem zK1_b {w : Nat → Int32} {k j : Nat} (h : w j = 0 ∨ w j = 1) : zK1 K F G b w k j = 0 ∨ zK1 K F G b w k j = 1 := by
  by_cases e : j = b + k
  · unfold zK1
    split
    · rw [e, upd_s]; exact Or.inr rfl
    · exact h
  · rw [zK1_o e]; exact h
theorem zKi_m {w : Nat → Int32} {j : Nat} (h : w j ≠ 0) : ∀ i, zKi K F G b w i j = w j := by
  intro i
  induction i with
  | zero => rfl
  | succ i ih => rw [zKi, zK1_m (by rw [ih]; exact h), ih]
theorem zKi_le {w : Nat → Int32} {j i : Nat} (h : zKi K F G b w i j ≠ 0) : ∀ d, zKi K F G b w (i + d) j ≠ 0 := by
  intro d
  induction d with
  | zero => exact h
  | succ d ih => rw [← Nat.add_assoc, zKi, zK1_m ih]; exact ih
theorem zKt_m {w : Nat → Int32} {j : Nat} (h : w j ≠ 0) : ∀ t, zKt K F G b w t j = w j := by
  intro t
  induction t with
  | zero => rfl
  | succ t ih => rw [zKt, zKi_m (by rw [ih]; exact h), ih]
theorem zKi_b {w : Nat → Int32} {j : Nat} (h : w j = 0 ∨ w j = 1) : ∀ i, zKi K F G b w i j = 0 ∨ zKi K F G b w i j = 1 := by
  intro i
  induction i with
  | zero => exact h
  | succ i ih => rw [zKi]; exact zK1_b ih
theorem zKt_b {w : Nat → Int32} {j : Nat} (h : w j = 0 ∨ w j = 1) : ∀ i, zKt K F G b w i j = 0 ∨ zKt K F G b w i j = 1 := by
  intro i
  induction i with
  | zero => exact h
  | succ i ih => rw [zKt]; exact zKi_b ih 16
theorem zKi_o {w : Nat → Int32} {j : Nat} (h : j < b ∨ b + 16 ≤ j) : ∀ i, i ≤ 16 → zKi K F G b w i j = w j := by
  intro i
  induction i with
  | zero => intro _; rfl
  | succ i ih => intro hi; rw [zKi, zK1_o (by omega), ih (by omega)]
theorem zKt_o {w : Nat → Int32} {j : Nat} (h : j < b ∨ b + 16 ≤ j) : ∀ t, zKt K F G b w t j = w j := by
  intro t
  induction t with
  | zero => rfl
  | succ t ih => rw [zKt, zKi_o h 16 (Nat.le_refl _), ih]
/-- no LIMIT of a circle becomes known by what it uses -/
theorem zK1_ncl (hP : zPn K F G o) {w : Nat → Int32} {k : Nat} (hk : k < 16) (hg : zGI K F G b w) (hc : zCan K F G b w k) (h0 : w (b + k) = 0) : ¬ zCl K F G k := by
  intro hcl
  have ht : zTwo (K k) = true := by rw [hcl.1]; decide
  exact hg k hk hcl _ (zWf_g hP.1 hk ht).1 (zCl_g hP hk hcl) (hc.2 ht) h0
theorem zK1_gi (hP : zPn K F G o) {w : Nat → Int32} {k : Nat} (hk : k < 16) (hg : zGI K F G b w) : zGI K F G b (zK1 K F G b w k) := by
  intro L hL hcl k' hk' hgp hn
  have mono : w (b + L) ≠ 0 → zK1 K F G b w k (b + L) ≠ 0 := fun h => by rw [zK1_m h]; exact h
  by_cases e : k' = k
  · subst e
    by_cases h0 : w (b + k') = 0
    · have hc : zCan K F G b w k' := by
        refine Classical.byContradiction (fun q => hn ?_)
        unfold zK1
        rw [if_neg (fun h => q (zCan_iff.mp h.1))]; exact h0
      by_cases eL : k' = L
      · rw [← eL]; exact hn
      · rcases hgp with h | ⟨g1, g2⟩
        · exact absurd h eL
        · refine mono ?_
          have use : ∀ m, m < 16 → zUb K F G false k' m → w (b + m) ≠ 0 := by
            intro m _ hu
            rcases hu with ⟨a, e⟩ | ⟨a, _, e⟩
            · rw [e]; exact hc.1 a
            · rw [e]; exact hc.2 a
          rcases zTC_first g2 with hb | ⟨m, hm, hb, hr⟩
          · exact use L hL ((use_bt hP.1 hk false (by omega)).mp hb)
          · have hu := (use_bt hP.1 hk false (by omega)).mp hb
            exact hg L hL hcl m hm (Or.inr ⟨zTC_tr hk g1 (zR_u hP.1 hk hu), hr⟩) (use m hm hu)
    · exact mono (hg L hL hcl k' hk' hgp h0)
  · rw [zK1_o (by omega)] at hn
    exact mono (hg L hL hcl k' hk' hgp hn)
theorem zKi_gi (hP : zPn K F G o) {w : Nat → Int32} (hg : zGI K F G b w) : ∀ i, i ≤ 16 → zGI K F G b (zKi K F G b w i) := by
  intro i
  induction i with
  | zero => intro _; exact hg
  | succ i ih => intro hi; rw [zKi]; exact zK1_gi hP (by omega) (ih (by omega))
theorem zKt_gi (hP : zPn K F G o) {w : Nat → Int32} (hg : zGI K F G b w) : ∀ t, zGI K F G b (zKt K F G b w t) := by
  intro t
  induction t with
  | zero => exact hg
  | succ t ih => rw [zKt]; exact zKi_gi hP ih 16 (Nat.le_refl _)
/-- all lines ahead of the first unknown LIMIT of a circle become known -/
theorem zKt_all (hP : zPn K F G o) {w : Nat → Int32} {p : Nat} (hp : p ≤ 16) (h : ∀ q, q < p → zCl K F G (o q) → w (b + o q) ≠ 0) : ∀ q, q < p → zKt K F G b w 16 (b + o q) ≠ 0 := by
  have key : ∀ t, t ≤ 16 → ∀ q, q < p → q < t → zKt K F G b w t (b + o q) ≠ 0 := by
    intro t
    induction t with
    | zero => intro _ q _ h; omega
    | succ t ih =>
      intro ht q hq hqt
      rw [zKt]
      by_cases e : q = t
      · subst e
        by_cases hc : zCl K F G (o q)
        · rw [zKi_m (by rw [zKt_m (h q hq hc)]; exact h q hq hc), zKt_m (h q hq hc)]; exact h q hq hc
        · have hk := hP.2.1 q (by omega)
          have use : ∀ j, j < 16 → zUb K F G false (o q) j → zKt K F G b w q (b + j) ≠ 0 := by
            intro j hj hu
            obtain ⟨r, hr, er⟩ := zPn_use hP (by omega) hc j hj hu
            rw [← er]; exact ih (by omega) r (by omega) hr
          have at1 : zKi K F G b (zKt K F G b w q) (o q + 1) (b + o q) ≠ 0 := by
            rw [zKi]
            by_cases h0 : zKi K F G b (zKt K F G b w q) (o q) (b + o q) = 0
            · have hcan : zCan K F G b (zKi K F G b (zKt K F G b w q) (o q)) (o q) := by
                refine ⟨fun h1 => ?_, fun h1 => ?_⟩
                · have := use _ (zWf_f hP.1 hk h1).1 (Or.inl ⟨h1, rfl⟩)
                  rw [zKi_m this]; exact this
                · have := use _ (zWf_g hP.1 hk h1).1 (Or.inr ⟨h1, rfl, rfl⟩)
                  rw [zKi_m this]; exact this
              unfold zK1
              rw [if_pos ⟨zCan_iff.mpr hcan, h0⟩, upd_s]
              decide
            · rw [zK1_m h0]; exact h0
          have := zKi_le at1 (16 - (o q + 1))
          rw [show o q + 1 + (16 - (o q + 1)) = 16 by omega] at this
          exact this
      · have := ih (by omega) q hq (by omega)
        rw [zKi_m this]; exact this
  intro q hq
  exact key 16 (Nat.le_refl _) q hq (by omega)
end PKn
