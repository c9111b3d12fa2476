section PNu
/-! numbers -/
def zBn (v : Int32) : Prop := ∃ a, a ≤ 1000000000 ∧ v = nI a
theorem n_subN {a b : Nat} (h : b ≤ a) : nI a - nI b = nI (a - b) := by
  have : nI a = nI (a - b) + nI b := by rw [nI_add]; congr 1; omega
  rw [this, Int32.add_sub_cancel]
theorem n_s1 {a : Nat} (h : 0 < a) : nI a - 1 = nI (a - 1) := n_subN (b := 1) h
theorem zBn_of {v : Int32} (h0 : 0 ≤ v) (h1 : v ≤ 1000000000) : zBn v := by
  obtain ⟨j, hj, e⟩ := nI_of2 (x := v) (M := 1000000000) (n := 1000000000) (by decide) (Int32.not_lt.mpr h0) h1
  exact ⟨j, hj, e⟩
theorem zBn_r {v : Int32} (h : zBn v) : 0 ≤ v ∧ v ≤ 1000000000 := by
  obtain ⟨a, ha, rfl⟩ := h
  exact ⟨nI_pos' (by omega), (le_n (b := 1000000000) (by omega) (by omega)).mpr ha⟩
theorem zBn_0 : zBn 0 := ⟨0, by omega, rfl⟩
def zThou (a b : Int32) : Int32 := Int64.toInt32 (((Int32.toInt64 a) * (Int32.toInt64 b)) / (1000 : Int64))
theorem n_thou {a r : Nat} (ha : a ≤ 1000000000) (hr : r ≤ 1000) : zThou (nI a) (nI r) = nI (a * r / 1000) := by
  unfold zThou
  have hm : a * r ≤ 1000000000 * 1000 := Nat.mul_le_mul ha hr
  rw [nI_l (by omega), nI_l (by omega), lN_mul]
  rw [show (1000 : Int64) = lN 1000 from rfl, pk_lDiv (by omega) (by omega) (by omega), lN_i]
theorem thou_le {a r : Nat} (hr : r ≤ 1000) : a * r / 1000 ≤ a := by
  have : a * r ≤ a * 1000 := Nat.mul_le_mul_left a hr
  omega
theorem n_neg {a b : Nat} (ha : a ≤ 1000000000) (hb : b ≤ 1000000000) : (nI a - nI b < 0) ↔ a < b := by
  rw [Int32.lt_iff_toInt_lt, pk_sub_toInt (by omega) (by omega)]
  show (a : Int) - b < 0 ↔ a < b
  omega
theorem n_min {a b : Nat} (ha : a < 2147483648) (hb : b < 2147483648) : (if nI b < nI a then nI b else nI a) = nI (min a b) := by
  by_cases h : b < a
  · rw [if_pos ((lt_n hb ha).mpr h), Nat.min_eq_right (by omega)]
  · rw [if_neg (fun q => h ((lt_n hb ha).mp q)), Nat.min_eq_left (by omega)]
theorem n_max {a b : Nat} (ha : a < 2147483648) (hb : b < 2147483648) : (if nI a < nI b then nI b else nI a) = nI (max a b) := by
  by_cases h : a < b
  · rw [if_pos ((lt_n ha hb).mpr h), Nat.max_eq_right (by omega)]
  · rw [if_neg (fun q => h ((lt_n ha hb).mp q)), Nat.max_eq_left (by omega)]
/-- halving -/
def zHl (h : Int32 → Int32) : Nat → Int32 → Int32 → Int32
  | 0, lo, _ => lo
  | f + 1, lo, hi => if hi ≤ lo then lo else if h (lo + (((hi - lo) + (1 : Int32)) / (2 : Int32))) < lo + (((hi - lo) + (1 : Int32)) / (2 : Int32)) then zHl h f lo ((lo + (((hi - lo) + (1 : Int32)) / (2 : Int32))) - (1 : Int32)) else zHl h f (lo + (((hi - lo) + (1 : Int32)) / (2 : Int32))) hi
theorem mid_c {lo hi : Nat} (h1 : lo < hi) (h2 : hi ≤ 1000000000) : nI lo + (((nI hi - nI lo) + (1 : Int32)) / (2 : Int32)) = nI (lo + (hi - lo + 1) / 2) := by
  rw [n_subN (by omega), nI_s, show (2 : Int32) = nI 2 from rfl, pk_div (by omega) (by omega) (by omega), nI_add]
theorem mid_r {lo hi : Nat} (h1 : lo < hi) (h2 : hi ≤ 1000000000) : nI hi - ((nI hi - nI lo) / (2 : Int32)) = nI (lo + (hi - lo + 1) / 2) := by
  rw [n_subN (by omega), show (2 : Int32) = nI 2 from rfl, pk_div (by omega) (by omega) (by omega), n_subN (by omega)]
  congr 1; omega
theorem zHl_s {h : Int32 → Int32} {f lo hi : Nat} (h1 : lo < hi) (h2 : hi ≤ 1000000000) : zHl h (f + 1) (nI lo) (nI hi) = if h (nI (lo + (hi - lo + 1) / 2)) < nI (lo + (hi - lo + 1) / 2) then zHl h f (nI lo) (nI (lo + (hi - lo + 1) / 2 - 1)) else zHl h f (nI (lo + (hi - lo + 1) / 2)) (nI hi) := by
  rw [zHl, if_neg (fun q => by have := (le_n (by omega) (by omega)).mp q; omega), mid_c h1 h2, n_s1 (by omega)]
theorem zHl_d {h : Int32 → Int32} {f lo hi : Nat} (h1 : hi ≤ lo) (h2 : lo ≤ 1000000000) : zHl h f (nI lo) (nI hi) = nI lo := by
  cases f with
  | zero => rfl
  | succ f => rw [zHl, if_pos ((le_n (by omega) (by omega)).mpr h1)]
theorem zHl_in {h : Int32 → Int32} : ∀ f lo hi, lo ≤ hi → hi ≤ 1000000000 → ∃ a, lo ≤ a ∧ a ≤ hi ∧ zHl h f (nI lo) (nI hi) = nI a := by
  intro f
  induction f with
  | zero => intro lo hi h1 h2; exact ⟨lo, Nat.le_refl _, h1, rfl⟩
  | succ f ih =>
    intro lo hi h1 h2
    rcases Nat.lt_or_ge lo hi with hlt | hge
    · rw [zHl_s hlt h2]
      split
      · obtain ⟨a, a1, a2, a3⟩ := ih lo (lo + (hi - lo + 1) / 2 - 1) (by omega) (by omega)
        exact ⟨a, a1, by omega, a3⟩
      · obtain ⟨a, a1, a2, a3⟩ := ih (lo + (hi - lo + 1) / 2) hi (by omega) (by omega)
        exact ⟨a, by omega, a2, a3⟩
    · exact ⟨lo, Nat.le_refl _, h1, zHl_d hge (by omega)⟩
theorem zHl_const {g : Nat} (hg : g ≤ 1000000000) : ∀ f lo hi, hi - lo < 2 ^ f → lo ≤ min g hi → hi ≤ 1000000000 → zHl (fun _ => nI g) f (nI lo) (nI hi) = nI (min g hi) := by
  intro f
  induction f with
  | zero =>
    intro lo hi h1 h2 h3
    rw [zHl_d (by omega) (by omega)]; congr 1; omega
  | succ f ih =>
    intro lo hi h1 h2 h3
    rcases Nat.lt_or_ge lo hi with hlt | hge
    · rw [zHl_s hlt h3]
      have hp : 2 ^ (f + 1) = 2 * 2 ^ f := by rw [Nat.pow_succ]; omega
      by_cases hc : g < lo + (hi - lo + 1) / 2
      · rw [if_pos ((lt_n (by omega) (by omega)).mpr hc), ih _ _ (by omega) (by omega) (by omega)]
        congr 1; omega
      · rw [if_neg (fun q => hc ((lt_n (by omega) (by omega)).mp q)), ih _ _ (by omega) (by omega) (by omega)]
    · rw [zHl_d hge (by omega)]; congr 1; omega
theorem zHl_c {h1 h2 : Int32 → Int32} (hh : ∀ a, a ≤ 1000000000 → h1 (nI a) = h2 (nI a)) : ∀ f lo hi, lo ≤ 1000000000 → hi ≤ 1000000000 → zHl h1 f (nI lo) (nI hi) = zHl h2 f (nI lo) (nI hi) := by
  intro f
  induction f with
  | zero => intro lo hi _ _; rfl
  | succ f ih =>
    intro lo hi hl h3
    rcases Nat.lt_or_ge lo hi with hlt | hge
    · rw [zHl_s hlt h3, zHl_s hlt h3, hh _ (by omega), ih _ _ hl (by omega), ih _ _ (by omega) h3]
    · rw [zHl_d hge hl, zHl_d hge hl]
end PNu
section PSu
/-! values by the plan -/
def zPv (K F G : Nat → Int32) (tx : Int32 → Int32) (tot : Int32) (an : Nat → Int32) (e : Nat → Int32) (k : Nat) : Int32 :=
  if K k = 1 then (if (1000000000 : Int32) < e (zNt (F k)) + e (zNt (G k)) then 1000000000 else e (zNt (F k)) + e (zNt (G k)))
  else if K k = 2 then (if e (zNt (F k)) - e (zNt (G k)) < 0 then 0 else e (zNt (F k)) - e (zNt (G k)))
  else if K k = 3 then zThou (e (zNt (F k))) (G k)
  else if K k = 4 then (if e (zNt (G k)) < e (zNt (F k)) then e (zNt (G k)) else e (zNt (F k)))
  else if K k = 5 then (if e (zNt (F k)) < e (zNt (G k)) then e (zNt (G k)) else e (zNt (F k)))
  else if K k = 6 then tx (e (zNt (F k)))
  else if K k = 7 then (if tot < e (zNt (F k)) then tot else e (zNt (F k)))
  else if K k = 8 then (if e (zNt (G k)) < e (zNt (F k)) then e (zNt (G k)) else e (zNt (F k)))
  else an k
theorem zK_cases {K F G : Nat → Int32} (hw : zWf K F G) {k : Nat} (hk : k < 16) : K k = 0 ∨ K k = 1 ∨ K k = 2 ∨ K k = 3 ∨ K k = 4 ∨ K k = 5 ∨ K k = 6 ∨ K k = 7 ∨ K k = 8 := by
  obtain ⟨a, ha, e⟩ := (hw k hk).1
  rw [e]
  match a, ha with
  | 0, _ => exact Or.inl rfl
  | 1, _ => exact Or.inr (Or.inl rfl)
  | 2, _ => exact Or.inr (Or.inr (Or.inl rfl))
  | 3, _ => exact Or.inr (Or.inr (Or.inr (Or.inl rfl)))
  | 4, _ => exact Or.inr (Or.inr (Or.inr (Or.inr (Or.inl rfl))))
  | 5, _ => exact Or.inr (Or.inr (Or.inr (Or.inr (Or.inr (Or.inl rfl)))))
  | 6, _ => exact Or.inr (Or.inr (Or.inr (Or.inr (Or.inr (Or.inr (Or.inl rfl))))))
  | 7, _ => exact Or.inr (Or.inr (Or.inr (Or.inr (Or.inr (Or.inr (Or.inr (Or.inl rfl)))))))
  | 8, _ => exact Or.inr (Or.inr (Or.inr (Or.inr (Or.inr (Or.inr (Or.inr (Or.inr rfl)))))))
  | n + 9, h => omega
theorem zPv_0 {K F G : Nat → Int32} {tx : Int32 → Int32} {tot : Int32} {an e : Nat → Int32} {k : Nat} (c : K k = 0) : zPv K F G tx tot an e k = an k := by
  unfold zPv
  rw [if_neg (fun q : K k = 1 => absurd (c.symm.trans q) (by decide)), if_neg (fun q : K k = 2 => absurd (c.symm.trans q) (by decide)), if_neg (fun q : K k = 3 => absurd (c.symm.trans q) (by decide)), if_neg (fun q : K k = 4 => absurd (c.symm.trans q) (by decide)), if_neg (fun q : K k = 5 => absurd (c.symm.trans q) (by decide)), if_neg (fun q : K k = 6 => absurd (c.symm.trans q) (by decide)), if_neg (fun q : K k = 7 => absurd (c.symm.trans q) (by decide)), if_neg (fun q : K k = 8 => absurd (c.symm.trans q) (by decide))]
theorem zPv_1 {K F G : Nat → Int32} {tx : Int32 → Int32} {tot : Int32} {an e : Nat → Int32} {k : Nat} (c : K k = 1) : zPv K F G tx tot an e k = (if (1000000000 : Int32) < e (zNt (F k)) + e (zNt (G k)) then 1000000000 else e (zNt (F k)) + e (zNt (G k))) := by
  unfold zPv
  rw [if_pos c]
theorem zPv_2 {K F G : Nat → Int32} {tx : Int32 → Int32} {tot : Int32} {an e : Nat → Int32} {k : Nat} (c : K k = 2) : zPv K F G tx tot an e k = (if e (zNt (F k)) - e (zNt (G k)) < 0 then 0 else e (zNt (F k)) - e (zNt (G k))) := by
  unfold zPv
  rw [if_neg (fun q : K k = 1 => absurd (c.symm.trans q) (by decide)), if_pos c]
theorem zPv_3 {K F G : Nat → Int32} {tx : Int32 → Int32} {tot : Int32} {an e : Nat → Int32} {k : Nat} (c : K k = 3) : zPv K F G tx tot an e k = zThou (e (zNt (F k))) (G k) := by
  unfold zPv
  rw [if_neg (fun q : K k = 1 => absurd (c.symm.trans q) (by decide)), if_neg (fun q : K k = 2 => absurd (c.symm.trans q) (by decide)), if_pos c]
theorem zPv_4 {K F G : Nat → Int32} {tx : Int32 → Int32} {tot : Int32} {an e : Nat → Int32} {k : Nat} (c : K k = 4) : zPv K F G tx tot an e k = (if e (zNt (G k)) < e (zNt (F k)) then e (zNt (G k)) else e (zNt (F k))) := by
  unfold zPv
  rw [if_neg (fun q : K k = 1 => absurd (c.symm.trans q) (by decide)), if_neg (fun q : K k = 2 => absurd (c.symm.trans q) (by decide)), if_neg (fun q : K k = 3 => absurd (c.symm.trans q) (by decide)), if_pos c]
theorem zPv_5 {K F G : Nat → Int32} {tx : Int32 → Int32} {tot : Int32} {an e : Nat → Int32} {k : Nat} (c : K k = 5) : zPv K F G tx tot an e k = (if e (zNt (F k)) < e (zNt (G k)) then e (zNt (G k)) else e (zNt (F k))) := by
  unfold zPv
  rw [if_neg (fun q : K k = 1 => absurd (c.symm.trans q) (by decide)), if_neg (fun q : K k = 2 => absurd (c.symm.trans q) (by decide)), if_neg (fun q : K k = 3 => absurd (c.symm.trans q) (by decide)), if_neg (fun q : K k = 4 => absurd (c.symm.trans q) (by decide)), if_pos c]
theorem zPv_6 {K F G : Nat → Int32} {tx : Int32 → Int32} {tot : Int32} {an e : Nat → Int32} {k : Nat} (c : K k = 6) : zPv K F G tx tot an e k = tx (e (zNt (F k))) := by
  unfold zPv
  rw [if_neg (fun q : K k = 1 => absurd (c.symm.trans q) (by decide)), if_neg (fun q : K k = 2 => absurd (c.symm.trans q) (by decide)), if_neg (fun q : K k = 3 => absurd (c.symm.trans q) (by decide)), if_neg (fun q : K k = 4 => absurd (c.symm.trans q) (by decide)), if_neg (fun q : K k = 5 => absurd (c.symm.trans q) (by decide)), if_pos c]
theorem zPv_7 {K F G : Nat → Int32} {tx : Int32 → Int32} {tot : Int32} {an e : Nat → Int32} {k : Nat} (c : K k = 7) : zPv K F G tx tot an e k = (if tot < e (zNt (F k)) then tot else e (zNt (F k))) := by
  unfold zPv
  rw [if_neg (fun q : K k = 1 => absurd (c.symm.trans q) (by decide)), if_neg (fun q : K k = 2 => absurd (c.symm.trans q) (by decide)), if_neg (fun q : K k = 3 => absurd (c.symm.trans q) (by decide)), if_neg (fun q : K k = 4 => absurd (c.symm.trans q) (by decide)), if_neg (fun q : K k = 5 => absurd (c.symm.trans q) (by decide)), if_neg (fun q : K k = 6 => absurd (c.symm.trans q) (by decide)), if_pos c]
theorem zPv_8 {K F G : Nat → Int32} {tx : Int32 → Int32} {tot : Int32} {an e : Nat → Int32} {k : Nat} (c : K k = 8) : zPv K F G tx tot an e k = (if e (zNt (G k)) < e (zNt (F k)) then e (zNt (G k)) else e (zNt (F k))) := by
  unfold zPv
  rw [if_neg (fun q : K k = 1 => absurd (c.symm.trans q) (by decide)), if_neg (fun q : K k = 2 => absurd (c.symm.trans q) (by decide)), if_neg (fun q : K k = 3 => absurd (c.symm.trans q) (by decide)), if_neg (fun q : K k = 4 => absurd (c.symm.trans q) (by decide)), if_neg (fun q : K k = 5 => absurd (c.symm.trans q) (by decide)), if_neg (fun q : K k = 6 => absurd (c.symm.trans q) (by decide)), if_neg (fun q : K k = 7 => absurd (c.symm.trans q) (by decide)), if_pos c]
theorem zPv_c {K F G : Nat → Int32} {tx : Int32 → Int32} {tot : Int32} {an : Nat → Int32} (hw : zWf K F G) {k : Nat} (hk : k < 16) {e1 e2 : Nat → Int32} (h : ∀ j, j < 16 → zUb K F G false k j → e1 j = e2 j) : zPv K F G tx tot an e1 k = zPv K F G tx tot an e2 k := by
  have hf : K k ≠ 0 → e1 (zNt (F k)) = e2 (zNt (F k)) := fun h0 => h _ (zWf_f hw hk h0).1 (Or.inl ⟨h0, rfl⟩)
  have hg : zTwo (K k) = true → e1 (zNt (G k)) = e2 (zNt (G k)) := fun h0 => h _ (zWf_g hw hk h0).1 (Or.inr ⟨h0, rfl, rfl⟩)
  rcases zK_cases hw hk with c | c | c | c | c | c | c | c | c
  · rw [zPv_0 c, zPv_0 c]
  · rw [zPv_1 c, zPv_1 c, hf (by rw [c]; decide), hg (by rw [c]; decide)]
  · rw [zPv_2 c, zPv_2 c, hf (by rw [c]; decide), hg (by rw [c]; decide)]
  · rw [zPv_3 c, zPv_3 c, hf (by rw [c]; decide)]
  · rw [zPv_4 c, zPv_4 c, hf (by rw [c]; decide), hg (by rw [c]; decide)]
  · rw [zPv_5 c, zPv_5 c, hf (by rw [c]; decide), hg (by rw [c]; decide)]
  · rw [zPv_6 c, zPv_6 c, hf (by rw [c]; decide)]
  · rw [zPv_7 c, zPv_7 c, hf (by rw [c]; decide)]
  · rw [zPv_8 c, zPv_8 c, hf (by rw [c]; decide), hg (by rw [c]; decide)]
theorem zPv_bn {K F G : Nat → Int32} {tx : Int32 → Int32} {tot : Int32} {an : Nat → Int32} (hw : zWf K F G) {k : Nat} (hk : k < 16) (htx : ∀ x, zBn x → zBn (tx x)) (htot : zBn tot) (han : zBn (an k)) {e : Nat → Int32} (h : ∀ j, j < 16 → zUb K F G false k j → zBn (e j)) : zBn (zPv K F G tx tot an e k) := by
  have hf : K k ≠ 0 → zBn (e (zNt (F k))) := fun h0 => h _ (zWf_f hw hk h0).1 (Or.inl ⟨h0, rfl⟩)
  have hg : zTwo (K k) = true → zBn (e (zNt (G k))) := fun h0 => h _ (zWf_g hw hk h0).1 (Or.inr ⟨h0, rfl, rfl⟩)
  have h3 := (hw k hk).2.2.2
  unfold zPv
  rcases zK_cases hw hk with c | c | c | c | c | c | c | c | c <;> rw [c] at hf hg h3 ⊢
  · simpa using han
  · obtain ⟨a, ha, ea⟩ := hf (by decide)
    obtain ⟨b, hb, eb⟩ := hg (by decide)
    rw [ea, eb, nI_add, if_pos rfl]
    split
    · exact ⟨1000000000, Nat.le_refl _, rfl⟩
    · rename_i q
      exact ⟨a + b, Nat.le_of_not_lt (fun r => q ((lt_n (a := 1000000000) (by omega) (by omega)).mpr r)), rfl⟩
  · obtain ⟨a, ha, ea⟩ := hf (by decide)
    obtain ⟨b, hb, eb⟩ := hg (by decide)
    rw [ea, eb, if_neg (by decide), if_pos rfl]
    split
    · exact zBn_0
    · rename_i q
      have : b ≤ a := Nat.le_of_not_lt (fun r => q ((n_neg ha hb).mpr r))
      exact ⟨a - b, by omega, n_subN this⟩
  · obtain ⟨a, ha, ea⟩ := hf (by decide)
    obtain ⟨b, hb, eb⟩ := h3 rfl
    rw [ea, eb]
    exact ⟨a * b / 1000, Nat.le_trans (thou_le hb) ha, n_thou ha hb⟩
  · have x := hf (by decide)
    have y := hg (by decide)
    show zBn (if e (zNt (G k)) < e (zNt (F k)) then e (zNt (G k)) else e (zNt (F k)))
    split
    · exact y
    · exact x
  · have x := hf (by decide)
    have y := hg (by decide)
    show zBn (if e (zNt (F k)) < e (zNt (G k)) then e (zNt (G k)) else e (zNt (F k)))
    split
    · exact y
    · exact x
  · exact htx _ (hf (by decide))
  · have x := hf (by decide)
    show zBn (if tot < e (zNt (F k)) then tot else e (zNt (F k)))
    split
    · exact htot
    · exact x
  · have x := hf (by decide)
    have y := hg (by decide)
    show zBn (if e (zNt (G k)) < e (zNt (F k)) then e (zNt (G k)) else e (zNt (F k)))
    split
    · exact y
    · exact x
/-- the lines of an order, worked out from place q on -/
def zSup (pv : (Nat → Int32) → Nat → Int32) (o : Nat → Nat) : Nat → Nat → (Nat → Int32) → Nat → Int32
  | _, 0, e => e
  | q, m + 1, e => zSup pv o (q + 1) m (upd e (o q) (pv e (o q)))
theorem upd_s {e : Nat → Int32} {k : Nat} {v : Int32} : upd e k v k = v := pk_us
theorem upd_n {e : Nat → Int32} {k j : Nat} {v : Int32} (h : j ≠ k) : upd e k v j = e j := pk_un h
theorem zSup_out {pv : (Nat → Int32) → Nat → Int32} {o : Nat → Nat} {k : Nat} : ∀ m q e, (∀ r, q ≤ r → r < q + m → o r ≠ k) → zSup pv o q m e k = e k := by
  intro m
  induction m with
  | zero => intro q e _; rfl
  | succ m ih =>
    intro q e h
    rw [zSup, ih (q + 1) _ (fun r h1 h2 => h r (by omega) (by omega)), upd_n (fun he => h q (Nat.le_refl _) (by omega) he.symm)]
theorem zSup_in {pv : (Nat → Int32) → Nat → Int32} {o : Nat → Nat} {U : Nat → Nat → Prop} (hc : ∀ k e1 e2, k < 16 → (∀ j, j < 16 → U k j → e1 j = e2 j) → pv e1 k = pv e2 k) (ho : ∀ p, p < 16 → o p < 16) (hi : ∀ p q, p < 16 → q < 16 → o p = o q → p = q) : ∀ m q e, q + m ≤ 16 → (∀ r, q ≤ r → r < q + m → ∀ j, j < 16 → U (o r) j → ∃ t, t < r ∧ o t = j) → ∀ r, q ≤ r → r < q + m → zSup pv o q m e (o r) = pv (zSup pv o q m e) (o r) := by
  intro m
  induction m with
  | zero => intro q e _ _ r h1 h2; omega
  | succ m ih =>
    intro q e hq hu r h1 h2
    rw [zSup]
    by_cases er : r = q
    · subst er
      rw [zSup_out m (r + 1) _ (fun t t1 t2 he => by have := hi t r (by omega) (by omega) he; omega), upd_s]
      refine hc _ _ _ (ho r (by omega)) (fun j hj hub => ?_)
      obtain ⟨t, ht, et⟩ := hu r (Nat.le_refl _) h2 j hj hub
      rw [zSup_out m (r + 1) _ (fun t' t1 t2 he => by have := hi t' t (by omega) (by omega) (he.trans et.symm); omega), upd_n (fun he => by have := hi t r (by omega) (by omega) (et.trans he); omega)]
    · exact ih (q + 1) _ (by omega) (fun r' a b => hu r' (by omega) (by omega)) r (by omega) (by omega)
theorem zSup_d {pv : (Nat → Int32) → Nat → Int32} {o : Nat → Nat} {U : Nat → Nat → Prop} {D : Nat → Prop} (hc : ∀ k e1 e2, k < 16 → (∀ j, j < 16 → U k j → e1 j = e2 j) → pv e1 k = pv e2 k) (ho : ∀ p, p < 16 → o p < 16) (hi : ∀ p q, p < 16 → q < 16 → o p = o q → p = q) (hD : ∀ k j, k < 16 → j < 16 → D k → U k j → D j) : ∀ m q e1 e2, q + m ≤ 16 → (∀ r, q ≤ r → r < q + m → ∀ j, j < 16 → U (o r) j → ∃ t, t < r ∧ o t = j) → (∀ r, r < q → D (o r) → e1 (o r) = e2 (o r)) → ∀ r, r < q + m → D (o r) → zSup pv o q m e1 (o r) = zSup pv o q m e2 (o r) := by
  intro m
  induction m with
  | zero => intro q e1 e2 _ _ h r hr hd; exact h r hr hd
  | succ m ih =>
    intro q e1 e2 hq hu h r hr hd
    rw [zSup, zSup]
    refine ih (q + 1) _ _ (by omega) (fun r' a b => hu r' (by omega) (by omega)) (fun t ht hdt => ?_) r (by omega) hd
    by_cases et : t = q
    · subst et
      rw [upd_s, upd_s]
      refine hc _ _ _ (ho t (by omega)) (fun j hj hub => ?_)
      obtain ⟨t', ht', et'⟩ := hu t (Nat.le_refl _) (by omega) j hj hub
      rw [← et']
      exact h t' ht' (by rw [et']; exact hD _ _ (ho t (by omega)) hj hdt hub)
    · rw [upd_n (fun he => et (hi t q (by omega) (by omega) he)), upd_n (fun he => et (hi t q (by omega) (by omega) he))]
      exact h t (by omega) hdt
theorem zSup_bn {pv : (Nat → Int32) → Nat → Int32} {o : Nat → Nat} (hb : ∀ k e, k < 16 → (∀ j, j < 16 → zBn (e j)) → zBn (pv e k)) (ho : ∀ p, p < 16 → o p < 16) : ∀ m q e, q + m ≤ 16 → (∀ j, j < 16 → zBn (e j)) → ∀ j, j < 16 → zBn (zSup pv o q m e j) := by
  intro m
  induction m with
  | zero => intro q e _ h; exact h
  | succ m ih =>
    intro q e hq h
    rw [zSup]
    refine ih (q + 1) _ (by omega) (fun j hj => ?_)
    by_cases e' : j = o q
    · rw [e', upd_s]; exact hb _ _ (ho q (by omega)) h
    · rw [upd_n e']; exact h j hj
end PSu
