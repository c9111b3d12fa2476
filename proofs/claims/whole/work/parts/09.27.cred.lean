section PCr
/-! credits: sums, orders -/
theorem n5 {i : Nat} (h : i < 5) : ¬ (5 : Int32) ≤ nI i := nI_ge (b := 5) h (by decide)
theorem n5e : (5 : Int32) ≤ nI 5 := nI_le (a := 5) (Nat.le_refl _) (by decide)
theorem n120 {i : Nat} (h : i < 120) : ¬ (120 : Int32) ≤ nI i := nI_ge (b := 120) h (by decide)
def zMn (a b : Int32) : Int32 := if a < b then a else b
def zCrL (C : Nat → Int32) (o : Nat → Nat) (t : Int32) : Nat → Int32
  | 0 => t
  | k + 1 => zCrL C o t k - zMn (C (o k)) (zCrL C o t k)
def zCrS (C W : Nat → Int32) (o : Nat → Nat) (t : Int32) : Nat → Int32
  | 0 => 0
  | k + 1 => zCrS C W o t k + (zMn (C (o k)) (zCrL C o t k) + zThou (C (o k) - zMn (C (o k)) (zCrL C o t k)) (W (o k)))
theorem zCr_c {C W : Nat → Int32} {o o' : Nat → Nat} {t : Int32} {c : Nat} (h : ∀ k, k < c → o k = o' k) : ∀ k, k ≤ c → zCrL C o t k = zCrL C o' t k ∧ zCrS C W o t k = zCrS C W o' t k := by
  intro k
  induction k with
  | zero => intro _; exact ⟨rfl, rfl⟩
  | succ k ih =>
    intro hk
    obtain ⟨a, b⟩ := ih (by omega)
    rw [zCrL, zCrL, zCrS, zCrS, a, b, h k (by omega)]
    exact ⟨rfl, rfl⟩
theorem p_sum {n c : Nat} (hn : 100 ≤ n) {s : zS} {o : Nat → Nat} (t : Int32) (hc : c ≤ 5) (h : s 16 4 = nI c) (ho : ∀ k, k < c → o k < 5 ∧ s 19 k = nI (o k)) : m_X2_sumInOrder n t s = some (zCrS (s 17) (s 18) o t c, s) := by
  obtain ⟨⟨v, w⟩, f1, hf1, hI, e1⟩ := for_up (fun f k (q : Int32 × Int32) => m_X2_sumInOrder_j7 n f q.1 q.2 (nI k) s) (fun k q => q = (zCrL (s 17) o t k, zCrS (s 17) (s 18) o t k)) c (by
    rintro f k q hk rfl
    refine ⟨_, rfl, ?_⟩
    obtain ⟨o1, o2⟩ := ho k hk
    show m_X2_sumInOrder_j7 n (f + 1) (zCrL (s 17) o t k) (zCrS (s 17) (s 18) o t k) (nI k) s = m_X2_sumInOrder_j7 n f (zCrL (s 17) o t (k + 1)) (zCrS (s 17) (s 18) o t (k + 1)) (nI (k + 1)) s
    have et : ∀ a b, m_X7_thousandths n a b s = some (zThou a b, s) := fun a b => rfl
    rw [m_X2_sumInOrder_j7, h, if_neg (nI_ge hk (by omega)), p_at (by decide), zBd_e, a5 (by omega), o2, p_at (by decide), zBd_e, a5 o1, zLt_e, zLt_e, p_at (by decide), zBd_e, a5 o1, p_at (by decide), zBd_e, a5 o1, et, zBd_e, zLt_e, zLt_e, nI_s]; rfl) c n 0 (t, 0) (by omega) (by omega) rfl
  obtain ⟨f1, rfl⟩ : ∃ g, f1 = g + 1 := ⟨f1 - 1, by omega⟩
  unfold m_X2_sumInOrder
  refine (show _ = _ from e1).trans ?_
  show m_X2_sumInOrder_j7 n (f1 + 1) v w (nI c) s = _
  rw [m_X2_sumInOrder_j7, h, if_pos (nI_le (Nat.le_refl _) (by omega)), (Prod.mk.inj hI).2]; rfl
theorem q_comes {n c : Nat} (hn : 100 ≤ n) {s : zS} {o : Nat → Nat} (t : Int32) (hc : c ≤ 5) (h : s 0 11 = nI c) (ho : ∀ k, k < c → o k < 5 ∧ s 17 k = nI (o k)) : m_X8_comes n t s = some (zCrS (s 9) (s 10) o t c, s) := by
  obtain ⟨⟨v, w⟩, f1, hf1, hI, e1⟩ := for_up (fun f k (q : Int32 × Int32) => m_X8_comes_j7 n f q.1 q.2 (nI k) s) (fun k q => q = (zCrL (s 9) o t k, zCrS (s 9) (s 10) o t k)) c (by
    rintro f k q hk rfl
    refine ⟨_, rfl, ?_⟩
    obtain ⟨o1, o2⟩ := ho k hk
    show m_X8_comes_j7 n (f + 1) (zCrL (s 9) o t k) (zCrS (s 9) (s 10) o t k) (nI k) s = m_X8_comes_j7 n f (zCrL (s 9) o t (k + 1)) (zCrS (s 9) (s 10) o t (k + 1)) (nI (k + 1)) s
    have hm : ∀ a : Int32, a = zMn (s 9 (o k)) (zCrL (s 9) o t k) → m_X8_comes_j42 (m_X8_comes_j7 n f) n (zCrL (s 9) o t k) (zCrS (s 9) (s 10) o t k) (nI k) (s 9 (o k)) a s = m_X8_comes_j7 n f (zCrL (s 9) o t (k + 1)) (zCrS (s 9) (s 10) o t (k + 1)) (nI (k + 1)) s := by
      rintro a rfl
      unfold m_X8_comes_j42
      rw [zLt_e, zRd_n (by omega) (by decide), o2, zRd_n o1 (by decide), zLt_e, zLt_e, nI_s]; rfl
    rw [m_X8_comes_j7, h, if_neg (nI_ge hk (by omega)), zRd_n (by omega) (by decide), o2, zRd_n o1 (by decide)]
    by_cases hle : zCrL (s 9) o t k ≤ s 9 (o k)
    · rw [if_pos hle]; exact hm _ (by unfold zMn; rw [if_neg (Int32.not_lt.mpr hle)])
    · rw [if_neg hle]; exact hm _ (by unfold zMn; rw [if_pos (Int32.not_le.mp hle)])) c n 0 (t, 0) (by omega) (by omega) rfl
  obtain ⟨f1, rfl⟩ : ∃ g, f1 = g + 1 := ⟨f1 - 1, by omega⟩
  unfold m_X8_comes
  refine (show _ = _ from e1).trans ?_
  show m_X8_comes_j7 n (f1 + 1) v w (nI c) s = _
  rw [m_X8_comes_j7, h, if_pos (nI_le (Nat.le_refl _) (by omega)), (Prod.mk.inj hI).2]; rfl
/-- two places changed -/
def oSw (o : Nat → Nat) (a b : Nat) : Nat → Nat := fun k => if k = b then o a else if k = a then o b else o k
def oOk (f : Nat → Int32) (o : Nat → Nat) : Prop := ∀ k, k < 5 → o k < 5 ∧ f k = nI (o k)
theorem zSt_z {s : zS} {k : Nat} {f g : Nat → Int32} : zSt (zSt s k f) k g = zSt s k g := by
  funext i
  unfold zSt
  split <;> rfl
theorem p_swap {n a b : Nat} {s : zS} (ha : a < 5) (hb : b < 5) : m_X2_swap n (nI a) (nI b) s = some (0, zSt s 19 (upd (upd (s 19) a (s 19 b)) b (s 19 a))) := by
  have e : zU (zU (zSt s 19 (s 19)) 19 a (s 19 b)) 19 b (s 19 a) = zSt s 19 (upd (upd (s 19) a (s 19 b)) b (s 19 a)) := by rw [zSt_u, zSt_u]
  rw [zSt_i] at e
  unfold m_X2_swap
  rw [p_at (by decide), zBd_e, a5 ha, p_at (by decide), zBd_e, a5 hb, p_put ha (by decide), zBd_e, p_put hb (by decide), zBd_e, e]; rfl
theorem oSw_ok {f : Nat → Int32} {o : Nat → Nat} {a b : Nat} (h : oOk f o) (ha : a < 5) (hb : b < 5) : oOk (upd (upd f a (f b)) b (f a)) (oSw o a b) := by
  intro k hk
  unfold oSw
  by_cases e1 : k = b
  · rw [if_pos e1, e1, upd_s]; exact h a ha
  · rw [if_neg e1, upd_n e1]
    by_cases e2 : k = a
    · rw [if_pos e2, e2, upd_s]; exact h b hb
    · rw [if_neg e2, upd_n e2]; exact h k hk
def trn (o : Nat → Nat) : Nat → Option Nat
  | 0 => none
  | t + 1 => if o (t + 1) < o t then trn o t else some t
theorem trn_lt {o : Nat → Nat} {u : Nat} : ∀ t, trn o t = some u → u < t := by
  intro t
  induction t with
  | zero => intro h; cases h
  | succ t ih =>
    intro h
    unfold trn at h
    split at h
    · have := ih h; omega
    · cases h; omega
theorem p_turn {n c : Nat} {s : zS} {o : Nat → Nat} (ho : oOk (s 19) o) (h : s 16 4 = nI c) : ∀ t f, t < 4 → t + 2 ≤ f → m_X2_toNextOrder_j7 n f (nI t) s = (trn o (t + 1)).elim (some (0, s)) (fun u => m_X2_toNextOrder_j51 n n (nI u) (nI c - 1) s) := by
  have step : ∀ t f, t < 4 → m_X2_toNextOrder_j7 n (f + 1) (nI t) s = if o (t + 1) < o t then m_X2_toNextOrder_j7 n f (nI t + (-1 : Int32)) s else m_X2_toNextOrder_j51 n n (nI t) (nI c - 1) s := by
    intro t f ht
    obtain ⟨a1, a2⟩ := ho t (by omega)
    obtain ⟨b1, b2⟩ := ho (t + 1) (by omega)
    rw [m_X2_toNextOrder_j7, if_neg (nI_pos (by omega)), p_at (by decide), zBd_e, a5 (by omega), p_at (by decide), zBd_e, nI_s, a5 (by omega), a2, b2]
    by_cases q : o (t + 1) < o t
    · rw [if_neg (nI_ge q (by omega)), if_pos q, zLt_e]
    · rw [if_pos (nI_le (by omega) (by omega)), if_neg q]
      unfold m_X2_toNextOrder_j38
      rw [if_pos (nI_pos' (by omega)), zLt_e, h]
  intro t
  induction t with
  | zero =>
    intro f ht hf
    obtain ⟨f, rfl⟩ : ∃ g, f = g + 2 := ⟨f - 2, by omega⟩
    rw [step 0 (f + 1) ht]
    show _ = Option.elim (if o (0 + 1) < o 0 then trn o 0 else some 0) _ _
    by_cases q : o (0 + 1) < o 0
    · rw [if_pos q, if_pos q, show nI 0 + (-1 : Int32) = -1 from by decide, m_X2_toNextOrder_j7, if_pos (by decide)]
      unfold m_X2_toNextOrder_j38
      rw [if_neg (by decide)]; rfl
    · rw [if_neg q, if_neg q]; rfl
  | succ t ih =>
    intro f ht hf
    obtain ⟨f, rfl⟩ : ∃ g, f = g + 1 := ⟨f - 1, by omega⟩
    rw [step (t + 1) f ht]
    show _ = Option.elim (if o (t + 1 + 1) < o (t + 1) then trn o (t + 1) else some (t + 1)) _ _
    by_cases q : o (t + 1 + 1) < o (t + 1)
    · rw [if_pos q, if_pos q, nI_m1, ih f (by omega) (by omega)]
    · rw [if_neg q, if_neg q]; rfl
def prt (o : Nat → Nat) (u : Nat) : Nat → Nat
  | 0 => 0
  | p + 1 => if p + 1 ≤ u then p + 1 else if o u ≤ o (p + 1) then p + 1 else prt o u p
theorem prt_le {o : Nat → Nat} {u : Nat} : ∀ p, prt o u p ≤ p := by
  intro p
  induction p with
  | zero => exact Nat.le_refl _
  | succ p ih =>
    unfold prt
    split
    · exact Nat.le_refl _
    · split
      · exact Nat.le_refl _
      · omega
theorem p_part {n u : Nat} {s : zS} {o : Nat → Nat} (ho : oOk (s 19) o) (hu : u < 5) : ∀ p f, p < 5 → p < f → m_X2_toNextOrder_j51 n f (nI u) (nI p) s = m_X2_toNextOrder_j81 n (nI u) (nI (prt o u p)) s := by
  obtain ⟨b1, b2⟩ := ho u hu
  intro p
  induction p with
  | zero =>
    intro f hp hf
    obtain ⟨f, rfl⟩ : ∃ g, f = g + 1 := ⟨f - 1, by omega⟩
    rw [m_X2_toNextOrder_j51, if_pos (nI_le (by omega) (by omega))]; rfl
  | succ p ih =>
    intro f hp hf
    obtain ⟨f, rfl⟩ : ∃ g, f = g + 1 := ⟨f - 1, by omega⟩
    obtain ⟨a1, a2⟩ := ho (p + 1) hp
    rw [m_X2_toNextOrder_j51]
    unfold prt
    by_cases q : p + 1 ≤ u
    · rw [if_pos (nI_le q (by omega)), if_pos q]
    · rw [if_neg (nI_ge (by omega) (by omega)), if_neg q, p_at (by decide), zBd_e, a5 hp, p_at (by decide), zBd_e, a5 hu, a2, b2]
      by_cases q2 : o u ≤ o (p + 1)
      · rw [if_pos (nI_le q2 (by omega)), if_pos q2]
      · rw [if_neg (nI_ge (by omega) (by omega)), if_neg q2, zLt_e, nI_m1, ih f (by omega) (by omega)]
def rvs : Nat → (Nat → Nat) → Nat → Nat → (Nat → Nat)
  | 0, o, _, _ => o
  | f + 1, o, lo, hi => if hi ≤ lo then o else rvs f (oSw o lo hi) (lo + 1) (hi - 1)
theorem p_rev {n : Nat} {s : zS} : ∀ d f lo hi (g : Nat → Int32) (o : Nat → Nat), hi ≤ lo + d → lo ≤ 5 → hi < 5 → d < f → oOk g o → ∃ g', m_X2_toNextOrder_j99 n f (nI lo) (nI hi) (zSt s 19 g) = some (1, zSt s 19 g') ∧ oOk g' (rvs d o lo hi) := by
  intro d
  induction d with
  | zero =>
    intro f lo hi g o h1 h2 h3 hf ho
    obtain ⟨f, rfl⟩ : ∃ g, f = g + 1 := ⟨f - 1, by omega⟩
    refine ⟨g, ?_, ho⟩
    rw [m_X2_toNextOrder_j99, if_pos (nI_le (by omega) (by omega))]; rfl
  | succ d ih =>
    intro f lo hi g o h1 h2 h3 hf ho
    obtain ⟨f, rfl⟩ : ∃ g, f = g + 1 := ⟨f - 1, by omega⟩
    rw [m_X2_toNextOrder_j99]
    unfold rvs
    by_cases q : hi ≤ lo
    · rw [if_pos (nI_le q (by omega)), if_pos q]
      exact ⟨g, rfl, ho⟩
    · obtain ⟨hi, rfl⟩ : ∃ j, hi = j + 1 := ⟨hi - 1, by omega⟩
      rw [if_neg (nI_ge (by omega) (by omega)), if_neg q, p_swap (by omega) h3, zBd_e, zLt_e, zLt_e, nI_s, nI_m1, zSt_z, zSt_s]
      exact ih f (lo + 1) hi _ _ (by omega) (by omega) (by omega) (by omega) (oSw_ok ho (by omega) h3)
def nxt (c : Nat) (o : Nat → Nat) : Option (Nat → Nat) := (trn o (c - 1)).map (fun u => rvs 5 (oSw o u (prt o u (c - 1))) (u + 1) (c - 1))
theorem p_next {n c : Nat} (hn : 100 ≤ n) (hc : c ≤ 5) {s : zS} {o : Nat → Nat} (h : s 16 4 = nI c) (ho : oOk (s 19) o) : (nxt c o = none ∧ m_X2_toNextOrder n s = some (0, s)) ∨ ∃ o' g, nxt c o = some o' ∧ m_X2_toNextOrder n s = some (1, zSt s 19 g) ∧ oOk g o' := by
  have small : ∀ v : Int32, v < 0 → m_X2_toNextOrder_j7 n n v s = some (0, s) := by
    intro v hv
    obtain ⟨f, rfl⟩ : ∃ g, n = g + 1 := ⟨n - 1, by omega⟩
    rw [m_X2_toNextOrder_j7, if_pos hv]
    unfold m_X2_toNextOrder_j38
    rw [if_neg (Int32.not_le.mpr hv)]; rfl
  unfold m_X2_toNextOrder
  rw [zLt_e, h]
  match c, hc, h with
  | 0, _, _ => exact Or.inl ⟨rfl, small _ (by decide)⟩
  | 1, _, _ => exact Or.inl ⟨rfl, small _ (by decide)⟩
  | t + 2, hc, h =>
    rw [show nI (t + 2) - (2 : Int32) = nI t from n_subN (b := 2) (by omega), p_turn ho h t n (by omega) (by omega)]
    unfold nxt
    show (Option.map _ (trn o (t + 1)) = none ∧ _) ∨ ∃ o' g, Option.map _ (trn o (t + 1)) = some o' ∧ _
    cases hu : trn o (t + 1) with
    | none => exact Or.inl ⟨rfl, rfl⟩
    | some u =>
      have hlt := trn_lt _ hu
      have hpl := prt_le (o := o) (u := u) (t + 1)
      refine Or.inr ?_
      show ∃ o' g, some _ = some o' ∧ m_X2_toNextOrder_j51 n n (nI u) (nI (t + 2) - 1) s = _ ∧ _
      rw [nI_pred, p_part ho (by omega) (t + 1) n (by omega) (by omega)]
      unfold m_X2_toNextOrder_j81
      rw [p_swap (by omega) (by omega), zBd_e, zLt_e, zLt_e, nI_s, zSt_n (by decide), h, nI_pred]
      obtain ⟨g', r1, r2⟩ := p_rev (n := n) (s := s) 5 n (u + 1) (t + 1) _ _ (by omega) (by omega) (by omega) (by omega) (oSw_ok (b := prt o u (t + 1)) ho (show u < 5 by omega) (by omega))
      exact ⟨_, g', rfl, r1, r2⟩
def oL (l : List Nat) : Nat → Nat := fun k => l.getD k 0
def oT (o : Nat → Nat) : List Nat := [o 0, o 1, o 2, o 3, o 4]
theorem oLT {o : Nat → Nat} : ∀ k, k < 5 → oL (oT o) k = o k
  | 0, _ => rfl
  | 1, _ => rfl
  | 2, _ => rfl
  | 3, _ => rfl
  | 4, _ => rfl
  | k + 5, h => absurd h (by omega)
/-- one order tried -/
def zBst (S : (Nat → Nat) → Int32) (c : Nat) (b : Int32 × (Nat → Int32)) (o : Nat → Nat) : Int32 × (Nat → Int32) := if S o ≤ b.1 then b else (S o, fun k => if k < c then nI (o k) else b.2 k)
theorem zBst_c {S : (Nat → Nat) → Int32} {c : Nat} {b : Int32 × (Nat → Int32)} {o o' : Nat → Nat} (hS : S o = S o') (h : ∀ k, k < c → o k = o' k) : zBst S c b o = zBst S c b o' := by
  have e : (fun k => if k < c then nI (o k) else b.2 k) = fun k => if k < c then nI (o' k) else b.2 k := by
    funext k
    by_cases q : k < c
    · rw [if_pos q, if_pos q, h k q]
    · rw [if_neg q, if_neg q]
  unfold zBst
  rw [hS, e]
/-- a list of orders, each the next one of that before it, the last one with none -/
def chk (c : Nat) : List (List Nat) → Bool
  | [] => false
  | [l] => (nxt c (oL l)).isNone
  | l :: l' :: r => (match nxt c (oL l) with
    | none => false
    | some o => decide (oT o = l')) && chk c (l' :: r)
theorem p_keep {n c : Nat} (hn : 100 ≤ n) (hc : c ≤ 5) {s : zS} {o : Nat → Nat} (h : s 16 4 = nI c) (ho : oOk (s 19) o) : m_X2_keepOrder n s = some (0, zSt s 20 (fun k => if k < c then nI (o k) else s 20 k)) := by
  obtain ⟨g, f1, hf1, hI, e1⟩ := for_up (fun f k (g : Nat → Int32) => m_X2_keepOrder_j2 n f (nI k) (zSt s 20 g)) (fun k g => g = fun j => if j < k then nI (o j) else s 20 j) c (by
    rintro f k g hk rfl
    refine ⟨_, rfl, ?_⟩
    show m_X2_keepOrder_j2 n (f + 1) (nI k) (zSt s 20 _) = m_X2_keepOrder_j2 n f (nI (k + 1)) (zSt s 20 _)
    rw [m_X2_keepOrder_j2, zSt_n (c := 16) (by decide), h, if_neg (nI_ge hk (by omega)), p_at (by decide), zBd_e, a5 (by omega), p_put (by omega) (by decide), zBd_e, zLt_e, nI_s, zSt_n (c := 19) (by decide), (ho k (by omega)).2, zSt_u]
    congr 2
    funext j
    by_cases q : j = k
    · rw [q, upd_s, if_pos (by omega)]
    · rw [upd_n q]
      by_cases q2 : j < k
      · rw [if_pos q2, if_pos (by omega)]
      · rw [if_neg q2, if_neg (by omega)]) c n 0 (s 20) (by omega) (by omega) (by funext j; rw [if_neg (by omega)])
  obtain ⟨f1, rfl⟩ : ∃ g, f1 = g + 1 := ⟨f1 - 1, by omega⟩
  unfold m_X2_keepOrder
  have e1' : m_X2_keepOrder_j2 n n 0 s = m_X2_keepOrder_j2 n (f1 + 1) (nI c) (zSt s 20 g) := by
    have := e1
    rw [zSt_i] at this
    exact this
  rw [e1', m_X2_keepOrder_j2, zSt_n (c := 16) (by decide), h, if_pos (nI_le (Nat.le_refl _) (by omega)), hI]; rfl
theorem p_scan {n c : Nat} (hn : 100 ≤ n) (hc : c ≤ 5) {s : zS} (t : Int32) (h : s 16 4 = nI c) : ∀ (L : List (List Nat)) (i f : Nat) (g B : Nat → Int32) (b : Int32), chk c L = true → L.length + i ≤ 120 → 122 ≤ f + i → (∀ l r, L = l :: r → oOk g (oL l)) → ∃ g', m_X2_findBest_j29 n f t b 1 (nI i) (zSt (zSt s 19 g) 20 B) = some ((L.foldl (fun b l => zBst (fun o => zCrS (s 17) (s 18) o t c) c b (oL l)) (b, B)).1, zSt (zSt s 19 g') 20 (L.foldl (fun b l => zBst (fun o => zCrS (s 17) (s 18) o t c) c b (oL l)) (b, B)).2) := by
  intro L
  induction L with
  | nil => intro i f g B b hch; cases hch
  | cons l r ih =>
    intro i f g B b hch hl hf hg
    have ho := hg l r rfl
    obtain ⟨f, rfl⟩ : ∃ g, f = g + 1 := ⟨f - 1, by omega⟩
    have hl' : r.length + 1 + i ≤ 120 := hl
    -- the order's sum, and what is kept of it
    have main : ∃ B', m_X2_findBest_j29 n (f + 1) t b 1 (nI i) (zSt (zSt s 19 g) 20 B) = (zBd (m_X2_toNextOrder n (zSt (zSt s 19 g) 20 B')) fun x6 s7 => m_X2_findBest_j29 n f t (zBst (fun o => zCrS (s 17) (s 18) o t c) c (b, B) (oL l)).1 x6 (nI (i + 1)) s7) ∧ B' = (zBst (fun o => zCrS (s 17) (s 18) o t c) c (b, B) (oL l)).2 := by
      have e19 : (zSt (zSt s 19 g) 20 B) 19 = g := by rw [zSt_n (by decide), zSt_s]
      have e16 : (zSt (zSt s 19 g) 20 B) 16 4 = nI c := by rw [zSt_n (by decide), zSt_n (by decide)]; exact h
      have es := p_sum (s := zSt (zSt s 19 g) 20 B) hn t hc e16 (o := oL l) (fun k hk => by rw [e19]; exact ho k (by omega))
      rw [zSt_n (c := 17) (by decide), zSt_n (c := 17) (by decide), zSt_n (c := 18) (by decide), zSt_n (c := 18) (by decide)] at es
      rw [m_X2_findBest_j29, if_neg (n120 (show i < 120 by omega)), if_neg (by decide), es, zBd_e]
      have bd : zBst (fun o => zCrS (s 17) (s 18) o t c) c (b, B) (oL l) = if zCrS (s 17) (s 18) (oL l) t c ≤ b then (b, B) else (zCrS (s 17) (s 18) (oL l) t c, fun k => if k < c then nI (oL l k) else B k) := rfl
      rw [bd]
      by_cases q : zCrS (s 17) (s 18) (oL l) t c ≤ b
      · refine ⟨B, ?_, ?_⟩
        · rw [if_pos q, if_pos q]
          simp only [zLt_e, nI_s]
        · rw [if_pos q]
      · refine ⟨_, ?_, rfl⟩
        rw [if_neg q, if_neg q, p_keep (o := oL l) hn hc e16 (by rw [e19]; exact ho), zBd_e]
        simp only [zLt_e, nI_s, zSt_s, zSt_z]
    obtain ⟨B', e1, hB'⟩ := main
    subst hB'
    rw [e1, List.foldl_cons]
    generalize zBst (fun o => zCrS (s 17) (s 18) o t c) c (b, B) (oL l) = R
    obtain ⟨R1, B'⟩ := R
    simp only
    have hN := p_next (s := zSt (zSt s 19 g) 20 B') (o := oL l) hn hc (by rw [zSt_n (by decide), zSt_n (by decide)]; exact h) (by rw [zSt_n (by decide), zSt_s]; exact ho)
    cases r with
    | nil =>
      rcases hN with ⟨k1, k2⟩ | ⟨o', g', k1, k2, k3⟩
      · refine ⟨g, ?_⟩
        rw [k2, zBd_e]
        obtain ⟨f, rfl⟩ : ∃ g, f = g + 1 := ⟨f - 1, by omega⟩
        rw [m_X2_findBest_j29]
        by_cases q : (120 : Int32) ≤ nI (i + 1)
        · rw [if_pos q]; rfl
        · rw [if_neg q, if_pos rfl]; rfl
      · exfalso
        unfold chk at hch
        rw [k1] at hch
        cases hch
    | cons l' r =>
      have hch' : ((match nxt c (oL l) with
        | none => false
        | some o => decide (oT o = l')) && chk c (l' :: r)) = true := hch
      obtain ⟨h1, h2⟩ := Bool.and_eq_true_iff.mp hch'
      rcases hN with ⟨k1, k2⟩ | ⟨o', g', k1, k2, k3⟩
      · rw [k1] at h1; cases h1
      · rw [k1] at h1
        have h3 : oT o' = l' := of_decide_eq_true h1
        have hlen : (l' :: r).length = r.length + 1 := rfl
        have hlen' : (l :: l' :: r).length = r.length + 1 + 1 := rfl
        obtain ⟨g2, ih1⟩ := ih (i + 1) f g' B' R1 h2 (by omega) (by omega) (fun l2 r2 e => by
          cases e
          intro k hk
          rw [← h3, oLT k hk]
          exact k3 k hk)
        refine ⟨g2, ?_⟩
        rw [k2, zBd_e, show zSt (zSt (zSt s 19 g) 20 B') 19 g' = zSt (zSt s 19 g') 20 B' from by rw [zSt_c (a := 20) (b := 19) (by decide), zSt_z]]
        exact ih1
def prm : Nat → List (List Nat)
  | 0 => [[0, 1, 2, 3, 4]]
  | 1 => [[0, 1, 2, 3, 4]]
  | 2 => [[0, 1, 2, 3, 4], [1, 0, 2, 3, 4]]
  | 3 => [[0, 1, 2, 3, 4], [0, 2, 1, 3, 4], [1, 0, 2, 3, 4], [1, 2, 0, 3, 4], [2, 0, 1, 3, 4], [2, 1, 0, 3, 4]]
  | 4 => [[0, 1, 2, 3, 4], [0, 1, 3, 2, 4], [0, 2, 1, 3, 4], [0, 2, 3, 1, 4], [0, 3, 1, 2, 4], [0, 3, 2, 1, 4], [1, 0, 2, 3, 4], [1, 0, 3, 2, 4], [1, 2, 0, 3, 4], [1, 2, 3, 0, 4], [1, 3, 0, 2, 4], [1, 3, 2, 0, 4], [2, 0, 1, 3, 4], [2, 0, 3, 1, 4], [2, 1, 0, 3, 4], [2, 1, 3, 0, 4], [2, 3, 0, 1, 4], [2, 3, 1, 0, 4], [3, 0, 1, 2, 4], [3, 0, 2, 1, 4], [3, 1, 0, 2, 4], [3, 1, 2, 0, 4], [3, 2, 0, 1, 4], [3, 2, 1, 0, 4]]
  | _ => [[0, 1, 2, 3, 4], [0, 1, 2, 4, 3], [0, 1, 3, 2, 4], [0, 1, 3, 4, 2], [0, 1, 4, 2, 3], [0, 1, 4, 3, 2], [0, 2, 1, 3, 4], [0, 2, 1, 4, 3], [0, 2, 3, 1, 4], [0, 2, 3, 4, 1], [0, 2, 4, 1, 3], [0, 2, 4, 3, 1], [0, 3, 1, 2, 4], [0, 3, 1, 4, 2], [0, 3, 2, 1, 4], [0, 3, 2, 4, 1], [0, 3, 4, 1, 2], [0, 3, 4, 2, 1], [0, 4, 1, 2, 3], [0, 4, 1, 3, 2], [0, 4, 2, 1, 3], [0, 4, 2, 3, 1], [0, 4, 3, 1, 2], [0, 4, 3, 2, 1], [1, 0, 2, 3, 4], [1, 0, 2, 4, 3], [1, 0, 3, 2, 4], [1, 0, 3, 4, 2], [1, 0, 4, 2, 3], [1, 0, 4, 3, 2], [1, 2, 0, 3, 4], [1, 2, 0, 4, 3], [1, 2, 3, 0, 4], [1, 2, 3, 4, 0], [1, 2, 4, 0, 3], [1, 2, 4, 3, 0], [1, 3, 0, 2, 4], [1, 3, 0, 4, 2], [1, 3, 2, 0, 4], [1, 3, 2, 4, 0], [1, 3, 4, 0, 2], [1, 3, 4, 2, 0], [1, 4, 0, 2, 3], [1, 4, 0, 3, 2], [1, 4, 2, 0, 3], [1, 4, 2, 3, 0], [1, 4, 3, 0, 2], [1, 4, 3, 2, 0], [2, 0, 1, 3, 4], [2, 0, 1, 4, 3], [2, 0, 3, 1, 4], [2, 0, 3, 4, 1], [2, 0, 4, 1, 3], [2, 0, 4, 3, 1], [2, 1, 0, 3, 4], [2, 1, 0, 4, 3], [2, 1, 3, 0, 4], [2, 1, 3, 4, 0], [2, 1, 4, 0, 3], [2, 1, 4, 3, 0], [2, 3, 0, 1, 4], [2, 3, 0, 4, 1], [2, 3, 1, 0, 4], [2, 3, 1, 4, 0], [2, 3, 4, 0, 1], [2, 3, 4, 1, 0], [2, 4, 0, 1, 3], [2, 4, 0, 3, 1], [2, 4, 1, 0, 3], [2, 4, 1, 3, 0], [2, 4, 3, 0, 1], [2, 4, 3, 1, 0], [3, 0, 1, 2, 4], [3, 0, 1, 4, 2], [3, 0, 2, 1, 4], [3, 0, 2, 4, 1], [3, 0, 4, 1, 2], [3, 0, 4, 2, 1], [3, 1, 0, 2, 4], [3, 1, 0, 4, 2], [3, 1, 2, 0, 4], [3, 1, 2, 4, 0], [3, 1, 4, 0, 2], [3, 1, 4, 2, 0], [3, 2, 0, 1, 4], [3, 2, 0, 4, 1], [3, 2, 1, 0, 4], [3, 2, 1, 4, 0], [3, 2, 4, 0, 1], [3, 2, 4, 1, 0], [3, 4, 0, 1, 2], [3, 4, 0, 2, 1], [3, 4, 1, 0, 2], [3, 4, 1, 2, 0], [3, 4, 2, 0, 1], [3, 4, 2, 1, 0], [4, 0, 1, 2, 3], [4, 0, 1, 3, 2], [4, 0, 2, 1, 3], [4, 0, 2, 3, 1], [4, 0, 3, 1, 2], [4, 0, 3, 2, 1], [4, 1, 0, 2, 3], [4, 1, 0, 3, 2], [4, 1, 2, 0, 3], [4, 1, 2, 3, 0], [4, 1, 3, 0, 2], [4, 1, 3, 2, 0], [4, 2, 0, 1, 3], [4, 2, 0, 3, 1], [4, 2, 1, 0, 3], [4, 2, 1, 3, 0], [4, 2, 3, 0, 1], [4, 2, 3, 1, 0], [4, 3, 0, 1, 2], [4, 3, 0, 2, 1], [4, 3, 1, 0, 2], [4, 3, 1, 2, 0], [4, 3, 2, 0, 1], [4, 3, 2, 1, 0]]
theorem prm_chk : ∀ c, c < 6 → chk c (prm c) = true := by decide +kernel
theorem prm_len : ∀ c, c < 6 → (prm c).length ≤ 120 := by decide +kernel
theorem prm_hd : ∀ c, c < 6 → ∃ r, prm c = [0, 1, 2, 3, 4] :: r
  | 0, _ => ⟨_, rfl⟩
  | 1, _ => ⟨_, rfl⟩
  | 2, _ => ⟨_, rfl⟩
  | 3, _ => ⟨_, rfl⟩
  | 4, _ => ⟨_, rfl⟩
  | 5, _ => ⟨_, rfl⟩
  | k + 6, h => absurd h (by omega)
/-- the best of the orders, by the class -/
def zFb (C W B : Nat → Int32) (c : Nat) (t : Int32) : Int32 × (Nat → Int32) := (prm c).foldl (fun b l => zBst (fun o => zCrS C W o t c) c b (oL l)) (-1, B)
theorem p_findBest {n c : Nat} (hn : 200 ≤ n) (hc : c ≤ 5) {s : zS} (t : Int32) (h : s 16 4 = nI c) : ∃ g, m_X2_findBest n t s = some ((zFb (s 17) (s 18) (s 20) c t).1, zSt (zSt s 19 g) 20 (zFb (s 17) (s 18) (s 20) c t).2) := by
  obtain ⟨g, f1, hf1, hI, e1⟩ := for_up (fun f k (g : Nat → Int32) => m_X2_findBest_j2 n f t (nI k) (zSt s 19 g)) (fun k g => ∀ j, j < k → g j = nI j) 5 (by
    intro f k g hk hg
    refine ⟨upd g k (nI k), fun j hj => ?_, ?_⟩
    · by_cases q : j = k
      · rw [q, upd_s]
      · rw [upd_n q]; exact hg j (by omega)
    · show m_X2_findBest_j2 n (f + 1) t (nI k) (zSt s 19 g) = m_X2_findBest_j2 n f t (nI (k + 1)) (zSt s 19 (upd g k (nI k)))
      rw [m_X2_findBest_j2, if_neg (n5 hk), p_put hk (by decide), zBd_e, zLt_e, nI_s, zSt_u]) 5 n 0 (s 19) (by omega) (by omega) (fun j hj => absurd hj (Nat.not_lt_zero j))
  obtain ⟨f1, rfl⟩ : ∃ g, f1 = g + 1 := ⟨f1 - 1, by omega⟩
  obtain ⟨r, hr⟩ := prm_hd c (by omega)
  obtain ⟨g', e2⟩ := p_scan (n := n) (s := s) (by omega) hc t h (prm c) 0 n g (s 20) (-1) (prm_chk c (by omega)) (by have := prm_len c (by omega); omega) (by omega) (fun l r2 e => by
    rw [hr] at e
    cases e
    intro k hk
    rw [hI k hk]
    match k, hk with
    | 0, _ => exact ⟨by decide, rfl⟩
    | 1, _ => exact ⟨by decide, rfl⟩
    | 2, _ => exact ⟨by decide, rfl⟩
    | 3, _ => exact ⟨by decide, rfl⟩
    | 4, _ => exact ⟨by decide, rfl⟩
    | k + 5, h => exact absurd h (by omega))
  refine ⟨g', ?_⟩
  unfold m_X2_findBest
  have e1' : m_X2_findBest_j2 n n t 0 s = m_X2_findBest_j2 n (f1 + 1) t (nI 5) (zSt s 19 g) := by
    have := e1
    rw [zSt_i] at this
    exact this
  have e3 : zSt (zSt s 19 g) 20 (s 20) = zSt s 19 g := by
    rw [zSt_c (a := 19) (b := 20) (by decide), zSt_i]
  rw [e3] at e2
  rw [e1', m_X2_findBest_j2, if_pos n5e]
  exact e2
end PCr
