section POr
/-! the reference's orders -/
def layO (c : Nat) : Nat → Nat → Nat → (Nat → Nat) → Nat × (Nat → Nat)
  | 0, _, q, o => (q, o)
  | k + 1, r, q, o => layO c k (r / c) (q ||| 2 ^ (r % c)) (fun j => if j = k then r % c else o j)
theorem or_bits : ∀ q, q < 32 → ∀ d, d < 5 → nI q ||| ((1 : Int32) <<< (nI d &&& 31)) = nI (q ||| 2 ^ d) ∧ q ||| 2 ^ d < 32 := by decide +kernel
theorem full_bits : ∀ c, c < 6 → ((1 : Int32) <<< (nI c &&& 31)) - (1 : Int32) = nI (2 ^ c - 1) := by decide +kernel
theorem q_lay {n c : Nat} (hc : c ≤ 5) {s : zS} (h : s 0 11 = nI c) : ∀ k f r q (g : Nat → Int32) (o : Nat → Nat), k ≤ c → k < f → r < 2147483648 → q < 32 → (∀ j, k ≤ j → j < c → o j < 5 ∧ g j = nI (o j)) → ∃ g', m_X8_laysOrder_j12 n f (nI r) (nI q) (nI k - 1) (zSt s 17 g) = some (if (layO c k r q o).1 = 2 ^ c - 1 then 1 else 0, zSt s 17 g') ∧ ∀ j, j < c → (layO c k r q o).2 j < 5 ∧ g' j = nI ((layO c k r q o).2 j) := by
  intro k
  induction k with
  | zero =>
    intro f r q g o hk hf hr hq ho
    obtain ⟨f, rfl⟩ : ∃ g, f = g + 1 := ⟨f - 1, by omega⟩
    refine ⟨g, ?_, fun j hj => ho j (by omega) hj⟩
    rw [m_X8_laysOrder_j12, if_pos (by decide), zSt_n (c := 0) (by decide), h, full_bits c (by omega)]
    show _ = some (if q = 2 ^ c - 1 then 1 else 0, _)
    have hP : 2 ^ c ≤ 2 ^ 5 := Nat.pow_le_pow_right (by decide) hc
    generalize 2 ^ c = P at hP ⊢
    by_cases e : q = P - 1
    · rw [if_pos (by rw [e]), if_pos e]; rfl
    · rw [if_neg (fun x => e ((eq_n (by omega) (by omega)).mp x)), if_neg e]; rfl
  | succ k ih =>
    intro f r q g o hk hf hr hq ho
    obtain ⟨f, rfl⟩ : ∃ g, f = g + 1 := ⟨f - 1, by omega⟩
    have hd : r % c < c := Nat.mod_lt _ (by omega)
    have hq2 := or_bits q hq (r % c) (by omega)
    have hdv : r / c ≤ r := Nat.div_le_self r c
    have hc0 : ¬ nI c = 0 := nI_ne0 (by omega) (by omega)
    rw [m_X8_laysOrder_j12, nI_pred, if_neg (nI_pos (by omega)), zSt_n (c := 0) (by decide), h, zGd_e hc0, pk_rem (by omega) (by omega) (by omega), zWr_n (by omega) (by decide), zSt_u, zSt_n (c := 0) (by decide), h, zGd_e hc0, pk_div (by omega) (by omega) (by omega), zLt_e, zRd_n (by omega) (by decide), zSt_s, upd_s, hq2.1, zLt_e, zLt_e, ← Int32.sub_eq_add_neg]
    exact ih f (r / c) (q ||| 2 ^ (r % c)) (upd g k (nI (r % c))) (fun j => if j = k then r % c else o j) (by omega) (by omega) (by omega) hq2.2 (fun j h1 h2 => by
      by_cases e : j = k
      · rw [e, upd_s]
        show (if k = k then r % c else o k) < 5 ∧ _ = nI (if k = k then r % c else o k)
        rw [if_pos rfl]
        exact ⟨by omega, rfl⟩
      · rw [upd_n e]
        show (if j = k then r % c else o j) < 5 ∧ _ = nI (if j = k then r % c else o j)
        rw [if_neg e]
        exact ho j (by omega) h2)
/-- orders, best ones and their sum replaced -/
def zT3 (s : zS) (g B : Nat → Int32) (b : Int32) : zS := zSt (zSt (zSt s 17 g) 18 B) 0 (upd (s 0) 22 b)
theorem zT3_n {s : zS} {g B : Nat → Int32} {b : Int32} {c : Nat} (h0 : c ≠ 0) (h1 : c ≠ 17) (h2 : c ≠ 18) : zT3 s g B b c = s c := by unfold zT3; rw [zSt_n h0, zSt_n h2, zSt_n h1]
theorem zT3_0 {s : zS} {g B : Nat → Int32} {b : Int32} {j : Nat} (h : j ≠ 22) : zT3 s g B b 0 j = s 0 j := by unfold zT3; rw [zSt_s, upd_n h]
theorem zT3_b {s : zS} {g B : Nat → Int32} {b : Int32} : zT3 s g B b 0 22 = b := by unfold zT3; rw [zSt_s, upd_s]
theorem zT3_g {s : zS} {g B : Nat → Int32} {b : Int32} : zT3 s g B b 17 = g := by unfold zT3; rw [zSt_n (by decide), zSt_n (by decide), zSt_s]
theorem zT3_B {s : zS} {g B : Nat → Int32} {b : Int32} : zT3 s g B b 18 = B := by unfold zT3; rw [zSt_n (by decide), zSt_s]
theorem zT3_17 {s : zS} {g g' B : Nat → Int32} {b : Int32} : zSt (zT3 s g B b) 17 g' = zT3 s g' B b := by
  unfold zT3
  rw [zSt_c (a := 0) (b := 17) (by decide), zSt_c (a := 18) (b := 17) (by decide), zSt_z]
theorem zT3_18 {s : zS} {g B B' : Nat → Int32} {b : Int32} : zSt (zT3 s g B b) 18 B' = zT3 s g B' b := by
  unfold zT3
  rw [zSt_c (a := 0) (b := 18) (by decide), zSt_z]
theorem zU_St {s : zS} {k j : Nat} {v : Int32} : zU s k j v = zSt s k (upd (s k) j v) := by
  have e : zU (zSt s k (s k)) k j v = zSt s k (upd (s k) j v) := zSt_u
  rw [zSt_i] at e
  exact e
theorem upd_2 {f : Nat → Int32} {j : Nat} {v w : Int32} : upd (upd f j v) j w = upd f j w := by
  funext i
  by_cases q : i = j
  · rw [q, upd_s, upd_s]
  · rw [upd_n q, upd_n q, upd_n q]
theorem zT3_22 {s : zS} {g B : Nat → Int32} {b x : Int32} : zU (zT3 s g B b) 0 22 x = zT3 s g B x := by
  unfold zT3
  rw [zSt_u, upd_2]
theorem zT3_i {s : zS} {x : Int32} : zU s 0 22 x = zT3 s (s 17) (s 18) x := by
  unfold zT3
  rw [zSt_i, zSt_i, zU_St]
def zOd (S : (Nat → Nat) → Int32) (c : Nat) (b : Int32 × (Nat → Int32)) (i : Nat) : Int32 × (Nat → Int32) := if (layO c c i 0 (fun _ => 0)).1 = 2 ^ c - 1 then zBst S c b (layO c c i 0 (fun _ => 0)).2 else b
theorem q_laysOrder {n c : Nat} (hn : 100 ≤ n) (hc : c ≤ 5) {s : zS} {g B : Nat → Int32} {b : Int32} (h : s 0 11 = nI c) {i : Nat} (hi : i < 2147483648) : ∃ g', m_X8_laysOrder n (nI i) (zT3 s g B b) = some (if (layO c c i 0 (fun _ => 0)).1 = 2 ^ c - 1 then 1 else 0, zT3 s g' B b) ∧ ∀ j, j < c → (layO c c i 0 (fun _ => 0)).2 j < 5 ∧ g' j = nI ((layO c c i 0 (fun _ => 0)).2 j) := by
  obtain ⟨g', e1, e2⟩ := q_lay (n := n) hc (s := zT3 s g B b) (by rw [zT3_0 (by decide)]; exact h) c n i 0 g (fun _ => 0) (Nat.le_refl _) (by omega) hi (by omega) (fun j h1 h2 => absurd h2 (by omega))
  rw [zT3_17, zT3_17] at e1
  refine ⟨g', ?_, e2⟩
  unfold m_X8_laysOrder
  rw [zLt_e, zT3_0 (by decide), h]
  exact e1
theorem q_copy {n c : Nat} (hn : 100 ≤ n) (hc : c ≤ 5) {s : zS} {g B : Nat → Int32} {b : Int32} (rec32 : Int32 → Int32 → Int32 → zS → Option (Int32 × zS)) (v1 v2 v3 : Int32) {o : Nat → Nat} (h : s 0 11 = nI c) (ho : ∀ j, j < c → o j < 5 ∧ g j = nI (o j)) : m_X8_orders_j69 rec32 n n v1 v2 v3 0 (zT3 s g B b) = rec32 v1 v2 (v3 + 1) (zT3 s g (fun k => if k < c then nI (o k) else B k) b) := by
  obtain ⟨B', f1, hf1, hI, e1⟩ := for_up (fun f k (B' : Nat → Int32) => m_X8_orders_j69 rec32 n f v1 v2 v3 (nI k) (zT3 s g B' b)) (fun k B' => B' = fun j => if j < k then nI (o j) else B j) c (by
    rintro f k B' hk rfl
    refine ⟨_, rfl, ?_⟩
    show m_X8_orders_j69 rec32 n (f + 1) v1 v2 v3 (nI k) (zT3 s g _ b) = m_X8_orders_j69 rec32 n f v1 v2 v3 (nI (k + 1)) (zT3 s g _ b)
    rw [m_X8_orders_j69, zT3_0 (by decide), h, if_neg (nI_ge hk (by omega)), zRd_n (by omega) (by decide), zT3_g, (ho k hk).2, zWr_n (by omega) (by decide), zLt_e, nI_s, zU_St, zT3_18, zT3_B]
    congr 2
    funext j
    by_cases q : j = k
    · rw [q, upd_s, if_pos (by omega)]
    · rw [upd_n q]
      by_cases q2 : j < k
      · rw [if_pos q2, if_pos (by omega)]
      · rw [if_neg q2, if_neg (by omega)]) c n 0 B (by omega) (by omega) (by funext j; rw [if_neg (by omega)])
  obtain ⟨f1, rfl⟩ : ∃ g, f1 = g + 1 := ⟨f1 - 1, by omega⟩
  refine (show _ = _ from e1).trans ?_
  show m_X8_orders_j69 rec32 n (f1 + 1) v1 v2 v3 (nI c) (zT3 s g B' b) = _
  rw [m_X8_orders_j69, zT3_0 (by decide), h, if_pos (nI_le (Nat.le_refl _) (by omega)), hI, zLt_e]
theorem q_scan {n c A : Nat} (hn : 100 ≤ n) (hc : c ≤ 5) {s : zS} (t : Int32) (h : s 0 11 = nI c) (hA : A ≤ 4000) : ∀ d i f (g B : Nat → Int32) (b : Int32), i + d = A → d < f → ∃ g', m_X8_orders_j32 n f t (nI A) (nI i) (zT3 s g B b) = some (0, zT3 s g' ((List.range' i d).foldl (zOd (fun o => zCrS (s 9) (s 10) o t c) c) (b, B)).2 ((List.range' i d).foldl (zOd (fun o => zCrS (s 9) (s 10) o t c) c) (b, B)).1) := by
  intro d
  induction d with
  | zero =>
    intro i f g B b hd hf
    obtain ⟨f, rfl⟩ : ∃ g, f = g + 1 := ⟨f - 1, by omega⟩
    refine ⟨g, ?_⟩
    rw [m_X8_orders_j32, if_pos (nI_le (by omega) (by omega))]; rfl
  | succ d ih =>
    intro i f g B b hd hf
    obtain ⟨f, rfl⟩ : ∃ g, f = g + 1 := ⟨f - 1, by omega⟩
    obtain ⟨g1, l1, l2⟩ := q_laysOrder (n := n) (g := g) (B := B) (b := b) hn hc h (i := i) (by omega)
    rw [m_X8_orders_j32, if_neg (nI_ge (by omega) (by omega)), l1, zBd_e, List.range'_succ, List.foldl_cons]
    have od : zOd (fun o => zCrS (s 9) (s 10) o t c) c (b, B) i = if (layO c c i 0 (fun _ => 0)).1 = 2 ^ c - 1 then (if zCrS (s 9) (s 10) (layO c c i 0 (fun _ => 0)).2 t c ≤ b then (b, B) else (zCrS (s 9) (s 10) (layO c c i 0 (fun _ => 0)).2 t c, fun k => if k < c then nI ((layO c c i 0 (fun _ => 0)).2 k) else B k)) else (b, B) := rfl
    rw [od]
    by_cases hv : (layO c c i 0 (fun _ => 0)).1 = 2 ^ c - 1
    · rw [if_pos hv, if_neg (by decide), if_pos hv]
      have es := q_comes (s := zT3 s g1 B b) hn t hc (by rw [zT3_0 (by decide)]; exact h) (o := (layO c c i 0 (fun _ => 0)).2) (fun k hk => by rw [zT3_g]; exact l2 k hk)
      rw [zT3_n (c := 9) (by decide) (by decide) (by decide), zT3_n (c := 10) (by decide) (by decide) (by decide)] at es
      rw [es, zBd_e, zT3_b]
      by_cases q : zCrS (s 9) (s 10) (layO c c i 0 (fun _ => 0)).2 t c ≤ b
      · rw [if_pos q, if_pos q, zLt_e, nI_s]
        exact ih (i + 1) f g1 B b (by omega) (by omega)
      · rw [if_neg q, if_neg q, es, zBd_e, zLt_e, zT3_22, q_copy hn hc _ _ _ _ h l2, nI_s]
        exact ih (i + 1) f g1 _ _ (by omega) (by omega)
    · rw [if_neg hv, if_pos rfl, if_neg hv, zLt_e, nI_s]
      exact ih (i + 1) f g1 B b (by omega) (by omega)
theorem oL_take {l : List Nat} {c k : Nat} (h : k < c) : oL (l.take c) k = oL l k := by
  show (l.take c).getD k 0 = l.getD k 0
  rw [List.getD_eq_getElem?_getD, List.getD_eq_getElem?_getD, List.getElem?_take, if_pos h]
theorem ord_eq : ∀ c, c < 6 → ((List.range (c ^ c)).filter (fun i => decide ((layO c c i 0 (fun _ => 0)).1 = 2 ^ c - 1))).map (fun i => (oT (layO c c i 0 (fun _ => 0)).2).take c) = (prm c).map (fun l => l.take c) := by decide +kernel
theorem fold_same {S : (Nat → Nat) → Int32} {c : Nat} (hc : c < 6) (hS : ∀ o o' : Nat → Nat, (∀ k, k < c → o k = o' k) → S o = S o') (z : Int32 × (Nat → Int32)) : (List.range (c ^ c)).foldl (zOd S c) z = (prm c).foldl (fun b l => zBst S c b (oL l)) z := by
  have e1 : ∀ (l : List Nat) z, l.foldl (zOd S c) z = ((l.filter (fun i => decide ((layO c c i 0 (fun _ => 0)).1 = 2 ^ c - 1))).map (fun i => (oT (layO c c i 0 (fun _ => 0)).2).take c)).foldl (fun b l => zBst S c b (oL l)) z := by
    intro l
    induction l with
    | nil => intro z; rfl
    | cons i l ih =>
      intro z
      rw [List.foldl_cons, ih]
      by_cases hv : (layO c c i 0 (fun _ => 0)).1 = 2 ^ c - 1
      · rw [List.filter_cons_of_pos (p := fun i => decide ((layO c c i 0 (fun _ => 0)).1 = 2 ^ c - 1)) (decide_eq_true hv), List.map_cons, List.foldl_cons]
        have ha : ∀ k, k < c → (layO c c i 0 (fun _ => 0)).2 k = oL ((oT (layO c c i 0 (fun _ => 0)).2).take c) k := fun k hk => by rw [oL_take hk, oLT k (by omega)]
        unfold zOd
        rw [if_pos hv, zBst_c (hS _ _ ha) ha]
      · rw [List.filter_cons_of_neg (p := fun i => decide ((layO c c i 0 (fun _ => 0)).1 = 2 ^ c - 1)) (by rw [decide_eq_false hv]; decide)]
        unfold zOd
        rw [if_neg hv]
  have e2 : ∀ (l : List (List Nat)) z, l.foldl (fun b l => zBst S c b (oL l)) z = (l.map (fun l => l.take c)).foldl (fun b l => zBst S c b (oL l)) z := by
    intro l
    induction l with
    | nil => intro z; rfl
    | cons i l ih =>
      intro z
      have ha : ∀ k, k < c → oL i k = oL (i.take c) k := fun k hk => (oL_take hk).symm
      rw [List.foldl_cons, ih, List.map_cons, List.foldl_cons, zBst_c (hS _ _ ha) ha]
  rw [e1, e2 (prm c), ord_eq c hc]
theorem q_orders {n c : Nat} (hn : 3200 ≤ n) (hc : c ≤ 5) {s : zS} (t : Int32) (h : s 0 11 = nI c) : ∃ g, m_X8_orders n t s = some (0, zT3 s g (zFb (s 9) (s 10) (s 18) c t).2 (zFb (s 9) (s 10) (s 18) c t).1) := by
  have hA : c ^ c ≤ 4000 := by have := (by decide +kernel : ∀ c, c < 6 → c ^ c ≤ 3125) c (by omega); omega
  have hA2 : c ^ c < n := by have := (by decide +kernel : ∀ c, c < 6 → c ^ c ≤ 3125) c (by omega); omega
  obtain ⟨v, f1, hf1, hI, e1⟩ := for_up (fun f k (v : Int32) => m_X8_orders_j4 n f t v (nI k) s) (fun k v => v = nI (c ^ k)) c (by
    rintro f k v hk rfl
    refine ⟨_, rfl, ?_⟩
    show m_X8_orders_j4 n (f + 1) t (nI (c ^ k)) (nI k) s = m_X8_orders_j4 n f t (nI (c ^ (k + 1))) (nI (k + 1)) s
    rw [m_X8_orders_j4, h, if_neg (nI_ge hk (by omega)), pk_mul, zLt_e, zLt_e, nI_s, Nat.pow_succ]) c n 0 1 (by omega) (by omega) (by rw [Nat.pow_zero]; rfl)
  obtain ⟨f1, rfl⟩ : ∃ g, f1 = g + 1 := ⟨f1 - 1, by omega⟩
  obtain ⟨g', e2⟩ := q_scan (n := n) (A := c ^ c) (by omega) hc t h hA (c ^ c) 0 n (s 17) (s 18) (-1) (by omega) hA2
  refine ⟨g', ?_⟩
  unfold m_X8_orders
  refine (show _ = _ from e1).trans ?_
  show m_X8_orders_j4 n (f1 + 1) t v (nI c) s = _
  rw [m_X8_orders_j4, h, if_pos (nI_le (Nat.le_refl _) (by omega)), zLt_e, zT3_i, hI]
  refine (show _ = _ from e2).trans ?_
  rw [← List.range_eq_range', fold_same (by omega) (fun o o' ho => (zCr_c ho c (Nat.le_refl _)).2)]
  rfl
end POr
